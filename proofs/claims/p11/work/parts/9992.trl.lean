/-! THE CLASS'S TRIAL: the session takes the text. -/
def b_5 (g : b_S) : b_S := (tb_T 5, g.2)
theorem b_5Z {x : ac_X} {g : b_S} {l : Launch} {C : String} {cc : ByteArray} {nL rk : Nat} {O0 : Nat × Nat} (Z : b_Cx x g l C cc nL rk O0) : b_Cx x (b_5 g) l C cc nL rk O0 := by
  obtain ⟨p, l', e, R, s, m, args, below, meth, cd, Q⟩ := x
  obtain ⟨t, D, ad, NN, cT, adK, adV, A, up⟩ := g
  obtain ⟨CC, K, hR⟩ := Z
  exact ⟨CC, ⟨okT 5, K.2⟩, hR⟩
