/-! THE CLASS'S CALLS THAT LEAVE THE FED BYTES ALONE. -/
section CLU
/-- the class's cells but the bytes that are fed -/
def cl_wU (cT : Nat → ClassId) (u : cl_S) : va_W := b_W (tb_U u.1) (b_ad u.2.1 (cl_O u)) (b_ln (cl_N u) (cl_O u)) cT (cl_M u) u.2.2.2.2.1 u.2.2.2.2.2.1
def cl_PreU (D : va_G) (cT : Nat → ClassId) (adK adV : Nat → Nat) (u : cl_S) (sz sm : Nat) (U : State) : Prop := (va_P D ac_cl (cl_wU cT u) U.heap ∧ va_D (fun _ => True) (cl_wU cT u)) ∧ va_K D ac_cl (b_tys cT) U ∧ st_K adK adV (va_A (cl_wU cT u) sz) U U.heap ∧ k_T (va_A (cl_wU cT u) sz) U U.heap ∧ nw_nest U ∧ U.heap.size = sz ∧ hsum U.heap = sm
def cl_gU (D : va_G) (cT : Nat → ClassId) (adK adV : Nat → Nat) (u : cl_S) (sz : Nat) : b_S := (tb_U u.1, D, u.2.1, cl_N u, cT, adK, adV, va_A (cl_wU cT u) sz, sz)
theorem cl_preU {D : va_G} {cT : Nat → ClassId} {adK adV : Nat → Nat} {u : cl_S} {sz sm h : Nat} {U : State} (ok : cl_ok h u) (hp : cl_PreU D cT adK adV u sz sm U) : b_Pre (cl_gU D cT adK adV u sz) sz sm (cl_M u) (cl_O u) U := by
  obtain ⟨⟨hP, hD⟩, hK, hS, hT, hN, h1, h2⟩ := hp
  exact ⟨⟨⟨_, _, hP⟩, b_Dgo (hD.self (sz := sz)), Nat.le_refl _, ok.2.2.2.2.2.2.2.2⟩, ⟨okU _, hK, fun q h => Or.inr h, hS, hT, by rw [h1]; exact Nat.le_refl _⟩, h1, h2⟩
def cl_BU (D : va_G) (cT : Nat → ClassId) (u : cl_S) (sz sm kc ks : Nat) (u' : cl_S) (t : State) : Prop := (va_P D ac_cl (cl_wU cT u') t.heap ∧ va_D (va_A (cl_wU cT u) sz) (cl_wU cT u')) ∧ (cl_O u).2 ≤ (cl_O u').2 ∧ t.heap.size ≤ sz + kc + b_cc (cl_O u) (cl_O u') ∧ hsum t.heap ≤ sm + ks + b_cs (cl_O u) (cl_O u')
/-- a call of the class: its cells before and behind it; Post: of the answer and of how many bytes are fed -/
def cl_MetU (l : Launch) (D : va_G) (cT : Nat → ClassId) (adK adV : Nat → Nat) (y : MethodName) (cc : ByteArray) (nL : Nat) (ret : FieldType) (rk mc ms kc ks : Nat) (h : Nat) (As : List Value) (u : cl_S) (Post : Int32 → cl_S → Prop) : Prop := ∀ sz sm : Nat, Met l y (.code y cc nL (some ret) :: ac_tbl) (nw_room rk mc ms) (va_Pc (.ref h :: As) (cl_PreU D cT adK adV u sz sm)) (va_Qi (fun r u' => cl_ok h u' ∧ Post r u') (cl_BU D cT u sz sm kc ks) (va_A (cl_wU cT u) sz)) mc ms (va_A (cl_wU cT u) sz)
theorem cl_ofU {l : Launch} {D : va_G} {cT : Nat → ClassId} {adK adV : Nat → Nat} {y : MethodName} {cc : ByteArray} {nL : Nat} {ret : FieldType} {rk h : Nat} {As : List Value} {u : cl_S} (ok : cl_ok h u) (hM : ∀ sz, b_MetI l (cl_gU D cT adK adV u sz) y cc nL ret rk (.ref h :: As) (cl_M u) (cl_O u) (fun _ M' O' => tI (cl_N u) M' O' ∧ M' 1 = cl_f u)) : cl_MetU l D cT adK adV y cc nL ret rk (b_mc (cl_O u)) (b_ms (cl_O u)) 0 0 h As u (fun _ u' => cl_f u' = cl_f u ∧ u'.2.1 = u.2.1 ∧ cl_N u' = cl_N u) := by
  intro sz sm
  refine Met.mono (hM sz sz sm) (fun a s hp => ⟨hp.1, cl_preU ok hp.2⟩) (fun a st o t _ hq => ?_)
  obtain ⟨⟨r, ⟨M', O'⟩, e1, hv, hB⟩, hF⟩ := hq
  obtain ⟨⟨⟨F', J', hP⟩, hD, hO, hO7⟩, z1, z2⟩ := hB
  exact ⟨⟨r, (u.1, u.2.1, cl_N u, M', F', J', O'), e1, ⟨⟨ok.1, ok.2.1, hv.1⟩, hv.2, rfl, rfl⟩, ⟨hP, b_Dgo hD⟩, hO, z1, z2⟩, hF⟩
end CLU
section CLMU
variable {l : Launch} {D : va_G} {cT : Nat → ClassId} {adK adV : Nat → Nat} {h : Nat} {u : cl_S}
theorem cl_faultU (ok : cl_ok h u) (a : Int32) : cl_MetU l D cT adK adV yX11_fault cX11_fault 2 .int 0 (b_mc (cl_O u)) (b_ms (cl_O u)) 0 0 h [.int a] u (fun _ u' => cl_f u' = cl_f u ∧ u'.2.1 = u.2.1 ∧ cl_N u' = cl_N u) := by
  refine cl_ofU ok (fun sz => ?_)
  have := ok.1
  subst this
  exact soU_X11_fault (g := cl_gU D cT adK adV u sz) rfl a _ _ _ (spT_X11_fault ok.2.1 a ok.2.2 (fun r => ⟨ok.2.2, rfl⟩))
theorem cl_policyU (ok : cl_ok h u) (a b c d : Int32) : cl_MetU l D cT adK adV yX11_policy cX11_policy 5 .boolean 2 (b_mc (cl_O u)) (b_ms (cl_O u)) 0 0 h [.int a, .int b, .int c, .int d] u (fun _ u' => cl_f u' = cl_f u ∧ u'.2.1 = u.2.1 ∧ cl_N u' = cl_N u) := by
  refine cl_ofU ok (fun sz => ?_)
  have := ok.1
  subst this
  exact soU_X11_policy (g := cl_gU D cT adK adV u sz) rfl a b c d _ _ _ (spT_X11_policy ok.2.1 a b c d ok.2.2 (fun r => ⟨ok.2.2, rfl⟩))
theorem cl_complainU (ok : cl_ok h u) (a b c : Int32) : cl_MetU l D cT adK adV yX11_complain cX11_complain 4 .int 10 (b_mc (cl_O u)) (b_ms (cl_O u)) 0 0 h [.int a, .int b, .int c] u (fun _ u' => cl_f u' = cl_f u ∧ u'.2.1 = u.2.1 ∧ cl_N u' = cl_N u) := by
  refine cl_ofU ok (fun sz => ?_)
  have := ok.1
  subst this
  exact soU_X11_complain (g := cl_gU D cT adK adV u sz) rfl a b c _ _ _ (spT_X11_complain ok.2.1 a b c ok.2.2 (fun r M' O' i k => ⟨i, k⟩))
theorem cl_aboutU (ok : cl_ok h u) (a : Int32) : cl_MetU l D cT adK adV yX11_about cX11_about 2 .int 1 (b_mc (cl_O u)) (b_ms (cl_O u)) 0 0 h [.int a] u (fun _ u' => cl_f u' = cl_f u ∧ u'.2.1 = u.2.1 ∧ cl_N u' = cl_N u) := by
  refine cl_ofU ok (fun sz => ?_)
  have := ok.1
  subst this
  exact soU_X11_about (g := cl_gU D cT adK adV u sz) rfl a _ _ _ (spT_X11_about ok.2.1 a ok.2.2 (fun r => ⟨ok.2.2, rfl⟩))
theorem cl_noteU (ok : cl_ok h u) (a : Int32) : cl_MetU l D cT adK adV yX11_note cX11_note 2 .int 1 (b_mc (cl_O u)) (b_ms (cl_O u)) 0 0 h [.int a] u (fun _ u' => cl_f u' = cl_f u ∧ u'.2.1 = u.2.1 ∧ cl_N u' = cl_N u) := by
  refine cl_ofU ok (fun sz => ?_)
  have := ok.1
  subst this
  exact soU_X11_note (g := cl_gU D cT adK adV u sz) rfl a _ _ _ (spT_X11_note ok.2.1 a ok.2.2 (fun r => ⟨ok.2.2, rfl⟩))
theorem cl_chainU (ok : cl_ok h u) (a b : Int32) : cl_MetU l D cT adK adV yX11_chain cX11_chain 3 .int 4 (b_mc (cl_O u)) (b_ms (cl_O u)) 0 0 h [.int a, .int b] u (fun _ u' => cl_f u' = cl_f u ∧ u'.2.1 = u.2.1 ∧ cl_N u' = cl_N u) := by
  refine cl_ofU ok (fun sz => ?_)
  have := ok.1
  subst this
  exact soU_X11_chain (g := cl_gU D cT adK adV u sz) rfl a b _ _ _ (spT_X11_chain ok.2.1 a b ok.2.2 (fun r => ⟨ok.2.2, rfl⟩))
theorem cl_complaintU (ok : cl_ok h u) (a b c : Int32) : cl_MetU l D cT adK adV yX11_complaint cX11_complaint 4 .int 4 (b_mc (cl_O u)) (b_ms (cl_O u)) 0 0 h [.int a, .int b, .int c] u (fun _ u' => cl_f u' = cl_f u ∧ u'.2.1 = u.2.1 ∧ cl_N u' = cl_N u) := by
  refine cl_ofU ok (fun sz => ?_)
  have := ok.1
  subst this
  exact soU_X11_complaint (g := cl_gU D cT adK adV u sz) rfl a b c _ _ _ (spT_X11_complaint ok.2.1 a b c ok.2.2 (fun r => ⟨ok.2.2, rfl⟩))
end CLMU
