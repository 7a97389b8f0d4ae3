/-! THE CLASS'S CALLS, as the law sees them. -/
theorem Met.mono {l : Launch} {y : MethodName} {ws : List Cond} {rm : Room} {Pc Pc' : Array Value → State → Prop} {Qc Qc' : Array Value → State → Outcome → State → Prop} {mc ms : Nat} {free : Addr → Prop} (h : Met l y ws rm Pc Qc mc ms free) (h1 : ∀ a s, Pc' a s → Pc a s) (h2 : ∀ a st o t, Pc' a st → Qc a st o t → Qc' a st o t) : Met l y ws rm Pc' Qc' mc ms free := by
  intro p e ha hc hk s m args below hf ap hP tr
  obtain ⟨k, o, a1, a2, a3, hQ, b1⟩ := h p e ha hc hk s m args below hf ap (h1 _ _ hP) tr
  exact ⟨k, o, a1, a2, a3, h2 _ _ _ _ hP hQ, b1⟩
abbrev cl_S : Type := Nat × (Nat → Nat) × (Nat → Nat) × (Nat → Int32) × (Nat → Nat → Int32) × (Nat → Nat → Int64) × (Nat × Nat)
def cl_O (u : cl_S) : Nat × Nat := u.2.2.2.2.2.2
def cl_M (u : cl_S) : Nat → Int32 := u.2.2.2.1
def cl_N (u : cl_S) : Nat → Nat := u.2.2.1
def cl_w (cT : Nat → ClassId) (u : cl_S) : va_W := b_W (tb_T u.1) (b_ad u.2.1 (cl_O u)) (b_ln (cl_N u) (cl_O u)) cT (cl_M u) u.2.2.2.2.1 u.2.2.2.2.2.1
def cl_ok (h : Nat) (u : cl_S) : Prop := u.2.1 0 = h ∧ tN (cl_N u) ∧ tI (cl_N u) (cl_M u) (cl_O u)
def cl_f (u : cl_S) : Int32 := cl_M u 1
def cl_Pre (D : va_G) (cT : Nat → ClassId) (adK adV : Nat → Nat) (u : cl_S) (sz sm : Nat) (U : State) : Prop := (va_P D ac_cl (cl_w cT u) U.heap ∧ va_D (fun _ => True) (cl_w cT u)) ∧ va_K D ac_cl (b_tys cT) U ∧ st_K adK adV (va_A (cl_w cT u) sz) U U.heap ∧ k_T (va_A (cl_w cT u) sz) U U.heap ∧ nw_nest U ∧ U.heap.size = sz ∧ hsum U.heap = sm
def cl_g (D : va_G) (cT : Nat → ClassId) (adK adV : Nat → Nat) (u : cl_S) (sz : Nat) : b_S := (tb_T u.1, D, u.2.1, cl_N u, cT, adK, adV, va_A (cl_w cT u) sz, sz)
theorem cl_pre {D : va_G} {cT : Nat → ClassId} {adK adV : Nat → Nat} {u : cl_S} {sz sm h : Nat} {U : State} (ok : cl_ok h u) (hp : cl_Pre D cT adK adV u sz sm U) : b_Pre (cl_g D cT adK adV u sz) sz sm (cl_M u) (cl_O u) U := by
  obtain ⟨⟨hP, hD⟩, hK, hS, hT, hN, h1, h2⟩ := hp
  exact ⟨⟨⟨_, _, hP⟩, b_Dgo (hD.self (sz := sz)), Nat.le_refl _, ok.2.2.2.2.2.2.2.2⟩, ⟨okT _, hK, fun q h => Or.inr h, hS, hT, by rw [h1]; exact Nat.le_refl _⟩, h1, h2⟩
def cl_B (D : va_G) (cT : Nat → ClassId) (u : cl_S) (sz sm kc ks : Nat) (u' : cl_S) (t : State) : Prop := (va_P D ac_cl (cl_w cT u') t.heap ∧ va_D (va_A (cl_w cT u) sz) (cl_w cT u')) ∧ (cl_O u).2 ≤ (cl_O u').2 ∧ t.heap.size ≤ sz + kc + b_cc (cl_O u) (cl_O u') ∧ hsum t.heap ≤ sm + ks + b_cs (cl_O u) (cl_O u')
/-- a call of the class: its cells before and behind it; Post: of the answer and of how many bytes are fed -/
def cl_Met (l : Launch) (D : va_G) (cT : Nat → ClassId) (adK adV : Nat → Nat) (y : MethodName) (cc : ByteArray) (nL : Nat) (ret : FieldType) (rk mc ms kc ks : Nat) (h : Nat) (As : List Value) (u : cl_S) (Post : Int32 → Int32 → Prop) : Prop := ∀ sz sm : Nat, Met l y (.code y cc nL (some ret) :: ac_tbl) (nw_room rk mc ms) (va_Pc (.ref h :: As) (cl_Pre D cT adK adV u sz sm)) (va_Qi (fun r u' => cl_ok h u' ∧ Post r (cl_f u')) (cl_B D cT u sz sm kc ks) (va_A (cl_w cT u) sz)) mc ms (va_A (cl_w cT u) sz)
theorem cl_of {l : Launch} {D : va_G} {cT : Nat → ClassId} {adK adV : Nat → Nat} {y : MethodName} {cc : ByteArray} {nL : Nat} {ret : FieldType} {rk h : Nat} {As : List Value} {u : cl_S} {Post : Int32 → Int32 → Prop} (ok : cl_ok h u) (hM : ∀ sz, b_MetI l (cl_g D cT adK adV u sz) y cc nL ret rk (.ref h :: As) (cl_M u) (cl_O u) (fun r M' O' => tI (cl_N u) M' O' ∧ Post r (M' 1))) : cl_Met l D cT adK adV y cc nL ret rk (b_mc (cl_O u)) (b_ms (cl_O u)) 0 0 h As u Post := by
  intro sz sm
  refine Met.mono (hM sz sz sm) (fun a s hp => ⟨hp.1, cl_pre ok hp.2⟩) (fun a st o t _ hq => ?_)
  obtain ⟨⟨r, ⟨M', O'⟩, e1, hv, hB⟩, hF⟩ := hq
  obtain ⟨⟨⟨F', J', hP⟩, hD, hO, hO7⟩, z1, z2⟩ := hB
  exact ⟨⟨r, (u.1, u.2.1, cl_N u, M', F', J', O'), e1, ⟨⟨ok.1, ok.2.1, hv.1⟩, hv.2⟩, ⟨hP, b_Dgo hD⟩, hO, z1, z2⟩, hF⟩
theorem p_putBytes {N : Nat → Nat} (hN : N 10 = 4000) {v : Int32} {M : Nat → Int32} {O : Nat × Nat} {Q : (Nat → Int32) → Nat × Nat → Prop} (h : 0 ≤ (M 1).toInt ∧ (M 1).toInt ≤ 3996) (hQ : ∀ M' : Nat → Int32, (∀ k, k ≠ 1 → M' k = M k) → (M' 1).toInt = (M 1).toInt + 4 → Q M' O) : wT_X11_putBytes N v M O Q := by
  have l1 : (1 : Int32).toInt = 1 := by decide
  have l4 : (nI 4000).toInt = 4000 := by decide
  have e1 := ti_addx (M 1) 1 (by omega)
  have e2 := ti_addx (M 1 + 1) 1 (by omega)
  have e3 := ti_addx (M 1 + 1 + 1) 1 (by omega)
  have e4 := ti_addx (M 1 + 1 + 1 + 1) 1 (by omega)
  have hx : ∀ z : Int32, z.toInt < 4000 → ¬ nI (N 10) ≤ z := fun z hz q => by
    rw [hN] at q
    have := Int32.le_iff_toInt_le.mp q
    omega
  have hv : ∀ z : Int32, 0 ≤ z.toInt ∧ z.toInt < 4000 → vp_in z (N 10) := fun z hz => vp_in_iff.mpr (by rw [hN]; exact hz)
  refine ⟨5, ⟨fun q => absurd q (by decide), fun _ => ⟨fun q => absurd q (hx _ (by omega)), fun _ _ _ => ⟨hv _ (by omega), ⟨fun q => absurd q (by decide), fun _ => ⟨fun q => absurd q (hx (M 1 + 1) (by omega)), fun _ _ _ => ⟨hv (M 1 + 1) (by omega), ⟨fun q => absurd q (by decide), fun _ => ⟨fun q => absurd q (hx (M 1 + 1 + 1) (by omega)), fun _ _ _ => ⟨hv (M 1 + 1 + 1) (by omega), ⟨fun q => absurd q (by decide), fun _ => ⟨fun q => absurd q (hx (M 1 + 1 + 1 + 1) (by omega)), fun _ _ _ => ⟨hv (M 1 + 1 + 1 + 1) (by omega), ⟨fun _ => hQ _ (fun k hk => ?_) ?_, fun q => absurd (by decide) q⟩⟩⟩⟩⟩⟩⟩⟩⟩⟩⟩⟩⟩⟩
  · rw [e_um_ne hk, e_um_ne hk, e_um_ne hk, e_um_ne hk]
  · show (M 1 + 1 + 1 + 1 + 1).toInt = _
    omega
/-- what feed answers, by how many bytes are there -/
def cl_fd (f r f' : Int32) : Prop := (f.toInt ≤ 3980 ∧ f'.toInt = f.toInt + 20 ∧ r = f') ∨ (3980 < f.toInt ∧ f' = f ∧ r = -1)
theorem tI_1 {N : Nat → Nat} {M M' : Nat → Int32} {O : Nat × Nat} (h : ∀ k, k ≠ 1 → M' k = M k) (h1 : 0 ≤ (M' 1).toInt ∧ (M' 1).toInt ≤ 4000) (hI : tI N M O) : tI N M' O := by
  obtain ⟨-, a⟩ := hI
  unfold tI
  rw [h 22 (by decide), h 31 (by decide), h 52 (by decide), h 63 (by decide)]
  exact ⟨h1, a⟩
theorem spT_X11_feed {N : Nat → Nat} (hN : tN N) (a b c d e : Int32) {M : Nat → Int32} {O : Nat × Nat} {Q : Int32 → (Nat → Int32) → Nat × Nat → Prop} (hI : tI N M O) (hQ : ∀ (r : Int32) (M' : Nat → Int32), tI N M' O → cl_fd (M 1) r (M' 1) → Q r M' O) : wT_X11_feed N a b c d e M O Q := by
  have l2 : (20 : Int32).toInt = 20 := by decide
  have l4 : (4000 : Int32).toInt = 4000 := by decide
  have v1 := hI.1
  have n1 := hN.1
  have e0 := ti_addx (M 1) 20 (by omega)
  refine ⟨fun q => ?_, fun q => hQ _ M hI (Or.inr ⟨?_, rfl, rfl⟩)⟩
  · have q' := Int32.le_iff_toInt_le.mp q
    refine p_putBytes n1 (by omega) (fun M1 c1 h1 => p_putBytes n1 (by omega) (fun M2 c2 h2 => p_putBytes n1 (by omega) (fun M3 c3 h3 => p_putBytes n1 (by omega) (fun M4 c4 h4 => p_putBytes n1 (by omega) (fun M5 c5 h5 => ?_)))))
    exact hQ _ M5 (tI_1 (fun k hk => by rw [c5 k hk, c4 k hk, c3 k hk, c2 k hk, c1 k hk]) (by omega) hI) (Or.inl ⟨by omega, by omega, rfl⟩)
  · have := ti_nle q
    omega
section CLM
variable {l : Launch} {D : va_G} {cT : Nat → ClassId} {adK adV : Nat → Nat} {h : Nat} {u : cl_S}
theorem cl_feed (ok : cl_ok h u) (a b c d e : Int32) : cl_Met l D cT adK adV yX11_feed cX11_feed 6 .int 1 (b_mc (cl_O u)) (b_ms (cl_O u)) 0 0 h [.int a, .int b, .int c, .int d, .int e] u (cl_fd (cl_f u)) := by
  refine cl_of ok (fun sz => ?_)
  have := ok.1
  subst this
  exact soT_X11_feed (g := cl_g D cT adK adV u sz) rfl a b c d e _ _ _ (spT_X11_feed ok.2.1 a b c d e ok.2.2 (fun r M' i p => ⟨i, p⟩))
theorem cl_fault (ok : cl_ok h u) (a : Int32) : cl_Met l D cT adK adV yX11_fault cX11_fault 2 .int 0 (b_mc (cl_O u)) (b_ms (cl_O u)) 0 0 h [.int a] u (fun _ f => f = cl_f u) := by
  refine cl_of ok (fun sz => ?_)
  have := ok.1
  subst this
  exact soT_X11_fault (g := cl_g D cT adK adV u sz) rfl a _ _ _ (spT_X11_fault ok.2.1 a ok.2.2 (fun r => ⟨ok.2.2, rfl⟩))
theorem cl_policy (ok : cl_ok h u) (a b c d : Int32) : cl_Met l D cT adK adV yX11_policy cX11_policy 5 .boolean 2 (b_mc (cl_O u)) (b_ms (cl_O u)) 0 0 h [.int a, .int b, .int c, .int d] u (fun _ f => f = cl_f u) := by
  refine cl_of ok (fun sz => ?_)
  have := ok.1
  subst this
  exact soT_X11_policy (g := cl_g D cT adK adV u sz) rfl a b c d _ _ _ (spT_X11_policy ok.2.1 a b c d ok.2.2 (fun r => ⟨ok.2.2, rfl⟩))
theorem cl_complain (ok : cl_ok h u) (a b c : Int32) : cl_Met l D cT adK adV yX11_complain cX11_complain 4 .int 10 (b_mc (cl_O u)) (b_ms (cl_O u)) 0 0 h [.int a, .int b, .int c] u (fun _ f => f = cl_f u) := by
  refine cl_of ok (fun sz => ?_)
  have := ok.1
  subst this
  exact soT_X11_complain (g := cl_g D cT adK adV u sz) rfl a b c _ _ _ (spT_X11_complain ok.2.1 a b c ok.2.2 (fun r M' O' i k => ⟨i, k⟩))
theorem cl_about (ok : cl_ok h u) (a : Int32) : cl_Met l D cT adK adV yX11_about cX11_about 2 .int 1 (b_mc (cl_O u)) (b_ms (cl_O u)) 0 0 h [.int a] u (fun _ f => f = cl_f u) := by
  refine cl_of ok (fun sz => ?_)
  have := ok.1
  subst this
  exact soT_X11_about (g := cl_g D cT adK adV u sz) rfl a _ _ _ (spT_X11_about ok.2.1 a ok.2.2 (fun r => ⟨ok.2.2, rfl⟩))
theorem cl_note (ok : cl_ok h u) (a : Int32) : cl_Met l D cT adK adV yX11_note cX11_note 2 .int 1 (b_mc (cl_O u)) (b_ms (cl_O u)) 0 0 h [.int a] u (fun _ f => f = cl_f u) := by
  refine cl_of ok (fun sz => ?_)
  have := ok.1
  subst this
  exact soT_X11_note (g := cl_g D cT adK adV u sz) rfl a _ _ _ (spT_X11_note ok.2.1 a ok.2.2 (fun r => ⟨ok.2.2, rfl⟩))
theorem cl_chain (ok : cl_ok h u) (a b : Int32) : cl_Met l D cT adK adV yX11_chain cX11_chain 3 .int 4 (b_mc (cl_O u)) (b_ms (cl_O u)) 0 0 h [.int a, .int b] u (fun _ f => f = cl_f u) := by
  refine cl_of ok (fun sz => ?_)
  have := ok.1
  subst this
  exact soT_X11_chain (g := cl_g D cT adK adV u sz) rfl a b _ _ _ (spT_X11_chain ok.2.1 a b ok.2.2 (fun r => ⟨ok.2.2, rfl⟩))
theorem cl_complaint (ok : cl_ok h u) (a b c : Int32) : cl_Met l D cT adK adV yX11_complaint cX11_complaint 4 .int 4 (b_mc (cl_O u)) (b_ms (cl_O u)) 0 0 h [.int a, .int b, .int c] u (fun _ f => f = cl_f u) := by
  refine cl_of ok (fun sz => ?_)
  have := ok.1
  subst this
  exact soT_X11_complaint (g := cl_g D cT adK adV u sz) rfl a b c _ _ _ (spT_X11_complaint ok.2.1 a b c ok.2.2 (fun r => ⟨ok.2.2, rfl⟩))
end CLM
