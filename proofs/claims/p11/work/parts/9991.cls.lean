/-! THE CLASS'S CALLS, as the law sees them. -/
theorem Met.mono {l : Launch} {y : MethodName} {ws : List Cond} {rm : Room} {Pc Pc' : Array Value → State → Prop} {Qc Qc' : Array Value → State → Outcome → State → Prop} {mc ms : Nat} {free : Addr → Prop} (h : Met l y ws rm Pc Qc mc ms free) (h1 : ∀ a s, Pc' a s → Pc a s) (h2 : ∀ a st o t, Pc' a st → Qc a st o t → Qc' a st o t) : Met l y ws rm Pc' Qc' mc ms free := by
  intro p e ha hc hk s m args below hf ap hP tr
  obtain ⟨k, o, a1, a2, a3, hQ, b1⟩ := h p e ha hc hk s m args below hf ap (h1 _ _ hP) tr
  exact ⟨k, o, a1, a2, a3, h2 _ _ _ _ hP hQ, b1⟩
abbrev cl_S : Type := Nat × (Nat → Nat) × (Nat → Nat) × (Nat → Int32) × (Nat → Nat → Int32) × (Nat → Nat → Int64) × (Nat × Nat)
def cl_O (u : cl_S) : Nat × Nat := u.2.2.2.2.2.2
def cl_M (u : cl_S) : Nat → Int32 := u.2.2.2.1
def cl_N (u : cl_S) : Nat → Nat := u.2.2.1
def cl_w (cT : Nat → ClassId) (u : cl_S) : va_W := b_W (tb_T u.1) (b_ad u.2.1 (cl_O u)) (b_ln (cl_N u) (cl_O u)) cT (cl_M u) u.2.2.2.2.1 u.2.2.2.2.2.1
def cl_f (u : cl_S) : Int32 := cl_M u 1
def cl_Pre (D : va_G) (cT : Nat → ClassId) (adK adV : Nat → Nat) (u : cl_S) (sz sm : Nat) (U : State) : Prop := (va_P D ac_cl (cl_w cT u) U.heap ∧ va_D (fun _ => True) (cl_w cT u)) ∧ va_K D ac_cl (b_tys cT) U ∧ st_K adK adV (va_A (cl_w cT u) sz) U U.heap ∧ k_T (va_A (cl_w cT u) sz) U U.heap ∧ nw_nest U ∧ U.heap.size = sz ∧ hsum U.heap = sm
def cl_g (D : va_G) (cT : Nat → ClassId) (adK adV : Nat → Nat) (u : cl_S) (sz : Nat) : b_S := (tb_T u.1, D, u.2.1, cl_N u, cT, adK, adV, va_A (cl_w cT u) sz, sz)
def cl_B (D : va_G) (cT : Nat → ClassId) (u : cl_S) (sz sm kc ks : Nat) (u' : cl_S) (t : State) : Prop := (va_P D ac_cl (cl_w cT u') t.heap ∧ va_D (va_A (cl_w cT u) sz) (cl_w cT u')) ∧ (cl_O u).2 ≤ (cl_O u').2 ∧ t.heap.size ≤ sz + kc + b_cc (cl_O u) (cl_O u') ∧ hsum t.heap ≤ sm + ks + b_cs (cl_O u) (cl_O u')
theorem tI_1 {N : Nat → Nat} {M M' : Nat → Int32} {O : Nat × Nat} (h : ∀ k, k ≠ 1 → M' k = M k) (h1 : 0 ≤ (M' 1).toInt ∧ (M' 1).toInt ≤ 4000) (hI : tI N M O) : tI N M' O := by
  obtain ⟨-, a⟩ := hI
  unfold tI
  rw [h 22 (by decide), h 31 (by decide), h 52 (by decide), h 63 (by decide)]
  exact ⟨h1, a⟩
section CLM
variable {l : Launch} {D : va_G} {cT : Nat → ClassId} {adK adV : Nat → Nat} {h : Nat} {u : cl_S}
end CLM
