/-! STATEMENTS: how far they go; what they begin with. -/
section XS2
variable {E : x_E} {x y z : x_X}
theorem E_p_mono (hE : E_ok E) {t t' : Nat} (h : t ≤ t') (ht : t' ≤ E_m E) : E_p E t ≤ E_p E t' := by
  induction t' with
  | zero => have e : t = 0 := by omega
            rw [e]; exact Nat.le_refl _
  | succ t' ih =>
    by_cases q : t = t' + 1
    · rw [q]; exact Nat.le_refl _
    · have := ih (by omega) (by omega)
      have := E_ps hE (t := t') (by omega)
      omega
/-- from x to x' over statements -/
def xs (E : x_E) (a : Nat) (d : Int) (e : Int32) (x x' : x_X) : Prop := x'.1 = false → x.1 = false ∧ (X_t x + a ≤ X_t x' ∧ X_t x' ≤ E_m E) ∧ ((X_z x' : Int) + 2 * (E_p E (X_t x) : Int) ≤ (X_z x : Int) + 2 * (E_p E (X_t x') : Int) + d) ∧ (9 * (X_l x').length + E_p E (X_t x) ≤ 9 * (X_l x).length + E_p E (X_t x')) ∧ (X_i x' 0 = X_i x 0 + e ∧ X_i x' 1 = X_i x 1) ∧ X_v x' = X_v x ∧ X_r x' = X_r x ∧ (X_2 x' = false → X_2 x = false) ∧ (X_3 x' = false → X_3 x = false) ∧ ∀ p, p ∈ X_l x' → p ∈ X_l x ∨ p.1 < E_L E
theorem xm_xs {a : Nat} {d : Int} {e : Int32} (hE : E_ok E) (m : xm E a d e x y) : xs E a d e x y := fun q => by
  obtain ⟨c1, ⟨c2, c3⟩, c4, c5, ⟨c6, c7, c8⟩, ⟨c9, c10⟩, c11, c12, -⟩ := m q
  have := E_p_mono hE (show X_t x ≤ X_t y by omega) c3
  exact ⟨c1, ⟨c2, c3⟩, c4, by rw [c5]; omega, ⟨c6, c7⟩, c9, c10, c11, c12, fun p hp => Or.inl (by rw [← c5]; exact hp)⟩
theorem xs_tr {a a' : Nat} {d d' : Int} {e e' : Int32} (h1 : xs E a d e x y) (h2 : xs E a' d' e' y z) : xs E (a + a') (d + d') (e + e') x z := fun hz => by
  obtain ⟨b1, ⟨b2, b3⟩, b4, b5, ⟨b6, b7⟩, b9, b10, b11, b12, b13⟩ := h2 hz
  obtain ⟨c1, ⟨c2, c3⟩, c4, c5, ⟨c6, c7⟩, c9, c10, c11, c12, c13⟩ := h1 b1
  exact ⟨c1, ⟨by omega, b3⟩, by omega, by omega, ⟨by rw [b6, c6, Int32.add_assoc], b7.trans c7⟩, b9.trans c9, b10.trans c10, fun q => c11 (b11 q), fun q => c12 (b12 q), fun p hp => (b13 p hp).elim (c13 p) Or.inr⟩
theorem xs_t0 {a a' : Nat} {d d' : Int} (h1 : xs E a d 0 x y) (h2 : xs E a' d' 0 y z) : xs E (a + a') (d + d') 0 x z := by
  have h := xs_tr h1 h2
  rw [Int32.add_zero] at h
  exact h
theorem xs_w {a a' : Nat} {d d' : Int} {e e' : Int32} (h : xs E a d e x y) (ha : a' ≤ a) (hd : d ≤ d') (he : e = e') : xs E a' d' e' x y := fun hz => by
  obtain ⟨b1, ⟨b2, b3⟩, b4, b5⟩ := h hz
  exact ⟨b1, ⟨by omega, b3⟩, by omega, by rw [← he]; exact b5⟩
theorem xs_bd {a : Nat} {d : Int} {e : Int32} (h : y.1 = true) : xs E a d e x y := fun q => absurd (h.symm.trans q) (by decide)
theorem xs_t {a : Nat} {d : Int} {e : Int32} (m : xs E a d e x y) : y.1 = false → X_t y ≤ E_m E := fun q => (m q).2.1.2
theorem xs_rf (h : x.1 = false → X_t x ≤ E_m E) : xs E 0 0 0 x x := fun q => ⟨q, ⟨Nat.le_refl _, h q⟩, by omega, Nat.le_refl _, ⟨(Int32.add_zero _).symm, rfl⟩, rfl, rfl, fun q => q, fun q => q, fun _ hp => Or.inl hp⟩
theorem xg_s {a : Nat} {c d c' : Int} (h : xg E c x) (m : xs E a d 0 x y) (hc : c + d ≤ c') : xg E c' y := fun q => by
  obtain ⟨b1, ⟨b2, b3⟩, b4, b5, ⟨b6, b7⟩, -⟩ := m q
  obtain ⟨c1, c2, c3⟩ := h b1
  refine ⟨b3, ?_, by omega⟩
  rw [b6, Int32.add_zero]; exact c2
/-- the hears: nine bytes each -/
def hl (E : x_E) (x : x_X) : Prop := x.1 = false → 9 * (X_l x).length ≤ E_p E (X_t x)
theorem hl_s {a : Nat} {d : Int} {e : Int32} (h : hl E x) (m : xs E a d e x y) : hl E y := fun q => by
  obtain ⟨b1, -, -, b5, -⟩ := m q
  have := h b1
  omega
theorem jt_s {j a : Nat} {d : Int} {e : Int32} (h : jt E (j + a) x) (m : xs E a d e x y) : jt E j y := fun q => by
  obtain ⟨c1, ⟨c2, -⟩, -⟩ := m q
  have := h c1
  omega
theorem ja_s {a : Int32} {b : Nat} {d : Int} {e : Int32} (hE : E_ok E) (h : ja a x) (m : xs E b d e x y) (hb : 1 ≤ b) : ja (a + 1) y := fun q => by
  have l1 : (1 : Int32).toInt = 1 := by decide
  obtain ⟨c1, ⟨c2, c3⟩, -⟩ := m q
  have h := h c1
  have := E_n4 hE
  rw [ti_addx _ _ (by rw [l1]; omega), l1]
  omega
/-- the class's blocks -/
def cb (N : Nat → Nat) : Nat → Int32 → x_CW
  | 0 => fun _ _ _ _ => False
  | n + 1 => fun d s O Q => wF_X7_block N (cff N 22) (cb N n) d s O Q
def jb (n : Nat) (p : Int32) (x : x_X) : Prop := 1 ≤ n ∧ (x.1 = false → 21 ≤ (X_i x 0).toInt + n ∧ p = X_i x 0)
theorem jb_i {n : Nat} {p : Int32} (h : jb n p x) (hi : y.1 = false → x.1 = false ∧ X_i y 0 = X_i x 0) : jb n p y := ⟨h.1, fun q => by
  obtain ⟨c1, c2⟩ := hi q
  rw [c2]; exact h.2 c1⟩
theorem xs_i0 {a : Nat} {d : Int} (m : xs E a d 0 x y) (h : y.1 = false) : x.1 = false ∧ X_i y 0 = X_i x 0 := by
  obtain ⟨c1, -, -, -, ⟨c6, -⟩, -⟩ := m h
  exact ⟨c1, by rw [c6, Int32.add_zero]⟩
theorem jb_m {n a : Nat} {p : Int32} {d : Int} (h : jb n p x) (m : xs E a d 0 x y) : jb n p y := jb_i h (xs_i0 m)
/-- an expression at a statement's depth -/
theorem jb_p {n a : Nat} {p : Int32} {d c : Int} (h : jb n p x) (hx : xg E c x) (m : xm E a d 0 x y) : jp 22 p y := ⟨by decide, fun q => by
  obtain ⟨c1, c2⟩ := xm_i0 m q
  have o := xg_oo hx c1
  rw [c2]; exact ⟨by omega, (h.2 c1).2⟩⟩
section
variable {k : x_B} {M : Nat → Int32} {F : Nat → Nat → Int32} {WF WB : x_RW} {Q Q' : (Nat → Int32) → (Nat → Nat → Int32) → Prop}
theorem st_79 (hE : E_ok E) (hb : x.1 = false) (hr : rxx E k M F x) (h1 : M 4 = 4 → st_W WF WB Q M F → st_W WF WB Q' M F) (h0 : ¬ M 4 = 4 → (w_fail M F (fun M7 F7 => (Q M7 F7))) → (w_fail M F (fun M7 F7 => (Q' M7 F7)))) (w : w_statement_79 WF WB Q M F) : w_statement_79 WF WB Q' M F := by
  unfold w_statement_79 at w ⊢
  refine re_b1 hr (fun q => absurd (q.symm.trans hb) (by decide)) (fun _ w => ⟨fun q => h1 q (w.1 q), fun q => h0 q (w.2 q)⟩) w
theorem st_18 (hE : E_ok E) (hb : x.1 = false) (hr : rxx E k M F x) (h1 : X_ty E x = 130 → (w_taken 1 M F (fun r38 M39 F39 => (w_need 61 M39 F39 (fun M40 F40 => (w_told r38 (M39 47) M40 F40 (fun r41 M42 F42 => (w_whole WF M42 F42 (fun M43 F43 => (w_need 59 M43 F43 (fun M44 F44 => (w_put 3 r41 0 0 M44 F44 (fun _ M46 F46 => (Q M46 F46))))))))))))) → (w_taken 1 M F (fun r38 M39 F39 => (w_need 61 M39 F39 (fun M40 F40 => (w_told r38 (M39 47) M40 F40 (fun r41 M42 F42 => (w_whole WF M42 F42 (fun M43 F43 => (w_need 59 M43 F43 (fun M44 F44 => (w_put 3 r41 0 0 M44 F44 (fun _ M46 F46 => (Q' M46 F46)))))))))))))) (h0 : ¬ X_ty E x = 130 → w_statement_79 WF WB Q M F → w_statement_79 WF WB Q' M F) (w : w_statement_18 WF WB Q M F) : w_statement_18 WF WB Q' M F := by
  have hmm := re_m4 hE hr hb
  unfold w_statement_18 at w ⊢
  refine re_b1 hr (fun q => absurd (q.symm.trans hb) (by decide)) (fun _ w => ⟨fun q => h0 (fun z => q (hmm.2.1.mp z)) (w.1 q), fun q => h1 (hmm.2.1.mpr q) (w.2 q)⟩) w
end
theorem X_te_i {w : Nat} : (X_te w x).1 = x.1 ∧ X_t (X_te w x) = X_t x ∧ X_z (X_te w x) = X_z x ∧ X_l (X_te w x) = X_l x ∧ X_i (X_te w x) 0 = X_i x 0 ∧ X_i (X_te w x) 1 = X_i x 1 ∧ X_v (X_te w x) = X_v x ∧ X_r (X_te w x) = X_r x ∧ (X_2 (X_te w x) = false → X_2 x = false) ∧ (X_3 (X_te w x) = false → X_3 x = false) := by
  unfold X_te
  split
  · exact ⟨rfl, rfl, rfl, rfl, rfl, rfl, rfl, rfl, fun q => absurd q (by show ¬ true = false; decide), fun q => q⟩
  · unfold X_t3
    split
    · exact ⟨rfl, rfl, rfl, rfl, rfl, rfl, rfl, rfl, fun q => q, fun q => q⟩
    · exact ⟨rfl, rfl, rfl, rfl, rfl, rfl, rfl, rfl, fun q => q, fun q => absurd q (by show ¬ true = false; decide)⟩
theorem X_te_ty {w : Nat} : X_ty E (X_te w x) = X_ty E x := by
  unfold X_ty
  rw [X_te_i.1, X_te_i.2.1]
theorem X_te_ad {w : Nat} : X_te w (X_ad x) = X_ad (X_te w x) := by
  unfold X_te
  by_cases q : X_u x w = X_i x 1
  · rw [if_pos q, if_pos (show X_u (X_ad x) w = X_i (X_ad x) 1 from q)]; rfl
  · rw [if_neg q, if_neg (show ¬ X_u (X_ad x) w = X_i (X_ad x) 1 from q)]
    unfold X_t3
    by_cases z : X_i x 2 + 1 ≤ 12
    · rw [if_pos (show X_i (X_si 2 (X_i (X_ad x) 2 + 1) (X_su w (X_ad x))) 2 ≤ 12 from z), if_pos (show X_i (X_si 2 (X_i x 2 + 1) (X_su w x)) 2 ≤ 12 from z)]; rfl
    · rw [if_neg (show ¬ X_i (X_si 2 (X_i (X_ad x) 2 + 1) (X_su w (X_ad x))) 2 ≤ 12 from z), if_neg (show ¬ X_i (X_si 2 (X_i x 2 + 1) (X_su w x)) 2 ≤ 12 from z)]; rfl
theorem xs_te {w : Nat} (h : x.1 = false → X_t x ≤ E_m E) : xs E 0 0 0 x (X_te w x) := fun q => by
  obtain ⟨e1, e2, e3, e4, e5, e6, e7, e8, e9, e10⟩ := X_te_i (x := x) (w := w)
  rw [e1] at q
  rw [e2, e3, e4, e5, e6, e7, e8]
  exact ⟨q, ⟨Nat.le_refl _, h q⟩, by omega, Nat.le_refl _, ⟨(Int32.add_zero _).symm, rfl⟩, rfl, rfl, e9, e10, fun _ hp => Or.inl hp⟩
theorem c_tell (hE : E_ok E) {K : List Nat} {w : Nat} {p2 p3 : Bool} {p v : Int32} {s : f_S3} {O : Nat × Nat} (ha : x.1 = false → p = nI (33 + w) ∧ w < E_L E ∧ X_ah w x p2 p3) (h : rc E (K, 1, p2, p3) s x) {Q : f_S3 → Nat × Nat → Prop} (hQ : ∀ s', rc E (K, 0, false, false) s' (X_te w x) → Q s' O) : wF_X7_tell (E_N E) p v s O Q := by
  cases hb : x.1 with
  | true => exact bd_tell hE.2.2.2.1 (h.1 hb) (fun s' h' => hQ s' (rc_bd h' (X_te_i.1.trans hb)))
  | false =>
    obtain ⟨e, wL, ah⟩ := ha hb
    rw [e]
    exact y_tell hE wL (hQ _ (rc_g (c_te hE wL ah (h.2 hb)) (X_te_i.1.trans hb)))
theorem X_ah_m {w : Nat} {p2 p3 : Bool} {a : Nat} {d : Int} {e : Int32} (hw : E_nw E w) (m : xm E a d e x y) (hy : y.1 = false) (h : X_ah w x p2 p3) : X_ah w y p2 p3 := by
  obtain ⟨c1, -, -, -, ⟨-, c7, c8⟩, -, c11, c12, c13⟩ := m hy
  refine ⟨?_, fun a b => ?_⟩
  · rw [c13 w hw, c7]; exact h.1
  · rw [c13 w hw, c7, c8]; exact h.2 (c11 a) (c12 b)
end XS2
