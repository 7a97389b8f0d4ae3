/-! BOTH PARSERS TOGETHER: how far a run goes; small steps. -/
section XJ1
variable {E : x_E} {x y z : x_X}
abbrev x_CW : Type := f_S3 → Nat × Nat → (f_S3 → Nat × Nat → Prop) → Prop
abbrev x_RW : Type := (Nat → Int32) → (Nat → Nat → Int32) → ((Nat → Int32) → (Nat → Nat → Int32) → Prop) → Prop
/-- a word that is a NAME's -/
def E_nw (E : x_E) (w : Nat) : Prop := ∃ t, t < E_m E ∧ E_A E t = 130 ∧ E_w E t = w
/-- no OBJECT's word is a NAME's -/
def E_no (E : x_E) : Prop := ∀ t, t < E_m E → E_A E t = 131 → ¬ E_nw E (E_w E t)
/-- from x to x' within an expression: tokens at least; the Program's growth against twice the bytes; what opened -/
def xm (E : x_E) (a : Nat) (d : Int) (e : Int32) (x x' : x_X) : Prop := x'.1 = false → x.1 = false ∧ (X_t x + a ≤ X_t x' ∧ X_t x' ≤ E_m E) ∧ ((X_z x' : Int) + 2 * (E_p E (X_t x) : Int) ≤ (X_z x : Int) + 2 * (E_p E (X_t x') : Int) + d) ∧ X_l x' = X_l x ∧ (X_i x' 0 = X_i x 0 + e ∧ X_i x' 1 = X_i x 1 ∧ X_i x' 2 = X_i x 2) ∧ (X_v x' = X_v x ∧ X_r x' = X_r x) ∧ (X_2 x' = false → X_2 x = false) ∧ (X_3 x' = false → X_3 x = false) ∧ ∀ w, E_nw E w → X_u x' w = X_u x w
theorem xm_tr {a a' : Nat} {d d' : Int} {e e' : Int32} (h1 : xm E a d e x y) (h2 : xm E a' d' e' y z) : xm E (a + a') (d + d') (e + e') x z := fun hz => by
  obtain ⟨b1, ⟨b2, b3⟩, b4, b5, ⟨b6, b7, b8⟩, ⟨b9, b10⟩, b11, b12, b13⟩ := h2 hz
  obtain ⟨c1, ⟨c2, c3⟩, c4, c5, ⟨c6, c7, c8⟩, ⟨c9, c10⟩, c11, c12, c13⟩ := h1 b1
  exact ⟨c1, ⟨by omega, b3⟩, by omega, b5.trans c5, ⟨by rw [b6, c6, Int32.add_assoc], b7.trans c7, b8.trans c8⟩, ⟨b9.trans c9, b10.trans c10⟩, fun q => c11 (b11 q), fun q => c12 (b12 q), fun w hw => (b13 w hw).trans (c13 w hw)⟩
theorem xm_t0 {a a' : Nat} {d d' : Int} (h1 : xm E a d 0 x y) (h2 : xm E a' d' 0 y z) : xm E (a + a') (d + d') 0 x z := by
  have h := xm_tr h1 h2
  rw [Int32.add_zero] at h
  exact h
theorem xm_w {a a' : Nat} {d d' : Int} {e e' : Int32} (h : xm E a d e x y) (ha : a' ≤ a) (hd : d ≤ d') (he : e = e') : xm E a' d' e' x y := fun hz => by
  obtain ⟨b1, ⟨b2, b3⟩, b4, b5⟩ := h hz
  exact ⟨b1, ⟨by omega, b3⟩, by omega, by rw [← he]; exact b5⟩
/-- good so far: the token, what is open, the Program's size -/
def xg (E : x_E) (c : Int) (x : x_X) : Prop := x.1 = false → X_t x ≤ E_m E ∧ (0 ≤ (X_i x 0).toInt ∧ (X_i x 0).toInt ≤ 20) ∧ (X_z x : Int) ≤ 2 * (E_p E (X_t x) : Int) + c
theorem xg_t {c : Int} (h : xg E c x) : x.1 = false → X_t x ≤ E_m E := fun q => (h q).1
theorem xg_oo {c : Int} (h : xg E c x) : X_oo x := fun q => (h q).2.1
theorem xg_lo {c : Int} {n : Nat} (h : xg E c x) (hc : c ≤ (n : Int)) : X_lo E n x := fun q => by
  have := (h q).2.2
  show X_z x ≤ 2 * E_p E (X_t x) + n
  omega
theorem xg_m {a : Nat} {c d c' : Int} (h : xg E c x) (m : xm E a d 0 x y) (hc : c + d ≤ c') : xg E c' y := fun q => by
  obtain ⟨b1, ⟨b2, b3⟩, b4, b5, ⟨b6, b7, b8⟩, -⟩ := m q
  obtain ⟨c1, c2, c3⟩ := h b1
  refine ⟨b3, ?_, by omega⟩
  rw [b6, Int32.add_zero]; exact c2
theorem xg_o {a : Nat} {c d c' : Int} (h : xg E c x) (m : xm E a d 1 x y) (hn : y.1 = false → ¬ X_i x 0 = 20) (hc : c + d ≤ c') : xg E c' y := fun q => by
  have l1 : (1 : Int32).toInt = 1 := by decide
  have l20 : (20 : Int32).toInt = 20 := by decide
  obtain ⟨b1, ⟨b2, b3⟩, b4, b5, ⟨b6, b7, b8⟩, -⟩ := m q
  obtain ⟨c1, c2, c3⟩ := h b1
  have hlt : (X_i x 0).toInt < 20 := by
    by_cases z : (X_i x 0).toInt = 20
    · exact absurd (Int32.toInt_inj.mp (by rw [l20]; exact z)) (hn q)
    · omega
  refine ⟨b3, ?_, by omega⟩
  rw [b6, ti_addx _ _ (by rw [l1]; omega), l1]; omega
theorem xg_w {c c' : Int} (h : xg E c x) (hc : c ≤ c') : xg E c' x := fun q => by
  obtain ⟨a1, a2, a3⟩ := h q
  exact ⟨a1, a2, by omega⟩
theorem xm_rf (h : x.1 = false → X_t x ≤ E_m E) : xm E 0 0 0 x x := fun q => ⟨q, ⟨Nat.le_refl _, h q⟩, by omega, rfl, ⟨(Int32.add_zero _).symm, rfl, rfl⟩, ⟨rfl, rfl⟩, fun q => q, fun q => q, fun _ _ => rfl⟩
theorem xm_bd {a : Nat} {d : Int} {e : Int32} (h : y.1 = true) : xm E a d e x y := fun q => absurd (h.symm.trans q) (by decide)
theorem xm_ad (hE : E_ok E) (ht : x.1 = false → X_t x < E_m E) : xm E 1 (-2) 0 x (X_ad x) := fun q => by
  have q : x.1 = false := q
  have := E_ps hE (ht q)
  refine ⟨q, ⟨Nat.le_refl _, ht q⟩, ?_, rfl, ⟨(Int32.add_zero _).symm, rfl, rfl⟩, ⟨rfl, rfl⟩, fun q => q, fun q => q, fun _ _ => rfl⟩
  show (X_z x : Int) + 2 * (E_p E (X_t x) : Int) ≤ (X_z x : Int) + 2 * (E_p E (X_t x + 1) : Int) + -2
  omega
theorem xm_pt (h : x.1 = false → X_t x ≤ E_m E) (j : Nat) : xm E 0 j 0 x (X_pt j x) := fun q => by
  refine ⟨q, ⟨Nat.le_refl _, h q⟩, ?_, rfl, ⟨(Int32.add_zero _).symm, rfl, rfl⟩, ⟨rfl, rfl⟩, fun q => q, fun q => q, fun _ _ => rfl⟩
  show ((X_z x + j : Nat) : Int) + 2 * (E_p E (X_t x) : Int) ≤ (X_z x : Int) + 2 * (E_p E (X_t x) : Int) + j
  omega
theorem xq_lt (hE : E_ok E) (h : x.1 = false → X_t x ≤ E_m E) {c : Int32} (hc : X_ty E x = c) (h5 : c ≠ 135) : x.1 = false → X_t x < E_m E := fun q => by
  rw [X_tyg q] at hc
  exact E_lt hE (h q) hc h5
theorem xm_tk (hE : E_ok E) (h : x.1 = false → X_t x ≤ E_m E) {c : Int32} (h5 : c ≠ 135) : xm E 1 (-2) 0 x (X_tk E c x) := by
  unfold X_tk
  split
  · next q => exact xm_ad hE (xq_lt hE h q h5)
  · exact xm_bd rfl
theorem xm_op (hE : E_ok E) (h : x.1 = false → X_t x ≤ E_m E) {c : Int32} (h5 : c ≠ 135) : xm E 1 (-2) 1 x (X_op E c x) := by
  unfold X_op
  split
  · next q =>
    have m := xm_ad hE (xq_lt hE h q.1 h5)
    exact fun b => by
      obtain ⟨c1, c2, c4, c5, ⟨c6, c7, c8⟩, c9⟩ := m b
      exact ⟨c1, c2, c4, c5, ⟨(um_eq : um (X_i x) 0 (X_i x 0 + 1) 0 = X_i x 0 + 1), c7, c8⟩, c9⟩
  · exact xm_bd rfl
theorem xm_cl (hE : E_ok E) (h : x.1 = false → X_t x ≤ E_m E) {c : Int32} (h5 : c ≠ 135) : xm E 1 (-2) (-1) x (X_cl E c x) := fun b => by
  obtain ⟨c1, c2, c4, c5, ⟨c6, c7, c8⟩, c9⟩ := xm_tk hE h h5 b
  refine ⟨c1, c2, c4, c5, ⟨?_, c7, c8⟩, c9⟩
  show um (X_i (X_tk E c x)) 0 (X_i x 0 - 1) 0 = X_i x 0 + -1
  rw [um_eq, Int32.sub_eq_add_neg]
/-- the open one closed again -/
theorem xm_dn (h : x.1 = false → X_t x ≤ E_m E) : xm E 0 0 (-1) x (X_si 0 (X_i x 0 - 1) x) := fun b => by
  refine ⟨b, ⟨Nat.le_refl _, h b⟩, ?_, rfl, ⟨?_, rfl, rfl⟩, ⟨rfl, rfl⟩, fun q => q, fun q => q, fun _ _ => rfl⟩
  · show (X_z x : Int) + 2 * (E_p E (X_t x) : Int) ≤ (X_z x : Int) + 2 * (E_p E (X_t x) : Int) + 0
    omega
  · show um (X_i x) 0 (X_i x 0 - 1) 0 = X_i x 0 + -1
    rw [um_eq, Int32.sub_eq_add_neg]
theorem xm_s2 {a : Nat} {d : Int} {e : Int32} (m : xm E a d e x y) : xm E a d e x (X_s2 y) := fun b => by
  obtain ⟨c1, c2, c4, c5, c6, c7, c8, c9⟩ := m b
  exact ⟨c1, c2, c4, c5, c6, c7, fun q => absurd q (by show ¬ true = false; decide), c9⟩
theorem xm_s3 {a : Nat} {d : Int} {e : Int32} (m : xm E a d e x y) : xm E a d e x (X_s3 y) := fun b => by
  obtain ⟨c1, c2, c4, c5, c6, c7, c8, c9, c10⟩ := m b
  exact ⟨c1, c2, c4, c5, c6, c7, c8, fun q => absurd q (by show ¬ true = false; decide), c10⟩
theorem xm_td {a w : Nat} {d : Int} {e : Int32} (m : xm E a d e x y) : xm E a d e x (X_td w y) := by
  unfold X_td
  split
  · exact m
  · exact xm_s2 m
theorem X_nm_e (h : X_ty E x = 130) : X_nm E x = X_td (E_w E (X_t x)) (X_ad x) := by
  unfold X_nm X_td
  rw [if_pos h]
  by_cases q : X_u x (E_w E (X_t x)) = X_i x 1
  · rw [if_pos q, if_pos (show X_u (X_ad x) (E_w E (X_t x)) = X_i (X_ad x) 1 from q)]
  · rw [if_neg q, if_neg (show ¬ X_u (X_ad x) (E_w E (X_t x)) = X_i (X_ad x) 1 from q)]; rfl
theorem xm_nm (hE : E_ok E) (h : x.1 = false → X_t x ≤ E_m E) : xm E 1 (-2) 0 x (X_nm E x) := by
  by_cases q : X_ty E x = 130
  · rw [X_nm_e q]
    exact xm_td (xm_ad hE (xq_lt hE h q (by decide)))
  · unfold X_nm
    rw [if_neg q]
    exact xm_bd rfl
theorem xm_ob (hE : E_ok E) (hn : E_no E) (h : x.1 = false → X_t x ≤ E_m E) : xm E 1 (-2) 0 x (X_ob E x) := by
  unfold X_ob
  split
  · next q =>
    have ht := xq_lt hE h q (by decide)
    unfold X_ot
    split
    · exact xm_ad hE ht
    · have m : xm E 1 (-2) 0 x (X_ad (X_si 3 (X_i x 3 + 1) (X_su (E_w E (X_t x)) x))) := fun b => by
        obtain ⟨c1, c2, c4, c5, c6, c7, c8, c9, c10⟩ := xm_ad hE ht b
        refine ⟨c1, c2, c4, c5, c6, c7, c8, c9, fun w hw => ?_⟩
        show fu (X_u x) (E_w E (X_t x)) (X_i x 1) w = X_u x w
        unfold fu
        rw [if_neg (fun z => hn (X_t x) (ht c1) ((X_tyg c1).symm.trans q) (by rw [← z]; exact hw))]
      unfold X_o3
      split
      · exact m
      · have m' := xm_s3 m
        exact m'
  · exact xm_bd rfl
theorem xm_if (hE : E_ok E) (h : x.1 = false → X_t x ≤ E_m E) {p : Prop} {y : x_X} (hy : (p ∧ ¬ X_ty E x = 135 ∧ y = X_ad x) ∨ y = X_bd x) : xm E 1 (-2) 0 x y := by
  rcases hy with ⟨-, q, rfl⟩ | rfl
  · exact xm_ad hE (fun b => E_lt hE (h b) rfl (fun z => q ((X_tyg b).trans z)))
  · exact xm_bd rfl
theorem xm_kd (hE : E_ok E) (h : x.1 = false → X_t x ≤ E_m E) : xm E 1 (-2) 0 x (X_kd E x) := by
  refine xm_if (p := X_ik (X_ty E x)) hE h ?_
  unfold X_kd
  by_cases q : X_ik (X_ty E x)
  · rw [if_pos q]; exact Or.inl ⟨q, fun z => by rw [z] at q; exact absurd q (by decide), rfl⟩
  · rw [if_neg q]; exact Or.inr rfl
theorem xm_qu (hE : E_ok E) (h : x.1 = false → X_t x ≤ E_m E) : xm E 1 (-2) 0 x (X_qu E x) := by
  refine xm_if (p := X_iq (X_ty E x)) hE h ?_
  unfold X_qu
  by_cases q : X_iq (X_ty E x)
  · rw [if_pos q]; exact Or.inl ⟨q, fun z => by rw [z] at q; exact absurd q (by decide), rfl⟩
  · rw [if_neg q]; exact Or.inr rfl
theorem xm_pp (hE : E_ok E) (h : x.1 = false → X_t x ≤ E_m E) : xm E 1 (-2) 0 x (X_pp E x) := by
  refine xm_if (p := X_ip (X_ty E x)) hE h ?_
  unfold X_pp
  by_cases q : X_ip (X_ty E x)
  · rw [if_pos q]; exact Or.inl ⟨q, fun z => by rw [z] at q; exact absurd q (by decide), rfl⟩
  · rw [if_neg q]; exact Or.inr rfl
theorem xm_t {a : Nat} {d : Int} {e : Int32} (m : xm E a d e x y) : y.1 = false → X_t y ≤ E_m E := fun q => (m q).2.1.2
/-- the reference: what does not look at the Program's size -/
theorem rx_pt {k : x_B} {M : Nat → Int32} {F : Nat → Nat → Int32} {j : Nat} (h : rxx E k M F x) : rxx E k M F (X_pt j x) := h
theorem re_dec {k : x_B} {M : Nat → Int32} {F : Nat → Nat → Int32} (ho : x.1 = false → 1 ≤ (X_i x 0).toInt ∧ (X_i x 0).toInt ≤ 20) (h : rxx E k M F x) : rxx E k (um M 33 (M 33 - 1)) F (X_si 0 (X_i x 0 - 1) x) := by
  have l1 : (1 : Int32).toInt = 1 := by decide
  cases hb : x.1 with
  | true => exact rx_zb (zb_um (h.1 hb) (by decide)) hb
  | false =>
    rw [(h.2 hb).2.2.1.1.1]
    refine re_si0 h (fun _ => ?_)
    have := ho hb
    rw [ti_subx _ _ (by rw [l1]; omega), l1]; omega
/-- what a test of the reference's leads to -/
theorem re_c1 {c : Int32} {M : Nat → Int32} {F : Nat → Nat → Int32} {T : (Int32 → (Nat → Int32) → (Nat → Nat → Int32) → Prop) → Prop} (hT : ∀ Q, T Q ↔ Q (if X_ty E x = c then 1 else 0) M F) {A B A' B' : (Nat → Int32) → (Nat → Nat → Int32) → Prop} (h1 : X_ty E x = c → A M F → A' M F) (h0 : ¬ X_ty E x = c → B M F → B' M F) (w : T (fun r M F => (¬ r = 0 → A M F) ∧ (r = 0 → B M F))) : T (fun r M F => (¬ r = 0 → A' M F) ∧ (r = 0 → B' M F)) := by
  rw [hT] at w ⊢
  by_cases z : X_ty E x = c
  · rw [if_pos z] at w ⊢
    exact ⟨fun q => h1 z (w.1 q), fun q => absurd q (by decide)⟩
  · rw [if_neg z] at w ⊢
    exact ⟨fun q => absurd rfl q, fun q => h0 z (w.2 q)⟩
theorem re_c0 {c : Int32} {M : Nat → Int32} {F : Nat → Nat → Int32} {T : (Int32 → (Nat → Int32) → (Nat → Nat → Int32) → Prop) → Prop} (hT : ∀ Q, T Q ↔ Q (if X_ty E x = c then 1 else 0) M F) {A B A' B' : (Nat → Int32) → (Nat → Nat → Int32) → Prop} (h1 : X_ty E x = c → A M F → A' M F) (h0 : ¬ X_ty E x = c → B M F → B' M F) (w : T (fun r M F => (r = 0 → B M F) ∧ (¬ r = 0 → A M F))) : T (fun r M F => (r = 0 → B' M F) ∧ (¬ r = 0 → A' M F)) := by
  rw [hT] at w ⊢
  by_cases z : X_ty E x = c
  · rw [if_pos z] at w ⊢
    exact ⟨fun q => absurd q (by decide), fun q => h1 z (w.2 q)⟩
  · rw [if_neg z] at w ⊢
    exact ⟨fun q => h0 z (w.1 q), fun q => absurd rfl q⟩
theorem re_b0 {k : x_B} {M : Nat → Int32} {F : Nat → Nat → Int32} (h : rxx E k M F x) {A B A' B' : (Nat → Int32) → (Nat → Nat → Int32) → Prop} (h1 : x.1 = true → A M F → A' M F) (h0 : x.1 = false → B M F → B' M F) (w : w_bad M F (fun r M F => (r = 0 → B M F) ∧ (¬ r = 0 → A M F))) : w_bad M F (fun r M F => (r = 0 → B' M F) ∧ (¬ r = 0 → A' M F)) := by
  rw [re_bad h] at w ⊢
  cases hb : x.1 with
  | true =>
    rw [hb, if_pos rfl] at w
    exact ⟨fun q => absurd q (by decide), fun q => h1 hb (w.2 q)⟩
  | false =>
    rw [hb, if_neg (by decide)] at w
    exact ⟨fun q => h0 hb (w.1 q), fun q => absurd rfl q⟩
theorem re_b1 {k : x_B} {M : Nat → Int32} {F : Nat → Nat → Int32} (h : rxx E k M F x) {A B A' B' : (Nat → Int32) → (Nat → Nat → Int32) → Prop} (h1 : x.1 = true → A M F → A' M F) (h0 : x.1 = false → B M F → B' M F) (w : w_bad M F (fun r M F => (¬ r = 0 → A M F) ∧ (r = 0 → B M F))) : w_bad M F (fun r M F => (¬ r = 0 → A' M F) ∧ (r = 0 → B' M F)) := by
  rw [re_bad h] at w ⊢
  cases hb : x.1 with
  | true =>
    rw [hb, if_pos rfl] at w
    exact ⟨fun q => h1 hb (w.1 q), fun q => absurd q (by decide)⟩
  | false =>
    rw [hb, if_neg (by decide)] at w
    exact ⟨fun q => absurd rfl q, fun q => h0 hb (w.2 q)⟩
end XJ1
