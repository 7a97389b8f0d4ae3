/-! THE CLASS'S READER WITH WHAT ITS ROWS HOLD: names told, kinds, questions. -/
section YC2
variable {E : x_E} {k : x_Kt} {s s' : f_S3} {y : y_X} {O : Nat × Nat} {K : List Nat}
theorem fF_told {N : Nat → Nat} {p : Int32} {Q Q' : Int32 → f_S3 → Nat × Nat → Prop} (h : wF_X7_isTold N p s O Q) (hq : ∀ r, Q r s O → Q' r s O) : wF_X7_isTold N p s O Q' := ⟨fun q => hq _ (h.1 q), fun q => ⟨fun q2 => hq _ ((h.2 q).1 q2), fun q2 => ⟨((h.2 q).2 q2).1, fun q3 => hq _ (((h.2 q).2 q2).2.1 q3), fun q3 => hq _ (((h.2 q).2 q2).2.2 q3)⟩⟩⟩
theorem fF_pf {N : Nat → Nat} {c p : Int32} {Q Q' : f_S3 → Nat × Nat → Prop} (h : wF_X7_putFault N c p s O Q) (hq : ∀ s', s'.1 = s.1 → fF s s' → Q s' O → Q' s' O) : wF_X7_putFault N c p s O Q' := ⟨fun q => hq _ rfl ⟨rfl, rfl, rfl, rfl⟩ (h.1 q), fun q => ⟨fun q2 => hq _ rfl ⟨rfl, rfl, rfl, rfl⟩ ((h.2 q).1 q2), fun q2 => ⟨((h.2 q).2 q2).1, fun q3 => hq _ rfl ⟨rfl, rfl, rfl, rfl⟩ (((h.2 q).2 q2).2.1 q3), fun q3 => ⟨(((h.2 q).2 q2).2.2 q3).1, hq _ rfl ⟨rfl, rfl, rfl, rfl⟩ (((h.2 q).2 q2).2.2 q3).2⟩⟩⟩⟩
theorem fF_newName {N : Nat → Nat} {Q Q' : Int32 → f_S3 → Nat × Nat → Prop} (h : wF_X7_newName N s O Q) (hq : ∀ r s', r = s.1 9 → fF s s' → Q r s' O → Q' r s' O) : wF_X7_newName N s O Q' := by
  have e : s.1 9 + 1 - 1 = s.1 9 := Int32.add_sub_cancel _ _
  refine ⟨fun q => hq _ _ e ⟨rfl, rfl, rfl, rfl⟩ (h.1 q), fun q => fF_told (h.2 q) (fun r g => ⟨fun a => ⟨fun b => hq _ _ e ⟨rfl, rfl, rfl, rfl⟩ ((g.1 a).1 b), fun b => fF_pf ((g.1 a).2 b) (fun s' e1 f g' => hq _ _ (by rw [e1]; exact e) f g')⟩, fun a => fF_pf (g.2 a) (fun s' e1 f g' => hq _ _ (by rw [e1]; exact e) f g')⟩)⟩
theorem cg_newName (hE : E_ok E) (h : rcG E (K, 0, false, false) s y) {Q : Int32 → f_S3 → Nat × Nat → Prop} (hQ : ∀ r s' p2 p3, (Y_ty E y = 130 → X_ah (E_w E (Y_t y)) (yx y) p2 p3) → (nf y → r = Y_i y 2) → rcG E (K, 1, p2, p3) s' y → Q r s' O) : wF_X7_newName (E_N E) s O Q := by
  refine fF_newName (c_newName hE h.1 (Q := fun _ s' _ => ∃ p2 p3, (Y_ty E y = 130 → X_ah (E_w E (Y_t y)) (yx y) p2 p3) ∧ rc E (K, 1, p2, p3) s' (yx y)) (fun r s' p2 p3 a b => ⟨p2, p3, a, b⟩)) (fun r s' e f ⟨p2, p3, a, b⟩ => hQ r s' p2 p3 a (fun n => ?_) ⟨b, CG_fr h.2 f⟩)
  have i9 := ((h.1.2 n.1).2.2.1.2 n.2.1 n.2.2).1.1
  have i9 : s.1 9 = Y_i y 2 + 0 := i9
  rw [e, i9, Int32.add_zero]
theorem nf_t3 {y : y_X} (h : nf (Y_t3 y)) : Y_i y 2 ≤ 12 ∧ Y_t3 y = y := by
  unfold Y_t3 at h ⊢
  by_cases q : Y_i y 2 ≤ 12
  · exact ⟨q, if_pos q⟩
  · rw [if_neg q] at h; exact absurd h.2.2 (by show ¬ true = false; decide)
theorem nf_te {w : Nat} (h : nf (Y_te w y)) : ¬ Y_u y w = Y_i y 1 ∧ Y_te w y = Y_si 2 (Y_i y 2 + 1) (Y_su w y) ∧ nf y := by
  unfold Y_te at h ⊢
  by_cases q : Y_u y w = Y_i y 1
  · rw [if_pos q] at h; exact absurd h.2.1 (by show ¬ true = false; decide)
  · rw [if_neg q] at h ⊢
    have e := (nf_t3 h).2
    rw [e] at h
    exact ⟨q, e, h⟩
theorem yx_t3 {y : y_X} : yx (Y_t3 y) = X_t3 (yx y) := by unfold Y_t3 X_t3; exact yx_if _
theorem yx_te {w : Nat} : yx (Y_te w y) = X_te w (yx y) := by
  have e1 : yx (Y_si 2 (Y_i y 2 + 1) (Y_su w y)) = X_si 2 (X_i (yx y) 2 + 1) (X_su w (yx y)) := rfl
  unfold Y_te X_te
  rw [yx_if, yx_t3, e1]
  rfl
theorem cg_tell (hE : E_ok E) {w : Nat} {p2 p3 : Bool} {p v : Int32} (ha : y.1 = false → p = nI (33 + w) ∧ w < E_L E ∧ X_ah w (yx y) p2 p3) (hn : y.1 = false → E_nw E w) (hv : nf y → v = Y_i y 2) (h : rcG E (K, 1, p2, p3) s y) {Q : f_S3 → Nat × Nat → Prop} (hQ : ∀ s', rcG E (K, 0, false, false) s' (Y_te w y) → Q s' O) : wF_X7_tell (E_N E) p v s O Q := by
  have h0 := c_tell hE (x := yx y) ha h.1 (v := v) (O := O) (Q := fun s' _ => rc E (K, 0, false, false) s' (X_te w (yx y))) (fun s' b => b)
  rw [← yx_te] at h0
  cases hb : y.1 with
  | true =>
    have nb : ¬ nf (Y_te w y) := fun n => absurd (hb.symm.trans (nf_te n).2.2.1) (by decide)
    exact ⟨fun q => hQ _ ⟨h0.1 q, fun n => absurd n nb⟩, fun q => ⟨fun q2 => hQ _ ⟨(h0.2 q).1 q2, fun n => absurd n nb⟩, fun q2 => ⟨((h0.2 q).2 q2).1, ((h0.2 q).2 q2).2.1, hQ _ ⟨((h0.2 q).2 q2).2.2, fun n => absurd n nb⟩⟩⟩⟩
  | false =>
    obtain ⟨e, wL, ah⟩ := ha hb
    obtain ⟨a1, a2, a3, a4⟩ := E_wN hE wL
    refine ⟨fun q => absurd q (by rw [e]; exact y_lt0 (by omega)), fun q => ⟨fun q2 => ?_, fun q2 => ⟨((h0.2 q).2 q2).1, ((h0.2 q).2 q2).2.1, hQ _ ⟨((h0.2 q).2 q2).2.2, fun n => ?_⟩⟩⟩⟩
    · rw [e, y_le (by omega) (by omega)] at q2; omega
    · obtain ⟨n1, n2, n3⟩ := nf_te n
      rw [n2]
      obtain ⟨c1, c2, c3, c4⟩ := h.2 n3
      refine ⟨c1, fun w' hw hu => ?_, c3, c4⟩
      show (_ → uf (uf s.2.1 23 p (s.1 64)) 24 p v 24 (33 + w') = (f1 (Y_S y) w (Y_i y 2, Y_i y 3) w').1) ∧ (_ → uf (uf s.2.1 23 p (s.1 64)) 24 p v 24 (33 + w') = (f1 (Y_S y) w (Y_i y 2, Y_i y 3) w').2)
      rw [uf_at2, e, y_cl (by omega)]
      by_cases q : w' = w
      · subst q
        rw [if_pos ⟨rfl, rfl⟩, f1_eq]
        exact ⟨fun _ => hv n3, fun x => absurd (hn hb) x⟩
      · rw [if_neg (fun z => q (by omega)), f1_ne q]
        have hu : fu (Y_u y) w (Y_i y 1) w' = Y_i y 1 := hu
        unfold fu at hu
        rw [if_neg q] at hu
        exact c2 w' hw hu
theorem cg_tlt (hE : E_ok E) (h : rcG E k s y) (h5 : ¬ Y_ty E y = 135) : y.1 = false → Y_t y < E_m E := fun hb => by
  rw [Y_tyg hb] at h5
  exact E_lt hE (h.1.2 hb).1.2.2 rfl h5
theorem cg_kind (hE : E_ok E) (h : rcG E k s y) {Q : Int32 → f_S3 → Nat × Nat → Prop} (hQ : ∀ r s', (X_ik (Y_ty E y) → r = Y_ty E y - 226) → rcG E k s' (Y_kd E y) → Q r s' O) : wF_X7_kind (E_N E) s O Q := by
  unfold Y_kd at hQ
  unfold wF_X7_kind
  rw [cg_ty h]
  refine y_isKind (fun z => ⟨fun q => absurd q (by decide), fun _ => cg_adv hE h (cg_tlt hE h (fun q => by rw [q] at z; exact absurd z (by decide))) (fun s' h' => hQ _ s' (fun _ => rfl) (by rw [if_pos z]; exact h'))⟩) (fun z => ⟨fun _ => cg_fail hE h (fun s' h' => hQ _ s' (fun q => absurd q z) (by rw [if_neg z]; exact h')), fun q => absurd rfl q⟩)
theorem cg_question (hE : E_ok E) (h : rcG E k s y) {Q : Int32 → f_S3 → Nat × Nat → Prop} (hQ : ∀ r s', (Y_ty E y = 224 → r = 23) → (¬ Y_ty E y = 224 → r = 24) → rcG E k s' (Y_qu E y) → Q r s' O) : wF_X7_question (E_N E) s O Q := by
  unfold Y_qu at hQ
  have g : ∀ r : Int32, (Y_ty E y = 224 → r = 23) → (¬ Y_ty E y = 224 → r = 24) → wF_X7_question_17 (E_N E) Q r s O := by
    intro r a b
    have ok : X_iq (Y_ty E y) → wF_X7_question_38 (E_N E) Q r s O := fun z => cg_adv hE h (cg_tlt hE h (fun q => by rw [q] at z; exact absurd z (by decide))) (fun s' h' => hQ r s' a b (by rw [if_pos z]; exact h'))
    unfold wF_X7_question_17
    rw [cg_ty h]
    exact ⟨fun q => ok (Or.inl q), fun q => ⟨fun q' => cg_fail hE h (fun s' h' => hQ r s' a b (by rw [if_neg (fun z => z.elim q q')]; exact h')), fun q' => ok (Or.inr q')⟩⟩
  unfold wF_X7_question
  rw [cg_ty h]
  exact ⟨fun q => g 24 (fun z => absurd z q) (fun _ => rfl), fun q => g 23 (fun _ => rfl) (fun z => absurd q z)⟩
/-- what a word ahead of an OBJECT asks -/
def E_wh (c : Int32) : Int32 := if c = 219 then 1 else if c = 220 then 2 else if c = 221 then 6 else if c = 222 then 7 else 3
theorem cg_prop (hE : E_ok E) (h : rcG E k s y) {Q : Int32 → f_S3 → Nat × Nat → Prop} (hQ : ∀ r s', (X_ip (Y_ty E y) → r = E_wh (Y_ty E y)) → rcG E k s' (Y_pp E y) → Q r s' O) : wF_X7_toldProperty (E_N E) s O Q := by
  unfold Y_pp at hQ
  have ok : ∀ r : Int32, X_ip (Y_ty E y) → r = E_wh (Y_ty E y) → ¬ r = -1 → ((¬ r = (-1) → (wF_X7_advance (E_N E) s O (fun M3 O3 => (wF_X7_toldProperty_21 (E_N E) Q r M3 O3)))) ∧ (r = (-1) → (wF_X7_fail (E_N E) s O (fun M4 O4 => (wF_X7_toldProperty_21 (E_N E) Q r M4 O4))))) := fun r z e n => ⟨fun _ => cg_adv hE h (cg_tlt hE h (fun q => by rw [q] at z; exact absurd z (by decide))) (fun s' h' => hQ r s' (fun _ => e) (by rw [if_pos z]; exact h')), fun q => absurd q n⟩
  unfold wF_X7_toldProperty wF_X7_property
  rw [cg_ty h]
  exact ⟨fun q => ok 1 (Or.inl q) (by rw [q]; decide) (by decide), fun q => ok 2 (Or.inr (Or.inl q)) (by rw [q]; decide) (by decide), fun q => ok 6 (Or.inr (Or.inr (Or.inl q))) (by rw [q]; decide) (by decide), fun q => ok 7 (Or.inr (Or.inr (Or.inr (Or.inl q)))) (by rw [q]; decide) (by decide), fun q => ok 3 (Or.inr (Or.inr (Or.inr (Or.inr q)))) (by rw [q]; decide) (by decide), fun a b c d e => ⟨fun q => absurd rfl q, fun _ => cg_fail hE h (fun s' h' => hQ _ s' (fun z => absurd z (fun z => z.elim a (fun z => z.elim b (fun z => z.elim c (fun z => z.elim d e))))) (by rw [if_neg (fun z => z.elim a (fun z => z.elim b (fun z => z.elim c (fun z => z.elim d e))))]; exact h'))⟩⟩
theorem cg_objectOrNone (hE : E_ok E) (h : rcG E k s y) {Q : Int32 → f_S3 → Nat × Nat → Prop} (hQ : ∀ r s', (nf (Y_on E y) → r = if Y_ty E y = 203 then -1 else (Y_S (Y_on E y) (E_w E (Y_t y))).2) → rcG E k s' (Y_on E y) → Q r s' O) : wF_X7_objectOrNone (E_N E) s O Q := by
  unfold Y_on at hQ
  unfold wF_X7_objectOrNone
  rw [cg_ty h]
  refine ⟨fun q => cg_object hE h (fun r s' e h' => hQ r s' ?_ (by rw [if_neg q]; exact h')), fun q => cg_adv hE h (cg_tlt hE h (fun z => by rw [q] at z; exact absurd z (by decide))) (fun s' h' => hQ _ s' ?_ (by rw [if_pos q]; exact h'))⟩
  · rw [if_neg q, if_neg q]; exact e
  · rw [if_pos q, if_pos q]; exact fun _ => rfl
end YC2
