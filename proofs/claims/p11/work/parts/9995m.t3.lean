/-! HEARINGS AND THE TEXT: both parsers. -/
section XT3
variable {E : x_E} {x y : x_X}
/-- between hearings -/
def t_I (E : x_E) (x : x_X) : Prop := xg E 0 x ∧ hl E x ∧ (x.1 = false → X_i x 0 = 0 ∧ (∀ w, X_v x w = -1 ∨ (0 ≤ (X_v x w).toInt ∧ (X_v x w).toInt < (X_i x 1).toInt)) ∧ (X_2 x = false → X_3 x = false → (X_i x 1).toInt ≤ 16) ∧ (0 ≤ (X_i x 1).toInt ∧ (X_i x 1).toInt ≤ X_t x) ∧ ∀ p, p ∈ X_l x → p.1 < E_L E)
theorem X_nh_i (h : (X_nh E x).1 = false) : X_ty E x = 130 ∧ x.1 = false ∧ X_t (X_nh E x) = X_t x + 1 ∧ X_z (X_nh E x) = X_z x ∧ X_l (X_nh E x) = X_l x ∧ X_i (X_nh E x) 0 = X_i x 0 ∧ X_i (X_nh E x) 1 = X_i x 1 ∧ (∀ w, X_v (X_nh E x) w = X_v x w ∨ X_v (X_nh E x) w = X_i x 1) ∧ (X_2 (X_nh E x) = false → X_2 x = false) ∧ (X_3 (X_nh E x) = false → X_3 x = false ∧ X_i x 1 < 16) := by
  unfold X_nh at h ⊢
  by_cases z : X_ty E x = 130
  · rw [if_pos z] at h ⊢
    have key : ∀ y : x_X, (y.1 = x.1 ∧ X_t y = X_t x + 1 ∧ X_z y = X_z x ∧ X_l y = X_l x ∧ X_i y = X_i x ∧ (∀ w, X_v y w = X_v x w ∨ X_v y w = X_i x 1) ∧ (X_2 y = false → X_2 x = false) ∧ (X_3 y = false → X_3 x = false)) → (X_h0 (X_h3 y)).1 = false → X_ty E x = 130 ∧ x.1 = false ∧ X_t (X_h0 (X_h3 y)) = X_t x + 1 ∧ X_z (X_h0 (X_h3 y)) = X_z x ∧ X_l (X_h0 (X_h3 y)) = X_l x ∧ X_i (X_h0 (X_h3 y)) 0 = X_i x 0 ∧ X_i (X_h0 (X_h3 y)) 1 = X_i x 1 ∧ (∀ w, X_v (X_h0 (X_h3 y)) w = X_v x w ∨ X_v (X_h0 (X_h3 y)) w = X_i x 1) ∧ (X_2 (X_h0 (X_h3 y)) = false → X_2 x = false) ∧ (X_3 (X_h0 (X_h3 y)) = false → X_3 x = false ∧ X_i x 1 < 16) := by
      intro y hy hb
      obtain ⟨e1, e2, e3, e4, e5, e6, e7, e8⟩ := hy
      unfold X_h3 at hb ⊢
      rw [e5] at hb ⊢
      by_cases q : X_i x 1 < 16
      · rw [if_pos q] at hb ⊢
        exact ⟨z, e1.symm.trans hb, e2, e3, e4, congrFun e5 0, congrFun e5 1, e6, e7, fun r => ⟨e8 r, q⟩⟩
      · rw [if_neg q] at hb ⊢
        exact ⟨z, e1.symm.trans hb, e2, e3, e4, congrFun e5 0, congrFun e5 1, e6, e7, fun r => absurd r (by show ¬ true = false; decide)⟩
    refine key _ ?_ h
    unfold X_hv
    split
    · refine ⟨rfl, rfl, rfl, rfl, rfl, fun w => ?_, fun q => q, fun q => q⟩
      show fu (X_v x) (E_w E (X_t x)) (X_i x 1) w = X_v x w ∨ fu (X_v x) (E_w E (X_t x)) (X_i x 1) w = X_i x 1
      unfold fu
      split
      · exact Or.inr rfl
      · exact Or.inl rfl
    · exact ⟨rfl, rfl, rfl, rfl, rfl, fun w => Or.inl rfl, fun q => absurd q (by show ¬ true = false; decide), fun q => q⟩
  · rw [if_neg z] at h
    exact absurd h (by show ¬ true = false; decide)
end XT3
