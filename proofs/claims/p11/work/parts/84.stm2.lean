theorem p_hold {WF : e_M → e_F → (e_M → e_F → Prop) → Prop} (hX : e_SX WF 22 0 2) : e_ST (w_hold WF) 0 (-1) 2 := by
  intro M F G Q hI hb h4 h5 ho hn hQ
  have z0 : ¬ (1 : Int32) = 0 := by decide
  refine rn_word (L := 4) 2 (by decide) G 0 ((M 33).toInt - 1) hI hb h4 h5 hn.1 (by omega) (fun M1 F1 r1 hb1 y1 _ => p_object G (R_I r1) (fun x M3 F3 x3 y3 hx => ?_))
  have r3 := R_P r1 x3 y3 (by decide)
  refine p_need G (R_I r3) (fun M4 F4 x4 y4 => ?_)
  have r4 := R_P r3 x4 y4 (by decide)
  have o4 : M4 33 = M 33 := y4.trans (y3.trans y1)
  have hx4 : e_gd M4 F4 → 0 ≤ x.toInt ∧ x.toInt < 8 := fun g => hx (e_PR_gd x4.2.1 g).1 (e_PR_gd x4.2.1 g).2.1
  have h104 : ∀ (c5 s5 t5 u5 e5 : Int) (M5 : e_M) (F5 : e_F) (G5 : e_G), e_R e_U0 True c5 s5 t5 u5 0 ((M 33).toInt - 1) 0 0 e5 0 M F G M5 F5 G5 → (c5 ≤ -1 ∧ s5 ≤ 0 ∧ t5 ≤ -1 ∧ u5 ≤ 0 ∧ e5 ≤ 11) → w_hold_104 WF Q M5 F5 := by
    intro c5 s5 t5 u5 e5 M5 F5 G5 r5 hh
    refine p_need G5 (R_I r5) (fun M6 F6 x6 y6 => hQ M6 F6 G5 (R_wk (R_P r5 x6 y6 (by decide)) (by omega) ⟨rfl, rfl⟩ (by omega) rfl))
  have h91 : w_hold_91 WF Q x M4 F4 := by
    refine p_object G (R_I r4) (fun x2 M5 F5 x5 y5 h5 => ?_)
    have r5 := R_P r4 x5 y5 (by decide)
    refine rn_put 10 (by decide) (by decide) r5 (by omega) (fun _ => by decide) (fun g => ⟨hx4 (e_PR_gd x5.2.1 g), h5 g.1 g.2.1, by decide⟩) (fun w M6 F6 G6 r6 _ _ _ => h104 _ _ _ _ _ M6 F6 G6 (R_wk (H' := 0) r6 ⟨Int.le_refl _, Int.le_refl _, Int.le_refl _, Int.le_refl _⟩ (by decide) ⟨Int.le_refl _, by decide⟩ rfl) (by omega))
  refine p_isWord (fun _ => ⟨fun _ => p_isWord (fun _ => ⟨fun _ => ⟨fun hb4 => ⟨fun q => absurd rfl q, fun _ => ⟨fun _ => h91, fun h45 => ?_⟩⟩, fun hb4 => ⟨fun _ => h91, fun q => absurd q z0⟩⟩, fun q => absurd rfl q⟩) (fun hb4 h44 h45 => ⟨fun q => absurd q z0, fun _ => ?_⟩), fun q => absurd rfl q⟩) (fun hb4 h44 h45 => ⟨fun q => absurd q z0, fun _ => ?_⟩)
  · refine rn_made hX r4 (by rw [hb4]; decide) (by rw [h45]; decide) (by omega) (by rw [o4]; omega) hx4 (fun M5 F5 G5 r5 => h104 _ _ _ _ _ M5 F5 G5 r5 (by omega))
  · refine R_pass r4 hb4 (by omega) (fun M5 F5 r5 hb5 y5 p5 _ => p_object G (R_I r5) (fun x2 M6 F6 x6 y6 h6 => ?_))
    have r6 := R_P r5 x6 y6 (by decide)
    refine rn_put 12 (by decide) (by decide) r6 (by omega) (fun _ => by decide) (fun g => ⟨hx4 (e_PR_gd (e_PR_tr p5 x6.2.1) g), h6 g.1 g.2.1, by decide⟩) (fun w M7 F7 G7 r7 _ _ _ => h104 _ _ _ _ _ M7 F7 G7 (R_wk (H' := 0) r7 ⟨Int.le_refl _, Int.le_refl _, Int.le_refl _, Int.le_refl _⟩ (by decide) ⟨Int.le_refl _, by decide⟩ rfl) (by omega))
  · refine R_pass r4 hb4 (by omega) (fun M5 F5 r5 hb5 y5 p5 _ => ?_)
    refine rn_put 11 (by decide) (by decide) r5 (by omega) (fun _ => by decide) (fun g => ⟨hx4 (e_PR_gd p5 g), ⟨by decide, by decide⟩, by decide⟩) (fun w M7 F7 G7 r7 _ _ _ => h104 _ _ _ _ _ M7 F7 G7 (R_wk (H' := 0) r7 ⟨Int.le_refl _, Int.le_refl _, Int.le_refl _, Int.le_refl _⟩ (by decide) ⟨Int.le_refl _, by decide⟩ rfl) (by omega))
theorem p_join : e_ST w_join 0 (-1) 7 := by
  intro M F G Q hI hb h4 h5 ho hn hQ
  have z0 : ¬ (1 : Int32) = 0 := by decide
  refine rn_word (L := 4) 7 (by decide) G 0 ((M 33).toInt - 1) hI hb h4 h5 hn.1 (by omega) (fun M1 F1 r1 hb1 y1 _ => p_object G (R_I r1) (fun x M3 F3 x3 y3 hx => ?_))
  have r3 := R_P r1 x3 y3 (by decide)
  refine p_needWord 8 (by decide) G (R_I r3) (fun M4 F4 x4 y4 => ?_)
  have r4 := R_P r3 x4 y4 (by decide)
  have hl : ((e_w2.getD 8 0 : Nat) : Int) = 2 := by decide
  rw [hl] at r4
  have hx4 : e_gd M4 F4 → 0 ≤ x.toInt ∧ x.toInt < 8 := fun g => hx (e_PR_gd x4.2.1 g).1 (e_PR_gd x4.2.1 g).2.1
  have h37 : ∀ (b : Int32) (c5 s5 t5 u5 : Int) (M5 : e_M) (F5 : e_F), e_R e_U0 True c5 s5 t5 u5 0 ((M 33).toInt - 1) 0 0 0 0 M F G M5 F5 G → (c5 ≤ -1 ∧ s5 ≤ 0 ∧ t5 ≤ -1 ∧ u5 ≤ 0) → e_PR M4 F4 G M5 F5 G → (e_gd M5 F5 → -1 ≤ b.toInt ∧ b.toInt < 8) → w_join_37 Q x b M5 F5 := by
    intro b c5 s5 t5 u5 M5 F5 r5 hh p5 hb5
    refine p_need G (R_I r5) (fun M6 F6 x6 y6 => ?_)
    have r6 := R_P r5 x6 y6 (by decide)
    refine rn_put 15 (by decide) (by decide) r6 (by omega) (fun _ => by decide) (fun g => ⟨hx4 (e_PR_gd (e_PR_tr p5 x6.2.1) g), hb5 (e_PR_gd x6.2.1 g), by decide⟩) (fun w M7 F7 G7 r7 _ _ _ => hQ M7 F7 G7 (R_wk r7 (by omega) (by decide) (by omega) rfl))
  refine p_isWord (fun _ => ⟨fun _ => p_object G (R_I r4) (fun x2 M5 F5 x5 y5 h5 => ?_), fun q => absurd rfl q⟩) (fun hb4 h44 h45 => ⟨fun q => absurd q z0, fun _ => ?_⟩)
  · exact h37 x2 _ _ _ _ M5 F5 (R_P r4 x5 y5 (by decide)) (by omega) x5.2.1 (fun g => by have := h5 g.1 g.2.1; omega)
  · refine R_pass r4 hb4 (by omega) (fun M5 F5 r5 hb5 y5 p5 _ => ?_)
    exact h37 (-1) _ _ _ _ M5 F5 r5 (by omega) p5 (fun _ => by decide)
theorem p_note {WF : e_M → e_F → (e_M → e_F → Prop) → Prop} (hX : e_SX WF 22 0 2) : e_ST (w_note WF) 0 (-1) 9 := by
  intro M F G Q hI hb h4 h5 ho hn hQ
  have z0 : ¬ (1 : Int32) = 0 := by decide
  refine rn_word (L := 4) 9 (by decide) G 0 ((M 33).toInt - 1) hI hb h4 h5 hn.1 (by omega) (fun M1 F1 r1 hb1 y1 _ => ?_)
  have h91 : ∀ (c5 s5 t5 u5 e5 : Int) (M5 : e_M) (F5 : e_F) (G5 : e_G), e_R e_U0 True c5 s5 t5 u5 0 ((M 33).toInt - 1) 0 0 e5 0 M F G M5 F5 G5 → (c5 ≤ -1 ∧ s5 ≤ 0 ∧ t5 ≤ -1 ∧ u5 ≤ 0 ∧ e5 ≤ 11) → w_note_91 WF Q M5 F5 := by
    intro c5 s5 t5 u5 e5 M5 F5 G5 r5 hh
    refine p_need G5 (R_I r5) (fun M6 F6 x6 y6 => hQ M6 F6 G5 (R_wk (R_P r5 x6 y6 (by decide)) (by omega) ⟨rfl, rfl⟩ (by omega) rfl))
  have h16 : ∀ (c5 s5 t5 u5 e5 : Int) (M5 : e_M) (F5 : e_F) (G5 : e_G), e_R e_U0 True c5 s5 t5 u5 0 ((M 33).toInt - 1) 1 0 e5 0 M F G M5 F5 G5 → (c5 ≤ -2 ∧ s5 ≤ 0 ∧ t5 ≤ -1 ∧ u5 ≤ 0 ∧ e5 ≤ 10) → w_put 16 0 0 0 M5 F5 (fun _ M6 F6 => w_note_91 WF Q M6 F6) := by
    intro c5 s5 t5 u5 e5 M5 F5 G5 r5 hh
    refine rn_put 16 (by decide) (by decide) r5 (by omega) (fun _ => by decide) (fun _ => ⟨⟨by decide, by decide⟩, ⟨by decide, by decide⟩, by decide⟩) (fun w M6 F6 G6 r6 _ _ _ => h91 _ _ _ _ _ M6 F6 G6 (R_wk (H' := 0) r6 ⟨Int.le_refl _, Int.le_refl _, Int.le_refl _, Int.le_refl _⟩ (by decide) ⟨Int.le_refl _, by omega⟩ rfl) (by omega))
  have h77 : w_note_77 WF Q M1 F1 := by
    refine rn_X (p_whole hX) (by decide) (by decide) r1 (by decide) (fun _ => by rw [y1]; omega) (fun _ => by rw [y1]; omega) (fun M5 F5 G5 r5 y5 p5 => ?_)
    exact h16 _ _ _ _ _ M5 F5 G5 r5 (by omega)
  refine ⟨fun _ => ⟨fun q => absurd rfl q, fun _ => ⟨fun _ => h77, fun h42 => p_object G (R_I r1) (fun x M3 F3 x3 y3 hx => ?_)⟩⟩, fun _ => ⟨fun _ => h77, fun q => absurd q z0⟩⟩
  have r3 := R_P r1 x3 y3 (by decide)
  have o3 : M3 33 = M 33 := y3.trans y1
  have h42' : w_note_42 WF Q x M3 F3 := by
    refine p_asked G (R_I r3) r3.2.2.2 (by decide) (by decide) (fun g => hx g.1 g.2.1) (fun M5 F5 G5 z5 y5 c5 => ?_)
    have r5 := R_Z r3 z5 y5 (fun _ => by decide) 1 (by decide) (c5 1 (fun _ => by decide) (fun _ => by decide))
    have o5 : M5 33 = M 33 := y5.trans o3
    refine rn_Y 3 (p_productBehind hX) (by decide) (by decide) r5 (by decide) (fun _ => by rw [o5]; omega) (fun _ => by rw [o5]; omega) (fun M6 F6 G6 r6 y6 p6 => ?_)
    have o6 : M6 33 = M 33 := y6.trans o5
    refine rn_Y 4 (p_sumBehind hX) (by decide) (by decide) r6 (by decide) (fun _ => by rw [o6]; omega) (fun _ => by rw [o6]; omega) (fun M7 F7 G7 r7 y7 p7 => ?_)
    have o7 : M7 33 = M 33 := y7.trans o6
    refine rn_Y 5 (p_compared hX) (by decide) (by decide) r7 (by decide) (fun _ => by rw [o7]; omega) (fun _ => by rw [o7]; omega) (fun M8 F8 G8 r8 y8 p8 => ?_)
    exact h16 _ _ _ _ _ M8 F8 G8 r8 (by omega)
  refine p_isWord (fun _ => ⟨fun q => absurd rfl q, fun _ => p_isWord (fun _ => ⟨fun _ => ?_, fun q => absurd rfl q⟩) (fun _ _ _ => ⟨fun q => absurd q z0, fun _ => h42'⟩)⟩) (fun _ _ _ => ⟨fun _ => h42', fun q => absurd q z0⟩)
  refine rn_put 17 (by decide) (by decide) r3 (by omega) (fun _ => by decide) (fun g => ⟨hx g.1 g.2.1, ⟨by decide, by decide⟩, by decide⟩) (fun w M6 F6 G6 r6 _ _ _ => h91 _ _ _ _ _ M6 F6 G6 (R_wk (H' := 0) r6 ⟨Int.le_refl _, Int.le_refl _, Int.le_refl _, Int.le_refl _⟩ (by decide) ⟨Int.le_refl _, by decide⟩ rfl) (by omega))
