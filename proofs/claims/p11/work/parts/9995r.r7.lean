/-! HOW FAR A RUN GOES, WITH WHAT IT PUTS. -/
section YJ1
variable {E : x_E} {y y' y1 z : y_X}
theorem gx_ex (e : G_ex b0 y y') (hn : Y_m y' 0 = Y_m y 0 ∧ Y_m y' 1 = Y_m y 1 ∧ Y_m y' 2 = Y_m y 2) (hz : Y_z y' = Y_z y) (hl : Y_l y' = Y_l y) (hc : Y_c y' = Y_c y) (hv : gv E y → gv E y') : gx E y y' := fun _ _ i v => by
  obtain ⟨⟨i1, i2⟩, i3, i4, i5, i6, i7⟩ := i
  have hB : Y_B y' = Y_B y := e.1.1
  have n1 : Y_n y' = Y_n y := by unfold Y_n; rw [hB, hn.1]
  have n2 : Y_T y' = Y_T y := by unfold Y_T; rw [hB, hn.2.1]
  have n3 : Y_V y' = Y_V y := by unfold Y_V; rw [hB, hn.2.2]
  obtain ⟨a1, a2⟩ := e.2.2.2.2.2.1 (Y_n y) (Nat.zero_le _) (Nat.le_refl _)
  refine ⟨⟨⟨⟨by rw [n1, a1, hz]; exact i1, by rw [n1, a2, hc]; exact i2⟩, by rw [hc]; exact G_wf e _ i3, ⟨by rw [hn.1, hz]; exact i4.1, mon_q i4.2 hB n1 (fun k hk => (e.2.2.2.2.2.1 k (Nat.zero_le _) hk).1) (by rw [hl]) (fun i hi => e.2.2.2.2.2.2.2.2.2 i hi) (fun k hk => e.2.2.1 13 k (by decide) (by decide) (Nat.zero_le _) hk)⟩, by rw [hn.2.1, hz]; exact i5, by rw [hn.2.2, hz]; exact i6, by rw [hB]; exact i7⟩, hv v⟩, hc, e, fun k h1 h2 => ?_, fun k h1 h2 => ?_, fun k h1 h2 => ?_⟩
  · rw [n1] at h2; omega
  · rw [n2] at h2; omega
  · rw [n3] at h2; omega
theorem gx_eq (hz : Y_z y' = Y_z y) (hl : Y_l y' = Y_l y) (hg : (Y_g y').1 = (Y_g y).1 ∧ (Y_g y').2.1 = (Y_g y).2.1 ∧ (Y_g y').2.2.1 = (Y_g y).2.2.1 ∧ (Y_g y').2.2.2.1 = (Y_g y).2.2.2.1 ∧ (Y_g y').2.2.2.2.1 = (Y_g y).2.2.2.2.1 ∧ (Y_g y').2.2.2.2.2.2 = (Y_g y).2.2.2.2.2.2) (hv : gv E y → gv E y' := by exact fun h => h) : gx E y y' := by
  obtain ⟨g1, g2, g3, g4, g5, g6⟩ := hg
  refine gx_ex ⟨⟨congrFun g3 3, by rw [hz]; exact Nat.le_refl _, Nat.le_of_eq (congrFun g3 0).symm, Nat.le_of_eq (congrFun g3 1).symm, Nat.le_of_eq (congrFun g3 2).symm⟩, fun p _ _ => congrFun g1 p, fun r k _ _ _ _ => congrFun (congrFun g2 r) k, fun r k _ _ _ _ => congrFun (congrFun g2 r) k, fun r k _ _ _ _ => congrFun (congrFun g2 r) k, fun k _ _ => ⟨congrFun (congrFun g4 0) k, congrFun (congrFun g5 0) k⟩, fun k _ => ⟨fun _ => ⟨congrFun (congrFun g4 1) k, congrFun (congrFun g4 7) k⟩, congrFun (congrFun g5 1) k⟩, fun k _ _ => ⟨congrFun (congrFun g4 2) k, congrFun (congrFun g4 3) k, congrFun (congrFun g4 8) k⟩, ⟨[], by rw [hl, List.append_nil]⟩, fun i _ => ⟨congrFun (congrFun g4 5) i, congrFun (congrFun g4 6) i⟩⟩ ⟨congrFun g3 0, congrFun g3 1, congrFun g3 2⟩ hz hl g6 hv
theorem gx_rf : gx E y y := gx_eq rfl rfl ⟨rfl, rfl, rfl, rfl, rfl, rfl⟩
/-- a code put -/
theorem Y_n_em {l : List Int32} {o : x_O} {c : List (Nat × Nat)} : Y_n (Y_em l o c y) = Y_n y + 1 ∧ Y_T (Y_em l o c y) = Y_T y ∧ Y_V (Y_em l o c y) = Y_V y ∧ Y_B (Y_em l o c y) = Y_B y := by
  have e3 : f1 (Y_m y) 0 (Y_m y 0 + 1) 3 = Y_m y 3 := f1_ne (by decide)
  have e1 : f1 (Y_m y) 0 (Y_m y 0 + 1) 1 = Y_m y 1 := f1_ne (by decide)
  have e2 : f1 (Y_m y) 0 (Y_m y 0 + 1) 2 = Y_m y 2 := f1_ne (by decide)
  have e0 : f1 (Y_m y) 0 (Y_m y 0 + 1) 0 = Y_m y 0 + 1 := f1_eq
  refine ⟨?_, ?_, ?_, e3⟩
  · show 9000 * f1 (Y_m y) 0 (Y_m y 0 + 1) 3 + f1 (Y_m y) 0 (Y_m y 0 + 1) 0 = 9000 * Y_m y 3 + Y_m y 0 + 1
    rw [e3, e0]; omega
  · show 400 * f1 (Y_m y) 0 (Y_m y 0 + 1) 3 + f1 (Y_m y) 0 (Y_m y 0 + 1) 1 = 400 * Y_m y 3 + Y_m y 1
    rw [e3, e1]
  · show 400 * f1 (Y_m y) 0 (Y_m y 0 + 1) 3 + f1 (Y_m y) 0 (Y_m y 0 + 1) 2 = 400 * Y_m y 3 + Y_m y 2
    rw [e3, e2]
theorem em_ex {b : x_b} {l : List Int32} {o : x_O} {c : List (Nat × Nat)} : G_ex b y (Y_em l o c y) := by
  have e3 : f1 (Y_m y) 0 (Y_m y 0 + 1) 3 = Y_m y 3 := f1_ne (by decide)
  have e1 : f1 (Y_m y) 0 (Y_m y 0 + 1) 1 = Y_m y 1 := f1_ne (by decide)
  have e2 : f1 (Y_m y) 0 (Y_m y 0 + 1) 2 = Y_m y 2 := f1_ne (by decide)
  have e0 : f1 (Y_m y) 0 (Y_m y 0 + 1) 0 = Y_m y 0 + 1 := f1_eq
  refine ⟨⟨e3, Nat.le_add_right _ _, ?_, ?_, ?_⟩, fun p _ hp => cl_lt hp, fun r k _ _ _ hk => r5_ne (by omega), fun r t h1 h2 _ _ => congrFun (r5_nr (Or.inr (by omega))) t, fun r t h1 h2 _ _ => congrFun (r5_nr (Or.inr (by omega))) t, fun k _ hk => ⟨?_, ?_⟩, fun t _ => ⟨fun _ => ⟨rfl, rfl⟩, rfl⟩, fun t _ _ => ⟨rfl, rfl, rfl⟩, ⟨[], (List.append_nil _).symm⟩, fun i _ => ⟨rfl, rfl⟩⟩
  · show Y_m y 0 ≤ f1 (Y_m y) 0 (Y_m y 0 + 1) 0
    rw [e0]; omega
  · show Y_m y 1 ≤ f1 (Y_m y) 0 (Y_m y 0 + 1) 1
    rw [e1]; exact Nat.le_refl _
  · show Y_m y 2 ≤ f1 (Y_m y) 0 (Y_m y 0 + 1) 2
    rw [e2]; exact Nat.le_refl _
  · show f2 (Y_a y) 0 (Y_n y + 1) (Y_z y + l.length) 0 k = Y_a y 0 k
    rw [f2_at, if_neg (by omega)]
  · show f2 (Y_k y) 0 (Y_n y + 1) c 0 k = Y_k y 0 k
    rw [f2_at, if_neg (by omega)]
theorem em_I {l : List Int32} {o : x_O} {c : List (Nat × Nat)} (i : gI y) (hl : 1 ≤ l.length) (hc : k_wf (gK y) c) : gI (Y_em l o c y) := by
  obtain ⟨⟨i1, -⟩, -, i4, i5, i6, i7⟩ := i
  obtain ⟨n1, n2, n3, n4⟩ := Y_n_em (y := y) (l := l) (o := o) (c := c)
  have e1 : f1 (Y_m y) 0 (Y_m y 0 + 1) 1 = Y_m y 1 := f1_ne (by decide)
  have e2 : f1 (Y_m y) 0 (Y_m y 0 + 1) 2 = Y_m y 2 := f1_ne (by decide)
  have e0 : f1 (Y_m y) 0 (Y_m y 0 + 1) 0 = Y_m y 0 + 1 := f1_eq
  refine ⟨⟨?_, ?_⟩, G_wf (b := b0) em_ex _ hc, ?_, ?_, ?_, by rw [n4]; exact i7⟩
  · rw [n1]
    show f2 (Y_a y) 0 (Y_n y + 1) (Y_z y + l.length) 0 (Y_n y + 1) = Y_z y + l.length
    rw [f2_eq, f1_eq]
  · rw [n1]
    show f2 (Y_k y) 0 (Y_n y + 1) c 0 (Y_n y + 1) = c
    rw [f2_eq, f1_eq]
  · refine ⟨?_, mon_s (y' := Y_em l o c y) i4.2 i1 n4 n1 (fun k hk => ?_) rfl (fun i hi => ⟨?_, ?_⟩) (fun k hk => ?_) ?_⟩
    · show f1 (Y_m y) 0 (Y_m y 0 + 1) 0 ≤ Y_z y + l.length
      rw [e0]; omega
    · show f2 (Y_a y) 0 (Y_n y + 1) (Y_z y + l.length) 0 k = Y_a y 0 k
      rw [f2_at, if_neg (by omega)]
    · show f2 (Y_a y) 0 (Y_n y + 1) (Y_z y + l.length) 5 i = Y_a y 5 i
      rw [f2_ne (by decide)]
    · show f2 (Y_a y) 0 (Y_n y + 1) (Y_z y + l.length) 6 i = Y_a y 6 i
      rw [f2_ne (by decide)]
    · show r5 (Y_R y) (Y_n y) o 13 k = Y_R y 13 k
      exact r5_ne (by omega)
    · show Y_z y < f2 (Y_a y) 0 (Y_n y + 1) (Y_z y + l.length) 0 (Y_n y + 1)
      rw [f2_eq, f1_eq]; omega
  · show f1 (Y_m y) 0 (Y_m y 0 + 1) 1 ≤ Y_z y + l.length
    rw [e1]; omega
  · show 4 * f1 (Y_m y) 0 (Y_m y 0 + 1) 2 ≤ Y_z y + l.length
    rw [e2]; omega
/-- the code that was put stands as it should, if what its number asks for holds -/
theorem em_at {l : List Int32} {o : x_O} {c : List (Nat × Nat)} (i : gI y) (hen : k_en (gK (Y_em l o c y)) (Y_R (Y_em l o c y)) (Y_n y) = l) (h3 : ¬ o.1 = 19 → ¬ o.1 = 20 → ¬ o.1 = 23 → ¬ o.1 = 22 → ¬ o.1 = 24 → c = Y_c y) (h4 : o.1 = 20 ∨ o.1 = 21 → k_tg (gK (Y_em l o c y)) o.2.1 (Y_c y)) (h5 : o.1 = 22 → ∃ a : Nat, o.2.1 = nI a ∧ (400 * Y_B y ≤ a ∧ a < Y_T y) ∧ c = (a, 0) :: Y_c y ∧ Y_k y 1 a = Y_c y) (h6 : o.1 = 23 → ∃ a ph : Nat, o.2.1 = nI a ∧ (400 * Y_B y ≤ a ∧ a < Y_T y) ∧ ph < 2 ∧ Y_c y = (a, ph) :: Y_k y 1 a) (h7 : o.1 = 24 → ∃ a : Nat, Y_c y = (a, 2) :: Y_k y 1 a ∧ c = Y_k y 1 a) (h8 : (o.1 = 8 → ¬ o.2.2.1 = -1) ∧ (o.1 = 13 → -2 ≤ o.2.2.2.1.toInt)) (h9 : ¬ o.1 = 18) : k_at (gK (Y_em l o c y)) (Y_R (Y_em l o c y)) (Y_n y) := by
  obtain ⟨n1, n2, n3, n4⟩ := Y_n_em (y := y) (l := l) (o := o) (c := c)
  obtain ⟨z1, z2, z3, z4, z5⟩ := r5_at (R := Y_R y) (k := Y_n y) (o := o)
  have z1 : Y_R (Y_em l o c y) 13 (Y_n y) = o.1 := z1
  have z2 : Y_R (Y_em l o c y) 14 (Y_n y) = o.2.1 := z2
  have z3 : Y_R (Y_em l o c y) 15 (Y_n y) = o.2.2.1 := z3
  have z4 : Y_R (Y_em l o c y) 16 (Y_n y) = o.2.2.2.1 := z4
  obtain ⟨⟨i1, i2⟩, i3, -⟩ := i
  have a0 : Y_a (Y_em l o c y) 0 (Y_n y) = Y_z y := by
    show f2 (Y_a y) 0 (Y_n y + 1) (Y_z y + l.length) 0 (Y_n y) = Y_z y
    rw [f2_at, if_neg (by omega)]; exact i1
  have a1 : Y_a (Y_em l o c y) 0 (Y_n y + 1) = Y_z y + l.length := by
    show f2 (Y_a y) 0 (Y_n y + 1) (Y_z y + l.length) 0 (Y_n y + 1) = Y_z y + l.length
    rw [f2_eq, f1_eq]
  have x0 : Y_k (Y_em l o c y) 0 (Y_n y) = Y_c y := by
    show f2 (Y_k y) 0 (Y_n y + 1) c 0 (Y_n y) = Y_c y
    rw [f2_at, if_neg (by omega)]; exact i2
  have x1 : Y_k (Y_em l o c y) 0 (Y_n y + 1) = c := by
    show f2 (Y_k y) 0 (Y_n y + 1) c 0 (Y_n y + 1) = c
    rw [f2_eq, f1_eq]
  unfold k_at
  rw [hen, z1, z2, z3, z4]
  refine ⟨⟨?_, fun j hj => ?_⟩, fun _ _ _ => ⟨?_, ?_⟩, fun q1 q2 q3 q4 q5 => ?_, fun q => ?_, fun q => ?_, fun q => ?_, fun q => ?_, h8, fun q => absurd q h9, ?_⟩
  · show Y_a (Y_em l o c y) 0 (Y_n y) + l.length ≤ Y_z y + l.length
    rw [a0]; exact Nat.le_refl _
  · show cl (Y_C y) (Y_z y) l (Y_a (Y_em l o c y) 0 (Y_n y) + j) = _
    rw [a0]; exact cl_at hj
  · show Y_a (Y_em l o c y) 0 (Y_n y + 1) = Y_a (Y_em l o c y) 0 (Y_n y) + l.length
    rw [a0, a1]
  · show Y_n y + 1 < Y_n (Y_em l o c y) + 1
    rw [n1]; omega
  · show Y_k (Y_em l o c y) 0 (Y_n y + 1) = Y_k (Y_em l o c y) 0 (Y_n y)
    rw [x0, x1]; exact h3 q1 q2 q3 q4 q5
  · show k_tg _ _ (Y_k (Y_em l o c y) 0 (Y_n y))
    rw [x0]; exact h4 q
  · obtain ⟨a, b1, ⟨b2, b3⟩, b4, b5⟩ := h5 q
    exact ⟨a, b1, ⟨by show 400 * Y_B (Y_em l o c y) ≤ a; rw [n4]; exact b2, by show a < Y_T (Y_em l o c y); rw [n2]; exact b3⟩, by show Y_k (Y_em l o c y) 0 (Y_n y + 1) = (a, 0) :: Y_k (Y_em l o c y) 0 (Y_n y); rw [x0, x1]; exact b4, by show Y_k y 1 a = Y_k (Y_em l o c y) 0 (Y_n y); rw [x0]; exact b5⟩
  · obtain ⟨a, ph, b1, ⟨b2, b3⟩, b4, b5⟩ := h6 q
    exact ⟨a, ph, b1, ⟨by show 400 * Y_B (Y_em l o c y) ≤ a; rw [n4]; exact b2, by show a < Y_T (Y_em l o c y); rw [n2]; exact b3⟩, b4, by show Y_k (Y_em l o c y) 0 (Y_n y) = (a, ph) :: Y_k y 1 a; rw [x0]; exact b5⟩
  · obtain ⟨a, b4, b5⟩ := h7 q
    exact ⟨a, by show Y_k (Y_em l o c y) 0 (Y_n y) = (a, 2) :: Y_k y 1 a; rw [x0]; exact b4, by show Y_k (Y_em l o c y) 0 (Y_n y + 1) = Y_k y 1 a; rw [x1]; exact b5⟩
  · show k_wf (gK (Y_em l o c y)) (Y_k (Y_em l o c y) 0 (Y_n y))
    rw [x0]; exact G_wf (b := b0) em_ex _ i3
/-- a code that goes straight on -/
theorem gx_em {l : List Int32} {o : x_O} (ho : ¬ o.1 = 18 ∧ ¬ o.1 = 20 ∧ ¬ o.1 = 21 ∧ ¬ o.1 = 22 ∧ ¬ o.1 = 23 ∧ ¬ o.1 = 24) (hl1 : 1 ≤ l.length) (hl : Y_2 y = false → Y_3 y = false → gv E y → l = k_e o.1 o.2.1 o.2.2.1 o.2.2.2.1 o.2.2.2.2 0 0 0 0) (h8 : Y_2 y = false → Y_3 y = false → gv E y → (o.1 = 8 → ¬ o.2.2.1 = -1) ∧ (o.1 = 13 → -2 ≤ o.2.2.2.1.toInt)) : gx E y (Y_em l o (Y_c y) y) := fun q2 q3 i v => by
  obtain ⟨n1, n2, n3, n4⟩ := Y_n_em (y := y) (l := l) (o := o) (c := Y_c y)
  obtain ⟨z1, z2, z3, z4, z5⟩ := r5_at (R := Y_R y) (k := Y_n y) (o := o)
  have z1 : Y_R (Y_em l o (Y_c y) y) 13 (Y_n y) = o.1 := z1
  obtain ⟨o1, o2, o3, o4, o5, o6⟩ := ho
  have hen : k_en (gK (Y_em l o (Y_c y) y)) (Y_R (Y_em l o (Y_c y) y)) (Y_n y) = l := by
    refine Eq.trans ?_ (hl q2 q3 v).symm
    unfold k_en
    rw [z1, show Y_R (Y_em l o (Y_c y) y) 14 (Y_n y) = o.2.1 from z2, show Y_R (Y_em l o (Y_c y) y) 15 (Y_n y) = o.2.2.1 from z3, show Y_R (Y_em l o (Y_c y) y) 16 (Y_n y) = o.2.2.2.1 from z4, show Y_R (Y_em l o (Y_c y) y) 17 (Y_n y) = o.2.2.2.2 from z5]
    have e1 := k_e_cg (n := o.1) (a := o.2.1) (b := o.2.2.1) (c := o.2.2.2.1) (w := o.2.2.2.2) (j := nI (K_A (gK (Y_em l o (Y_c y) y)) o.2.1.toNatClampNeg)) (t := k_hx (gK (Y_em l o (Y_c y) y)) (Y_R (Y_em l o (Y_c y) y) 20 o.2.1.toNatClampNeg)) (l := nI (K_L (gK (Y_em l o (Y_c y) y)) o.2.1.toNatClampNeg)) (h := o.2.1 - nI (400 * K_B (gK (Y_em l o (Y_c y) y)))) (j' := 0) (t' := 0) (l' := 0) (fun q => absurd q (fun q => q.elim o2 o3)) (fun q => absurd q o4)
    rw [e1]
    unfold k_e
    have e18 : ∀ (h : Int32) (X : List Int32), (if o.1 = 18 then (if o.2.2.2.1 = -1 then [2, h, o.2.2.1, 10] else [2, h, o.2.2.1, 9, o.2.2.2.1]) else X) = X := fun h X => if_neg o1
    rw [e18, e18]
  refine ⟨⟨em_I i hl1 i.2.1, v⟩, rfl, em_ex, fun k h1 h2 => ?_, fun k h1 h2 => ?_, fun k h1 h2 => ?_⟩
  · rw [n1] at h2
    have ek : k = Y_n y := by omega
    subst ek
    refine ⟨fun _ => em_at i hen (fun _ _ _ _ _ => rfl) (fun q => absurd q (fun q => q.elim o2 o3)) (fun q => absurd q o4) (fun q => absurd q o5) (fun q => absurd q o6) (h8 q2 q3 v) o1, fun q => absurd (z1.symm.trans q) o1, fun q => absurd (z1.symm.trans q) o4, ?_, fun q => absurd q (fun q => q.elim (fun q => o2 (z1.symm.trans q)) (fun q => o3 (z1.symm.trans q)))⟩
    show Y_z y ≤ f2 (Y_a y) 0 (Y_n y + 1) (Y_z y + l.length) 0 (Y_n y)
    rw [f2_at, if_neg (by omega)]
    exact Nat.le_of_eq i.1.1.symm
  · rw [n2] at h2; omega
  · rw [n3] at h2; omega
end YJ1
