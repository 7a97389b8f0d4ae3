/-! STATEMENTS: hear, with what it puts. -/
section YS5
variable {E : x_E} {x y y' : y_X} {w : Nat} {c : Int32}
theorem RG_put {k : x_B} {M : Nat → Int32} {F : Nat → Nat → Int32} {a b c d : Int32} (h : RG E k M F y) (e27 : nf y → M 27 = nI k.1) (hv : vp_in (9000 * M 27 + M 29) 18000) : RG E k (um M 29 (M 29 + 1)) (uf (uf (uf (uf (uf F 13 (9000 * M 27 + M 29) a) 14 (9000 * M 27 + M 29) b) 15 (9000 * M 27 + M 29) c) 16 (9000 * M 27 + M 29) d) 17 (9000 * M 27 + M 29) (-1)) (Y_rs (a, b, c, d, -1) y) := fun n => by
  have n : nf y := n
  have er : 9000 * M 27 + M 29 = nI (Y_n y) := by
    obtain ⟨a1, ⟨a2, -⟩, -⟩ := h n
    rw [e27 n, a1, a2, show (9000 : Int32) = nI 9000 from rfl, pk_mul, nI_add]; rfl
  obtain ⟨a1, ⟨a2, a3, a4⟩, ⟨a5, a5', a5''⟩, a6, a7, a8, a9, a10, a11⟩ := h n
  rw [er] at hv ⊢
  have lt : Y_n y < 18000 := by
    have := vp_in_iff.mp hv
    rw [fs_nI (by omega)] at this
    omega
  have cn : (nI (Y_n y)).toNatClampNeg = Y_n y := y_cl (by omega)
  have en : Y_n (Y_rs (a, b, c, d, -1) y) = Y_n y + 1 := by
    show 9000 * f1 (Y_m y) 0 (Y_m y 0 + 1) 3 + f1 (Y_m y) 0 (Y_m y 0 + 1) 0 = 9000 * Y_m y 3 + Y_m y 0 + 1
    rw [f1_ne (by decide), f1_eq]; omega
  refine ⟨a1, ⟨?_, a3, a4⟩, ⟨by rw [en]; omega, a5', a5''⟩, fun r i h1 h2 h3 h4 => ?_, fun r i h1 h2 h3 h4 h5 => ?_, fun r i h1 h2 h3 h4 h5 => ?_, fun j hj => ?_, a10, a11⟩
  · show M 29 + 1 = nI (f1 (Y_m y) 0 (Y_m y 0 + 1) 0)
    rw [a2, f1_eq, y_1]
  · rw [en] at h4
    show uf (uf (uf (uf (uf F 13 (nI (Y_n y)) a) 14 (nI (Y_n y)) b) 15 (nI (Y_n y)) c) 16 (nI (Y_n y)) d) 17 (nI (Y_n y)) (-1) r i = r5 (Y_R y) (Y_n y) (a, b, c, d, -1) r i
    by_cases q : i = Y_n y
    · subst q
      obtain ⟨z1, z2, z3, z4, z5⟩ := r5_at (R := Y_R y) (k := Y_n y) (o := (a, b, c, d, -1))
      have cs : r = 13 ∨ r = 14 ∨ r = 15 ∨ r = 16 ∨ r = 17 := by omega
      rcases cs with rfl | rfl | rfl | rfl | rfl
      · rw [z1]; simp only [uf_at2, cn]; rfl
      · rw [z2]; simp only [uf_at2, cn]; rfl
      · rw [z3]; simp only [uf_at2, cn]; rfl
      · rw [z4]; simp only [uf_at2, cn]; rfl
      · rw [z5]; simp only [uf_at2, cn]; rfl
    · rw [r5_ne q, uf_at2, cn, if_neg (fun z => q z.2), uf_at2, cn, if_neg (fun z => q z.2), uf_at2, cn, if_neg (fun z => q z.2), uf_at2, cn, if_neg (fun z => q z.2), uf_at2, cn, if_neg (fun z => q z.2)]
      exact a6 r i h1 h2 h3 (by omega)
  · show uf (uf (uf (uf (uf F 13 _ a) 14 _ b) 15 _ c) 16 _ d) 17 _ (-1) r i = r5 (Y_R y) (Y_n y) (a, b, c, d, -1) r i
    rw [r5_nr (Or.inr (by omega)), uf_row (by omega), uf_row (by omega), uf_row (by omega), uf_row (by omega), uf_row (by omega)]; exact a7 r i h1 h2 h3 h4 h5
  · show uf (uf (uf (uf (uf F 13 _ a) 14 _ b) 15 _ c) 16 _ d) 17 _ (-1) r i = r5 (Y_R y) (Y_n y) (a, b, c, d, -1) r i
    rw [r5_nr (Or.inr (by omega)), uf_row (by omega), uf_row (by omega), uf_row (by omega), uf_row (by omega), uf_row (by omega)]; exact a8 r i h1 h2 h3 h4 h5
  · exact a9 j hj
/-- what the reference's rows are held against -/
theorem RG_cg {k : x_B} {M M' : Nat → Int32} {F F' : Nat → Nat → Int32} (hf : nf y' → nf y) (hr : Y_r y' = Y_r y) (hm : Y_m y' = Y_m y) (hR : Y_R y' = Y_R y) (hi : Y_i y' = Y_i y) (hu : Y_u y' = Y_u y) (hS : Y_S y' = Y_S y) (h7 : Y_a y' 7 = Y_a y 7) (h8 : Y_a y' 8 = Y_a y 8) (h : RG E k M F y) (hM : M' 29 = M 29 ∧ M' 31 = M 31 ∧ M' 32 = M 32) (hF : ∀ r, (r = 10 ∨ (13 ≤ r ∧ r ≤ 41 ∧ r ≠ 19)) → F' r = F r) (h9 : nf y' → ∀ i, i < (Y_l y').length → F' 42 i = nI (Y_a y' 5 i)) : RG E k M' F' y' := fun n => by
  obtain ⟨p1, ⟨p2, p2', p2''⟩, p3, p4, p5, p6, p7, p8, p9⟩ := h (hf n)
  have hB : Y_B y' = Y_B y := congrFun hm 3
  have hn : Y_n y' = Y_n y := by unfold Y_n; rw [hB, hm]
  have hT : Y_T y' = Y_T y := by unfold Y_T; rw [hB, hm]
  have hV : Y_V y' = Y_V y := by unfold Y_V; rw [hB, hm]
  rw [hB, hn, hT, hV, hm, hR, hi, hu, hS, h7, h8, hr]
  refine ⟨p1, ⟨hM.1.trans p2, hM.2.1.trans p2', hM.2.2.trans p2''⟩, p3, fun r i h1 h2 h3 h4 => ?_, fun r i h1 h2 h3 h4 h5 => ?_, fun r i h1 h2 h3 h4 h5 => ?_, fun j hj => ?_, fun w' hw' => ?_, h9 n⟩
  · rw [hF r (Or.inr (by omega))]; exact p4 r i h1 h2 h3 h4
  · rw [hF r (Or.inr (by omega))]; exact p5 r i h1 h2 h3 h4 h5
  · rw [hF r (Or.inr (by omega))]; exact p6 r i h1 h2 h3 h4 h5
  · rw [hF 18 (Or.inr (by decide))]; exact p7 j hj
  · rw [hF 10 (Or.inl rfl)]; exact p8 w' hw'
/-- what the class's rows are held against -/
theorem rcG_cg {k : x_Kt} {s : f_S3} (e : yx y' = yx y) (hg : nf y → Y_C y' = Y_C y ∧ Y_S y' = Y_S y ∧ Y_a y' 4 = Y_a y 4 ∧ Y_a y' 6 = Y_a y 6) (h : rcG E k s y) : rcG E k s y' := by
  refine ⟨by rw [e]; exact h.1, fun n => ?_⟩
  have e1 : y'.1 = y.1 := congrArg (fun x : x_X => x.1) e
  have e2 : Y_2 y' = Y_2 y := congrArg X_2 e
  have e3 : Y_3 y' = Y_3 y := congrArg X_3 e
  have ez : Y_z y' = Y_z y := congrArg X_z e
  have eu : Y_u y' = Y_u y := congrArg X_u e
  have ei : Y_i y' = Y_i y := congrArg X_i e
  have el : Y_l y' = Y_l y := congrArg X_l e
  have er : Y_r y' = Y_r y := congrArg X_r e
  have n : nf y := ⟨e1.symm.trans n.1, e2.symm.trans n.2.1, e3.symm.trans n.2.2⟩
  obtain ⟨g1, g2, g3, g4⟩ := hg n
  rw [ez, eu, ei, el, er, g1, g2, g4]
  exact h.2 n
/-- a hear kept: list and maps -/
def Y_lm (w : Nat) (c : Int32) (n p : Nat) (y : y_X) : y_X := (y.1, Y_t y, Y_z y, Y_i y, Y_2 y, Y_3 y, Y_u y, Y_v y, Y_r y, Y_l y ++ [(w, c)], Y_C y, Y_R y, Y_m y, f2 (f2 (Y_a y) 5 (Y_l y).length n) 6 (Y_l y).length p, Y_k y, Y_S y, Y_c y)
def Y_he (l : List Int32) (sl : Int32) (w : Nat) (c : Int32) (y : y_X) : y_X := Y_lm w c (Y_n y) (Y_z y + 1) (Y_em l (18, 0, c, sl, -1) (Y_c y) y)
theorem lm_ex {b : x_b} {n p : Nat} : G_ex b y (Y_lm w c n p y) := by
  refine ⟨⟨rfl, Nat.le_refl _, Nat.le_refl _, Nat.le_refl _, Nat.le_refl _⟩, fun _ _ _ => rfl, fun _ _ _ _ _ _ => rfl, fun _ _ _ _ _ _ => rfl, fun _ _ _ _ _ _ => rfl, fun q _ _ => ⟨?_, rfl⟩, fun q _ => ⟨fun _ => ⟨?_, ?_⟩, rfl⟩, fun q _ _ => ⟨?_, ?_, ?_⟩, ⟨[(w, c)], rfl⟩, fun i hi => ⟨?_, ?_⟩⟩
  · show f2 (f2 (Y_a y) 5 (Y_l y).length n) 6 (Y_l y).length p 0 q = _
    rw [f2_ne (by decide), f2_ne (by decide)]
  · show f2 (f2 (Y_a y) 5 (Y_l y).length n) 6 (Y_l y).length p 1 q = _
    rw [f2_ne (by decide), f2_ne (by decide)]
  · show f2 (f2 (Y_a y) 5 (Y_l y).length n) 6 (Y_l y).length p 7 q = _
    rw [f2_ne (by decide), f2_ne (by decide)]
  · show f2 (f2 (Y_a y) 5 (Y_l y).length n) 6 (Y_l y).length p 2 q = _
    rw [f2_ne (by decide), f2_ne (by decide)]
  · show f2 (f2 (Y_a y) 5 (Y_l y).length n) 6 (Y_l y).length p 3 q = _
    rw [f2_ne (by decide), f2_ne (by decide)]
  · show f2 (f2 (Y_a y) 5 (Y_l y).length n) 6 (Y_l y).length p 8 q = _
    rw [f2_ne (by decide), f2_ne (by decide)]
  · show f2 (f2 (Y_a y) 5 (Y_l y).length n) 6 (Y_l y).length p 5 i = _
    rw [f2_ne (by decide), f2_at, if_neg (by omega)]
  · show f2 (f2 (Y_a y) 5 (Y_l y).length n) 6 (Y_l y).length p 6 i = _
    rw [f2_at, if_neg (by omega), f2_ne (by decide)]
theorem lm_I {n p : Nat} (i : gI y) (hn : 9000 * Y_B y ≤ n ∧ n < Y_n y) (hp : p = Y_a y 0 n + 1) (h18 : Y_R y 13 n = 18) : gI (Y_lm w c n p y) := by
  obtain ⟨⟨i1, i2⟩, i3, ⟨i4, i4'⟩, i5⟩ := i
  have e0 : ∀ k, Y_a (Y_lm w c n p y) 0 k = Y_a y 0 k := fun k => by
    show f2 (f2 (Y_a y) 5 (Y_l y).length n) 6 (Y_l y).length p 0 k = Y_a y 0 k
    rw [f2_ne (by decide), f2_ne (by decide)]
  refine ⟨⟨(e0 _).trans i1, i2⟩, G_wf (b := b0) lm_ex _ i3, ⟨i4, fun k h1 h2 => ?_, fun j hj => ?_⟩, i5⟩
  · rw [e0, e0]; exact i4'.1 k h1 h2
  · have hj : j < (Y_l y ++ [(w, c)]).length := hj
    rw [List.length_append] at hj
    have hj : j < (Y_l y).length + 1 := hj
    have e5 : Y_a (Y_lm w c n p y) 5 j = if j = (Y_l y).length then n else Y_a y 5 j := by
      show f2 (f2 (Y_a y) 5 (Y_l y).length n) 6 (Y_l y).length p 5 j = _
      rw [f2_ne (by decide), f2_eq]; rfl
    have e6 : Y_a (Y_lm w c n p y) 6 j = if j = (Y_l y).length then p else Y_a y 6 j := by
      show f2 (f2 (Y_a y) 5 (Y_l y).length n) 6 (Y_l y).length p 6 j = _
      rw [f2_eq, f2_ne (by decide)]; rfl
    by_cases z : j = (Y_l y).length
    · rw [if_pos z] at e5 e6
      rw [e5, e6, e0]
      exact ⟨hn, hp, h18⟩
    · rw [if_neg z] at e5 e6
      rw [e5, e6, e0]
      exact i4'.2 j (by omega)
theorem gx_he {l : List Int32} {sl : Int32} (hl : Y_2 y = false → Y_3 y = false → gv E y → (sl = -1 ∧ l = [2, nI (33 + w), c, 10]) ∨ (¬ sl = -1 ∧ l = [2, nI (33 + w), c, 9, sl])) (h1 : 1 ≤ l.length) : gx E y (Y_he l sl w c y) := fun q2 q3 i v => by
  have hl := hl q2 q3 v
  obtain ⟨n1, n2, n3, n4⟩ := Y_n_em (y := y) (l := l) (o := (18, 0, c, sl, -1)) (c := Y_c y)
  obtain ⟨z1, z2, z3, z4, z5⟩ := r5_at (R := Y_R y) (k := Y_n y) (o := (18, 0, c, sl, -1))
  have e1 : G_ex b0 y (Y_em l (18, 0, c, sl, -1) (Y_c y) y) := em_ex
  have e2 : G_ex b0 (Y_em l (18, 0, c, sl, -1) (Y_c y) y) (Y_he l sl w c y) := lm_ex
  have I1 := em_I (o := (18, 0, c, sl, -1)) i h1 i.2.1
  have I2 : gI (Y_he l sl w c y) := by
    refine lm_I I1 ⟨?_, by rw [n1]; exact Nat.lt_succ_self _⟩ ?_ z1
    · rw [n4]; unfold Y_n; omega
    · show Y_z y + 1 = f2 (Y_a y) 0 (Y_n y + 1) (Y_z y + l.length) 0 (Y_n y) + 1
      rw [f2_at, if_neg (by omega), i.1.1]
  refine ⟨⟨I2, gv_cg rfl rfl rfl rfl rfl v⟩, rfl, G_tr e1 e2, fun k h1 h2 => ?_, fun k h1 h2 => ?_, fun k h1 h2 => ?_⟩
  · have h2 : k < Y_n (Y_em l (18, 0, c, sl, -1) (Y_c y) y) := h2
    rw [n1] at h2
    have ek : k = Y_n y := by omega
    subst ek
    have r13 : Y_R (Y_he l sl w c y) 13 (Y_n y) = 18 := z1
    have r15 : Y_R (Y_he l sl w c y) 15 (Y_n y) = c := z3
    have r16 : Y_R (Y_he l sl w c y) 16 (Y_n y) = sl := z4
    have a0 : Y_a (Y_he l sl w c y) 0 (Y_n y) = Y_z y := by
      show f2 (f2 (f2 (Y_a y) 0 (Y_n y + 1) (Y_z y + l.length)) 5 (Y_l y).length (Y_n y)) 6 (Y_l y).length (Y_z y + 1) 0 (Y_n y) = Y_z y
      rw [f2_ne (by decide), f2_ne (by decide), f2_at, if_neg (by omega)]; exact i.1.1
    have a1 : Y_a (Y_he l sl w c y) 0 (Y_n y + 1) = Y_z y + l.length := by
      show f2 (f2 (f2 (Y_a y) 0 (Y_n y + 1) (Y_z y + l.length)) 5 (Y_l y).length (Y_n y)) 6 (Y_l y).length (Y_z y + 1) 0 (Y_n y + 1) = Y_z y + l.length
      rw [f2_ne (by decide), f2_ne (by decide), f2_eq, f1_eq]
    have a5 : Y_a (Y_he l sl w c y) 5 (Y_l y).length = Y_n y := by
      show f2 (f2 (f2 (Y_a y) 0 (Y_n y + 1) (Y_z y + l.length)) 5 (Y_l y).length (Y_n y)) 6 (Y_l y).length (Y_z y + 1) 5 (Y_l y).length = Y_n y
      rw [f2_ne (by decide), f2_eq, f1_eq]
    have a6 : Y_a (Y_he l sl w c y) 6 (Y_l y).length = Y_z y + 1 := by
      show f2 (f2 (f2 (Y_a y) 0 (Y_n y + 1) (Y_z y + l.length)) 5 (Y_l y).length (Y_n y)) 6 (Y_l y).length (Y_z y + 1) 6 (Y_l y).length = Y_z y + 1
      rw [f2_eq, f1_eq]
    have x0 : Y_k (Y_he l sl w c y) 0 (Y_n y) = Y_c y := by
      show f2 (Y_k y) 0 (Y_n y + 1) (Y_c y) 0 (Y_n y) = Y_c y
      rw [f2_at, if_neg (by omega)]; exact i.1.2
    have x1 : Y_k (Y_he l sl w c y) 0 (Y_n y + 1) = Y_c y := by
      show f2 (Y_k y) 0 (Y_n y + 1) (Y_c y) 0 (Y_n y + 1) = Y_c y
      rw [f2_eq, f1_eq]
    have eg : (Y_l (Y_he l sl w c y)).getD (Y_l y).length (0, 0) = (w, c) := by
      show (Y_l y ++ [(w, c)]).getD (Y_l y).length (0, 0) = (w, c)
      simp [List.getD_eq_getElem?_getD]
    have hlen : (Y_l (Y_he l sl w c y)).length = (Y_l y).length + 1 := by
      show (Y_l y ++ [(w, c)]).length = (Y_l y).length + 1
      rw [List.length_append]; rfl
    have hC : ∀ j, j < l.length → Y_C (Y_he l sl w c y) (Y_z y + j) = l.getD j 0 := fun j hj => cl_at hj
    refine ⟨fun q => absurd r13 q, fun _ => ?_, fun q => absurd (r13.symm.trans q) (by decide), ?_, fun q => absurd q (fun q => q.elim (fun q => absurd (r13.symm.trans q) (by decide)) (fun q => absurd (r13.symm.trans q) (by decide)))⟩
    · unfold G_hr
      rw [a0, a1, r15, r16, x0, x1]
      refine ⟨(Y_l y).length, ⟨by rw [hlen]; exact Nat.lt_succ_self _, a5, a6, by rw [eg]⟩, ?_⟩
      rw [eg]
      have wf := G_wf (G_tr e1 e2) _ i.2.1
      rcases hl with ⟨q, e⟩ | ⟨q, e⟩
      · rw [e] at hC wf ⊢
        refine ⟨⟨hC 0 (by show 0 < 4; decide), hC 1 (by show 1 < 4; decide), hC 2 (by show 2 < 4; decide)⟩, fun _ => ⟨hC 3 (by show 3 < 4; decide), rfl⟩, fun z => absurd q z, Nat.le_refl _, rfl, wf⟩
      · rw [e] at hC wf ⊢
        refine ⟨⟨hC 0 (by show 0 < 5; decide), hC 1 (by show 1 < 5; decide), hC 2 (by show 2 < 5; decide)⟩, fun z => absurd z q, fun _ => ⟨hC 3 (by show 3 < 5; decide), hC 4 (by show 4 < 5; decide), rfl⟩, Nat.le_refl _, rfl, wf⟩
    · rw [a0]; exact Nat.le_refl _
  · have h2 : k < Y_T (Y_em l (18, 0, c, sl, -1) (Y_c y) y) := h2
    rw [n2] at h2; omega
  · have h2 : k < Y_V (Y_em l (18, 0, c, sl, -1) (Y_c y) y) := h2
    rw [n3] at h2; omega
/-- the class: a hear kept -/
theorem cj_putC {N : Nat → Nat} {v : Int32} {s : f_S3} {O : Nat × Nat} {Q1 Q2 Q3 : Int32 → f_S3 → Nat × Nat → Prop} (h1 : wF_X6_put N v s O Q1) (h2 : wF_X6_put N v s O Q2) (hq : ∀ r s', Q1 r s' O → Q2 r s' O → Q3 r s' O) : wF_X6_put N v s O Q3 := ⟨fun q => hq _ _ (h1.1 q) (h2.1 q), fun q => ⟨(h1.2 q).1, hq _ _ (h1.2 q).2 (h2.2 q).2⟩⟩
theorem fF_keep {N : Nat → Nat} {p q : Int32} {s : f_S3} {O : Nat × Nat} {Q Q' : f_S3 → Nat × Nat → Prop} (h : wF_X7_keepHear N p q s O Q) (h1 : nI (N 26) ≤ s.1 8 ∨ nI (N 27) ≤ s.1 8 → Q s O → Q' s O) (h2 : Q (fm (ff (ff s 26 (s.1 8) p) 27 (s.1 8) q) 8 (s.1 8 + 1)) O → Q' (fm (ff (ff s 26 (s.1 8) p) 27 (s.1 8) q) 8 (s.1 8 + 1)) O) : wF_X7_keepHear N p q s O Q' := ⟨fun a => h1 (Or.inl a) (h.1 a), fun a => ⟨fun b => h1 (Or.inr b) ((h.2 a).1 b), fun b => ⟨((h.2 a).2 b).1, ((h.2 a).2 b).2.1, h2 ((h.2 a).2 b).2.2⟩⟩⟩
theorem cg_keep (hE : E_ok E) {k : x_Kt} {s : f_S3} {O : Nat × Nat} (h : rcG E k s x) (hlo : Y_lo E 13 x) (h9 : x.1 = false → 9 * (Y_l x).length ≤ E_n E) {a2 a3 : Int32} (ha : x.1 = false → a2 = nI (33 + w) ∧ ¬ a3 = -1) {Q : f_S3 → Nat × Nat → Prop} (hQ : ∀ s', rcG E k s' (Y_lm w c (Y_n x) (Y_z x + 1) (Y_cs [2, nI (33 + w), c] x)) → Q s' O) : wF_X7_emit__ (E_N E) 2 a2 c s O (fun s5 O5 => wF_X7_keepHear (E_N E) ((s5.1 63) - 2) a3 s5 O5 Q) := by
  obtain ⟨n26, n27, n26'⟩ := E_26 hE
  have A := c_keep (w := w) (c := c) hE h.1 hlo h9 ha (O := O) (Q := fun s' _ => rc E k s' (X_sl w c (X_pt 3 (yx x)))) (fun s' h' => h')
  refine cj_putC A (cg_put hE h hlo (by decide) (Q := fun _ s' _ => rcG E k s' (Y_cs [2] x)) (fun _ s' _ h' => h')) (fun r1 s1 A1 h1 => ?_)
  refine cj_putC A1 (cg_put hE h1 (Y_lo_p hlo _) (show 13 + 1 ≤ 15 by decide) (Q := fun _ s' _ => rcG E k s' (Y_cs [a2] (Y_cs [2] x))) (fun _ s' _ h' => h')) (fun r2 s2 A2 h2 => ?_)
  refine cj_putC A2 (cg_put (c := 13 + 1 + 1) hE h2 (Y_lo_p (Y_lo_p hlo _) _) (show 13 + 1 + 1 ≤ 15 by decide) (Q := fun _ s' _ => rcG E k s' (Y_cs [c] (Y_cs [a2] (Y_cs [2] x)))) (fun _ s' _ h' => h')) (fun r3 s3 A3 h3 => ?_)
  rw [Y_csa, Y_csa] at h3
  have h3 : rcG E k s3 (Y_cs [2, a2, c] x) := h3
  have A3 : wF_X7_keepHear (E_N E) ((s3.1 63) - 2) a3 s3 O (fun s' _ => rc E k s' (X_sl w c (X_pt 3 (yx x)))) := A3
  have eX : yx (Y_lm w c (Y_n x) (Y_z x + 1) (Y_cs [2, nI (33 + w), c] x)) = X_sl w c (X_pt 3 (yx x)) := by unfold yx Y_lm Y_cs; rfl
  have nfx : nf (Y_lm w c (Y_n x) (Y_z x + 1) (Y_cs [2, nI (33 + w), c] x)) → nf x := fun n => by unfold nf Y_lm Y_cs at n; exact n
  refine fF_keep A3 (fun q r => hQ _ ⟨by rw [eX]; exact r, fun n => ?_⟩) (fun r => hQ _ ⟨by rw [eX]; exact r, fun n => ?_⟩)
  · exfalso
    have nx := nfx n
    obtain ⟨g1, g2, g3, g4, g5, ⟨⟨y1, -⟩, -⟩, -⟩ := h3.1.2 nx.1
    have y1 : s3.1 8 = nI (Y_l x).length := y1
    have hl := h9 nx.1
    have nn : ¬ nI (E_N E 26) ≤ nI (Y_l x).length := by rw [y_le (by omega) (by omega)]; omega
    rw [y1, n27] at q
    exact q.elim nn nn
  · have nx := nfx n
    obtain ⟨ea, -⟩ := ha nx.1
    obtain ⟨g1, g2, g3, g4, ⟨z1, z2, -⟩, ⟨⟨y1, -⟩, -⟩, -⟩ := h3.1.2 nx.1
    have y1 : s3.1 8 = nI (Y_l x).length := y1
    have z1 : s3.1 63 = nI (Y_z x + 3) := z1
    have z2 : Y_z x + 3 ≤ E_N E 20 := z2
    have hN2 := hE.2.2.2.1.2.1
    have hl := h9 nx.1
    have e63 : s3.1 63 - 2 = nI (Y_z x + 1) := by rw [z1, show (2 : Int32) = nI 2 by decide, y_sub (by omega) (by omega)]; rfl
    obtain ⟨c1, c2, c3, c4⟩ := h3.2 (show nf (Y_cs [2, a2, c] x) from nx)
    rw [ea] at c1
    refine ⟨c1, c2, fun j h1 h2 => ?_, fun i hi => ?_⟩
    · exact c3 j h1 h2
    · have hi : i < (Y_l x ++ [(w, c)]).length := hi
      have hlen : (Y_l x ++ [(w, c)]).length = (Y_l x).length + 1 := by rw [List.length_append]; rfl
      rw [hlen] at hi
      show uf (uf s3.2.1 26 (s3.1 8) (s3.1 63 - 2)) 27 (s3.1 8) a3 26 i = nI (f2 (f2 (Y_a x) 5 (Y_l x).length (Y_n x)) 6 (Y_l x).length (Y_z x + 1) 6 i)
      rw [uf_row (by decide), uf_at2, y1, y_cl (by omega), e63, f2_at]
      by_cases q : i = (Y_l x).length
      · rw [if_pos ⟨rfl, q⟩, if_pos ⟨rfl, q⟩]
      · rw [if_neg (fun z => q z.2), if_neg (fun z => q z.2), f2_ne (by decide)]
        exact c4 i (show i < (Y_l x).length by omega)
theorem Y_lm_ad {n p : Nat} : Y_ad (Y_lm w c n p y) = Y_lm w c n p (Y_ad y) := by unfold Y_ad Y_lm; rfl
theorem Y_cs_ad {l : List Int32} : Y_ad (Y_cs l y) = Y_cs l (Y_ad y) := by unfold Y_ad Y_cs; rfl
theorem Y_lm_ty {n p : Nat} : Y_ty E (Y_lm w c n p y) = Y_ty E y := by unfold Y_ty Y_lm; rfl
theorem Y_cs_ty {l : List Int32} : Y_ty E (Y_cs l y) = Y_ty E y := by unfold Y_ty Y_cs; rfl
theorem Y_nm_cs {l : List Int32} : Y_nm E (Y_cs l y) = Y_cs l (Y_nm E y) := by
  unfold Y_nm
  rw [Y_cs_ty]
  by_cases q : Y_ty E y = 130
  · rw [if_pos q, if_pos q]
    by_cases u : Y_u y (E_w E (Y_t y)) = Y_i y 1
    · rw [if_pos u, if_pos (show Y_u (Y_cs l y) (E_w E (Y_t (Y_cs l y))) = Y_i (Y_cs l y) 1 from u)]; exact Y_cs_ad
    · rw [if_neg u, if_neg (show ¬ Y_u (Y_cs l y) (E_w E (Y_t (Y_cs l y))) = Y_i (Y_cs l y) 1 from u)]; unfold Y_ad Y_cs Y_s2; rfl
  · rw [if_neg q, if_neg q]; unfold Y_bd Y_cs; rfl
theorem Y_nm_lm {n p : Nat} : Y_nm E (Y_lm w c n p y) = Y_lm w c n p (Y_nm E y) := by
  unfold Y_nm
  rw [Y_lm_ty]
  by_cases q : Y_ty E y = 130
  · rw [if_pos q, if_pos q]
    by_cases u : Y_u y (E_w E (Y_t y)) = Y_i y 1
    · rw [if_pos u, if_pos (show Y_u (Y_lm w c n p y) (E_w E (Y_t (Y_lm w c n p y))) = Y_i (Y_lm w c n p y) 1 from u)]; exact Y_lm_ad
    · rw [if_neg u, if_neg (show ¬ Y_u (Y_lm w c n p y) (E_w E (Y_t (Y_lm w c n p y))) = Y_i (Y_lm w c n p y) 1 from u)]; unfold Y_ad Y_lm Y_s2; rfl
  · rw [if_neg q, if_neg q]; unfold Y_bd Y_lm; rfl
theorem Y_lm_cs {n p : Nat} {l : List Int32} : Y_cs l (Y_lm w c n p y) = Y_lm w c n p (Y_cs l y) := by unfold Y_cs Y_lm; rfl
theorem Y_nm_z : Y_z (Y_nm E y) = Y_z y ∧ Y_n (Y_nm E y) = Y_n y ∧ Y_l (Y_nm E y) = Y_l y := by
  unfold Y_nm
  split
  · split <;> exact ⟨rfl, rfl, rfl⟩
  · exact ⟨rfl, rfl, rfl⟩
/-- the class's state behind a hear is that of both -/
theorem rc_he {k : x_Kt} {s : f_S3} {l l' : List Int32} {sl : Int32} (h : rcG E k s (Y_lm w c (Y_n y) (Y_z y + 1) (Y_cs l y))) (hl : l'.length = l.length) (he : nf y → l = l') : rcG E k s (Y_he l' sl w c y) := by
  have e : yx (Y_he l' sl w c y) = yx (Y_lm w c (Y_n y) (Y_z y + 1) (Y_cs l y)) := by
    unfold yx Y_he Y_lm Y_em Y_cs
    dsimp only [Y_z, Y_t, Y_i, Y_2, Y_3, Y_u, Y_v, Y_r, Y_l]
    rw [hl]
  refine rcG_cg e (fun n => ?_) h
  have n : nf y := by unfold nf Y_lm Y_cs at n; exact n
  rw [he n]
  refine ⟨rfl, rfl, ?_, ?_⟩
  · show f2 (f2 (f2 (Y_a y) 0 (Y_n y + 1) (Y_z y + l'.length)) 5 (Y_l y).length (Y_n y)) 6 (Y_l y).length (Y_z y + 1) 4 = f2 (f2 (Y_a y) 5 (Y_l y).length (Y_n y)) 6 (Y_l y).length (Y_z y + 1) 4
    rw [f2_ne (by decide), f2_ne (by decide), f2_ne (by decide), f2_ne (by decide), f2_ne (by decide)]
  · show f2 (f2 (f2 (Y_a y) 0 (Y_n y + 1) (Y_z y + l'.length)) 5 (Y_l y).length (Y_n y)) 6 (Y_l y).length (Y_z y + 1) 6 = f2 (f2 (Y_a y) 5 (Y_l y).length (Y_n y)) 6 (Y_l y).length (Y_z y + 1) 6
    rw [f2_eq, f2_eq, f2_ne (by decide), f2_ne (by decide), f2_ne (by decide)]
theorem Y_he_ty {l : List Int32} {sl : Int32} : Y_ty E (Y_he l sl w c y) = Y_ty E y := by unfold Y_ty Y_he Y_lm Y_em; rfl
theorem rg_102 (hE : E_ok E) {WF : x_RW} {a1 a2 a4 sl : Int32} {l : List Int32} (h4 : nf x → a4 = sl) (h9 : (Y_tk E 59 x).1 = false → 9 * (Y_l x).length ≤ E_n E ∧ a1 = nI w ∧ ¬ a2 = -1) : rrG E (fun M F Q => w_hear_102 WF Q a1 a2 c a4 M F) x (Y_tk E 59 (Y_he l sl w c x)) := fun k M F Q Q' hr wt hQ => by
  refine rg_need hE (c := 59) rfl k M F _ _ hr wt (fun M1 F1 r1 w1 => ?_)
  by_cases z : Y_ty E x = 59
  · have e1 : Y_tk E 59 x = Y_ad x := if_pos z
    have e2 : Y_tk E 59 (Y_he l sl w c x) = Y_ad (Y_he l sl w c x) := if_pos (Y_he_ty.trans z)
    have hb := Y_tyn z (by decide)
    rw [e1] at r1 h9
    rw [e2] at hQ
    refine rg_b0 r1 (fun q => absurd (q.symm.trans hb) (by decide)) (fun q w' => ?_) w1
    obtain ⟨b1, b2, b3⟩ := h9 q
    have g := re_sl (w := w) (c := c) hE (r1.1.2 q) b1 b3
    rw [b2] at w' ⊢
    obtain ⟨v1, v2, v3, v4, v5, v6, v7, v8, v9, v10⟩ := w'
    refine ⟨v1, v2, v3, v4, v5, v6, v7, v8, v9, hQ _ _ ⟨?_, fun n => ?_⟩ v10⟩
    · have ex : yx (Y_ad (Y_he l sl w c x)) = X_pt l.length (X_sl w c (yx (Y_ad x))) := by unfold yx Y_ad Y_he Y_lm Y_em; rfl
      rw [ex]
      refine rx_pt (rx_cg (rx_g g q) (fun j hj => ?_) (fun j hj => ?_))
      · have n29 : j ≠ 29 := fun e => by rw [e] at hj; exact absurd hj (by decide)
        by_cases e46 : j = 46
        · rw [e46, um_eq, um_eq, um_ne (by decide)]
        · rw [um_ne e46, um_ne n29, um_ne e46]
      · have nn : ∀ r, r ∉ rz_LF → j ≠ r := fun r hr e => hr (e ▸ hj)
        rw [uf_row (nn 42 (by decide)), uf_row (nn 17 (by decide)), uf_row (nn 16 (by decide)), uf_row (nn 15 (by decide)), uf_row (nn 14 (by decide)), uf_row (nn 13 (by decide))]
    · have nfx : nf (Y_ad (Y_he l sl w c x)) → nf x := fun n => by unfold nf Y_ad Y_he Y_lm Y_em at n; exact n
      have nx := nfx n
      have e46 : M1 46 = nI (Y_l x).length := (r1.1.2 q).2.2.2.2.1.1
      have e27 : nf (Y_ad x) → M1 27 = nI k.1 := fun _ => (r1.1.2 q).2.2.2.2.2.1.1
      have hn := E_n4 hE
      have b1 : 9 * (Y_l x).length ≤ E_n E := b1
      have hf : RG E k M1 (uf (uf (uf F1 43 (M1 46) (nI w)) 44 (M1 46) c) 45 (M1 46) a2) (Y_ad x) := RG_fr r1.2 ⟨⟨rfl, rfl, rfl⟩, fun r hr => by rw [uf_row (by omega), uf_row (by omega), uf_row (by omega)]⟩
      have hp := RG_put (a := 18) (b := 0) (c := c) (d := a4) hf e27 v4
      have p9 := r1.2 (show nf (Y_ad x) from nx)
      have er : 9000 * M1 27 + M1 29 = nI (Y_n x) := by
        obtain ⟨p1, ⟨p2, -⟩, -⟩ := p9
        have p1 : k.1 = Y_B x := p1
        have p2 : M1 29 = nI (Y_m x 0) := p2
        rw [e27 nx, p1, p2, show (9000 : Int32) = nI 9000 from rfl, pk_mul, nI_add]; rfl
      rw [h4 nx] at hp ⊢
      refine RG_cg (y := Y_rs (18, 0, c, sl, -1) (Y_ad x)) nfx rfl rfl rfl rfl rfl rfl (by show f2 (f2 (f2 (Y_a x) 0 (Y_n x + 1) (Y_z x + l.length)) 5 (Y_l x).length (Y_n x)) 6 (Y_l x).length (Y_z x + 1) 7 = _; rw [f2_ne (by decide), f2_ne (by decide), f2_ne (by decide)]; rfl) (by show f2 (f2 (f2 (Y_a x) 0 (Y_n x + 1) (Y_z x + l.length)) 5 (Y_l x).length (Y_n x)) 6 (Y_l x).length (Y_z x + 1) 8 = _; rw [f2_ne (by decide), f2_ne (by decide), f2_ne (by decide)]; rfl) hp ⟨rfl, rfl, rfl⟩ (fun r hr => by rw [uf_row (by omega)]) (fun _ i hi => ?_) n
      have hi : i < (Y_l x ++ [(w, c)]).length := hi
      have hlen : (Y_l x ++ [(w, c)]).length = (Y_l x).length + 1 := by rw [List.length_append]; rfl
      rw [hlen] at hi
      show _ = nI (f2 (f2 (f2 (Y_a x) 0 (Y_n x + 1) (Y_z x + l.length)) 5 (Y_l x).length (Y_n x)) 6 (Y_l x).length (Y_z x + 1) 5 i)
      rw [f2_ne (by decide), f2_at, uf_at2, e46, y_cl (by omega), er]
      by_cases q : i = (Y_l x).length
      · rw [if_pos ⟨rfl, q⟩, if_pos ⟨rfl, q⟩]
      · rw [if_neg (fun z => q z.2), if_neg (fun z => q z.2), f2_ne (by decide)]
        exact p9.2.2.2.2.2.2.2.2 i (show i < (Y_l x).length by omega)
  · have e1 : Y_tk E 59 x = Y_bd x := if_neg z
    have e2 : Y_tk E 59 (Y_he l sl w c x) = Y_bd (Y_he l sl w c x) := if_neg (fun q => z (Y_he_ty.symm.trans q))
    rw [e1] at r1
    rw [e2] at hQ
    exact rg_b0 r1 (fun q w' => hQ _ _ (rxG_zb (r1.1.1 q) rfl) w') (fun q => absurd q (by show ¬ true = false; decide)) w1
end YS5
