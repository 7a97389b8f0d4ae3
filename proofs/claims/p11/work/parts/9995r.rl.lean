/-! TRIES: the pieces joined. -/
section YT4
variable {E : x_E} {x y y' y1 y2 y3 y4 : y_X} {b b' : x_b} {c : List (Nat × Nat)} {t q hp : Nat} {pv : Option Nat}
theorem LT_w (hb : b_le b' b) (h : LT b c y t q) : LT b' c y t q := by
  obtain ⟨b1, b2, -, -⟩ := hb
  obtain ⟨h1, h2, h3, h4, h5⟩ := h
  refine ⟨h1, fun z => ?_, fun z => ?_, h4, by omega⟩
  · obtain ⟨a, e, e1, e2, e3, e4, e5⟩ := h2 z
    exact ⟨a, e, e1, e2, e3, e4, by omega⟩
  · obtain ⟨l, e1, e2, e3, e4, e5⟩ := h3 z
    exact ⟨l, e1, e2, e3, e4, by omega⟩
theorem xx_l (e : G_ex b0 y y1) (h : G_xx hp q t pv y1 y') : G_xx hp q t pv y y' := xx_tr (xx_of e) h
/-- with a lastly -/
theorem tr_3 (h : TP E q t c hp pv y) (hz : Y_z y < 80000) (hz' : Y_z y2 < 80000) (f2' : Y_2 y2 = false) (f3' : Y_3 y2 = false) (hB : gx E (Y_y3 q t c y) y2) : TF E q t c hp pv y (Y_y4 t c y2) := by
  obtain ⟨⟨I3, v3⟩, c3, xx3, lv, ⟨nn, nT, nV, nz, nB⟩, hC, hn, ⟨d1, d2, d3, d4, d5, d6⟩⟩ := t3_f h hz
  obtain ⟨⟨i, v⟩, ⟨ph, p1, p2⟩, p3, ⟨p4, p5⟩, ⟨p6, p7, p8⟩, p9, p10, p11, p12, p13⟩ := h
  have lv := lv ph p2
  obtain ⟨g1, g2, g3, g4, g5, g6⟩ := gI_T i (by omega)
  have wy : k_wf (gK y) c := by have w := i.2.1; rw [p2] at w; exact w.2.2.2
  generalize Y_y3 q t c y = w3 at *
  obtain ⟨⟨I6, v6⟩, c6, e6, s6⟩ := hB f2' f3' I3 v3
  have n6 := G_n e6
  have z6 := e6.1.2.1
  have t6 : t < Y_T y2 := by omega
  have k6 : Y_k y2 1 t = c := (e6.2.2.2.2.2.2.1 t (by omega)).2.trans d6
  obtain ⟨I7, c7, xx7, ⟨mn, mT, mV, mz, mB⟩, hC7, hn7, ⟨f1', f2'', f3''⟩, ⟨u1, u2, u3, u4, u5, u6, u7⟩⟩ := t4_f (hp := hp) (q := q) (pv := pv) I6 v6 (c6.trans c3) k6 t6
  generalize Y_y4 t c y2 = x' at *
  have xx6 : G_xx hp q t pv y x' := xx_tr (xx_tr0 xx3 e6) xx7
  have e67 : G_ex (bs w3) y2 x' := xx_ex G_rf xx7 (Or.inl (by show hp < Y_z w3; omega)) (Or.inl (by show q < Y_z w3; omega)) (Or.inl (by show t < Y_T w3; omega)) (fun u hu => Or.inl (by show u < Y_V w3; have := (p12 u hu).1; omega))
  have x3x : G_xx hp q t pv w3 x' := xx_l e6 xx7
  have lvx := lv_xx lv x3x (by omega) (by omega)
  have b3 : b_le (bs y) (bs w3) := xx_b xx3
  have sA : Y_R x' 21 t = nI (Y_n y + 1) := f3''.trans ((e6.2.2.2.1 21 t (by decide) (by decide) (Nat.zero_le _) (by omega)).trans d3)
  have sL : Y_a x' 1 t = Y_z y + 1 := f1'.trans (((e6.2.2.2.2.2.2.1 t (by omega)).1 (Nat.zero_le _)).1.trans d2)
  have sN : T_nx t x' pv = -1 := by
    rw [hn7]
    cases hpv : pv with
    | none => rw [hpv] at hn; exact (e6.2.2.2.1 20 t (by decide) (by decide) (Nat.zero_le _) (by omega)).trans hn
    | some u => rw [hpv] at hn; exact (e6.2.2.2.2.1 26 u (by decide) (by decide) (Nat.zero_le _) (by have := (p12 u hpv).1; omega)).trans hn
  have sH : Y_C x' hp = -1 := (hC7 hp (by omega)).trans ((e6.2.1 hp (Nat.zero_le _) (by omega)).trans hC)
  have sQ : Y_C x' q = nI (Y_z y + 1) := (hC7 q (by omega)).trans ((e6.2.1 q (Nat.zero_le _) (by omega)).trans d1)
  have A1 := xx7.2.2.2.2.2.1 (Y_n y + 1) (by omega)
  have A2 := e6.2.2.2.2.2.1 (Y_n y + 1) (Nat.zero_le _) (by omega)
  have B7 : Y_B x' = Y_B y := mB.trans (e6.1.1.trans nB)
  refine ⟨I7, c7, xx6, ⟨fun k h1 h2 => ?_, fun k h1 h2 => ?_, fun k h1 h2 => ?_⟩, ⟨by rw [sN, hx_1]; exact sH, Or.inl sN⟩, ⟨⟨by rw [sQ, sL], f2''⟩, fun z => absurd (sA.symm.trans z) (nI_ne1 (by omega)), fun _ => ⟨Y_n y + 1, sA, ⟨by rw [B7]; omega, by omega⟩, by rw [sL, A1.1, A2.1]; exact d4, by rw [A1.2, A2.2]; exact d5, by rw [y_cl (by omega)]; exact Nat.le_succ _⟩, by rw [sL, mz]; omega, by rw [sL]; exact Nat.le_succ _⟩⟩
  · by_cases k0 : k = Y_n y
    · subst k0
      exact lv_G lvx p1 p4 ⟨lvx.2.2.2.2.2.1, ⟨by show 400 * Y_B x' ≤ t; rw [B7]; exact p4, by show t < Y_T x'; omega⟩, by omega, xx_wf xx6 c wy⟩
    · by_cases k2 : k < Y_n y2
      · exact G_at_w b3 (G_at_m e67 (by show Y_n w3 ≤ k; omega) k2 (s6.1 k (by omega) k2))
      · have ek : k = Y_n y2 := by omega
        subst ek
        refine G_24 u1 (by rw [u2, mz]; exact Nat.le_refl _) (by rw [u3, u2]) (by omega) (by rw [u2]; exact u4) u5 u6 u7 ?_ (by rw [u2]; show Y_z y ≤ Y_z y2; omega)
        exact ⟨u7, ⟨by show 400 * Y_B x' ≤ t; rw [B7]; exact p4, by show t < Y_T x'; omega⟩, Nat.le_refl _, xx_wf xx6 c wy⟩
  · exact G_t_w b3 (G_t_m e67 (by show Y_T w3 ≤ k; omega) (by omega) (s6.2.1 k (by omega) (by omega)))
  · exact G_u_w b3 (G_u_m e67 (by show Y_V w3 ≤ k; omega) (by omega) (s6.2.2 k (by omega) (by omega)))
/-- with an uphold -/
theorem tr_1 {kd ob : Int32} (h : TP E q t c hp pv y) (hz : Y_z y < 80000) (hkd : ¬ kd = -1) (hk33 : kd.toInt < 33) (hob : -1 ≤ ob.toInt ∧ ob.toInt < 8) (f2' : Y_2 y4 = false) (f3' : Y_3 y4 = false) (hB : gx E (Y_y1 hp t c kd ob pv y) y4) : TP E q t c (Y_z y + 3) (some (Y_V y)) y4 ∧ ∀ x', TF E q t c (Y_z y + 3) (some (Y_V y)) y4 x' → TF E q t c hp pv y x' := by
  obtain ⟨P3, xx3, lv, ⟨nn, nT, nV, nz, nB⟩, hC, hn, ⟨d1, d2, d3, d4, d5⟩, ⟨w1, w2, w3'⟩, ⟨w4, w5⟩⟩ := t1_f (kd := kd) (ob := ob) h hz
  obtain ⟨⟨i, v⟩, ⟨ph, p1, p2⟩, p3, ⟨p4, p5⟩, ⟨p6, p7, p8⟩, p9, p10, p11, p12, p13⟩ := h
  have lv := lv ph p2
  obtain ⟨g1, g2, g3, g4, g5, g6⟩ := gI_T i (by omega)
  have wy : k_wf (gK y) c := by have w := i.2.1; rw [p2] at w; exact w.2.2.2
  generalize Y_y1 hp t c kd ob pv y = w3 at *
  obtain ⟨⟨I6, v6⟩, c6, e6, s6⟩ := hB f2' f3' P3.1.1 P3.1.2
  refine ⟨TP_ex P3 e6 I6 v6 c6, fun x' hF => ?_⟩
  obtain ⟨I7, c7, xx7, s7, ⟨hh, hnx⟩, lt⟩ := hF
  have n6 := G_n e6
  have z6 := e6.1.2.1
  have n7 := xx_n xx7
  have z7 := xx7.1.2.1
  have xx6 : G_xx hp q t pv y x' := xx_tr1 (xx_tr0 xx3 e6) xx7 (by omega) (Nat.le_refl _)
  have e67 : G_ex (bs w3) y4 x' := xx_ex G_rf xx7 (Or.inl (by show Y_z y + 3 < Y_z w3; omega)) (Or.inl (by show q < Y_z w3; omega)) (Or.inl (by show t < Y_T w3; omega)) (fun u hu => Or.inl (by show u < Y_V w3; have : Y_V y = u := Option.some.inj hu; omega))
  have x3x : G_xx (Y_z y + 3) q t (some (Y_V y)) w3 x' := xx_l e6 xx7
  have lvx := lv_xx lv x3x (by omega) (by omega)
  have b3 : b_le (bs y) (bs w3) := xx_b xx3
  have b4 : b_le (bs y) (bs y4) := b_tr b3 (b_ex e6)
  have B7 : Y_B x' = Y_B y := xx7.1.1.trans (e6.1.1.trans nB)
  -- the uphold itself
  have R23 : Y_R x' 23 (Y_V y) = kd := (x3x.2.2.2.2.1 23 _ (by decide) (by decide) (Or.inl (by decide)) (by omega)).trans d3
  have R24 : Y_R x' 24 (Y_V y) = ob := (x3x.2.2.2.2.1 24 _ (by decide) (by decide) (Or.inl (by decide)) (by omega)).trans d4
  have R25 : Y_R x' 25 (Y_V y) = nI (Y_n y + 1) := (x3x.2.2.2.2.1 25 _ (by decide) (by decide) (Or.inl (by decide)) (by omega)).trans d5
  obtain ⟨A2, A3, A8⟩ := x3x.2.2.2.2.2.2.2.1 (Y_V y) (by omega)
  have A2 : Y_a x' 2 (Y_V y) = Y_z y + 1 := A2.trans w1
  have A3 : Y_a x' 3 (Y_V y) = t := A3.trans w2
  have A8 : Y_a x' 8 (Y_V y) = 4 := A8.trans w3'
  have C1 : Y_C x' (Y_z y + 1) = kd := (x3x.2.1 _ (by omega) (by omega) (by omega)).trans d1
  have C2 : Y_C x' (Y_z y + 2) = ob := (x3x.2.1 _ (by omega) (by omega) (by omega)).trans d2
  obtain ⟨A0, K0⟩ := x3x.2.2.2.2.2.1 (Y_n y + 1) (by omega)
  have A0 : Y_a x' 0 (Y_n y + 1) = Y_z y + 4 := A0.trans w4
  have K0 : Y_k x' 0 (Y_n y + 1) = (t, 1) :: c := K0.trans w5
  have kt : Y_k x' 1 t = c := lvx.2.2.2.2.2.1
  have hh : Y_C x' (Y_z y + 3) = k_hx (gK x') (Y_R x' 26 (Y_V y)) := hh
  have hnx : Y_R x' 26 (Y_V y) = -1 ∨ ∃ u : Nat, Y_R x' 26 (Y_V y) = nI u ∧ Y_V y4 ≤ u ∧ u < Y_V x' ∧ u < 100000 ∧ Y_a x' 3 u = t := hnx
  have GU : G_u (bs y) x' (Y_V y) := by
    refine ⟨⟨?_, ?_, ?_, ?_, ⟨Y_n y + 1, R25, ⟨?_, ?_⟩, ?_, ?_⟩, ?_, ?_⟩, by rw [A3]; omega, by rw [A2]; exact Nat.le_succ _, by rw [R25, y_cl (by omega)]; exact Nat.le_succ _, ?_, A8, by rw [R23]; exact hk33⟩
    · show Y_a x' 2 (Y_V y) + 3 ≤ Y_z x'
      rw [A2]; omega
    · show Y_C x' (Y_a x' 2 (Y_V y)) = _
      rw [A2, R23]; exact C1
    · show Y_C x' (Y_a x' 2 (Y_V y) + 1) = _
      rw [A2, R24]; exact C2
    · show Y_C x' (Y_a x' 2 (Y_V y) + 2) = _
      rw [A2]; exact hh
    · show 9000 * Y_B x' ≤ _
      rw [B7]; omega
    · show _ < Y_n x' + 1
      omega
    · show Y_a x' 0 (Y_n y + 1) = Y_a x' 2 (Y_V y) + 3
      rw [A0, A2]
    · show Y_k x' 0 (Y_n y + 1) = (Y_a x' 3 (Y_V y), 1) :: Y_k x' 1 (Y_a x' 3 (Y_V y))
      rw [K0, A3, kt]
    · rcases hnx with z | ⟨u, z1, z2, z3, z4, z5⟩
      · exact Or.inl z
      · exact Or.inr ⟨u, z1, ⟨by omega, z3⟩, by show Y_a x' 3 u = Y_a x' 3 (Y_V y); rw [z5, A3]⟩
    · rw [R23, R24]; exact ⟨hkd, hob⟩
    · rcases hnx with z | ⟨u, z1, z2, z3, z4, z5⟩
      · exact Or.inl z
      · exact Or.inr (by rw [z1, y_cl (by omega)]; show Y_V y ≤ u; omega)
  have sH : Y_C x' hp = nI (Y_z y + 1) := (x3x.2.1 hp (by omega) p8 (by omega)).trans hC
  have sN : T_nx t x' pv = nI (Y_V y) := by
    cases hpv : pv with
    | none => rw [hpv] at hn; exact (x3x.2.2.2.1 20 t (by decide) (by decide) (Or.inr ⟨rfl, fun z => by cases z⟩) (by omega)).trans hn
    | some u => rw [hpv] at hn; exact (x3x.2.2.2.2.1 26 u (by decide) (by decide) (Or.inr (fun z => by have : Y_V y = u := Option.some.inj z; have := (p12 u hpv).1; omega)) (by have := (p12 u hpv).1; omega)).trans hn
  refine ⟨I7, c7, xx6, ⟨fun k h1 h2 => ?_, fun k h1 h2 => ?_, fun k h1 h2 => ?_⟩, ⟨?_, Or.inr ⟨Y_V y, sN, Nat.le_refl _, by omega, by omega, A3⟩⟩, LT_w b4 lt⟩
  · by_cases k0 : k = Y_n y
    · subst k0
      exact lv_G lvx p1 p4 ⟨kt, ⟨by show 400 * Y_B x' ≤ t; rw [B7]; exact p4, by show t < Y_T x'; omega⟩, by omega, xx_wf xx6 c wy⟩
    · by_cases k2 : k < Y_n y4
      · exact G_at_w b3 (G_at_m e67 (by show Y_n w3 ≤ k; omega) k2 (s6.1 k (by omega) k2))
      · exact G_at_w b4 (s7.1 k (by omega) h2)
  · by_cases k2 : k < Y_T y4
    · exact G_t_w b3 (G_t_m e67 (by show Y_T w3 ≤ k; omega) k2 (s6.2.1 k (by omega) k2))
    · exact G_t_w b4 (s7.2.1 k (by omega) h2)
  · by_cases k0 : k = Y_V y
    · rw [k0]; exact GU
    · by_cases k2 : k < Y_V y4
      · exact G_u_w b3 (G_u_m e67 (by show Y_V w3 ≤ k; omega) k2 (s6.2.2 k (by omega) k2))
      · exact G_u_w b4 (s7.2.2 k (by omega) h2)
  · rw [sH, sN, hx_n (by omega)]
    show nI (Y_z y + 1) = nI (Y_a x' 2 (Y_V y))
    rw [A2]
/-- the whole try -/
theorem tr_0 (i : gI y) (v : gv E y) (hz : Y_z y < 80000) (f2' : Y_2 y2 = false) (f3' : Y_3 y2 = false) (hB : gx E (Y_y0 y) y2) : TP E (Y_z y + 2) (Y_T y) (Y_c y) (Y_z y + 1) none y2 ∧ ∀ x', TF E (Y_z y + 2) (Y_T y) (Y_c y) (Y_z y + 1) none y2 x' → (gI x' ∧ gv E x') ∧ Y_c x' = Y_c y ∧ G_ex b0 y x' ∧ G_st (bs y) y x' := by
  obtain ⟨P1, e1, ⟨nn, nT, nV, nz, nB⟩, ⟨d1, d2, d3, d4, d5, d6, d7⟩⟩ := t0_f i v hz
  obtain ⟨g1, g2, g3, g4, g5, g6⟩ := gI_T i (by omega)
  generalize Y_y0 y = w1 at *
  obtain ⟨⟨I6, v6⟩, c6, e6, s6⟩ := hB f2' f3' P1.1.1 P1.1.2
  refine ⟨TP_ex P1 e6 I6 v6 c6, fun x' hF => ?_⟩
  obtain ⟨I7, c7, xx7, s7, ⟨hh, hnx⟩, ⟨⟨lt1, lt1'⟩, lt2, lt3, lt4, lt5⟩⟩ := hF
  have hh : Y_C x' (Y_z y + 1) = k_hx (gK x') (Y_R x' 20 (Y_T y)) := hh
  have hnx : Y_R x' 20 (Y_T y) = -1 ∨ ∃ u : Nat, Y_R x' 20 (Y_T y) = nI u ∧ Y_V y2 ≤ u ∧ u < Y_V x' ∧ u < 100000 ∧ Y_a x' 3 u = Y_T y := hnx
  have n6 := G_n e6
  have z6 := e6.1.2.1
  have n7 := xx_n xx7
  have z7 := xx7.1.2.1
  have eX : G_ex b0 y x' := xx_ex (G_tr e1 e6) xx7 (Or.inr (Nat.le_succ _)) (Or.inr (by omega)) (Or.inr (Nat.le_refl _)) (fun u hu => by cases hu)
  have e67 : G_ex (bs w1) y2 x' := xx_ex G_rf xx7 (Or.inl (by show Y_z y + 1 < Y_z w1; omega)) (Or.inl (by show Y_z y + 2 < Y_z w1; omega)) (Or.inl (by show Y_T y < Y_T w1; omega)) (fun u hu => by cases hu)
  have x1x : G_xx (Y_z y + 1) (Y_z y + 2) (Y_T y) none w1 x' := xx_l e6 xx7
  have b1 : b_le (bs y) (bs w1) := b_ex e1
  have b2 : b_le (bs y) (bs y2) := b_tr b1 (b_ex e6)
  have B7 : Y_B x' = Y_B y := xx7.1.1.trans (e6.1.1.trans nB)
  have kt : Y_k x' 1 (Y_T y) = Y_c y := (x1x.2.2.2.2.2.2.1 (Y_T y) (by omega)).2.trans P1.2.2.1
  obtain ⟨A0, K0⟩ := x1x.2.2.2.2.2.1 (Y_n y) (by omega)
  obtain ⟨A1, K1⟩ := x1x.2.2.2.2.2.1 (Y_n y + 1) (by omega)
  have A0 : Y_a x' 0 (Y_n y) = Y_z y := A0.trans d3
  have A1 : Y_a x' 0 (Y_n y + 1) = Y_z y + 3 := A1.trans d4
  have K0 : Y_k x' 0 (Y_n y) = Y_c y := K0.trans d6
  have K1 : Y_k x' 0 (Y_n y + 1) = (Y_T y, 0) :: Y_c y := K1.trans d7
  have R13 : Y_R x' 13 (Y_n y) = 22 := (x1x.2.2.1 13 _ (by decide) (by decide) (by omega)).trans d1
  have R14 : Y_R x' 14 (Y_n y) = nI (Y_T y) := (x1x.2.2.1 14 _ (by decide) (by decide) (by omega)).trans d2
  have C0 : Y_C x' (Y_z y) = 4 := (x1x.2.1 _ (by omega) (by omega) (by omega)).trans d5
  have ct : (nI (Y_T y)).toNatClampNeg = Y_T y := y_cl (by omega)
  have wx : k_wf (gK x') (Y_c y) := G_wf eX _ i.2.1
  have hen : k_en (gK x') (Y_R x') (Y_n y) = [4, k_hx (gK x') (Y_R x' 20 (Y_T y)), nI (Y_a x' 1 (Y_T y))] := by
    unfold k_en
    rw [R13, R14, ct, k_e_22]; rfl
  have G22 : G_at (bs y) x' (Y_n y) := by
    refine ⟨fun _ => ?_, fun z => absurd (R13.symm.trans z) (by decide), fun _ => ⟨Y_T y, R14, by rw [ct]; exact Nat.le_refl _, by omega, ?_⟩, by rw [A0]; exact Nat.le_refl _, fun z => absurd z (fun z => z.elim (fun z => absurd (R13.symm.trans z) (by decide)) (fun z => absurd (R13.symm.trans z) (by decide)))⟩
    · unfold k_at
      rw [hen, R13, R14]
      refine ⟨⟨?_, fun j hj => ?_⟩, fun _ _ _ => ⟨?_, ?_⟩, fun _ _ _ z => absurd rfl z, fun z => absurd z (by decide), fun _ => ⟨Y_T y, rfl, ⟨?_, ?_⟩, ?_, ?_⟩, fun z => absurd z (by decide), fun z => absurd z (by decide), ⟨fun z => absurd z (by decide), fun z => absurd z (by decide)⟩, fun z => absurd z (by decide), ?_⟩
      · show Y_a x' 0 (Y_n y) + 3 ≤ Y_z x'
        rw [A0]; omega
      · show Y_C x' (Y_a x' 0 (Y_n y) + j) = _
        rw [A0]
        have hj : j < 3 := hj
        have cs : j = 0 ∨ j = 1 ∨ j = 2 := by omega
        rcases cs with rfl | rfl | rfl
        · exact C0
        · exact hh
        · exact lt1
      · show Y_a x' 0 (Y_n y + 1) = Y_a x' 0 (Y_n y) + 3
        rw [A1, A0]
      · show Y_n y + 1 < Y_n x' + 1
        omega
      · show 400 * Y_B x' ≤ Y_T y
        rw [B7]; exact g5
      · show Y_T y < Y_T x'
        omega
      · show Y_k x' 0 (Y_n y + 1) = (Y_T y, 0) :: Y_k x' 0 (Y_n y)
        rw [K1, K0]
      · show Y_k x' 1 (Y_T y) = Y_k x' 0 (Y_n y)
        rw [kt, K0]
      · show k_wf (gK x') (Y_k x' 0 (Y_n y))
        rw [K0]; exact wx
    · rw [ct]
      rcases hnx with z | ⟨u, z1, z2, z3, z4, z5⟩
      · exact Or.inl z
      · exact Or.inr ⟨u, z1, by rw [y_cl (by omega)]; show Y_V y ≤ u; omega, z3⟩
  have GT : G_t (bs y) x' (Y_T y) := by
    refine ⟨⟨fun z => ?_, fun z => ?_, ?_, lt4⟩, by have : Y_z y2 ≤ Y_a x' 1 (Y_T y) := lt5; show Y_z y ≤ _; omega, fun z => ?_, fun z => ?_, ?_, lt1'⟩
    · obtain ⟨a, e, e1, e2, e3, e4, e5⟩ := lt2 z
      exact ⟨a, e, e1, e2, e3, by show Y_k x' 0 e = Y_k x' 1 (Y_T y); rw [kt]; exact e4⟩
    · obtain ⟨l, e1, e2, e3, e4, e5⟩ := lt3 z
      exact ⟨l, e1, e2, e3, by show Y_k x' 0 l = (Y_T y, 2) :: Y_k x' 1 (Y_T y); rw [kt]; exact e4⟩
    · rcases hnx with z | ⟨u, z1, z2, z3, z4, z5⟩
      · exact Or.inl z
      · exact Or.inr ⟨u, z1, ⟨by show 400 * Y_B x' ≤ u; rw [B7]; omega, z3⟩, z5⟩
    · obtain ⟨a, e, e1, e2, e3, e4, e5⟩ := lt2 z
      have e5 : Y_n y2 ≤ (nI e).toNatClampNeg := e5
      rw [e1]; show Y_n y ≤ _; omega
    · obtain ⟨l, e1, e2, e3, e4, e5⟩ := lt3 z
      have e5 : Y_n y2 ≤ (nI l).toNatClampNeg := e5
      rw [e1]; show Y_n y ≤ _; omega
    · rcases hnx with z | ⟨u, z1, z2, z3, z4, z5⟩
      · exact Or.inl z
      · exact Or.inr (by rw [z1, y_cl (by omega)]; show Y_V y ≤ u; omega)
  refine ⟨I7, c7, eX, fun k h1 h2 => ?_, fun k h1 h2 => ?_, fun k h1 h2 => ?_⟩
  · by_cases k0 : k = Y_n y
    · rw [k0]; exact G22
    · by_cases k2 : k < Y_n y2
      · exact G_at_w b1 (G_at_m e67 (by show Y_n w1 ≤ k; omega) k2 (s6.1 k (by omega) k2))
      · exact G_at_w b2 (s7.1 k (by omega) h2)
  · by_cases k0 : k = Y_T y
    · rw [k0]; exact GT
    · by_cases k2 : k < Y_T y2
      · exact G_t_w b1 (G_t_m e67 (by show Y_T w1 ≤ k; omega) k2 (s6.2.1 k (by omega) k2))
      · exact G_t_w b2 (s7.2.1 k (by omega) h2)
  · by_cases k2 : k < Y_V y2
    · exact G_u_w b1 (G_u_m e67 (by show Y_V w1 ≤ k; omega) k2 (s6.2.2 k (by omega) k2))
    · exact G_u_w b2 (s7.2.2 k (by omega) h2)
end YT4
