/-! HEARINGS, PURE: what holds between them. -/
section YT6
variable {E : x_E} {W W' x y y' : y_X} {b : x_b}
/-- one code less -/
def Y_dn (y : y_X) : y_X := Y_gs (Y_C y, Y_R y, f1 (Y_m y) 0 (Y_m y 0 - 1), Y_a y, Y_k y, Y_S y, Y_c y) y
theorem dn_m : Y_m (Y_dn y) = f1 (Y_m y) 0 (Y_m y 0 - 1) := rfl
theorem dn_B : Y_B (Y_dn y) = Y_B y := by show Y_m (Y_dn y) 3 = Y_m y 3; rw [dn_m, f1_ne (by decide)]
theorem dn_T : Y_T (Y_dn y) = Y_T y := by unfold Y_T; rw [dn_B, dn_m, f1_ne (by decide)]
theorem dn_V : Y_V (Y_dn y) = Y_V y := by unfold Y_V; rw [dn_B, dn_m, f1_ne (by decide)]
theorem dn_n (h : 1 ≤ Y_m y 0) : Y_n (Y_dn y) + 1 = Y_n y := by unfold Y_n; rw [dn_B, dn_m, f1_eq]; omega
theorem dn_le : Y_n (Y_dn y) ≤ Y_n y := by unfold Y_n; rw [dn_B, dn_m, f1_eq]; omega
theorem dn_dn (h : G_ex b y y') : G_ex b (Y_dn y) (Y_dn y') := by
  have hn : Y_n (Y_dn y) ≤ Y_n y := dn_le
  obtain ⟨⟨a1, a2, a3, a4, a5⟩, e2, e3, e4, e5, e6, e7, e8, e9, e10⟩ := h
  refine ⟨⟨?_, a2, ?_, ?_, ?_⟩, e2, fun r k x1 x2 x3 x4 => e3 r k x1 x2 x3 (by omega), fun r t x1 x2 x3 x4 => e4 r t x1 x2 x3 (by rw [dn_T] at x4; exact x4), fun r u x1 x2 x3 x4 => e5 r u x1 x2 x3 (by rw [dn_V] at x4; exact x4), fun k x1 x2 => e6 k x1 (by omega), fun s x1 => e7 s (by rw [dn_T] at x1; exact x1), fun u x1 x2 => e8 u x1 (by rw [dn_V] at x2; exact x2), e9, e10⟩
  · rw [dn_B, dn_B]; exact a1
  · rw [dn_m, dn_m, f1_eq, f1_eq]; omega
  · rw [dn_m, dn_m, f1_ne (by decide), f1_ne (by decide)]; exact a4
  · rw [dn_m, dn_m, f1_ne (by decide), f1_ne (by decide)]; exact a5
theorem ex_dn (h : G_ex b y y') (hm : Y_m y 0 + 1 ≤ Y_m y' 0) : G_ex b y (Y_dn y') := by
  obtain ⟨⟨a1, a2, a3, a4, a5⟩, e2, e3, e4, e5, e6, e7, e8, e9, e10⟩ := h
  refine ⟨⟨?_, a2, ?_, ?_, ?_⟩, e2, e3, e4, e5, e6, e7, e8, e9, e10⟩
  · rw [dn_B]; exact a1
  · rw [dn_m, f1_eq]; omega
  · rw [dn_m, f1_ne (by decide)]; exact a4
  · rw [dn_m, f1_ne (by decide)]; exact a5
theorem Gq_ex (g : gq y y') (hl : Y_l y' = Y_l y) : G_ex b y y' := by
  obtain ⟨g1, g2, g3, g4, g5, g6, g7⟩ := g
  have hB : Y_B y' = Y_B y := congrFun g4 3
  refine ⟨⟨hB, Nat.le_of_eq g1.symm, Nat.le_of_eq (congrFun g4 0).symm, Nat.le_of_eq (congrFun g4 1).symm, Nat.le_of_eq (congrFun g4 2).symm⟩, fun p _ _ => congrFun g2 p, fun r k _ _ _ _ => by rw [g3], fun r k _ _ _ _ => by rw [g3], fun r k _ _ _ _ => by rw [g3], fun k _ _ => by rw [g5, g6]; exact ⟨rfl, rfl⟩, fun s _ => by rw [g5, g6]; exact ⟨fun _ => ⟨rfl, rfl⟩, rfl⟩, fun u _ _ => by rw [g5]; exact ⟨rfl, rfl, rfl⟩, ⟨[], by rw [hl, List.append_nil]⟩, fun i _ => by rw [g5]; exact ⟨rfl, rfl⟩⟩
/-- the last code of a hearing -/
theorem G_19 {k : Nat} (h1 : Y_R y 13 k = 19) (hA : Y_a y 0 k + 1 ≤ Y_z y) (hC : Y_C y (Y_a y 0 k) = 3) (hc : Y_k y 0 k = []) : G_at b0 y k := by
  have hen : k_en (gK y) (Y_R y) k = [3] := by
    unfold k_en
    rw [h1, k_e_19]
  refine ⟨fun _ => ?_, fun q => absurd (h1.symm.trans q) (by decide), fun q => absurd (h1.symm.trans q) (by decide), Nat.zero_le _, fun _ => Nat.zero_le _⟩
  unfold k_at
  rw [hen, h1]
  refine ⟨⟨hA, fun j hj => ?_⟩, fun q => absurd rfl q, fun q => absurd rfl q, fun q => absurd q (by decide), fun q => absurd q (by decide), fun q => absurd q (by decide), fun q => absurd q (by decide), ⟨fun q => absurd q (by decide), fun q => absurd q (by decide)⟩, fun q => absurd q (by decide), ?_⟩
  · have hj : j < 1 := hj
    have ej : j = 0 := by omega
    subst ej
    exact hC
  · show k_wf (gK y) (Y_k y 0 k)
    rw [hc]; exact True.intro
def L_r (y : y_X) : Prop := Y_R y 13 (Y_n y - 1) = 19 ∧ Y_C y (Y_a y 0 (Y_n y - 1)) = 3 ∧ Y_a y 0 (Y_n y - 1) + 1 ≤ Y_z y ∧ Y_k y 0 (Y_n y - 1) = []
def D_st (y : y_X) : Prop := (∀ k, 9000 * Y_B y ≤ k → k + 1 < Y_n y → G_at b0 (Y_dn y) k) ∧ (∀ t, 400 * Y_B y ≤ t → t < Y_T y → G_t b0 (Y_dn y) t) ∧ ∀ u, 400 * Y_B y ≤ u → u < Y_V y → G_u b0 (Y_dn y) u
def D_h (y : y_X) (h : Nat) : Prop := ∃ a : Nat, Y_r y (100000 + h) = nI a ∧ (9000 * Y_B y ≤ a ∧ a < Y_n y) ∧ Y_k y 0 a = [] ∧ Y_r y (200000 + h) = nI (Y_a y 0 a) ∧ (Y_R y 13 a = 0 ∨ (Y_R y 13 a = 1 ∧ a + 1 < Y_n y ∧ Y_R y 13 (a + 1) = 19))
/-- between hearings, nothing wrong so far -/
def H_in (y : y_X) : Prop := (gI y ∧ Y_c y = []) ∧ (∀ w, (Y_u y w).toInt < (Y_i y 1).toInt) ∧ (D_st y ∧ (Y_m y 0 = 0 → Y_m y 1 = 0 ∧ Y_m y 2 = 0 ∧ (Y_i y 1).toInt = 0) ∧ (¬ Y_m y 0 = 0 → L_r y)) ∧ ∀ h : Nat, (h : Int) < (Y_i y 1).toInt → D_h y h
/-- a hearing's row of numbers: its parameters, its first code, its place -/
def Y_rf (f : Nat → Int32) (y : y_X) : y_X := (y.1, Y_t y, Y_z y, Y_i y, Y_2 y, Y_3 y, Y_u y, Y_v y, f, Y_l y, Y_g y)
def h_f (c a z : Int32) (i : Nat) (r : Nat → Int32) : Nat → Int32 := fu (fu (fu r i c) (100000 + i) a) (200000 + i) z
def Y_hs (c : Int32) (y : y_X) : y_X := Y_rf (h_f c (nI (Y_n y)) (nI (Y_z y)) (Y_i y 1).toNatClampNeg (Y_r y)) y
def Y_nx (y : y_X) : y_X := Y_si 1 (Y_i y 1 + 1) y
theorem gq_hs {c : Int32} : gq y (Y_hs c y) := ⟨rfl, rfl, rfl, rfl, rfl, rfl, rfl⟩
theorem gq_nx : gq y (Y_nx y) := ⟨rfl, rfl, rfl, rfl, rfl, rfl, rfl⟩
theorem h_f1 {c a z : Int32} {i j : Nat} {r : Nat → Int32} (hi : i < 50000) (hj : j < 50000) : h_f c a z i r j = if j = i then c else r j := by
  unfold h_f fu
  rw [if_neg (by omega), if_neg (by omega)]
theorem h_f2 {c a z : Int32} {i j : Nat} {r : Nat → Int32} (hi : i < 50000) (hj : j < 50000) : h_f c a z i r (100000 + j) = if j = i then a else r (100000 + j) := by
  unfold h_f fu
  rw [if_neg (by omega)]
  by_cases q : j = i
  · rw [if_pos (by omega), if_pos q]
  · rw [if_neg (by omega), if_neg (by omega), if_neg q]
theorem h_f3 {c a z : Int32} {i j : Nat} {r : Nat → Int32} (hi : i < 50000) (hj : j < 50000) : h_f c a z i r (200000 + j) = if j = i then z else r (200000 + j) := by
  unfold h_f fu
  by_cases q : j = i
  · rw [if_pos (by omega), if_pos q]
  · rw [if_neg (by omega), if_neg (by omega), if_neg (by omega), if_neg q]
/-- from one hearing to the next -/
theorem H_step {c : Int32} {y5 y7 : y_X} (h : H_in y) (g5 : gq y y5) (hl5 : Y_l y5 = Y_l y) (hr5 : Y_r y5 = Y_r y) (hi5 : Y_i y5 1 = Y_i y 1) (hi0 : 0 ≤ (Y_i y 1).toInt ∧ (Y_i y 1).toInt < 16) (hz : Y_z y7 < 80000) (hv : gv E (Y_hs c y5)) (n7 : nf y7) (hB : gx E (Y_hs c y5) y7) (hF : fB E (Y_hs c y5) y7) (hr7 : Y_r y7 = Y_r (Y_hs c y5)) (hi7 : Y_i y7 1 = Y_i y5 1) : H_in (Y_nx (Y_em [3] (19, 0, 0, 0, -1) (Y_c (Y_em [7, 0] (1, 0, 0, 0, -1) (Y_c y7) y7)) (Y_em [7, 0] (1, 0, 0, 0, -1) (Y_c y7) y7))) ∧ gv E y7 := by
  obtain ⟨⟨i, hc⟩, hu, ⟨⟨d1, d2, d3⟩, dm, dl⟩, dh⟩ := h
  have g6 : gq y (Y_hs c y5) := gq_tr g5 gq_hs
  have r6a : ∀ j, j < 16 → Y_r (Y_hs c y5) (100000 + j) = if j = (Y_i y 1).toNatClampNeg then nI (Y_n y5) else Y_r y (100000 + j) := fun j hj => by
    have e : Y_r (Y_hs c y5) = h_f c (nI (Y_n y5)) (nI (Y_z y5)) (Y_i y5 1).toNatClampNeg (Y_r y5) := rfl
    have e2 : (Y_i y 1).toNatClampNeg = (Y_i y 1).toInt.toNat := rfl
    rw [e, hi5, hr5, h_f2 (by omega) (by omega)]
  have r6b : ∀ j, j < 16 → Y_r (Y_hs c y5) (200000 + j) = if j = (Y_i y 1).toNatClampNeg then nI (Y_z y5) else Y_r y (200000 + j) := fun j hj => by
    have e : Y_r (Y_hs c y5) = h_f c (nI (Y_n y5)) (nI (Y_z y5)) (Y_i y5 1).toNatClampNeg (Y_r y5) := rfl
    have e2 : (Y_i y 1).toNatClampNeg = (Y_i y 1).toInt.toNat := rfl
    rw [e, hi5, hr5, h_f3 (by omega) (by omega)]
  have l6 : Y_l (Y_hs c y5) = Y_l y := hl5
  have i6 : Y_i (Y_hs c y5) 1 = Y_i y 1 := hi5
  have u6 : Y_u (Y_hs c y5) = Y_u y5 := rfl
  have n5 : Y_n y5 = Y_n y := (Y_nTV g5.2.2.2.1).1
  have z5 : Y_z y5 = Y_z y := g5.1
  rw [n5] at r6a
  rw [z5] at r6b
  generalize Y_hs c y5 = y6 at *
  obtain ⟨q1, q2, q3, q4, q5, q6, q7⟩ := id g6
  obtain ⟨n6, nT6, nV6⟩ := Y_nTV q4
  have B6 : Y_B y6 = Y_B y := congrFun q4 3
  have c6 : Y_c y6 = [] := q7.trans hc
  have I6 : gI y6 := by
    obtain ⟨⟨a1, a2⟩, a3, a4, a5, a6, a7⟩ := i
    refine ⟨⟨?_, ?_⟩, ?_, ?_, ?_, ?_, ?_⟩
    · rw [q5, n6, q1]; exact a1
    · rw [q6, n6, q7]; exact a2
    · rw [c6]; exact True.intro
    · exact ⟨by rw [q4, q1]; exact a4.1, mon_q a4.2 B6 n6 (fun k _ => by rw [q5]) (by rw [l6]) (fun i _ => by rw [q5]; exact ⟨rfl, rfl⟩) (fun k _ => by rw [q3])⟩
    · rw [q4, q1]; exact a5
    · rw [q4, q1]; exact a6
    · rw [B6]; exact a7
  obtain ⟨⟨I7, V7⟩, c7, e67, s67⟩ := hB n7.2.1 n7.2.2 I6 hv
  have f7 := hF n7 I6 hv
  refine ⟨?_, V7⟩
  have c7 : Y_c y7 = [] := c7.trans c6
  have w7 : k_wf (gK y7) (Y_c y7) := by rw [c7]; exact True.intro
  -- what is put behind
  have I8 : gI (Y_em [7, 0] (1, 0, 0, 0, -1) (Y_c y7) y7) := em_I (l := [7, 0]) (o := (1, 0, 0, 0, -1)) I7 (show 1 ≤ 2 by decide) w7
  obtain ⟨n8, nT8, nV8, B8⟩ := Y_n_em (y := y7) (l := [7, 0]) (o := (1, 0, 0, 0, -1)) (c := Y_c y7)
  have e78 : ∀ b : x_b, G_ex b y7 (Y_em [7, 0] (1, 0, 0, 0, -1) (Y_c y7) y7) := fun b => em_ex
  have g78 : gx E y7 (Y_em [7, 0] (1, 0, 0, 0, -1) (Y_c y7) y7) := gx_em ho_1 (show 1 ≤ 2 by decide) (fun _ _ _ => k_e_1.symm) (fun _ _ _ => h8_1)
  have c8 : Y_c (Y_em [7, 0] (1, 0, 0, 0, -1) (Y_c y7) y7) = [] := c7
  have z8 : Y_z (Y_em [7, 0] (1, 0, 0, 0, -1) (Y_c y7) y7) = Y_z y7 + 2 := rfl
  have m8 : Y_m (Y_em [7, 0] (1, 0, 0, 0, -1) (Y_c y7) y7) 0 = Y_m y7 0 + 1 := (f1_eq : f1 (Y_m y7) 0 (Y_m y7 0 + 1) 0 = _)
  have R8 : Y_R (Y_em [7, 0] (1, 0, 0, 0, -1) (Y_c y7) y7) 13 (Y_n y7) = 1 := (r5_at (R := Y_R y7) (k := Y_n y7) (o := (1, 0, 0, 0, -1))).1
  have r8 : Y_r (Y_em [7, 0] (1, 0, 0, 0, -1) (Y_c y7) y7) = Y_r y7 := rfl
  have i8 : Y_i (Y_em [7, 0] (1, 0, 0, 0, -1) (Y_c y7) y7) = Y_i y7 := rfl
  have u8 : Y_u (Y_em [7, 0] (1, 0, 0, 0, -1) (Y_c y7) y7) = Y_u y7 := rfl
  have s78 := (g78 n7.2.1 n7.2.2 I7 V7).2.2.2
  generalize Y_em [7, 0] (1, 0, 0, 0, -1) (Y_c y7) y7 = y8 at *
  have w8 : k_wf (gK y8) (Y_c y8) := by rw [c8]; exact True.intro
  have I9 : gI (Y_em [3] (19, 0, 0, 0, -1) (Y_c y8) y8) := em_I (l := [3]) (o := (19, 0, 0, 0, -1)) I8 (Nat.le_refl _) w8
  obtain ⟨n9, nT9, nV9, B9⟩ := Y_n_em (y := y8) (l := [3]) (o := (19, 0, 0, 0, -1)) (c := Y_c y8)
  have e89 : ∀ b : x_b, G_ex b y8 (Y_em [3] (19, 0, 0, 0, -1) (Y_c y8) y8) := fun b => em_ex
  have c9 : Y_c (Y_em [3] (19, 0, 0, 0, -1) (Y_c y8) y8) = [] := c8
  have z9 : Y_z (Y_em [3] (19, 0, 0, 0, -1) (Y_c y8) y8) = Y_z y8 + 1 := rfl
  have m9 : Y_m (Y_em [3] (19, 0, 0, 0, -1) (Y_c y8) y8) 0 = Y_m y8 0 + 1 := (f1_eq : f1 (Y_m y8) 0 (Y_m y8 0 + 1) 0 = _)
  have R9 : Y_R (Y_em [3] (19, 0, 0, 0, -1) (Y_c y8) y8) 13 (Y_n y8) = 19 := (r5_at (R := Y_R y8) (k := Y_n y8) (o := (19, 0, 0, 0, -1))).1
  have A9 : Y_a (Y_em [3] (19, 0, 0, 0, -1) (Y_c y8) y8) 0 (Y_n y8) = Y_z y8 := ((e89 b0).2.2.2.2.2.1 (Y_n y8) (Nat.zero_le _) (Nat.le_refl _)).1.trans I8.1.1
  have K9 : Y_k (Y_em [3] (19, 0, 0, 0, -1) (Y_c y8) y8) 0 (Y_n y8) = [] := ((e89 b0).2.2.2.2.2.1 (Y_n y8) (Nat.zero_le _) (Nat.le_refl _)).2.trans (I8.1.2.trans c8)
  have C9 : Y_C (Y_em [3] (19, 0, 0, 0, -1) (Y_c y8) y8) (Y_z y8) = 3 := cl_at (i := 0) (show 0 < 1 by decide)
  have r9 : Y_r (Y_em [3] (19, 0, 0, 0, -1) (Y_c y8) y8) = Y_r y8 := rfl
  have i9 : Y_i (Y_em [3] (19, 0, 0, 0, -1) (Y_c y8) y8) = Y_i y8 := rfl
  have u9 : Y_u (Y_em [3] (19, 0, 0, 0, -1) (Y_c y8) y8) = Y_u y8 := rfl
  generalize Y_em [3] (19, 0, 0, 0, -1) (Y_c y8) y8 = y9 at *
  -- the next one
  have gx9 : gq y9 (Y_nx y9) := gq_nx
  have lx : Y_l (Y_nx y9) = Y_l y9 := rfl
  have ix : Y_i (Y_nx y9) 1 = Y_i y9 1 + 1 := (um_eq : um (Y_i y9) 1 (Y_i y9 1 + 1) 1 = _)
  have ux : Y_u (Y_nx y9) = Y_u y9 := rfl
  have rx : Y_r (Y_nx y9) = Y_r y9 := rfl
  generalize Y_nx y9 = yy at *
  have e9x : ∀ b : x_b, G_ex b y9 yy := fun b => Gq_ex gx9 lx
  obtain ⟨x1, x2, x3, x4, x5, x6, x7⟩ := gx9
  obtain ⟨nx, nTx, nVx⟩ := Y_nTV x4
  have Bx : Y_B yy = Y_B y9 := congrFun x4 3
  have m0x : Y_m yy 0 = Y_m y7 0 + 2 := by rw [x4, m9, m8]
  have ey6 : ∀ b : x_b, G_ex b y y6 := fun b => Gq_ex g6 l6
  have n67 := G_n e67
  have z67 := e67.1.2.1
  have B7 : Y_B y7 = Y_B y6 := e67.1.1
  have eyx : G_ex b0 y yy := G_tr (ey6 b0) (G_tr e67 (G_tr (e78 b0) (G_tr (e89 b0) (e9x b0))))
  have e8Z : ∀ b : x_b, G_ex b y8 (Y_dn yy) := fun b => ex_dn (G_tr (e89 b) (e9x b)) (by rw [m0x, m8]; exact Nat.le_refl _)
  have e7Z : ∀ b : x_b, G_ex b y7 (Y_dn yy) := fun b => G_tr (e78 b) (e8Z b)
  have eZZ : G_ex b0 (Y_dn y) (Y_dn yy) := dn_dn eyx
  have nZ : Y_n (Y_dn yy) + 1 = Y_n yy := dn_n (by rw [m0x]; omega)
  have li : (Y_i y 1 + 1).toInt = (Y_i y 1).toInt + 1 := by
    rw [ti_addx _ _ (by rw [show (1 : Int32).toInt = 1 by decide]; omega), show (1 : Int32).toInt = 1 by decide]
  have ixx : Y_i yy 1 = Y_i y 1 + 1 := by rw [ix, i9, i8, hi7, hi5]
  have rxx' : Y_r yy = Y_r y6 := by rw [rx, r9, r8, hr7]
  obtain ⟨b1, b2, b3, b4, b5, b6⟩ := gI_T I7 (by omega)
  have iB := I7.2.2.2.2.2
  have b06 : b_le b0 (bs y6) := ⟨Nat.zero_le _, Nat.zero_le _, Nat.zero_le _, Nat.zero_le _⟩
  have b07 : b_le b0 (bs y7) := ⟨Nat.zero_le _, Nat.zero_le _, Nat.zero_le _, Nat.zero_le _⟩
  have nyy : Y_n yy = Y_n y7 + 2 := by omega
  have LR : L_r yy := by
    have ek : Y_n yy - 1 = Y_n y8 := by omega
    refine ⟨?_, ?_, ?_, ?_⟩
    · rw [ek, x3]; exact R9
    · rw [ek, x2, x5, A9]; exact C9
    · rw [ek, x5, A9, x1, z9]; exact Nat.le_refl _
    · rw [ek, x6]; exact K9
  refine ⟨⟨?_, ?_⟩, fun w => ?_, ⟨⟨fun k h1 h2 => ?_, fun t h1 h2 => ?_, fun u h1 h2 => ?_⟩, fun q => absurd q (by rw [m0x]; omega), fun _ => LR⟩, fun hh hlt => ?_⟩
  · obtain ⟨⟨a1, a2⟩, a3, a4, a5, a6, a7⟩ := I9
    refine ⟨⟨?_, ?_⟩, ?_, ?_, ?_, ?_, ?_⟩
    · rw [x5, nx, x1]; exact a1
    · rw [x6, nx, x7]; exact a2
    · rw [x7, c9]; exact True.intro
    · exact ⟨by rw [x4, x1]; exact a4.1, mon_q a4.2 Bx nx (fun k _ => by rw [x5]) (by rw [lx]) (fun i _ => by rw [x5]; exact ⟨rfl, rfl⟩) (fun k _ => by rw [x3])⟩
    · rw [x4, x1]; exact a5
    · rw [x4, x1]; exact a6
    · rw [Bx]; exact a7
  · rw [x7]; exact c9
  · rw [ux, u9, u8, ixx, li]
    have := V7.2.1 w
    rw [hi7, hi5] at this
    omega
  · -- codes
    have hB' : Y_B yy = Y_B y := eyx.1.1
    rw [hB'] at h1
    by_cases k1 : k + 1 < Y_n y
    · refine G_at_m eZZ (Nat.zero_le _) ?_ (d1 k h1 k1)
      have : 1 ≤ Y_m y 0 := by
        unfold Y_n at k1; omega
      have := dn_n this
      omega
    · by_cases k2 : k < Y_n y
      · have hm0 : ¬ Y_m y 0 = 0 := fun q => by unfold Y_n at k2; omega
        obtain ⟨l1, l2, l3, l4⟩ := dl hm0
        have ek : k = Y_n y - 1 := by omega
        rw [← ek] at l1 l2 l3 l4
        have f1 := (eyx.2.2.2.2.2.1 k (Nat.zero_le _) (by omega))
        refine G_19 (y := Y_dn yy) ?_ ?_ ?_ ?_
        · exact (eyx.2.2.1 13 k (by decide) (by decide) (Nat.zero_le _) k2).trans l1
        · show Y_a yy 0 k + 1 ≤ Y_z yy
          rw [f1.1]; have := eyx.1.2.1; omega
        · show Y_C yy (Y_a yy 0 k) = 3
          rw [f1.1]; exact (eyx.2.1 _ (Nat.zero_le _) (by omega)).trans l2
        · exact f1.2.trans l4
      · by_cases k3 : k < Y_n y7
        · exact G_at_w b06 (G_at_m (e7Z (bs y6)) (by show Y_n y6 ≤ k; omega) k3 (s67.1 k (by omega) k3))
        · have ek : k = Y_n y7 := by omega
          subst ek
          exact G_at_w b07 (G_at_m (e8Z (bs y7)) (Nat.le_refl _) (by omega) (s78.1 (Y_n y7) (Nat.le_refl _) (by omega)))
  · have hB' : Y_B yy = Y_B y := eyx.1.1
    rw [hB'] at h1
    by_cases k1 : t < Y_T y
    · exact G_t_m eZZ (Nat.zero_le _) (by rw [dn_T]; exact k1) (d2 t h1 k1)
    · exact G_t_w b06 (G_t_m (e7Z (bs y6)) (by show Y_T y6 ≤ t; omega) (by omega) (s67.2.1 t (by omega) (by omega)))
  · have hB' : Y_B yy = Y_B y := eyx.1.1
    rw [hB'] at h1
    by_cases k1 : u < Y_V y
    · exact G_u_m eZZ (Nat.zero_le _) (by rw [dn_V]; exact k1) (d3 u h1 k1)
    · exact G_u_w b06 (G_u_m (e7Z (bs y6)) (by show Y_V y6 ≤ u; omega) (by omega) (s67.2.2 u (by omega) (by omega)))
  · rw [ixx, li] at hlt
    have hB' : Y_B yy = Y_B y := eyx.1.1
    have e2 : (Y_i y 1).toNatClampNeg = (Y_i y 1).toInt.toNat := rfl
    by_cases k1 : (hh : Int) < (Y_i y 1).toInt
    · obtain ⟨a, a1, ⟨a2, a3⟩, a4, a5, a6⟩ := dh hh k1
      have f1 := (eyx.2.2.2.2.2.1 a (Nat.zero_le _) (by omega))
      have f13 : ∀ k, k < Y_n y → Y_R yy 13 k = Y_R y 13 k := fun k hk => eyx.2.2.1 13 k (by decide) (by decide) (Nat.zero_le _) hk
      refine ⟨a, ?_, ⟨by rw [hB']; exact a2, by omega⟩, f1.2.trans a4, ?_, ?_⟩
      · rw [rxx', r6a hh (by omega), if_neg (by omega)]; exact a1
      · rw [rxx', r6b hh (by omega), if_neg (by omega), f1.1]; exact a5
      · rcases a6 with z | ⟨z1, z2, z3⟩
        · exact Or.inl ((f13 a a3).trans z)
        · exact Or.inr ⟨(f13 a a3).trans z1, by omega, (f13 (a + 1) z2).trans z3⟩
    · have eh : hh = (Y_i y 1).toNatClampNeg := by omega
      have f1 := (eyx.2.2.2.2.2.1 (Y_n y) (Nat.zero_le _) (Nat.le_refl _))
      have e7x : G_ex b0 y7 yy := G_tr (e78 b0) (G_tr (e89 b0) (e9x b0))
      refine ⟨Y_n y, ?_, ⟨?_, by omega⟩, ?_, ?_, ?_⟩
      · rw [rxx', r6a hh (by omega), if_pos eh]
      · rw [hB']; unfold Y_n; omega
      · rw [f1.2, i.1.2]; exact hc
      · rw [rxx', r6b hh (by omega), if_pos eh, f1.1, i.1.1]
      · rcases f7 with z | ⟨z1, z2⟩
        · refine Or.inr ⟨?_, by omega, ?_⟩
          · have e : Y_R yy 13 (Y_n y7) = 1 := ((G_tr (e89 b0) (e9x b0)).2.2.1 13 (Y_n y7) (by decide) (by decide) (Nat.zero_le _) (by omega)).trans R8
            rw [z, n6] at e; exact e
          · have e : Y_R yy 13 (Y_n y8) = 19 := by rw [x3]; exact R9
            rw [show Y_n y + 1 = Y_n y8 by omega]; exact e
        · refine Or.inl ?_
          rw [n6] at z1 z2
          exact (e7x.2.2.1 13 (Y_n y) (by decide) (by decide) (Nat.zero_le _) z1).trans z2
end YT6
