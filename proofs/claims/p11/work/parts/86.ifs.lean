def e_BN (M : e_M) : Prop := (M 36).toInt = -1 → (M 29).toInt ≤ 2 * (M 6).toInt ∧ 13 * (M 31).toInt ≤ (M 6).toInt + 13 * (M 33).toInt ∧ 11 * (M 32).toInt ≤ (M 6).toInt + 11 * (M 33).toInt ∧ 8 * (M 46).toInt ≤ (M 6).toInt
/-- what a block does -/
def e_BK (WB : e_M → e_F → (e_M → e_F → Prop) → Prop) (n : Nat) : Prop := ∀ (M : e_M) (F : e_F) (G : e_G) (Q : e_M → e_F → Prop), e_PI M F → (0 ≤ (M 33).toInt ∧ (M 33).toInt ≤ 20) → ((M 36).toInt = -1 → 21 - (M 33).toInt ≤ n) → 1 ≤ n → e_BN M → (∀ (M' : e_M) (F' : e_F) (G' : e_G), e_X e_U0 True (-4) (-2) (-2) (-2) 0 (M 33).toInt 0 0 M F G M' F' G' → M' 33 = M 33 → ((M 36).toInt ≠ -1 → M' 29 = M 29) → ((M 36).toInt = -1 → (M' 36).toInt ≠ -1 → (M' 29).toInt ≤ 2 * (M' 6).toInt + 300 - 12 * (M' 33).toInt) → Q M' F') → WB M F Q
theorem rn_B {WB : e_M → e_F → (e_M → e_F → Prop) → Prop} {n : Nat} (hB : e_BK WB n) (hn : 1 ≤ n) {U : e_U} {P : Prop} {c s t u A D y e o : Int} {M M1 : e_M} {F F1 : e_F} {G G1 : e_G} {Q : e_M → e_F → Prop} (r : e_R U P c s t u A D 0 y e o M F G M1 F1 G1) (ho : 0 ≤ (M1 33).toInt ∧ (M1 33).toInt ≤ 20) (hf : 21 - (M1 33).toInt ≤ n) (hD : D + y ≤ (M1 33).toInt) (hbn : e_BN M1) (hQ : ∀ (M' : e_M) (F' : e_F) (G' : e_G), e_R U P (c - 4) (s - 2) (t - 2) (u - 2) A D 0 y e o M F G M' F' G' → M' 33 = M1 33 → e_PR M1 F1 G1 M' F' G' → Q M' F') : WB M1 F1 Q := by
  refine hB M1 F1 G1 Q (R_I r) ho (fun _ => hf) hn hbn (fun M2 F2 G2 x y2 k1 k2 => ?_)
  obtain ⟨x1, x2, x3, x4, x5⟩ := x
  have hx := e_X_tr (H2 := 0) r.2.1 x1 x2 x5 hD r.1.2.2.2 (fun g _ a b d => by
    obtain ⟨w1, w2, w3⟩ := x4 g trivial a b d
    exact ⟨e_SU_SG w1, w2, by rw [w3]; omega⟩)
  have e1 : c + -4 = c - 4 := by omega
  have e2 : s + -2 = s - 2 := by omega
  have e3 : t + -2 = t - 2 := by omega
  have e4 : u + -2 = u - 2 := by omega
  rw [e1, e2, e3, e4] at hx
  have m6 : (M1 6).toInt ≤ (M2 6).toInt := x2.1.2.1.2.2.2.2.2
  have he := r.1.2.1
  refine hQ M2 F2 G2 ⟨r.1, hx, by rw [y2]; exact r.2.2.1, ⟨fun g => ?_, fun g => ?_⟩⟩ y2 x2
  · have h1 := x5 g
    have h2 := hbn (e_PR_nb x2 g)
    omega
  · by_cases q : (M1 36).toInt = -1
    · have := k2 q g
      omega
    · have := r.2.2.2.2 q
      rw [k1 q, y2]
      omega
theorem R_BN {U : e_U} {P : Prop} {c s t u A D H y e o : Int} {M M1 : e_M} {F F1 : e_F} {G G1 : e_G} (hn : e_nm M) (r : e_R U P c s t u A D H y e o M F G M1 F1 G1) (h : (c ≤ -1 ∧ s ≤ 13 ∧ t ≤ 11 ∧ u ≤ 0) ∧ o = 0) : e_BN M1 := by
  intro g
  have h1 := r.2.1.2.2.2.2 g
  have h2 := r.2.2.1
  obtain ⟨n1, n2, n3, n4⟩ := hn
  omega
theorem e_here {M : e_M} {F : e_F} (hI : e_PI M F) (hc : (M 29).toInt ≤ 9000) : (9000 * M 27 + M 29).toInt = e_en M := by
  have b := e_PI_b hI
  have c0 : 0 ≤ (M 29).toInt := hI.2.2.2.1.2.1
  have e1 : (9000 * M 27).toInt = 9000 * (M 27).toInt := by
    obtain ⟨k, h1, h2, h3⟩ := ti_mulc2 9000 (M 27) 9000 (by decide)
    omega
  have e2 := ti_addx (9000 * M 27) (M 29) (by omega)
  unfold e_en
  omega
theorem R_9 {U : e_U} {P : Prop} {c s t u A D H y e o : Int} {M M1 : e_M} {F F1 : e_F} {G G1 : e_G} (r : e_R U P c s t u A D H y e o M F G M1 F1 G1) : (M1 29).toInt ≤ 8990 ∧ 0 ≤ e_en M1 ∧ e_en M1 ≤ 17990 := by
  have h := e_CB_9 (R_I r) r.2.2.2 (by have := r.1.2.1; omega)
  have b := e_PI_b (R_I r)
  have c0 : 0 ≤ (M1 29).toInt := (R_I r).2.2.2.1.2.1
  unfold e_en
  omega
theorem e_en_mo {M M1 : e_M} {F F1 : e_F} {G G1 : e_G} (h : e_PR M F G M1 F1 G1) : e_en M ≤ e_en M1 := by
  have a : M1 27 = M 27 := h.1.1.1
  have b : (M 29).toInt ≤ (M1 29).toInt := h.1.2.1.1
  unfold e_en; rw [a]; omega
theorem p_choice {WF WB : e_M → e_F → (e_M → e_F → Prop) → Prop} {n : Nat} (hX : e_SX WF 22 0 2) (hB : e_BK WB n) (hn1 : 1 ≤ n) : ∀ (M : e_M) (F : e_F) (G : e_G) (Q : e_M → e_F → Prop), 21 - (M 33).toInt ≤ n → e_PI M F → (M 36).toInt = -1 → (M 4).toInt = 4 → (M 5).toInt = (13 : Nat) → (1 ≤ (M 33).toInt ∧ (M 33).toInt ≤ 20) → e_nm M → (∀ (M' : e_M) (F' : e_F) (G' : e_G), e_R e_U0 True (-1) 0 (-1) 0 0 ((M 33).toInt - 1) 0 0 11 0 M F G M' F' G' → Q M' F') → w_choice WF WB M F Q := by
  intro M F G Q hf hI hb h4 h5 ho hn hQ
  have z0 : ¬ (1 : Int32) = 0 := by decide
  refine rn_word (L := 2) 13 (by decide) G 0 ((M 33).toInt - 1) hI hb h4 h5 hn.1 (by omega) (fun M1 F1 r1 hb1 y1 _ => ?_)
  refine rn_X (p_whole hX) (by decide) (by decide) r1 (by decide) (fun _ => by rw [y1]; omega) (fun _ => by rw [y1]; omega) (fun M2 F2 G2 r2 y2 p2 => ?_)
  refine rn_putH r2 (by omega) (Or.inl ⟨by decide, by decide⟩) (fun w M4 F4 G4 r4 k4 p4 ⟨hw, e4, m4⟩ => ?_)
  have o4 : M4 33 = M 33 := (k4 33 (by decide)).trans (y2.trans y1)
  refine rn_B hB hn1 r4 (by rw [o4]; omega) (by rw [o4]; exact hf) (by rw [o4]; omega) (R_BN hn r4 (by omega)) (fun M5 F5 G5 r5 y5 p5 => ?_)
  have o5 : M5 33 = M 33 := y5.trans o4
  have m5 := e_en_mo p5
  have v2 := R_9 r2
  have v5 := R_9 r5
  have hvw : vp_in w 18000 := vp_in_iff.mpr (by omega)
  refine p_isWord (fun _ => ⟨fun _ => ⟨hvw, ?_⟩, fun q => absurd rfl q⟩) (fun hb5 h54 h55 => ⟨fun q => absurd q z0, fun _ => ?_⟩)
  · have r6 := R_fill w (9000 * M5 27 + M5 29) (U' := e_U0) r5 (e_en M2) hw (by omega) (e_here (R_I r5) (by omega)) (Or.inr ⟨rfl, rfl⟩) (fun r k q => absurd q (fun q => q)) (fun r k q => by rcases q with q | q; exact Or.inl q; exact Or.inr q)
    exact hQ _ _ G5 (R_wk r6 (by omega) ⟨rfl, rfl⟩ (by omega) rfl)
  · refine R_pass r5 hb5 (by omega) (fun M6 F6 r6 hb6 y6 p6 _ => ?_)
    refine rn_putH r6 (by omega) (Or.inr ⟨by decide, rfl⟩) (fun w2 M7 F7 G7 r7 k7 p7 ⟨hw2, e7, m7⟩ => ?_)
    have m6 := e_en_mo p6
    have v6 := R_9 r6
    have v7 := R_9 r7
    have o7 : M7 33 = M 33 := (k7 33 (by decide)).trans (y6.trans o5)
    have r8 := R_fill w (9000 * M7 27 + M7 29) (U' := fun r k => r = 0 ∧ k = (e_en M6).toNat) r7 (e_en M2) hw (by omega) (e_here (R_I r7) (by omega)) (Or.inl (Or.inr ⟨rfl, rfl⟩)) (fun r k q => Or.inr q) (fun r k q => by
      rcases q with (q | q) | q
      · exact absurd q (fun q => q)
      · exact Or.inr q
      · exact Or.inl q)
    refine ⟨hvw, rn_B hB hn1 r8 (by rw [o7]; omega) (by rw [o7]; exact hf) (by rw [o7]; omega) (R_BN hn r8 (by omega)) (fun M9 F9 G9 r9 y9 p9 => ⟨vp_in_iff.mpr (by omega), ?_⟩)⟩
    have m9 := e_en_mo p9
    have v9 := R_9 r9
    have r10 := R_fill w2 (9000 * M9 27 + M9 29) (U' := e_U0) r9 (e_en M6) hw2 (by omega) (e_here (R_I r9) (by omega)) ⟨rfl, rfl⟩ (fun r k q => absurd q (fun q => q)) (fun r k q => Or.inr q)
    exact hQ _ _ G9 (R_wk r10 (by omega) ⟨rfl, rfl⟩ (by omega) rfl)
theorem p_loop {WF WB : e_M → e_F → (e_M → e_F → Prop) → Prop} {n : Nat} (hX : e_SX WF 22 0 2) (hB : e_BK WB n) (hn1 : 1 ≤ n) : ∀ (M : e_M) (F : e_F) (G : e_G) (Q : e_M → e_F → Prop), 21 - (M 33).toInt ≤ n → e_PI M F → (M 36).toInt = -1 → (M 4).toInt = 4 → (M 5).toInt = (15 : Nat) → (1 ≤ (M 33).toInt ∧ (M 33).toInt ≤ 20) → e_nm M → (∀ (M' : e_M) (F' : e_F) (G' : e_G), e_R e_U0 True (-1) 0 (-1) 0 0 ((M 33).toInt - 1) 0 0 11 0 M F G M' F' G' → Q M' F') → w_loop WF WB M F Q := by
  intro M F G Q hf hI hb h4 h5 ho hn hQ
  refine rn_word (L := 5) 15 (by decide) G 0 ((M 33).toInt - 1) hI hb h4 h5 hn.1 (by omega) (fun M1 F1 r1 hb1 y1 _ => ?_)
  refine rn_putC 0 (by decide) 0 0 r1 (by omega) (by omega) (fun g _ d M' F' G' _ _ d0 d1 _ k _ _ _ e1 e2 => Or.inr (Or.inl ⟨rfl, rfl, Or.inl rfl, rfl, by omega⟩)) (fun w0 M2 F2 G2 r2 k2 p2 hw0 _ f2 e2 => ?_)
  have o2 : M2 33 = M 33 := (k2 33 (by decide)).trans y1
  refine rn_X (p_whole hX) (by decide) (by decide) r2 (by decide) (fun _ => by rw [o2]; omega) (fun _ => by rw [o2]; omega) (fun M3 F3 G3 r3 y3 p3 => ?_)
  refine rn_putH r3 (by omega) (Or.inl ⟨by decide, by decide⟩) (fun w M4 F4 G4 r4 k4 p4 ⟨hw, e4, m4⟩ => ?_)
  have o4 : M4 33 = M 33 := (k4 33 (by decide)).trans (y3.trans o2)
  refine rn_B hB hn1 r4 (by rw [o4]; omega) (by rw [o4]; exact hf) (by rw [o4]; omega) (R_BN hn r4 (by omega)) (fun M5 F5 G5 r5 y5 p5 => ?_)
  have v1 := R_9 r1
  have v3 := R_9 r3
  have v5 := R_9 r5
  have m5 := e_en_mo p5
  have m2 := e_en_mo p2
  have m3 := e_en_mo p3
  have p25 := e_PR_tr p3 (e_PR_tr p4 p5)
  have p15 := e_PR_tr p2 p25
  refine rn_putC 20 (by decide) 0 0 r5 (by omega) (by omega) (fun g _ d M' F' G' q1 q2 d0 d1 _ k _ pr _ e1 e3 => ?_) (fun w9 M6 F6 G6 r6 k6 p6 hw6 _ _ _ => ⟨vp_in_iff.mpr (by omega), ?_⟩)
  · obtain ⟨t1, t2, t3⟩ := r1.2.1.2.2.2.1 (e_PR_gd p15 g) trivial q1 (by omega) (by omega)
    have pp := e_PR_tr p15 pr
    have b1 := e_PI_b (R_I r1)
    have x1 : e_en M1 = 9000 * (M1 27).toInt + (M1 29).toInt := rfl
    have x2 : e_en M2 = 9000 * (M2 27).toInt + (M2 29).toInt := rfl
    have c1 : 0 ≤ (M1 29).toInt := (R_I r1).2.2.2.1.2.1
    have a1 : M' 27 = M1 27 := pp.1.1.1
    obtain ⟨g1, g2⟩ := pp.2.2.1 (e_en M1).toNat (by omega)
    obtain ⟨f3, -⟩ := (e_PR_tr p25 pr).2.1.1 (e_en M1).toNat (Or.inl (by omega))
    refine Or.inr (Or.inr (Or.inr (Or.inr (Or.inl ⟨rfl, rfl, ⟨by rw [hw0, a1]; omega, by rw [hw0]; omega, by rw [hw0, g1]; exact t2, by rw [hw0, g2, t3]; omega⟩, Or.inr (by rw [hw0, f3, f2])⟩))))
  · have v6 := R_9 r6
    have m6 := e_en_mo p6
    have r10 := R_fill w (9000 * M6 27 + M6 29) (U' := e_U0) r6 (e_en M3) hw (by omega) (e_here (R_I r6) (by omega)) (Or.inr ⟨rfl, rfl⟩) (fun r k q => absurd q (fun q => q)) (fun r k q => q)
    exact hQ _ _ G6 (R_wk r10 (by omega) ⟨rfl, rfl⟩ (by omega) rfl)
