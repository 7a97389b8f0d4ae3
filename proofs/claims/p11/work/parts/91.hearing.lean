/-! HEARINGS AND THE TEXT of the reference. -/
def e_TR (M : e_M) (F : e_F) (M' : e_M) (F' : e_F) : Prop := (M' 27 = M 27 ∧ M' 2 = M 2 ∧ M' 1 = M 1 ∧ M' 28 = M 28 ∧ ∀ k, 47 < k → M' k = M k) ∧ (∀ j : Nat, (j : Int) < 9000 * (M 27).toInt ∨ 9000 * (M 27).toInt + 9000 ≤ j → F' 13 j = F 13 j ∧ F' 14 j = F 14 j ∧ F' 15 j = F 15 j ∧ F' 16 j = F 16 j) ∧ (∀ j : Nat, (j : Int) < 400 * (M 27).toInt ∨ 400 * (M 27).toInt + 400 ≤ j → (F' 18 j = F 18 j ∧ F' 19 j = F 19 j) ∧ (F' 20 j = F 20 j ∧ F' 21 j = F 21 j ∧ F' 22 j = F 22 j) ∧ (F' 23 j = F 23 j ∧ F' 24 j = F 24 j ∧ F' 25 j = F 25 j ∧ F' 26 j = F 26 j)) ∧ F' 0 = F 0 ∧ (∀ r, 45 < r → F' r = F r) ∧ e17 M F F'
theorem e_TR_rf (M : e_M) (F : e_F) : e_TR M F M F := ⟨⟨rfl, rfl, rfl, rfl, fun _ _ => rfl⟩, fun _ _ => ⟨rfl, rfl, rfl, rfl⟩, fun _ _ => ⟨⟨rfl, rfl⟩, ⟨rfl, rfl, rfl⟩, ⟨rfl, rfl, rfl, rfl⟩⟩, rfl, fun _ _ => rfl, fun _ _ => rfl⟩
theorem e_TR_tr {M M1 M2 : e_M} {F F1 F2 : e_F} (h : e_TR M F M1 F1) (q : e_TR M1 F1 M2 F2) : e_TR M F M2 F2 := by
  obtain ⟨⟨a1, a2, a3, a4, a5⟩, b, c, d, e⟩ := h
  obtain ⟨⟨x1, x2, x3, x4, x5⟩, y, z, w, v⟩ := q
  rw [a1] at y z
  refine ⟨⟨x1.trans a1, x2.trans a2, x3.trans a3, x4.trans a4, fun k hk => (x5 k hk).trans (a5 k hk)⟩, fun j hj => ?_, fun j hj => ?_, w.trans d, fun r hr => (v.1 r hr).trans (e.1 r hr), fun j hj => (v.2 j (by rw [a1]; exact hj)).trans (e.2 j hj)⟩
  · obtain ⟨p1, p2, p3, p4⟩ := y j hj
    obtain ⟨q1, q2, q3, q4⟩ := b j hj
    exact ⟨p1.trans q1, p2.trans q2, p3.trans q3, p4.trans q4⟩
  · obtain ⟨⟨p1, p2⟩, ⟨p3, p4, p5⟩, p6, p7, p8, p9⟩ := z j hj
    obtain ⟨⟨q1, q2⟩, ⟨q3, q4, q5⟩, q6, q7, q8, q9⟩ := c j hj
    exact ⟨⟨p1.trans q1, p2.trans q2⟩, ⟨p3.trans q3, p4.trans q4, p5.trans q5⟩, p6.trans q6, p7.trans q7, p8.trans q8, p9.trans q9⟩
theorem e_TR_PR {M M1 : e_M} {F F1 : e_F} {G G1 : e_G} (h : e_PR M F G M1 F1 G1) (hA : e_PA M) : e_TR M F M1 F1 := by
  obtain ⟨⟨⟨a1, a2, a3, a4, a5, a6⟩, -⟩, ⟨d1, d2, d3, ⟨d4, d5, d6, d7⟩, -⟩, -⟩ := h
  obtain ⟨q1, q2, q3, q4, -⟩ := hA
  refine ⟨⟨a1, a2, a4, a5, a6⟩, fun j hj => d1 j (by omega), fun j hj => ⟨⟨by rw [d4], by rw [d5]⟩, d2 j (by omega), d3 j (by omega)⟩, d6, d7⟩
def e_HR (M : e_M) (F : e_F) (G : e_G) : Prop := ∀ r : Nat, 400 * (M 27).toInt ≤ r → (r : Int) < 400 * (M 27).toInt + (M 30).toInt → e_tg G (9000 * (M 27).toInt) (e_en M) (F 18 r).toInt 0
def e_HP (M : e_M) (F : e_F) : Prop := ∀ r : Nat, 400 * (M 27).toInt ≤ r → (r : Int) < 400 * (M 27).toInt + (M 30).toInt → 0 ≤ (F 19 r).toInt ∧ (F 19 r).toInt ≤ 4
def e_z : e_M := fun _ => 0
/-- what a hearing begins with: no number, no objection told -/
def e_J (M : e_M) : e_M := um (um M 34 0) 35 0
theorem e_J_ne {M : e_M} {k : Nat} (h : k ≠ 34) (h' : k ≠ 35) : e_J M k = M k := (e_um_ne h').trans (e_um_ne h)
theorem e_J_cg {M M' : e_M} {k : Nat} (h : M' k = M k) : e_J M' k = e_J M k := by
  by_cases a : k = 35
  · subst a; rfl
  · by_cases b : k = 34
    · subst b; rfl
    · rw [e_J_ne b a, e_J_ne b a, h]
theorem e_TR_J {M M' : e_M} {F F' : e_F} (h : e_TR (e_J M) F (e_J M') F') : e_TR M F M' F' := by
  obtain ⟨⟨a1, a2, a3, a4, a5⟩, b⟩ := h
  refine ⟨⟨a1, a2, a3, a4, fun k hk => ?_⟩, b⟩
  have := a5 k hk
  rw [e_J_ne (by omega) (by omega), e_J_ne (by omega) (by omega)] at this
  exact this
/-- between two hearings -/
def e_TF (M : e_M) (F : e_F) (G : e_G) : Prop := e_PI (e_J M) F ∧ (M 33).toInt = 0 ∧ (∀ w : Nat, (w : Int) < (M 12).toInt → (F 9 w).toInt < (M 30).toInt ∧ (F 11 w).toInt < (M 30).toInt) ∧ ((M 29).toInt ≤ 2 * (M 6).toInt ∧ 13 * (M 31).toInt ≤ (M 6).toInt ∧ 11 * (M 32).toInt ≤ (M 6).toInt ∧ 8 * (M 46).toInt ≤ (M 6).toInt ∧ 12 * (M 30).toInt ≤ (M 6).toInt) ∧ ((M 38).toInt = -1 → e_HP M F) ∧ (e_gd M F → e_SG e_z M F G (e_en M) ∧ e_HR M F G ∧ G 0 (e_en M).toNat = 0 ∧ G 1 (e_en M).toNat = 0)
/-- before a hearing -/
def e_TG (M : e_M) (F : e_F) (G : e_G) : Prop := e_PI (e_J M) F ∧ (M 36).toInt = -1 ∧ (M 33).toInt = 0 ∧ (∀ w : Nat, (w : Int) < (M 12).toInt → (F 9 w).toInt < (M 30).toInt) ∧ ((M 29).toInt ≤ 2 * (M 6).toInt ∧ 13 * (M 31).toInt ≤ (M 6).toInt ∧ 11 * (M 32).toInt ≤ (M 6).toInt ∧ 8 * (M 46).toInt ≤ (M 6).toInt ∧ 12 * (M 30).toInt + 8 ≤ (M 6).toInt) ∧ ((M 38).toInt = -1 → e_HP M F) ∧ (e_gd M F → e_SG e_z M F G (e_en M) ∧ e_HR M F G ∧ G 0 (e_en M).toNat = 0 ∧ G 1 (e_en M).toNat = 0)
theorem e_P_38 {M : e_M} {F : e_F} (G : e_G) (v : Int32) (hv : v.toInt ≠ -1) (hI : e_PI M F) : e_P 0 M F G (um M 38 v) F := e_P_told G (fun k _ _ _ a => e_um_ne a) (fun _ _ _ => rfl) (fun _ => hv) ⟨hI.2.2.2.2.1.1, fun q => absurd q hv⟩ hI
theorem p_parameter {k : Int32} {M : e_M} {F : e_F} (G : e_G) {Q : e_M → e_F → Prop} (hI : e_PI M F) (hQ : ∀ (M' : e_M) (F' : e_F), e_P 1 M F G M' F' → M' 33 = M 33 → ((M' 36).toInt = -1 → (M' 38).toInt = -1 → k.toInt < 4) → Q M' F') : w_parameter k M F Q := by
  have l4 : (4 : Int32).toInt = 4 := by decide
  have z0 : ¬ (1 : Int32) = 0 := by decide
  refine p_takenN G hI (fun w M1 F1 x1 y1 s1 hw => ?_)
  have h33 : ∀ M2 : e_M, e_P 0 M1 F1 G M2 F1 → M2 33 = M1 33 → M2 47 = M1 47 → ((M2 36).toInt = -1 → (M2 38).toInt = -1 → k.toInt < 4) → w_parameter_33 Q w M2 F1 := by
    intro M2 x2 y2 z2 hk
    refine p_tell G x2.1 (fun g => e_nw_mo x2.2.1 hw g) (by rw [z2, s1]; exact e_PI_s hI) (fun M3 F3 x3 k3 t3 => ?_)
    refine hQ M3 F3 (e_P_tr x1 (e_P_tr (c3 := 0) x2 x3 (by omega)) (by omega)) ((k3 33 (by decide) (by decide) (by decide)).trans (y2.trans y1)) (fun a b => ?_)
    have a2 := e_PR_nb x3.2.1 a
    refine hk a2 ?_
    by_cases q : (M2 38).toInt = -1
    · exact q
    · exact absurd b (x3.2.1.1.2.2.2 q)
  refine ⟨fun h4 => h33 M1 (e_P_rf G x1.1) rfl rfl (fun _ _ => by have := Int32.lt_iff_toInt_lt.mp h4; omega), fun h4 => ⟨fun _ => ⟨fun q => absurd rfl q, fun _ => ?_⟩, fun hb => ⟨fun _ => h33 M1 (e_P_rf G x1.1) rfl rfl (fun q => absurd q (fun q => ti_ne hb (by rw [q]; decide))), fun q => absurd q z0⟩⟩⟩
  refine p_least (by rw [s1]; exact e_PI_s hI) (fun r hr => ?_)
  exact h33 (um M1 38 r) (e_P_38 G r hr x1.1) rfl rfl (fun _ q => absurd q hr)
theorem p_hearing {WB : e_M → e_F → (e_M → e_F → Prop) → Prop} {n : Nat} (hB : e_BK WB n) (hn : 21 ≤ n) {M : e_M} {F : e_F} {G : e_G} {Q : e_M → e_F → Prop} (hT : e_TG M F G) (hQ : ∀ (M' : e_M) (F' : e_F) (G' : e_G), e_TR M F M' F' → ((M' 36).toInt = -1 → e_TF (um M' 30 (M' 30 + 1)) F' G') → (M 6).toInt ≤ (M' 6).toInt → Q M' F') : w_hearing WB M F Q := by
  have l1 : (1 : Int32).toInt = 1 := by decide
  have z0 : ¬ (1 : Int32) = 0 := by decide
  obtain ⟨hI, hb, h33, hst, ⟨n1, n2, n3, n4, n5⟩, hHP, hgd⟩ := hT
  have s0 : 0 ≤ (M 6).toInt ∧ (M 6).toInt ≤ (M 3).toInt ∧ (M 3).toInt ≤ 4000 := e_PI_e (M := e_J M) hI
  have bb : 0 ≤ (M 27).toInt ∧ (M 27).toInt ≤ 1 := e_PI_b (M := e_J M) hI
  have hA : e_PA (e_J M) := hI.2.2.2.1
  have i30 : 0 ≤ (M 30).toInt := hA.2.2.2.2.2.2
  have i29 : 0 ≤ (M 29).toInt := hA.2.1
  have hH : (400 * M 27 + M 30).toInt = 400 * (M 27).toInt + (M 30).toInt := e_row4 bb (by omega)
  have hvH : vp_in (400 * M 27 + M 30) 800 := vp_in_iff.mpr (by omega)
  have h72 : ∀ (a2 : Int32) (M2 : e_M) (F2 : e_F), e_P 1 (e_J M) F G M2 F2 → (M2 33).toInt = 1 → 0 ≤ a2.toInt → ((M2 36).toInt = -1 → (M2 38).toInt = -1 → a2.toInt ≤ 4) → w_hearing_72 WB Q (400 * M 27 + M 30) a2 M2 F2 := by
    intro a2 M2 F2 x2 o2 ha hk
    refine p_closes G x2.1 (by omega) (fun M3 F3 x3 o3 => ?_)
    have x := e_P_tr (c3 := 2) x2 x3 (by omega)
    have t3 : e_TR M F M3 F3 := by
      obtain ⟨⟨a1, a2, a3, a4, a5⟩, b⟩ := e_TR_PR x.2.1 hA
      exact ⟨⟨a1, a2, a3, a4, fun k hk => (a5 k hk).trans (e_J_ne (by omega) (by omega))⟩, b⟩
    refine ⟨fun hb3 => ⟨fun _ => ⟨hvH, hvH, ?_⟩, fun q => absurd rfl q⟩, fun hb3 => ⟨fun q => absurd q z0, fun _ => hQ M3 F3 G t3 (fun q => absurd q (fun q => ti_ne hb3 (by rw [q]; decide))) (show (M 6).toInt ≤ (M3 6).toInt from x.2.1.1.2.1.2.2.2.2.2)⟩⟩
    have hb3' : (M3 36).toInt = -1 := by rw [hb3]; decide
    obtain ⟨xI, xP, ⟨e29', e31', e32', e46'⟩, x6⟩ := x
    have e29 : M3 29 = M 29 := e29'
    have e31 : M3 31 = M 31 := e31'
    have e32 : M3 32 = M 32 := e32'
    have e46 : M3 46 = M 46 := e46'
    have m6 : (M 6).toInt + 2 ≤ (M3 6).toInt := x6 hb3'
    have m06 : (M 6).toInt ≤ (M3 6).toInt := by omega
    have s3 := e_PI_e xI
    have e27 : M3 27 = M 27 := xP.1.1.1
    have e30 : M3 30 = M 30 := xP.1.1.2.2.1
    have e27' : (M3 27).toInt = (M 27).toInt := by rw [e27]
    have hA3 := xI.2.2.2.1
    have hhere := e_here xI (show (M3 29).toInt ≤ 9000 from by rw [e29]; omega)
    have een : e_en M3 = e_en M := by unfold e_en; rw [e27, e29]
    have k0 : ((e_en M).toNat : Int) = e_en M := by
      unfold e_en; omega
    have eH : (400 * M 27 + M 30).toNatClampNeg = (400 * (M 27).toInt + (M 30).toInt).toNat := by rw [e_tc, hH]
    generalize hFe : uf (uf F3 19 (400 * M 27 + M 30) a2) 18 (400 * M 27 + M 30) (9000 * M3 27 + M3 29) = F4
    have hI4 : e_PI M3 F4 := by rw [← hFe]; exact xI
    have f18 : ∀ r : Nat, r ≠ (400 * (M 27).toInt + (M 30).toInt).toNat → F4 18 r = F3 18 r := fun r hr => by rw [← hFe]; exact e_upd_ne (by rw [eH]; exact hr)
    have f19 : ∀ r : Nat, r ≠ (400 * (M 27).toInt + (M 30).toInt).toNat → F4 19 r = F3 19 r := fun r hr => by rw [← hFe]; exact e_upd_ne (by rw [eH]; exact hr)
    have g18 : F4 18 (400 * (M 27).toInt + (M 30).toInt).toNat = 9000 * M3 27 + M3 29 := by rw [← hFe, ← eH]; exact e_upd_eq
    have g19 : F4 19 (400 * (M 27).toInt + (M 30).toInt).toNat = a2 := by rw [← hFe, ← eH]; exact e_upd_eq
    have t4 : e_TR M3 F3 M3 F4 := by
      refine ⟨(e_TR_rf M3 F3).1, fun j hj => by rw [← hFe]; exact ⟨rfl, rfl, rfl, rfl⟩, fun j hj => ⟨⟨f18 j (by rw [e27'] at hj; omega), f19 j (by rw [e27'] at hj; omega)⟩, by rw [← hFe]; exact ⟨rfl, rfl, rfl⟩, by rw [← hFe]; exact ⟨rfl, rfl, rfl, rfl⟩⟩, by rw [← hFe]; rfl, fun r hr => by rw [← hFe, e_uf_ne (by omega), e_uf_ne (by omega)], fun j _ => by rw [← hFe]; rfl⟩
    have gd4 : ∀ F', F' = F4 → (e_gd M3 F' → e_gd M3 F3) := fun F' h g => by rw [h, ← hFe] at g; exact g
    have sg4 : e_SG e_z M3 F3 G (e_en M3) → e_SG e_z M3 F4 G (e_en M3) := fun h => by rw [← hFe]; exact h
    have r0 := R_rf (F := F4) G 0 0 hI4 hb3' (by rw [e29]; omega) (by decide)
    refine rn_B hB (by omega) r0 (by omega) (by omega) (by omega) (fun _ => by rw [e29, e31, e32, e46]; omega) (fun M5 F5 G5 r5 y5 p5 => ?_)
    refine rn_put 1 (by decide) (by decide) r5 (by omega) (fun _ => by decide) (fun _ => ⟨⟨by decide, by decide⟩, ⟨by decide, by decide⟩, by decide⟩) (fun w6 M6 F6 G6 r6 k6 p6 _ => ?_)
    have v6 := R_9 r6
    refine p_put 19 0 0 0 0 0 G6 (R_I r6) v6.1 (fun w7 M7 F7 G7 h1 h2 h3 h4 h5 h6 h7 h8 => ?_)
    have p46 : e_PR M3 F4 G M6 F6 G6 := r6.2.1.2.1
    have p47 := e_PR_tr p46 h3
    refine hQ M7 F7 G7 (e_TR_tr t3 (e_TR_tr t4 (e_TR_PR p47 hA3))) (fun hb7 => ?_) (by have q1 : (M3 6).toInt ≤ (M7 6).toInt := p47.1.2.1.2.2.2.2.2; omega)
    have hb6 := e_PR_nb h3 hb7
    have vv := r6.2.1.2.2.2.2 hb6
    have m36 : (M3 6).toInt ≤ (M6 6).toInt := p46.1.2.1.2.2.2.2.2
    have e30' : M7 30 = M 30 := p47.1.1.2.2.1.trans e30
    have e30i : (M7 30 + 1).toInt = (M 30).toInt + 1 := by
      rw [e30']; have := ti_addx (M 30) 1 (by omega); omega
    have e27_7 : (M7 27).toInt = (M 27).toInt := by rw [p47.1.1.1, e27]
    have q6 : M7 6 = M6 6 := h4 6 (by decide)
    have o7 : (M7 33).toInt = 0 := by
      rw [h4 33 (by decide)]
      have := r6.2.2.1
      omega
    have een7 : e_en M7 = e_en M6 + 1 := by unfold e_en; rw [h4 27 (by decide), h5]; omega
    have F18 : F7 18 = F4 18 := p47.2.1.2.2.2.1.1
    have F19 : F7 19 = F4 19 := p47.2.1.2.2.2.1.2.1
    have P18 : F3 18 = F 18 := xP.2.1.2.2.2.1.1
    have P19 : F3 19 = F 19 := xP.2.1.2.2.2.1.2.1
    obtain ⟨j1, j2, j3, ⟨ja, jb, jc, jd, je, jf, jg⟩, ⟨j5, j5'⟩, j6⟩ := h2
    refine ⟨⟨j1, j2, j3, ⟨ja, jb, jc, jd, je, jf, (show 0 ≤ (M7 30 + 1).toInt from by omega)⟩, ⟨fun w hw => ?_, fun _ => ?_⟩, j6⟩, o7, fun w hw => ?_, ?_, fun h38 => ?_, fun g => ?_⟩
    · have := j5 w hw
      rw [e30'] at this
      show (F7 9 w).toInt ≤ (M7 30 + 1).toInt ∧ -1 ≤ (F7 11 w).toInt ∧ (F7 11 w).toInt ≤ (M7 30 + 1).toInt
      omega
    · refine ⟨(show 0 ≤ (0 : Int32).toInt ∧ (0 : Int32).toInt ≤ 12 from by decide), (show 0 ≤ (0 : Int32).toInt ∧ (0 : Int32).toInt ≤ 8 from by decide), fun w hw h9 => ?_⟩
      have h9' : F7 9 w = M7 30 + 1 := h9
      have t := (j5 w hw).1
      rw [h9', e30i] at t
      rw [e30'] at t
      omega
    · have := j5 w hw
      rw [e30'] at this
      show (F7 9 w).toInt < (M7 30 + 1).toInt ∧ (F7 11 w).toInt < (M7 30 + 1).toInt
      omega
    · show (M7 29).toInt ≤ 2 * (M7 6).toInt ∧ 13 * (M7 31).toInt ≤ (M7 6).toInt ∧ 11 * (M7 32).toInt ≤ (M7 6).toInt ∧ 8 * (M7 46).toInt ≤ (M7 6).toInt ∧ 12 * (M7 30 + 1).toInt ≤ (M7 6).toInt
      rw [h5, q6, h4 31 (by decide), h4 32 (by decide), h4 46 (by decide), e30i]
      have m31 : (M3 31).toInt ≤ (M6 31).toInt := p46.1.2.1.2.1
      rw [e31] at m31
      rw [e29, e31, e32, e46] at vv
      omega
    · have h38' : (M7 38).toInt = -1 := h38
      have h38_3 : (M3 38).toInt = -1 := by
        by_cases q : (M3 38).toInt = -1
        · exact q
        · exact absurd h38' (p47.1.2.2.2 q)
      have h38_2 : (M2 38).toInt = -1 := by
        by_cases q : (M2 38).toInt = -1
        · exact q
        · exact absurd h38_3 (x3.2.1.1.2.2.2 q)
      have h38_0 : (M 38).toInt = -1 := by
        by_cases q : (M 38).toInt = -1
        · exact q
        · exact absurd h38_3 (xP.1.2.2.2 q)
      intro r hr1 hr2
      have hr1' : 400 * (M7 27).toInt ≤ r := hr1
      have hr2' : (r : Int) < 400 * (M7 27).toInt + (M7 30 + 1).toInt := hr2
      rw [F19]
      by_cases q : r = (400 * (M 27).toInt + (M 30).toInt).toNat
      · rw [q, g19]
        exact ⟨ha, hk (e_PR_nb x3.2.1 hb3') h38_2⟩
      · rw [f19 r q, P19]
        exact hHP h38_0 r (by omega) (by omega)
    · have g7 : e_gd M7 F7 := g
      have g6 := e_PR_gd h3 g7
      have g4 := e_PR_gd p46 g6
      have g3 := gd4 F4 rfl g4
      have g0 : e_gd M F := e_PR_gd (M := e_J M) xP g3
      obtain ⟨a1, a2', a3, a4⟩ := hgd g0
      obtain ⟨b1, b2, b3⟩ := r6.2.1.2.2.2.1 g6 trivial (by rw [een]; exact a3) (by rw [een, a4]; omega) (by rw [een, a4]; omega)
      have hR : e_ok M7 F7 G7 (e_en M7) (e_en M6).toNat := by
        have c6 : ((e_en M6).toNat : Int) = 9000 * (M6 27).toInt + (M6 29).toInt := by unfold e_en at v6 ⊢; omega
        obtain ⟨u0, u1⟩ := h3.2.2.1 (e_en M6).toNat (by omega)
        refine ⟨19, by rw [h7.1]; decide, by rw [u1, b3, een, a4]; decide, Or.inr (Or.inr (Or.inr (Or.inl ⟨rfl, ?_⟩)))⟩
        rw [u0, b2]; decide
      have b6 := e_PI_b (R_I r6)
      have c6 : 0 ≤ (M6 29).toInt := (R_I r6).2.2.2.1.2.1
      have sA : e_SG M3 M7 F7 G7 (e_en M7) := e_SG_tr h3 b6.1 (by omega) (by unfold e_en; omega) (e_SU_SG b1) (e_SG_one b6.1 c6 (h4 27 (by decide)) h5 (h4 31 (by decide)) (h4 32 (by decide)) hR)
      have a1' : e_SG e_z M3 F3 G (e_en M3) := by
        rw [een]
        have := e_SG_tr (M := e_J M) (F := F) (G := G) (L := e_en M) (L' := e_en M) xP bb.1 (Int.le_refl _) (show 9000 * (M 27).toInt + (M 29).toInt ≤ 9000 * (M 27).toInt + (M 29).toInt + 1 from by omega) a1 (e_SG_rf e29 e31 e32)
        exact this
      have en37 : e_en M3 ≤ e_en M7 := e_en_mo p47
      have sB := e_SG_tr p47 (by omega) en37 (by unfold e_en; omega) (sg4 a1') sA
      refine ⟨sB, fun r hr1 hr2 => ?_, ?_, ?_⟩
      · have hr1' : 400 * (M7 27).toInt ≤ r := hr1
        have hr2' : (r : Int) < 400 * (M7 27).toInt + (M7 30 + 1).toInt := hr2
        show e_tg G7 (9000 * (M7 27).toInt) (e_en M7) (F7 18 r).toInt 0
        have x3en : e_en M3 = 9000 * (M3 27).toInt + (M3 29).toInt := rfl
        have m56 := e_en_mo p5
        have m36' := e_en_mo p46
        rw [F18]
        by_cases q : r = (400 * (M 27).toInt + (M 30).toInt).toNat
        · rw [q, g18, hhere, een]
          obtain ⟨u0, u1⟩ := p47.2.2.1 (e_en M).toNat (by rw [e27', e29]; unfold e_en at k0 ⊢; omega)
          have c0 : 0 ≤ (M 29).toInt := i29
          exact ⟨by rw [e27_7]; unfold e_en; omega, by omega, by rw [u0]; exact a3, by rw [u1]; exact a4⟩
        · rw [f18 r q, P18]
          obtain ⟨t1, t2, t3, t4⟩ := a2' r (by omega) (by omega)
          obtain ⟨u0, u1⟩ := p47.2.2.1 (F 18 r).toInt.toNat (by rw [e27', e29]; unfold e_en at t2; omega)
          exact ⟨by rw [e27_7]; exact t1, by omega, by rw [u0]; exact t3, by rw [u1]; exact t4⟩
      · show G7 0 (e_en M7).toNat = 0
        have : (e_en M7).toNat = (e_en M6).toNat + 1 := by omega
        rw [this]; exact h8.1
      · show G7 1 (e_en M7).toNat = 0
        have : (e_en M7).toNat = (e_en M6).toNat + 1 := by omega
        rw [this]; exact h8.2.1
  refine p_opens G hI (show (M 33).toInt ≤ 20 from by omega) (fun M1 F1 x1 o1 n1' => ?_)
  have o1' : (M1 33).toInt = 1 := by
    have o1'' : (M1 33).toInt = (M 33).toInt + 1 := o1
    omega
  have key : ∀ (k : Nat) (a2 : Int32) (M2 : e_M) (F2 : e_F), e_P 1 (e_J M) F G M2 F2 → (M2 33).toInt = 1 → (0 ≤ a2.toInt ∧ a2.toInt + k ≤ 6000) → ((M2 36).toInt = -1 → (M2 38).toInt = -1 → a2.toInt ≤ 4) → ((M2 36).toInt = -1 → 4001 - (M2 6).toInt < k) → 1 ≤ k → w_hearing_48 WB Q k (400 * M 27 + M 30) a2 M2 F2 := by
    intro k
    induction k with
    | zero => intro a2 M2 F2 _ _ _ _ _ q; exact absurd q (by omega)
    | succ k ih =>
      intro a2 M2 F2 x2 o2 ha hk hs _
      dsimp only [w_hearing_48]
      refine p_isSign (fun _ => ⟨fun _ => h72 a2 M2 F2 x2 o2 ha.1 hk, fun q => absurd rfl q⟩) (fun hb2 h24 h25 => ⟨fun q => absurd q z0, fun _ => ?_⟩)
      have e3 := ti_addx a2 1 (by omega)
      rw [l1] at e3
      have hs2 := x2.1.2.2.1 (by omega)
      have hs' := hs hb2
      have s2 := e_PI_e x2.1
      refine p_passN (G := G) x2.1 hb2 (fun M3 F3 a b c d => ?_)
      obtain ⟨x3, y3⟩ := e_P_pass (c := 1) a b c d (by omega)
      refine p_parameter G a (fun M4 F4 x4 y4 h4 => ?_)
      have m34 : (M3 6).toInt ≤ (M4 6).toInt := x4.2.1.1.2.1.2.2.2.2.2
      refine ih (a2 + 1) M4 F4 (e_P_tr x2 (e_P_tr (c3 := 2) x3 x4 (by omega)) (by omega)) (by rw [y4, y3]; exact o2) (by omega) (fun q1 q2 => by have := h4 q1 q2; omega) (fun _ => by omega) (by omega)
  refine p_isSign (fun _ => ⟨fun q => absurd rfl q, fun _ => ?_⟩) (fun _ _ _ => ⟨fun _ => h72 0 M1 F1 x1 o1' (by decide) (fun _ _ => by decide), fun q => absurd q z0⟩)
  refine p_parameter G x1.1 (fun M2 F2 x2 y2 h2 => ⟨5000, ?_⟩)
  have s2 := e_PI_e x2.1
  exact key 5000 1 M2 F2 (e_P_tr x1 x2 (by omega)) (by rw [y2]; exact o1') (by omega) (fun _ _ => by omega) (fun _ => by omega) (by decide)
