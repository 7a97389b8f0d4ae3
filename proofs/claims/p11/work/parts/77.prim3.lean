theorem p_least {v p : Int32} {M : e_M} {F : e_F} {Q : Int32 → e_M → e_F → Prop} (hp : 0 ≤ p.toInt) (hQ : ∀ r : Int32, r.toInt ≠ -1 → Q r M F) : w_least v p M F Q :=
  ⟨fun _ => hQ p (by omega), fun h => ⟨fun _ => hQ v (fun q => ti_ne h (by rw [q]; decide)), fun _ => hQ p (by omega)⟩⟩
theorem e_PI_n {M : e_M} {F : e_F} (h : e_PI M F) : 0 ≤ (M 12).toInt ∧ (M 12).toInt < 2100 := by
  obtain ⟨⟨i1, ⟨i2, i3, i4⟩, ⟨i5, i6⟩, -⟩, -⟩ := h
  omega
theorem e_PI_told {M M' : e_M} {F F' : e_F} (hM : ∀ k, k ≠ 34 → k ≠ 35 → k ≠ 37 → k ≠ 38 → M' k = M k) (hF : ∀ r, r ≠ 9 → r ≠ 10 → F' r = F r) (hN : e_PN M' F') (hI : e_PI M F) : e_PI M' F' := by
  have e := fun k (a : k ≠ 34) (b : k ≠ 35) (c : k ≠ 37) (d : k ≠ 38) => hM k a b c d
  obtain ⟨iL, iT, iS, iA, iN, iH⟩ := hI
  refine ⟨?_, ?_, ?_, ?_, hN, ?_⟩
  · unfold e_LI e_NR at *
    rw [e 2 (by decide) (by decide) (by decide) (by decide), e 3 (by decide) (by decide) (by decide) (by decide), e 6 (by decide) (by decide) (by decide) (by decide), e 12 (by decide) (by decide) (by decide) (by decide), hF 0 (by decide) (by decide), hF 7 (by decide) (by decide), hF 8 (by decide) (by decide)]
    exact iL
  · unfold e_TK e_sm at *
    rw [e 4 (by decide) (by decide) (by decide) (by decide), e 5 (by decide) (by decide) (by decide) (by decide), e 3 (by decide) (by decide) (by decide) (by decide), e 6 (by decide) (by decide) (by decide) (by decide), e 12 (by decide) (by decide) (by decide) (by decide), hF 0 (by decide) (by decide), hF 7 (by decide) (by decide)]
    exact iT
  · rw [e 4 (by decide) (by decide) (by decide) (by decide), e 3 (by decide) (by decide) (by decide) (by decide), e 6 (by decide) (by decide) (by decide) (by decide)]
    exact iS
  · unfold e_PA at *
    rw [e 27 (by decide) (by decide) (by decide) (by decide), e 29 (by decide) (by decide) (by decide) (by decide), e 31 (by decide) (by decide) (by decide) (by decide), e 32 (by decide) (by decide) (by decide) (by decide), e 46 (by decide) (by decide) (by decide) (by decide), e 33 (by decide) (by decide) (by decide) (by decide), e 30 (by decide) (by decide) (by decide) (by decide)]
    exact iA
  · unfold e_PH at *
    rw [e 27 (by decide) (by decide) (by decide) (by decide), e 29 (by decide) (by decide) (by decide) (by decide), e 46 (by decide) (by decide) (by decide) (by decide), e 12 (by decide) (by decide) (by decide) (by decide), hF 42 (by decide) (by decide), hF 43 (by decide) (by decide), hF 13 (by decide) (by decide), hF 45 (by decide) (by decide)]
    exact iH
theorem e_P_told {M M' : e_M} {F F' : e_F} (G : e_G) (hM : ∀ k, k ≠ 34 → k ≠ 35 → k ≠ 37 → k ≠ 38 → M' k = M k) (hF : ∀ r, r ≠ 9 → r ≠ 10 → F' r = F r) (h38 : (M 38).toInt ≠ -1 → (M' 38).toInt ≠ -1) (hN : e_PN M' F') (hI : e_PI M F) : e_P 0 M F G M' F' := by
  have e := fun k (a : k ≠ 34) (b : k ≠ 35) (c : k ≠ 37) (d : k ≠ 38) => hM k a b c d
  have r : ∀ k, k ≠ 9 → k ≠ 10 → F' k = F k := hF
  refine ⟨e_PI_told hM hF hN hI, ⟨⟨⟨e 27 (by decide) (by decide) (by decide) (by decide), e 2 (by decide) (by decide) (by decide) (by decide), e 30 (by decide) (by decide) (by decide) (by decide), e 1 (by decide) (by decide) (by decide) (by decide), e 28 (by decide) (by decide) (by decide) (by decide), fun k hk => e k (by omega) (by omega) (by omega) (by omega)⟩, ⟨?_, ?_, ?_, ?_, ?_, ?_⟩, ?_, h38⟩, ⟨fun j _ => ?_, fun j _ => ?_, fun j _ => ?_, ⟨r 18 (by decide) (by decide), r 19 (by decide) (by decide), r 0 (by decide) (by decide), fun k hk => r k (by omega) (by omega), fun j _ => congrFun (r 17 (by decide) (by decide)) j⟩, fun j _ => ?_, fun j _ => ?_⟩, ⟨fun _ _ => ⟨rfl, rfl⟩, fun _ _ => rfl, fun _ _ => rfl⟩⟩, ⟨e 29 (by decide) (by decide) (by decide) (by decide), e 31 (by decide) (by decide) (by decide) (by decide), e 32 (by decide) (by decide) (by decide) (by decide), e 46 (by decide) (by decide) (by decide) (by decide)⟩, fun _ => ?_⟩
  · rw [e 29 (by decide) (by decide) (by decide) (by decide)]; exact Int.le_refl _
  · rw [e 31 (by decide) (by decide) (by decide) (by decide)]; exact Int.le_refl _
  · rw [e 32 (by decide) (by decide) (by decide) (by decide)]; exact Int.le_refl _
  · rw [e 46 (by decide) (by decide) (by decide) (by decide)]; exact Int.le_refl _
  · rw [e 12 (by decide) (by decide) (by decide) (by decide)]; exact Int.le_refl _
  · rw [e 6 (by decide) (by decide) (by decide) (by decide)]; exact Int.le_refl _
  · rw [e 36 (by decide) (by decide) (by decide) (by decide)]; exact fun h => h
  · rw [r 13 (by decide) (by decide), r 14 (by decide) (by decide), r 15 (by decide) (by decide), r 16 (by decide) (by decide)]; exact ⟨rfl, rfl, rfl, rfl⟩
  · rw [r 20 (by decide) (by decide), r 21 (by decide) (by decide), r 22 (by decide) (by decide)]; exact ⟨rfl, rfl, rfl⟩
  · rw [r 23 (by decide) (by decide), r 24 (by decide) (by decide), r 25 (by decide) (by decide), r 26 (by decide) (by decide)]; exact ⟨rfl, rfl, rfl, rfl⟩
  · rw [r 42 (by decide) (by decide), r 43 (by decide) (by decide), r 44 (by decide) (by decide)]; exact ⟨rfl, rfl, rfl⟩
  · rw [r 7 (by decide) (by decide), r 11 (by decide) (by decide)]; exact ⟨rfl, rfl⟩
  · rw [e 6 (by decide) (by decide) (by decide) (by decide)]; omega
theorem p_told {w p : Int32} {M : e_M} {F : e_F} (G : e_G) {Q : Int32 → e_M → e_F → Prop} (hI : e_PI M F) (hw : (M 36).toInt = -1 → (0 ≤ w.toInt ∧ w.toInt < (M 12).toInt) ∧ e_sm F w.toInt.toNat) (hp : 0 ≤ p.toInt) (hQ : ∀ (r : Int32) (M' : e_M), e_P 0 M F G M' F → (∀ k, k ≠ 37 → M' k = M k) → ((M 36).toInt = -1 → (M 38).toInt = -1 → 0 ≤ r.toInt ∧ r.toInt < 12) → Q r M' F) : w_told w p M F Q := by
  have z := e_z0
  refine ⟨fun hb => ⟨fun _ => ?_, fun q => absurd rfl q⟩, fun hb => ⟨fun q => absurd q (by decide), fun _ => hQ 0 M ⟨hI, e_PR_rf M F G, ⟨rfl, rfl, rfl, rfl⟩, fun _ => by omega⟩ (fun _ _ => rfl) (fun q => absurd q (fun q => ti_ne hb (by rw [q]; decide)))⟩⟩
  have hn := e_PI_n hI
  obtain ⟨w1, w2⟩ := hw (by rw [hb]; decide)
  have hv : vp_in w 2100 := vp_in_iff.mpr (by omega)
  have hN := hI.2.2.2.2.1
  refine ⟨hv, fun _ => p_least hp (fun r hr => ?_), fun h9 => ⟨hv, hQ _ M ⟨hI, e_PR_rf M F G, ⟨rfl, rfl, rfl, rfl⟩, fun _ => by omega⟩ (fun _ _ => rfl) (fun _ h38 => ?_)⟩⟩
  · exact hQ 0 _ (e_P_told G (fun k _ _ a _ => e_um_ne a) (fun _ _ _ => rfl) (fun h => h) hN hI) (fun k hk => e_um_ne hk) (fun _ _ => by omega)
  · obtain ⟨m1, m2, m3⟩ := hN.2 h38
    have := (m3 w.toInt.toNat (by omega) h9).1 w2
    show 0 ≤ (F 10 w.toInt.toNat).toInt ∧ (F 10 w.toInt.toNat).toInt < 12
    omega
theorem e_sm_eq {F F' : e_F} (h0 : F' 0 = F 0) (h7 : F' 7 = F 7) (w : Nat) : e_sm F' w ↔ e_sm F w := by unfold e_sm; rw [h0, h7]
theorem p_tell {w p : Int32} {M : e_M} {F : e_F} (G : e_G) {Q : e_M → e_F → Prop} (hI : e_PI M F) (hw : (M 36).toInt = -1 → (0 ≤ w.toInt ∧ w.toInt < (M 12).toInt) ∧ e_sm F w.toInt.toNat) (hp : 0 ≤ p.toInt) (hQ : ∀ (M' : e_M) (F' : e_F), e_P 0 M F G M' F' → (∀ k, k ≠ 34 → k ≠ 37 → k ≠ 38 → M' k = M k) → ((M 36).toInt = -1 → (M' 38).toInt = -1 → 0 ≤ (F' 10 w.toInt.toNat).toInt ∧ (F' 10 w.toInt.toNat).toInt < 12) → Q M' F') : w_tell w p M F Q := by
  have l1 : (1 : Int32).toInt = 1 := by decide
  have l12 : (12 : Int32).toInt = 12 := by decide
  refine ⟨fun hb => ⟨fun _ => ?_, fun q => absurd rfl q⟩, fun hb => ⟨fun q => absurd q (by decide), fun _ => hQ M F ⟨hI, e_PR_rf M F G, ⟨rfl, rfl, rfl, rfl⟩, fun _ => by omega⟩ (fun _ _ _ _ => rfl) (fun q => absurd q (fun q => ti_ne hb (by rw [q]; decide)))⟩⟩
  have hn := e_PI_n hI
  obtain ⟨w1, w2⟩ := hw (by rw [hb]; decide)
  have hv : vp_in w 2100 := vp_in_iff.mpr (by omega)
  have hN := hI.2.2.2.2.1
  have hh : 0 ≤ (M 30).toInt := hI.2.2.2.1.2.2.2.2.2.2
  refine ⟨hv, fun _ => ⟨hv, hv, fun h12 => ?_, fun h12 => p_least hp (fun r hr => ?_)⟩, fun h9 => p_least hp (fun r hr => ?_)⟩
  · have hN' : e_PN (um M 34 (M 34 + 1)) (uf (uf F 9 w (M 30)) 10 w (M 34)) := by
      refine ⟨fun v hv => ?_, fun h38 => ?_⟩
      · show ((upd (F 9) w.toInt.toNat (M 30)) v).toInt ≤ (M 30).toInt ∧ -1 ≤ (F 11 v).toInt ∧ (F 11 v).toInt ≤ (M 30).toInt
        obtain ⟨a, b, c⟩ := hN.1 v hv
        by_cases q : v = w.toInt.toNat
        · rw [q, e_upd_eq]; rw [q] at b c; exact ⟨Int.le_refl _, b, c⟩
        · rw [e_upd_ne q]; exact ⟨a, b, c⟩
      · obtain ⟨m1, m2, m3⟩ := hN.2 h38
        have e := ti_addx (M 34) 1 (by omega)
        have h12' := Int32.le_iff_toInt_le.mp h12
        refine ⟨(show 0 ≤ (M 34 + 1).toInt ∧ (M 34 + 1).toInt ≤ 12 from by omega), m2, fun v hv h9 => ?_⟩
        have h9' : (upd (F 9) w.toInt.toNat (M 30)) v = M 30 := h9
        rw [e_sm_eq rfl rfl]
        show (e_sm F v → 0 ≤ ((upd (F 10) w.toInt.toNat (M 34)) v).toInt ∧ ((upd (F 10) w.toInt.toNat (M 34)) v).toInt < (M 34 + 1).toInt) ∧ (¬ e_sm F v → 0 ≤ ((upd (F 10) w.toInt.toNat (M 34)) v).toInt ∧ ((upd (F 10) w.toInt.toNat (M 34)) v).toInt < (M 35).toInt)
        by_cases q : v = w.toInt.toNat
        · rw [q, e_upd_eq]; exact ⟨fun _ => by omega, fun q => absurd w2 q⟩
        · rw [e_upd_ne q] at h9' ⊢
          have := m3 v hv h9'
          exact ⟨fun a => by have := this.1 a; omega, this.2⟩
    refine hQ _ _ (e_P_told G (fun k a _ _ _ => e_um_ne a) (fun r a b => (e_uf_ne b).trans (e_uf_ne a)) (fun h => h) hN' hI) (fun k a _ _ => e_um_ne a) (fun _ h38 => ?_)
    obtain ⟨m1, m2, m3⟩ := hN.2 h38
    have h12' := Int32.le_iff_toInt_le.mp h12
    have e := ti_addx (M 34) 1 (by omega)
    have e10 : (uf (uf F 9 w (M 30)) 10 w (M 34)) 10 w.toInt.toNat = M 34 := e_upd_eq
    rw [e10]; omega
  · have hN' : e_PN (um (um M 34 (M 34 + 1)) 38 r) (uf (uf F 9 w (M 30)) 10 w (M 34)) := by
      refine ⟨fun v hv => ?_, fun h38 => absurd h38 hr⟩
      show ((upd (F 9) w.toInt.toNat (M 30)) v).toInt ≤ (M 30).toInt ∧ -1 ≤ (F 11 v).toInt ∧ (F 11 v).toInt ≤ (M 30).toInt
      obtain ⟨a, b, c⟩ := hN.1 v hv
      by_cases q : v = w.toInt.toNat
      · rw [q, e_upd_eq]; rw [q] at b c; exact ⟨Int.le_refl _, b, c⟩
      · rw [e_upd_ne q]; exact ⟨a, b, c⟩
    exact hQ _ _ (e_P_told G (fun k a _ _ b => (e_um_ne b).trans (e_um_ne a)) (fun r a b => (e_uf_ne b).trans (e_uf_ne a)) (fun _ => hr) hN' hI) (fun k a _ b => (e_um_ne b).trans (e_um_ne a)) (fun _ h38 => absurd h38 hr)
  · refine hQ _ _ (e_P_told G (fun k _ _ a _ => e_um_ne a) (fun _ _ _ => rfl) (fun h => h) hN hI) (fun k _ hk _ => e_um_ne hk) (fun _ h38 => ?_)
    obtain ⟨m1, m2, m3⟩ := hN.2 h38
    have := (m3 w.toInt.toNat (by omega) h9).1 w2
    omega
theorem e_PR_sm {M M' : e_M} {F F' : e_F} {G G' : e_G} (h : e_PR M F G M' F' G') {w : Nat} (hw : (w : Int) < (M 12).toInt) : e_sm F' w ↔ e_sm F w := by
  obtain ⟨-, ⟨-, -, -, ⟨-, -, d6, -⟩, -, d9⟩, -⟩ := h
  unfold e_sm; rw [d6, (d9 w hw).1]
theorem p_object {M : e_M} {F : e_F} (G : e_G) {Q : Int32 → e_M → e_F → Prop} (hI : e_PI M F) (hQ : ∀ (r : Int32) (M' : e_M) (F' : e_F), e_P 1 M F G M' F' → M' 33 = M 33 → ((M' 36).toInt = -1 → (M' 38).toInt = -1 → 0 ≤ r.toInt ∧ r.toInt < 8) → Q r M' F') : w_object M F Q := by
  have l1 : (1 : Int32).toInt = 1 := by decide
  have l8 : (8 : Int32).toInt = 8 := by decide
  refine p_taken G hI (by decide) (fun w M2 F2 x y y47 hx => ⟨fun hb => ⟨fun _ => ?_, fun q => absurd rfl q⟩, fun hb => ⟨fun q => absurd q (by decide), fun _ => hQ 0 M2 F2 x y (fun q => absurd q (fun q => ti_ne hb (by rw [q]; decide)))⟩⟩)
  have hb' : (M2 36).toInt = -1 := by rw [hb]; decide
  obtain ⟨t4, tw, tn⟩ := hx hb'
  obtain ⟨w1, w2⟩ := hI.2.1.2.1 (by rw [t4]; decide)
  rw [← tw] at w1 w2
  have hm : (M 12).toInt ≤ (M2 12).toInt := x.2.1.1.2.1.2.2.2.2.1
  have w3 : ¬ e_sm F2 w.toInt.toNat := by rw [e_PR_sm x.2.1 (by omega)]; exact w2
  have hI2 := x.1
  have hn := e_PI_n hI2
  have hv : vp_in w 2100 := vp_in_iff.mpr (by omega)
  have hN := hI2.2.2.2.2.1
  have hs : 0 ≤ (M2 47).toInt := by rw [y47]; exact e_PI_s hI
  refine ⟨hv, fun h9 => ⟨hv, hQ _ _ _ x y (fun _ h38 => ?_)⟩, fun _ => ⟨hv, hv, fun h12 => ⟨hv, ?_⟩, fun h12 => p_least hs (fun r hr => ⟨hv, ?_⟩)⟩⟩
  · obtain ⟨m1, m2, m3⟩ := hN.2 h38
    have := (m3 w.toInt.toNat (by omega) h9).2 w3
    show 0 ≤ (F2 10 w.toInt.toNat).toInt ∧ (F2 10 w.toInt.toNat).toInt < 8
    omega
  · have hN' : e_PN (um M2 35 (M2 35 + 1)) (uf (uf F2 9 w (M2 30)) 10 w (M2 35)) := by
      refine ⟨fun v hv => ?_, fun h38 => ?_⟩
      · show ((upd (F2 9) w.toInt.toNat (M2 30)) v).toInt ≤ (M2 30).toInt ∧ -1 ≤ (F2 11 v).toInt ∧ (F2 11 v).toInt ≤ (M2 30).toInt
        obtain ⟨a, b, c⟩ := hN.1 v hv
        by_cases q : v = w.toInt.toNat
        · rw [q, e_upd_eq]; rw [q] at b c; exact ⟨Int.le_refl _, b, c⟩
        · rw [e_upd_ne q]; exact ⟨a, b, c⟩
      · obtain ⟨m1, m2, m3⟩ := hN.2 h38
        have e := ti_addx (M2 35) 1 (by omega)
        have h12' := Int32.le_iff_toInt_le.mp h12
        refine ⟨m1, (show 0 ≤ (M2 35 + 1).toInt ∧ (M2 35 + 1).toInt ≤ 8 from by omega), fun v hv h9 => ?_⟩
        have h9' : (upd (F2 9) w.toInt.toNat (M2 30)) v = M2 30 := h9
        rw [e_sm_eq rfl rfl]
        show (e_sm F2 v → 0 ≤ ((upd (F2 10) w.toInt.toNat (M2 35)) v).toInt ∧ ((upd (F2 10) w.toInt.toNat (M2 35)) v).toInt < (M2 34).toInt) ∧ (¬ e_sm F2 v → 0 ≤ ((upd (F2 10) w.toInt.toNat (M2 35)) v).toInt ∧ ((upd (F2 10) w.toInt.toNat (M2 35)) v).toInt < (M2 35 + 1).toInt)
        by_cases q : v = w.toInt.toNat
        · rw [q, e_upd_eq]; exact ⟨fun q => absurd q w3, fun _ => by omega⟩
        · rw [e_upd_ne q] at h9' ⊢
          have := m3 v hv h9'
          exact ⟨this.1, fun a => by have := this.2 a; omega⟩
    refine hQ _ _ _ (e_P_tr x (e_P_told G (fun k _ a _ _ => e_um_ne a) (fun r a b => (e_uf_ne b).trans (e_uf_ne a)) (fun h => h) hN' hI2) (by omega)) y (fun _ h38 => ?_)
    obtain ⟨m1, m2, m3⟩ := hN.2 h38
    have h12' := Int32.le_iff_toInt_le.mp h12
    have e := ti_addx (M2 35) 1 (by omega)
    have e10 : (uf (uf F2 9 w (M2 30)) 10 w (M2 35)) 10 w.toNatClampNeg = M2 35 := e_upd_eq
    rw [e10]; omega
  · have hN' : e_PN (um (um M2 35 (M2 35 + 1)) 38 r) (uf (uf F2 9 w (M2 30)) 10 w (M2 35)) := by
      refine ⟨fun v hv => ?_, fun h38 => absurd h38 hr⟩
      show ((upd (F2 9) w.toInt.toNat (M2 30)) v).toInt ≤ (M2 30).toInt ∧ -1 ≤ (F2 11 v).toInt ∧ (F2 11 v).toInt ≤ (M2 30).toInt
      obtain ⟨a, b, c⟩ := hN.1 v hv
      by_cases q : v = w.toInt.toNat
      · rw [q, e_upd_eq]; rw [q] at b c; exact ⟨Int.le_refl _, b, c⟩
      · rw [e_upd_ne q]; exact ⟨a, b, c⟩
    exact hQ _ _ _ (e_P_tr x (e_P_told G (fun k _ a _ b => (e_um_ne b).trans (e_um_ne a)) (fun r a b => (e_uf_ne b).trans (e_uf_ne a)) (fun _ => hr) hN' hI2) (by omega)) y (fun _ h38 => absurd h38 hr)
