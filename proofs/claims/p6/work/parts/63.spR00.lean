set_option maxHeartbeats 2000000 in
theorem spR_X4_numberOf_75 {N : Nat → Nat} (hN : rN N) (q1 : Int64) {Q : Int32 → (Nat → Int32) → Nat × Nat → Prop} {M0 : Nat → Int32} (hQ : ∀ (r : Int32) (M' : Nat → Int32) (O' : Nat × Nat), rI N M' O' → rK M0 M' → Q r M' O') (a1 : Int64) (a3 : Int32) (M : Nat → Int32) (O : Nat × Nat) (hI : rI N M O) (hk : rK M0 M) (hbi : (0 ≤ a3.toInt ∧ a3.toInt ≤ 126)) : wR_X4_numberOf_75 N Q a1 a3 M O := by
  obtain ⟨_, _, _, _, _, _, _, _, _, _, _, _, _, _, _, _⟩ := (show rN N from hN)
  obtain ⟨⟨_, _⟩, ⟨_, _⟩, ⟨_, _, _⟩, ⟨_, _⟩, ⟨_, _⟩, ⟨_, _⟩, ⟨_, _⟩⟩ := (show rI N M O from hI)
  unfold wR_X4_numberOf_75
  obtain ⟨_, _, hst⟩ := (show (M 21).toInt = (M0 21).toInt ∧ (M 64).toInt = (M0 64).toInt ∧ ((M0 12).toInt = 137 → (M 12).toInt = 137) from hk)
  refine ⟨fun hc4 => ?_, fun hc4 => ?_⟩
  · have := ti_rng (M 33)
    have := nI_toInt (n := (N 14)) (by omega)
    have hc4 := Int32.lt_iff_toInt_lt.mp hc4
    refine ⟨vp_in_iff.mpr (by omega), ?_⟩
    have := ti_rng a3
    refine ⟨vp_in_iff.mpr (by omega), fun z5 => ?_⟩
    refine ⟨vp_in_iff.mpr (by omega), ?_⟩
    refine ⟨vp_in_iff.mpr (by omega), ?_⟩
    have : (1 : Int32).toInt = 1 := by decide
    first | have := ti_addx (M 33) 1 (by omega) | obtain ⟨_, _, _, _⟩ := ti_add (M 33) 1
    exact hQ _ _ _ (show rI N (um M 33 ((M 33) + 1)) O from (show (0 ≤ (M 8).toInt ∧ (M 8).toInt ≤ (N 26 : Int)) ∧ (0 ≤ (M 11).toInt ∧ (M 11).toInt ≤ (N 11 : Int)) ∧ (0 ≤ (M 21).toInt ∧ (M 21).toInt ≤ 4000 ∧ (M 21).toInt + 1 = (N 11 : Int)) ∧ (0 ≤ (M 26).toInt ∧ (M 26).toInt ≤ (N 11 : Int)) ∧ (0 ≤ ((M 33) + 1).toInt ∧ ((M 33) + 1).toInt ≤ (N 14 : Int)) ∧ (0 ≤ (M 63).toInt ∧ (M 63).toInt ≤ (N 20 : Int)) ∧ (0 ≤ (M 64).toInt ∧ (M 64).toInt ≤ 5000) from by omega)) (show rK M0 (um M 33 ((M 33) + 1)) from hk)
  · have := ti_rng (M 33)
    have := nI_toInt (n := (N 14)) (by omega)
    have hc4 := ti_nlt hc4
    exact hQ _ _ _ (show rI N M O from hI) (show rK M0 M from hk)
set_option maxHeartbeats 2000000 in
theorem spR_X4_numberOf_20 {N : Nat → Nat} (hN : rN N) (q1 : Int64) {Q : Int32 → (Nat → Int32) → Nat × Nat → Prop} {M0 : Nat → Int32} (hQ : ∀ (r : Int32) (M' : Nat → Int32) (O' : Nat × Nat), rI N M' O' → rK M0 M' → Q r M' O') : ∀ (n20 : Nat) (a1 : Int64) (a3 : Int32) (a4 : Int32) (a5 : Int32) (M : Nat → Int32) (O : Nat × Nat), rI N M O → rK M0 M → (0 ≤ a5.toInt ∧ a5.toInt ≤ (N 14 : Int) ∧ 0 ≤ a3.toInt ∧ a3.toInt ≤ 126) → ((N 14 : Int) - a5.toInt) + 1 ≤ (n20 : Int) → wR_X4_numberOf_20 N Q n20 a1 a3 a4 a5 M O := by
  obtain ⟨_, _, _, _, _, _, _, _, _, _, _, _, _, _, _, _⟩ := (show rN N from hN)
  intro n20
  induction n20 with
  | zero => intro a1 a3 a4 a5 M O hI hk hv hn; exact absurd hn (by omega)
  | succ n20 ih =>
    intro a1 a3 a4 a5 M O hI hk hv hn
    obtain ⟨⟨_, _⟩, ⟨_, _⟩, ⟨_, _, _⟩, ⟨_, _⟩, ⟨_, _⟩, ⟨_, _⟩, ⟨_, _⟩⟩ := (show rI N M O from hI)
    dsimp only [wR_X4_numberOf_20]
    obtain ⟨_, _, hst⟩ := (show (M 21).toInt = (M0 21).toInt ∧ (M 64).toInt = (M0 64).toInt ∧ ((M0 12).toInt = 137 → (M 12).toInt = 137) from hk)
    refine ⟨fun hc3 => ?_, fun hc3 => ?_⟩
    · have := nI_toInt (n := (N 14)) (by omega)
      have := ti_rng a5
      have hc3 := Int32.le_iff_toInt_le.mp hc3
      have := ti_rng a3
      exact spR_X4_numberOf_75 hN q1 hQ _ _ _ _ (show rI N M O from hI) (show rK M0 M from hk) (show (0 ≤ a3.toInt ∧ a3.toInt ≤ 126) from by omega)
    · have := nI_toInt (n := (N 14)) (by omega)
      have := ti_rng a5
      have hc3 := ti_nle hc3
      refine ⟨fun hc6 => ?_, fun hc6 => ?_⟩
      · have := ti_rng a4
        have : (0 : Int32).toInt = 0 := by decide
        have hc6 := Int32.lt_iff_toInt_lt.mp hc6
        have := ti_rng a3
        exact spR_X4_numberOf_75 hN q1 hQ _ _ _ _ (show rI N M O from hI) (show rK M0 M from hk) (show (0 ≤ a3.toInt ∧ a3.toInt ≤ 126) from by omega)
      · have := ti_rng a4
        have : (0 : Int32).toInt = 0 := by decide
        have hc6 := ti_nlt hc6
        refine ⟨fun hc7 => ?_, fun hc7 => ?_⟩
        · have hc7 := Int32.le_iff_toInt_le.mp hc7
          have := ti_rng a3
          exact spR_X4_numberOf_75 hN q1 hQ _ _ _ _ (show rI N M O from hI) (show rK M0 M from hk) (show (0 ≤ a3.toInt ∧ a3.toInt ≤ 126) from by omega)
        · have hc7 := ti_nle hc7
          refine ⟨vp_in_iff.mpr (by omega), fun z8 => ?_⟩
          intro z9
          refine ⟨fun hc10 => ?_, fun hc10 => ?_⟩
          · have := ti_rng z9
            have hc109 := ti_ne hc10
            refine ⟨vp_in_iff.mpr (by omega), fun z11 => ?_⟩
            have := ti_rng a3
            have := ti_rng z11
            have : (1 : Int32).toInt = 1 := by decide
            first | have := ti_addx a5 1 (by omega) | obtain ⟨_, _, _, _⟩ := ti_add a5 1
            exact ih _ _ _ _ _ _ (show rI N M O from hI) (show rK M0 M from hk) (show 0 ≤ (a5 + 1).toInt ∧ (a5 + 1).toInt ≤ (N 14 : Int) ∧ 0 ≤ a3.toInt ∧ a3.toInt ≤ 126 from by omega) (show ((N 14 : Int) - (a5 + 1).toInt) + 1 ≤ _ from by omega)
          · have := ti_rng z9
            have hc109 := congrArg Int32.toInt hc10
            exact hQ _ _ _ (show rI N M O from hI) (show rK M0 M from hk)
set_option maxHeartbeats 2000000 in
theorem spR_X4_numberOf {N : Nat → Nat} (hN : rN N) (q1 : Int64) {M0 : Nat → Int32} {O : Nat × Nat} {Q : Int32 → (Nat → Int32) → Nat × Nat → Prop} (hI : rI N M0 O) (hQ : ∀ (r : Int32) (M' : Nat → Int32) (O' : Nat × Nat), rI N M' O' → rK M0 M' → Q r M' O') : wR_X4_numberOf N q1 M0 O Q := by
  obtain ⟨_, _, _, _, _, _, _, _, _, _, _, _, _, _, _, _⟩ := (show rN N from hN)
  obtain ⟨⟨_, _⟩, ⟨_, _⟩, ⟨_, _, _⟩, ⟨_, _⟩, ⟨_, _⟩, ⟨_, _⟩, ⟨_, _⟩⟩ := (show rI N M0 O from hI)
  have hk : rK M0 M0 := rK_rf M0
  have hQ1 := hQ
  unfold wR_X4_numberOf
  intro z1 hz1
  have := ti_l2i z1 (by omega)
  refine ⟨vp_in_iff.mpr (by omega), fun z2 => ?_⟩
  have := ti_rng z2
  have : (0 : Int32).toInt = 0 := by decide
  exact ⟨(((N 14 : Int) - (0 : Int32).toInt) + 1).toNat, spR_X4_numberOf_20 hN q1 hQ _ _ _ _ _ _ _ (show rI N M0 O from hI) (show rK M0 M0 from hk) (show 0 ≤ (0 : Int32).toInt ∧ (0 : Int32).toInt ≤ (N 14 : Int) ∧ 0 ≤ (z1.toInt32).toInt ∧ (z1.toInt32).toInt ≤ 126 from by omega) (show ((N 14 : Int) - (0 : Int32).toInt) + 1 ≤ _ from by omega)⟩
set_option maxHeartbeats 2000000 in
theorem spR_X4_longer_38 {N : Nat → Nat} (hN : rN N) (q0 : Int64) (q2 : Int32) {Q : Int64 → (Nat → Int32) → Nat × Nat → Prop} {M0 : Nat → Int32} {O0 : Nat × Nat} (hQ : ∀ (r : Int64) , Q r M0 O0) (a0 : Int64) (t0 : Int32) (M : Nat → Int32) (O : Nat × Nat) (hI : rI N M O) (hk : (M0 = M ∧ O0 = O)) : wR_X4_longer_38 N Q a0 t0 M O := by
  obtain ⟨_, _, _, _, _, _, _, _, _, _, _, _, _, _, _, _⟩ := (show rN N from hN)
  obtain ⟨⟨_, _⟩, ⟨_, _⟩, ⟨_, _, _⟩, ⟨_, _⟩, ⟨_, _⟩, ⟨_, _⟩, ⟨_, _⟩⟩ := (show rI N M O from hI)
  unfold wR_X4_longer_38
  obtain ⟨e1, e2⟩ := hk
  have hQ1 := hQ
  rw [e1, e2] at hQ1
  intro z3
  intro z4
  intro z5
  exact hQ1 _
set_option maxHeartbeats 2000000 in
theorem spR_X4_longer {N : Nat → Nat} (hN : rN N) (q0 : Int64) (q2 : Int32) {M0 : Nat → Int32} {O : Nat × Nat} {Q : Int64 → (Nat → Int32) → Nat × Nat → Prop} (hI : rI N M0 O) (hQ : ∀ (r : Int64) , Q r M0 O) : wR_X4_longer N q0 q2 M0 O Q := by
  obtain ⟨_, _, _, _, _, _, _, _, _, _, _, _, _, _, _, _⟩ := (show rN N from hN)
  obtain ⟨⟨_, _⟩, ⟨_, _⟩, ⟨_, _, _⟩, ⟨_, _⟩, ⟨_, _⟩, ⟨_, _⟩, ⟨_, _⟩⟩ := (show rI N M0 O from hI)
  have hk : rK M0 M0 := rK_rf M0
  have hQ1 := hQ
  unfold wR_X4_longer
  refine ⟨fun hc1 => ?_, fun hc1 => ?_⟩
  · have := ti_rng q2
    have : (97 : Int32).toInt = 97 := by decide
    have hc1 := Int32.lt_iff_toInt_lt.mp hc1
    refine ⟨fun hc2 => ?_, fun hc2 => ?_⟩
    · have : (65 : Int32).toInt = 65 := by decide
      have hc2 := Int32.lt_iff_toInt_lt.mp hc2
      have : (48 : Int32).toInt = 48 := by decide
      first | have := ti_subx q2 48 (by omega) | obtain ⟨_, _, _, _⟩ := ti_sub q2 48
      have : (1 : Int32).toInt = 1 := by decide
      first | have := ti_addx (q2 - 48) 1 (by omega) | obtain ⟨_, _, _, _⟩ := ti_add (q2 - 48) 1
      exact spR_X4_longer_38 hN q0 q2 hQ _ _ _ _ (show rI N M0 O from hI) ⟨rfl, rfl⟩
    · have : (65 : Int32).toInt = 65 := by decide
      have hc2 := ti_nlt hc2
      first | have := ti_subx q2 65 (by omega) | obtain ⟨_, _, _, _⟩ := ti_sub q2 65
      have : (11 : Int32).toInt = 11 := by decide
      first | have := ti_addx (q2 - 65) 11 (by omega) | obtain ⟨_, _, _, _⟩ := ti_add (q2 - 65) 11
      exact spR_X4_longer_38 hN q0 q2 hQ _ _ _ _ (show rI N M0 O from hI) ⟨rfl, rfl⟩
  · have := ti_rng q2
    have : (97 : Int32).toInt = 97 := by decide
    have hc1 := ti_nlt hc1
    first | have := ti_subx q2 97 (by omega) | obtain ⟨_, _, _, _⟩ := ti_sub q2 97
    have : (37 : Int32).toInt = 37 := by decide
    first | have := ti_addx (q2 - 97) 37 (by omega) | obtain ⟨_, _, _, _⟩ := ti_add (q2 - 97) 37
    exact spR_X4_longer_38 hN q0 q2 hQ _ _ _ _ (show rI N M0 O from hI) ⟨rfl, rfl⟩
set_option maxHeartbeats 2000000 in
theorem spR_X4_learnQuotedWords_46 {N : Nat → Nat} (hN : rN N) {K4 : (Int64 → Int32 → (Nat → Int32) → (Nat × Nat) → Prop)} {n4 : Nat} {Q : (Nat → Int32) → Nat × Nat → Prop} {M0 : Nat → Int32} (sK4 : ∀ (a1 : Int64) (a3 : Int32) (M : Nat → Int32) (O : Nat × Nat), rI N M O → rK M0 M → (0 ≤ a3.toInt ∧ a3.toInt ≤ 178) → (178 - a3.toInt) + 1 ≤ (n4 : Int) → K4 a1 a3 M O) (hQ : ∀ (M' : Nat → Int32) (O' : Nat × Nat), rI N M' O' → rK M0 M' → Q M' O') (a1 : Int64) (a3 : Int32) (M : Nat → Int32) (O : Nat × Nat) (hI : rI N M O) (hk : rK M0 M) (hbi : ((0 ≤ a3.toInt ∧ a3.toInt ≤ 178) ∧ (178 - a3.toInt) ≤ (n4 : Int) ∧ 1 ≤ (178 - a3.toInt))) : wR_X4_learnQuotedWords_46 N K4 Q a1 a3 M O := by
  obtain ⟨_, _, _, _, _, _, _, _, _, _, _, _, _, _, _, _⟩ := (show rN N from hN)
  obtain ⟨⟨_, _⟩, ⟨_, _⟩, ⟨_, _, _⟩, ⟨_, _⟩, ⟨_, _⟩, ⟨_, _⟩, ⟨_, _⟩⟩ := (show rI N M O from hI)
  unfold wR_X4_learnQuotedWords_46
  have : s_len.getD 0 0 = 178 := rfl
  obtain ⟨_, _, hst⟩ := (show (M 21).toInt = (M0 21).toInt ∧ (M 64).toInt = (M0 64).toInt ∧ ((M0 12).toInt = 137 → (M 12).toInt = 137) from hk)
  have := ti_rng a3
  have : (1 : Int32).toInt = 1 := by decide
  first | have := ti_addx a3 1 (by omega) | obtain ⟨_, _, _, _⟩ := ti_add a3 1
  exact sK4 _ _ _ _ (show rI N M O from hI) (show rK M0 M from hk) (show 0 ≤ (a3 + 1).toInt ∧ (a3 + 1).toInt ≤ 178 from by omega) (show (178 - (a3 + 1).toInt) + 1 ≤ _ from by omega)
set_option maxHeartbeats 2000000 in
theorem spR_X4_learnQuotedWords_4 {N : Nat → Nat} (hN : rN N) {Q : (Nat → Int32) → Nat × Nat → Prop} {M0 : Nat → Int32} (hQ : ∀ (M' : Nat → Int32) (O' : Nat × Nat), rI N M' O' → rK M0 M' → Q M' O') : ∀ (n4 : Nat) (a1 : Int64) (a3 : Int32) (M : Nat → Int32) (O : Nat × Nat), rI N M O → rK M0 M → (0 ≤ a3.toInt ∧ a3.toInt ≤ 178) → (178 - a3.toInt) + 1 ≤ (n4 : Int) → wR_X4_learnQuotedWords_4 N Q n4 a1 a3 M O := by
  obtain ⟨_, _, _, _, _, _, _, _, _, _, _, _, _, _, _, _⟩ := (show rN N from hN)
  intro n4
  induction n4 with
  | zero => intro a1 a3 M O hI hk hv hn; exact absurd hn (by omega)
  | succ n4 ih =>
    intro a1 a3 M O hI hk hv hn
    obtain ⟨⟨_, _⟩, ⟨_, _⟩, ⟨_, _, _⟩, ⟨_, _⟩, ⟨_, _⟩, ⟨_, _⟩, ⟨_, _⟩⟩ := (show rI N M O from hI)
    dsimp only [wR_X4_learnQuotedWords_4]
    have : s_len.getD 0 0 = 178 := rfl
    obtain ⟨_, _, hst⟩ := (show (M 21).toInt = (M0 21).toInt ∧ (M 64).toInt = (M0 64).toInt ∧ ((M0 12).toInt = 137 → (M 12).toInt = 137) from hk)
    refine ⟨fun hc1 => ?_, fun hc1 => ?_⟩
    · have := nI_toInt (n := (s_len.getD 0 0)) (by omega)
      have := ti_rng a3
      have hc1 := Int32.le_iff_toInt_le.mp hc1
      exact hQ _ _ (show rI N M O from hI) (show rK M0 M from hk)
    · have := nI_toInt (n := (s_len.getD 0 0)) (by omega)
      have := ti_rng a3
      have hc1 := ti_nle hc1
      refine ⟨vp_in_iff.mpr (by omega), ?_⟩
      refine ⟨fun hc2 => ?_, fun hc2 => ?_⟩
      · have := ti_rng (s_ch 0 a3)
        have : (32 : Int32).toInt = 32 := by decide
        have hc29 := ti_ne hc2
        refine spR_X4_longer hN _ _ (show rI N M O from hI) (fun r3 => ?_)
        exact spR_X4_learnQuotedWords_46 hN ih hQ _ _ _ _ (show rI N M O from hI) (show rK M0 M from hk) (show ((0 ≤ a3.toInt ∧ a3.toInt ≤ 178) ∧ (178 - a3.toInt) ≤ (n4 : Int) ∧ 1 ≤ (178 - a3.toInt)) from by omega)
      · have := ti_rng (s_ch 0 a3)
        have : (32 : Int32).toInt = 32 := by decide
        have hc29 := congrArg Int32.toInt hc2
        refine spR_X4_numberOf hN _ (show rI N M O from hI) (fun r5 M6 O6 hI hk1 => ?_)
        have hk := rK_tr (show rK M0 M from hk) hk1
        obtain ⟨_, _, hst⟩ := (show (M6 21).toInt = (M0 21).toInt ∧ (M6 64).toInt = (M0 64).toInt ∧ ((M0 12).toInt = 137 → (M6 12).toInt = 137) from hk)
        obtain ⟨_, _, hst1⟩ := (show (M6 21).toInt = (M 21).toInt ∧ (M6 64).toInt = (M 64).toInt ∧ ((M 12).toInt = 137 → (M6 12).toInt = 137) from hk1)
        obtain ⟨⟨_, _⟩, ⟨_, _⟩, ⟨_, _, _⟩, ⟨_, _⟩, ⟨_, _⟩, ⟨_, _⟩, ⟨_, _⟩⟩ := (show rI N M6 O6 from hI)
        exact spR_X4_learnQuotedWords_46 hN ih hQ _ _ _ _ (show rI N M6 O6 from hI) (show rK M0 M6 from hk) (show ((0 ≤ a3.toInt ∧ a3.toInt ≤ 178) ∧ (178 - a3.toInt) ≤ (n4 : Int) ∧ 1 ≤ (178 - a3.toInt)) from by omega)
set_option maxHeartbeats 2000000 in
theorem spR_X4_learnQuotedWords {N : Nat → Nat} (hN : rN N) {M0 : Nat → Int32} {O : Nat × Nat} {Q : (Nat → Int32) → Nat × Nat → Prop} (hI : rI N M0 O) (hQ : ∀ (M' : Nat → Int32) (O' : Nat × Nat), rI N M' O' → rK M0 M' → Q M' O') : wR_X4_learnQuotedWords N  M0 O Q := by
  obtain ⟨_, _, _, _, _, _, _, _, _, _, _, _, _, _, _, _⟩ := (show rN N from hN)
  obtain ⟨⟨_, _⟩, ⟨_, _⟩, ⟨_, _, _⟩, ⟨_, _⟩, ⟨_, _⟩, ⟨_, _⟩, ⟨_, _⟩⟩ := (show rI N M0 O from hI)
  have hk : rK M0 M0 := rK_rf M0
  have hQ1 := hQ
  unfold wR_X4_learnQuotedWords
  have : s_len.getD 0 0 = 178 := rfl
  have : (0 : Int32).toInt = 0 := by decide
  exact ⟨((178 - (0 : Int32).toInt) + 1).toNat, spR_X4_learnQuotedWords_4 hN hQ _ _ _ _ _ (show rI N M0 O from hI) (show rK M0 M0 from hk) (show 0 ≤ (0 : Int32).toInt ∧ (0 : Int32).toInt ≤ 178 from by omega) (show (178 - (0 : Int32).toInt) + 1 ≤ _ from by omega)⟩
set_option maxHeartbeats 2000000 in
theorem spR_X6_put_32 {N : Nat → Nat} (hN : rN N) (q1 : Int32) {Q : Int32 → (Nat → Int32) → Nat × Nat → Prop} {M0 : Nat → Int32} (hQ : ∀ (r : Int32) (M' : Nat → Int32) (O' : Nat × Nat), rI N M' O' → rK M0 M' → Q r M' O') (M : Nat → Int32) (O : Nat × Nat) (hI : rI N M O) (hk : rK M0 M) : wR_X6_put_32 N Q M O := by
  obtain ⟨_, _, _, _, _, _, _, _, _, _, _, _, _, _, _, _⟩ := (show rN N from hN)
  obtain ⟨⟨_, _⟩, ⟨_, _⟩, ⟨_, _, _⟩, ⟨_, _⟩, ⟨_, _⟩, ⟨_, _⟩, ⟨_, _⟩⟩ := (show rI N M O from hI)
  unfold wR_X6_put_32
  obtain ⟨_, _, hst⟩ := (show (M 21).toInt = (M0 21).toInt ∧ (M 64).toInt = (M0 64).toInt ∧ ((M0 12).toInt = 137 → (M 12).toInt = 137) from hk)
  exact hQ _ _ _ (show rI N M O from hI) (show rK M0 M from hk)
set_option maxHeartbeats 2000000 in
theorem spR_X6_put {N : Nat → Nat} (hN : rN N) (q1 : Int32) {M0 : Nat → Int32} {O : Nat × Nat} {Q : Int32 → (Nat → Int32) → Nat × Nat → Prop} (hI : rI N M0 O) (hQ : ∀ (r : Int32) (M' : Nat → Int32) (O' : Nat × Nat), rI N M' O' → rK M0 M' → Q r M' O') : wR_X6_put N q1 M0 O Q := by
  obtain ⟨_, _, _, _, _, _, _, _, _, _, _, _, _, _, _, _⟩ := (show rN N from hN)
  obtain ⟨⟨_, _⟩, ⟨_, _⟩, ⟨_, _, _⟩, ⟨_, _⟩, ⟨_, _⟩, ⟨_, _⟩, ⟨_, _⟩⟩ := (show rI N M0 O from hI)
  have hk : rK M0 M0 := rK_rf M0
  have hQ1 := hQ
  unfold wR_X6_put
  refine ⟨fun hc1 => ?_, fun hc1 => ?_⟩
  · have := nI_toInt (n := (N 20)) (by omega)
    have := ti_rng (M0 63)
    have hc1 := Int32.le_iff_toInt_le.mp hc1
    exact spR_X6_put_32 hN q1 hQ _ _ (show rI N M0 O from hI) (show rK M0 M0 from hk)
  · have := nI_toInt (n := (N 20)) (by omega)
    have := ti_rng (M0 63)
    have hc1 := ti_nle hc1
    refine ⟨vp_in_iff.mpr (by omega), ?_⟩
    have : (1 : Int32).toInt = 1 := by decide
    first | have := ti_addx (M0 63) 1 (by omega) | obtain ⟨_, _, _, _⟩ := ti_add (M0 63) 1
    exact spR_X6_put_32 hN q1 hQ _ _ (show rI N (um M0 63 ((M0 63) + 1)) O from (show (0 ≤ (M0 8).toInt ∧ (M0 8).toInt ≤ (N 26 : Int)) ∧ (0 ≤ (M0 11).toInt ∧ (M0 11).toInt ≤ (N 11 : Int)) ∧ (0 ≤ (M0 21).toInt ∧ (M0 21).toInt ≤ 4000 ∧ (M0 21).toInt + 1 = (N 11 : Int)) ∧ (0 ≤ (M0 26).toInt ∧ (M0 26).toInt ≤ (N 11 : Int)) ∧ (0 ≤ (M0 33).toInt ∧ (M0 33).toInt ≤ (N 14 : Int)) ∧ (0 ≤ ((M0 63) + 1).toInt ∧ ((M0 63) + 1).toInt ≤ (N 20 : Int)) ∧ (0 ≤ (M0 64).toInt ∧ (M0 64).toInt ≤ 5000) from by omega)) (show rK M0 (um M0 63 ((M0 63) + 1)) from hk)
set_option maxHeartbeats 2000000 in
theorem spR_X6_change {N : Nat → Nat} (hN : rN N) (q1 : Int32) (q2 : Int32) {M0 : Nat → Int32} {O : Nat × Nat} {Q : (Nat → Int32) → Nat × Nat → Prop} (hI : rI N M0 O) (hQ : Q M0 O) : wR_X6_change N q1 q2 M0 O Q := by
  obtain ⟨_, _, _, _, _, _, _, _, _, _, _, _, _, _, _, _⟩ := (show rN N from hN)
  obtain ⟨⟨_, _⟩, ⟨_, _⟩, ⟨_, _, _⟩, ⟨_, _⟩, ⟨_, _⟩, ⟨_, _⟩, ⟨_, _⟩⟩ := (show rI N M0 O from hI)
  have hk : rK M0 M0 := rK_rf M0
  have hQ1 := hQ
  unfold wR_X6_change
  refine ⟨fun hc1 => ?_, fun hc1 => ?_⟩
  · have := ti_rng q1
    have : (0 : Int32).toInt = 0 := by decide
    have hc1 := Int32.lt_iff_toInt_lt.mp hc1
    exact hQ1
  · have := ti_rng q1
    have : (0 : Int32).toInt = 0 := by decide
    have hc1 := ti_nlt hc1
    refine ⟨fun hc2 => ?_, fun hc2 => ?_⟩
    · have := ti_rng (M0 63)
      have hc2 := Int32.le_iff_toInt_le.mp hc2
      exact hQ1
    · have := ti_rng (M0 63)
      have hc2 := ti_nle hc2
      refine ⟨vp_in_iff.mpr (by omega), ?_⟩
      exact hQ1
set_option maxHeartbeats 2000000 in
theorem spR_X6_get {N : Nat → Nat} (hN : rN N) (q1 : Int32) {M0 : Nat → Int32} {O : Nat × Nat} {Q : Int32 → (Nat → Int32) → Nat × Nat → Prop} (hI : rI N M0 O) (hQ : ∀ (r : Int32) , Q r M0 O) : wR_X6_get N q1 M0 O Q := by
  obtain ⟨_, _, _, _, _, _, _, _, _, _, _, _, _, _, _, _⟩ := (show rN N from hN)
  obtain ⟨⟨_, _⟩, ⟨_, _⟩, ⟨_, _, _⟩, ⟨_, _⟩, ⟨_, _⟩, ⟨_, _⟩, ⟨_, _⟩⟩ := (show rI N M0 O from hI)
  have hk : rK M0 M0 := rK_rf M0
  have hQ1 := hQ
  unfold wR_X6_get
  refine ⟨fun hc1 => ?_, fun hc1 => ?_⟩
  · have := ti_rng q1
    have : (0 : Int32).toInt = 0 := by decide
    have hc1 := Int32.lt_iff_toInt_lt.mp hc1
    exact hQ1 _
  · have := ti_rng q1
    have : (0 : Int32).toInt = 0 := by decide
    have hc1 := ti_nlt hc1
    refine ⟨fun hc2 => ?_, fun hc2 => ?_⟩
    · have := ti_rng (M0 63)
      have hc2 := Int32.le_iff_toInt_le.mp hc2
      exact hQ1 _
    · have := ti_rng (M0 63)
      have hc2 := ti_nle hc2
      refine ⟨vp_in_iff.mpr (by omega), fun z3 => ?_⟩
      exact hQ1 _
set_option maxHeartbeats 2000000 in
theorem spR_X6_addHearing_29 {N : Nat → Nat} (hN : rN N) (q1 : Int32) (q2 : Int32) {Q : (Nat → Int32) → Nat × Nat → Prop} {M0 : Nat → Int32} (hQ : ∀ (M' : Nat → Int32) (O' : Nat × Nat), rI N M' O' → ((M' 64).toInt = (M0 64).toInt + 1 ∧ (M' 21).toInt = (M0 21).toInt) → Q M' O') (M : Nat → Int32) (O : Nat × Nat) (hI : rI N M O) (hk : rK M0 M) (hbi : ((M 64).toInt < 5000)) : wR_X6_addHearing_29 N Q M O := by
  obtain ⟨_, _, _, _, _, _, _, _, _, _, _, _, _, _, _, _⟩ := (show rN N from hN)
  obtain ⟨⟨_, _⟩, ⟨_, _⟩, ⟨_, _, _⟩, ⟨_, _⟩, ⟨_, _⟩, ⟨_, _⟩, ⟨_, _⟩⟩ := (show rI N M O from hI)
  unfold wR_X6_addHearing_29
  obtain ⟨_, _, hst⟩ := (show (M 21).toInt = (M0 21).toInt ∧ (M 64).toInt = (M0 64).toInt ∧ ((M0 12).toInt = 137 → (M 12).toInt = 137) from hk)
  have := ti_rng (M 64)
  have : (1 : Int32).toInt = 1 := by decide
  first | have := ti_addx (M 64) 1 (by omega) | obtain ⟨_, _, _, _⟩ := ti_add (M 64) 1
  have := ti_rng (M 21)
  exact hQ _ _ (show rI N (um M 64 ((M 64) + 1)) O from (show (0 ≤ (M 8).toInt ∧ (M 8).toInt ≤ (N 26 : Int)) ∧ (0 ≤ (M 11).toInt ∧ (M 11).toInt ≤ (N 11 : Int)) ∧ (0 ≤ (M 21).toInt ∧ (M 21).toInt ≤ 4000 ∧ (M 21).toInt + 1 = (N 11 : Int)) ∧ (0 ≤ (M 26).toInt ∧ (M 26).toInt ≤ (N 11 : Int)) ∧ (0 ≤ (M 33).toInt ∧ (M 33).toInt ≤ (N 14 : Int)) ∧ (0 ≤ (M 63).toInt ∧ (M 63).toInt ≤ (N 20 : Int)) ∧ (0 ≤ ((M 64) + 1).toInt ∧ ((M 64) + 1).toInt ≤ 5000) from by omega)) (show ((M 64) + 1).toInt = (M0 64).toInt + 1 ∧ (M 21).toInt = (M0 21).toInt from (by first | omega | (intro h9; first | omega | exact absurd rfl h9)))
set_option maxHeartbeats 2000000 in
theorem spR_X6_addHearing {N : Nat → Nat} (hN : rN N) (q1 : Int32) (q2 : Int32) {M0 : Nat → Int32} {O : Nat × Nat} {Q : (Nat → Int32) → Nat × Nat → Prop} (hI : rI N M0 O) (hpre : (M0 64).toInt < 5000) (hQ : ∀ (M' : Nat → Int32) (O' : Nat × Nat), rI N M' O' → ((M' 64).toInt = (M0 64).toInt + 1 ∧ (M' 21).toInt = (M0 21).toInt) → Q M' O') : wR_X6_addHearing N q1 q2 M0 O Q := by
  obtain ⟨_, _, _, _, _, _, _, _, _, _, _, _, _, _, _, _⟩ := (show rN N from hN)
  obtain ⟨⟨_, _⟩, ⟨_, _⟩, ⟨_, _, _⟩, ⟨_, _⟩, ⟨_, _⟩, ⟨_, _⟩, ⟨_, _⟩⟩ := (show rI N M0 O from hI)
  have hk : rK M0 M0 := rK_rf M0
  have hQ1 := hQ
  unfold wR_X6_addHearing
  refine ⟨fun hc1 => ?_, fun hc1 => ?_⟩
  · have : (16 : Int32).toInt = 16 := by decide
    have := ti_rng (M0 64)
    have hc1 := Int32.le_iff_toInt_le.mp hc1
    exact spR_X6_addHearing_29 hN q1 q2 hQ _ _ (show rI N M0 O from hI) (show rK M0 M0 from hk) (show ((M0 64).toInt < 5000) from by omega)
  · have : (16 : Int32).toInt = 16 := by decide
    have := ti_rng (M0 64)
    have hc1 := ti_nle hc1
    refine ⟨vp_in_iff.mpr (by omega), ?_⟩
    refine ⟨vp_in_iff.mpr (by omega), ?_⟩
    exact spR_X6_addHearing_29 hN q1 q2 hQ _ _ (show rI N M0 O from hI) (show rK M0 M0 from hk) (show ((M0 64).toInt < 5000) from by omega)
set_option maxHeartbeats 2000000 in
theorem spR_X6_parametersOf {N : Nat → Nat} (hN : rN N) (q1 : Int32) {M0 : Nat → Int32} {O : Nat × Nat} {Q : Int32 → (Nat → Int32) → Nat × Nat → Prop} (hI : rI N M0 O) (hQ : ∀ (r : Int32) , Q r M0 O) : wR_X6_parametersOf N q1 M0 O Q := by
  obtain ⟨_, _, _, _, _, _, _, _, _, _, _, _, _, _, _, _⟩ := (show rN N from hN)
  obtain ⟨⟨_, _⟩, ⟨_, _⟩, ⟨_, _, _⟩, ⟨_, _⟩, ⟨_, _⟩, ⟨_, _⟩, ⟨_, _⟩⟩ := (show rI N M0 O from hI)
  have hk : rK M0 M0 := rK_rf M0
  have hQ1 := hQ
  unfold wR_X6_parametersOf
  refine ⟨fun hc1 => ?_, fun hc1 => ?_⟩
  · have := ti_rng q1
    have : (0 : Int32).toInt = 0 := by decide
    have hc1 := Int32.lt_iff_toInt_lt.mp hc1
    exact hQ1 _
  · have := ti_rng q1
    have : (0 : Int32).toInt = 0 := by decide
    have hc1 := ti_nlt hc1
    refine ⟨fun hc2 => ?_, fun hc2 => ?_⟩
    · have : (16 : Int32).toInt = 16 := by decide
      have hc2 := Int32.le_iff_toInt_le.mp hc2
      exact hQ1 _
    · have : (16 : Int32).toInt = 16 := by decide
      have hc2 := ti_nle hc2
      refine ⟨vp_in_iff.mpr (by omega), fun z3 => ?_⟩
      exact hQ1 _

