set_option maxHeartbeats 2000000 in
theorem spR_X10_byteAt {N : Nat → Nat} (hN : rN N) (q1 : Int32) {M0 : Nat → Int32} {O : Nat × Nat} {Q : Int32 → (Nat → Int32) → Nat × Nat → Prop} (hI : rI N M0 O) (hQ : ∀ (r : Int32) , Q r M0 O) : wR_X10_byteAt N q1 M0 O Q := by
  obtain ⟨_, _, _, _, _, _, _, _, _, _, _, _, _, _, _, _⟩ := (show rN N from hN)
  obtain ⟨⟨_, _⟩, ⟨_, _⟩, ⟨_, _, _⟩, ⟨_, _⟩, ⟨_, _⟩, ⟨_, _⟩, ⟨_, _⟩⟩ := (show rI N M0 O from hI)
  have hk : rK M0 M0 := rK_rf M0
  have hQ1 := hQ
  unfold wR_X10_byteAt
  refine ⟨fun hc1 => ?_, fun hc1 => ?_⟩
  · have := ti_rng q1
    have : (0 : Int32).toInt = 0 := by decide
    have hc1 := Int32.lt_iff_toInt_lt.mp hc1
    exact hQ1 _
  · have := ti_rng q1
    have : (0 : Int32).toInt = 0 := by decide
    have hc1 := ti_nlt hc1
    refine ⟨fun hc2 => ?_, fun hc2 => ?_⟩
    · have := ti_rng (M0 21)
      have hc2 := Int32.le_iff_toInt_le.mp hc2
      exact hQ1 _
    · have := ti_rng (M0 21)
      have hc2 := ti_nle hc2
      refine ⟨fun hc3 => ?_, fun hc3 => ?_⟩
      · have := nI_toInt (n := (N 10)) (by omega)
        have hc3 := Int32.le_iff_toInt_le.mp hc3
        exact hQ1 _
      · have := nI_toInt (n := (N 10)) (by omega)
        have hc3 := ti_nle hc3
        refine ⟨vp_in_iff.mpr (by omega), fun z4 => ?_⟩
        exact hQ1 _
set_option maxHeartbeats 2000000 in
theorem spR_X10_isBlank {N : Nat → Nat} (hN : rN N) (q0 : Int32) {M0 : Nat → Int32} {O : Nat × Nat} {Q : Int32 → (Nat → Int32) → Nat × Nat → Prop} (hI : rI N M0 O) (hQ : ∀ (r : Int32) , Q r M0 O) : wR_X10_isBlank N q0 M0 O Q := by
  obtain ⟨_, _, _, _, _, _, _, _, _, _, _, _, _, _, _, _⟩ := (show rN N from hN)
  obtain ⟨⟨_, _⟩, ⟨_, _⟩, ⟨_, _, _⟩, ⟨_, _⟩, ⟨_, _⟩, ⟨_, _⟩, ⟨_, _⟩⟩ := (show rI N M0 O from hI)
  have hk : rK M0 M0 := rK_rf M0
  have hQ1 := hQ
  unfold wR_X10_isBlank
  refine ⟨fun hc1 => ?_, fun hc1 => ?_⟩
  · have := ti_rng q0
    have : (9 : Int32).toInt = 9 := by decide
    have hc19 := congrArg Int32.toInt hc1
    exact hQ1 _
  · have := ti_rng q0
    have : (9 : Int32).toInt = 9 := by decide
    have hc19 := ti_ne hc1
    refine ⟨fun hc2 => ?_, fun hc2 => ?_⟩
    · have : (10 : Int32).toInt = 10 := by decide
      have hc29 := congrArg Int32.toInt hc2
      exact hQ1 _
    · have : (10 : Int32).toInt = 10 := by decide
      have hc29 := ti_ne hc2
      refine ⟨fun hc3 => ?_, fun hc3 => ?_⟩
      · have : (13 : Int32).toInt = 13 := by decide
        have hc39 := congrArg Int32.toInt hc3
        exact hQ1 _
      · have : (13 : Int32).toInt = 13 := by decide
        have hc39 := ti_ne hc3
        refine ⟨fun hc4 => ?_, fun hc4 => ?_⟩
        · have : (32 : Int32).toInt = 32 := by decide
          have hc49 := ti_ne hc4
          exact hQ1 _
        · have : (32 : Int32).toInt = 32 := by decide
          have hc49 := congrArg Int32.toInt hc4
          exact hQ1 _
set_option maxHeartbeats 2000000 in
theorem spR_X10_behindBlanks_27 {N : Nat → Nat} (hN : rN N) (q1 : Int32) {Q : Int32 → (Nat → Int32) → Nat × Nat → Prop} {M0 : Nat → Int32} {O0 : Nat × Nat} (hQ : ∀ (r : Int32) , Q r M0 O0) (a2 : Int32) (M : Nat → Int32) (O : Nat × Nat) (hI : rI N M O) (hk : (M0 = M ∧ O0 = O)) : wR_X10_behindBlanks_27 N Q a2 M O := by
  obtain ⟨_, _, _, _, _, _, _, _, _, _, _, _, _, _, _, _⟩ := (show rN N from hN)
  obtain ⟨⟨_, _⟩, ⟨_, _⟩, ⟨_, _, _⟩, ⟨_, _⟩, ⟨_, _⟩, ⟨_, _⟩, ⟨_, _⟩⟩ := (show rI N M O from hI)
  unfold wR_X10_behindBlanks_27
  obtain ⟨e1, e2⟩ := hk
  have hQ1 := hQ
  rw [e1, e2] at hQ1
  exact hQ1 _
set_option maxHeartbeats 2000000 in
theorem spR_X10_behindBlanks_2 {N : Nat → Nat} (hN : rN N) (q1 : Int32) {Q : Int32 → (Nat → Int32) → Nat × Nat → Prop} {M0 : Nat → Int32} {O0 : Nat × Nat} (hQ : ∀ (r : Int32) , Q r M0 O0) : ∀ (n2 : Nat) (a2 : Int32) (M : Nat → Int32) (O : Nat × Nat), rI N M O → (M0 = M ∧ O0 = O) → (0 ≤ 4294967296 - a2.toInt) → (4294967296 - a2.toInt) + 1 ≤ (n2 : Int) → wR_X10_behindBlanks_2 N Q n2 a2 M O := by
  obtain ⟨_, _, _, _, _, _, _, _, _, _, _, _, _, _, _, _⟩ := (show rN N from hN)
  intro n2
  induction n2 with
  | zero => intro a2 M O hI hk hv hn; exact absurd hn (by omega)
  | succ n2 ih =>
    intro a2 M O hI hk hv hn
    obtain ⟨⟨_, _⟩, ⟨_, _⟩, ⟨_, _, _⟩, ⟨_, _⟩, ⟨_, _⟩, ⟨_, _⟩, ⟨_, _⟩⟩ := (show rI N M O from hI)
    dsimp only [wR_X10_behindBlanks_2]
    obtain ⟨e1, e2⟩ := hk
    have hQ1 := hQ
    rw [e1, e2] at hQ1
    refine ⟨fun hc1 => ?_, fun hc1 => ?_⟩
    · have := ti_rng (M 21)
      have := ti_rng a2
      have hc1 := Int32.le_iff_toInt_le.mp hc1
      exact spR_X10_behindBlanks_27 hN q1 hQ _ _ _ (show rI N M O from hI) ⟨e1, e2⟩
    · have := ti_rng (M 21)
      have := ti_rng a2
      have hc1 := ti_nle hc1
      refine spR_X10_byteAt hN _ (show rI N M O from hI) (fun r2 => ?_)
      have := ti_rng r2
      refine spR_X10_isBlank hN _ (show rI N M O from hI) (fun r4 => ?_)
      refine ⟨fun hc6 => ?_, fun hc6 => ?_⟩
      · have := ti_rng r4
        have : (0 : Int32).toInt = 0 := by decide
        have hc69 := congrArg Int32.toInt hc6
        exact spR_X10_behindBlanks_27 hN q1 hQ _ _ _ (show rI N M O from hI) ⟨e1, e2⟩
      · have := ti_rng r4
        have : (0 : Int32).toInt = 0 := by decide
        have hc69 := ti_ne hc6
        have : (1 : Int32).toInt = 1 := by decide
        first | have := ti_addx a2 1 (by omega) | obtain ⟨_, _, _, _⟩ := ti_add a2 1
        exact ih _ _ _ (show rI N M O from hI) ⟨e1, e2⟩ (show 0 ≤ 4294967296 - (a2 + 1).toInt from by omega) (show (4294967296 - (a2 + 1).toInt) + 1 ≤ _ from by omega)
set_option maxHeartbeats 2000000 in
theorem spR_X10_behindBlanks {N : Nat → Nat} (hN : rN N) (q1 : Int32) {M0 : Nat → Int32} {O : Nat × Nat} {Q : Int32 → (Nat → Int32) → Nat × Nat → Prop} (hI : rI N M0 O) (hQ : ∀ (r : Int32) , Q r M0 O) : wR_X10_behindBlanks N q1 M0 O Q := by
  obtain ⟨_, _, _, _, _, _, _, _, _, _, _, _, _, _, _, _⟩ := (show rN N from hN)
  obtain ⟨⟨_, _⟩, ⟨_, _⟩, ⟨_, _, _⟩, ⟨_, _⟩, ⟨_, _⟩, ⟨_, _⟩, ⟨_, _⟩⟩ := (show rI N M0 O from hI)
  have hk : rK M0 M0 := rK_rf M0
  have hQ1 := hQ
  unfold wR_X10_behindBlanks
  have := ti_rng q1
  exact ⟨((4294967296 - q1.toInt) + 1).toNat, spR_X10_behindBlanks_2 hN q1 hQ _ _ _ _ (show rI N M0 O from hI) ⟨rfl, rfl⟩ (show 0 ≤ 4294967296 - q1.toInt from by omega) (show (4294967296 - q1.toInt) + 1 ≤ _ from by omega)⟩
set_option maxHeartbeats 2000000 in
theorem spR_X10_isDigit {N : Nat → Nat} (hN : rN N) (q0 : Int32) {M0 : Nat → Int32} {O : Nat × Nat} {Q : Int32 → (Nat → Int32) → Nat × Nat → Prop} (hI : rI N M0 O) (hQ : ∀ (r : Int32) , Q r M0 O) : wR_X10_isDigit N q0 M0 O Q := by
  obtain ⟨_, _, _, _, _, _, _, _, _, _, _, _, _, _, _, _⟩ := (show rN N from hN)
  obtain ⟨⟨_, _⟩, ⟨_, _⟩, ⟨_, _, _⟩, ⟨_, _⟩, ⟨_, _⟩, ⟨_, _⟩, ⟨_, _⟩⟩ := (show rI N M0 O from hI)
  have hk : rK M0 M0 := rK_rf M0
  have hQ1 := hQ
  unfold wR_X10_isDigit
  refine ⟨fun hc1 => ?_, fun hc1 => ?_⟩
  · have := ti_rng q0
    have : (48 : Int32).toInt = 48 := by decide
    have hc1 := Int32.lt_iff_toInt_lt.mp hc1
    exact hQ1 _
  · have := ti_rng q0
    have : (48 : Int32).toInt = 48 := by decide
    have hc1 := ti_nlt hc1
    refine ⟨fun hc2 => ?_, fun hc2 => ?_⟩
    · have : (57 : Int32).toInt = 57 := by decide
      have hc2 := Int32.lt_iff_toInt_lt.mp hc2
      exact hQ1 _
    · have : (57 : Int32).toInt = 57 := by decide
      have hc2 := ti_nlt hc2
      exact hQ1 _
set_option maxHeartbeats 2000000 in
theorem spR_X10_isLetter_12 {N : Nat → Nat} (hN : rN N) (q0 : Int32) {Q : Int32 → (Nat → Int32) → Nat × Nat → Prop} {M0 : Nat → Int32} {O0 : Nat × Nat} (hQ : ∀ (r : Int32) , Q r M0 O0) (a0 : Int32) (M : Nat → Int32) (O : Nat × Nat) (hI : rI N M O) (hk : (M0 = M ∧ O0 = O)) : wR_X10_isLetter_12 N Q a0 M O := by
  obtain ⟨_, _, _, _, _, _, _, _, _, _, _, _, _, _, _, _⟩ := (show rN N from hN)
  obtain ⟨⟨_, _⟩, ⟨_, _⟩, ⟨_, _, _⟩, ⟨_, _⟩, ⟨_, _⟩, ⟨_, _⟩, ⟨_, _⟩⟩ := (show rI N M O from hI)
  unfold wR_X10_isLetter_12
  obtain ⟨e1, e2⟩ := hk
  have hQ1 := hQ
  rw [e1, e2] at hQ1
  refine ⟨fun hc2 => ?_, fun hc2 => ?_⟩
  · have := ti_rng a0
    have : (65 : Int32).toInt = 65 := by decide
    have hc2 := Int32.lt_iff_toInt_lt.mp hc2
    exact hQ1 _
  · have := ti_rng a0
    have : (65 : Int32).toInt = 65 := by decide
    have hc2 := ti_nlt hc2
    refine ⟨fun hc3 => ?_, fun hc3 => ?_⟩
    · have : (90 : Int32).toInt = 90 := by decide
      have hc3 := Int32.lt_iff_toInt_lt.mp hc3
      exact hQ1 _
    · have : (90 : Int32).toInt = 90 := by decide
      have hc3 := ti_nlt hc3
      exact hQ1 _
set_option maxHeartbeats 2000000 in
theorem spR_X10_isLetter {N : Nat → Nat} (hN : rN N) (q0 : Int32) {M0 : Nat → Int32} {O : Nat × Nat} {Q : Int32 → (Nat → Int32) → Nat × Nat → Prop} (hI : rI N M0 O) (hQ : ∀ (r : Int32) , Q r M0 O) : wR_X10_isLetter N q0 M0 O Q := by
  obtain ⟨_, _, _, _, _, _, _, _, _, _, _, _, _, _, _, _⟩ := (show rN N from hN)
  obtain ⟨⟨_, _⟩, ⟨_, _⟩, ⟨_, _, _⟩, ⟨_, _⟩, ⟨_, _⟩, ⟨_, _⟩, ⟨_, _⟩⟩ := (show rI N M0 O from hI)
  have hk : rK M0 M0 := rK_rf M0
  have hQ1 := hQ
  unfold wR_X10_isLetter
  refine ⟨fun hc1 => ?_, fun hc1 => ?_⟩
  · have := ti_rng q0
    have : (97 : Int32).toInt = 97 := by decide
    have hc1 := Int32.lt_iff_toInt_lt.mp hc1
    exact spR_X10_isLetter_12 hN q0 hQ _ _ _ (show rI N M0 O from hI) ⟨rfl, rfl⟩
  · have := ti_rng q0
    have : (97 : Int32).toInt = 97 := by decide
    have hc1 := ti_nlt hc1
    refine ⟨fun hc4 => ?_, fun hc4 => ?_⟩
    · have : (122 : Int32).toInt = 122 := by decide
      have hc4 := Int32.le_iff_toInt_le.mp hc4
      exact hQ1 _
    · have : (122 : Int32).toInt = 122 := by decide
      have hc4 := ti_nle hc4
      exact spR_X10_isLetter_12 hN q0 hQ _ _ _ (show rI N M0 O from hI) ⟨rfl, rfl⟩
set_option maxHeartbeats 2000000 in
theorem spR_X10_behindLettersAndDigits_38 {N : Nat → Nat} (hN : rN N) (q1 : Int32) {Q : Int32 → (Nat → Int32) → Nat × Nat → Prop} {M0 : Nat → Int32} {O0 : Nat × Nat} (hQ : ∀ (r : Int32) , Q r M0 O0) (a2 : Int32) (M : Nat → Int32) (O : Nat × Nat) (hI : rI N M O) (hk : (M0 = M ∧ O0 = O)) : wR_X10_behindLettersAndDigits_38 N Q a2 M O := by
  obtain ⟨_, _, _, _, _, _, _, _, _, _, _, _, _, _, _, _⟩ := (show rN N from hN)
  obtain ⟨⟨_, _⟩, ⟨_, _⟩, ⟨_, _, _⟩, ⟨_, _⟩, ⟨_, _⟩, ⟨_, _⟩, ⟨_, _⟩⟩ := (show rI N M O from hI)
  unfold wR_X10_behindLettersAndDigits_38
  obtain ⟨e1, e2⟩ := hk
  have hQ1 := hQ
  rw [e1, e2] at hQ1
  exact hQ1 _
set_option maxHeartbeats 2000000 in
theorem spR_X10_behindLettersAndDigits_32 {N : Nat → Nat} (hN : rN N) (q1 : Int32) {K2 : (Int32 → (Nat → Int32) → (Nat × Nat) → Prop)} {n2 : Nat} {Q : Int32 → (Nat → Int32) → Nat × Nat → Prop} {M0 : Nat → Int32} {O0 : Nat × Nat} (sK2 : ∀ (a2 : Int32) (M : Nat → Int32) (O : Nat × Nat), rI N M O → (M0 = M ∧ O0 = O) → (0 ≤ 4294967296 - a2.toInt) → (4294967296 - a2.toInt) + 1 ≤ (n2 : Int) → K2 a2 M O) (hQ : ∀ (r : Int32) , Q r M0 O0) (a2 : Int32) (M : Nat → Int32) (O : Nat × Nat) (hI : rI N M O) (hk : (M0 = M ∧ O0 = O)) (hbi : ((0 ≤ 4294967296 - a2.toInt) ∧ (4294967296 - a2.toInt) ≤ (n2 : Int) ∧ 1 ≤ (4294967296 - a2.toInt) ∧ a2.toInt < 2147483647)) : wR_X10_behindLettersAndDigits_32 N K2 Q a2 M O := by
  obtain ⟨_, _, _, _, _, _, _, _, _, _, _, _, _, _, _, _⟩ := (show rN N from hN)
  obtain ⟨⟨_, _⟩, ⟨_, _⟩, ⟨_, _, _⟩, ⟨_, _⟩, ⟨_, _⟩, ⟨_, _⟩, ⟨_, _⟩⟩ := (show rI N M O from hI)
  unfold wR_X10_behindLettersAndDigits_32
  obtain ⟨e1, e2⟩ := hk
  have hQ1 := hQ
  rw [e1, e2] at hQ1
  have := ti_rng a2
  have : (1 : Int32).toInt = 1 := by decide
  first | have := ti_addx a2 1 (by omega) | obtain ⟨_, _, _, _⟩ := ti_add a2 1
  exact sK2 _ _ _ (show rI N M O from hI) ⟨e1, e2⟩ (show 0 ≤ 4294967296 - (a2 + 1).toInt from by omega) (show (4294967296 - (a2 + 1).toInt) + 1 ≤ _ from by omega)
set_option maxHeartbeats 2000000 in
theorem spR_X10_behindLettersAndDigits_2 {N : Nat → Nat} (hN : rN N) (q1 : Int32) {Q : Int32 → (Nat → Int32) → Nat × Nat → Prop} {M0 : Nat → Int32} {O0 : Nat × Nat} (hQ : ∀ (r : Int32) , Q r M0 O0) : ∀ (n2 : Nat) (a2 : Int32) (M : Nat → Int32) (O : Nat × Nat), rI N M O → (M0 = M ∧ O0 = O) → (0 ≤ 4294967296 - a2.toInt) → (4294967296 - a2.toInt) + 1 ≤ (n2 : Int) → wR_X10_behindLettersAndDigits_2 N Q n2 a2 M O := by
  obtain ⟨_, _, _, _, _, _, _, _, _, _, _, _, _, _, _, _⟩ := (show rN N from hN)
  intro n2
  induction n2 with
  | zero => intro a2 M O hI hk hv hn; exact absurd hn (by omega)
  | succ n2 ih =>
    intro a2 M O hI hk hv hn
    obtain ⟨⟨_, _⟩, ⟨_, _⟩, ⟨_, _, _⟩, ⟨_, _⟩, ⟨_, _⟩, ⟨_, _⟩, ⟨_, _⟩⟩ := (show rI N M O from hI)
    dsimp only [wR_X10_behindLettersAndDigits_2]
    obtain ⟨e1, e2⟩ := hk
    have hQ1 := hQ
    rw [e1, e2] at hQ1
    refine ⟨fun hc1 => ?_, fun hc1 => ?_⟩
    · have := ti_rng (M 21)
      have := ti_rng a2
      have hc1 := Int32.le_iff_toInt_le.mp hc1
      exact spR_X10_behindLettersAndDigits_38 hN q1 hQ _ _ _ (show rI N M O from hI) ⟨e1, e2⟩
    · have := ti_rng (M 21)
      have := ti_rng a2
      have hc1 := ti_nle hc1
      refine spR_X10_byteAt hN _ (show rI N M O from hI) (fun r2 => ?_)
      have := ti_rng r2
      refine spR_X10_isLetter hN _ (show rI N M O from hI) (fun r4 => ?_)
      refine ⟨fun hc6 => ?_, fun hc6 => ?_⟩
      · have := ti_rng r4
        have : (0 : Int32).toInt = 0 := by decide
        have hc69 := ti_ne hc6
        exact spR_X10_behindLettersAndDigits_32 hN q1 ih hQ _ _ _ (show rI N M O from hI) ⟨e1, e2⟩ (show ((0 ≤ 4294967296 - a2.toInt) ∧ (4294967296 - a2.toInt) ≤ (n2 : Int) ∧ 1 ≤ (4294967296 - a2.toInt) ∧ a2.toInt < 2147483647) from by omega)
      · have := ti_rng r4
        have : (0 : Int32).toInt = 0 := by decide
        have hc69 := congrArg Int32.toInt hc6
        refine spR_X10_byteAt hN _ (show rI N M O from hI) (fun r7 => ?_)
        have := ti_rng r7
        refine spR_X10_isDigit hN _ (show rI N M O from hI) (fun r9 => ?_)
        refine ⟨fun hc11 => ?_, fun hc11 => ?_⟩
        · have := ti_rng r9
          have hc119 := congrArg Int32.toInt hc11
          exact spR_X10_behindLettersAndDigits_38 hN q1 hQ _ _ _ (show rI N M O from hI) ⟨e1, e2⟩
        · have := ti_rng r9
          have hc119 := ti_ne hc11
          exact spR_X10_behindLettersAndDigits_32 hN q1 ih hQ _ _ _ (show rI N M O from hI) ⟨e1, e2⟩ (show ((0 ≤ 4294967296 - a2.toInt) ∧ (4294967296 - a2.toInt) ≤ (n2 : Int) ∧ 1 ≤ (4294967296 - a2.toInt) ∧ a2.toInt < 2147483647) from by omega)
set_option maxHeartbeats 2000000 in
theorem spR_X10_behindLettersAndDigits {N : Nat → Nat} (hN : rN N) (q1 : Int32) {M0 : Nat → Int32} {O : Nat × Nat} {Q : Int32 → (Nat → Int32) → Nat × Nat → Prop} (hI : rI N M0 O) (hQ : ∀ (r : Int32) , Q r M0 O) : wR_X10_behindLettersAndDigits N q1 M0 O Q := by
  obtain ⟨_, _, _, _, _, _, _, _, _, _, _, _, _, _, _, _⟩ := (show rN N from hN)
  obtain ⟨⟨_, _⟩, ⟨_, _⟩, ⟨_, _, _⟩, ⟨_, _⟩, ⟨_, _⟩, ⟨_, _⟩, ⟨_, _⟩⟩ := (show rI N M0 O from hI)
  have hk : rK M0 M0 := rK_rf M0
  have hQ1 := hQ
  unfold wR_X10_behindLettersAndDigits
  have := ti_rng q1
  exact ⟨((4294967296 - q1.toInt) + 1).toNat, spR_X10_behindLettersAndDigits_2 hN q1 hQ _ _ _ _ (show rI N M0 O from hI) ⟨rfl, rfl⟩ (show 0 ≤ 4294967296 - q1.toInt from by omega) (show (4294967296 - q1.toInt) + 1 ≤ _ from by omega)⟩
set_option maxHeartbeats 2000000 in
theorem spR_X10_put {N : Nat → Nat} (hN : rN N) (q1 : Int32) (q2 : Int32) (q3 : Int32) {M0 : Nat → Int32} {O : Nat × Nat} {Q : (Nat → Int32) → Nat × Nat → Prop} (hI : rI N M0 O) (hQ : ∀ (M' : Nat → Int32) (O' : Nat × Nat), rI N M' O' → rK M0 M' → Q M' O') : wR_X10_put N q1 q2 q3 M0 O Q := by
  obtain ⟨_, _, _, _, _, _, _, _, _, _, _, _, _, _, _, _⟩ := (show rN N from hN)
  obtain ⟨⟨_, _⟩, ⟨_, _⟩, ⟨_, _, _⟩, ⟨_, _⟩, ⟨_, _⟩, ⟨_, _⟩, ⟨_, _⟩⟩ := (show rI N M0 O from hI)
  have hk : rK M0 M0 := rK_rf M0
  have hQ1 := hQ
  unfold wR_X10_put
  refine ⟨fun hc1 => ?_, fun hc1 => ?_⟩
  · have := nI_toInt (n := (N 11)) (by omega)
    have := ti_rng (M0 26)
    have hc1 := Int32.le_iff_toInt_le.mp hc1
    exact hQ _ _ (show rI N M0 O from hI) (show rK M0 M0 from hk)
  · have := nI_toInt (n := (N 11)) (by omega)
    have := ti_rng (M0 26)
    have hc1 := ti_nle hc1
    refine ⟨vp_in_iff.mpr (by omega), ?_⟩
    refine ⟨vp_in_iff.mpr (by omega), ?_⟩
    refine ⟨vp_in_iff.mpr (by omega), ?_⟩
    have : (1 : Int32).toInt = 1 := by decide
    first | have := ti_addx (M0 26) 1 (by omega) | obtain ⟨_, _, _, _⟩ := ti_add (M0 26) 1
    exact hQ _ _ (show rI N (um M0 26 ((M0 26) + 1)) O from (show (0 ≤ (M0 8).toInt ∧ (M0 8).toInt ≤ (N 26 : Int)) ∧ (0 ≤ (M0 11).toInt ∧ (M0 11).toInt ≤ (N 11 : Int)) ∧ (0 ≤ (M0 21).toInt ∧ (M0 21).toInt ≤ 4000 ∧ (M0 21).toInt + 1 = (N 11 : Int)) ∧ (0 ≤ ((M0 26) + 1).toInt ∧ ((M0 26) + 1).toInt ≤ (N 11 : Int)) ∧ (0 ≤ (M0 33).toInt ∧ (M0 33).toInt ≤ (N 14 : Int)) ∧ (0 ≤ (M0 63).toInt ∧ (M0 63).toInt ≤ (N 20 : Int)) ∧ (0 ≤ (M0 64).toInt ∧ (M0 64).toInt ≤ 5000) from by omega)) (show rK M0 (um M0 26 ((M0 26) + 1)) from hk)
set_option maxHeartbeats 2000000 in
theorem spR_X10_putNumber_92 {N : Nat → Nat} (hN : rN N) (q1 : Int32) {Q : Int32 → (Nat → Int32) → Nat × Nat → Prop} {M0 : Nat → Int32} (hQ : ∀ (r : Int32) (M' : Nat → Int32) (O' : Nat × Nat), rI N M' O' → rK M0 M' → Q r M' O') (a1 : Int32) (a2 : Int32) (a3 : Int32) (t1 : Int32) (M : Nat → Int32) (O : Nat × Nat) (hI : rI N M O) (hk : rK M0 M) : wR_X10_putNumber_92 N Q a1 a2 a3 t1 M O := by
  obtain ⟨_, _, _, _, _, _, _, _, _, _, _, _, _, _, _, _⟩ := (show rN N from hN)
  obtain ⟨⟨_, _⟩, ⟨_, _⟩, ⟨_, _, _⟩, ⟨_, _⟩, ⟨_, _⟩, ⟨_, _⟩, ⟨_, _⟩⟩ := (show rI N M O from hI)
  unfold wR_X10_putNumber_92
  obtain ⟨_, _, hst⟩ := (show (M 21).toInt = (M0 21).toInt ∧ (M 64).toInt = (M0 64).toInt ∧ ((M0 12).toInt = 137 → (M 12).toInt = 137) from hk)
  have := ti_rng t1
  have := ti_rng a3
  have := ti_rng a1
  refine spR_X10_put hN _ _ _ (show rI N M O from hI) (fun M6 O6 hI hk1 => ?_)
  have hk := rK_tr (show rK M0 M from hk) hk1
  obtain ⟨_, _, hst⟩ := (show (M6 21).toInt = (M0 21).toInt ∧ (M6 64).toInt = (M0 64).toInt ∧ ((M0 12).toInt = 137 → (M6 12).toInt = 137) from hk)
  obtain ⟨_, _, hst1⟩ := (show (M6 21).toInt = (M 21).toInt ∧ (M6 64).toInt = (M 64).toInt ∧ ((M 12).toInt = 137 → (M6 12).toInt = 137) from hk1)
  obtain ⟨⟨_, _⟩, ⟨_, _⟩, ⟨_, _, _⟩, ⟨_, _⟩, ⟨_, _⟩, ⟨_, _⟩, ⟨_, _⟩⟩ := (show rI N M6 O6 from hI)
  exact hQ _ _ _ (show rI N M6 O6 from hI) (show rK M0 M6 from hk)
set_option maxHeartbeats 2000000 in
theorem spR_X10_putNumber_54 {N : Nat → Nat} (hN : rN N) (q1 : Int32) {K26 : (Int32 → Int32 → Int32 → Int32 → Int32 → (Nat → Int32) → (Nat × Nat) → Prop)} {n26 : Nat} {Q : Int32 → (Nat → Int32) → Nat × Nat → Prop} {M0 : Nat → Int32} (sK26 : ∀ (a1 : Int32) (a2 : Int32) (a3 : Int32) (a4 : Int32) (a5 : Int32) (M : Nat → Int32) (O : Nat × Nat), rI N M O → rK M0 M → (0 ≤ 4294967296 - a5.toInt) → (4294967296 - a5.toInt) + 1 ≤ (n26 : Int) → K26 a1 a2 a3 a4 a5 M O) (hQ : ∀ (r : Int32) (M' : Nat → Int32) (O' : Nat × Nat), rI N M' O' → rK M0 M' → Q r M' O') (a1 : Int32) (a2 : Int32) (a3 : Int32) (a5 : Int32) (t0 : Int32) (M : Nat → Int32) (O : Nat × Nat) (hI : rI N M O) (hk : rK M0 M) (hbi : ((0 ≤ 4294967296 - a5.toInt) ∧ (4294967296 - a5.toInt) ≤ (n26 : Int) ∧ 1 ≤ (4294967296 - a5.toInt) ∧ a5.toInt < 2147483647)) : wR_X10_putNumber_54 N K26 Q a1 a2 a3 a5 t0 M O := by
  obtain ⟨_, _, _, _, _, _, _, _, _, _, _, _, _, _, _, _⟩ := (show rN N from hN)
  obtain ⟨⟨_, _⟩, ⟨_, _⟩, ⟨_, _, _⟩, ⟨_, _⟩, ⟨_, _⟩, ⟨_, _⟩, ⟨_, _⟩⟩ := (show rI N M O from hI)
  unfold wR_X10_putNumber_54
  obtain ⟨_, _, hst⟩ := (show (M 21).toInt = (M0 21).toInt ∧ (M 64).toInt = (M0 64).toInt ∧ ((M0 12).toInt = 137 → (M 12).toInt = 137) from hk)
  have := ti_rng a5
  refine spR_X10_byteAt hN _ (show rI N M O from hI) (fun r8 => ?_)
  have := ti_rng a1
  have := ti_rng a2
  have := ti_rng a3
  have : (10 : Int32).toInt = 10 := by decide
  first | have := ti_mulx a3 10 10 (by decide) (by omega) | obtain ⟨_, _, _, _⟩ := ti_mulc a3 10 10 (by decide)
  have := ti_rng r8
  first | have := ti_addx (a3 * 10) r8 (by omega) | obtain ⟨_, _, _, _⟩ := ti_add (a3 * 10) r8
  have : (48 : Int32).toInt = 48 := by decide
  first | have := ti_subx ((a3 * 10) + r8) 48 (by omega) | obtain ⟨_, _, _, _⟩ := ti_sub ((a3 * 10) + r8) 48
  have := ti_rng t0
  have : (1 : Int32).toInt = 1 := by decide
  first | have := ti_addx a5 1 (by omega) | obtain ⟨_, _, _, _⟩ := ti_add a5 1
  exact sK26 _ _ _ _ _ _ _ (show rI N M O from hI) (show rK M0 M from hk) (show 0 ≤ 4294967296 - (a5 + 1).toInt from by omega) (show (4294967296 - (a5 + 1).toInt) + 1 ≤ _ from by omega)
set_option maxHeartbeats 2000000 in
theorem spR_X10_putNumber_49 {N : Nat → Nat} (hN : rN N) (q1 : Int32) {K26 : (Int32 → Int32 → Int32 → Int32 → Int32 → (Nat → Int32) → (Nat × Nat) → Prop)} {n26 : Nat} {Q : Int32 → (Nat → Int32) → Nat × Nat → Prop} {M0 : Nat → Int32} (sK26 : ∀ (a1 : Int32) (a2 : Int32) (a3 : Int32) (a4 : Int32) (a5 : Int32) (M : Nat → Int32) (O : Nat × Nat), rI N M O → rK M0 M → (0 ≤ 4294967296 - a5.toInt) → (4294967296 - a5.toInt) + 1 ≤ (n26 : Int) → K26 a1 a2 a3 a4 a5 M O) (hQ : ∀ (r : Int32) (M' : Nat → Int32) (O' : Nat × Nat), rI N M' O' → rK M0 M' → Q r M' O') (a1 : Int32) (a2 : Int32) (a3 : Int32) (a5 : Int32) (M : Nat → Int32) (O : Nat × Nat) (hI : rI N M O) (hk : rK M0 M) (hbi : ((0 ≤ 4294967296 - a5.toInt) ∧ (4294967296 - a5.toInt) ≤ (n26 : Int) ∧ 1 ≤ (4294967296 - a5.toInt) ∧ a5.toInt < 2147483647)) : wR_X10_putNumber_49 N K26 Q a1 a2 a3 a5 M O := by
  obtain ⟨_, _, _, _, _, _, _, _, _, _, _, _, _, _, _, _⟩ := (show rN N from hN)
  obtain ⟨⟨_, _⟩, ⟨_, _⟩, ⟨_, _, _⟩, ⟨_, _⟩, ⟨_, _⟩, ⟨_, _⟩, ⟨_, _⟩⟩ := (show rI N M O from hI)
  unfold wR_X10_putNumber_49
  obtain ⟨_, _, hst⟩ := (show (M 21).toInt = (M0 21).toInt ∧ (M 64).toInt = (M0 64).toInt ∧ ((M0 12).toInt = 137 → (M 12).toInt = 137) from hk)
  have := ti_rng a1
  have := ti_rng a2
  have := ti_rng a3
  have := ti_rng a5
  have : (1 : Int32).toInt = 1 := by decide
  exact spR_X10_putNumber_54 hN q1 sK26 hQ _ _ _ _ _ _ _ (show rI N M O from hI) (show rK M0 M from hk) (show ((0 ≤ 4294967296 - a5.toInt) ∧ (4294967296 - a5.toInt) ≤ (n26 : Int) ∧ 1 ≤ (4294967296 - a5.toInt) ∧ a5.toInt < 2147483647) from by omega)
set_option maxHeartbeats 2000000 in
theorem spR_X10_putNumber_26 {N : Nat → Nat} (hN : rN N) (q1 : Int32) {Q : Int32 → (Nat → Int32) → Nat × Nat → Prop} {M0 : Nat → Int32} (hQ : ∀ (r : Int32) (M' : Nat → Int32) (O' : Nat × Nat), rI N M' O' → rK M0 M' → Q r M' O') : ∀ (n26 : Nat) (a1 : Int32) (a2 : Int32) (a3 : Int32) (a4 : Int32) (a5 : Int32) (M : Nat → Int32) (O : Nat × Nat), rI N M O → rK M0 M → (0 ≤ 4294967296 - a5.toInt) → (4294967296 - a5.toInt) + 1 ≤ (n26 : Int) → wR_X10_putNumber_26 N Q n26 a1 a2 a3 a4 a5 M O := by
  obtain ⟨_, _, _, _, _, _, _, _, _, _, _, _, _, _, _, _⟩ := (show rN N from hN)
  intro n26
  induction n26 with
  | zero => intro a1 a2 a3 a4 a5 M O hI hk hv hn; exact absurd hn (by omega)
  | succ n26 ih =>
    intro a1 a2 a3 a4 a5 M O hI hk hv hn
    obtain ⟨⟨_, _⟩, ⟨_, _⟩, ⟨_, _, _⟩, ⟨_, _⟩, ⟨_, _⟩, ⟨_, _⟩, ⟨_, _⟩⟩ := (show rI N M O from hI)
    dsimp only [wR_X10_putNumber_26]
    obtain ⟨_, _, hst⟩ := (show (M 21).toInt = (M0 21).toInt ∧ (M 64).toInt = (M0 64).toInt ∧ ((M0 12).toInt = 137 → (M 12).toInt = 137) from hk)
    refine ⟨fun hc4 => ?_, fun hc4 => ?_⟩
    · have := ti_rng a2
      have := ti_rng a5
      have hc4 := Int32.le_iff_toInt_le.mp hc4
      refine ⟨fun hc5 => ?_, fun hc5 => ?_⟩
      · have := ti_rng a4
        have : (0 : Int32).toInt = 0 := by decide
        have hc59 := congrArg Int32.toInt hc5
        have := ti_rng a1
        have := ti_rng a3
        have : (132 : Int32).toInt = 132 := by decide
        exact spR_X10_putNumber_92 hN q1 hQ _ _ _ _ _ _ (show rI N M O from hI) (show rK M0 M from hk)
      · have := ti_rng a4
        have : (0 : Int32).toInt = 0 := by decide
        have hc59 := ti_ne hc5
        have := ti_rng a1
        have := ti_rng a3
        have : (136 : Int32).toInt = 136 := by decide
        exact spR_X10_putNumber_92 hN q1 hQ _ _ _ _ _ _ (show rI N M O from hI) (show rK M0 M from hk)
    · have := ti_rng a2
      have := ti_rng a5
      have hc4 := ti_nle hc4
      refine ⟨fun hc7 => ?_, fun hc7 => ?_⟩
      · have := ti_rng a4
        have : (0 : Int32).toInt = 0 := by decide
        have hc79 := ti_ne hc7
        have := ti_rng a1
        have := ti_rng a3
        exact spR_X10_putNumber_49 hN q1 ih hQ _ _ _ _ _ _ (show rI N M O from hI) (show rK M0 M from hk) (show ((0 ≤ 4294967296 - a5.toInt) ∧ (4294967296 - a5.toInt) ≤ (n26 : Int) ∧ 1 ≤ (4294967296 - a5.toInt) ∧ a5.toInt < 2147483647) from by omega)
      · have := ti_rng a4
        have : (0 : Int32).toInt = 0 := by decide
        have hc79 := congrArg Int32.toInt hc7
        refine spR_X10_byteAt hN _ (show rI N M O from hI) (fun r10 => ?_)
        have := ti_rng r10
        refine spR_X10_isDigit hN _ (show rI N M O from hI) (fun r12 => ?_)
        refine ⟨fun hc14 => ?_, fun hc14 => ?_⟩
        · have := ti_rng r12
          have hc149 := ti_ne hc14
          have := ti_rng a1
          have := ti_rng a3
          exact spR_X10_putNumber_54 hN q1 ih hQ _ _ _ _ _ _ _ (show rI N M O from hI) (show rK M0 M from hk) (show ((0 ≤ 4294967296 - a5.toInt) ∧ (4294967296 - a5.toInt) ≤ (n26 : Int) ∧ 1 ≤ (4294967296 - a5.toInt) ∧ a5.toInt < 2147483647) from by omega)
        · have := ti_rng r12
          have hc149 := congrArg Int32.toInt hc14
          have := ti_rng a1
          have := ti_rng a3
          exact spR_X10_putNumber_49 hN q1 ih hQ _ _ _ _ _ _ (show rI N M O from hI) (show rK M0 M from hk) (show ((0 ≤ 4294967296 - a5.toInt) ∧ (4294967296 - a5.toInt) ≤ (n26 : Int) ∧ 1 ≤ (4294967296 - a5.toInt) ∧ a5.toInt < 2147483647) from by omega)
set_option maxHeartbeats 2000000 in
theorem spR_X10_putNumber_21 {N : Nat → Nat} (hN : rN N) (q1 : Int32) {Q : Int32 → (Nat → Int32) → Nat × Nat → Prop} {M0 : Nat → Int32} (hQ : ∀ (r : Int32) (M' : Nat → Int32) (O' : Nat × Nat), rI N M' O' → rK M0 M' → Q r M' O') (a1 : Int32) (a2 : Int32) (a3 : Int32) (t0 : Int32) (M : Nat → Int32) (O : Nat × Nat) (hI : rI N M O) (hk : rK M0 M) : wR_X10_putNumber_21 N Q a1 a2 a3 t0 M O := by
  obtain ⟨_, _, _, _, _, _, _, _, _, _, _, _, _, _, _, _⟩ := (show rN N from hN)
  obtain ⟨⟨_, _⟩, ⟨_, _⟩, ⟨_, _, _⟩, ⟨_, _⟩, ⟨_, _⟩, ⟨_, _⟩, ⟨_, _⟩⟩ := (show rI N M O from hI)
  unfold wR_X10_putNumber_21
  obtain ⟨_, _, hst⟩ := (show (M 21).toInt = (M0 21).toInt ∧ (M 64).toInt = (M0 64).toInt ∧ ((M0 12).toInt = 137 → (M 12).toInt = 137) from hk)
  have := ti_rng a1
  have := ti_rng a2
  have := ti_rng a3
  have := ti_rng t0
  exact ⟨((4294967296 - a1.toInt) + 1).toNat, spR_X10_putNumber_26 hN q1 hQ _ _ _ _ _ _ _ _ (show rI N M O from hI) (show rK M0 M from hk) (show 0 ≤ 4294967296 - a1.toInt from by omega) (show (4294967296 - a1.toInt) + 1 ≤ _ from by omega)⟩
set_option maxHeartbeats 2000000 in
theorem spR_X10_putNumber {N : Nat → Nat} (hN : rN N) (q1 : Int32) {M0 : Nat → Int32} {O : Nat × Nat} {Q : Int32 → (Nat → Int32) → Nat × Nat → Prop} (hI : rI N M0 O) (hQ : ∀ (r : Int32) (M' : Nat → Int32) (O' : Nat × Nat), rI N M' O' → rK M0 M' → Q r M' O') : wR_X10_putNumber N q1 M0 O Q := by
  obtain ⟨_, _, _, _, _, _, _, _, _, _, _, _, _, _, _, _⟩ := (show rN N from hN)
  obtain ⟨⟨_, _⟩, ⟨_, _⟩, ⟨_, _, _⟩, ⟨_, _⟩, ⟨_, _⟩, ⟨_, _⟩, ⟨_, _⟩⟩ := (show rI N M0 O from hI)
  have hk : rK M0 M0 := rK_rf M0
  have hQ1 := hQ
  unfold wR_X10_putNumber
  have := ti_rng q1
  refine spR_X10_behindLettersAndDigits hN _ (show rI N M0 O from hI) (fun r1 => ?_)
  refine ⟨fun hc3 => ?_, fun hc3 => ?_⟩
  · have := ti_rng r1
    first | have := ti_subx r1 q1 (by omega) | obtain ⟨_, _, _, _⟩ := ti_sub r1 q1
    have : (9 : Int32).toInt = 9 := by decide
    have hc3 := Int32.le_iff_toInt_le.mp hc3
    have : (0 : Int32).toInt = 0 := by decide
    exact spR_X10_putNumber_21 hN q1 hQ _ _ _ _ _ _ (show rI N M0 O from hI) (show rK M0 M0 from hk)
  · have := ti_rng r1
    first | have := ti_subx r1 q1 (by omega) | obtain ⟨_, _, _, _⟩ := ti_sub r1 q1
    have : (9 : Int32).toInt = 9 := by decide
    have hc3 := ti_nle hc3
    have : (0 : Int32).toInt = 0 := by decide
    have : (1 : Int32).toInt = 1 := by decide
    exact spR_X10_putNumber_21 hN q1 hQ _ _ _ _ _ _ (show rI N M0 O from hI) (show rK M0 M0 from hk)

