set_option maxHeartbeats 2000000 in
theorem spT_X8_begin_62 {N : Nat → Nat} (hN : tN N) (q1 : Int32) {Q : (Nat → Int32) → Nat × Nat → Prop} {M0 : Nat → Int32} (hQ : ∀ (M' : Nat → Int32) (O' : Nat × Nat), tI N M' O' → tK M0 M' → Q M' O') : ∀ (n62 : Nat) (a1 : Int32) (a2 : Int32) (M : Nat → Int32) (O : Nat × Nat), tI N M O → tK M0 M → (0 ≤ a2.toInt ∧ a2.toInt ≤ 8) → (8 - a2.toInt) + 1 ≤ (n62 : Int) → wT_X8_begin_62 N Q n62 a1 a2 M O := by
  obtain ⟨_, _, _, _, _, _, _, _, _, _, _, _, _⟩ := (show tN N from hN)
  intro n62
  induction n62 with
  | zero => intro a1 a2 M O hI hk hv hn; exact absurd hn (by omega)
  | succ n62 ih =>
    intro a1 a2 M O hI hk hv hn
    obtain ⟨⟨_, _⟩, ⟨_, _⟩, _, ⟨_, _⟩, ⟨_, _⟩, ⟨_, _⟩, hO7⟩ := (show tI N M O from hI)
    dsimp only [wT_X8_begin_62]
    have := b_le7 hO7
    refine ⟨fun hc4 => ?_, fun hc4 => ?_⟩
    · have : (8 : Int32).toInt = 8 := by decide
      have := ti_rng a2
      have hc4 := Int32.le_iff_toInt_le.mp hc4
      have := ti_rng a1
      refine spT_X6_startOf hN _ (show tI N M O from hI) (fun r5 => ?_)
      exact hQ _ _ (show tI N (um (um M 49 r5) 38 ((M 38) + 1)) O from hI) (show tK M0 (um (um M 49 r5) 38 ((M 38) + 1)) from hk)
    · have : (8 : Int32).toInt = 8 := by decide
      have := ti_rng a2
      have hc4 := ti_nle hc4
      have : (0 : Int32).toInt = 0 := by decide
      refine spT_X8_setObject hN _ _ (show tI N M O from hI) (?_)
      have := ti_rng a1
      have : (1 : Int32).toInt = 1 := by decide
      first | have := ti_addx a2 1 (by omega) | obtain ⟨_, _, _, _⟩ := ti_add a2 1
      exact ih _ _ _ _ (show tI N M O from hI) (show tK M0 M from hk) (show 0 ≤ (a2 + 1).toInt ∧ (a2 + 1).toInt ≤ 8 from by omega) (show (8 - (a2 + 1).toInt) + 1 ≤ _ from by omega)
set_option maxHeartbeats 2000000 in
theorem spT_X8_begin_42 {N : Nat → Nat} (hN : tN N) (q1 : Int32) {Q : (Nat → Int32) → Nat × Nat → Prop} {M0 : Nat → Int32} (hQ : ∀ (M' : Nat → Int32) (O' : Nat × Nat), tI N M' O' → tK M0 M' → Q M' O') : ∀ (n42 : Nat) (a1 : Int32) (a2 : Int32) (M : Nat → Int32) (O : Nat × Nat), tI N M O → tK M0 M → (0 ≤ a2.toInt ∧ a2.toInt ≤ 12) → (12 - a2.toInt) + 1 ≤ (n42 : Int) → wT_X8_begin_42 N Q n42 a1 a2 M O := by
  obtain ⟨_, _, _, _, _, _, _, _, _, _, _, _, _⟩ := (show tN N from hN)
  intro n42
  induction n42 with
  | zero => intro a1 a2 M O hI hk hv hn; exact absurd hn (by omega)
  | succ n42 ih =>
    intro a1 a2 M O hI hk hv hn
    obtain ⟨⟨_, _⟩, ⟨_, _⟩, _, ⟨_, _⟩, ⟨_, _⟩, ⟨_, _⟩, hO7⟩ := (show tI N M O from hI)
    dsimp only [wT_X8_begin_42]
    have := b_le7 hO7
    refine ⟨fun hc3 => ?_, fun hc3 => ?_⟩
    · have : (12 : Int32).toInt = 12 := by decide
      have := ti_rng a2
      have hc3 := Int32.le_iff_toInt_le.mp hc3
      have := ti_rng a1
      have : (0 : Int32).toInt = 0 := by decide
      exact ⟨((8 - (0 : Int32).toInt) + 1).toNat, spT_X8_begin_62 hN q1 hQ _ _ _ _ _ (show tI N M O from hI) (show tK M0 M from hk) (show 0 ≤ (0 : Int32).toInt ∧ (0 : Int32).toInt ≤ 8 from by omega) (show (8 - (0 : Int32).toInt) + 1 ≤ _ from by omega)⟩
    · have : (12 : Int32).toInt = 12 := by decide
      have := ti_rng a2
      have hc3 := ti_nle hc3
      have : (0 : Int32).toInt = 0 := by decide
      refine spT_X8_setNumber hN _ _ (show tI N M O from hI) (?_)
      have := ti_rng a1
      have : (1 : Int32).toInt = 1 := by decide
      first | have := ti_addx a2 1 (by omega) | obtain ⟨_, _, _, _⟩ := ti_add a2 1
      exact ih _ _ _ _ (show tI N M O from hI) (show tK M0 M from hk) (show 0 ≤ (a2 + 1).toInt ∧ (a2 + 1).toInt ≤ 12 from by omega) (show (12 - (a2 + 1).toInt) + 1 ≤ _ from by omega)
set_option maxHeartbeats 2000000 in
theorem spT_X8_begin {N : Nat → Nat} (hN : tN N) (q1 : Int32) {M0 : Nat → Int32} {O : Nat × Nat} {Q : (Nat → Int32) → Nat × Nat → Prop} (hI : tI N M0 O) (hQ : ∀ (M' : Nat → Int32) (O' : Nat × Nat), tI N M' O' → tK M0 M' → Q M' O') : wT_X8_begin N q1 M0 O Q := by
  obtain ⟨_, _, _, _, _, _, _, _, _, _, _, _, _⟩ := (show tN N from hN)
  obtain ⟨⟨_, _⟩, ⟨_, _⟩, _, ⟨_, _⟩, ⟨_, _⟩, ⟨_, _⟩, hO7⟩ := (show tI N M0 O from hI)
  have hk : tK M0 M0 := tK_rf M0
  have hQ1 := hQ
  unfold wT_X8_begin
  have := b_le7 hO7
  refine ⟨fun hc1 => ?_, fun hc1 => ?_⟩
  · have := ti_rng (M0 50)
    have : (0 : Int32).toInt = 0 := by decide
    have hc1 := Int32.lt_iff_toInt_lt.mp hc1
    exact hQ _ _ (show tI N M0 O from hI) (show tK M0 M0 from hk)
  · have := ti_rng (M0 50)
    have : (0 : Int32).toInt = 0 := by decide
    have hc1 := ti_nlt hc1
    refine ⟨fun hc2 => ?_, fun hc2 => ?_⟩
    · have : (12 : Int32).toInt = 12 := by decide
      have hc2 := Int32.lt_iff_toInt_lt.mp hc2
      refine ⟨vp_in_iff.mpr (by omega), ?_⟩
      have := ti_rng q1
      exact ⟨((12 - (0 : Int32).toInt) + 1).toNat, spT_X8_begin_42 hN q1 hQ _ _ _ _ _ (show tI N (um M0 50 ((M0 50) + 1)) O from hI) (show tK M0 (um M0 50 ((M0 50) + 1)) from hk) (show 0 ≤ (0 : Int32).toInt ∧ (0 : Int32).toInt ≤ 12 from by omega) (show (12 - (0 : Int32).toInt) + 1 ≤ _ from by omega)⟩
    · have : (12 : Int32).toInt = 12 := by decide
      have hc2 := ti_nlt hc2
      exact hQ _ _ (show tI N M0 O from hI) (show tK M0 M0 from hk)
set_option maxHeartbeats 2000000 in
theorem spT_X6_parametersOf {N : Nat → Nat} (hN : tN N) (q1 : Int32) {M0 : Nat → Int32} {O : Nat × Nat} {Q : Int32 → (Nat → Int32) → Nat × Nat → Prop} (hI : tI N M0 O) (hQ : ∀ (r : Int32) , Q r M0 O) : wT_X6_parametersOf N q1 M0 O Q := by
  obtain ⟨_, _, _, _, _, _, _, _, _, _, _, _, _⟩ := (show tN N from hN)
  obtain ⟨⟨_, _⟩, ⟨_, _⟩, _, ⟨_, _⟩, ⟨_, _⟩, ⟨_, _⟩, hO7⟩ := (show tI N M0 O from hI)
  have hk : tK M0 M0 := tK_rf M0
  have hQ1 := hQ
  unfold wT_X6_parametersOf
  have := b_le7 hO7
  refine ⟨fun hc1 => ?_, fun hc1 => ?_⟩
  · have := ti_rng q1
    have : (0 : Int32).toInt = 0 := by decide
    have hc1 := Int32.lt_iff_toInt_lt.mp hc1
    exact hQ1 _
  · have := ti_rng q1
    have : (0 : Int32).toInt = 0 := by decide
    have hc1 := ti_nlt hc1
    refine ⟨fun hc2 => ?_, fun hc2 => ?_⟩
    · have : (16 : Int32).toInt = 16 := by decide
      have hc2 := Int32.le_iff_toInt_le.mp hc2
      exact hQ1 _
    · have : (16 : Int32).toInt = 16 := by decide
      have hc2 := ti_nle hc2
      refine ⟨vp_in_iff.mpr (by omega), fun z3 => ?_⟩
      exact hQ1 _
set_option maxHeartbeats 2000000 in
theorem spT_X8_start_47 {N : Nat → Nat} (hN : tN N) (q1 : Int32) (q2 : Int32) (q3 : Int32) {Q : (Nat → Int32) → Nat × Nat → Prop} {M0 : Nat → Int32} (hQ : ∀ (M' : Nat → Int32) (O' : Nat × Nat), tI N M' O' → tK M0 M' → Q M' O') (a1 : Int32) (a3 : Int32) (M : Nat → Int32) (O : Nat × Nat) (hI : tI N M O) (hk : tK M0 M) : wT_X8_start_47 N Q a1 a3 M O := by
  obtain ⟨_, _, _, _, _, _, _, _, _, _, _, _, _⟩ := (show tN N from hN)
  obtain ⟨⟨_, _⟩, ⟨_, _⟩, _, ⟨_, _⟩, ⟨_, _⟩, ⟨_, _⟩, hO7⟩ := (show tI N M O from hI)
  unfold wT_X8_start_47
  have := b_le7 hO7
  have := ti_rng a1
  refine spT_X6_parametersOf hN _ (show tI N M O from hI) (fun r5 => ?_)
  refine ⟨fun hc7 => ?_, fun hc7 => ?_⟩
  · have := ti_rng r5
    have : (1 : Int32).toInt = 1 := by decide
    have hc7 := Int32.le_iff_toInt_le.mp hc7
    exact hQ _ _ (show tI N M O from hI) (show tK M0 M from hk)
  · have := ti_rng r5
    have : (1 : Int32).toInt = 1 := by decide
    have hc7 := ti_nle hc7
    have := ti_rng a3
    refine spT_X8_setNumber hN _ _ (show tI N M O from hI) (?_)
    exact hQ _ _ (show tI N M O from hI) (show tK M0 M from hk)
set_option maxHeartbeats 2000000 in
theorem spT_X8_start {N : Nat → Nat} (hN : tN N) (q1 : Int32) (q2 : Int32) (q3 : Int32) {M0 : Nat → Int32} {O : Nat × Nat} {Q : (Nat → Int32) → Nat × Nat → Prop} (hI : tI N M0 O) (hQ : ∀ (M' : Nat → Int32) (O' : Nat × Nat), tI N M' O' → tK M0 M' → Q M' O') : wT_X8_start N q1 q2 q3 M0 O Q := by
  obtain ⟨_, _, _, _, _, _, _, _, _, _, _, _, _⟩ := (show tN N from hN)
  obtain ⟨⟨_, _⟩, ⟨_, _⟩, _, ⟨_, _⟩, ⟨_, _⟩, ⟨_, _⟩, hO7⟩ := (show tI N M0 O from hI)
  have hk : tK M0 M0 := tK_rf M0
  have hQ1 := hQ
  unfold wT_X8_start
  have := b_le7 hO7
  have := ti_rng q1
  have : (0 : Int32).toInt = 0 := by decide
  refine spT_X8_begin hN _ (show tI N (um (um (um (um (um M0 53 0) 50 0) 51 0) 52 0) 54 0) O from (show (0 ≤ (M0 1).toInt ∧ (M0 1).toInt ≤ 4000) ∧ (0 ≤ (M0 22).toInt ∧ (M0 22).toInt ≤ 8000) ∧ 7 * (M0 22).toInt ≤ ((448 * 2 ^ O.2 : Nat) : Int) ∧ (0 ≤ (M0 31).toInt ∧ (M0 31).toInt ≤ 200) ∧ (0 ≤ (0 : Int32).toInt ∧ (0 : Int32).toInt ≤ 128) ∧ (0 ≤ (M0 63).toInt ∧ (M0 63).toInt ≤ (N 20 : Int)) ∧ O.2 ≤ 7 from by omega)) (fun M1 O1 hI hk1 => ?_)
  have hk := tK_tr (show tK M0 (um (um (um (um (um M0 53 0) 50 0) 51 0) 52 0) 54 0) from hk) hk1
  obtain ⟨⟨_, _⟩, ⟨_, _⟩, _, ⟨_, _⟩, ⟨_, _⟩, ⟨_, _⟩, hO7⟩ := (show tI N M1 O1 from hI)
  have := b_le7 hO7
  refine spT_X6_parametersOf hN _ (show tI N M1 O1 from hI) (fun r2 => ?_)
  refine ⟨fun hc4 => ?_, fun hc4 => ?_⟩
  · have := ti_rng r2
    have hc4 := Int32.le_iff_toInt_le.mp hc4
    have := ti_rng q3
    exact spT_X8_start_47 hN q1 q2 q3 hQ _ _ _ _ (show tI N M1 O1 from hI) (show tK M0 M1 from hk)
  · have := ti_rng r2
    have hc4 := ti_nle hc4
    have := ti_rng q2
    refine spT_X8_setNumber hN _ _ (show tI N M1 O1 from hI) (?_)
    have := ti_rng q3
    exact spT_X8_start_47 hN q1 q2 q3 hQ _ _ _ _ (show tI N M1 O1 from hI) (show tK M0 M1 from hk)
set_option maxHeartbeats 2000000 in
theorem spT_X6_get {N : Nat → Nat} (hN : tN N) (q1 : Int32) {M0 : Nat → Int32} {O : Nat × Nat} {Q : Int32 → (Nat → Int32) → Nat × Nat → Prop} (hI : tI N M0 O) (hQ : ∀ (r : Int32) , Q r M0 O) : wT_X6_get N q1 M0 O Q := by
  obtain ⟨_, _, _, _, _, _, _, _, _, _, _, _, _⟩ := (show tN N from hN)
  obtain ⟨⟨_, _⟩, ⟨_, _⟩, _, ⟨_, _⟩, ⟨_, _⟩, ⟨_, _⟩, hO7⟩ := (show tI N M0 O from hI)
  have hk : tK M0 M0 := tK_rf M0
  have hQ1 := hQ
  unfold wT_X6_get
  have := b_le7 hO7
  refine ⟨fun hc1 => ?_, fun hc1 => ?_⟩
  · have := ti_rng q1
    have : (0 : Int32).toInt = 0 := by decide
    have hc1 := Int32.lt_iff_toInt_lt.mp hc1
    exact hQ1 _
  · have := ti_rng q1
    have : (0 : Int32).toInt = 0 := by decide
    have hc1 := ti_nlt hc1
    refine ⟨fun hc2 => ?_, fun hc2 => ?_⟩
    · have := ti_rng (M0 63)
      have hc2 := Int32.le_iff_toInt_le.mp hc2
      exact hQ1 _
    · have := ti_rng (M0 63)
      have hc2 := ti_nle hc2
      refine ⟨vp_in_iff.mpr (by omega), fun z3 => ?_⟩
      exact hQ1 _
set_option maxHeartbeats 2000000 in
theorem spT_X8_fetch {N : Nat → Nat} (hN : tN N) {M0 : Nat → Int32} {O : Nat × Nat} {Q : Int32 → (Nat → Int32) → Nat × Nat → Prop} (hI : tI N M0 O) (hQ : ∀ (r : Int32) (M' : Nat → Int32) (O' : Nat × Nat), tI N M' O' → tK M0 M' → Q r M' O') : wT_X8_fetch N  M0 O Q := by
  obtain ⟨_, _, _, _, _, _, _, _, _, _, _, _, _⟩ := (show tN N from hN)
  obtain ⟨⟨_, _⟩, ⟨_, _⟩, _, ⟨_, _⟩, ⟨_, _⟩, ⟨_, _⟩, hO7⟩ := (show tI N M0 O from hI)
  have hk : tK M0 M0 := tK_rf M0
  have hQ1 := hQ
  unfold wT_X8_fetch
  have := b_le7 hO7
  have := ti_rng (M0 49)
  refine spT_X6_get hN _ (show tI N M0 O from hI) (fun r1 => ?_)
  exact hQ _ _ _ (show tI N (um M0 49 ((M0 49) + 1)) O from hI) (show tK M0 (um M0 49 ((M0 49) + 1)) from hk)
set_option maxHeartbeats 2000000 in
theorem spT_X8_countStep {N : Nat → Nat} (hN : tN N) {M0 : Nat → Int32} {O : Nat × Nat} {Q : (Nat → Int32) → Nat × Nat → Prop} (hI : tI N M0 O) (hQ : ∀ (M' : Nat → Int32) (O' : Nat × Nat), tI N M' O' → tK M0 M' → Q M' O') : wT_X8_countStep N  M0 O Q := by
  obtain ⟨_, _, _, _, _, _, _, _, _, _, _, _, _⟩ := (show tN N from hN)
  obtain ⟨⟨_, _⟩, ⟨_, _⟩, _, ⟨_, _⟩, ⟨_, _⟩, ⟨_, _⟩, hO7⟩ := (show tI N M0 O from hI)
  have hk : tK M0 M0 := tK_rf M0
  have hQ1 := hQ
  unfold wT_X8_countStep
  have := b_le7 hO7
  refine ⟨fun hc1 => ?_, fun hc1 => ?_⟩
  · have := ti_rng (M0 36)
    have := ti_rng (M0 48)
    have hc1 := Int32.lt_iff_toInt_lt.mp hc1
    exact hQ _ _ (show tI N (um M0 36 ((M0 36) + 1)) O from hI) (show tK M0 (um M0 36 ((M0 36) + 1)) from hk)
  · have := ti_rng (M0 36)
    have := ti_rng (M0 48)
    have hc1 := ti_nlt hc1
    exact hQ _ _ (show tI N (um M0 53 3) O from hI) (show tK M0 (um M0 53 3) from hk)
set_option maxHeartbeats 2000000 in
theorem spT_X8_pop {N : Nat → Nat} (hN : tN N) {M0 : Nat → Int32} {O : Nat × Nat} {Q : Int32 → (Nat → Int32) → Nat × Nat → Prop} (hI : tI N M0 O) (hQ : ∀ (r : Int32) (M' : Nat → Int32) (O' : Nat × Nat), tI N M' O' → tK M0 M' → Q r M' O') : wT_X8_pop N  M0 O Q := by
  obtain ⟨_, _, _, _, _, _, _, _, _, _, _, _, _⟩ := (show tN N from hN)
  obtain ⟨⟨_, _⟩, ⟨_, _⟩, _, ⟨_, _⟩, ⟨_, _⟩, ⟨_, _⟩, hO7⟩ := (show tI N M0 O from hI)
  have hk : tK M0 M0 := tK_rf M0
  have hQ1 := hQ
  unfold wT_X8_pop
  have := b_le7 hO7
  refine ⟨fun hc1 => ?_, fun hc1 => ?_⟩
  · have := ti_rng (M0 52)
    have : (0 : Int32).toInt = 0 := by decide
    have hc1 := Int32.le_iff_toInt_le.mp hc1
    exact hQ _ _ _ (show tI N M0 O from hI) (show tK M0 M0 from hk)
  · have := ti_rng (M0 52)
    have : (0 : Int32).toInt = 0 := by decide
    have hc1 := ti_nle hc1
    refine ⟨fun hc2 => ?_, fun hc2 => ?_⟩
    · have := nI_toInt (n := (N 19)) (by omega)
      have hc2 := Int32.le_iff_toInt_le.mp hc2
      have : (1 : Int32).toInt = 1 := by decide
      first | have := ti_subx (M0 52) 1 (by omega) | obtain ⟨_, _, _, _⟩ := ti_sub (M0 52) 1
      refine ⟨vp_in_iff.mpr (by omega), fun z3 => ?_⟩
      exact hQ _ _ _ (show tI N (um M0 52 ((M0 52) - 1)) O from (show (0 ≤ (M0 1).toInt ∧ (M0 1).toInt ≤ 4000) ∧ (0 ≤ (M0 22).toInt ∧ (M0 22).toInt ≤ 8000) ∧ 7 * (M0 22).toInt ≤ ((448 * 2 ^ O.2 : Nat) : Int) ∧ (0 ≤ (M0 31).toInt ∧ (M0 31).toInt ≤ 200) ∧ (0 ≤ ((M0 52) - 1).toInt ∧ ((M0 52) - 1).toInt ≤ 128) ∧ (0 ≤ (M0 63).toInt ∧ (M0 63).toInt ≤ (N 20 : Int)) ∧ O.2 ≤ 7 from by omega)) (show tK M0 (um M0 52 ((M0 52) - 1)) from hk)
    · have := nI_toInt (n := (N 19)) (by omega)
      have hc2 := ti_nle hc2
      exact hQ _ _ _ (show tI N M0 O from hI) (show tK M0 M0 from hk)
set_option maxHeartbeats 2000000 in
theorem spT_X5_putNote {N : Nat → Nat} (hN : tN N) (q1 : Int32) {M0 : Nat → Int32} {O : Nat × Nat} {Q : Int32 → (Nat → Int32) → Nat × Nat → Prop} (hI : tI N M0 O) (hQ : ∀ (r : Int32) (M' : Nat → Int32) (O' : Nat × Nat), tI N M' O' → tK M0 M' → Q r M' O') : wT_X5_putNote N q1 M0 O Q := by
  obtain ⟨_, _, _, _, _, _, _, _, _, _, _, _, _⟩ := (show tN N from hN)
  obtain ⟨⟨_, _⟩, ⟨_, _⟩, _, ⟨_, _⟩, ⟨_, _⟩, ⟨_, _⟩, hO7⟩ := (show tI N M0 O from hI)
  have hk : tK M0 M0 := tK_rf M0
  have hQ1 := hQ
  unfold wT_X5_putNote
  have := b_le7 hO7
  refine ⟨fun hc1 => ?_, fun hc1 => ?_⟩
  · have := ti_rng (M0 31)
    have := nI_toInt (n := (N 14)) (by omega)
    have hc1 := Int32.lt_iff_toInt_lt.mp hc1
    refine ⟨vp_in_iff.mpr (by omega), ?_⟩
    have : (1 : Int32).toInt = 1 := by decide
    first | have := ti_addx (M0 31) 1 (by omega) | obtain ⟨_, _, _, _⟩ := ti_add (M0 31) 1
    exact hQ _ _ _ (show tI N (um M0 31 ((M0 31) + 1)) O from (show (0 ≤ (M0 1).toInt ∧ (M0 1).toInt ≤ 4000) ∧ (0 ≤ (M0 22).toInt ∧ (M0 22).toInt ≤ 8000) ∧ 7 * (M0 22).toInt ≤ ((448 * 2 ^ O.2 : Nat) : Int) ∧ (0 ≤ ((M0 31) + 1).toInt ∧ ((M0 31) + 1).toInt ≤ 200) ∧ (0 ≤ (M0 52).toInt ∧ (M0 52).toInt ≤ 128) ∧ (0 ≤ (M0 63).toInt ∧ (M0 63).toInt ≤ (N 20 : Int)) ∧ O.2 ≤ 7 from by omega)) (show tK M0 (um M0 31 ((M0 31) + 1)) from hk)
  · have := ti_rng (M0 31)
    have := nI_toInt (n := (N 14)) (by omega)
    have hc1 := ti_nlt hc1
    exact hQ _ _ _ (show tI N M0 O from hI) (show tK M0 M0 from hk)
set_option maxHeartbeats 2000000 in
theorem spT_X8_putNote {N : Nat → Nat} (hN : tN N) (q1 : Int32) {M0 : Nat → Int32} {O : Nat × Nat} {Q : (Nat → Int32) → Nat × Nat → Prop} (hI : tI N M0 O) (hQ : ∀ (M' : Nat → Int32) (O' : Nat × Nat), tI N M' O' → tK M0 M' → Q M' O') : wT_X8_putNote N q1 M0 O Q := by
  obtain ⟨_, _, _, _, _, _, _, _, _, _, _, _, _⟩ := (show tN N from hN)
  obtain ⟨⟨_, _⟩, ⟨_, _⟩, _, ⟨_, _⟩, ⟨_, _⟩, ⟨_, _⟩, hO7⟩ := (show tI N M0 O from hI)
  have hk : tK M0 M0 := tK_rf M0
  have hQ1 := hQ
  unfold wT_X8_putNote
  have := b_le7 hO7
  have := ti_rng q1
  refine spT_X5_putNote hN _ (show tI N M0 O from hI) (fun r1 M2 O2 hI hk1 => ?_)
  have hk := tK_tr (show tK M0 M0 from hk) hk1
  obtain ⟨⟨_, _⟩, ⟨_, _⟩, _, ⟨_, _⟩, ⟨_, _⟩, ⟨_, _⟩, hO7⟩ := (show tI N M2 O2 from hI)
  have := b_le7 hO7
  refine ⟨fun hc3 => ?_, fun hc3 => ?_⟩
  · have := ti_rng r1
    have : (0 : Int32).toInt = 0 := by decide
    have hc39 := ti_ne hc3
    exact hQ _ _ (show tI N M2 O2 from hI) (show tK M0 M2 from hk)
  · have := ti_rng r1
    have : (0 : Int32).toInt = 0 := by decide
    have hc39 := congrArg Int32.toInt hc3
    exact hQ _ _ (show tI N (um M2 53 3) O2 from hI) (show tK M0 (um M2 53 3) from hk)
set_option maxHeartbeats 2000000 in
theorem spT_X8_hear_34 {N : Nat → Nat} (hN : tN N) {Q : (Nat → Int32) → Nat × Nat → Prop} {M0 : Nat → Int32} (hQ : ∀ (M' : Nat → Int32) (O' : Nat × Nat), tI N M' O' → tK M0 M' → Q M' O') : ∀ (n34 : Nat) (a3 : Int32) (M : Nat → Int32) (O : Nat × Nat), tI N M O → tK M0 M → (0 ≤ a3.toInt + 2147483648) → (a3.toInt + 2147483648) + 1 ≤ (n34 : Int) → wT_X8_hear_34 N Q n34 a3 M O := by
  obtain ⟨_, _, _, _, _, _, _, _, _, _, _, _, _⟩ := (show tN N from hN)
  intro n34
  induction n34 with
  | zero => intro a3 M O hI hk hv hn; exact absurd hn (by omega)
  | succ n34 ih =>
    intro a3 M O hI hk hv hn
    obtain ⟨⟨_, _⟩, ⟨_, _⟩, _, ⟨_, _⟩, ⟨_, _⟩, ⟨_, _⟩, hO7⟩ := (show tI N M O from hI)
    dsimp only [wT_X8_hear_34]
    have := b_le7 hO7
    refine ⟨fun hc7 => ?_, fun hc7 => ?_⟩
    · have := ti_rng a3
      have : (0 : Int32).toInt = 0 := by decide
      have hc7 := Int32.lt_iff_toInt_lt.mp hc7
      exact hQ _ _ (show tI N M O from hI) (show tK M0 M from hk)
    · have := ti_rng a3
      have : (0 : Int32).toInt = 0 := by decide
      have hc7 := ti_nlt hc7
      refine spT_X8_pop hN  (show tI N M O from hI) (fun r8 M9 O9 hI hk1 => ?_)
      have hk := tK_tr (show tK M0 M from hk) hk1
      obtain ⟨⟨_, _⟩, ⟨_, _⟩, _, ⟨_, _⟩, ⟨_, _⟩, ⟨_, _⟩, hO7⟩ := (show tI N M9 O9 from hI)
      have := b_le7 hO7
      have := ti_rng r8
      refine spT_X8_setNumber hN _ _ (show tI N M9 O9 from hI) (?_)
      obtain ⟨x11, hx11⟩ : ∃ y, y = (a3 + (-1)) := ⟨_, rfl⟩
      have : x11.toInt = a3.toInt - 1 := by rw [hx11]; exact ti_dec a3 (by omega)
      rw [← hx11]
      exact ih _ _ _ (show tI N M9 O9 from hI) (show tK M0 M9 from hk) (show 0 ≤ x11.toInt + 2147483648 from by omega) (show (x11.toInt + 2147483648) + 1 ≤ _ from by omega)
set_option maxHeartbeats 2000000 in
theorem spT_X8_hear {N : Nat → Nat} (hN : tN N) {M0 : Nat → Int32} {O : Nat × Nat} {Q : (Nat → Int32) → Nat × Nat → Prop} (hI : tI N M0 O) (hQ : ∀ (M' : Nat → Int32) (O' : Nat × Nat), tI N M' O' → tK M0 M' → Q M' O') : wT_X8_hear N  M0 O Q := by
  obtain ⟨_, _, _, _, _, _, _, _, _, _, _, _, _⟩ := (show tN N from hN)
  obtain ⟨⟨_, _⟩, ⟨_, _⟩, _, ⟨_, _⟩, ⟨_, _⟩, ⟨_, _⟩, hO7⟩ := (show tI N M0 O from hI)
  have hk : tK M0 M0 := tK_rf M0
  have hQ1 := hQ
  unfold wT_X8_hear
  have := b_le7 hO7
  refine spT_X8_fetch hN  (show tI N M0 O from hI) (fun r1 M2 O2 hI hk1 => ?_)
  have hk := tK_tr (show tK M0 M0 from hk) hk1
  obtain ⟨⟨_, _⟩, ⟨_, _⟩, _, ⟨_, _⟩, ⟨_, _⟩, ⟨_, _⟩, hO7⟩ := (show tI N M2 O2 from hI)
  have := b_le7 hO7
  refine spT_X8_fetch hN  (show tI N M2 O2 from hI) (fun r3 M4 O4 hI hk1 => ?_)
  have hk := tK_tr (show tK M0 M2 from hk) hk1
  obtain ⟨⟨_, _⟩, ⟨_, _⟩, _, ⟨_, _⟩, ⟨_, _⟩, ⟨_, _⟩, hO7⟩ := (show tI N M4 O4 from hI)
  have := b_le7 hO7
  refine ⟨fun hc5 => ?_, fun hc5 => ?_⟩
  · have := ti_rng (M4 50)
    have : (12 : Int32).toInt = 12 := by decide
    have hc5 := Int32.lt_iff_toInt_lt.mp hc5
    have := ti_rng r1
    refine spT_X8_begin hN _ (show tI N M4 O4 from hI) (fun M6 O6 hI hk1 => ?_)
    have hk := tK_tr (show tK M0 M4 from hk) hk1
    obtain ⟨⟨_, _⟩, ⟨_, _⟩, _, ⟨_, _⟩, ⟨_, _⟩, ⟨_, _⟩, hO7⟩ := (show tI N M6 O6 from hI)
    have := b_le7 hO7
    have := ti_rng r3
    have : (1 : Int32).toInt = 1 := by decide
    first | have := ti_subx r3 1 (by omega) | obtain ⟨_, _, _, _⟩ := ti_sub r3 1
    exact ⟨(((r3 - 1).toInt + 2147483648) + 1).toNat, spT_X8_hear_34 hN hQ _ _ _ _ (show tI N M6 O6 from hI) (show tK M0 M6 from hk) (show 0 ≤ (r3 - 1).toInt + 2147483648 from by omega) (show ((r3 - 1).toInt + 2147483648) + 1 ≤ _ from by omega)⟩
  · have := ti_rng (M4 50)
    have : (12 : Int32).toInt = 12 := by decide
    have hc5 := ti_nlt hc5
    exact hQ _ _ (show tI N (um M4 53 3) O4 from hI) (show tK M0 (um M4 53 3) from hk)
set_option maxHeartbeats 2000000 in
theorem spT_X8_tryField {N : Nat → Nat} (hN : tN N) (q1 : Int32) (q2 : Int32) {M0 : Nat → Int32} {O : Nat × Nat} {Q : Int32 → (Nat → Int32) → Nat × Nat → Prop} (hI : tI N M0 O) (hQ : ∀ (r : Int32) , Q r M0 O) : wT_X8_tryField N q1 q2 M0 O Q := by
  obtain ⟨_, _, _, _, _, _, _, _, _, _, _, _, _⟩ := (show tN N from hN)
  obtain ⟨⟨_, _⟩, ⟨_, _⟩, _, ⟨_, _⟩, ⟨_, _⟩, ⟨_, _⟩, hO7⟩ := (show tI N M0 O from hI)
  have hk : tK M0 M0 := tK_rf M0
  have hQ1 := hQ
  unfold wT_X8_tryField
  have := b_le7 hO7
  refine ⟨fun hc1 => ?_, fun hc1 => ?_⟩
  · have := ti_rng q1
    have : (5 : Int32).toInt = 5 := by decide
    first | have := ti_mulx q1 5 5 (by decide) (by omega) | obtain ⟨_, _, _, _⟩ := ti_mulc q1 5 5 (by decide)
    have := ti_rng q2
    first | have := ti_addx (q1 * 5) q2 (by omega) | obtain ⟨_, _, _, _⟩ := ti_add (q1 * 5) q2
    have : (0 : Int32).toInt = 0 := by decide
    have hc1 := Int32.lt_iff_toInt_lt.mp hc1
    exact hQ1 _
  · have := ti_rng q1
    have : (5 : Int32).toInt = 5 := by decide
    first | have := ti_mulx q1 5 5 (by decide) (by omega) | obtain ⟨_, _, _, _⟩ := ti_mulc q1 5 5 (by decide)
    have := ti_rng q2
    first | have := ti_addx (q1 * 5) q2 (by omega) | obtain ⟨_, _, _, _⟩ := ti_add (q1 * 5) q2
    have : (0 : Int32).toInt = 0 := by decide
    have hc1 := ti_nlt hc1
    refine ⟨fun hc2 => ?_, fun hc2 => ?_⟩
    · have := nI_toInt (n := (N 18)) (by omega)
      have hc2 := Int32.le_iff_toInt_le.mp hc2
      exact hQ1 _
    · have := nI_toInt (n := (N 18)) (by omega)
      have hc2 := ti_nle hc2
      refine ⟨vp_in_iff.mpr (by omega), fun z3 => ?_⟩
      exact hQ1 _
set_option maxHeartbeats 2000000 in
theorem spT_X8_setTryField {N : Nat → Nat} (hN : tN N) (q1 : Int32) (q2 : Int32) (q3 : Int32) {M0 : Nat → Int32} {O : Nat × Nat} {Q : (Nat → Int32) → Nat × Nat → Prop} (hI : tI N M0 O) (hQ : Q M0 O) : wT_X8_setTryField N q1 q2 q3 M0 O Q := by
  obtain ⟨_, _, _, _, _, _, _, _, _, _, _, _, _⟩ := (show tN N from hN)
  obtain ⟨⟨_, _⟩, ⟨_, _⟩, _, ⟨_, _⟩, ⟨_, _⟩, ⟨_, _⟩, hO7⟩ := (show tI N M0 O from hI)
  have hk : tK M0 M0 := tK_rf M0
  have hQ1 := hQ
  unfold wT_X8_setTryField
  have := b_le7 hO7
  refine ⟨fun hc1 => ?_, fun hc1 => ?_⟩
  · have := ti_rng q1
    have : (5 : Int32).toInt = 5 := by decide
    first | have := ti_mulx q1 5 5 (by decide) (by omega) | obtain ⟨_, _, _, _⟩ := ti_mulc q1 5 5 (by decide)
    have := ti_rng q2
    first | have := ti_addx (q1 * 5) q2 (by omega) | obtain ⟨_, _, _, _⟩ := ti_add (q1 * 5) q2
    have : (0 : Int32).toInt = 0 := by decide
    have hc1 := Int32.lt_iff_toInt_lt.mp hc1
    exact hQ1
  · have := ti_rng q1
    have : (5 : Int32).toInt = 5 := by decide
    first | have := ti_mulx q1 5 5 (by decide) (by omega) | obtain ⟨_, _, _, _⟩ := ti_mulc q1 5 5 (by decide)
    have := ti_rng q2
    first | have := ti_addx (q1 * 5) q2 (by omega) | obtain ⟨_, _, _, _⟩ := ti_add (q1 * 5) q2
    have : (0 : Int32).toInt = 0 := by decide
    have hc1 := ti_nlt hc1
    refine ⟨fun hc2 => ?_, fun hc2 => ?_⟩
    · have := nI_toInt (n := (N 18)) (by omega)
      have hc2 := Int32.le_iff_toInt_le.mp hc2
      exact hQ1
    · have := nI_toInt (n := (N 18)) (by omega)
      have hc2 := ti_nle hc2
      refine ⟨vp_in_iff.mpr (by omega), ?_⟩
      exact hQ1

