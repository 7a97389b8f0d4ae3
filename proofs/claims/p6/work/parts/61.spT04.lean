set_option maxHeartbeats 2000000 in
theorem spT_X8_tellOf_45 {N : Nat → Nat} (hN : tN N) (q1 : Int32) (q2 : Int32) {Q : (Nat → Int32) → Nat × Nat → Prop} {M0 : Nat → Int32} (hQ : ∀ (M' : Nat → Int32) (O' : Nat × Nat), tI N M' O' → tK M0 M' → Q M' O') (a2 : Int32) (a3 : Int32) (M : Nat → Int32) (O : Nat × Nat) (hI : tI N M O) (hk : tK M0 M) : wT_X8_tellOf_45 N Q a2 a3 M O := by
  obtain ⟨_, _, _, _, _, _, _, _, _, _, _, _, _⟩ := (show tN N from hN)
  obtain ⟨⟨_, _⟩, ⟨_, _⟩, _, ⟨_, _⟩, ⟨_, _⟩, ⟨_, _⟩, hO7⟩ := (show tI N M O from hI)
  unfold wT_X8_tellOf_45
  have := b_le7 hO7
  have := ti_rng a3
  have := ti_rng a2
  refine spT_X2_tell hN _ _ (show tI N M O from hI) (fun r5 => ?_)
  have := ti_rng r5
  refine spT_X8_push hN _ (show tI N M O from hI) (fun M7 O7 hI hk1 => ?_)
  have hk := tK_tr (show tK M0 M from hk) hk1
  obtain ⟨⟨_, _⟩, ⟨_, _⟩, _, ⟨_, _⟩, ⟨_, _⟩, ⟨_, _⟩, hO7⟩ := (show tI N M7 O7 from hI)
  have := b_le7 hO7
  exact hQ _ _ (show tI N M7 O7 from hI) (show tK M0 M7 from hk)
set_option maxHeartbeats 2000000 in
theorem spT_X8_tellOf {N : Nat → Nat} (hN : tN N) (q1 : Int32) (q2 : Int32) {M0 : Nat → Int32} {O : Nat × Nat} {Q : (Nat → Int32) → Nat × Nat → Prop} (hI : tI N M0 O) (hQ : ∀ (M' : Nat → Int32) (O' : Nat × Nat), tI N M' O' → tK M0 M' → Q M' O') : wT_X8_tellOf N q1 q2 M0 O Q := by
  obtain ⟨_, _, _, _, _, _, _, _, _, _, _, _, _⟩ := (show tN N from hN)
  obtain ⟨⟨_, _⟩, ⟨_, _⟩, _, ⟨_, _⟩, ⟨_, _⟩, ⟨_, _⟩, hO7⟩ := (show tI N M0 O from hI)
  have hk : tK M0 M0 := tK_rf M0
  have hQ1 := hQ
  unfold wT_X8_tellOf
  have := b_le7 hO7
  have := ti_rng q1
  refine spT_X8_objectAt hN _ (show tI N M0 O from hI) (fun r1 => ?_)
  refine ⟨fun hc3 => ?_, fun hc3 => ?_⟩
  · have := ti_rng r1
    have : (0 : Int32).toInt = 0 := by decide
    have hc39 := ti_ne hc3
    refine ⟨fun hc4 => ?_, fun hc4 => ?_⟩
    · have := ti_rng q2
      have : (2 : Int32).toInt = 2 := by decide
      have hc49 := ti_ne hc4
      exact spT_X8_tellOf_45 hN q1 q2 hQ _ _ _ _ (show tI N M0 O from hI) (show tK M0 M0 from hk)
    · have := ti_rng q2
      have : (2 : Int32).toInt = 2 := by decide
      have hc49 := congrArg Int32.toInt hc4
      refine spT_X2_kindOf hN _ (show tI N M0 O from hI) (fun r8 => ?_)
      refine ⟨fun hc10 => ?_, fun hc10 => ?_⟩
      · have := ti_rng r8
        have hc109 := congrArg Int32.toInt hc10
        exact spT_X8_tellOf_45 hN q1 q2 hQ _ _ _ _ (show tI N M0 O from hI) (show tK M0 M0 from hk)
      · have := ti_rng r8
        have hc109 := ti_ne hc10
        have : (1 : Int32).toInt = 1 := by decide
        refine spT_X8_raiseNew hN _ _ (show tI N M0 O from hI) (fun M11 O11 hI hk1 => ?_)
        have hk := tK_tr (show tK M0 M0 from hk) hk1
        obtain ⟨⟨_, _⟩, ⟨_, _⟩, _, ⟨_, _⟩, ⟨_, _⟩, ⟨_, _⟩, hO7⟩ := (show tI N M11 O11 from hI)
        have := b_le7 hO7
        exact hQ _ _ (show tI N M11 O11 from hI) (show tK M0 M11 from hk)
  · have := ti_rng r1
    have : (0 : Int32).toInt = 0 := by decide
    have hc39 := congrArg Int32.toInt hc3
    have : (3 : Int32).toInt = 3 := by decide
    have : (1 : Int32).toInt = 1 := by decide
    refine spT_X8_raiseNew hN _ _ (show tI N M0 O from hI) (fun M12 O12 hI hk1 => ?_)
    have hk := tK_tr (show tK M0 M0 from hk) hk1
    obtain ⟨⟨_, _⟩, ⟨_, _⟩, _, ⟨_, _⟩, ⟨_, _⟩, ⟨_, _⟩, hO7⟩ := (show tI N M12 O12 from hI)
    have := b_le7 hO7
    exact hQ _ _ (show tI N M12 O12 from hI) (show tK M0 M12 from hk)
set_option maxHeartbeats 2000000 in
theorem spT_X3_is_4 {N : Nat → Nat} (hN : tN N) (q0 : Int32) (q1 : Int32) {Q : Int32 → (Nat → Int32) → Nat × Nat → Prop} {M0 : Nat → Int32} {O0 : Nat × Nat} (hQ : ∀ (r : Int32) , Q r M0 O0) : ∀ (n4 : Nat) (a1 : Int32) (a2 : Int32) (a3 : Int32) (M : Nat → Int32) (O : Nat × Nat), tI N M O → (M0 = M ∧ O0 = O) → (0 ≤ a3.toInt ∧ a3.toInt ≤ 7) → (7 - a3.toInt) + 1 ≤ (n4 : Int) → wT_X3_is_4 N Q n4 a1 a2 a3 M O := by
  obtain ⟨_, _, _, _, _, _, _, _, _, _, _, _, _⟩ := (show tN N from hN)
  intro n4
  induction n4 with
  | zero => intro a1 a2 a3 M O hI hk hv hn; exact absurd hn (by omega)
  | succ n4 ih =>
    intro a1 a2 a3 M O hI hk hv hn
    obtain ⟨⟨_, _⟩, ⟨_, _⟩, _, ⟨_, _⟩, ⟨_, _⟩, ⟨_, _⟩, hO7⟩ := (show tI N M O from hI)
    dsimp only [wT_X3_is_4]
    obtain ⟨e1, e2⟩ := hk
    have hQ1 := hQ
    rw [e1, e2] at hQ1
    have := b_le7 hO7
    refine ⟨fun hc1 => ?_, fun hc1 => ?_⟩
    · have : (7 : Int32).toInt = 7 := by decide
      have := ti_rng a3
      have hc1 := Int32.le_iff_toInt_le.mp hc1
      exact hQ1 _
    · have : (7 : Int32).toInt = 7 := by decide
      have := ti_rng a3
      have hc1 := ti_nle hc1
      refine ⟨fun hc2 => ?_, fun hc2 => ?_⟩
      · have := ti_rng a2
        have : ((-1) : Int32).toInt = -1 := by decide
        have hc29 := congrArg Int32.toInt hc2
        exact hQ1 _
      · have := ti_rng a2
        have : ((-1) : Int32).toInt = -1 := by decide
        have hc29 := ti_ne hc2
        refine ⟨fun hc3 => ?_, fun hc3 => ?_⟩
        · have := ti_rng a1
          have hc39 := ti_ne hc3
          refine spT_X3_oneOf hN _ (show tI N M O from hI) (fun r4 => ?_)
          have := ti_rng r4
          have : (1 : Int32).toInt = 1 := by decide
          first | have := ti_addx a3 1 (by omega) | obtain ⟨_, _, _, _⟩ := ti_add a3 1
          exact ih _ _ _ _ _ (show tI N M O from hI) ⟨e1, e2⟩ (show 0 ≤ (a3 + 1).toInt ∧ (a3 + 1).toInt ≤ 7 from by omega) (show (7 - (a3 + 1).toInt) + 1 ≤ _ from by omega)
        · have := ti_rng a1
          have hc39 := congrArg Int32.toInt hc3
          exact hQ1 _
set_option maxHeartbeats 2000000 in
theorem spT_X3_is {N : Nat → Nat} (hN : tN N) (q0 : Int32) (q1 : Int32) {M0 : Nat → Int32} {O : Nat × Nat} {Q : Int32 → (Nat → Int32) → Nat × Nat → Prop} (hI : tI N M0 O) (hQ : ∀ (r : Int32) , Q r M0 O) : wT_X3_is N q0 q1 M0 O Q := by
  obtain ⟨_, _, _, _, _, _, _, _, _, _, _, _, _⟩ := (show tN N from hN)
  obtain ⟨⟨_, _⟩, ⟨_, _⟩, _, ⟨_, _⟩, ⟨_, _⟩, ⟨_, _⟩, hO7⟩ := (show tI N M0 O from hI)
  have hk : tK M0 M0 := tK_rf M0
  have hQ1 := hQ
  unfold wT_X3_is
  have := b_le7 hO7
  have := ti_rng q1
  have := ti_rng q0
  have : (0 : Int32).toInt = 0 := by decide
  exact ⟨((7 - (0 : Int32).toInt) + 1).toNat, spT_X3_is_4 hN q0 q1 hQ _ _ _ _ _ _ (show tI N M0 O from hI) ⟨rfl, rfl⟩ (show 0 ≤ (0 : Int32).toInt ∧ (0 : Int32).toInt ≤ 7 from by omega) (show (7 - (0 : Int32).toInt) + 1 ≤ _ from by omega)⟩
set_option maxHeartbeats 2000000 in
theorem spT_X8_pushIs_25 {N : Nat → Nat} (hN : tN N) (q1 : Int32) (q2 : Int32) {Q : (Nat → Int32) → Nat × Nat → Prop} {M0 : Nat → Int32} (hQ : ∀ (M' : Nat → Int32) (O' : Nat × Nat), tI N M' O' → tK M0 M' → Q M' O') (t1 : Int32) (M : Nat → Int32) (O : Nat × Nat) (hI : tI N M O) (hk : tK M0 M) : wT_X8_pushIs_25 N Q t1 M O := by
  obtain ⟨_, _, _, _, _, _, _, _, _, _, _, _, _⟩ := (show tN N from hN)
  obtain ⟨⟨_, _⟩, ⟨_, _⟩, _, ⟨_, _⟩, ⟨_, _⟩, ⟨_, _⟩, hO7⟩ := (show tI N M O from hI)
  unfold wT_X8_pushIs_25
  have := b_le7 hO7
  have := ti_rng t1
  refine spT_X8_push hN _ (show tI N M O from hI) (fun M2 O2 hI hk1 => ?_)
  have hk := tK_tr (show tK M0 M from hk) hk1
  obtain ⟨⟨_, _⟩, ⟨_, _⟩, _, ⟨_, _⟩, ⟨_, _⟩, ⟨_, _⟩, hO7⟩ := (show tI N M2 O2 from hI)
  have := b_le7 hO7
  exact hQ _ _ (show tI N M2 O2 from hI) (show tK M0 M2 from hk)
set_option maxHeartbeats 2000000 in
theorem spT_X8_pushIs_24 {N : Nat → Nat} (hN : tN N) (q1 : Int32) (q2 : Int32) {Q : (Nat → Int32) → Nat × Nat → Prop} {M0 : Nat → Int32} (hQ : ∀ (M' : Nat → Int32) (O' : Nat × Nat), tI N M' O' → tK M0 M' → Q M' O') (M : Nat → Int32) (O : Nat × Nat) (hI : tI N M O) (hk : tK M0 M) : wT_X8_pushIs_24 N Q M O := by
  obtain ⟨_, _, _, _, _, _, _, _, _, _, _, _, _⟩ := (show tN N from hN)
  obtain ⟨⟨_, _⟩, ⟨_, _⟩, _, ⟨_, _⟩, ⟨_, _⟩, ⟨_, _⟩, hO7⟩ := (show tI N M O from hI)
  unfold wT_X8_pushIs_24
  have := b_le7 hO7
  have : (0 : Int32).toInt = 0 := by decide
  exact spT_X8_pushIs_25 hN q1 q2 hQ _ _ _ (show tI N M O from hI) (show tK M0 M from hk)
set_option maxHeartbeats 2000000 in
theorem spT_X8_pushIs {N : Nat → Nat} (hN : tN N) (q1 : Int32) (q2 : Int32) {M0 : Nat → Int32} {O : Nat × Nat} {Q : (Nat → Int32) → Nat × Nat → Prop} (hI : tI N M0 O) (hQ : ∀ (M' : Nat → Int32) (O' : Nat × Nat), tI N M' O' → tK M0 M' → Q M' O') : wT_X8_pushIs N q1 q2 M0 O Q := by
  obtain ⟨_, _, _, _, _, _, _, _, _, _, _, _, _⟩ := (show tN N from hN)
  obtain ⟨⟨_, _⟩, ⟨_, _⟩, _, ⟨_, _⟩, ⟨_, _⟩, ⟨_, _⟩, hO7⟩ := (show tI N M0 O from hI)
  have hk : tK M0 M0 := tK_rf M0
  have hQ1 := hQ
  unfold wT_X8_pushIs
  have := b_le7 hO7
  refine ⟨fun hc1 => ?_, fun hc1 => ?_⟩
  · have := ti_rng q1
    have : (0 : Int32).toInt = 0 := by decide
    have hc19 := congrArg Int32.toInt hc1
    exact spT_X8_pushIs_24 hN q1 q2 hQ _ _ (show tI N M0 O from hI) (show tK M0 M0 from hk)
  · have := ti_rng q1
    have : (0 : Int32).toInt = 0 := by decide
    have hc19 := ti_ne hc1
    refine spT_X2_kindOf hN _ (show tI N M0 O from hI) (fun r3 => ?_)
    have := ti_rng r3
    have := ti_rng q2
    refine spT_X3_is hN _ _ (show tI N M0 O from hI) (fun r5 => ?_)
    refine ⟨fun hc7 => ?_, fun hc7 => ?_⟩
    · have := ti_rng r5
      have hc79 := congrArg Int32.toInt hc7
      exact spT_X8_pushIs_24 hN q1 q2 hQ _ _ (show tI N M0 O from hI) (show tK M0 M0 from hk)
    · have := ti_rng r5
      have hc79 := ti_ne hc7
      have : (1 : Int32).toInt = 1 := by decide
      exact spT_X8_pushIs_25 hN q1 q2 hQ _ _ _ (show tI N M0 O from hI) (show tK M0 M0 from hk)
set_option maxHeartbeats 2000000 in
theorem spT_X2_causeOf {N : Nat → Nat} (hN : tN N) (q1 : Int32) {M0 : Nat → Int32} {O : Nat × Nat} {Q : Int32 → (Nat → Int32) → Nat × Nat → Prop} (hI : tI N M0 O) (hQ : ∀ (r : Int32) , Q r M0 O) : wT_X2_causeOf N q1 M0 O Q := by
  obtain ⟨_, _, _, _, _, _, _, _, _, _, _, _, _⟩ := (show tN N from hN)
  obtain ⟨⟨_, _⟩, ⟨_, _⟩, _, ⟨_, _⟩, ⟨_, _⟩, ⟨_, _⟩, hO7⟩ := (show tI N M0 O from hI)
  have hk : tK M0 M0 := tK_rf M0
  have hQ1 := hQ
  unfold wT_X2_causeOf
  have := b_le7 hO7
  have := ti_rng q1
  have : (6 : Int32).toInt = 6 := by decide
  refine spT_X2_get hN _ _ (show tI N M0 O from hI) (fun r1 => ?_)
  exact hQ1 _
set_option maxHeartbeats 2000000 in
theorem spT_X8_holdCause {N : Nat → Nat} (hN : tN N) (q1 : Int32) (q2 : Int32) {M0 : Nat → Int32} {O : Nat × Nat} {Q : (Nat → Int32) → Nat × Nat → Prop} (hI : tI N M0 O) (hQ : ∀ (M' : Nat → Int32) (O' : Nat × Nat), tI N M' O' → tK M0 M' → Q M' O') : wT_X8_holdCause N q1 q2 M0 O Q := by
  obtain ⟨_, _, _, _, _, _, _, _, _, _, _, _, _⟩ := (show tN N from hN)
  obtain ⟨⟨_, _⟩, ⟨_, _⟩, _, ⟨_, _⟩, ⟨_, _⟩, ⟨_, _⟩, hO7⟩ := (show tI N M0 O from hI)
  have hk : tK M0 M0 := tK_rf M0
  have hQ1 := hQ
  unfold wT_X8_holdCause
  have := b_le7 hO7
  refine ⟨fun hc1 => ?_, fun hc1 => ?_⟩
  · have := ti_rng q2
    have : (0 : Int32).toInt = 0 := by decide
    have hc19 := ti_ne hc1
    refine spT_X2_causeOf hN _ (show tI N M0 O from hI) (fun r2 => ?_)
    have := ti_rng q1
    have := ti_rng r2
    refine spT_X8_setObject hN _ _ (show tI N M0 O from hI) (?_)
    exact hQ _ _ (show tI N M0 O from hI) (show tK M0 M0 from hk)
  · have := ti_rng q2
    have : (0 : Int32).toInt = 0 := by decide
    have hc19 := congrArg Int32.toInt hc1
    have : (3 : Int32).toInt = 3 := by decide
    have : (1 : Int32).toInt = 1 := by decide
    refine spT_X8_raiseNew hN _ _ (show tI N M0 O from hI) (fun M5 O5 hI hk1 => ?_)
    have hk := tK_tr (show tK M0 M0 from hk) hk1
    obtain ⟨⟨_, _⟩, ⟨_, _⟩, _, ⟨_, _⟩, ⟨_, _⟩, ⟨_, _⟩, hO7⟩ := (show tI N M5 O5 from hI)
    have := b_le7 hO7
    exact hQ _ _ (show tI N M5 O5 from hI) (show tK M0 M5 from hk)
set_option maxHeartbeats 2000000 in
theorem spT_X2_exists {N : Nat → Nat} (hN : tN N) (q1 : Int32) {M0 : Nat → Int32} {O : Nat × Nat} {Q : Int32 → (Nat → Int32) → Nat × Nat → Prop} (hI : tI N M0 O) (hQ : ∀ (r : Int32) , (¬ r = 0 → 1 ≤ q1.toInt ∧ q1.toInt ≤ (M0 22).toInt) → Q r M0 O) : wT_X2_exists N q1 M0 O Q := by
  obtain ⟨_, _, _, _, _, _, _, _, _, _, _, _, _⟩ := (show tN N from hN)
  obtain ⟨⟨_, _⟩, ⟨_, _⟩, _, ⟨_, _⟩, ⟨_, _⟩, ⟨_, _⟩, hO7⟩ := (show tI N M0 O from hI)
  have hk : tK M0 M0 := tK_rf M0
  have hQ1 := hQ
  unfold wT_X2_exists
  have := b_le7 hO7
  refine ⟨fun hc1 => ?_, fun hc1 => ?_⟩
  · have := ti_rng q1
    have : (1 : Int32).toInt = 1 := by decide
    have hc1 := Int32.lt_iff_toInt_lt.mp hc1
    have : (0 : Int32).toInt = 0 := by decide
    exact hQ1 _ (fun h9 => by first | exact absurd rfl h9 | omega)
  · have := ti_rng q1
    have : (1 : Int32).toInt = 1 := by decide
    have hc1 := ti_nlt hc1
    refine ⟨fun hc2 => ?_, fun hc2 => ?_⟩
    · have := ti_rng (M0 22)
      have hc2 := Int32.lt_iff_toInt_lt.mp hc2
      have : (0 : Int32).toInt = 0 := by decide
      exact hQ1 _ (fun h9 => by first | exact absurd rfl h9 | omega)
    · have := ti_rng (M0 22)
      have hc2 := ti_nlt hc2
      exact hQ1 _ (fun h9 => by first | exact absurd rfl h9 | omega)
set_option maxHeartbeats 2000000 in
theorem spT_X2_settle {N : Nat → Nat} (hN : tN N) (q1 : Int32) (q2 : Int32) {M0 : Nat → Int32} {O : Nat × Nat} {Q : (Nat → Int32) → Nat × Nat → Prop} (hI : tI N M0 O) (hQ : Q M0 O) : wT_X2_settle N q1 q2 M0 O Q := by
  obtain ⟨_, _, _, _, _, _, _, _, _, _, _, _, _⟩ := (show tN N from hN)
  obtain ⟨⟨_, _⟩, ⟨_, _⟩, _, ⟨_, _⟩, ⟨_, _⟩, ⟨_, _⟩, hO7⟩ := (show tI N M0 O from hI)
  have hk : tK M0 M0 := tK_rf M0
  have hQ1 := hQ
  unfold wT_X2_settle
  have := b_le7 hO7
  have := ti_rng q1
  refine spT_X2_exists hN _ (show tI N M0 O from hI) (fun r1 hp2 => ?_)
  refine ⟨fun hc3 => ?_, fun hc3 => ?_⟩
  · have := ti_rng r1
    have : (0 : Int32).toInt = 0 := by decide
    have hc39 := congrArg Int32.toInt hc3
    exact hQ1
  · have := ti_rng r1
    have : (0 : Int32).toInt = 0 := by decide
    have hc39 := ti_ne hc3
    have hc3q := hp2 hc3
    have : (1 : Int32).toInt = 1 := by decide
    first | have := ti_subx q1 1 (by omega) | obtain ⟨_, _, _, _⟩ := ti_sub q1 1
    have : (7 : Int32).toInt = 7 := by decide
    first | have := ti_mulx (q1 - 1) 7 7 (by decide) (by omega) | obtain ⟨_, _, _, _⟩ := ti_mulc (q1 - 1) 7 7 (by decide)
    have : (6 : Int32).toInt = 6 := by decide
    first | have := ti_addx ((q1 - 1) * 7) 6 (by omega) | obtain ⟨_, _, _, _⟩ := ti_add ((q1 - 1) * 7) 6
    refine ⟨vp_in_iff.mpr (by omega), ?_⟩
    have : (5 : Int32).toInt = 5 := by decide
    first | have := ti_addx ((q1 - 1) * 7) 5 (by omega) | obtain ⟨_, _, _, _⟩ := ti_add ((q1 - 1) * 7) 5
    refine ⟨vp_in_iff.mpr (by omega), ?_⟩
    exact hQ1
set_option maxHeartbeats 2000000 in
theorem spT_X8_holdNew_76 {N : Nat → Nat} (hN : tN N) (q1 : Int32) {Q : (Nat → Int32) → Nat × Nat → Prop} {M0 : Nat → Int32} (hQ : ∀ (M' : Nat → Int32) (O' : Nat × Nat), tI N M' O' → tK M0 M' → Q M' O') (a1 : Int32) (a7 : Int32) (M : Nat → Int32) (O : Nat × Nat) (hI : tI N M O) (hk : tK M0 M) : wT_X8_holdNew_76 N Q a1 a7 M O := by
  obtain ⟨_, _, _, _, _, _, _, _, _, _, _, _, _⟩ := (show tN N from hN)
  obtain ⟨⟨_, _⟩, ⟨_, _⟩, _, ⟨_, _⟩, ⟨_, _⟩, ⟨_, _⟩, hO7⟩ := (show tI N M O from hI)
  unfold wT_X8_holdNew_76
  have := b_le7 hO7
  have := ti_rng a1
  have := ti_rng a7
  refine spT_X8_setObject hN _ _ (show tI N M O from hI) (?_)
  exact hQ _ _ (show tI N M O from hI) (show tK M0 M from hk)
set_option maxHeartbeats 2000000 in
theorem spT_X8_holdNew {N : Nat → Nat} (hN : tN N) (q1 : Int32) {M0 : Nat → Int32} {O : Nat × Nat} {Q : (Nat → Int32) → Nat × Nat → Prop} (hI : tI N M0 O) (hQ : ∀ (M' : Nat → Int32) (O' : Nat × Nat), tI N M' O' → tK M0 M' → Q M' O') : wT_X8_holdNew N q1 M0 O Q := by
  obtain ⟨_, _, _, _, _, _, _, _, _, _, _, _, _⟩ := (show tN N from hN)
  obtain ⟨⟨_, _⟩, ⟨_, _⟩, _, ⟨_, _⟩, ⟨_, _⟩, ⟨_, _⟩, hO7⟩ := (show tI N M0 O from hI)
  have hk : tK M0 M0 := tK_rf M0
  have hQ1 := hQ
  unfold wT_X8_holdNew
  have := b_le7 hO7
  refine spT_X8_fetch hN  (show tI N M0 O from hI) (fun r1 M2 O2 hI hk1 => ?_)
  have hk := tK_tr (show tK M0 M0 from hk) hk1
  obtain ⟨⟨_, _⟩, ⟨_, _⟩, _, ⟨_, _⟩, ⟨_, _⟩, ⟨_, _⟩, hO7⟩ := (show tI N M2 O2 from hI)
  have := b_le7 hO7
  refine spT_X8_fetch hN  (show tI N M2 O2 from hI) (fun r3 M4 O4 hI hk1 => ?_)
  have hk := tK_tr (show tK M0 M2 from hk) hk1
  obtain ⟨⟨_, _⟩, ⟨_, _⟩, _, ⟨_, _⟩, ⟨_, _⟩, ⟨_, _⟩, hO7⟩ := (show tI N M4 O4 from hI)
  have := b_le7 hO7
  refine spT_X8_fetch hN  (show tI N M4 O4 from hI) (fun r5 M6 O6 hI hk1 => ?_)
  have hk := tK_tr (show tK M0 M4 from hk) hk1
  obtain ⟨⟨_, _⟩, ⟨_, _⟩, _, ⟨_, _⟩, ⟨_, _⟩, ⟨_, _⟩, hO7⟩ := (show tI N M6 O6 from hI)
  have := b_le7 hO7
  refine spT_X8_pop hN  (show tI N M6 O6 from hI) (fun r7 M8 O8 hI hk1 => ?_)
  have hk := tK_tr (show tK M0 M6 from hk) hk1
  obtain ⟨⟨_, _⟩, ⟨_, _⟩, _, ⟨_, _⟩, ⟨_, _⟩, ⟨_, _⟩, hO7⟩ := (show tI N M8 O8 from hI)
  have := b_le7 hO7
  refine spT_X8_pop hN  (show tI N M8 O8 from hI) (fun r9 M10 O10 hI hk1 => ?_)
  have hk := tK_tr (show tK M0 M8 from hk) hk1
  obtain ⟨⟨_, _⟩, ⟨_, _⟩, _, ⟨_, _⟩, ⟨_, _⟩, ⟨_, _⟩, hO7⟩ := (show tI N M10 O10 from hI)
  have := b_le7 hO7
  have := ti_rng r1
  have := ti_rng r9
  have := ti_rng r7
  have := ti_rng r3
  refine spT_X2_makeInTrial hN _ _ _ _ (show tI N M10 O10 from hI) (fun r11 M12 O12 hI hk1 => ?_)
  have hk := tK_tr (show tK M0 M10 from hk) hk1
  obtain ⟨⟨_, _⟩, ⟨_, _⟩, _, ⟨_, _⟩, ⟨_, _⟩, ⟨_, _⟩, hO7⟩ := (show tI N M12 O12 from hI)
  have := b_le7 hO7
  refine ⟨fun hc13 => ?_, fun hc13 => ?_⟩
  · have := ti_rng r11
    have : (0 : Int32).toInt = 0 := by decide
    have hc139 := ti_ne hc13
    refine ⟨fun hc14 => ?_, fun hc14 => ?_⟩
    · have := ti_rng r5
      have : ((-2) : Int32).toInt = -2 := by decide
      have hc149 := congrArg Int32.toInt hc14
      have := ti_rng q1
      exact spT_X8_holdNew_76 hN q1 hQ _ _ _ _ (show tI N M12 O12 from hI) (show tK M0 M12 from hk)
    · have := ti_rng r5
      have : ((-2) : Int32).toInt = -2 := by decide
      have hc149 := ti_ne hc14
      refine spT_X8_objectAt hN _ (show tI N M12 O12 from hI) (fun r16 => ?_)
      have := ti_rng r16
      refine spT_X2_settle hN _ _ (show tI N M12 O12 from hI) (?_)
      have := ti_rng q1
      exact spT_X8_holdNew_76 hN q1 hQ _ _ _ _ (show tI N M12 O12 from hI) (show tK M0 M12 from hk)
  · have := ti_rng r11
    have : (0 : Int32).toInt = 0 := by decide
    have hc139 := congrArg Int32.toInt hc13
    exact hQ _ _ (show tI N (um M12 53 3) O12 from hI) (show tK M0 (um M12 53 3) from hk)
set_option maxHeartbeats 2000000 in
theorem spT_X8_raiseHeld {N : Nat → Nat} (hN : tN N) (q1 : Int32) {M0 : Nat → Int32} {O : Nat × Nat} {Q : (Nat → Int32) → Nat × Nat → Prop} (hI : tI N M0 O) (hQ : ∀ (M' : Nat → Int32) (O' : Nat × Nat), tI N M' O' → tK M0 M' → Q M' O') : wT_X8_raiseHeld N q1 M0 O Q := by
  obtain ⟨_, _, _, _, _, _, _, _, _, _, _, _, _⟩ := (show tN N from hN)
  obtain ⟨⟨_, _⟩, ⟨_, _⟩, _, ⟨_, _⟩, ⟨_, _⟩, ⟨_, _⟩, hO7⟩ := (show tI N M0 O from hI)
  have hk : tK M0 M0 := tK_rf M0
  have hQ1 := hQ
  unfold wT_X8_raiseHeld
  have := b_le7 hO7
  refine ⟨fun hc1 => ?_, fun hc1 => ?_⟩
  · have := ti_rng q1
    have : (0 : Int32).toInt = 0 := by decide
    have hc19 := ti_ne hc1
    exact hQ _ _ (show tI N (um M0 54 q1) O from hI) (show tK M0 (um M0 54 q1) from hk)
  · have := ti_rng q1
    have : (0 : Int32).toInt = 0 := by decide
    have hc19 := congrArg Int32.toInt hc1
    have : (3 : Int32).toInt = 3 := by decide
    have : (1 : Int32).toInt = 1 := by decide
    refine spT_X8_raiseNew hN _ _ (show tI N M0 O from hI) (fun M2 O2 hI hk1 => ?_)
    have hk := tK_tr (show tK M0 M0 from hk) hk1
    obtain ⟨⟨_, _⟩, ⟨_, _⟩, _, ⟨_, _⟩, ⟨_, _⟩, ⟨_, _⟩, hO7⟩ := (show tI N M2 O2 from hI)
    have := b_le7 hO7
    exact hQ _ _ (show tI N M2 O2 from hI) (show tK M0 M2 from hk)
set_option maxHeartbeats 2000000 in
theorem spT_X2_join_49 {N : Nat → Nat} (hN : tN N) (q1 : Int32) (q2 : Int32) {Q : Int32 → (Nat → Int32) → Nat × Nat → Prop} {M0 : Nat → Int32} (hQ : ∀ (r : Int32) (M' : Nat → Int32) (O' : Nat × Nat), tI N M' O' → tK M0 M' → Q r M' O') (a3 : Int32) (M : Nat → Int32) (O : Nat × Nat) (hI : tI N M O) (hk : tK M0 M) : wT_X2_join_49 N Q a3 M O := by
  obtain ⟨_, _, _, _, _, _, _, _, _, _, _, _, _⟩ := (show tN N from hN)
  obtain ⟨⟨_, _⟩, ⟨_, _⟩, _, ⟨_, _⟩, ⟨_, _⟩, ⟨_, _⟩, hO7⟩ := (show tI N M O from hI)
  unfold wT_X2_join_49
  have := b_le7 hO7
  exact hQ _ _ _ (show tI N M O from hI) (show tK M0 M from hk)
set_option maxHeartbeats 2000000 in
theorem spT_X2_join_24 {N : Nat → Nat} (hN : tN N) (q1 : Int32) (q2 : Int32) {Q : Int32 → (Nat → Int32) → Nat × Nat → Prop} {M0 : Nat → Int32} (hQ : ∀ (r : Int32) (M' : Nat → Int32) (O' : Nat × Nat), tI N M' O' → tK M0 M' → Q r M' O') (a1 : Int32) (a2 : Int32) (t0 : Int32) (M : Nat → Int32) (O : Nat × Nat) (hI : tI N M O) (hk : tK M0 M) : wT_X2_join_24 N Q a1 a2 t0 M O := by
  obtain ⟨_, _, _, _, _, _, _, _, _, _, _, _, _⟩ := (show tN N from hN)
  obtain ⟨⟨_, _⟩, ⟨_, _⟩, _, ⟨_, _⟩, ⟨_, _⟩, ⟨_, _⟩, hO7⟩ := (show tI N M O from hI)
  unfold wT_X2_join_24
  have := b_le7 hO7
  refine ⟨fun hc5 => ?_, fun hc5 => ?_⟩
  · have := ti_rng t0
    have : ((-1) : Int32).toInt = -1 := by decide
    have hc59 := ti_ne hc5
    exact spT_X2_join_49 hN q1 q2 hQ _ _ _ (show tI N (um M 23 ((M 23) + 1)) O from hI) (show tK M0 (um M 23 ((M 23) + 1)) from hk)
  · have := ti_rng t0
    have : ((-1) : Int32).toInt = -1 := by decide
    have hc59 := congrArg Int32.toInt hc5
    have := ti_rng a1
    have := ti_rng a2
    refine spT_X2_settle hN _ _ (show tI N M O from hI) (?_)
    exact spT_X2_join_49 hN q1 q2 hQ _ _ _ (show tI N M O from hI) (show tK M0 M from hk)
set_option maxHeartbeats 2000000 in
theorem spT_X2_join {N : Nat → Nat} (hN : tN N) (q1 : Int32) (q2 : Int32) {M0 : Nat → Int32} {O : Nat × Nat} {Q : Int32 → (Nat → Int32) → Nat × Nat → Prop} (hI : tI N M0 O) (hQ : ∀ (r : Int32) (M' : Nat → Int32) (O' : Nat × Nat), tI N M' O' → tK M0 M' → Q r M' O') : wT_X2_join N q1 q2 M0 O Q := by
  obtain ⟨_, _, _, _, _, _, _, _, _, _, _, _, _⟩ := (show tN N from hN)
  obtain ⟨⟨_, _⟩, ⟨_, _⟩, _, ⟨_, _⟩, ⟨_, _⟩, ⟨_, _⟩, hO7⟩ := (show tI N M0 O from hI)
  have hk : tK M0 M0 := tK_rf M0
  have hQ1 := hQ
  unfold wT_X2_join
  have := b_le7 hO7
  have := ti_rng q1
  have : (5 : Int32).toInt = 5 := by decide
  refine spT_X2_get hN _ _ (show tI N M0 O from hI) (fun r1 => ?_)
  refine ⟨fun hc3 => ?_, fun hc3 => ?_⟩
  · have := ti_rng r1
    have : (1 : Int32).toInt = 1 := by decide
    have hc39 := ti_ne hc3
    refine ⟨fun hc4 => ?_, fun hc4 => ?_⟩
    · have := ti_rng q2
      have hc49 := ti_ne hc4
      have : ((-1) : Int32).toInt = -1 := by decide
      exact spT_X2_join_24 hN q1 q2 hQ _ _ _ _ _ (show tI N M0 O from hI) (show tK M0 M0 from hk)
    · have := ti_rng q2
      have hc49 := congrArg Int32.toInt hc4
      exact spT_X2_join_24 hN q1 q2 hQ _ _ _ _ _ (show tI N M0 O from hI) (show tK M0 M0 from hk)
  · have := ti_rng r1
    have : (1 : Int32).toInt = 1 := by decide
    have hc39 := congrArg Int32.toInt hc3
    have := ti_rng q2
    have : (2 : Int32).toInt = 2 := by decide
    exact spT_X2_join_24 hN q1 q2 hQ _ _ _ _ _ (show tI N M0 O from hI) (show tK M0 M0 from hk)

