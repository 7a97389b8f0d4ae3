set_option maxHeartbeats 2000000 in
theorem spT_X5_adjourn {N : Nat → Nat} (hN : tN N) {M0 : Nat → Int32} {O : Nat × Nat} {Q : (Nat → Int32) → Nat × Nat → Prop} (hI : tI N M0 O) (hQ : ∀ (M' : Nat → Int32) (O' : Nat × Nat), tI N M' O' → tK M0 M' → Q M' O') : wT_X5_adjourn N  M0 O Q := by
  obtain ⟨_, _, _, _, _, _, _, _, _, _, _, _, _⟩ := (show tN N from hN)
  obtain ⟨⟨_, _⟩, ⟨_, _⟩, _, ⟨_, _⟩, ⟨_, _⟩, ⟨_, _⟩, hO7⟩ := (show tI N M0 O from hI)
  have hk : tK M0 M0 := tK_rf M0
  have hQ1 := hQ
  unfold wT_X5_adjourn
  have := b_le7 hO7
  exact hQ _ _ (show tI N (um M0 32 3) O from hI) (show tK M0 (um M0 32 3) from hk)
set_option maxHeartbeats 2000000 in
theorem spT_X8_hold_101 {N : Nat → Nat} (hN : tN N) (q1 : Int32) (q2 : Int32) (q3 : Int32) {Q : Int32 → (Nat → Int32) → Nat × Nat → Prop} {M0 : Nat → Int32} (hQ : ∀ (r : Int32) (M' : Nat → Int32) (O' : Nat × Nat), tI N M' O' → tK M0 M' → Q r M' O') (M : Nat → Int32) (O : Nat × Nat) (hI : tI N M O) (hk : tK M0 M) : wT_X8_hold_101 N Q M O := by
  obtain ⟨_, _, _, _, _, _, _, _, _, _, _, _, _⟩ := (show tN N from hN)
  obtain ⟨⟨_, _⟩, ⟨_, _⟩, _, ⟨_, _⟩, ⟨_, _⟩, ⟨_, _⟩, hO7⟩ := (show tI N M O from hI)
  unfold wT_X8_hold_101
  have := b_le7 hO7
  refine ⟨fun hc3 => ?_, fun hc3 => ?_⟩
  · have := ti_rng (M 53)
    have : (2 : Int32).toInt = 2 := by decide
    have hc39 := ti_ne hc3
    refine ⟨fun hc4 => ?_, fun hc4 => ?_⟩
    · have : (1 : Int32).toInt = 1 := by decide
      have hc49 := ti_ne hc4
      refine spT_X5_adjourn hN  (show tI N M O from hI) (fun M5 O5 hI hk1 => ?_)
      have hk := tK_tr (show tK M0 M from hk) hk1
      obtain ⟨⟨_, _⟩, ⟨_, _⟩, _, ⟨_, _⟩, ⟨_, _⟩, ⟨_, _⟩, hO7⟩ := (show tI N M5 O5 from hI)
      have := b_le7 hO7
      exact hQ _ _ _ (show tI N M5 O5 from hI) (show tK M0 M5 from hk)
    · have : (1 : Int32).toInt = 1 := by decide
      have hc49 := congrArg Int32.toInt hc4
      have := ti_rng (M 55)
      refine spT_X5_rest hN _ (show tI N M O from hI) (fun M6 O6 hI hk1 => ?_)
      have hk := tK_tr (show tK M0 M from hk) hk1
      obtain ⟨⟨_, _⟩, ⟨_, _⟩, _, ⟨_, _⟩, ⟨_, _⟩, ⟨_, _⟩, hO7⟩ := (show tI N M6 O6 from hI)
      have := b_le7 hO7
      exact hQ _ _ _ (show tI N M6 O6 from hI) (show tK M0 M6 from hk)
  · have := ti_rng (M 53)
    have : (2 : Int32).toInt = 2 := by decide
    have hc39 := congrArg Int32.toInt hc3
    exact hQ _ _ _ (show tI N M O from hI) (show tK M0 M from hk)
set_option maxHeartbeats 2000000 in
theorem spT_X8_hold_95 {N : Nat → Nat} (hN : tN N) (q1 : Int32) (q2 : Int32) (q3 : Int32) {K10 : (Int32 → (Nat → Int32) → (Nat × Nat) → Prop)} {n10 : Nat} {Q : Int32 → (Nat → Int32) → Nat × Nat → Prop} {M0 : Nat → Int32} (sK10 : ∀ (a4 : Int32) (M : Nat → Int32) (O : Nat × Nat), tI N M O → tK M0 M → (0 ≤ a4.toInt ∧ a4.toInt ≤ 1000000000) → (1000000000 - a4.toInt) + 1 ≤ (n10 : Int) → K10 a4 M O) (hQ : ∀ (r : Int32) (M' : Nat → Int32) (O' : Nat × Nat), tI N M' O' → tK M0 M' → Q r M' O') (a4 : Int32) (M : Nat → Int32) (O : Nat × Nat) (hI : tI N M O) (hk : tK M0 M) (hbi : ((0 ≤ a4.toInt ∧ a4.toInt ≤ 1000000000) ∧ (1000000000 - a4.toInt) ≤ (n10 : Int) ∧ 1 ≤ (1000000000 - a4.toInt))) : wT_X8_hold_95 N K10 Q a4 M O := by
  obtain ⟨_, _, _, _, _, _, _, _, _, _, _, _, _⟩ := (show tN N from hN)
  obtain ⟨⟨_, _⟩, ⟨_, _⟩, _, ⟨_, _⟩, ⟨_, _⟩, ⟨_, _⟩, hO7⟩ := (show tI N M O from hI)
  unfold wT_X8_hold_95
  have := b_le7 hO7
  have := ti_rng a4
  have : (1 : Int32).toInt = 1 := by decide
  first | have := ti_addx a4 1 (by omega) | obtain ⟨_, _, _, _⟩ := ti_add a4 1
  exact sK10 _ _ _ (show tI N M O from hI) (show tK M0 M from hk) (show 0 ≤ (a4 + 1).toInt ∧ (a4 + 1).toInt ≤ 1000000000 from by omega) (show (1000000000 - (a4 + 1).toInt) + 1 ≤ _ from by omega)
set_option maxHeartbeats 2000000 in
theorem spT_X8_hold_84 {N : Nat → Nat} (hN : tN N) (q1 : Int32) (q2 : Int32) (q3 : Int32) {K10 : (Int32 → (Nat → Int32) → (Nat × Nat) → Prop)} {n10 : Nat} {Q : Int32 → (Nat → Int32) → Nat × Nat → Prop} {M0 : Nat → Int32} (sK10 : ∀ (a4 : Int32) (M : Nat → Int32) (O : Nat × Nat), tI N M O → tK M0 M → (0 ≤ a4.toInt ∧ a4.toInt ≤ 1000000000) → (1000000000 - a4.toInt) + 1 ≤ (n10 : Int) → K10 a4 M O) (hQ : ∀ (r : Int32) (M' : Nat → Int32) (O' : Nat × Nat), tI N M' O' → tK M0 M' → Q r M' O') (a4 : Int32) (M : Nat → Int32) (O : Nat × Nat) (hI : tI N M O) (hk : tK M0 M) (hbi : ((0 ≤ a4.toInt ∧ a4.toInt ≤ 1000000000) ∧ (1000000000 - a4.toInt) ≤ (n10 : Int) ∧ 1 ≤ (1000000000 - a4.toInt))) : wT_X8_hold_84 N K10 Q a4 M O := by
  obtain ⟨_, _, _, _, _, _, _, _, _, _, _, _, _⟩ := (show tN N from hN)
  obtain ⟨⟨_, _⟩, ⟨_, _⟩, _, ⟨_, _⟩, ⟨_, _⟩, ⟨_, _⟩, hO7⟩ := (show tI N M O from hI)
  unfold wT_X8_hold_84
  have := b_le7 hO7
  refine ⟨fun hc14 => ?_, fun hc14 => ?_⟩
  · have := ti_rng (M 54)
    have : (0 : Int32).toInt = 0 := by decide
    have hc149 := congrArg Int32.toInt hc14
    have := ti_rng a4
    exact spT_X8_hold_95 hN q1 q2 q3 sK10 hQ _ _ _ (show tI N M O from hI) (show tK M0 M from hk) (show ((0 ≤ a4.toInt ∧ a4.toInt ≤ 1000000000) ∧ (1000000000 - a4.toInt) ≤ (n10 : Int) ∧ 1 ≤ (1000000000 - a4.toInt)) from by omega)
  · have := ti_rng (M 54)
    have : (0 : Int32).toInt = 0 := by decide
    have hc149 := ti_ne hc14
    refine spT_X8_goOut hN  (show tI N M O from hI) (fun M15 O15 hI hk1 => ?_)
    have hk := tK_tr (show tK M0 M from hk) hk1
    obtain ⟨⟨_, _⟩, ⟨_, _⟩, _, ⟨_, _⟩, ⟨_, _⟩, ⟨_, _⟩, hO7⟩ := (show tI N M15 O15 from hI)
    have := b_le7 hO7
    have := ti_rng a4
    exact spT_X8_hold_95 hN q1 q2 q3 sK10 hQ _ _ _ (show tI N M15 O15 from hI) (show tK M0 M15 from hk) (show ((0 ≤ a4.toInt ∧ a4.toInt ≤ 1000000000) ∧ (1000000000 - a4.toInt) ≤ (n10 : Int) ∧ 1 ≤ (1000000000 - a4.toInt)) from by omega)
set_option maxHeartbeats 2000000 in
theorem spT_X8_hold_10 {N : Nat → Nat} (hN : tN N) (q1 : Int32) (q2 : Int32) (q3 : Int32) {Q : Int32 → (Nat → Int32) → Nat × Nat → Prop} {M0 : Nat → Int32} (hQ : ∀ (r : Int32) (M' : Nat → Int32) (O' : Nat × Nat), tI N M' O' → tK M0 M' → Q r M' O') : ∀ (n10 : Nat) (a4 : Int32) (M : Nat → Int32) (O : Nat × Nat), tI N M O → tK M0 M → (0 ≤ a4.toInt ∧ a4.toInt ≤ 1000000000) → (1000000000 - a4.toInt) + 1 ≤ (n10 : Int) → wT_X8_hold_10 N Q n10 a4 M O := by
  obtain ⟨_, _, _, _, _, _, _, _, _, _, _, _, _⟩ := (show tN N from hN)
  intro n10
  induction n10 with
  | zero => intro a4 M O hI hk hv hn; exact absurd hn (by omega)
  | succ n10 ih =>
    intro a4 M O hI hk hv hn
    obtain ⟨⟨_, _⟩, ⟨_, _⟩, _, ⟨_, _⟩, ⟨_, _⟩, ⟨_, _⟩, hO7⟩ := (show tI N M O from hI)
    dsimp only [wT_X8_hold_10]
    have := b_le7 hO7
    refine ⟨fun hc2 => ?_, fun hc2 => ?_⟩
    · have : (1000000000 : Int32).toInt = 1000000000 := by decide
      have := ti_rng a4
      have hc2 := Int32.le_iff_toInt_le.mp hc2
      exact spT_X8_hold_101 hN q1 q2 q3 hQ _ _ (show tI N M O from hI) (show tK M0 M from hk)
    · have : (1000000000 : Int32).toInt = 1000000000 := by decide
      have := ti_rng a4
      have hc2 := ti_nle hc2
      refine ⟨fun hc7 => ?_, fun hc7 => ?_⟩
      · have := ti_rng (M 53)
        have : (0 : Int32).toInt = 0 := by decide
        have hc79 := ti_ne hc7
        exact spT_X8_hold_101 hN q1 q2 q3 hQ _ _ (show tI N M O from hI) (show tK M0 M from hk)
      · have := ti_rng (M 53)
        have : (0 : Int32).toInt = 0 := by decide
        have hc79 := congrArg Int32.toInt hc7
        refine spT_X8_fetch hN  (show tI N M O from hI) (fun r8 M9 O9 hI hk1 => ?_)
        have hk := tK_tr (show tK M0 M from hk) hk1
        obtain ⟨⟨_, _⟩, ⟨_, _⟩, _, ⟨_, _⟩, ⟨_, _⟩, ⟨_, _⟩, hO7⟩ := (show tI N M9 O9 from hI)
        have := b_le7 hO7
        refine ⟨fun hc10 => ?_, fun hc10 => ?_⟩
        · have : (6 : Int32).toInt = 6 := by decide
          have := ti_rng r8
          have hc10 := Int32.lt_iff_toInt_lt.mp hc10
          refine ⟨fun hc11 => ?_, fun hc11 => ?_⟩
          · have : (13 : Int32).toInt = 13 := by decide
            have hc11 := Int32.lt_iff_toInt_lt.mp hc11
            refine ⟨fun hc12 => ?_, fun hc12 => ?_⟩
            · have : (21 : Int32).toInt = 21 := by decide
              have hc12 := Int32.lt_iff_toInt_lt.mp hc12
              refine spT_X8_doObjection hN _ (show tI N M9 O9 from hI) (fun M13 O13 hI hk1 => ?_)
              have hk := tK_tr (show tK M0 M9 from hk) hk1
              obtain ⟨⟨_, _⟩, ⟨_, _⟩, _, ⟨_, _⟩, ⟨_, _⟩, ⟨_, _⟩, hO7⟩ := (show tI N M13 O13 from hI)
              have := b_le7 hO7
              exact spT_X8_hold_84 hN q1 q2 q3 ih hQ _ _ _ (show tI N M13 O13 from hI) (show tK M0 M13 from hk) (show ((0 ≤ a4.toInt ∧ a4.toInt ≤ 1000000000) ∧ (1000000000 - a4.toInt) ≤ (n10 : Int) ∧ 1 ≤ (1000000000 - a4.toInt)) from by omega)
            · have : (21 : Int32).toInt = 21 := by decide
              have hc12 := ti_nlt hc12
              refine spT_X8_doTwoNumbers hN _ (show tI N M9 O9 from hI) (fun M16 O16 hI hk1 => ?_)
              have hk := tK_tr (show tK M0 M9 from hk) hk1
              obtain ⟨⟨_, _⟩, ⟨_, _⟩, _, ⟨_, _⟩, ⟨_, _⟩, ⟨_, _⟩, hO7⟩ := (show tI N M16 O16 from hI)
              have := b_le7 hO7
              exact spT_X8_hold_84 hN q1 q2 q3 ih hQ _ _ _ (show tI N M16 O16 from hI) (show tK M0 M16 from hk) (show ((0 ≤ a4.toInt ∧ a4.toInt ≤ 1000000000) ∧ (1000000000 - a4.toInt) ≤ (n10 : Int) ∧ 1 ≤ (1000000000 - a4.toInt)) from by omega)
          · have : (13 : Int32).toInt = 13 := by decide
            have hc11 := ti_nlt hc11
            refine spT_X8_doNumber hN _ (show tI N M9 O9 from hI) (fun M17 O17 hI hk1 => ?_)
            have hk := tK_tr (show tK M0 M9 from hk) hk1
            obtain ⟨⟨_, _⟩, ⟨_, _⟩, _, ⟨_, _⟩, ⟨_, _⟩, ⟨_, _⟩, hO7⟩ := (show tI N M17 O17 from hI)
            have := b_le7 hO7
            exact spT_X8_hold_84 hN q1 q2 q3 ih hQ _ _ _ (show tI N M17 O17 from hI) (show tK M0 M17 from hk) (show ((0 ≤ a4.toInt ∧ a4.toInt ≤ 1000000000) ∧ (1000000000 - a4.toInt) ≤ (n10 : Int) ∧ 1 ≤ (1000000000 - a4.toInt)) from by omega)
        · have : (6 : Int32).toInt = 6 := by decide
          have := ti_rng r8
          have hc10 := ti_nlt hc10
          refine spT_X8_doCourse hN _ (show tI N M9 O9 from hI) (fun M18 O18 hI hk1 => ?_)
          have hk := tK_tr (show tK M0 M9 from hk) hk1
          obtain ⟨⟨_, _⟩, ⟨_, _⟩, _, ⟨_, _⟩, ⟨_, _⟩, ⟨_, _⟩, hO7⟩ := (show tI N M18 O18 from hI)
          have := b_le7 hO7
          exact spT_X8_hold_84 hN q1 q2 q3 ih hQ _ _ _ (show tI N M18 O18 from hI) (show tK M0 M18 from hk) (show ((0 ≤ a4.toInt ∧ a4.toInt ≤ 1000000000) ∧ (1000000000 - a4.toInt) ≤ (n10 : Int) ∧ 1 ≤ (1000000000 - a4.toInt)) from by omega)
set_option maxHeartbeats 2000000 in
theorem spT_X8_hold {N : Nat → Nat} (hN : tN N) (q1 : Int32) (q2 : Int32) (q3 : Int32) {M0 : Nat → Int32} {O : Nat × Nat} {Q : Int32 → (Nat → Int32) → Nat × Nat → Prop} (hI : tI N M0 O) (hQ : ∀ (r : Int32) (M' : Nat → Int32) (O' : Nat × Nat), tI N M' O' → tK M0 M' → Q r M' O') : wT_X8_hold N q1 q2 q3 M0 O Q := by
  obtain ⟨_, _, _, _, _, _, _, _, _, _, _, _, _⟩ := (show tN N from hN)
  obtain ⟨⟨_, _⟩, ⟨_, _⟩, _, ⟨_, _⟩, ⟨_, _⟩, ⟨_, _⟩, hO7⟩ := (show tI N M0 O from hI)
  have hk : tK M0 M0 := tK_rf M0
  have hQ1 := hQ
  unfold wT_X8_hold
  have := b_le7 hO7
  have := ti_rng q1
  have := ti_rng q2
  have := ti_rng q3
  refine spT_X8_start hN _ _ _ (show tI N M0 O from hI) (fun M1 O1 hI hk1 => ?_)
  have hk := tK_tr (show tK M0 M0 from hk) hk1
  obtain ⟨⟨_, _⟩, ⟨_, _⟩, _, ⟨_, _⟩, ⟨_, _⟩, ⟨_, _⟩, hO7⟩ := (show tI N M1 O1 from hI)
  have := b_le7 hO7
  have : (0 : Int32).toInt = 0 := by decide
  exact ⟨((1000000000 - (0 : Int32).toInt) + 1).toNat, spT_X8_hold_10 hN q1 q2 q3 hQ _ _ _ _ (show tI N M1 O1 from hI) (show tK M0 M1 from hk) (show 0 ≤ (0 : Int32).toInt ∧ (0 : Int32).toInt ≤ 1000000000 from by omega) (show (1000000000 - (0 : Int32).toInt) + 1 ≤ _ from by omega)⟩
set_option maxHeartbeats 2000000 in
theorem spT_X5_strike {N : Nat → Nat} (hN : tN N) (q1 : Int32) (q2 : Int32) {M0 : Nat → Int32} {O : Nat × Nat} {Q : (Nat → Int32) → Nat × Nat → Prop} (hI : tI N M0 O) (hQ : ∀ (M' : Nat → Int32) (O' : Nat × Nat), tI N M' O' → tK M0 M' → Q M' O') : wT_X5_strike N q1 q2 M0 O Q := by
  obtain ⟨_, _, _, _, _, _, _, _, _, _, _, _, _⟩ := (show tN N from hN)
  obtain ⟨⟨_, _⟩, ⟨_, _⟩, _, ⟨_, _⟩, ⟨_, _⟩, ⟨_, _⟩, hO7⟩ := (show tI N M0 O from hI)
  have hk : tK M0 M0 := tK_rf M0
  have hQ1 := hQ
  unfold wT_X5_strike
  have := b_le7 hO7
  exact hQ _ _ (show tI N (um (um (um M0 32 1) 34 q1) 35 q2) O from hI) (show tK M0 (um (um (um M0 32 1) 34 q1) 35 q2) from hk)
set_option maxHeartbeats 2000000 in
theorem spT_X0_struck {N : Nat → Nat} (hN : tN N) (q1 : Int32) (q2 : Int32) {M0 : Nat → Int32} {O : Nat × Nat} {Q : Int32 → (Nat → Int32) → Nat × Nat → Prop} (hI : tI N M0 O) (hQ : ∀ (r : Int32) (M' : Nat → Int32) (O' : Nat × Nat), tI N M' O' → tK M0 M' → Q r M' O') : wT_X0_struck N q1 q2 M0 O Q := by
  obtain ⟨_, _, _, _, _, _, _, _, _, _, _, _, _⟩ := (show tN N from hN)
  obtain ⟨⟨_, _⟩, ⟨_, _⟩, _, ⟨_, _⟩, ⟨_, _⟩, ⟨_, _⟩, hO7⟩ := (show tI N M0 O from hI)
  have hk : tK M0 M0 := tK_rf M0
  have hQ1 := hQ
  unfold wT_X0_struck
  have := b_le7 hO7
  have := ti_rng q1
  have := ti_rng q2
  refine spT_X5_strike hN _ _ (show tI N M0 O from hI) (fun M1 O1 hI hk1 => ?_)
  have hk := tK_tr (show tK M0 M0 from hk) hk1
  obtain ⟨⟨_, _⟩, ⟨_, _⟩, _, ⟨_, _⟩, ⟨_, _⟩, ⟨_, _⟩, hO7⟩ := (show tI N M1 O1 from hI)
  have := b_le7 hO7
  exact hQ _ _ _ (show tI N M1 O1 from hI) (show tK M0 M1 from hk)
set_option maxHeartbeats 2000000 in
theorem spT_X2_groundOf {N : Nat → Nat} (hN : tN N) (q1 : Int32) {M0 : Nat → Int32} {O : Nat × Nat} {Q : Int32 → (Nat → Int32) → Nat × Nat → Prop} (hI : tI N M0 O) (hQ : ∀ (r : Int32) , Q r M0 O) : wT_X2_groundOf N q1 M0 O Q := by
  obtain ⟨_, _, _, _, _, _, _, _, _, _, _, _, _⟩ := (show tN N from hN)
  obtain ⟨⟨_, _⟩, ⟨_, _⟩, _, ⟨_, _⟩, ⟨_, _⟩, ⟨_, _⟩, hO7⟩ := (show tI N M0 O from hI)
  have hk : tK M0 M0 := tK_rf M0
  have hQ1 := hQ
  unfold wT_X2_groundOf
  have := b_le7 hO7
  have := ti_rng q1
  have : (1 : Int32).toInt = 1 := by decide
  refine spT_X2_get hN _ _ (show tI N M0 O from hI) (fun r1 => ?_)
  exact hQ1 _
set_option maxHeartbeats 2000000 in
theorem spT_X0_wrapped {N : Nat → Nat} (hN : tN N) (q1 : Int32) (q2 : Int32) {M0 : Nat → Int32} {O : Nat × Nat} {Q : Int32 → (Nat → Int32) → Nat × Nat → Prop} (hI : tI N M0 O) (hQ : ∀ (r : Int32) (M' : Nat → Int32) (O' : Nat × Nat), tI N M' O' → tK M0 M' → Q r M' O') : wT_X0_wrapped N q1 q2 M0 O Q := by
  obtain ⟨_, _, _, _, _, _, _, _, _, _, _, _, _⟩ := (show tN N from hN)
  obtain ⟨⟨_, _⟩, ⟨_, _⟩, _, ⟨_, _⟩, ⟨_, _⟩, ⟨_, _⟩, hO7⟩ := (show tI N M0 O from hI)
  have hk : tK M0 M0 := tK_rf M0
  have hQ1 := hQ
  unfold wT_X0_wrapped
  have := b_le7 hO7
  have := ti_rng q1
  refine spT_X2_groundOf hN _ (show tI N M0 O from hI) (fun r1 => ?_)
  have := ti_rng q2
  have := ti_rng r1
  have : (0 : Int32).toInt = 0 := by decide
  have : ((-1) : Int32).toInt = -1 := by decide
  refine spT_X2_makeInTrial hN _ _ _ _ (show tI N M0 O from hI) (fun r3 M4 O4 hI hk1 => ?_)
  have hk := tK_tr (show tK M0 M0 from hk) hk1
  obtain ⟨⟨_, _⟩, ⟨_, _⟩, _, ⟨_, _⟩, ⟨_, _⟩, ⟨_, _⟩, hO7⟩ := (show tI N M4 O4 from hI)
  have := b_le7 hO7
  refine ⟨fun hc5 => ?_, fun hc5 => ?_⟩
  · have := ti_rng r3
    have hc59 := ti_ne hc5
    refine spT_X2_settle hN _ _ (show tI N M4 O4 from hI) (?_)
    exact hQ _ _ _ (show tI N M4 O4 from hI) (show tK M0 M4 from hk)
  · have := ti_rng r3
    have hc59 := congrArg Int32.toInt hc5
    refine spT_X5_adjourn hN  (show tI N M4 O4 from hI) (fun M7 O7 hI hk1 => ?_)
    have hk := tK_tr (show tK M0 M4 from hk) hk1
    obtain ⟨⟨_, _⟩, ⟨_, _⟩, _, ⟨_, _⟩, ⟨_, _⟩, ⟨_, _⟩, hO7⟩ := (show tI N M7 O7 from hI)
    have := b_le7 hO7
    exact hQ _ _ _ (show tI N M7 O7 from hI) (show tK M0 M7 from hk)
set_option maxHeartbeats 2000000 in
theorem spT_X0_entered {N : Nat → Nat} (hN : tN N) (q1 : Int32) (q2 : Int32) {M0 : Nat → Int32} {O : Nat × Nat} {Q : Int32 → (Nat → Int32) → Nat × Nat → Prop} (hI : tI N M0 O) (hQ : ∀ (r : Int32) (M' : Nat → Int32) (O' : Nat × Nat), tI N M' O' → tK M0 M' → Q r M' O') : wT_X0_entered N q1 q2 M0 O Q := by
  obtain ⟨_, _, _, _, _, _, _, _, _, _, _, _, _⟩ := (show tN N from hN)
  obtain ⟨⟨_, _⟩, ⟨_, _⟩, _, ⟨_, _⟩, ⟨_, _⟩, ⟨_, _⟩, hO7⟩ := (show tI N M0 O from hI)
  have hk : tK M0 M0 := tK_rf M0
  have hQ1 := hQ
  unfold wT_X0_entered
  have := b_le7 hO7
  have := ti_rng q1
  refine spT_X0_complaintOf hN _ (show tI N M0 O from hI) (fun r1 => ?_)
  refine ⟨fun hc3 => ?_, fun hc3 => ?_⟩
  · have := ti_rng r1
    have : (0 : Int32).toInt = 0 := by decide
    have hc39 := ti_ne hc3
    have := ti_rng q2
    refine spT_X2_join hN _ _ (show tI N M0 O from hI) (fun r4 M5 O5 hI hk1 => ?_)
    have hk := tK_tr (show tK M0 M0 from hk) hk1
    obtain ⟨⟨_, _⟩, ⟨_, _⟩, _, ⟨_, _⟩, ⟨_, _⟩, ⟨_, _⟩, hO7⟩ := (show tI N M5 O5 from hI)
    have := b_le7 hO7
    refine ⟨fun hc6 => ?_, fun hc6 => ?_⟩
    · have := ti_rng r4
      have : ((-1) : Int32).toInt = -1 := by decide
      have hc69 := ti_ne hc6
      exact hQ _ _ _ (show tI N M5 O5 from hI) (show tK M0 M5 from hk)
    · have := ti_rng r4
      have : ((-1) : Int32).toInt = -1 := by decide
      have hc69 := congrArg Int32.toInt hc6
      exact hQ _ _ _ (show tI N M5 O5 from hI) (show tK M0 M5 from hk)
  · have := ti_rng r1
    have : (0 : Int32).toInt = 0 := by decide
    have hc39 := congrArg Int32.toInt hc3
    exact hQ _ _ _ (show tI N M0 O from hI) (show tK M0 M0 from hk)
set_option maxHeartbeats 2000000 in
theorem spT_X0_dealtWith {N : Nat → Nat} (hN : tN N) (q1 : Int32) (q2 : Int32) (q3 : Int32) (q4 : Int32) {M0 : Nat → Int32} {O : Nat × Nat} {Q : Int32 → (Nat → Int32) → Nat × Nat → Prop} (hI : tI N M0 O) (hQ : ∀ (r : Int32) (M' : Nat → Int32) (O' : Nat × Nat), tI N M' O' → tK M0 M' → Q r M' O') : wT_X0_dealtWith N q1 q2 q3 q4 M0 O Q := by
  obtain ⟨_, _, _, _, _, _, _, _, _, _, _, _, _⟩ := (show tN N from hN)
  obtain ⟨⟨_, _⟩, ⟨_, _⟩, _, ⟨_, _⟩, ⟨_, _⟩, ⟨_, _⟩, hO7⟩ := (show tI N M0 O from hI)
  have hk : tK M0 M0 := tK_rf M0
  have hQ1 := hQ
  unfold wT_X0_dealtWith
  have := b_le7 hO7
  refine ⟨fun hsw => ?_, fun hsw => ?_, fun hsw => ?_, fun hsw => ?_, fun hsw => ?_, fun hsw0 hsw1 hsw2 hsw3 hsw4 => ?_⟩
  · have := ti_rng q3
    have : (1 : Int32).toInt = 1 := by decide
    have hsw9 := congrArg Int32.toInt hsw
    have := ti_rng q1
    have := ti_rng q2
    refine spT_X0_struck hN _ _ (show tI N M0 O from hI) (fun r1 M2 O2 hI hk1 => ?_)
    have hk := tK_tr (show tK M0 M0 from hk) hk1
    obtain ⟨⟨_, _⟩, ⟨_, _⟩, _, ⟨_, _⟩, ⟨_, _⟩, ⟨_, _⟩, hO7⟩ := (show tI N M2 O2 from hI)
    have := b_le7 hO7
    exact hQ _ _ _ (show tI N M2 O2 from hI) (show tK M0 M2 from hk)
  · have := ti_rng q3
    have : (2 : Int32).toInt = 2 := by decide
    have hsw9 := congrArg Int32.toInt hsw
    have := ti_rng q2
    have := ti_rng q4
    refine spT_X0_wrapped hN _ _ (show tI N M0 O from hI) (fun r3 M4 O4 hI hk1 => ?_)
    have hk := tK_tr (show tK M0 M0 from hk) hk1
    obtain ⟨⟨_, _⟩, ⟨_, _⟩, _, ⟨_, _⟩, ⟨_, _⟩, ⟨_, _⟩, hO7⟩ := (show tI N M4 O4 from hI)
    have := b_le7 hO7
    exact hQ _ _ _ (show tI N M4 O4 from hI) (show tK M0 M4 from hk)
  · have := ti_rng q3
    have : (3 : Int32).toInt = 3 := by decide
    have hsw9 := congrArg Int32.toInt hsw
    exact hQ _ _ _ (show tI N M0 O from hI) (show tK M0 M0 from hk)
  · have := ti_rng q3
    have : (4 : Int32).toInt = 4 := by decide
    have hsw9 := congrArg Int32.toInt hsw
    have := ti_rng q1
    have := ti_rng q2
    refine spT_X0_entered hN _ _ (show tI N M0 O from hI) (fun r5 M6 O6 hI hk1 => ?_)
    have hk := tK_tr (show tK M0 M0 from hk) hk1
    obtain ⟨⟨_, _⟩, ⟨_, _⟩, _, ⟨_, _⟩, ⟨_, _⟩, ⟨_, _⟩, hO7⟩ := (show tI N M6 O6 from hI)
    have := b_le7 hO7
    exact hQ _ _ _ (show tI N M6 O6 from hI) (show tK M0 M6 from hk)
  · have := ti_rng q3
    have : (5 : Int32).toInt = 5 := by decide
    have hsw9 := congrArg Int32.toInt hsw
    have := ti_rng q2
    refine spT_X2_weightOf hN _ (show tI N M0 O from hI) (fun r7 => ?_)
    refine ⟨fun hc9 => ?_, fun hc9 => ?_⟩
    · have := ti_rng q4
      have := ti_rng r7
      have hc9 := Int32.le_iff_toInt_le.mp hc9
      exact hQ _ _ _ (show tI N M0 O from hI) (show tK M0 M0 from hk)
    · have := ti_rng q4
      have := ti_rng r7
      have hc9 := ti_nle hc9
      have := ti_rng q1
      refine spT_X0_struck hN _ _ (show tI N M0 O from hI) (fun r10 M11 O11 hI hk1 => ?_)
      have hk := tK_tr (show tK M0 M0 from hk) hk1
      obtain ⟨⟨_, _⟩, ⟨_, _⟩, _, ⟨_, _⟩, ⟨_, _⟩, ⟨_, _⟩, hO7⟩ := (show tI N M11 O11 from hI)
      have := b_le7 hO7
      exact hQ _ _ _ (show tI N M11 O11 from hI) (show tK M0 M11 from hk)
  · have := ti_rng q3
    exact hQ _ _ _ (show tI N M0 O from hI) (show tK M0 M0 from hk)
set_option maxHeartbeats 2000000 in
theorem spT_X5_uphold {N : Nat → Nat} (hN : tN N) (q1 : Int32) {M0 : Nat → Int32} {O : Nat × Nat} {Q : (Nat → Int32) → Nat × Nat → Prop} (hI : tI N M0 O) (hQ : ∀ (M' : Nat → Int32) (O' : Nat × Nat), tI N M' O' → tK M0 M' → Q M' O') : wT_X5_uphold N q1 M0 O Q := by
  obtain ⟨_, _, _, _, _, _, _, _, _, _, _, _, _⟩ := (show tN N from hN)
  obtain ⟨⟨_, _⟩, ⟨_, _⟩, _, ⟨_, _⟩, ⟨_, _⟩, ⟨_, _⟩, hO7⟩ := (show tI N M0 O from hI)
  have hk : tK M0 M0 := tK_rf M0
  have hQ1 := hQ
  unfold wT_X5_uphold
  have := b_le7 hO7
  exact hQ _ _ (show tI N (um (um M0 32 2) 35 q1) O from hI) (show tK M0 (um (um M0 32 2) 35 q1) from hk)
set_option maxHeartbeats 2000000 in
theorem spT_X0_conduct_211 {N : Nat → Nat} (hN : tN N) (q1 : Int32) (q2 : Int32) (q3 : Int32) {Q : (Nat → Int32) → Nat × Nat → Prop} {M0 : Nat → Int32} (hQ : ∀ (M' : Nat → Int32) (O' : Nat × Nat), tI N M' O' → tK M0 M' → Q M' O') (a6 : Int32) (M : Nat → Int32) (O : Nat × Nat) (hI : tI N M O) (hk : tK M0 M) : wT_X0_conduct_211 N Q a6 M O := by
  obtain ⟨_, _, _, _, _, _, _, _, _, _, _, _, _⟩ := (show tN N from hN)
  obtain ⟨⟨_, _⟩, ⟨_, _⟩, _, ⟨_, _⟩, ⟨_, _⟩, ⟨_, _⟩, hO7⟩ := (show tI N M O from hI)
  unfold wT_X0_conduct_211
  have := b_le7 hO7
  refine ⟨fun hc4 => ?_, fun hc4 => ?_⟩
  · have := ti_rng a6
    have : (0 : Int32).toInt = 0 := by decide
    have hc49 := congrArg Int32.toInt hc4
    exact hQ _ _ (show tI N M O from hI) (show tK M0 M from hk)
  · have := ti_rng a6
    have : (0 : Int32).toInt = 0 := by decide
    have hc49 := ti_ne hc4
    refine spT_X5_uphold hN _ (show tI N M O from hI) (fun M5 O5 hI hk1 => ?_)
    have hk := tK_tr (show tK M0 M from hk) hk1
    obtain ⟨⟨_, _⟩, ⟨_, _⟩, _, ⟨_, _⟩, ⟨_, _⟩, ⟨_, _⟩, hO7⟩ := (show tI N M5 O5 from hI)
    have := b_le7 hO7
    exact hQ _ _ (show tI N M5 O5 from hI) (show tK M0 M5 from hk)
set_option maxHeartbeats 2000000 in
theorem spT_X0_conduct_205 {N : Nat → Nat} (hN : tN N) (q1 : Int32) (q2 : Int32) (q3 : Int32) {K21 : (Int32 → Int32 → Int32 → Int32 → Int32 → Int32 → Int32 → (Nat → Int32) → (Nat × Nat) → Prop)} {n21 : Nat} {Q : (Nat → Int32) → Nat × Nat → Prop} {M0 : Nat → Int32} (sK21 : ∀ (a1 : Int32) (a2 : Int32) (a3 : Int32) (a4 : Int32) (a5 : Int32) (a6 : Int32) (a7 : Int32) (M : Nat → Int32) (O : Nat × Nat), tI N M O → tK M0 M → (0 ≤ a7.toInt ∧ a7.toInt ≤ 100) → (100 - a7.toInt) + 1 ≤ (n21 : Int) → K21 a1 a2 a3 a4 a5 a6 a7 M O) (hQ : ∀ (M' : Nat → Int32) (O' : Nat × Nat), tI N M' O' → tK M0 M' → Q M' O') (a1 : Int32) (a2 : Int32) (a3 : Int32) (a4 : Int32) (a5 : Int32) (a6 : Int32) (a7 : Int32) (M : Nat → Int32) (O : Nat × Nat) (hI : tI N M O) (hk : tK M0 M) (hbi : ((0 ≤ a7.toInt ∧ a7.toInt ≤ 100) ∧ (100 - a7.toInt) ≤ (n21 : Int) ∧ 1 ≤ (100 - a7.toInt))) : wT_X0_conduct_205 N K21 Q a1 a2 a3 a4 a5 a6 a7 M O := by
  obtain ⟨_, _, _, _, _, _, _, _, _, _, _, _, _⟩ := (show tN N from hN)
  obtain ⟨⟨_, _⟩, ⟨_, _⟩, _, ⟨_, _⟩, ⟨_, _⟩, ⟨_, _⟩, hO7⟩ := (show tI N M O from hI)
  unfold wT_X0_conduct_205
  have := b_le7 hO7
  have := ti_rng a1
  have := ti_rng a2
  have := ti_rng a3
  have := ti_rng a4
  have := ti_rng a5
  have := ti_rng a6
  have := ti_rng a7
  have : (1 : Int32).toInt = 1 := by decide
  first | have := ti_addx a7 1 (by omega) | obtain ⟨_, _, _, _⟩ := ti_add a7 1
  exact sK21 _ _ _ _ _ _ _ _ _ (show tI N M O from hI) (show tK M0 M from hk) (show 0 ≤ (a7 + 1).toInt ∧ (a7 + 1).toInt ≤ 100 from by omega) (show (100 - (a7 + 1).toInt) + 1 ≤ _ from by omega)
set_option maxHeartbeats 2000000 in
theorem spT_X0_conduct_186 {N : Nat → Nat} (hN : tN N) (q1 : Int32) (q2 : Int32) (q3 : Int32) {K21 : (Int32 → Int32 → Int32 → Int32 → Int32 → Int32 → Int32 → (Nat → Int32) → (Nat × Nat) → Prop)} {n21 : Nat} {Q : (Nat → Int32) → Nat × Nat → Prop} {M0 : Nat → Int32} (sK21 : ∀ (a1 : Int32) (a2 : Int32) (a3 : Int32) (a4 : Int32) (a5 : Int32) (a6 : Int32) (a7 : Int32) (M : Nat → Int32) (O : Nat × Nat), tI N M O → tK M0 M → (0 ≤ a7.toInt ∧ a7.toInt ≤ 100) → (100 - a7.toInt) + 1 ≤ (n21 : Int) → K21 a1 a2 a3 a4 a5 a6 a7 M O) (hQ : ∀ (M' : Nat → Int32) (O' : Nat × Nat), tI N M' O' → tK M0 M' → Q M' O') (a1 : Int32) (a2 : Int32) (a3 : Int32) (a4 : Int32) (a5 : Int32) (a6 : Int32) (a7 : Int32) (a10 : Int32) (t0 : Int32) (M : Nat → Int32) (O : Nat × Nat) (hI : tI N M O) (hk : tK M0 M) (hbi : ((0 ≤ a7.toInt ∧ a7.toInt ≤ 100) ∧ (100 - a7.toInt) ≤ (n21 : Int) ∧ 1 ≤ (100 - a7.toInt))) : wT_X0_conduct_186 N K21 Q a1 a2 a3 a4 a5 a6 a7 a10 t0 M O := by
  obtain ⟨_, _, _, _, _, _, _, _, _, _, _, _, _⟩ := (show tN N from hN)
  obtain ⟨⟨_, _⟩, ⟨_, _⟩, _, ⟨_, _⟩, ⟨_, _⟩, ⟨_, _⟩, hO7⟩ := (show tI N M O from hI)
  unfold wT_X0_conduct_186
  have := b_le7 hO7
  have := ti_rng a5
  have := ti_rng a6
  have := ti_rng a10
  have := ti_rng t0
  refine spT_X0_dealtWith hN _ _ _ _ (show tI N M O from hI) (fun r17 M18 O18 hI hk1 => ?_)
  have hk := tK_tr (show tK M0 M from hk) hk1
  obtain ⟨⟨_, _⟩, ⟨_, _⟩, _, ⟨_, _⟩, ⟨_, _⟩, ⟨_, _⟩, hO7⟩ := (show tI N M18 O18 from hI)
  have := b_le7 hO7
  have := ti_rng a1
  have := ti_rng a2
  have := ti_rng a3
  have := ti_rng a4
  have : (1 : Int32).toInt = 1 := by decide
  first | have := ti_addx a5 1 (by omega) | obtain ⟨_, _, _, _⟩ := ti_add a5 1
  have := ti_rng r17
  have := ti_rng a7
  exact spT_X0_conduct_205 hN q1 q2 q3 sK21 hQ _ _ _ _ _ _ _ _ _ (show tI N M18 O18 from hI) (show tK M0 M18 from hk) (show ((0 ≤ a7.toInt ∧ a7.toInt ≤ 100) ∧ (100 - a7.toInt) ≤ (n21 : Int) ∧ 1 ≤ (100 - a7.toInt)) from by omega)
set_option maxHeartbeats 2000000 in
theorem spT_X0_conduct_185 {N : Nat → Nat} (hN : tN N) (q1 : Int32) (q2 : Int32) (q3 : Int32) {K21 : (Int32 → Int32 → Int32 → Int32 → Int32 → Int32 → Int32 → (Nat → Int32) → (Nat × Nat) → Prop)} {n21 : Nat} {Q : (Nat → Int32) → Nat × Nat → Prop} {M0 : Nat → Int32} (sK21 : ∀ (a1 : Int32) (a2 : Int32) (a3 : Int32) (a4 : Int32) (a5 : Int32) (a6 : Int32) (a7 : Int32) (M : Nat → Int32) (O : Nat × Nat), tI N M O → tK M0 M → (0 ≤ a7.toInt ∧ a7.toInt ≤ 100) → (100 - a7.toInt) + 1 ≤ (n21 : Int) → K21 a1 a2 a3 a4 a5 a6 a7 M O) (hQ : ∀ (M' : Nat → Int32) (O' : Nat × Nat), tI N M' O' → tK M0 M' → Q M' O') (a1 : Int32) (a2 : Int32) (a3 : Int32) (a4 : Int32) (a5 : Int32) (a6 : Int32) (a7 : Int32) (a10 : Int32) (M : Nat → Int32) (O : Nat × Nat) (hI : tI N M O) (hk : tK M0 M) (hbi : ((0 ≤ a7.toInt ∧ a7.toInt ≤ 100) ∧ (100 - a7.toInt) ≤ (n21 : Int) ∧ 1 ≤ (100 - a7.toInt))) : wT_X0_conduct_185 N K21 Q a1 a2 a3 a4 a5 a6 a7 a10 M O := by
  obtain ⟨_, _, _, _, _, _, _, _, _, _, _, _, _⟩ := (show tN N from hN)
  obtain ⟨⟨_, _⟩, ⟨_, _⟩, _, ⟨_, _⟩, ⟨_, _⟩, ⟨_, _⟩, hO7⟩ := (show tI N M O from hI)
  unfold wT_X0_conduct_185
  have := b_le7 hO7
  have := ti_rng a1
  have := ti_rng a2
  have := ti_rng a3
  have := ti_rng a4
  have := ti_rng a5
  have := ti_rng a6
  have := ti_rng a7
  have := ti_rng a10
  have : (0 : Int32).toInt = 0 := by decide
  exact spT_X0_conduct_186 hN q1 q2 q3 sK21 hQ _ _ _ _ _ _ _ _ _ _ _ (show tI N M O from hI) (show tK M0 M from hk) (show ((0 ≤ a7.toInt ∧ a7.toInt ≤ 100) ∧ (100 - a7.toInt) ≤ (n21 : Int) ∧ 1 ≤ (100 - a7.toInt)) from by omega)
set_option maxHeartbeats 2000000 in
theorem spT_X0_conduct_109 {N : Nat → Nat} (hN : tN N) (q1 : Int32) (q2 : Int32) (q3 : Int32) {K21 : (Int32 → Int32 → Int32 → Int32 → Int32 → Int32 → Int32 → (Nat → Int32) → (Nat × Nat) → Prop)} {n21 : Nat} {Q : (Nat → Int32) → Nat × Nat → Prop} {M0 : Nat → Int32} (sK21 : ∀ (a1 : Int32) (a2 : Int32) (a3 : Int32) (a4 : Int32) (a5 : Int32) (a6 : Int32) (a7 : Int32) (M : Nat → Int32) (O : Nat × Nat), tI N M O → tK M0 M → (0 ≤ a7.toInt ∧ a7.toInt ≤ 100) → (100 - a7.toInt) + 1 ≤ (n21 : Int) → K21 a1 a2 a3 a4 a5 a6 a7 M O) (hQ : ∀ (M' : Nat → Int32) (O' : Nat × Nat), tI N M' O' → tK M0 M' → Q M' O') (a1 : Int32) (a2 : Int32) (a3 : Int32) (a4 : Int32) (a5 : Int32) (a6 : Int32) (a7 : Int32) (a9 : Int32) (t0 : Int32) (M : Nat → Int32) (O : Nat × Nat) (hI : tI N M O) (hk : tK M0 M) (hbi : ((0 ≤ a7.toInt ∧ a7.toInt ≤ 100) ∧ (100 - a7.toInt) ≤ (n21 : Int) ∧ 1 ≤ (100 - a7.toInt))) : wT_X0_conduct_109 N K21 Q a1 a2 a3 a4 a5 a6 a7 a9 t0 M O := by
  obtain ⟨_, _, _, _, _, _, _, _, _, _, _, _, _⟩ := (show tN N from hN)
  obtain ⟨⟨_, _⟩, ⟨_, _⟩, _, ⟨_, _⟩, ⟨_, _⟩, ⟨_, _⟩, hO7⟩ := (show tI N M O from hI)
  unfold wT_X0_conduct_109
  have := b_le7 hO7
  refine ⟨fun hc15 => ?_, fun hc15 => ?_⟩
  · have := ti_rng t0
    have : (3 : Int32).toInt = 3 := by decide
    have hc159 := ti_ne hc15
    refine ⟨fun hc16 => ?_, fun hc16 => ?_⟩
    · have := ti_rng a9
      have : (0 : Int32).toInt = 0 := by decide
      have hc16 := Int32.lt_iff_toInt_lt.mp hc16
      have := ti_rng a1
      have := ti_rng a2
      have := ti_rng a3
      have := ti_rng a4
      have := ti_rng a5
      have := ti_rng a6
      have := ti_rng a7
      exact spT_X0_conduct_185 hN q1 q2 q3 sK21 hQ _ _ _ _ _ _ _ _ _ _ (show tI N M O from hI) (show tK M0 M from hk) (show ((0 ≤ a7.toInt ∧ a7.toInt ≤ 100) ∧ (100 - a7.toInt) ≤ (n21 : Int) ∧ 1 ≤ (100 - a7.toInt)) from by omega)
    · have := ti_rng a9
      have : (0 : Int32).toInt = 0 := by decide
      have hc16 := ti_nlt hc16
      refine ⟨fun hc19 => ?_, fun hc19 => ?_⟩
      · have := nI_toInt (n := (N 12)) (by omega)
        have hc19 := Int32.le_iff_toInt_le.mp hc19
        have := ti_rng a1
        have := ti_rng a2
        have := ti_rng a3
        have := ti_rng a4
        have := ti_rng a5
        have := ti_rng a6
        have := ti_rng a7
        exact spT_X0_conduct_185 hN q1 q2 q3 sK21 hQ _ _ _ _ _ _ _ _ _ _ (show tI N M O from hI) (show tK M0 M from hk) (show ((0 ≤ a7.toInt ∧ a7.toInt ≤ 100) ∧ (100 - a7.toInt) ≤ (n21 : Int) ∧ 1 ≤ (100 - a7.toInt)) from by omega)
      · have := nI_toInt (n := (N 12)) (by omega)
        have hc19 := ti_nle hc19
        refine ⟨vp_in_iff.mpr (by omega), fun z20 => ?_⟩
        have := ti_rng a1
        have := ti_rng a2
        have := ti_rng a3
        have := ti_rng a4
        have := ti_rng a5
        have := ti_rng a6
        have := ti_rng a7
        have := ti_rng z20
        exact spT_X0_conduct_186 hN q1 q2 q3 sK21 hQ _ _ _ _ _ _ _ _ _ _ _ (show tI N M O from hI) (show tK M0 M from hk) (show ((0 ≤ a7.toInt ∧ a7.toInt ≤ 100) ∧ (100 - a7.toInt) ≤ (n21 : Int) ∧ 1 ≤ (100 - a7.toInt)) from by omega)
  · have := ti_rng t0
    have : (3 : Int32).toInt = 3 := by decide
    have hc159 := congrArg Int32.toInt hc15
    intro z21 hz21
    subst hz21
    have := ti_rng a1
    have := ti_rng a2
    have := ti_rng a3
    refine spT_X8_hold hN _ _ _ (show tI N (um M 37 ((M 37) + 1)) O from hI) (fun r22 M23 O23 hI hk1 => ?_)
    have hk := tK_tr (show tK M0 (um M 37 ((M 37) + 1)) from hk) hk1
    obtain ⟨⟨_, _⟩, ⟨_, _⟩, _, ⟨_, _⟩, ⟨_, _⟩, ⟨_, _⟩, hO7⟩ := (show tI N M23 O23 from hI)
    have := b_le7 hO7
    have := ti_rng (((a4 >>> (a5 &&& 31)) ||| 1) <<< (a5 &&& 31))
    have : (0 : Int32).toInt = 0 := by decide
    have := ti_rng r22
    have := ti_rng a7
    exact spT_X0_conduct_205 hN q1 q2 q3 sK21 hQ _ _ _ _ _ _ _ _ _ (show tI N M23 O23 from hI) (show tK M0 M23 from hk) (show ((0 ≤ a7.toInt ∧ a7.toInt ≤ 100) ∧ (100 - a7.toInt) ≤ (n21 : Int) ∧ 1 ≤ (100 - a7.toInt)) from by omega)
set_option maxHeartbeats 2000000 in
theorem spT_X0_conduct_108 {N : Nat → Nat} (hN : tN N) (q1 : Int32) (q2 : Int32) (q3 : Int32) {K21 : (Int32 → Int32 → Int32 → Int32 → Int32 → Int32 → Int32 → (Nat → Int32) → (Nat × Nat) → Prop)} {n21 : Nat} {Q : (Nat → Int32) → Nat × Nat → Prop} {M0 : Nat → Int32} (sK21 : ∀ (a1 : Int32) (a2 : Int32) (a3 : Int32) (a4 : Int32) (a5 : Int32) (a6 : Int32) (a7 : Int32) (M : Nat → Int32) (O : Nat × Nat), tI N M O → tK M0 M → (0 ≤ a7.toInt ∧ a7.toInt ≤ 100) → (100 - a7.toInt) + 1 ≤ (n21 : Int) → K21 a1 a2 a3 a4 a5 a6 a7 M O) (hQ : ∀ (M' : Nat → Int32) (O' : Nat × Nat), tI N M' O' → tK M0 M' → Q M' O') (a1 : Int32) (a2 : Int32) (a3 : Int32) (a4 : Int32) (a5 : Int32) (a6 : Int32) (a7 : Int32) (a9 : Int32) (M : Nat → Int32) (O : Nat × Nat) (hI : tI N M O) (hk : tK M0 M) (hbi : ((0 ≤ a7.toInt ∧ a7.toInt ≤ 100) ∧ (100 - a7.toInt) ≤ (n21 : Int) ∧ 1 ≤ (100 - a7.toInt))) : wT_X0_conduct_108 N K21 Q a1 a2 a3 a4 a5 a6 a7 a9 M O := by
  obtain ⟨_, _, _, _, _, _, _, _, _, _, _, _, _⟩ := (show tN N from hN)
  obtain ⟨⟨_, _⟩, ⟨_, _⟩, _, ⟨_, _⟩, ⟨_, _⟩, ⟨_, _⟩, hO7⟩ := (show tI N M O from hI)
  unfold wT_X0_conduct_108
  have := b_le7 hO7
  have := ti_rng a1
  have := ti_rng a2
  have := ti_rng a3
  have := ti_rng a4
  have := ti_rng a5
  have := ti_rng a6
  have := ti_rng a7
  have := ti_rng a9
  have : (0 : Int32).toInt = 0 := by decide
  exact spT_X0_conduct_109 hN q1 q2 q3 sK21 hQ _ _ _ _ _ _ _ _ _ _ _ (show tI N M O from hI) (show tK M0 M from hk) (show ((0 ≤ a7.toInt ∧ a7.toInt ≤ 100) ∧ (100 - a7.toInt) ≤ (n21 : Int) ∧ 1 ≤ (100 - a7.toInt)) from by omega)
set_option maxHeartbeats 2000000 in
theorem spT_X0_conduct_81 {N : Nat → Nat} (hN : tN N) (q1 : Int32) (q2 : Int32) (q3 : Int32) {K21 : (Int32 → Int32 → Int32 → Int32 → Int32 → Int32 → Int32 → (Nat → Int32) → (Nat × Nat) → Prop)} {n21 : Nat} {Q : (Nat → Int32) → Nat × Nat → Prop} {M0 : Nat → Int32} (sK21 : ∀ (a1 : Int32) (a2 : Int32) (a3 : Int32) (a4 : Int32) (a5 : Int32) (a6 : Int32) (a7 : Int32) (M : Nat → Int32) (O : Nat × Nat), tI N M O → tK M0 M → (0 ≤ a7.toInt ∧ a7.toInt ≤ 100) → (100 - a7.toInt) + 1 ≤ (n21 : Int) → K21 a1 a2 a3 a4 a5 a6 a7 M O) (hQ : ∀ (M' : Nat → Int32) (O' : Nat × Nat), tI N M' O' → tK M0 M' → Q M' O') (a1 : Int32) (a2 : Int32) (a3 : Int32) (a4 : Int32) (a5 : Int32) (a6 : Int32) (a7 : Int32) (t0 : Int32) (M : Nat → Int32) (O : Nat × Nat) (hI : tI N M O) (hk : tK M0 M) (hbi : ((0 ≤ a7.toInt ∧ a7.toInt ≤ 100) ∧ (100 - a7.toInt) ≤ (n21 : Int) ∧ 1 ≤ (100 - a7.toInt))) : wT_X0_conduct_81 N K21 Q a1 a2 a3 a4 a5 a6 a7 t0 M O := by
  obtain ⟨_, _, _, _, _, _, _, _, _, _, _, _, _⟩ := (show tN N from hN)
  obtain ⟨⟨_, _⟩, ⟨_, _⟩, _, ⟨_, _⟩, ⟨_, _⟩, ⟨_, _⟩, hO7⟩ := (show tI N M O from hI)
  unfold wT_X0_conduct_81
  have := b_le7 hO7
  refine ⟨fun hc14 => ?_, fun hc14 => ?_⟩
  · have := ti_rng t0
    have : (0 : Int32).toInt = 0 := by decide
    have hc14 := Int32.lt_iff_toInt_lt.mp hc14
    have := ti_rng a1
    have := ti_rng a2
    have := ti_rng a3
    have := ti_rng a4
    have := ti_rng a5
    have := ti_rng a6
    have := ti_rng a7
    exact spT_X0_conduct_108 hN q1 q2 q3 sK21 hQ _ _ _ _ _ _ _ _ _ _ (show tI N M O from hI) (show tK M0 M from hk) (show ((0 ≤ a7.toInt ∧ a7.toInt ≤ 100) ∧ (100 - a7.toInt) ≤ (n21 : Int) ∧ 1 ≤ (100 - a7.toInt)) from by omega)
  · have := ti_rng t0
    have : (0 : Int32).toInt = 0 := by decide
    have hc14 := ti_nlt hc14
    refine ⟨fun hc24 => ?_, fun hc24 => ?_⟩
    · have := nI_toInt (n := (N 11)) (by omega)
      have hc24 := Int32.le_iff_toInt_le.mp hc24
      have := ti_rng a1
      have := ti_rng a2
      have := ti_rng a3
      have := ti_rng a4
      have := ti_rng a5
      have := ti_rng a6
      have := ti_rng a7
      exact spT_X0_conduct_108 hN q1 q2 q3 sK21 hQ _ _ _ _ _ _ _ _ _ _ (show tI N M O from hI) (show tK M0 M from hk) (show ((0 ≤ a7.toInt ∧ a7.toInt ≤ 100) ∧ (100 - a7.toInt) ≤ (n21 : Int) ∧ 1 ≤ (100 - a7.toInt)) from by omega)
    · have := nI_toInt (n := (N 11)) (by omega)
      have hc24 := ti_nle hc24
      refine ⟨vp_in_iff.mpr (by omega), fun z25 => ?_⟩
      have := ti_rng a1
      have := ti_rng a2
      have := ti_rng a3
      have := ti_rng a4
      have := ti_rng a5
      have := ti_rng a6
      have := ti_rng a7
      have := ti_rng z25
      exact spT_X0_conduct_109 hN q1 q2 q3 sK21 hQ _ _ _ _ _ _ _ _ _ _ _ (show tI N M O from hI) (show tK M0 M from hk) (show ((0 ≤ a7.toInt ∧ a7.toInt ≤ 100) ∧ (100 - a7.toInt) ≤ (n21 : Int) ∧ 1 ≤ (100 - a7.toInt)) from by omega)
set_option maxHeartbeats 2000000 in
theorem spT_X0_conduct_55 {N : Nat → Nat} (hN : tN N) (q1 : Int32) (q2 : Int32) (q3 : Int32) {K21 : (Int32 → Int32 → Int32 → Int32 → Int32 → Int32 → Int32 → (Nat → Int32) → (Nat × Nat) → Prop)} {n21 : Nat} {Q : (Nat → Int32) → Nat × Nat → Prop} {M0 : Nat → Int32} (sK21 : ∀ (a1 : Int32) (a2 : Int32) (a3 : Int32) (a4 : Int32) (a5 : Int32) (a6 : Int32) (a7 : Int32) (M : Nat → Int32) (O : Nat × Nat), tI N M O → tK M0 M → (0 ≤ a7.toInt ∧ a7.toInt ≤ 100) → (100 - a7.toInt) + 1 ≤ (n21 : Int) → K21 a1 a2 a3 a4 a5 a6 a7 M O) (hQ : ∀ (M' : Nat → Int32) (O' : Nat × Nat), tI N M' O' → tK M0 M' → Q M' O') (a1 : Int32) (a2 : Int32) (a3 : Int32) (a4 : Int32) (a5 : Int32) (a6 : Int32) (a7 : Int32) (t0 : Int32) (M : Nat → Int32) (O : Nat × Nat) (hI : tI N M O) (hk : tK M0 M) (hbi : ((0 ≤ a7.toInt ∧ a7.toInt ≤ 100) ∧ (100 - a7.toInt) ≤ (n21 : Int) ∧ 1 ≤ (100 - a7.toInt))) : wT_X0_conduct_55 N K21 Q a1 a2 a3 a4 a5 a6 a7 t0 M O := by
  obtain ⟨_, _, _, _, _, _, _, _, _, _, _, _, _⟩ := (show tN N from hN)
  obtain ⟨⟨_, _⟩, ⟨_, _⟩, _, ⟨_, _⟩, ⟨_, _⟩, ⟨_, _⟩, hO7⟩ := (show tI N M O from hI)
  unfold wT_X0_conduct_55
  have := b_le7 hO7
  refine ⟨fun hc9 => ?_, fun hc9 => ?_⟩
  · have := ti_rng t0
    have : (0 : Int32).toInt = 0 := by decide
    have hc99 := congrArg Int32.toInt hc9
    have := ti_rng a6
    refine spT_X2_kindOf hN _ (show tI N M O from hI) (fun r10 => ?_)
    have := ti_rng a5
    have := ti_rng r10
    refine spT_X0_policyIndex hN _ _ (show tI N M O from hI) (fun r12 => ?_)
    have := ti_rng a1
    have := ti_rng a2
    have := ti_rng a3
    have := ti_rng a4
    have := ti_rng a7
    have := ti_rng r12
    exact spT_X0_conduct_81 hN q1 q2 q3 sK21 hQ _ _ _ _ _ _ _ _ _ _ (show tI N M O from hI) (show tK M0 M from hk) (show ((0 ≤ a7.toInt ∧ a7.toInt ≤ 100) ∧ (100 - a7.toInt) ≤ (n21 : Int) ∧ 1 ≤ (100 - a7.toInt)) from by omega)
  · have := ti_rng t0
    have : (0 : Int32).toInt = 0 := by decide
    have hc99 := ti_ne hc9
    have := ti_rng a1
    have := ti_rng a2
    have := ti_rng a3
    have := ti_rng a4
    have := ti_rng a5
    have := ti_rng a6
    have := ti_rng a7
    have : ((-1) : Int32).toInt = -1 := by decide
    exact spT_X0_conduct_81 hN q1 q2 q3 sK21 hQ _ _ _ _ _ _ _ _ _ _ (show tI N M O from hI) (show tK M0 M from hk) (show ((0 ≤ a7.toInt ∧ a7.toInt ≤ 100) ∧ (100 - a7.toInt) ≤ (n21 : Int) ∧ 1 ≤ (100 - a7.toInt)) from by omega)
set_option maxHeartbeats 2000000 in
theorem spT_X0_conduct_21 {N : Nat → Nat} (hN : tN N) (q1 : Int32) (q2 : Int32) (q3 : Int32) {Q : (Nat → Int32) → Nat × Nat → Prop} {M0 : Nat → Int32} (hQ : ∀ (M' : Nat → Int32) (O' : Nat × Nat), tI N M' O' → tK M0 M' → Q M' O') : ∀ (n21 : Nat) (a1 : Int32) (a2 : Int32) (a3 : Int32) (a4 : Int32) (a5 : Int32) (a6 : Int32) (a7 : Int32) (M : Nat → Int32) (O : Nat × Nat), tI N M O → tK M0 M → (0 ≤ a7.toInt ∧ a7.toInt ≤ 100) → (100 - a7.toInt) + 1 ≤ (n21 : Int) → wT_X0_conduct_21 N Q n21 a1 a2 a3 a4 a5 a6 a7 M O := by
  obtain ⟨_, _, _, _, _, _, _, _, _, _, _, _, _⟩ := (show tN N from hN)
  intro n21
  induction n21 with
  | zero => intro a1 a2 a3 a4 a5 a6 a7 M O hI hk hv hn; exact absurd hn (by omega)
  | succ n21 ih =>
    intro a1 a2 a3 a4 a5 a6 a7 M O hI hk hv hn
    obtain ⟨⟨_, _⟩, ⟨_, _⟩, _, ⟨_, _⟩, ⟨_, _⟩, ⟨_, _⟩, hO7⟩ := (show tI N M O from hI)
    dsimp only [wT_X0_conduct_21]
    have := b_le7 hO7
    refine ⟨fun hc3 => ?_, fun hc3 => ?_⟩
    · have : (100 : Int32).toInt = 100 := by decide
      have := ti_rng a7
      have hc3 := Int32.le_iff_toInt_le.mp hc3
      have := ti_rng a6
      exact spT_X0_conduct_211 hN q1 q2 q3 hQ _ _ _ (show tI N M O from hI) (show tK M0 M from hk)
    · have : (100 : Int32).toInt = 100 := by decide
      have := ti_rng a7
      have hc3 := ti_nle hc3
      refine ⟨fun hc6 => ?_, fun hc6 => ?_⟩
      · have := ti_rng a6
        have : (0 : Int32).toInt = 0 := by decide
        have hc69 := congrArg Int32.toInt hc6
        exact spT_X0_conduct_211 hN q1 q2 q3 hQ _ _ _ (show tI N M O from hI) (show tK M0 M from hk)
      · have := ti_rng a6
        have : (0 : Int32).toInt = 0 := by decide
        have hc69 := ti_ne hc6
        refine ⟨fun hc7 => ?_, fun hc7 => ?_⟩
        · have : (3 : Int32).toInt = 3 := by decide
          have := ti_rng a5
          have hc7 := Int32.le_iff_toInt_le.mp hc7
          exact spT_X0_conduct_211 hN q1 q2 q3 hQ _ _ _ (show tI N M O from hI) (show tK M0 M from hk)
        · have : (3 : Int32).toInt = 3 := by decide
          have := ti_rng a5
          have hc7 := ti_nle hc7
          refine ⟨fun hc8 => ?_, fun hc8 => ?_⟩
          · have := ti_rng ((a4 >>> (a5 &&& 31)) &&& 1)
            have : (1 : Int32).toInt = 1 := by decide
            have hc89 := ti_ne hc8
            have := ti_rng a1
            have := ti_rng a2
            have := ti_rng a3
            have := ti_rng a4
            exact spT_X0_conduct_55 hN q1 q2 q3 ih hQ _ _ _ _ _ _ _ _ _ _ (show tI N M O from hI) (show tK M0 M from hk) (show ((0 ≤ a7.toInt ∧ a7.toInt ≤ 100) ∧ (100 - a7.toInt) ≤ (n21 : Int) ∧ 1 ≤ (100 - a7.toInt)) from by omega)
          · have := ti_rng ((a4 >>> (a5 &&& 31)) &&& 1)
            have : (1 : Int32).toInt = 1 := by decide
            have hc89 := congrArg Int32.toInt hc8
            have := ti_rng a1
            have := ti_rng a2
            have := ti_rng a3
            have := ti_rng a4
            exact spT_X0_conduct_55 hN q1 q2 q3 ih hQ _ _ _ _ _ _ _ _ _ _ (show tI N M O from hI) (show tK M0 M from hk) (show ((0 ≤ a7.toInt ∧ a7.toInt ≤ 100) ∧ (100 - a7.toInt) ≤ (n21 : Int) ∧ 1 ≤ (100 - a7.toInt)) from by omega)
set_option maxHeartbeats 2000000 in
theorem spT_X0_conduct {N : Nat → Nat} (hN : tN N) (q1 : Int32) (q2 : Int32) (q3 : Int32) {M0 : Nat → Int32} {O : Nat × Nat} {Q : (Nat → Int32) → Nat × Nat → Prop} (hI : tI N M0 O) (hQ : ∀ (M' : Nat → Int32) (O' : Nat × Nat), tI N M' O' → tK M0 M' → Q M' O') : wT_X0_conduct N q1 q2 q3 M0 O Q := by
  obtain ⟨_, _, _, _, _, _, _, _, _, _, _, _, _⟩ := (show tN N from hN)
  obtain ⟨⟨_, _⟩, ⟨_, _⟩, _, ⟨_, _⟩, ⟨_, _⟩, ⟨_, _⟩, hO7⟩ := (show tI N M0 O from hI)
  have hk : tK M0 M0 := tK_rf M0
  have hQ1 := hQ
  unfold wT_X0_conduct
  have := b_le7 hO7
  have := ti_rng q1
  have := ti_rng q2
  have := ti_rng q3
  refine spT_X8_hold hN _ _ _ (show tI N M0 O from hI) (fun r1 M2 O2 hI hk1 => ?_)
  have hk := tK_tr (show tK M0 M0 from hk) hk1
  obtain ⟨⟨_, _⟩, ⟨_, _⟩, _, ⟨_, _⟩, ⟨_, _⟩, ⟨_, _⟩, hO7⟩ := (show tI N M2 O2 from hI)
  have := b_le7 hO7
  have : (0 : Int32).toInt = 0 := by decide
  have := ti_rng r1
  exact ⟨((100 - (0 : Int32).toInt) + 1).toNat, spT_X0_conduct_21 hN q1 q2 q3 hQ _ _ _ _ _ _ _ _ _ _ (show tI N M2 O2 from hI) (show tK M0 M2 from hk) (show 0 ≤ (0 : Int32).toInt ∧ (0 : Int32).toInt ≤ 100 from by omega) (show (100 - (0 : Int32).toInt) + 1 ≤ _ from by omega)⟩

