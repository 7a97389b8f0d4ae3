set_option maxHeartbeats 2000000 in
theorem spT_X2_makeInTrial {N : Nat → Nat} (hN : tN N) (q1 : Int32) (q2 : Int32) (q3 : Int32) (q4 : Int32) {M0 : Nat → Int32} {O : Nat × Nat} {Q : Int32 → (Nat → Int32) → Nat × Nat → Prop} (hI : tI N M0 O) (hQ : ∀ (r : Int32) (M' : Nat → Int32) (O' : Nat × Nat), tI N M' O' → tK M0 M' → Q r M' O') : wT_X2_makeInTrial N q1 q2 q3 q4 M0 O Q := by
  obtain ⟨_, _, _, _, _, _, _, _, _, _, _, _, _⟩ := (show tN N from hN)
  obtain ⟨⟨_, _⟩, ⟨_, _⟩, _, ⟨_, _⟩, ⟨_, _⟩, ⟨_, _⟩, hO7⟩ := (show tI N M0 O from hI)
  have hk : tK M0 M0 := tK_rf M0
  have hQ1 := hQ
  unfold wT_X2_makeInTrial
  have := b_le7 hO7
  refine ⟨fun hc1 => ?_, fun hc1 => ?_⟩
  · have := ti_rng (M0 22)
    have := ti_rng (M0 21)
    first | have := ti_subx (M0 22) (M0 21) (by omega) | obtain ⟨_, _, _, _⟩ := ti_sub (M0 22) (M0 21)
    have : (100 : Int32).toInt = 100 := by decide
    have hc1 := Int32.lt_iff_toInt_lt.mp hc1
    have := ti_rng q1
    have := ti_rng q2
    have := ti_rng q3
    have := ti_rng q4
    refine spT_X2_make hN _ _ _ _ (show tI N M0 O from hI) (fun r2 M3 O3 hI hk1 => ?_)
    have hk := tK_tr (show tK M0 M0 from hk) hk1
    obtain ⟨⟨_, _⟩, ⟨_, _⟩, _, ⟨_, _⟩, ⟨_, _⟩, ⟨_, _⟩, hO7⟩ := (show tI N M3 O3 from hI)
    have := b_le7 hO7
    exact hQ _ _ _ (show tI N M3 O3 from hI) (show tK M0 M3 from hk)
  · have := ti_rng (M0 22)
    have := ti_rng (M0 21)
    first | have := ti_subx (M0 22) (M0 21) (by omega) | obtain ⟨_, _, _, _⟩ := ti_sub (M0 22) (M0 21)
    have : (100 : Int32).toInt = 100 := by decide
    have hc1 := ti_nlt hc1
    exact hQ _ _ _ (show tI N M0 O from hI) (show tK M0 M0 from hk)
set_option maxHeartbeats 2000000 in
theorem spT_X8_raiseNew {N : Nat → Nat} (hN : tN N) (q1 : Int32) (q2 : Int32) {M0 : Nat → Int32} {O : Nat × Nat} {Q : (Nat → Int32) → Nat × Nat → Prop} (hI : tI N M0 O) (hQ : ∀ (M' : Nat → Int32) (O' : Nat × Nat), tI N M' O' → tK M0 M' → Q M' O') : wT_X8_raiseNew N q1 q2 M0 O Q := by
  obtain ⟨_, _, _, _, _, _, _, _, _, _, _, _, _⟩ := (show tN N from hN)
  obtain ⟨⟨_, _⟩, ⟨_, _⟩, _, ⟨_, _⟩, ⟨_, _⟩, ⟨_, _⟩, hO7⟩ := (show tI N M0 O from hI)
  have hk : tK M0 M0 := tK_rf M0
  have hQ1 := hQ
  unfold wT_X8_raiseNew
  have := b_le7 hO7
  have := ti_rng q1
  have := ti_rng q2
  have : (0 : Int32).toInt = 0 := by decide
  have : ((-1) : Int32).toInt = -1 := by decide
  refine spT_X2_makeInTrial hN _ _ _ _ (show tI N M0 O from hI) (fun r1 M2 O2 hI hk1 => ?_)
  have hk := tK_tr (show tK M0 M0 from hk) hk1
  obtain ⟨⟨_, _⟩, ⟨_, _⟩, _, ⟨_, _⟩, ⟨_, _⟩, ⟨_, _⟩, hO7⟩ := (show tI N M2 O2 from hI)
  have := b_le7 hO7
  refine ⟨fun hc3 => ?_, fun hc3 => ?_⟩
  · have := ti_rng r1
    have hc39 := ti_ne hc3
    exact hQ _ _ (show tI N (um M2 54 r1) O2 from hI) (show tK M0 (um M2 54 r1) from hk)
  · have := ti_rng r1
    have hc39 := congrArg Int32.toInt hc3
    exact hQ _ _ (show tI N (um (um M2 54 r1) 53 3) O2 from hI) (show tK M0 (um (um M2 54 r1) 53 3) from hk)
set_option maxHeartbeats 2000000 in
theorem spT_X8_ofTwoNumbers {N : Nat → Nat} (hN : tN N) (q0 : Int32) (q1 : Int32) (q2 : Int32) {M0 : Nat → Int32} {O : Nat × Nat} {Q : Int32 → (Nat → Int32) → Nat × Nat → Prop} (hI : tI N M0 O) (hQ : ∀ (r : Int32) , Q r M0 O) : wT_X8_ofTwoNumbers N q0 q1 q2 M0 O Q := by
  obtain ⟨_, _, _, _, _, _, _, _, _, _, _, _, _⟩ := (show tN N from hN)
  obtain ⟨⟨_, _⟩, ⟨_, _⟩, _, ⟨_, _⟩, ⟨_, _⟩, ⟨_, _⟩, hO7⟩ := (show tI N M0 O from hI)
  have hk : tK M0 M0 := tK_rf M0
  have hQ1 := hQ
  unfold wT_X8_ofTwoNumbers
  have := b_le7 hO7
  refine ⟨fun hsw => ?_, fun hsw => ?_, fun hsw => ?_, fun hsw => ?_, fun hsw => ?_, fun hsw => ?_, fun hsw => ?_, fun hsw0 hsw1 hsw2 hsw3 hsw4 hsw5 hsw6 => ?_⟩
  · have := ti_rng q0
    have : (14 : Int32).toInt = 14 := by decide
    have hsw9 := congrArg Int32.toInt hsw
    exact hQ1 _
  · have := ti_rng q0
    have : (15 : Int32).toInt = 15 := by decide
    have hsw9 := congrArg Int32.toInt hsw
    exact hQ1 _
  · have := ti_rng q0
    have : (16 : Int32).toInt = 16 := by decide
    have hsw9 := congrArg Int32.toInt hsw
    exact hQ1 _
  · have := ti_rng q0
    have : (17 : Int32).toInt = 17 := by decide
    have hsw9 := congrArg Int32.toInt hsw
    refine ⟨fun hc1 => ?_, fun hc1 => ?_⟩
    · have := ti_rng q2
      have : (0 : Int32).toInt = 0 := by decide
      have hc19 := ti_ne hc1
      refine ⟨by assumption, ?_⟩
      exact hQ1 _
    · have := ti_rng q2
      have : (0 : Int32).toInt = 0 := by decide
      have hc19 := congrArg Int32.toInt hc1
      exact hQ1 _
  · have := ti_rng q0
    have : (18 : Int32).toInt = 18 := by decide
    have hsw9 := congrArg Int32.toInt hsw
    refine ⟨fun hc2 => ?_, fun hc2 => ?_⟩
    · have := ti_rng q2
      have : (0 : Int32).toInt = 0 := by decide
      have hc29 := ti_ne hc2
      refine ⟨by assumption, ?_⟩
      exact hQ1 _
    · have := ti_rng q2
      have : (0 : Int32).toInt = 0 := by decide
      have hc29 := congrArg Int32.toInt hc2
      exact hQ1 _
  · have := ti_rng q0
    have : (19 : Int32).toInt = 19 := by decide
    have hsw9 := congrArg Int32.toInt hsw
    refine ⟨fun hc3 => ?_, fun hc3 => ?_⟩
    · have := ti_rng q2
      have := ti_rng q1
      have hc3 := Int32.le_iff_toInt_le.mp hc3
      exact hQ1 _
    · have := ti_rng q2
      have := ti_rng q1
      have hc3 := ti_nle hc3
      exact hQ1 _
  · have := ti_rng q0
    have : (20 : Int32).toInt = 20 := by decide
    have hsw9 := congrArg Int32.toInt hsw
    refine ⟨fun hc4 => ?_, fun hc4 => ?_⟩
    · have := ti_rng q1
      have := ti_rng q2
      have hc49 := ti_ne hc4
      exact hQ1 _
    · have := ti_rng q1
      have := ti_rng q2
      have hc49 := congrArg Int32.toInt hc4
      exact hQ1 _
  · have := ti_rng q0
    refine ⟨fun hc5 => ?_, fun hc5 => ?_⟩
    · have := ti_rng q1
      have := ti_rng q2
      have hc59 := congrArg Int32.toInt hc5
      exact hQ1 _
    · have := ti_rng q1
      have := ti_rng q2
      have hc59 := ti_ne hc5
      exact hQ1 _
set_option maxHeartbeats 2000000 in
theorem spT_X8_doTwoNumbers_34 {N : Nat → Nat} (hN : tN N) (q1 : Int32) {Q : (Nat → Int32) → Nat × Nat → Prop} {M0 : Nat → Int32} (hQ : ∀ (M' : Nat → Int32) (O' : Nat × Nat), tI N M' O' → tK M0 M' → Q M' O') (a1 : Int32) (a2 : Int32) (a3 : Int32) (M : Nat → Int32) (O : Nat × Nat) (hI : tI N M O) (hk : tK M0 M) : wT_X8_doTwoNumbers_34 N Q a1 a2 a3 M O := by
  obtain ⟨_, _, _, _, _, _, _, _, _, _, _, _, _⟩ := (show tN N from hN)
  obtain ⟨⟨_, _⟩, ⟨_, _⟩, _, ⟨_, _⟩, ⟨_, _⟩, ⟨_, _⟩, hO7⟩ := (show tI N M O from hI)
  unfold wT_X8_doTwoNumbers_34
  have := b_le7 hO7
  have := ti_rng a1
  have := ti_rng a3
  have := ti_rng a2
  refine spT_X8_ofTwoNumbers hN _ _ _ (show tI N M O from hI) (fun r6 => ?_)
  have := ti_rng r6
  refine spT_X8_push hN _ (show tI N M O from hI) (fun M8 O8 hI hk1 => ?_)
  have hk := tK_tr (show tK M0 M from hk) hk1
  obtain ⟨⟨_, _⟩, ⟨_, _⟩, _, ⟨_, _⟩, ⟨_, _⟩, ⟨_, _⟩, hO7⟩ := (show tI N M8 O8 from hI)
  have := b_le7 hO7
  exact hQ _ _ (show tI N M8 O8 from hI) (show tK M0 M8 from hk)
set_option maxHeartbeats 2000000 in
theorem spT_X8_doTwoNumbers_26 {N : Nat → Nat} (hN : tN N) (q1 : Int32) {Q : (Nat → Int32) → Nat × Nat → Prop} {M0 : Nat → Int32} (hQ : ∀ (M' : Nat → Int32) (O' : Nat × Nat), tI N M' O' → tK M0 M' → Q M' O') (M : Nat → Int32) (O : Nat × Nat) (hI : tI N M O) (hk : tK M0 M) : wT_X8_doTwoNumbers_26 N Q M O := by
  obtain ⟨_, _, _, _, _, _, _, _, _, _, _, _, _⟩ := (show tN N from hN)
  obtain ⟨⟨_, _⟩, ⟨_, _⟩, _, ⟨_, _⟩, ⟨_, _⟩, ⟨_, _⟩, hO7⟩ := (show tI N M O from hI)
  unfold wT_X8_doTwoNumbers_26
  have := b_le7 hO7
  have : (6 : Int32).toInt = 6 := by decide
  have : (3 : Int32).toInt = 3 := by decide
  refine spT_X8_raiseNew hN _ _ (show tI N M O from hI) (fun M10 O10 hI hk1 => ?_)
  have hk := tK_tr (show tK M0 M from hk) hk1
  obtain ⟨⟨_, _⟩, ⟨_, _⟩, _, ⟨_, _⟩, ⟨_, _⟩, ⟨_, _⟩, hO7⟩ := (show tI N M10 O10 from hI)
  have := b_le7 hO7
  exact hQ _ _ (show tI N M10 O10 from hI) (show tK M0 M10 from hk)
set_option maxHeartbeats 2000000 in
theorem spT_X8_doTwoNumbers {N : Nat → Nat} (hN : tN N) (q1 : Int32) {M0 : Nat → Int32} {O : Nat × Nat} {Q : (Nat → Int32) → Nat × Nat → Prop} (hI : tI N M0 O) (hQ : ∀ (M' : Nat → Int32) (O' : Nat × Nat), tI N M' O' → tK M0 M' → Q M' O') : wT_X8_doTwoNumbers N q1 M0 O Q := by
  obtain ⟨_, _, _, _, _, _, _, _, _, _, _, _, _⟩ := (show tN N from hN)
  obtain ⟨⟨_, _⟩, ⟨_, _⟩, _, ⟨_, _⟩, ⟨_, _⟩, ⟨_, _⟩, hO7⟩ := (show tI N M0 O from hI)
  have hk : tK M0 M0 := tK_rf M0
  have hQ1 := hQ
  unfold wT_X8_doTwoNumbers
  have := b_le7 hO7
  refine spT_X8_pop hN  (show tI N M0 O from hI) (fun r1 M2 O2 hI hk1 => ?_)
  have hk := tK_tr (show tK M0 M0 from hk) hk1
  obtain ⟨⟨_, _⟩, ⟨_, _⟩, _, ⟨_, _⟩, ⟨_, _⟩, ⟨_, _⟩, hO7⟩ := (show tI N M2 O2 from hI)
  have := b_le7 hO7
  refine spT_X8_pop hN  (show tI N M2 O2 from hI) (fun r3 M4 O4 hI hk1 => ?_)
  have hk := tK_tr (show tK M0 M2 from hk) hk1
  obtain ⟨⟨_, _⟩, ⟨_, _⟩, _, ⟨_, _⟩, ⟨_, _⟩, ⟨_, _⟩, hO7⟩ := (show tI N M4 O4 from hI)
  have := b_le7 hO7
  refine ⟨fun hc5 => ?_, fun hc5 => ?_⟩
  · have := ti_rng r1
    have : (0 : Int32).toInt = 0 := by decide
    have hc59 := ti_ne hc5
    have := ti_rng q1
    have := ti_rng r3
    exact spT_X8_doTwoNumbers_34 hN q1 hQ _ _ _ _ _ (show tI N M4 O4 from hI) (show tK M0 M4 from hk)
  · have := ti_rng r1
    have : (0 : Int32).toInt = 0 := by decide
    have hc59 := congrArg Int32.toInt hc5
    refine ⟨fun hc9 => ?_, fun hc9 => ?_⟩
    · have := ti_rng q1
      have : (17 : Int32).toInt = 17 := by decide
      have hc99 := congrArg Int32.toInt hc9
      exact spT_X8_doTwoNumbers_26 hN q1 hQ _ _ (show tI N M4 O4 from hI) (show tK M0 M4 from hk)
    · have := ti_rng q1
      have : (17 : Int32).toInt = 17 := by decide
      have hc99 := ti_ne hc9
      refine ⟨fun hc11 => ?_, fun hc11 => ?_⟩
      · have : (18 : Int32).toInt = 18 := by decide
        have hc119 := ti_ne hc11
        have := ti_rng r3
        exact spT_X8_doTwoNumbers_34 hN q1 hQ _ _ _ _ _ (show tI N M4 O4 from hI) (show tK M0 M4 from hk)
      · have : (18 : Int32).toInt = 18 := by decide
        have hc119 := congrArg Int32.toInt hc11
        exact spT_X8_doTwoNumbers_26 hN q1 hQ _ _ (show tI N M4 O4 from hI) (show tK M0 M4 from hk)
set_option maxHeartbeats 2000000 in
theorem spT_X8_objectAt {N : Nat → Nat} (hN : tN N) (q1 : Int32) {M0 : Nat → Int32} {O : Nat × Nat} {Q : Int32 → (Nat → Int32) → Nat × Nat → Prop} (hI : tI N M0 O) (hQ : ∀ (r : Int32) , Q r M0 O) : wT_X8_objectAt N q1 M0 O Q := by
  obtain ⟨_, _, _, _, _, _, _, _, _, _, _, _, _⟩ := (show tN N from hN)
  obtain ⟨⟨_, _⟩, ⟨_, _⟩, _, ⟨_, _⟩, ⟨_, _⟩, ⟨_, _⟩, hO7⟩ := (show tI N M0 O from hI)
  have hk : tK M0 M0 := tK_rf M0
  have hQ1 := hQ
  unfold wT_X8_objectAt
  have := b_le7 hO7
  refine ⟨fun hc1 => ?_, fun hc1 => ?_⟩
  · have := ti_rng q1
    have : ((-1) : Int32).toInt = -1 := by decide
    have hc19 := congrArg Int32.toInt hc1
    exact hQ1 _
  · have := ti_rng q1
    have : ((-1) : Int32).toInt = -1 := by decide
    have hc19 := ti_ne hc1
    refine ⟨fun hc2 => ?_, fun hc2 => ?_⟩
    · have := ti_rng (M0 50)
      have : (1 : Int32).toInt = 1 := by decide
      first | have := ti_subx (M0 50) 1 (by omega) | obtain ⟨_, _, _, _⟩ := ti_sub (M0 50) 1
      have : (8 : Int32).toInt = 8 := by decide
      first | have := ti_mulx ((M0 50) - 1) 8 8 (by decide) (by omega) | obtain ⟨_, _, _, _⟩ := ti_mulc ((M0 50) - 1) 8 8 (by decide)
      first | have := ti_addx (((M0 50) - 1) * 8) q1 (by omega) | obtain ⟨_, _, _, _⟩ := ti_add (((M0 50) - 1) * 8) q1
      have : (0 : Int32).toInt = 0 := by decide
      have hc2 := Int32.lt_iff_toInt_lt.mp hc2
      exact hQ1 _
    · have := ti_rng (M0 50)
      have : (1 : Int32).toInt = 1 := by decide
      first | have := ti_subx (M0 50) 1 (by omega) | obtain ⟨_, _, _, _⟩ := ti_sub (M0 50) 1
      have : (8 : Int32).toInt = 8 := by decide
      first | have := ti_mulx ((M0 50) - 1) 8 8 (by decide) (by omega) | obtain ⟨_, _, _, _⟩ := ti_mulc ((M0 50) - 1) 8 8 (by decide)
      first | have := ti_addx (((M0 50) - 1) * 8) q1 (by omega) | obtain ⟨_, _, _, _⟩ := ti_add (((M0 50) - 1) * 8) q1
      have : (0 : Int32).toInt = 0 := by decide
      have hc2 := ti_nlt hc2
      refine ⟨fun hc3 => ?_, fun hc3 => ?_⟩
      · have := nI_toInt (n := (N 16)) (by omega)
        have hc3 := Int32.le_iff_toInt_le.mp hc3
        exact hQ1 _
      · have := nI_toInt (n := (N 16)) (by omega)
        have hc3 := ti_nle hc3
        refine ⟨vp_in_iff.mpr (by omega), fun z4 => ?_⟩
        exact hQ1 _
set_option maxHeartbeats 2000000 in
theorem spT_X2_get {N : Nat → Nat} (hN : tN N) (q1 : Int32) (q2 : Int32) {M0 : Nat → Int32} {O : Nat × Nat} {Q : Int32 → (Nat → Int32) → Nat × Nat → Prop} (hI : tI N M0 O) (hQ : ∀ (r : Int32) , Q r M0 O) : wT_X2_get N q1 q2 M0 O Q := by
  obtain ⟨_, _, _, _, _, _, _, _, _, _, _, _, _⟩ := (show tN N from hN)
  obtain ⟨⟨_, _⟩, ⟨_, _⟩, _, ⟨_, _⟩, ⟨_, _⟩, ⟨_, _⟩, hO7⟩ := (show tI N M0 O from hI)
  have hk : tK M0 M0 := tK_rf M0
  have hQ1 := hQ
  unfold wT_X2_get
  have := b_le7 hO7
  refine ⟨fun hc1 => ?_, fun hc1 => ?_⟩
  · have := ti_rng q1
    have : (1 : Int32).toInt = 1 := by decide
    first | have := ti_subx q1 1 (by omega) | obtain ⟨_, _, _, _⟩ := ti_sub q1 1
    have : (7 : Int32).toInt = 7 := by decide
    first | have := ti_mulx (q1 - 1) 7 7 (by decide) (by omega) | obtain ⟨_, _, _, _⟩ := ti_mulc (q1 - 1) 7 7 (by decide)
    have := ti_rng q2
    first | have := ti_addx ((q1 - 1) * 7) q2 (by omega) | obtain ⟨_, _, _, _⟩ := ti_add ((q1 - 1) * 7) q2
    have : (0 : Int32).toInt = 0 := by decide
    have hc1 := Int32.lt_iff_toInt_lt.mp hc1
    exact hQ1 _
  · have := ti_rng q1
    have : (1 : Int32).toInt = 1 := by decide
    first | have := ti_subx q1 1 (by omega) | obtain ⟨_, _, _, _⟩ := ti_sub q1 1
    have : (7 : Int32).toInt = 7 := by decide
    first | have := ti_mulx (q1 - 1) 7 7 (by decide) (by omega) | obtain ⟨_, _, _, _⟩ := ti_mulc (q1 - 1) 7 7 (by decide)
    have := ti_rng q2
    first | have := ti_addx ((q1 - 1) * 7) q2 (by omega) | obtain ⟨_, _, _, _⟩ := ti_add ((q1 - 1) * 7) q2
    have : (0 : Int32).toInt = 0 := by decide
    have hc1 := ti_nlt hc1
    refine ⟨fun hc2 => ?_, fun hc2 => ?_⟩
    · have := ti_rng (M0 22)
      first | have := ti_mulx (M0 22) 7 7 (by decide) (by omega) | obtain ⟨_, _, _, _⟩ := ti_mulc (M0 22) 7 7 (by decide)
      have hc2 := Int32.le_iff_toInt_le.mp hc2
      exact hQ1 _
    · have := ti_rng (M0 22)
      first | have := ti_mulx (M0 22) 7 7 (by decide) (by omega) | obtain ⟨_, _, _, _⟩ := ti_mulc (M0 22) 7 7 (by decide)
      have hc2 := ti_nle hc2
      refine ⟨vp_in_iff.mpr (by omega), fun z3 => ?_⟩
      exact hQ1 _
set_option maxHeartbeats 2000000 in
theorem spT_X2_kindOf {N : Nat → Nat} (hN : tN N) (q1 : Int32) {M0 : Nat → Int32} {O : Nat × Nat} {Q : Int32 → (Nat → Int32) → Nat × Nat → Prop} (hI : tI N M0 O) (hQ : ∀ (r : Int32) , Q r M0 O) : wT_X2_kindOf N q1 M0 O Q := by
  obtain ⟨_, _, _, _, _, _, _, _, _, _, _, _, _⟩ := (show tN N from hN)
  obtain ⟨⟨_, _⟩, ⟨_, _⟩, _, ⟨_, _⟩, ⟨_, _⟩, ⟨_, _⟩, hO7⟩ := (show tI N M0 O from hI)
  have hk : tK M0 M0 := tK_rf M0
  have hQ1 := hQ
  unfold wT_X2_kindOf
  have := b_le7 hO7
  have := ti_rng q1
  have : (0 : Int32).toInt = 0 := by decide
  refine spT_X2_get hN _ _ (show tI N M0 O from hI) (fun r1 => ?_)
  exact hQ1 _
set_option maxHeartbeats 2000000 in
theorem spT_X2_weightOf {N : Nat → Nat} (hN : tN N) (q1 : Int32) {M0 : Nat → Int32} {O : Nat × Nat} {Q : Int32 → (Nat → Int32) → Nat × Nat → Prop} (hI : tI N M0 O) (hQ : ∀ (r : Int32) , Q r M0 O) : wT_X2_weightOf N q1 M0 O Q := by
  obtain ⟨_, _, _, _, _, _, _, _, _, _, _, _, _⟩ := (show tN N from hN)
  obtain ⟨⟨_, _⟩, ⟨_, _⟩, _, ⟨_, _⟩, ⟨_, _⟩, ⟨_, _⟩, hO7⟩ := (show tI N M0 O from hI)
  have hk : tK M0 M0 := tK_rf M0
  have hQ1 := hQ
  unfold wT_X2_weightOf
  have := b_le7 hO7
  have := ti_rng q1
  have : (1 : Int32).toInt = 1 := by decide
  refine spT_X2_get hN _ _ (show tI N M0 O from hI) (fun r1 => ?_)
  have : (0 : Int32).toInt = 0 := by decide
  refine spT_X2_get hN _ _ (show tI N M0 O from hI) (fun r3 => ?_)
  refine ⟨fun hsw => ?_, fun hsw => ?_, fun hsw => ?_, fun hsw => ?_, fun hsw => ?_, fun hsw => ?_, fun hsw0 hsw1 hsw2 hsw3 hsw4 hsw5 => ?_⟩
  · have := ti_rng r3
    have hsw9 := congrArg Int32.toInt hsw
    exact hQ1 _
  · have := ti_rng r3
    have : (2 : Int32).toInt = 2 := by decide
    have hsw9 := congrArg Int32.toInt hsw
    refine spT_X2_get hN _ _ (show tI N M0 O from hI) (fun r5 => ?_)
    exact hQ1 _
  · have := ti_rng r3
    have : (3 : Int32).toInt = 3 := by decide
    have hsw9 := congrArg Int32.toInt hsw
    exact hQ1 _
  · have := ti_rng r3
    have : (4 : Int32).toInt = 4 := by decide
    have hsw9 := congrArg Int32.toInt hsw
    exact hQ1 _
  · have := ti_rng r3
    have : (5 : Int32).toInt = 5 := by decide
    have hsw9 := congrArg Int32.toInt hsw
    exact hQ1 _
  · have := ti_rng r3
    have : (6 : Int32).toInt = 6 := by decide
    have hsw9 := congrArg Int32.toInt hsw
    refine spT_X2_get hN _ _ (show tI N M0 O from hI) (fun r7 => ?_)
    have := ti_rng r7
    refine spT_X2_get hN _ _ (show tI N M0 O from hI) (fun r9 => ?_)
    exact hQ1 _
  · have := ti_rng r3
    exact hQ1 _
set_option maxHeartbeats 2000000 in
theorem spT_X2_chainLength_28 {N : Nat → Nat} (hN : tN N) (q1 : Int32) {Q : Int32 → (Nat → Int32) → Nat × Nat → Prop} {M0 : Nat → Int32} {O0 : Nat × Nat} (hQ : ∀ (r : Int32) , Q r M0 O0) (a2 : Int32) (M : Nat → Int32) (O : Nat × Nat) (hI : tI N M O) (hk : (M0 = M ∧ O0 = O)) : wT_X2_chainLength_28 N Q a2 M O := by
  obtain ⟨_, _, _, _, _, _, _, _, _, _, _, _, _⟩ := (show tN N from hN)
  obtain ⟨⟨_, _⟩, ⟨_, _⟩, _, ⟨_, _⟩, ⟨_, _⟩, ⟨_, _⟩, hO7⟩ := (show tI N M O from hI)
  unfold wT_X2_chainLength_28
  obtain ⟨e1, e2⟩ := hk
  have hQ1 := hQ
  rw [e1, e2] at hQ1
  have := b_le7 hO7
  exact hQ1 _
set_option maxHeartbeats 2000000 in
theorem spT_X2_chainLength_4 {N : Nat → Nat} (hN : tN N) (q1 : Int32) {Q : Int32 → (Nat → Int32) → Nat × Nat → Prop} {M0 : Nat → Int32} {O0 : Nat × Nat} (hQ : ∀ (r : Int32) , Q r M0 O0) : ∀ (n4 : Nat) (a2 : Int32) (a3 : Int32) (M : Nat → Int32) (O : Nat × Nat), tI N M O → (M0 = M ∧ O0 = O) → (0 ≤ a2.toInt ∧ a2.toInt ≤ 50) → (50 - a2.toInt) + 1 ≤ (n4 : Int) → wT_X2_chainLength_4 N Q n4 a2 a3 M O := by
  obtain ⟨_, _, _, _, _, _, _, _, _, _, _, _, _⟩ := (show tN N from hN)
  intro n4
  induction n4 with
  | zero => intro a2 a3 M O hI hk hv hn; exact absurd hn (by omega)
  | succ n4 ih =>
    intro a2 a3 M O hI hk hv hn
    obtain ⟨⟨_, _⟩, ⟨_, _⟩, _, ⟨_, _⟩, ⟨_, _⟩, ⟨_, _⟩, hO7⟩ := (show tI N M O from hI)
    dsimp only [wT_X2_chainLength_4]
    obtain ⟨e1, e2⟩ := hk
    have hQ1 := hQ
    rw [e1, e2] at hQ1
    have := b_le7 hO7
    refine ⟨fun hc1 => ?_, fun hc1 => ?_⟩
    · have : (50 : Int32).toInt = 50 := by decide
      have := ti_rng a2
      have hc1 := Int32.le_iff_toInt_le.mp hc1
      exact spT_X2_chainLength_28 hN q1 hQ _ _ _ (show tI N M O from hI) ⟨e1, e2⟩
    · have : (50 : Int32).toInt = 50 := by decide
      have := ti_rng a2
      have hc1 := ti_nle hc1
      refine ⟨fun hc2 => ?_, fun hc2 => ?_⟩
      · have := ti_rng a3
        have : (0 : Int32).toInt = 0 := by decide
        have hc29 := congrArg Int32.toInt hc2
        exact spT_X2_chainLength_28 hN q1 hQ _ _ _ (show tI N M O from hI) ⟨e1, e2⟩
      · have := ti_rng a3
        have : (0 : Int32).toInt = 0 := by decide
        have hc29 := ti_ne hc2
        have : (6 : Int32).toInt = 6 := by decide
        refine spT_X2_get hN _ _ (show tI N M O from hI) (fun r3 => ?_)
        have : (1 : Int32).toInt = 1 := by decide
        first | have := ti_addx a2 1 (by omega) | obtain ⟨_, _, _, _⟩ := ti_add a2 1
        have := ti_rng r3
        exact ih _ _ _ _ (show tI N M O from hI) ⟨e1, e2⟩ (show 0 ≤ (a2 + 1).toInt ∧ (a2 + 1).toInt ≤ 50 from by omega) (show (50 - (a2 + 1).toInt) + 1 ≤ _ from by omega)
set_option maxHeartbeats 2000000 in
theorem spT_X2_chainLength {N : Nat → Nat} (hN : tN N) (q1 : Int32) {M0 : Nat → Int32} {O : Nat × Nat} {Q : Int32 → (Nat → Int32) → Nat × Nat → Prop} (hI : tI N M0 O) (hQ : ∀ (r : Int32) , Q r M0 O) : wT_X2_chainLength N q1 M0 O Q := by
  obtain ⟨_, _, _, _, _, _, _, _, _, _, _, _, _⟩ := (show tN N from hN)
  obtain ⟨⟨_, _⟩, ⟨_, _⟩, _, ⟨_, _⟩, ⟨_, _⟩, ⟨_, _⟩, hO7⟩ := (show tI N M0 O from hI)
  have hk : tK M0 M0 := tK_rf M0
  have hQ1 := hQ
  unfold wT_X2_chainLength
  have := b_le7 hO7
  have : (0 : Int32).toInt = 0 := by decide
  have := ti_rng q1
  exact ⟨((50 - (0 : Int32).toInt) + 1).toNat, spT_X2_chainLength_4 hN q1 hQ _ _ _ _ _ (show tI N M0 O from hI) ⟨rfl, rfl⟩ (show 0 ≤ (0 : Int32).toInt ∧ (0 : Int32).toInt ≤ 50 from by omega) (show (50 - (0 : Int32).toInt) + 1 ≤ _ from by omega)⟩
set_option maxHeartbeats 2000000 in
theorem spT_X2_tell {N : Nat → Nat} (hN : tN N) (q1 : Int32) (q2 : Int32) {M0 : Nat → Int32} {O : Nat × Nat} {Q : Int32 → (Nat → Int32) → Nat × Nat → Prop} (hI : tI N M0 O) (hQ : ∀ (r : Int32) , Q r M0 O) : wT_X2_tell N q1 q2 M0 O Q := by
  obtain ⟨_, _, _, _, _, _, _, _, _, _, _, _, _⟩ := (show tN N from hN)
  obtain ⟨⟨_, _⟩, ⟨_, _⟩, _, ⟨_, _⟩, ⟨_, _⟩, ⟨_, _⟩, hO7⟩ := (show tI N M0 O from hI)
  have hk : tK M0 M0 := tK_rf M0
  have hQ1 := hQ
  unfold wT_X2_tell
  have := b_le7 hO7
  refine ⟨fun hsw => ?_, fun hsw => ?_, fun hsw0 hsw1 => ?_⟩
  · have := ti_rng q2
    have : (6 : Int32).toInt = 6 := by decide
    have hsw9 := congrArg Int32.toInt hsw
    have := ti_rng q1
    refine spT_X2_weightOf hN _ (show tI N M0 O from hI) (fun r1 => ?_)
    exact hQ1 _
  · have := ti_rng q2
    have : (7 : Int32).toInt = 7 := by decide
    have hsw9 := congrArg Int32.toInt hsw
    have := ti_rng q1
    refine spT_X2_chainLength hN _ (show tI N M0 O from hI) (fun r3 => ?_)
    exact hQ1 _
  · have := ti_rng q2
    refine ⟨fun hc5 => ?_, fun hc5 => ?_⟩
    · have : (0 : Int32).toInt = 0 := by decide
      have hc5 := Int32.lt_iff_toInt_lt.mp hc5
      exact hQ1 _
    · have : (0 : Int32).toInt = 0 := by decide
      have hc5 := ti_nlt hc5
      refine ⟨fun hc6 => ?_, fun hc6 => ?_⟩
      · have : (5 : Int32).toInt = 5 := by decide
        have hc6 := Int32.lt_iff_toInt_lt.mp hc6
        exact hQ1 _
      · have : (5 : Int32).toInt = 5 := by decide
        have hc6 := ti_nlt hc6
        have := ti_rng q1
        refine spT_X2_get hN _ _ (show tI N M0 O from hI) (fun r7 => ?_)
        exact hQ1 _

