set_option maxHeartbeats 2000000 in
theorem spT_X8_joinHeld_38 {N : Nat → Nat} (hN : tN N) (q1 : Int32) (q2 : Int32) {Q : (Nat → Int32) → Nat × Nat → Prop} {M0 : Nat → Int32} (hQ : ∀ (M' : Nat → Int32) (O' : Nat × Nat), tI N M' O' → tK M0 M' → Q M' O') (a1 : Int32) (t1 : Int32) (t2 : Int32) (M : Nat → Int32) (O : Nat × Nat) (hI : tI N M O) (hk : tK M0 M) : wT_X8_joinHeld_38 N Q a1 t1 t2 M O := by
  obtain ⟨_, _, _, _, _, _, _, _, _, _, _, _, _⟩ := (show tN N from hN)
  obtain ⟨⟨_, _⟩, ⟨_, _⟩, _, ⟨_, _⟩, ⟨_, _⟩, ⟨_, _⟩, hO7⟩ := (show tI N M O from hI)
  unfold wT_X8_joinHeld_38
  have := b_le7 hO7
  have := ti_rng t1
  have := ti_rng t2
  refine spT_X8_raiseNew hN _ _ (show tI N M O from hI) (fun M6 O6 hI hk1 => ?_)
  have hk := tK_tr (show tK M0 M from hk) hk1
  obtain ⟨⟨_, _⟩, ⟨_, _⟩, _, ⟨_, _⟩, ⟨_, _⟩, ⟨_, _⟩, hO7⟩ := (show tI N M6 O6 from hI)
  have := b_le7 hO7
  have := ti_rng (M6 54)
  have := ti_rng a1
  refine spT_X2_settle hN _ _ (show tI N M6 O6 from hI) (?_)
  exact hQ _ _ (show tI N M6 O6 from hI) (show tK M0 M6 from hk)
set_option maxHeartbeats 2000000 in
theorem spT_X8_joinHeld {N : Nat → Nat} (hN : tN N) (q1 : Int32) (q2 : Int32) {M0 : Nat → Int32} {O : Nat × Nat} {Q : (Nat → Int32) → Nat × Nat → Prop} (hI : tI N M0 O) (hQ : ∀ (M' : Nat → Int32) (O' : Nat × Nat), tI N M' O' → tK M0 M' → Q M' O') : wT_X8_joinHeld N q1 q2 M0 O Q := by
  obtain ⟨_, _, _, _, _, _, _, _, _, _, _, _, _⟩ := (show tN N from hN)
  obtain ⟨⟨_, _⟩, ⟨_, _⟩, _, ⟨_, _⟩, ⟨_, _⟩, ⟨_, _⟩, hO7⟩ := (show tI N M0 O from hI)
  have hk : tK M0 M0 := tK_rf M0
  have hQ1 := hQ
  unfold wT_X8_joinHeld
  have := b_le7 hO7
  refine ⟨fun hc1 => ?_, fun hc1 => ?_⟩
  · have := ti_rng q1
    have : (0 : Int32).toInt = 0 := by decide
    have hc19 := ti_ne hc1
    have := ti_rng q2
    refine spT_X2_join hN _ _ (show tI N M0 O from hI) (fun r2 M3 O3 hI hk1 => ?_)
    have hk := tK_tr (show tK M0 M0 from hk) hk1
    obtain ⟨⟨_, _⟩, ⟨_, _⟩, _, ⟨_, _⟩, ⟨_, _⟩, ⟨_, _⟩, hO7⟩ := (show tI N M3 O3 from hI)
    have := b_le7 hO7
    refine ⟨fun hc4 => ?_, fun hc4 => ?_⟩
    · have := ti_rng r2
      have : ((-1) : Int32).toInt = -1 := by decide
      have hc49 := congrArg Int32.toInt hc4
      exact hQ _ _ (show tI N M3 O3 from hI) (show tK M0 M3 from hk)
    · have := ti_rng r2
      have : ((-1) : Int32).toInt = -1 := by decide
      have hc49 := ti_ne hc4
      refine ⟨fun hc5 => ?_, fun hc5 => ?_⟩
      · have : (2 : Int32).toInt = 2 := by decide
        have hc59 := ti_ne hc5
        have : (5 : Int32).toInt = 5 := by decide
        exact spT_X8_joinHeld_38 hN q1 q2 hQ _ _ _ _ _ (show tI N M3 O3 from hI) (show tK M0 M3 from hk)
      · have : (2 : Int32).toInt = 2 := by decide
        have hc59 := congrArg Int32.toInt hc5
        have : (4 : Int32).toInt = 4 := by decide
        exact spT_X8_joinHeld_38 hN q1 q2 hQ _ _ _ _ _ (show tI N M3 O3 from hI) (show tK M0 M3 from hk)
  · have := ti_rng q1
    have : (0 : Int32).toInt = 0 := by decide
    have hc19 := congrArg Int32.toInt hc1
    have : (3 : Int32).toInt = 3 := by decide
    have : (1 : Int32).toInt = 1 := by decide
    refine spT_X8_raiseNew hN _ _ (show tI N M0 O from hI) (fun M8 O8 hI hk1 => ?_)
    have hk := tK_tr (show tK M0 M0 from hk) hk1
    obtain ⟨⟨_, _⟩, ⟨_, _⟩, _, ⟨_, _⟩, ⟨_, _⟩, ⟨_, _⟩, hO7⟩ := (show tI N M8 O8 from hI)
    have := b_le7 hO7
    exact hQ _ _ (show tI N M8 O8 from hI) (show tK M0 M8 from hk)
set_option maxHeartbeats 2000000 in
theorem spT_X8_doObjection_102 {N : Nat → Nat} (hN : tN N) (q1 : Int32) {Q : (Nat → Int32) → Nat × Nat → Prop} {M0 : Nat → Int32} (hQ : ∀ (M' : Nat → Int32) (O' : Nat × Nat), tI N M' O' → tK M0 M' → Q M' O') (t1 : Int32) (M : Nat → Int32) (O : Nat × Nat) (hI : tI N M O) (hk : tK M0 M) : wT_X8_doObjection_102 N Q t1 M O := by
  obtain ⟨_, _, _, _, _, _, _, _, _, _, _, _, _⟩ := (show tN N from hN)
  obtain ⟨⟨_, _⟩, ⟨_, _⟩, _, ⟨_, _⟩, ⟨_, _⟩, ⟨_, _⟩, hO7⟩ := (show tI N M O from hI)
  unfold wT_X8_doObjection_102
  have := b_le7 hO7
  have := ti_rng t1
  refine spT_X8_push hN _ (show tI N M O from hI) (fun M18 O18 hI hk1 => ?_)
  have hk := tK_tr (show tK M0 M from hk) hk1
  obtain ⟨⟨_, _⟩, ⟨_, _⟩, _, ⟨_, _⟩, ⟨_, _⟩, ⟨_, _⟩, hO7⟩ := (show tI N M18 O18 from hI)
  have := b_le7 hO7
  exact hQ _ _ (show tI N M18 O18 from hI) (show tK M0 M18 from hk)
set_option maxHeartbeats 2000000 in
theorem spT_X8_doObjection {N : Nat → Nat} (hN : tN N) (q1 : Int32) {M0 : Nat → Int32} {O : Nat × Nat} {Q : (Nat → Int32) → Nat × Nat → Prop} (hI : tI N M0 O) (hQ : ∀ (M' : Nat → Int32) (O' : Nat × Nat), tI N M' O' → tK M0 M' → Q M' O') : wT_X8_doObjection N q1 M0 O Q := by
  obtain ⟨_, _, _, _, _, _, _, _, _, _, _, _, _⟩ := (show tN N from hN)
  obtain ⟨⟨_, _⟩, ⟨_, _⟩, _, ⟨_, _⟩, ⟨_, _⟩, ⟨_, _⟩, hO7⟩ := (show tI N M0 O from hI)
  have hk : tK M0 M0 := tK_rf M0
  have hQ1 := hQ
  unfold wT_X8_doObjection
  have := b_le7 hO7
  refine spT_X8_fetch hN  (show tI N M0 O from hI) (fun r1 M2 O2 hI hk1 => ?_)
  have hk := tK_tr (show tK M0 M0 from hk) hk1
  obtain ⟨⟨_, _⟩, ⟨_, _⟩, _, ⟨_, _⟩, ⟨_, _⟩, ⟨_, _⟩, hO7⟩ := (show tI N M2 O2 from hI)
  have := b_le7 hO7
  refine ⟨fun hsw => ?_, fun hsw => ?_, fun hsw => ?_, fun hsw => ?_, fun hsw => ?_, fun hsw => ?_, fun hsw => ?_, fun hsw => ?_, fun hsw0 hsw1 hsw2 hsw3 hsw4 hsw5 hsw6 hsw7 => ?_⟩
  · have := ti_rng q1
    have : (22 : Int32).toInt = 22 := by decide
    have hsw9 := congrArg Int32.toInt hsw
    refine spT_X8_fetch hN  (show tI N M2 O2 from hI) (fun r3 M4 O4 hI hk1 => ?_)
    have hk := tK_tr (show tK M0 M2 from hk) hk1
    obtain ⟨⟨_, _⟩, ⟨_, _⟩, _, ⟨_, _⟩, ⟨_, _⟩, ⟨_, _⟩, hO7⟩ := (show tI N M4 O4 from hI)
    have := b_le7 hO7
    have := ti_rng r1
    have := ti_rng r3
    refine spT_X8_tellOf hN _ _ (show tI N M4 O4 from hI) (fun M5 O5 hI hk1 => ?_)
    have hk := tK_tr (show tK M0 M4 from hk) hk1
    obtain ⟨⟨_, _⟩, ⟨_, _⟩, _, ⟨_, _⟩, ⟨_, _⟩, ⟨_, _⟩, hO7⟩ := (show tI N M5 O5 from hI)
    have := b_le7 hO7
    exact hQ _ _ (show tI N M5 O5 from hI) (show tK M0 M5 from hk)
  · have := ti_rng q1
    have : (23 : Int32).toInt = 23 := by decide
    have hsw9 := congrArg Int32.toInt hsw
    have := ti_rng r1
    refine spT_X8_objectAt hN _ (show tI N M2 O2 from hI) (fun r6 => ?_)
    refine spT_X8_fetch hN  (show tI N M2 O2 from hI) (fun r8 M9 O9 hI hk1 => ?_)
    have hk := tK_tr (show tK M0 M2 from hk) hk1
    obtain ⟨⟨_, _⟩, ⟨_, _⟩, _, ⟨_, _⟩, ⟨_, _⟩, ⟨_, _⟩, hO7⟩ := (show tI N M9 O9 from hI)
    have := b_le7 hO7
    have := ti_rng r6
    have := ti_rng r8
    refine spT_X8_pushIs hN _ _ (show tI N M9 O9 from hI) (fun M10 O10 hI hk1 => ?_)
    have hk := tK_tr (show tK M0 M9 from hk) hk1
    obtain ⟨⟨_, _⟩, ⟨_, _⟩, _, ⟨_, _⟩, ⟨_, _⟩, ⟨_, _⟩, hO7⟩ := (show tI N M10 O10 from hI)
    have := b_le7 hO7
    exact hQ _ _ (show tI N M10 O10 from hI) (show tK M0 M10 from hk)
  · have := ti_rng q1
    have : (24 : Int32).toInt = 24 := by decide
    have hsw9 := congrArg Int32.toInt hsw
    have := ti_rng r1
    refine spT_X8_objectAt hN _ (show tI N M2 O2 from hI) (fun r11 => ?_)
    refine spT_X8_fetch hN  (show tI N M2 O2 from hI) (fun r13 M14 O14 hI hk1 => ?_)
    have hk := tK_tr (show tK M0 M2 from hk) hk1
    obtain ⟨⟨_, _⟩, ⟨_, _⟩, _, ⟨_, _⟩, ⟨_, _⟩, ⟨_, _⟩, hO7⟩ := (show tI N M14 O14 from hI)
    have := b_le7 hO7
    have := ti_rng r13
    refine spT_X8_objectAt hN _ (show tI N M14 O14 from hI) (fun r15 => ?_)
    refine ⟨fun hc17 => ?_, fun hc17 => ?_⟩
    · have := ti_rng r11
      have := ti_rng r15
      have hc179 := ti_ne hc17
      have : (0 : Int32).toInt = 0 := by decide
      exact spT_X8_doObjection_102 hN q1 hQ _ _ _ (show tI N M14 O14 from hI) (show tK M0 M14 from hk)
    · have := ti_rng r11
      have := ti_rng r15
      have hc179 := congrArg Int32.toInt hc17
      have : (1 : Int32).toInt = 1 := by decide
      exact spT_X8_doObjection_102 hN q1 hQ _ _ _ (show tI N M14 O14 from hI) (show tK M0 M14 from hk)
  · have := ti_rng q1
    have : (25 : Int32).toInt = 25 := by decide
    have hsw9 := congrArg Int32.toInt hsw
    refine spT_X8_fetch hN  (show tI N M2 O2 from hI) (fun r19 M20 O20 hI hk1 => ?_)
    have hk := tK_tr (show tK M0 M2 from hk) hk1
    obtain ⟨⟨_, _⟩, ⟨_, _⟩, _, ⟨_, _⟩, ⟨_, _⟩, ⟨_, _⟩, hO7⟩ := (show tI N M20 O20 from hI)
    have := b_le7 hO7
    have := ti_rng r19
    refine spT_X8_objectAt hN _ (show tI N M20 O20 from hI) (fun r21 => ?_)
    have := ti_rng r1
    have := ti_rng r21
    refine spT_X8_setObject hN _ _ (show tI N M20 O20 from hI) (?_)
    exact hQ _ _ (show tI N M20 O20 from hI) (show tK M0 M20 from hk)
  · have := ti_rng q1
    have : (26 : Int32).toInt = 26 := by decide
    have hsw9 := congrArg Int32.toInt hsw
    refine spT_X8_fetch hN  (show tI N M2 O2 from hI) (fun r24 M25 O25 hI hk1 => ?_)
    have hk := tK_tr (show tK M0 M2 from hk) hk1
    obtain ⟨⟨_, _⟩, ⟨_, _⟩, _, ⟨_, _⟩, ⟨_, _⟩, ⟨_, _⟩, hO7⟩ := (show tI N M25 O25 from hI)
    have := b_le7 hO7
    have := ti_rng r24
    refine spT_X8_objectAt hN _ (show tI N M25 O25 from hI) (fun r26 => ?_)
    have := ti_rng r1
    have := ti_rng r26
    refine spT_X8_holdCause hN _ _ (show tI N M25 O25 from hI) (fun M28 O28 hI hk1 => ?_)
    have hk := tK_tr (show tK M0 M25 from hk) hk1
    obtain ⟨⟨_, _⟩, ⟨_, _⟩, _, ⟨_, _⟩, ⟨_, _⟩, ⟨_, _⟩, hO7⟩ := (show tI N M28 O28 from hI)
    have := b_le7 hO7
    exact hQ _ _ (show tI N M28 O28 from hI) (show tK M0 M28 from hk)
  · have := ti_rng q1
    have : (27 : Int32).toInt = 27 := by decide
    have hsw9 := congrArg Int32.toInt hsw
    have := ti_rng r1
    refine spT_X8_holdNew hN _ (show tI N M2 O2 from hI) (fun M29 O29 hI hk1 => ?_)
    have hk := tK_tr (show tK M0 M2 from hk) hk1
    obtain ⟨⟨_, _⟩, ⟨_, _⟩, _, ⟨_, _⟩, ⟨_, _⟩, ⟨_, _⟩, hO7⟩ := (show tI N M29 O29 from hI)
    have := b_le7 hO7
    exact hQ _ _ (show tI N M29 O29 from hI) (show tK M0 M29 from hk)
  · have := ti_rng q1
    have : (28 : Int32).toInt = 28 := by decide
    have hsw9 := congrArg Int32.toInt hsw
    have := ti_rng r1
    refine spT_X8_objectAt hN _ (show tI N M2 O2 from hI) (fun r30 => ?_)
    have := ti_rng r30
    refine spT_X8_raiseHeld hN _ (show tI N M2 O2 from hI) (fun M32 O32 hI hk1 => ?_)
    have hk := tK_tr (show tK M0 M2 from hk) hk1
    obtain ⟨⟨_, _⟩, ⟨_, _⟩, _, ⟨_, _⟩, ⟨_, _⟩, ⟨_, _⟩, hO7⟩ := (show tI N M32 O32 from hI)
    have := b_le7 hO7
    exact hQ _ _ (show tI N M32 O32 from hI) (show tK M0 M32 from hk)
  · have := ti_rng q1
    have : (29 : Int32).toInt = 29 := by decide
    have hsw9 := congrArg Int32.toInt hsw
    have := ti_rng r1
    refine spT_X8_objectAt hN _ (show tI N M2 O2 from hI) (fun r33 => ?_)
    refine spT_X8_fetch hN  (show tI N M2 O2 from hI) (fun r35 M36 O36 hI hk1 => ?_)
    have hk := tK_tr (show tK M0 M2 from hk) hk1
    obtain ⟨⟨_, _⟩, ⟨_, _⟩, _, ⟨_, _⟩, ⟨_, _⟩, ⟨_, _⟩, hO7⟩ := (show tI N M36 O36 from hI)
    have := b_le7 hO7
    have := ti_rng r35
    refine spT_X8_objectAt hN _ (show tI N M36 O36 from hI) (fun r37 => ?_)
    have := ti_rng r33
    have := ti_rng r37
    refine spT_X8_joinHeld hN _ _ (show tI N M36 O36 from hI) (fun M39 O39 hI hk1 => ?_)
    have hk := tK_tr (show tK M0 M36 from hk) hk1
    obtain ⟨⟨_, _⟩, ⟨_, _⟩, _, ⟨_, _⟩, ⟨_, _⟩, ⟨_, _⟩, hO7⟩ := (show tI N M39 O39 from hI)
    have := b_le7 hO7
    exact hQ _ _ (show tI N M39 O39 from hI) (show tK M0 M39 from hk)
  · have := ti_rng q1
    have := ti_rng r1
    refine spT_X8_objectAt hN _ (show tI N M2 O2 from hI) (fun r40 => ?_)
    have := ti_rng r40
    refine spT_X8_putNote hN _ (show tI N M2 O2 from hI) (fun M42 O42 hI hk1 => ?_)
    have hk := tK_tr (show tK M0 M2 from hk) hk1
    obtain ⟨⟨_, _⟩, ⟨_, _⟩, _, ⟨_, _⟩, ⟨_, _⟩, ⟨_, _⟩, hO7⟩ := (show tI N M42 O42 from hI)
    have := b_le7 hO7
    exact hQ _ _ (show tI N M42 O42 from hI) (show tK M0 M42 from hk)
set_option maxHeartbeats 2000000 in
theorem spT_X8_upholdFor_17 {N : Nat → Nat} (hN : tN N) (q1 : Int32) {Q : Int32 → (Nat → Int32) → Nat × Nat → Prop} {M0 : Nat → Int32} {O0 : Nat × Nat} (hQ : ∀ (r : Int32) , Q r M0 O0) : ∀ (n17 : Nat) (a2 : Int32) (a3 : Int32) (a4 : Int32) (M : Nat → Int32) (O : Nat × Nat), tI N M O → (M0 = M ∧ O0 = O) → (0 ≤ a4.toInt ∧ a4.toInt ≤ 4000) → (4000 - a4.toInt) + 1 ≤ (n17 : Int) → wT_X8_upholdFor_17 N Q n17 a2 a3 a4 M O := by
  obtain ⟨_, _, _, _, _, _, _, _, _, _, _, _, _⟩ := (show tN N from hN)
  intro n17
  induction n17 with
  | zero => intro a2 a3 a4 M O hI hk hv hn; exact absurd hn (by omega)
  | succ n17 ih =>
    intro a2 a3 a4 M O hI hk hv hn
    obtain ⟨⟨_, _⟩, ⟨_, _⟩, _, ⟨_, _⟩, ⟨_, _⟩, ⟨_, _⟩, hO7⟩ := (show tI N M O from hI)
    dsimp only [wT_X8_upholdFor_17]
    obtain ⟨e1, e2⟩ := hk
    have hQ1 := hQ
    rw [e1, e2] at hQ1
    have := b_le7 hO7
    refine ⟨fun hc3 => ?_, fun hc3 => ?_⟩
    · have : (4000 : Int32).toInt = 4000 := by decide
      have := ti_rng a4
      have hc3 := Int32.le_iff_toInt_le.mp hc3
      exact hQ1 _
    · have : (4000 : Int32).toInt = 4000 := by decide
      have := ti_rng a4
      have hc3 := ti_nle hc3
      refine ⟨fun hc4 => ?_, fun hc4 => ?_⟩
      · have := ti_rng a3
        have : ((-1) : Int32).toInt = -1 := by decide
        have hc49 := congrArg Int32.toInt hc4
        exact hQ1 _
      · have := ti_rng a3
        have : ((-1) : Int32).toInt = -1 := by decide
        have hc49 := ti_ne hc4
        refine spT_X6_get hN _ (show tI N M O from hI) (fun r5 => ?_)
        have := ti_rng a2
        have := ti_rng r5
        refine spT_X3_is hN _ _ (show tI N M O from hI) (fun r7 => ?_)
        refine ⟨fun hc9 => ?_, fun hc9 => ?_⟩
        · have := ti_rng r7
          have : (0 : Int32).toInt = 0 := by decide
          have hc99 := congrArg Int32.toInt hc9
          have : (2 : Int32).toInt = 2 := by decide
          first | have := ti_addx a3 2 (by omega) | obtain ⟨_, _, _, _⟩ := ti_add a3 2
          refine spT_X6_get hN _ (show tI N M O from hI) (fun r10 => ?_)
          have := ti_rng r10
          have : (1 : Int32).toInt = 1 := by decide
          first | have := ti_addx a4 1 (by omega) | obtain ⟨_, _, _, _⟩ := ti_add a4 1
          exact ih _ _ _ _ _ (show tI N M O from hI) ⟨e1, e2⟩ (show 0 ≤ (a4 + 1).toInt ∧ (a4 + 1).toInt ≤ 4000 from by omega) (show (4000 - (a4 + 1).toInt) + 1 ≤ _ from by omega)
        · have := ti_rng r7
          have : (0 : Int32).toInt = 0 := by decide
          have hc99 := ti_ne hc9
          exact hQ1 _
set_option maxHeartbeats 2000000 in
theorem spT_X8_upholdFor {N : Nat → Nat} (hN : tN N) (q1 : Int32) {M0 : Nat → Int32} {O : Nat × Nat} {Q : Int32 → (Nat → Int32) → Nat × Nat → Prop} (hI : tI N M0 O) (hQ : ∀ (r : Int32) , Q r M0 O) : wT_X8_upholdFor N q1 M0 O Q := by
  obtain ⟨_, _, _, _, _, _, _, _, _, _, _, _, _⟩ := (show tN N from hN)
  obtain ⟨⟨_, _⟩, ⟨_, _⟩, _, ⟨_, _⟩, ⟨_, _⟩, ⟨_, _⟩, hO7⟩ := (show tI N M0 O from hI)
  have hk : tK M0 M0 := tK_rf M0
  have hQ1 := hQ
  unfold wT_X8_upholdFor
  have := b_le7 hO7
  have := ti_rng (M0 54)
  refine spT_X2_kindOf hN _ (show tI N M0 O from hI) (fun r1 => ?_)
  have := ti_rng r1
  have := ti_rng q1
  have : (0 : Int32).toInt = 0 := by decide
  exact ⟨((4000 - (0 : Int32).toInt) + 1).toNat, spT_X8_upholdFor_17 hN q1 hQ _ _ _ _ _ _ (show tI N M0 O from hI) ⟨rfl, rfl⟩ (show 0 ≤ (0 : Int32).toInt ∧ (0 : Int32).toInt ≤ 4000 from by omega) (show (4000 - (0 : Int32).toInt) + 1 ≤ _ from by omega)⟩
set_option maxHeartbeats 2000000 in
theorem spT_X8_doUphold {N : Nat → Nat} (hN : tN N) (q1 : Int32) {M0 : Nat → Int32} {O : Nat × Nat} {Q : (Nat → Int32) → Nat × Nat → Prop} (hI : tI N M0 O) (hQ : ∀ (M' : Nat → Int32) (O' : Nat × Nat), tI N M' O' → tK M0 M' → Q M' O') : wT_X8_doUphold N q1 M0 O Q := by
  obtain ⟨_, _, _, _, _, _, _, _, _, _, _, _, _⟩ := (show tN N from hN)
  obtain ⟨⟨_, _⟩, ⟨_, _⟩, _, ⟨_, _⟩, ⟨_, _⟩, ⟨_, _⟩, hO7⟩ := (show tI N M0 O from hI)
  have hk : tK M0 M0 := tK_rf M0
  have hQ1 := hQ
  unfold wT_X8_doUphold
  have := b_le7 hO7
  have := ti_rng (M0 51)
  have : (1 : Int32).toInt = 1 := by decide
  first | have := ti_subx (M0 51) 1 (by omega) | obtain ⟨_, _, _, _⟩ := ti_sub (M0 51) 1
  have : (0 : Int32).toInt = 0 := by decide
  refine spT_X8_tryField hN _ _ (show tI N M0 O from hI) (fun r1 => ?_)
  have : ((-1) : Int32).toInt = -1 := by decide
  refine spT_X8_setTryField hN _ _ _ (show tI N (um (um M0 50 r1) 52 0) O from (show (0 ≤ (M0 1).toInt ∧ (M0 1).toInt ≤ 4000) ∧ (0 ≤ (M0 22).toInt ∧ (M0 22).toInt ≤ 8000) ∧ 7 * (M0 22).toInt ≤ ((448 * 2 ^ O.2 : Nat) : Int) ∧ (0 ≤ (M0 31).toInt ∧ (M0 31).toInt ≤ 200) ∧ (0 ≤ (0 : Int32).toInt ∧ (0 : Int32).toInt ≤ 128) ∧ (0 ≤ (M0 63).toInt ∧ (M0 63).toInt ≤ (N 20 : Int)) ∧ O.2 ≤ 7 from by omega)) (?_)
  have := ti_rng q1
  first | have := ti_addx q1 1 (by omega) | obtain ⟨_, _, _, _⟩ := ti_add q1 1
  refine spT_X6_get hN _ (show tI N (um (um M0 50 r1) 52 0) O from (show (0 ≤ (M0 1).toInt ∧ (M0 1).toInt ≤ 4000) ∧ (0 ≤ (M0 22).toInt ∧ (M0 22).toInt ≤ 8000) ∧ 7 * (M0 22).toInt ≤ ((448 * 2 ^ O.2 : Nat) : Int) ∧ (0 ≤ (M0 31).toInt ∧ (M0 31).toInt ≤ 200) ∧ (0 ≤ (0 : Int32).toInt ∧ (0 : Int32).toInt ≤ 128) ∧ (0 ≤ (M0 63).toInt ∧ (M0 63).toInt ≤ (N 20 : Int)) ∧ O.2 ≤ 7 from by omega)) (fun r4 => ?_)
  have := ti_rng r4
  have := ti_rng (M0 54)
  refine spT_X8_setObject hN _ _ (show tI N (um (um M0 50 r1) 52 0) O from (show (0 ≤ (M0 1).toInt ∧ (M0 1).toInt ≤ 4000) ∧ (0 ≤ (M0 22).toInt ∧ (M0 22).toInt ≤ 8000) ∧ 7 * (M0 22).toInt ≤ ((448 * 2 ^ O.2 : Nat) : Int) ∧ (0 ≤ (M0 31).toInt ∧ (M0 31).toInt ≤ 200) ∧ (0 ≤ (0 : Int32).toInt ∧ (0 : Int32).toInt ≤ 128) ∧ (0 ≤ (M0 63).toInt ∧ (M0 63).toInt ≤ (N 20 : Int)) ∧ O.2 ≤ 7 from by omega)) (?_)
  exact hQ _ _ (show tI N (um (um (um (um M0 50 r1) 52 0) 54 0) 49 (q1 + 3)) O from (show (0 ≤ (M0 1).toInt ∧ (M0 1).toInt ≤ 4000) ∧ (0 ≤ (M0 22).toInt ∧ (M0 22).toInt ≤ 8000) ∧ 7 * (M0 22).toInt ≤ ((448 * 2 ^ O.2 : Nat) : Int) ∧ (0 ≤ (M0 31).toInt ∧ (M0 31).toInt ≤ 200) ∧ (0 ≤ (0 : Int32).toInt ∧ (0 : Int32).toInt ≤ 128) ∧ (0 ≤ (M0 63).toInt ∧ (M0 63).toInt ≤ (N 20 : Int)) ∧ O.2 ≤ 7 from by omega)) (show tK M0 (um (um (um (um M0 50 r1) 52 0) 54 0) 49 (q1 + 3)) from hk)
set_option maxHeartbeats 2000000 in
theorem spT_X8_goOut_0 {N : Nat → Nat} (hN : tN N) {Q : (Nat → Int32) → Nat × Nat → Prop} {M0 : Nat → Int32} (hQ : ∀ (M' : Nat → Int32) (O' : Nat × Nat), tI N M' O' → tK M0 M' → Q M' O') : ∀ (n0 : Nat) (M : Nat → Int32) (O : Nat × Nat), tI N M O → tK M0 M → (0 ≤ (M 51).toInt + 2147483648) → ((M 51).toInt + 2147483648) + 1 ≤ (n0 : Int) → wT_X8_goOut_0 N Q n0 M O := by
  obtain ⟨_, _, _, _, _, _, _, _, _, _, _, _, _⟩ := (show tN N from hN)
  intro n0
  induction n0 with
  | zero => intro M O hI hk hv hn; exact absurd hn (by omega)
  | succ n0 ih =>
    intro M O hI hk hv hn
    obtain ⟨⟨_, _⟩, ⟨_, _⟩, _, ⟨_, _⟩, ⟨_, _⟩, ⟨_, _⟩, hO7⟩ := (show tI N M O from hI)
    dsimp only [wT_X8_goOut_0]
    have := b_le7 hO7
    refine ⟨fun hc1 => ?_, fun hc1 => ?_⟩
    · have := ti_rng (M 51)
      have : (0 : Int32).toInt = 0 := by decide
      have hc1 := Int32.le_iff_toInt_le.mp hc1
      exact hQ _ _ (show tI N (um M 53 2) O from hI) (show tK M0 (um M 53 2) from hk)
    · have := ti_rng (M 51)
      have : (0 : Int32).toInt = 0 := by decide
      have hc1 := ti_nle hc1
      have : (1 : Int32).toInt = 1 := by decide
      first | have := ti_subx (M 51) 1 (by omega) | obtain ⟨_, _, _, _⟩ := ti_sub (M 51) 1
      refine spT_X8_tryField hN _ _ (show tI N M O from hI) (fun r2 => ?_)
      have := ti_rng r2
      refine spT_X8_upholdFor hN _ (show tI N M O from hI) (fun r4 => ?_)
      refine ⟨fun hc6 => ?_, fun hc6 => ?_⟩
      · have := ti_rng r4
        have : ((-1) : Int32).toInt = -1 := by decide
        have hc69 := congrArg Int32.toInt hc6
        have : (2 : Int32).toInt = 2 := by decide
        refine spT_X8_tryField hN _ _ (show tI N M O from hI) (fun r7 => ?_)
        refine ⟨fun hc9 => ?_, fun hc9 => ?_⟩
        · have := ti_rng r7
          have hc99 := congrArg Int32.toInt hc9
          exact ih _ _ (show tI N (um M 51 ((M 51) - 1)) O from hI) (show tK M0 (um M 51 ((M 51) - 1)) from hk) (show 0 ≤ ((M 51) - 1).toInt + 2147483648 from by omega) (show (((M 51) - 1).toInt + 2147483648) + 1 ≤ _ from by omega)
        · have := ti_rng r7
          have hc99 := ti_ne hc9
          have := ti_rng (M 54)
          refine spT_X8_doLastly hN _ _ (show tI N M O from hI) (fun M10 O10 hI hk1 => ?_)
          have hk := tK_tr (show tK M0 M from hk) hk1
          obtain ⟨⟨_, _⟩, ⟨_, _⟩, _, ⟨_, _⟩, ⟨_, _⟩, ⟨_, _⟩, hO7⟩ := (show tI N M10 O10 from hI)
          have := b_le7 hO7
          exact hQ _ _ (show tI N (um M10 54 0) O10 from hI) (show tK M0 (um M10 54 0) from hk)
      · have := ti_rng r4
        have : ((-1) : Int32).toInt = -1 := by decide
        have hc69 := ti_ne hc6
        refine spT_X8_doUphold hN _ (show tI N M O from hI) (fun M11 O11 hI hk1 => ?_)
        have hk := tK_tr (show tK M0 M from hk) hk1
        obtain ⟨⟨_, _⟩, ⟨_, _⟩, _, ⟨_, _⟩, ⟨_, _⟩, ⟨_, _⟩, hO7⟩ := (show tI N M11 O11 from hI)
        have := b_le7 hO7
        exact hQ _ _ (show tI N M11 O11 from hI) (show tK M0 M11 from hk)
set_option maxHeartbeats 2000000 in
theorem spT_X8_goOut {N : Nat → Nat} (hN : tN N) {M0 : Nat → Int32} {O : Nat × Nat} {Q : (Nat → Int32) → Nat × Nat → Prop} (hI : tI N M0 O) (hQ : ∀ (M' : Nat → Int32) (O' : Nat × Nat), tI N M' O' → tK M0 M' → Q M' O') : wT_X8_goOut N  M0 O Q := by
  obtain ⟨_, _, _, _, _, _, _, _, _, _, _, _, _⟩ := (show tN N from hN)
  obtain ⟨⟨_, _⟩, ⟨_, _⟩, _, ⟨_, _⟩, ⟨_, _⟩, ⟨_, _⟩, hO7⟩ := (show tI N M0 O from hI)
  have hk : tK M0 M0 := tK_rf M0
  have hQ1 := hQ
  unfold wT_X8_goOut
  have := b_le7 hO7
  have := ti_rng (M0 51)
  exact ⟨(((M0 51).toInt + 2147483648) + 1).toNat, spT_X8_goOut_0 hN hQ _ _ _ (show tI N M0 O from hI) (show tK M0 M0 from hk) (show 0 ≤ (M0 51).toInt + 2147483648 from by omega) (show ((M0 51).toInt + 2147483648) + 1 ≤ _ from by omega)⟩
set_option maxHeartbeats 2000000 in
theorem spT_X5_rest {N : Nat → Nat} (hN : tN N) (q1 : Int32) {M0 : Nat → Int32} {O : Nat × Nat} {Q : (Nat → Int32) → Nat × Nat → Prop} (hI : tI N M0 O) (hQ : ∀ (M' : Nat → Int32) (O' : Nat × Nat), tI N M' O' → tK M0 M' → Q M' O') : wT_X5_rest N q1 M0 O Q := by
  obtain ⟨_, _, _, _, _, _, _, _, _, _, _, _, _⟩ := (show tN N from hN)
  obtain ⟨⟨_, _⟩, ⟨_, _⟩, _, ⟨_, _⟩, ⟨_, _⟩, ⟨_, _⟩, hO7⟩ := (show tI N M0 O from hI)
  have hk : tK M0 M0 := tK_rf M0
  have hQ1 := hQ
  unfold wT_X5_rest
  have := b_le7 hO7
  exact hQ _ _ (show tI N (um (um M0 32 0) 33 q1) O from hI) (show tK M0 (um (um M0 32 0) 33 q1) from hk)

