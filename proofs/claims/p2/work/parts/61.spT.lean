set_option maxHeartbeats 2000000 in
theorem spT_X0_isInstance {N : Nat → Nat} (hN : tN N) (q0 : Int32) {M0 : Nat → Int32} {O : Nat × Nat} {Q : Int32 → (Nat → Int32) → Nat × Nat → Prop} (hI : tI N M0 O) (hQ : ∀ (r : Int32) (M' : Nat → Int32) (O' : Nat × Nat), tI N M' O' → tK M0 M' → (¬ r = 0 → 0 ≤ q0.toInt ∧ q0.toInt < 3) → Q r M' O') : wT_X0_isInstance N q0 M0 O Q := by
  obtain ⟨_, _, _, _, _, _, _, _, _, _, _, _, _⟩ := (show tN N from hN)
  obtain ⟨⟨_, _⟩, ⟨_, _⟩, _, ⟨_, _⟩, ⟨_, _⟩, ⟨_, _⟩, hO7⟩ := (show tI N M0 O from hI)
  have hk : tK M0 M0 := tK_rf M0
  unfold wT_X0_isInstance
  have := b_le7 hO7
  refine ⟨fun hc1 => ?_, fun hc1 => ?_⟩
  · have := ti_rng q0
    have : (0 : Int32).toInt = 0 := by decide
    have hc1 := Int32.lt_iff_toInt_lt.mp hc1
    exact hQ _ _ _ (show tI N M0 O from hI) (show tK M0 M0 from hk) (fun h9 => by first | exact absurd rfl h9 | omega)
  · have := ti_rng q0
    have : (0 : Int32).toInt = 0 := by decide
    have hc1 := ti_nlt hc1
    refine ⟨fun hc2 => ?_, fun hc2 => ?_⟩
    · have : (3 : Int32).toInt = 3 := by decide
      have hc2 := Int32.le_iff_toInt_le.mp hc2
      exact hQ _ _ _ (show tI N M0 O from hI) (show tK M0 M0 from hk) (fun h9 => by first | exact absurd rfl h9 | omega)
    · have : (3 : Int32).toInt = 3 := by decide
      have hc2 := ti_nle hc2
      have : (1 : Int32).toInt = 1 := by decide
      exact hQ _ _ _ (show tI N M0 O from hI) (show tK M0 M0 from hk) (fun h9 => by first | exact absurd rfl h9 | omega)
set_option maxHeartbeats 2000000 in
theorem spT_X3_exists {N : Nat → Nat} (hN : tN N) (q0 : Int32) {M0 : Nat → Int32} {O : Nat × Nat} {Q : Int32 → (Nat → Int32) → Nat × Nat → Prop} (hI : tI N M0 O) (hQ : ∀ (r : Int32) (M' : Nat → Int32) (O' : Nat × Nat), tI N M' O' → tK M0 M' → (¬ r = 0 → 0 ≤ q0.toInt ∧ q0.toInt < 7) → Q r M' O') : wT_X3_exists N q0 M0 O Q := by
  obtain ⟨_, _, _, _, _, _, _, _, _, _, _, _, _⟩ := (show tN N from hN)
  obtain ⟨⟨_, _⟩, ⟨_, _⟩, _, ⟨_, _⟩, ⟨_, _⟩, ⟨_, _⟩, hO7⟩ := (show tI N M0 O from hI)
  have hk : tK M0 M0 := tK_rf M0
  unfold wT_X3_exists
  have := b_le7 hO7
  refine ⟨fun hc1 => ?_, fun hc1 => ?_⟩
  · have := ti_rng q0
    have : (0 : Int32).toInt = 0 := by decide
    have hc1 := Int32.lt_iff_toInt_lt.mp hc1
    exact hQ _ _ _ (show tI N M0 O from hI) (show tK M0 M0 from hk) (fun h9 => by first | exact absurd rfl h9 | omega)
  · have := ti_rng q0
    have : (0 : Int32).toInt = 0 := by decide
    have hc1 := ti_nlt hc1
    refine ⟨fun hc2 => ?_, fun hc2 => ?_⟩
    · have : (7 : Int32).toInt = 7 := by decide
      have hc2 := Int32.le_iff_toInt_le.mp hc2
      exact hQ _ _ _ (show tI N M0 O from hI) (show tK M0 M0 from hk) (fun h9 => by first | exact absurd rfl h9 | omega)
    · have : (7 : Int32).toInt = 7 := by decide
      have hc2 := ti_nle hc2
      have : (1 : Int32).toInt = 1 := by decide
      exact hQ _ _ _ (show tI N M0 O from hI) (show tK M0 M0 from hk) (fun h9 => by first | exact absurd rfl h9 | omega)
set_option maxHeartbeats 2000000 in
theorem spT_X0_setPolicy_41 {N : Nat → Nat} (hN : tN N) {Q : Int32 → (Nat → Int32) → Nat × Nat → Prop} {M0 : Nat → Int32} {q1 : Int32} {q2 : Int32} {q3 : Int32} {q4 : Int32} (hQ : ∀ (r : Int32) (M' : Nat → Int32) (O' : Nat × Nat), tI N M' O' → tK M0 M' → (r = 0 ∨ r = 1) → Q r M' O') (a1 : Int32) (a2 : Int32) (a3 : Int32) (a4 : Int32) (M : Nat → Int32) (O : Nat × Nat) (hI : tI N M O) (hk : tK M0 M) : wT_X0_setPolicy_41 N Q a1 a2 a3 a4 M O := by
  obtain ⟨_, _, _, _, _, _, _, _, _, _, _, _, _⟩ := (show tN N from hN)
  obtain ⟨⟨_, _⟩, ⟨_, _⟩, _, ⟨_, _⟩, ⟨_, _⟩, ⟨_, _⟩, hO7⟩ := (show tI N M O from hI)
  unfold wT_X0_setPolicy_41
  have := b_le7 hO7
  have := ti_rng a1
  have : (7 : Int32).toInt = 7 := by decide
  obtain ⟨_, _, _, _⟩ := ti_mulc a1 7 7 (by decide)
  have := ti_rng a2
  obtain ⟨_, _, _, _⟩ := ti_add (a1 * 7) a2
  refine ⟨vp_in_iff.mpr (by omega), ?_⟩
  refine ⟨vp_in_iff.mpr (by omega), ?_⟩
  have : (1 : Int32).toInt = 1 := by decide
  exact hQ _ _ _ (show tI N M O from hI) (show tK M0 M from hk) (by first | exact Or.inl rfl | exact Or.inr rfl)
set_option maxHeartbeats 2000000 in
theorem spT_X0_setPolicy {N : Nat → Nat} (hN : tN N) (q1 : Int32) (q2 : Int32) (q3 : Int32) (q4 : Int32) {M0 : Nat → Int32} {O : Nat × Nat} {Q : Int32 → (Nat → Int32) → Nat × Nat → Prop} (hI : tI N M0 O) (hQ : ∀ (r : Int32) (M' : Nat → Int32) (O' : Nat × Nat), tI N M' O' → tK M0 M' → (r = 0 ∨ r = 1) → Q r M' O') : wT_X0_setPolicy N q1 q2 q3 q4 M0 O Q := by
  obtain ⟨_, _, _, _, _, _, _, _, _, _, _, _, _⟩ := (show tN N from hN)
  obtain ⟨⟨_, _⟩, ⟨_, _⟩, _, ⟨_, _⟩, ⟨_, _⟩, ⟨_, _⟩, hO7⟩ := (show tI N M0 O from hI)
  have hk : tK M0 M0 := tK_rf M0
  unfold wT_X0_setPolicy
  have := b_le7 hO7
  have := ti_rng q1
  refine spT_X0_isInstance hN _ (show tI N M0 O from hI) (fun r1 M2 O2 hI hk1 hp2 => ?_)
  have hk := tK_tr (show tK M0 M0 from hk) hk1
  obtain ⟨⟨_, _⟩, ⟨_, _⟩, _, ⟨_, _⟩, ⟨_, _⟩, ⟨_, _⟩, hO7⟩ := (show tI N M2 O2 from hI)
  have := b_le7 hO7
  refine ⟨fun hc3 => ?_, fun hc3 => ?_⟩
  · have := ti_rng r1
    have : (0 : Int32).toInt = 0 := by decide
    have hc39 := congrArg Int32.toInt hc3
    exact hQ _ _ _ (show tI N M2 O2 from hI) (show tK M0 M2 from hk) (by first | exact Or.inl rfl | exact Or.inr rfl)
  · have := ti_rng r1
    have : (0 : Int32).toInt = 0 := by decide
    have hc39 := ti_ne hc3
    have hc3q := hp2 hc3
    have := ti_rng q2
    refine spT_X3_exists hN _ (show tI N M2 O2 from hI) (fun r4 M5 O5 hI hk1 hp5 => ?_)
    have hk := tK_tr (show tK M0 M2 from hk) hk1
    obtain ⟨⟨_, _⟩, ⟨_, _⟩, _, ⟨_, _⟩, ⟨_, _⟩, ⟨_, _⟩, hO7⟩ := (show tI N M5 O5 from hI)
    have := b_le7 hO7
    refine ⟨fun hc6 => ?_, fun hc6 => ?_⟩
    · have := ti_rng r4
      have hc69 := congrArg Int32.toInt hc6
      exact hQ _ _ _ (show tI N M5 O5 from hI) (show tK M0 M5 from hk) (by first | exact Or.inl rfl | exact Or.inr rfl)
    · have := ti_rng r4
      have hc69 := ti_ne hc6
      have hc6q := hp5 hc6
      refine ⟨fun hc7 => ?_, fun hc7 => ?_⟩
      · have := ti_rng q3
        have : ((-1) : Int32).toInt = -1 := by decide
        have hc7 := Int32.lt_iff_toInt_lt.mp hc7
        exact hQ _ _ _ (show tI N M5 O5 from hI) (show tK M0 M5 from hk) (by first | exact Or.inl rfl | exact Or.inr rfl)
      · have := ti_rng q3
        have : ((-1) : Int32).toInt = -1 := by decide
        have hc7 := ti_nlt hc7
        refine ⟨fun hc8 => ?_, fun hc8 => ?_⟩
        · have : (5 : Int32).toInt = 5 := by decide
          have hc8 := Int32.le_iff_toInt_le.mp hc8
          refine ⟨fun hc9 => ?_, fun hc9 => ?_⟩
          · have : (2 : Int32).toInt = 2 := by decide
            have hc99 := ti_ne hc9
            have := ti_rng q4
            exact spT_X0_setPolicy_41 hN hQ _ _ _ _ _ _ (show tI N M5 O5 from hI) (show tK M0 M5 from hk)
          · have : (2 : Int32).toInt = 2 := by decide
            have hc99 := congrArg Int32.toInt hc9
            have := ti_rng q4
            refine spT_X3_exists hN _ (show tI N M5 O5 from hI) (fun r10 M11 O11 hI hk1 hp11 => ?_)
            have hk := tK_tr (show tK M0 M5 from hk) hk1
            obtain ⟨⟨_, _⟩, ⟨_, _⟩, _, ⟨_, _⟩, ⟨_, _⟩, ⟨_, _⟩, hO7⟩ := (show tI N M11 O11 from hI)
            have := b_le7 hO7
            refine ⟨fun hc12 => ?_, fun hc12 => ?_⟩
            · have := ti_rng r10
              have hc129 := ti_ne hc12
              have hc12q := hp11 hc12
              exact spT_X0_setPolicy_41 hN hQ _ _ _ _ _ _ (show tI N M11 O11 from hI) (show tK M0 M11 from hk)
            · have := ti_rng r10
              have hc129 := congrArg Int32.toInt hc12
              exact hQ _ _ _ (show tI N M11 O11 from hI) (show tK M0 M11 from hk) (by first | exact Or.inl rfl | exact Or.inr rfl)
        · have : (5 : Int32).toInt = 5 := by decide
          have hc8 := ti_nle hc8
          exact hQ _ _ _ (show tI N M5 O5 from hI) (show tK M0 M5 from hk) (by first | exact Or.inl rfl | exact Or.inr rfl)
set_option maxHeartbeats 2000000 in
theorem spT_X0_enterComplaint {N : Nat → Nat} (hN : tN N) (q1 : Int32) (q2 : Int32) (q3 : Int32) {M0 : Nat → Int32} {O : Nat × Nat} {Q : Int32 → (Nat → Int32) → Nat × Nat → Prop} (hI : tI N M0 O) (hQ : ∀ (r : Int32) (M' : Nat → Int32) (O' : Nat × Nat), tI N M' O' → tK M0 M' → Q r M' O') : wT_X0_enterComplaint N q1 q2 q3 M0 O Q := by
  obtain ⟨_, _, _, _, _, _, _, _, _, _, _, _, _⟩ := (show tN N from hN)
  obtain ⟨⟨_, _⟩, ⟨_, _⟩, _, ⟨_, _⟩, ⟨_, _⟩, ⟨_, _⟩, hO7⟩ := (show tI N M0 O from hI)
  have hk : tK M0 M0 := tK_rf M0
  unfold wT_X0_enterComplaint
  have := b_le7 hO7
  have := ti_rng q1
  refine spT_X0_isInstance hN _ (show tI N M0 O from hI) (fun r1 M2 O2 hI hk1 hp2 => ?_)
  have hk := tK_tr (show tK M0 M0 from hk) hk1
  obtain ⟨⟨_, _⟩, ⟨_, _⟩, _, ⟨_, _⟩, ⟨_, _⟩, ⟨_, _⟩, hO7⟩ := (show tI N M2 O2 from hI)
  have := b_le7 hO7
  refine ⟨fun hc3 => ?_, fun hc3 => ?_⟩
  · have := ti_rng r1
    have : (0 : Int32).toInt = 0 := by decide
    have hc39 := congrArg Int32.toInt hc3
    exact hQ _ _ _ (show tI N M2 O2 from hI) (show tK M0 M2 from hk)
  · have := ti_rng r1
    have : (0 : Int32).toInt = 0 := by decide
    have hc39 := ti_ne hc3
    have hc3q := hp2 hc3
    have := ti_rng q2
    refine spT_X3_exists hN _ (show tI N M2 O2 from hI) (fun r4 M5 O5 hI hk1 hp5 => ?_)
    have hk := tK_tr (show tK M0 M2 from hk) hk1
    obtain ⟨⟨_, _⟩, ⟨_, _⟩, _, ⟨_, _⟩, ⟨_, _⟩, ⟨_, _⟩, hO7⟩ := (show tI N M5 O5 from hI)
    have := b_le7 hO7
    refine ⟨fun hc6 => ?_, fun hc6 => ?_⟩
    · have := ti_rng r4
      have hc69 := ti_ne hc6
      have hc6q := hp5 hc6
      have := ti_rng q3
      have : ((-1) : Int32).toInt = -1 := by decide
      refine spT_X2_make hN _ _ _ _ (show tI N M5 O5 from hI) (fun r7 M8 O8 hI hk1 => ?_)
      have hk := tK_tr (show tK M0 M5 from hk) hk1
      obtain ⟨⟨_, _⟩, ⟨_, _⟩, _, ⟨_, _⟩, ⟨_, _⟩, ⟨_, _⟩, hO7⟩ := (show tI N M8 O8 from hI)
      have := b_le7 hO7
      refine ⟨fun hc9 => ?_, fun hc9 => ?_⟩
      · have := ti_rng r7
        have hc99 := ti_ne hc9
        refine ⟨vp_in_iff.mpr (by omega), ?_⟩
        exact hQ _ _ _ (show tI N M8 O8 from hI) (show tK M0 M8 from hk)
      · have := ti_rng r7
        have hc99 := congrArg Int32.toInt hc9
        exact hQ _ _ _ (show tI N M8 O8 from hI) (show tK M0 M8 from hk)
    · have := ti_rng r4
      have hc69 := congrArg Int32.toInt hc6
      exact hQ _ _ _ (show tI N M5 O5 from hI) (show tK M0 M5 from hk)
set_option maxHeartbeats 2000000 in
theorem spT_X0_complaintOf {N : Nat → Nat} (hN : tN N) (q1 : Int32) {M0 : Nat → Int32} {O : Nat × Nat} {Q : Int32 → (Nat → Int32) → Nat × Nat → Prop} (hI : tI N M0 O) (hQ : ∀ (r : Int32) (M' : Nat → Int32) (O' : Nat × Nat), tI N M' O' → tK M0 M' → Q r M' O') : wT_X0_complaintOf N q1 M0 O Q := by
  obtain ⟨_, _, _, _, _, _, _, _, _, _, _, _, _⟩ := (show tN N from hN)
  obtain ⟨⟨_, _⟩, ⟨_, _⟩, _, ⟨_, _⟩, ⟨_, _⟩, ⟨_, _⟩, hO7⟩ := (show tI N M0 O from hI)
  have hk : tK M0 M0 := tK_rf M0
  unfold wT_X0_complaintOf
  have := b_le7 hO7
  have := ti_rng q1
  refine spT_X0_isInstance hN _ (show tI N M0 O from hI) (fun r1 M2 O2 hI hk1 hp2 => ?_)
  have hk := tK_tr (show tK M0 M0 from hk) hk1
  obtain ⟨⟨_, _⟩, ⟨_, _⟩, _, ⟨_, _⟩, ⟨_, _⟩, ⟨_, _⟩, hO7⟩ := (show tI N M2 O2 from hI)
  have := b_le7 hO7
  refine ⟨fun hc3 => ?_, fun hc3 => ?_⟩
  · have := ti_rng r1
    have : (0 : Int32).toInt = 0 := by decide
    have hc39 := congrArg Int32.toInt hc3
    exact hQ _ _ _ (show tI N M2 O2 from hI) (show tK M0 M2 from hk)
  · have := ti_rng r1
    have : (0 : Int32).toInt = 0 := by decide
    have hc39 := ti_ne hc3
    have hc3q := hp2 hc3
    refine ⟨vp_in_iff.mpr (by omega), fun z4 => ?_⟩
    exact hQ _ _ _ (show tI N M2 O2 from hI) (show tK M0 M2 from hk)
set_option maxHeartbeats 2000000 in
theorem spT_X3_oneOf {N : Nat → Nat} (hN : tN N) (q0 : Int32) {M0 : Nat → Int32} {O : Nat × Nat} {Q : Int32 → (Nat → Int32) → Nat × Nat → Prop} (hI : tI N M0 O) (hQ : ∀ (r : Int32) (M' : Nat → Int32) (O' : Nat × Nat), tI N M' O' → tK M0 M' → Q r M' O') : wT_X3_oneOf N q0 M0 O Q := by
  obtain ⟨_, _, _, _, _, _, _, _, _, _, _, _, _⟩ := (show tN N from hN)
  obtain ⟨⟨_, _⟩, ⟨_, _⟩, _, ⟨_, _⟩, ⟨_, _⟩, ⟨_, _⟩, hO7⟩ := (show tI N M0 O from hI)
  have hk : tK M0 M0 := tK_rf M0
  unfold wT_X3_oneOf
  have := b_le7 hO7
  refine ⟨fun hc1 => ?_, fun hc1 => ?_⟩
  · have := ti_rng q0
    have : (0 : Int32).toInt = 0 := by decide
    have hc1 := Int32.lt_iff_toInt_lt.mp hc1
    exact hQ _ _ _ (show tI N M0 O from hI) (show tK M0 M0 from hk)
  · have := ti_rng q0
    have : (0 : Int32).toInt = 0 := by decide
    have hc1 := ti_nlt hc1
    refine ⟨fun hc2 => ?_, fun hc2 => ?_⟩
    · have : (7 : Int32).toInt = 7 := by decide
      have hc2 := Int32.le_iff_toInt_le.mp hc2
      exact hQ _ _ _ (show tI N M0 O from hI) (show tK M0 M0 from hk)
    · have : (7 : Int32).toInt = 7 := by decide
      have hc2 := ti_nle hc2
      refine ⟨vp_in_iff.mpr (by omega), fun z3 => ?_⟩
      exact hQ _ _ _ (show tI N M0 O from hI) (show tK M0 M0 from hk)
set_option maxHeartbeats 2000000 in
theorem spT_X0_policyIndex_54 {N : Nat → Nat} (hN : tN N) {K5 : (Int32 → Int32 → Int32 → (Nat → Int32) → (Nat × Nat) → Prop)} {n5 : Nat} {Q : Int32 → (Nat → Int32) → Nat × Nat → Prop} {M0 : Nat → Int32} {q1 : Int32} {q2 : Int32} (sK5 : ∀ (a1 : Int32) (a3 : Int32) (a4 : Int32) (M : Nat → Int32) (O : Nat × Nat), tI N M O → tK M0 M → (0 ≤ a4.toInt ∧ a4.toInt ≤ 7) → (7 - a4.toInt) + 1 ≤ (n5 : Int) → K5 a1 a3 a4 M O) (hQ : ∀ (r : Int32) (M' : Nat → Int32) (O' : Nat × Nat), tI N M' O' → tK M0 M' → Q r M' O') (a1 : Int32) (a3 : Int32) (a4 : Int32) (M : Nat → Int32) (O : Nat × Nat) (hI : tI N M O) (hk : tK M0 M) (hbi : ((0 ≤ a4.toInt ∧ a4.toInt ≤ 7) ∧ (7 - a4.toInt) ≤ (n5 : Int) ∧ 1 ≤ (7 - a4.toInt))) : wT_X0_policyIndex_54 N K5 Q a1 a3 a4 M O := by
  obtain ⟨_, _, _, _, _, _, _, _, _, _, _, _, _⟩ := (show tN N from hN)
  obtain ⟨⟨_, _⟩, ⟨_, _⟩, _, ⟨_, _⟩, ⟨_, _⟩, ⟨_, _⟩, hO7⟩ := (show tI N M O from hI)
  unfold wT_X0_policyIndex_54
  have := b_le7 hO7
  have := ti_rng a3
  refine spT_X3_oneOf hN _ (show tI N M O from hI) (fun r4 M5 O5 hI hk1 => ?_)
  have hk := tK_tr (show tK M0 M from hk) hk1
  obtain ⟨⟨_, _⟩, ⟨_, _⟩, _, ⟨_, _⟩, ⟨_, _⟩, ⟨_, _⟩, hO7⟩ := (show tI N M5 O5 from hI)
  have := b_le7 hO7
  have := ti_rng a1
  have := ti_rng r4
  have := ti_rng a4
  have : (1 : Int32).toInt = 1 := by decide
  obtain ⟨_, _, _, _⟩ := ti_add a4 1
  exact sK5 _ _ _ _ _ (show tI N M5 O5 from hI) (show tK M0 M5 from hk) (show 0 ≤ (a4 + 1).toInt ∧ (a4 + 1).toInt ≤ 7 from by omega) (show (7 - (a4 + 1).toInt) + 1 ≤ _ from by omega)
set_option maxHeartbeats 2000000 in
theorem spT_X0_policyIndex_5 {N : Nat → Nat} (hN : tN N) {Q : Int32 → (Nat → Int32) → Nat × Nat → Prop} {M0 : Nat → Int32} {q1 : Int32} {q2 : Int32} (hQ : ∀ (r : Int32) (M' : Nat → Int32) (O' : Nat × Nat), tI N M' O' → tK M0 M' → Q r M' O') : ∀ (n5 : Nat) (a1 : Int32) (a3 : Int32) (a4 : Int32) (M : Nat → Int32) (O : Nat × Nat), tI N M O → tK M0 M → (0 ≤ a4.toInt ∧ a4.toInt ≤ 7) → (7 - a4.toInt) + 1 ≤ (n5 : Int) → wT_X0_policyIndex_5 N Q n5 a1 a3 a4 M O := by
  obtain ⟨_, _, _, _, _, _, _, _, _, _, _, _, _⟩ := (show tN N from hN)
  intro n5
  induction n5 with
  | zero => intro a1 a3 a4 M O hI hk hv hn; exact absurd hn (by omega)
  | succ n5 ih =>
    intro a1 a3 a4 M O hI hk hv hn
    obtain ⟨⟨_, _⟩, ⟨_, _⟩, _, ⟨_, _⟩, ⟨_, _⟩, ⟨_, _⟩, hO7⟩ := (show tI N M O from hI)
    dsimp only [wT_X0_policyIndex_5]
    have := b_le7 hO7
    refine ⟨fun hc1 => ?_, fun hc1 => ?_⟩
    · have : (7 : Int32).toInt = 7 := by decide
      have := ti_rng a4
      have hc1 := Int32.le_iff_toInt_le.mp hc1
      exact hQ _ _ _ (show tI N M O from hI) (show tK M0 M from hk)
    · have : (7 : Int32).toInt = 7 := by decide
      have := ti_rng a4
      have hc1 := ti_nle hc1
      refine ⟨fun hc2 => ?_, fun hc2 => ?_⟩
      · have := ti_rng a3
        have : ((-1) : Int32).toInt = -1 := by decide
        have hc29 := congrArg Int32.toInt hc2
        exact hQ _ _ _ (show tI N M O from hI) (show tK M0 M from hk)
      · have := ti_rng a3
        have : ((-1) : Int32).toInt = -1 := by decide
        have hc29 := ti_ne hc2
        refine ⟨fun hc3 => ?_, fun hc3 => ?_⟩
        · have := ti_rng a1
          obtain ⟨_, _, _, _⟩ := ti_mulc a1 7 7 (by decide)
          obtain ⟨_, _, _, _⟩ := ti_add (a1 * 7) a3
          have : (0 : Int32).toInt = 0 := by decide
          have hc3 := Int32.lt_iff_toInt_lt.mp hc3
          exact spT_X0_policyIndex_54 hN ih hQ _ _ _ _ _ (show tI N M O from hI) (show tK M0 M from hk) (show ((0 ≤ a4.toInt ∧ a4.toInt ≤ 7) ∧ (7 - a4.toInt) ≤ (n5 : Int) ∧ 1 ≤ (7 - a4.toInt)) from by omega)
        · have := ti_rng a1
          obtain ⟨_, _, _, _⟩ := ti_mulc a1 7 7 (by decide)
          obtain ⟨_, _, _, _⟩ := ti_add (a1 * 7) a3
          have : (0 : Int32).toInt = 0 := by decide
          have hc3 := ti_nlt hc3
          refine ⟨fun hc6 => ?_, fun hc6 => ?_⟩
          · have := nI_toInt (n := (N 11)) (by omega)
            have hc6 := Int32.le_iff_toInt_le.mp hc6
            exact spT_X0_policyIndex_54 hN ih hQ _ _ _ _ _ (show tI N M O from hI) (show tK M0 M from hk) (show ((0 ≤ a4.toInt ∧ a4.toInt ≤ 7) ∧ (7 - a4.toInt) ≤ (n5 : Int) ∧ 1 ≤ (7 - a4.toInt)) from by omega)
          · have := nI_toInt (n := (N 11)) (by omega)
            have hc6 := ti_nle hc6
            refine ⟨vp_in_iff.mpr (by omega), fun z7 => ?_⟩
            refine ⟨fun hc8 => ?_, fun hc8 => ?_⟩
            · have := ti_rng z7
              have hc89 := congrArg Int32.toInt hc8
              exact spT_X0_policyIndex_54 hN ih hQ _ _ _ _ _ (show tI N M O from hI) (show tK M0 M from hk) (show ((0 ≤ a4.toInt ∧ a4.toInt ≤ 7) ∧ (7 - a4.toInt) ≤ (n5 : Int) ∧ 1 ≤ (7 - a4.toInt)) from by omega)
            · have := ti_rng z7
              have hc89 := ti_ne hc8
              exact hQ _ _ _ (show tI N M O from hI) (show tK M0 M from hk)
set_option maxHeartbeats 2000000 in
theorem spT_X0_policyIndex {N : Nat → Nat} (hN : tN N) (q1 : Int32) (q2 : Int32) {M0 : Nat → Int32} {O : Nat × Nat} {Q : Int32 → (Nat → Int32) → Nat × Nat → Prop} (hI : tI N M0 O) (hQ : ∀ (r : Int32) (M' : Nat → Int32) (O' : Nat × Nat), tI N M' O' → tK M0 M' → Q r M' O') : wT_X0_policyIndex N q1 q2 M0 O Q := by
  obtain ⟨_, _, _, _, _, _, _, _, _, _, _, _, _⟩ := (show tN N from hN)
  obtain ⟨⟨_, _⟩, ⟨_, _⟩, _, ⟨_, _⟩, ⟨_, _⟩, ⟨_, _⟩, hO7⟩ := (show tI N M0 O from hI)
  have hk : tK M0 M0 := tK_rf M0
  unfold wT_X0_policyIndex
  have := b_le7 hO7
  have := ti_rng q1
  have := ti_rng q2
  have : (0 : Int32).toInt = 0 := by decide
  exact ⟨((7 - 0.toInt) + 1).toNat, spT_X0_policyIndex_5 hN hQ _ _ _ _ _ _ (show tI N M0 O from hI) (show tK M0 M0 from hk) (show 0 ≤ 0.toInt ∧ 0.toInt ≤ 7 from by omega) (show (7 - 0.toInt) + 1 ≤ _ from by omega)⟩
set_option maxHeartbeats 2000000 in
theorem spT_X8_setNumber {N : Nat → Nat} (hN : tN N) (q1 : Int32) (q2 : Int32) {M0 : Nat → Int32} {O : Nat × Nat} {Q : (Nat → Int32) → Nat × Nat → Prop} (hI : tI N M0 O) (hQ : ∀ (M' : Nat → Int32) (O' : Nat × Nat), tI N M' O' → tK M0 M' → Q M' O') : wT_X8_setNumber N q1 q2 M0 O Q := by
  obtain ⟨_, _, _, _, _, _, _, _, _, _, _, _, _⟩ := (show tN N from hN)
  obtain ⟨⟨_, _⟩, ⟨_, _⟩, _, ⟨_, _⟩, ⟨_, _⟩, ⟨_, _⟩, hO7⟩ := (show tI N M0 O from hI)
  have hk : tK M0 M0 := tK_rf M0
  unfold wT_X8_setNumber
  have := b_le7 hO7
  refine ⟨fun hc1 => ?_, fun hc1 => ?_⟩
  · have := ti_rng (M0 50)
    have : (1 : Int32).toInt = 1 := by decide
    obtain ⟨_, _, _, _⟩ := ti_sub (M0 50) 1
    have : (12 : Int32).toInt = 12 := by decide
    obtain ⟨_, _, _, _⟩ := ti_mulc ((M0 50) - 1) 12 12 (by decide)
    have := ti_rng q1
    obtain ⟨_, _, _, _⟩ := ti_add (((M0 50) - 1) * 12) q1
    have : (0 : Int32).toInt = 0 := by decide
    have hc1 := Int32.lt_iff_toInt_lt.mp hc1
    exact hQ _ _ (show tI N M0 O from hI) (show tK M0 M0 from hk)
  · have := ti_rng (M0 50)
    have : (1 : Int32).toInt = 1 := by decide
    obtain ⟨_, _, _, _⟩ := ti_sub (M0 50) 1
    have : (12 : Int32).toInt = 12 := by decide
    obtain ⟨_, _, _, _⟩ := ti_mulc ((M0 50) - 1) 12 12 (by decide)
    have := ti_rng q1
    obtain ⟨_, _, _, _⟩ := ti_add (((M0 50) - 1) * 12) q1
    have : (0 : Int32).toInt = 0 := by decide
    have hc1 := ti_nlt hc1
    refine ⟨fun hc2 => ?_, fun hc2 => ?_⟩
    · have := nI_toInt (n := (N 15)) (by omega)
      have hc2 := Int32.le_iff_toInt_le.mp hc2
      exact hQ _ _ (show tI N M0 O from hI) (show tK M0 M0 from hk)
    · have := nI_toInt (n := (N 15)) (by omega)
      have hc2 := ti_nle hc2
      refine ⟨vp_in_iff.mpr (by omega), ?_⟩
      exact hQ _ _ (show tI N M0 O from hI) (show tK M0 M0 from hk)
set_option maxHeartbeats 2000000 in
theorem spT_X8_setObject {N : Nat → Nat} (hN : tN N) (q1 : Int32) (q2 : Int32) {M0 : Nat → Int32} {O : Nat × Nat} {Q : (Nat → Int32) → Nat × Nat → Prop} (hI : tI N M0 O) (hQ : ∀ (M' : Nat → Int32) (O' : Nat × Nat), tI N M' O' → tK M0 M' → Q M' O') : wT_X8_setObject N q1 q2 M0 O Q := by
  obtain ⟨_, _, _, _, _, _, _, _, _, _, _, _, _⟩ := (show tN N from hN)
  obtain ⟨⟨_, _⟩, ⟨_, _⟩, _, ⟨_, _⟩, ⟨_, _⟩, ⟨_, _⟩, hO7⟩ := (show tI N M0 O from hI)
  have hk : tK M0 M0 := tK_rf M0
  unfold wT_X8_setObject
  have := b_le7 hO7
  refine ⟨fun hc1 => ?_, fun hc1 => ?_⟩
  · have := ti_rng q1
    have : ((-1) : Int32).toInt = -1 := by decide
    have hc19 := congrArg Int32.toInt hc1
    exact hQ _ _ (show tI N M0 O from hI) (show tK M0 M0 from hk)
  · have := ti_rng q1
    have : ((-1) : Int32).toInt = -1 := by decide
    have hc19 := ti_ne hc1
    refine ⟨fun hc2 => ?_, fun hc2 => ?_⟩
    · have := ti_rng (M0 50)
      have : (1 : Int32).toInt = 1 := by decide
      obtain ⟨_, _, _, _⟩ := ti_sub (M0 50) 1
      have : (8 : Int32).toInt = 8 := by decide
      obtain ⟨_, _, _, _⟩ := ti_mulc ((M0 50) - 1) 8 8 (by decide)
      obtain ⟨_, _, _, _⟩ := ti_add (((M0 50) - 1) * 8) q1
      have : (0 : Int32).toInt = 0 := by decide
      have hc2 := Int32.lt_iff_toInt_lt.mp hc2
      exact hQ _ _ (show tI N M0 O from hI) (show tK M0 M0 from hk)
    · have := ti_rng (M0 50)
      have : (1 : Int32).toInt = 1 := by decide
      obtain ⟨_, _, _, _⟩ := ti_sub (M0 50) 1
      have : (8 : Int32).toInt = 8 := by decide
      obtain ⟨_, _, _, _⟩ := ti_mulc ((M0 50) - 1) 8 8 (by decide)
      obtain ⟨_, _, _, _⟩ := ti_add (((M0 50) - 1) * 8) q1
      have : (0 : Int32).toInt = 0 := by decide
      have hc2 := ti_nlt hc2
      refine ⟨fun hc3 => ?_, fun hc3 => ?_⟩
      · have := nI_toInt (n := (N 16)) (by omega)
        have hc3 := Int32.le_iff_toInt_le.mp hc3
        exact hQ _ _ (show tI N M0 O from hI) (show tK M0 M0 from hk)
      · have := nI_toInt (n := (N 16)) (by omega)
        have hc3 := ti_nle hc3
        refine ⟨vp_in_iff.mpr (by omega), ?_⟩
        exact hQ _ _ (show tI N M0 O from hI) (show tK M0 M0 from hk)
set_option maxHeartbeats 2000000 in
theorem spT_X6_startOf {N : Nat → Nat} (hN : tN N) (q1 : Int32) {M0 : Nat → Int32} {O : Nat × Nat} {Q : Int32 → (Nat → Int32) → Nat × Nat → Prop} (hI : tI N M0 O) (hQ : ∀ (r : Int32) (M' : Nat → Int32) (O' : Nat × Nat), tI N M' O' → tK M0 M' → Q r M' O') : wT_X6_startOf N q1 M0 O Q := by
  obtain ⟨_, _, _, _, _, _, _, _, _, _, _, _, _⟩ := (show tN N from hN)
  obtain ⟨⟨_, _⟩, ⟨_, _⟩, _, ⟨_, _⟩, ⟨_, _⟩, ⟨_, _⟩, hO7⟩ := (show tI N M0 O from hI)
  have hk : tK M0 M0 := tK_rf M0
  unfold wT_X6_startOf
  have := b_le7 hO7
  refine ⟨fun hc1 => ?_, fun hc1 => ?_⟩
  · have := ti_rng q1
    have : (0 : Int32).toInt = 0 := by decide
    have hc1 := Int32.lt_iff_toInt_lt.mp hc1
    exact hQ _ _ _ (show tI N M0 O from hI) (show tK M0 M0 from hk)
  · have := ti_rng q1
    have : (0 : Int32).toInt = 0 := by decide
    have hc1 := ti_nlt hc1
    refine ⟨fun hc2 => ?_, fun hc2 => ?_⟩
    · have : (16 : Int32).toInt = 16 := by decide
      have hc2 := Int32.le_iff_toInt_le.mp hc2
      exact hQ _ _ _ (show tI N M0 O from hI) (show tK M0 M0 from hk)
    · have : (16 : Int32).toInt = 16 := by decide
      have hc2 := ti_nle hc2
      refine ⟨vp_in_iff.mpr (by omega), fun z3 => ?_⟩
      exact hQ _ _ _ (show tI N M0 O from hI) (show tK M0 M0 from hk)
set_option maxHeartbeats 2000000 in
theorem spT_X8_begin_62 {N : Nat → Nat} (hN : tN N) {Q : (Nat → Int32) → Nat × Nat → Prop} {M0 : Nat → Int32} {q1 : Int32} (hQ : ∀ (M' : Nat → Int32) (O' : Nat × Nat), tI N M' O' → tK M0 M' → Q M' O') : ∀ (n62 : Nat) (a1 : Int32) (a2 : Int32) (M : Nat → Int32) (O : Nat × Nat), tI N M O → tK M0 M → (0 ≤ a2.toInt ∧ a2.toInt ≤ 8) → (8 - a2.toInt) + 1 ≤ (n62 : Int) → wT_X8_begin_62 N Q n62 a1 a2 M O := by
  obtain ⟨_, _, _, _, _, _, _, _, _, _, _, _, _⟩ := (show tN N from hN)
  intro n62
  induction n62 with
  | zero => intro a1 a2 M O hI hk hv hn; exact absurd hn (by omega)
  | succ n62 ih =>
    intro a1 a2 M O hI hk hv hn
    obtain ⟨⟨_, _⟩, ⟨_, _⟩, _, ⟨_, _⟩, ⟨_, _⟩, ⟨_, _⟩, hO7⟩ := (show tI N M O from hI)
    dsimp only [wT_X8_begin_62]
    have := b_le7 hO7
    refine ⟨fun hc4 => ?_, fun hc4 => ?_⟩
    · have : (8 : Int32).toInt = 8 := by decide
      have := ti_rng a2
      have hc4 := Int32.le_iff_toInt_le.mp hc4
      have := ti_rng a1
      refine spT_X6_startOf hN _ (show tI N M O from hI) (fun r5 M6 O6 hI hk1 => ?_)
      have hk := tK_tr (show tK M0 M from hk) hk1
      obtain ⟨⟨_, _⟩, ⟨_, _⟩, _, ⟨_, _⟩, ⟨_, _⟩, ⟨_, _⟩, hO7⟩ := (show tI N M6 O6 from hI)
      have := b_le7 hO7
      exact hQ _ _ (show tI N (um (um M6 49 r5) 38 ((M6 38) + 1)) O6 from hI) (show tK M0 (um (um M6 49 r5) 38 ((M6 38) + 1)) from hk)
    · have : (8 : Int32).toInt = 8 := by decide
      have := ti_rng a2
      have hc4 := ti_nle hc4
      have : (0 : Int32).toInt = 0 := by decide
      refine spT_X8_setObject hN _ _ (show tI N M O from hI) (fun M7 O7 hI hk1 => ?_)
      have hk := tK_tr (show tK M0 M from hk) hk1
      obtain ⟨⟨_, _⟩, ⟨_, _⟩, _, ⟨_, _⟩, ⟨_, _⟩, ⟨_, _⟩, hO7⟩ := (show tI N M7 O7 from hI)
      have := b_le7 hO7
      have := ti_rng a1
      have : (1 : Int32).toInt = 1 := by decide
      obtain ⟨_, _, _, _⟩ := ti_add a2 1
      exact ih _ _ _ _ (show tI N M7 O7 from hI) (show tK M0 M7 from hk) (show 0 ≤ (a2 + 1).toInt ∧ (a2 + 1).toInt ≤ 8 from by omega) (show (8 - (a2 + 1).toInt) + 1 ≤ _ from by omega)
set_option maxHeartbeats 2000000 in
theorem spT_X8_begin_42 {N : Nat → Nat} (hN : tN N) {Q : (Nat → Int32) → Nat × Nat → Prop} {M0 : Nat → Int32} {q1 : Int32} (hQ : ∀ (M' : Nat → Int32) (O' : Nat × Nat), tI N M' O' → tK M0 M' → Q M' O') : ∀ (n42 : Nat) (a1 : Int32) (a2 : Int32) (M : Nat → Int32) (O : Nat × Nat), tI N M O → tK M0 M → (0 ≤ a2.toInt ∧ a2.toInt ≤ 12) → (12 - a2.toInt) + 1 ≤ (n42 : Int) → wT_X8_begin_42 N Q n42 a1 a2 M O := by
  obtain ⟨_, _, _, _, _, _, _, _, _, _, _, _, _⟩ := (show tN N from hN)
  intro n42
  induction n42 with
  | zero => intro a1 a2 M O hI hk hv hn; exact absurd hn (by omega)
  | succ n42 ih =>
    intro a1 a2 M O hI hk hv hn
    obtain ⟨⟨_, _⟩, ⟨_, _⟩, _, ⟨_, _⟩, ⟨_, _⟩, ⟨_, _⟩, hO7⟩ := (show tI N M O from hI)
    dsimp only [wT_X8_begin_42]
    have := b_le7 hO7
    refine ⟨fun hc3 => ?_, fun hc3 => ?_⟩
    · have : (12 : Int32).toInt = 12 := by decide
      have := ti_rng a2
      have hc3 := Int32.le_iff_toInt_le.mp hc3
      have := ti_rng a1
      have : (0 : Int32).toInt = 0 := by decide
      exact ⟨((8 - 0.toInt) + 1).toNat, spT_X8_begin_62 hN hQ _ _ _ _ _ (show tI N M O from hI) (show tK M0 M from hk) (show 0 ≤ 0.toInt ∧ 0.toInt ≤ 8 from by omega) (show (8 - 0.toInt) + 1 ≤ _ from by omega)⟩
    · have : (12 : Int32).toInt = 12 := by decide
      have := ti_rng a2
      have hc3 := ti_nle hc3
      have : (0 : Int32).toInt = 0 := by decide
      refine spT_X8_setNumber hN _ _ (show tI N M O from hI) (fun M8 O8 hI hk1 => ?_)
      have hk := tK_tr (show tK M0 M from hk) hk1
      obtain ⟨⟨_, _⟩, ⟨_, _⟩, _, ⟨_, _⟩, ⟨_, _⟩, ⟨_, _⟩, hO7⟩ := (show tI N M8 O8 from hI)
      have := b_le7 hO7
      have := ti_rng a1
      have : (1 : Int32).toInt = 1 := by decide
      obtain ⟨_, _, _, _⟩ := ti_add a2 1
      exact ih _ _ _ _ (show tI N M8 O8 from hI) (show tK M0 M8 from hk) (show 0 ≤ (a2 + 1).toInt ∧ (a2 + 1).toInt ≤ 12 from by omega) (show (12 - (a2 + 1).toInt) + 1 ≤ _ from by omega)
set_option maxHeartbeats 2000000 in
theorem spT_X8_begin {N : Nat → Nat} (hN : tN N) (q1 : Int32) {M0 : Nat → Int32} {O : Nat × Nat} {Q : (Nat → Int32) → Nat × Nat → Prop} (hI : tI N M0 O) (hQ : ∀ (M' : Nat → Int32) (O' : Nat × Nat), tI N M' O' → tK M0 M' → Q M' O') : wT_X8_begin N q1 M0 O Q := by
  obtain ⟨_, _, _, _, _, _, _, _, _, _, _, _, _⟩ := (show tN N from hN)
  obtain ⟨⟨_, _⟩, ⟨_, _⟩, _, ⟨_, _⟩, ⟨_, _⟩, ⟨_, _⟩, hO7⟩ := (show tI N M0 O from hI)
  have hk : tK M0 M0 := tK_rf M0
  unfold wT_X8_begin
  have := b_le7 hO7
  refine ⟨fun hc1 => ?_, fun hc1 => ?_⟩
  · have := ti_rng (M0 50)
    have : (0 : Int32).toInt = 0 := by decide
    have hc1 := Int32.lt_iff_toInt_lt.mp hc1
    exact hQ _ _ (show tI N M0 O from hI) (show tK M0 M0 from hk)
  · have := ti_rng (M0 50)
    have : (0 : Int32).toInt = 0 := by decide
    have hc1 := ti_nlt hc1
    refine ⟨fun hc2 => ?_, fun hc2 => ?_⟩
    · have : (12 : Int32).toInt = 12 := by decide
      have hc2 := Int32.lt_iff_toInt_lt.mp hc2
      refine ⟨vp_in_iff.mpr (by omega), ?_⟩
      have := ti_rng q1
      exact ⟨((12 - 0.toInt) + 1).toNat, spT_X8_begin_42 hN hQ _ _ _ _ _ (show tI N (um M0 50 ((M0 50) + 1)) O from hI) (show tK M0 (um M0 50 ((M0 50) + 1)) from hk) (show 0 ≤ 0.toInt ∧ 0.toInt ≤ 12 from by omega) (show (12 - 0.toInt) + 1 ≤ _ from by omega)⟩
    · have : (12 : Int32).toInt = 12 := by decide
      have hc2 := ti_nlt hc2
      exact hQ _ _ (show tI N M0 O from hI) (show tK M0 M0 from hk)
set_option maxHeartbeats 2000000 in
theorem spT_X6_parametersOf {N : Nat → Nat} (hN : tN N) (q1 : Int32) {M0 : Nat → Int32} {O : Nat × Nat} {Q : Int32 → (Nat → Int32) → Nat × Nat → Prop} (hI : tI N M0 O) (hQ : ∀ (r : Int32) (M' : Nat → Int32) (O' : Nat × Nat), tI N M' O' → tK M0 M' → Q r M' O') : wT_X6_parametersOf N q1 M0 O Q := by
  obtain ⟨_, _, _, _, _, _, _, _, _, _, _, _, _⟩ := (show tN N from hN)
  obtain ⟨⟨_, _⟩, ⟨_, _⟩, _, ⟨_, _⟩, ⟨_, _⟩, ⟨_, _⟩, hO7⟩ := (show tI N M0 O from hI)
  have hk : tK M0 M0 := tK_rf M0
  unfold wT_X6_parametersOf
  have := b_le7 hO7
  refine ⟨fun hc1 => ?_, fun hc1 => ?_⟩
  · have := ti_rng q1
    have : (0 : Int32).toInt = 0 := by decide
    have hc1 := Int32.lt_iff_toInt_lt.mp hc1
    exact hQ _ _ _ (show tI N M0 O from hI) (show tK M0 M0 from hk)
  · have := ti_rng q1
    have : (0 : Int32).toInt = 0 := by decide
    have hc1 := ti_nlt hc1
    refine ⟨fun hc2 => ?_, fun hc2 => ?_⟩
    · have : (16 : Int32).toInt = 16 := by decide
      have hc2 := Int32.le_iff_toInt_le.mp hc2
      exact hQ _ _ _ (show tI N M0 O from hI) (show tK M0 M0 from hk)
    · have : (16 : Int32).toInt = 16 := by decide
      have hc2 := ti_nle hc2
      refine ⟨vp_in_iff.mpr (by omega), fun z3 => ?_⟩
      exact hQ _ _ _ (show tI N M0 O from hI) (show tK M0 M0 from hk)
set_option maxHeartbeats 2000000 in
theorem spT_X8_start_47 {N : Nat → Nat} (hN : tN N) {Q : (Nat → Int32) → Nat × Nat → Prop} {M0 : Nat → Int32} {q1 : Int32} {q2 : Int32} {q3 : Int32} (hQ : ∀ (M' : Nat → Int32) (O' : Nat × Nat), tI N M' O' → tK M0 M' → Q M' O') (a1 : Int32) (a3 : Int32) (M : Nat → Int32) (O : Nat × Nat) (hI : tI N M O) (hk : tK M0 M) : wT_X8_start_47 N Q a1 a3 M O := by
  obtain ⟨_, _, _, _, _, _, _, _, _, _, _, _, _⟩ := (show tN N from hN)
  obtain ⟨⟨_, _⟩, ⟨_, _⟩, _, ⟨_, _⟩, ⟨_, _⟩, ⟨_, _⟩, hO7⟩ := (show tI N M O from hI)
  unfold wT_X8_start_47
  have := b_le7 hO7
  have := ti_rng a1
  refine spT_X6_parametersOf hN _ (show tI N M O from hI) (fun r5 M6 O6 hI hk1 => ?_)
  have hk := tK_tr (show tK M0 M from hk) hk1
  obtain ⟨⟨_, _⟩, ⟨_, _⟩, _, ⟨_, _⟩, ⟨_, _⟩, ⟨_, _⟩, hO7⟩ := (show tI N M6 O6 from hI)
  have := b_le7 hO7
  refine ⟨fun hc7 => ?_, fun hc7 => ?_⟩
  · have := ti_rng r5
    have : (1 : Int32).toInt = 1 := by decide
    have hc7 := Int32.le_iff_toInt_le.mp hc7
    exact hQ _ _ (show tI N M6 O6 from hI) (show tK M0 M6 from hk)
  · have := ti_rng r5
    have : (1 : Int32).toInt = 1 := by decide
    have hc7 := ti_nle hc7
    have := ti_rng a3
    refine spT_X8_setNumber hN _ _ (show tI N M6 O6 from hI) (fun M8 O8 hI hk1 => ?_)
    have hk := tK_tr (show tK M0 M6 from hk) hk1
    obtain ⟨⟨_, _⟩, ⟨_, _⟩, _, ⟨_, _⟩, ⟨_, _⟩, ⟨_, _⟩, hO7⟩ := (show tI N M8 O8 from hI)
    have := b_le7 hO7
    exact hQ _ _ (show tI N M8 O8 from hI) (show tK M0 M8 from hk)
set_option maxHeartbeats 2000000 in
theorem spT_X8_start {N : Nat → Nat} (hN : tN N) (q1 : Int32) (q2 : Int32) (q3 : Int32) {M0 : Nat → Int32} {O : Nat × Nat} {Q : (Nat → Int32) → Nat × Nat → Prop} (hI : tI N M0 O) (hQ : ∀ (M' : Nat → Int32) (O' : Nat × Nat), tI N M' O' → tK M0 M' → Q M' O') : wT_X8_start N q1 q2 q3 M0 O Q := by
  obtain ⟨_, _, _, _, _, _, _, _, _, _, _, _, _⟩ := (show tN N from hN)
  obtain ⟨⟨_, _⟩, ⟨_, _⟩, _, ⟨_, _⟩, ⟨_, _⟩, ⟨_, _⟩, hO7⟩ := (show tI N M0 O from hI)
  have hk : tK M0 M0 := tK_rf M0
  unfold wT_X8_start
  have := b_le7 hO7
  have := ti_rng q1
  have : (0 : Int32).toInt = 0 := by decide
  refine spT_X8_begin hN _ (show tI N (um (um (um (um (um M0 53 0) 50 0) 51 0) 52 0) 54 0) O from (show (0 ≤ (M0 1).toInt ∧ (M0 1).toInt ≤ 4000) ∧ (0 ≤ (M0 22).toInt ∧ (M0 22).toInt ≤ 8000) ∧ 7 * (M0 22).toInt ≤ ((448 * 2 ^ O.2 : Nat) : Int) ∧ (0 ≤ (M0 31).toInt ∧ (M0 31).toInt ≤ 200) ∧ (0 ≤ 0.toInt ∧ 0.toInt ≤ 128) ∧ (0 ≤ (M0 63).toInt ∧ (M0 63).toInt ≤ (N 20 : Int)) ∧ O.2 ≤ 7 from by omega)) (fun M1 O1 hI hk1 => ?_)
  have hk := tK_tr (show tK M0 (um (um (um (um (um M0 53 0) 50 0) 51 0) 52 0) 54 0) from hk) hk1
  obtain ⟨⟨_, _⟩, ⟨_, _⟩, _, ⟨_, _⟩, ⟨_, _⟩, ⟨_, _⟩, hO7⟩ := (show tI N M1 O1 from hI)
  have := b_le7 hO7
  refine spT_X6_parametersOf hN _ (show tI N M1 O1 from hI) (fun r2 M3 O3 hI hk1 => ?_)
  have hk := tK_tr (show tK M0 M1 from hk) hk1
  obtain ⟨⟨_, _⟩, ⟨_, _⟩, _, ⟨_, _⟩, ⟨_, _⟩, ⟨_, _⟩, hO7⟩ := (show tI N M3 O3 from hI)
  have := b_le7 hO7
  refine ⟨fun hc4 => ?_, fun hc4 => ?_⟩
  · have := ti_rng r2
    have hc4 := Int32.le_iff_toInt_le.mp hc4
    have := ti_rng q3
    exact spT_X8_start_47 hN hQ _ _ _ _ (show tI N M3 O3 from hI) (show tK M0 M3 from hk)
  · have := ti_rng r2
    have hc4 := ti_nle hc4
    have := ti_rng q2
    refine spT_X8_setNumber hN _ _ (show tI N M3 O3 from hI) (fun M9 O9 hI hk1 => ?_)
    have hk := tK_tr (show tK M0 M3 from hk) hk1
    obtain ⟨⟨_, _⟩, ⟨_, _⟩, _, ⟨_, _⟩, ⟨_, _⟩, ⟨_, _⟩, hO7⟩ := (show tI N M9 O9 from hI)
    have := b_le7 hO7
    have := ti_rng q3
    exact spT_X8_start_47 hN hQ _ _ _ _ (show tI N M9 O9 from hI) (show tK M0 M9 from hk)
set_option maxHeartbeats 2000000 in
theorem spT_X6_get {N : Nat → Nat} (hN : tN N) (q1 : Int32) {M0 : Nat → Int32} {O : Nat × Nat} {Q : Int32 → (Nat → Int32) → Nat × Nat → Prop} (hI : tI N M0 O) (hQ : ∀ (r : Int32) (M' : Nat → Int32) (O' : Nat × Nat), tI N M' O' → tK M0 M' → Q r M' O') : wT_X6_get N q1 M0 O Q := by
  obtain ⟨_, _, _, _, _, _, _, _, _, _, _, _, _⟩ := (show tN N from hN)
  obtain ⟨⟨_, _⟩, ⟨_, _⟩, _, ⟨_, _⟩, ⟨_, _⟩, ⟨_, _⟩, hO7⟩ := (show tI N M0 O from hI)
  have hk : tK M0 M0 := tK_rf M0
  unfold wT_X6_get
  have := b_le7 hO7
  refine ⟨fun hc1 => ?_, fun hc1 => ?_⟩
  · have := ti_rng q1
    have : (0 : Int32).toInt = 0 := by decide
    have hc1 := Int32.lt_iff_toInt_lt.mp hc1
    exact hQ _ _ _ (show tI N M0 O from hI) (show tK M0 M0 from hk)
  · have := ti_rng q1
    have : (0 : Int32).toInt = 0 := by decide
    have hc1 := ti_nlt hc1
    refine ⟨fun hc2 => ?_, fun hc2 => ?_⟩
    · have := ti_rng (M0 63)
      have hc2 := Int32.le_iff_toInt_le.mp hc2
      exact hQ _ _ _ (show tI N M0 O from hI) (show tK M0 M0 from hk)
    · have := ti_rng (M0 63)
      have hc2 := ti_nle hc2
      refine ⟨vp_in_iff.mpr (by omega), fun z3 => ?_⟩
      exact hQ _ _ _ (show tI N M0 O from hI) (show tK M0 M0 from hk)
set_option maxHeartbeats 2000000 in
theorem spT_X8_fetch {N : Nat → Nat} (hN : tN N) {M0 : Nat → Int32} {O : Nat × Nat} {Q : Int32 → (Nat → Int32) → Nat × Nat → Prop} (hI : tI N M0 O) (hQ : ∀ (r : Int32) (M' : Nat → Int32) (O' : Nat × Nat), tI N M' O' → tK M0 M' → Q r M' O') : wT_X8_fetch N  M0 O Q := by
  obtain ⟨_, _, _, _, _, _, _, _, _, _, _, _, _⟩ := (show tN N from hN)
  obtain ⟨⟨_, _⟩, ⟨_, _⟩, _, ⟨_, _⟩, ⟨_, _⟩, ⟨_, _⟩, hO7⟩ := (show tI N M0 O from hI)
  have hk : tK M0 M0 := tK_rf M0
  unfold wT_X8_fetch
  have := b_le7 hO7
  have := ti_rng (M0 49)
  refine spT_X6_get hN _ (show tI N M0 O from hI) (fun r1 M2 O2 hI hk1 => ?_)
  have hk := tK_tr (show tK M0 M0 from hk) hk1
  obtain ⟨⟨_, _⟩, ⟨_, _⟩, _, ⟨_, _⟩, ⟨_, _⟩, ⟨_, _⟩, hO7⟩ := (show tI N M2 O2 from hI)
  have := b_le7 hO7
  exact hQ _ _ _ (show tI N (um M2 49 ((M2 49) + 1)) O2 from hI) (show tK M0 (um M2 49 ((M2 49) + 1)) from hk)
set_option maxHeartbeats 2000000 in
theorem spT_X8_countStep {N : Nat → Nat} (hN : tN N) {M0 : Nat → Int32} {O : Nat × Nat} {Q : (Nat → Int32) → Nat × Nat → Prop} (hI : tI N M0 O) (hQ : ∀ (M' : Nat → Int32) (O' : Nat × Nat), tI N M' O' → tK M0 M' → Q M' O') : wT_X8_countStep N  M0 O Q := by
  obtain ⟨_, _, _, _, _, _, _, _, _, _, _, _, _⟩ := (show tN N from hN)
  obtain ⟨⟨_, _⟩, ⟨_, _⟩, _, ⟨_, _⟩, ⟨_, _⟩, ⟨_, _⟩, hO7⟩ := (show tI N M0 O from hI)
  have hk : tK M0 M0 := tK_rf M0
  unfold wT_X8_countStep
  have := b_le7 hO7
  refine ⟨fun hc1 => ?_, fun hc1 => ?_⟩
  · have := ti_rng (M0 36)
    have := ti_rng (M0 48)
    have hc1 := Int32.lt_iff_toInt_lt.mp hc1
    exact hQ _ _ (show tI N (um M0 36 ((M0 36) + 1)) O from hI) (show tK M0 (um M0 36 ((M0 36) + 1)) from hk)
  · have := ti_rng (M0 36)
    have := ti_rng (M0 48)
    have hc1 := ti_nlt hc1
    exact hQ _ _ (show tI N (um M0 53 3) O from hI) (show tK M0 (um M0 53 3) from hk)
set_option maxHeartbeats 2000000 in
theorem spT_X8_pop {N : Nat → Nat} (hN : tN N) {M0 : Nat → Int32} {O : Nat × Nat} {Q : Int32 → (Nat → Int32) → Nat × Nat → Prop} (hI : tI N M0 O) (hQ : ∀ (r : Int32) (M' : Nat → Int32) (O' : Nat × Nat), tI N M' O' → tK M0 M' → Q r M' O') : wT_X8_pop N  M0 O Q := by
  obtain ⟨_, _, _, _, _, _, _, _, _, _, _, _, _⟩ := (show tN N from hN)
  obtain ⟨⟨_, _⟩, ⟨_, _⟩, _, ⟨_, _⟩, ⟨_, _⟩, ⟨_, _⟩, hO7⟩ := (show tI N M0 O from hI)
  have hk : tK M0 M0 := tK_rf M0
  unfold wT_X8_pop
  have := b_le7 hO7
  refine ⟨fun hc1 => ?_, fun hc1 => ?_⟩
  · have := ti_rng (M0 52)
    have : (0 : Int32).toInt = 0 := by decide
    have hc1 := Int32.le_iff_toInt_le.mp hc1
    exact hQ _ _ _ (show tI N M0 O from hI) (show tK M0 M0 from hk)
  · have := ti_rng (M0 52)
    have : (0 : Int32).toInt = 0 := by decide
    have hc1 := ti_nle hc1
    refine ⟨fun hc2 => ?_, fun hc2 => ?_⟩
    · have := nI_toInt (n := (N 19)) (by omega)
      have hc2 := Int32.le_iff_toInt_le.mp hc2
      have : (1 : Int32).toInt = 1 := by decide
      obtain ⟨_, _, _, _⟩ := ti_sub (M0 52) 1
      refine ⟨vp_in_iff.mpr (by omega), fun z3 => ?_⟩
      exact hQ _ _ _ (show tI N (um M0 52 ((M0 52) - 1)) O from (show (0 ≤ (M0 1).toInt ∧ (M0 1).toInt ≤ 4000) ∧ (0 ≤ (M0 22).toInt ∧ (M0 22).toInt ≤ 8000) ∧ 7 * (M0 22).toInt ≤ ((448 * 2 ^ O.2 : Nat) : Int) ∧ (0 ≤ (M0 31).toInt ∧ (M0 31).toInt ≤ 200) ∧ (0 ≤ ((M0 52) - 1).toInt ∧ ((M0 52) - 1).toInt ≤ 128) ∧ (0 ≤ (M0 63).toInt ∧ (M0 63).toInt ≤ (N 20 : Int)) ∧ O.2 ≤ 7 from by omega)) (show tK M0 (um M0 52 ((M0 52) - 1)) from hk)
    · have := nI_toInt (n := (N 19)) (by omega)
      have hc2 := ti_nle hc2
      exact hQ _ _ _ (show tI N M0 O from hI) (show tK M0 M0 from hk)
set_option maxHeartbeats 2000000 in
theorem spT_X5_putNote {N : Nat → Nat} (hN : tN N) (q1 : Int32) {M0 : Nat → Int32} {O : Nat × Nat} {Q : Int32 → (Nat → Int32) → Nat × Nat → Prop} (hI : tI N M0 O) (hQ : ∀ (r : Int32) (M' : Nat → Int32) (O' : Nat × Nat), tI N M' O' → tK M0 M' → Q r M' O') : wT_X5_putNote N q1 M0 O Q := by
  obtain ⟨_, _, _, _, _, _, _, _, _, _, _, _, _⟩ := (show tN N from hN)
  obtain ⟨⟨_, _⟩, ⟨_, _⟩, _, ⟨_, _⟩, ⟨_, _⟩, ⟨_, _⟩, hO7⟩ := (show tI N M0 O from hI)
  have hk : tK M0 M0 := tK_rf M0
  unfold wT_X5_putNote
  have := b_le7 hO7
  refine ⟨fun hc1 => ?_, fun hc1 => ?_⟩
  · have := ti_rng (M0 31)
    have := nI_toInt (n := (N 14)) (by omega)
    have hc1 := Int32.lt_iff_toInt_lt.mp hc1
    refine ⟨vp_in_iff.mpr (by omega), ?_⟩
    have : (1 : Int32).toInt = 1 := by decide
    obtain ⟨_, _, _, _⟩ := ti_add (M0 31) 1
    exact hQ _ _ _ (show tI N (um M0 31 ((M0 31) + 1)) O from (show (0 ≤ (M0 1).toInt ∧ (M0 1).toInt ≤ 4000) ∧ (0 ≤ (M0 22).toInt ∧ (M0 22).toInt ≤ 8000) ∧ 7 * (M0 22).toInt ≤ ((448 * 2 ^ O.2 : Nat) : Int) ∧ (0 ≤ ((M0 31) + 1).toInt ∧ ((M0 31) + 1).toInt ≤ 200) ∧ (0 ≤ (M0 52).toInt ∧ (M0 52).toInt ≤ 128) ∧ (0 ≤ (M0 63).toInt ∧ (M0 63).toInt ≤ (N 20 : Int)) ∧ O.2 ≤ 7 from by omega)) (show tK M0 (um M0 31 ((M0 31) + 1)) from hk)
  · have := ti_rng (M0 31)
    have := nI_toInt (n := (N 14)) (by omega)
    have hc1 := ti_nlt hc1
    exact hQ _ _ _ (show tI N M0 O from hI) (show tK M0 M0 from hk)
set_option maxHeartbeats 2000000 in
theorem spT_X8_putNote {N : Nat → Nat} (hN : tN N) (q1 : Int32) {M0 : Nat → Int32} {O : Nat × Nat} {Q : (Nat → Int32) → Nat × Nat → Prop} (hI : tI N M0 O) (hQ : ∀ (M' : Nat → Int32) (O' : Nat × Nat), tI N M' O' → tK M0 M' → Q M' O') : wT_X8_putNote N q1 M0 O Q := by
  obtain ⟨_, _, _, _, _, _, _, _, _, _, _, _, _⟩ := (show tN N from hN)
  obtain ⟨⟨_, _⟩, ⟨_, _⟩, _, ⟨_, _⟩, ⟨_, _⟩, ⟨_, _⟩, hO7⟩ := (show tI N M0 O from hI)
  have hk : tK M0 M0 := tK_rf M0
  unfold wT_X8_putNote
  have := b_le7 hO7
  have := ti_rng q1
  refine spT_X5_putNote hN _ (show tI N M0 O from hI) (fun r1 M2 O2 hI hk1 => ?_)
  have hk := tK_tr (show tK M0 M0 from hk) hk1
  obtain ⟨⟨_, _⟩, ⟨_, _⟩, _, ⟨_, _⟩, ⟨_, _⟩, ⟨_, _⟩, hO7⟩ := (show tI N M2 O2 from hI)
  have := b_le7 hO7
  refine ⟨fun hc3 => ?_, fun hc3 => ?_⟩
  · have := ti_rng r1
    have : (0 : Int32).toInt = 0 := by decide
    have hc39 := ti_ne hc3
    exact hQ _ _ (show tI N M2 O2 from hI) (show tK M0 M2 from hk)
  · have := ti_rng r1
    have : (0 : Int32).toInt = 0 := by decide
    have hc39 := congrArg Int32.toInt hc3
    exact hQ _ _ (show tI N (um M2 53 3) O2 from hI) (show tK M0 (um M2 53 3) from hk)
set_option maxHeartbeats 2000000 in
theorem spT_X8_hear_34 {N : Nat → Nat} (hN : tN N) {Q : (Nat → Int32) → Nat × Nat → Prop} {M0 : Nat → Int32} (hQ : ∀ (M' : Nat → Int32) (O' : Nat × Nat), tI N M' O' → tK M0 M' → Q M' O') : ∀ (n34 : Nat) (a3 : Int32) (M : Nat → Int32) (O : Nat × Nat), tI N M O → tK M0 M → (0 ≤ (0 : Int)) → ((a3.toInt + 1).toNat : Int) + 1 ≤ (n34 : Int) → wT_X8_hear_34 N Q n34 a3 M O := by
  obtain ⟨_, _, _, _, _, _, _, _, _, _, _, _, _⟩ := (show tN N from hN)
  intro n34
  induction n34 with
  | zero => intro a3 M O hI hk hv hn; exact absurd hn (by omega)
  | succ n34 ih =>
    intro a3 M O hI hk hv hn
    obtain ⟨⟨_, _⟩, ⟨_, _⟩, _, ⟨_, _⟩, ⟨_, _⟩, ⟨_, _⟩, hO7⟩ := (show tI N M O from hI)
    dsimp only [wT_X8_hear_34]
    have := b_le7 hO7
    refine ⟨fun hc7 => ?_, fun hc7 => ?_⟩
    · have := ti_rng a3
      have : (0 : Int32).toInt = 0 := by decide
      have hc7 := Int32.lt_iff_toInt_lt.mp hc7
      exact hQ _ _ (show tI N M O from hI) (show tK M0 M from hk)
    · have := ti_rng a3
      have : (0 : Int32).toInt = 0 := by decide
      have hc7 := ti_nlt hc7
      refine spT_X8_pop hN  (show tI N M O from hI) (fun r8 M9 O9 hI hk1 => ?_)
      have hk := tK_tr (show tK M0 M from hk) hk1
      obtain ⟨⟨_, _⟩, ⟨_, _⟩, _, ⟨_, _⟩, ⟨_, _⟩, ⟨_, _⟩, hO7⟩ := (show tI N M9 O9 from hI)
      have := b_le7 hO7
      have := ti_rng r8
      refine spT_X8_setNumber hN _ _ (show tI N M9 O9 from hI) (fun M10 O10 hI hk1 => ?_)
      have hk := tK_tr (show tK M0 M9 from hk) hk1
      obtain ⟨⟨_, _⟩, ⟨_, _⟩, _, ⟨_, _⟩, ⟨_, _⟩, ⟨_, _⟩, hO7⟩ := (show tI N M10 O10 from hI)
      have := b_le7 hO7
      have : ((-1) : Int32).toInt = -1 := by decide
      obtain ⟨_, _, _, _⟩ := ti_add a3 (-1)
      exact ih _ _ _ (show tI N M10 O10 from hI) (show tK M0 M10 from hk) (show 0 ≤ (0 : Int) from by omega) (show (((a3 + (-1)).toInt + 1).toNat : Int) + 1 ≤ _ from by omega)
set_option maxHeartbeats 2000000 in
theorem spT_X8_hear {N : Nat → Nat} (hN : tN N) {M0 : Nat → Int32} {O : Nat × Nat} {Q : (Nat → Int32) → Nat × Nat → Prop} (hI : tI N M0 O) (hQ : ∀ (M' : Nat → Int32) (O' : Nat × Nat), tI N M' O' → tK M0 M' → Q M' O') : wT_X8_hear N  M0 O Q := by
  obtain ⟨_, _, _, _, _, _, _, _, _, _, _, _, _⟩ := (show tN N from hN)
  obtain ⟨⟨_, _⟩, ⟨_, _⟩, _, ⟨_, _⟩, ⟨_, _⟩, ⟨_, _⟩, hO7⟩ := (show tI N M0 O from hI)
  have hk : tK M0 M0 := tK_rf M0
  unfold wT_X8_hear
  have := b_le7 hO7
  refine spT_X8_fetch hN  (show tI N M0 O from hI) (fun r1 M2 O2 hI hk1 => ?_)
  have hk := tK_tr (show tK M0 M0 from hk) hk1
  obtain ⟨⟨_, _⟩, ⟨_, _⟩, _, ⟨_, _⟩, ⟨_, _⟩, ⟨_, _⟩, hO7⟩ := (show tI N M2 O2 from hI)
  have := b_le7 hO7
  refine spT_X8_fetch hN  (show tI N M2 O2 from hI) (fun r3 M4 O4 hI hk1 => ?_)
  have hk := tK_tr (show tK M0 M2 from hk) hk1
  obtain ⟨⟨_, _⟩, ⟨_, _⟩, _, ⟨_, _⟩, ⟨_, _⟩, ⟨_, _⟩, hO7⟩ := (show tI N M4 O4 from hI)
  have := b_le7 hO7
  refine ⟨fun hc5 => ?_, fun hc5 => ?_⟩
  · have := ti_rng (M4 50)
    have : (12 : Int32).toInt = 12 := by decide
    have hc5 := Int32.lt_iff_toInt_lt.mp hc5
    have := ti_rng r1
    refine spT_X8_begin hN _ (show tI N M4 O4 from hI) (fun M6 O6 hI hk1 => ?_)
    have hk := tK_tr (show tK M0 M4 from hk) hk1
    obtain ⟨⟨_, _⟩, ⟨_, _⟩, _, ⟨_, _⟩, ⟨_, _⟩, ⟨_, _⟩, hO7⟩ := (show tI N M6 O6 from hI)
    have := b_le7 hO7
    have := ti_rng r3
    have : (1 : Int32).toInt = 1 := by decide
    obtain ⟨_, _, _, _⟩ := ti_sub r3 1
    exact ⟨((((r3 - 1).toInt + 1).toNat : Int) + 1).toNat, spT_X8_hear_34 hN hQ _ _ _ _ (show tI N M6 O6 from hI) (show tK M0 M6 from hk) (show 0 ≤ (0 : Int) from by omega) (show (((r3 - 1).toInt + 1).toNat : Int) + 1 ≤ _ from by omega)⟩
  · have := ti_rng (M4 50)
    have : (12 : Int32).toInt = 12 := by decide
    have hc5 := ti_nlt hc5
    exact hQ _ _ (show tI N (um M4 53 3) O4 from hI) (show tK M0 (um M4 53 3) from hk)
set_option maxHeartbeats 2000000 in
theorem spT_X8_tryField {N : Nat → Nat} (hN : tN N) (q1 : Int32) (q2 : Int32) {M0 : Nat → Int32} {O : Nat × Nat} {Q : Int32 → (Nat → Int32) → Nat × Nat → Prop} (hI : tI N M0 O) (hQ : ∀ (r : Int32) (M' : Nat → Int32) (O' : Nat × Nat), tI N M' O' → tK M0 M' → Q r M' O') : wT_X8_tryField N q1 q2 M0 O Q := by
  obtain ⟨_, _, _, _, _, _, _, _, _, _, _, _, _⟩ := (show tN N from hN)
  obtain ⟨⟨_, _⟩, ⟨_, _⟩, _, ⟨_, _⟩, ⟨_, _⟩, ⟨_, _⟩, hO7⟩ := (show tI N M0 O from hI)
  have hk : tK M0 M0 := tK_rf M0
  unfold wT_X8_tryField
  have := b_le7 hO7
  refine ⟨fun hc1 => ?_, fun hc1 => ?_⟩
  · have := ti_rng q1
    have : (5 : Int32).toInt = 5 := by decide
    obtain ⟨_, _, _, _⟩ := ti_mulc q1 5 5 (by decide)
    have := ti_rng q2
    obtain ⟨_, _, _, _⟩ := ti_add (q1 * 5) q2
    have : (0 : Int32).toInt = 0 := by decide
    have hc1 := Int32.lt_iff_toInt_lt.mp hc1
    exact hQ _ _ _ (show tI N M0 O from hI) (show tK M0 M0 from hk)
  · have := ti_rng q1
    have : (5 : Int32).toInt = 5 := by decide
    obtain ⟨_, _, _, _⟩ := ti_mulc q1 5 5 (by decide)
    have := ti_rng q2
    obtain ⟨_, _, _, _⟩ := ti_add (q1 * 5) q2
    have : (0 : Int32).toInt = 0 := by decide
    have hc1 := ti_nlt hc1
    refine ⟨fun hc2 => ?_, fun hc2 => ?_⟩
    · have := nI_toInt (n := (N 18)) (by omega)
      have hc2 := Int32.le_iff_toInt_le.mp hc2
      exact hQ _ _ _ (show tI N M0 O from hI) (show tK M0 M0 from hk)
    · have := nI_toInt (n := (N 18)) (by omega)
      have hc2 := ti_nle hc2
      refine ⟨vp_in_iff.mpr (by omega), fun z3 => ?_⟩
      exact hQ _ _ _ (show tI N M0 O from hI) (show tK M0 M0 from hk)
set_option maxHeartbeats 2000000 in
theorem spT_X8_setTryField {N : Nat → Nat} (hN : tN N) (q1 : Int32) (q2 : Int32) (q3 : Int32) {M0 : Nat → Int32} {O : Nat × Nat} {Q : (Nat → Int32) → Nat × Nat → Prop} (hI : tI N M0 O) (hQ : ∀ (M' : Nat → Int32) (O' : Nat × Nat), tI N M' O' → tK M0 M' → Q M' O') : wT_X8_setTryField N q1 q2 q3 M0 O Q := by
  obtain ⟨_, _, _, _, _, _, _, _, _, _, _, _, _⟩ := (show tN N from hN)
  obtain ⟨⟨_, _⟩, ⟨_, _⟩, _, ⟨_, _⟩, ⟨_, _⟩, ⟨_, _⟩, hO7⟩ := (show tI N M0 O from hI)
  have hk : tK M0 M0 := tK_rf M0
  unfold wT_X8_setTryField
  have := b_le7 hO7
  refine ⟨fun hc1 => ?_, fun hc1 => ?_⟩
  · have := ti_rng q1
    have : (5 : Int32).toInt = 5 := by decide
    obtain ⟨_, _, _, _⟩ := ti_mulc q1 5 5 (by decide)
    have := ti_rng q2
    obtain ⟨_, _, _, _⟩ := ti_add (q1 * 5) q2
    have : (0 : Int32).toInt = 0 := by decide
    have hc1 := Int32.lt_iff_toInt_lt.mp hc1
    exact hQ _ _ (show tI N M0 O from hI) (show tK M0 M0 from hk)
  · have := ti_rng q1
    have : (5 : Int32).toInt = 5 := by decide
    obtain ⟨_, _, _, _⟩ := ti_mulc q1 5 5 (by decide)
    have := ti_rng q2
    obtain ⟨_, _, _, _⟩ := ti_add (q1 * 5) q2
    have : (0 : Int32).toInt = 0 := by decide
    have hc1 := ti_nlt hc1
    refine ⟨fun hc2 => ?_, fun hc2 => ?_⟩
    · have := nI_toInt (n := (N 18)) (by omega)
      have hc2 := Int32.le_iff_toInt_le.mp hc2
      exact hQ _ _ (show tI N M0 O from hI) (show tK M0 M0 from hk)
    · have := nI_toInt (n := (N 18)) (by omega)
      have hc2 := ti_nle hc2
      refine ⟨vp_in_iff.mpr (by omega), ?_⟩
      exact hQ _ _ (show tI N M0 O from hI) (show tK M0 M0 from hk)
set_option maxHeartbeats 2000000 in
theorem spT_X8_doLastly {N : Nat → Nat} (hN : tN N) (q1 : Int32) (q2 : Int32) {M0 : Nat → Int32} {O : Nat × Nat} {Q : (Nat → Int32) → Nat × Nat → Prop} (hI : tI N M0 O) (hQ : ∀ (M' : Nat → Int32) (O' : Nat × Nat), tI N M' O' → tK M0 M' → Q M' O') : wT_X8_doLastly N q1 q2 M0 O Q := by
  obtain ⟨_, _, _, _, _, _, _, _, _, _, _, _, _⟩ := (show tN N from hN)
  obtain ⟨⟨_, _⟩, ⟨_, _⟩, _, ⟨_, _⟩, ⟨_, _⟩, ⟨_, _⟩, hO7⟩ := (show tI N M0 O from hI)
  have hk : tK M0 M0 := tK_rf M0
  unfold wT_X8_doLastly
  have := b_le7 hO7
  have := ti_rng (M0 51)
  have : (1 : Int32).toInt = 1 := by decide
  obtain ⟨_, _, _, _⟩ := ti_sub (M0 51) 1
  have : (2 : Int32).toInt = 2 := by decide
  refine spT_X8_tryField hN _ _ (show tI N M0 O from hI) (fun r1 M2 O2 hI hk1 => ?_)
  have hk := tK_tr (show tK M0 M0 from hk) hk1
  obtain ⟨⟨_, _⟩, ⟨_, _⟩, _, ⟨_, _⟩, ⟨_, _⟩, ⟨_, _⟩, hO7⟩ := (show tI N M2 O2 from hI)
  have := b_le7 hO7
  have : (0 : Int32).toInt = 0 := by decide
  refine spT_X8_tryField hN _ _ (show tI N (um M2 49 r1) O2 from hI) (fun r3 M4 O4 hI hk1 => ?_)
  have hk := tK_tr (show tK M0 (um M2 49 r1) from hk) hk1
  obtain ⟨⟨_, _⟩, ⟨_, _⟩, _, ⟨_, _⟩, ⟨_, _⟩, ⟨_, _⟩, hO7⟩ := (show tI N M4 O4 from hI)
  have := b_le7 hO7
  have : ((-1) : Int32).toInt = -1 := by decide
  refine spT_X8_setTryField hN _ _ _ (show tI N (um (um M4 50 r3) 52 0) O4 from (show (0 ≤ (M4 1).toInt ∧ (M4 1).toInt ≤ 4000) ∧ (0 ≤ (M4 22).toInt ∧ (M4 22).toInt ≤ 8000) ∧ 7 * (M4 22).toInt ≤ ((448 * 2 ^ O4.2 : Nat) : Int) ∧ (0 ≤ (M4 31).toInt ∧ (M4 31).toInt ≤ 200) ∧ (0 ≤ 0.toInt ∧ 0.toInt ≤ 128) ∧ (0 ≤ (M4 63).toInt ∧ (M4 63).toInt ≤ (N 20 : Int)) ∧ O4.2 ≤ 7 from by omega)) (fun M5 O5 hI hk1 => ?_)
  have hk := tK_tr (show tK M0 (um (um M4 50 r3) 52 0) from hk) hk1
  obtain ⟨⟨_, _⟩, ⟨_, _⟩, _, ⟨_, _⟩, ⟨_, _⟩, ⟨_, _⟩, hO7⟩ := (show tI N M5 O5 from hI)
  have := b_le7 hO7
  refine spT_X8_setTryField hN _ _ _ (show tI N M5 O5 from hI) (fun M6 O6 hI hk1 => ?_)
  have hk := tK_tr (show tK M0 M5 from hk) hk1
  obtain ⟨⟨_, _⟩, ⟨_, _⟩, _, ⟨_, _⟩, ⟨_, _⟩, ⟨_, _⟩, hO7⟩ := (show tI N M6 O6 from hI)
  have := b_le7 hO7
  have : (3 : Int32).toInt = 3 := by decide
  have := ti_rng q1
  refine spT_X8_setTryField hN _ _ _ (show tI N M6 O6 from hI) (fun M7 O7 hI hk1 => ?_)
  have hk := tK_tr (show tK M0 M6 from hk) hk1
  obtain ⟨⟨_, _⟩, ⟨_, _⟩, _, ⟨_, _⟩, ⟨_, _⟩, ⟨_, _⟩, hO7⟩ := (show tI N M7 O7 from hI)
  have := b_le7 hO7
  have : (4 : Int32).toInt = 4 := by decide
  have := ti_rng q2
  refine spT_X8_setTryField hN _ _ _ (show tI N M7 O7 from hI) (fun M8 O8 hI hk1 => ?_)
  have hk := tK_tr (show tK M0 M7 from hk) hk1
  obtain ⟨⟨_, _⟩, ⟨_, _⟩, _, ⟨_, _⟩, ⟨_, _⟩, ⟨_, _⟩, hO7⟩ := (show tI N M8 O8 from hI)
  have := b_le7 hO7
  exact hQ _ _ (show tI N M8 O8 from hI) (show tK M0 M8 from hk)
set_option maxHeartbeats 2000000 in
theorem spT_X8_push {N : Nat → Nat} (hN : tN N) (q1 : Int32) {M0 : Nat → Int32} {O : Nat × Nat} {Q : (Nat → Int32) → Nat × Nat → Prop} (hI : tI N M0 O) (hQ : ∀ (M' : Nat → Int32) (O' : Nat × Nat), tI N M' O' → tK M0 M' → Q M' O') : wT_X8_push N q1 M0 O Q := by
  obtain ⟨_, _, _, _, _, _, _, _, _, _, _, _, _⟩ := (show tN N from hN)
  obtain ⟨⟨_, _⟩, ⟨_, _⟩, _, ⟨_, _⟩, ⟨_, _⟩, ⟨_, _⟩, hO7⟩ := (show tI N M0 O from hI)
  have hk : tK M0 M0 := tK_rf M0
  unfold wT_X8_push
  have := b_le7 hO7
  refine ⟨fun hc1 => ?_, fun hc1 => ?_⟩
  · have := nI_toInt (n := (N 19)) (by omega)
    have := ti_rng (M0 52)
    have hc1 := Int32.le_iff_toInt_le.mp hc1
    exact hQ _ _ (show tI N M0 O from hI) (show tK M0 M0 from hk)
  · have := nI_toInt (n := (N 19)) (by omega)
    have := ti_rng (M0 52)
    have hc1 := ti_nle hc1
    refine ⟨vp_in_iff.mpr (by omega), ?_⟩
    have : (1 : Int32).toInt = 1 := by decide
    obtain ⟨_, _, _, _⟩ := ti_add (M0 52) 1
    exact hQ _ _ (show tI N (um M0 52 ((M0 52) + 1)) O from (show (0 ≤ (M0 1).toInt ∧ (M0 1).toInt ≤ 4000) ∧ (0 ≤ (M0 22).toInt ∧ (M0 22).toInt ≤ 8000) ∧ 7 * (M0 22).toInt ≤ ((448 * 2 ^ O.2 : Nat) : Int) ∧ (0 ≤ (M0 31).toInt ∧ (M0 31).toInt ≤ 200) ∧ (0 ≤ ((M0 52) + 1).toInt ∧ ((M0 52) + 1).toInt ≤ 128) ∧ (0 ≤ (M0 63).toInt ∧ (M0 63).toInt ≤ (N 20 : Int)) ∧ O.2 ≤ 7 from by omega)) (show tK M0 (um M0 52 ((M0 52) + 1)) from hk)
set_option maxHeartbeats 2000000 in
theorem spT_X8_rest_94 {N : Nat → Nat} (hN : tN N) {Q : (Nat → Int32) → Nat × Nat → Prop} {M0 : Nat → Int32} {q1 : Int32} (hQ : ∀ (M' : Nat → Int32) (O' : Nat × Nat), tI N M' O' → tK M0 M' → Q M' O') (a1 : Int32) (M : Nat → Int32) (O : Nat × Nat) (hI : tI N M O) (hk : tK M0 M) : wT_X8_rest_94 N Q a1 M O := by
  obtain ⟨_, _, _, _, _, _, _, _, _, _, _, _, _⟩ := (show tN N from hN)
  obtain ⟨⟨_, _⟩, ⟨_, _⟩, _, ⟨_, _⟩, ⟨_, _⟩, ⟨_, _⟩, hO7⟩ := (show tI N M O from hI)
  unfold wT_X8_rest_94
  have := b_le7 hO7
  exact hQ _ _ (show tI N (um (um M 53 1) 55 a1) O from hI) (show tK M0 (um (um M 53 1) 55 a1) from hk)
set_option maxHeartbeats 2000000 in
theorem spT_X8_rest_60 {N : Nat → Nat} (hN : tN N) {Q : (Nat → Int32) → Nat × Nat → Prop} {M0 : Nat → Int32} {q1 : Int32} (hQ : ∀ (M' : Nat → Int32) (O' : Nat × Nat), tI N M' O' → tK M0 M' → Q M' O') (a1 : Int32) (M : Nat → Int32) (O : Nat × Nat) (hI : tI N M O) (hk : tK M0 M) : wT_X8_rest_60 N Q a1 M O := by
  obtain ⟨_, _, _, _, _, _, _, _, _, _, _, _, _⟩ := (show tN N from hN)
  obtain ⟨⟨_, _⟩, ⟨_, _⟩, _, ⟨_, _⟩, ⟨_, _⟩, ⟨_, _⟩, hO7⟩ := (show tI N M O from hI)
  unfold wT_X8_rest_60
  have := b_le7 hO7
  refine ⟨fun hc2 => ?_, fun hc2 => ?_⟩
  · have := ti_rng (M 50)
    have : (1 : Int32).toInt = 1 := by decide
    obtain ⟨_, _, _, _⟩ := ti_sub (M 50) 1
    have : (0 : Int32).toInt = 0 := by decide
    have hc2 := Int32.le_iff_toInt_le.mp hc2
    have := ti_rng a1
    exact spT_X8_rest_94 hN hQ _ _ _ (show tI N (um (um M 50 ((M 50) - 1)) 52 0) O from (show (0 ≤ (M 1).toInt ∧ (M 1).toInt ≤ 4000) ∧ (0 ≤ (M 22).toInt ∧ (M 22).toInt ≤ 8000) ∧ 7 * (M 22).toInt ≤ ((448 * 2 ^ O.2 : Nat) : Int) ∧ (0 ≤ (M 31).toInt ∧ (M 31).toInt ≤ 200) ∧ (0 ≤ 0.toInt ∧ 0.toInt ≤ 128) ∧ (0 ≤ (M 63).toInt ∧ (M 63).toInt ≤ (N 20 : Int)) ∧ O.2 ≤ 7 from by omega)) (show tK M0 (um (um M 50 ((M 50) - 1)) 52 0) from hk)
  · have := ti_rng (M 50)
    have : (1 : Int32).toInt = 1 := by decide
    obtain ⟨_, _, _, _⟩ := ti_sub (M 50) 1
    have : (0 : Int32).toInt = 0 := by decide
    have hc2 := ti_nle hc2
    refine ⟨fun hc3 => ?_, fun hc3 => ?_⟩
    · have := nI_toInt (n := (N 17)) (by omega)
      have hc3 := Int32.lt_iff_toInt_lt.mp hc3
      refine ⟨vp_in_iff.mpr (by omega), fun z4 => ?_⟩
      have := ti_rng a1
      refine spT_X8_push hN _ (show tI N (um (um (um M 50 ((M 50) - 1)) 52 0) 49 z4) O from (show (0 ≤ (M 1).toInt ∧ (M 1).toInt ≤ 4000) ∧ (0 ≤ (M 22).toInt ∧ (M 22).toInt ≤ 8000) ∧ 7 * (M 22).toInt ≤ ((448 * 2 ^ O.2 : Nat) : Int) ∧ (0 ≤ (M 31).toInt ∧ (M 31).toInt ≤ 200) ∧ (0 ≤ 0.toInt ∧ 0.toInt ≤ 128) ∧ (0 ≤ (M 63).toInt ∧ (M 63).toInt ≤ (N 20 : Int)) ∧ O.2 ≤ 7 from by omega)) (fun M5 O5 hI hk1 => ?_)
      have hk := tK_tr (show tK M0 (um (um (um M 50 ((M 50) - 1)) 52 0) 49 z4) from hk) hk1
      obtain ⟨⟨_, _⟩, ⟨_, _⟩, _, ⟨_, _⟩, ⟨_, _⟩, ⟨_, _⟩, hO7⟩ := (show tI N M5 O5 from hI)
      have := b_le7 hO7
      exact hQ _ _ (show tI N M5 O5 from hI) (show tK M0 M5 from hk)
    · have := nI_toInt (n := (N 17)) (by omega)
      have hc3 := ti_nlt hc3
      have := ti_rng a1
      exact spT_X8_rest_94 hN hQ _ _ _ (show tI N (um (um M 50 ((M 50) - 1)) 52 0) O from (show (0 ≤ (M 1).toInt ∧ (M 1).toInt ≤ 4000) ∧ (0 ≤ (M 22).toInt ∧ (M 22).toInt ≤ 8000) ∧ 7 * (M 22).toInt ≤ ((448 * 2 ^ O.2 : Nat) : Int) ∧ (0 ≤ (M 31).toInt ∧ (M 31).toInt ≤ 200) ∧ (0 ≤ 0.toInt ∧ 0.toInt ≤ 128) ∧ (0 ≤ (M 63).toInt ∧ (M 63).toInt ≤ (N 20 : Int)) ∧ O.2 ≤ 7 from by omega)) (show tK M0 (um (um M 50 ((M 50) - 1)) 52 0) from hk)
set_option maxHeartbeats 2000000 in
theorem spT_X8_rest_0 {N : Nat → Nat} (hN : tN N) {Q : (Nat → Int32) → Nat × Nat → Prop} {M0 : Nat → Int32} {q1 : Int32} (hQ : ∀ (M' : Nat → Int32) (O' : Nat × Nat), tI N M' O' → tK M0 M' → Q M' O') : ∀ (n0 : Nat) (a1 : Int32) (M : Nat → Int32) (O : Nat × Nat), tI N M O → tK M0 M → (0 ≤ (0 : Int)) → ((M 51).toInt.toNat : Int) + 1 ≤ (n0 : Int) → wT_X8_rest_0 N Q n0 a1 M O := by
  obtain ⟨_, _, _, _, _, _, _, _, _, _, _, _, _⟩ := (show tN N from hN)
  intro n0
  induction n0 with
  | zero => intro a1 M O hI hk hv hn; exact absurd hn (by omega)
  | succ n0 ih =>
    intro a1 M O hI hk hv hn
    obtain ⟨⟨_, _⟩, ⟨_, _⟩, _, ⟨_, _⟩, ⟨_, _⟩, ⟨_, _⟩, hO7⟩ := (show tI N M O from hI)
    dsimp only [wT_X8_rest_0]
    have := b_le7 hO7
    refine ⟨fun hc1 => ?_, fun hc1 => ?_⟩
    · have := ti_rng (M 51)
      have : (0 : Int32).toInt = 0 := by decide
      have hc1 := Int32.le_iff_toInt_le.mp hc1
      have := ti_rng a1
      exact spT_X8_rest_60 hN hQ _ _ _ (show tI N M O from hI) (show tK M0 M from hk)
    · have := ti_rng (M 51)
      have : (0 : Int32).toInt = 0 := by decide
      have hc1 := ti_nle hc1
      have : (1 : Int32).toInt = 1 := by decide
      obtain ⟨_, _, _, _⟩ := ti_sub (M 51) 1
      refine spT_X8_tryField hN _ _ (show tI N M O from hI) (fun r6 M7 O7 hI hk1 => ?_)
      have hk := tK_tr (show tK M0 M from hk) hk1
      obtain ⟨⟨_, _⟩, ⟨_, _⟩, _, ⟨_, _⟩, ⟨_, _⟩, ⟨_, _⟩, hO7⟩ := (show tI N M7 O7 from hI)
      have := b_le7 hO7
      refine ⟨fun hc8 => ?_, fun hc8 => ?_⟩
      · have := ti_rng r6
        have := ti_rng (M7 50)
        have hc89 := ti_ne hc8
        have := ti_rng a1
        exact spT_X8_rest_60 hN hQ _ _ _ (show tI N M7 O7 from hI) (show tK M0 M7 from hk)
      · have := ti_rng r6
        have := ti_rng (M7 50)
        have hc89 := congrArg Int32.toInt hc8
        have := ti_rng (M7 51)
        obtain ⟨_, _, _, _⟩ := ti_sub (M7 51) 1
        have : (2 : Int32).toInt = 2 := by decide
        refine spT_X8_tryField hN _ _ (show tI N M7 O7 from hI) (fun r9 M10 O10 hI hk1 => ?_)
        have hk := tK_tr (show tK M0 M7 from hk) hk1
        obtain ⟨⟨_, _⟩, ⟨_, _⟩, _, ⟨_, _⟩, ⟨_, _⟩, ⟨_, _⟩, hO7⟩ := (show tI N M10 O10 from hI)
        have := b_le7 hO7
        refine ⟨fun hc11 => ?_, fun hc11 => ?_⟩
        · have := ti_rng r9
          have : ((-1) : Int32).toInt = -1 := by decide
          have hc119 := congrArg Int32.toInt hc11
          have := ti_rng a1
          exact ih _ _ _ (show tI N (um M10 51 ((M10 51) - 1)) O10 from hI) (show tK M0 (um M10 51 ((M10 51) - 1)) from hk) (show 0 ≤ (0 : Int) from by omega) (show (((M10 51) - 1).toInt.toNat : Int) + 1 ≤ _ from by omega)
        · have := ti_rng r9
          have : ((-1) : Int32).toInt = -1 := by decide
          have hc119 := ti_ne hc11
          have := ti_rng a1
          refine spT_X8_doLastly hN _ _ (show tI N M10 O10 from hI) (fun M12 O12 hI hk1 => ?_)
          have hk := tK_tr (show tK M0 M10 from hk) hk1
          obtain ⟨⟨_, _⟩, ⟨_, _⟩, _, ⟨_, _⟩, ⟨_, _⟩, ⟨_, _⟩, hO7⟩ := (show tI N M12 O12 from hI)
          have := b_le7 hO7
          exact hQ _ _ (show tI N M12 O12 from hI) (show tK M0 M12 from hk)
set_option maxHeartbeats 2000000 in
theorem spT_X8_rest {N : Nat → Nat} (hN : tN N) (q1 : Int32) {M0 : Nat → Int32} {O : Nat × Nat} {Q : (Nat → Int32) → Nat × Nat → Prop} (hI : tI N M0 O) (hQ : ∀ (M' : Nat → Int32) (O' : Nat × Nat), tI N M' O' → tK M0 M' → Q M' O') : wT_X8_rest N q1 M0 O Q := by
  obtain ⟨_, _, _, _, _, _, _, _, _, _, _, _, _⟩ := (show tN N from hN)
  obtain ⟨⟨_, _⟩, ⟨_, _⟩, _, ⟨_, _⟩, ⟨_, _⟩, ⟨_, _⟩, hO7⟩ := (show tI N M0 O from hI)
  have hk : tK M0 M0 := tK_rf M0
  unfold wT_X8_rest
  have := b_le7 hO7
  have := ti_rng q1
  exact ⟨(((M0 51).toInt.toNat : Int) + 1).toNat, spT_X8_rest_0 hN hQ _ _ _ _ (show tI N M0 O from hI) (show tK M0 M0 from hk) (show 0 ≤ (0 : Int) from by omega) (show ((M0 51).toInt.toNat : Int) + 1 ≤ _ from by omega)⟩
set_option maxHeartbeats 2000000 in
theorem spT_X8_openTry {N : Nat → Nat} (hN : tN N) {M0 : Nat → Int32} {O : Nat × Nat} {Q : (Nat → Int32) → Nat × Nat → Prop} (hI : tI N M0 O) (hQ : ∀ (M' : Nat → Int32) (O' : Nat × Nat), tI N M' O' → tK M0 M' → Q M' O') : wT_X8_openTry N  M0 O Q := by
  obtain ⟨_, _, _, _, _, _, _, _, _, _, _, _, _⟩ := (show tN N from hN)
  obtain ⟨⟨_, _⟩, ⟨_, _⟩, _, ⟨_, _⟩, ⟨_, _⟩, ⟨_, _⟩, hO7⟩ := (show tI N M0 O from hI)
  have hk : tK M0 M0 := tK_rf M0
  unfold wT_X8_openTry
  have := b_le7 hO7
  refine spT_X8_fetch hN  (show tI N M0 O from hI) (fun r1 M2 O2 hI hk1 => ?_)
  have hk := tK_tr (show tK M0 M0 from hk) hk1
  obtain ⟨⟨_, _⟩, ⟨_, _⟩, _, ⟨_, _⟩, ⟨_, _⟩, ⟨_, _⟩, hO7⟩ := (show tI N M2 O2 from hI)
  have := b_le7 hO7
  refine spT_X8_fetch hN  (show tI N M2 O2 from hI) (fun r3 M4 O4 hI hk1 => ?_)
  have hk := tK_tr (show tK M0 M2 from hk) hk1
  obtain ⟨⟨_, _⟩, ⟨_, _⟩, _, ⟨_, _⟩, ⟨_, _⟩, ⟨_, _⟩, hO7⟩ := (show tI N M4 O4 from hI)
  have := b_le7 hO7
  have := ti_rng (M4 51)
  have : (0 : Int32).toInt = 0 := by decide
  have := ti_rng (M4 50)
  refine spT_X8_setTryField hN _ _ _ (show tI N M4 O4 from hI) (fun M5 O5 hI hk1 => ?_)
  have hk := tK_tr (show tK M0 M4 from hk) hk1
  obtain ⟨⟨_, _⟩, ⟨_, _⟩, _, ⟨_, _⟩, ⟨_, _⟩, ⟨_, _⟩, hO7⟩ := (show tI N M5 O5 from hI)
  have := b_le7 hO7
  have := ti_rng (M5 51)
  have : (1 : Int32).toInt = 1 := by decide
  have := ti_rng r1
  refine spT_X8_setTryField hN _ _ _ (show tI N M5 O5 from hI) (fun M6 O6 hI hk1 => ?_)
  have hk := tK_tr (show tK M0 M5 from hk) hk1
  obtain ⟨⟨_, _⟩, ⟨_, _⟩, _, ⟨_, _⟩, ⟨_, _⟩, ⟨_, _⟩, hO7⟩ := (show tI N M6 O6 from hI)
  have := b_le7 hO7
  have := ti_rng (M6 51)
  have : (2 : Int32).toInt = 2 := by decide
  have := ti_rng r3
  refine spT_X8_setTryField hN _ _ _ (show tI N M6 O6 from hI) (fun M7 O7 hI hk1 => ?_)
  have hk := tK_tr (show tK M0 M6 from hk) hk1
  obtain ⟨⟨_, _⟩, ⟨_, _⟩, _, ⟨_, _⟩, ⟨_, _⟩, ⟨_, _⟩, hO7⟩ := (show tI N M7 O7 from hI)
  have := b_le7 hO7
  exact hQ _ _ (show tI N (um M7 51 ((M7 51) + 1)) O7 from hI) (show tK M0 (um M7 51 ((M7 51) + 1)) from hk)
set_option maxHeartbeats 2000000 in
theorem spT_X8_goOnBehindLastly {N : Nat → Nat} (hN : tN N) {M0 : Nat → Int32} {O : Nat × Nat} {Q : (Nat → Int32) → Nat × Nat → Prop} (hI : tI N M0 O) (hQ : ∀ (M' : Nat → Int32) (O' : Nat × Nat), tI N M' O' → tK M0 M' → Q M' O') : wT_X8_goOnBehindLastly N  M0 O Q := by
  obtain ⟨_, _, _, _, _, _, _, _, _, _, _, _, _⟩ := (show tN N from hN)
  obtain ⟨⟨_, _⟩, ⟨_, _⟩, _, ⟨_, _⟩, ⟨_, _⟩, ⟨_, _⟩, hO7⟩ := (show tI N M0 O from hI)
  have hk : tK M0 M0 := tK_rf M0
  unfold wT_X8_goOnBehindLastly
  have := b_le7 hO7
  have := ti_rng (M0 51)
  have : (1 : Int32).toInt = 1 := by decide
  obtain ⟨_, _, _, _⟩ := ti_sub (M0 51) 1
  have : (4 : Int32).toInt = 4 := by decide
  refine spT_X8_tryField hN _ _ (show tI N (um M0 51 ((M0 51) - 1)) O from hI) (fun r1 M2 O2 hI hk1 => ?_)
  have hk := tK_tr (show tK M0 (um M0 51 ((M0 51) - 1)) from hk) hk1
  obtain ⟨⟨_, _⟩, ⟨_, _⟩, _, ⟨_, _⟩, ⟨_, _⟩, ⟨_, _⟩, hO7⟩ := (show tI N M2 O2 from hI)
  have := b_le7 hO7
  have := ti_rng (M2 51)
  have : (3 : Int32).toInt = 3 := by decide
  refine spT_X8_tryField hN _ _ (show tI N M2 O2 from hI) (fun r3 M4 O4 hI hk1 => ?_)
  have hk := tK_tr (show tK M0 M2 from hk) hk1
  obtain ⟨⟨_, _⟩, ⟨_, _⟩, _, ⟨_, _⟩, ⟨_, _⟩, ⟨_, _⟩, hO7⟩ := (show tI N M4 O4 from hI)
  have := b_le7 hO7
  refine ⟨fun hk => ?_, fun hk => ?_, fun hk0 hk1 => ?_⟩
  · have := ti_rng r3
    have hk9 := congrArg Int32.toInt hk
    exact hQ _ _ (show tI N (um M4 54 r1) O4 from hI) (show tK M0 (um M4 54 r1) from hk)
  · have := ti_rng r3
    have : (2 : Int32).toInt = 2 := by decide
    have hk9 := congrArg Int32.toInt hk
    have := ti_rng r1
    refine spT_X8_rest hN _ (show tI N M4 O4 from hI) (fun M5 O5 hI hk1 => ?_)
    have hk := tK_tr (show tK M0 M4 from hk) hk1
    obtain ⟨⟨_, _⟩, ⟨_, _⟩, _, ⟨_, _⟩, ⟨_, _⟩, ⟨_, _⟩, hO7⟩ := (show tI N M5 O5 from hI)
    have := b_le7 hO7
    exact hQ _ _ (show tI N M5 O5 from hI) (show tK M0 M5 from hk)
  · have := ti_rng r3
    exact hQ _ _ (show tI N M4 O4 from hI) (show tK M0 M4 from hk)
set_option maxHeartbeats 2000000 in
theorem spT_X8_doCourse {N : Nat → Nat} (hN : tN N) (q1 : Int32) {M0 : Nat → Int32} {O : Nat × Nat} {Q : (Nat → Int32) → Nat × Nat → Prop} (hI : tI N M0 O) (hQ : ∀ (M' : Nat → Int32) (O' : Nat × Nat), tI N M' O' → tK M0 M' → Q M' O') : wT_X8_doCourse N q1 M0 O Q := by
  obtain ⟨_, _, _, _, _, _, _, _, _, _, _, _, _⟩ := (show tN N from hN)
  obtain ⟨⟨_, _⟩, ⟨_, _⟩, _, ⟨_, _⟩, ⟨_, _⟩, ⟨_, _⟩, hO7⟩ := (show tI N M0 O from hI)
  have hk : tK M0 M0 := tK_rf M0
  unfold wT_X8_doCourse
  have := b_le7 hO7
  refine ⟨fun hk => ?_, fun hk => ?_, fun hk => ?_, fun hk => ?_, fun hk => ?_, fun hk => ?_, fun hk => ?_, fun hk0 hk1 hk2 hk3 hk4 hk5 hk6 => ?_⟩
  · have := ti_rng q1
    have : (0 : Int32).toInt = 0 := by decide
    have hk9 := congrArg Int32.toInt hk
    refine spT_X8_countStep hN  (show tI N M0 O from hI) (fun M1 O1 hI hk1 => ?_)
    have hk := tK_tr (show tK M0 M0 from hk) hk1
    obtain ⟨⟨_, _⟩, ⟨_, _⟩, _, ⟨_, _⟩, ⟨_, _⟩, ⟨_, _⟩, hO7⟩ := (show tI N M1 O1 from hI)
    have := b_le7 hO7
    exact hQ _ _ (show tI N M1 O1 from hI) (show tK M0 M1 from hk)
  · have := ti_rng q1
    have : (1 : Int32).toInt = 1 := by decide
    have hk9 := congrArg Int32.toInt hk
    refine spT_X8_pop hN  (show tI N M0 O from hI) (fun r2 M3 O3 hI hk1 => ?_)
    have hk := tK_tr (show tK M0 M0 from hk) hk1
    obtain ⟨⟨_, _⟩, ⟨_, _⟩, _, ⟨_, _⟩, ⟨_, _⟩, ⟨_, _⟩, hO7⟩ := (show tI N M3 O3 from hI)
    have := b_le7 hO7
    have := ti_rng r2
    refine spT_X8_putNote hN _ (show tI N M3 O3 from hI) (fun M4 O4 hI hk1 => ?_)
    have hk := tK_tr (show tK M0 M3 from hk) hk1
    obtain ⟨⟨_, _⟩, ⟨_, _⟩, _, ⟨_, _⟩, ⟨_, _⟩, ⟨_, _⟩, hO7⟩ := (show tI N M4 O4 from hI)
    have := b_le7 hO7
    exact hQ _ _ (show tI N M4 O4 from hI) (show tK M0 M4 from hk)
  · have := ti_rng q1
    have : (2 : Int32).toInt = 2 := by decide
    have hk9 := congrArg Int32.toInt hk
    refine spT_X8_hear hN  (show tI N M0 O from hI) (fun M5 O5 hI hk1 => ?_)
    have hk := tK_tr (show tK M0 M0 from hk) hk1
    obtain ⟨⟨_, _⟩, ⟨_, _⟩, _, ⟨_, _⟩, ⟨_, _⟩, ⟨_, _⟩, hO7⟩ := (show tI N M5 O5 from hI)
    have := b_le7 hO7
    exact hQ _ _ (show tI N M5 O5 from hI) (show tK M0 M5 from hk)
  · have := ti_rng q1
    have : (3 : Int32).toInt = 3 := by decide
    have hk9 := congrArg Int32.toInt hk
    refine spT_X8_pop hN  (show tI N M0 O from hI) (fun r6 M7 O7 hI hk1 => ?_)
    have hk := tK_tr (show tK M0 M0 from hk) hk1
    obtain ⟨⟨_, _⟩, ⟨_, _⟩, _, ⟨_, _⟩, ⟨_, _⟩, ⟨_, _⟩, hO7⟩ := (show tI N M7 O7 from hI)
    have := b_le7 hO7
    have := ti_rng r6
    refine spT_X8_rest hN _ (show tI N M7 O7 from hI) (fun M8 O8 hI hk1 => ?_)
    have hk := tK_tr (show tK M0 M7 from hk) hk1
    obtain ⟨⟨_, _⟩, ⟨_, _⟩, _, ⟨_, _⟩, ⟨_, _⟩, ⟨_, _⟩, hO7⟩ := (show tI N M8 O8 from hI)
    have := b_le7 hO7
    exact hQ _ _ (show tI N M8 O8 from hI) (show tK M0 M8 from hk)
  · have := ti_rng q1
    have : (4 : Int32).toInt = 4 := by decide
    have hk9 := congrArg Int32.toInt hk
    refine spT_X8_openTry hN  (show tI N M0 O from hI) (fun M9 O9 hI hk1 => ?_)
    have hk := tK_tr (show tK M0 M0 from hk) hk1
    obtain ⟨⟨_, _⟩, ⟨_, _⟩, _, ⟨_, _⟩, ⟨_, _⟩, ⟨_, _⟩, hO7⟩ := (show tI N M9 O9 from hI)
    have := b_le7 hO7
    exact hQ _ _ (show tI N M9 O9 from hI) (show tK M0 M9 from hk)
  · have := ti_rng q1
    have : (5 : Int32).toInt = 5 := by decide
    have hk9 := congrArg Int32.toInt hk
    have : (0 : Int32).toInt = 0 := by decide
    refine spT_X8_doLastly hN _ _ (show tI N M0 O from hI) (fun M10 O10 hI hk1 => ?_)
    have hk := tK_tr (show tK M0 M0 from hk) hk1
    obtain ⟨⟨_, _⟩, ⟨_, _⟩, _, ⟨_, _⟩, ⟨_, _⟩, ⟨_, _⟩, hO7⟩ := (show tI N M10 O10 from hI)
    have := b_le7 hO7
    exact hQ _ _ (show tI N M10 O10 from hI) (show tK M0 M10 from hk)
  · have := ti_rng q1
    have : (6 : Int32).toInt = 6 := by decide
    have hk9 := congrArg Int32.toInt hk
    refine spT_X8_goOnBehindLastly hN  (show tI N M0 O from hI) (fun M11 O11 hI hk1 => ?_)
    have hk := tK_tr (show tK M0 M0 from hk) hk1
    obtain ⟨⟨_, _⟩, ⟨_, _⟩, _, ⟨_, _⟩, ⟨_, _⟩, ⟨_, _⟩, hO7⟩ := (show tI N M11 O11 from hI)
    have := b_le7 hO7
    exact hQ _ _ (show tI N M11 O11 from hI) (show tK M0 M11 from hk)
  · have := ti_rng q1
    exact hQ _ _ (show tI N (um M0 53 3) O from hI) (show tK M0 (um M0 53 3) from hk)
set_option maxHeartbeats 2000000 in
theorem spT_X8_numberAt {N : Nat → Nat} (hN : tN N) (q1 : Int32) {M0 : Nat → Int32} {O : Nat × Nat} {Q : Int32 → (Nat → Int32) → Nat × Nat → Prop} (hI : tI N M0 O) (hQ : ∀ (r : Int32) (M' : Nat → Int32) (O' : Nat × Nat), tI N M' O' → tK M0 M' → Q r M' O') : wT_X8_numberAt N q1 M0 O Q := by
  obtain ⟨_, _, _, _, _, _, _, _, _, _, _, _, _⟩ := (show tN N from hN)
  obtain ⟨⟨_, _⟩, ⟨_, _⟩, _, ⟨_, _⟩, ⟨_, _⟩, ⟨_, _⟩, hO7⟩ := (show tI N M0 O from hI)
  have hk : tK M0 M0 := tK_rf M0
  unfold wT_X8_numberAt
  have := b_le7 hO7
  refine ⟨fun hc1 => ?_, fun hc1 => ?_⟩
  · have := ti_rng (M0 50)
    have : (1 : Int32).toInt = 1 := by decide
    obtain ⟨_, _, _, _⟩ := ti_sub (M0 50) 1
    have : (12 : Int32).toInt = 12 := by decide
    obtain ⟨_, _, _, _⟩ := ti_mulc ((M0 50) - 1) 12 12 (by decide)
    have := ti_rng q1
    obtain ⟨_, _, _, _⟩ := ti_add (((M0 50) - 1) * 12) q1
    have : (0 : Int32).toInt = 0 := by decide
    have hc1 := Int32.lt_iff_toInt_lt.mp hc1
    exact hQ _ _ _ (show tI N M0 O from hI) (show tK M0 M0 from hk)
  · have := ti_rng (M0 50)
    have : (1 : Int32).toInt = 1 := by decide
    obtain ⟨_, _, _, _⟩ := ti_sub (M0 50) 1
    have : (12 : Int32).toInt = 12 := by decide
    obtain ⟨_, _, _, _⟩ := ti_mulc ((M0 50) - 1) 12 12 (by decide)
    have := ti_rng q1
    obtain ⟨_, _, _, _⟩ := ti_add (((M0 50) - 1) * 12) q1
    have : (0 : Int32).toInt = 0 := by decide
    have hc1 := ti_nlt hc1
    refine ⟨fun hc2 => ?_, fun hc2 => ?_⟩
    · have := nI_toInt (n := (N 15)) (by omega)
      have hc2 := Int32.le_iff_toInt_le.mp hc2
      exact hQ _ _ _ (show tI N M0 O from hI) (show tK M0 M0 from hk)
    · have := nI_toInt (n := (N 15)) (by omega)
      have hc2 := ti_nle hc2
      refine ⟨vp_in_iff.mpr (by omega), fun z3 => ?_⟩
      exact hQ _ _ _ (show tI N M0 O from hI) (show tK M0 M0 from hk)
set_option maxHeartbeats 2000000 in
theorem spT_X8_doNumber {N : Nat → Nat} (hN : tN N) (q1 : Int32) {M0 : Nat → Int32} {O : Nat × Nat} {Q : (Nat → Int32) → Nat × Nat → Prop} (hI : tI N M0 O) (hQ : ∀ (M' : Nat → Int32) (O' : Nat × Nat), tI N M' O' → tK M0 M' → Q M' O') : wT_X8_doNumber N q1 M0 O Q := by
  obtain ⟨_, _, _, _, _, _, _, _, _, _, _, _, _⟩ := (show tN N from hN)
  obtain ⟨⟨_, _⟩, ⟨_, _⟩, _, ⟨_, _⟩, ⟨_, _⟩, ⟨_, _⟩, hO7⟩ := (show tI N M0 O from hI)
  have hk : tK M0 M0 := tK_rf M0
  unfold wT_X8_doNumber
  have := b_le7 hO7
  refine ⟨fun hk => ?_, fun hk => ?_, fun hk => ?_, fun hk => ?_, fun hk => ?_, fun hk => ?_, fun hk0 hk1 hk2 hk3 hk4 hk5 => ?_⟩
  · have := ti_rng q1
    have : (7 : Int32).toInt = 7 := by decide
    have hk9 := congrArg Int32.toInt hk
    refine spT_X8_fetch hN  (show tI N M0 O from hI) (fun r1 M2 O2 hI hk1 => ?_)
    have hk := tK_tr (show tK M0 M0 from hk) hk1
    obtain ⟨⟨_, _⟩, ⟨_, _⟩, _, ⟨_, _⟩, ⟨_, _⟩, ⟨_, _⟩, hO7⟩ := (show tI N M2 O2 from hI)
    have := b_le7 hO7
    have := ti_rng r1
    refine spT_X8_push hN _ (show tI N M2 O2 from hI) (fun M3 O3 hI hk1 => ?_)
    have hk := tK_tr (show tK M0 M2 from hk) hk1
    obtain ⟨⟨_, _⟩, ⟨_, _⟩, _, ⟨_, _⟩, ⟨_, _⟩, ⟨_, _⟩, hO7⟩ := (show tI N M3 O3 from hI)
    have := b_le7 hO7
    exact hQ _ _ (show tI N M3 O3 from hI) (show tK M0 M3 from hk)
  · have := ti_rng q1
    have : (8 : Int32).toInt = 8 := by decide
    have hk9 := congrArg Int32.toInt hk
    refine spT_X8_fetch hN  (show tI N M0 O from hI) (fun r4 M5 O5 hI hk1 => ?_)
    have hk := tK_tr (show tK M0 M0 from hk) hk1
    obtain ⟨⟨_, _⟩, ⟨_, _⟩, _, ⟨_, _⟩, ⟨_, _⟩, ⟨_, _⟩, hO7⟩ := (show tI N M5 O5 from hI)
    have := b_le7 hO7
    have := ti_rng r4
    refine spT_X8_numberAt hN _ (show tI N M5 O5 from hI) (fun r6 M7 O7 hI hk1 => ?_)
    have hk := tK_tr (show tK M0 M5 from hk) hk1
    obtain ⟨⟨_, _⟩, ⟨_, _⟩, _, ⟨_, _⟩, ⟨_, _⟩, ⟨_, _⟩, hO7⟩ := (show tI N M7 O7 from hI)
    have := b_le7 hO7
    have := ti_rng r6
    refine spT_X8_push hN _ (show tI N M7 O7 from hI) (fun M8 O8 hI hk1 => ?_)
    have hk := tK_tr (show tK M0 M7 from hk) hk1
    obtain ⟨⟨_, _⟩, ⟨_, _⟩, _, ⟨_, _⟩, ⟨_, _⟩, ⟨_, _⟩, hO7⟩ := (show tI N M8 O8 from hI)
    have := b_le7 hO7
    exact hQ _ _ (show tI N M8 O8 from hI) (show tK M0 M8 from hk)
  · have := ti_rng q1
    have : (9 : Int32).toInt = 9 := by decide
    have hk9 := congrArg Int32.toInt hk
    refine spT_X8_fetch hN  (show tI N M0 O from hI) (fun r9 M10 O10 hI hk1 => ?_)
    have hk := tK_tr (show tK M0 M0 from hk) hk1
    obtain ⟨⟨_, _⟩, ⟨_, _⟩, _, ⟨_, _⟩, ⟨_, _⟩, ⟨_, _⟩, hO7⟩ := (show tI N M10 O10 from hI)
    have := b_le7 hO7
    refine spT_X8_pop hN  (show tI N M10 O10 from hI) (fun r11 M12 O12 hI hk1 => ?_)
    have hk := tK_tr (show tK M0 M10 from hk) hk1
    obtain ⟨⟨_, _⟩, ⟨_, _⟩, _, ⟨_, _⟩, ⟨_, _⟩, ⟨_, _⟩, hO7⟩ := (show tI N M12 O12 from hI)
    have := b_le7 hO7
    have := ti_rng r9
    have := ti_rng r11
    refine spT_X8_setNumber hN _ _ (show tI N M12 O12 from hI) (fun M13 O13 hI hk1 => ?_)
    have hk := tK_tr (show tK M0 M12 from hk) hk1
    obtain ⟨⟨_, _⟩, ⟨_, _⟩, _, ⟨_, _⟩, ⟨_, _⟩, ⟨_, _⟩, hO7⟩ := (show tI N M13 O13 from hI)
    have := b_le7 hO7
    exact hQ _ _ (show tI N M13 O13 from hI) (show tK M0 M13 from hk)
  · have := ti_rng q1
    have : (10 : Int32).toInt = 10 := by decide
    have hk9 := congrArg Int32.toInt hk
    refine spT_X8_pop hN  (show tI N M0 O from hI) (fun r14 M15 O15 hI hk1 => ?_)
    have hk := tK_tr (show tK M0 M0 from hk) hk1
    obtain ⟨⟨_, _⟩, ⟨_, _⟩, _, ⟨_, _⟩, ⟨_, _⟩, ⟨_, _⟩, hO7⟩ := (show tI N M15 O15 from hI)
    have := b_le7 hO7
    exact hQ _ _ (show tI N M15 O15 from hI) (show tK M0 M15 from hk)
  · have := ti_rng q1
    have : (11 : Int32).toInt = 11 := by decide
    have hk9 := congrArg Int32.toInt hk
    refine spT_X8_pop hN  (show tI N M0 O from hI) (fun r16 M17 O17 hI hk1 => ?_)
    have hk := tK_tr (show tK M0 M0 from hk) hk1
    obtain ⟨⟨_, _⟩, ⟨_, _⟩, _, ⟨_, _⟩, ⟨_, _⟩, ⟨_, _⟩, hO7⟩ := (show tI N M17 O17 from hI)
    have := b_le7 hO7
    have := ti_rng (-r16)
    refine spT_X8_push hN _ (show tI N M17 O17 from hI) (fun M18 O18 hI hk1 => ?_)
    have hk := tK_tr (show tK M0 M17 from hk) hk1
    obtain ⟨⟨_, _⟩, ⟨_, _⟩, _, ⟨_, _⟩, ⟨_, _⟩, ⟨_, _⟩, hO7⟩ := (show tI N M18 O18 from hI)
    have := b_le7 hO7
    exact hQ _ _ (show tI N M18 O18 from hI) (show tK M0 M18 from hk)
  · have := ti_rng q1
    have : (12 : Int32).toInt = 12 := by decide
    have hk9 := congrArg Int32.toInt hk
    refine spT_X8_fetch hN  (show tI N M0 O from hI) (fun r19 M20 O20 hI hk1 => ?_)
    have hk := tK_tr (show tK M0 M0 from hk) hk1
    obtain ⟨⟨_, _⟩, ⟨_, _⟩, _, ⟨_, _⟩, ⟨_, _⟩, ⟨_, _⟩, hO7⟩ := (show tI N M20 O20 from hI)
    have := b_le7 hO7
    exact hQ _ _ (show tI N (um M20 49 r19) O20 from hI) (show tK M0 (um M20 49 r19) from hk)
  · have := ti_rng q1
    refine spT_X8_fetch hN  (show tI N M0 O from hI) (fun r21 M22 O22 hI hk1 => ?_)
    have hk := tK_tr (show tK M0 M0 from hk) hk1
    obtain ⟨⟨_, _⟩, ⟨_, _⟩, _, ⟨_, _⟩, ⟨_, _⟩, ⟨_, _⟩, hO7⟩ := (show tI N M22 O22 from hI)
    have := b_le7 hO7
    refine spT_X8_pop hN  (show tI N M22 O22 from hI) (fun r23 M24 O24 hI hk1 => ?_)
    have hk := tK_tr (show tK M0 M22 from hk) hk1
    obtain ⟨⟨_, _⟩, ⟨_, _⟩, _, ⟨_, _⟩, ⟨_, _⟩, ⟨_, _⟩, hO7⟩ := (show tI N M24 O24 from hI)
    have := b_le7 hO7
    refine ⟨fun hc25 => ?_, fun hc25 => ?_⟩
    · have := ti_rng r23
      have : (0 : Int32).toInt = 0 := by decide
      have hc259 := ti_ne hc25
      exact hQ _ _ (show tI N M24 O24 from hI) (show tK M0 M24 from hk)
    · have := ti_rng r23
      have : (0 : Int32).toInt = 0 := by decide
      have hc259 := congrArg Int32.toInt hc25
      exact hQ _ _ (show tI N (um M24 49 r21) O24 from hI) (show tK M0 (um M24 49 r21) from hk)
set_option maxHeartbeats 2000000 in
theorem spT_X2_makeInTrial {N : Nat → Nat} (hN : tN N) (q1 : Int32) (q2 : Int32) (q3 : Int32) (q4 : Int32) {M0 : Nat → Int32} {O : Nat × Nat} {Q : Int32 → (Nat → Int32) → Nat × Nat → Prop} (hI : tI N M0 O) (hQ : ∀ (r : Int32) (M' : Nat → Int32) (O' : Nat × Nat), tI N M' O' → tK M0 M' → Q r M' O') : wT_X2_makeInTrial N q1 q2 q3 q4 M0 O Q := by
  obtain ⟨_, _, _, _, _, _, _, _, _, _, _, _, _⟩ := (show tN N from hN)
  obtain ⟨⟨_, _⟩, ⟨_, _⟩, _, ⟨_, _⟩, ⟨_, _⟩, ⟨_, _⟩, hO7⟩ := (show tI N M0 O from hI)
  have hk : tK M0 M0 := tK_rf M0
  unfold wT_X2_makeInTrial
  have := b_le7 hO7
  refine ⟨fun hc1 => ?_, fun hc1 => ?_⟩
  · have := ti_rng (M0 22)
    have := ti_rng (M0 21)
    obtain ⟨_, _, _, _⟩ := ti_sub (M0 22) (M0 21)
    have : (100 : Int32).toInt = 100 := by decide
    have hc1 := Int32.lt_iff_toInt_lt.mp hc1
    have := ti_rng q1
    have := ti_rng q2
    have := ti_rng q3
    have := ti_rng q4
    refine spT_X2_make hN _ _ _ _ (show tI N M0 O from hI) (fun r2 M3 O3 hI hk1 => ?_)
    have hk := tK_tr (show tK M0 M0 from hk) hk1
    obtain ⟨⟨_, _⟩, ⟨_, _⟩, _, ⟨_, _⟩, ⟨_, _⟩, ⟨_, _⟩, hO7⟩ := (show tI N M3 O3 from hI)
    have := b_le7 hO7
    exact hQ _ _ _ (show tI N M3 O3 from hI) (show tK M0 M3 from hk)
  · have := ti_rng (M0 22)
    have := ti_rng (M0 21)
    obtain ⟨_, _, _, _⟩ := ti_sub (M0 22) (M0 21)
    have : (100 : Int32).toInt = 100 := by decide
    have hc1 := ti_nlt hc1
    exact hQ _ _ _ (show tI N M0 O from hI) (show tK M0 M0 from hk)
set_option maxHeartbeats 2000000 in
theorem spT_X8_raiseNew {N : Nat → Nat} (hN : tN N) (q1 : Int32) (q2 : Int32) {M0 : Nat → Int32} {O : Nat × Nat} {Q : (Nat → Int32) → Nat × Nat → Prop} (hI : tI N M0 O) (hQ : ∀ (M' : Nat → Int32) (O' : Nat × Nat), tI N M' O' → tK M0 M' → Q M' O') : wT_X8_raiseNew N q1 q2 M0 O Q := by
  obtain ⟨_, _, _, _, _, _, _, _, _, _, _, _, _⟩ := (show tN N from hN)
  obtain ⟨⟨_, _⟩, ⟨_, _⟩, _, ⟨_, _⟩, ⟨_, _⟩, ⟨_, _⟩, hO7⟩ := (show tI N M0 O from hI)
  have hk : tK M0 M0 := tK_rf M0
  unfold wT_X8_raiseNew
  have := b_le7 hO7
  have := ti_rng q1
  have := ti_rng q2
  have : (0 : Int32).toInt = 0 := by decide
  have : ((-1) : Int32).toInt = -1 := by decide
  refine spT_X2_makeInTrial hN _ _ _ _ (show tI N M0 O from hI) (fun r1 M2 O2 hI hk1 => ?_)
  have hk := tK_tr (show tK M0 M0 from hk) hk1
  obtain ⟨⟨_, _⟩, ⟨_, _⟩, _, ⟨_, _⟩, ⟨_, _⟩, ⟨_, _⟩, hO7⟩ := (show tI N M2 O2 from hI)
  have := b_le7 hO7
  refine ⟨fun hc3 => ?_, fun hc3 => ?_⟩
  · have := ti_rng r1
    have hc39 := ti_ne hc3
    exact hQ _ _ (show tI N (um M2 54 r1) O2 from hI) (show tK M0 (um M2 54 r1) from hk)
  · have := ti_rng r1
    have hc39 := congrArg Int32.toInt hc3
    exact hQ _ _ (show tI N (um (um M2 54 r1) 53 3) O2 from hI) (show tK M0 (um (um M2 54 r1) 53 3) from hk)
set_option maxHeartbeats 2000000 in
theorem spT_X8_ofTwoNumbers {N : Nat → Nat} (hN : tN N) (q0 : Int32) (q1 : Int32) (q2 : Int32) {M0 : Nat → Int32} {O : Nat × Nat} {Q : Int32 → (Nat → Int32) → Nat × Nat → Prop} (hI : tI N M0 O) (hQ : ∀ (r : Int32) (M' : Nat → Int32) (O' : Nat × Nat), tI N M' O' → tK M0 M' → Q r M' O') : wT_X8_ofTwoNumbers N q0 q1 q2 M0 O Q := by
  obtain ⟨_, _, _, _, _, _, _, _, _, _, _, _, _⟩ := (show tN N from hN)
  obtain ⟨⟨_, _⟩, ⟨_, _⟩, _, ⟨_, _⟩, ⟨_, _⟩, ⟨_, _⟩, hO7⟩ := (show tI N M0 O from hI)
  have hk : tK M0 M0 := tK_rf M0
  unfold wT_X8_ofTwoNumbers
  have := b_le7 hO7
  refine ⟨fun hk => ?_, fun hk => ?_, fun hk => ?_, fun hk => ?_, fun hk => ?_, fun hk => ?_, fun hk => ?_, fun hk0 hk1 hk2 hk3 hk4 hk5 hk6 => ?_⟩
  · have := ti_rng q0
    have : (14 : Int32).toInt = 14 := by decide
    have hk9 := congrArg Int32.toInt hk
    exact hQ _ _ _ (show tI N M0 O from hI) (show tK M0 M0 from hk)
  · have := ti_rng q0
    have : (15 : Int32).toInt = 15 := by decide
    have hk9 := congrArg Int32.toInt hk
    exact hQ _ _ _ (show tI N M0 O from hI) (show tK M0 M0 from hk)
  · have := ti_rng q0
    have : (16 : Int32).toInt = 16 := by decide
    have hk9 := congrArg Int32.toInt hk
    exact hQ _ _ _ (show tI N M0 O from hI) (show tK M0 M0 from hk)
  · have := ti_rng q0
    have : (17 : Int32).toInt = 17 := by decide
    have hk9 := congrArg Int32.toInt hk
    refine ⟨fun hc1 => ?_, fun hc1 => ?_⟩
    · have := ti_rng q2
      have : (0 : Int32).toInt = 0 := by decide
      have hc19 := ti_ne hc1
      refine ⟨by assumption, ?_⟩
      exact hQ _ _ _ (show tI N M0 O from hI) (show tK M0 M0 from hk)
    · have := ti_rng q2
      have : (0 : Int32).toInt = 0 := by decide
      have hc19 := congrArg Int32.toInt hc1
      exact hQ _ _ _ (show tI N M0 O from hI) (show tK M0 M0 from hk)
  · have := ti_rng q0
    have : (18 : Int32).toInt = 18 := by decide
    have hk9 := congrArg Int32.toInt hk
    refine ⟨fun hc2 => ?_, fun hc2 => ?_⟩
    · have := ti_rng q2
      have : (0 : Int32).toInt = 0 := by decide
      have hc29 := ti_ne hc2
      refine ⟨by assumption, ?_⟩
      exact hQ _ _ _ (show tI N M0 O from hI) (show tK M0 M0 from hk)
    · have := ti_rng q2
      have : (0 : Int32).toInt = 0 := by decide
      have hc29 := congrArg Int32.toInt hc2
      exact hQ _ _ _ (show tI N M0 O from hI) (show tK M0 M0 from hk)
  · have := ti_rng q0
    have : (19 : Int32).toInt = 19 := by decide
    have hk9 := congrArg Int32.toInt hk
    refine ⟨fun hc3 => ?_, fun hc3 => ?_⟩
    · have := ti_rng q2
      have := ti_rng q1
      have hc3 := Int32.le_iff_toInt_le.mp hc3
      exact hQ _ _ _ (show tI N M0 O from hI) (show tK M0 M0 from hk)
    · have := ti_rng q2
      have := ti_rng q1
      have hc3 := ti_nle hc3
      exact hQ _ _ _ (show tI N M0 O from hI) (show tK M0 M0 from hk)
  · have := ti_rng q0
    have : (20 : Int32).toInt = 20 := by decide
    have hk9 := congrArg Int32.toInt hk
    refine ⟨fun hc4 => ?_, fun hc4 => ?_⟩
    · have := ti_rng q1
      have := ti_rng q2
      have hc49 := ti_ne hc4
      exact hQ _ _ _ (show tI N M0 O from hI) (show tK M0 M0 from hk)
    · have := ti_rng q1
      have := ti_rng q2
      have hc49 := congrArg Int32.toInt hc4
      exact hQ _ _ _ (show tI N M0 O from hI) (show tK M0 M0 from hk)
  · have := ti_rng q0
    refine ⟨fun hc5 => ?_, fun hc5 => ?_⟩
    · have := ti_rng q1
      have := ti_rng q2
      have hc59 := congrArg Int32.toInt hc5
      exact hQ _ _ _ (show tI N M0 O from hI) (show tK M0 M0 from hk)
    · have := ti_rng q1
      have := ti_rng q2
      have hc59 := ti_ne hc5
      exact hQ _ _ _ (show tI N M0 O from hI) (show tK M0 M0 from hk)
set_option maxHeartbeats 2000000 in
theorem spT_X8_doTwoNumbers_34 {N : Nat → Nat} (hN : tN N) {Q : (Nat → Int32) → Nat × Nat → Prop} {M0 : Nat → Int32} {q1 : Int32} (hQ : ∀ (M' : Nat → Int32) (O' : Nat × Nat), tI N M' O' → tK M0 M' → Q M' O') (a1 : Int32) (a2 : Int32) (a3 : Int32) (M : Nat → Int32) (O : Nat × Nat) (hI : tI N M O) (hk : tK M0 M) : wT_X8_doTwoNumbers_34 N Q a1 a2 a3 M O := by
  obtain ⟨_, _, _, _, _, _, _, _, _, _, _, _, _⟩ := (show tN N from hN)
  obtain ⟨⟨_, _⟩, ⟨_, _⟩, _, ⟨_, _⟩, ⟨_, _⟩, ⟨_, _⟩, hO7⟩ := (show tI N M O from hI)
  unfold wT_X8_doTwoNumbers_34
  have := b_le7 hO7
  have := ti_rng a1
  have := ti_rng a3
  have := ti_rng a2
  refine spT_X8_ofTwoNumbers hN _ _ _ (show tI N M O from hI) (fun r6 M7 O7 hI hk1 => ?_)
  have hk := tK_tr (show tK M0 M from hk) hk1
  obtain ⟨⟨_, _⟩, ⟨_, _⟩, _, ⟨_, _⟩, ⟨_, _⟩, ⟨_, _⟩, hO7⟩ := (show tI N M7 O7 from hI)
  have := b_le7 hO7
  have := ti_rng r6
  refine spT_X8_push hN _ (show tI N M7 O7 from hI) (fun M8 O8 hI hk1 => ?_)
  have hk := tK_tr (show tK M0 M7 from hk) hk1
  obtain ⟨⟨_, _⟩, ⟨_, _⟩, _, ⟨_, _⟩, ⟨_, _⟩, ⟨_, _⟩, hO7⟩ := (show tI N M8 O8 from hI)
  have := b_le7 hO7
  exact hQ _ _ (show tI N M8 O8 from hI) (show tK M0 M8 from hk)
set_option maxHeartbeats 2000000 in
theorem spT_X8_doTwoNumbers_26 {N : Nat → Nat} (hN : tN N) {Q : (Nat → Int32) → Nat × Nat → Prop} {M0 : Nat → Int32} {q1 : Int32} (hQ : ∀ (M' : Nat → Int32) (O' : Nat × Nat), tI N M' O' → tK M0 M' → Q M' O') (M : Nat → Int32) (O : Nat × Nat) (hI : tI N M O) (hk : tK M0 M) : wT_X8_doTwoNumbers_26 N Q M O := by
  obtain ⟨_, _, _, _, _, _, _, _, _, _, _, _, _⟩ := (show tN N from hN)
  obtain ⟨⟨_, _⟩, ⟨_, _⟩, _, ⟨_, _⟩, ⟨_, _⟩, ⟨_, _⟩, hO7⟩ := (show tI N M O from hI)
  unfold wT_X8_doTwoNumbers_26
  have := b_le7 hO7
  have : (6 : Int32).toInt = 6 := by decide
  have : (3 : Int32).toInt = 3 := by decide
  refine spT_X8_raiseNew hN _ _ (show tI N M O from hI) (fun M10 O10 hI hk1 => ?_)
  have hk := tK_tr (show tK M0 M from hk) hk1
  obtain ⟨⟨_, _⟩, ⟨_, _⟩, _, ⟨_, _⟩, ⟨_, _⟩, ⟨_, _⟩, hO7⟩ := (show tI N M10 O10 from hI)
  have := b_le7 hO7
  exact hQ _ _ (show tI N M10 O10 from hI) (show tK M0 M10 from hk)
set_option maxHeartbeats 2000000 in
theorem spT_X8_doTwoNumbers {N : Nat → Nat} (hN : tN N) (q1 : Int32) {M0 : Nat → Int32} {O : Nat × Nat} {Q : (Nat → Int32) → Nat × Nat → Prop} (hI : tI N M0 O) (hQ : ∀ (M' : Nat → Int32) (O' : Nat × Nat), tI N M' O' → tK M0 M' → Q M' O') : wT_X8_doTwoNumbers N q1 M0 O Q := by
  obtain ⟨_, _, _, _, _, _, _, _, _, _, _, _, _⟩ := (show tN N from hN)
  obtain ⟨⟨_, _⟩, ⟨_, _⟩, _, ⟨_, _⟩, ⟨_, _⟩, ⟨_, _⟩, hO7⟩ := (show tI N M0 O from hI)
  have hk : tK M0 M0 := tK_rf M0
  unfold wT_X8_doTwoNumbers
  have := b_le7 hO7
  refine spT_X8_pop hN  (show tI N M0 O from hI) (fun r1 M2 O2 hI hk1 => ?_)
  have hk := tK_tr (show tK M0 M0 from hk) hk1
  obtain ⟨⟨_, _⟩, ⟨_, _⟩, _, ⟨_, _⟩, ⟨_, _⟩, ⟨_, _⟩, hO7⟩ := (show tI N M2 O2 from hI)
  have := b_le7 hO7
  refine spT_X8_pop hN  (show tI N M2 O2 from hI) (fun r3 M4 O4 hI hk1 => ?_)
  have hk := tK_tr (show tK M0 M2 from hk) hk1
  obtain ⟨⟨_, _⟩, ⟨_, _⟩, _, ⟨_, _⟩, ⟨_, _⟩, ⟨_, _⟩, hO7⟩ := (show tI N M4 O4 from hI)
  have := b_le7 hO7
  refine ⟨fun hc5 => ?_, fun hc5 => ?_⟩
  · have := ti_rng r1
    have : (0 : Int32).toInt = 0 := by decide
    have hc59 := ti_ne hc5
    have := ti_rng q1
    have := ti_rng r3
    exact spT_X8_doTwoNumbers_34 hN hQ _ _ _ _ _ (show tI N M4 O4 from hI) (show tK M0 M4 from hk)
  · have := ti_rng r1
    have : (0 : Int32).toInt = 0 := by decide
    have hc59 := congrArg Int32.toInt hc5
    refine ⟨fun hc9 => ?_, fun hc9 => ?_⟩
    · have := ti_rng q1
      have : (17 : Int32).toInt = 17 := by decide
      have hc99 := congrArg Int32.toInt hc9
      exact spT_X8_doTwoNumbers_26 hN hQ _ _ (show tI N M4 O4 from hI) (show tK M0 M4 from hk)
    · have := ti_rng q1
      have : (17 : Int32).toInt = 17 := by decide
      have hc99 := ti_ne hc9
      refine ⟨fun hc11 => ?_, fun hc11 => ?_⟩
      · have : (18 : Int32).toInt = 18 := by decide
        have hc119 := ti_ne hc11
        have := ti_rng r3
        exact spT_X8_doTwoNumbers_34 hN hQ _ _ _ _ _ (show tI N M4 O4 from hI) (show tK M0 M4 from hk)
      · have : (18 : Int32).toInt = 18 := by decide
        have hc119 := congrArg Int32.toInt hc11
        exact spT_X8_doTwoNumbers_26 hN hQ _ _ (show tI N M4 O4 from hI) (show tK M0 M4 from hk)
set_option maxHeartbeats 2000000 in
theorem spT_X8_objectAt {N : Nat → Nat} (hN : tN N) (q1 : Int32) {M0 : Nat → Int32} {O : Nat × Nat} {Q : Int32 → (Nat → Int32) → Nat × Nat → Prop} (hI : tI N M0 O) (hQ : ∀ (r : Int32) (M' : Nat → Int32) (O' : Nat × Nat), tI N M' O' → tK M0 M' → Q r M' O') : wT_X8_objectAt N q1 M0 O Q := by
  obtain ⟨_, _, _, _, _, _, _, _, _, _, _, _, _⟩ := (show tN N from hN)
  obtain ⟨⟨_, _⟩, ⟨_, _⟩, _, ⟨_, _⟩, ⟨_, _⟩, ⟨_, _⟩, hO7⟩ := (show tI N M0 O from hI)
  have hk : tK M0 M0 := tK_rf M0
  unfold wT_X8_objectAt
  have := b_le7 hO7
  refine ⟨fun hc1 => ?_, fun hc1 => ?_⟩
  · have := ti_rng q1
    have : ((-1) : Int32).toInt = -1 := by decide
    have hc19 := congrArg Int32.toInt hc1
    exact hQ _ _ _ (show tI N M0 O from hI) (show tK M0 M0 from hk)
  · have := ti_rng q1
    have : ((-1) : Int32).toInt = -1 := by decide
    have hc19 := ti_ne hc1
    refine ⟨fun hc2 => ?_, fun hc2 => ?_⟩
    · have := ti_rng (M0 50)
      have : (1 : Int32).toInt = 1 := by decide
      obtain ⟨_, _, _, _⟩ := ti_sub (M0 50) 1
      have : (8 : Int32).toInt = 8 := by decide
      obtain ⟨_, _, _, _⟩ := ti_mulc ((M0 50) - 1) 8 8 (by decide)
      obtain ⟨_, _, _, _⟩ := ti_add (((M0 50) - 1) * 8) q1
      have : (0 : Int32).toInt = 0 := by decide
      have hc2 := Int32.lt_iff_toInt_lt.mp hc2
      exact hQ _ _ _ (show tI N M0 O from hI) (show tK M0 M0 from hk)
    · have := ti_rng (M0 50)
      have : (1 : Int32).toInt = 1 := by decide
      obtain ⟨_, _, _, _⟩ := ti_sub (M0 50) 1
      have : (8 : Int32).toInt = 8 := by decide
      obtain ⟨_, _, _, _⟩ := ti_mulc ((M0 50) - 1) 8 8 (by decide)
      obtain ⟨_, _, _, _⟩ := ti_add (((M0 50) - 1) * 8) q1
      have : (0 : Int32).toInt = 0 := by decide
      have hc2 := ti_nlt hc2
      refine ⟨fun hc3 => ?_, fun hc3 => ?_⟩
      · have := nI_toInt (n := (N 16)) (by omega)
        have hc3 := Int32.le_iff_toInt_le.mp hc3
        exact hQ _ _ _ (show tI N M0 O from hI) (show tK M0 M0 from hk)
      · have := nI_toInt (n := (N 16)) (by omega)
        have hc3 := ti_nle hc3
        refine ⟨vp_in_iff.mpr (by omega), fun z4 => ?_⟩
        exact hQ _ _ _ (show tI N M0 O from hI) (show tK M0 M0 from hk)
set_option maxHeartbeats 2000000 in
theorem spT_X2_get {N : Nat → Nat} (hN : tN N) (q1 : Int32) (q2 : Int32) {M0 : Nat → Int32} {O : Nat × Nat} {Q : Int32 → (Nat → Int32) → Nat × Nat → Prop} (hI : tI N M0 O) (hQ : ∀ (r : Int32) (M' : Nat → Int32) (O' : Nat × Nat), tI N M' O' → tK M0 M' → Q r M' O') : wT_X2_get N q1 q2 M0 O Q := by
  obtain ⟨_, _, _, _, _, _, _, _, _, _, _, _, _⟩ := (show tN N from hN)
  obtain ⟨⟨_, _⟩, ⟨_, _⟩, _, ⟨_, _⟩, ⟨_, _⟩, ⟨_, _⟩, hO7⟩ := (show tI N M0 O from hI)
  have hk : tK M0 M0 := tK_rf M0
  unfold wT_X2_get
  have := b_le7 hO7
  refine ⟨fun hc1 => ?_, fun hc1 => ?_⟩
  · have := ti_rng q1
    have : (1 : Int32).toInt = 1 := by decide
    obtain ⟨_, _, _, _⟩ := ti_sub q1 1
    have : (7 : Int32).toInt = 7 := by decide
    obtain ⟨_, _, _, _⟩ := ti_mulc (q1 - 1) 7 7 (by decide)
    have := ti_rng q2
    obtain ⟨_, _, _, _⟩ := ti_add ((q1 - 1) * 7) q2
    have : (0 : Int32).toInt = 0 := by decide
    have hc1 := Int32.lt_iff_toInt_lt.mp hc1
    exact hQ _ _ _ (show tI N M0 O from hI) (show tK M0 M0 from hk)
  · have := ti_rng q1
    have : (1 : Int32).toInt = 1 := by decide
    obtain ⟨_, _, _, _⟩ := ti_sub q1 1
    have : (7 : Int32).toInt = 7 := by decide
    obtain ⟨_, _, _, _⟩ := ti_mulc (q1 - 1) 7 7 (by decide)
    have := ti_rng q2
    obtain ⟨_, _, _, _⟩ := ti_add ((q1 - 1) * 7) q2
    have : (0 : Int32).toInt = 0 := by decide
    have hc1 := ti_nlt hc1
    refine ⟨fun hc2 => ?_, fun hc2 => ?_⟩
    · have := ti_rng (M0 22)
      obtain ⟨_, _, _, _⟩ := ti_mulc (M0 22) 7 7 (by decide)
      have hc2 := Int32.le_iff_toInt_le.mp hc2
      exact hQ _ _ _ (show tI N M0 O from hI) (show tK M0 M0 from hk)
    · have := ti_rng (M0 22)
      obtain ⟨_, _, _, _⟩ := ti_mulc (M0 22) 7 7 (by decide)
      have hc2 := ti_nle hc2
      refine ⟨vp_in_iff.mpr (by omega), fun z3 => ?_⟩
      exact hQ _ _ _ (show tI N M0 O from hI) (show tK M0 M0 from hk)
set_option maxHeartbeats 2000000 in
theorem spT_X2_kindOf {N : Nat → Nat} (hN : tN N) (q1 : Int32) {M0 : Nat → Int32} {O : Nat × Nat} {Q : Int32 → (Nat → Int32) → Nat × Nat → Prop} (hI : tI N M0 O) (hQ : ∀ (r : Int32) (M' : Nat → Int32) (O' : Nat × Nat), tI N M' O' → tK M0 M' → Q r M' O') : wT_X2_kindOf N q1 M0 O Q := by
  obtain ⟨_, _, _, _, _, _, _, _, _, _, _, _, _⟩ := (show tN N from hN)
  obtain ⟨⟨_, _⟩, ⟨_, _⟩, _, ⟨_, _⟩, ⟨_, _⟩, ⟨_, _⟩, hO7⟩ := (show tI N M0 O from hI)
  have hk : tK M0 M0 := tK_rf M0
  unfold wT_X2_kindOf
  have := b_le7 hO7
  have := ti_rng q1
  have : (0 : Int32).toInt = 0 := by decide
  refine spT_X2_get hN _ _ (show tI N M0 O from hI) (fun r1 M2 O2 hI hk1 => ?_)
  have hk := tK_tr (show tK M0 M0 from hk) hk1
  obtain ⟨⟨_, _⟩, ⟨_, _⟩, _, ⟨_, _⟩, ⟨_, _⟩, ⟨_, _⟩, hO7⟩ := (show tI N M2 O2 from hI)
  have := b_le7 hO7
  exact hQ _ _ _ (show tI N M2 O2 from hI) (show tK M0 M2 from hk)
set_option maxHeartbeats 2000000 in
theorem spT_X2_weightOf {N : Nat → Nat} (hN : tN N) (q1 : Int32) {M0 : Nat → Int32} {O : Nat × Nat} {Q : Int32 → (Nat → Int32) → Nat × Nat → Prop} (hI : tI N M0 O) (hQ : ∀ (r : Int32) (M' : Nat → Int32) (O' : Nat × Nat), tI N M' O' → tK M0 M' → Q r M' O') : wT_X2_weightOf N q1 M0 O Q := by
  obtain ⟨_, _, _, _, _, _, _, _, _, _, _, _, _⟩ := (show tN N from hN)
  obtain ⟨⟨_, _⟩, ⟨_, _⟩, _, ⟨_, _⟩, ⟨_, _⟩, ⟨_, _⟩, hO7⟩ := (show tI N M0 O from hI)
  have hk : tK M0 M0 := tK_rf M0
  unfold wT_X2_weightOf
  have := b_le7 hO7
  have := ti_rng q1
  have : (1 : Int32).toInt = 1 := by decide
  refine spT_X2_get hN _ _ (show tI N M0 O from hI) (fun r1 M2 O2 hI hk1 => ?_)
  have hk := tK_tr (show tK M0 M0 from hk) hk1
  obtain ⟨⟨_, _⟩, ⟨_, _⟩, _, ⟨_, _⟩, ⟨_, _⟩, ⟨_, _⟩, hO7⟩ := (show tI N M2 O2 from hI)
  have := b_le7 hO7
  have : (0 : Int32).toInt = 0 := by decide
  refine spT_X2_get hN _ _ (show tI N M2 O2 from hI) (fun r3 M4 O4 hI hk1 => ?_)
  have hk := tK_tr (show tK M0 M2 from hk) hk1
  obtain ⟨⟨_, _⟩, ⟨_, _⟩, _, ⟨_, _⟩, ⟨_, _⟩, ⟨_, _⟩, hO7⟩ := (show tI N M4 O4 from hI)
  have := b_le7 hO7
  refine ⟨fun hk => ?_, fun hk => ?_, fun hk => ?_, fun hk => ?_, fun hk => ?_, fun hk => ?_, fun hk0 hk1 hk2 hk3 hk4 hk5 => ?_⟩
  · have := ti_rng r3
    have hk9 := congrArg Int32.toInt hk
    exact hQ _ _ _ (show tI N M4 O4 from hI) (show tK M0 M4 from hk)
  · have := ti_rng r3
    have : (2 : Int32).toInt = 2 := by decide
    have hk9 := congrArg Int32.toInt hk
    refine spT_X2_get hN _ _ (show tI N M4 O4 from hI) (fun r5 M6 O6 hI hk1 => ?_)
    have hk := tK_tr (show tK M0 M4 from hk) hk1
    obtain ⟨⟨_, _⟩, ⟨_, _⟩, _, ⟨_, _⟩, ⟨_, _⟩, ⟨_, _⟩, hO7⟩ := (show tI N M6 O6 from hI)
    have := b_le7 hO7
    exact hQ _ _ _ (show tI N M6 O6 from hI) (show tK M0 M6 from hk)
  · have := ti_rng r3
    have : (3 : Int32).toInt = 3 := by decide
    have hk9 := congrArg Int32.toInt hk
    exact hQ _ _ _ (show tI N M4 O4 from hI) (show tK M0 M4 from hk)
  · have := ti_rng r3
    have : (4 : Int32).toInt = 4 := by decide
    have hk9 := congrArg Int32.toInt hk
    exact hQ _ _ _ (show tI N M4 O4 from hI) (show tK M0 M4 from hk)
  · have := ti_rng r3
    have : (5 : Int32).toInt = 5 := by decide
    have hk9 := congrArg Int32.toInt hk
    exact hQ _ _ _ (show tI N M4 O4 from hI) (show tK M0 M4 from hk)
  · have := ti_rng r3
    have : (6 : Int32).toInt = 6 := by decide
    have hk9 := congrArg Int32.toInt hk
    refine spT_X2_get hN _ _ (show tI N M4 O4 from hI) (fun r7 M8 O8 hI hk1 => ?_)
    have hk := tK_tr (show tK M0 M4 from hk) hk1
    obtain ⟨⟨_, _⟩, ⟨_, _⟩, _, ⟨_, _⟩, ⟨_, _⟩, ⟨_, _⟩, hO7⟩ := (show tI N M8 O8 from hI)
    have := b_le7 hO7
    have := ti_rng r7
    refine spT_X2_get hN _ _ (show tI N M8 O8 from hI) (fun r9 M10 O10 hI hk1 => ?_)
    have hk := tK_tr (show tK M0 M8 from hk) hk1
    obtain ⟨⟨_, _⟩, ⟨_, _⟩, _, ⟨_, _⟩, ⟨_, _⟩, ⟨_, _⟩, hO7⟩ := (show tI N M10 O10 from hI)
    have := b_le7 hO7
    exact hQ _ _ _ (show tI N M10 O10 from hI) (show tK M0 M10 from hk)
  · have := ti_rng r3
    exact hQ _ _ _ (show tI N M4 O4 from hI) (show tK M0 M4 from hk)
set_option maxHeartbeats 2000000 in
theorem spT_X2_chainLength_28 {N : Nat → Nat} (hN : tN N) {Q : Int32 → (Nat → Int32) → Nat × Nat → Prop} {M0 : Nat → Int32} {q1 : Int32} (hQ : ∀ (r : Int32) (M' : Nat → Int32) (O' : Nat × Nat), tI N M' O' → tK M0 M' → Q r M' O') (a2 : Int32) (M : Nat → Int32) (O : Nat × Nat) (hI : tI N M O) (hk : tK M0 M) : wT_X2_chainLength_28 N Q a2 M O := by
  obtain ⟨_, _, _, _, _, _, _, _, _, _, _, _, _⟩ := (show tN N from hN)
  obtain ⟨⟨_, _⟩, ⟨_, _⟩, _, ⟨_, _⟩, ⟨_, _⟩, ⟨_, _⟩, hO7⟩ := (show tI N M O from hI)
  unfold wT_X2_chainLength_28
  have := b_le7 hO7
  exact hQ _ _ _ (show tI N M O from hI) (show tK M0 M from hk)
set_option maxHeartbeats 2000000 in
theorem spT_X2_chainLength_4 {N : Nat → Nat} (hN : tN N) {Q : Int32 → (Nat → Int32) → Nat × Nat → Prop} {M0 : Nat → Int32} {q1 : Int32} (hQ : ∀ (r : Int32) (M' : Nat → Int32) (O' : Nat × Nat), tI N M' O' → tK M0 M' → Q r M' O') : ∀ (n4 : Nat) (a2 : Int32) (a3 : Int32) (M : Nat → Int32) (O : Nat × Nat), tI N M O → tK M0 M → (0 ≤ a2.toInt ∧ a2.toInt ≤ 50) → (50 - a2.toInt) + 1 ≤ (n4 : Int) → wT_X2_chainLength_4 N Q n4 a2 a3 M O := by
  obtain ⟨_, _, _, _, _, _, _, _, _, _, _, _, _⟩ := (show tN N from hN)
  intro n4
  induction n4 with
  | zero => intro a2 a3 M O hI hk hv hn; exact absurd hn (by omega)
  | succ n4 ih =>
    intro a2 a3 M O hI hk hv hn
    obtain ⟨⟨_, _⟩, ⟨_, _⟩, _, ⟨_, _⟩, ⟨_, _⟩, ⟨_, _⟩, hO7⟩ := (show tI N M O from hI)
    dsimp only [wT_X2_chainLength_4]
    have := b_le7 hO7
    refine ⟨fun hc1 => ?_, fun hc1 => ?_⟩
    · have : (50 : Int32).toInt = 50 := by decide
      have := ti_rng a2
      have hc1 := Int32.le_iff_toInt_le.mp hc1
      exact spT_X2_chainLength_28 hN hQ _ _ _ (show tI N M O from hI) (show tK M0 M from hk)
    · have : (50 : Int32).toInt = 50 := by decide
      have := ti_rng a2
      have hc1 := ti_nle hc1
      refine ⟨fun hc2 => ?_, fun hc2 => ?_⟩
      · have := ti_rng a3
        have : (0 : Int32).toInt = 0 := by decide
        have hc29 := congrArg Int32.toInt hc2
        exact spT_X2_chainLength_28 hN hQ _ _ _ (show tI N M O from hI) (show tK M0 M from hk)
      · have := ti_rng a3
        have : (0 : Int32).toInt = 0 := by decide
        have hc29 := ti_ne hc2
        have : (6 : Int32).toInt = 6 := by decide
        refine spT_X2_get hN _ _ (show tI N M O from hI) (fun r3 M4 O4 hI hk1 => ?_)
        have hk := tK_tr (show tK M0 M from hk) hk1
        obtain ⟨⟨_, _⟩, ⟨_, _⟩, _, ⟨_, _⟩, ⟨_, _⟩, ⟨_, _⟩, hO7⟩ := (show tI N M4 O4 from hI)
        have := b_le7 hO7
        have : (1 : Int32).toInt = 1 := by decide
        obtain ⟨_, _, _, _⟩ := ti_add a2 1
        have := ti_rng r3
        exact ih _ _ _ _ (show tI N M4 O4 from hI) (show tK M0 M4 from hk) (show 0 ≤ (a2 + 1).toInt ∧ (a2 + 1).toInt ≤ 50 from by omega) (show (50 - (a2 + 1).toInt) + 1 ≤ _ from by omega)
set_option maxHeartbeats 2000000 in
theorem spT_X2_chainLength {N : Nat → Nat} (hN : tN N) (q1 : Int32) {M0 : Nat → Int32} {O : Nat × Nat} {Q : Int32 → (Nat → Int32) → Nat × Nat → Prop} (hI : tI N M0 O) (hQ : ∀ (r : Int32) (M' : Nat → Int32) (O' : Nat × Nat), tI N M' O' → tK M0 M' → Q r M' O') : wT_X2_chainLength N q1 M0 O Q := by
  obtain ⟨_, _, _, _, _, _, _, _, _, _, _, _, _⟩ := (show tN N from hN)
  obtain ⟨⟨_, _⟩, ⟨_, _⟩, _, ⟨_, _⟩, ⟨_, _⟩, ⟨_, _⟩, hO7⟩ := (show tI N M0 O from hI)
  have hk : tK M0 M0 := tK_rf M0
  unfold wT_X2_chainLength
  have := b_le7 hO7
  have : (0 : Int32).toInt = 0 := by decide
  have := ti_rng q1
  exact ⟨((50 - 0.toInt) + 1).toNat, spT_X2_chainLength_4 hN hQ _ _ _ _ _ (show tI N M0 O from hI) (show tK M0 M0 from hk) (show 0 ≤ 0.toInt ∧ 0.toInt ≤ 50 from by omega) (show (50 - 0.toInt) + 1 ≤ _ from by omega)⟩
set_option maxHeartbeats 2000000 in
theorem spT_X2_tell {N : Nat → Nat} (hN : tN N) (q1 : Int32) (q2 : Int32) {M0 : Nat → Int32} {O : Nat × Nat} {Q : Int32 → (Nat → Int32) → Nat × Nat → Prop} (hI : tI N M0 O) (hQ : ∀ (r : Int32) (M' : Nat → Int32) (O' : Nat × Nat), tI N M' O' → tK M0 M' → Q r M' O') : wT_X2_tell N q1 q2 M0 O Q := by
  obtain ⟨_, _, _, _, _, _, _, _, _, _, _, _, _⟩ := (show tN N from hN)
  obtain ⟨⟨_, _⟩, ⟨_, _⟩, _, ⟨_, _⟩, ⟨_, _⟩, ⟨_, _⟩, hO7⟩ := (show tI N M0 O from hI)
  have hk : tK M0 M0 := tK_rf M0
  unfold wT_X2_tell
  have := b_le7 hO7
  refine ⟨fun hk => ?_, fun hk => ?_, fun hk0 hk1 => ?_⟩
  · have := ti_rng q2
    have : (6 : Int32).toInt = 6 := by decide
    have hk9 := congrArg Int32.toInt hk
    have := ti_rng q1
    refine spT_X2_weightOf hN _ (show tI N M0 O from hI) (fun r1 M2 O2 hI hk1 => ?_)
    have hk := tK_tr (show tK M0 M0 from hk) hk1
    obtain ⟨⟨_, _⟩, ⟨_, _⟩, _, ⟨_, _⟩, ⟨_, _⟩, ⟨_, _⟩, hO7⟩ := (show tI N M2 O2 from hI)
    have := b_le7 hO7
    exact hQ _ _ _ (show tI N M2 O2 from hI) (show tK M0 M2 from hk)
  · have := ti_rng q2
    have : (7 : Int32).toInt = 7 := by decide
    have hk9 := congrArg Int32.toInt hk
    have := ti_rng q1
    refine spT_X2_chainLength hN _ (show tI N M0 O from hI) (fun r3 M4 O4 hI hk1 => ?_)
    have hk := tK_tr (show tK M0 M0 from hk) hk1
    obtain ⟨⟨_, _⟩, ⟨_, _⟩, _, ⟨_, _⟩, ⟨_, _⟩, ⟨_, _⟩, hO7⟩ := (show tI N M4 O4 from hI)
    have := b_le7 hO7
    exact hQ _ _ _ (show tI N M4 O4 from hI) (show tK M0 M4 from hk)
  · have := ti_rng q2
    refine ⟨fun hc5 => ?_, fun hc5 => ?_⟩
    · have : (0 : Int32).toInt = 0 := by decide
      have hc5 := Int32.lt_iff_toInt_lt.mp hc5
      exact hQ _ _ _ (show tI N M0 O from hI) (show tK M0 M0 from hk)
    · have : (0 : Int32).toInt = 0 := by decide
      have hc5 := ti_nlt hc5
      refine ⟨fun hc6 => ?_, fun hc6 => ?_⟩
      · have : (5 : Int32).toInt = 5 := by decide
        have hc6 := Int32.lt_iff_toInt_lt.mp hc6
        exact hQ _ _ _ (show tI N M0 O from hI) (show tK M0 M0 from hk)
      · have : (5 : Int32).toInt = 5 := by decide
        have hc6 := ti_nlt hc6
        have := ti_rng q1
        refine spT_X2_get hN _ _ (show tI N M0 O from hI) (fun r7 M8 O8 hI hk1 => ?_)
        have hk := tK_tr (show tK M0 M0 from hk) hk1
        obtain ⟨⟨_, _⟩, ⟨_, _⟩, _, ⟨_, _⟩, ⟨_, _⟩, ⟨_, _⟩, hO7⟩ := (show tI N M8 O8 from hI)
        have := b_le7 hO7
        exact hQ _ _ _ (show tI N M8 O8 from hI) (show tK M0 M8 from hk)
set_option maxHeartbeats 2000000 in
theorem spT_X8_tellOf_45 {N : Nat → Nat} (hN : tN N) {Q : (Nat → Int32) → Nat × Nat → Prop} {M0 : Nat → Int32} {q1 : Int32} {q2 : Int32} (hQ : ∀ (M' : Nat → Int32) (O' : Nat × Nat), tI N M' O' → tK M0 M' → Q M' O') (a2 : Int32) (a3 : Int32) (M : Nat → Int32) (O : Nat × Nat) (hI : tI N M O) (hk : tK M0 M) : wT_X8_tellOf_45 N Q a2 a3 M O := by
  obtain ⟨_, _, _, _, _, _, _, _, _, _, _, _, _⟩ := (show tN N from hN)
  obtain ⟨⟨_, _⟩, ⟨_, _⟩, _, ⟨_, _⟩, ⟨_, _⟩, ⟨_, _⟩, hO7⟩ := (show tI N M O from hI)
  unfold wT_X8_tellOf_45
  have := b_le7 hO7
  have := ti_rng a3
  have := ti_rng a2
  refine spT_X2_tell hN _ _ (show tI N M O from hI) (fun r5 M6 O6 hI hk1 => ?_)
  have hk := tK_tr (show tK M0 M from hk) hk1
  obtain ⟨⟨_, _⟩, ⟨_, _⟩, _, ⟨_, _⟩, ⟨_, _⟩, ⟨_, _⟩, hO7⟩ := (show tI N M6 O6 from hI)
  have := b_le7 hO7
  have := ti_rng r5
  refine spT_X8_push hN _ (show tI N M6 O6 from hI) (fun M7 O7 hI hk1 => ?_)
  have hk := tK_tr (show tK M0 M6 from hk) hk1
  obtain ⟨⟨_, _⟩, ⟨_, _⟩, _, ⟨_, _⟩, ⟨_, _⟩, ⟨_, _⟩, hO7⟩ := (show tI N M7 O7 from hI)
  have := b_le7 hO7
  exact hQ _ _ (show tI N M7 O7 from hI) (show tK M0 M7 from hk)
set_option maxHeartbeats 2000000 in
theorem spT_X8_tellOf {N : Nat → Nat} (hN : tN N) (q1 : Int32) (q2 : Int32) {M0 : Nat → Int32} {O : Nat × Nat} {Q : (Nat → Int32) → Nat × Nat → Prop} (hI : tI N M0 O) (hQ : ∀ (M' : Nat → Int32) (O' : Nat × Nat), tI N M' O' → tK M0 M' → Q M' O') : wT_X8_tellOf N q1 q2 M0 O Q := by
  obtain ⟨_, _, _, _, _, _, _, _, _, _, _, _, _⟩ := (show tN N from hN)
  obtain ⟨⟨_, _⟩, ⟨_, _⟩, _, ⟨_, _⟩, ⟨_, _⟩, ⟨_, _⟩, hO7⟩ := (show tI N M0 O from hI)
  have hk : tK M0 M0 := tK_rf M0
  unfold wT_X8_tellOf
  have := b_le7 hO7
  have := ti_rng q1
  refine spT_X8_objectAt hN _ (show tI N M0 O from hI) (fun r1 M2 O2 hI hk1 => ?_)
  have hk := tK_tr (show tK M0 M0 from hk) hk1
  obtain ⟨⟨_, _⟩, ⟨_, _⟩, _, ⟨_, _⟩, ⟨_, _⟩, ⟨_, _⟩, hO7⟩ := (show tI N M2 O2 from hI)
  have := b_le7 hO7
  refine ⟨fun hc3 => ?_, fun hc3 => ?_⟩
  · have := ti_rng r1
    have : (0 : Int32).toInt = 0 := by decide
    have hc39 := ti_ne hc3
    refine ⟨fun hc4 => ?_, fun hc4 => ?_⟩
    · have := ti_rng q2
      have : (2 : Int32).toInt = 2 := by decide
      have hc49 := ti_ne hc4
      exact spT_X8_tellOf_45 hN hQ _ _ _ _ (show tI N M2 O2 from hI) (show tK M0 M2 from hk)
    · have := ti_rng q2
      have : (2 : Int32).toInt = 2 := by decide
      have hc49 := congrArg Int32.toInt hc4
      refine spT_X2_kindOf hN _ (show tI N M2 O2 from hI) (fun r8 M9 O9 hI hk1 => ?_)
      have hk := tK_tr (show tK M0 M2 from hk) hk1
      obtain ⟨⟨_, _⟩, ⟨_, _⟩, _, ⟨_, _⟩, ⟨_, _⟩, ⟨_, _⟩, hO7⟩ := (show tI N M9 O9 from hI)
      have := b_le7 hO7
      refine ⟨fun hc10 => ?_, fun hc10 => ?_⟩
      · have := ti_rng r8
        have hc109 := congrArg Int32.toInt hc10
        exact spT_X8_tellOf_45 hN hQ _ _ _ _ (show tI N M9 O9 from hI) (show tK M0 M9 from hk)
      · have := ti_rng r8
        have hc109 := ti_ne hc10
        have : (1 : Int32).toInt = 1 := by decide
        refine spT_X8_raiseNew hN _ _ (show tI N M9 O9 from hI) (fun M11 O11 hI hk1 => ?_)
        have hk := tK_tr (show tK M0 M9 from hk) hk1
        obtain ⟨⟨_, _⟩, ⟨_, _⟩, _, ⟨_, _⟩, ⟨_, _⟩, ⟨_, _⟩, hO7⟩ := (show tI N M11 O11 from hI)
        have := b_le7 hO7
        exact hQ _ _ (show tI N M11 O11 from hI) (show tK M0 M11 from hk)
  · have := ti_rng r1
    have : (0 : Int32).toInt = 0 := by decide
    have hc39 := congrArg Int32.toInt hc3
    have : (3 : Int32).toInt = 3 := by decide
    have : (1 : Int32).toInt = 1 := by decide
    refine spT_X8_raiseNew hN _ _ (show tI N M2 O2 from hI) (fun M12 O12 hI hk1 => ?_)
    have hk := tK_tr (show tK M0 M2 from hk) hk1
    obtain ⟨⟨_, _⟩, ⟨_, _⟩, _, ⟨_, _⟩, ⟨_, _⟩, ⟨_, _⟩, hO7⟩ := (show tI N M12 O12 from hI)
    have := b_le7 hO7
    exact hQ _ _ (show tI N M12 O12 from hI) (show tK M0 M12 from hk)
set_option maxHeartbeats 2000000 in
theorem spT_X3_is_4 {N : Nat → Nat} (hN : tN N) {Q : Int32 → (Nat → Int32) → Nat × Nat → Prop} {M0 : Nat → Int32} {q0 : Int32} {q1 : Int32} (hQ : ∀ (r : Int32) (M' : Nat → Int32) (O' : Nat × Nat), tI N M' O' → tK M0 M' → Q r M' O') : ∀ (n4 : Nat) (a1 : Int32) (a2 : Int32) (a3 : Int32) (M : Nat → Int32) (O : Nat × Nat), tI N M O → tK M0 M → (0 ≤ a3.toInt ∧ a3.toInt ≤ 7) → (7 - a3.toInt) + 1 ≤ (n4 : Int) → wT_X3_is_4 N Q n4 a1 a2 a3 M O := by
  obtain ⟨_, _, _, _, _, _, _, _, _, _, _, _, _⟩ := (show tN N from hN)
  intro n4
  induction n4 with
  | zero => intro a1 a2 a3 M O hI hk hv hn; exact absurd hn (by omega)
  | succ n4 ih =>
    intro a1 a2 a3 M O hI hk hv hn
    obtain ⟨⟨_, _⟩, ⟨_, _⟩, _, ⟨_, _⟩, ⟨_, _⟩, ⟨_, _⟩, hO7⟩ := (show tI N M O from hI)
    dsimp only [wT_X3_is_4]
    have := b_le7 hO7
    refine ⟨fun hc1 => ?_, fun hc1 => ?_⟩
    · have : (7 : Int32).toInt = 7 := by decide
      have := ti_rng a3
      have hc1 := Int32.le_iff_toInt_le.mp hc1
      exact hQ _ _ _ (show tI N M O from hI) (show tK M0 M from hk)
    · have : (7 : Int32).toInt = 7 := by decide
      have := ti_rng a3
      have hc1 := ti_nle hc1
      refine ⟨fun hc2 => ?_, fun hc2 => ?_⟩
      · have := ti_rng a2
        have : ((-1) : Int32).toInt = -1 := by decide
        have hc29 := congrArg Int32.toInt hc2
        exact hQ _ _ _ (show tI N M O from hI) (show tK M0 M from hk)
      · have := ti_rng a2
        have : ((-1) : Int32).toInt = -1 := by decide
        have hc29 := ti_ne hc2
        refine ⟨fun hc3 => ?_, fun hc3 => ?_⟩
        · have := ti_rng a1
          have hc39 := ti_ne hc3
          refine spT_X3_oneOf hN _ (show tI N M O from hI) (fun r4 M5 O5 hI hk1 => ?_)
          have hk := tK_tr (show tK M0 M from hk) hk1
          obtain ⟨⟨_, _⟩, ⟨_, _⟩, _, ⟨_, _⟩, ⟨_, _⟩, ⟨_, _⟩, hO7⟩ := (show tI N M5 O5 from hI)
          have := b_le7 hO7
          have := ti_rng r4
          have : (1 : Int32).toInt = 1 := by decide
          obtain ⟨_, _, _, _⟩ := ti_add a3 1
          exact ih _ _ _ _ _ (show tI N M5 O5 from hI) (show tK M0 M5 from hk) (show 0 ≤ (a3 + 1).toInt ∧ (a3 + 1).toInt ≤ 7 from by omega) (show (7 - (a3 + 1).toInt) + 1 ≤ _ from by omega)
        · have := ti_rng a1
          have hc39 := congrArg Int32.toInt hc3
          exact hQ _ _ _ (show tI N M O from hI) (show tK M0 M from hk)
set_option maxHeartbeats 2000000 in
theorem spT_X3_is {N : Nat → Nat} (hN : tN N) (q0 : Int32) (q1 : Int32) {M0 : Nat → Int32} {O : Nat × Nat} {Q : Int32 → (Nat → Int32) → Nat × Nat → Prop} (hI : tI N M0 O) (hQ : ∀ (r : Int32) (M' : Nat → Int32) (O' : Nat × Nat), tI N M' O' → tK M0 M' → Q r M' O') : wT_X3_is N q0 q1 M0 O Q := by
  obtain ⟨_, _, _, _, _, _, _, _, _, _, _, _, _⟩ := (show tN N from hN)
  obtain ⟨⟨_, _⟩, ⟨_, _⟩, _, ⟨_, _⟩, ⟨_, _⟩, ⟨_, _⟩, hO7⟩ := (show tI N M0 O from hI)
  have hk : tK M0 M0 := tK_rf M0
  unfold wT_X3_is
  have := b_le7 hO7
  have := ti_rng q1
  have := ti_rng q0
  have : (0 : Int32).toInt = 0 := by decide
  exact ⟨((7 - 0.toInt) + 1).toNat, spT_X3_is_4 hN hQ _ _ _ _ _ _ (show tI N M0 O from hI) (show tK M0 M0 from hk) (show 0 ≤ 0.toInt ∧ 0.toInt ≤ 7 from by omega) (show (7 - 0.toInt) + 1 ≤ _ from by omega)⟩
set_option maxHeartbeats 2000000 in
theorem spT_X8_pushIs_25 {N : Nat → Nat} (hN : tN N) {Q : (Nat → Int32) → Nat × Nat → Prop} {M0 : Nat → Int32} {q1 : Int32} {q2 : Int32} (hQ : ∀ (M' : Nat → Int32) (O' : Nat × Nat), tI N M' O' → tK M0 M' → Q M' O') (t1 : Int32) (M : Nat → Int32) (O : Nat × Nat) (hI : tI N M O) (hk : tK M0 M) : wT_X8_pushIs_25 N Q t1 M O := by
  obtain ⟨_, _, _, _, _, _, _, _, _, _, _, _, _⟩ := (show tN N from hN)
  obtain ⟨⟨_, _⟩, ⟨_, _⟩, _, ⟨_, _⟩, ⟨_, _⟩, ⟨_, _⟩, hO7⟩ := (show tI N M O from hI)
  unfold wT_X8_pushIs_25
  have := b_le7 hO7
  have := ti_rng t1
  refine spT_X8_push hN _ (show tI N M O from hI) (fun M2 O2 hI hk1 => ?_)
  have hk := tK_tr (show tK M0 M from hk) hk1
  obtain ⟨⟨_, _⟩, ⟨_, _⟩, _, ⟨_, _⟩, ⟨_, _⟩, ⟨_, _⟩, hO7⟩ := (show tI N M2 O2 from hI)
  have := b_le7 hO7
  exact hQ _ _ (show tI N M2 O2 from hI) (show tK M0 M2 from hk)
set_option maxHeartbeats 2000000 in
theorem spT_X8_pushIs_24 {N : Nat → Nat} (hN : tN N) {Q : (Nat → Int32) → Nat × Nat → Prop} {M0 : Nat → Int32} {q1 : Int32} {q2 : Int32} (hQ : ∀ (M' : Nat → Int32) (O' : Nat × Nat), tI N M' O' → tK M0 M' → Q M' O') (M : Nat → Int32) (O : Nat × Nat) (hI : tI N M O) (hk : tK M0 M) : wT_X8_pushIs_24 N Q M O := by
  obtain ⟨_, _, _, _, _, _, _, _, _, _, _, _, _⟩ := (show tN N from hN)
  obtain ⟨⟨_, _⟩, ⟨_, _⟩, _, ⟨_, _⟩, ⟨_, _⟩, ⟨_, _⟩, hO7⟩ := (show tI N M O from hI)
  unfold wT_X8_pushIs_24
  have := b_le7 hO7
  have : (0 : Int32).toInt = 0 := by decide
  exact spT_X8_pushIs_25 hN hQ _ _ _ (show tI N M O from hI) (show tK M0 M from hk)
set_option maxHeartbeats 2000000 in
theorem spT_X8_pushIs {N : Nat → Nat} (hN : tN N) (q1 : Int32) (q2 : Int32) {M0 : Nat → Int32} {O : Nat × Nat} {Q : (Nat → Int32) → Nat × Nat → Prop} (hI : tI N M0 O) (hQ : ∀ (M' : Nat → Int32) (O' : Nat × Nat), tI N M' O' → tK M0 M' → Q M' O') : wT_X8_pushIs N q1 q2 M0 O Q := by
  obtain ⟨_, _, _, _, _, _, _, _, _, _, _, _, _⟩ := (show tN N from hN)
  obtain ⟨⟨_, _⟩, ⟨_, _⟩, _, ⟨_, _⟩, ⟨_, _⟩, ⟨_, _⟩, hO7⟩ := (show tI N M0 O from hI)
  have hk : tK M0 M0 := tK_rf M0
  unfold wT_X8_pushIs
  have := b_le7 hO7
  refine ⟨fun hc1 => ?_, fun hc1 => ?_⟩
  · have := ti_rng q1
    have : (0 : Int32).toInt = 0 := by decide
    have hc19 := congrArg Int32.toInt hc1
    exact spT_X8_pushIs_24 hN hQ _ _ (show tI N M0 O from hI) (show tK M0 M0 from hk)
  · have := ti_rng q1
    have : (0 : Int32).toInt = 0 := by decide
    have hc19 := ti_ne hc1
    refine spT_X2_kindOf hN _ (show tI N M0 O from hI) (fun r3 M4 O4 hI hk1 => ?_)
    have hk := tK_tr (show tK M0 M0 from hk) hk1
    obtain ⟨⟨_, _⟩, ⟨_, _⟩, _, ⟨_, _⟩, ⟨_, _⟩, ⟨_, _⟩, hO7⟩ := (show tI N M4 O4 from hI)
    have := b_le7 hO7
    have := ti_rng r3
    have := ti_rng q2
    refine spT_X3_is hN _ _ (show tI N M4 O4 from hI) (fun r5 M6 O6 hI hk1 => ?_)
    have hk := tK_tr (show tK M0 M4 from hk) hk1
    obtain ⟨⟨_, _⟩, ⟨_, _⟩, _, ⟨_, _⟩, ⟨_, _⟩, ⟨_, _⟩, hO7⟩ := (show tI N M6 O6 from hI)
    have := b_le7 hO7
    refine ⟨fun hc7 => ?_, fun hc7 => ?_⟩
    · have := ti_rng r5
      have hc79 := congrArg Int32.toInt hc7
      exact spT_X8_pushIs_24 hN hQ _ _ (show tI N M6 O6 from hI) (show tK M0 M6 from hk)
    · have := ti_rng r5
      have hc79 := ti_ne hc7
      have : (1 : Int32).toInt = 1 := by decide
      exact spT_X8_pushIs_25 hN hQ _ _ _ (show tI N M6 O6 from hI) (show tK M0 M6 from hk)
set_option maxHeartbeats 2000000 in
theorem spT_X2_causeOf {N : Nat → Nat} (hN : tN N) (q1 : Int32) {M0 : Nat → Int32} {O : Nat × Nat} {Q : Int32 → (Nat → Int32) → Nat × Nat → Prop} (hI : tI N M0 O) (hQ : ∀ (r : Int32) (M' : Nat → Int32) (O' : Nat × Nat), tI N M' O' → tK M0 M' → Q r M' O') : wT_X2_causeOf N q1 M0 O Q := by
  obtain ⟨_, _, _, _, _, _, _, _, _, _, _, _, _⟩ := (show tN N from hN)
  obtain ⟨⟨_, _⟩, ⟨_, _⟩, _, ⟨_, _⟩, ⟨_, _⟩, ⟨_, _⟩, hO7⟩ := (show tI N M0 O from hI)
  have hk : tK M0 M0 := tK_rf M0
  unfold wT_X2_causeOf
  have := b_le7 hO7
  have := ti_rng q1
  have : (6 : Int32).toInt = 6 := by decide
  refine spT_X2_get hN _ _ (show tI N M0 O from hI) (fun r1 M2 O2 hI hk1 => ?_)
  have hk := tK_tr (show tK M0 M0 from hk) hk1
  obtain ⟨⟨_, _⟩, ⟨_, _⟩, _, ⟨_, _⟩, ⟨_, _⟩, ⟨_, _⟩, hO7⟩ := (show tI N M2 O2 from hI)
  have := b_le7 hO7
  exact hQ _ _ _ (show tI N M2 O2 from hI) (show tK M0 M2 from hk)
set_option maxHeartbeats 2000000 in
theorem spT_X8_holdCause {N : Nat → Nat} (hN : tN N) (q1 : Int32) (q2 : Int32) {M0 : Nat → Int32} {O : Nat × Nat} {Q : (Nat → Int32) → Nat × Nat → Prop} (hI : tI N M0 O) (hQ : ∀ (M' : Nat → Int32) (O' : Nat × Nat), tI N M' O' → tK M0 M' → Q M' O') : wT_X8_holdCause N q1 q2 M0 O Q := by
  obtain ⟨_, _, _, _, _, _, _, _, _, _, _, _, _⟩ := (show tN N from hN)
  obtain ⟨⟨_, _⟩, ⟨_, _⟩, _, ⟨_, _⟩, ⟨_, _⟩, ⟨_, _⟩, hO7⟩ := (show tI N M0 O from hI)
  have hk : tK M0 M0 := tK_rf M0
  unfold wT_X8_holdCause
  have := b_le7 hO7
  refine ⟨fun hc1 => ?_, fun hc1 => ?_⟩
  · have := ti_rng q2
    have : (0 : Int32).toInt = 0 := by decide
    have hc19 := ti_ne hc1
    refine spT_X2_causeOf hN _ (show tI N M0 O from hI) (fun r2 M3 O3 hI hk1 => ?_)
    have hk := tK_tr (show tK M0 M0 from hk) hk1
    obtain ⟨⟨_, _⟩, ⟨_, _⟩, _, ⟨_, _⟩, ⟨_, _⟩, ⟨_, _⟩, hO7⟩ := (show tI N M3 O3 from hI)
    have := b_le7 hO7
    have := ti_rng q1
    have := ti_rng r2
    refine spT_X8_setObject hN _ _ (show tI N M3 O3 from hI) (fun M4 O4 hI hk1 => ?_)
    have hk := tK_tr (show tK M0 M3 from hk) hk1
    obtain ⟨⟨_, _⟩, ⟨_, _⟩, _, ⟨_, _⟩, ⟨_, _⟩, ⟨_, _⟩, hO7⟩ := (show tI N M4 O4 from hI)
    have := b_le7 hO7
    exact hQ _ _ (show tI N M4 O4 from hI) (show tK M0 M4 from hk)
  · have := ti_rng q2
    have : (0 : Int32).toInt = 0 := by decide
    have hc19 := congrArg Int32.toInt hc1
    have : (3 : Int32).toInt = 3 := by decide
    have : (1 : Int32).toInt = 1 := by decide
    refine spT_X8_raiseNew hN _ _ (show tI N M0 O from hI) (fun M5 O5 hI hk1 => ?_)
    have hk := tK_tr (show tK M0 M0 from hk) hk1
    obtain ⟨⟨_, _⟩, ⟨_, _⟩, _, ⟨_, _⟩, ⟨_, _⟩, ⟨_, _⟩, hO7⟩ := (show tI N M5 O5 from hI)
    have := b_le7 hO7
    exact hQ _ _ (show tI N M5 O5 from hI) (show tK M0 M5 from hk)
set_option maxHeartbeats 2000000 in
theorem spT_X2_exists {N : Nat → Nat} (hN : tN N) (q1 : Int32) {M0 : Nat → Int32} {O : Nat × Nat} {Q : Int32 → (Nat → Int32) → Nat × Nat → Prop} (hI : tI N M0 O) (hQ : ∀ (r : Int32) (M' : Nat → Int32) (O' : Nat × Nat), tI N M' O' → tK M0 M' → (¬ r = 0 → 1 ≤ q1.toInt ∧ q1.toInt ≤ (M' 22).toInt) → Q r M' O') : wT_X2_exists N q1 M0 O Q := by
  obtain ⟨_, _, _, _, _, _, _, _, _, _, _, _, _⟩ := (show tN N from hN)
  obtain ⟨⟨_, _⟩, ⟨_, _⟩, _, ⟨_, _⟩, ⟨_, _⟩, ⟨_, _⟩, hO7⟩ := (show tI N M0 O from hI)
  have hk : tK M0 M0 := tK_rf M0
  unfold wT_X2_exists
  have := b_le7 hO7
  refine ⟨fun hc1 => ?_, fun hc1 => ?_⟩
  · have := ti_rng q1
    have : (1 : Int32).toInt = 1 := by decide
    have hc1 := Int32.lt_iff_toInt_lt.mp hc1
    have : (0 : Int32).toInt = 0 := by decide
    exact hQ _ _ _ (show tI N M0 O from hI) (show tK M0 M0 from hk) (fun h9 => by first | exact absurd rfl h9 | omega)
  · have := ti_rng q1
    have : (1 : Int32).toInt = 1 := by decide
    have hc1 := ti_nlt hc1
    refine ⟨fun hc2 => ?_, fun hc2 => ?_⟩
    · have := ti_rng (M0 22)
      have hc2 := Int32.lt_iff_toInt_lt.mp hc2
      have : (0 : Int32).toInt = 0 := by decide
      exact hQ _ _ _ (show tI N M0 O from hI) (show tK M0 M0 from hk) (fun h9 => by first | exact absurd rfl h9 | omega)
    · have := ti_rng (M0 22)
      have hc2 := ti_nlt hc2
      exact hQ _ _ _ (show tI N M0 O from hI) (show tK M0 M0 from hk) (fun h9 => by first | exact absurd rfl h9 | omega)
set_option maxHeartbeats 2000000 in
theorem spT_X2_settle {N : Nat → Nat} (hN : tN N) (q1 : Int32) (q2 : Int32) {M0 : Nat → Int32} {O : Nat × Nat} {Q : (Nat → Int32) → Nat × Nat → Prop} (hI : tI N M0 O) (hQ : ∀ (M' : Nat → Int32) (O' : Nat × Nat), tI N M' O' → tK M0 M' → Q M' O') : wT_X2_settle N q1 q2 M0 O Q := by
  obtain ⟨_, _, _, _, _, _, _, _, _, _, _, _, _⟩ := (show tN N from hN)
  obtain ⟨⟨_, _⟩, ⟨_, _⟩, _, ⟨_, _⟩, ⟨_, _⟩, ⟨_, _⟩, hO7⟩ := (show tI N M0 O from hI)
  have hk : tK M0 M0 := tK_rf M0
  unfold wT_X2_settle
  have := b_le7 hO7
  have := ti_rng q1
  refine spT_X2_exists hN _ (show tI N M0 O from hI) (fun r1 M2 O2 hI hk1 hp2 => ?_)
  have hk := tK_tr (show tK M0 M0 from hk) hk1
  obtain ⟨⟨_, _⟩, ⟨_, _⟩, _, ⟨_, _⟩, ⟨_, _⟩, ⟨_, _⟩, hO7⟩ := (show tI N M2 O2 from hI)
  have := b_le7 hO7
  refine ⟨fun hc3 => ?_, fun hc3 => ?_⟩
  · have := ti_rng r1
    have : (0 : Int32).toInt = 0 := by decide
    have hc39 := congrArg Int32.toInt hc3
    exact hQ _ _ (show tI N M2 O2 from hI) (show tK M0 M2 from hk)
  · have := ti_rng r1
    have : (0 : Int32).toInt = 0 := by decide
    have hc39 := ti_ne hc3
    have hc3q := hp2 hc3
    have : (1 : Int32).toInt = 1 := by decide
    obtain ⟨_, _, _, _⟩ := ti_sub q1 1
    have : (7 : Int32).toInt = 7 := by decide
    obtain ⟨_, _, _, _⟩ := ti_mulc (q1 - 1) 7 7 (by decide)
    have : (6 : Int32).toInt = 6 := by decide
    obtain ⟨_, _, _, _⟩ := ti_add ((q1 - 1) * 7) 6
    refine ⟨vp_in_iff.mpr (by omega), ?_⟩
    have : (5 : Int32).toInt = 5 := by decide
    obtain ⟨_, _, _, _⟩ := ti_add ((q1 - 1) * 7) 5
    refine ⟨vp_in_iff.mpr (by omega), ?_⟩
    exact hQ _ _ (show tI N M2 O2 from hI) (show tK M0 M2 from hk)
set_option maxHeartbeats 2000000 in
theorem spT_X8_holdNew_76 {N : Nat → Nat} (hN : tN N) {Q : (Nat → Int32) → Nat × Nat → Prop} {M0 : Nat → Int32} {q1 : Int32} (hQ : ∀ (M' : Nat → Int32) (O' : Nat × Nat), tI N M' O' → tK M0 M' → Q M' O') (a1 : Int32) (a7 : Int32) (M : Nat → Int32) (O : Nat × Nat) (hI : tI N M O) (hk : tK M0 M) : wT_X8_holdNew_76 N Q a1 a7 M O := by
  obtain ⟨_, _, _, _, _, _, _, _, _, _, _, _, _⟩ := (show tN N from hN)
  obtain ⟨⟨_, _⟩, ⟨_, _⟩, _, ⟨_, _⟩, ⟨_, _⟩, ⟨_, _⟩, hO7⟩ := (show tI N M O from hI)
  unfold wT_X8_holdNew_76
  have := b_le7 hO7
  have := ti_rng a1
  have := ti_rng a7
  refine spT_X8_setObject hN _ _ (show tI N M O from hI) (fun M15 O15 hI hk1 => ?_)
  have hk := tK_tr (show tK M0 M from hk) hk1
  obtain ⟨⟨_, _⟩, ⟨_, _⟩, _, ⟨_, _⟩, ⟨_, _⟩, ⟨_, _⟩, hO7⟩ := (show tI N M15 O15 from hI)
  have := b_le7 hO7
  exact hQ _ _ (show tI N M15 O15 from hI) (show tK M0 M15 from hk)
set_option maxHeartbeats 2000000 in
theorem spT_X8_holdNew {N : Nat → Nat} (hN : tN N) (q1 : Int32) {M0 : Nat → Int32} {O : Nat × Nat} {Q : (Nat → Int32) → Nat × Nat → Prop} (hI : tI N M0 O) (hQ : ∀ (M' : Nat → Int32) (O' : Nat × Nat), tI N M' O' → tK M0 M' → Q M' O') : wT_X8_holdNew N q1 M0 O Q := by
  obtain ⟨_, _, _, _, _, _, _, _, _, _, _, _, _⟩ := (show tN N from hN)
  obtain ⟨⟨_, _⟩, ⟨_, _⟩, _, ⟨_, _⟩, ⟨_, _⟩, ⟨_, _⟩, hO7⟩ := (show tI N M0 O from hI)
  have hk : tK M0 M0 := tK_rf M0
  unfold wT_X8_holdNew
  have := b_le7 hO7
  refine spT_X8_fetch hN  (show tI N M0 O from hI) (fun r1 M2 O2 hI hk1 => ?_)
  have hk := tK_tr (show tK M0 M0 from hk) hk1
  obtain ⟨⟨_, _⟩, ⟨_, _⟩, _, ⟨_, _⟩, ⟨_, _⟩, ⟨_, _⟩, hO7⟩ := (show tI N M2 O2 from hI)
  have := b_le7 hO7
  refine spT_X8_fetch hN  (show tI N M2 O2 from hI) (fun r3 M4 O4 hI hk1 => ?_)
  have hk := tK_tr (show tK M0 M2 from hk) hk1
  obtain ⟨⟨_, _⟩, ⟨_, _⟩, _, ⟨_, _⟩, ⟨_, _⟩, ⟨_, _⟩, hO7⟩ := (show tI N M4 O4 from hI)
  have := b_le7 hO7
  refine spT_X8_fetch hN  (show tI N M4 O4 from hI) (fun r5 M6 O6 hI hk1 => ?_)
  have hk := tK_tr (show tK M0 M4 from hk) hk1
  obtain ⟨⟨_, _⟩, ⟨_, _⟩, _, ⟨_, _⟩, ⟨_, _⟩, ⟨_, _⟩, hO7⟩ := (show tI N M6 O6 from hI)
  have := b_le7 hO7
  refine spT_X8_pop hN  (show tI N M6 O6 from hI) (fun r7 M8 O8 hI hk1 => ?_)
  have hk := tK_tr (show tK M0 M6 from hk) hk1
  obtain ⟨⟨_, _⟩, ⟨_, _⟩, _, ⟨_, _⟩, ⟨_, _⟩, ⟨_, _⟩, hO7⟩ := (show tI N M8 O8 from hI)
  have := b_le7 hO7
  refine spT_X8_pop hN  (show tI N M8 O8 from hI) (fun r9 M10 O10 hI hk1 => ?_)
  have hk := tK_tr (show tK M0 M8 from hk) hk1
  obtain ⟨⟨_, _⟩, ⟨_, _⟩, _, ⟨_, _⟩, ⟨_, _⟩, ⟨_, _⟩, hO7⟩ := (show tI N M10 O10 from hI)
  have := b_le7 hO7
  have := ti_rng r1
  have := ti_rng r9
  have := ti_rng r7
  have := ti_rng r3
  refine spT_X2_makeInTrial hN _ _ _ _ (show tI N M10 O10 from hI) (fun r11 M12 O12 hI hk1 => ?_)
  have hk := tK_tr (show tK M0 M10 from hk) hk1
  obtain ⟨⟨_, _⟩, ⟨_, _⟩, _, ⟨_, _⟩, ⟨_, _⟩, ⟨_, _⟩, hO7⟩ := (show tI N M12 O12 from hI)
  have := b_le7 hO7
  refine ⟨fun hc13 => ?_, fun hc13 => ?_⟩
  · have := ti_rng r11
    have : (0 : Int32).toInt = 0 := by decide
    have hc139 := ti_ne hc13
    refine ⟨fun hc14 => ?_, fun hc14 => ?_⟩
    · have := ti_rng r5
      have : ((-2) : Int32).toInt = -2 := by decide
      have hc149 := congrArg Int32.toInt hc14
      have := ti_rng q1
      exact spT_X8_holdNew_76 hN hQ _ _ _ _ (show tI N M12 O12 from hI) (show tK M0 M12 from hk)
    · have := ti_rng r5
      have : ((-2) : Int32).toInt = -2 := by decide
      have hc149 := ti_ne hc14
      refine spT_X8_objectAt hN _ (show tI N M12 O12 from hI) (fun r16 M17 O17 hI hk1 => ?_)
      have hk := tK_tr (show tK M0 M12 from hk) hk1
      obtain ⟨⟨_, _⟩, ⟨_, _⟩, _, ⟨_, _⟩, ⟨_, _⟩, ⟨_, _⟩, hO7⟩ := (show tI N M17 O17 from hI)
      have := b_le7 hO7
      have := ti_rng r16
      refine spT_X2_settle hN _ _ (show tI N M17 O17 from hI) (fun M18 O18 hI hk1 => ?_)
      have hk := tK_tr (show tK M0 M17 from hk) hk1
      obtain ⟨⟨_, _⟩, ⟨_, _⟩, _, ⟨_, _⟩, ⟨_, _⟩, ⟨_, _⟩, hO7⟩ := (show tI N M18 O18 from hI)
      have := b_le7 hO7
      have := ti_rng q1
      exact spT_X8_holdNew_76 hN hQ _ _ _ _ (show tI N M18 O18 from hI) (show tK M0 M18 from hk)
  · have := ti_rng r11
    have : (0 : Int32).toInt = 0 := by decide
    have hc139 := congrArg Int32.toInt hc13
    exact hQ _ _ (show tI N (um M12 53 3) O12 from hI) (show tK M0 (um M12 53 3) from hk)
set_option maxHeartbeats 2000000 in
theorem spT_X8_raiseHeld {N : Nat → Nat} (hN : tN N) (q1 : Int32) {M0 : Nat → Int32} {O : Nat × Nat} {Q : (Nat → Int32) → Nat × Nat → Prop} (hI : tI N M0 O) (hQ : ∀ (M' : Nat → Int32) (O' : Nat × Nat), tI N M' O' → tK M0 M' → Q M' O') : wT_X8_raiseHeld N q1 M0 O Q := by
  obtain ⟨_, _, _, _, _, _, _, _, _, _, _, _, _⟩ := (show tN N from hN)
  obtain ⟨⟨_, _⟩, ⟨_, _⟩, _, ⟨_, _⟩, ⟨_, _⟩, ⟨_, _⟩, hO7⟩ := (show tI N M0 O from hI)
  have hk : tK M0 M0 := tK_rf M0
  unfold wT_X8_raiseHeld
  have := b_le7 hO7
  refine ⟨fun hc1 => ?_, fun hc1 => ?_⟩
  · have := ti_rng q1
    have : (0 : Int32).toInt = 0 := by decide
    have hc19 := ti_ne hc1
    exact hQ _ _ (show tI N (um M0 54 q1) O from hI) (show tK M0 (um M0 54 q1) from hk)
  · have := ti_rng q1
    have : (0 : Int32).toInt = 0 := by decide
    have hc19 := congrArg Int32.toInt hc1
    have : (3 : Int32).toInt = 3 := by decide
    have : (1 : Int32).toInt = 1 := by decide
    refine spT_X8_raiseNew hN _ _ (show tI N M0 O from hI) (fun M2 O2 hI hk1 => ?_)
    have hk := tK_tr (show tK M0 M0 from hk) hk1
    obtain ⟨⟨_, _⟩, ⟨_, _⟩, _, ⟨_, _⟩, ⟨_, _⟩, ⟨_, _⟩, hO7⟩ := (show tI N M2 O2 from hI)
    have := b_le7 hO7
    exact hQ _ _ (show tI N M2 O2 from hI) (show tK M0 M2 from hk)
set_option maxHeartbeats 2000000 in
theorem spT_X2_join_49 {N : Nat → Nat} (hN : tN N) {Q : Int32 → (Nat → Int32) → Nat × Nat → Prop} {M0 : Nat → Int32} {q1 : Int32} {q2 : Int32} (hQ : ∀ (r : Int32) (M' : Nat → Int32) (O' : Nat × Nat), tI N M' O' → tK M0 M' → Q r M' O') (a3 : Int32) (M : Nat → Int32) (O : Nat × Nat) (hI : tI N M O) (hk : tK M0 M) : wT_X2_join_49 N Q a3 M O := by
  obtain ⟨_, _, _, _, _, _, _, _, _, _, _, _, _⟩ := (show tN N from hN)
  obtain ⟨⟨_, _⟩, ⟨_, _⟩, _, ⟨_, _⟩, ⟨_, _⟩, ⟨_, _⟩, hO7⟩ := (show tI N M O from hI)
  unfold wT_X2_join_49
  have := b_le7 hO7
  exact hQ _ _ _ (show tI N M O from hI) (show tK M0 M from hk)
set_option maxHeartbeats 2000000 in
theorem spT_X2_join_24 {N : Nat → Nat} (hN : tN N) {Q : Int32 → (Nat → Int32) → Nat × Nat → Prop} {M0 : Nat → Int32} {q1 : Int32} {q2 : Int32} (hQ : ∀ (r : Int32) (M' : Nat → Int32) (O' : Nat × Nat), tI N M' O' → tK M0 M' → Q r M' O') (a1 : Int32) (a2 : Int32) (t0 : Int32) (M : Nat → Int32) (O : Nat × Nat) (hI : tI N M O) (hk : tK M0 M) : wT_X2_join_24 N Q a1 a2 t0 M O := by
  obtain ⟨_, _, _, _, _, _, _, _, _, _, _, _, _⟩ := (show tN N from hN)
  obtain ⟨⟨_, _⟩, ⟨_, _⟩, _, ⟨_, _⟩, ⟨_, _⟩, ⟨_, _⟩, hO7⟩ := (show tI N M O from hI)
  unfold wT_X2_join_24
  have := b_le7 hO7
  refine ⟨fun hc5 => ?_, fun hc5 => ?_⟩
  · have := ti_rng t0
    have : ((-1) : Int32).toInt = -1 := by decide
    have hc59 := ti_ne hc5
    exact spT_X2_join_49 hN hQ _ _ _ (show tI N (um M 23 ((M 23) + 1)) O from hI) (show tK M0 (um M 23 ((M 23) + 1)) from hk)
  · have := ti_rng t0
    have : ((-1) : Int32).toInt = -1 := by decide
    have hc59 := congrArg Int32.toInt hc5
    have := ti_rng a1
    have := ti_rng a2
    refine spT_X2_settle hN _ _ (show tI N M O from hI) (fun M6 O6 hI hk1 => ?_)
    have hk := tK_tr (show tK M0 M from hk) hk1
    obtain ⟨⟨_, _⟩, ⟨_, _⟩, _, ⟨_, _⟩, ⟨_, _⟩, ⟨_, _⟩, hO7⟩ := (show tI N M6 O6 from hI)
    have := b_le7 hO7
    exact spT_X2_join_49 hN hQ _ _ _ (show tI N M6 O6 from hI) (show tK M0 M6 from hk)
set_option maxHeartbeats 2000000 in
theorem spT_X2_join {N : Nat → Nat} (hN : tN N) (q1 : Int32) (q2 : Int32) {M0 : Nat → Int32} {O : Nat × Nat} {Q : Int32 → (Nat → Int32) → Nat × Nat → Prop} (hI : tI N M0 O) (hQ : ∀ (r : Int32) (M' : Nat → Int32) (O' : Nat × Nat), tI N M' O' → tK M0 M' → Q r M' O') : wT_X2_join N q1 q2 M0 O Q := by
  obtain ⟨_, _, _, _, _, _, _, _, _, _, _, _, _⟩ := (show tN N from hN)
  obtain ⟨⟨_, _⟩, ⟨_, _⟩, _, ⟨_, _⟩, ⟨_, _⟩, ⟨_, _⟩, hO7⟩ := (show tI N M0 O from hI)
  have hk : tK M0 M0 := tK_rf M0
  unfold wT_X2_join
  have := b_le7 hO7
  have := ti_rng q1
  have : (5 : Int32).toInt = 5 := by decide
  refine spT_X2_get hN _ _ (show tI N M0 O from hI) (fun r1 M2 O2 hI hk1 => ?_)
  have hk := tK_tr (show tK M0 M0 from hk) hk1
  obtain ⟨⟨_, _⟩, ⟨_, _⟩, _, ⟨_, _⟩, ⟨_, _⟩, ⟨_, _⟩, hO7⟩ := (show tI N M2 O2 from hI)
  have := b_le7 hO7
  refine ⟨fun hc3 => ?_, fun hc3 => ?_⟩
  · have := ti_rng r1
    have : (1 : Int32).toInt = 1 := by decide
    have hc39 := ti_ne hc3
    refine ⟨fun hc4 => ?_, fun hc4 => ?_⟩
    · have := ti_rng q2
      have hc49 := ti_ne hc4
      have : ((-1) : Int32).toInt = -1 := by decide
      exact spT_X2_join_24 hN hQ _ _ _ _ _ (show tI N M2 O2 from hI) (show tK M0 M2 from hk)
    · have := ti_rng q2
      have hc49 := congrArg Int32.toInt hc4
      exact spT_X2_join_24 hN hQ _ _ _ _ _ (show tI N M2 O2 from hI) (show tK M0 M2 from hk)
  · have := ti_rng r1
    have : (1 : Int32).toInt = 1 := by decide
    have hc39 := congrArg Int32.toInt hc3
    have := ti_rng q2
    have : (2 : Int32).toInt = 2 := by decide
    exact spT_X2_join_24 hN hQ _ _ _ _ _ (show tI N M2 O2 from hI) (show tK M0 M2 from hk)
set_option maxHeartbeats 2000000 in
theorem spT_X8_joinHeld_38 {N : Nat → Nat} (hN : tN N) {Q : (Nat → Int32) → Nat × Nat → Prop} {M0 : Nat → Int32} {q1 : Int32} {q2 : Int32} (hQ : ∀ (M' : Nat → Int32) (O' : Nat × Nat), tI N M' O' → tK M0 M' → Q M' O') (a1 : Int32) (t1 : Int32) (t2 : Int32) (M : Nat → Int32) (O : Nat × Nat) (hI : tI N M O) (hk : tK M0 M) : wT_X8_joinHeld_38 N Q a1 t1 t2 M O := by
  obtain ⟨_, _, _, _, _, _, _, _, _, _, _, _, _⟩ := (show tN N from hN)
  obtain ⟨⟨_, _⟩, ⟨_, _⟩, _, ⟨_, _⟩, ⟨_, _⟩, ⟨_, _⟩, hO7⟩ := (show tI N M O from hI)
  unfold wT_X8_joinHeld_38
  have := b_le7 hO7
  have := ti_rng t1
  have := ti_rng t2
  refine spT_X8_raiseNew hN _ _ (show tI N M O from hI) (fun M6 O6 hI hk1 => ?_)
  have hk := tK_tr (show tK M0 M from hk) hk1
  obtain ⟨⟨_, _⟩, ⟨_, _⟩, _, ⟨_, _⟩, ⟨_, _⟩, ⟨_, _⟩, hO7⟩ := (show tI N M6 O6 from hI)
  have := b_le7 hO7
  have := ti_rng (M6 54)
  have := ti_rng a1
  refine spT_X2_settle hN _ _ (show tI N M6 O6 from hI) (fun M7 O7 hI hk1 => ?_)
  have hk := tK_tr (show tK M0 M6 from hk) hk1
  obtain ⟨⟨_, _⟩, ⟨_, _⟩, _, ⟨_, _⟩, ⟨_, _⟩, ⟨_, _⟩, hO7⟩ := (show tI N M7 O7 from hI)
  have := b_le7 hO7
  exact hQ _ _ (show tI N M7 O7 from hI) (show tK M0 M7 from hk)
set_option maxHeartbeats 2000000 in
theorem spT_X8_joinHeld {N : Nat → Nat} (hN : tN N) (q1 : Int32) (q2 : Int32) {M0 : Nat → Int32} {O : Nat × Nat} {Q : (Nat → Int32) → Nat × Nat → Prop} (hI : tI N M0 O) (hQ : ∀ (M' : Nat → Int32) (O' : Nat × Nat), tI N M' O' → tK M0 M' → Q M' O') : wT_X8_joinHeld N q1 q2 M0 O Q := by
  obtain ⟨_, _, _, _, _, _, _, _, _, _, _, _, _⟩ := (show tN N from hN)
  obtain ⟨⟨_, _⟩, ⟨_, _⟩, _, ⟨_, _⟩, ⟨_, _⟩, ⟨_, _⟩, hO7⟩ := (show tI N M0 O from hI)
  have hk : tK M0 M0 := tK_rf M0
  unfold wT_X8_joinHeld
  have := b_le7 hO7
  refine ⟨fun hc1 => ?_, fun hc1 => ?_⟩
  · have := ti_rng q1
    have : (0 : Int32).toInt = 0 := by decide
    have hc19 := ti_ne hc1
    have := ti_rng q2
    refine spT_X2_join hN _ _ (show tI N M0 O from hI) (fun r2 M3 O3 hI hk1 => ?_)
    have hk := tK_tr (show tK M0 M0 from hk) hk1
    obtain ⟨⟨_, _⟩, ⟨_, _⟩, _, ⟨_, _⟩, ⟨_, _⟩, ⟨_, _⟩, hO7⟩ := (show tI N M3 O3 from hI)
    have := b_le7 hO7
    refine ⟨fun hc4 => ?_, fun hc4 => ?_⟩
    · have := ti_rng r2
      have : ((-1) : Int32).toInt = -1 := by decide
      have hc49 := congrArg Int32.toInt hc4
      exact hQ _ _ (show tI N M3 O3 from hI) (show tK M0 M3 from hk)
    · have := ti_rng r2
      have : ((-1) : Int32).toInt = -1 := by decide
      have hc49 := ti_ne hc4
      refine ⟨fun hc5 => ?_, fun hc5 => ?_⟩
      · have : (2 : Int32).toInt = 2 := by decide
        have hc59 := ti_ne hc5
        have : (5 : Int32).toInt = 5 := by decide
        exact spT_X8_joinHeld_38 hN hQ _ _ _ _ _ (show tI N M3 O3 from hI) (show tK M0 M3 from hk)
      · have : (2 : Int32).toInt = 2 := by decide
        have hc59 := congrArg Int32.toInt hc5
        have : (4 : Int32).toInt = 4 := by decide
        exact spT_X8_joinHeld_38 hN hQ _ _ _ _ _ (show tI N M3 O3 from hI) (show tK M0 M3 from hk)
  · have := ti_rng q1
    have : (0 : Int32).toInt = 0 := by decide
    have hc19 := congrArg Int32.toInt hc1
    have : (3 : Int32).toInt = 3 := by decide
    have : (1 : Int32).toInt = 1 := by decide
    refine spT_X8_raiseNew hN _ _ (show tI N M0 O from hI) (fun M8 O8 hI hk1 => ?_)
    have hk := tK_tr (show tK M0 M0 from hk) hk1
    obtain ⟨⟨_, _⟩, ⟨_, _⟩, _, ⟨_, _⟩, ⟨_, _⟩, ⟨_, _⟩, hO7⟩ := (show tI N M8 O8 from hI)
    have := b_le7 hO7
    exact hQ _ _ (show tI N M8 O8 from hI) (show tK M0 M8 from hk)
set_option maxHeartbeats 2000000 in
theorem spT_X8_doObjection_102 {N : Nat → Nat} (hN : tN N) {Q : (Nat → Int32) → Nat × Nat → Prop} {M0 : Nat → Int32} {q1 : Int32} (hQ : ∀ (M' : Nat → Int32) (O' : Nat × Nat), tI N M' O' → tK M0 M' → Q M' O') (t1 : Int32) (M : Nat → Int32) (O : Nat × Nat) (hI : tI N M O) (hk : tK M0 M) : wT_X8_doObjection_102 N Q t1 M O := by
  obtain ⟨_, _, _, _, _, _, _, _, _, _, _, _, _⟩ := (show tN N from hN)
  obtain ⟨⟨_, _⟩, ⟨_, _⟩, _, ⟨_, _⟩, ⟨_, _⟩, ⟨_, _⟩, hO7⟩ := (show tI N M O from hI)
  unfold wT_X8_doObjection_102
  have := b_le7 hO7
  have := ti_rng t1
  refine spT_X8_push hN _ (show tI N M O from hI) (fun M18 O18 hI hk1 => ?_)
  have hk := tK_tr (show tK M0 M from hk) hk1
  obtain ⟨⟨_, _⟩, ⟨_, _⟩, _, ⟨_, _⟩, ⟨_, _⟩, ⟨_, _⟩, hO7⟩ := (show tI N M18 O18 from hI)
  have := b_le7 hO7
  exact hQ _ _ (show tI N M18 O18 from hI) (show tK M0 M18 from hk)
set_option maxHeartbeats 2000000 in
theorem spT_X8_doObjection {N : Nat → Nat} (hN : tN N) (q1 : Int32) {M0 : Nat → Int32} {O : Nat × Nat} {Q : (Nat → Int32) → Nat × Nat → Prop} (hI : tI N M0 O) (hQ : ∀ (M' : Nat → Int32) (O' : Nat × Nat), tI N M' O' → tK M0 M' → Q M' O') : wT_X8_doObjection N q1 M0 O Q := by
  obtain ⟨_, _, _, _, _, _, _, _, _, _, _, _, _⟩ := (show tN N from hN)
  obtain ⟨⟨_, _⟩, ⟨_, _⟩, _, ⟨_, _⟩, ⟨_, _⟩, ⟨_, _⟩, hO7⟩ := (show tI N M0 O from hI)
  have hk : tK M0 M0 := tK_rf M0
  unfold wT_X8_doObjection
  have := b_le7 hO7
  refine spT_X8_fetch hN  (show tI N M0 O from hI) (fun r1 M2 O2 hI hk1 => ?_)
  have hk := tK_tr (show tK M0 M0 from hk) hk1
  obtain ⟨⟨_, _⟩, ⟨_, _⟩, _, ⟨_, _⟩, ⟨_, _⟩, ⟨_, _⟩, hO7⟩ := (show tI N M2 O2 from hI)
  have := b_le7 hO7
  refine ⟨fun hk => ?_, fun hk => ?_, fun hk => ?_, fun hk => ?_, fun hk => ?_, fun hk => ?_, fun hk => ?_, fun hk => ?_, fun hk0 hk1 hk2 hk3 hk4 hk5 hk6 hk7 => ?_⟩
  · have := ti_rng q1
    have : (22 : Int32).toInt = 22 := by decide
    have hk9 := congrArg Int32.toInt hk
    refine spT_X8_fetch hN  (show tI N M2 O2 from hI) (fun r3 M4 O4 hI hk1 => ?_)
    have hk := tK_tr (show tK M0 M2 from hk) hk1
    obtain ⟨⟨_, _⟩, ⟨_, _⟩, _, ⟨_, _⟩, ⟨_, _⟩, ⟨_, _⟩, hO7⟩ := (show tI N M4 O4 from hI)
    have := b_le7 hO7
    have := ti_rng r1
    have := ti_rng r3
    refine spT_X8_tellOf hN _ _ (show tI N M4 O4 from hI) (fun M5 O5 hI hk1 => ?_)
    have hk := tK_tr (show tK M0 M4 from hk) hk1
    obtain ⟨⟨_, _⟩, ⟨_, _⟩, _, ⟨_, _⟩, ⟨_, _⟩, ⟨_, _⟩, hO7⟩ := (show tI N M5 O5 from hI)
    have := b_le7 hO7
    exact hQ _ _ (show tI N M5 O5 from hI) (show tK M0 M5 from hk)
  · have := ti_rng q1
    have : (23 : Int32).toInt = 23 := by decide
    have hk9 := congrArg Int32.toInt hk
    have := ti_rng r1
    refine spT_X8_objectAt hN _ (show tI N M2 O2 from hI) (fun r6 M7 O7 hI hk1 => ?_)
    have hk := tK_tr (show tK M0 M2 from hk) hk1
    obtain ⟨⟨_, _⟩, ⟨_, _⟩, _, ⟨_, _⟩, ⟨_, _⟩, ⟨_, _⟩, hO7⟩ := (show tI N M7 O7 from hI)
    have := b_le7 hO7
    refine spT_X8_fetch hN  (show tI N M7 O7 from hI) (fun r8 M9 O9 hI hk1 => ?_)
    have hk := tK_tr (show tK M0 M7 from hk) hk1
    obtain ⟨⟨_, _⟩, ⟨_, _⟩, _, ⟨_, _⟩, ⟨_, _⟩, ⟨_, _⟩, hO7⟩ := (show tI N M9 O9 from hI)
    have := b_le7 hO7
    have := ti_rng r6
    have := ti_rng r8
    refine spT_X8_pushIs hN _ _ (show tI N M9 O9 from hI) (fun M10 O10 hI hk1 => ?_)
    have hk := tK_tr (show tK M0 M9 from hk) hk1
    obtain ⟨⟨_, _⟩, ⟨_, _⟩, _, ⟨_, _⟩, ⟨_, _⟩, ⟨_, _⟩, hO7⟩ := (show tI N M10 O10 from hI)
    have := b_le7 hO7
    exact hQ _ _ (show tI N M10 O10 from hI) (show tK M0 M10 from hk)
  · have := ti_rng q1
    have : (24 : Int32).toInt = 24 := by decide
    have hk9 := congrArg Int32.toInt hk
    have := ti_rng r1
    refine spT_X8_objectAt hN _ (show tI N M2 O2 from hI) (fun r11 M12 O12 hI hk1 => ?_)
    have hk := tK_tr (show tK M0 M2 from hk) hk1
    obtain ⟨⟨_, _⟩, ⟨_, _⟩, _, ⟨_, _⟩, ⟨_, _⟩, ⟨_, _⟩, hO7⟩ := (show tI N M12 O12 from hI)
    have := b_le7 hO7
    refine spT_X8_fetch hN  (show tI N M12 O12 from hI) (fun r13 M14 O14 hI hk1 => ?_)
    have hk := tK_tr (show tK M0 M12 from hk) hk1
    obtain ⟨⟨_, _⟩, ⟨_, _⟩, _, ⟨_, _⟩, ⟨_, _⟩, ⟨_, _⟩, hO7⟩ := (show tI N M14 O14 from hI)
    have := b_le7 hO7
    have := ti_rng r13
    refine spT_X8_objectAt hN _ (show tI N M14 O14 from hI) (fun r15 M16 O16 hI hk1 => ?_)
    have hk := tK_tr (show tK M0 M14 from hk) hk1
    obtain ⟨⟨_, _⟩, ⟨_, _⟩, _, ⟨_, _⟩, ⟨_, _⟩, ⟨_, _⟩, hO7⟩ := (show tI N M16 O16 from hI)
    have := b_le7 hO7
    refine ⟨fun hc17 => ?_, fun hc17 => ?_⟩
    · have := ti_rng r11
      have := ti_rng r15
      have hc179 := ti_ne hc17
      have : (0 : Int32).toInt = 0 := by decide
      exact spT_X8_doObjection_102 hN hQ _ _ _ (show tI N M16 O16 from hI) (show tK M0 M16 from hk)
    · have := ti_rng r11
      have := ti_rng r15
      have hc179 := congrArg Int32.toInt hc17
      have : (1 : Int32).toInt = 1 := by decide
      exact spT_X8_doObjection_102 hN hQ _ _ _ (show tI N M16 O16 from hI) (show tK M0 M16 from hk)
  · have := ti_rng q1
    have : (25 : Int32).toInt = 25 := by decide
    have hk9 := congrArg Int32.toInt hk
    refine spT_X8_fetch hN  (show tI N M2 O2 from hI) (fun r19 M20 O20 hI hk1 => ?_)
    have hk := tK_tr (show tK M0 M2 from hk) hk1
    obtain ⟨⟨_, _⟩, ⟨_, _⟩, _, ⟨_, _⟩, ⟨_, _⟩, ⟨_, _⟩, hO7⟩ := (show tI N M20 O20 from hI)
    have := b_le7 hO7
    have := ti_rng r19
    refine spT_X8_objectAt hN _ (show tI N M20 O20 from hI) (fun r21 M22 O22 hI hk1 => ?_)
    have hk := tK_tr (show tK M0 M20 from hk) hk1
    obtain ⟨⟨_, _⟩, ⟨_, _⟩, _, ⟨_, _⟩, ⟨_, _⟩, ⟨_, _⟩, hO7⟩ := (show tI N M22 O22 from hI)
    have := b_le7 hO7
    have := ti_rng r1
    have := ti_rng r21
    refine spT_X8_setObject hN _ _ (show tI N M22 O22 from hI) (fun M23 O23 hI hk1 => ?_)
    have hk := tK_tr (show tK M0 M22 from hk) hk1
    obtain ⟨⟨_, _⟩, ⟨_, _⟩, _, ⟨_, _⟩, ⟨_, _⟩, ⟨_, _⟩, hO7⟩ := (show tI N M23 O23 from hI)
    have := b_le7 hO7
    exact hQ _ _ (show tI N M23 O23 from hI) (show tK M0 M23 from hk)
  · have := ti_rng q1
    have : (26 : Int32).toInt = 26 := by decide
    have hk9 := congrArg Int32.toInt hk
    refine spT_X8_fetch hN  (show tI N M2 O2 from hI) (fun r24 M25 O25 hI hk1 => ?_)
    have hk := tK_tr (show tK M0 M2 from hk) hk1
    obtain ⟨⟨_, _⟩, ⟨_, _⟩, _, ⟨_, _⟩, ⟨_, _⟩, ⟨_, _⟩, hO7⟩ := (show tI N M25 O25 from hI)
    have := b_le7 hO7
    have := ti_rng r24
    refine spT_X8_objectAt hN _ (show tI N M25 O25 from hI) (fun r26 M27 O27 hI hk1 => ?_)
    have hk := tK_tr (show tK M0 M25 from hk) hk1
    obtain ⟨⟨_, _⟩, ⟨_, _⟩, _, ⟨_, _⟩, ⟨_, _⟩, ⟨_, _⟩, hO7⟩ := (show tI N M27 O27 from hI)
    have := b_le7 hO7
    have := ti_rng r1
    have := ti_rng r26
    refine spT_X8_holdCause hN _ _ (show tI N M27 O27 from hI) (fun M28 O28 hI hk1 => ?_)
    have hk := tK_tr (show tK M0 M27 from hk) hk1
    obtain ⟨⟨_, _⟩, ⟨_, _⟩, _, ⟨_, _⟩, ⟨_, _⟩, ⟨_, _⟩, hO7⟩ := (show tI N M28 O28 from hI)
    have := b_le7 hO7
    exact hQ _ _ (show tI N M28 O28 from hI) (show tK M0 M28 from hk)
  · have := ti_rng q1
    have : (27 : Int32).toInt = 27 := by decide
    have hk9 := congrArg Int32.toInt hk
    have := ti_rng r1
    refine spT_X8_holdNew hN _ (show tI N M2 O2 from hI) (fun M29 O29 hI hk1 => ?_)
    have hk := tK_tr (show tK M0 M2 from hk) hk1
    obtain ⟨⟨_, _⟩, ⟨_, _⟩, _, ⟨_, _⟩, ⟨_, _⟩, ⟨_, _⟩, hO7⟩ := (show tI N M29 O29 from hI)
    have := b_le7 hO7
    exact hQ _ _ (show tI N M29 O29 from hI) (show tK M0 M29 from hk)
  · have := ti_rng q1
    have : (28 : Int32).toInt = 28 := by decide
    have hk9 := congrArg Int32.toInt hk
    have := ti_rng r1
    refine spT_X8_objectAt hN _ (show tI N M2 O2 from hI) (fun r30 M31 O31 hI hk1 => ?_)
    have hk := tK_tr (show tK M0 M2 from hk) hk1
    obtain ⟨⟨_, _⟩, ⟨_, _⟩, _, ⟨_, _⟩, ⟨_, _⟩, ⟨_, _⟩, hO7⟩ := (show tI N M31 O31 from hI)
    have := b_le7 hO7
    have := ti_rng r30
    refine spT_X8_raiseHeld hN _ (show tI N M31 O31 from hI) (fun M32 O32 hI hk1 => ?_)
    have hk := tK_tr (show tK M0 M31 from hk) hk1
    obtain ⟨⟨_, _⟩, ⟨_, _⟩, _, ⟨_, _⟩, ⟨_, _⟩, ⟨_, _⟩, hO7⟩ := (show tI N M32 O32 from hI)
    have := b_le7 hO7
    exact hQ _ _ (show tI N M32 O32 from hI) (show tK M0 M32 from hk)
  · have := ti_rng q1
    have : (29 : Int32).toInt = 29 := by decide
    have hk9 := congrArg Int32.toInt hk
    have := ti_rng r1
    refine spT_X8_objectAt hN _ (show tI N M2 O2 from hI) (fun r33 M34 O34 hI hk1 => ?_)
    have hk := tK_tr (show tK M0 M2 from hk) hk1
    obtain ⟨⟨_, _⟩, ⟨_, _⟩, _, ⟨_, _⟩, ⟨_, _⟩, ⟨_, _⟩, hO7⟩ := (show tI N M34 O34 from hI)
    have := b_le7 hO7
    refine spT_X8_fetch hN  (show tI N M34 O34 from hI) (fun r35 M36 O36 hI hk1 => ?_)
    have hk := tK_tr (show tK M0 M34 from hk) hk1
    obtain ⟨⟨_, _⟩, ⟨_, _⟩, _, ⟨_, _⟩, ⟨_, _⟩, ⟨_, _⟩, hO7⟩ := (show tI N M36 O36 from hI)
    have := b_le7 hO7
    have := ti_rng r35
    refine spT_X8_objectAt hN _ (show tI N M36 O36 from hI) (fun r37 M38 O38 hI hk1 => ?_)
    have hk := tK_tr (show tK M0 M36 from hk) hk1
    obtain ⟨⟨_, _⟩, ⟨_, _⟩, _, ⟨_, _⟩, ⟨_, _⟩, ⟨_, _⟩, hO7⟩ := (show tI N M38 O38 from hI)
    have := b_le7 hO7
    have := ti_rng r33
    have := ti_rng r37
    refine spT_X8_joinHeld hN _ _ (show tI N M38 O38 from hI) (fun M39 O39 hI hk1 => ?_)
    have hk := tK_tr (show tK M0 M38 from hk) hk1
    obtain ⟨⟨_, _⟩, ⟨_, _⟩, _, ⟨_, _⟩, ⟨_, _⟩, ⟨_, _⟩, hO7⟩ := (show tI N M39 O39 from hI)
    have := b_le7 hO7
    exact hQ _ _ (show tI N M39 O39 from hI) (show tK M0 M39 from hk)
  · have := ti_rng q1
    have := ti_rng r1
    refine spT_X8_objectAt hN _ (show tI N M2 O2 from hI) (fun r40 M41 O41 hI hk1 => ?_)
    have hk := tK_tr (show tK M0 M2 from hk) hk1
    obtain ⟨⟨_, _⟩, ⟨_, _⟩, _, ⟨_, _⟩, ⟨_, _⟩, ⟨_, _⟩, hO7⟩ := (show tI N M41 O41 from hI)
    have := b_le7 hO7
    have := ti_rng r40
    refine spT_X8_putNote hN _ (show tI N M41 O41 from hI) (fun M42 O42 hI hk1 => ?_)
    have hk := tK_tr (show tK M0 M41 from hk) hk1
    obtain ⟨⟨_, _⟩, ⟨_, _⟩, _, ⟨_, _⟩, ⟨_, _⟩, ⟨_, _⟩, hO7⟩ := (show tI N M42 O42 from hI)
    have := b_le7 hO7
    exact hQ _ _ (show tI N M42 O42 from hI) (show tK M0 M42 from hk)
set_option maxHeartbeats 2000000 in
theorem spT_X8_upholdFor_17 {N : Nat → Nat} (hN : tN N) {Q : Int32 → (Nat → Int32) → Nat × Nat → Prop} {M0 : Nat → Int32} {q1 : Int32} (hQ : ∀ (r : Int32) (M' : Nat → Int32) (O' : Nat × Nat), tI N M' O' → tK M0 M' → Q r M' O') : ∀ (n17 : Nat) (a2 : Int32) (a3 : Int32) (a4 : Int32) (M : Nat → Int32) (O : Nat × Nat), tI N M O → tK M0 M → (0 ≤ a4.toInt ∧ a4.toInt ≤ 4000) → (4000 - a4.toInt) + 1 ≤ (n17 : Int) → wT_X8_upholdFor_17 N Q n17 a2 a3 a4 M O := by
  obtain ⟨_, _, _, _, _, _, _, _, _, _, _, _, _⟩ := (show tN N from hN)
  intro n17
  induction n17 with
  | zero => intro a2 a3 a4 M O hI hk hv hn; exact absurd hn (by omega)
  | succ n17 ih =>
    intro a2 a3 a4 M O hI hk hv hn
    obtain ⟨⟨_, _⟩, ⟨_, _⟩, _, ⟨_, _⟩, ⟨_, _⟩, ⟨_, _⟩, hO7⟩ := (show tI N M O from hI)
    dsimp only [wT_X8_upholdFor_17]
    have := b_le7 hO7
    refine ⟨fun hc3 => ?_, fun hc3 => ?_⟩
    · have : (4000 : Int32).toInt = 4000 := by decide
      have := ti_rng a4
      have hc3 := Int32.le_iff_toInt_le.mp hc3
      exact hQ _ _ _ (show tI N M O from hI) (show tK M0 M from hk)
    · have : (4000 : Int32).toInt = 4000 := by decide
      have := ti_rng a4
      have hc3 := ti_nle hc3
      refine ⟨fun hc4 => ?_, fun hc4 => ?_⟩
      · have := ti_rng a3
        have : ((-1) : Int32).toInt = -1 := by decide
        have hc49 := congrArg Int32.toInt hc4
        exact hQ _ _ _ (show tI N M O from hI) (show tK M0 M from hk)
      · have := ti_rng a3
        have : ((-1) : Int32).toInt = -1 := by decide
        have hc49 := ti_ne hc4
        refine spT_X6_get hN _ (show tI N M O from hI) (fun r5 M6 O6 hI hk1 => ?_)
        have hk := tK_tr (show tK M0 M from hk) hk1
        obtain ⟨⟨_, _⟩, ⟨_, _⟩, _, ⟨_, _⟩, ⟨_, _⟩, ⟨_, _⟩, hO7⟩ := (show tI N M6 O6 from hI)
        have := b_le7 hO7
        have := ti_rng a2
        have := ti_rng r5
        refine spT_X3_is hN _ _ (show tI N M6 O6 from hI) (fun r7 M8 O8 hI hk1 => ?_)
        have hk := tK_tr (show tK M0 M6 from hk) hk1
        obtain ⟨⟨_, _⟩, ⟨_, _⟩, _, ⟨_, _⟩, ⟨_, _⟩, ⟨_, _⟩, hO7⟩ := (show tI N M8 O8 from hI)
        have := b_le7 hO7
        refine ⟨fun hc9 => ?_, fun hc9 => ?_⟩
        · have := ti_rng r7
          have : (0 : Int32).toInt = 0 := by decide
          have hc99 := congrArg Int32.toInt hc9
          have : (2 : Int32).toInt = 2 := by decide
          obtain ⟨_, _, _, _⟩ := ti_add a3 2
          refine spT_X6_get hN _ (show tI N M8 O8 from hI) (fun r10 M11 O11 hI hk1 => ?_)
          have hk := tK_tr (show tK M0 M8 from hk) hk1
          obtain ⟨⟨_, _⟩, ⟨_, _⟩, _, ⟨_, _⟩, ⟨_, _⟩, ⟨_, _⟩, hO7⟩ := (show tI N M11 O11 from hI)
          have := b_le7 hO7
          have := ti_rng r10
          have : (1 : Int32).toInt = 1 := by decide
          obtain ⟨_, _, _, _⟩ := ti_add a4 1
          exact ih _ _ _ _ _ (show tI N M11 O11 from hI) (show tK M0 M11 from hk) (show 0 ≤ (a4 + 1).toInt ∧ (a4 + 1).toInt ≤ 4000 from by omega) (show (4000 - (a4 + 1).toInt) + 1 ≤ _ from by omega)
        · have := ti_rng r7
          have : (0 : Int32).toInt = 0 := by decide
          have hc99 := ti_ne hc9
          exact hQ _ _ _ (show tI N M8 O8 from hI) (show tK M0 M8 from hk)
set_option maxHeartbeats 2000000 in
theorem spT_X8_upholdFor {N : Nat → Nat} (hN : tN N) (q1 : Int32) {M0 : Nat → Int32} {O : Nat × Nat} {Q : Int32 → (Nat → Int32) → Nat × Nat → Prop} (hI : tI N M0 O) (hQ : ∀ (r : Int32) (M' : Nat → Int32) (O' : Nat × Nat), tI N M' O' → tK M0 M' → Q r M' O') : wT_X8_upholdFor N q1 M0 O Q := by
  obtain ⟨_, _, _, _, _, _, _, _, _, _, _, _, _⟩ := (show tN N from hN)
  obtain ⟨⟨_, _⟩, ⟨_, _⟩, _, ⟨_, _⟩, ⟨_, _⟩, ⟨_, _⟩, hO7⟩ := (show tI N M0 O from hI)
  have hk : tK M0 M0 := tK_rf M0
  unfold wT_X8_upholdFor
  have := b_le7 hO7
  have := ti_rng (M0 54)
  refine spT_X2_kindOf hN _ (show tI N M0 O from hI) (fun r1 M2 O2 hI hk1 => ?_)
  have hk := tK_tr (show tK M0 M0 from hk) hk1
  obtain ⟨⟨_, _⟩, ⟨_, _⟩, _, ⟨_, _⟩, ⟨_, _⟩, ⟨_, _⟩, hO7⟩ := (show tI N M2 O2 from hI)
  have := b_le7 hO7
  have := ti_rng r1
  have := ti_rng q1
  have : (0 : Int32).toInt = 0 := by decide
  exact ⟨((4000 - 0.toInt) + 1).toNat, spT_X8_upholdFor_17 hN hQ _ _ _ _ _ _ (show tI N M2 O2 from hI) (show tK M0 M2 from hk) (show 0 ≤ 0.toInt ∧ 0.toInt ≤ 4000 from by omega) (show (4000 - 0.toInt) + 1 ≤ _ from by omega)⟩
set_option maxHeartbeats 2000000 in
theorem spT_X8_doUphold {N : Nat → Nat} (hN : tN N) (q1 : Int32) {M0 : Nat → Int32} {O : Nat × Nat} {Q : (Nat → Int32) → Nat × Nat → Prop} (hI : tI N M0 O) (hQ : ∀ (M' : Nat → Int32) (O' : Nat × Nat), tI N M' O' → tK M0 M' → Q M' O') : wT_X8_doUphold N q1 M0 O Q := by
  obtain ⟨_, _, _, _, _, _, _, _, _, _, _, _, _⟩ := (show tN N from hN)
  obtain ⟨⟨_, _⟩, ⟨_, _⟩, _, ⟨_, _⟩, ⟨_, _⟩, ⟨_, _⟩, hO7⟩ := (show tI N M0 O from hI)
  have hk : tK M0 M0 := tK_rf M0
  unfold wT_X8_doUphold
  have := b_le7 hO7
  have := ti_rng (M0 51)
  have : (1 : Int32).toInt = 1 := by decide
  obtain ⟨_, _, _, _⟩ := ti_sub (M0 51) 1
  have : (0 : Int32).toInt = 0 := by decide
  refine spT_X8_tryField hN _ _ (show tI N M0 O from hI) (fun r1 M2 O2 hI hk1 => ?_)
  have hk := tK_tr (show tK M0 M0 from hk) hk1
  obtain ⟨⟨_, _⟩, ⟨_, _⟩, _, ⟨_, _⟩, ⟨_, _⟩, ⟨_, _⟩, hO7⟩ := (show tI N M2 O2 from hI)
  have := b_le7 hO7
  have : ((-1) : Int32).toInt = -1 := by decide
  refine spT_X8_setTryField hN _ _ _ (show tI N (um (um M2 50 r1) 52 0) O2 from (show (0 ≤ (M2 1).toInt ∧ (M2 1).toInt ≤ 4000) ∧ (0 ≤ (M2 22).toInt ∧ (M2 22).toInt ≤ 8000) ∧ 7 * (M2 22).toInt ≤ ((448 * 2 ^ O2.2 : Nat) : Int) ∧ (0 ≤ (M2 31).toInt ∧ (M2 31).toInt ≤ 200) ∧ (0 ≤ 0.toInt ∧ 0.toInt ≤ 128) ∧ (0 ≤ (M2 63).toInt ∧ (M2 63).toInt ≤ (N 20 : Int)) ∧ O2.2 ≤ 7 from by omega)) (fun M3 O3 hI hk1 => ?_)
  have hk := tK_tr (show tK M0 (um (um M2 50 r1) 52 0) from hk) hk1
  obtain ⟨⟨_, _⟩, ⟨_, _⟩, _, ⟨_, _⟩, ⟨_, _⟩, ⟨_, _⟩, hO7⟩ := (show tI N M3 O3 from hI)
  have := b_le7 hO7
  have := ti_rng q1
  obtain ⟨_, _, _, _⟩ := ti_add q1 1
  refine spT_X6_get hN _ (show tI N M3 O3 from hI) (fun r4 M5 O5 hI hk1 => ?_)
  have hk := tK_tr (show tK M0 M3 from hk) hk1
  obtain ⟨⟨_, _⟩, ⟨_, _⟩, _, ⟨_, _⟩, ⟨_, _⟩, ⟨_, _⟩, hO7⟩ := (show tI N M5 O5 from hI)
  have := b_le7 hO7
  have := ti_rng r4
  have := ti_rng (M5 54)
  refine spT_X8_setObject hN _ _ (show tI N M5 O5 from hI) (fun M6 O6 hI hk1 => ?_)
  have hk := tK_tr (show tK M0 M5 from hk) hk1
  obtain ⟨⟨_, _⟩, ⟨_, _⟩, _, ⟨_, _⟩, ⟨_, _⟩, ⟨_, _⟩, hO7⟩ := (show tI N M6 O6 from hI)
  have := b_le7 hO7
  exact hQ _ _ (show tI N (um (um M6 54 0) 49 (q1 + 3)) O6 from hI) (show tK M0 (um (um M6 54 0) 49 (q1 + 3)) from hk)
set_option maxHeartbeats 2000000 in
theorem spT_X8_goOut_0 {N : Nat → Nat} (hN : tN N) {Q : (Nat → Int32) → Nat × Nat → Prop} {M0 : Nat → Int32} (hQ : ∀ (M' : Nat → Int32) (O' : Nat × Nat), tI N M' O' → tK M0 M' → Q M' O') : ∀ (n0 : Nat) (M : Nat → Int32) (O : Nat × Nat), tI N M O → tK M0 M → (0 ≤ (0 : Int)) → ((M 51).toInt.toNat : Int) + 1 ≤ (n0 : Int) → wT_X8_goOut_0 N Q n0 M O := by
  obtain ⟨_, _, _, _, _, _, _, _, _, _, _, _, _⟩ := (show tN N from hN)
  intro n0
  induction n0 with
  | zero => intro M O hI hk hv hn; exact absurd hn (by omega)
  | succ n0 ih =>
    intro M O hI hk hv hn
    obtain ⟨⟨_, _⟩, ⟨_, _⟩, _, ⟨_, _⟩, ⟨_, _⟩, ⟨_, _⟩, hO7⟩ := (show tI N M O from hI)
    dsimp only [wT_X8_goOut_0]
    have := b_le7 hO7
    refine ⟨fun hc1 => ?_, fun hc1 => ?_⟩
    · have := ti_rng (M 51)
      have : (0 : Int32).toInt = 0 := by decide
      have hc1 := Int32.le_iff_toInt_le.mp hc1
      exact hQ _ _ (show tI N (um M 53 2) O from hI) (show tK M0 (um M 53 2) from hk)
    · have := ti_rng (M 51)
      have : (0 : Int32).toInt = 0 := by decide
      have hc1 := ti_nle hc1
      have : (1 : Int32).toInt = 1 := by decide
      obtain ⟨_, _, _, _⟩ := ti_sub (M 51) 1
      refine spT_X8_tryField hN _ _ (show tI N M O from hI) (fun r2 M3 O3 hI hk1 => ?_)
      have hk := tK_tr (show tK M0 M from hk) hk1
      obtain ⟨⟨_, _⟩, ⟨_, _⟩, _, ⟨_, _⟩, ⟨_, _⟩, ⟨_, _⟩, hO7⟩ := (show tI N M3 O3 from hI)
      have := b_le7 hO7
      have := ti_rng r2
      refine spT_X8_upholdFor hN _ (show tI N M3 O3 from hI) (fun r4 M5 O5 hI hk1 => ?_)
      have hk := tK_tr (show tK M0 M3 from hk) hk1
      obtain ⟨⟨_, _⟩, ⟨_, _⟩, _, ⟨_, _⟩, ⟨_, _⟩, ⟨_, _⟩, hO7⟩ := (show tI N M5 O5 from hI)
      have := b_le7 hO7
      refine ⟨fun hc6 => ?_, fun hc6 => ?_⟩
      · have := ti_rng r4
        have : ((-1) : Int32).toInt = -1 := by decide
        have hc69 := congrArg Int32.toInt hc6
        have := ti_rng (M5 51)
        obtain ⟨_, _, _, _⟩ := ti_sub (M5 51) 1
        have : (2 : Int32).toInt = 2 := by decide
        refine spT_X8_tryField hN _ _ (show tI N M5 O5 from hI) (fun r7 M8 O8 hI hk1 => ?_)
        have hk := tK_tr (show tK M0 M5 from hk) hk1
        obtain ⟨⟨_, _⟩, ⟨_, _⟩, _, ⟨_, _⟩, ⟨_, _⟩, ⟨_, _⟩, hO7⟩ := (show tI N M8 O8 from hI)
        have := b_le7 hO7
        refine ⟨fun hc9 => ?_, fun hc9 => ?_⟩
        · have := ti_rng r7
          have hc99 := congrArg Int32.toInt hc9
          exact ih _ _ (show tI N (um M8 51 ((M8 51) - 1)) O8 from hI) (show tK M0 (um M8 51 ((M8 51) - 1)) from hk) (show 0 ≤ (0 : Int) from by omega) (show (((M8 51) - 1).toInt.toNat : Int) + 1 ≤ _ from by omega)
        · have := ti_rng r7
          have hc99 := ti_ne hc9
          have := ti_rng (M8 54)
          refine spT_X8_doLastly hN _ _ (show tI N M8 O8 from hI) (fun M10 O10 hI hk1 => ?_)
          have hk := tK_tr (show tK M0 M8 from hk) hk1
          obtain ⟨⟨_, _⟩, ⟨_, _⟩, _, ⟨_, _⟩, ⟨_, _⟩, ⟨_, _⟩, hO7⟩ := (show tI N M10 O10 from hI)
          have := b_le7 hO7
          exact hQ _ _ (show tI N (um M10 54 0) O10 from hI) (show tK M0 (um M10 54 0) from hk)
      · have := ti_rng r4
        have : ((-1) : Int32).toInt = -1 := by decide
        have hc69 := ti_ne hc6
        refine spT_X8_doUphold hN _ (show tI N M5 O5 from hI) (fun M11 O11 hI hk1 => ?_)
        have hk := tK_tr (show tK M0 M5 from hk) hk1
        obtain ⟨⟨_, _⟩, ⟨_, _⟩, _, ⟨_, _⟩, ⟨_, _⟩, ⟨_, _⟩, hO7⟩ := (show tI N M11 O11 from hI)
        have := b_le7 hO7
        exact hQ _ _ (show tI N M11 O11 from hI) (show tK M0 M11 from hk)
set_option maxHeartbeats 2000000 in
theorem spT_X8_goOut {N : Nat → Nat} (hN : tN N) {M0 : Nat → Int32} {O : Nat × Nat} {Q : (Nat → Int32) → Nat × Nat → Prop} (hI : tI N M0 O) (hQ : ∀ (M' : Nat → Int32) (O' : Nat × Nat), tI N M' O' → tK M0 M' → Q M' O') : wT_X8_goOut N  M0 O Q := by
  obtain ⟨_, _, _, _, _, _, _, _, _, _, _, _, _⟩ := (show tN N from hN)
  obtain ⟨⟨_, _⟩, ⟨_, _⟩, _, ⟨_, _⟩, ⟨_, _⟩, ⟨_, _⟩, hO7⟩ := (show tI N M0 O from hI)
  have hk : tK M0 M0 := tK_rf M0
  unfold wT_X8_goOut
  have := b_le7 hO7
  exact ⟨(((M0 51).toInt.toNat : Int) + 1).toNat, spT_X8_goOut_0 hN hQ _ _ _ (show tI N M0 O from hI) (show tK M0 M0 from hk) (show 0 ≤ (0 : Int) from by omega) (show ((M0 51).toInt.toNat : Int) + 1 ≤ _ from by omega)⟩
set_option maxHeartbeats 2000000 in
theorem spT_X5_rest {N : Nat → Nat} (hN : tN N) (q1 : Int32) {M0 : Nat → Int32} {O : Nat × Nat} {Q : (Nat → Int32) → Nat × Nat → Prop} (hI : tI N M0 O) (hQ : ∀ (M' : Nat → Int32) (O' : Nat × Nat), tI N M' O' → tK M0 M' → Q M' O') : wT_X5_rest N q1 M0 O Q := by
  obtain ⟨_, _, _, _, _, _, _, _, _, _, _, _, _⟩ := (show tN N from hN)
  obtain ⟨⟨_, _⟩, ⟨_, _⟩, _, ⟨_, _⟩, ⟨_, _⟩, ⟨_, _⟩, hO7⟩ := (show tI N M0 O from hI)
  have hk : tK M0 M0 := tK_rf M0
  unfold wT_X5_rest
  have := b_le7 hO7
  exact hQ _ _ (show tI N (um (um M0 32 0) 33 q1) O from hI) (show tK M0 (um (um M0 32 0) 33 q1) from hk)
set_option maxHeartbeats 2000000 in
theorem spT_X5_adjourn {N : Nat → Nat} (hN : tN N) {M0 : Nat → Int32} {O : Nat × Nat} {Q : (Nat → Int32) → Nat × Nat → Prop} (hI : tI N M0 O) (hQ : ∀ (M' : Nat → Int32) (O' : Nat × Nat), tI N M' O' → tK M0 M' → Q M' O') : wT_X5_adjourn N  M0 O Q := by
  obtain ⟨_, _, _, _, _, _, _, _, _, _, _, _, _⟩ := (show tN N from hN)
  obtain ⟨⟨_, _⟩, ⟨_, _⟩, _, ⟨_, _⟩, ⟨_, _⟩, ⟨_, _⟩, hO7⟩ := (show tI N M0 O from hI)
  have hk : tK M0 M0 := tK_rf M0
  unfold wT_X5_adjourn
  have := b_le7 hO7
  exact hQ _ _ (show tI N (um M0 32 3) O from hI) (show tK M0 (um M0 32 3) from hk)
set_option maxHeartbeats 2000000 in
theorem spT_X8_hold_101 {N : Nat → Nat} (hN : tN N) {Q : Int32 → (Nat → Int32) → Nat × Nat → Prop} {M0 : Nat → Int32} {q1 : Int32} {q2 : Int32} {q3 : Int32} (hQ : ∀ (r : Int32) (M' : Nat → Int32) (O' : Nat × Nat), tI N M' O' → tK M0 M' → Q r M' O') (M : Nat → Int32) (O : Nat × Nat) (hI : tI N M O) (hk : tK M0 M) : wT_X8_hold_101 N Q M O := by
  obtain ⟨_, _, _, _, _, _, _, _, _, _, _, _, _⟩ := (show tN N from hN)
  obtain ⟨⟨_, _⟩, ⟨_, _⟩, _, ⟨_, _⟩, ⟨_, _⟩, ⟨_, _⟩, hO7⟩ := (show tI N M O from hI)
  unfold wT_X8_hold_101
  have := b_le7 hO7
  refine ⟨fun hc3 => ?_, fun hc3 => ?_⟩
  · have := ti_rng (M 53)
    have : (2 : Int32).toInt = 2 := by decide
    have hc39 := ti_ne hc3
    refine ⟨fun hc4 => ?_, fun hc4 => ?_⟩
    · have : (1 : Int32).toInt = 1 := by decide
      have hc49 := ti_ne hc4
      refine spT_X5_adjourn hN  (show tI N M O from hI) (fun M5 O5 hI hk1 => ?_)
      have hk := tK_tr (show tK M0 M from hk) hk1
      obtain ⟨⟨_, _⟩, ⟨_, _⟩, _, ⟨_, _⟩, ⟨_, _⟩, ⟨_, _⟩, hO7⟩ := (show tI N M5 O5 from hI)
      have := b_le7 hO7
      exact hQ _ _ _ (show tI N M5 O5 from hI) (show tK M0 M5 from hk)
    · have : (1 : Int32).toInt = 1 := by decide
      have hc49 := congrArg Int32.toInt hc4
      have := ti_rng (M 55)
      refine spT_X5_rest hN _ (show tI N M O from hI) (fun M6 O6 hI hk1 => ?_)
      have hk := tK_tr (show tK M0 M from hk) hk1
      obtain ⟨⟨_, _⟩, ⟨_, _⟩, _, ⟨_, _⟩, ⟨_, _⟩, ⟨_, _⟩, hO7⟩ := (show tI N M6 O6 from hI)
      have := b_le7 hO7
      exact hQ _ _ _ (show tI N M6 O6 from hI) (show tK M0 M6 from hk)
  · have := ti_rng (M 53)
    have : (2 : Int32).toInt = 2 := by decide
    have hc39 := congrArg Int32.toInt hc3
    exact hQ _ _ _ (show tI N M O from hI) (show tK M0 M from hk)
set_option maxHeartbeats 2000000 in
theorem spT_X8_hold_95 {N : Nat → Nat} (hN : tN N) {K10 : (Int32 → (Nat → Int32) → (Nat × Nat) → Prop)} {n10 : Nat} {Q : Int32 → (Nat → Int32) → Nat × Nat → Prop} {M0 : Nat → Int32} {q1 : Int32} {q2 : Int32} {q3 : Int32} (sK10 : ∀ (a4 : Int32) (M : Nat → Int32) (O : Nat × Nat), tI N M O → tK M0 M → (0 ≤ a4.toInt ∧ a4.toInt ≤ 1000000000) → (1000000000 - a4.toInt) + 1 ≤ (n10 : Int) → K10 a4 M O) (hQ : ∀ (r : Int32) (M' : Nat → Int32) (O' : Nat × Nat), tI N M' O' → tK M0 M' → Q r M' O') (a4 : Int32) (M : Nat → Int32) (O : Nat × Nat) (hI : tI N M O) (hk : tK M0 M) (hbi : ((0 ≤ a4.toInt ∧ a4.toInt ≤ 1000000000) ∧ (1000000000 - a4.toInt) ≤ (n10 : Int) ∧ 1 ≤ (1000000000 - a4.toInt))) : wT_X8_hold_95 N K10 Q a4 M O := by
  obtain ⟨_, _, _, _, _, _, _, _, _, _, _, _, _⟩ := (show tN N from hN)
  obtain ⟨⟨_, _⟩, ⟨_, _⟩, _, ⟨_, _⟩, ⟨_, _⟩, ⟨_, _⟩, hO7⟩ := (show tI N M O from hI)
  unfold wT_X8_hold_95
  have := b_le7 hO7
  have := ti_rng a4
  have : (1 : Int32).toInt = 1 := by decide
  obtain ⟨_, _, _, _⟩ := ti_add a4 1
  exact sK10 _ _ _ (show tI N M O from hI) (show tK M0 M from hk) (show 0 ≤ (a4 + 1).toInt ∧ (a4 + 1).toInt ≤ 1000000000 from by omega) (show (1000000000 - (a4 + 1).toInt) + 1 ≤ _ from by omega)
set_option maxHeartbeats 2000000 in
theorem spT_X8_hold_84 {N : Nat → Nat} (hN : tN N) {K10 : (Int32 → (Nat → Int32) → (Nat × Nat) → Prop)} {n10 : Nat} {Q : Int32 → (Nat → Int32) → Nat × Nat → Prop} {M0 : Nat → Int32} {q1 : Int32} {q2 : Int32} {q3 : Int32} (sK10 : ∀ (a4 : Int32) (M : Nat → Int32) (O : Nat × Nat), tI N M O → tK M0 M → (0 ≤ a4.toInt ∧ a4.toInt ≤ 1000000000) → (1000000000 - a4.toInt) + 1 ≤ (n10 : Int) → K10 a4 M O) (hQ : ∀ (r : Int32) (M' : Nat → Int32) (O' : Nat × Nat), tI N M' O' → tK M0 M' → Q r M' O') (a4 : Int32) (M : Nat → Int32) (O : Nat × Nat) (hI : tI N M O) (hk : tK M0 M) (hbi : ((0 ≤ a4.toInt ∧ a4.toInt ≤ 1000000000) ∧ (1000000000 - a4.toInt) ≤ (n10 : Int) ∧ 1 ≤ (1000000000 - a4.toInt))) : wT_X8_hold_84 N K10 Q a4 M O := by
  obtain ⟨_, _, _, _, _, _, _, _, _, _, _, _, _⟩ := (show tN N from hN)
  obtain ⟨⟨_, _⟩, ⟨_, _⟩, _, ⟨_, _⟩, ⟨_, _⟩, ⟨_, _⟩, hO7⟩ := (show tI N M O from hI)
  unfold wT_X8_hold_84
  have := b_le7 hO7
  refine ⟨fun hc14 => ?_, fun hc14 => ?_⟩
  · have := ti_rng (M 54)
    have : (0 : Int32).toInt = 0 := by decide
    have hc149 := congrArg Int32.toInt hc14
    have := ti_rng a4
    exact spT_X8_hold_95 hN sK10 hQ _ _ _ (show tI N M O from hI) (show tK M0 M from hk) (show ((0 ≤ a4.toInt ∧ a4.toInt ≤ 1000000000) ∧ (1000000000 - a4.toInt) ≤ (n10 : Int) ∧ 1 ≤ (1000000000 - a4.toInt)) from by omega)
  · have := ti_rng (M 54)
    have : (0 : Int32).toInt = 0 := by decide
    have hc149 := ti_ne hc14
    refine spT_X8_goOut hN  (show tI N M O from hI) (fun M15 O15 hI hk1 => ?_)
    have hk := tK_tr (show tK M0 M from hk) hk1
    obtain ⟨⟨_, _⟩, ⟨_, _⟩, _, ⟨_, _⟩, ⟨_, _⟩, ⟨_, _⟩, hO7⟩ := (show tI N M15 O15 from hI)
    have := b_le7 hO7
    have := ti_rng a4
    exact spT_X8_hold_95 hN sK10 hQ _ _ _ (show tI N M15 O15 from hI) (show tK M0 M15 from hk) (show ((0 ≤ a4.toInt ∧ a4.toInt ≤ 1000000000) ∧ (1000000000 - a4.toInt) ≤ (n10 : Int) ∧ 1 ≤ (1000000000 - a4.toInt)) from by omega)
set_option maxHeartbeats 2000000 in
theorem spT_X8_hold_10 {N : Nat → Nat} (hN : tN N) {Q : Int32 → (Nat → Int32) → Nat × Nat → Prop} {M0 : Nat → Int32} {q1 : Int32} {q2 : Int32} {q3 : Int32} (hQ : ∀ (r : Int32) (M' : Nat → Int32) (O' : Nat × Nat), tI N M' O' → tK M0 M' → Q r M' O') : ∀ (n10 : Nat) (a4 : Int32) (M : Nat → Int32) (O : Nat × Nat), tI N M O → tK M0 M → (0 ≤ a4.toInt ∧ a4.toInt ≤ 1000000000) → (1000000000 - a4.toInt) + 1 ≤ (n10 : Int) → wT_X8_hold_10 N Q n10 a4 M O := by
  obtain ⟨_, _, _, _, _, _, _, _, _, _, _, _, _⟩ := (show tN N from hN)
  intro n10
  induction n10 with
  | zero => intro a4 M O hI hk hv hn; exact absurd hn (by omega)
  | succ n10 ih =>
    intro a4 M O hI hk hv hn
    obtain ⟨⟨_, _⟩, ⟨_, _⟩, _, ⟨_, _⟩, ⟨_, _⟩, ⟨_, _⟩, hO7⟩ := (show tI N M O from hI)
    dsimp only [wT_X8_hold_10]
    have := b_le7 hO7
    refine ⟨fun hc2 => ?_, fun hc2 => ?_⟩
    · have : (1000000000 : Int32).toInt = 1000000000 := by decide
      have := ti_rng a4
      have hc2 := Int32.le_iff_toInt_le.mp hc2
      exact spT_X8_hold_101 hN hQ _ _ (show tI N M O from hI) (show tK M0 M from hk)
    · have : (1000000000 : Int32).toInt = 1000000000 := by decide
      have := ti_rng a4
      have hc2 := ti_nle hc2
      refine ⟨fun hc7 => ?_, fun hc7 => ?_⟩
      · have := ti_rng (M 53)
        have : (0 : Int32).toInt = 0 := by decide
        have hc79 := ti_ne hc7
        exact spT_X8_hold_101 hN hQ _ _ (show tI N M O from hI) (show tK M0 M from hk)
      · have := ti_rng (M 53)
        have : (0 : Int32).toInt = 0 := by decide
        have hc79 := congrArg Int32.toInt hc7
        refine spT_X8_fetch hN  (show tI N M O from hI) (fun r8 M9 O9 hI hk1 => ?_)
        have hk := tK_tr (show tK M0 M from hk) hk1
        obtain ⟨⟨_, _⟩, ⟨_, _⟩, _, ⟨_, _⟩, ⟨_, _⟩, ⟨_, _⟩, hO7⟩ := (show tI N M9 O9 from hI)
        have := b_le7 hO7
        refine ⟨fun hc10 => ?_, fun hc10 => ?_⟩
        · have : (6 : Int32).toInt = 6 := by decide
          have := ti_rng r8
          have hc10 := Int32.lt_iff_toInt_lt.mp hc10
          refine ⟨fun hc11 => ?_, fun hc11 => ?_⟩
          · have : (13 : Int32).toInt = 13 := by decide
            have hc11 := Int32.lt_iff_toInt_lt.mp hc11
            refine ⟨fun hc12 => ?_, fun hc12 => ?_⟩
            · have : (21 : Int32).toInt = 21 := by decide
              have hc12 := Int32.lt_iff_toInt_lt.mp hc12
              refine spT_X8_doObjection hN _ (show tI N M9 O9 from hI) (fun M13 O13 hI hk1 => ?_)
              have hk := tK_tr (show tK M0 M9 from hk) hk1
              obtain ⟨⟨_, _⟩, ⟨_, _⟩, _, ⟨_, _⟩, ⟨_, _⟩, ⟨_, _⟩, hO7⟩ := (show tI N M13 O13 from hI)
              have := b_le7 hO7
              exact spT_X8_hold_84 hN ih hQ _ _ _ (show tI N M13 O13 from hI) (show tK M0 M13 from hk) (show ((0 ≤ a4.toInt ∧ a4.toInt ≤ 1000000000) ∧ (1000000000 - a4.toInt) ≤ (n10 : Int) ∧ 1 ≤ (1000000000 - a4.toInt)) from by omega)
            · have : (21 : Int32).toInt = 21 := by decide
              have hc12 := ti_nlt hc12
              refine spT_X8_doTwoNumbers hN _ (show tI N M9 O9 from hI) (fun M16 O16 hI hk1 => ?_)
              have hk := tK_tr (show tK M0 M9 from hk) hk1
              obtain ⟨⟨_, _⟩, ⟨_, _⟩, _, ⟨_, _⟩, ⟨_, _⟩, ⟨_, _⟩, hO7⟩ := (show tI N M16 O16 from hI)
              have := b_le7 hO7
              exact spT_X8_hold_84 hN ih hQ _ _ _ (show tI N M16 O16 from hI) (show tK M0 M16 from hk) (show ((0 ≤ a4.toInt ∧ a4.toInt ≤ 1000000000) ∧ (1000000000 - a4.toInt) ≤ (n10 : Int) ∧ 1 ≤ (1000000000 - a4.toInt)) from by omega)
          · have : (13 : Int32).toInt = 13 := by decide
            have hc11 := ti_nlt hc11
            refine spT_X8_doNumber hN _ (show tI N M9 O9 from hI) (fun M17 O17 hI hk1 => ?_)
            have hk := tK_tr (show tK M0 M9 from hk) hk1
            obtain ⟨⟨_, _⟩, ⟨_, _⟩, _, ⟨_, _⟩, ⟨_, _⟩, ⟨_, _⟩, hO7⟩ := (show tI N M17 O17 from hI)
            have := b_le7 hO7
            exact spT_X8_hold_84 hN ih hQ _ _ _ (show tI N M17 O17 from hI) (show tK M0 M17 from hk) (show ((0 ≤ a4.toInt ∧ a4.toInt ≤ 1000000000) ∧ (1000000000 - a4.toInt) ≤ (n10 : Int) ∧ 1 ≤ (1000000000 - a4.toInt)) from by omega)
        · have : (6 : Int32).toInt = 6 := by decide
          have := ti_rng r8
          have hc10 := ti_nlt hc10
          refine spT_X8_doCourse hN _ (show tI N M9 O9 from hI) (fun M18 O18 hI hk1 => ?_)
          have hk := tK_tr (show tK M0 M9 from hk) hk1
          obtain ⟨⟨_, _⟩, ⟨_, _⟩, _, ⟨_, _⟩, ⟨_, _⟩, ⟨_, _⟩, hO7⟩ := (show tI N M18 O18 from hI)
          have := b_le7 hO7
          exact spT_X8_hold_84 hN ih hQ _ _ _ (show tI N M18 O18 from hI) (show tK M0 M18 from hk) (show ((0 ≤ a4.toInt ∧ a4.toInt ≤ 1000000000) ∧ (1000000000 - a4.toInt) ≤ (n10 : Int) ∧ 1 ≤ (1000000000 - a4.toInt)) from by omega)
set_option maxHeartbeats 2000000 in
theorem spT_X8_hold {N : Nat → Nat} (hN : tN N) (q1 : Int32) (q2 : Int32) (q3 : Int32) {M0 : Nat → Int32} {O : Nat × Nat} {Q : Int32 → (Nat → Int32) → Nat × Nat → Prop} (hI : tI N M0 O) (hQ : ∀ (r : Int32) (M' : Nat → Int32) (O' : Nat × Nat), tI N M' O' → tK M0 M' → Q r M' O') : wT_X8_hold N q1 q2 q3 M0 O Q := by
  obtain ⟨_, _, _, _, _, _, _, _, _, _, _, _, _⟩ := (show tN N from hN)
  obtain ⟨⟨_, _⟩, ⟨_, _⟩, _, ⟨_, _⟩, ⟨_, _⟩, ⟨_, _⟩, hO7⟩ := (show tI N M0 O from hI)
  have hk : tK M0 M0 := tK_rf M0
  unfold wT_X8_hold
  have := b_le7 hO7
  have := ti_rng q1
  have := ti_rng q2
  have := ti_rng q3
  refine spT_X8_start hN _ _ _ (show tI N M0 O from hI) (fun M1 O1 hI hk1 => ?_)
  have hk := tK_tr (show tK M0 M0 from hk) hk1
  obtain ⟨⟨_, _⟩, ⟨_, _⟩, _, ⟨_, _⟩, ⟨_, _⟩, ⟨_, _⟩, hO7⟩ := (show tI N M1 O1 from hI)
  have := b_le7 hO7
  have : (0 : Int32).toInt = 0 := by decide
  exact ⟨((1000000000 - 0.toInt) + 1).toNat, spT_X8_hold_10 hN hQ _ _ _ _ (show tI N M1 O1 from hI) (show tK M0 M1 from hk) (show 0 ≤ 0.toInt ∧ 0.toInt ≤ 1000000000 from by omega) (show (1000000000 - 0.toInt) + 1 ≤ _ from by omega)⟩
set_option maxHeartbeats 2000000 in
theorem spT_X5_strike {N : Nat → Nat} (hN : tN N) (q1 : Int32) (q2 : Int32) {M0 : Nat → Int32} {O : Nat × Nat} {Q : (Nat → Int32) → Nat × Nat → Prop} (hI : tI N M0 O) (hQ : ∀ (M' : Nat → Int32) (O' : Nat × Nat), tI N M' O' → tK M0 M' → Q M' O') : wT_X5_strike N q1 q2 M0 O Q := by
  obtain ⟨_, _, _, _, _, _, _, _, _, _, _, _, _⟩ := (show tN N from hN)
  obtain ⟨⟨_, _⟩, ⟨_, _⟩, _, ⟨_, _⟩, ⟨_, _⟩, ⟨_, _⟩, hO7⟩ := (show tI N M0 O from hI)
  have hk : tK M0 M0 := tK_rf M0
  unfold wT_X5_strike
  have := b_le7 hO7
  exact hQ _ _ (show tI N (um (um (um M0 32 1) 34 q1) 35 q2) O from hI) (show tK M0 (um (um (um M0 32 1) 34 q1) 35 q2) from hk)
set_option maxHeartbeats 2000000 in
theorem spT_X0_struck {N : Nat → Nat} (hN : tN N) (q1 : Int32) (q2 : Int32) {M0 : Nat → Int32} {O : Nat × Nat} {Q : Int32 → (Nat → Int32) → Nat × Nat → Prop} (hI : tI N M0 O) (hQ : ∀ (r : Int32) (M' : Nat → Int32) (O' : Nat × Nat), tI N M' O' → tK M0 M' → Q r M' O') : wT_X0_struck N q1 q2 M0 O Q := by
  obtain ⟨_, _, _, _, _, _, _, _, _, _, _, _, _⟩ := (show tN N from hN)
  obtain ⟨⟨_, _⟩, ⟨_, _⟩, _, ⟨_, _⟩, ⟨_, _⟩, ⟨_, _⟩, hO7⟩ := (show tI N M0 O from hI)
  have hk : tK M0 M0 := tK_rf M0
  unfold wT_X0_struck
  have := b_le7 hO7
  have := ti_rng q1
  have := ti_rng q2
  refine spT_X5_strike hN _ _ (show tI N M0 O from hI) (fun M1 O1 hI hk1 => ?_)
  have hk := tK_tr (show tK M0 M0 from hk) hk1
  obtain ⟨⟨_, _⟩, ⟨_, _⟩, _, ⟨_, _⟩, ⟨_, _⟩, ⟨_, _⟩, hO7⟩ := (show tI N M1 O1 from hI)
  have := b_le7 hO7
  exact hQ _ _ _ (show tI N M1 O1 from hI) (show tK M0 M1 from hk)
set_option maxHeartbeats 2000000 in
theorem spT_X2_groundOf {N : Nat → Nat} (hN : tN N) (q1 : Int32) {M0 : Nat → Int32} {O : Nat × Nat} {Q : Int32 → (Nat → Int32) → Nat × Nat → Prop} (hI : tI N M0 O) (hQ : ∀ (r : Int32) (M' : Nat → Int32) (O' : Nat × Nat), tI N M' O' → tK M0 M' → Q r M' O') : wT_X2_groundOf N q1 M0 O Q := by
  obtain ⟨_, _, _, _, _, _, _, _, _, _, _, _, _⟩ := (show tN N from hN)
  obtain ⟨⟨_, _⟩, ⟨_, _⟩, _, ⟨_, _⟩, ⟨_, _⟩, ⟨_, _⟩, hO7⟩ := (show tI N M0 O from hI)
  have hk : tK M0 M0 := tK_rf M0
  unfold wT_X2_groundOf
  have := b_le7 hO7
  have := ti_rng q1
  have : (1 : Int32).toInt = 1 := by decide
  refine spT_X2_get hN _ _ (show tI N M0 O from hI) (fun r1 M2 O2 hI hk1 => ?_)
  have hk := tK_tr (show tK M0 M0 from hk) hk1
  obtain ⟨⟨_, _⟩, ⟨_, _⟩, _, ⟨_, _⟩, ⟨_, _⟩, ⟨_, _⟩, hO7⟩ := (show tI N M2 O2 from hI)
  have := b_le7 hO7
  exact hQ _ _ _ (show tI N M2 O2 from hI) (show tK M0 M2 from hk)
set_option maxHeartbeats 2000000 in
theorem spT_X0_wrapped {N : Nat → Nat} (hN : tN N) (q1 : Int32) (q2 : Int32) {M0 : Nat → Int32} {O : Nat × Nat} {Q : Int32 → (Nat → Int32) → Nat × Nat → Prop} (hI : tI N M0 O) (hQ : ∀ (r : Int32) (M' : Nat → Int32) (O' : Nat × Nat), tI N M' O' → tK M0 M' → Q r M' O') : wT_X0_wrapped N q1 q2 M0 O Q := by
  obtain ⟨_, _, _, _, _, _, _, _, _, _, _, _, _⟩ := (show tN N from hN)
  obtain ⟨⟨_, _⟩, ⟨_, _⟩, _, ⟨_, _⟩, ⟨_, _⟩, ⟨_, _⟩, hO7⟩ := (show tI N M0 O from hI)
  have hk : tK M0 M0 := tK_rf M0
  unfold wT_X0_wrapped
  have := b_le7 hO7
  have := ti_rng q1
  refine spT_X2_groundOf hN _ (show tI N M0 O from hI) (fun r1 M2 O2 hI hk1 => ?_)
  have hk := tK_tr (show tK M0 M0 from hk) hk1
  obtain ⟨⟨_, _⟩, ⟨_, _⟩, _, ⟨_, _⟩, ⟨_, _⟩, ⟨_, _⟩, hO7⟩ := (show tI N M2 O2 from hI)
  have := b_le7 hO7
  have := ti_rng q2
  have := ti_rng r1
  have : (0 : Int32).toInt = 0 := by decide
  have : ((-1) : Int32).toInt = -1 := by decide
  refine spT_X2_makeInTrial hN _ _ _ _ (show tI N M2 O2 from hI) (fun r3 M4 O4 hI hk1 => ?_)
  have hk := tK_tr (show tK M0 M2 from hk) hk1
  obtain ⟨⟨_, _⟩, ⟨_, _⟩, _, ⟨_, _⟩, ⟨_, _⟩, ⟨_, _⟩, hO7⟩ := (show tI N M4 O4 from hI)
  have := b_le7 hO7
  refine ⟨fun hc5 => ?_, fun hc5 => ?_⟩
  · have := ti_rng r3
    have hc59 := ti_ne hc5
    refine spT_X2_settle hN _ _ (show tI N M4 O4 from hI) (fun M6 O6 hI hk1 => ?_)
    have hk := tK_tr (show tK M0 M4 from hk) hk1
    obtain ⟨⟨_, _⟩, ⟨_, _⟩, _, ⟨_, _⟩, ⟨_, _⟩, ⟨_, _⟩, hO7⟩ := (show tI N M6 O6 from hI)
    have := b_le7 hO7
    exact hQ _ _ _ (show tI N M6 O6 from hI) (show tK M0 M6 from hk)
  · have := ti_rng r3
    have hc59 := congrArg Int32.toInt hc5
    refine spT_X5_adjourn hN  (show tI N M4 O4 from hI) (fun M7 O7 hI hk1 => ?_)
    have hk := tK_tr (show tK M0 M4 from hk) hk1
    obtain ⟨⟨_, _⟩, ⟨_, _⟩, _, ⟨_, _⟩, ⟨_, _⟩, ⟨_, _⟩, hO7⟩ := (show tI N M7 O7 from hI)
    have := b_le7 hO7
    exact hQ _ _ _ (show tI N M7 O7 from hI) (show tK M0 M7 from hk)
set_option maxHeartbeats 2000000 in
theorem spT_X0_entered {N : Nat → Nat} (hN : tN N) (q1 : Int32) (q2 : Int32) {M0 : Nat → Int32} {O : Nat × Nat} {Q : Int32 → (Nat → Int32) → Nat × Nat → Prop} (hI : tI N M0 O) (hQ : ∀ (r : Int32) (M' : Nat → Int32) (O' : Nat × Nat), tI N M' O' → tK M0 M' → Q r M' O') : wT_X0_entered N q1 q2 M0 O Q := by
  obtain ⟨_, _, _, _, _, _, _, _, _, _, _, _, _⟩ := (show tN N from hN)
  obtain ⟨⟨_, _⟩, ⟨_, _⟩, _, ⟨_, _⟩, ⟨_, _⟩, ⟨_, _⟩, hO7⟩ := (show tI N M0 O from hI)
  have hk : tK M0 M0 := tK_rf M0
  unfold wT_X0_entered
  have := b_le7 hO7
  have := ti_rng q1
  refine spT_X0_complaintOf hN _ (show tI N M0 O from hI) (fun r1 M2 O2 hI hk1 => ?_)
  have hk := tK_tr (show tK M0 M0 from hk) hk1
  obtain ⟨⟨_, _⟩, ⟨_, _⟩, _, ⟨_, _⟩, ⟨_, _⟩, ⟨_, _⟩, hO7⟩ := (show tI N M2 O2 from hI)
  have := b_le7 hO7
  refine ⟨fun hc3 => ?_, fun hc3 => ?_⟩
  · have := ti_rng r1
    have : (0 : Int32).toInt = 0 := by decide
    have hc39 := ti_ne hc3
    have := ti_rng q2
    refine spT_X2_join hN _ _ (show tI N M2 O2 from hI) (fun r4 M5 O5 hI hk1 => ?_)
    have hk := tK_tr (show tK M0 M2 from hk) hk1
    obtain ⟨⟨_, _⟩, ⟨_, _⟩, _, ⟨_, _⟩, ⟨_, _⟩, ⟨_, _⟩, hO7⟩ := (show tI N M5 O5 from hI)
    have := b_le7 hO7
    refine ⟨fun hc6 => ?_, fun hc6 => ?_⟩
    · have := ti_rng r4
      have : ((-1) : Int32).toInt = -1 := by decide
      have hc69 := ti_ne hc6
      exact hQ _ _ _ (show tI N M5 O5 from hI) (show tK M0 M5 from hk)
    · have := ti_rng r4
      have : ((-1) : Int32).toInt = -1 := by decide
      have hc69 := congrArg Int32.toInt hc6
      exact hQ _ _ _ (show tI N M5 O5 from hI) (show tK M0 M5 from hk)
  · have := ti_rng r1
    have : (0 : Int32).toInt = 0 := by decide
    have hc39 := congrArg Int32.toInt hc3
    exact hQ _ _ _ (show tI N M2 O2 from hI) (show tK M0 M2 from hk)
set_option maxHeartbeats 2000000 in
theorem spT_X0_dealtWith {N : Nat → Nat} (hN : tN N) (q1 : Int32) (q2 : Int32) (q3 : Int32) (q4 : Int32) {M0 : Nat → Int32} {O : Nat × Nat} {Q : Int32 → (Nat → Int32) → Nat × Nat → Prop} (hI : tI N M0 O) (hQ : ∀ (r : Int32) (M' : Nat → Int32) (O' : Nat × Nat), tI N M' O' → tK M0 M' → Q r M' O') : wT_X0_dealtWith N q1 q2 q3 q4 M0 O Q := by
  obtain ⟨_, _, _, _, _, _, _, _, _, _, _, _, _⟩ := (show tN N from hN)
  obtain ⟨⟨_, _⟩, ⟨_, _⟩, _, ⟨_, _⟩, ⟨_, _⟩, ⟨_, _⟩, hO7⟩ := (show tI N M0 O from hI)
  have hk : tK M0 M0 := tK_rf M0
  unfold wT_X0_dealtWith
  have := b_le7 hO7
  refine ⟨fun hk => ?_, fun hk => ?_, fun hk => ?_, fun hk => ?_, fun hk => ?_, fun hk0 hk1 hk2 hk3 hk4 => ?_⟩
  · have := ti_rng q3
    have : (1 : Int32).toInt = 1 := by decide
    have hk9 := congrArg Int32.toInt hk
    have := ti_rng q1
    have := ti_rng q2
    refine spT_X0_struck hN _ _ (show tI N M0 O from hI) (fun r1 M2 O2 hI hk1 => ?_)
    have hk := tK_tr (show tK M0 M0 from hk) hk1
    obtain ⟨⟨_, _⟩, ⟨_, _⟩, _, ⟨_, _⟩, ⟨_, _⟩, ⟨_, _⟩, hO7⟩ := (show tI N M2 O2 from hI)
    have := b_le7 hO7
    exact hQ _ _ _ (show tI N M2 O2 from hI) (show tK M0 M2 from hk)
  · have := ti_rng q3
    have : (2 : Int32).toInt = 2 := by decide
    have hk9 := congrArg Int32.toInt hk
    have := ti_rng q2
    have := ti_rng q4
    refine spT_X0_wrapped hN _ _ (show tI N M0 O from hI) (fun r3 M4 O4 hI hk1 => ?_)
    have hk := tK_tr (show tK M0 M0 from hk) hk1
    obtain ⟨⟨_, _⟩, ⟨_, _⟩, _, ⟨_, _⟩, ⟨_, _⟩, ⟨_, _⟩, hO7⟩ := (show tI N M4 O4 from hI)
    have := b_le7 hO7
    exact hQ _ _ _ (show tI N M4 O4 from hI) (show tK M0 M4 from hk)
  · have := ti_rng q3
    have : (3 : Int32).toInt = 3 := by decide
    have hk9 := congrArg Int32.toInt hk
    exact hQ _ _ _ (show tI N M0 O from hI) (show tK M0 M0 from hk)
  · have := ti_rng q3
    have : (4 : Int32).toInt = 4 := by decide
    have hk9 := congrArg Int32.toInt hk
    have := ti_rng q1
    have := ti_rng q2
    refine spT_X0_entered hN _ _ (show tI N M0 O from hI) (fun r5 M6 O6 hI hk1 => ?_)
    have hk := tK_tr (show tK M0 M0 from hk) hk1
    obtain ⟨⟨_, _⟩, ⟨_, _⟩, _, ⟨_, _⟩, ⟨_, _⟩, ⟨_, _⟩, hO7⟩ := (show tI N M6 O6 from hI)
    have := b_le7 hO7
    exact hQ _ _ _ (show tI N M6 O6 from hI) (show tK M0 M6 from hk)
  · have := ti_rng q3
    have : (5 : Int32).toInt = 5 := by decide
    have hk9 := congrArg Int32.toInt hk
    have := ti_rng q2
    refine spT_X2_weightOf hN _ (show tI N M0 O from hI) (fun r7 M8 O8 hI hk1 => ?_)
    have hk := tK_tr (show tK M0 M0 from hk) hk1
    obtain ⟨⟨_, _⟩, ⟨_, _⟩, _, ⟨_, _⟩, ⟨_, _⟩, ⟨_, _⟩, hO7⟩ := (show tI N M8 O8 from hI)
    have := b_le7 hO7
    refine ⟨fun hc9 => ?_, fun hc9 => ?_⟩
    · have := ti_rng q4
      have := ti_rng r7
      have hc9 := Int32.le_iff_toInt_le.mp hc9
      exact hQ _ _ _ (show tI N M8 O8 from hI) (show tK M0 M8 from hk)
    · have := ti_rng q4
      have := ti_rng r7
      have hc9 := ti_nle hc9
      have := ti_rng q1
      refine spT_X0_struck hN _ _ (show tI N M8 O8 from hI) (fun r10 M11 O11 hI hk1 => ?_)
      have hk := tK_tr (show tK M0 M8 from hk) hk1
      obtain ⟨⟨_, _⟩, ⟨_, _⟩, _, ⟨_, _⟩, ⟨_, _⟩, ⟨_, _⟩, hO7⟩ := (show tI N M11 O11 from hI)
      have := b_le7 hO7
      exact hQ _ _ _ (show tI N M11 O11 from hI) (show tK M0 M11 from hk)
  · have := ti_rng q3
    exact hQ _ _ _ (show tI N M0 O from hI) (show tK M0 M0 from hk)
set_option maxHeartbeats 2000000 in
theorem spT_X5_uphold {N : Nat → Nat} (hN : tN N) (q1 : Int32) {M0 : Nat → Int32} {O : Nat × Nat} {Q : (Nat → Int32) → Nat × Nat → Prop} (hI : tI N M0 O) (hQ : ∀ (M' : Nat → Int32) (O' : Nat × Nat), tI N M' O' → tK M0 M' → Q M' O') : wT_X5_uphold N q1 M0 O Q := by
  obtain ⟨_, _, _, _, _, _, _, _, _, _, _, _, _⟩ := (show tN N from hN)
  obtain ⟨⟨_, _⟩, ⟨_, _⟩, _, ⟨_, _⟩, ⟨_, _⟩, ⟨_, _⟩, hO7⟩ := (show tI N M0 O from hI)
  have hk : tK M0 M0 := tK_rf M0
  unfold wT_X5_uphold
  have := b_le7 hO7
  exact hQ _ _ (show tI N (um (um M0 32 2) 35 q1) O from hI) (show tK M0 (um (um M0 32 2) 35 q1) from hk)
set_option maxHeartbeats 2000000 in
theorem spT_X0_conduct_211 {N : Nat → Nat} (hN : tN N) {Q : (Nat → Int32) → Nat × Nat → Prop} {M0 : Nat → Int32} {q1 : Int32} {q2 : Int32} {q3 : Int32} (hQ : ∀ (M' : Nat → Int32) (O' : Nat × Nat), tI N M' O' → tK M0 M' → Q M' O') (a6 : Int32) (M : Nat → Int32) (O : Nat × Nat) (hI : tI N M O) (hk : tK M0 M) : wT_X0_conduct_211 N Q a6 M O := by
  obtain ⟨_, _, _, _, _, _, _, _, _, _, _, _, _⟩ := (show tN N from hN)
  obtain ⟨⟨_, _⟩, ⟨_, _⟩, _, ⟨_, _⟩, ⟨_, _⟩, ⟨_, _⟩, hO7⟩ := (show tI N M O from hI)
  unfold wT_X0_conduct_211
  have := b_le7 hO7
  refine ⟨fun hc4 => ?_, fun hc4 => ?_⟩
  · have := ti_rng a6
    have : (0 : Int32).toInt = 0 := by decide
    have hc49 := congrArg Int32.toInt hc4
    exact hQ _ _ (show tI N M O from hI) (show tK M0 M from hk)
  · have := ti_rng a6
    have : (0 : Int32).toInt = 0 := by decide
    have hc49 := ti_ne hc4
    refine spT_X5_uphold hN _ (show tI N M O from hI) (fun M5 O5 hI hk1 => ?_)
    have hk := tK_tr (show tK M0 M from hk) hk1
    obtain ⟨⟨_, _⟩, ⟨_, _⟩, _, ⟨_, _⟩, ⟨_, _⟩, ⟨_, _⟩, hO7⟩ := (show tI N M5 O5 from hI)
    have := b_le7 hO7
    exact hQ _ _ (show tI N M5 O5 from hI) (show tK M0 M5 from hk)
set_option maxHeartbeats 2000000 in
theorem spT_X0_conduct_205 {N : Nat → Nat} (hN : tN N) {K21 : (Int32 → Int32 → Int32 → Int32 → Int32 → Int32 → Int32 → (Nat → Int32) → (Nat × Nat) → Prop)} {n21 : Nat} {Q : (Nat → Int32) → Nat × Nat → Prop} {M0 : Nat → Int32} {q1 : Int32} {q2 : Int32} {q3 : Int32} (sK21 : ∀ (a1 : Int32) (a2 : Int32) (a3 : Int32) (a4 : Int32) (a5 : Int32) (a6 : Int32) (a7 : Int32) (M : Nat → Int32) (O : Nat × Nat), tI N M O → tK M0 M → (0 ≤ a7.toInt ∧ a7.toInt ≤ 100) → (100 - a7.toInt) + 1 ≤ (n21 : Int) → K21 a1 a2 a3 a4 a5 a6 a7 M O) (hQ : ∀ (M' : Nat → Int32) (O' : Nat × Nat), tI N M' O' → tK M0 M' → Q M' O') (a1 : Int32) (a2 : Int32) (a3 : Int32) (a4 : Int32) (a5 : Int32) (a6 : Int32) (a7 : Int32) (M : Nat → Int32) (O : Nat × Nat) (hI : tI N M O) (hk : tK M0 M) (hbi : ((0 ≤ a7.toInt ∧ a7.toInt ≤ 100) ∧ (100 - a7.toInt) ≤ (n21 : Int) ∧ 1 ≤ (100 - a7.toInt))) : wT_X0_conduct_205 N K21 Q a1 a2 a3 a4 a5 a6 a7 M O := by
  obtain ⟨_, _, _, _, _, _, _, _, _, _, _, _, _⟩ := (show tN N from hN)
  obtain ⟨⟨_, _⟩, ⟨_, _⟩, _, ⟨_, _⟩, ⟨_, _⟩, ⟨_, _⟩, hO7⟩ := (show tI N M O from hI)
  unfold wT_X0_conduct_205
  have := b_le7 hO7
  have := ti_rng a1
  have := ti_rng a2
  have := ti_rng a3
  have := ti_rng a4
  have := ti_rng a5
  have := ti_rng a6
  have := ti_rng a7
  have : (1 : Int32).toInt = 1 := by decide
  obtain ⟨_, _, _, _⟩ := ti_add a7 1
  exact sK21 _ _ _ _ _ _ _ _ _ (show tI N M O from hI) (show tK M0 M from hk) (show 0 ≤ (a7 + 1).toInt ∧ (a7 + 1).toInt ≤ 100 from by omega) (show (100 - (a7 + 1).toInt) + 1 ≤ _ from by omega)
set_option maxHeartbeats 2000000 in
theorem spT_X0_conduct_186 {N : Nat → Nat} (hN : tN N) {K21 : (Int32 → Int32 → Int32 → Int32 → Int32 → Int32 → Int32 → (Nat → Int32) → (Nat × Nat) → Prop)} {n21 : Nat} {Q : (Nat → Int32) → Nat × Nat → Prop} {M0 : Nat → Int32} {q1 : Int32} {q2 : Int32} {q3 : Int32} (sK21 : ∀ (a1 : Int32) (a2 : Int32) (a3 : Int32) (a4 : Int32) (a5 : Int32) (a6 : Int32) (a7 : Int32) (M : Nat → Int32) (O : Nat × Nat), tI N M O → tK M0 M → (0 ≤ a7.toInt ∧ a7.toInt ≤ 100) → (100 - a7.toInt) + 1 ≤ (n21 : Int) → K21 a1 a2 a3 a4 a5 a6 a7 M O) (hQ : ∀ (M' : Nat → Int32) (O' : Nat × Nat), tI N M' O' → tK M0 M' → Q M' O') (a1 : Int32) (a2 : Int32) (a3 : Int32) (a4 : Int32) (a5 : Int32) (a6 : Int32) (a7 : Int32) (a10 : Int32) (t0 : Int32) (M : Nat → Int32) (O : Nat × Nat) (hI : tI N M O) (hk : tK M0 M) (hbi : ((0 ≤ a7.toInt ∧ a7.toInt ≤ 100) ∧ (100 - a7.toInt) ≤ (n21 : Int) ∧ 1 ≤ (100 - a7.toInt))) : wT_X0_conduct_186 N K21 Q a1 a2 a3 a4 a5 a6 a7 a10 t0 M O := by
  obtain ⟨_, _, _, _, _, _, _, _, _, _, _, _, _⟩ := (show tN N from hN)
  obtain ⟨⟨_, _⟩, ⟨_, _⟩, _, ⟨_, _⟩, ⟨_, _⟩, ⟨_, _⟩, hO7⟩ := (show tI N M O from hI)
  unfold wT_X0_conduct_186
  have := b_le7 hO7
  have := ti_rng a5
  have := ti_rng a6
  have := ti_rng a10
  have := ti_rng t0
  refine spT_X0_dealtWith hN _ _ _ _ (show tI N M O from hI) (fun r17 M18 O18 hI hk1 => ?_)
  have hk := tK_tr (show tK M0 M from hk) hk1
  obtain ⟨⟨_, _⟩, ⟨_, _⟩, _, ⟨_, _⟩, ⟨_, _⟩, ⟨_, _⟩, hO7⟩ := (show tI N M18 O18 from hI)
  have := b_le7 hO7
  have := ti_rng a1
  have := ti_rng a2
  have := ti_rng a3
  have := ti_rng a4
  have : (1 : Int32).toInt = 1 := by decide
  obtain ⟨_, _, _, _⟩ := ti_add a5 1
  have := ti_rng r17
  have := ti_rng a7
  exact spT_X0_conduct_205 hN sK21 hQ _ _ _ _ _ _ _ _ _ (show tI N M18 O18 from hI) (show tK M0 M18 from hk) (show ((0 ≤ a7.toInt ∧ a7.toInt ≤ 100) ∧ (100 - a7.toInt) ≤ (n21 : Int) ∧ 1 ≤ (100 - a7.toInt)) from by omega)
set_option maxHeartbeats 2000000 in
theorem spT_X0_conduct_185 {N : Nat → Nat} (hN : tN N) {K21 : (Int32 → Int32 → Int32 → Int32 → Int32 → Int32 → Int32 → (Nat → Int32) → (Nat × Nat) → Prop)} {n21 : Nat} {Q : (Nat → Int32) → Nat × Nat → Prop} {M0 : Nat → Int32} {q1 : Int32} {q2 : Int32} {q3 : Int32} (sK21 : ∀ (a1 : Int32) (a2 : Int32) (a3 : Int32) (a4 : Int32) (a5 : Int32) (a6 : Int32) (a7 : Int32) (M : Nat → Int32) (O : Nat × Nat), tI N M O → tK M0 M → (0 ≤ a7.toInt ∧ a7.toInt ≤ 100) → (100 - a7.toInt) + 1 ≤ (n21 : Int) → K21 a1 a2 a3 a4 a5 a6 a7 M O) (hQ : ∀ (M' : Nat → Int32) (O' : Nat × Nat), tI N M' O' → tK M0 M' → Q M' O') (a1 : Int32) (a2 : Int32) (a3 : Int32) (a4 : Int32) (a5 : Int32) (a6 : Int32) (a7 : Int32) (a10 : Int32) (M : Nat → Int32) (O : Nat × Nat) (hI : tI N M O) (hk : tK M0 M) (hbi : ((0 ≤ a7.toInt ∧ a7.toInt ≤ 100) ∧ (100 - a7.toInt) ≤ (n21 : Int) ∧ 1 ≤ (100 - a7.toInt))) : wT_X0_conduct_185 N K21 Q a1 a2 a3 a4 a5 a6 a7 a10 M O := by
  obtain ⟨_, _, _, _, _, _, _, _, _, _, _, _, _⟩ := (show tN N from hN)
  obtain ⟨⟨_, _⟩, ⟨_, _⟩, _, ⟨_, _⟩, ⟨_, _⟩, ⟨_, _⟩, hO7⟩ := (show tI N M O from hI)
  unfold wT_X0_conduct_185
  have := b_le7 hO7
  have := ti_rng a1
  have := ti_rng a2
  have := ti_rng a3
  have := ti_rng a4
  have := ti_rng a5
  have := ti_rng a6
  have := ti_rng a7
  have := ti_rng a10
  have : (0 : Int32).toInt = 0 := by decide
  exact spT_X0_conduct_186 hN sK21 hQ _ _ _ _ _ _ _ _ _ _ _ (show tI N M O from hI) (show tK M0 M from hk) (show ((0 ≤ a7.toInt ∧ a7.toInt ≤ 100) ∧ (100 - a7.toInt) ≤ (n21 : Int) ∧ 1 ≤ (100 - a7.toInt)) from by omega)
set_option maxHeartbeats 2000000 in
theorem spT_X0_conduct_109 {N : Nat → Nat} (hN : tN N) {K21 : (Int32 → Int32 → Int32 → Int32 → Int32 → Int32 → Int32 → (Nat → Int32) → (Nat × Nat) → Prop)} {n21 : Nat} {Q : (Nat → Int32) → Nat × Nat → Prop} {M0 : Nat → Int32} {q1 : Int32} {q2 : Int32} {q3 : Int32} (sK21 : ∀ (a1 : Int32) (a2 : Int32) (a3 : Int32) (a4 : Int32) (a5 : Int32) (a6 : Int32) (a7 : Int32) (M : Nat → Int32) (O : Nat × Nat), tI N M O → tK M0 M → (0 ≤ a7.toInt ∧ a7.toInt ≤ 100) → (100 - a7.toInt) + 1 ≤ (n21 : Int) → K21 a1 a2 a3 a4 a5 a6 a7 M O) (hQ : ∀ (M' : Nat → Int32) (O' : Nat × Nat), tI N M' O' → tK M0 M' → Q M' O') (a1 : Int32) (a2 : Int32) (a3 : Int32) (a4 : Int32) (a5 : Int32) (a6 : Int32) (a7 : Int32) (a9 : Int32) (t0 : Int32) (M : Nat → Int32) (O : Nat × Nat) (hI : tI N M O) (hk : tK M0 M) (hbi : ((0 ≤ a7.toInt ∧ a7.toInt ≤ 100) ∧ (100 - a7.toInt) ≤ (n21 : Int) ∧ 1 ≤ (100 - a7.toInt))) : wT_X0_conduct_109 N K21 Q a1 a2 a3 a4 a5 a6 a7 a9 t0 M O := by
  obtain ⟨_, _, _, _, _, _, _, _, _, _, _, _, _⟩ := (show tN N from hN)
  obtain ⟨⟨_, _⟩, ⟨_, _⟩, _, ⟨_, _⟩, ⟨_, _⟩, ⟨_, _⟩, hO7⟩ := (show tI N M O from hI)
  unfold wT_X0_conduct_109
  have := b_le7 hO7
  refine ⟨fun hc15 => ?_, fun hc15 => ?_⟩
  · have := ti_rng t0
    have : (3 : Int32).toInt = 3 := by decide
    have hc159 := ti_ne hc15
    refine ⟨fun hc16 => ?_, fun hc16 => ?_⟩
    · have := ti_rng a9
      have : (0 : Int32).toInt = 0 := by decide
      have hc16 := Int32.lt_iff_toInt_lt.mp hc16
      have := ti_rng a1
      have := ti_rng a2
      have := ti_rng a3
      have := ti_rng a4
      have := ti_rng a5
      have := ti_rng a6
      have := ti_rng a7
      exact spT_X0_conduct_185 hN sK21 hQ _ _ _ _ _ _ _ _ _ _ (show tI N M O from hI) (show tK M0 M from hk) (show ((0 ≤ a7.toInt ∧ a7.toInt ≤ 100) ∧ (100 - a7.toInt) ≤ (n21 : Int) ∧ 1 ≤ (100 - a7.toInt)) from by omega)
    · have := ti_rng a9
      have : (0 : Int32).toInt = 0 := by decide
      have hc16 := ti_nlt hc16
      refine ⟨fun hc19 => ?_, fun hc19 => ?_⟩
      · have := nI_toInt (n := (N 12)) (by omega)
        have hc19 := Int32.le_iff_toInt_le.mp hc19
        have := ti_rng a1
        have := ti_rng a2
        have := ti_rng a3
        have := ti_rng a4
        have := ti_rng a5
        have := ti_rng a6
        have := ti_rng a7
        exact spT_X0_conduct_185 hN sK21 hQ _ _ _ _ _ _ _ _ _ _ (show tI N M O from hI) (show tK M0 M from hk) (show ((0 ≤ a7.toInt ∧ a7.toInt ≤ 100) ∧ (100 - a7.toInt) ≤ (n21 : Int) ∧ 1 ≤ (100 - a7.toInt)) from by omega)
      · have := nI_toInt (n := (N 12)) (by omega)
        have hc19 := ti_nle hc19
        refine ⟨vp_in_iff.mpr (by omega), fun z20 => ?_⟩
        have := ti_rng a1
        have := ti_rng a2
        have := ti_rng a3
        have := ti_rng a4
        have := ti_rng a5
        have := ti_rng a6
        have := ti_rng a7
        have := ti_rng z20
        exact spT_X0_conduct_186 hN sK21 hQ _ _ _ _ _ _ _ _ _ _ _ (show tI N M O from hI) (show tK M0 M from hk) (show ((0 ≤ a7.toInt ∧ a7.toInt ≤ 100) ∧ (100 - a7.toInt) ≤ (n21 : Int) ∧ 1 ≤ (100 - a7.toInt)) from by omega)
  · have := ti_rng t0
    have : (3 : Int32).toInt = 3 := by decide
    have hc159 := congrArg Int32.toInt hc15
    intro z21 hz21
    subst hz21
    intro z22 hz22
    subst hz22
    have := ti_rng a1
    have := ti_rng a2
    have := ti_rng a3
    refine spT_X8_hold hN _ _ _ (show tI N (um M 37 ((M 37) + 1)) O from hI) (fun r23 M24 O24 hI hk1 => ?_)
    have hk := tK_tr (show tK M0 (um M 37 ((M 37) + 1)) from hk) hk1
    obtain ⟨⟨_, _⟩, ⟨_, _⟩, _, ⟨_, _⟩, ⟨_, _⟩, ⟨_, _⟩, hO7⟩ := (show tI N M24 O24 from hI)
    have := b_le7 hO7
    have := ti_rng (((a4 >>> (a5 &&& 31)) ||| 1) <<< (a5 &&& 31))
    have : (0 : Int32).toInt = 0 := by decide
    have := ti_rng r23
    have := ti_rng a7
    exact spT_X0_conduct_205 hN sK21 hQ _ _ _ _ _ _ _ _ _ (show tI N M24 O24 from hI) (show tK M0 M24 from hk) (show ((0 ≤ a7.toInt ∧ a7.toInt ≤ 100) ∧ (100 - a7.toInt) ≤ (n21 : Int) ∧ 1 ≤ (100 - a7.toInt)) from by omega)
set_option maxHeartbeats 2000000 in
theorem spT_X0_conduct_108 {N : Nat → Nat} (hN : tN N) {K21 : (Int32 → Int32 → Int32 → Int32 → Int32 → Int32 → Int32 → (Nat → Int32) → (Nat × Nat) → Prop)} {n21 : Nat} {Q : (Nat → Int32) → Nat × Nat → Prop} {M0 : Nat → Int32} {q1 : Int32} {q2 : Int32} {q3 : Int32} (sK21 : ∀ (a1 : Int32) (a2 : Int32) (a3 : Int32) (a4 : Int32) (a5 : Int32) (a6 : Int32) (a7 : Int32) (M : Nat → Int32) (O : Nat × Nat), tI N M O → tK M0 M → (0 ≤ a7.toInt ∧ a7.toInt ≤ 100) → (100 - a7.toInt) + 1 ≤ (n21 : Int) → K21 a1 a2 a3 a4 a5 a6 a7 M O) (hQ : ∀ (M' : Nat → Int32) (O' : Nat × Nat), tI N M' O' → tK M0 M' → Q M' O') (a1 : Int32) (a2 : Int32) (a3 : Int32) (a4 : Int32) (a5 : Int32) (a6 : Int32) (a7 : Int32) (a9 : Int32) (M : Nat → Int32) (O : Nat × Nat) (hI : tI N M O) (hk : tK M0 M) (hbi : ((0 ≤ a7.toInt ∧ a7.toInt ≤ 100) ∧ (100 - a7.toInt) ≤ (n21 : Int) ∧ 1 ≤ (100 - a7.toInt))) : wT_X0_conduct_108 N K21 Q a1 a2 a3 a4 a5 a6 a7 a9 M O := by
  obtain ⟨_, _, _, _, _, _, _, _, _, _, _, _, _⟩ := (show tN N from hN)
  obtain ⟨⟨_, _⟩, ⟨_, _⟩, _, ⟨_, _⟩, ⟨_, _⟩, ⟨_, _⟩, hO7⟩ := (show tI N M O from hI)
  unfold wT_X0_conduct_108
  have := b_le7 hO7
  have := ti_rng a1
  have := ti_rng a2
  have := ti_rng a3
  have := ti_rng a4
  have := ti_rng a5
  have := ti_rng a6
  have := ti_rng a7
  have := ti_rng a9
  have : (0 : Int32).toInt = 0 := by decide
  exact spT_X0_conduct_109 hN sK21 hQ _ _ _ _ _ _ _ _ _ _ _ (show tI N M O from hI) (show tK M0 M from hk) (show ((0 ≤ a7.toInt ∧ a7.toInt ≤ 100) ∧ (100 - a7.toInt) ≤ (n21 : Int) ∧ 1 ≤ (100 - a7.toInt)) from by omega)
set_option maxHeartbeats 2000000 in
theorem spT_X0_conduct_81 {N : Nat → Nat} (hN : tN N) {K21 : (Int32 → Int32 → Int32 → Int32 → Int32 → Int32 → Int32 → (Nat → Int32) → (Nat × Nat) → Prop)} {n21 : Nat} {Q : (Nat → Int32) → Nat × Nat → Prop} {M0 : Nat → Int32} {q1 : Int32} {q2 : Int32} {q3 : Int32} (sK21 : ∀ (a1 : Int32) (a2 : Int32) (a3 : Int32) (a4 : Int32) (a5 : Int32) (a6 : Int32) (a7 : Int32) (M : Nat → Int32) (O : Nat × Nat), tI N M O → tK M0 M → (0 ≤ a7.toInt ∧ a7.toInt ≤ 100) → (100 - a7.toInt) + 1 ≤ (n21 : Int) → K21 a1 a2 a3 a4 a5 a6 a7 M O) (hQ : ∀ (M' : Nat → Int32) (O' : Nat × Nat), tI N M' O' → tK M0 M' → Q M' O') (a1 : Int32) (a2 : Int32) (a3 : Int32) (a4 : Int32) (a5 : Int32) (a6 : Int32) (a7 : Int32) (t0 : Int32) (M : Nat → Int32) (O : Nat × Nat) (hI : tI N M O) (hk : tK M0 M) (hbi : ((0 ≤ a7.toInt ∧ a7.toInt ≤ 100) ∧ (100 - a7.toInt) ≤ (n21 : Int) ∧ 1 ≤ (100 - a7.toInt))) : wT_X0_conduct_81 N K21 Q a1 a2 a3 a4 a5 a6 a7 t0 M O := by
  obtain ⟨_, _, _, _, _, _, _, _, _, _, _, _, _⟩ := (show tN N from hN)
  obtain ⟨⟨_, _⟩, ⟨_, _⟩, _, ⟨_, _⟩, ⟨_, _⟩, ⟨_, _⟩, hO7⟩ := (show tI N M O from hI)
  unfold wT_X0_conduct_81
  have := b_le7 hO7
  refine ⟨fun hc14 => ?_, fun hc14 => ?_⟩
  · have := ti_rng t0
    have : (0 : Int32).toInt = 0 := by decide
    have hc14 := Int32.lt_iff_toInt_lt.mp hc14
    have := ti_rng a1
    have := ti_rng a2
    have := ti_rng a3
    have := ti_rng a4
    have := ti_rng a5
    have := ti_rng a6
    have := ti_rng a7
    exact spT_X0_conduct_108 hN sK21 hQ _ _ _ _ _ _ _ _ _ _ (show tI N M O from hI) (show tK M0 M from hk) (show ((0 ≤ a7.toInt ∧ a7.toInt ≤ 100) ∧ (100 - a7.toInt) ≤ (n21 : Int) ∧ 1 ≤ (100 - a7.toInt)) from by omega)
  · have := ti_rng t0
    have : (0 : Int32).toInt = 0 := by decide
    have hc14 := ti_nlt hc14
    refine ⟨fun hc25 => ?_, fun hc25 => ?_⟩
    · have := nI_toInt (n := (N 11)) (by omega)
      have hc25 := Int32.le_iff_toInt_le.mp hc25
      have := ti_rng a1
      have := ti_rng a2
      have := ti_rng a3
      have := ti_rng a4
      have := ti_rng a5
      have := ti_rng a6
      have := ti_rng a7
      exact spT_X0_conduct_108 hN sK21 hQ _ _ _ _ _ _ _ _ _ _ (show tI N M O from hI) (show tK M0 M from hk) (show ((0 ≤ a7.toInt ∧ a7.toInt ≤ 100) ∧ (100 - a7.toInt) ≤ (n21 : Int) ∧ 1 ≤ (100 - a7.toInt)) from by omega)
    · have := nI_toInt (n := (N 11)) (by omega)
      have hc25 := ti_nle hc25
      refine ⟨vp_in_iff.mpr (by omega), fun z26 => ?_⟩
      have := ti_rng a1
      have := ti_rng a2
      have := ti_rng a3
      have := ti_rng a4
      have := ti_rng a5
      have := ti_rng a6
      have := ti_rng a7
      have := ti_rng z26
      exact spT_X0_conduct_109 hN sK21 hQ _ _ _ _ _ _ _ _ _ _ _ (show tI N M O from hI) (show tK M0 M from hk) (show ((0 ≤ a7.toInt ∧ a7.toInt ≤ 100) ∧ (100 - a7.toInt) ≤ (n21 : Int) ∧ 1 ≤ (100 - a7.toInt)) from by omega)
set_option maxHeartbeats 2000000 in
theorem spT_X0_conduct_55 {N : Nat → Nat} (hN : tN N) {K21 : (Int32 → Int32 → Int32 → Int32 → Int32 → Int32 → Int32 → (Nat → Int32) → (Nat × Nat) → Prop)} {n21 : Nat} {Q : (Nat → Int32) → Nat × Nat → Prop} {M0 : Nat → Int32} {q1 : Int32} {q2 : Int32} {q3 : Int32} (sK21 : ∀ (a1 : Int32) (a2 : Int32) (a3 : Int32) (a4 : Int32) (a5 : Int32) (a6 : Int32) (a7 : Int32) (M : Nat → Int32) (O : Nat × Nat), tI N M O → tK M0 M → (0 ≤ a7.toInt ∧ a7.toInt ≤ 100) → (100 - a7.toInt) + 1 ≤ (n21 : Int) → K21 a1 a2 a3 a4 a5 a6 a7 M O) (hQ : ∀ (M' : Nat → Int32) (O' : Nat × Nat), tI N M' O' → tK M0 M' → Q M' O') (a1 : Int32) (a2 : Int32) (a3 : Int32) (a4 : Int32) (a5 : Int32) (a6 : Int32) (a7 : Int32) (t0 : Int32) (M : Nat → Int32) (O : Nat × Nat) (hI : tI N M O) (hk : tK M0 M) (hbi : ((0 ≤ a7.toInt ∧ a7.toInt ≤ 100) ∧ (100 - a7.toInt) ≤ (n21 : Int) ∧ 1 ≤ (100 - a7.toInt))) : wT_X0_conduct_55 N K21 Q a1 a2 a3 a4 a5 a6 a7 t0 M O := by
  obtain ⟨_, _, _, _, _, _, _, _, _, _, _, _, _⟩ := (show tN N from hN)
  obtain ⟨⟨_, _⟩, ⟨_, _⟩, _, ⟨_, _⟩, ⟨_, _⟩, ⟨_, _⟩, hO7⟩ := (show tI N M O from hI)
  unfold wT_X0_conduct_55
  have := b_le7 hO7
  refine ⟨fun hc9 => ?_, fun hc9 => ?_⟩
  · have := ti_rng t0
    have : (0 : Int32).toInt = 0 := by decide
    have hc99 := congrArg Int32.toInt hc9
    have := ti_rng a6
    refine spT_X2_kindOf hN _ (show tI N M O from hI) (fun r10 M11 O11 hI hk1 => ?_)
    have hk := tK_tr (show tK M0 M from hk) hk1
    obtain ⟨⟨_, _⟩, ⟨_, _⟩, _, ⟨_, _⟩, ⟨_, _⟩, ⟨_, _⟩, hO7⟩ := (show tI N M11 O11 from hI)
    have := b_le7 hO7
    have := ti_rng a5
    have := ti_rng r10
    refine spT_X0_policyIndex hN _ _ (show tI N M11 O11 from hI) (fun r12 M13 O13 hI hk1 => ?_)
    have hk := tK_tr (show tK M0 M11 from hk) hk1
    obtain ⟨⟨_, _⟩, ⟨_, _⟩, _, ⟨_, _⟩, ⟨_, _⟩, ⟨_, _⟩, hO7⟩ := (show tI N M13 O13 from hI)
    have := b_le7 hO7
    have := ti_rng a1
    have := ti_rng a2
    have := ti_rng a3
    have := ti_rng a4
    have := ti_rng a7
    have := ti_rng r12
    exact spT_X0_conduct_81 hN sK21 hQ _ _ _ _ _ _ _ _ _ _ (show tI N M13 O13 from hI) (show tK M0 M13 from hk) (show ((0 ≤ a7.toInt ∧ a7.toInt ≤ 100) ∧ (100 - a7.toInt) ≤ (n21 : Int) ∧ 1 ≤ (100 - a7.toInt)) from by omega)
  · have := ti_rng t0
    have : (0 : Int32).toInt = 0 := by decide
    have hc99 := ti_ne hc9
    have := ti_rng a1
    have := ti_rng a2
    have := ti_rng a3
    have := ti_rng a4
    have := ti_rng a5
    have := ti_rng a6
    have := ti_rng a7
    have : ((-1) : Int32).toInt = -1 := by decide
    exact spT_X0_conduct_81 hN sK21 hQ _ _ _ _ _ _ _ _ _ _ (show tI N M O from hI) (show tK M0 M from hk) (show ((0 ≤ a7.toInt ∧ a7.toInt ≤ 100) ∧ (100 - a7.toInt) ≤ (n21 : Int) ∧ 1 ≤ (100 - a7.toInt)) from by omega)
set_option maxHeartbeats 2000000 in
theorem spT_X0_conduct_21 {N : Nat → Nat} (hN : tN N) {Q : (Nat → Int32) → Nat × Nat → Prop} {M0 : Nat → Int32} {q1 : Int32} {q2 : Int32} {q3 : Int32} (hQ : ∀ (M' : Nat → Int32) (O' : Nat × Nat), tI N M' O' → tK M0 M' → Q M' O') : ∀ (n21 : Nat) (a1 : Int32) (a2 : Int32) (a3 : Int32) (a4 : Int32) (a5 : Int32) (a6 : Int32) (a7 : Int32) (M : Nat → Int32) (O : Nat × Nat), tI N M O → tK M0 M → (0 ≤ a7.toInt ∧ a7.toInt ≤ 100) → (100 - a7.toInt) + 1 ≤ (n21 : Int) → wT_X0_conduct_21 N Q n21 a1 a2 a3 a4 a5 a6 a7 M O := by
  obtain ⟨_, _, _, _, _, _, _, _, _, _, _, _, _⟩ := (show tN N from hN)
  intro n21
  induction n21 with
  | zero => intro a1 a2 a3 a4 a5 a6 a7 M O hI hk hv hn; exact absurd hn (by omega)
  | succ n21 ih =>
    intro a1 a2 a3 a4 a5 a6 a7 M O hI hk hv hn
    obtain ⟨⟨_, _⟩, ⟨_, _⟩, _, ⟨_, _⟩, ⟨_, _⟩, ⟨_, _⟩, hO7⟩ := (show tI N M O from hI)
    dsimp only [wT_X0_conduct_21]
    have := b_le7 hO7
    refine ⟨fun hc3 => ?_, fun hc3 => ?_⟩
    · have : (100 : Int32).toInt = 100 := by decide
      have := ti_rng a7
      have hc3 := Int32.le_iff_toInt_le.mp hc3
      have := ti_rng a6
      exact spT_X0_conduct_211 hN hQ _ _ _ (show tI N M O from hI) (show tK M0 M from hk)
    · have : (100 : Int32).toInt = 100 := by decide
      have := ti_rng a7
      have hc3 := ti_nle hc3
      refine ⟨fun hc6 => ?_, fun hc6 => ?_⟩
      · have := ti_rng a6
        have : (0 : Int32).toInt = 0 := by decide
        have hc69 := congrArg Int32.toInt hc6
        exact spT_X0_conduct_211 hN hQ _ _ _ (show tI N M O from hI) (show tK M0 M from hk)
      · have := ti_rng a6
        have : (0 : Int32).toInt = 0 := by decide
        have hc69 := ti_ne hc6
        refine ⟨fun hc7 => ?_, fun hc7 => ?_⟩
        · have : (3 : Int32).toInt = 3 := by decide
          have := ti_rng a5
          have hc7 := Int32.le_iff_toInt_le.mp hc7
          exact spT_X0_conduct_211 hN hQ _ _ _ (show tI N M O from hI) (show tK M0 M from hk)
        · have : (3 : Int32).toInt = 3 := by decide
          have := ti_rng a5
          have hc7 := ti_nle hc7
          refine ⟨fun hc8 => ?_, fun hc8 => ?_⟩
          · have := ti_rng ((a4 >>> (a5 &&& 31)) &&& 1)
            have : (1 : Int32).toInt = 1 := by decide
            have hc89 := ti_ne hc8
            have := ti_rng a1
            have := ti_rng a2
            have := ti_rng a3
            have := ti_rng a4
            exact spT_X0_conduct_55 hN ih hQ _ _ _ _ _ _ _ _ _ _ (show tI N M O from hI) (show tK M0 M from hk) (show ((0 ≤ a7.toInt ∧ a7.toInt ≤ 100) ∧ (100 - a7.toInt) ≤ (n21 : Int) ∧ 1 ≤ (100 - a7.toInt)) from by omega)
          · have := ti_rng ((a4 >>> (a5 &&& 31)) &&& 1)
            have : (1 : Int32).toInt = 1 := by decide
            have hc89 := congrArg Int32.toInt hc8
            have := ti_rng a1
            have := ti_rng a2
            have := ti_rng a3
            have := ti_rng a4
            exact spT_X0_conduct_55 hN ih hQ _ _ _ _ _ _ _ _ _ _ (show tI N M O from hI) (show tK M0 M from hk) (show ((0 ≤ a7.toInt ∧ a7.toInt ≤ 100) ∧ (100 - a7.toInt) ≤ (n21 : Int) ∧ 1 ≤ (100 - a7.toInt)) from by omega)
set_option maxHeartbeats 2000000 in
theorem spT_X0_conduct {N : Nat → Nat} (hN : tN N) (q1 : Int32) (q2 : Int32) (q3 : Int32) {M0 : Nat → Int32} {O : Nat × Nat} {Q : (Nat → Int32) → Nat × Nat → Prop} (hI : tI N M0 O) (hQ : ∀ (M' : Nat → Int32) (O' : Nat × Nat), tI N M' O' → tK M0 M' → Q M' O') : wT_X0_conduct N q1 q2 q3 M0 O Q := by
  obtain ⟨_, _, _, _, _, _, _, _, _, _, _, _, _⟩ := (show tN N from hN)
  obtain ⟨⟨_, _⟩, ⟨_, _⟩, _, ⟨_, _⟩, ⟨_, _⟩, ⟨_, _⟩, hO7⟩ := (show tI N M0 O from hI)
  have hk : tK M0 M0 := tK_rf M0
  unfold wT_X0_conduct
  have := b_le7 hO7
  have := ti_rng q1
  have := ti_rng q2
  have := ti_rng q3
  refine spT_X8_hold hN _ _ _ (show tI N M0 O from hI) (fun r1 M2 O2 hI hk1 => ?_)
  have hk := tK_tr (show tK M0 M0 from hk) hk1
  obtain ⟨⟨_, _⟩, ⟨_, _⟩, _, ⟨_, _⟩, ⟨_, _⟩, ⟨_, _⟩, hO7⟩ := (show tI N M2 O2 from hI)
  have := b_le7 hO7
  have : (0 : Int32).toInt = 0 := by decide
  have := ti_rng r1
  exact ⟨((100 - 0.toInt) + 1).toNat, spT_X0_conduct_21 hN hQ _ _ _ _ _ _ _ _ _ _ (show tI N M2 O2 from hI) (show tK M0 M2 from hk) (show 0 ≤ 0.toInt ∧ 0.toInt ≤ 100 from by omega) (show (100 - 0.toInt) + 1 ≤ _ from by omega)⟩
set_option maxHeartbeats 2000000 in
theorem spT_X2_openTrial {N : Nat → Nat} (hN : tN N) {M0 : Nat → Int32} {O : Nat × Nat} {Q : (Nat → Int32) → Nat × Nat → Prop} (hI : tI N M0 O) (hQ : ∀ (M' : Nat → Int32) (O' : Nat × Nat), tI N M' O' → tK M0 M' → Q M' O') : wT_X2_openTrial N  M0 O Q := by
  obtain ⟨_, _, _, _, _, _, _, _, _, _, _, _, _⟩ := (show tN N from hN)
  obtain ⟨⟨_, _⟩, ⟨_, _⟩, _, ⟨_, _⟩, ⟨_, _⟩, ⟨_, _⟩, hO7⟩ := (show tI N M0 O from hI)
  have hk : tK M0 M0 := tK_rf M0
  unfold wT_X2_openTrial
  have := b_le7 hO7
  exact hQ _ _ (show tI N (um M0 21 (M0 22)) O from hI) (show tK M0 (um M0 21 (M0 22)) from hk)
set_option maxHeartbeats 2000000 in
theorem spT_X2_inChain_41 {N : Nat → Nat} (hN : tN N) {Q : Int32 → (Nat → Int32) → Nat × Nat → Prop} {M0 : Nat → Int32} {q1 : Int32} {q2 : Int32} (hQ : ∀ (r : Int32) (M' : Nat → Int32) (O' : Nat × Nat), tI N M' O' → tK M0 M' → Q r M' O') (a3 : Int32) (M : Nat → Int32) (O : Nat × Nat) (hI : tI N M O) (hk : tK M0 M) : wT_X2_inChain_41 N Q a3 M O := by
  obtain ⟨_, _, _, _, _, _, _, _, _, _, _, _, _⟩ := (show tN N from hN)
  obtain ⟨⟨_, _⟩, ⟨_, _⟩, _, ⟨_, _⟩, ⟨_, _⟩, ⟨_, _⟩, hO7⟩ := (show tI N M O from hI)
  unfold wT_X2_inChain_41
  have := b_le7 hO7
  exact hQ _ _ _ (show tI N M O from hI) (show tK M0 M from hk)
set_option maxHeartbeats 2000000 in
theorem spT_X2_inChain_17 {N : Nat → Nat} (hN : tN N) {Q : Int32 → (Nat → Int32) → Nat × Nat → Prop} {M0 : Nat → Int32} {q1 : Int32} {q2 : Int32} (hQ : ∀ (r : Int32) (M' : Nat → Int32) (O' : Nat × Nat), tI N M' O' → tK M0 M' → Q r M' O') : ∀ (n17 : Nat) (a2 : Int32) (a3 : Int32) (a4 : Int32) (M : Nat → Int32) (O : Nat × Nat), tI N M O → tK M0 M → (0 ≤ a4.toInt ∧ a4.toInt ≤ a2.toInt ∧ a2.toInt < 50) → (a2.toInt - a4.toInt) + 1 ≤ (n17 : Int) → wT_X2_inChain_17 N Q n17 a2 a3 a4 M O := by
  obtain ⟨_, _, _, _, _, _, _, _, _, _, _, _, _⟩ := (show tN N from hN)
  intro n17
  induction n17 with
  | zero => intro a2 a3 a4 M O hI hk hv hn; exact absurd hn (by omega)
  | succ n17 ih =>
    intro a2 a3 a4 M O hI hk hv hn
    obtain ⟨⟨_, _⟩, ⟨_, _⟩, _, ⟨_, _⟩, ⟨_, _⟩, ⟨_, _⟩, hO7⟩ := (show tI N M O from hI)
    dsimp only [wT_X2_inChain_17]
    have := b_le7 hO7
    refine ⟨fun hc3 => ?_, fun hc3 => ?_⟩
    · have := ti_rng a2
      have := ti_rng a4
      have hc3 := Int32.le_iff_toInt_le.mp hc3
      have := ti_rng a3
      exact spT_X2_inChain_41 hN hQ _ _ _ (show tI N M O from hI) (show tK M0 M from hk)
    · have := ti_rng a2
      have := ti_rng a4
      have hc3 := ti_nle hc3
      refine ⟨fun hc4 => ?_, fun hc4 => ?_⟩
      · have := ti_rng a3
        have : (0 : Int32).toInt = 0 := by decide
        have hc49 := congrArg Int32.toInt hc4
        exact spT_X2_inChain_41 hN hQ _ _ _ (show tI N M O from hI) (show tK M0 M from hk)
      · have := ti_rng a3
        have : (0 : Int32).toInt = 0 := by decide
        have hc49 := ti_ne hc4
        have : (6 : Int32).toInt = 6 := by decide
        refine spT_X2_get hN _ _ (show tI N M O from hI) (fun r5 M6 O6 hI hk1 => ?_)
        have hk := tK_tr (show tK M0 M from hk) hk1
        obtain ⟨⟨_, _⟩, ⟨_, _⟩, _, ⟨_, _⟩, ⟨_, _⟩, ⟨_, _⟩, hO7⟩ := (show tI N M6 O6 from hI)
        have := b_le7 hO7
        have := ti_rng r5
        have : (1 : Int32).toInt = 1 := by decide
        obtain ⟨_, _, _, _⟩ := ti_add a4 1
        exact ih _ _ _ _ _ (show tI N M6 O6 from hI) (show tK M0 M6 from hk) (show 0 ≤ (a4 + 1).toInt ∧ (a4 + 1).toInt ≤ a2.toInt ∧ a2.toInt < 50 from by omega) (show (a2.toInt - (a4 + 1).toInt) + 1 ≤ _ from by omega)
set_option maxHeartbeats 2000000 in
theorem spT_X2_inChain {N : Nat → Nat} (hN : tN N) (q1 : Int32) (q2 : Int32) {M0 : Nat → Int32} {O : Nat × Nat} {Q : Int32 → (Nat → Int32) → Nat × Nat → Prop} (hI : tI N M0 O) (hQ : ∀ (r : Int32) (M' : Nat → Int32) (O' : Nat × Nat), tI N M' O' → tK M0 M' → Q r M' O') : wT_X2_inChain N q1 q2 M0 O Q := by
  obtain ⟨_, _, _, _, _, _, _, _, _, _, _, _, _⟩ := (show tN N from hN)
  obtain ⟨⟨_, _⟩, ⟨_, _⟩, _, ⟨_, _⟩, ⟨_, _⟩, ⟨_, _⟩, hO7⟩ := (show tI N M0 O from hI)
  have hk : tK M0 M0 := tK_rf M0
  unfold wT_X2_inChain
  have := b_le7 hO7
  refine ⟨fun hc1 => ?_, fun hc1 => ?_⟩
  · have := ti_rng q2
    have : (0 : Int32).toInt = 0 := by decide
    have hc1 := Int32.lt_iff_toInt_lt.mp hc1
    exact hQ _ _ _ (show tI N M0 O from hI) (show tK M0 M0 from hk)
  · have := ti_rng q2
    have : (0 : Int32).toInt = 0 := by decide
    have hc1 := ti_nlt hc1
    refine ⟨fun hc2 => ?_, fun hc2 => ?_⟩
    · have : (50 : Int32).toInt = 50 := by decide
      have hc2 := Int32.lt_iff_toInt_lt.mp hc2
      have := ti_rng q1
      exact ⟨((q2.toInt - 0.toInt) + 1).toNat, spT_X2_inChain_17 hN hQ _ _ _ _ _ _ (show tI N M0 O from hI) (show tK M0 M0 from hk) (show 0 ≤ 0.toInt ∧ 0.toInt ≤ q2.toInt ∧ q2.toInt < 50 from by omega) (show (q2.toInt - 0.toInt) + 1 ≤ _ from by omega)⟩
    · have : (50 : Int32).toInt = 50 := by decide
      have hc2 := ti_nlt hc2
      exact hQ _ _ _ (show tI N M0 O from hI) (show tK M0 M0 from hk)
set_option maxHeartbeats 2000000 in
theorem spT_X2_tellOfChain {N : Nat → Nat} (hN : tN N) (q1 : Int32) (q2 : Int32) (q3 : Int32) {M0 : Nat → Int32} {O : Nat × Nat} {Q : Int32 → (Nat → Int32) → Nat × Nat → Prop} (hI : tI N M0 O) (hQ : ∀ (r : Int32) (M' : Nat → Int32) (O' : Nat × Nat), tI N M' O' → tK M0 M' → Q r M' O') : wT_X2_tellOfChain N q1 q2 q3 M0 O Q := by
  obtain ⟨_, _, _, _, _, _, _, _, _, _, _, _, _⟩ := (show tN N from hN)
  obtain ⟨⟨_, _⟩, ⟨_, _⟩, _, ⟨_, _⟩, ⟨_, _⟩, ⟨_, _⟩, hO7⟩ := (show tI N M0 O from hI)
  have hk : tK M0 M0 := tK_rf M0
  unfold wT_X2_tellOfChain
  have := b_le7 hO7
  have := ti_rng q1
  have := ti_rng q2
  refine spT_X2_inChain hN _ _ (show tI N M0 O from hI) (fun r1 M2 O2 hI hk1 => ?_)
  have hk := tK_tr (show tK M0 M0 from hk) hk1
  obtain ⟨⟨_, _⟩, ⟨_, _⟩, _, ⟨_, _⟩, ⟨_, _⟩, ⟨_, _⟩, hO7⟩ := (show tI N M2 O2 from hI)
  have := b_le7 hO7
  have := ti_rng r1
  refine spT_X2_exists hN _ (show tI N M2 O2 from hI) (fun r3 M4 O4 hI hk1 hp4 => ?_)
  have hk := tK_tr (show tK M0 M2 from hk) hk1
  obtain ⟨⟨_, _⟩, ⟨_, _⟩, _, ⟨_, _⟩, ⟨_, _⟩, ⟨_, _⟩, hO7⟩ := (show tI N M4 O4 from hI)
  have := b_le7 hO7
  refine ⟨fun hc5 => ?_, fun hc5 => ?_⟩
  · have := ti_rng r3
    have : (0 : Int32).toInt = 0 := by decide
    have hc59 := ti_ne hc5
    have hc5q := hp4 hc5
    refine ⟨fun hc6 => ?_, fun hc6 => ?_⟩
    · have := ti_rng q3
      have hc6 := Int32.lt_iff_toInt_lt.mp hc6
      exact hQ _ _ _ (show tI N M4 O4 from hI) (show tK M0 M4 from hk)
    · have := ti_rng q3
      have hc6 := ti_nlt hc6
      refine ⟨fun hc7 => ?_, fun hc7 => ?_⟩
      · have : (6 : Int32).toInt = 6 := by decide
        have hc7 := Int32.lt_iff_toInt_lt.mp hc7
        exact hQ _ _ _ (show tI N M4 O4 from hI) (show tK M0 M4 from hk)
      · have : (6 : Int32).toInt = 6 := by decide
        have hc7 := ti_nlt hc7
        refine spT_X2_tell hN _ _ (show tI N M4 O4 from hI) (fun r8 M9 O9 hI hk1 => ?_)
        have hk := tK_tr (show tK M0 M4 from hk) hk1
        obtain ⟨⟨_, _⟩, ⟨_, _⟩, _, ⟨_, _⟩, ⟨_, _⟩, ⟨_, _⟩, hO7⟩ := (show tI N M9 O9 from hI)
        have := b_le7 hO7
        exact hQ _ _ _ (show tI N M9 O9 from hI) (show tK M0 M9 from hk)
  · have := ti_rng r3
    have : (0 : Int32).toInt = 0 := by decide
    have hc59 := congrArg Int32.toInt hc5
    refine ⟨fun hc10 => ?_, fun hc10 => ?_⟩
    · have := ti_rng q3
      have hc109 := ti_ne hc10
      exact hQ _ _ _ (show tI N M4 O4 from hI) (show tK M0 M4 from hk)
    · have := ti_rng q3
      have hc109 := congrArg Int32.toInt hc10
      exact hQ _ _ _ (show tI N M4 O4 from hI) (show tK M0 M4 from hk)
set_option maxHeartbeats 2000000 in
theorem spT_X5_open {N : Nat → Nat} (hN : tN N) {M0 : Nat → Int32} {O : Nat × Nat} {Q : (Nat → Int32) → Nat × Nat → Prop} (hI : tI N M0 O) (hQ : ∀ (M' : Nat → Int32) (O' : Nat × Nat), tI N M' O' → tK M0 M' → Q M' O') : wT_X5_open N  M0 O Q := by
  obtain ⟨_, _, _, _, _, _, _, _, _, _, _, _, _⟩ := (show tN N from hN)
  obtain ⟨⟨_, _⟩, ⟨_, _⟩, _, ⟨_, _⟩, ⟨_, _⟩, ⟨_, _⟩, hO7⟩ := (show tI N M0 O from hI)
  have hk : tK M0 M0 := tK_rf M0
  unfold wT_X5_open
  have := b_le7 hO7
  have : (0 : Int32).toInt = 0 := by decide
  exact hQ _ _ (show tI N (um (um (um (um (um (um (um (um M0 31 0) 32 (-1)) 33 0) 34 (-1)) 35 0) 36 0) 37 0) 38 0) O from (show (0 ≤ (M0 1).toInt ∧ (M0 1).toInt ≤ 4000) ∧ (0 ≤ (M0 22).toInt ∧ (M0 22).toInt ≤ 8000) ∧ 7 * (M0 22).toInt ≤ ((448 * 2 ^ O.2 : Nat) : Int) ∧ (0 ≤ 0.toInt ∧ 0.toInt ≤ 200) ∧ (0 ≤ (M0 52).toInt ∧ (M0 52).toInt ≤ 128) ∧ (0 ≤ (M0 63).toInt ∧ (M0 63).toInt ≤ (N 20 : Int)) ∧ O.2 ≤ 7 from by omega)) (show tK M0 (um (um (um (um (um (um (um (um M0 31 0) 32 (-1)) 33 0) 34 (-1)) 35 0) 36 0) 37 0) 38 0) from hk)
set_option maxHeartbeats 2000000 in
theorem spT_X5_noteAt {N : Nat → Nat} (hN : tN N) (q1 : Int32) {M0 : Nat → Int32} {O : Nat × Nat} {Q : Int32 → (Nat → Int32) → Nat × Nat → Prop} (hI : tI N M0 O) (hQ : ∀ (r : Int32) (M' : Nat → Int32) (O' : Nat × Nat), tI N M' O' → tK M0 M' → Q r M' O') : wT_X5_noteAt N q1 M0 O Q := by
  obtain ⟨_, _, _, _, _, _, _, _, _, _, _, _, _⟩ := (show tN N from hN)
  obtain ⟨⟨_, _⟩, ⟨_, _⟩, _, ⟨_, _⟩, ⟨_, _⟩, ⟨_, _⟩, hO7⟩ := (show tI N M0 O from hI)
  have hk : tK M0 M0 := tK_rf M0
  unfold wT_X5_noteAt
  have := b_le7 hO7
  refine ⟨fun hc1 => ?_, fun hc1 => ?_⟩
  · have := ti_rng q1
    have : (0 : Int32).toInt = 0 := by decide
    have hc1 := Int32.lt_iff_toInt_lt.mp hc1
    exact hQ _ _ _ (show tI N M0 O from hI) (show tK M0 M0 from hk)
  · have := ti_rng q1
    have : (0 : Int32).toInt = 0 := by decide
    have hc1 := ti_nlt hc1
    refine ⟨fun hc2 => ?_, fun hc2 => ?_⟩
    · have := ti_rng (M0 31)
      have hc2 := Int32.le_iff_toInt_le.mp hc2
      exact hQ _ _ _ (show tI N M0 O from hI) (show tK M0 M0 from hk)
    · have := ti_rng (M0 31)
      have hc2 := ti_nle hc2
      refine ⟨fun hc3 => ?_, fun hc3 => ?_⟩
      · have := nI_toInt (n := (N 14)) (by omega)
        have hc3 := Int32.le_iff_toInt_le.mp hc3
        exact hQ _ _ _ (show tI N M0 O from hI) (show tK M0 M0 from hk)
      · have := nI_toInt (n := (N 14)) (by omega)
        have hc3 := ti_nle hc3
        refine ⟨vp_in_iff.mpr (by omega), fun z4 => ?_⟩
        exact hQ _ _ _ (show tI N M0 O from hI) (show tK M0 M0 from hk)
set_option maxHeartbeats 2000000 in
theorem spT_X5_tell {N : Nat → Nat} (hN : tN N) (q1 : Int32) {M0 : Nat → Int32} {O : Nat × Nat} {Q : Int32 → (Nat → Int32) → Nat × Nat → Prop} (hI : tI N M0 O) (hQ : ∀ (r : Int32) (M' : Nat → Int32) (O' : Nat × Nat), tI N M' O' → tK M0 M' → Q r M' O') : wT_X5_tell N q1 M0 O Q := by
  obtain ⟨_, _, _, _, _, _, _, _, _, _, _, _, _⟩ := (show tN N from hN)
  obtain ⟨⟨_, _⟩, ⟨_, _⟩, _, ⟨_, _⟩, ⟨_, _⟩, ⟨_, _⟩, hO7⟩ := (show tI N M0 O from hI)
  have hk : tK M0 M0 := tK_rf M0
  unfold wT_X5_tell
  have := b_le7 hO7
  refine ⟨fun hk => ?_, fun hk => ?_, fun hk => ?_, fun hk => ?_, fun hk => ?_, fun hk => ?_, fun hk => ?_, fun hk0 hk1 hk2 hk3 hk4 hk5 hk6 => ?_⟩
  · have := ti_rng q1
    have : (0 : Int32).toInt = 0 := by decide
    have hk9 := congrArg Int32.toInt hk
    exact hQ _ _ _ (show tI N M0 O from hI) (show tK M0 M0 from hk)
  · have := ti_rng q1
    have : (1 : Int32).toInt = 1 := by decide
    have hk9 := congrArg Int32.toInt hk
    exact hQ _ _ _ (show tI N M0 O from hI) (show tK M0 M0 from hk)
  · have := ti_rng q1
    have : (2 : Int32).toInt = 2 := by decide
    have hk9 := congrArg Int32.toInt hk
    exact hQ _ _ _ (show tI N M0 O from hI) (show tK M0 M0 from hk)
  · have := ti_rng q1
    have : (3 : Int32).toInt = 3 := by decide
    have hk9 := congrArg Int32.toInt hk
    exact hQ _ _ _ (show tI N M0 O from hI) (show tK M0 M0 from hk)
  · have := ti_rng q1
    have : (4 : Int32).toInt = 4 := by decide
    have hk9 := congrArg Int32.toInt hk
    exact hQ _ _ _ (show tI N M0 O from hI) (show tK M0 M0 from hk)
  · have := ti_rng q1
    have : (5 : Int32).toInt = 5 := by decide
    have hk9 := congrArg Int32.toInt hk
    exact hQ _ _ _ (show tI N M0 O from hI) (show tK M0 M0 from hk)
  · have := ti_rng q1
    have : (6 : Int32).toInt = 6 := by decide
    have hk9 := congrArg Int32.toInt hk
    exact hQ _ _ _ (show tI N M0 O from hI) (show tK M0 M0 from hk)
  · have := ti_rng q1
    exact hQ _ _ _ (show tI N M0 O from hI) (show tK M0 M0 from hk)
set_option maxHeartbeats 2000000 in
theorem spT_X11_fault {N : Nat → Nat} (hN : tN N) (q1 : Int32) {M0 : Nat → Int32} {O : Nat × Nat} {Q : Int32 → (Nat → Int32) → Nat × Nat → Prop} (hI : tI N M0 O) (hQ : ∀ (r : Int32) (M' : Nat → Int32) (O' : Nat × Nat), tI N M' O' → tK M0 M' → Q r M' O') : wT_X11_fault N q1 M0 O Q := by
  obtain ⟨_, _, _, _, _, _, _, _, _, _, _, _, _⟩ := (show tN N from hN)
  obtain ⟨⟨_, _⟩, ⟨_, _⟩, _, ⟨_, _⟩, ⟨_, _⟩, ⟨_, _⟩, hO7⟩ := (show tI N M0 O from hI)
  have hk : tK M0 M0 := tK_rf M0
  unfold wT_X11_fault
  have := b_le7 hO7
  refine ⟨fun hc1 => ?_, fun hc1 => ?_⟩
  · have := ti_rng q1
    have : (0 : Int32).toInt = 0 := by decide
    have hc19 := ti_ne hc1
    refine ⟨fun hc2 => ?_, fun hc2 => ?_⟩
    · have : (1 : Int32).toInt = 1 := by decide
      have hc29 := ti_ne hc2
      exact hQ _ _ _ (show tI N M0 O from hI) (show tK M0 M0 from hk)
    · have : (1 : Int32).toInt = 1 := by decide
      have hc29 := congrArg Int32.toInt hc2
      exact hQ _ _ _ (show tI N M0 O from hI) (show tK M0 M0 from hk)
  · have := ti_rng q1
    have : (0 : Int32).toInt = 0 := by decide
    have hc19 := congrArg Int32.toInt hc1
    exact hQ _ _ _ (show tI N M0 O from hI) (show tK M0 M0 from hk)
set_option maxHeartbeats 2000000 in
theorem spT_X11_policy {N : Nat → Nat} (hN : tN N) (q1 : Int32) (q2 : Int32) (q3 : Int32) (q4 : Int32) {M0 : Nat → Int32} {O : Nat × Nat} {Q : Int32 → (Nat → Int32) → Nat × Nat → Prop} (hI : tI N M0 O) (hQ : ∀ (r : Int32) (M' : Nat → Int32) (O' : Nat × Nat), tI N M' O' → tK M0 M' → Q r M' O') : wT_X11_policy N q1 q2 q3 q4 M0 O Q := by
  obtain ⟨_, _, _, _, _, _, _, _, _, _, _, _, _⟩ := (show tN N from hN)
  obtain ⟨⟨_, _⟩, ⟨_, _⟩, _, ⟨_, _⟩, ⟨_, _⟩, ⟨_, _⟩, hO7⟩ := (show tI N M0 O from hI)
  have hk : tK M0 M0 := tK_rf M0
  unfold wT_X11_policy
  have := b_le7 hO7
  have := ti_rng q1
  have := ti_rng q2
  have := ti_rng q3
  have := ti_rng q4
  refine spT_X0_setPolicy hN _ _ _ _ (show tI N M0 O from hI) (fun r1 M2 O2 hI hk1 hp2 => ?_)
  have hk := tK_tr (show tK M0 M0 from hk) hk1
  obtain ⟨⟨_, _⟩, ⟨_, _⟩, _, ⟨_, _⟩, ⟨_, _⟩, ⟨_, _⟩, hO7⟩ := (show tI N M2 O2 from hI)
  have := b_le7 hO7
  refine ⟨by assumption, ?_⟩
  exact hQ _ _ _ (show tI N M2 O2 from hI) (show tK M0 M2 from hk)
set_option maxHeartbeats 2000000 in
theorem spT_X11_complain {N : Nat → Nat} (hN : tN N) (q1 : Int32) (q2 : Int32) (q3 : Int32) {M0 : Nat → Int32} {O : Nat × Nat} {Q : Int32 → (Nat → Int32) → Nat × Nat → Prop} (hI : tI N M0 O) (hQ : ∀ (r : Int32) (M' : Nat → Int32) (O' : Nat × Nat), tI N M' O' → tK M0 M' → Q r M' O') : wT_X11_complain N q1 q2 q3 M0 O Q := by
  obtain ⟨_, _, _, _, _, _, _, _, _, _, _, _, _⟩ := (show tN N from hN)
  obtain ⟨⟨_, _⟩, ⟨_, _⟩, _, ⟨_, _⟩, ⟨_, _⟩, ⟨_, _⟩, hO7⟩ := (show tI N M0 O from hI)
  have hk : tK M0 M0 := tK_rf M0
  unfold wT_X11_complain
  have := b_le7 hO7
  have := ti_rng q1
  have := ti_rng q2
  have := ti_rng q3
  refine spT_X0_enterComplaint hN _ _ _ (show tI N M0 O from hI) (fun r1 M2 O2 hI hk1 => ?_)
  have hk := tK_tr (show tK M0 M0 from hk) hk1
  obtain ⟨⟨_, _⟩, ⟨_, _⟩, _, ⟨_, _⟩, ⟨_, _⟩, ⟨_, _⟩, hO7⟩ := (show tI N M2 O2 from hI)
  have := b_le7 hO7
  exact hQ _ _ _ (show tI N M2 O2 from hI) (show tK M0 M2 from hk)
set_option maxHeartbeats 2000000 in
theorem spT_X11_about {N : Nat → Nat} (hN : tN N) (q1 : Int32) {M0 : Nat → Int32} {O : Nat × Nat} {Q : Int32 → (Nat → Int32) → Nat × Nat → Prop} (hI : tI N M0 O) (hQ : ∀ (r : Int32) (M' : Nat → Int32) (O' : Nat × Nat), tI N M' O' → tK M0 M' → Q r M' O') : wT_X11_about N q1 M0 O Q := by
  obtain ⟨_, _, _, _, _, _, _, _, _, _, _, _, _⟩ := (show tN N from hN)
  obtain ⟨⟨_, _⟩, ⟨_, _⟩, _, ⟨_, _⟩, ⟨_, _⟩, ⟨_, _⟩, hO7⟩ := (show tI N M0 O from hI)
  have hk : tK M0 M0 := tK_rf M0
  unfold wT_X11_about
  have := b_le7 hO7
  refine ⟨fun hk => ?_, fun hk => ?_, fun hk => ?_, fun hk0 hk1 hk2 => ?_⟩
  · have := ti_rng q1
    have : (7 : Int32).toInt = 7 := by decide
    have hk9 := congrArg Int32.toInt hk
    exact hQ _ _ _ (show tI N M0 O from hI) (show tK M0 M0 from hk)
  · have := ti_rng q1
    have : (8 : Int32).toInt = 8 := by decide
    have hk9 := congrArg Int32.toInt hk
    exact hQ _ _ _ (show tI N M0 O from hI) (show tK M0 M0 from hk)
  · have := ti_rng q1
    have : (9 : Int32).toInt = 9 := by decide
    have hk9 := congrArg Int32.toInt hk
    exact hQ _ _ _ (show tI N M0 O from hI) (show tK M0 M0 from hk)
  · have := ti_rng q1
    refine spT_X5_tell hN _ (show tI N M0 O from hI) (fun r1 M2 O2 hI hk1 => ?_)
    have hk := tK_tr (show tK M0 M0 from hk) hk1
    obtain ⟨⟨_, _⟩, ⟨_, _⟩, _, ⟨_, _⟩, ⟨_, _⟩, ⟨_, _⟩, hO7⟩ := (show tI N M2 O2 from hI)
    have := b_le7 hO7
    exact hQ _ _ _ (show tI N M2 O2 from hI) (show tK M0 M2 from hk)
set_option maxHeartbeats 2000000 in
theorem spT_X11_note {N : Nat → Nat} (hN : tN N) (q1 : Int32) {M0 : Nat → Int32} {O : Nat × Nat} {Q : Int32 → (Nat → Int32) → Nat × Nat → Prop} (hI : tI N M0 O) (hQ : ∀ (r : Int32) (M' : Nat → Int32) (O' : Nat × Nat), tI N M' O' → tK M0 M' → Q r M' O') : wT_X11_note N q1 M0 O Q := by
  obtain ⟨_, _, _, _, _, _, _, _, _, _, _, _, _⟩ := (show tN N from hN)
  obtain ⟨⟨_, _⟩, ⟨_, _⟩, _, ⟨_, _⟩, ⟨_, _⟩, ⟨_, _⟩, hO7⟩ := (show tI N M0 O from hI)
  have hk : tK M0 M0 := tK_rf M0
  unfold wT_X11_note
  have := b_le7 hO7
  have := ti_rng q1
  refine spT_X5_noteAt hN _ (show tI N M0 O from hI) (fun r1 M2 O2 hI hk1 => ?_)
  have hk := tK_tr (show tK M0 M0 from hk) hk1
  obtain ⟨⟨_, _⟩, ⟨_, _⟩, _, ⟨_, _⟩, ⟨_, _⟩, ⟨_, _⟩, hO7⟩ := (show tI N M2 O2 from hI)
  have := b_le7 hO7
  exact hQ _ _ _ (show tI N M2 O2 from hI) (show tK M0 M2 from hk)
set_option maxHeartbeats 2000000 in
theorem spT_X11_chain {N : Nat → Nat} (hN : tN N) (q1 : Int32) (q2 : Int32) {M0 : Nat → Int32} {O : Nat × Nat} {Q : Int32 → (Nat → Int32) → Nat × Nat → Prop} (hI : tI N M0 O) (hQ : ∀ (r : Int32) (M' : Nat → Int32) (O' : Nat × Nat), tI N M' O' → tK M0 M' → Q r M' O') : wT_X11_chain N q1 q2 M0 O Q := by
  obtain ⟨_, _, _, _, _, _, _, _, _, _, _, _, _⟩ := (show tN N from hN)
  obtain ⟨⟨_, _⟩, ⟨_, _⟩, _, ⟨_, _⟩, ⟨_, _⟩, ⟨_, _⟩, hO7⟩ := (show tI N M0 O from hI)
  have hk : tK M0 M0 := tK_rf M0
  unfold wT_X11_chain
  have := b_le7 hO7
  have := ti_rng (M0 35)
  have := ti_rng q1
  have := ti_rng q2
  refine spT_X2_tellOfChain hN _ _ _ (show tI N M0 O from hI) (fun r1 M2 O2 hI hk1 => ?_)
  have hk := tK_tr (show tK M0 M0 from hk) hk1
  obtain ⟨⟨_, _⟩, ⟨_, _⟩, _, ⟨_, _⟩, ⟨_, _⟩, ⟨_, _⟩, hO7⟩ := (show tI N M2 O2 from hI)
  have := b_le7 hO7
  exact hQ _ _ _ (show tI N M2 O2 from hI) (show tK M0 M2 from hk)
set_option maxHeartbeats 2000000 in
theorem spT_X11_complaint {N : Nat → Nat} (hN : tN N) (q1 : Int32) (q2 : Int32) (q3 : Int32) {M0 : Nat → Int32} {O : Nat × Nat} {Q : Int32 → (Nat → Int32) → Nat × Nat → Prop} (hI : tI N M0 O) (hQ : ∀ (r : Int32) (M' : Nat → Int32) (O' : Nat × Nat), tI N M' O' → tK M0 M' → Q r M' O') : wT_X11_complaint N q1 q2 q3 M0 O Q := by
  obtain ⟨_, _, _, _, _, _, _, _, _, _, _, _, _⟩ := (show tN N from hN)
  obtain ⟨⟨_, _⟩, ⟨_, _⟩, _, ⟨_, _⟩, ⟨_, _⟩, ⟨_, _⟩, hO7⟩ := (show tI N M0 O from hI)
  have hk : tK M0 M0 := tK_rf M0
  unfold wT_X11_complaint
  have := b_le7 hO7
  have := ti_rng q1
  refine spT_X0_complaintOf hN _ (show tI N M0 O from hI) (fun r1 M2 O2 hI hk1 => ?_)
  have hk := tK_tr (show tK M0 M0 from hk) hk1
  obtain ⟨⟨_, _⟩, ⟨_, _⟩, _, ⟨_, _⟩, ⟨_, _⟩, ⟨_, _⟩, hO7⟩ := (show tI N M2 O2 from hI)
  have := b_le7 hO7
  have := ti_rng r1
  have := ti_rng q2
  have := ti_rng q3
  refine spT_X2_tellOfChain hN _ _ _ (show tI N M2 O2 from hI) (fun r3 M4 O4 hI hk1 => ?_)
  have hk := tK_tr (show tK M0 M2 from hk) hk1
  obtain ⟨⟨_, _⟩, ⟨_, _⟩, _, ⟨_, _⟩, ⟨_, _⟩, ⟨_, _⟩, hO7⟩ := (show tI N M4 O4 from hI)
  have := b_le7 hO7
  exact hQ _ _ _ (show tI N M4 O4 from hI) (show tK M0 M4 from hk)
