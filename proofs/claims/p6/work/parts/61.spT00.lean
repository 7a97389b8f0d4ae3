set_option maxHeartbeats 2000000 in
theorem spT_X0_isInstance {N : Nat → Nat} (hN : tN N) (q0 : Int32) {M0 : Nat → Int32} {O : Nat × Nat} {Q : Int32 → (Nat → Int32) → Nat × Nat → Prop} (hI : tI N M0 O) (hQ : ∀ (r : Int32) , (¬ r = 0 → 0 ≤ q0.toInt ∧ q0.toInt < 3) → Q r M0 O) : wT_X0_isInstance N q0 M0 O Q := by
  obtain ⟨_, _, _, _, _, _, _, _, _, _, _, _, _⟩ := (show tN N from hN)
  obtain ⟨⟨_, _⟩, ⟨_, _⟩, _, ⟨_, _⟩, ⟨_, _⟩, ⟨_, _⟩, hO7⟩ := (show tI N M0 O from hI)
  have hk : tK M0 M0 := tK_rf M0
  have hQ1 := hQ
  unfold wT_X0_isInstance
  have := b_le7 hO7
  refine ⟨fun hc1 => ?_, fun hc1 => ?_⟩
  · have := ti_rng q0
    have : (0 : Int32).toInt = 0 := by decide
    have hc1 := Int32.lt_iff_toInt_lt.mp hc1
    exact hQ1 _ (fun h9 => by first | exact absurd rfl h9 | omega)
  · have := ti_rng q0
    have : (0 : Int32).toInt = 0 := by decide
    have hc1 := ti_nlt hc1
    refine ⟨fun hc2 => ?_, fun hc2 => ?_⟩
    · have : (3 : Int32).toInt = 3 := by decide
      have hc2 := Int32.le_iff_toInt_le.mp hc2
      exact hQ1 _ (fun h9 => by first | exact absurd rfl h9 | omega)
    · have : (3 : Int32).toInt = 3 := by decide
      have hc2 := ti_nle hc2
      have : (1 : Int32).toInt = 1 := by decide
      exact hQ1 _ (fun h9 => by first | exact absurd rfl h9 | omega)
set_option maxHeartbeats 2000000 in
theorem spT_X3_exists {N : Nat → Nat} (hN : tN N) (q0 : Int32) {M0 : Nat → Int32} {O : Nat × Nat} {Q : Int32 → (Nat → Int32) → Nat × Nat → Prop} (hI : tI N M0 O) (hQ : ∀ (r : Int32) , (¬ r = 0 → 0 ≤ q0.toInt ∧ q0.toInt < 7) → Q r M0 O) : wT_X3_exists N q0 M0 O Q := by
  obtain ⟨_, _, _, _, _, _, _, _, _, _, _, _, _⟩ := (show tN N from hN)
  obtain ⟨⟨_, _⟩, ⟨_, _⟩, _, ⟨_, _⟩, ⟨_, _⟩, ⟨_, _⟩, hO7⟩ := (show tI N M0 O from hI)
  have hk : tK M0 M0 := tK_rf M0
  have hQ1 := hQ
  unfold wT_X3_exists
  have := b_le7 hO7
  refine ⟨fun hc1 => ?_, fun hc1 => ?_⟩
  · have := ti_rng q0
    have : (0 : Int32).toInt = 0 := by decide
    have hc1 := Int32.lt_iff_toInt_lt.mp hc1
    exact hQ1 _ (fun h9 => by first | exact absurd rfl h9 | omega)
  · have := ti_rng q0
    have : (0 : Int32).toInt = 0 := by decide
    have hc1 := ti_nlt hc1
    refine ⟨fun hc2 => ?_, fun hc2 => ?_⟩
    · have : (7 : Int32).toInt = 7 := by decide
      have hc2 := Int32.le_iff_toInt_le.mp hc2
      exact hQ1 _ (fun h9 => by first | exact absurd rfl h9 | omega)
    · have : (7 : Int32).toInt = 7 := by decide
      have hc2 := ti_nle hc2
      have : (1 : Int32).toInt = 1 := by decide
      exact hQ1 _ (fun h9 => by first | exact absurd rfl h9 | omega)
set_option maxHeartbeats 2000000 in
theorem spT_X0_setPolicy_41 {N : Nat → Nat} (hN : tN N) (q1 : Int32) (q2 : Int32) (q3 : Int32) (q4 : Int32) {Q : Int32 → (Nat → Int32) → Nat × Nat → Prop} {M0 : Nat → Int32} {O0 : Nat × Nat} (hQ : ∀ (r : Int32) , (r = 0 ∨ r = 1) → Q r M0 O0) (a1 : Int32) (a2 : Int32) (a3 : Int32) (a4 : Int32) (M : Nat → Int32) (O : Nat × Nat) (hI : tI N M O) (hk : (M0 = M ∧ O0 = O)) (hbi : (0 ≤ a1.toInt ∧ a1.toInt < 3 ∧ 0 ≤ a2.toInt ∧ a2.toInt < 7)) : wT_X0_setPolicy_41 N Q a1 a2 a3 a4 M O := by
  obtain ⟨_, _, _, _, _, _, _, _, _, _, _, _, _⟩ := (show tN N from hN)
  obtain ⟨⟨_, _⟩, ⟨_, _⟩, _, ⟨_, _⟩, ⟨_, _⟩, ⟨_, _⟩, hO7⟩ := (show tI N M O from hI)
  unfold wT_X0_setPolicy_41
  obtain ⟨e1, e2⟩ := hk
  have hQ1 := hQ
  rw [e1, e2] at hQ1
  have := b_le7 hO7
  have := ti_rng a1
  have : (7 : Int32).toInt = 7 := by decide
  first | have := ti_mulx a1 7 7 (by decide) (by omega) | obtain ⟨_, _, _, _⟩ := ti_mulc a1 7 7 (by decide)
  have := ti_rng a2
  first | have := ti_addx (a1 * 7) a2 (by omega) | obtain ⟨_, _, _, _⟩ := ti_add (a1 * 7) a2
  refine ⟨vp_in_iff.mpr (by omega), ?_⟩
  refine ⟨vp_in_iff.mpr (by omega), ?_⟩
  have : (1 : Int32).toInt = 1 := by decide
  exact hQ1 _ (by first | exact Or.inl rfl | exact Or.inr rfl)
set_option maxHeartbeats 2000000 in
theorem spT_X0_setPolicy {N : Nat → Nat} (hN : tN N) (q1 : Int32) (q2 : Int32) (q3 : Int32) (q4 : Int32) {M0 : Nat → Int32} {O : Nat × Nat} {Q : Int32 → (Nat → Int32) → Nat × Nat → Prop} (hI : tI N M0 O) (hQ : ∀ (r : Int32) , (r = 0 ∨ r = 1) → Q r M0 O) : wT_X0_setPolicy N q1 q2 q3 q4 M0 O Q := by
  obtain ⟨_, _, _, _, _, _, _, _, _, _, _, _, _⟩ := (show tN N from hN)
  obtain ⟨⟨_, _⟩, ⟨_, _⟩, _, ⟨_, _⟩, ⟨_, _⟩, ⟨_, _⟩, hO7⟩ := (show tI N M0 O from hI)
  have hk : tK M0 M0 := tK_rf M0
  have hQ1 := hQ
  unfold wT_X0_setPolicy
  have := b_le7 hO7
  have := ti_rng q1
  refine spT_X0_isInstance hN _ (show tI N M0 O from hI) (fun r1 hp2 => ?_)
  refine ⟨fun hc3 => ?_, fun hc3 => ?_⟩
  · have := ti_rng r1
    have : (0 : Int32).toInt = 0 := by decide
    have hc39 := congrArg Int32.toInt hc3
    exact hQ1 _ (by first | exact Or.inl rfl | exact Or.inr rfl)
  · have := ti_rng r1
    have : (0 : Int32).toInt = 0 := by decide
    have hc39 := ti_ne hc3
    have hc3q := hp2 hc3
    have := ti_rng q2
    refine spT_X3_exists hN _ (show tI N M0 O from hI) (fun r4 hp5 => ?_)
    refine ⟨fun hc6 => ?_, fun hc6 => ?_⟩
    · have := ti_rng r4
      have hc69 := congrArg Int32.toInt hc6
      exact hQ1 _ (by first | exact Or.inl rfl | exact Or.inr rfl)
    · have := ti_rng r4
      have hc69 := ti_ne hc6
      have hc6q := hp5 hc6
      refine ⟨fun hc7 => ?_, fun hc7 => ?_⟩
      · have := ti_rng q3
        have : ((-1) : Int32).toInt = -1 := by decide
        have hc7 := Int32.lt_iff_toInt_lt.mp hc7
        exact hQ1 _ (by first | exact Or.inl rfl | exact Or.inr rfl)
      · have := ti_rng q3
        have : ((-1) : Int32).toInt = -1 := by decide
        have hc7 := ti_nlt hc7
        refine ⟨fun hc8 => ?_, fun hc8 => ?_⟩
        · have : (5 : Int32).toInt = 5 := by decide
          have hc8 := Int32.le_iff_toInt_le.mp hc8
          refine ⟨fun hc9 => ?_, fun hc9 => ?_⟩
          · have : (2 : Int32).toInt = 2 := by decide
            have hc99 := ti_ne hc9
            have := ti_rng q4
            exact spT_X0_setPolicy_41 hN q1 q2 q3 q4 hQ _ _ _ _ _ _ (show tI N M0 O from hI) ⟨rfl, rfl⟩ (show (0 ≤ q1.toInt ∧ q1.toInt < 3 ∧ 0 ≤ q2.toInt ∧ q2.toInt < 7) from by omega)
          · have : (2 : Int32).toInt = 2 := by decide
            have hc99 := congrArg Int32.toInt hc9
            have := ti_rng q4
            refine spT_X3_exists hN _ (show tI N M0 O from hI) (fun r10 hp11 => ?_)
            refine ⟨fun hc12 => ?_, fun hc12 => ?_⟩
            · have := ti_rng r10
              have hc129 := ti_ne hc12
              have hc12q := hp11 hc12
              exact spT_X0_setPolicy_41 hN q1 q2 q3 q4 hQ _ _ _ _ _ _ (show tI N M0 O from hI) ⟨rfl, rfl⟩ (show (0 ≤ q1.toInt ∧ q1.toInt < 3 ∧ 0 ≤ q2.toInt ∧ q2.toInt < 7) from by omega)
            · have := ti_rng r10
              have hc129 := congrArg Int32.toInt hc12
              exact hQ1 _ (by first | exact Or.inl rfl | exact Or.inr rfl)
        · have : (5 : Int32).toInt = 5 := by decide
          have hc8 := ti_nle hc8
          exact hQ1 _ (by first | exact Or.inl rfl | exact Or.inr rfl)
set_option maxHeartbeats 2000000 in
theorem spT_X0_enterComplaint {N : Nat → Nat} (hN : tN N) (q1 : Int32) (q2 : Int32) (q3 : Int32) {M0 : Nat → Int32} {O : Nat × Nat} {Q : Int32 → (Nat → Int32) → Nat × Nat → Prop} (hI : tI N M0 O) (hQ : ∀ (r : Int32) (M' : Nat → Int32) (O' : Nat × Nat), tI N M' O' → tK M0 M' → Q r M' O') : wT_X0_enterComplaint N q1 q2 q3 M0 O Q := by
  obtain ⟨_, _, _, _, _, _, _, _, _, _, _, _, _⟩ := (show tN N from hN)
  obtain ⟨⟨_, _⟩, ⟨_, _⟩, _, ⟨_, _⟩, ⟨_, _⟩, ⟨_, _⟩, hO7⟩ := (show tI N M0 O from hI)
  have hk : tK M0 M0 := tK_rf M0
  have hQ1 := hQ
  unfold wT_X0_enterComplaint
  have := b_le7 hO7
  have := ti_rng q1
  refine spT_X0_isInstance hN _ (show tI N M0 O from hI) (fun r1 hp2 => ?_)
  refine ⟨fun hc3 => ?_, fun hc3 => ?_⟩
  · have := ti_rng r1
    have : (0 : Int32).toInt = 0 := by decide
    have hc39 := congrArg Int32.toInt hc3
    exact hQ _ _ _ (show tI N M0 O from hI) (show tK M0 M0 from hk)
  · have := ti_rng r1
    have : (0 : Int32).toInt = 0 := by decide
    have hc39 := ti_ne hc3
    have hc3q := hp2 hc3
    have := ti_rng q2
    refine spT_X3_exists hN _ (show tI N M0 O from hI) (fun r4 hp5 => ?_)
    refine ⟨fun hc6 => ?_, fun hc6 => ?_⟩
    · have := ti_rng r4
      have hc69 := ti_ne hc6
      have hc6q := hp5 hc6
      have := ti_rng q3
      have : ((-1) : Int32).toInt = -1 := by decide
      refine spT_X2_make hN _ _ _ _ (show tI N M0 O from hI) (fun r7 M8 O8 hI hk1 => ?_)
      have hk := tK_tr (show tK M0 M0 from hk) hk1
      obtain ⟨⟨_, _⟩, ⟨_, _⟩, _, ⟨_, _⟩, ⟨_, _⟩, ⟨_, _⟩, hO7⟩ := (show tI N M8 O8 from hI)
      have := b_le7 hO7
      refine ⟨fun hc9 => ?_, fun hc9 => ?_⟩
      · have := ti_rng r7
        have hc99 := ti_ne hc9
        refine ⟨vp_in_iff.mpr (by omega), ?_⟩
        exact hQ _ _ _ (show tI N M8 O8 from hI) (show tK M0 M8 from hk)
      · have := ti_rng r7
        have hc99 := congrArg Int32.toInt hc9
        exact hQ _ _ _ (show tI N M8 O8 from hI) (show tK M0 M8 from hk)
    · have := ti_rng r4
      have hc69 := congrArg Int32.toInt hc6
      exact hQ _ _ _ (show tI N M0 O from hI) (show tK M0 M0 from hk)
set_option maxHeartbeats 2000000 in
theorem spT_X0_complaintOf {N : Nat → Nat} (hN : tN N) (q1 : Int32) {M0 : Nat → Int32} {O : Nat × Nat} {Q : Int32 → (Nat → Int32) → Nat × Nat → Prop} (hI : tI N M0 O) (hQ : ∀ (r : Int32) , Q r M0 O) : wT_X0_complaintOf N q1 M0 O Q := by
  obtain ⟨_, _, _, _, _, _, _, _, _, _, _, _, _⟩ := (show tN N from hN)
  obtain ⟨⟨_, _⟩, ⟨_, _⟩, _, ⟨_, _⟩, ⟨_, _⟩, ⟨_, _⟩, hO7⟩ := (show tI N M0 O from hI)
  have hk : tK M0 M0 := tK_rf M0
  have hQ1 := hQ
  unfold wT_X0_complaintOf
  have := b_le7 hO7
  have := ti_rng q1
  refine spT_X0_isInstance hN _ (show tI N M0 O from hI) (fun r1 hp2 => ?_)
  refine ⟨fun hc3 => ?_, fun hc3 => ?_⟩
  · have := ti_rng r1
    have : (0 : Int32).toInt = 0 := by decide
    have hc39 := congrArg Int32.toInt hc3
    exact hQ1 _
  · have := ti_rng r1
    have : (0 : Int32).toInt = 0 := by decide
    have hc39 := ti_ne hc3
    have hc3q := hp2 hc3
    refine ⟨vp_in_iff.mpr (by omega), fun z4 => ?_⟩
    exact hQ1 _
set_option maxHeartbeats 2000000 in
theorem spT_X3_oneOf {N : Nat → Nat} (hN : tN N) (q0 : Int32) {M0 : Nat → Int32} {O : Nat × Nat} {Q : Int32 → (Nat → Int32) → Nat × Nat → Prop} (hI : tI N M0 O) (hQ : ∀ (r : Int32) , Q r M0 O) : wT_X3_oneOf N q0 M0 O Q := by
  obtain ⟨_, _, _, _, _, _, _, _, _, _, _, _, _⟩ := (show tN N from hN)
  obtain ⟨⟨_, _⟩, ⟨_, _⟩, _, ⟨_, _⟩, ⟨_, _⟩, ⟨_, _⟩, hO7⟩ := (show tI N M0 O from hI)
  have hk : tK M0 M0 := tK_rf M0
  have hQ1 := hQ
  unfold wT_X3_oneOf
  have := b_le7 hO7
  refine ⟨fun hc1 => ?_, fun hc1 => ?_⟩
  · have := ti_rng q0
    have : (0 : Int32).toInt = 0 := by decide
    have hc1 := Int32.lt_iff_toInt_lt.mp hc1
    exact hQ1 _
  · have := ti_rng q0
    have : (0 : Int32).toInt = 0 := by decide
    have hc1 := ti_nlt hc1
    refine ⟨fun hc2 => ?_, fun hc2 => ?_⟩
    · have : (7 : Int32).toInt = 7 := by decide
      have hc2 := Int32.le_iff_toInt_le.mp hc2
      exact hQ1 _
    · have : (7 : Int32).toInt = 7 := by decide
      have hc2 := ti_nle hc2
      refine ⟨vp_in_iff.mpr (by omega), fun z3 => ?_⟩
      exact hQ1 _
set_option maxHeartbeats 2000000 in
theorem spT_X0_policyIndex_54 {N : Nat → Nat} (hN : tN N) (q1 : Int32) (q2 : Int32) {K5 : (Int32 → Int32 → Int32 → (Nat → Int32) → (Nat × Nat) → Prop)} {n5 : Nat} {Q : Int32 → (Nat → Int32) → Nat × Nat → Prop} {M0 : Nat → Int32} {O0 : Nat × Nat} (sK5 : ∀ (a1 : Int32) (a3 : Int32) (a4 : Int32) (M : Nat → Int32) (O : Nat × Nat), tI N M O → (M0 = M ∧ O0 = O) → (0 ≤ a4.toInt ∧ a4.toInt ≤ 7) → (7 - a4.toInt) + 1 ≤ (n5 : Int) → K5 a1 a3 a4 M O) (hQ : ∀ (r : Int32) , Q r M0 O0) (a1 : Int32) (a3 : Int32) (a4 : Int32) (M : Nat → Int32) (O : Nat × Nat) (hI : tI N M O) (hk : (M0 = M ∧ O0 = O)) (hbi : ((0 ≤ a4.toInt ∧ a4.toInt ≤ 7) ∧ (7 - a4.toInt) ≤ (n5 : Int) ∧ 1 ≤ (7 - a4.toInt))) : wT_X0_policyIndex_54 N K5 Q a1 a3 a4 M O := by
  obtain ⟨_, _, _, _, _, _, _, _, _, _, _, _, _⟩ := (show tN N from hN)
  obtain ⟨⟨_, _⟩, ⟨_, _⟩, _, ⟨_, _⟩, ⟨_, _⟩, ⟨_, _⟩, hO7⟩ := (show tI N M O from hI)
  unfold wT_X0_policyIndex_54
  obtain ⟨e1, e2⟩ := hk
  have hQ1 := hQ
  rw [e1, e2] at hQ1
  have := b_le7 hO7
  have := ti_rng a3
  refine spT_X3_oneOf hN _ (show tI N M O from hI) (fun r4 => ?_)
  have := ti_rng a1
  have := ti_rng r4
  have := ti_rng a4
  have : (1 : Int32).toInt = 1 := by decide
  first | have := ti_addx a4 1 (by omega) | obtain ⟨_, _, _, _⟩ := ti_add a4 1
  exact sK5 _ _ _ _ _ (show tI N M O from hI) ⟨e1, e2⟩ (show 0 ≤ (a4 + 1).toInt ∧ (a4 + 1).toInt ≤ 7 from by omega) (show (7 - (a4 + 1).toInt) + 1 ≤ _ from by omega)
set_option maxHeartbeats 2000000 in
theorem spT_X0_policyIndex_5 {N : Nat → Nat} (hN : tN N) (q1 : Int32) (q2 : Int32) {Q : Int32 → (Nat → Int32) → Nat × Nat → Prop} {M0 : Nat → Int32} {O0 : Nat × Nat} (hQ : ∀ (r : Int32) , Q r M0 O0) : ∀ (n5 : Nat) (a1 : Int32) (a3 : Int32) (a4 : Int32) (M : Nat → Int32) (O : Nat × Nat), tI N M O → (M0 = M ∧ O0 = O) → (0 ≤ a4.toInt ∧ a4.toInt ≤ 7) → (7 - a4.toInt) + 1 ≤ (n5 : Int) → wT_X0_policyIndex_5 N Q n5 a1 a3 a4 M O := by
  obtain ⟨_, _, _, _, _, _, _, _, _, _, _, _, _⟩ := (show tN N from hN)
  intro n5
  induction n5 with
  | zero => intro a1 a3 a4 M O hI hk hv hn; exact absurd hn (by omega)
  | succ n5 ih =>
    intro a1 a3 a4 M O hI hk hv hn
    obtain ⟨⟨_, _⟩, ⟨_, _⟩, _, ⟨_, _⟩, ⟨_, _⟩, ⟨_, _⟩, hO7⟩ := (show tI N M O from hI)
    dsimp only [wT_X0_policyIndex_5]
    obtain ⟨e1, e2⟩ := hk
    have hQ1 := hQ
    rw [e1, e2] at hQ1
    have := b_le7 hO7
    refine ⟨fun hc1 => ?_, fun hc1 => ?_⟩
    · have : (7 : Int32).toInt = 7 := by decide
      have := ti_rng a4
      have hc1 := Int32.le_iff_toInt_le.mp hc1
      exact hQ1 _
    · have : (7 : Int32).toInt = 7 := by decide
      have := ti_rng a4
      have hc1 := ti_nle hc1
      refine ⟨fun hc2 => ?_, fun hc2 => ?_⟩
      · have := ti_rng a3
        have : ((-1) : Int32).toInt = -1 := by decide
        have hc29 := congrArg Int32.toInt hc2
        exact hQ1 _
      · have := ti_rng a3
        have : ((-1) : Int32).toInt = -1 := by decide
        have hc29 := ti_ne hc2
        refine ⟨fun hc3 => ?_, fun hc3 => ?_⟩
        · have := ti_rng a1
          first | have := ti_mulx a1 7 7 (by decide) (by omega) | obtain ⟨_, _, _, _⟩ := ti_mulc a1 7 7 (by decide)
          first | have := ti_addx (a1 * 7) a3 (by omega) | obtain ⟨_, _, _, _⟩ := ti_add (a1 * 7) a3
          have : (0 : Int32).toInt = 0 := by decide
          have hc3 := Int32.lt_iff_toInt_lt.mp hc3
          exact spT_X0_policyIndex_54 hN q1 q2 ih hQ _ _ _ _ _ (show tI N M O from hI) ⟨e1, e2⟩ (show ((0 ≤ a4.toInt ∧ a4.toInt ≤ 7) ∧ (7 - a4.toInt) ≤ (n5 : Int) ∧ 1 ≤ (7 - a4.toInt)) from by omega)
        · have := ti_rng a1
          first | have := ti_mulx a1 7 7 (by decide) (by omega) | obtain ⟨_, _, _, _⟩ := ti_mulc a1 7 7 (by decide)
          first | have := ti_addx (a1 * 7) a3 (by omega) | obtain ⟨_, _, _, _⟩ := ti_add (a1 * 7) a3
          have : (0 : Int32).toInt = 0 := by decide
          have hc3 := ti_nlt hc3
          refine ⟨fun hc6 => ?_, fun hc6 => ?_⟩
          · have := nI_toInt (n := (N 11)) (by omega)
            have hc6 := Int32.le_iff_toInt_le.mp hc6
            exact spT_X0_policyIndex_54 hN q1 q2 ih hQ _ _ _ _ _ (show tI N M O from hI) ⟨e1, e2⟩ (show ((0 ≤ a4.toInt ∧ a4.toInt ≤ 7) ∧ (7 - a4.toInt) ≤ (n5 : Int) ∧ 1 ≤ (7 - a4.toInt)) from by omega)
          · have := nI_toInt (n := (N 11)) (by omega)
            have hc6 := ti_nle hc6
            refine ⟨vp_in_iff.mpr (by omega), fun z7 => ?_⟩
            refine ⟨fun hc8 => ?_, fun hc8 => ?_⟩
            · have := ti_rng z7
              have hc89 := congrArg Int32.toInt hc8
              exact spT_X0_policyIndex_54 hN q1 q2 ih hQ _ _ _ _ _ (show tI N M O from hI) ⟨e1, e2⟩ (show ((0 ≤ a4.toInt ∧ a4.toInt ≤ 7) ∧ (7 - a4.toInt) ≤ (n5 : Int) ∧ 1 ≤ (7 - a4.toInt)) from by omega)
            · have := ti_rng z7
              have hc89 := ti_ne hc8
              exact hQ1 _
set_option maxHeartbeats 2000000 in
theorem spT_X0_policyIndex {N : Nat → Nat} (hN : tN N) (q1 : Int32) (q2 : Int32) {M0 : Nat → Int32} {O : Nat × Nat} {Q : Int32 → (Nat → Int32) → Nat × Nat → Prop} (hI : tI N M0 O) (hQ : ∀ (r : Int32) , Q r M0 O) : wT_X0_policyIndex N q1 q2 M0 O Q := by
  obtain ⟨_, _, _, _, _, _, _, _, _, _, _, _, _⟩ := (show tN N from hN)
  obtain ⟨⟨_, _⟩, ⟨_, _⟩, _, ⟨_, _⟩, ⟨_, _⟩, ⟨_, _⟩, hO7⟩ := (show tI N M0 O from hI)
  have hk : tK M0 M0 := tK_rf M0
  have hQ1 := hQ
  unfold wT_X0_policyIndex
  have := b_le7 hO7
  have := ti_rng q1
  have := ti_rng q2
  have : (0 : Int32).toInt = 0 := by decide
  exact ⟨((7 - (0 : Int32).toInt) + 1).toNat, spT_X0_policyIndex_5 hN q1 q2 hQ _ _ _ _ _ _ (show tI N M0 O from hI) ⟨rfl, rfl⟩ (show 0 ≤ (0 : Int32).toInt ∧ (0 : Int32).toInt ≤ 7 from by omega) (show (7 - (0 : Int32).toInt) + 1 ≤ _ from by omega)⟩
set_option maxHeartbeats 2000000 in
theorem spT_X8_setNumber {N : Nat → Nat} (hN : tN N) (q1 : Int32) (q2 : Int32) {M0 : Nat → Int32} {O : Nat × Nat} {Q : (Nat → Int32) → Nat × Nat → Prop} (hI : tI N M0 O) (hQ : Q M0 O) : wT_X8_setNumber N q1 q2 M0 O Q := by
  obtain ⟨_, _, _, _, _, _, _, _, _, _, _, _, _⟩ := (show tN N from hN)
  obtain ⟨⟨_, _⟩, ⟨_, _⟩, _, ⟨_, _⟩, ⟨_, _⟩, ⟨_, _⟩, hO7⟩ := (show tI N M0 O from hI)
  have hk : tK M0 M0 := tK_rf M0
  have hQ1 := hQ
  unfold wT_X8_setNumber
  have := b_le7 hO7
  refine ⟨fun hc1 => ?_, fun hc1 => ?_⟩
  · have := ti_rng (M0 50)
    have : (1 : Int32).toInt = 1 := by decide
    first | have := ti_subx (M0 50) 1 (by omega) | obtain ⟨_, _, _, _⟩ := ti_sub (M0 50) 1
    have : (12 : Int32).toInt = 12 := by decide
    first | have := ti_mulx ((M0 50) - 1) 12 12 (by decide) (by omega) | obtain ⟨_, _, _, _⟩ := ti_mulc ((M0 50) - 1) 12 12 (by decide)
    have := ti_rng q1
    first | have := ti_addx (((M0 50) - 1) * 12) q1 (by omega) | obtain ⟨_, _, _, _⟩ := ti_add (((M0 50) - 1) * 12) q1
    have : (0 : Int32).toInt = 0 := by decide
    have hc1 := Int32.lt_iff_toInt_lt.mp hc1
    exact hQ1
  · have := ti_rng (M0 50)
    have : (1 : Int32).toInt = 1 := by decide
    first | have := ti_subx (M0 50) 1 (by omega) | obtain ⟨_, _, _, _⟩ := ti_sub (M0 50) 1
    have : (12 : Int32).toInt = 12 := by decide
    first | have := ti_mulx ((M0 50) - 1) 12 12 (by decide) (by omega) | obtain ⟨_, _, _, _⟩ := ti_mulc ((M0 50) - 1) 12 12 (by decide)
    have := ti_rng q1
    first | have := ti_addx (((M0 50) - 1) * 12) q1 (by omega) | obtain ⟨_, _, _, _⟩ := ti_add (((M0 50) - 1) * 12) q1
    have : (0 : Int32).toInt = 0 := by decide
    have hc1 := ti_nlt hc1
    refine ⟨fun hc2 => ?_, fun hc2 => ?_⟩
    · have := nI_toInt (n := (N 15)) (by omega)
      have hc2 := Int32.le_iff_toInt_le.mp hc2
      exact hQ1
    · have := nI_toInt (n := (N 15)) (by omega)
      have hc2 := ti_nle hc2
      refine ⟨vp_in_iff.mpr (by omega), ?_⟩
      exact hQ1
set_option maxHeartbeats 2000000 in
theorem spT_X8_setObject {N : Nat → Nat} (hN : tN N) (q1 : Int32) (q2 : Int32) {M0 : Nat → Int32} {O : Nat × Nat} {Q : (Nat → Int32) → Nat × Nat → Prop} (hI : tI N M0 O) (hQ : Q M0 O) : wT_X8_setObject N q1 q2 M0 O Q := by
  obtain ⟨_, _, _, _, _, _, _, _, _, _, _, _, _⟩ := (show tN N from hN)
  obtain ⟨⟨_, _⟩, ⟨_, _⟩, _, ⟨_, _⟩, ⟨_, _⟩, ⟨_, _⟩, hO7⟩ := (show tI N M0 O from hI)
  have hk : tK M0 M0 := tK_rf M0
  have hQ1 := hQ
  unfold wT_X8_setObject
  have := b_le7 hO7
  refine ⟨fun hc1 => ?_, fun hc1 => ?_⟩
  · have := ti_rng q1
    have : ((-1) : Int32).toInt = -1 := by decide
    have hc19 := congrArg Int32.toInt hc1
    exact hQ1
  · have := ti_rng q1
    have : ((-1) : Int32).toInt = -1 := by decide
    have hc19 := ti_ne hc1
    refine ⟨fun hc2 => ?_, fun hc2 => ?_⟩
    · have := ti_rng (M0 50)
      have : (1 : Int32).toInt = 1 := by decide
      first | have := ti_subx (M0 50) 1 (by omega) | obtain ⟨_, _, _, _⟩ := ti_sub (M0 50) 1
      have : (8 : Int32).toInt = 8 := by decide
      first | have := ti_mulx ((M0 50) - 1) 8 8 (by decide) (by omega) | obtain ⟨_, _, _, _⟩ := ti_mulc ((M0 50) - 1) 8 8 (by decide)
      first | have := ti_addx (((M0 50) - 1) * 8) q1 (by omega) | obtain ⟨_, _, _, _⟩ := ti_add (((M0 50) - 1) * 8) q1
      have : (0 : Int32).toInt = 0 := by decide
      have hc2 := Int32.lt_iff_toInt_lt.mp hc2
      exact hQ1
    · have := ti_rng (M0 50)
      have : (1 : Int32).toInt = 1 := by decide
      first | have := ti_subx (M0 50) 1 (by omega) | obtain ⟨_, _, _, _⟩ := ti_sub (M0 50) 1
      have : (8 : Int32).toInt = 8 := by decide
      first | have := ti_mulx ((M0 50) - 1) 8 8 (by decide) (by omega) | obtain ⟨_, _, _, _⟩ := ti_mulc ((M0 50) - 1) 8 8 (by decide)
      first | have := ti_addx (((M0 50) - 1) * 8) q1 (by omega) | obtain ⟨_, _, _, _⟩ := ti_add (((M0 50) - 1) * 8) q1
      have : (0 : Int32).toInt = 0 := by decide
      have hc2 := ti_nlt hc2
      refine ⟨fun hc3 => ?_, fun hc3 => ?_⟩
      · have := nI_toInt (n := (N 16)) (by omega)
        have hc3 := Int32.le_iff_toInt_le.mp hc3
        exact hQ1
      · have := nI_toInt (n := (N 16)) (by omega)
        have hc3 := ti_nle hc3
        refine ⟨vp_in_iff.mpr (by omega), ?_⟩
        exact hQ1
set_option maxHeartbeats 2000000 in
theorem spT_X6_startOf {N : Nat → Nat} (hN : tN N) (q1 : Int32) {M0 : Nat → Int32} {O : Nat × Nat} {Q : Int32 → (Nat → Int32) → Nat × Nat → Prop} (hI : tI N M0 O) (hQ : ∀ (r : Int32) , Q r M0 O) : wT_X6_startOf N q1 M0 O Q := by
  obtain ⟨_, _, _, _, _, _, _, _, _, _, _, _, _⟩ := (show tN N from hN)
  obtain ⟨⟨_, _⟩, ⟨_, _⟩, _, ⟨_, _⟩, ⟨_, _⟩, ⟨_, _⟩, hO7⟩ := (show tI N M0 O from hI)
  have hk : tK M0 M0 := tK_rf M0
  have hQ1 := hQ
  unfold wT_X6_startOf
  have := b_le7 hO7
  refine ⟨fun hc1 => ?_, fun hc1 => ?_⟩
  · have := ti_rng q1
    have : (0 : Int32).toInt = 0 := by decide
    have hc1 := Int32.lt_iff_toInt_lt.mp hc1
    exact hQ1 _
  · have := ti_rng q1
    have : (0 : Int32).toInt = 0 := by decide
    have hc1 := ti_nlt hc1
    refine ⟨fun hc2 => ?_, fun hc2 => ?_⟩
    · have : (16 : Int32).toInt = 16 := by decide
      have hc2 := Int32.le_iff_toInt_le.mp hc2
      exact hQ1 _
    · have : (16 : Int32).toInt = 16 := by decide
      have hc2 := ti_nle hc2
      refine ⟨vp_in_iff.mpr (by omega), fun z3 => ?_⟩
      exact hQ1 _

