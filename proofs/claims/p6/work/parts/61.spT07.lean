set_option maxHeartbeats 2000000 in
theorem spT_X2_openTrial {N : Nat → Nat} (hN : tN N) {M0 : Nat → Int32} {O : Nat × Nat} {Q : (Nat → Int32) → Nat × Nat → Prop} (hI : tI N M0 O) (hQ : ∀ (M' : Nat → Int32) (O' : Nat × Nat), tI N M' O' → tK M0 M' → Q M' O') : wT_X2_openTrial N  M0 O Q := by
  obtain ⟨_, _, _, _, _, _, _, _, _, _, _, _, _⟩ := (show tN N from hN)
  obtain ⟨⟨_, _⟩, ⟨_, _⟩, _, ⟨_, _⟩, ⟨_, _⟩, ⟨_, _⟩, hO7⟩ := (show tI N M0 O from hI)
  have hk : tK M0 M0 := tK_rf M0
  have hQ1 := hQ
  unfold wT_X2_openTrial
  have := b_le7 hO7
  exact hQ _ _ (show tI N (um M0 21 (M0 22)) O from hI) (show tK M0 (um M0 21 (M0 22)) from hk)
set_option maxHeartbeats 2000000 in
theorem spT_X2_inChain_41 {N : Nat → Nat} (hN : tN N) (q1 : Int32) (q2 : Int32) {Q : Int32 → (Nat → Int32) → Nat × Nat → Prop} {M0 : Nat → Int32} {O0 : Nat × Nat} (hQ : ∀ (r : Int32) , Q r M0 O0) (a3 : Int32) (M : Nat → Int32) (O : Nat × Nat) (hI : tI N M O) (hk : (M0 = M ∧ O0 = O)) : wT_X2_inChain_41 N Q a3 M O := by
  obtain ⟨_, _, _, _, _, _, _, _, _, _, _, _, _⟩ := (show tN N from hN)
  obtain ⟨⟨_, _⟩, ⟨_, _⟩, _, ⟨_, _⟩, ⟨_, _⟩, ⟨_, _⟩, hO7⟩ := (show tI N M O from hI)
  unfold wT_X2_inChain_41
  obtain ⟨e1, e2⟩ := hk
  have hQ1 := hQ
  rw [e1, e2] at hQ1
  have := b_le7 hO7
  exact hQ1 _
set_option maxHeartbeats 2000000 in
theorem spT_X2_inChain_17 {N : Nat → Nat} (hN : tN N) (q1 : Int32) (q2 : Int32) {Q : Int32 → (Nat → Int32) → Nat × Nat → Prop} {M0 : Nat → Int32} {O0 : Nat × Nat} (hQ : ∀ (r : Int32) , Q r M0 O0) : ∀ (n17 : Nat) (a2 : Int32) (a3 : Int32) (a4 : Int32) (M : Nat → Int32) (O : Nat × Nat), tI N M O → (M0 = M ∧ O0 = O) → (0 ≤ a4.toInt ∧ a4.toInt ≤ a2.toInt ∧ a2.toInt < 50) → (a2.toInt - a4.toInt) + 1 ≤ (n17 : Int) → wT_X2_inChain_17 N Q n17 a2 a3 a4 M O := by
  obtain ⟨_, _, _, _, _, _, _, _, _, _, _, _, _⟩ := (show tN N from hN)
  intro n17
  induction n17 with
  | zero => intro a2 a3 a4 M O hI hk hv hn; exact absurd hn (by omega)
  | succ n17 ih =>
    intro a2 a3 a4 M O hI hk hv hn
    obtain ⟨⟨_, _⟩, ⟨_, _⟩, _, ⟨_, _⟩, ⟨_, _⟩, ⟨_, _⟩, hO7⟩ := (show tI N M O from hI)
    dsimp only [wT_X2_inChain_17]
    obtain ⟨e1, e2⟩ := hk
    have hQ1 := hQ
    rw [e1, e2] at hQ1
    have := b_le7 hO7
    refine ⟨fun hc3 => ?_, fun hc3 => ?_⟩
    · have := ti_rng a2
      have := ti_rng a4
      have hc3 := Int32.le_iff_toInt_le.mp hc3
      have := ti_rng a3
      exact spT_X2_inChain_41 hN q1 q2 hQ _ _ _ (show tI N M O from hI) ⟨e1, e2⟩
    · have := ti_rng a2
      have := ti_rng a4
      have hc3 := ti_nle hc3
      refine ⟨fun hc4 => ?_, fun hc4 => ?_⟩
      · have := ti_rng a3
        have : (0 : Int32).toInt = 0 := by decide
        have hc49 := congrArg Int32.toInt hc4
        exact spT_X2_inChain_41 hN q1 q2 hQ _ _ _ (show tI N M O from hI) ⟨e1, e2⟩
      · have := ti_rng a3
        have : (0 : Int32).toInt = 0 := by decide
        have hc49 := ti_ne hc4
        have : (6 : Int32).toInt = 6 := by decide
        refine spT_X2_get hN _ _ (show tI N M O from hI) (fun r5 => ?_)
        have := ti_rng r5
        have : (1 : Int32).toInt = 1 := by decide
        first | have := ti_addx a4 1 (by omega) | obtain ⟨_, _, _, _⟩ := ti_add a4 1
        exact ih _ _ _ _ _ (show tI N M O from hI) ⟨e1, e2⟩ (show 0 ≤ (a4 + 1).toInt ∧ (a4 + 1).toInt ≤ a2.toInt ∧ a2.toInt < 50 from by omega) (show (a2.toInt - (a4 + 1).toInt) + 1 ≤ _ from by omega)
set_option maxHeartbeats 2000000 in
theorem spT_X2_inChain {N : Nat → Nat} (hN : tN N) (q1 : Int32) (q2 : Int32) {M0 : Nat → Int32} {O : Nat × Nat} {Q : Int32 → (Nat → Int32) → Nat × Nat → Prop} (hI : tI N M0 O) (hQ : ∀ (r : Int32) , Q r M0 O) : wT_X2_inChain N q1 q2 M0 O Q := by
  obtain ⟨_, _, _, _, _, _, _, _, _, _, _, _, _⟩ := (show tN N from hN)
  obtain ⟨⟨_, _⟩, ⟨_, _⟩, _, ⟨_, _⟩, ⟨_, _⟩, ⟨_, _⟩, hO7⟩ := (show tI N M0 O from hI)
  have hk : tK M0 M0 := tK_rf M0
  have hQ1 := hQ
  unfold wT_X2_inChain
  have := b_le7 hO7
  refine ⟨fun hc1 => ?_, fun hc1 => ?_⟩
  · have := ti_rng q2
    have : (0 : Int32).toInt = 0 := by decide
    have hc1 := Int32.lt_iff_toInt_lt.mp hc1
    exact hQ1 _
  · have := ti_rng q2
    have : (0 : Int32).toInt = 0 := by decide
    have hc1 := ti_nlt hc1
    refine ⟨fun hc2 => ?_, fun hc2 => ?_⟩
    · have : (50 : Int32).toInt = 50 := by decide
      have hc2 := Int32.lt_iff_toInt_lt.mp hc2
      have := ti_rng q1
      exact ⟨((q2.toInt - (0 : Int32).toInt) + 1).toNat, spT_X2_inChain_17 hN q1 q2 hQ _ _ _ _ _ _ (show tI N M0 O from hI) ⟨rfl, rfl⟩ (show 0 ≤ (0 : Int32).toInt ∧ (0 : Int32).toInt ≤ q2.toInt ∧ q2.toInt < 50 from by omega) (show (q2.toInt - (0 : Int32).toInt) + 1 ≤ _ from by omega)⟩
    · have : (50 : Int32).toInt = 50 := by decide
      have hc2 := ti_nlt hc2
      exact hQ1 _
set_option maxHeartbeats 2000000 in
theorem spT_X2_tellOfChain {N : Nat → Nat} (hN : tN N) (q1 : Int32) (q2 : Int32) (q3 : Int32) {M0 : Nat → Int32} {O : Nat × Nat} {Q : Int32 → (Nat → Int32) → Nat × Nat → Prop} (hI : tI N M0 O) (hQ : ∀ (r : Int32) , Q r M0 O) : wT_X2_tellOfChain N q1 q2 q3 M0 O Q := by
  obtain ⟨_, _, _, _, _, _, _, _, _, _, _, _, _⟩ := (show tN N from hN)
  obtain ⟨⟨_, _⟩, ⟨_, _⟩, _, ⟨_, _⟩, ⟨_, _⟩, ⟨_, _⟩, hO7⟩ := (show tI N M0 O from hI)
  have hk : tK M0 M0 := tK_rf M0
  have hQ1 := hQ
  unfold wT_X2_tellOfChain
  have := b_le7 hO7
  have := ti_rng q1
  have := ti_rng q2
  refine spT_X2_inChain hN _ _ (show tI N M0 O from hI) (fun r1 => ?_)
  have := ti_rng r1
  refine spT_X2_exists hN _ (show tI N M0 O from hI) (fun r3 hp4 => ?_)
  refine ⟨fun hc5 => ?_, fun hc5 => ?_⟩
  · have := ti_rng r3
    have : (0 : Int32).toInt = 0 := by decide
    have hc59 := ti_ne hc5
    have hc5q := hp4 hc5
    refine ⟨fun hc6 => ?_, fun hc6 => ?_⟩
    · have := ti_rng q3
      have hc6 := Int32.lt_iff_toInt_lt.mp hc6
      exact hQ1 _
    · have := ti_rng q3
      have hc6 := ti_nlt hc6
      refine ⟨fun hc7 => ?_, fun hc7 => ?_⟩
      · have : (6 : Int32).toInt = 6 := by decide
        have hc7 := Int32.lt_iff_toInt_lt.mp hc7
        exact hQ1 _
      · have : (6 : Int32).toInt = 6 := by decide
        have hc7 := ti_nlt hc7
        refine spT_X2_tell hN _ _ (show tI N M0 O from hI) (fun r8 => ?_)
        exact hQ1 _
  · have := ti_rng r3
    have : (0 : Int32).toInt = 0 := by decide
    have hc59 := congrArg Int32.toInt hc5
    refine ⟨fun hc10 => ?_, fun hc10 => ?_⟩
    · have := ti_rng q3
      have hc109 := ti_ne hc10
      exact hQ1 _
    · have := ti_rng q3
      have hc109 := congrArg Int32.toInt hc10
      exact hQ1 _
set_option maxHeartbeats 2000000 in
theorem spT_X5_open {N : Nat → Nat} (hN : tN N) {M0 : Nat → Int32} {O : Nat × Nat} {Q : (Nat → Int32) → Nat × Nat → Prop} (hI : tI N M0 O) (hQ : ∀ (M' : Nat → Int32) (O' : Nat × Nat), tI N M' O' → tK M0 M' → Q M' O') : wT_X5_open N  M0 O Q := by
  obtain ⟨_, _, _, _, _, _, _, _, _, _, _, _, _⟩ := (show tN N from hN)
  obtain ⟨⟨_, _⟩, ⟨_, _⟩, _, ⟨_, _⟩, ⟨_, _⟩, ⟨_, _⟩, hO7⟩ := (show tI N M0 O from hI)
  have hk : tK M0 M0 := tK_rf M0
  have hQ1 := hQ
  unfold wT_X5_open
  have := b_le7 hO7
  have : (0 : Int32).toInt = 0 := by decide
  exact hQ _ _ (show tI N (um (um (um (um (um (um (um (um M0 31 0) 32 (-1)) 33 0) 34 (-1)) 35 0) 36 0) 37 0) 38 0) O from (show (0 ≤ (M0 1).toInt ∧ (M0 1).toInt ≤ 4000) ∧ (0 ≤ (M0 22).toInt ∧ (M0 22).toInt ≤ 8000) ∧ 7 * (M0 22).toInt ≤ ((448 * 2 ^ O.2 : Nat) : Int) ∧ (0 ≤ (0 : Int32).toInt ∧ (0 : Int32).toInt ≤ 200) ∧ (0 ≤ (M0 52).toInt ∧ (M0 52).toInt ≤ 128) ∧ (0 ≤ (M0 63).toInt ∧ (M0 63).toInt ≤ (N 20 : Int)) ∧ O.2 ≤ 7 from by omega)) (show tK M0 (um (um (um (um (um (um (um (um M0 31 0) 32 (-1)) 33 0) 34 (-1)) 35 0) 36 0) 37 0) 38 0) from hk)
set_option maxHeartbeats 2000000 in
theorem spT_X5_noteAt {N : Nat → Nat} (hN : tN N) (q1 : Int32) {M0 : Nat → Int32} {O : Nat × Nat} {Q : Int32 → (Nat → Int32) → Nat × Nat → Prop} (hI : tI N M0 O) (hQ : ∀ (r : Int32) , Q r M0 O) : wT_X5_noteAt N q1 M0 O Q := by
  obtain ⟨_, _, _, _, _, _, _, _, _, _, _, _, _⟩ := (show tN N from hN)
  obtain ⟨⟨_, _⟩, ⟨_, _⟩, _, ⟨_, _⟩, ⟨_, _⟩, ⟨_, _⟩, hO7⟩ := (show tI N M0 O from hI)
  have hk : tK M0 M0 := tK_rf M0
  have hQ1 := hQ
  unfold wT_X5_noteAt
  have := b_le7 hO7
  refine ⟨fun hc1 => ?_, fun hc1 => ?_⟩
  · have := ti_rng q1
    have : (0 : Int32).toInt = 0 := by decide
    have hc1 := Int32.lt_iff_toInt_lt.mp hc1
    exact hQ1 _
  · have := ti_rng q1
    have : (0 : Int32).toInt = 0 := by decide
    have hc1 := ti_nlt hc1
    refine ⟨fun hc2 => ?_, fun hc2 => ?_⟩
    · have := ti_rng (M0 31)
      have hc2 := Int32.le_iff_toInt_le.mp hc2
      exact hQ1 _
    · have := ti_rng (M0 31)
      have hc2 := ti_nle hc2
      refine ⟨fun hc3 => ?_, fun hc3 => ?_⟩
      · have := nI_toInt (n := (N 14)) (by omega)
        have hc3 := Int32.le_iff_toInt_le.mp hc3
        exact hQ1 _
      · have := nI_toInt (n := (N 14)) (by omega)
        have hc3 := ti_nle hc3
        refine ⟨vp_in_iff.mpr (by omega), fun z4 => ?_⟩
        exact hQ1 _
set_option maxHeartbeats 2000000 in
theorem spT_X5_tell {N : Nat → Nat} (hN : tN N) (q1 : Int32) {M0 : Nat → Int32} {O : Nat × Nat} {Q : Int32 → (Nat → Int32) → Nat × Nat → Prop} (hI : tI N M0 O) (hQ : ∀ (r : Int32) , Q r M0 O) : wT_X5_tell N q1 M0 O Q := by
  obtain ⟨_, _, _, _, _, _, _, _, _, _, _, _, _⟩ := (show tN N from hN)
  obtain ⟨⟨_, _⟩, ⟨_, _⟩, _, ⟨_, _⟩, ⟨_, _⟩, ⟨_, _⟩, hO7⟩ := (show tI N M0 O from hI)
  have hk : tK M0 M0 := tK_rf M0
  have hQ1 := hQ
  unfold wT_X5_tell
  have := b_le7 hO7
  refine ⟨fun hsw => ?_, fun hsw => ?_, fun hsw => ?_, fun hsw => ?_, fun hsw => ?_, fun hsw => ?_, fun hsw => ?_, fun hsw0 hsw1 hsw2 hsw3 hsw4 hsw5 hsw6 => ?_⟩
  · have := ti_rng q1
    have : (0 : Int32).toInt = 0 := by decide
    have hsw9 := congrArg Int32.toInt hsw
    exact hQ1 _
  · have := ti_rng q1
    have : (1 : Int32).toInt = 1 := by decide
    have hsw9 := congrArg Int32.toInt hsw
    exact hQ1 _
  · have := ti_rng q1
    have : (2 : Int32).toInt = 2 := by decide
    have hsw9 := congrArg Int32.toInt hsw
    exact hQ1 _
  · have := ti_rng q1
    have : (3 : Int32).toInt = 3 := by decide
    have hsw9 := congrArg Int32.toInt hsw
    exact hQ1 _
  · have := ti_rng q1
    have : (4 : Int32).toInt = 4 := by decide
    have hsw9 := congrArg Int32.toInt hsw
    exact hQ1 _
  · have := ti_rng q1
    have : (5 : Int32).toInt = 5 := by decide
    have hsw9 := congrArg Int32.toInt hsw
    exact hQ1 _
  · have := ti_rng q1
    have : (6 : Int32).toInt = 6 := by decide
    have hsw9 := congrArg Int32.toInt hsw
    exact hQ1 _
  · have := ti_rng q1
    exact hQ1 _
set_option maxHeartbeats 2000000 in
theorem spT_X11_fault {N : Nat → Nat} (hN : tN N) (q1 : Int32) {M0 : Nat → Int32} {O : Nat × Nat} {Q : Int32 → (Nat → Int32) → Nat × Nat → Prop} (hI : tI N M0 O) (hQ : ∀ (r : Int32) , Q r M0 O) : wT_X11_fault N q1 M0 O Q := by
  obtain ⟨_, _, _, _, _, _, _, _, _, _, _, _, _⟩ := (show tN N from hN)
  obtain ⟨⟨_, _⟩, ⟨_, _⟩, _, ⟨_, _⟩, ⟨_, _⟩, ⟨_, _⟩, hO7⟩ := (show tI N M0 O from hI)
  have hk : tK M0 M0 := tK_rf M0
  have hQ1 := hQ
  unfold wT_X11_fault
  have := b_le7 hO7
  refine ⟨fun hc1 => ?_, fun hc1 => ?_⟩
  · have := ti_rng q1
    have : (0 : Int32).toInt = 0 := by decide
    have hc19 := ti_ne hc1
    refine ⟨fun hc2 => ?_, fun hc2 => ?_⟩
    · have : (1 : Int32).toInt = 1 := by decide
      have hc29 := ti_ne hc2
      exact hQ1 _
    · have : (1 : Int32).toInt = 1 := by decide
      have hc29 := congrArg Int32.toInt hc2
      exact hQ1 _
  · have := ti_rng q1
    have : (0 : Int32).toInt = 0 := by decide
    have hc19 := congrArg Int32.toInt hc1
    exact hQ1 _
set_option maxHeartbeats 2000000 in
theorem spT_X11_policy {N : Nat → Nat} (hN : tN N) (q1 : Int32) (q2 : Int32) (q3 : Int32) (q4 : Int32) {M0 : Nat → Int32} {O : Nat × Nat} {Q : Int32 → (Nat → Int32) → Nat × Nat → Prop} (hI : tI N M0 O) (hQ : ∀ (r : Int32) , Q r M0 O) : wT_X11_policy N q1 q2 q3 q4 M0 O Q := by
  obtain ⟨_, _, _, _, _, _, _, _, _, _, _, _, _⟩ := (show tN N from hN)
  obtain ⟨⟨_, _⟩, ⟨_, _⟩, _, ⟨_, _⟩, ⟨_, _⟩, ⟨_, _⟩, hO7⟩ := (show tI N M0 O from hI)
  have hk : tK M0 M0 := tK_rf M0
  have hQ1 := hQ
  unfold wT_X11_policy
  have := b_le7 hO7
  have := ti_rng q1
  have := ti_rng q2
  have := ti_rng q3
  have := ti_rng q4
  refine spT_X0_setPolicy hN _ _ _ _ (show tI N M0 O from hI) (fun r1 hp2 => ?_)
  refine ⟨by assumption, ?_⟩
  exact hQ1 _
set_option maxHeartbeats 2000000 in
theorem spT_X11_complain {N : Nat → Nat} (hN : tN N) (q1 : Int32) (q2 : Int32) (q3 : Int32) {M0 : Nat → Int32} {O : Nat × Nat} {Q : Int32 → (Nat → Int32) → Nat × Nat → Prop} (hI : tI N M0 O) (hQ : ∀ (r : Int32) (M' : Nat → Int32) (O' : Nat × Nat), tI N M' O' → tK M0 M' → Q r M' O') : wT_X11_complain N q1 q2 q3 M0 O Q := by
  obtain ⟨_, _, _, _, _, _, _, _, _, _, _, _, _⟩ := (show tN N from hN)
  obtain ⟨⟨_, _⟩, ⟨_, _⟩, _, ⟨_, _⟩, ⟨_, _⟩, ⟨_, _⟩, hO7⟩ := (show tI N M0 O from hI)
  have hk : tK M0 M0 := tK_rf M0
  have hQ1 := hQ
  unfold wT_X11_complain
  have := b_le7 hO7
  have := ti_rng q1
  have := ti_rng q2
  have := ti_rng q3
  refine spT_X0_enterComplaint hN _ _ _ (show tI N M0 O from hI) (fun r1 M2 O2 hI hk1 => ?_)
  have hk := tK_tr (show tK M0 M0 from hk) hk1
  obtain ⟨⟨_, _⟩, ⟨_, _⟩, _, ⟨_, _⟩, ⟨_, _⟩, ⟨_, _⟩, hO7⟩ := (show tI N M2 O2 from hI)
  have := b_le7 hO7
  exact hQ _ _ _ (show tI N M2 O2 from hI) (show tK M0 M2 from hk)
set_option maxHeartbeats 2000000 in
theorem spT_X11_about {N : Nat → Nat} (hN : tN N) (q1 : Int32) {M0 : Nat → Int32} {O : Nat × Nat} {Q : Int32 → (Nat → Int32) → Nat × Nat → Prop} (hI : tI N M0 O) (hQ : ∀ (r : Int32) , Q r M0 O) : wT_X11_about N q1 M0 O Q := by
  obtain ⟨_, _, _, _, _, _, _, _, _, _, _, _, _⟩ := (show tN N from hN)
  obtain ⟨⟨_, _⟩, ⟨_, _⟩, _, ⟨_, _⟩, ⟨_, _⟩, ⟨_, _⟩, hO7⟩ := (show tI N M0 O from hI)
  have hk : tK M0 M0 := tK_rf M0
  have hQ1 := hQ
  unfold wT_X11_about
  have := b_le7 hO7
  refine ⟨fun hsw => ?_, fun hsw => ?_, fun hsw => ?_, fun hsw0 hsw1 hsw2 => ?_⟩
  · have := ti_rng q1
    have : (7 : Int32).toInt = 7 := by decide
    have hsw9 := congrArg Int32.toInt hsw
    exact hQ1 _
  · have := ti_rng q1
    have : (8 : Int32).toInt = 8 := by decide
    have hsw9 := congrArg Int32.toInt hsw
    exact hQ1 _
  · have := ti_rng q1
    have : (9 : Int32).toInt = 9 := by decide
    have hsw9 := congrArg Int32.toInt hsw
    exact hQ1 _
  · have := ti_rng q1
    refine spT_X5_tell hN _ (show tI N M0 O from hI) (fun r1 => ?_)
    exact hQ1 _
set_option maxHeartbeats 2000000 in
theorem spT_X11_note {N : Nat → Nat} (hN : tN N) (q1 : Int32) {M0 : Nat → Int32} {O : Nat × Nat} {Q : Int32 → (Nat → Int32) → Nat × Nat → Prop} (hI : tI N M0 O) (hQ : ∀ (r : Int32) , Q r M0 O) : wT_X11_note N q1 M0 O Q := by
  obtain ⟨_, _, _, _, _, _, _, _, _, _, _, _, _⟩ := (show tN N from hN)
  obtain ⟨⟨_, _⟩, ⟨_, _⟩, _, ⟨_, _⟩, ⟨_, _⟩, ⟨_, _⟩, hO7⟩ := (show tI N M0 O from hI)
  have hk : tK M0 M0 := tK_rf M0
  have hQ1 := hQ
  unfold wT_X11_note
  have := b_le7 hO7
  have := ti_rng q1
  refine spT_X5_noteAt hN _ (show tI N M0 O from hI) (fun r1 => ?_)
  exact hQ1 _
set_option maxHeartbeats 2000000 in
theorem spT_X11_chain {N : Nat → Nat} (hN : tN N) (q1 : Int32) (q2 : Int32) {M0 : Nat → Int32} {O : Nat × Nat} {Q : Int32 → (Nat → Int32) → Nat × Nat → Prop} (hI : tI N M0 O) (hQ : ∀ (r : Int32) , Q r M0 O) : wT_X11_chain N q1 q2 M0 O Q := by
  obtain ⟨_, _, _, _, _, _, _, _, _, _, _, _, _⟩ := (show tN N from hN)
  obtain ⟨⟨_, _⟩, ⟨_, _⟩, _, ⟨_, _⟩, ⟨_, _⟩, ⟨_, _⟩, hO7⟩ := (show tI N M0 O from hI)
  have hk : tK M0 M0 := tK_rf M0
  have hQ1 := hQ
  unfold wT_X11_chain
  have := b_le7 hO7
  have := ti_rng (M0 35)
  have := ti_rng q1
  have := ti_rng q2
  refine spT_X2_tellOfChain hN _ _ _ (show tI N M0 O from hI) (fun r1 => ?_)
  exact hQ1 _
set_option maxHeartbeats 2000000 in
theorem spT_X11_complaint {N : Nat → Nat} (hN : tN N) (q1 : Int32) (q2 : Int32) (q3 : Int32) {M0 : Nat → Int32} {O : Nat × Nat} {Q : Int32 → (Nat → Int32) → Nat × Nat → Prop} (hI : tI N M0 O) (hQ : ∀ (r : Int32) , Q r M0 O) : wT_X11_complaint N q1 q2 q3 M0 O Q := by
  obtain ⟨_, _, _, _, _, _, _, _, _, _, _, _, _⟩ := (show tN N from hN)
  obtain ⟨⟨_, _⟩, ⟨_, _⟩, _, ⟨_, _⟩, ⟨_, _⟩, ⟨_, _⟩, hO7⟩ := (show tI N M0 O from hI)
  have hk : tK M0 M0 := tK_rf M0
  have hQ1 := hQ
  unfold wT_X11_complaint
  have := b_le7 hO7
  have := ti_rng q1
  refine spT_X0_complaintOf hN _ (show tI N M0 O from hI) (fun r1 => ?_)
  have := ti_rng r1
  have := ti_rng q2
  have := ti_rng q3
  refine spT_X2_tellOfChain hN _ _ _ (show tI N M0 O from hI) (fun r3 => ?_)
  exact hQ1 _

