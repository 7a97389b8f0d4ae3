set_option maxHeartbeats 2000000 in
theorem spR_X7_faultFound_2 {N : Nat → Nat} (hN : rN N) {Q : Int32 → (Nat → Int32) → Nat × Nat → Prop} {M0 : Nat → Int32} {O0 : Nat × Nat} (hQ : ∀ (r : Int32) , Q r M0 O0) : ∀ (n2 : Nat) (a1 : Int32) (M : Nat → Int32) (O : Nat × Nat), rI N M O → (M0 = M ∧ O0 = O) → (1 ≤ a1.toInt ∧ a1.toInt ≤ 5) → (5 - a1.toInt) + 1 ≤ (n2 : Int) → wR_X7_faultFound_2 N Q n2 a1 M O := by
  obtain ⟨_, _, _, _, _, _, _, _, _, _, _, _, _, _, _, _⟩ := (show rN N from hN)
  intro n2
  induction n2 with
  | zero => intro a1 M O hI hk hv hn; exact absurd hn (by omega)
  | succ n2 ih =>
    intro a1 M O hI hk hv hn
    obtain ⟨⟨_, _⟩, ⟨_, _⟩, ⟨_, _, _⟩, ⟨_, _⟩, ⟨_, _⟩, ⟨_, _⟩, ⟨_, _⟩⟩ := (show rI N M O from hI)
    dsimp only [wR_X7_faultFound_2]
    obtain ⟨e1, e2⟩ := hk
    have hQ1 := hQ
    rw [e1, e2] at hQ1
    refine ⟨fun hc1 => ?_, fun hc1 => ?_⟩
    · have : (4 : Int32).toInt = 4 := by decide
      have := ti_rng a1
      have hc1 := Int32.lt_iff_toInt_lt.mp hc1
      exact hQ1 _
    · have : (4 : Int32).toInt = 4 := by decide
      have := ti_rng a1
      have hc1 := ti_nlt hc1
      refine ⟨vp_in_iff.mpr (by omega), fun z2 => ?_⟩
      refine ⟨fun hc3 => ?_, fun hc3 => ?_⟩
      · have := ti_rng z2
        have : ((-1) : Int32).toInt = -1 := by decide
        have hc39 := congrArg Int32.toInt hc3
        have : (1 : Int32).toInt = 1 := by decide
        first | have := ti_addx a1 1 (by omega) | obtain ⟨_, _, _, _⟩ := ti_add a1 1
        exact ih _ _ _ (show rI N M O from hI) ⟨e1, e2⟩ (show 1 ≤ (a1 + 1).toInt ∧ (a1 + 1).toInt ≤ 5 from by omega) (show (5 - (a1 + 1).toInt) + 1 ≤ _ from by omega)
      · have := ti_rng z2
        have : ((-1) : Int32).toInt = -1 := by decide
        have hc39 := ti_ne hc3
        exact hQ1 _
set_option maxHeartbeats 2000000 in
theorem spR_X7_faultFound {N : Nat → Nat} (hN : rN N) {M0 : Nat → Int32} {O : Nat × Nat} {Q : Int32 → (Nat → Int32) → Nat × Nat → Prop} (hI : rI N M0 O) (hQ : ∀ (r : Int32) , Q r M0 O) : wR_X7_faultFound N  M0 O Q := by
  obtain ⟨_, _, _, _, _, _, _, _, _, _, _, _, _, _, _, _⟩ := (show rN N from hN)
  obtain ⟨⟨_, _⟩, ⟨_, _⟩, ⟨_, _, _⟩, ⟨_, _⟩, ⟨_, _⟩, ⟨_, _⟩, ⟨_, _⟩⟩ := (show rI N M0 O from hI)
  have hk : rK M0 M0 := rK_rf M0
  have hQ1 := hQ
  unfold wR_X7_faultFound
  have : (1 : Int32).toInt = 1 := by decide
  exact ⟨((5 - (1 : Int32).toInt) + 1).toNat, spR_X7_faultFound_2 hN hQ _ _ _ _ (show rI N M0 O from hI) ⟨rfl, rfl⟩ (show 1 ≤ (1 : Int32).toInt ∧ (1 : Int32).toInt ≤ 5 from by omega) (show (5 - (1 : Int32).toInt) + 1 ≤ _ from by omega)⟩
set_option maxHeartbeats 2000000 in
theorem spR_X7_placeOfFault {N : Nat → Nat} (hN : rN N) (q1 : Int32) {M0 : Nat → Int32} {O : Nat × Nat} {Q : Int32 → (Nat → Int32) → Nat × Nat → Prop} (hI : rI N M0 O) (hQ : ∀ (r : Int32) , Q r M0 O) : wR_X7_placeOfFault N q1 M0 O Q := by
  obtain ⟨_, _, _, _, _, _, _, _, _, _, _, _, _, _, _, _⟩ := (show rN N from hN)
  obtain ⟨⟨_, _⟩, ⟨_, _⟩, ⟨_, _, _⟩, ⟨_, _⟩, ⟨_, _⟩, ⟨_, _⟩, ⟨_, _⟩⟩ := (show rI N M0 O from hI)
  have hk : rK M0 M0 := rK_rf M0
  have hQ1 := hQ
  unfold wR_X7_placeOfFault
  refine ⟨fun hc1 => ?_, fun hc1 => ?_⟩
  · have := ti_rng q1
    have : (1 : Int32).toInt = 1 := by decide
    have hc1 := Int32.lt_iff_toInt_lt.mp hc1
    exact hQ1 _
  · have := ti_rng q1
    have : (1 : Int32).toInt = 1 := by decide
    have hc1 := ti_nlt hc1
    refine ⟨fun hc2 => ?_, fun hc2 => ?_⟩
    · have : (4 : Int32).toInt = 4 := by decide
      have hc2 := Int32.lt_iff_toInt_lt.mp hc2
      exact hQ1 _
    · have : (4 : Int32).toInt = 4 := by decide
      have hc2 := ti_nlt hc2
      refine ⟨vp_in_iff.mpr (by omega), fun z3 => ?_⟩
      exact hQ1 _
set_option maxHeartbeats 2000000 in
theorem spR_X7_emit__ {N : Nat → Nat} (hN : rN N) (q1 : Int32) (q2 : Int32) (q3 : Int32) {M0 : Nat → Int32} {O : Nat × Nat} {Q : (Nat → Int32) → Nat × Nat → Prop} (hI : rI N M0 O) (hQ : ∀ (M' : Nat → Int32) (O' : Nat × Nat), rI N M' O' → rK M0 M' → Q M' O') : wR_X7_emit__ N q1 q2 q3 M0 O Q := by
  obtain ⟨_, _, _, _, _, _, _, _, _, _, _, _, _, _, _, _⟩ := (show rN N from hN)
  obtain ⟨⟨_, _⟩, ⟨_, _⟩, ⟨_, _, _⟩, ⟨_, _⟩, ⟨_, _⟩, ⟨_, _⟩, ⟨_, _⟩⟩ := (show rI N M0 O from hI)
  have hk : rK M0 M0 := rK_rf M0
  have hQ1 := hQ
  unfold wR_X7_emit__
  have := ti_rng q1
  refine spR_X6_put hN _ (show rI N M0 O from hI) (fun r1 M2 O2 hI hk1 => ?_)
  have hk := rK_tr (show rK M0 M0 from hk) hk1
  obtain ⟨_, _, hst⟩ := (show (M2 21).toInt = (M0 21).toInt ∧ (M2 64).toInt = (M0 64).toInt ∧ ((M0 12).toInt = 137 → (M2 12).toInt = 137) from hk)
  obtain ⟨_, _, hst1⟩ := (show (M2 21).toInt = (M0 21).toInt ∧ (M2 64).toInt = (M0 64).toInt ∧ ((M0 12).toInt = 137 → (M2 12).toInt = 137) from hk1)
  obtain ⟨⟨_, _⟩, ⟨_, _⟩, ⟨_, _, _⟩, ⟨_, _⟩, ⟨_, _⟩, ⟨_, _⟩, ⟨_, _⟩⟩ := (show rI N M2 O2 from hI)
  have := ti_rng q2
  refine spR_X6_put hN _ (show rI N M2 O2 from hI) (fun r3 M4 O4 hI hk1 => ?_)
  have hk := rK_tr (show rK M0 M2 from hk) hk1
  obtain ⟨_, _, hst⟩ := (show (M4 21).toInt = (M0 21).toInt ∧ (M4 64).toInt = (M0 64).toInt ∧ ((M0 12).toInt = 137 → (M4 12).toInt = 137) from hk)
  obtain ⟨_, _, hst1⟩ := (show (M4 21).toInt = (M2 21).toInt ∧ (M4 64).toInt = (M2 64).toInt ∧ ((M2 12).toInt = 137 → (M4 12).toInt = 137) from hk1)
  obtain ⟨⟨_, _⟩, ⟨_, _⟩, ⟨_, _, _⟩, ⟨_, _⟩, ⟨_, _⟩, ⟨_, _⟩, ⟨_, _⟩⟩ := (show rI N M4 O4 from hI)
  have := ti_rng q3
  refine spR_X6_put hN _ (show rI N M4 O4 from hI) (fun r5 M6 O6 hI hk1 => ?_)
  have hk := rK_tr (show rK M0 M4 from hk) hk1
  obtain ⟨_, _, hst⟩ := (show (M6 21).toInt = (M0 21).toInt ∧ (M6 64).toInt = (M0 64).toInt ∧ ((M0 12).toInt = 137 → (M6 12).toInt = 137) from hk)
  obtain ⟨_, _, hst1⟩ := (show (M6 21).toInt = (M4 21).toInt ∧ (M6 64).toInt = (M4 64).toInt ∧ ((M4 12).toInt = 137 → (M6 12).toInt = 137) from hk1)
  obtain ⟨⟨_, _⟩, ⟨_, _⟩, ⟨_, _, _⟩, ⟨_, _⟩, ⟨_, _⟩, ⟨_, _⟩, ⟨_, _⟩⟩ := (show rI N M6 O6 from hI)
  exact hQ _ _ (show rI N M6 O6 from hI) (show rK M0 M6 from hk)
set_option maxHeartbeats 2000000 in
theorem spR_X7_slotOf {N : Nat → Nat} (hN : rN N) (q1 : Int32) {M0 : Nat → Int32} {O : Nat × Nat} {Q : Int32 → (Nat → Int32) → Nat × Nat → Prop} (hI : rI N M0 O) (hQ : ∀ (r : Int32) , Q r M0 O) : wR_X7_slotOf N q1 M0 O Q := by
  obtain ⟨_, _, _, _, _, _, _, _, _, _, _, _, _, _, _, _⟩ := (show rN N from hN)
  obtain ⟨⟨_, _⟩, ⟨_, _⟩, ⟨_, _, _⟩, ⟨_, _⟩, ⟨_, _⟩, ⟨_, _⟩, ⟨_, _⟩⟩ := (show rI N M0 O from hI)
  have hk : rK M0 M0 := rK_rf M0
  have hQ1 := hQ
  unfold wR_X7_slotOf
  refine ⟨fun hc1 => ?_, fun hc1 => ?_⟩
  · have := ti_rng q1
    have : (0 : Int32).toInt = 0 := by decide
    have hc1 := Int32.lt_iff_toInt_lt.mp hc1
    exact hQ1 _
  · have := ti_rng q1
    have : (0 : Int32).toInt = 0 := by decide
    have hc1 := ti_nlt hc1
    refine ⟨fun hc2 => ?_, fun hc2 => ?_⟩
    · have := nI_toInt (n := (N 24)) (by omega)
      have hc2 := Int32.le_iff_toInt_le.mp hc2
      exact hQ1 _
    · have := nI_toInt (n := (N 24)) (by omega)
      have hc2 := ti_nle hc2
      refine ⟨vp_in_iff.mpr (by omega), fun z3 => ?_⟩
      exact hQ1 _
set_option maxHeartbeats 2000000 in
theorem spR_X7_name_36 {N : Nat → Nat} (hN : rN N) {Q : Int32 → (Nat → Int32) → Nat × Nat → Prop} {M0 : Nat → Int32} (hQ : ∀ (r : Int32) (M' : Nat → Int32) (O' : Nat × Nat), rI N M' O' → rK M0 M' → Q r M' O') (M : Nat → Int32) (O : Nat × Nat) (hI : rI N M O) (hk : rK M0 M) : wR_X7_name_36 N Q M O := by
  obtain ⟨_, _, _, _, _, _, _, _, _, _, _, _, _, _, _, _⟩ := (show rN N from hN)
  obtain ⟨⟨_, _⟩, ⟨_, _⟩, ⟨_, _, _⟩, ⟨_, _⟩, ⟨_, _⟩, ⟨_, _⟩, ⟨_, _⟩⟩ := (show rI N M O from hI)
  unfold wR_X7_name_36
  obtain ⟨_, _, hst⟩ := (show (M 21).toInt = (M0 21).toInt ∧ (M 64).toInt = (M0 64).toInt ∧ ((M0 12).toInt = 137 → (M 12).toInt = 137) from hk)
  have := ti_rng (M 13)
  refine spR_X7_slotOf hN _ (show rI N M O from hI) (fun r5 => ?_)
  refine spR_X7_advance hN  (show rI N M O from hI) (fun M7 O7 hI hk1 => ?_)
  have hk := rK_tr (show rK M0 M from hk) hk1
  obtain ⟨_, _, hst⟩ := (show (M7 21).toInt = (M0 21).toInt ∧ (M7 64).toInt = (M0 64).toInt ∧ ((M0 12).toInt = 137 → (M7 12).toInt = 137) from hk)
  obtain ⟨_, _, hst1⟩ := (show (M7 21).toInt = (M 21).toInt ∧ (M7 64).toInt = (M 64).toInt ∧ ((M 12).toInt = 137 → (M7 12).toInt = 137) from hk1)
  obtain ⟨⟨_, _⟩, ⟨_, _⟩, ⟨_, _, _⟩, ⟨_, _⟩, ⟨_, _⟩, ⟨_, _⟩, ⟨_, _⟩⟩ := (show rI N M7 O7 from hI)
  exact hQ _ _ _ (show rI N M7 O7 from hI) (show rK M0 M7 from hk)
set_option maxHeartbeats 2000000 in
theorem spR_X7_name {N : Nat → Nat} (hN : rN N) {M0 : Nat → Int32} {O : Nat × Nat} {Q : Int32 → (Nat → Int32) → Nat × Nat → Prop} (hI : rI N M0 O) (hQ : ∀ (r : Int32) (M' : Nat → Int32) (O' : Nat × Nat), rI N M' O' → rK M0 M' → Q r M' O') : wR_X7_name N  M0 O Q := by
  obtain ⟨_, _, _, _, _, _, _, _, _, _, _, _, _, _, _, _⟩ := (show rN N from hN)
  obtain ⟨⟨_, _⟩, ⟨_, _⟩, ⟨_, _, _⟩, ⟨_, _⟩, ⟨_, _⟩, ⟨_, _⟩, ⟨_, _⟩⟩ := (show rI N M0 O from hI)
  have hk : rK M0 M0 := rK_rf M0
  have hQ1 := hQ
  unfold wR_X7_name
  refine ⟨fun hc1 => ?_, fun hc1 => ?_⟩
  · have := ti_rng (M0 12)
    have : (130 : Int32).toInt = 130 := by decide
    have hc19 := congrArg Int32.toInt hc1
    have := ti_rng (M0 13)
    refine spR_X7_isTold hN _ (show rI N M0 O from hI) (fun r2 => ?_)
    refine ⟨fun hc4 => ?_, fun hc4 => ?_⟩
    · have := ti_rng r2
      have : (0 : Int32).toInt = 0 := by decide
      have hc49 := ti_ne hc4
      exact spR_X7_name_36 hN hQ _ _ (show rI N M0 O from hI) (show rK M0 M0 from hk)
    · have := ti_rng r2
      have : (0 : Int32).toInt = 0 := by decide
      have hc49 := congrArg Int32.toInt hc4
      have : (2 : Int32).toInt = 2 := by decide
      have := ti_rng (M0 14)
      refine spR_X7_putFault hN _ _ (show rI N M0 O from hI) (?_)
      exact spR_X7_name_36 hN hQ _ _ (show rI N M0 O from hI) (show rK M0 M0 from hk)
  · have := ti_rng (M0 12)
    have : (130 : Int32).toInt = 130 := by decide
    have hc19 := ti_ne hc1
    refine spR_X7_fail hN  (show rI N M0 O from hI) (fun M9 O9 hI hk1 hp9 => ?_)
    have hk := rK_tr (show rK M0 M0 from hk) hk1
    obtain ⟨_, _, hst⟩ := (show (M9 21).toInt = (M0 21).toInt ∧ (M9 64).toInt = (M0 64).toInt ∧ ((M0 12).toInt = 137 → (M9 12).toInt = 137) from hk)
    obtain ⟨_, _, hst1⟩ := (show (M9 21).toInt = (M0 21).toInt ∧ (M9 64).toInt = (M0 64).toInt ∧ ((M0 12).toInt = 137 → (M9 12).toInt = 137) from hk1)
    obtain ⟨⟨_, _⟩, ⟨_, _⟩, ⟨_, _, _⟩, ⟨_, _⟩, ⟨_, _⟩, ⟨_, _⟩, ⟨_, _⟩⟩ := (show rI N M9 O9 from hI)
    exact hQ _ _ _ (show rI N M9 O9 from hI) (show rK M0 M9 from hk)
set_option maxHeartbeats 2000000 in
theorem spR_X7_object_67 {N : Nat → Nat} (hN : rN N) {Q : Int32 → (Nat → Int32) → Nat × Nat → Prop} {M0 : Nat → Int32} (hQ : ∀ (r : Int32) (M' : Nat → Int32) (O' : Nat × Nat), rI N M' O' → rK M0 M' → Q r M' O') (M : Nat → Int32) (O : Nat × Nat) (hI : rI N M O) (hk : rK M0 M) : wR_X7_object_67 N Q M O := by
  obtain ⟨_, _, _, _, _, _, _, _, _, _, _, _, _, _, _, _⟩ := (show rN N from hN)
  obtain ⟨⟨_, _⟩, ⟨_, _⟩, ⟨_, _, _⟩, ⟨_, _⟩, ⟨_, _⟩, ⟨_, _⟩, ⟨_, _⟩⟩ := (show rI N M O from hI)
  unfold wR_X7_object_67
  obtain ⟨_, _, hst⟩ := (show (M 21).toInt = (M0 21).toInt ∧ (M 64).toInt = (M0 64).toInt ∧ ((M0 12).toInt = 137 → (M 12).toInt = 137) from hk)
  have := ti_rng (M 13)
  refine spR_X7_slotOf hN _ (show rI N M O from hI) (fun r5 => ?_)
  refine spR_X7_advance hN  (show rI N M O from hI) (fun M7 O7 hI hk1 => ?_)
  have hk := rK_tr (show rK M0 M from hk) hk1
  obtain ⟨_, _, hst⟩ := (show (M7 21).toInt = (M0 21).toInt ∧ (M7 64).toInt = (M0 64).toInt ∧ ((M0 12).toInt = 137 → (M7 12).toInt = 137) from hk)
  obtain ⟨_, _, hst1⟩ := (show (M7 21).toInt = (M 21).toInt ∧ (M7 64).toInt = (M 64).toInt ∧ ((M 12).toInt = 137 → (M7 12).toInt = 137) from hk1)
  obtain ⟨⟨_, _⟩, ⟨_, _⟩, ⟨_, _, _⟩, ⟨_, _⟩, ⟨_, _⟩, ⟨_, _⟩, ⟨_, _⟩⟩ := (show rI N M7 O7 from hI)
  exact hQ _ _ _ (show rI N M7 O7 from hI) (show rK M0 M7 from hk)
set_option maxHeartbeats 2000000 in
theorem spR_X7_object_45 {N : Nat → Nat} (hN : rN N) {Q : Int32 → (Nat → Int32) → Nat × Nat → Prop} {M0 : Nat → Int32} (hQ : ∀ (r : Int32) (M' : Nat → Int32) (O' : Nat × Nat), rI N M' O' → rK M0 M' → Q r M' O') (M : Nat → Int32) (O : Nat × Nat) (hI : rI N M O) (hk : rK M0 M) : wR_X7_object_45 N Q M O := by
  obtain ⟨_, _, _, _, _, _, _, _, _, _, _, _, _, _, _, _⟩ := (show rN N from hN)
  obtain ⟨⟨_, _⟩, ⟨_, _⟩, ⟨_, _, _⟩, ⟨_, _⟩, ⟨_, _⟩, ⟨_, _⟩, ⟨_, _⟩⟩ := (show rI N M O from hI)
  unfold wR_X7_object_45
  obtain ⟨_, _, hst⟩ := (show (M 21).toInt = (M0 21).toInt ∧ (M 64).toInt = (M0 64).toInt ∧ ((M0 12).toInt = 137 → (M 12).toInt = 137) from hk)
  have := ti_rng (M 13)
  have := ti_rng (M 10)
  refine spR_X7_tell hN _ _ (show rI N M O from hI) (?_)
  exact spR_X7_object_67 hN hQ _ _ (show rI N (um M 10 ((M 10) + 1)) O from hI) (show rK M0 (um M 10 ((M 10) + 1)) from hk)
set_option maxHeartbeats 2000000 in
theorem spR_X7_object {N : Nat → Nat} (hN : rN N) {M0 : Nat → Int32} {O : Nat × Nat} {Q : Int32 → (Nat → Int32) → Nat × Nat → Prop} (hI : rI N M0 O) (hQ : ∀ (r : Int32) (M' : Nat → Int32) (O' : Nat × Nat), rI N M' O' → rK M0 M' → Q r M' O') : wR_X7_object N  M0 O Q := by
  obtain ⟨_, _, _, _, _, _, _, _, _, _, _, _, _, _, _, _⟩ := (show rN N from hN)
  obtain ⟨⟨_, _⟩, ⟨_, _⟩, ⟨_, _, _⟩, ⟨_, _⟩, ⟨_, _⟩, ⟨_, _⟩, ⟨_, _⟩⟩ := (show rI N M0 O from hI)
  have hk : rK M0 M0 := rK_rf M0
  have hQ1 := hQ
  unfold wR_X7_object
  refine ⟨fun hc1 => ?_, fun hc1 => ?_⟩
  · have := ti_rng (M0 12)
    have : (131 : Int32).toInt = 131 := by decide
    have hc19 := congrArg Int32.toInt hc1
    have := ti_rng (M0 13)
    refine spR_X7_isTold hN _ (show rI N M0 O from hI) (fun r2 => ?_)
    refine ⟨fun hc4 => ?_, fun hc4 => ?_⟩
    · have := ti_rng r2
      have : (0 : Int32).toInt = 0 := by decide
      have hc49 := ti_ne hc4
      exact spR_X7_object_67 hN hQ _ _ (show rI N M0 O from hI) (show rK M0 M0 from hk)
    · have := ti_rng r2
      have : (0 : Int32).toInt = 0 := by decide
      have hc49 := congrArg Int32.toInt hc4
      refine ⟨fun hc8 => ?_, fun hc8 => ?_⟩
      · have := ti_rng (M0 10)
        have : (8 : Int32).toInt = 8 := by decide
        have hc8 := Int32.lt_iff_toInt_lt.mp hc8
        exact spR_X7_object_45 hN hQ _ _ (show rI N M0 O from hI) (show rK M0 M0 from hk)
      · have := ti_rng (M0 10)
        have : (8 : Int32).toInt = 8 := by decide
        have hc8 := ti_nlt hc8
        have : (3 : Int32).toInt = 3 := by decide
        have := ti_rng (M0 14)
        refine spR_X7_putFault hN _ _ (show rI N M0 O from hI) (?_)
        exact spR_X7_object_45 hN hQ _ _ (show rI N M0 O from hI) (show rK M0 M0 from hk)
  · have := ti_rng (M0 12)
    have : (131 : Int32).toInt = 131 := by decide
    have hc19 := ti_ne hc1
    refine spR_X7_fail hN  (show rI N M0 O from hI) (fun M11 O11 hI hk1 hp11 => ?_)
    have hk := rK_tr (show rK M0 M0 from hk) hk1
    obtain ⟨_, _, hst⟩ := (show (M11 21).toInt = (M0 21).toInt ∧ (M11 64).toInt = (M0 64).toInt ∧ ((M0 12).toInt = 137 → (M11 12).toInt = 137) from hk)
    obtain ⟨_, _, hst1⟩ := (show (M11 21).toInt = (M0 21).toInt ∧ (M11 64).toInt = (M0 64).toInt ∧ ((M0 12).toInt = 137 → (M11 12).toInt = 137) from hk1)
    obtain ⟨⟨_, _⟩, ⟨_, _⟩, ⟨_, _, _⟩, ⟨_, _⟩, ⟨_, _⟩, ⟨_, _⟩, ⟨_, _⟩⟩ := (show rI N M11 O11 from hI)
    exact hQ _ _ _ (show rI N M11 O11 from hI) (show rK M0 M11 from hk)
set_option maxHeartbeats 2000000 in
theorem spR_X7_objectOrNone {N : Nat → Nat} (hN : rN N) {M0 : Nat → Int32} {O : Nat × Nat} {Q : Int32 → (Nat → Int32) → Nat × Nat → Prop} (hI : rI N M0 O) (hQ : ∀ (r : Int32) (M' : Nat → Int32) (O' : Nat × Nat), rI N M' O' → rK M0 M' → Q r M' O') : wR_X7_objectOrNone N  M0 O Q := by
  obtain ⟨_, _, _, _, _, _, _, _, _, _, _, _, _, _, _, _⟩ := (show rN N from hN)
  obtain ⟨⟨_, _⟩, ⟨_, _⟩, ⟨_, _, _⟩, ⟨_, _⟩, ⟨_, _⟩, ⟨_, _⟩, ⟨_, _⟩⟩ := (show rI N M0 O from hI)
  have hk : rK M0 M0 := rK_rf M0
  have hQ1 := hQ
  unfold wR_X7_objectOrNone
  refine ⟨fun hc1 => ?_, fun hc1 => ?_⟩
  · have := ti_rng (M0 12)
    have : (203 : Int32).toInt = 203 := by decide
    have hc19 := ti_ne hc1
    refine spR_X7_object hN  (show rI N M0 O from hI) (fun r2 M3 O3 hI hk1 => ?_)
    have hk := rK_tr (show rK M0 M0 from hk) hk1
    obtain ⟨_, _, hst⟩ := (show (M3 21).toInt = (M0 21).toInt ∧ (M3 64).toInt = (M0 64).toInt ∧ ((M0 12).toInt = 137 → (M3 12).toInt = 137) from hk)
    obtain ⟨_, _, hst1⟩ := (show (M3 21).toInt = (M0 21).toInt ∧ (M3 64).toInt = (M0 64).toInt ∧ ((M0 12).toInt = 137 → (M3 12).toInt = 137) from hk1)
    obtain ⟨⟨_, _⟩, ⟨_, _⟩, ⟨_, _, _⟩, ⟨_, _⟩, ⟨_, _⟩, ⟨_, _⟩, ⟨_, _⟩⟩ := (show rI N M3 O3 from hI)
    exact hQ _ _ _ (show rI N M3 O3 from hI) (show rK M0 M3 from hk)
  · have := ti_rng (M0 12)
    have : (203 : Int32).toInt = 203 := by decide
    have hc19 := congrArg Int32.toInt hc1
    refine spR_X7_advance hN  (show rI N M0 O from hI) (fun M4 O4 hI hk1 => ?_)
    have hk := rK_tr (show rK M0 M0 from hk) hk1
    obtain ⟨_, _, hst⟩ := (show (M4 21).toInt = (M0 21).toInt ∧ (M4 64).toInt = (M0 64).toInt ∧ ((M0 12).toInt = 137 → (M4 12).toInt = 137) from hk)
    obtain ⟨_, _, hst1⟩ := (show (M4 21).toInt = (M0 21).toInt ∧ (M4 64).toInt = (M0 64).toInt ∧ ((M0 12).toInt = 137 → (M4 12).toInt = 137) from hk1)
    obtain ⟨⟨_, _⟩, ⟨_, _⟩, ⟨_, _, _⟩, ⟨_, _⟩, ⟨_, _⟩, ⟨_, _⟩, ⟨_, _⟩⟩ := (show rI N M4 O4 from hI)
    exact hQ _ _ _ (show rI N M4 O4 from hI) (show rK M0 M4 from hk)
set_option maxHeartbeats 2000000 in
theorem spR_X9_isKind {N : Nat → Nat} (hN : rN N) (q0 : Int32) {M0 : Nat → Int32} {O : Nat × Nat} {Q : Int32 → (Nat → Int32) → Nat × Nat → Prop} (hI : rI N M0 O) (hQ : ∀ (r : Int32) , Q r M0 O) : wR_X9_isKind N q0 M0 O Q := by
  obtain ⟨_, _, _, _, _, _, _, _, _, _, _, _, _, _, _, _⟩ := (show rN N from hN)
  obtain ⟨⟨_, _⟩, ⟨_, _⟩, ⟨_, _, _⟩, ⟨_, _⟩, ⟨_, _⟩, ⟨_, _⟩, ⟨_, _⟩⟩ := (show rI N M0 O from hI)
  have hk : rK M0 M0 := rK_rf M0
  have hQ1 := hQ
  unfold wR_X9_isKind
  refine ⟨fun hc1 => ?_, fun hc1 => ?_⟩
  · have := ti_rng q0
    have : (226 : Int32).toInt = 226 := by decide
    have hc1 := Int32.lt_iff_toInt_lt.mp hc1
    exact hQ1 _
  · have := ti_rng q0
    have : (226 : Int32).toInt = 226 := by decide
    have hc1 := ti_nlt hc1
    refine ⟨fun hc2 => ?_, fun hc2 => ?_⟩
    · have : (233 : Int32).toInt = 233 := by decide
      have hc2 := Int32.le_iff_toInt_le.mp hc2
      exact hQ1 _
    · have : (233 : Int32).toInt = 233 := by decide
      have hc2 := ti_nle hc2
      exact hQ1 _
set_option maxHeartbeats 2000000 in
theorem spR_X7_kind {N : Nat → Nat} (hN : rN N) {M0 : Nat → Int32} {O : Nat × Nat} {Q : Int32 → (Nat → Int32) → Nat × Nat → Prop} (hI : rI N M0 O) (hQ : ∀ (r : Int32) (M' : Nat → Int32) (O' : Nat × Nat), rI N M' O' → rK M0 M' → Q r M' O') : wR_X7_kind N  M0 O Q := by
  obtain ⟨_, _, _, _, _, _, _, _, _, _, _, _, _, _, _, _⟩ := (show rN N from hN)
  obtain ⟨⟨_, _⟩, ⟨_, _⟩, ⟨_, _, _⟩, ⟨_, _⟩, ⟨_, _⟩, ⟨_, _⟩, ⟨_, _⟩⟩ := (show rI N M0 O from hI)
  have hk : rK M0 M0 := rK_rf M0
  have hQ1 := hQ
  unfold wR_X7_kind
  have := ti_rng (M0 12)
  refine spR_X9_isKind hN _ (show rI N M0 O from hI) (fun r1 => ?_)
  refine ⟨fun hc3 => ?_, fun hc3 => ?_⟩
  · have := ti_rng r1
    have : (0 : Int32).toInt = 0 := by decide
    have hc39 := congrArg Int32.toInt hc3
    refine spR_X7_fail hN  (show rI N M0 O from hI) (fun M4 O4 hI hk1 hp4 => ?_)
    have hk := rK_tr (show rK M0 M0 from hk) hk1
    obtain ⟨_, _, hst⟩ := (show (M4 21).toInt = (M0 21).toInt ∧ (M4 64).toInt = (M0 64).toInt ∧ ((M0 12).toInt = 137 → (M4 12).toInt = 137) from hk)
    obtain ⟨_, _, hst1⟩ := (show (M4 21).toInt = (M0 21).toInt ∧ (M4 64).toInt = (M0 64).toInt ∧ ((M0 12).toInt = 137 → (M4 12).toInt = 137) from hk1)
    obtain ⟨⟨_, _⟩, ⟨_, _⟩, ⟨_, _, _⟩, ⟨_, _⟩, ⟨_, _⟩, ⟨_, _⟩, ⟨_, _⟩⟩ := (show rI N M4 O4 from hI)
    exact hQ _ _ _ (show rI N M4 O4 from hI) (show rK M0 M4 from hk)
  · have := ti_rng r1
    have : (0 : Int32).toInt = 0 := by decide
    have hc39 := ti_ne hc3
    refine spR_X7_advance hN  (show rI N M0 O from hI) (fun M5 O5 hI hk1 => ?_)
    have hk := rK_tr (show rK M0 M0 from hk) hk1
    obtain ⟨_, _, hst⟩ := (show (M5 21).toInt = (M0 21).toInt ∧ (M5 64).toInt = (M0 64).toInt ∧ ((M0 12).toInt = 137 → (M5 12).toInt = 137) from hk)
    obtain ⟨_, _, hst1⟩ := (show (M5 21).toInt = (M0 21).toInt ∧ (M5 64).toInt = (M0 64).toInt ∧ ((M0 12).toInt = 137 → (M5 12).toInt = 137) from hk1)
    obtain ⟨⟨_, _⟩, ⟨_, _⟩, ⟨_, _, _⟩, ⟨_, _⟩, ⟨_, _⟩, ⟨_, _⟩, ⟨_, _⟩⟩ := (show rI N M5 O5 from hI)
    exact hQ _ _ _ (show rI N M5 O5 from hI) (show rK M0 M5 from hk)
set_option maxHeartbeats 2000000 in
theorem spR_X7_restOfProduct_66 {N : Nat → Nat} (hN : rN N) (q1 : Int32) {WF : Int32 → (Nat → Int32) → (Nat × Nat) → ((Nat → Int32) → Nat × Nat → Prop) → Prop} {K2 : (Int32 → Int32 → (Nat → Int32) → (Nat × Nat) → Prop)} {n2 : Nat} {Q : (Nat → Int32) → Nat × Nat → Prop} {M0 : Nat → Int32} {dF : Nat} (sWF : ∀ (q1 : Int32) (M : Nat → Int32) (O : Nat × Nat) {Q : (Nat → Int32) → Nat × Nat → Prop}, rI N M O → (((M 12).toInt = 137 ∧ 1 ≤ (dF : Int)) ∨ (0 ≤ q1.toInt ∧ q1.toInt ≤ 20 ∧ 22 - q1.toInt ≤ (dF : Int))) → (∀ (M' : Nat → Int32) (O' : Nat × Nat), rI N M' O' → rK M M' → Q M' O') → WF q1 M O Q) (sK2 : ∀ (a1 : Int32) (a2 : Int32) (M : Nat → Int32) (O : Nat × Nat), rI N M O → rK M0 M → (0 ≤ a2.toInt ∧ a2.toInt ≤ 4001 ∧ (((M 12).toInt = 137 ∧ 1 ≤ (dF : Int)) ∨ (0 ≤ a1.toInt ∧ a1.toInt ≤ 20 ∧ 22 - a1.toInt ≤ (dF : Int)))) → (4001 - a2.toInt) + 1 ≤ (n2 : Int) → K2 a1 a2 M O) (hQ : ∀ (M' : Nat → Int32) (O' : Nat × Nat), rI N M' O' → rK M0 M' → Q M' O') (a1 : Int32) (a2 : Int32) (t0 : Int32) (M : Nat → Int32) (O : Nat × Nat) (hI : rI N M O) (hk : rK M0 M) (hbi : ((0 ≤ a2.toInt ∧ a2.toInt ≤ 4001 ∧ (((M 12).toInt = 137 ∧ 1 ≤ (dF : Int)) ∨ (0 ≤ a1.toInt ∧ a1.toInt ≤ 20 ∧ 22 - a1.toInt ≤ (dF : Int)))) ∧ (4001 - a2.toInt) ≤ (n2 : Int) ∧ 1 ≤ (4001 - a2.toInt))) : wR_X7_restOfProduct_66 N WF K2 Q a1 a2 t0 M O := by
  obtain ⟨_, _, _, _, _, _, _, _, _, _, _, _, _, _, _, _⟩ := (show rN N from hN)
  obtain ⟨⟨_, _⟩, ⟨_, _⟩, ⟨_, _, _⟩, ⟨_, _⟩, ⟨_, _⟩, ⟨_, _⟩, ⟨_, _⟩⟩ := (show rI N M O from hI)
  unfold wR_X7_restOfProduct_66
  obtain ⟨_, _, hst⟩ := (show (M 21).toInt = (M0 21).toInt ∧ (M 64).toInt = (M0 64).toInt ∧ ((M0 12).toInt = 137 → (M 12).toInt = 137) from hk)
  refine spR_X7_advance hN  (show rI N M O from hI) (fun M5 O5 hI hk1 => ?_)
  have hk := rK_tr (show rK M0 M from hk) hk1
  obtain ⟨_, _, hst⟩ := (show (M5 21).toInt = (M0 21).toInt ∧ (M5 64).toInt = (M0 64).toInt ∧ ((M0 12).toInt = 137 → (M5 12).toInt = 137) from hk)
  obtain ⟨_, _, hst1⟩ := (show (M5 21).toInt = (M 21).toInt ∧ (M5 64).toInt = (M 64).toInt ∧ ((M 12).toInt = 137 → (M5 12).toInt = 137) from hk1)
  obtain ⟨⟨_, _⟩, ⟨_, _⟩, ⟨_, _, _⟩, ⟨_, _⟩, ⟨_, _⟩, ⟨_, _⟩, ⟨_, _⟩⟩ := (show rI N M5 O5 from hI)
  have := ti_rng a1
  have := ti_rng (M5 12)
  refine sWF _ _ _ (show rI N M5 O5 from hI) (show ((M5 12).toInt = 137 ∧ 1 ≤ (dF : Int)) ∨ (0 ≤ a1.toInt ∧ a1.toInt ≤ 20 ∧ 22 - a1.toInt ≤ (dF : Int)) from by omega) (fun M6 O6 hI hk1 => ?_)
  have hk := rK_tr (show rK M0 M5 from hk) hk1
  obtain ⟨_, _, hst⟩ := (show (M6 21).toInt = (M0 21).toInt ∧ (M6 64).toInt = (M0 64).toInt ∧ ((M0 12).toInt = 137 → (M6 12).toInt = 137) from hk)
  obtain ⟨_, _, hst1⟩ := (show (M6 21).toInt = (M5 21).toInt ∧ (M6 64).toInt = (M5 64).toInt ∧ ((M5 12).toInt = 137 → (M6 12).toInt = 137) from hk1)
  obtain ⟨⟨_, _⟩, ⟨_, _⟩, ⟨_, _, _⟩, ⟨_, _⟩, ⟨_, _⟩, ⟨_, _⟩, ⟨_, _⟩⟩ := (show rI N M6 O6 from hI)
  have := ti_rng t0
  refine spR_X7_emit hN _ (show rI N M6 O6 from hI) (fun M7 O7 hI hk1 => ?_)
  have hk := rK_tr (show rK M0 M6 from hk) hk1
  obtain ⟨_, _, hst⟩ := (show (M7 21).toInt = (M0 21).toInt ∧ (M7 64).toInt = (M0 64).toInt ∧ ((M0 12).toInt = 137 → (M7 12).toInt = 137) from hk)
  obtain ⟨_, _, hst1⟩ := (show (M7 21).toInt = (M6 21).toInt ∧ (M7 64).toInt = (M6 64).toInt ∧ ((M6 12).toInt = 137 → (M7 12).toInt = 137) from hk1)
  obtain ⟨⟨_, _⟩, ⟨_, _⟩, ⟨_, _, _⟩, ⟨_, _⟩, ⟨_, _⟩, ⟨_, _⟩, ⟨_, _⟩⟩ := (show rI N M7 O7 from hI)
  have := ti_rng a2
  have : (1 : Int32).toInt = 1 := by decide
  first | have := ti_addx a2 1 (by omega) | obtain ⟨_, _, _, _⟩ := ti_add a2 1
  have := ti_rng (M7 12)
  exact sK2 _ _ _ _ (show rI N M7 O7 from hI) (show rK M0 M7 from hk) (show 0 ≤ (a2 + 1).toInt ∧ (a2 + 1).toInt ≤ 4001 ∧ (((M7 12).toInt = 137 ∧ 1 ≤ (dF : Int)) ∨ (0 ≤ a1.toInt ∧ a1.toInt ≤ 20 ∧ 22 - a1.toInt ≤ (dF : Int))) from by omega) (show (4001 - (a2 + 1).toInt) + 1 ≤ _ from by omega)
set_option maxHeartbeats 2000000 in
theorem spR_X7_restOfProduct_36 {N : Nat → Nat} (hN : rN N) (q1 : Int32) {WF : Int32 → (Nat → Int32) → (Nat × Nat) → ((Nat → Int32) → Nat × Nat → Prop) → Prop} {K2 : (Int32 → Int32 → (Nat → Int32) → (Nat × Nat) → Prop)} {n2 : Nat} {Q : (Nat → Int32) → Nat × Nat → Prop} {M0 : Nat → Int32} {dF : Nat} (sWF : ∀ (q1 : Int32) (M : Nat → Int32) (O : Nat × Nat) {Q : (Nat → Int32) → Nat × Nat → Prop}, rI N M O → (((M 12).toInt = 137 ∧ 1 ≤ (dF : Int)) ∨ (0 ≤ q1.toInt ∧ q1.toInt ≤ 20 ∧ 22 - q1.toInt ≤ (dF : Int))) → (∀ (M' : Nat → Int32) (O' : Nat × Nat), rI N M' O' → rK M M' → Q M' O') → WF q1 M O Q) (sK2 : ∀ (a1 : Int32) (a2 : Int32) (M : Nat → Int32) (O : Nat × Nat), rI N M O → rK M0 M → (0 ≤ a2.toInt ∧ a2.toInt ≤ 4001 ∧ (((M 12).toInt = 137 ∧ 1 ≤ (dF : Int)) ∨ (0 ≤ a1.toInt ∧ a1.toInt ≤ 20 ∧ 22 - a1.toInt ≤ (dF : Int)))) → (4001 - a2.toInt) + 1 ≤ (n2 : Int) → K2 a1 a2 M O) (hQ : ∀ (M' : Nat → Int32) (O' : Nat × Nat), rI N M' O' → rK M0 M' → Q M' O') (a1 : Int32) (a2 : Int32) (M : Nat → Int32) (O : Nat × Nat) (hI : rI N M O) (hk : rK M0 M) (hbi : ((0 ≤ a2.toInt ∧ a2.toInt ≤ 4001 ∧ (((M 12).toInt = 137 ∧ 1 ≤ (dF : Int)) ∨ (0 ≤ a1.toInt ∧ a1.toInt ≤ 20 ∧ 22 - a1.toInt ≤ (dF : Int)))) ∧ (4001 - a2.toInt) ≤ (n2 : Int) ∧ 1 ≤ (4001 - a2.toInt))) : wR_X7_restOfProduct_36 N WF K2 Q a1 a2 M O := by
  obtain ⟨_, _, _, _, _, _, _, _, _, _, _, _, _, _, _, _⟩ := (show rN N from hN)
  obtain ⟨⟨_, _⟩, ⟨_, _⟩, ⟨_, _, _⟩, ⟨_, _⟩, ⟨_, _⟩, ⟨_, _⟩, ⟨_, _⟩⟩ := (show rI N M O from hI)
  unfold wR_X7_restOfProduct_36
  obtain ⟨_, _, hst⟩ := (show (M 21).toInt = (M0 21).toInt ∧ (M 64).toInt = (M0 64).toInt ∧ ((M0 12).toInt = 137 → (M 12).toInt = 137) from hk)
  refine ⟨fun hc3 => ?_, fun hc3 => ?_⟩
  · have := ti_rng (M 12)
    have : (42 : Int32).toInt = 42 := by decide
    have hc39 := ti_ne hc3
    refine ⟨fun hc4 => ?_, fun hc4 => ?_⟩
    · have : (47 : Int32).toInt = 47 := by decide
      have hc49 := ti_ne hc4
      have := ti_rng a1
      have := ti_rng a2
      have : (18 : Int32).toInt = 18 := by decide
      exact spR_X7_restOfProduct_66 hN q1 sWF sK2 hQ _ _ _ _ _ (show rI N M O from hI) (show rK M0 M from hk) (show ((0 ≤ a2.toInt ∧ a2.toInt ≤ 4001 ∧ (((M 12).toInt = 137 ∧ 1 ≤ (dF : Int)) ∨ (0 ≤ a1.toInt ∧ a1.toInt ≤ 20 ∧ 22 - a1.toInt ≤ (dF : Int)))) ∧ (4001 - a2.toInt) ≤ (n2 : Int) ∧ 1 ≤ (4001 - a2.toInt)) from by omega)
    · have : (47 : Int32).toInt = 47 := by decide
      have hc49 := congrArg Int32.toInt hc4
      have := ti_rng a1
      have := ti_rng a2
      have : (17 : Int32).toInt = 17 := by decide
      exact spR_X7_restOfProduct_66 hN q1 sWF sK2 hQ _ _ _ _ _ (show rI N M O from hI) (show rK M0 M from hk) (show ((0 ≤ a2.toInt ∧ a2.toInt ≤ 4001 ∧ (((M 12).toInt = 137 ∧ 1 ≤ (dF : Int)) ∨ (0 ≤ a1.toInt ∧ a1.toInt ≤ 20 ∧ 22 - a1.toInt ≤ (dF : Int)))) ∧ (4001 - a2.toInt) ≤ (n2 : Int) ∧ 1 ≤ (4001 - a2.toInt)) from by omega)
  · have := ti_rng (M 12)
    have : (42 : Int32).toInt = 42 := by decide
    have hc39 := congrArg Int32.toInt hc3
    have := ti_rng a1
    have := ti_rng a2
    have : (16 : Int32).toInt = 16 := by decide
    exact spR_X7_restOfProduct_66 hN q1 sWF sK2 hQ _ _ _ _ _ (show rI N M O from hI) (show rK M0 M from hk) (show ((0 ≤ a2.toInt ∧ a2.toInt ≤ 4001 ∧ (((M 12).toInt = 137 ∧ 1 ≤ (dF : Int)) ∨ (0 ≤ a1.toInt ∧ a1.toInt ≤ 20 ∧ 22 - a1.toInt ≤ (dF : Int)))) ∧ (4001 - a2.toInt) ≤ (n2 : Int) ∧ 1 ≤ (4001 - a2.toInt)) from by omega)
set_option maxHeartbeats 2000000 in
theorem spR_X7_restOfProduct_2 {N : Nat → Nat} (hN : rN N) (q1 : Int32) {WF : Int32 → (Nat → Int32) → (Nat × Nat) → ((Nat → Int32) → Nat × Nat → Prop) → Prop} {Q : (Nat → Int32) → Nat × Nat → Prop} {M0 : Nat → Int32} {dF : Nat} (sWF : ∀ (q1 : Int32) (M : Nat → Int32) (O : Nat × Nat) {Q : (Nat → Int32) → Nat × Nat → Prop}, rI N M O → (((M 12).toInt = 137 ∧ 1 ≤ (dF : Int)) ∨ (0 ≤ q1.toInt ∧ q1.toInt ≤ 20 ∧ 22 - q1.toInt ≤ (dF : Int))) → (∀ (M' : Nat → Int32) (O' : Nat × Nat), rI N M' O' → rK M M' → Q M' O') → WF q1 M O Q) (hQ : ∀ (M' : Nat → Int32) (O' : Nat × Nat), rI N M' O' → rK M0 M' → Q M' O') : ∀ (n2 : Nat) (a1 : Int32) (a2 : Int32) (M : Nat → Int32) (O : Nat × Nat), rI N M O → rK M0 M → (0 ≤ a2.toInt ∧ a2.toInt ≤ 4001 ∧ (((M 12).toInt = 137 ∧ 1 ≤ (dF : Int)) ∨ (0 ≤ a1.toInt ∧ a1.toInt ≤ 20 ∧ 22 - a1.toInt ≤ (dF : Int)))) → (4001 - a2.toInt) + 1 ≤ (n2 : Int) → wR_X7_restOfProduct_2 N WF Q n2 a1 a2 M O := by
  obtain ⟨_, _, _, _, _, _, _, _, _, _, _, _, _, _, _, _⟩ := (show rN N from hN)
  intro n2
  induction n2 with
  | zero => intro a1 a2 M O hI hk hv hn; exact absurd hn (by omega)
  | succ n2 ih =>
    intro a1 a2 M O hI hk hv hn
    obtain ⟨⟨_, _⟩, ⟨_, _⟩, ⟨_, _, _⟩, ⟨_, _⟩, ⟨_, _⟩, ⟨_, _⟩, ⟨_, _⟩⟩ := (show rI N M O from hI)
    dsimp only [wR_X7_restOfProduct_2]
    obtain ⟨_, _, hst⟩ := (show (M 21).toInt = (M0 21).toInt ∧ (M 64).toInt = (M0 64).toInt ∧ ((M0 12).toInt = 137 → (M 12).toInt = 137) from hk)
    refine ⟨fun hc1 => ?_, fun hc1 => ?_⟩
    · have : (4000 : Int32).toInt = 4000 := by decide
      have := ti_rng a2
      have hc1 := Int32.lt_iff_toInt_lt.mp hc1
      exact hQ _ _ (show rI N M O from hI) (show rK M0 M from hk)
    · have : (4000 : Int32).toInt = 4000 := by decide
      have := ti_rng a2
      have hc1 := ti_nlt hc1
      refine ⟨fun hc2 => ?_, fun hc2 => ?_⟩
      · have := ti_rng (M 12)
        have : (42 : Int32).toInt = 42 := by decide
        have hc29 := congrArg Int32.toInt hc2
        have := ti_rng a1
        exact spR_X7_restOfProduct_36 hN q1 sWF ih hQ _ _ _ _ (show rI N M O from hI) (show rK M0 M from hk) (show ((0 ≤ a2.toInt ∧ a2.toInt ≤ 4001 ∧ (((M 12).toInt = 137 ∧ 1 ≤ (dF : Int)) ∨ (0 ≤ a1.toInt ∧ a1.toInt ≤ 20 ∧ 22 - a1.toInt ≤ (dF : Int)))) ∧ (4001 - a2.toInt) ≤ (n2 : Int) ∧ 1 ≤ (4001 - a2.toInt)) from by omega)
      · have := ti_rng (M 12)
        have : (42 : Int32).toInt = 42 := by decide
        have hc29 := ti_ne hc2
        refine ⟨fun hc8 => ?_, fun hc8 => ?_⟩
        · have : (47 : Int32).toInt = 47 := by decide
          have hc89 := congrArg Int32.toInt hc8
          have := ti_rng a1
          exact spR_X7_restOfProduct_36 hN q1 sWF ih hQ _ _ _ _ (show rI N M O from hI) (show rK M0 M from hk) (show ((0 ≤ a2.toInt ∧ a2.toInt ≤ 4001 ∧ (((M 12).toInt = 137 ∧ 1 ≤ (dF : Int)) ∨ (0 ≤ a1.toInt ∧ a1.toInt ≤ 20 ∧ 22 - a1.toInt ≤ (dF : Int)))) ∧ (4001 - a2.toInt) ≤ (n2 : Int) ∧ 1 ≤ (4001 - a2.toInt)) from by omega)
        · have : (47 : Int32).toInt = 47 := by decide
          have hc89 := ti_ne hc8
          refine ⟨fun hc9 => ?_, fun hc9 => ?_⟩
          · have : (37 : Int32).toInt = 37 := by decide
            have hc99 := ti_ne hc9
            exact hQ _ _ (show rI N M O from hI) (show rK M0 M from hk)
          · have : (37 : Int32).toInt = 37 := by decide
            have hc99 := congrArg Int32.toInt hc9
            have := ti_rng a1
            exact spR_X7_restOfProduct_36 hN q1 sWF ih hQ _ _ _ _ (show rI N M O from hI) (show rK M0 M from hk) (show ((0 ≤ a2.toInt ∧ a2.toInt ≤ 4001 ∧ (((M 12).toInt = 137 ∧ 1 ≤ (dF : Int)) ∨ (0 ≤ a1.toInt ∧ a1.toInt ≤ 20 ∧ 22 - a1.toInt ≤ (dF : Int)))) ∧ (4001 - a2.toInt) ≤ (n2 : Int) ∧ 1 ≤ (4001 - a2.toInt)) from by omega)
set_option maxHeartbeats 2000000 in
theorem spR_X7_restOfProduct {N : Nat → Nat} (hN : rN N) {WF : Int32 → (Nat → Int32) → (Nat × Nat) → ((Nat → Int32) → Nat × Nat → Prop) → Prop} {dF : Nat} (sWF : ∀ (q1 : Int32) (M : Nat → Int32) (O : Nat × Nat) {Q : (Nat → Int32) → Nat × Nat → Prop}, rI N M O → (((M 12).toInt = 137 ∧ 1 ≤ (dF : Int)) ∨ (0 ≤ q1.toInt ∧ q1.toInt ≤ 20 ∧ 22 - q1.toInt ≤ (dF : Int))) → (∀ (M' : Nat → Int32) (O' : Nat × Nat), rI N M' O' → rK M M' → Q M' O') → WF q1 M O Q) (q1 : Int32) {M0 : Nat → Int32} {O : Nat × Nat} {Q : (Nat → Int32) → Nat × Nat → Prop} (hI : rI N M0 O) (hpre : ((M0 12).toInt = 137 ∧ 1 ≤ (dF : Int)) ∨ (0 ≤ q1.toInt ∧ q1.toInt ≤ 20 ∧ 22 - q1.toInt ≤ (dF : Int))) (hQ : ∀ (M' : Nat → Int32) (O' : Nat × Nat), rI N M' O' → rK M0 M' → Q M' O') : wR_X7_restOfProduct N WF q1 M0 O Q := by
  obtain ⟨_, _, _, _, _, _, _, _, _, _, _, _, _, _, _, _⟩ := (show rN N from hN)
  obtain ⟨⟨_, _⟩, ⟨_, _⟩, ⟨_, _, _⟩, ⟨_, _⟩, ⟨_, _⟩, ⟨_, _⟩, ⟨_, _⟩⟩ := (show rI N M0 O from hI)
  have hk : rK M0 M0 := rK_rf M0
  have hQ1 := hQ
  unfold wR_X7_restOfProduct
  have := ti_rng q1
  have : (0 : Int32).toInt = 0 := by decide
  have := ti_rng (M0 12)
  exact ⟨((4001 - (0 : Int32).toInt) + 1).toNat, spR_X7_restOfProduct_2 hN q1 sWF hQ _ _ _ _ _ (show rI N M0 O from hI) (show rK M0 M0 from hk) (show 0 ≤ (0 : Int32).toInt ∧ (0 : Int32).toInt ≤ 4001 ∧ (((M0 12).toInt = 137 ∧ 1 ≤ (dF : Int)) ∨ (0 ≤ q1.toInt ∧ q1.toInt ≤ 20 ∧ 22 - q1.toInt ≤ (dF : Int))) from by omega) (show (4001 - (0 : Int32).toInt) + 1 ≤ _ from by omega)⟩

