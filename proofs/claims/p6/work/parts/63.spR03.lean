set_option maxHeartbeats 2000000 in
theorem spR_X7_advance {N : Nat → Nat} (hN : rN N) {M0 : Nat → Int32} {O : Nat × Nat} {Q : (Nat → Int32) → Nat × Nat → Prop} (hI : rI N M0 O) (hQ : ∀ (M' : Nat → Int32) (O' : Nat × Nat), rI N M' O' → rK M0 M' → Q M' O') : wR_X7_advance N  M0 O Q := by
  obtain ⟨_, _, _, _, _, _, _, _, _, _, _, _, _, _, _, _⟩ := (show rN N from hN)
  obtain ⟨⟨_, _⟩, ⟨_, _⟩, ⟨_, _, _⟩, ⟨_, _⟩, ⟨_, _⟩, ⟨_, _⟩, ⟨_, _⟩⟩ := (show rI N M0 O from hI)
  have hk : rK M0 M0 := rK_rf M0
  have hQ1 := hQ
  unfold wR_X7_advance
  refine ⟨fun hc1 => ?_, fun hc1 => ?_⟩
  · have := ti_rng (M0 12)
    have : (137 : Int32).toInt = 137 := by decide
    have hc19 := congrArg Int32.toInt hc1
    exact hQ _ _ (show rI N M0 O from hI) (show rK M0 M0 from hk)
  · have := ti_rng (M0 12)
    have : (137 : Int32).toInt = 137 := by decide
    have hc19 := ti_ne hc1
    refine ⟨fun hc2 => ?_, fun hc2 => ?_⟩
    · have := ti_rng (M0 26)
      have := ti_rng (M0 11)
      have hc2 := Int32.le_iff_toInt_le.mp hc2
      exact hQ _ _ (show rI N M0 O from hI) (show rK M0 M0 from hk)
    · have := ti_rng (M0 26)
      have := ti_rng (M0 11)
      have hc2 := ti_nle hc2
      refine ⟨vp_in_iff.mpr (by omega), fun z3 => ?_⟩
      refine ⟨vp_in_iff.mpr (by omega), fun z4 => ?_⟩
      refine ⟨vp_in_iff.mpr (by omega), fun z5 => ?_⟩
      have : (1 : Int32).toInt = 1 := by decide
      first | have := ti_addx (M0 11) 1 (by omega) | obtain ⟨_, _, _, _⟩ := ti_add (M0 11) 1
      exact hQ _ _ (show rI N (um (um (um (um M0 12 z3) 13 z4) 14 z5) 11 ((M0 11) + 1)) O from (show (0 ≤ (M0 8).toInt ∧ (M0 8).toInt ≤ (N 26 : Int)) ∧ (0 ≤ ((M0 11) + 1).toInt ∧ ((M0 11) + 1).toInt ≤ (N 11 : Int)) ∧ (0 ≤ (M0 21).toInt ∧ (M0 21).toInt ≤ 4000 ∧ (M0 21).toInt + 1 = (N 11 : Int)) ∧ (0 ≤ (M0 26).toInt ∧ (M0 26).toInt ≤ (N 11 : Int)) ∧ (0 ≤ (M0 33).toInt ∧ (M0 33).toInt ≤ (N 14 : Int)) ∧ (0 ≤ (M0 63).toInt ∧ (M0 63).toInt ≤ (N 20 : Int)) ∧ (0 ≤ (M0 64).toInt ∧ (M0 64).toInt ≤ 5000) from by omega)) (show rK M0 (um (um (um (um M0 12 z3) 13 z4) 14 z5) 11 ((M0 11) + 1)) from (show (M0 21).toInt = (M0 21).toInt ∧ (M0 64).toInt = (M0 64).toInt ∧ ((M0 12).toInt = 137 → z3.toInt = 137) from ⟨by omega, by omega, fun h9 => by first | omega | (have := hst h9; omega)⟩))
set_option maxHeartbeats 2000000 in
theorem spR_X7_fail_20 {N : Nat → Nat} (hN : rN N) {Q : (Nat → Int32) → Nat × Nat → Prop} {M0 : Nat → Int32} (hQ : ∀ (M' : Nat → Int32) (O' : Nat × Nat), rI N M' O' → rK M0 M' → ((M' 12).toInt = 137) → Q M' O') (M : Nat → Int32) (O : Nat × Nat) (hI : rI N M O) (hk : rK M0 M) : wR_X7_fail_20 N Q M O := by
  obtain ⟨_, _, _, _, _, _, _, _, _, _, _, _, _, _, _, _⟩ := (show rN N from hN)
  obtain ⟨⟨_, _⟩, ⟨_, _⟩, ⟨_, _, _⟩, ⟨_, _⟩, ⟨_, _⟩, ⟨_, _⟩, ⟨_, _⟩⟩ := (show rI N M O from hI)
  unfold wR_X7_fail_20
  obtain ⟨_, _, hst⟩ := (show (M 21).toInt = (M0 21).toInt ∧ (M 64).toInt = (M0 64).toInt ∧ ((M0 12).toInt = 137 → (M 12).toInt = 137) from hk)
  have : (137 : Int32).toInt = 137 := by decide
  exact hQ _ _ (show rI N (um M 12 137) O from hI) (show rK M0 (um M 12 137) from (show (M 21).toInt = (M0 21).toInt ∧ (M 64).toInt = (M0 64).toInt ∧ ((M0 12).toInt = 137 → (137 : Int32).toInt = 137) from ⟨by omega, by omega, fun h9 => by first | omega | (have := hst h9; omega)⟩)) (show (137 : Int32).toInt = 137 from (by first | omega | (intro h9; first | omega | exact absurd rfl h9)))
set_option maxHeartbeats 2000000 in
theorem spR_X7_fail {N : Nat → Nat} (hN : rN N) {M0 : Nat → Int32} {O : Nat × Nat} {Q : (Nat → Int32) → Nat × Nat → Prop} (hI : rI N M0 O) (hQ : ∀ (M' : Nat → Int32) (O' : Nat × Nat), rI N M' O' → rK M0 M' → ((M' 12).toInt = 137) → Q M' O') : wR_X7_fail N  M0 O Q := by
  obtain ⟨_, _, _, _, _, _, _, _, _, _, _, _, _, _, _, _⟩ := (show rN N from hN)
  obtain ⟨⟨_, _⟩, ⟨_, _⟩, ⟨_, _, _⟩, ⟨_, _⟩, ⟨_, _⟩, ⟨_, _⟩, ⟨_, _⟩⟩ := (show rI N M0 O from hI)
  have hk : rK M0 M0 := rK_rf M0
  have hQ1 := hQ
  unfold wR_X7_fail
  refine ⟨fun hc1 => ?_, fun hc1 => ?_⟩
  · have := ti_rng (M0 12)
    have : (137 : Int32).toInt = 137 := by decide
    have hc19 := congrArg Int32.toInt hc1
    exact spR_X7_fail_20 hN hQ _ _ (show rI N M0 O from hI) (show rK M0 M0 from hk)
  · have := ti_rng (M0 12)
    have : (137 : Int32).toInt = 137 := by decide
    have hc19 := ti_ne hc1
    have : (1 : Int32).toInt = 1 := by decide
    refine ⟨vp_in_iff.mpr (by omega), ?_⟩
    exact spR_X7_fail_20 hN hQ _ _ (show rI N M0 O from hI) (show rK M0 M0 from hk)
set_option maxHeartbeats 2000000 in
theorem spR_X7_take {N : Nat → Nat} (hN : rN N) (q1 : Int32) {M0 : Nat → Int32} {O : Nat × Nat} {Q : (Nat → Int32) → Nat × Nat → Prop} (hI : rI N M0 O) (hQ : ∀ (M' : Nat → Int32) (O' : Nat × Nat), rI N M' O' → rK M0 M' → Q M' O') : wR_X7_take N q1 M0 O Q := by
  obtain ⟨_, _, _, _, _, _, _, _, _, _, _, _, _, _, _, _⟩ := (show rN N from hN)
  obtain ⟨⟨_, _⟩, ⟨_, _⟩, ⟨_, _, _⟩, ⟨_, _⟩, ⟨_, _⟩, ⟨_, _⟩, ⟨_, _⟩⟩ := (show rI N M0 O from hI)
  have hk : rK M0 M0 := rK_rf M0
  have hQ1 := hQ
  unfold wR_X7_take
  refine ⟨fun hc1 => ?_, fun hc1 => ?_⟩
  · have := ti_rng (M0 12)
    have := ti_rng q1
    have hc19 := ti_ne hc1
    refine spR_X7_fail hN  (show rI N M0 O from hI) (fun M2 O2 hI hk1 hp2 => ?_)
    have hk := rK_tr (show rK M0 M0 from hk) hk1
    obtain ⟨_, _, hst⟩ := (show (M2 21).toInt = (M0 21).toInt ∧ (M2 64).toInt = (M0 64).toInt ∧ ((M0 12).toInt = 137 → (M2 12).toInt = 137) from hk)
    obtain ⟨_, _, hst1⟩ := (show (M2 21).toInt = (M0 21).toInt ∧ (M2 64).toInt = (M0 64).toInt ∧ ((M0 12).toInt = 137 → (M2 12).toInt = 137) from hk1)
    obtain ⟨⟨_, _⟩, ⟨_, _⟩, ⟨_, _, _⟩, ⟨_, _⟩, ⟨_, _⟩, ⟨_, _⟩, ⟨_, _⟩⟩ := (show rI N M2 O2 from hI)
    exact hQ _ _ (show rI N M2 O2 from hI) (show rK M0 M2 from hk)
  · have := ti_rng (M0 12)
    have := ti_rng q1
    have hc19 := congrArg Int32.toInt hc1
    refine spR_X7_advance hN  (show rI N M0 O from hI) (fun M3 O3 hI hk1 => ?_)
    have hk := rK_tr (show rK M0 M0 from hk) hk1
    obtain ⟨_, _, hst⟩ := (show (M3 21).toInt = (M0 21).toInt ∧ (M3 64).toInt = (M0 64).toInt ∧ ((M0 12).toInt = 137 → (M3 12).toInt = 137) from hk)
    obtain ⟨_, _, hst1⟩ := (show (M3 21).toInt = (M0 21).toInt ∧ (M3 64).toInt = (M0 64).toInt ∧ ((M0 12).toInt = 137 → (M3 12).toInt = 137) from hk1)
    obtain ⟨⟨_, _⟩, ⟨_, _⟩, ⟨_, _, _⟩, ⟨_, _⟩, ⟨_, _⟩, ⟨_, _⟩, ⟨_, _⟩⟩ := (show rI N M3 O3 from hI)
    exact hQ _ _ (show rI N M3 O3 from hI) (show rK M0 M3 from hk)
set_option maxHeartbeats 2000000 in
theorem spR_X7_putFault {N : Nat → Nat} (hN : rN N) (q1 : Int32) (q2 : Int32) {M0 : Nat → Int32} {O : Nat × Nat} {Q : (Nat → Int32) → Nat × Nat → Prop} (hI : rI N M0 O) (hQ : Q M0 O) : wR_X7_putFault N q1 q2 M0 O Q := by
  obtain ⟨_, _, _, _, _, _, _, _, _, _, _, _, _, _, _, _⟩ := (show rN N from hN)
  obtain ⟨⟨_, _⟩, ⟨_, _⟩, ⟨_, _, _⟩, ⟨_, _⟩, ⟨_, _⟩, ⟨_, _⟩, ⟨_, _⟩⟩ := (show rI N M0 O from hI)
  have hk : rK M0 M0 := rK_rf M0
  have hQ1 := hQ
  unfold wR_X7_putFault
  refine ⟨fun hc1 => ?_, fun hc1 => ?_⟩
  · have := ti_rng q1
    have : (1 : Int32).toInt = 1 := by decide
    have hc1 := Int32.lt_iff_toInt_lt.mp hc1
    exact hQ1
  · have := ti_rng q1
    have : (1 : Int32).toInt = 1 := by decide
    have hc1 := ti_nlt hc1
    refine ⟨fun hc2 => ?_, fun hc2 => ?_⟩
    · have : (4 : Int32).toInt = 4 := by decide
      have hc2 := Int32.lt_iff_toInt_lt.mp hc2
      exact hQ1
    · have : (4 : Int32).toInt = 4 := by decide
      have hc2 := ti_nlt hc2
      refine ⟨vp_in_iff.mpr (by omega), fun z3 => ?_⟩
      refine ⟨fun hc4 => ?_, fun hc4 => ?_⟩
      · have := ti_rng z3
        have : ((-1) : Int32).toInt = -1 := by decide
        have hc49 := ti_ne hc4
        exact hQ1
      · have := ti_rng z3
        have : ((-1) : Int32).toInt = -1 := by decide
        have hc49 := congrArg Int32.toInt hc4
        refine ⟨vp_in_iff.mpr (by omega), ?_⟩
        exact hQ1
set_option maxHeartbeats 2000000 in
theorem spR_X7_nameHearing_98 {N : Nat → Nat} (hN : rN N) (q1 : Int32) {Q : (Nat → Int32) → Nat × Nat → Prop} {M0 : Nat → Int32} (hQ : ∀ (M' : Nat → Int32) (O' : Nat × Nat), rI N M' O' → rK M0 M' → Q M' O') (M : Nat → Int32) (O : Nat × Nat) (hI : rI N M O) (hk : rK M0 M) : wR_X7_nameHearing_98 N Q M O := by
  obtain ⟨_, _, _, _, _, _, _, _, _, _, _, _, _, _, _, _⟩ := (show rN N from hN)
  obtain ⟨⟨_, _⟩, ⟨_, _⟩, ⟨_, _, _⟩, ⟨_, _⟩, ⟨_, _⟩, ⟨_, _⟩, ⟨_, _⟩⟩ := (show rI N M O from hI)
  unfold wR_X7_nameHearing_98
  obtain ⟨_, _, hst⟩ := (show (M 21).toInt = (M0 21).toInt ∧ (M 64).toInt = (M0 64).toInt ∧ ((M0 12).toInt = 137 → (M 12).toInt = 137) from hk)
  have : (130 : Int32).toInt = 130 := by decide
  refine spR_X7_take hN _ (show rI N M O from hI) (fun M3 O3 hI hk1 => ?_)
  have hk := rK_tr (show rK M0 M from hk) hk1
  obtain ⟨_, _, hst⟩ := (show (M3 21).toInt = (M0 21).toInt ∧ (M3 64).toInt = (M0 64).toInt ∧ ((M0 12).toInt = 137 → (M3 12).toInt = 137) from hk)
  obtain ⟨_, _, hst1⟩ := (show (M3 21).toInt = (M 21).toInt ∧ (M3 64).toInt = (M 64).toInt ∧ ((M 12).toInt = 137 → (M3 12).toInt = 137) from hk1)
  obtain ⟨⟨_, _⟩, ⟨_, _⟩, ⟨_, _, _⟩, ⟨_, _⟩, ⟨_, _⟩, ⟨_, _⟩, ⟨_, _⟩⟩ := (show rI N M3 O3 from hI)
  exact hQ _ _ (show rI N M3 O3 from hI) (show rK M0 M3 from hk)
set_option maxHeartbeats 2000000 in
theorem spR_X7_nameHearing_18 {N : Nat → Nat} (hN : rN N) (q1 : Int32) {Q : (Nat → Int32) → Nat × Nat → Prop} {M0 : Nat → Int32} (hQ : ∀ (M' : Nat → Int32) (O' : Nat × Nat), rI N M' O' → rK M0 M' → Q M' O') (M : Nat → Int32) (O : Nat × Nat) (hI : rI N M O) (hk : rK M0 M) : wR_X7_nameHearing_18 N Q M O := by
  obtain ⟨_, _, _, _, _, _, _, _, _, _, _, _, _, _, _, _⟩ := (show rN N from hN)
  obtain ⟨⟨_, _⟩, ⟨_, _⟩, ⟨_, _, _⟩, ⟨_, _⟩, ⟨_, _⟩, ⟨_, _⟩, ⟨_, _⟩⟩ := (show rI N M O from hI)
  unfold wR_X7_nameHearing_18
  obtain ⟨_, _, hst⟩ := (show (M 21).toInt = (M0 21).toInt ∧ (M 64).toInt = (M0 64).toInt ∧ ((M0 12).toInt = 137 → (M 12).toInt = 137) from hk)
  refine ⟨fun hc2 => ?_, fun hc2 => ?_⟩
  · have := ti_rng (M 12)
    have : (130 : Int32).toInt = 130 := by decide
    have hc29 := ti_ne hc2
    exact spR_X7_nameHearing_98 hN q1 hQ _ _ (show rI N (um (um M 9 0) 10 0) O from hI) (show rK M0 (um (um M 9 0) 10 0) from hk)
  · have := ti_rng (M 12)
    have : (130 : Int32).toInt = 130 := by decide
    have hc29 := congrArg Int32.toInt hc2
    refine ⟨fun hc4 => ?_, fun hc4 => ?_⟩
    · have := ti_rng (M 13)
      have : (0 : Int32).toInt = 0 := by decide
      have hc4 := Int32.lt_iff_toInt_lt.mp hc4
      exact spR_X7_nameHearing_98 hN q1 hQ _ _ (show rI N (um (um M 9 0) 10 0) O from hI) (show rK M0 (um (um M 9 0) 10 0) from hk)
    · have := ti_rng (M 13)
      have : (0 : Int32).toInt = 0 := by decide
      have hc4 := ti_nlt hc4
      refine ⟨fun hc5 => ?_, fun hc5 => ?_⟩
      · have := nI_toInt (n := (N 25)) (by omega)
        have hc5 := Int32.le_iff_toInt_le.mp hc5
        exact spR_X7_nameHearing_98 hN q1 hQ _ _ (show rI N (um (um M 9 0) 10 0) O from hI) (show rK M0 (um (um M 9 0) 10 0) from hk)
      · have := nI_toInt (n := (N 25)) (by omega)
        have hc5 := ti_nle hc5
        refine ⟨vp_in_iff.mpr (by omega), fun z6 => ?_⟩
        refine ⟨fun hc7 => ?_, fun hc7 => ?_⟩
        · have := ti_rng z6
          have : ((-1) : Int32).toInt = -1 := by decide
          have hc79 := ti_ne hc7
          have : (2 : Int32).toInt = 2 := by decide
          have := ti_rng (M 14)
          refine spR_X7_putFault hN _ _ (show rI N (um (um M 9 0) 10 0) O from hI) (?_)
          exact spR_X7_nameHearing_98 hN q1 hQ _ _ (show rI N (um (um M 9 0) 10 0) O from hI) (show rK M0 (um (um M 9 0) 10 0) from hk)
        · have := ti_rng z6
          have : ((-1) : Int32).toInt = -1 := by decide
          have hc79 := congrArg Int32.toInt hc7
          refine ⟨vp_in_iff.mpr (by omega), ?_⟩
          exact spR_X7_nameHearing_98 hN q1 hQ _ _ (show rI N (um (um M 9 0) 10 0) O from hI) (show rK M0 (um (um M 9 0) 10 0) from hk)
set_option maxHeartbeats 2000000 in
theorem spR_X7_nameHearing {N : Nat → Nat} (hN : rN N) (q1 : Int32) {M0 : Nat → Int32} {O : Nat × Nat} {Q : (Nat → Int32) → Nat × Nat → Prop} (hI : rI N M0 O) (hQ : ∀ (M' : Nat → Int32) (O' : Nat × Nat), rI N M' O' → rK M0 M' → Q M' O') : wR_X7_nameHearing N q1 M0 O Q := by
  obtain ⟨_, _, _, _, _, _, _, _, _, _, _, _, _, _, _, _⟩ := (show rN N from hN)
  obtain ⟨⟨_, _⟩, ⟨_, _⟩, ⟨_, _, _⟩, ⟨_, _⟩, ⟨_, _⟩, ⟨_, _⟩, ⟨_, _⟩⟩ := (show rI N M0 O from hI)
  have hk : rK M0 M0 := rK_rf M0
  have hQ1 := hQ
  unfold wR_X7_nameHearing
  refine ⟨fun hc1 => ?_, fun hc1 => ?_⟩
  · have := ti_rng (M0 64)
    have : (16 : Int32).toInt = 16 := by decide
    have hc1 := Int32.lt_iff_toInt_lt.mp hc1
    exact spR_X7_nameHearing_18 hN q1 hQ _ _ (show rI N M0 O from hI) (show rK M0 M0 from hk)
  · have := ti_rng (M0 64)
    have : (16 : Int32).toInt = 16 := by decide
    have hc1 := ti_nlt hc1
    have : (3 : Int32).toInt = 3 := by decide
    have := ti_rng q1
    refine spR_X7_putFault hN _ _ (show rI N M0 O from hI) (?_)
    exact spR_X7_nameHearing_18 hN q1 hQ _ _ (show rI N M0 O from hI) (show rK M0 M0 from hk)
set_option maxHeartbeats 2000000 in
theorem spR_X7_takeOpening_21 {N : Nat → Nat} (hN : rN N) (q1 : Int32) (q2 : Int32) {Q : (Nat → Int32) → Nat × Nat → Prop} {M0 : Nat → Int32} (hQ : ∀ (M' : Nat → Int32) (O' : Nat × Nat), rI N M' O' → rK M0 M' → ((M' 12).toInt = 137 ∨ q2.toInt < 20) → Q M' O') (M : Nat → Int32) (O : Nat × Nat) (hI : rI N M O) (hk : rK M0 M) : wR_X7_takeOpening_21 N Q M O := by
  obtain ⟨_, _, _, _, _, _, _, _, _, _, _, _, _, _, _, _⟩ := (show rN N from hN)
  obtain ⟨⟨_, _⟩, ⟨_, _⟩, ⟨_, _, _⟩, ⟨_, _⟩, ⟨_, _⟩, ⟨_, _⟩, ⟨_, _⟩⟩ := (show rI N M O from hI)
  unfold wR_X7_takeOpening_21
  obtain ⟨_, _, hst⟩ := (show (M 21).toInt = (M0 21).toInt ∧ (M 64).toInt = (M0 64).toInt ∧ ((M0 12).toInt = 137 → (M 12).toInt = 137) from hk)
  refine spR_X7_fail hN  (show rI N M O from hI) (fun M2 O2 hI hk1 hp2 => ?_)
  have hk := rK_tr (show rK M0 M from hk) hk1
  obtain ⟨_, _, hst⟩ := (show (M2 21).toInt = (M0 21).toInt ∧ (M2 64).toInt = (M0 64).toInt ∧ ((M0 12).toInt = 137 → (M2 12).toInt = 137) from hk)
  obtain ⟨_, _, hst1⟩ := (show (M2 21).toInt = (M 21).toInt ∧ (M2 64).toInt = (M 64).toInt ∧ ((M 12).toInt = 137 → (M2 12).toInt = 137) from hk1)
  obtain ⟨⟨_, _⟩, ⟨_, _⟩, ⟨_, _, _⟩, ⟨_, _⟩, ⟨_, _⟩, ⟨_, _⟩, ⟨_, _⟩⟩ := (show rI N M2 O2 from hI)
  have := ti_rng (M2 12)
  exact hQ _ _ (show rI N M2 O2 from hI) (show rK M0 M2 from hk) (show (M2 12).toInt = 137 ∨ q2.toInt < 20 from (by first | omega | (intro h9; first | omega | exact absurd rfl h9)))
set_option maxHeartbeats 2000000 in
theorem spR_X7_takeOpening {N : Nat → Nat} (hN : rN N) (q1 : Int32) (q2 : Int32) {M0 : Nat → Int32} {O : Nat × Nat} {Q : (Nat → Int32) → Nat × Nat → Prop} (hI : rI N M0 O) (hQ : ∀ (M' : Nat → Int32) (O' : Nat × Nat), rI N M' O' → rK M0 M' → ((M' 12).toInt = 137 ∨ q2.toInt < 20) → Q M' O') : wR_X7_takeOpening N q1 q2 M0 O Q := by
  obtain ⟨_, _, _, _, _, _, _, _, _, _, _, _, _, _, _, _⟩ := (show rN N from hN)
  obtain ⟨⟨_, _⟩, ⟨_, _⟩, ⟨_, _, _⟩, ⟨_, _⟩, ⟨_, _⟩, ⟨_, _⟩, ⟨_, _⟩⟩ := (show rI N M0 O from hI)
  have hk : rK M0 M0 := rK_rf M0
  have hQ1 := hQ
  unfold wR_X7_takeOpening
  refine ⟨fun hc1 => ?_, fun hc1 => ?_⟩
  · have := ti_rng (M0 12)
    have := ti_rng q1
    have hc19 := ti_ne hc1
    exact spR_X7_takeOpening_21 hN q1 q2 hQ _ _ (show rI N M0 O from hI) (show rK M0 M0 from hk)
  · have := ti_rng (M0 12)
    have := ti_rng q1
    have hc19 := congrArg Int32.toInt hc1
    refine ⟨fun hc3 => ?_, fun hc3 => ?_⟩
    · have : (20 : Int32).toInt = 20 := by decide
      have := ti_rng q2
      have hc3 := Int32.le_iff_toInt_le.mp hc3
      exact spR_X7_takeOpening_21 hN q1 q2 hQ _ _ (show rI N M0 O from hI) (show rK M0 M0 from hk)
    · have : (20 : Int32).toInt = 20 := by decide
      have := ti_rng q2
      have hc3 := ti_nle hc3
      refine spR_X7_advance hN  (show rI N M0 O from hI) (fun M4 O4 hI hk1 => ?_)
      have hk := rK_tr (show rK M0 M0 from hk) hk1
      obtain ⟨_, _, hst⟩ := (show (M4 21).toInt = (M0 21).toInt ∧ (M4 64).toInt = (M0 64).toInt ∧ ((M0 12).toInt = 137 → (M4 12).toInt = 137) from hk)
      obtain ⟨_, _, hst1⟩ := (show (M4 21).toInt = (M0 21).toInt ∧ (M4 64).toInt = (M0 64).toInt ∧ ((M0 12).toInt = 137 → (M4 12).toInt = 137) from hk1)
      obtain ⟨⟨_, _⟩, ⟨_, _⟩, ⟨_, _, _⟩, ⟨_, _⟩, ⟨_, _⟩, ⟨_, _⟩, ⟨_, _⟩⟩ := (show rI N M4 O4 from hI)
      have := ti_rng (M4 12)
      exact hQ _ _ (show rI N M4 O4 from hI) (show rK M0 M4 from hk) (show (M4 12).toInt = 137 ∨ q2.toInt < 20 from (by first | omega | (intro h9; first | omega | exact absurd rfl h9)))
set_option maxHeartbeats 2000000 in
theorem spR_X7_isTold {N : Nat → Nat} (hN : rN N) (q1 : Int32) {M0 : Nat → Int32} {O : Nat × Nat} {Q : Int32 → (Nat → Int32) → Nat × Nat → Prop} (hI : rI N M0 O) (hQ : ∀ (r : Int32) , Q r M0 O) : wR_X7_isTold N q1 M0 O Q := by
  obtain ⟨_, _, _, _, _, _, _, _, _, _, _, _, _, _, _, _⟩ := (show rN N from hN)
  obtain ⟨⟨_, _⟩, ⟨_, _⟩, ⟨_, _, _⟩, ⟨_, _⟩, ⟨_, _⟩, ⟨_, _⟩, ⟨_, _⟩⟩ := (show rI N M0 O from hI)
  have hk : rK M0 M0 := rK_rf M0
  have hQ1 := hQ
  unfold wR_X7_isTold
  refine ⟨fun hc1 => ?_, fun hc1 => ?_⟩
  · have := ti_rng q1
    have : (0 : Int32).toInt = 0 := by decide
    have hc1 := Int32.lt_iff_toInt_lt.mp hc1
    exact hQ1 _
  · have := ti_rng q1
    have : (0 : Int32).toInt = 0 := by decide
    have hc1 := ti_nlt hc1
    refine ⟨fun hc2 => ?_, fun hc2 => ?_⟩
    · have := nI_toInt (n := (N 23)) (by omega)
      have hc2 := Int32.le_iff_toInt_le.mp hc2
      exact hQ1 _
    · have := nI_toInt (n := (N 23)) (by omega)
      have hc2 := ti_nle hc2
      refine ⟨vp_in_iff.mpr (by omega), fun z3 => ?_⟩
      refine ⟨fun hc4 => ?_, fun hc4 => ?_⟩
      · have := ti_rng z3
        have := ti_rng (M0 64)
        have hc49 := ti_ne hc4
        exact hQ1 _
      · have := ti_rng z3
        have := ti_rng (M0 64)
        have hc49 := congrArg Int32.toInt hc4
        exact hQ1 _
set_option maxHeartbeats 2000000 in
theorem spR_X7_newName_51 {N : Nat → Nat} (hN : rN N) {Q : Int32 → (Nat → Int32) → Nat × Nat → Prop} {M0 : Nat → Int32} (hQ : ∀ (r : Int32) (M' : Nat → Int32) (O' : Nat × Nat), rI N M' O' → rK M0 M' → Q r M' O') (M : Nat → Int32) (O : Nat × Nat) (hI : rI N M O) (hk : rK M0 M) : wR_X7_newName_51 N Q M O := by
  obtain ⟨_, _, _, _, _, _, _, _, _, _, _, _, _, _, _, _⟩ := (show rN N from hN)
  obtain ⟨⟨_, _⟩, ⟨_, _⟩, ⟨_, _, _⟩, ⟨_, _⟩, ⟨_, _⟩, ⟨_, _⟩, ⟨_, _⟩⟩ := (show rI N M O from hI)
  unfold wR_X7_newName_51
  obtain ⟨_, _, hst⟩ := (show (M 21).toInt = (M0 21).toInt ∧ (M 64).toInt = (M0 64).toInt ∧ ((M0 12).toInt = 137 → (M 12).toInt = 137) from hk)
  exact hQ _ _ _ (show rI N (um M 9 ((M 9) + 1)) O from hI) (show rK M0 (um M 9 ((M 9) + 1)) from hk)
set_option maxHeartbeats 2000000 in
theorem spR_X7_newName {N : Nat → Nat} (hN : rN N) {M0 : Nat → Int32} {O : Nat × Nat} {Q : Int32 → (Nat → Int32) → Nat × Nat → Prop} (hI : rI N M0 O) (hQ : ∀ (r : Int32) (M' : Nat → Int32) (O' : Nat × Nat), rI N M' O' → rK M0 M' → Q r M' O') : wR_X7_newName N  M0 O Q := by
  obtain ⟨_, _, _, _, _, _, _, _, _, _, _, _, _, _, _, _⟩ := (show rN N from hN)
  obtain ⟨⟨_, _⟩, ⟨_, _⟩, ⟨_, _, _⟩, ⟨_, _⟩, ⟨_, _⟩, ⟨_, _⟩, ⟨_, _⟩⟩ := (show rI N M0 O from hI)
  have hk : rK M0 M0 := rK_rf M0
  have hQ1 := hQ
  unfold wR_X7_newName
  refine ⟨fun hc1 => ?_, fun hc1 => ?_⟩
  · have := ti_rng (M0 12)
    have : (130 : Int32).toInt = 130 := by decide
    have hc19 := ti_ne hc1
    exact spR_X7_newName_51 hN hQ _ _ (show rI N M0 O from hI) (show rK M0 M0 from hk)
  · have := ti_rng (M0 12)
    have : (130 : Int32).toInt = 130 := by decide
    have hc19 := congrArg Int32.toInt hc1
    have := ti_rng (M0 13)
    refine spR_X7_isTold hN _ (show rI N M0 O from hI) (fun r2 => ?_)
    refine ⟨fun hc4 => ?_, fun hc4 => ?_⟩
    · have := ti_rng r2
      have : (0 : Int32).toInt = 0 := by decide
      have hc49 := congrArg Int32.toInt hc4
      refine ⟨fun hc5 => ?_, fun hc5 => ?_⟩
      · have := ti_rng (M0 9)
        have : (12 : Int32).toInt = 12 := by decide
        have hc5 := Int32.lt_iff_toInt_lt.mp hc5
        exact spR_X7_newName_51 hN hQ _ _ (show rI N M0 O from hI) (show rK M0 M0 from hk)
      · have := ti_rng (M0 9)
        have : (12 : Int32).toInt = 12 := by decide
        have hc5 := ti_nlt hc5
        have : (3 : Int32).toInt = 3 := by decide
        have := ti_rng (M0 14)
        refine spR_X7_putFault hN _ _ (show rI N M0 O from hI) (?_)
        exact spR_X7_newName_51 hN hQ _ _ (show rI N M0 O from hI) (show rK M0 M0 from hk)
    · have := ti_rng r2
      have : (0 : Int32).toInt = 0 := by decide
      have hc49 := ti_ne hc4
      have : (2 : Int32).toInt = 2 := by decide
      have := ti_rng (M0 14)
      refine spR_X7_putFault hN _ _ (show rI N M0 O from hI) (?_)
      exact spR_X7_newName_51 hN hQ _ _ (show rI N M0 O from hI) (show rK M0 M0 from hk)
set_option maxHeartbeats 2000000 in
theorem spR_X7_tell {N : Nat → Nat} (hN : rN N) (q1 : Int32) (q2 : Int32) {M0 : Nat → Int32} {O : Nat × Nat} {Q : (Nat → Int32) → Nat × Nat → Prop} (hI : rI N M0 O) (hQ : Q M0 O) : wR_X7_tell N q1 q2 M0 O Q := by
  obtain ⟨_, _, _, _, _, _, _, _, _, _, _, _, _, _, _, _⟩ := (show rN N from hN)
  obtain ⟨⟨_, _⟩, ⟨_, _⟩, ⟨_, _, _⟩, ⟨_, _⟩, ⟨_, _⟩, ⟨_, _⟩, ⟨_, _⟩⟩ := (show rI N M0 O from hI)
  have hk : rK M0 M0 := rK_rf M0
  have hQ1 := hQ
  unfold wR_X7_tell
  refine ⟨fun hc1 => ?_, fun hc1 => ?_⟩
  · have := ti_rng q1
    have : (0 : Int32).toInt = 0 := by decide
    have hc1 := Int32.lt_iff_toInt_lt.mp hc1
    exact hQ1
  · have := ti_rng q1
    have : (0 : Int32).toInt = 0 := by decide
    have hc1 := ti_nlt hc1
    refine ⟨fun hc2 => ?_, fun hc2 => ?_⟩
    · have := nI_toInt (n := (N 23)) (by omega)
      have hc2 := Int32.le_iff_toInt_le.mp hc2
      exact hQ1
    · have := nI_toInt (n := (N 23)) (by omega)
      have hc2 := ti_nle hc2
      refine ⟨vp_in_iff.mpr (by omega), ?_⟩
      refine ⟨vp_in_iff.mpr (by omega), ?_⟩
      exact hQ1
set_option maxHeartbeats 2000000 in
theorem spR_X7_parameters_92 {N : Nat → Nat} (hN : rN N) {Q : Int32 → (Nat → Int32) → Nat × Nat → Prop} {M0 : Nat → Int32} (hQ : ∀ (r : Int32) (M' : Nat → Int32) (O' : Nat × Nat), rI N M' O' → rK M0 M' → Q r M' O') (a1 : Int32) (M : Nat → Int32) (O : Nat × Nat) (hI : rI N M O) (hk : rK M0 M) : wR_X7_parameters_92 N Q a1 M O := by
  obtain ⟨_, _, _, _, _, _, _, _, _, _, _, _, _, _, _, _⟩ := (show rN N from hN)
  obtain ⟨⟨_, _⟩, ⟨_, _⟩, ⟨_, _, _⟩, ⟨_, _⟩, ⟨_, _⟩, ⟨_, _⟩, ⟨_, _⟩⟩ := (show rI N M O from hI)
  unfold wR_X7_parameters_92
  obtain ⟨_, _, hst⟩ := (show (M 21).toInt = (M0 21).toInt ∧ (M 64).toInt = (M0 64).toInt ∧ ((M0 12).toInt = 137 → (M 12).toInt = 137) from hk)
  exact hQ _ _ _ (show rI N M O from hI) (show rK M0 M from hk)
set_option maxHeartbeats 2000000 in
theorem spR_X7_parameters_46 {N : Nat → Nat} (hN : rN N) {K15 : (Int32 → Int32 → (Nat → Int32) → (Nat × Nat) → Prop)} {n15 : Nat} {Q : Int32 → (Nat → Int32) → Nat × Nat → Prop} {M0 : Nat → Int32} (sK15 : ∀ (a1 : Int32) (a2 : Int32) (M : Nat → Int32) (O : Nat × Nat), rI N M O → rK M0 M → (0 ≤ a2.toInt ∧ a2.toInt ≤ 4001) → (4001 - a2.toInt) + 1 ≤ (n15 : Int) → K15 a1 a2 M O) (hQ : ∀ (r : Int32) (M' : Nat → Int32) (O' : Nat × Nat), rI N M' O' → rK M0 M' → Q r M' O') (a1 : Int32) (a2 : Int32) (M : Nat → Int32) (O : Nat × Nat) (hI : rI N M O) (hk : rK M0 M) (hbi : ((0 ≤ a2.toInt ∧ a2.toInt ≤ 4001) ∧ (4001 - a2.toInt) ≤ (n15 : Int) ∧ 1 ≤ (4001 - a2.toInt))) : wR_X7_parameters_46 N K15 Q a1 a2 M O := by
  obtain ⟨_, _, _, _, _, _, _, _, _, _, _, _, _, _, _, _⟩ := (show rN N from hN)
  obtain ⟨⟨_, _⟩, ⟨_, _⟩, ⟨_, _, _⟩, ⟨_, _⟩, ⟨_, _⟩, ⟨_, _⟩, ⟨_, _⟩⟩ := (show rI N M O from hI)
  unfold wR_X7_parameters_46
  obtain ⟨_, _, hst⟩ := (show (M 21).toInt = (M0 21).toInt ∧ (M 64).toInt = (M0 64).toInt ∧ ((M0 12).toInt = 137 → (M 12).toInt = 137) from hk)
  refine spR_X7_newName hN  (show rI N M O from hI) (fun r5 M6 O6 hI hk1 => ?_)
  have hk := rK_tr (show rK M0 M from hk) hk1
  obtain ⟨_, _, hst⟩ := (show (M6 21).toInt = (M0 21).toInt ∧ (M6 64).toInt = (M0 64).toInt ∧ ((M0 12).toInt = 137 → (M6 12).toInt = 137) from hk)
  obtain ⟨_, _, hst1⟩ := (show (M6 21).toInt = (M 21).toInt ∧ (M6 64).toInt = (M 64).toInt ∧ ((M 12).toInt = 137 → (M6 12).toInt = 137) from hk1)
  obtain ⟨⟨_, _⟩, ⟨_, _⟩, ⟨_, _, _⟩, ⟨_, _⟩, ⟨_, _⟩, ⟨_, _⟩, ⟨_, _⟩⟩ := (show rI N M6 O6 from hI)
  have := ti_rng (M 13)
  have := ti_rng r5
  refine spR_X7_tell hN _ _ (show rI N M6 O6 from hI) (?_)
  have : (130 : Int32).toInt = 130 := by decide
  refine spR_X7_take hN _ (show rI N M6 O6 from hI) (fun M8 O8 hI hk1 => ?_)
  have hk := rK_tr (show rK M0 M6 from hk) hk1
  obtain ⟨_, _, hst⟩ := (show (M8 21).toInt = (M0 21).toInt ∧ (M8 64).toInt = (M0 64).toInt ∧ ((M0 12).toInt = 137 → (M8 12).toInt = 137) from hk)
  obtain ⟨_, _, hst1⟩ := (show (M8 21).toInt = (M6 21).toInt ∧ (M8 64).toInt = (M6 64).toInt ∧ ((M6 12).toInt = 137 → (M8 12).toInt = 137) from hk1)
  obtain ⟨⟨_, _⟩, ⟨_, _⟩, ⟨_, _, _⟩, ⟨_, _⟩, ⟨_, _⟩, ⟨_, _⟩, ⟨_, _⟩⟩ := (show rI N M8 O8 from hI)
  refine ⟨fun hc9 => ?_, fun hc9 => ?_⟩
  · have := ti_rng (M8 12)
    have : (44 : Int32).toInt = 44 := by decide
    have hc99 := congrArg Int32.toInt hc9
    refine spR_X7_advance hN  (show rI N M8 O8 from hI) (fun M10 O10 hI hk1 => ?_)
    have hk := rK_tr (show rK M0 M8 from hk) hk1
    obtain ⟨_, _, hst⟩ := (show (M10 21).toInt = (M0 21).toInt ∧ (M10 64).toInt = (M0 64).toInt ∧ ((M0 12).toInt = 137 → (M10 12).toInt = 137) from hk)
    obtain ⟨_, _, hst1⟩ := (show (M10 21).toInt = (M8 21).toInt ∧ (M10 64).toInt = (M8 64).toInt ∧ ((M8 12).toInt = 137 → (M10 12).toInt = 137) from hk1)
    obtain ⟨⟨_, _⟩, ⟨_, _⟩, ⟨_, _, _⟩, ⟨_, _⟩, ⟨_, _⟩, ⟨_, _⟩, ⟨_, _⟩⟩ := (show rI N M10 O10 from hI)
    have := ti_rng a1
    have : (1 : Int32).toInt = 1 := by decide
    first | have := ti_addx a1 1 (by omega) | obtain ⟨_, _, _, _⟩ := ti_add a1 1
    have := ti_rng a2
    first | have := ti_addx a2 1 (by omega) | obtain ⟨_, _, _, _⟩ := ti_add a2 1
    exact sK15 _ _ _ _ (show rI N M10 O10 from hI) (show rK M0 M10 from hk) (show 0 ≤ (a2 + 1).toInt ∧ (a2 + 1).toInt ≤ 4001 from by omega) (show (4001 - (a2 + 1).toInt) + 1 ≤ _ from by omega)
  · have := ti_rng (M8 12)
    have : (44 : Int32).toInt = 44 := by decide
    have hc99 := ti_ne hc9
    have := ti_rng a1
    have : (1 : Int32).toInt = 1 := by decide
    first | have := ti_addx a1 1 (by omega) | obtain ⟨_, _, _, _⟩ := ti_add a1 1
    exact spR_X7_parameters_92 hN hQ _ _ _ (show rI N M8 O8 from hI) (show rK M0 M8 from hk)
set_option maxHeartbeats 2000000 in
theorem spR_X7_parameters_15 {N : Nat → Nat} (hN : rN N) {Q : Int32 → (Nat → Int32) → Nat × Nat → Prop} {M0 : Nat → Int32} (hQ : ∀ (r : Int32) (M' : Nat → Int32) (O' : Nat × Nat), rI N M' O' → rK M0 M' → Q r M' O') : ∀ (n15 : Nat) (a1 : Int32) (a2 : Int32) (M : Nat → Int32) (O : Nat × Nat), rI N M O → rK M0 M → (0 ≤ a2.toInt ∧ a2.toInt ≤ 4001) → (4001 - a2.toInt) + 1 ≤ (n15 : Int) → wR_X7_parameters_15 N Q n15 a1 a2 M O := by
  obtain ⟨_, _, _, _, _, _, _, _, _, _, _, _, _, _, _, _⟩ := (show rN N from hN)
  intro n15
  induction n15 with
  | zero => intro a1 a2 M O hI hk hv hn; exact absurd hn (by omega)
  | succ n15 ih =>
    intro a1 a2 M O hI hk hv hn
    obtain ⟨⟨_, _⟩, ⟨_, _⟩, ⟨_, _, _⟩, ⟨_, _⟩, ⟨_, _⟩, ⟨_, _⟩, ⟨_, _⟩⟩ := (show rI N M O from hI)
    dsimp only [wR_X7_parameters_15]
    obtain ⟨_, _, hst⟩ := (show (M 21).toInt = (M0 21).toInt ∧ (M 64).toInt = (M0 64).toInt ∧ ((M0 12).toInt = 137 → (M 12).toInt = 137) from hk)
    refine ⟨fun hc2 => ?_, fun hc2 => ?_⟩
    · have : (4000 : Int32).toInt = 4000 := by decide
      have := ti_rng a2
      have hc2 := Int32.lt_iff_toInt_lt.mp hc2
      have := ti_rng a1
      exact spR_X7_parameters_92 hN hQ _ _ _ (show rI N M O from hI) (show rK M0 M from hk)
    · have : (4000 : Int32).toInt = 4000 := by decide
      have := ti_rng a2
      have hc2 := ti_nlt hc2
      refine ⟨fun hc3 => ?_, fun hc3 => ?_⟩
      · have := ti_rng (M 12)
        have : (137 : Int32).toInt = 137 := by decide
        have hc39 := congrArg Int32.toInt hc3
        have := ti_rng a1
        exact spR_X7_parameters_92 hN hQ _ _ _ (show rI N M O from hI) (show rK M0 M from hk)
      · have := ti_rng (M 12)
        have : (137 : Int32).toInt = 137 := by decide
        have hc39 := ti_ne hc3
        refine ⟨fun hc4 => ?_, fun hc4 => ?_⟩
        · have := ti_rng a1
          have : (4 : Int32).toInt = 4 := by decide
          have hc4 := Int32.lt_iff_toInt_lt.mp hc4
          exact spR_X7_parameters_46 hN ih hQ _ _ _ _ (show rI N M O from hI) (show rK M0 M from hk) (show ((0 ≤ a2.toInt ∧ a2.toInt ≤ 4001) ∧ (4001 - a2.toInt) ≤ (n15 : Int) ∧ 1 ≤ (4001 - a2.toInt)) from by omega)
        · have := ti_rng a1
          have : (4 : Int32).toInt = 4 := by decide
          have hc4 := ti_nlt hc4
          have : (3 : Int32).toInt = 3 := by decide
          have := ti_rng (M 14)
          refine spR_X7_putFault hN _ _ (show rI N M O from hI) (?_)
          exact spR_X7_parameters_46 hN ih hQ _ _ _ _ (show rI N M O from hI) (show rK M0 M from hk) (show ((0 ≤ a2.toInt ∧ a2.toInt ≤ 4001) ∧ (4001 - a2.toInt) ≤ (n15 : Int) ∧ 1 ≤ (4001 - a2.toInt)) from by omega)
set_option maxHeartbeats 2000000 in
theorem spR_X7_parameters {N : Nat → Nat} (hN : rN N) {M0 : Nat → Int32} {O : Nat × Nat} {Q : Int32 → (Nat → Int32) → Nat × Nat → Prop} (hI : rI N M0 O) (hQ : ∀ (r : Int32) (M' : Nat → Int32) (O' : Nat × Nat), rI N M' O' → rK M0 M' → Q r M' O') : wR_X7_parameters N  M0 O Q := by
  obtain ⟨_, _, _, _, _, _, _, _, _, _, _, _, _, _, _, _⟩ := (show rN N from hN)
  obtain ⟨⟨_, _⟩, ⟨_, _⟩, ⟨_, _, _⟩, ⟨_, _⟩, ⟨_, _⟩, ⟨_, _⟩, ⟨_, _⟩⟩ := (show rI N M0 O from hI)
  have hk : rK M0 M0 := rK_rf M0
  have hQ1 := hQ
  unfold wR_X7_parameters
  refine ⟨fun hc1 => ?_, fun hc1 => ?_⟩
  · have := ti_rng (M0 12)
    have : (41 : Int32).toInt = 41 := by decide
    have hc19 := ti_ne hc1
    have : (0 : Int32).toInt = 0 := by decide
    exact ⟨((4001 - (0 : Int32).toInt) + 1).toNat, spR_X7_parameters_15 hN hQ _ _ _ _ _ (show rI N M0 O from hI) (show rK M0 M0 from hk) (show 0 ≤ (0 : Int32).toInt ∧ (0 : Int32).toInt ≤ 4001 from by omega) (show (4001 - (0 : Int32).toInt) + 1 ≤ _ from by omega)⟩
  · have := ti_rng (M0 12)
    have : (41 : Int32).toInt = 41 := by decide
    have hc19 := congrArg Int32.toInt hc1
    exact hQ _ _ _ (show rI N M0 O from hI) (show rK M0 M0 from hk)

