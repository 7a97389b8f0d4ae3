set_option maxHeartbeats 2000000 in
theorem spT_X8_doLastly {N : Nat → Nat} (hN : tN N) (q1 : Int32) (q2 : Int32) {M0 : Nat → Int32} {O : Nat × Nat} {Q : (Nat → Int32) → Nat × Nat → Prop} (hI : tI N M0 O) (hQ : ∀ (M' : Nat → Int32) (O' : Nat × Nat), tI N M' O' → tK M0 M' → Q M' O') : wT_X8_doLastly N q1 q2 M0 O Q := by
  obtain ⟨_, _, _, _, _, _, _, _, _, _, _, _, _⟩ := (show tN N from hN)
  obtain ⟨⟨_, _⟩, ⟨_, _⟩, _, ⟨_, _⟩, ⟨_, _⟩, ⟨_, _⟩, hO7⟩ := (show tI N M0 O from hI)
  have hk : tK M0 M0 := tK_rf M0
  have hQ1 := hQ
  unfold wT_X8_doLastly
  have := b_le7 hO7
  have := ti_rng (M0 51)
  have : (1 : Int32).toInt = 1 := by decide
  first | have := ti_subx (M0 51) 1 (by omega) | obtain ⟨_, _, _, _⟩ := ti_sub (M0 51) 1
  have : (2 : Int32).toInt = 2 := by decide
  refine spT_X8_tryField hN _ _ (show tI N M0 O from hI) (fun r1 => ?_)
  have : (0 : Int32).toInt = 0 := by decide
  refine spT_X8_tryField hN _ _ (show tI N (um M0 49 r1) O from hI) (fun r3 => ?_)
  have : ((-1) : Int32).toInt = -1 := by decide
  refine spT_X8_setTryField hN _ _ _ (show tI N (um (um (um M0 49 r1) 50 r3) 52 0) O from (show (0 ≤ (M0 1).toInt ∧ (M0 1).toInt ≤ 4000) ∧ (0 ≤ (M0 22).toInt ∧ (M0 22).toInt ≤ 8000) ∧ 7 * (M0 22).toInt ≤ ((448 * 2 ^ O.2 : Nat) : Int) ∧ (0 ≤ (M0 31).toInt ∧ (M0 31).toInt ≤ 200) ∧ (0 ≤ (0 : Int32).toInt ∧ (0 : Int32).toInt ≤ 128) ∧ (0 ≤ (M0 63).toInt ∧ (M0 63).toInt ≤ (N 20 : Int)) ∧ O.2 ≤ 7 from by omega)) (?_)
  refine spT_X8_setTryField hN _ _ _ (show tI N (um (um (um M0 49 r1) 50 r3) 52 0) O from (show (0 ≤ (M0 1).toInt ∧ (M0 1).toInt ≤ 4000) ∧ (0 ≤ (M0 22).toInt ∧ (M0 22).toInt ≤ 8000) ∧ 7 * (M0 22).toInt ≤ ((448 * 2 ^ O.2 : Nat) : Int) ∧ (0 ≤ (M0 31).toInt ∧ (M0 31).toInt ≤ 200) ∧ (0 ≤ (0 : Int32).toInt ∧ (0 : Int32).toInt ≤ 128) ∧ (0 ≤ (M0 63).toInt ∧ (M0 63).toInt ≤ (N 20 : Int)) ∧ O.2 ≤ 7 from by omega)) (?_)
  have : (3 : Int32).toInt = 3 := by decide
  have := ti_rng q1
  refine spT_X8_setTryField hN _ _ _ (show tI N (um (um (um M0 49 r1) 50 r3) 52 0) O from (show (0 ≤ (M0 1).toInt ∧ (M0 1).toInt ≤ 4000) ∧ (0 ≤ (M0 22).toInt ∧ (M0 22).toInt ≤ 8000) ∧ 7 * (M0 22).toInt ≤ ((448 * 2 ^ O.2 : Nat) : Int) ∧ (0 ≤ (M0 31).toInt ∧ (M0 31).toInt ≤ 200) ∧ (0 ≤ (0 : Int32).toInt ∧ (0 : Int32).toInt ≤ 128) ∧ (0 ≤ (M0 63).toInt ∧ (M0 63).toInt ≤ (N 20 : Int)) ∧ O.2 ≤ 7 from by omega)) (?_)
  have : (4 : Int32).toInt = 4 := by decide
  have := ti_rng q2
  refine spT_X8_setTryField hN _ _ _ (show tI N (um (um (um M0 49 r1) 50 r3) 52 0) O from (show (0 ≤ (M0 1).toInt ∧ (M0 1).toInt ≤ 4000) ∧ (0 ≤ (M0 22).toInt ∧ (M0 22).toInt ≤ 8000) ∧ 7 * (M0 22).toInt ≤ ((448 * 2 ^ O.2 : Nat) : Int) ∧ (0 ≤ (M0 31).toInt ∧ (M0 31).toInt ≤ 200) ∧ (0 ≤ (0 : Int32).toInt ∧ (0 : Int32).toInt ≤ 128) ∧ (0 ≤ (M0 63).toInt ∧ (M0 63).toInt ≤ (N 20 : Int)) ∧ O.2 ≤ 7 from by omega)) (?_)
  exact hQ _ _ (show tI N (um (um (um M0 49 r1) 50 r3) 52 0) O from (show (0 ≤ (M0 1).toInt ∧ (M0 1).toInt ≤ 4000) ∧ (0 ≤ (M0 22).toInt ∧ (M0 22).toInt ≤ 8000) ∧ 7 * (M0 22).toInt ≤ ((448 * 2 ^ O.2 : Nat) : Int) ∧ (0 ≤ (M0 31).toInt ∧ (M0 31).toInt ≤ 200) ∧ (0 ≤ (0 : Int32).toInt ∧ (0 : Int32).toInt ≤ 128) ∧ (0 ≤ (M0 63).toInt ∧ (M0 63).toInt ≤ (N 20 : Int)) ∧ O.2 ≤ 7 from by omega)) (show tK M0 (um (um (um M0 49 r1) 50 r3) 52 0) from hk)
set_option maxHeartbeats 2000000 in
theorem spT_X8_push {N : Nat → Nat} (hN : tN N) (q1 : Int32) {M0 : Nat → Int32} {O : Nat × Nat} {Q : (Nat → Int32) → Nat × Nat → Prop} (hI : tI N M0 O) (hQ : ∀ (M' : Nat → Int32) (O' : Nat × Nat), tI N M' O' → tK M0 M' → Q M' O') : wT_X8_push N q1 M0 O Q := by
  obtain ⟨_, _, _, _, _, _, _, _, _, _, _, _, _⟩ := (show tN N from hN)
  obtain ⟨⟨_, _⟩, ⟨_, _⟩, _, ⟨_, _⟩, ⟨_, _⟩, ⟨_, _⟩, hO7⟩ := (show tI N M0 O from hI)
  have hk : tK M0 M0 := tK_rf M0
  have hQ1 := hQ
  unfold wT_X8_push
  have := b_le7 hO7
  refine ⟨fun hc1 => ?_, fun hc1 => ?_⟩
  · have := nI_toInt (n := (N 19)) (by omega)
    have := ti_rng (M0 52)
    have hc1 := Int32.le_iff_toInt_le.mp hc1
    exact hQ _ _ (show tI N M0 O from hI) (show tK M0 M0 from hk)
  · have := nI_toInt (n := (N 19)) (by omega)
    have := ti_rng (M0 52)
    have hc1 := ti_nle hc1
    refine ⟨vp_in_iff.mpr (by omega), ?_⟩
    have : (1 : Int32).toInt = 1 := by decide
    first | have := ti_addx (M0 52) 1 (by omega) | obtain ⟨_, _, _, _⟩ := ti_add (M0 52) 1
    exact hQ _ _ (show tI N (um M0 52 ((M0 52) + 1)) O from (show (0 ≤ (M0 1).toInt ∧ (M0 1).toInt ≤ 4000) ∧ (0 ≤ (M0 22).toInt ∧ (M0 22).toInt ≤ 8000) ∧ 7 * (M0 22).toInt ≤ ((448 * 2 ^ O.2 : Nat) : Int) ∧ (0 ≤ (M0 31).toInt ∧ (M0 31).toInt ≤ 200) ∧ (0 ≤ ((M0 52) + 1).toInt ∧ ((M0 52) + 1).toInt ≤ 128) ∧ (0 ≤ (M0 63).toInt ∧ (M0 63).toInt ≤ (N 20 : Int)) ∧ O.2 ≤ 7 from by omega)) (show tK M0 (um M0 52 ((M0 52) + 1)) from hk)
set_option maxHeartbeats 2000000 in
theorem spT_X8_rest_94 {N : Nat → Nat} (hN : tN N) (q1 : Int32) {Q : (Nat → Int32) → Nat × Nat → Prop} {M0 : Nat → Int32} (hQ : ∀ (M' : Nat → Int32) (O' : Nat × Nat), tI N M' O' → tK M0 M' → Q M' O') (a1 : Int32) (M : Nat → Int32) (O : Nat × Nat) (hI : tI N M O) (hk : tK M0 M) : wT_X8_rest_94 N Q a1 M O := by
  obtain ⟨_, _, _, _, _, _, _, _, _, _, _, _, _⟩ := (show tN N from hN)
  obtain ⟨⟨_, _⟩, ⟨_, _⟩, _, ⟨_, _⟩, ⟨_, _⟩, ⟨_, _⟩, hO7⟩ := (show tI N M O from hI)
  unfold wT_X8_rest_94
  have := b_le7 hO7
  exact hQ _ _ (show tI N (um (um M 53 1) 55 a1) O from hI) (show tK M0 (um (um M 53 1) 55 a1) from hk)
set_option maxHeartbeats 2000000 in
theorem spT_X8_rest_60 {N : Nat → Nat} (hN : tN N) (q1 : Int32) {Q : (Nat → Int32) → Nat × Nat → Prop} {M0 : Nat → Int32} (hQ : ∀ (M' : Nat → Int32) (O' : Nat × Nat), tI N M' O' → tK M0 M' → Q M' O') (a1 : Int32) (M : Nat → Int32) (O : Nat × Nat) (hI : tI N M O) (hk : tK M0 M) : wT_X8_rest_60 N Q a1 M O := by
  obtain ⟨_, _, _, _, _, _, _, _, _, _, _, _, _⟩ := (show tN N from hN)
  obtain ⟨⟨_, _⟩, ⟨_, _⟩, _, ⟨_, _⟩, ⟨_, _⟩, ⟨_, _⟩, hO7⟩ := (show tI N M O from hI)
  unfold wT_X8_rest_60
  have := b_le7 hO7
  refine ⟨fun hc2 => ?_, fun hc2 => ?_⟩
  · have := ti_rng (M 50)
    have : (1 : Int32).toInt = 1 := by decide
    first | have := ti_subx (M 50) 1 (by omega) | obtain ⟨_, _, _, _⟩ := ti_sub (M 50) 1
    have : (0 : Int32).toInt = 0 := by decide
    have hc2 := Int32.le_iff_toInt_le.mp hc2
    have := ti_rng a1
    exact spT_X8_rest_94 hN q1 hQ _ _ _ (show tI N (um (um M 50 ((M 50) - 1)) 52 0) O from (show (0 ≤ (M 1).toInt ∧ (M 1).toInt ≤ 4000) ∧ (0 ≤ (M 22).toInt ∧ (M 22).toInt ≤ 8000) ∧ 7 * (M 22).toInt ≤ ((448 * 2 ^ O.2 : Nat) : Int) ∧ (0 ≤ (M 31).toInt ∧ (M 31).toInt ≤ 200) ∧ (0 ≤ (0 : Int32).toInt ∧ (0 : Int32).toInt ≤ 128) ∧ (0 ≤ (M 63).toInt ∧ (M 63).toInt ≤ (N 20 : Int)) ∧ O.2 ≤ 7 from by omega)) (show tK M0 (um (um M 50 ((M 50) - 1)) 52 0) from hk)
  · have := ti_rng (M 50)
    have : (1 : Int32).toInt = 1 := by decide
    first | have := ti_subx (M 50) 1 (by omega) | obtain ⟨_, _, _, _⟩ := ti_sub (M 50) 1
    have : (0 : Int32).toInt = 0 := by decide
    have hc2 := ti_nle hc2
    refine ⟨fun hc3 => ?_, fun hc3 => ?_⟩
    · have := nI_toInt (n := (N 17)) (by omega)
      have hc3 := Int32.lt_iff_toInt_lt.mp hc3
      refine ⟨vp_in_iff.mpr (by omega), fun z4 => ?_⟩
      have := ti_rng a1
      refine spT_X8_push hN _ (show tI N (um (um (um M 50 ((M 50) - 1)) 52 0) 49 z4) O from (show (0 ≤ (M 1).toInt ∧ (M 1).toInt ≤ 4000) ∧ (0 ≤ (M 22).toInt ∧ (M 22).toInt ≤ 8000) ∧ 7 * (M 22).toInt ≤ ((448 * 2 ^ O.2 : Nat) : Int) ∧ (0 ≤ (M 31).toInt ∧ (M 31).toInt ≤ 200) ∧ (0 ≤ (0 : Int32).toInt ∧ (0 : Int32).toInt ≤ 128) ∧ (0 ≤ (M 63).toInt ∧ (M 63).toInt ≤ (N 20 : Int)) ∧ O.2 ≤ 7 from by omega)) (fun M5 O5 hI hk1 => ?_)
      have hk := tK_tr (show tK M0 (um (um (um M 50 ((M 50) - 1)) 52 0) 49 z4) from hk) hk1
      obtain ⟨⟨_, _⟩, ⟨_, _⟩, _, ⟨_, _⟩, ⟨_, _⟩, ⟨_, _⟩, hO7⟩ := (show tI N M5 O5 from hI)
      have := b_le7 hO7
      exact hQ _ _ (show tI N M5 O5 from hI) (show tK M0 M5 from hk)
    · have := nI_toInt (n := (N 17)) (by omega)
      have hc3 := ti_nlt hc3
      have := ti_rng a1
      exact spT_X8_rest_94 hN q1 hQ _ _ _ (show tI N (um (um M 50 ((M 50) - 1)) 52 0) O from (show (0 ≤ (M 1).toInt ∧ (M 1).toInt ≤ 4000) ∧ (0 ≤ (M 22).toInt ∧ (M 22).toInt ≤ 8000) ∧ 7 * (M 22).toInt ≤ ((448 * 2 ^ O.2 : Nat) : Int) ∧ (0 ≤ (M 31).toInt ∧ (M 31).toInt ≤ 200) ∧ (0 ≤ (0 : Int32).toInt ∧ (0 : Int32).toInt ≤ 128) ∧ (0 ≤ (M 63).toInt ∧ (M 63).toInt ≤ (N 20 : Int)) ∧ O.2 ≤ 7 from by omega)) (show tK M0 (um (um M 50 ((M 50) - 1)) 52 0) from hk)
set_option maxHeartbeats 2000000 in
theorem spT_X8_rest_0 {N : Nat → Nat} (hN : tN N) (q1 : Int32) {Q : (Nat → Int32) → Nat × Nat → Prop} {M0 : Nat → Int32} (hQ : ∀ (M' : Nat → Int32) (O' : Nat × Nat), tI N M' O' → tK M0 M' → Q M' O') : ∀ (n0 : Nat) (a1 : Int32) (M : Nat → Int32) (O : Nat × Nat), tI N M O → tK M0 M → (0 ≤ (M 51).toInt + 2147483648) → ((M 51).toInt + 2147483648) + 1 ≤ (n0 : Int) → wT_X8_rest_0 N Q n0 a1 M O := by
  obtain ⟨_, _, _, _, _, _, _, _, _, _, _, _, _⟩ := (show tN N from hN)
  intro n0
  induction n0 with
  | zero => intro a1 M O hI hk hv hn; exact absurd hn (by omega)
  | succ n0 ih =>
    intro a1 M O hI hk hv hn
    obtain ⟨⟨_, _⟩, ⟨_, _⟩, _, ⟨_, _⟩, ⟨_, _⟩, ⟨_, _⟩, hO7⟩ := (show tI N M O from hI)
    dsimp only [wT_X8_rest_0]
    have := b_le7 hO7
    refine ⟨fun hc1 => ?_, fun hc1 => ?_⟩
    · have := ti_rng (M 51)
      have : (0 : Int32).toInt = 0 := by decide
      have hc1 := Int32.le_iff_toInt_le.mp hc1
      have := ti_rng a1
      exact spT_X8_rest_60 hN q1 hQ _ _ _ (show tI N M O from hI) (show tK M0 M from hk)
    · have := ti_rng (M 51)
      have : (0 : Int32).toInt = 0 := by decide
      have hc1 := ti_nle hc1
      have : (1 : Int32).toInt = 1 := by decide
      first | have := ti_subx (M 51) 1 (by omega) | obtain ⟨_, _, _, _⟩ := ti_sub (M 51) 1
      refine spT_X8_tryField hN _ _ (show tI N M O from hI) (fun r6 => ?_)
      refine ⟨fun hc8 => ?_, fun hc8 => ?_⟩
      · have := ti_rng r6
        have := ti_rng (M 50)
        have hc89 := ti_ne hc8
        have := ti_rng a1
        exact spT_X8_rest_60 hN q1 hQ _ _ _ (show tI N M O from hI) (show tK M0 M from hk)
      · have := ti_rng r6
        have := ti_rng (M 50)
        have hc89 := congrArg Int32.toInt hc8
        have : (2 : Int32).toInt = 2 := by decide
        refine spT_X8_tryField hN _ _ (show tI N M O from hI) (fun r9 => ?_)
        refine ⟨fun hc11 => ?_, fun hc11 => ?_⟩
        · have := ti_rng r9
          have : ((-1) : Int32).toInt = -1 := by decide
          have hc119 := congrArg Int32.toInt hc11
          have := ti_rng a1
          exact ih _ _ _ (show tI N (um M 51 ((M 51) - 1)) O from hI) (show tK M0 (um M 51 ((M 51) - 1)) from hk) (show 0 ≤ ((M 51) - 1).toInt + 2147483648 from by omega) (show (((M 51) - 1).toInt + 2147483648) + 1 ≤ _ from by omega)
        · have := ti_rng r9
          have : ((-1) : Int32).toInt = -1 := by decide
          have hc119 := ti_ne hc11
          have := ti_rng a1
          refine spT_X8_doLastly hN _ _ (show tI N M O from hI) (fun M12 O12 hI hk1 => ?_)
          have hk := tK_tr (show tK M0 M from hk) hk1
          obtain ⟨⟨_, _⟩, ⟨_, _⟩, _, ⟨_, _⟩, ⟨_, _⟩, ⟨_, _⟩, hO7⟩ := (show tI N M12 O12 from hI)
          have := b_le7 hO7
          exact hQ _ _ (show tI N M12 O12 from hI) (show tK M0 M12 from hk)
set_option maxHeartbeats 2000000 in
theorem spT_X8_rest {N : Nat → Nat} (hN : tN N) (q1 : Int32) {M0 : Nat → Int32} {O : Nat × Nat} {Q : (Nat → Int32) → Nat × Nat → Prop} (hI : tI N M0 O) (hQ : ∀ (M' : Nat → Int32) (O' : Nat × Nat), tI N M' O' → tK M0 M' → Q M' O') : wT_X8_rest N q1 M0 O Q := by
  obtain ⟨_, _, _, _, _, _, _, _, _, _, _, _, _⟩ := (show tN N from hN)
  obtain ⟨⟨_, _⟩, ⟨_, _⟩, _, ⟨_, _⟩, ⟨_, _⟩, ⟨_, _⟩, hO7⟩ := (show tI N M0 O from hI)
  have hk : tK M0 M0 := tK_rf M0
  have hQ1 := hQ
  unfold wT_X8_rest
  have := b_le7 hO7
  have := ti_rng q1
  have := ti_rng (M0 51)
  exact ⟨(((M0 51).toInt + 2147483648) + 1).toNat, spT_X8_rest_0 hN q1 hQ _ _ _ _ (show tI N M0 O from hI) (show tK M0 M0 from hk) (show 0 ≤ (M0 51).toInt + 2147483648 from by omega) (show ((M0 51).toInt + 2147483648) + 1 ≤ _ from by omega)⟩
set_option maxHeartbeats 2000000 in
theorem spT_X8_openTry {N : Nat → Nat} (hN : tN N) {M0 : Nat → Int32} {O : Nat × Nat} {Q : (Nat → Int32) → Nat × Nat → Prop} (hI : tI N M0 O) (hQ : ∀ (M' : Nat → Int32) (O' : Nat × Nat), tI N M' O' → tK M0 M' → Q M' O') : wT_X8_openTry N  M0 O Q := by
  obtain ⟨_, _, _, _, _, _, _, _, _, _, _, _, _⟩ := (show tN N from hN)
  obtain ⟨⟨_, _⟩, ⟨_, _⟩, _, ⟨_, _⟩, ⟨_, _⟩, ⟨_, _⟩, hO7⟩ := (show tI N M0 O from hI)
  have hk : tK M0 M0 := tK_rf M0
  have hQ1 := hQ
  unfold wT_X8_openTry
  have := b_le7 hO7
  refine spT_X8_fetch hN  (show tI N M0 O from hI) (fun r1 M2 O2 hI hk1 => ?_)
  have hk := tK_tr (show tK M0 M0 from hk) hk1
  obtain ⟨⟨_, _⟩, ⟨_, _⟩, _, ⟨_, _⟩, ⟨_, _⟩, ⟨_, _⟩, hO7⟩ := (show tI N M2 O2 from hI)
  have := b_le7 hO7
  refine spT_X8_fetch hN  (show tI N M2 O2 from hI) (fun r3 M4 O4 hI hk1 => ?_)
  have hk := tK_tr (show tK M0 M2 from hk) hk1
  obtain ⟨⟨_, _⟩, ⟨_, _⟩, _, ⟨_, _⟩, ⟨_, _⟩, ⟨_, _⟩, hO7⟩ := (show tI N M4 O4 from hI)
  have := b_le7 hO7
  have := ti_rng (M4 51)
  have : (0 : Int32).toInt = 0 := by decide
  have := ti_rng (M4 50)
  refine spT_X8_setTryField hN _ _ _ (show tI N M4 O4 from hI) (?_)
  have : (1 : Int32).toInt = 1 := by decide
  have := ti_rng r1
  refine spT_X8_setTryField hN _ _ _ (show tI N M4 O4 from hI) (?_)
  have : (2 : Int32).toInt = 2 := by decide
  have := ti_rng r3
  refine spT_X8_setTryField hN _ _ _ (show tI N M4 O4 from hI) (?_)
  exact hQ _ _ (show tI N (um M4 51 ((M4 51) + 1)) O4 from hI) (show tK M0 (um M4 51 ((M4 51) + 1)) from hk)
set_option maxHeartbeats 2000000 in
theorem spT_X8_goOnBehindLastly {N : Nat → Nat} (hN : tN N) {M0 : Nat → Int32} {O : Nat × Nat} {Q : (Nat → Int32) → Nat × Nat → Prop} (hI : tI N M0 O) (hQ : ∀ (M' : Nat → Int32) (O' : Nat × Nat), tI N M' O' → tK M0 M' → Q M' O') : wT_X8_goOnBehindLastly N  M0 O Q := by
  obtain ⟨_, _, _, _, _, _, _, _, _, _, _, _, _⟩ := (show tN N from hN)
  obtain ⟨⟨_, _⟩, ⟨_, _⟩, _, ⟨_, _⟩, ⟨_, _⟩, ⟨_, _⟩, hO7⟩ := (show tI N M0 O from hI)
  have hk : tK M0 M0 := tK_rf M0
  have hQ1 := hQ
  unfold wT_X8_goOnBehindLastly
  have := b_le7 hO7
  have := ti_rng (M0 51)
  have : (1 : Int32).toInt = 1 := by decide
  first | have := ti_subx (M0 51) 1 (by omega) | obtain ⟨_, _, _, _⟩ := ti_sub (M0 51) 1
  have : (4 : Int32).toInt = 4 := by decide
  refine spT_X8_tryField hN _ _ (show tI N (um M0 51 ((M0 51) - 1)) O from hI) (fun r1 => ?_)
  have : (3 : Int32).toInt = 3 := by decide
  refine spT_X8_tryField hN _ _ (show tI N (um M0 51 ((M0 51) - 1)) O from hI) (fun r3 => ?_)
  refine ⟨fun hsw => ?_, fun hsw => ?_, fun hsw0 hsw1 => ?_⟩
  · have := ti_rng r3
    have hsw9 := congrArg Int32.toInt hsw
    exact hQ _ _ (show tI N (um (um M0 51 ((M0 51) - 1)) 54 r1) O from hI) (show tK M0 (um (um M0 51 ((M0 51) - 1)) 54 r1) from hk)
  · have := ti_rng r3
    have : (2 : Int32).toInt = 2 := by decide
    have hsw9 := congrArg Int32.toInt hsw
    have := ti_rng r1
    refine spT_X8_rest hN _ (show tI N (um M0 51 ((M0 51) - 1)) O from hI) (fun M5 O5 hI hk1 => ?_)
    have hk := tK_tr (show tK M0 (um M0 51 ((M0 51) - 1)) from hk) hk1
    obtain ⟨⟨_, _⟩, ⟨_, _⟩, _, ⟨_, _⟩, ⟨_, _⟩, ⟨_, _⟩, hO7⟩ := (show tI N M5 O5 from hI)
    have := b_le7 hO7
    exact hQ _ _ (show tI N M5 O5 from hI) (show tK M0 M5 from hk)
  · have := ti_rng r3
    exact hQ _ _ (show tI N (um M0 51 ((M0 51) - 1)) O from hI) (show tK M0 (um M0 51 ((M0 51) - 1)) from hk)
set_option maxHeartbeats 2000000 in
theorem spT_X8_doCourse {N : Nat → Nat} (hN : tN N) (q1 : Int32) {M0 : Nat → Int32} {O : Nat × Nat} {Q : (Nat → Int32) → Nat × Nat → Prop} (hI : tI N M0 O) (hQ : ∀ (M' : Nat → Int32) (O' : Nat × Nat), tI N M' O' → tK M0 M' → Q M' O') : wT_X8_doCourse N q1 M0 O Q := by
  obtain ⟨_, _, _, _, _, _, _, _, _, _, _, _, _⟩ := (show tN N from hN)
  obtain ⟨⟨_, _⟩, ⟨_, _⟩, _, ⟨_, _⟩, ⟨_, _⟩, ⟨_, _⟩, hO7⟩ := (show tI N M0 O from hI)
  have hk : tK M0 M0 := tK_rf M0
  have hQ1 := hQ
  unfold wT_X8_doCourse
  have := b_le7 hO7
  refine ⟨fun hsw => ?_, fun hsw => ?_, fun hsw => ?_, fun hsw => ?_, fun hsw => ?_, fun hsw => ?_, fun hsw => ?_, fun hsw0 hsw1 hsw2 hsw3 hsw4 hsw5 hsw6 => ?_⟩
  · have := ti_rng q1
    have : (0 : Int32).toInt = 0 := by decide
    have hsw9 := congrArg Int32.toInt hsw
    refine spT_X8_countStep hN  (show tI N M0 O from hI) (fun M1 O1 hI hk1 => ?_)
    have hk := tK_tr (show tK M0 M0 from hk) hk1
    obtain ⟨⟨_, _⟩, ⟨_, _⟩, _, ⟨_, _⟩, ⟨_, _⟩, ⟨_, _⟩, hO7⟩ := (show tI N M1 O1 from hI)
    have := b_le7 hO7
    exact hQ _ _ (show tI N M1 O1 from hI) (show tK M0 M1 from hk)
  · have := ti_rng q1
    have : (1 : Int32).toInt = 1 := by decide
    have hsw9 := congrArg Int32.toInt hsw
    refine spT_X8_pop hN  (show tI N M0 O from hI) (fun r2 M3 O3 hI hk1 => ?_)
    have hk := tK_tr (show tK M0 M0 from hk) hk1
    obtain ⟨⟨_, _⟩, ⟨_, _⟩, _, ⟨_, _⟩, ⟨_, _⟩, ⟨_, _⟩, hO7⟩ := (show tI N M3 O3 from hI)
    have := b_le7 hO7
    have := ti_rng r2
    refine spT_X8_putNote hN _ (show tI N M3 O3 from hI) (fun M4 O4 hI hk1 => ?_)
    have hk := tK_tr (show tK M0 M3 from hk) hk1
    obtain ⟨⟨_, _⟩, ⟨_, _⟩, _, ⟨_, _⟩, ⟨_, _⟩, ⟨_, _⟩, hO7⟩ := (show tI N M4 O4 from hI)
    have := b_le7 hO7
    exact hQ _ _ (show tI N M4 O4 from hI) (show tK M0 M4 from hk)
  · have := ti_rng q1
    have : (2 : Int32).toInt = 2 := by decide
    have hsw9 := congrArg Int32.toInt hsw
    refine spT_X8_hear hN  (show tI N M0 O from hI) (fun M5 O5 hI hk1 => ?_)
    have hk := tK_tr (show tK M0 M0 from hk) hk1
    obtain ⟨⟨_, _⟩, ⟨_, _⟩, _, ⟨_, _⟩, ⟨_, _⟩, ⟨_, _⟩, hO7⟩ := (show tI N M5 O5 from hI)
    have := b_le7 hO7
    exact hQ _ _ (show tI N M5 O5 from hI) (show tK M0 M5 from hk)
  · have := ti_rng q1
    have : (3 : Int32).toInt = 3 := by decide
    have hsw9 := congrArg Int32.toInt hsw
    refine spT_X8_pop hN  (show tI N M0 O from hI) (fun r6 M7 O7 hI hk1 => ?_)
    have hk := tK_tr (show tK M0 M0 from hk) hk1
    obtain ⟨⟨_, _⟩, ⟨_, _⟩, _, ⟨_, _⟩, ⟨_, _⟩, ⟨_, _⟩, hO7⟩ := (show tI N M7 O7 from hI)
    have := b_le7 hO7
    have := ti_rng r6
    refine spT_X8_rest hN _ (show tI N M7 O7 from hI) (fun M8 O8 hI hk1 => ?_)
    have hk := tK_tr (show tK M0 M7 from hk) hk1
    obtain ⟨⟨_, _⟩, ⟨_, _⟩, _, ⟨_, _⟩, ⟨_, _⟩, ⟨_, _⟩, hO7⟩ := (show tI N M8 O8 from hI)
    have := b_le7 hO7
    exact hQ _ _ (show tI N M8 O8 from hI) (show tK M0 M8 from hk)
  · have := ti_rng q1
    have : (4 : Int32).toInt = 4 := by decide
    have hsw9 := congrArg Int32.toInt hsw
    refine spT_X8_openTry hN  (show tI N M0 O from hI) (fun M9 O9 hI hk1 => ?_)
    have hk := tK_tr (show tK M0 M0 from hk) hk1
    obtain ⟨⟨_, _⟩, ⟨_, _⟩, _, ⟨_, _⟩, ⟨_, _⟩, ⟨_, _⟩, hO7⟩ := (show tI N M9 O9 from hI)
    have := b_le7 hO7
    exact hQ _ _ (show tI N M9 O9 from hI) (show tK M0 M9 from hk)
  · have := ti_rng q1
    have : (5 : Int32).toInt = 5 := by decide
    have hsw9 := congrArg Int32.toInt hsw
    have : (0 : Int32).toInt = 0 := by decide
    refine spT_X8_doLastly hN _ _ (show tI N M0 O from hI) (fun M10 O10 hI hk1 => ?_)
    have hk := tK_tr (show tK M0 M0 from hk) hk1
    obtain ⟨⟨_, _⟩, ⟨_, _⟩, _, ⟨_, _⟩, ⟨_, _⟩, ⟨_, _⟩, hO7⟩ := (show tI N M10 O10 from hI)
    have := b_le7 hO7
    exact hQ _ _ (show tI N M10 O10 from hI) (show tK M0 M10 from hk)
  · have := ti_rng q1
    have : (6 : Int32).toInt = 6 := by decide
    have hsw9 := congrArg Int32.toInt hsw
    refine spT_X8_goOnBehindLastly hN  (show tI N M0 O from hI) (fun M11 O11 hI hk1 => ?_)
    have hk := tK_tr (show tK M0 M0 from hk) hk1
    obtain ⟨⟨_, _⟩, ⟨_, _⟩, _, ⟨_, _⟩, ⟨_, _⟩, ⟨_, _⟩, hO7⟩ := (show tI N M11 O11 from hI)
    have := b_le7 hO7
    exact hQ _ _ (show tI N M11 O11 from hI) (show tK M0 M11 from hk)
  · have := ti_rng q1
    exact hQ _ _ (show tI N (um M0 53 3) O from hI) (show tK M0 (um M0 53 3) from hk)
set_option maxHeartbeats 2000000 in
theorem spT_X8_numberAt {N : Nat → Nat} (hN : tN N) (q1 : Int32) {M0 : Nat → Int32} {O : Nat × Nat} {Q : Int32 → (Nat → Int32) → Nat × Nat → Prop} (hI : tI N M0 O) (hQ : ∀ (r : Int32) , Q r M0 O) : wT_X8_numberAt N q1 M0 O Q := by
  obtain ⟨_, _, _, _, _, _, _, _, _, _, _, _, _⟩ := (show tN N from hN)
  obtain ⟨⟨_, _⟩, ⟨_, _⟩, _, ⟨_, _⟩, ⟨_, _⟩, ⟨_, _⟩, hO7⟩ := (show tI N M0 O from hI)
  have hk : tK M0 M0 := tK_rf M0
  have hQ1 := hQ
  unfold wT_X8_numberAt
  have := b_le7 hO7
  refine ⟨fun hc1 => ?_, fun hc1 => ?_⟩
  · have := ti_rng (M0 50)
    have : (1 : Int32).toInt = 1 := by decide
    first | have := ti_subx (M0 50) 1 (by omega) | obtain ⟨_, _, _, _⟩ := ti_sub (M0 50) 1
    have : (12 : Int32).toInt = 12 := by decide
    first | have := ti_mulx ((M0 50) - 1) 12 12 (by decide) (by omega) | obtain ⟨_, _, _, _⟩ := ti_mulc ((M0 50) - 1) 12 12 (by decide)
    have := ti_rng q1
    first | have := ti_addx (((M0 50) - 1) * 12) q1 (by omega) | obtain ⟨_, _, _, _⟩ := ti_add (((M0 50) - 1) * 12) q1
    have : (0 : Int32).toInt = 0 := by decide
    have hc1 := Int32.lt_iff_toInt_lt.mp hc1
    exact hQ1 _
  · have := ti_rng (M0 50)
    have : (1 : Int32).toInt = 1 := by decide
    first | have := ti_subx (M0 50) 1 (by omega) | obtain ⟨_, _, _, _⟩ := ti_sub (M0 50) 1
    have : (12 : Int32).toInt = 12 := by decide
    first | have := ti_mulx ((M0 50) - 1) 12 12 (by decide) (by omega) | obtain ⟨_, _, _, _⟩ := ti_mulc ((M0 50) - 1) 12 12 (by decide)
    have := ti_rng q1
    first | have := ti_addx (((M0 50) - 1) * 12) q1 (by omega) | obtain ⟨_, _, _, _⟩ := ti_add (((M0 50) - 1) * 12) q1
    have : (0 : Int32).toInt = 0 := by decide
    have hc1 := ti_nlt hc1
    refine ⟨fun hc2 => ?_, fun hc2 => ?_⟩
    · have := nI_toInt (n := (N 15)) (by omega)
      have hc2 := Int32.le_iff_toInt_le.mp hc2
      exact hQ1 _
    · have := nI_toInt (n := (N 15)) (by omega)
      have hc2 := ti_nle hc2
      refine ⟨vp_in_iff.mpr (by omega), fun z3 => ?_⟩
      exact hQ1 _
set_option maxHeartbeats 2000000 in
theorem spT_X8_doNumber {N : Nat → Nat} (hN : tN N) (q1 : Int32) {M0 : Nat → Int32} {O : Nat × Nat} {Q : (Nat → Int32) → Nat × Nat → Prop} (hI : tI N M0 O) (hQ : ∀ (M' : Nat → Int32) (O' : Nat × Nat), tI N M' O' → tK M0 M' → Q M' O') : wT_X8_doNumber N q1 M0 O Q := by
  obtain ⟨_, _, _, _, _, _, _, _, _, _, _, _, _⟩ := (show tN N from hN)
  obtain ⟨⟨_, _⟩, ⟨_, _⟩, _, ⟨_, _⟩, ⟨_, _⟩, ⟨_, _⟩, hO7⟩ := (show tI N M0 O from hI)
  have hk : tK M0 M0 := tK_rf M0
  have hQ1 := hQ
  unfold wT_X8_doNumber
  have := b_le7 hO7
  refine ⟨fun hsw => ?_, fun hsw => ?_, fun hsw => ?_, fun hsw => ?_, fun hsw => ?_, fun hsw => ?_, fun hsw0 hsw1 hsw2 hsw3 hsw4 hsw5 => ?_⟩
  · have := ti_rng q1
    have : (7 : Int32).toInt = 7 := by decide
    have hsw9 := congrArg Int32.toInt hsw
    refine spT_X8_fetch hN  (show tI N M0 O from hI) (fun r1 M2 O2 hI hk1 => ?_)
    have hk := tK_tr (show tK M0 M0 from hk) hk1
    obtain ⟨⟨_, _⟩, ⟨_, _⟩, _, ⟨_, _⟩, ⟨_, _⟩, ⟨_, _⟩, hO7⟩ := (show tI N M2 O2 from hI)
    have := b_le7 hO7
    have := ti_rng r1
    refine spT_X8_push hN _ (show tI N M2 O2 from hI) (fun M3 O3 hI hk1 => ?_)
    have hk := tK_tr (show tK M0 M2 from hk) hk1
    obtain ⟨⟨_, _⟩, ⟨_, _⟩, _, ⟨_, _⟩, ⟨_, _⟩, ⟨_, _⟩, hO7⟩ := (show tI N M3 O3 from hI)
    have := b_le7 hO7
    exact hQ _ _ (show tI N M3 O3 from hI) (show tK M0 M3 from hk)
  · have := ti_rng q1
    have : (8 : Int32).toInt = 8 := by decide
    have hsw9 := congrArg Int32.toInt hsw
    refine spT_X8_fetch hN  (show tI N M0 O from hI) (fun r4 M5 O5 hI hk1 => ?_)
    have hk := tK_tr (show tK M0 M0 from hk) hk1
    obtain ⟨⟨_, _⟩, ⟨_, _⟩, _, ⟨_, _⟩, ⟨_, _⟩, ⟨_, _⟩, hO7⟩ := (show tI N M5 O5 from hI)
    have := b_le7 hO7
    have := ti_rng r4
    refine spT_X8_numberAt hN _ (show tI N M5 O5 from hI) (fun r6 => ?_)
    have := ti_rng r6
    refine spT_X8_push hN _ (show tI N M5 O5 from hI) (fun M8 O8 hI hk1 => ?_)
    have hk := tK_tr (show tK M0 M5 from hk) hk1
    obtain ⟨⟨_, _⟩, ⟨_, _⟩, _, ⟨_, _⟩, ⟨_, _⟩, ⟨_, _⟩, hO7⟩ := (show tI N M8 O8 from hI)
    have := b_le7 hO7
    exact hQ _ _ (show tI N M8 O8 from hI) (show tK M0 M8 from hk)
  · have := ti_rng q1
    have : (9 : Int32).toInt = 9 := by decide
    have hsw9 := congrArg Int32.toInt hsw
    refine spT_X8_fetch hN  (show tI N M0 O from hI) (fun r9 M10 O10 hI hk1 => ?_)
    have hk := tK_tr (show tK M0 M0 from hk) hk1
    obtain ⟨⟨_, _⟩, ⟨_, _⟩, _, ⟨_, _⟩, ⟨_, _⟩, ⟨_, _⟩, hO7⟩ := (show tI N M10 O10 from hI)
    have := b_le7 hO7
    refine spT_X8_pop hN  (show tI N M10 O10 from hI) (fun r11 M12 O12 hI hk1 => ?_)
    have hk := tK_tr (show tK M0 M10 from hk) hk1
    obtain ⟨⟨_, _⟩, ⟨_, _⟩, _, ⟨_, _⟩, ⟨_, _⟩, ⟨_, _⟩, hO7⟩ := (show tI N M12 O12 from hI)
    have := b_le7 hO7
    have := ti_rng r9
    have := ti_rng r11
    refine spT_X8_setNumber hN _ _ (show tI N M12 O12 from hI) (?_)
    exact hQ _ _ (show tI N M12 O12 from hI) (show tK M0 M12 from hk)
  · have := ti_rng q1
    have : (10 : Int32).toInt = 10 := by decide
    have hsw9 := congrArg Int32.toInt hsw
    refine spT_X8_pop hN  (show tI N M0 O from hI) (fun r14 M15 O15 hI hk1 => ?_)
    have hk := tK_tr (show tK M0 M0 from hk) hk1
    obtain ⟨⟨_, _⟩, ⟨_, _⟩, _, ⟨_, _⟩, ⟨_, _⟩, ⟨_, _⟩, hO7⟩ := (show tI N M15 O15 from hI)
    have := b_le7 hO7
    exact hQ _ _ (show tI N M15 O15 from hI) (show tK M0 M15 from hk)
  · have := ti_rng q1
    have : (11 : Int32).toInt = 11 := by decide
    have hsw9 := congrArg Int32.toInt hsw
    refine spT_X8_pop hN  (show tI N M0 O from hI) (fun r16 M17 O17 hI hk1 => ?_)
    have hk := tK_tr (show tK M0 M0 from hk) hk1
    obtain ⟨⟨_, _⟩, ⟨_, _⟩, _, ⟨_, _⟩, ⟨_, _⟩, ⟨_, _⟩, hO7⟩ := (show tI N M17 O17 from hI)
    have := b_le7 hO7
    have := ti_rng (-r16)
    refine spT_X8_push hN _ (show tI N M17 O17 from hI) (fun M18 O18 hI hk1 => ?_)
    have hk := tK_tr (show tK M0 M17 from hk) hk1
    obtain ⟨⟨_, _⟩, ⟨_, _⟩, _, ⟨_, _⟩, ⟨_, _⟩, ⟨_, _⟩, hO7⟩ := (show tI N M18 O18 from hI)
    have := b_le7 hO7
    exact hQ _ _ (show tI N M18 O18 from hI) (show tK M0 M18 from hk)
  · have := ti_rng q1
    have : (12 : Int32).toInt = 12 := by decide
    have hsw9 := congrArg Int32.toInt hsw
    refine spT_X8_fetch hN  (show tI N M0 O from hI) (fun r19 M20 O20 hI hk1 => ?_)
    have hk := tK_tr (show tK M0 M0 from hk) hk1
    obtain ⟨⟨_, _⟩, ⟨_, _⟩, _, ⟨_, _⟩, ⟨_, _⟩, ⟨_, _⟩, hO7⟩ := (show tI N M20 O20 from hI)
    have := b_le7 hO7
    exact hQ _ _ (show tI N (um M20 49 r19) O20 from hI) (show tK M0 (um M20 49 r19) from hk)
  · have := ti_rng q1
    refine spT_X8_fetch hN  (show tI N M0 O from hI) (fun r21 M22 O22 hI hk1 => ?_)
    have hk := tK_tr (show tK M0 M0 from hk) hk1
    obtain ⟨⟨_, _⟩, ⟨_, _⟩, _, ⟨_, _⟩, ⟨_, _⟩, ⟨_, _⟩, hO7⟩ := (show tI N M22 O22 from hI)
    have := b_le7 hO7
    refine spT_X8_pop hN  (show tI N M22 O22 from hI) (fun r23 M24 O24 hI hk1 => ?_)
    have hk := tK_tr (show tK M0 M22 from hk) hk1
    obtain ⟨⟨_, _⟩, ⟨_, _⟩, _, ⟨_, _⟩, ⟨_, _⟩, ⟨_, _⟩, hO7⟩ := (show tI N M24 O24 from hI)
    have := b_le7 hO7
    refine ⟨fun hc25 => ?_, fun hc25 => ?_⟩
    · have := ti_rng r23
      have : (0 : Int32).toInt = 0 := by decide
      have hc259 := ti_ne hc25
      exact hQ _ _ (show tI N M24 O24 from hI) (show tK M0 M24 from hk)
    · have := ti_rng r23
      have : (0 : Int32).toInt = 0 := by decide
      have hc259 := congrArg Int32.toInt hc25
      exact hQ _ _ (show tI N (um M24 49 r21) O24 from hI) (show tK M0 (um M24 49 r21) from hk)

