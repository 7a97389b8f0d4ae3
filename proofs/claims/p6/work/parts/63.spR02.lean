set_option maxHeartbeats 2000000 in
theorem spR_X10_putWord_112 {N : Nat → Nat} (hN : rN N) (q1 : Int32) {Q : Int32 → (Nat → Int32) → Nat × Nat → Prop} {M0 : Nat → Int32} (hQ : ∀ (r : Int32) (M' : Nat → Int32) (O' : Nat × Nat), rI N M' O' → rK M0 M' → Q r M' O') (a2 : Int32) (M : Nat → Int32) (O : Nat × Nat) (hI : rI N M O) (hk : rK M0 M) : wR_X10_putWord_112 N Q a2 M O := by
  obtain ⟨_, _, _, _, _, _, _, _, _, _, _, _, _, _, _, _⟩ := (show rN N from hN)
  obtain ⟨⟨_, _⟩, ⟨_, _⟩, ⟨_, _, _⟩, ⟨_, _⟩, ⟨_, _⟩, ⟨_, _⟩, ⟨_, _⟩⟩ := (show rI N M O from hI)
  unfold wR_X10_putWord_112
  obtain ⟨_, _, hst⟩ := (show (M 21).toInt = (M0 21).toInt ∧ (M 64).toInt = (M0 64).toInt ∧ ((M0 12).toInt = 137 → (M 12).toInt = 137) from hk)
  exact hQ _ _ _ (show rI N M O from hI) (show rK M0 M from hk)
set_option maxHeartbeats 2000000 in
theorem spR_X10_putWord_106 {N : Nat → Nat} (hN : rN N) (q1 : Int32) {Q : Int32 → (Nat → Int32) → Nat × Nat → Prop} {M0 : Nat → Int32} (hQ : ∀ (r : Int32) (M' : Nat → Int32) (O' : Nat × Nat), rI N M' O' → rK M0 M' → Q r M' O') (a1 : Int32) (a2 : Int32) (a5 : Int32) (t1 : Int32) (M : Nat → Int32) (O : Nat × Nat) (hI : rI N M O) (hk : rK M0 M) : wR_X10_putWord_106 N Q a1 a2 a5 t1 M O := by
  obtain ⟨_, _, _, _, _, _, _, _, _, _, _, _, _, _, _, _⟩ := (show rN N from hN)
  obtain ⟨⟨_, _⟩, ⟨_, _⟩, ⟨_, _, _⟩, ⟨_, _⟩, ⟨_, _⟩, ⟨_, _⟩, ⟨_, _⟩⟩ := (show rI N M O from hI)
  unfold wR_X10_putWord_106
  obtain ⟨_, _, hst⟩ := (show (M 21).toInt = (M0 21).toInt ∧ (M 64).toInt = (M0 64).toInt ∧ ((M0 12).toInt = 137 → (M 12).toInt = 137) from hk)
  have := ti_rng t1
  have := ti_rng a5
  have := ti_rng a1
  refine spR_X10_put hN _ _ _ (show rI N M O from hI) (fun M11 O11 hI hk1 => ?_)
  have hk := rK_tr (show rK M0 M from hk) hk1
  obtain ⟨_, _, hst⟩ := (show (M11 21).toInt = (M0 21).toInt ∧ (M11 64).toInt = (M0 64).toInt ∧ ((M0 12).toInt = 137 → (M11 12).toInt = 137) from hk)
  obtain ⟨_, _, hst1⟩ := (show (M11 21).toInt = (M 21).toInt ∧ (M11 64).toInt = (M 64).toInt ∧ ((M 12).toInt = 137 → (M11 12).toInt = 137) from hk1)
  obtain ⟨⟨_, _⟩, ⟨_, _⟩, ⟨_, _, _⟩, ⟨_, _⟩, ⟨_, _⟩, ⟨_, _⟩, ⟨_, _⟩⟩ := (show rI N M11 O11 from hI)
  have := ti_rng a2
  exact spR_X10_putWord_112 hN q1 hQ _ _ _ (show rI N M11 O11 from hI) (show rK M0 M11 from hk)
set_option maxHeartbeats 2000000 in
theorem spR_X10_putWord_30 {N : Nat → Nat} (hN : rN N) (q1 : Int32) {Q : Int32 → (Nat → Int32) → Nat × Nat → Prop} {M0 : Nat → Int32} (hQ : ∀ (r : Int32) (M' : Nat → Int32) (O' : Nat × Nat), rI N M' O' → rK M0 M' → Q r M' O') : ∀ (n30 : Nat) (a1 : Int32) (a2 : Int32) (a3 : Int64) (a5 : Int32) (M : Nat → Int32) (O : Nat × Nat), rI N M O → rK M0 M → (0 ≤ 4294967296 - a5.toInt) → (4294967296 - a5.toInt) + 1 ≤ (n30 : Int) → wR_X10_putWord_30 N Q n30 a1 a2 a3 a5 M O := by
  obtain ⟨_, _, _, _, _, _, _, _, _, _, _, _, _, _, _, _⟩ := (show rN N from hN)
  intro n30
  induction n30 with
  | zero => intro a1 a2 a3 a5 M O hI hk hv hn; exact absurd hn (by omega)
  | succ n30 ih =>
    intro a1 a2 a3 a5 M O hI hk hv hn
    obtain ⟨⟨_, _⟩, ⟨_, _⟩, ⟨_, _, _⟩, ⟨_, _⟩, ⟨_, _⟩, ⟨_, _⟩, ⟨_, _⟩⟩ := (show rI N M O from hI)
    dsimp only [wR_X10_putWord_30]
    obtain ⟨_, _, hst⟩ := (show (M 21).toInt = (M0 21).toInt ∧ (M 64).toInt = (M0 64).toInt ∧ ((M0 12).toInt = 137 → (M 12).toInt = 137) from hk)
    refine ⟨fun hc4 => ?_, fun hc4 => ?_⟩
    · have := ti_rng a2
      have := ti_rng a5
      have hc4 := Int32.le_iff_toInt_le.mp hc4
      refine spR_X4_numberOf hN _ (show rI N M O from hI) (fun r5 M6 O6 hI hk1 => ?_)
      have hk := rK_tr (show rK M0 M from hk) hk1
      obtain ⟨_, _, hst⟩ := (show (M6 21).toInt = (M0 21).toInt ∧ (M6 64).toInt = (M0 64).toInt ∧ ((M0 12).toInt = 137 → (M6 12).toInt = 137) from hk)
      obtain ⟨_, _, hst1⟩ := (show (M6 21).toInt = (M 21).toInt ∧ (M6 64).toInt = (M 64).toInt ∧ ((M 12).toInt = 137 → (M6 12).toInt = 137) from hk1)
      obtain ⟨⟨_, _⟩, ⟨_, _⟩, ⟨_, _, _⟩, ⟨_, _⟩, ⟨_, _⟩, ⟨_, _⟩, ⟨_, _⟩⟩ := (show rI N M6 O6 from hI)
      refine ⟨fun hc7 => ?_, fun hc7 => ?_⟩
      · have : (33 : Int32).toInt = 33 := by decide
        have := ti_rng r5
        have hc7 := Int32.le_iff_toInt_le.mp hc7
        have := ti_rng a1
        refine spR_X10_byteAt hN _ (show rI N M6 O6 from hI) (fun r8 => ?_)
        refine ⟨fun hc10 => ?_, fun hc10 => ?_⟩
        · have := ti_rng r8
          have : (97 : Int32).toInt = 97 := by decide
          have hc10 := Int32.lt_iff_toInt_lt.mp hc10
          have : (131 : Int32).toInt = 131 := by decide
          exact spR_X10_putWord_106 hN q1 hQ _ _ _ _ _ _ (show rI N M6 O6 from hI) (show rK M0 M6 from hk)
        · have := ti_rng r8
          have : (97 : Int32).toInt = 97 := by decide
          have hc10 := ti_nlt hc10
          have : (130 : Int32).toInt = 130 := by decide
          exact spR_X10_putWord_106 hN q1 hQ _ _ _ _ _ _ (show rI N M6 O6 from hI) (show rK M0 M6 from hk)
      · have : (33 : Int32).toInt = 33 := by decide
        have := ti_rng r5
        have hc7 := ti_nle hc7
        have : (200 : Int32).toInt = 200 := by decide
        first | have := ti_addx 200 r5 (by omega) | obtain ⟨_, _, _, _⟩ := ti_add 200 r5
        have := ti_rng a1
        refine spR_X10_put hN _ _ _ (show rI N M6 O6 from hI) (fun M12 O12 hI hk1 => ?_)
        have hk := rK_tr (show rK M0 M6 from hk) hk1
        obtain ⟨_, _, hst⟩ := (show (M12 21).toInt = (M0 21).toInt ∧ (M12 64).toInt = (M0 64).toInt ∧ ((M0 12).toInt = 137 → (M12 12).toInt = 137) from hk)
        obtain ⟨_, _, hst1⟩ := (show (M12 21).toInt = (M6 21).toInt ∧ (M12 64).toInt = (M6 64).toInt ∧ ((M6 12).toInt = 137 → (M12 12).toInt = 137) from hk1)
        obtain ⟨⟨_, _⟩, ⟨_, _⟩, ⟨_, _, _⟩, ⟨_, _⟩, ⟨_, _⟩, ⟨_, _⟩, ⟨_, _⟩⟩ := (show rI N M12 O12 from hI)
        exact spR_X10_putWord_112 hN q1 hQ _ _ _ (show rI N M12 O12 from hI) (show rK M0 M12 from hk)
    · have := ti_rng a2
      have := ti_rng a5
      have hc4 := ti_nle hc4
      refine spR_X10_byteAt hN _ (show rI N M O from hI) (fun r13 => ?_)
      have := ti_rng r13
      refine spR_X4_longer hN _ _ (show rI N M O from hI) (fun r15 => ?_)
      have := ti_rng a1
      have : (1 : Int32).toInt = 1 := by decide
      first | have := ti_addx a5 1 (by omega) | obtain ⟨_, _, _, _⟩ := ti_add a5 1
      exact ih _ _ _ _ _ _ (show rI N M O from hI) (show rK M0 M from hk) (show 0 ≤ 4294967296 - (a5 + 1).toInt from by omega) (show (4294967296 - (a5 + 1).toInt) + 1 ≤ _ from by omega)
set_option maxHeartbeats 2000000 in
theorem spR_X10_putWord {N : Nat → Nat} (hN : rN N) (q1 : Int32) {M0 : Nat → Int32} {O : Nat × Nat} {Q : Int32 → (Nat → Int32) → Nat × Nat → Prop} (hI : rI N M0 O) (hQ : ∀ (r : Int32) (M' : Nat → Int32) (O' : Nat × Nat), rI N M' O' → rK M0 M' → Q r M' O') : wR_X10_putWord N q1 M0 O Q := by
  obtain ⟨_, _, _, _, _, _, _, _, _, _, _, _, _, _, _, _⟩ := (show rN N from hN)
  obtain ⟨⟨_, _⟩, ⟨_, _⟩, ⟨_, _, _⟩, ⟨_, _⟩, ⟨_, _⟩, ⟨_, _⟩, ⟨_, _⟩⟩ := (show rI N M0 O from hI)
  have hk : rK M0 M0 := rK_rf M0
  have hQ1 := hQ
  unfold wR_X10_putWord
  have := ti_rng q1
  refine spR_X10_behindLettersAndDigits hN _ (show rI N M0 O from hI) (fun r1 => ?_)
  refine ⟨fun hc3 => ?_, fun hc3 => ?_⟩
  · have := ti_rng r1
    first | have := ti_subx r1 q1 (by omega) | obtain ⟨_, _, _, _⟩ := ti_sub r1 q1
    have : (10 : Int32).toInt = 10 := by decide
    have hc3 := Int32.le_iff_toInt_le.mp hc3
    exact ⟨((4294967296 - q1.toInt) + 1).toNat, spR_X10_putWord_30 hN q1 hQ _ _ _ _ _ _ _ (show rI N M0 O from hI) (show rK M0 M0 from hk) (show 0 ≤ 4294967296 - q1.toInt from by omega) (show (4294967296 - q1.toInt) + 1 ≤ _ from by omega)⟩
  · have := ti_rng r1
    first | have := ti_subx r1 q1 (by omega) | obtain ⟨_, _, _, _⟩ := ti_sub r1 q1
    have : (10 : Int32).toInt = 10 := by decide
    have hc3 := ti_nle hc3
    have : (136 : Int32).toInt = 136 := by decide
    have : (0 : Int32).toInt = 0 := by decide
    refine spR_X10_put hN _ _ _ (show rI N M0 O from hI) (fun M17 O17 hI hk1 => ?_)
    have hk := rK_tr (show rK M0 M0 from hk) hk1
    obtain ⟨_, _, hst⟩ := (show (M17 21).toInt = (M0 21).toInt ∧ (M17 64).toInt = (M0 64).toInt ∧ ((M0 12).toInt = 137 → (M17 12).toInt = 137) from hk)
    obtain ⟨_, _, hst1⟩ := (show (M17 21).toInt = (M0 21).toInt ∧ (M17 64).toInt = (M0 64).toInt ∧ ((M0 12).toInt = 137 → (M17 12).toInt = 137) from hk1)
    obtain ⟨⟨_, _⟩, ⟨_, _⟩, ⟨_, _, _⟩, ⟨_, _⟩, ⟨_, _⟩, ⟨_, _⟩, ⟨_, _⟩⟩ := (show rI N M17 O17 from hI)
    exact hQ _ _ _ (show rI N M17 O17 from hI) (show rK M0 M17 from hk)
set_option maxHeartbeats 2000000 in
theorem spR_X10_putSign_67 {N : Nat → Nat} (hN : rN N) (q1 : Int32) (q2 : Int32) {Q : Int32 → (Nat → Int32) → Nat × Nat → Prop} {M0 : Nat → Int32} (hQ : ∀ (r : Int32) (M' : Nat → Int32) (O' : Nat × Nat), rI N M' O' → rK M0 M' → Q r M' O') (a1 : Int32) (t1 : Int32) (M : Nat → Int32) (O : Nat × Nat) (hI : rI N M O) (hk : rK M0 M) : wR_X10_putSign_67 N Q a1 t1 M O := by
  obtain ⟨_, _, _, _, _, _, _, _, _, _, _, _, _, _, _, _⟩ := (show rN N from hN)
  obtain ⟨⟨_, _⟩, ⟨_, _⟩, ⟨_, _, _⟩, ⟨_, _⟩, ⟨_, _⟩, ⟨_, _⟩, ⟨_, _⟩⟩ := (show rI N M O from hI)
  unfold wR_X10_putSign_67
  obtain ⟨_, _, hst⟩ := (show (M 21).toInt = (M0 21).toInt ∧ (M 64).toInt = (M0 64).toInt ∧ ((M0 12).toInt = 137 → (M 12).toInt = 137) from hk)
  have := ti_rng t1
  have : (0 : Int32).toInt = 0 := by decide
  have := ti_rng a1
  refine spR_X10_put hN _ _ _ (show rI N M O from hI) (fun M7 O7 hI hk1 => ?_)
  have hk := rK_tr (show rK M0 M from hk) hk1
  obtain ⟨_, _, hst⟩ := (show (M7 21).toInt = (M0 21).toInt ∧ (M7 64).toInt = (M0 64).toInt ∧ ((M0 12).toInt = 137 → (M7 12).toInt = 137) from hk)
  obtain ⟨_, _, hst1⟩ := (show (M7 21).toInt = (M 21).toInt ∧ (M7 64).toInt = (M 64).toInt ∧ ((M 12).toInt = 137 → (M7 12).toInt = 137) from hk1)
  obtain ⟨⟨_, _⟩, ⟨_, _⟩, ⟨_, _, _⟩, ⟨_, _⟩, ⟨_, _⟩, ⟨_, _⟩, ⟨_, _⟩⟩ := (show rI N M7 O7 from hI)
  exact hQ _ _ _ (show rI N M7 O7 from hI) (show rK M0 M7 from hk)
set_option maxHeartbeats 2000000 in
theorem spR_X10_putSign_49 {N : Nat → Nat} (hN : rN N) (q1 : Int32) (q2 : Int32) {Q : Int32 → (Nat → Int32) → Nat × Nat → Prop} {M0 : Nat → Int32} (hQ : ∀ (r : Int32) (M' : Nat → Int32) (O' : Nat × Nat), rI N M' O' → rK M0 M' → Q r M' O') (a1 : Int32) (a2 : Int32) (M : Nat → Int32) (O : Nat × Nat) (hI : rI N M O) (hk : rK M0 M) : wR_X10_putSign_49 N Q a1 a2 M O := by
  obtain ⟨_, _, _, _, _, _, _, _, _, _, _, _, _, _, _, _⟩ := (show rN N from hN)
  obtain ⟨⟨_, _⟩, ⟨_, _⟩, ⟨_, _, _⟩, ⟨_, _⟩, ⟨_, _⟩, ⟨_, _⟩, ⟨_, _⟩⟩ := (show rI N M O from hI)
  unfold wR_X10_putSign_49
  obtain ⟨_, _, hst⟩ := (show (M 21).toInt = (M0 21).toInt ∧ (M 64).toInt = (M0 64).toInt ∧ ((M0 12).toInt = 137 → (M 12).toInt = 137) from hk)
  intro z4
  intro z5
  refine ⟨fun hc6 => ?_, fun hc6 => ?_⟩
  · have := ti_rng z5
    have : (0 : Int32).toInt = 0 := by decide
    have hc6 := Int32.lt_iff_toInt_lt.mp hc6
    have := ti_rng a1
    have : (136 : Int32).toInt = 136 := by decide
    exact spR_X10_putSign_67 hN q1 q2 hQ _ _ _ _ (show rI N M O from hI) (show rK M0 M from hk)
  · have := ti_rng z5
    have : (0 : Int32).toInt = 0 := by decide
    have hc6 := ti_nlt hc6
    have := ti_rng a1
    have := ti_rng a2
    exact spR_X10_putSign_67 hN q1 q2 hQ _ _ _ _ (show rI N M O from hI) (show rK M0 M from hk)
set_option maxHeartbeats 2000000 in
theorem spR_X10_putSign_40 {N : Nat → Nat} (hN : rN N) (q1 : Int32) (q2 : Int32) {Q : Int32 → (Nat → Int32) → Nat × Nat → Prop} {M0 : Nat → Int32} (hQ : ∀ (r : Int32) (M' : Nat → Int32) (O' : Nat × Nat), rI N M' O' → rK M0 M' → Q r M' O') (a1 : Int32) (t1 : Int32) (M : Nat → Int32) (O : Nat × Nat) (hI : rI N M O) (hk : rK M0 M) : wR_X10_putSign_40 N Q a1 t1 M O := by
  obtain ⟨_, _, _, _, _, _, _, _, _, _, _, _, _, _, _, _⟩ := (show rN N from hN)
  obtain ⟨⟨_, _⟩, ⟨_, _⟩, ⟨_, _, _⟩, ⟨_, _⟩, ⟨_, _⟩, ⟨_, _⟩, ⟨_, _⟩⟩ := (show rI N M O from hI)
  unfold wR_X10_putSign_40
  obtain ⟨_, _, hst⟩ := (show (M 21).toInt = (M0 21).toInt ∧ (M 64).toInt = (M0 64).toInt ∧ ((M0 12).toInt = 137 → (M 12).toInt = 137) from hk)
  have := ti_rng t1
  have : (0 : Int32).toInt = 0 := by decide
  have := ti_rng a1
  refine spR_X10_put hN _ _ _ (show rI N M O from hI) (fun M10 O10 hI hk1 => ?_)
  have hk := rK_tr (show rK M0 M from hk) hk1
  obtain ⟨_, _, hst⟩ := (show (M10 21).toInt = (M0 21).toInt ∧ (M10 64).toInt = (M0 64).toInt ∧ ((M0 12).toInt = 137 → (M10 12).toInt = 137) from hk)
  obtain ⟨_, _, hst1⟩ := (show (M10 21).toInt = (M 21).toInt ∧ (M10 64).toInt = (M 64).toInt ∧ ((M 12).toInt = 137 → (M10 12).toInt = 137) from hk1)
  obtain ⟨⟨_, _⟩, ⟨_, _⟩, ⟨_, _, _⟩, ⟨_, _⟩, ⟨_, _⟩, ⟨_, _⟩, ⟨_, _⟩⟩ := (show rI N M10 O10 from hI)
  exact hQ _ _ _ (show rI N M10 O10 from hI) (show rK M0 M10 from hk)
set_option maxHeartbeats 2000000 in
theorem spR_X10_putSign_24 {N : Nat → Nat} (hN : rN N) (q1 : Int32) (q2 : Int32) {Q : Int32 → (Nat → Int32) → Nat × Nat → Prop} {M0 : Nat → Int32} (hQ : ∀ (r : Int32) (M' : Nat → Int32) (O' : Nat × Nat), rI N M' O' → rK M0 M' → Q r M' O') (a1 : Int32) (a2 : Int32) (M : Nat → Int32) (O : Nat × Nat) (hI : rI N M O) (hk : rK M0 M) : wR_X10_putSign_24 N Q a1 a2 M O := by
  obtain ⟨_, _, _, _, _, _, _, _, _, _, _, _, _, _, _, _⟩ := (show rN N from hN)
  obtain ⟨⟨_, _⟩, ⟨_, _⟩, ⟨_, _, _⟩, ⟨_, _⟩, ⟨_, _⟩, ⟨_, _⟩, ⟨_, _⟩⟩ := (show rI N M O from hI)
  unfold wR_X10_putSign_24
  obtain ⟨_, _, hst⟩ := (show (M 21).toInt = (M0 21).toInt ∧ (M 64).toInt = (M0 64).toInt ∧ ((M0 12).toInt = 137 → (M 12).toInt = 137) from hk)
  refine ⟨fun hc9 => ?_, fun hc9 => ?_⟩
  · have := ti_rng a2
    have : (61 : Int32).toInt = 61 := by decide
    have hc99 := ti_ne hc9
    have := ti_rng a1
    have : (134 : Int32).toInt = 134 := by decide
    exact spR_X10_putSign_40 hN q1 q2 hQ _ _ _ _ (show rI N M O from hI) (show rK M0 M from hk)
  · have := ti_rng a2
    have : (61 : Int32).toInt = 61 := by decide
    have hc99 := congrArg Int32.toInt hc9
    have := ti_rng a1
    have : (133 : Int32).toInt = 133 := by decide
    exact spR_X10_putSign_40 hN q1 q2 hQ _ _ _ _ (show rI N M O from hI) (show rK M0 M from hk)
set_option maxHeartbeats 2000000 in
theorem spR_X10_putSign {N : Nat → Nat} (hN : rN N) (q1 : Int32) (q2 : Int32) {M0 : Nat → Int32} {O : Nat × Nat} {Q : Int32 → (Nat → Int32) → Nat × Nat → Prop} (hI : rI N M0 O) (hQ : ∀ (r : Int32) (M' : Nat → Int32) (O' : Nat × Nat), rI N M' O' → rK M0 M' → Q r M' O') : wR_X10_putSign N q1 q2 M0 O Q := by
  obtain ⟨_, _, _, _, _, _, _, _, _, _, _, _, _, _, _, _⟩ := (show rN N from hN)
  obtain ⟨⟨_, _⟩, ⟨_, _⟩, ⟨_, _, _⟩, ⟨_, _⟩, ⟨_, _⟩, ⟨_, _⟩, ⟨_, _⟩⟩ := (show rI N M0 O from hI)
  have hk : rK M0 M0 := rK_rf M0
  have hQ1 := hQ
  unfold wR_X10_putSign
  have := ti_rng q1
  have : (1 : Int32).toInt = 1 := by decide
  first | have := ti_addx q1 1 (by omega) | obtain ⟨_, _, _, _⟩ := ti_add q1 1
  refine spR_X10_byteAt hN _ (show rI N M0 O from hI) (fun r1 => ?_)
  refine ⟨fun hc3 => ?_, fun hc3 => ?_⟩
  · have := ti_rng r1
    have : (61 : Int32).toInt = 61 := by decide
    have hc39 := ti_ne hc3
    have := ti_rng q2
    exact spR_X10_putSign_49 hN q1 q2 hQ _ _ _ _ (show rI N M0 O from hI) (show rK M0 M0 from hk)
  · have := ti_rng r1
    have : (61 : Int32).toInt = 61 := by decide
    have hc39 := congrArg Int32.toInt hc3
    refine ⟨fun hc8 => ?_, fun hc8 => ?_⟩
    · have := ti_rng q2
      have hc89 := congrArg Int32.toInt hc8
      exact spR_X10_putSign_24 hN q1 q2 hQ _ _ _ _ (show rI N M0 O from hI) (show rK M0 M0 from hk)
    · have := ti_rng q2
      have hc89 := ti_ne hc8
      refine ⟨fun hc11 => ?_, fun hc11 => ?_⟩
      · have : (33 : Int32).toInt = 33 := by decide
        have hc119 := ti_ne hc11
        exact spR_X10_putSign_49 hN q1 q2 hQ _ _ _ _ (show rI N M0 O from hI) (show rK M0 M0 from hk)
      · have : (33 : Int32).toInt = 33 := by decide
        have hc119 := congrArg Int32.toInt hc11
        exact spR_X10_putSign_24 hN q1 q2 hQ _ _ _ _ (show rI N M0 O from hI) (show rK M0 M0 from hk)
set_option maxHeartbeats 2000000 in
theorem spR_X10_split_92 {N : Nat → Nat} (hN : rN N) {Q : (Nat → Int32) → Nat × Nat → Prop} {M0 : Nat → Int32} (hQ : ∀ (M' : Nat → Int32) (O' : Nat × Nat), rI N M' O' → rK M0 M' → Q M' O') (M : Nat → Int32) (O : Nat × Nat) (hI : rI N M O) (hk : rK M0 M) : wR_X10_split_92 N Q M O := by
  obtain ⟨_, _, _, _, _, _, _, _, _, _, _, _, _, _, _, _⟩ := (show rN N from hN)
  obtain ⟨⟨_, _⟩, ⟨_, _⟩, ⟨_, _, _⟩, ⟨_, _⟩, ⟨_, _⟩, ⟨_, _⟩, ⟨_, _⟩⟩ := (show rI N M O from hI)
  unfold wR_X10_split_92
  obtain ⟨_, _, hst⟩ := (show (M 21).toInt = (M0 21).toInt ∧ (M 64).toInt = (M0 64).toInt ∧ ((M0 12).toInt = 137 → (M 12).toInt = 137) from hk)
  have : (135 : Int32).toInt = 135 := by decide
  have : (0 : Int32).toInt = 0 := by decide
  have := ti_rng (M 21)
  refine spR_X10_put hN _ _ _ (show rI N M O from hI) (fun M3 O3 hI hk1 => ?_)
  have hk := rK_tr (show rK M0 M from hk) hk1
  obtain ⟨_, _, hst⟩ := (show (M3 21).toInt = (M0 21).toInt ∧ (M3 64).toInt = (M0 64).toInt ∧ ((M0 12).toInt = 137 → (M3 12).toInt = 137) from hk)
  obtain ⟨_, _, hst1⟩ := (show (M3 21).toInt = (M 21).toInt ∧ (M3 64).toInt = (M 64).toInt ∧ ((M 12).toInt = 137 → (M3 12).toInt = 137) from hk1)
  obtain ⟨⟨_, _⟩, ⟨_, _⟩, ⟨_, _, _⟩, ⟨_, _⟩, ⟨_, _⟩, ⟨_, _⟩, ⟨_, _⟩⟩ := (show rI N M3 O3 from hI)
  exact hQ _ _ (show rI N M3 O3 from hI) (show rK M0 M3 from hk)
set_option maxHeartbeats 2000000 in
theorem spR_X10_split_86 {N : Nat → Nat} (hN : rN N) {K11 : (Int32 → Int32 → (Nat → Int32) → (Nat × Nat) → Prop)} {n11 : Nat} {Q : (Nat → Int32) → Nat × Nat → Prop} {M0 : Nat → Int32} (sK11 : ∀ (a1 : Int32) (a2 : Int32) (M : Nat → Int32) (O : Nat × Nat), rI N M O → rK M0 M → (0 ≤ a2.toInt ∧ a2.toInt ≤ (M 21).toInt) → ((M 21).toInt - a2.toInt) + 1 ≤ (n11 : Int) → K11 a1 a2 M O) (hQ : ∀ (M' : Nat → Int32) (O' : Nat × Nat), rI N M' O' → rK M0 M' → Q M' O') (a1 : Int32) (a2 : Int32) (M : Nat → Int32) (O : Nat × Nat) (hI : rI N M O) (hk : rK M0 M) (hbi : ((0 ≤ a2.toInt ∧ a2.toInt ≤ (M 21).toInt) ∧ ((M 21).toInt - a2.toInt) ≤ (n11 : Int) ∧ 1 ≤ ((M 21).toInt - a2.toInt))) : wR_X10_split_86 N K11 Q a1 a2 M O := by
  obtain ⟨_, _, _, _, _, _, _, _, _, _, _, _, _, _, _, _⟩ := (show rN N from hN)
  obtain ⟨⟨_, _⟩, ⟨_, _⟩, ⟨_, _, _⟩, ⟨_, _⟩, ⟨_, _⟩, ⟨_, _⟩, ⟨_, _⟩⟩ := (show rI N M O from hI)
  unfold wR_X10_split_86
  obtain ⟨_, _, hst⟩ := (show (M 21).toInt = (M0 21).toInt ∧ (M 64).toInt = (M0 64).toInt ∧ ((M0 12).toInt = 137 → (M 12).toInt = 137) from hk)
  have := ti_rng a1
  have := ti_rng a2
  have : (1 : Int32).toInt = 1 := by decide
  first | have := ti_addx a2 1 (by omega) | obtain ⟨_, _, _, _⟩ := ti_add a2 1
  have := ti_rng (M 21)
  exact sK11 _ _ _ _ (show rI N M O from hI) (show rK M0 M from hk) (show 0 ≤ (a2 + 1).toInt ∧ (a2 + 1).toInt ≤ (M 21).toInt from by omega) (show ((M 21).toInt - (a2 + 1).toInt) + 1 ≤ _ from by omega)
set_option maxHeartbeats 2000000 in
theorem spR_X10_split_11 {N : Nat → Nat} (hN : rN N) {Q : (Nat → Int32) → Nat × Nat → Prop} {M0 : Nat → Int32} (hQ : ∀ (M' : Nat → Int32) (O' : Nat × Nat), rI N M' O' → rK M0 M' → Q M' O') : ∀ (n11 : Nat) (a1 : Int32) (a2 : Int32) (M : Nat → Int32) (O : Nat × Nat), rI N M O → rK M0 M → (0 ≤ a2.toInt ∧ a2.toInt ≤ (M 21).toInt) → ((M 21).toInt - a2.toInt) + 1 ≤ (n11 : Int) → wR_X10_split_11 N Q n11 a1 a2 M O := by
  obtain ⟨_, _, _, _, _, _, _, _, _, _, _, _, _, _, _, _⟩ := (show rN N from hN)
  intro n11
  induction n11 with
  | zero => intro a1 a2 M O hI hk hv hn; exact absurd hn (by omega)
  | succ n11 ih =>
    intro a1 a2 M O hI hk hv hn
    obtain ⟨⟨_, _⟩, ⟨_, _⟩, ⟨_, _, _⟩, ⟨_, _⟩, ⟨_, _⟩, ⟨_, _⟩, ⟨_, _⟩⟩ := (show rI N M O from hI)
    dsimp only [wR_X10_split_11]
    obtain ⟨_, _, hst⟩ := (show (M 21).toInt = (M0 21).toInt ∧ (M 64).toInt = (M0 64).toInt ∧ ((M0 12).toInt = 137 → (M 12).toInt = 137) from hk)
    refine ⟨fun hc2 => ?_, fun hc2 => ?_⟩
    · have := ti_rng (M 21)
      have := ti_rng a2
      have hc2 := Int32.le_iff_toInt_le.mp hc2
      exact spR_X10_split_92 hN hQ _ _ (show rI N M O from hI) (show rK M0 M from hk)
    · have := ti_rng (M 21)
      have := ti_rng a2
      have hc2 := ti_nle hc2
      refine ⟨fun hc4 => ?_, fun hc4 => ?_⟩
      · have := ti_rng a1
        have hc4 := Int32.le_iff_toInt_le.mp hc4
        exact spR_X10_split_92 hN hQ _ _ (show rI N M O from hI) (show rK M0 M from hk)
      · have := ti_rng a1
        have hc4 := ti_nle hc4
        refine spR_X10_behindBlanks hN _ (show rI N M O from hI) (fun r5 => ?_)
        have := ti_rng r5
        refine spR_X10_byteAt hN _ (show rI N M O from hI) (fun r7 => ?_)
        have := ti_rng r7
        refine spR_X10_isDigit hN _ (show rI N M O from hI) (fun r9 => ?_)
        refine ⟨fun hc11 => ?_, fun hc11 => ?_⟩
        · have := ti_rng r9
          have : (0 : Int32).toInt = 0 := by decide
          have hc119 := congrArg Int32.toInt hc11
          refine spR_X10_isLetter hN _ (show rI N M O from hI) (fun r12 => ?_)
          refine ⟨fun hc14 => ?_, fun hc14 => ?_⟩
          · have := ti_rng r12
            have hc149 := congrArg Int32.toInt hc14
            refine ⟨fun hc15 => ?_, fun hc15 => ?_⟩
            · have hc15 := Int32.le_iff_toInt_le.mp hc15
              exact spR_X10_split_86 hN ih hQ _ _ _ _ (show rI N M O from hI) (show rK M0 M from hk) (show ((0 ≤ a2.toInt ∧ a2.toInt ≤ (M 21).toInt) ∧ ((M 21).toInt - a2.toInt) ≤ (n11 : Int) ∧ 1 ≤ ((M 21).toInt - a2.toInt)) from by omega)
            · have hc15 := ti_nle hc15
              refine spR_X10_putSign hN _ _ (show rI N M O from hI) (fun r16 M17 O17 hI hk1 => ?_)
              have hk := rK_tr (show rK M0 M from hk) hk1
              obtain ⟨_, _, hst⟩ := (show (M17 21).toInt = (M0 21).toInt ∧ (M17 64).toInt = (M0 64).toInt ∧ ((M0 12).toInt = 137 → (M17 12).toInt = 137) from hk)
              obtain ⟨_, _, hst1⟩ := (show (M17 21).toInt = (M 21).toInt ∧ (M17 64).toInt = (M 64).toInt ∧ ((M 12).toInt = 137 → (M17 12).toInt = 137) from hk1)
              obtain ⟨⟨_, _⟩, ⟨_, _⟩, ⟨_, _, _⟩, ⟨_, _⟩, ⟨_, _⟩, ⟨_, _⟩, ⟨_, _⟩⟩ := (show rI N M17 O17 from hI)
              have := ti_rng r16
              have := ti_rng (M17 21)
              exact spR_X10_split_86 hN ih hQ _ _ _ _ (show rI N M17 O17 from hI) (show rK M0 M17 from hk) (show ((0 ≤ a2.toInt ∧ a2.toInt ≤ (M17 21).toInt) ∧ ((M17 21).toInt - a2.toInt) ≤ (n11 : Int) ∧ 1 ≤ ((M17 21).toInt - a2.toInt)) from by omega)
          · have := ti_rng r12
            have hc149 := ti_ne hc14
            refine spR_X10_putWord hN _ (show rI N M O from hI) (fun r18 M19 O19 hI hk1 => ?_)
            have hk := rK_tr (show rK M0 M from hk) hk1
            obtain ⟨_, _, hst⟩ := (show (M19 21).toInt = (M0 21).toInt ∧ (M19 64).toInt = (M0 64).toInt ∧ ((M0 12).toInt = 137 → (M19 12).toInt = 137) from hk)
            obtain ⟨_, _, hst1⟩ := (show (M19 21).toInt = (M 21).toInt ∧ (M19 64).toInt = (M 64).toInt ∧ ((M 12).toInt = 137 → (M19 12).toInt = 137) from hk1)
            obtain ⟨⟨_, _⟩, ⟨_, _⟩, ⟨_, _, _⟩, ⟨_, _⟩, ⟨_, _⟩, ⟨_, _⟩, ⟨_, _⟩⟩ := (show rI N M19 O19 from hI)
            have := ti_rng r18
            have := ti_rng (M19 21)
            exact spR_X10_split_86 hN ih hQ _ _ _ _ (show rI N M19 O19 from hI) (show rK M0 M19 from hk) (show ((0 ≤ a2.toInt ∧ a2.toInt ≤ (M19 21).toInt) ∧ ((M19 21).toInt - a2.toInt) ≤ (n11 : Int) ∧ 1 ≤ ((M19 21).toInt - a2.toInt)) from by omega)
        · have := ti_rng r9
          have : (0 : Int32).toInt = 0 := by decide
          have hc119 := ti_ne hc11
          refine spR_X10_putNumber hN _ (show rI N M O from hI) (fun r20 M21 O21 hI hk1 => ?_)
          have hk := rK_tr (show rK M0 M from hk) hk1
          obtain ⟨_, _, hst⟩ := (show (M21 21).toInt = (M0 21).toInt ∧ (M21 64).toInt = (M0 64).toInt ∧ ((M0 12).toInt = 137 → (M21 12).toInt = 137) from hk)
          obtain ⟨_, _, hst1⟩ := (show (M21 21).toInt = (M 21).toInt ∧ (M21 64).toInt = (M 64).toInt ∧ ((M 12).toInt = 137 → (M21 12).toInt = 137) from hk1)
          obtain ⟨⟨_, _⟩, ⟨_, _⟩, ⟨_, _, _⟩, ⟨_, _⟩, ⟨_, _⟩, ⟨_, _⟩, ⟨_, _⟩⟩ := (show rI N M21 O21 from hI)
          have := ti_rng r20
          have := ti_rng (M21 21)
          exact spR_X10_split_86 hN ih hQ _ _ _ _ (show rI N M21 O21 from hI) (show rK M0 M21 from hk) (show ((0 ≤ a2.toInt ∧ a2.toInt ≤ (M21 21).toInt) ∧ ((M21 21).toInt - a2.toInt) ≤ (n11 : Int) ∧ 1 ≤ ((M21 21).toInt - a2.toInt)) from by omega)
set_option maxHeartbeats 2000000 in
theorem spR_X10_split {N : Nat → Nat} (hN : rN N) {M0 : Nat → Int32} {O : Nat × Nat} {Q : (Nat → Int32) → Nat × Nat → Prop} (hI : rI N M0 O) (hQ : ∀ (M' : Nat → Int32) (O' : Nat × Nat), rI N M' O' → rK M0 M' → Q M' O') : wR_X10_split N  M0 O Q := by
  obtain ⟨_, _, _, _, _, _, _, _, _, _, _, _, _, _, _, _⟩ := (show rN N from hN)
  obtain ⟨⟨_, _⟩, ⟨_, _⟩, ⟨_, _, _⟩, ⟨_, _⟩, ⟨_, _⟩, ⟨_, _⟩, ⟨_, _⟩⟩ := (show rI N M0 O from hI)
  have hk : rK M0 M0 := rK_rf M0
  have hQ1 := hQ
  unfold wR_X10_split
  refine spR_X4_learnQuotedWords hN  (show rI N M0 O from hI) (fun M1 O1 hI hk1 => ?_)
  have hk := rK_tr (show rK M0 M0 from hk) hk1
  obtain ⟨_, _, hst⟩ := (show (M1 21).toInt = (M0 21).toInt ∧ (M1 64).toInt = (M0 64).toInt ∧ ((M0 12).toInt = 137 → (M1 12).toInt = 137) from hk)
  obtain ⟨_, _, hst1⟩ := (show (M1 21).toInt = (M0 21).toInt ∧ (M1 64).toInt = (M0 64).toInt ∧ ((M0 12).toInt = 137 → (M1 12).toInt = 137) from hk1)
  obtain ⟨⟨_, _⟩, ⟨_, _⟩, ⟨_, _, _⟩, ⟨_, _⟩, ⟨_, _⟩, ⟨_, _⟩, ⟨_, _⟩⟩ := (show rI N M1 O1 from hI)
  have : (0 : Int32).toInt = 0 := by decide
  have := ti_rng (M1 21)
  exact ⟨(((M1 21).toInt - (0 : Int32).toInt) + 1).toNat, spR_X10_split_11 hN hQ _ _ _ _ _ (show rI N M1 O1 from hI) (show rK M0 M1 from hk) (show 0 ≤ (0 : Int32).toInt ∧ (0 : Int32).toInt ≤ (M1 21).toInt from by omega) (show ((M1 21).toInt - (0 : Int32).toInt) + 1 ≤ _ from by omega)⟩

