set_option maxHeartbeats 2000000 in
theorem spR_X7_raising {N : Nat → Nat} (hN : rN N) {M0 : Nat → Int32} {O : Nat × Nat} {Q : (Nat → Int32) → Nat × Nat → Prop} (hI : rI N M0 O) (hQ : ∀ (M' : Nat → Int32) (O' : Nat × Nat), rI N M' O' → rK M0 M' → Q M' O') : wR_X7_raising N  M0 O Q := by
  obtain ⟨_, _, _, _, _, _, _, _, _, _, _, _, _, _, _, _⟩ := (show rN N from hN)
  obtain ⟨⟨_, _⟩, ⟨_, _⟩, ⟨_, _, _⟩, ⟨_, _⟩, ⟨_, _⟩, ⟨_, _⟩, ⟨_, _⟩⟩ := (show rI N M0 O from hI)
  have hk : rK M0 M0 := rK_rf M0
  have hQ1 := hQ
  unfold wR_X7_raising
  refine spR_X7_advance hN  (show rI N M0 O from hI) (fun M1 O1 hI hk1 => ?_)
  have hk := rK_tr (show rK M0 M0 from hk) hk1
  obtain ⟨_, _, hst⟩ := (show (M1 21).toInt = (M0 21).toInt ∧ (M1 64).toInt = (M0 64).toInt ∧ ((M0 12).toInt = 137 → (M1 12).toInt = 137) from hk)
  obtain ⟨_, _, hst1⟩ := (show (M1 21).toInt = (M0 21).toInt ∧ (M1 64).toInt = (M0 64).toInt ∧ ((M0 12).toInt = 137 → (M1 12).toInt = 137) from hk1)
  obtain ⟨⟨_, _⟩, ⟨_, _⟩, ⟨_, _, _⟩, ⟨_, _⟩, ⟨_, _⟩, ⟨_, _⟩, ⟨_, _⟩⟩ := (show rI N M1 O1 from hI)
  refine spR_X7_object hN  (show rI N M1 O1 from hI) (fun r2 M3 O3 hI hk1 => ?_)
  have hk := rK_tr (show rK M0 M1 from hk) hk1
  obtain ⟨_, _, hst⟩ := (show (M3 21).toInt = (M0 21).toInt ∧ (M3 64).toInt = (M0 64).toInt ∧ ((M0 12).toInt = 137 → (M3 12).toInt = 137) from hk)
  obtain ⟨_, _, hst1⟩ := (show (M3 21).toInt = (M1 21).toInt ∧ (M3 64).toInt = (M1 64).toInt ∧ ((M1 12).toInt = 137 → (M3 12).toInt = 137) from hk1)
  obtain ⟨⟨_, _⟩, ⟨_, _⟩, ⟨_, _, _⟩, ⟨_, _⟩, ⟨_, _⟩, ⟨_, _⟩, ⟨_, _⟩⟩ := (show rI N M3 O3 from hI)
  have : (28 : Int32).toInt = 28 := by decide
  have := ti_rng r2
  refine spR_X7_emit_ hN _ _ (show rI N M3 O3 from hI) (fun M4 O4 hI hk1 => ?_)
  have hk := rK_tr (show rK M0 M3 from hk) hk1
  obtain ⟨_, _, hst⟩ := (show (M4 21).toInt = (M0 21).toInt ∧ (M4 64).toInt = (M0 64).toInt ∧ ((M0 12).toInt = 137 → (M4 12).toInt = 137) from hk)
  obtain ⟨_, _, hst1⟩ := (show (M4 21).toInt = (M3 21).toInt ∧ (M4 64).toInt = (M3 64).toInt ∧ ((M3 12).toInt = 137 → (M4 12).toInt = 137) from hk1)
  obtain ⟨⟨_, _⟩, ⟨_, _⟩, ⟨_, _, _⟩, ⟨_, _⟩, ⟨_, _⟩, ⟨_, _⟩, ⟨_, _⟩⟩ := (show rI N M4 O4 from hI)
  exact hQ _ _ (show rI N M4 O4 from hI) (show rK M0 M4 from hk)
set_option maxHeartbeats 2000000 in
theorem spR_X7_joining {N : Nat → Nat} (hN : rN N) {M0 : Nat → Int32} {O : Nat × Nat} {Q : (Nat → Int32) → Nat × Nat → Prop} (hI : rI N M0 O) (hQ : ∀ (M' : Nat → Int32) (O' : Nat × Nat), rI N M' O' → rK M0 M' → Q M' O') : wR_X7_joining N  M0 O Q := by
  obtain ⟨_, _, _, _, _, _, _, _, _, _, _, _, _, _, _, _⟩ := (show rN N from hN)
  obtain ⟨⟨_, _⟩, ⟨_, _⟩, ⟨_, _, _⟩, ⟨_, _⟩, ⟨_, _⟩, ⟨_, _⟩, ⟨_, _⟩⟩ := (show rI N M0 O from hI)
  have hk : rK M0 M0 := rK_rf M0
  have hQ1 := hQ
  unfold wR_X7_joining
  refine spR_X7_advance hN  (show rI N M0 O from hI) (fun M1 O1 hI hk1 => ?_)
  have hk := rK_tr (show rK M0 M0 from hk) hk1
  obtain ⟨_, _, hst⟩ := (show (M1 21).toInt = (M0 21).toInt ∧ (M1 64).toInt = (M0 64).toInt ∧ ((M0 12).toInt = 137 → (M1 12).toInt = 137) from hk)
  obtain ⟨_, _, hst1⟩ := (show (M1 21).toInt = (M0 21).toInt ∧ (M1 64).toInt = (M0 64).toInt ∧ ((M0 12).toInt = 137 → (M1 12).toInt = 137) from hk1)
  obtain ⟨⟨_, _⟩, ⟨_, _⟩, ⟨_, _, _⟩, ⟨_, _⟩, ⟨_, _⟩, ⟨_, _⟩, ⟨_, _⟩⟩ := (show rI N M1 O1 from hI)
  refine spR_X7_object hN  (show rI N M1 O1 from hI) (fun r2 M3 O3 hI hk1 => ?_)
  have hk := rK_tr (show rK M0 M1 from hk) hk1
  obtain ⟨_, _, hst⟩ := (show (M3 21).toInt = (M0 21).toInt ∧ (M3 64).toInt = (M0 64).toInt ∧ ((M0 12).toInt = 137 → (M3 12).toInt = 137) from hk)
  obtain ⟨_, _, hst1⟩ := (show (M3 21).toInt = (M1 21).toInt ∧ (M3 64).toInt = (M1 64).toInt ∧ ((M1 12).toInt = 137 → (M3 12).toInt = 137) from hk1)
  obtain ⟨⟨_, _⟩, ⟨_, _⟩, ⟨_, _, _⟩, ⟨_, _⟩, ⟨_, _⟩, ⟨_, _⟩, ⟨_, _⟩⟩ := (show rI N M3 O3 from hI)
  have : (208 : Int32).toInt = 208 := by decide
  refine spR_X7_take hN _ (show rI N M3 O3 from hI) (fun M4 O4 hI hk1 => ?_)
  have hk := rK_tr (show rK M0 M3 from hk) hk1
  obtain ⟨_, _, hst⟩ := (show (M4 21).toInt = (M0 21).toInt ∧ (M4 64).toInt = (M0 64).toInt ∧ ((M0 12).toInt = 137 → (M4 12).toInt = 137) from hk)
  obtain ⟨_, _, hst1⟩ := (show (M4 21).toInt = (M3 21).toInt ∧ (M4 64).toInt = (M3 64).toInt ∧ ((M3 12).toInt = 137 → (M4 12).toInt = 137) from hk1)
  obtain ⟨⟨_, _⟩, ⟨_, _⟩, ⟨_, _, _⟩, ⟨_, _⟩, ⟨_, _⟩, ⟨_, _⟩, ⟨_, _⟩⟩ := (show rI N M4 O4 from hI)
  refine spR_X7_objectOrNone hN  (show rI N M4 O4 from hI) (fun r5 M6 O6 hI hk1 => ?_)
  have hk := rK_tr (show rK M0 M4 from hk) hk1
  obtain ⟨_, _, hst⟩ := (show (M6 21).toInt = (M0 21).toInt ∧ (M6 64).toInt = (M0 64).toInt ∧ ((M0 12).toInt = 137 → (M6 12).toInt = 137) from hk)
  obtain ⟨_, _, hst1⟩ := (show (M6 21).toInt = (M4 21).toInt ∧ (M6 64).toInt = (M4 64).toInt ∧ ((M4 12).toInt = 137 → (M6 12).toInt = 137) from hk1)
  obtain ⟨⟨_, _⟩, ⟨_, _⟩, ⟨_, _, _⟩, ⟨_, _⟩, ⟨_, _⟩, ⟨_, _⟩, ⟨_, _⟩⟩ := (show rI N M6 O6 from hI)
  have : (29 : Int32).toInt = 29 := by decide
  have := ti_rng r2
  have := ti_rng r5
  refine spR_X7_emit__ hN _ _ _ (show rI N M6 O6 from hI) (fun M7 O7 hI hk1 => ?_)
  have hk := rK_tr (show rK M0 M6 from hk) hk1
  obtain ⟨_, _, hst⟩ := (show (M7 21).toInt = (M0 21).toInt ∧ (M7 64).toInt = (M0 64).toInt ∧ ((M0 12).toInt = 137 → (M7 12).toInt = 137) from hk)
  obtain ⟨_, _, hst1⟩ := (show (M7 21).toInt = (M6 21).toInt ∧ (M7 64).toInt = (M6 64).toInt ∧ ((M6 12).toInt = 137 → (M7 12).toInt = 137) from hk1)
  obtain ⟨⟨_, _⟩, ⟨_, _⟩, ⟨_, _, _⟩, ⟨_, _⟩, ⟨_, _⟩, ⟨_, _⟩, ⟨_, _⟩⟩ := (show rI N M7 O7 from hI)
  exact hQ _ _ (show rI N M7 O7 from hI) (show rK M0 M7 from hk)
set_option maxHeartbeats 2000000 in
theorem spR_X7_question_49 {N : Nat → Nat} (hN : rN N) {Q : Int32 → (Nat → Int32) → Nat × Nat → Prop} {M0 : Nat → Int32} (hQ : ∀ (r : Int32) (M' : Nat → Int32) (O' : Nat × Nat), rI N M' O' → rK M0 M' → Q r M' O') (a1 : Int32) (M : Nat → Int32) (O : Nat × Nat) (hI : rI N M O) (hk : rK M0 M) : wR_X7_question_49 N Q a1 M O := by
  obtain ⟨_, _, _, _, _, _, _, _, _, _, _, _, _, _, _, _⟩ := (show rN N from hN)
  obtain ⟨⟨_, _⟩, ⟨_, _⟩, ⟨_, _, _⟩, ⟨_, _⟩, ⟨_, _⟩, ⟨_, _⟩, ⟨_, _⟩⟩ := (show rI N M O from hI)
  unfold wR_X7_question_49
  obtain ⟨_, _, hst⟩ := (show (M 21).toInt = (M0 21).toInt ∧ (M 64).toInt = (M0 64).toInt ∧ ((M0 12).toInt = 137 → (M 12).toInt = 137) from hk)
  exact hQ _ _ _ (show rI N M O from hI) (show rK M0 M from hk)
set_option maxHeartbeats 2000000 in
theorem spR_X7_question_38 {N : Nat → Nat} (hN : rN N) {Q : Int32 → (Nat → Int32) → Nat × Nat → Prop} {M0 : Nat → Int32} (hQ : ∀ (r : Int32) (M' : Nat → Int32) (O' : Nat × Nat), rI N M' O' → rK M0 M' → Q r M' O') (a1 : Int32) (M : Nat → Int32) (O : Nat × Nat) (hI : rI N M O) (hk : rK M0 M) : wR_X7_question_38 N Q a1 M O := by
  obtain ⟨_, _, _, _, _, _, _, _, _, _, _, _, _, _, _, _⟩ := (show rN N from hN)
  obtain ⟨⟨_, _⟩, ⟨_, _⟩, ⟨_, _, _⟩, ⟨_, _⟩, ⟨_, _⟩, ⟨_, _⟩, ⟨_, _⟩⟩ := (show rI N M O from hI)
  unfold wR_X7_question_38
  obtain ⟨_, _, hst⟩ := (show (M 21).toInt = (M0 21).toInt ∧ (M 64).toInt = (M0 64).toInt ∧ ((M0 12).toInt = 137 → (M 12).toInt = 137) from hk)
  refine spR_X7_advance hN  (show rI N M O from hI) (fun M3 O3 hI hk1 => ?_)
  have hk := rK_tr (show rK M0 M from hk) hk1
  obtain ⟨_, _, hst⟩ := (show (M3 21).toInt = (M0 21).toInt ∧ (M3 64).toInt = (M0 64).toInt ∧ ((M0 12).toInt = 137 → (M3 12).toInt = 137) from hk)
  obtain ⟨_, _, hst1⟩ := (show (M3 21).toInt = (M 21).toInt ∧ (M3 64).toInt = (M 64).toInt ∧ ((M 12).toInt = 137 → (M3 12).toInt = 137) from hk1)
  obtain ⟨⟨_, _⟩, ⟨_, _⟩, ⟨_, _, _⟩, ⟨_, _⟩, ⟨_, _⟩, ⟨_, _⟩, ⟨_, _⟩⟩ := (show rI N M3 O3 from hI)
  have := ti_rng a1
  exact spR_X7_question_49 hN hQ _ _ _ (show rI N M3 O3 from hI) (show rK M0 M3 from hk)
set_option maxHeartbeats 2000000 in
theorem spR_X7_question_17 {N : Nat → Nat} (hN : rN N) {Q : Int32 → (Nat → Int32) → Nat × Nat → Prop} {M0 : Nat → Int32} (hQ : ∀ (r : Int32) (M' : Nat → Int32) (O' : Nat × Nat), rI N M' O' → rK M0 M' → Q r M' O') (t0 : Int32) (M : Nat → Int32) (O : Nat × Nat) (hI : rI N M O) (hk : rK M0 M) : wR_X7_question_17 N Q t0 M O := by
  obtain ⟨_, _, _, _, _, _, _, _, _, _, _, _, _, _, _, _⟩ := (show rN N from hN)
  obtain ⟨⟨_, _⟩, ⟨_, _⟩, ⟨_, _, _⟩, ⟨_, _⟩, ⟨_, _⟩, ⟨_, _⟩, ⟨_, _⟩⟩ := (show rI N M O from hI)
  unfold wR_X7_question_17
  obtain ⟨_, _, hst⟩ := (show (M 21).toInt = (M0 21).toInt ∧ (M 64).toInt = (M0 64).toInt ∧ ((M0 12).toInt = 137 → (M 12).toInt = 137) from hk)
  refine ⟨fun hc2 => ?_, fun hc2 => ?_⟩
  · have := ti_rng (M 12)
    have : (224 : Int32).toInt = 224 := by decide
    have hc29 := congrArg Int32.toInt hc2
    have := ti_rng t0
    exact spR_X7_question_38 hN hQ _ _ _ (show rI N M O from hI) (show rK M0 M from hk)
  · have := ti_rng (M 12)
    have : (224 : Int32).toInt = 224 := by decide
    have hc29 := ti_ne hc2
    refine ⟨fun hc4 => ?_, fun hc4 => ?_⟩
    · have : (225 : Int32).toInt = 225 := by decide
      have hc49 := ti_ne hc4
      refine spR_X7_fail hN  (show rI N M O from hI) (fun M5 O5 hI hk1 hp5 => ?_)
      have hk := rK_tr (show rK M0 M from hk) hk1
      obtain ⟨_, _, hst⟩ := (show (M5 21).toInt = (M0 21).toInt ∧ (M5 64).toInt = (M0 64).toInt ∧ ((M0 12).toInt = 137 → (M5 12).toInt = 137) from hk)
      obtain ⟨_, _, hst1⟩ := (show (M5 21).toInt = (M 21).toInt ∧ (M5 64).toInt = (M 64).toInt ∧ ((M 12).toInt = 137 → (M5 12).toInt = 137) from hk1)
      obtain ⟨⟨_, _⟩, ⟨_, _⟩, ⟨_, _, _⟩, ⟨_, _⟩, ⟨_, _⟩, ⟨_, _⟩, ⟨_, _⟩⟩ := (show rI N M5 O5 from hI)
      have := ti_rng t0
      exact spR_X7_question_49 hN hQ _ _ _ (show rI N M5 O5 from hI) (show rK M0 M5 from hk)
    · have : (225 : Int32).toInt = 225 := by decide
      have hc49 := congrArg Int32.toInt hc4
      have := ti_rng t0
      exact spR_X7_question_38 hN hQ _ _ _ (show rI N M O from hI) (show rK M0 M from hk)
set_option maxHeartbeats 2000000 in
theorem spR_X7_question {N : Nat → Nat} (hN : rN N) {M0 : Nat → Int32} {O : Nat × Nat} {Q : Int32 → (Nat → Int32) → Nat × Nat → Prop} (hI : rI N M0 O) (hQ : ∀ (r : Int32) (M' : Nat → Int32) (O' : Nat × Nat), rI N M' O' → rK M0 M' → Q r M' O') : wR_X7_question N  M0 O Q := by
  obtain ⟨_, _, _, _, _, _, _, _, _, _, _, _, _, _, _, _⟩ := (show rN N from hN)
  obtain ⟨⟨_, _⟩, ⟨_, _⟩, ⟨_, _, _⟩, ⟨_, _⟩, ⟨_, _⟩, ⟨_, _⟩, ⟨_, _⟩⟩ := (show rI N M0 O from hI)
  have hk : rK M0 M0 := rK_rf M0
  have hQ1 := hQ
  unfold wR_X7_question
  refine ⟨fun hc1 => ?_, fun hc1 => ?_⟩
  · have := ti_rng (M0 12)
    have : (224 : Int32).toInt = 224 := by decide
    have hc19 := ti_ne hc1
    have : (24 : Int32).toInt = 24 := by decide
    exact spR_X7_question_17 hN hQ _ _ _ (show rI N M0 O from hI) (show rK M0 M0 from hk)
  · have := ti_rng (M0 12)
    have : (224 : Int32).toInt = 224 := by decide
    have hc19 := congrArg Int32.toInt hc1
    have : (23 : Int32).toInt = 23 := by decide
    exact spR_X7_question_17 hN hQ _ _ _ (show rI N M0 O from hI) (show rK M0 M0 from hk)
set_option maxHeartbeats 2000000 in
theorem spR_X7_noting_75 {N : Nat → Nat} (hN : rN N) (q1 : Int32) {WF : Int32 → (Nat → Int32) → (Nat × Nat) → ((Nat → Int32) → Nat × Nat → Prop) → Prop} {Q : (Nat → Int32) → Nat × Nat → Prop} {M0 : Nat → Int32} {dF : Nat} (sWF : ∀ (q1 : Int32) (M : Nat → Int32) (O : Nat × Nat) {Q : (Nat → Int32) → Nat × Nat → Prop}, rI N M O → (((M 12).toInt = 137 ∧ 1 ≤ (dF : Int)) ∨ (0 ≤ q1.toInt ∧ q1.toInt ≤ 20 ∧ 22 - q1.toInt ≤ (dF : Int))) → (∀ (M' : Nat → Int32) (O' : Nat × Nat), rI N M' O' → rK M M' → Q M' O') → WF q1 M O Q) (hQ : ∀ (M' : Nat → Int32) (O' : Nat × Nat), rI N M' O' → rK M0 M' → Q M' O') (a1 : Int32) (t1 : Int32) (t2 : Int32) (t3 : Int32) (M : Nat → Int32) (O : Nat × Nat) (hI : rI N M O) (hk : rK M0 M) (hbi : (0 ≤ a1.toInt ∧ a1.toInt ≤ 20 ∧ 22 ≤ (dF : Int))) : wR_X7_noting_75 N WF Q a1 t1 t2 t3 M O := by
  obtain ⟨_, _, _, _, _, _, _, _, _, _, _, _, _, _, _, _⟩ := (show rN N from hN)
  obtain ⟨⟨_, _⟩, ⟨_, _⟩, ⟨_, _, _⟩, ⟨_, _⟩, ⟨_, _⟩, ⟨_, _⟩, ⟨_, _⟩⟩ := (show rI N M O from hI)
  unfold wR_X7_noting_75
  obtain ⟨_, _, hst⟩ := (show (M 21).toInt = (M0 21).toInt ∧ (M 64).toInt = (M0 64).toInt ∧ ((M0 12).toInt = 137 → (M 12).toInt = 137) from hk)
  have := ti_rng t1
  have := ti_rng t2
  have := ti_rng t3
  refine spR_X7_emit__ hN _ _ _ (show rI N M O from hI) (fun M11 O11 hI hk1 => ?_)
  have hk := rK_tr (show rK M0 M from hk) hk1
  obtain ⟨_, _, hst⟩ := (show (M11 21).toInt = (M0 21).toInt ∧ (M11 64).toInt = (M0 64).toInt ∧ ((M0 12).toInt = 137 → (M11 12).toInt = 137) from hk)
  obtain ⟨_, _, hst1⟩ := (show (M11 21).toInt = (M 21).toInt ∧ (M11 64).toInt = (M 64).toInt ∧ ((M 12).toInt = 137 → (M11 12).toInt = 137) from hk1)
  obtain ⟨⟨_, _⟩, ⟨_, _⟩, ⟨_, _, _⟩, ⟨_, _⟩, ⟨_, _⟩, ⟨_, _⟩, ⟨_, _⟩⟩ := (show rI N M11 O11 from hI)
  have := ti_rng a1
  have := ti_rng (M11 12)
  refine spR_X7_restOfExpression hN sWF _ (show rI N M11 O11 from hI) (show ((M11 12).toInt = 137 ∧ 1 ≤ (dF : Int)) ∨ (0 ≤ a1.toInt ∧ a1.toInt ≤ 20 ∧ 22 - a1.toInt ≤ (dF : Int)) from by omega) (fun M12 O12 hI hk1 => ?_)
  have hk := rK_tr (show rK M0 M11 from hk) hk1
  obtain ⟨_, _, hst⟩ := (show (M12 21).toInt = (M0 21).toInt ∧ (M12 64).toInt = (M0 64).toInt ∧ ((M0 12).toInt = 137 → (M12 12).toInt = 137) from hk)
  obtain ⟨_, _, hst1⟩ := (show (M12 21).toInt = (M11 21).toInt ∧ (M12 64).toInt = (M11 64).toInt ∧ ((M11 12).toInt = 137 → (M12 12).toInt = 137) from hk1)
  obtain ⟨⟨_, _⟩, ⟨_, _⟩, ⟨_, _, _⟩, ⟨_, _⟩, ⟨_, _⟩, ⟨_, _⟩, ⟨_, _⟩⟩ := (show rI N M12 O12 from hI)
  have : (1 : Int32).toInt = 1 := by decide
  refine spR_X7_emit hN _ (show rI N M12 O12 from hI) (fun M13 O13 hI hk1 => ?_)
  have hk := rK_tr (show rK M0 M12 from hk) hk1
  obtain ⟨_, _, hst⟩ := (show (M13 21).toInt = (M0 21).toInt ∧ (M13 64).toInt = (M0 64).toInt ∧ ((M0 12).toInt = 137 → (M13 12).toInt = 137) from hk)
  obtain ⟨_, _, hst1⟩ := (show (M13 21).toInt = (M12 21).toInt ∧ (M13 64).toInt = (M12 64).toInt ∧ ((M12 12).toInt = 137 → (M13 12).toInt = 137) from hk1)
  obtain ⟨⟨_, _⟩, ⟨_, _⟩, ⟨_, _, _⟩, ⟨_, _⟩, ⟨_, _⟩, ⟨_, _⟩, ⟨_, _⟩⟩ := (show rI N M13 O13 from hI)
  exact hQ _ _ (show rI N M13 O13 from hI) (show rK M0 M13 from hk)
set_option maxHeartbeats 2000000 in
theorem spR_X7_noting_50 {N : Nat → Nat} (hN : rN N) (q1 : Int32) {WF : Int32 → (Nat → Int32) → (Nat × Nat) → ((Nat → Int32) → Nat × Nat → Prop) → Prop} {Q : (Nat → Int32) → Nat × Nat → Prop} {M0 : Nat → Int32} {dF : Nat} (sWF : ∀ (q1 : Int32) (M : Nat → Int32) (O : Nat × Nat) {Q : (Nat → Int32) → Nat × Nat → Prop}, rI N M O → (((M 12).toInt = 137 ∧ 1 ≤ (dF : Int)) ∨ (0 ≤ q1.toInt ∧ q1.toInt ≤ 20 ∧ 22 - q1.toInt ≤ (dF : Int))) → (∀ (M' : Nat → Int32) (O' : Nat × Nat), rI N M' O' → rK M M' → Q M' O') → WF q1 M O Q) (hQ : ∀ (M' : Nat → Int32) (O' : Nat × Nat), rI N M' O' → rK M0 M' → Q M' O') (a1 : Int32) (a2 : Int32) (M : Nat → Int32) (O : Nat × Nat) (hI : rI N M O) (hk : rK M0 M) (hbi : (0 ≤ a1.toInt ∧ a1.toInt ≤ 20 ∧ 22 ≤ (dF : Int))) : wR_X7_noting_50 N WF Q a1 a2 M O := by
  obtain ⟨_, _, _, _, _, _, _, _, _, _, _, _, _, _, _, _⟩ := (show rN N from hN)
  obtain ⟨⟨_, _⟩, ⟨_, _⟩, ⟨_, _, _⟩, ⟨_, _⟩, ⟨_, _⟩, ⟨_, _⟩, ⟨_, _⟩⟩ := (show rI N M O from hI)
  unfold wR_X7_noting_50
  obtain ⟨_, _, hst⟩ := (show (M 21).toInt = (M0 21).toInt ∧ (M 64).toInt = (M0 64).toInt ∧ ((M0 12).toInt = 137 → (M 12).toInt = 137) from hk)
  refine spR_X7_question hN  (show rI N M O from hI) (fun r6 M7 O7 hI hk1 => ?_)
  have hk := rK_tr (show rK M0 M from hk) hk1
  obtain ⟨_, _, hst⟩ := (show (M7 21).toInt = (M0 21).toInt ∧ (M7 64).toInt = (M0 64).toInt ∧ ((M0 12).toInt = 137 → (M7 12).toInt = 137) from hk)
  obtain ⟨_, _, hst1⟩ := (show (M7 21).toInt = (M 21).toInt ∧ (M7 64).toInt = (M 64).toInt ∧ ((M 12).toInt = 137 → (M7 12).toInt = 137) from hk1)
  obtain ⟨⟨_, _⟩, ⟨_, _⟩, ⟨_, _, _⟩, ⟨_, _⟩, ⟨_, _⟩, ⟨_, _⟩, ⟨_, _⟩⟩ := (show rI N M7 O7 from hI)
  refine ⟨fun hc8 => ?_, fun hc8 => ?_⟩
  · have := ti_rng r6
    have : (23 : Int32).toInt = 23 := by decide
    have hc89 := ti_ne hc8
    refine spR_X7_object hN  (show rI N M7 O7 from hI) (fun r9 M10 O10 hI hk1 => ?_)
    have hk := rK_tr (show rK M0 M7 from hk) hk1
    obtain ⟨_, _, hst⟩ := (show (M10 21).toInt = (M0 21).toInt ∧ (M10 64).toInt = (M0 64).toInt ∧ ((M0 12).toInt = 137 → (M10 12).toInt = 137) from hk)
    obtain ⟨_, _, hst1⟩ := (show (M10 21).toInt = (M7 21).toInt ∧ (M10 64).toInt = (M7 64).toInt ∧ ((M7 12).toInt = 137 → (M10 12).toInt = 137) from hk1)
    obtain ⟨⟨_, _⟩, ⟨_, _⟩, ⟨_, _, _⟩, ⟨_, _⟩, ⟨_, _⟩, ⟨_, _⟩, ⟨_, _⟩⟩ := (show rI N M10 O10 from hI)
    have := ti_rng a1
    have := ti_rng a2
    have := ti_rng r9
    exact spR_X7_noting_75 hN q1 sWF hQ _ _ _ _ _ _ (show rI N M10 O10 from hI) (show rK M0 M10 from hk) (show (0 ≤ a1.toInt ∧ a1.toInt ≤ 20 ∧ 22 ≤ (dF : Int)) from by omega)
  · have := ti_rng r6
    have : (23 : Int32).toInt = 23 := by decide
    have hc89 := congrArg Int32.toInt hc8
    refine spR_X7_kind hN  (show rI N M7 O7 from hI) (fun r14 M15 O15 hI hk1 => ?_)
    have hk := rK_tr (show rK M0 M7 from hk) hk1
    obtain ⟨_, _, hst⟩ := (show (M15 21).toInt = (M0 21).toInt ∧ (M15 64).toInt = (M0 64).toInt ∧ ((M0 12).toInt = 137 → (M15 12).toInt = 137) from hk)
    obtain ⟨_, _, hst1⟩ := (show (M15 21).toInt = (M7 21).toInt ∧ (M15 64).toInt = (M7 64).toInt ∧ ((M7 12).toInt = 137 → (M15 12).toInt = 137) from hk1)
    obtain ⟨⟨_, _⟩, ⟨_, _⟩, ⟨_, _, _⟩, ⟨_, _⟩, ⟨_, _⟩, ⟨_, _⟩, ⟨_, _⟩⟩ := (show rI N M15 O15 from hI)
    have := ti_rng a1
    have := ti_rng a2
    have := ti_rng r14
    exact spR_X7_noting_75 hN q1 sWF hQ _ _ _ _ _ _ (show rI N M15 O15 from hI) (show rK M0 M15 from hk) (show (0 ≤ a1.toInt ∧ a1.toInt ≤ 20 ∧ 22 ≤ (dF : Int)) from by omega)
set_option maxHeartbeats 2000000 in
theorem spR_X7_noting {N : Nat → Nat} (hN : rN N) {WF : Int32 → (Nat → Int32) → (Nat × Nat) → ((Nat → Int32) → Nat × Nat → Prop) → Prop} {dF : Nat} (sWF : ∀ (q1 : Int32) (M : Nat → Int32) (O : Nat × Nat) {Q : (Nat → Int32) → Nat × Nat → Prop}, rI N M O → (((M 12).toInt = 137 ∧ 1 ≤ (dF : Int)) ∨ (0 ≤ q1.toInt ∧ q1.toInt ≤ 20 ∧ 22 - q1.toInt ≤ (dF : Int))) → (∀ (M' : Nat → Int32) (O' : Nat × Nat), rI N M' O' → rK M M' → Q M' O') → WF q1 M O Q) (q1 : Int32) {M0 : Nat → Int32} {O : Nat × Nat} {Q : (Nat → Int32) → Nat × Nat → Prop} (hI : rI N M0 O) (hpre : 0 ≤ q1.toInt ∧ q1.toInt ≤ 20 ∧ 22 ≤ (dF : Int)) (hQ : ∀ (M' : Nat → Int32) (O' : Nat × Nat), rI N M' O' → rK M0 M' → Q M' O') : wR_X7_noting N WF q1 M0 O Q := by
  obtain ⟨_, _, _, _, _, _, _, _, _, _, _, _, _, _, _, _⟩ := (show rN N from hN)
  obtain ⟨⟨_, _⟩, ⟨_, _⟩, ⟨_, _, _⟩, ⟨_, _⟩, ⟨_, _⟩, ⟨_, _⟩, ⟨_, _⟩⟩ := (show rI N M0 O from hI)
  have hk : rK M0 M0 := rK_rf M0
  have hQ1 := hQ
  unfold wR_X7_noting
  refine spR_X7_advance hN  (show rI N M0 O from hI) (fun M1 O1 hI hk1 => ?_)
  have hk := rK_tr (show rK M0 M0 from hk) hk1
  obtain ⟨_, _, hst⟩ := (show (M1 21).toInt = (M0 21).toInt ∧ (M1 64).toInt = (M0 64).toInt ∧ ((M0 12).toInt = 137 → (M1 12).toInt = 137) from hk)
  obtain ⟨_, _, hst1⟩ := (show (M1 21).toInt = (M0 21).toInt ∧ (M1 64).toInt = (M0 64).toInt ∧ ((M0 12).toInt = 137 → (M1 12).toInt = 137) from hk1)
  obtain ⟨⟨_, _⟩, ⟨_, _⟩, ⟨_, _, _⟩, ⟨_, _⟩, ⟨_, _⟩, ⟨_, _⟩, ⟨_, _⟩⟩ := (show rI N M1 O1 from hI)
  refine ⟨fun hc2 => ?_, fun hc2 => ?_⟩
  · have := ti_rng (M1 12)
    have : (131 : Int32).toInt = 131 := by decide
    have hc29 := congrArg Int32.toInt hc2
    refine spR_X7_object hN  (show rI N M1 O1 from hI) (fun r3 M4 O4 hI hk1 => ?_)
    have hk := rK_tr (show rK M0 M1 from hk) hk1
    obtain ⟨_, _, hst⟩ := (show (M4 21).toInt = (M0 21).toInt ∧ (M4 64).toInt = (M0 64).toInt ∧ ((M0 12).toInt = 137 → (M4 12).toInt = 137) from hk)
    obtain ⟨_, _, hst1⟩ := (show (M4 21).toInt = (M1 21).toInt ∧ (M4 64).toInt = (M1 64).toInt ∧ ((M1 12).toInt = 137 → (M4 12).toInt = 137) from hk1)
    obtain ⟨⟨_, _⟩, ⟨_, _⟩, ⟨_, _, _⟩, ⟨_, _⟩, ⟨_, _⟩, ⟨_, _⟩, ⟨_, _⟩⟩ := (show rI N M4 O4 from hI)
    refine ⟨fun hc5 => ?_, fun hc5 => ?_⟩
    · have := ti_rng (M4 12)
      have : (224 : Int32).toInt = 224 := by decide
      have hc59 := congrArg Int32.toInt hc5
      have := ti_rng q1
      have := ti_rng r3
      exact spR_X7_noting_50 hN q1 sWF hQ _ _ _ _ (show rI N M4 O4 from hI) (show rK M0 M4 from hk) (show (0 ≤ q1.toInt ∧ q1.toInt ≤ 20 ∧ 22 ≤ (dF : Int)) from by omega)
    · have := ti_rng (M4 12)
      have : (224 : Int32).toInt = 224 := by decide
      have hc59 := ti_ne hc5
      refine ⟨fun hc16 => ?_, fun hc16 => ?_⟩
      · have : (225 : Int32).toInt = 225 := by decide
        have hc169 := ti_ne hc16
        have : (30 : Int32).toInt = 30 := by decide
        have := ti_rng r3
        refine spR_X7_emit_ hN _ _ (show rI N M4 O4 from hI) (fun M17 O17 hI hk1 => ?_)
        have hk := rK_tr (show rK M0 M4 from hk) hk1
        obtain ⟨_, _, hst⟩ := (show (M17 21).toInt = (M0 21).toInt ∧ (M17 64).toInt = (M0 64).toInt ∧ ((M0 12).toInt = 137 → (M17 12).toInt = 137) from hk)
        obtain ⟨_, _, hst1⟩ := (show (M17 21).toInt = (M4 21).toInt ∧ (M17 64).toInt = (M4 64).toInt ∧ ((M4 12).toInt = 137 → (M17 12).toInt = 137) from hk1)
        obtain ⟨⟨_, _⟩, ⟨_, _⟩, ⟨_, _, _⟩, ⟨_, _⟩, ⟨_, _⟩, ⟨_, _⟩, ⟨_, _⟩⟩ := (show rI N M17 O17 from hI)
        exact hQ _ _ (show rI N M17 O17 from hI) (show rK M0 M17 from hk)
      · have : (225 : Int32).toInt = 225 := by decide
        have hc169 := congrArg Int32.toInt hc16
        have := ti_rng q1
        have := ti_rng r3
        exact spR_X7_noting_50 hN q1 sWF hQ _ _ _ _ (show rI N M4 O4 from hI) (show rK M0 M4 from hk) (show (0 ≤ q1.toInt ∧ q1.toInt ≤ 20 ∧ 22 ≤ (dF : Int)) from by omega)
  · have := ti_rng (M1 12)
    have : (131 : Int32).toInt = 131 := by decide
    have hc29 := ti_ne hc2
    have := ti_rng q1
    refine spR_X7_expression hN sWF _ (show rI N M1 O1 from hI) (show ((M1 12).toInt = 137 ∧ 1 ≤ (dF : Int)) ∨ (0 ≤ q1.toInt ∧ q1.toInt ≤ 20 ∧ 22 - q1.toInt ≤ (dF : Int)) from by omega) (fun M18 O18 hI hk1 => ?_)
    have hk := rK_tr (show rK M0 M1 from hk) hk1
    obtain ⟨_, _, hst⟩ := (show (M18 21).toInt = (M0 21).toInt ∧ (M18 64).toInt = (M0 64).toInt ∧ ((M0 12).toInt = 137 → (M18 12).toInt = 137) from hk)
    obtain ⟨_, _, hst1⟩ := (show (M18 21).toInt = (M1 21).toInt ∧ (M18 64).toInt = (M1 64).toInt ∧ ((M1 12).toInt = 137 → (M18 12).toInt = 137) from hk1)
    obtain ⟨⟨_, _⟩, ⟨_, _⟩, ⟨_, _, _⟩, ⟨_, _⟩, ⟨_, _⟩, ⟨_, _⟩, ⟨_, _⟩⟩ := (show rI N M18 O18 from hI)
    have : (1 : Int32).toInt = 1 := by decide
    refine spR_X7_emit hN _ (show rI N M18 O18 from hI) (fun M19 O19 hI hk1 => ?_)
    have hk := rK_tr (show rK M0 M18 from hk) hk1
    obtain ⟨_, _, hst⟩ := (show (M19 21).toInt = (M0 21).toInt ∧ (M19 64).toInt = (M0 64).toInt ∧ ((M0 12).toInt = 137 → (M19 12).toInt = 137) from hk)
    obtain ⟨_, _, hst1⟩ := (show (M19 21).toInt = (M18 21).toInt ∧ (M19 64).toInt = (M18 64).toInt ∧ ((M18 12).toInt = 137 → (M19 12).toInt = 137) from hk1)
    obtain ⟨⟨_, _⟩, ⟨_, _⟩, ⟨_, _, _⟩, ⟨_, _⟩, ⟨_, _⟩, ⟨_, _⟩, ⟨_, _⟩⟩ := (show rI N M19 O19 from hI)
    exact hQ _ _ (show rI N M19 O19 from hI) (show rK M0 M19 from hk)

