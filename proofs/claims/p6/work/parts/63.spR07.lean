set_option maxHeartbeats 2000000 in
theorem spR_X7_expression {N : Nat → Nat} (hN : rN N) {WF : Int32 → (Nat → Int32) → (Nat × Nat) → ((Nat → Int32) → Nat × Nat → Prop) → Prop} {dF : Nat} (sWF : ∀ (q1 : Int32) (M : Nat → Int32) (O : Nat × Nat) {Q : (Nat → Int32) → Nat × Nat → Prop}, rI N M O → (((M 12).toInt = 137 ∧ 1 ≤ (dF : Int)) ∨ (0 ≤ q1.toInt ∧ q1.toInt ≤ 20 ∧ 22 - q1.toInt ≤ (dF : Int))) → (∀ (M' : Nat → Int32) (O' : Nat × Nat), rI N M' O' → rK M M' → Q M' O') → WF q1 M O Q) (q1 : Int32) {M0 : Nat → Int32} {O : Nat × Nat} {Q : (Nat → Int32) → Nat × Nat → Prop} (hI : rI N M0 O) (hpre : ((M0 12).toInt = 137 ∧ 1 ≤ (dF : Int)) ∨ (0 ≤ q1.toInt ∧ q1.toInt ≤ 20 ∧ 22 - q1.toInt ≤ (dF : Int))) (hQ : ∀ (M' : Nat → Int32) (O' : Nat × Nat), rI N M' O' → rK M0 M' → Q M' O') : wR_X7_expression N WF q1 M0 O Q := by
  obtain ⟨_, _, _, _, _, _, _, _, _, _, _, _, _, _, _, _⟩ := (show rN N from hN)
  obtain ⟨⟨_, _⟩, ⟨_, _⟩, ⟨_, _, _⟩, ⟨_, _⟩, ⟨_, _⟩, ⟨_, _⟩, ⟨_, _⟩⟩ := (show rI N M0 O from hI)
  have hk : rK M0 M0 := rK_rf M0
  have hQ1 := hQ
  unfold wR_X7_expression
  have := ti_rng q1
  have := ti_rng (M0 12)
  refine sWF _ _ _ (show rI N M0 O from hI) (show ((M0 12).toInt = 137 ∧ 1 ≤ (dF : Int)) ∨ (0 ≤ q1.toInt ∧ q1.toInt ≤ 20 ∧ 22 - q1.toInt ≤ (dF : Int)) from by omega) (fun M1 O1 hI hk1 => ?_)
  have hk := rK_tr (show rK M0 M0 from hk) hk1
  obtain ⟨_, _, hst⟩ := (show (M1 21).toInt = (M0 21).toInt ∧ (M1 64).toInt = (M0 64).toInt ∧ ((M0 12).toInt = 137 → (M1 12).toInt = 137) from hk)
  obtain ⟨_, _, hst1⟩ := (show (M1 21).toInt = (M0 21).toInt ∧ (M1 64).toInt = (M0 64).toInt ∧ ((M0 12).toInt = 137 → (M1 12).toInt = 137) from hk1)
  obtain ⟨⟨_, _⟩, ⟨_, _⟩, ⟨_, _, _⟩, ⟨_, _⟩, ⟨_, _⟩, ⟨_, _⟩, ⟨_, _⟩⟩ := (show rI N M1 O1 from hI)
  have := ti_rng (M1 12)
  refine spR_X7_restOfExpression hN sWF _ (show rI N M1 O1 from hI) (show ((M1 12).toInt = 137 ∧ 1 ≤ (dF : Int)) ∨ (0 ≤ q1.toInt ∧ q1.toInt ≤ 20 ∧ 22 - q1.toInt ≤ (dF : Int)) from by omega) (fun M2 O2 hI hk1 => ?_)
  have hk := rK_tr (show rK M0 M1 from hk) hk1
  obtain ⟨_, _, hst⟩ := (show (M2 21).toInt = (M0 21).toInt ∧ (M2 64).toInt = (M0 64).toInt ∧ ((M0 12).toInt = 137 → (M2 12).toInt = 137) from hk)
  obtain ⟨_, _, hst1⟩ := (show (M2 21).toInt = (M1 21).toInt ∧ (M2 64).toInt = (M1 64).toInt ∧ ((M1 12).toInt = 137 → (M2 12).toInt = 137) from hk1)
  obtain ⟨⟨_, _⟩, ⟨_, _⟩, ⟨_, _, _⟩, ⟨_, _⟩, ⟨_, _⟩, ⟨_, _⟩, ⟨_, _⟩⟩ := (show rI N M2 O2 from hI)
  exact hQ _ _ (show rI N M2 O2 from hI) (show rK M0 M2 from hk)
set_option maxHeartbeats 2000000 in
theorem spR_X7_choice {N : Nat → Nat} (hN : rN N) {WF : Int32 → (Nat → Int32) → (Nat × Nat) → ((Nat → Int32) → Nat × Nat → Prop) → Prop} {WB : Int32 → (Nat → Int32) → (Nat × Nat) → ((Nat → Int32) → Nat × Nat → Prop) → Prop} {dF : Nat} (sWF : ∀ (q1 : Int32) (M : Nat → Int32) (O : Nat × Nat) {Q : (Nat → Int32) → Nat × Nat → Prop}, rI N M O → (((M 12).toInt = 137 ∧ 1 ≤ (dF : Int)) ∨ (0 ≤ q1.toInt ∧ q1.toInt ≤ 20 ∧ 22 - q1.toInt ≤ (dF : Int))) → (∀ (M' : Nat → Int32) (O' : Nat × Nat), rI N M' O' → rK M M' → Q M' O') → WF q1 M O Q) {dB : Nat} (sWB : ∀ (q1 : Int32) (M : Nat → Int32) (O : Nat × Nat) {Q : (Nat → Int32) → Nat × Nat → Prop}, rI N M O → (0 ≤ q1.toInt ∧ q1.toInt ≤ 20 ∧ 21 - q1.toInt ≤ (dB : Int) ∧ 22 ≤ (dF : Int)) → (∀ (M' : Nat → Int32) (O' : Nat × Nat), rI N M' O' → rK M M' → Q M' O') → WB q1 M O Q) (q1 : Int32) {M0 : Nat → Int32} {O : Nat × Nat} {Q : (Nat → Int32) → Nat × Nat → Prop} (hI : rI N M0 O) (hpre : 0 ≤ q1.toInt ∧ q1.toInt ≤ 20 ∧ 21 - q1.toInt ≤ (dB : Int) ∧ 22 ≤ (dF : Int)) (hQ : ∀ (M' : Nat → Int32) (O' : Nat × Nat), rI N M' O' → rK M0 M' → Q M' O') : wR_X7_choice N WF WB q1 M0 O Q := by
  obtain ⟨_, _, _, _, _, _, _, _, _, _, _, _, _, _, _, _⟩ := (show rN N from hN)
  obtain ⟨⟨_, _⟩, ⟨_, _⟩, ⟨_, _, _⟩, ⟨_, _⟩, ⟨_, _⟩, ⟨_, _⟩, ⟨_, _⟩⟩ := (show rI N M0 O from hI)
  have hk : rK M0 M0 := rK_rf M0
  have hQ1 := hQ
  unfold wR_X7_choice
  have : (0 : Int32).toInt = 0 := by decide
  refine spR_X7_emit hN _ (show rI N M0 O from hI) (fun M1 O1 hI hk1 => ?_)
  have hk := rK_tr (show rK M0 M0 from hk) hk1
  obtain ⟨_, _, hst⟩ := (show (M1 21).toInt = (M0 21).toInt ∧ (M1 64).toInt = (M0 64).toInt ∧ ((M0 12).toInt = 137 → (M1 12).toInt = 137) from hk)
  obtain ⟨_, _, hst1⟩ := (show (M1 21).toInt = (M0 21).toInt ∧ (M1 64).toInt = (M0 64).toInt ∧ ((M0 12).toInt = 137 → (M1 12).toInt = 137) from hk1)
  obtain ⟨⟨_, _⟩, ⟨_, _⟩, ⟨_, _, _⟩, ⟨_, _⟩, ⟨_, _⟩, ⟨_, _⟩, ⟨_, _⟩⟩ := (show rI N M1 O1 from hI)
  refine spR_X7_advance hN  (show rI N M1 O1 from hI) (fun M2 O2 hI hk1 => ?_)
  have hk := rK_tr (show rK M0 M1 from hk) hk1
  obtain ⟨_, _, hst⟩ := (show (M2 21).toInt = (M0 21).toInt ∧ (M2 64).toInt = (M0 64).toInt ∧ ((M0 12).toInt = 137 → (M2 12).toInt = 137) from hk)
  obtain ⟨_, _, hst1⟩ := (show (M2 21).toInt = (M1 21).toInt ∧ (M2 64).toInt = (M1 64).toInt ∧ ((M1 12).toInt = 137 → (M2 12).toInt = 137) from hk1)
  obtain ⟨⟨_, _⟩, ⟨_, _⟩, ⟨_, _, _⟩, ⟨_, _⟩, ⟨_, _⟩, ⟨_, _⟩, ⟨_, _⟩⟩ := (show rI N M2 O2 from hI)
  have := ti_rng q1
  have := ti_rng (M2 12)
  refine spR_X7_expression hN sWF _ (show rI N M2 O2 from hI) (show ((M2 12).toInt = 137 ∧ 1 ≤ (dF : Int)) ∨ (0 ≤ q1.toInt ∧ q1.toInt ≤ 20 ∧ 22 - q1.toInt ≤ (dF : Int)) from by omega) (fun M3 O3 hI hk1 => ?_)
  have hk := rK_tr (show rK M0 M2 from hk) hk1
  obtain ⟨_, _, hst⟩ := (show (M3 21).toInt = (M0 21).toInt ∧ (M3 64).toInt = (M0 64).toInt ∧ ((M0 12).toInt = 137 → (M3 12).toInt = 137) from hk)
  obtain ⟨_, _, hst1⟩ := (show (M3 21).toInt = (M2 21).toInt ∧ (M3 64).toInt = (M2 64).toInt ∧ ((M2 12).toInt = 137 → (M3 12).toInt = 137) from hk1)
  obtain ⟨⟨_, _⟩, ⟨_, _⟩, ⟨_, _, _⟩, ⟨_, _⟩, ⟨_, _⟩, ⟨_, _⟩, ⟨_, _⟩⟩ := (show rI N M3 O3 from hI)
  have : (13 : Int32).toInt = 13 := by decide
  refine spR_X7_emit hN _ (show rI N M3 O3 from hI) (fun M4 O4 hI hk1 => ?_)
  have hk := rK_tr (show rK M0 M3 from hk) hk1
  obtain ⟨_, _, hst⟩ := (show (M4 21).toInt = (M0 21).toInt ∧ (M4 64).toInt = (M0 64).toInt ∧ ((M0 12).toInt = 137 → (M4 12).toInt = 137) from hk)
  obtain ⟨_, _, hst1⟩ := (show (M4 21).toInt = (M3 21).toInt ∧ (M4 64).toInt = (M3 64).toInt ∧ ((M3 12).toInt = 137 → (M4 12).toInt = 137) from hk1)
  obtain ⟨⟨_, _⟩, ⟨_, _⟩, ⟨_, _, _⟩, ⟨_, _⟩, ⟨_, _⟩, ⟨_, _⟩, ⟨_, _⟩⟩ := (show rI N M4 O4 from hI)
  have : ((-1) : Int32).toInt = -1 := by decide
  refine spR_X6_put hN _ (show rI N M4 O4 from hI) (fun r5 M6 O6 hI hk1 => ?_)
  have hk := rK_tr (show rK M0 M4 from hk) hk1
  obtain ⟨_, _, hst⟩ := (show (M6 21).toInt = (M0 21).toInt ∧ (M6 64).toInt = (M0 64).toInt ∧ ((M0 12).toInt = 137 → (M6 12).toInt = 137) from hk)
  obtain ⟨_, _, hst1⟩ := (show (M6 21).toInt = (M4 21).toInt ∧ (M6 64).toInt = (M4 64).toInt ∧ ((M4 12).toInt = 137 → (M6 12).toInt = 137) from hk1)
  obtain ⟨⟨_, _⟩, ⟨_, _⟩, ⟨_, _, _⟩, ⟨_, _⟩, ⟨_, _⟩, ⟨_, _⟩, ⟨_, _⟩⟩ := (show rI N M6 O6 from hI)
  refine sWB _ _ _ (show rI N M6 O6 from hI) (show 0 ≤ q1.toInt ∧ q1.toInt ≤ 20 ∧ 21 - q1.toInt ≤ (dB : Int) ∧ 22 ≤ (dF : Int) from by omega) (fun M7 O7 hI hk1 => ?_)
  have hk := rK_tr (show rK M0 M6 from hk) hk1
  obtain ⟨_, _, hst⟩ := (show (M7 21).toInt = (M0 21).toInt ∧ (M7 64).toInt = (M0 64).toInt ∧ ((M0 12).toInt = 137 → (M7 12).toInt = 137) from hk)
  obtain ⟨_, _, hst1⟩ := (show (M7 21).toInt = (M6 21).toInt ∧ (M7 64).toInt = (M6 64).toInt ∧ ((M6 12).toInt = 137 → (M7 12).toInt = 137) from hk1)
  obtain ⟨⟨_, _⟩, ⟨_, _⟩, ⟨_, _, _⟩, ⟨_, _⟩, ⟨_, _⟩, ⟨_, _⟩, ⟨_, _⟩⟩ := (show rI N M7 O7 from hI)
  refine ⟨fun hc8 => ?_, fun hc8 => ?_⟩
  · have := ti_rng (M7 12)
    have : (214 : Int32).toInt = 214 := by decide
    have hc89 := congrArg Int32.toInt hc8
    refine spR_X7_advance hN  (show rI N M7 O7 from hI) (fun M9 O9 hI hk1 => ?_)
    have hk := rK_tr (show rK M0 M7 from hk) hk1
    obtain ⟨_, _, hst⟩ := (show (M9 21).toInt = (M0 21).toInt ∧ (M9 64).toInt = (M0 64).toInt ∧ ((M0 12).toInt = 137 → (M9 12).toInt = 137) from hk)
    obtain ⟨_, _, hst1⟩ := (show (M9 21).toInt = (M7 21).toInt ∧ (M9 64).toInt = (M7 64).toInt ∧ ((M7 12).toInt = 137 → (M9 12).toInt = 137) from hk1)
    obtain ⟨⟨_, _⟩, ⟨_, _⟩, ⟨_, _, _⟩, ⟨_, _⟩, ⟨_, _⟩, ⟨_, _⟩, ⟨_, _⟩⟩ := (show rI N M9 O9 from hI)
    have : (12 : Int32).toInt = 12 := by decide
    refine spR_X7_emit hN _ (show rI N M9 O9 from hI) (fun M10 O10 hI hk1 => ?_)
    have hk := rK_tr (show rK M0 M9 from hk) hk1
    obtain ⟨_, _, hst⟩ := (show (M10 21).toInt = (M0 21).toInt ∧ (M10 64).toInt = (M0 64).toInt ∧ ((M0 12).toInt = 137 → (M10 12).toInt = 137) from hk)
    obtain ⟨_, _, hst1⟩ := (show (M10 21).toInt = (M9 21).toInt ∧ (M10 64).toInt = (M9 64).toInt ∧ ((M9 12).toInt = 137 → (M10 12).toInt = 137) from hk1)
    obtain ⟨⟨_, _⟩, ⟨_, _⟩, ⟨_, _, _⟩, ⟨_, _⟩, ⟨_, _⟩, ⟨_, _⟩, ⟨_, _⟩⟩ := (show rI N M10 O10 from hI)
    refine spR_X6_put hN _ (show rI N M10 O10 from hI) (fun r11 M12 O12 hI hk1 => ?_)
    have hk := rK_tr (show rK M0 M10 from hk) hk1
    obtain ⟨_, _, hst⟩ := (show (M12 21).toInt = (M0 21).toInt ∧ (M12 64).toInt = (M0 64).toInt ∧ ((M0 12).toInt = 137 → (M12 12).toInt = 137) from hk)
    obtain ⟨_, _, hst1⟩ := (show (M12 21).toInt = (M10 21).toInt ∧ (M12 64).toInt = (M10 64).toInt ∧ ((M10 12).toInt = 137 → (M12 12).toInt = 137) from hk1)
    obtain ⟨⟨_, _⟩, ⟨_, _⟩, ⟨_, _, _⟩, ⟨_, _⟩, ⟨_, _⟩, ⟨_, _⟩, ⟨_, _⟩⟩ := (show rI N M12 O12 from hI)
    have := ti_rng r5
    have := ti_rng (M12 63)
    refine spR_X6_change hN _ _ (show rI N M12 O12 from hI) (?_)
    refine sWB _ _ _ (show rI N M12 O12 from hI) (show 0 ≤ q1.toInt ∧ q1.toInt ≤ 20 ∧ 21 - q1.toInt ≤ (dB : Int) ∧ 22 ≤ (dF : Int) from by omega) (fun M14 O14 hI hk1 => ?_)
    have hk := rK_tr (show rK M0 M12 from hk) hk1
    obtain ⟨_, _, hst⟩ := (show (M14 21).toInt = (M0 21).toInt ∧ (M14 64).toInt = (M0 64).toInt ∧ ((M0 12).toInt = 137 → (M14 12).toInt = 137) from hk)
    obtain ⟨_, _, hst1⟩ := (show (M14 21).toInt = (M12 21).toInt ∧ (M14 64).toInt = (M12 64).toInt ∧ ((M12 12).toInt = 137 → (M14 12).toInt = 137) from hk1)
    obtain ⟨⟨_, _⟩, ⟨_, _⟩, ⟨_, _, _⟩, ⟨_, _⟩, ⟨_, _⟩, ⟨_, _⟩, ⟨_, _⟩⟩ := (show rI N M14 O14 from hI)
    have := ti_rng r11
    have := ti_rng (M14 63)
    refine spR_X6_change hN _ _ (show rI N M14 O14 from hI) (?_)
    exact hQ _ _ (show rI N M14 O14 from hI) (show rK M0 M14 from hk)
  · have := ti_rng (M7 12)
    have : (214 : Int32).toInt = 214 := by decide
    have hc89 := ti_ne hc8
    have := ti_rng r5
    have := ti_rng (M7 63)
    refine spR_X6_change hN _ _ (show rI N M7 O7 from hI) (?_)
    exact hQ _ _ (show rI N M7 O7 from hI) (show rK M0 M7 from hk)
set_option maxHeartbeats 2000000 in
theorem spR_X7_loop {N : Nat → Nat} (hN : rN N) {WF : Int32 → (Nat → Int32) → (Nat × Nat) → ((Nat → Int32) → Nat × Nat → Prop) → Prop} {WB : Int32 → (Nat → Int32) → (Nat × Nat) → ((Nat → Int32) → Nat × Nat → Prop) → Prop} {dF : Nat} (sWF : ∀ (q1 : Int32) (M : Nat → Int32) (O : Nat × Nat) {Q : (Nat → Int32) → Nat × Nat → Prop}, rI N M O → (((M 12).toInt = 137 ∧ 1 ≤ (dF : Int)) ∨ (0 ≤ q1.toInt ∧ q1.toInt ≤ 20 ∧ 22 - q1.toInt ≤ (dF : Int))) → (∀ (M' : Nat → Int32) (O' : Nat × Nat), rI N M' O' → rK M M' → Q M' O') → WF q1 M O Q) {dB : Nat} (sWB : ∀ (q1 : Int32) (M : Nat → Int32) (O : Nat × Nat) {Q : (Nat → Int32) → Nat × Nat → Prop}, rI N M O → (0 ≤ q1.toInt ∧ q1.toInt ≤ 20 ∧ 21 - q1.toInt ≤ (dB : Int) ∧ 22 ≤ (dF : Int)) → (∀ (M' : Nat → Int32) (O' : Nat × Nat), rI N M' O' → rK M M' → Q M' O') → WB q1 M O Q) (q1 : Int32) {M0 : Nat → Int32} {O : Nat × Nat} {Q : (Nat → Int32) → Nat × Nat → Prop} (hI : rI N M0 O) (hpre : 0 ≤ q1.toInt ∧ q1.toInt ≤ 20 ∧ 21 - q1.toInt ≤ (dB : Int) ∧ 22 ≤ (dF : Int)) (hQ : ∀ (M' : Nat → Int32) (O' : Nat × Nat), rI N M' O' → rK M0 M' → Q M' O') : wR_X7_loop N WF WB q1 M0 O Q := by
  obtain ⟨_, _, _, _, _, _, _, _, _, _, _, _, _, _, _, _⟩ := (show rN N from hN)
  obtain ⟨⟨_, _⟩, ⟨_, _⟩, ⟨_, _, _⟩, ⟨_, _⟩, ⟨_, _⟩, ⟨_, _⟩, ⟨_, _⟩⟩ := (show rI N M0 O from hI)
  have hk : rK M0 M0 := rK_rf M0
  have hQ1 := hQ
  unfold wR_X7_loop
  have : (0 : Int32).toInt = 0 := by decide
  refine spR_X7_emit hN _ (show rI N M0 O from hI) (fun M1 O1 hI hk1 => ?_)
  have hk := rK_tr (show rK M0 M0 from hk) hk1
  obtain ⟨_, _, hst⟩ := (show (M1 21).toInt = (M0 21).toInt ∧ (M1 64).toInt = (M0 64).toInt ∧ ((M0 12).toInt = 137 → (M1 12).toInt = 137) from hk)
  obtain ⟨_, _, hst1⟩ := (show (M1 21).toInt = (M0 21).toInt ∧ (M1 64).toInt = (M0 64).toInt ∧ ((M0 12).toInt = 137 → (M1 12).toInt = 137) from hk1)
  obtain ⟨⟨_, _⟩, ⟨_, _⟩, ⟨_, _, _⟩, ⟨_, _⟩, ⟨_, _⟩, ⟨_, _⟩, ⟨_, _⟩⟩ := (show rI N M1 O1 from hI)
  refine spR_X7_advance hN  (show rI N M1 O1 from hI) (fun M2 O2 hI hk1 => ?_)
  have hk := rK_tr (show rK M0 M1 from hk) hk1
  obtain ⟨_, _, hst⟩ := (show (M2 21).toInt = (M0 21).toInt ∧ (M2 64).toInt = (M0 64).toInt ∧ ((M0 12).toInt = 137 → (M2 12).toInt = 137) from hk)
  obtain ⟨_, _, hst1⟩ := (show (M2 21).toInt = (M1 21).toInt ∧ (M2 64).toInt = (M1 64).toInt ∧ ((M1 12).toInt = 137 → (M2 12).toInt = 137) from hk1)
  obtain ⟨⟨_, _⟩, ⟨_, _⟩, ⟨_, _, _⟩, ⟨_, _⟩, ⟨_, _⟩, ⟨_, _⟩, ⟨_, _⟩⟩ := (show rI N M2 O2 from hI)
  have := ti_rng q1
  have := ti_rng (M2 12)
  refine spR_X7_expression hN sWF _ (show rI N M2 O2 from hI) (show ((M2 12).toInt = 137 ∧ 1 ≤ (dF : Int)) ∨ (0 ≤ q1.toInt ∧ q1.toInt ≤ 20 ∧ 22 - q1.toInt ≤ (dF : Int)) from by omega) (fun M3 O3 hI hk1 => ?_)
  have hk := rK_tr (show rK M0 M2 from hk) hk1
  obtain ⟨_, _, hst⟩ := (show (M3 21).toInt = (M0 21).toInt ∧ (M3 64).toInt = (M0 64).toInt ∧ ((M0 12).toInt = 137 → (M3 12).toInt = 137) from hk)
  obtain ⟨_, _, hst1⟩ := (show (M3 21).toInt = (M2 21).toInt ∧ (M3 64).toInt = (M2 64).toInt ∧ ((M2 12).toInt = 137 → (M3 12).toInt = 137) from hk1)
  obtain ⟨⟨_, _⟩, ⟨_, _⟩, ⟨_, _, _⟩, ⟨_, _⟩, ⟨_, _⟩, ⟨_, _⟩, ⟨_, _⟩⟩ := (show rI N M3 O3 from hI)
  have : (13 : Int32).toInt = 13 := by decide
  refine spR_X7_emit hN _ (show rI N M3 O3 from hI) (fun M4 O4 hI hk1 => ?_)
  have hk := rK_tr (show rK M0 M3 from hk) hk1
  obtain ⟨_, _, hst⟩ := (show (M4 21).toInt = (M0 21).toInt ∧ (M4 64).toInt = (M0 64).toInt ∧ ((M0 12).toInt = 137 → (M4 12).toInt = 137) from hk)
  obtain ⟨_, _, hst1⟩ := (show (M4 21).toInt = (M3 21).toInt ∧ (M4 64).toInt = (M3 64).toInt ∧ ((M3 12).toInt = 137 → (M4 12).toInt = 137) from hk1)
  obtain ⟨⟨_, _⟩, ⟨_, _⟩, ⟨_, _, _⟩, ⟨_, _⟩, ⟨_, _⟩, ⟨_, _⟩, ⟨_, _⟩⟩ := (show rI N M4 O4 from hI)
  have : ((-1) : Int32).toInt = -1 := by decide
  refine spR_X6_put hN _ (show rI N M4 O4 from hI) (fun r5 M6 O6 hI hk1 => ?_)
  have hk := rK_tr (show rK M0 M4 from hk) hk1
  obtain ⟨_, _, hst⟩ := (show (M6 21).toInt = (M0 21).toInt ∧ (M6 64).toInt = (M0 64).toInt ∧ ((M0 12).toInt = 137 → (M6 12).toInt = 137) from hk)
  obtain ⟨_, _, hst1⟩ := (show (M6 21).toInt = (M4 21).toInt ∧ (M6 64).toInt = (M4 64).toInt ∧ ((M4 12).toInt = 137 → (M6 12).toInt = 137) from hk1)
  obtain ⟨⟨_, _⟩, ⟨_, _⟩, ⟨_, _, _⟩, ⟨_, _⟩, ⟨_, _⟩, ⟨_, _⟩, ⟨_, _⟩⟩ := (show rI N M6 O6 from hI)
  refine sWB _ _ _ (show rI N M6 O6 from hI) (show 0 ≤ q1.toInt ∧ q1.toInt ≤ 20 ∧ 21 - q1.toInt ≤ (dB : Int) ∧ 22 ≤ (dF : Int) from by omega) (fun M7 O7 hI hk1 => ?_)
  have hk := rK_tr (show rK M0 M6 from hk) hk1
  obtain ⟨_, _, hst⟩ := (show (M7 21).toInt = (M0 21).toInt ∧ (M7 64).toInt = (M0 64).toInt ∧ ((M0 12).toInt = 137 → (M7 12).toInt = 137) from hk)
  obtain ⟨_, _, hst1⟩ := (show (M7 21).toInt = (M6 21).toInt ∧ (M7 64).toInt = (M6 64).toInt ∧ ((M6 12).toInt = 137 → (M7 12).toInt = 137) from hk1)
  obtain ⟨⟨_, _⟩, ⟨_, _⟩, ⟨_, _, _⟩, ⟨_, _⟩, ⟨_, _⟩, ⟨_, _⟩, ⟨_, _⟩⟩ := (show rI N M7 O7 from hI)
  have : (12 : Int32).toInt = 12 := by decide
  have := ti_rng (M0 63)
  refine spR_X7_emit_ hN _ _ (show rI N M7 O7 from hI) (fun M8 O8 hI hk1 => ?_)
  have hk := rK_tr (show rK M0 M7 from hk) hk1
  obtain ⟨_, _, hst⟩ := (show (M8 21).toInt = (M0 21).toInt ∧ (M8 64).toInt = (M0 64).toInt ∧ ((M0 12).toInt = 137 → (M8 12).toInt = 137) from hk)
  obtain ⟨_, _, hst1⟩ := (show (M8 21).toInt = (M7 21).toInt ∧ (M8 64).toInt = (M7 64).toInt ∧ ((M7 12).toInt = 137 → (M8 12).toInt = 137) from hk1)
  obtain ⟨⟨_, _⟩, ⟨_, _⟩, ⟨_, _, _⟩, ⟨_, _⟩, ⟨_, _⟩, ⟨_, _⟩, ⟨_, _⟩⟩ := (show rI N M8 O8 from hI)
  have := ti_rng r5
  have := ti_rng (M8 63)
  refine spR_X6_change hN _ _ (show rI N M8 O8 from hI) (?_)
  exact hQ _ _ (show rI N M8 O8 from hI) (show rK M0 M8 from hk)
set_option maxHeartbeats 2000000 in
theorem spR_X7_attempt_203 {N : Nat → Nat} (hN : rN N) (q1 : Int32) {WB : Int32 → (Nat → Int32) → (Nat × Nat) → ((Nat → Int32) → Nat × Nat → Prop) → Prop} {Q : (Nat → Int32) → Nat × Nat → Prop} {M0 : Nat → Int32} {dF : Nat} {dB : Nat} (sWB : ∀ (q1 : Int32) (M : Nat → Int32) (O : Nat × Nat) {Q : (Nat → Int32) → Nat × Nat → Prop}, rI N M O → (0 ≤ q1.toInt ∧ q1.toInt ≤ 20 ∧ 21 - q1.toInt ≤ (dB : Int) ∧ 22 ≤ (dF : Int)) → (∀ (M' : Nat → Int32) (O' : Nat × Nat), rI N M' O' → rK M M' → Q M' O') → WB q1 M O Q) (hQ : ∀ (M' : Nat → Int32) (O' : Nat × Nat), rI N M' O' → rK M0 M' → Q M' O') (M : Nat → Int32) (O : Nat × Nat) (hI : rI N M O) (hk : rK M0 M) : wR_X7_attempt_203 N WB Q M O := by
  obtain ⟨_, _, _, _, _, _, _, _, _, _, _, _, _, _, _, _⟩ := (show rN N from hN)
  obtain ⟨⟨_, _⟩, ⟨_, _⟩, ⟨_, _, _⟩, ⟨_, _⟩, ⟨_, _⟩, ⟨_, _⟩, ⟨_, _⟩⟩ := (show rI N M O from hI)
  unfold wR_X7_attempt_203
  obtain ⟨_, _, hst⟩ := (show (M 21).toInt = (M0 21).toInt ∧ (M 64).toInt = (M0 64).toInt ∧ ((M0 12).toInt = 137 → (M 12).toInt = 137) from hk)
  have : (6 : Int32).toInt = 6 := by decide
  refine spR_X7_emit hN _ (show rI N M O from hI) (fun M14 O14 hI hk1 => ?_)
  have hk := rK_tr (show rK M0 M from hk) hk1
  obtain ⟨_, _, hst⟩ := (show (M14 21).toInt = (M0 21).toInt ∧ (M14 64).toInt = (M0 64).toInt ∧ ((M0 12).toInt = 137 → (M14 12).toInt = 137) from hk)
  obtain ⟨_, _, hst1⟩ := (show (M14 21).toInt = (M 21).toInt ∧ (M14 64).toInt = (M 64).toInt ∧ ((M 12).toInt = 137 → (M14 12).toInt = 137) from hk1)
  obtain ⟨⟨_, _⟩, ⟨_, _⟩, ⟨_, _, _⟩, ⟨_, _⟩, ⟨_, _⟩, ⟨_, _⟩, ⟨_, _⟩⟩ := (show rI N M14 O14 from hI)
  exact hQ _ _ (show rI N M14 O14 from hI) (show rK M0 M14 from hk)
set_option maxHeartbeats 2000000 in
theorem spR_X7_attempt_169 {N : Nat → Nat} (hN : rN N) (q1 : Int32) {WB : Int32 → (Nat → Int32) → (Nat × Nat) → ((Nat → Int32) → Nat × Nat → Prop) → Prop} {Q : (Nat → Int32) → Nat × Nat → Prop} {M0 : Nat → Int32} {dF : Nat} {dB : Nat} (sWB : ∀ (q1 : Int32) (M : Nat → Int32) (O : Nat × Nat) {Q : (Nat → Int32) → Nat × Nat → Prop}, rI N M O → (0 ≤ q1.toInt ∧ q1.toInt ≤ 20 ∧ 21 - q1.toInt ≤ (dB : Int) ∧ 22 ≤ (dF : Int)) → (∀ (M' : Nat → Int32) (O' : Nat × Nat), rI N M' O' → rK M M' → Q M' O') → WB q1 M O Q) (hQ : ∀ (M' : Nat → Int32) (O' : Nat × Nat), rI N M' O' → rK M0 M' → Q M' O') (a1 : Int32) (a3 : Int32) (M : Nat → Int32) (O : Nat × Nat) (hI : rI N M O) (hk : rK M0 M) (hbi : (0 ≤ a1.toInt ∧ a1.toInt ≤ 20 ∧ 21 - a1.toInt ≤ (dB : Int) ∧ 22 ≤ (dF : Int))) : wR_X7_attempt_169 N WB Q a1 a3 M O := by
  obtain ⟨_, _, _, _, _, _, _, _, _, _, _, _, _, _, _, _⟩ := (show rN N from hN)
  obtain ⟨⟨_, _⟩, ⟨_, _⟩, ⟨_, _, _⟩, ⟨_, _⟩, ⟨_, _⟩, ⟨_, _⟩, ⟨_, _⟩⟩ := (show rI N M O from hI)
  unfold wR_X7_attempt_169
  obtain ⟨_, _, hst⟩ := (show (M 21).toInt = (M0 21).toInt ∧ (M 64).toInt = (M0 64).toInt ∧ ((M0 12).toInt = 137 → (M 12).toInt = 137) from hk)
  have := ti_rng a3
  have := ti_rng (M 63)
  refine spR_X6_change hN _ _ (show rI N M O from hI) (?_)
  refine ⟨fun hc13 => ?_, fun hc13 => ?_⟩
  · have := ti_rng (M 12)
    have : (218 : Int32).toInt = 218 := by decide
    have hc139 := ti_ne hc13
    exact spR_X7_attempt_203 hN q1 sWB hQ _ _ (show rI N M O from hI) (show rK M0 M from hk)
  · have := ti_rng (M 12)
    have : (218 : Int32).toInt = 218 := by decide
    have hc139 := congrArg Int32.toInt hc13
    refine spR_X7_advance hN  (show rI N M O from hI) (fun M15 O15 hI hk1 => ?_)
    have hk := rK_tr (show rK M0 M from hk) hk1
    obtain ⟨_, _, hst⟩ := (show (M15 21).toInt = (M0 21).toInt ∧ (M15 64).toInt = (M0 64).toInt ∧ ((M0 12).toInt = 137 → (M15 12).toInt = 137) from hk)
    obtain ⟨_, _, hst1⟩ := (show (M15 21).toInt = (M 21).toInt ∧ (M15 64).toInt = (M 64).toInt ∧ ((M 12).toInt = 137 → (M15 12).toInt = 137) from hk1)
    obtain ⟨⟨_, _⟩, ⟨_, _⟩, ⟨_, _, _⟩, ⟨_, _⟩, ⟨_, _⟩, ⟨_, _⟩, ⟨_, _⟩⟩ := (show rI N M15 O15 from hI)
    have := ti_rng a1
    refine sWB _ _ _ (show rI N M15 O15 from hI) (show 0 ≤ a1.toInt ∧ a1.toInt ≤ 20 ∧ 21 - a1.toInt ≤ (dB : Int) ∧ 22 ≤ (dF : Int) from by omega) (fun M16 O16 hI hk1 => ?_)
    have hk := rK_tr (show rK M0 M15 from hk) hk1
    obtain ⟨_, _, hst⟩ := (show (M16 21).toInt = (M0 21).toInt ∧ (M16 64).toInt = (M0 64).toInt ∧ ((M0 12).toInt = 137 → (M16 12).toInt = 137) from hk)
    obtain ⟨_, _, hst1⟩ := (show (M16 21).toInt = (M15 21).toInt ∧ (M16 64).toInt = (M15 64).toInt ∧ ((M15 12).toInt = 137 → (M16 12).toInt = 137) from hk1)
    obtain ⟨⟨_, _⟩, ⟨_, _⟩, ⟨_, _, _⟩, ⟨_, _⟩, ⟨_, _⟩, ⟨_, _⟩, ⟨_, _⟩⟩ := (show rI N M16 O16 from hI)
    exact spR_X7_attempt_203 hN q1 sWB hQ _ _ (show rI N M16 O16 from hI) (show rK M0 M16 from hk)
set_option maxHeartbeats 2000000 in
theorem spR_X7_attempt_140 {N : Nat → Nat} (hN : rN N) (q1 : Int32) {WB : Int32 → (Nat → Int32) → (Nat × Nat) → ((Nat → Int32) → Nat × Nat → Prop) → Prop} {K69 : (Int32 → Int32 → Int32 → Int32 → (Nat → Int32) → (Nat × Nat) → Prop)} {n69 : Nat} {Q : (Nat → Int32) → Nat × Nat → Prop} {M0 : Nat → Int32} {dF : Nat} {dB : Nat} (sWB : ∀ (q1 : Int32) (M : Nat → Int32) (O : Nat × Nat) {Q : (Nat → Int32) → Nat × Nat → Prop}, rI N M O → (0 ≤ q1.toInt ∧ q1.toInt ≤ 20 ∧ 21 - q1.toInt ≤ (dB : Int) ∧ 22 ≤ (dF : Int)) → (∀ (M' : Nat → Int32) (O' : Nat × Nat), rI N M' O' → rK M M' → Q M' O') → WB q1 M O Q) (sK69 : ∀ (a1 : Int32) (a2 : Int32) (a3 : Int32) (a4 : Int32) (M : Nat → Int32) (O : Nat × Nat), rI N M O → rK M0 M → (0 ≤ a4.toInt ∧ a4.toInt ≤ 4001 ∧ (0 ≤ a1.toInt ∧ a1.toInt ≤ 20 ∧ 21 - a1.toInt ≤ (dB : Int) ∧ 22 ≤ (dF : Int))) → (4001 - a4.toInt) + 1 ≤ (n69 : Int) → K69 a1 a2 a3 a4 M O) (hQ : ∀ (M' : Nat → Int32) (O' : Nat × Nat), rI N M' O' → rK M0 M' → Q M' O') (a1 : Int32) (a3 : Int32) (a4 : Int32) (t1 : Int32) (M : Nat → Int32) (O : Nat × Nat) (hI : rI N M O) (hk : rK M0 M) (hbi : ((0 ≤ a4.toInt ∧ a4.toInt ≤ 4001 ∧ (0 ≤ a1.toInt ∧ a1.toInt ≤ 20 ∧ 21 - a1.toInt ≤ (dB : Int) ∧ 22 ≤ (dF : Int))) ∧ (4001 - a4.toInt) ≤ (n69 : Int) ∧ 1 ≤ (4001 - a4.toInt))) : wR_X7_attempt_140 N WB K69 Q a1 a3 a4 t1 M O := by
  obtain ⟨_, _, _, _, _, _, _, _, _, _, _, _, _, _, _, _⟩ := (show rN N from hN)
  obtain ⟨⟨_, _⟩, ⟨_, _⟩, ⟨_, _, _⟩, ⟨_, _⟩, ⟨_, _⟩, ⟨_, _⟩, ⟨_, _⟩⟩ := (show rI N M O from hI)
  unfold wR_X7_attempt_140
  obtain ⟨_, _, hst⟩ := (show (M 21).toInt = (M0 21).toInt ∧ (M 64).toInt = (M0 64).toInt ∧ ((M0 12).toInt = 137 → (M 12).toInt = 137) from hk)
  have := ti_rng t1
  refine spR_X6_put hN _ (show rI N M O from hI) (fun r25 M26 O26 hI hk1 => ?_)
  have hk := rK_tr (show rK M0 M from hk) hk1
  obtain ⟨_, _, hst⟩ := (show (M26 21).toInt = (M0 21).toInt ∧ (M26 64).toInt = (M0 64).toInt ∧ ((M0 12).toInt = 137 → (M26 12).toInt = 137) from hk)
  obtain ⟨_, _, hst1⟩ := (show (M26 21).toInt = (M 21).toInt ∧ (M26 64).toInt = (M 64).toInt ∧ ((M 12).toInt = 137 → (M26 12).toInt = 137) from hk1)
  obtain ⟨⟨_, _⟩, ⟨_, _⟩, ⟨_, _, _⟩, ⟨_, _⟩, ⟨_, _⟩, ⟨_, _⟩, ⟨_, _⟩⟩ := (show rI N M26 O26 from hI)
  have : ((-1) : Int32).toInt = -1 := by decide
  refine spR_X6_put hN _ (show rI N M26 O26 from hI) (fun r27 M28 O28 hI hk1 => ?_)
  have hk := rK_tr (show rK M0 M26 from hk) hk1
  obtain ⟨_, _, hst⟩ := (show (M28 21).toInt = (M0 21).toInt ∧ (M28 64).toInt = (M0 64).toInt ∧ ((M0 12).toInt = 137 → (M28 12).toInt = 137) from hk)
  obtain ⟨_, _, hst1⟩ := (show (M28 21).toInt = (M26 21).toInt ∧ (M28 64).toInt = (M26 64).toInt ∧ ((M26 12).toInt = 137 → (M28 12).toInt = 137) from hk1)
  obtain ⟨⟨_, _⟩, ⟨_, _⟩, ⟨_, _, _⟩, ⟨_, _⟩, ⟨_, _⟩, ⟨_, _⟩, ⟨_, _⟩⟩ := (show rI N M28 O28 from hI)
  have := ti_rng a1
  refine sWB _ _ _ (show rI N M28 O28 from hI) (show 0 ≤ a1.toInt ∧ a1.toInt ≤ 20 ∧ 21 - a1.toInt ≤ (dB : Int) ∧ 22 ≤ (dF : Int) from by omega) (fun M29 O29 hI hk1 => ?_)
  have hk := rK_tr (show rK M0 M28 from hk) hk1
  obtain ⟨_, _, hst⟩ := (show (M29 21).toInt = (M0 21).toInt ∧ (M29 64).toInt = (M0 64).toInt ∧ ((M0 12).toInt = 137 → (M29 12).toInt = 137) from hk)
  obtain ⟨_, _, hst1⟩ := (show (M29 21).toInt = (M28 21).toInt ∧ (M29 64).toInt = (M28 64).toInt ∧ ((M28 12).toInt = 137 → (M29 12).toInt = 137) from hk1)
  obtain ⟨⟨_, _⟩, ⟨_, _⟩, ⟨_, _, _⟩, ⟨_, _⟩, ⟨_, _⟩, ⟨_, _⟩, ⟨_, _⟩⟩ := (show rI N M29 O29 from hI)
  have : (5 : Int32).toInt = 5 := by decide
  refine spR_X7_emit hN _ (show rI N M29 O29 from hI) (fun M30 O30 hI hk1 => ?_)
  have hk := rK_tr (show rK M0 M29 from hk) hk1
  obtain ⟨_, _, hst⟩ := (show (M30 21).toInt = (M0 21).toInt ∧ (M30 64).toInt = (M0 64).toInt ∧ ((M0 12).toInt = 137 → (M30 12).toInt = 137) from hk)
  obtain ⟨_, _, hst1⟩ := (show (M30 21).toInt = (M29 21).toInt ∧ (M30 64).toInt = (M29 64).toInt ∧ ((M29 12).toInt = 137 → (M30 12).toInt = 137) from hk1)
  obtain ⟨⟨_, _⟩, ⟨_, _⟩, ⟨_, _, _⟩, ⟨_, _⟩, ⟨_, _⟩, ⟨_, _⟩, ⟨_, _⟩⟩ := (show rI N M30 O30 from hI)
  have := ti_rng r27
  have := ti_rng a3
  have := ti_rng a4
  have : (1 : Int32).toInt = 1 := by decide
  first | have := ti_addx a4 1 (by omega) | obtain ⟨_, _, _, _⟩ := ti_add a4 1
  exact sK69 _ _ _ _ _ _ (show rI N M30 O30 from hI) (show rK M0 M30 from hk) (show 0 ≤ (a4 + 1).toInt ∧ (a4 + 1).toInt ≤ 4001 ∧ (0 ≤ a1.toInt ∧ a1.toInt ≤ 20 ∧ 21 - a1.toInt ≤ (dB : Int) ∧ 22 ≤ (dF : Int)) from by omega) (show (4001 - (a4 + 1).toInt) + 1 ≤ _ from by omega)
set_option maxHeartbeats 2000000 in
theorem spR_X7_attempt_69 {N : Nat → Nat} (hN : rN N) (q1 : Int32) {WB : Int32 → (Nat → Int32) → (Nat × Nat) → ((Nat → Int32) → Nat × Nat → Prop) → Prop} {Q : (Nat → Int32) → Nat × Nat → Prop} {M0 : Nat → Int32} {dF : Nat} {dB : Nat} (sWB : ∀ (q1 : Int32) (M : Nat → Int32) (O : Nat × Nat) {Q : (Nat → Int32) → Nat × Nat → Prop}, rI N M O → (0 ≤ q1.toInt ∧ q1.toInt ≤ 20 ∧ 21 - q1.toInt ≤ (dB : Int) ∧ 22 ≤ (dF : Int)) → (∀ (M' : Nat → Int32) (O' : Nat × Nat), rI N M' O' → rK M M' → Q M' O') → WB q1 M O Q) (hQ : ∀ (M' : Nat → Int32) (O' : Nat × Nat), rI N M' O' → rK M0 M' → Q M' O') : ∀ (n69 : Nat) (a1 : Int32) (a2 : Int32) (a3 : Int32) (a4 : Int32) (M : Nat → Int32) (O : Nat × Nat), rI N M O → rK M0 M → (0 ≤ a4.toInt ∧ a4.toInt ≤ 4001 ∧ (0 ≤ a1.toInt ∧ a1.toInt ≤ 20 ∧ 21 - a1.toInt ≤ (dB : Int) ∧ 22 ≤ (dF : Int))) → (4001 - a4.toInt) + 1 ≤ (n69 : Int) → wR_X7_attempt_69 N WB Q n69 a1 a2 a3 a4 M O := by
  obtain ⟨_, _, _, _, _, _, _, _, _, _, _, _, _, _, _, _⟩ := (show rN N from hN)
  intro n69
  induction n69 with
  | zero => intro a1 a2 a3 a4 M O hI hk hv hn; exact absurd hn (by omega)
  | succ n69 ih =>
    intro a1 a2 a3 a4 M O hI hk hv hn
    obtain ⟨⟨_, _⟩, ⟨_, _⟩, ⟨_, _, _⟩, ⟨_, _⟩, ⟨_, _⟩, ⟨_, _⟩, ⟨_, _⟩⟩ := (show rI N M O from hI)
    dsimp only [wR_X7_attempt_69]
    obtain ⟨_, _, hst⟩ := (show (M 21).toInt = (M0 21).toInt ∧ (M 64).toInt = (M0 64).toInt ∧ ((M0 12).toInt = 137 → (M 12).toInt = 137) from hk)
    refine ⟨fun hc11 => ?_, fun hc11 => ?_⟩
    · have : (4000 : Int32).toInt = 4000 := by decide
      have := ti_rng a4
      have hc11 := Int32.lt_iff_toInt_lt.mp hc11
      have := ti_rng a1
      have := ti_rng a3
      exact spR_X7_attempt_169 hN q1 sWB hQ _ _ _ _ (show rI N M O from hI) (show rK M0 M from hk) (show (0 ≤ a1.toInt ∧ a1.toInt ≤ 20 ∧ 21 - a1.toInt ≤ (dB : Int) ∧ 22 ≤ (dF : Int)) from by omega)
    · have : (4000 : Int32).toInt = 4000 := by decide
      have := ti_rng a4
      have hc11 := ti_nlt hc11
      refine ⟨fun hc17 => ?_, fun hc17 => ?_⟩
      · have := ti_rng (M 12)
        have : (217 : Int32).toInt = 217 := by decide
        have hc179 := ti_ne hc17
        have := ti_rng a1
        have := ti_rng a3
        exact spR_X7_attempt_169 hN q1 sWB hQ _ _ _ _ (show rI N M O from hI) (show rK M0 M from hk) (show (0 ≤ a1.toInt ∧ a1.toInt ≤ 20 ∧ 21 - a1.toInt ≤ (dB : Int) ∧ 22 ≤ (dF : Int)) from by omega)
      · have := ti_rng (M 12)
        have : (217 : Int32).toInt = 217 := by decide
        have hc179 := congrArg Int32.toInt hc17
        have := ti_rng a2
        have := ti_rng (M 63)
        refine spR_X6_change hN _ _ (show rI N M O from hI) (?_)
        refine spR_X7_advance hN  (show rI N M O from hI) (fun M19 O19 hI hk1 => ?_)
        have hk := rK_tr (show rK M0 M from hk) hk1
        obtain ⟨_, _, hst⟩ := (show (M19 21).toInt = (M0 21).toInt ∧ (M19 64).toInt = (M0 64).toInt ∧ ((M0 12).toInt = 137 → (M19 12).toInt = 137) from hk)
        obtain ⟨_, _, hst1⟩ := (show (M19 21).toInt = (M 21).toInt ∧ (M19 64).toInt = (M 64).toInt ∧ ((M 12).toInt = 137 → (M19 12).toInt = 137) from hk1)
        obtain ⟨⟨_, _⟩, ⟨_, _⟩, ⟨_, _, _⟩, ⟨_, _⟩, ⟨_, _⟩, ⟨_, _⟩, ⟨_, _⟩⟩ := (show rI N M19 O19 from hI)
        refine spR_X7_kind hN  (show rI N M19 O19 from hI) (fun r20 M21 O21 hI hk1 => ?_)
        have hk := rK_tr (show rK M0 M19 from hk) hk1
        obtain ⟨_, _, hst⟩ := (show (M21 21).toInt = (M0 21).toInt ∧ (M21 64).toInt = (M0 64).toInt ∧ ((M0 12).toInt = 137 → (M21 12).toInt = 137) from hk)
        obtain ⟨_, _, hst1⟩ := (show (M21 21).toInt = (M19 21).toInt ∧ (M21 64).toInt = (M19 64).toInt ∧ ((M19 12).toInt = 137 → (M21 12).toInt = 137) from hk1)
        obtain ⟨⟨_, _⟩, ⟨_, _⟩, ⟨_, _, _⟩, ⟨_, _⟩, ⟨_, _⟩, ⟨_, _⟩, ⟨_, _⟩⟩ := (show rI N M21 O21 from hI)
        have := ti_rng r20
        refine spR_X6_put hN _ (show rI N M21 O21 from hI) (fun r22 M23 O23 hI hk1 => ?_)
        have hk := rK_tr (show rK M0 M21 from hk) hk1
        obtain ⟨_, _, hst⟩ := (show (M23 21).toInt = (M0 21).toInt ∧ (M23 64).toInt = (M0 64).toInt ∧ ((M0 12).toInt = 137 → (M23 12).toInt = 137) from hk)
        obtain ⟨_, _, hst1⟩ := (show (M23 21).toInt = (M21 21).toInt ∧ (M23 64).toInt = (M21 64).toInt ∧ ((M21 12).toInt = 137 → (M23 12).toInt = 137) from hk1)
        obtain ⟨⟨_, _⟩, ⟨_, _⟩, ⟨_, _, _⟩, ⟨_, _⟩, ⟨_, _⟩, ⟨_, _⟩, ⟨_, _⟩⟩ := (show rI N M23 O23 from hI)
        refine ⟨fun hc24 => ?_, fun hc24 => ?_⟩
        · have := ti_rng (M23 12)
          have : (131 : Int32).toInt = 131 := by decide
          have hc249 := ti_ne hc24
          have := ti_rng a1
          have := ti_rng a3
          have : ((-1) : Int32).toInt = -1 := by decide
          exact spR_X7_attempt_140 hN q1 sWB ih hQ _ _ _ _ _ _ (show rI N M23 O23 from hI) (show rK M0 M23 from hk) (show ((0 ≤ a4.toInt ∧ a4.toInt ≤ 4001 ∧ (0 ≤ a1.toInt ∧ a1.toInt ≤ 20 ∧ 21 - a1.toInt ≤ (dB : Int) ∧ 22 ≤ (dF : Int))) ∧ (4001 - a4.toInt) ≤ (n69 : Int) ∧ 1 ≤ (4001 - a4.toInt)) from by omega)
        · have := ti_rng (M23 12)
          have : (131 : Int32).toInt = 131 := by decide
          have hc249 := congrArg Int32.toInt hc24
          refine spR_X7_object hN  (show rI N M23 O23 from hI) (fun r31 M32 O32 hI hk1 => ?_)
          have hk := rK_tr (show rK M0 M23 from hk) hk1
          obtain ⟨_, _, hst⟩ := (show (M32 21).toInt = (M0 21).toInt ∧ (M32 64).toInt = (M0 64).toInt ∧ ((M0 12).toInt = 137 → (M32 12).toInt = 137) from hk)
          obtain ⟨_, _, hst1⟩ := (show (M32 21).toInt = (M23 21).toInt ∧ (M32 64).toInt = (M23 64).toInt ∧ ((M23 12).toInt = 137 → (M32 12).toInt = 137) from hk1)
          obtain ⟨⟨_, _⟩, ⟨_, _⟩, ⟨_, _, _⟩, ⟨_, _⟩, ⟨_, _⟩, ⟨_, _⟩, ⟨_, _⟩⟩ := (show rI N M32 O32 from hI)
          have := ti_rng a1
          have := ti_rng a3
          have := ti_rng r31
          exact spR_X7_attempt_140 hN q1 sWB ih hQ _ _ _ _ _ _ (show rI N M32 O32 from hI) (show rK M0 M32 from hk) (show ((0 ≤ a4.toInt ∧ a4.toInt ≤ 4001 ∧ (0 ≤ a1.toInt ∧ a1.toInt ≤ 20 ∧ 21 - a1.toInt ≤ (dB : Int) ∧ 22 ≤ (dF : Int))) ∧ (4001 - a4.toInt) ≤ (n69 : Int) ∧ 1 ≤ (4001 - a4.toInt)) from by omega)
set_option maxHeartbeats 2000000 in
theorem spR_X7_attempt_66 {N : Nat → Nat} (hN : rN N) (q1 : Int32) {WB : Int32 → (Nat → Int32) → (Nat × Nat) → ((Nat → Int32) → Nat × Nat → Prop) → Prop} {Q : (Nat → Int32) → Nat × Nat → Prop} {M0 : Nat → Int32} {dF : Nat} {dB : Nat} (sWB : ∀ (q1 : Int32) (M : Nat → Int32) (O : Nat × Nat) {Q : (Nat → Int32) → Nat × Nat → Prop}, rI N M O → (0 ≤ q1.toInt ∧ q1.toInt ≤ 20 ∧ 21 - q1.toInt ≤ (dB : Int) ∧ 22 ≤ (dF : Int)) → (∀ (M' : Nat → Int32) (O' : Nat × Nat), rI N M' O' → rK M M' → Q M' O') → WB q1 M O Q) (hQ : ∀ (M' : Nat → Int32) (O' : Nat × Nat), rI N M' O' → rK M0 M' → Q M' O') (a1 : Int32) (a2 : Int32) (a3 : Int32) (M : Nat → Int32) (O : Nat × Nat) (hI : rI N M O) (hk : rK M0 M) (hbi : (0 ≤ a1.toInt ∧ a1.toInt ≤ 20 ∧ 21 - a1.toInt ≤ (dB : Int) ∧ 22 ≤ (dF : Int))) : wR_X7_attempt_66 N WB Q a1 a2 a3 M O := by
  obtain ⟨_, _, _, _, _, _, _, _, _, _, _, _, _, _, _, _⟩ := (show rN N from hN)
  obtain ⟨⟨_, _⟩, ⟨_, _⟩, ⟨_, _, _⟩, ⟨_, _⟩, ⟨_, _⟩, ⟨_, _⟩, ⟨_, _⟩⟩ := (show rI N M O from hI)
  unfold wR_X7_attempt_66
  obtain ⟨_, _, hst⟩ := (show (M 21).toInt = (M0 21).toInt ∧ (M 64).toInt = (M0 64).toInt ∧ ((M0 12).toInt = 137 → (M 12).toInt = 137) from hk)
  have := ti_rng a1
  have := ti_rng a2
  have := ti_rng a3
  have : (0 : Int32).toInt = 0 := by decide
  exact ⟨((4001 - (0 : Int32).toInt) + 1).toNat, spR_X7_attempt_69 hN q1 sWB hQ _ _ _ _ _ _ _ (show rI N M O from hI) (show rK M0 M from hk) (show 0 ≤ (0 : Int32).toInt ∧ (0 : Int32).toInt ≤ 4001 ∧ (0 ≤ a1.toInt ∧ a1.toInt ≤ 20 ∧ 21 - a1.toInt ≤ (dB : Int) ∧ 22 ≤ (dF : Int)) from by omega) (show (4001 - (0 : Int32).toInt) + 1 ≤ _ from by omega)⟩
set_option maxHeartbeats 2000000 in
theorem spR_X7_attempt {N : Nat → Nat} (hN : rN N) {WB : Int32 → (Nat → Int32) → (Nat × Nat) → ((Nat → Int32) → Nat × Nat → Prop) → Prop} {dF : Nat} {dB : Nat} (sWB : ∀ (q1 : Int32) (M : Nat → Int32) (O : Nat × Nat) {Q : (Nat → Int32) → Nat × Nat → Prop}, rI N M O → (0 ≤ q1.toInt ∧ q1.toInt ≤ 20 ∧ 21 - q1.toInt ≤ (dB : Int) ∧ 22 ≤ (dF : Int)) → (∀ (M' : Nat → Int32) (O' : Nat × Nat), rI N M' O' → rK M M' → Q M' O') → WB q1 M O Q) (q1 : Int32) {M0 : Nat → Int32} {O : Nat × Nat} {Q : (Nat → Int32) → Nat × Nat → Prop} (hI : rI N M0 O) (hpre : 0 ≤ q1.toInt ∧ q1.toInt ≤ 20 ∧ 21 - q1.toInt ≤ (dB : Int) ∧ 22 ≤ (dF : Int)) (hQ : ∀ (M' : Nat → Int32) (O' : Nat × Nat), rI N M' O' → rK M0 M' → Q M' O') : wR_X7_attempt N WB q1 M0 O Q := by
  obtain ⟨_, _, _, _, _, _, _, _, _, _, _, _, _, _, _, _⟩ := (show rN N from hN)
  obtain ⟨⟨_, _⟩, ⟨_, _⟩, ⟨_, _, _⟩, ⟨_, _⟩, ⟨_, _⟩, ⟨_, _⟩, ⟨_, _⟩⟩ := (show rI N M0 O from hI)
  have hk : rK M0 M0 := rK_rf M0
  have hQ1 := hQ
  unfold wR_X7_attempt
  have : (0 : Int32).toInt = 0 := by decide
  refine spR_X7_emit hN _ (show rI N M0 O from hI) (fun M1 O1 hI hk1 => ?_)
  have hk := rK_tr (show rK M0 M0 from hk) hk1
  obtain ⟨_, _, hst⟩ := (show (M1 21).toInt = (M0 21).toInt ∧ (M1 64).toInt = (M0 64).toInt ∧ ((M0 12).toInt = 137 → (M1 12).toInt = 137) from hk)
  obtain ⟨_, _, hst1⟩ := (show (M1 21).toInt = (M0 21).toInt ∧ (M1 64).toInt = (M0 64).toInt ∧ ((M0 12).toInt = 137 → (M1 12).toInt = 137) from hk1)
  obtain ⟨⟨_, _⟩, ⟨_, _⟩, ⟨_, _, _⟩, ⟨_, _⟩, ⟨_, _⟩, ⟨_, _⟩, ⟨_, _⟩⟩ := (show rI N M1 O1 from hI)
  refine spR_X7_advance hN  (show rI N M1 O1 from hI) (fun M2 O2 hI hk1 => ?_)
  have hk := rK_tr (show rK M0 M1 from hk) hk1
  obtain ⟨_, _, hst⟩ := (show (M2 21).toInt = (M0 21).toInt ∧ (M2 64).toInt = (M0 64).toInt ∧ ((M0 12).toInt = 137 → (M2 12).toInt = 137) from hk)
  obtain ⟨_, _, hst1⟩ := (show (M2 21).toInt = (M1 21).toInt ∧ (M2 64).toInt = (M1 64).toInt ∧ ((M1 12).toInt = 137 → (M2 12).toInt = 137) from hk1)
  obtain ⟨⟨_, _⟩, ⟨_, _⟩, ⟨_, _, _⟩, ⟨_, _⟩, ⟨_, _⟩, ⟨_, _⟩, ⟨_, _⟩⟩ := (show rI N M2 O2 from hI)
  have : (4 : Int32).toInt = 4 := by decide
  refine spR_X7_emit hN _ (show rI N M2 O2 from hI) (fun M3 O3 hI hk1 => ?_)
  have hk := rK_tr (show rK M0 M2 from hk) hk1
  obtain ⟨_, _, hst⟩ := (show (M3 21).toInt = (M0 21).toInt ∧ (M3 64).toInt = (M0 64).toInt ∧ ((M0 12).toInt = 137 → (M3 12).toInt = 137) from hk)
  obtain ⟨_, _, hst1⟩ := (show (M3 21).toInt = (M2 21).toInt ∧ (M3 64).toInt = (M2 64).toInt ∧ ((M2 12).toInt = 137 → (M3 12).toInt = 137) from hk1)
  obtain ⟨⟨_, _⟩, ⟨_, _⟩, ⟨_, _, _⟩, ⟨_, _⟩, ⟨_, _⟩, ⟨_, _⟩, ⟨_, _⟩⟩ := (show rI N M3 O3 from hI)
  have : ((-1) : Int32).toInt = -1 := by decide
  refine spR_X6_put hN _ (show rI N M3 O3 from hI) (fun r4 M5 O5 hI hk1 => ?_)
  have hk := rK_tr (show rK M0 M3 from hk) hk1
  obtain ⟨_, _, hst⟩ := (show (M5 21).toInt = (M0 21).toInt ∧ (M5 64).toInt = (M0 64).toInt ∧ ((M0 12).toInt = 137 → (M5 12).toInt = 137) from hk)
  obtain ⟨_, _, hst1⟩ := (show (M5 21).toInt = (M3 21).toInt ∧ (M5 64).toInt = (M3 64).toInt ∧ ((M3 12).toInt = 137 → (M5 12).toInt = 137) from hk1)
  obtain ⟨⟨_, _⟩, ⟨_, _⟩, ⟨_, _, _⟩, ⟨_, _⟩, ⟨_, _⟩, ⟨_, _⟩, ⟨_, _⟩⟩ := (show rI N M5 O5 from hI)
  refine spR_X6_put hN _ (show rI N M5 O5 from hI) (fun r6 M7 O7 hI hk1 => ?_)
  have hk := rK_tr (show rK M0 M5 from hk) hk1
  obtain ⟨_, _, hst⟩ := (show (M7 21).toInt = (M0 21).toInt ∧ (M7 64).toInt = (M0 64).toInt ∧ ((M0 12).toInt = 137 → (M7 12).toInt = 137) from hk)
  obtain ⟨_, _, hst1⟩ := (show (M7 21).toInt = (M5 21).toInt ∧ (M7 64).toInt = (M5 64).toInt ∧ ((M5 12).toInt = 137 → (M7 12).toInt = 137) from hk1)
  obtain ⟨⟨_, _⟩, ⟨_, _⟩, ⟨_, _, _⟩, ⟨_, _⟩, ⟨_, _⟩, ⟨_, _⟩, ⟨_, _⟩⟩ := (show rI N M7 O7 from hI)
  have := ti_rng q1
  refine sWB _ _ _ (show rI N M7 O7 from hI) (show 0 ≤ q1.toInt ∧ q1.toInt ≤ 20 ∧ 21 - q1.toInt ≤ (dB : Int) ∧ 22 ≤ (dF : Int) from by omega) (fun M8 O8 hI hk1 => ?_)
  have hk := rK_tr (show rK M0 M7 from hk) hk1
  obtain ⟨_, _, hst⟩ := (show (M8 21).toInt = (M0 21).toInt ∧ (M8 64).toInt = (M0 64).toInt ∧ ((M0 12).toInt = 137 → (M8 12).toInt = 137) from hk)
  obtain ⟨_, _, hst1⟩ := (show (M8 21).toInt = (M7 21).toInt ∧ (M8 64).toInt = (M7 64).toInt ∧ ((M7 12).toInt = 137 → (M8 12).toInt = 137) from hk1)
  obtain ⟨⟨_, _⟩, ⟨_, _⟩, ⟨_, _, _⟩, ⟨_, _⟩, ⟨_, _⟩, ⟨_, _⟩, ⟨_, _⟩⟩ := (show rI N M8 O8 from hI)
  have : (5 : Int32).toInt = 5 := by decide
  refine spR_X7_emit hN _ (show rI N M8 O8 from hI) (fun M9 O9 hI hk1 => ?_)
  have hk := rK_tr (show rK M0 M8 from hk) hk1
  obtain ⟨_, _, hst⟩ := (show (M9 21).toInt = (M0 21).toInt ∧ (M9 64).toInt = (M0 64).toInt ∧ ((M0 12).toInt = 137 → (M9 12).toInt = 137) from hk)
  obtain ⟨_, _, hst1⟩ := (show (M9 21).toInt = (M8 21).toInt ∧ (M9 64).toInt = (M8 64).toInt ∧ ((M8 12).toInt = 137 → (M9 12).toInt = 137) from hk1)
  obtain ⟨⟨_, _⟩, ⟨_, _⟩, ⟨_, _, _⟩, ⟨_, _⟩, ⟨_, _⟩, ⟨_, _⟩, ⟨_, _⟩⟩ := (show rI N M9 O9 from hI)
  refine ⟨fun hc10 => ?_, fun hc10 => ?_⟩
  · have := ti_rng (M9 12)
    have : (217 : Int32).toInt = 217 := by decide
    have hc109 := congrArg Int32.toInt hc10
    have := ti_rng r4
    have := ti_rng r6
    exact spR_X7_attempt_66 hN q1 sWB hQ _ _ _ _ _ (show rI N M9 O9 from hI) (show rK M0 M9 from hk) (show (0 ≤ q1.toInt ∧ q1.toInt ≤ 20 ∧ 21 - q1.toInt ≤ (dB : Int) ∧ 22 ≤ (dF : Int)) from by omega)
  · have := ti_rng (M9 12)
    have : (217 : Int32).toInt = 217 := by decide
    have hc109 := ti_ne hc10
    refine ⟨fun hc33 => ?_, fun hc33 => ?_⟩
    · have : (218 : Int32).toInt = 218 := by decide
      have hc339 := congrArg Int32.toInt hc33
      have := ti_rng r4
      have := ti_rng r6
      exact spR_X7_attempt_66 hN q1 sWB hQ _ _ _ _ _ (show rI N M9 O9 from hI) (show rK M0 M9 from hk) (show (0 ≤ q1.toInt ∧ q1.toInt ≤ 20 ∧ 21 - q1.toInt ≤ (dB : Int) ∧ 22 ≤ (dF : Int)) from by omega)
    · have : (218 : Int32).toInt = 218 := by decide
      have hc339 := ti_ne hc33
      refine spR_X7_fail hN  (show rI N M9 O9 from hI) (fun M34 O34 hI hk1 hp34 => ?_)
      have hk := rK_tr (show rK M0 M9 from hk) hk1
      obtain ⟨_, _, hst⟩ := (show (M34 21).toInt = (M0 21).toInt ∧ (M34 64).toInt = (M0 64).toInt ∧ ((M0 12).toInt = 137 → (M34 12).toInt = 137) from hk)
      obtain ⟨_, _, hst1⟩ := (show (M34 21).toInt = (M9 21).toInt ∧ (M34 64).toInt = (M9 64).toInt ∧ ((M9 12).toInt = 137 → (M34 12).toInt = 137) from hk1)
      obtain ⟨⟨_, _⟩, ⟨_, _⟩, ⟨_, _, _⟩, ⟨_, _⟩, ⟨_, _⟩, ⟨_, _⟩, ⟨_, _⟩⟩ := (show rI N M34 O34 from hI)
      have := ti_rng r4
      have := ti_rng r6
      exact spR_X7_attempt_66 hN q1 sWB hQ _ _ _ _ _ (show rI N M34 O34 from hI) (show rK M0 M34 from hk) (show (0 ≤ q1.toInt ∧ q1.toInt ≤ 20 ∧ 21 - q1.toInt ≤ (dB : Int) ∧ 22 ≤ (dF : Int)) from by omega)

