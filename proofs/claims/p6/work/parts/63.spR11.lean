set_option maxHeartbeats 2000000 in
theorem spR_X7_statement_236 {N : Nat → Nat} (hN : rN N) (q1 : Int32) {WF : Int32 → (Nat → Int32) → (Nat × Nat) → ((Nat → Int32) → Nat × Nat → Prop) → Prop} {WB : Int32 → (Nat → Int32) → (Nat × Nat) → ((Nat → Int32) → Nat × Nat → Prop) → Prop} {Q : (Nat → Int32) → Nat × Nat → Prop} {M0 : Nat → Int32} {dF : Nat} (sWF : ∀ (q1 : Int32) (M : Nat → Int32) (O : Nat × Nat) {Q : (Nat → Int32) → Nat × Nat → Prop}, rI N M O → (((M 12).toInt = 137 ∧ 1 ≤ (dF : Int)) ∨ (0 ≤ q1.toInt ∧ q1.toInt ≤ 20 ∧ 22 - q1.toInt ≤ (dF : Int))) → (∀ (M' : Nat → Int32) (O' : Nat × Nat), rI N M' O' → rK M M' → Q M' O') → WF q1 M O Q) {dB : Nat} (sWB : ∀ (q1 : Int32) (M : Nat → Int32) (O : Nat × Nat) {Q : (Nat → Int32) → Nat × Nat → Prop}, rI N M O → (0 ≤ q1.toInt ∧ q1.toInt ≤ 20 ∧ 21 - q1.toInt ≤ (dB : Int) ∧ 22 ≤ (dF : Int)) → (∀ (M' : Nat → Int32) (O' : Nat × Nat), rI N M' O' → rK M M' → Q M' O') → WB q1 M O Q) (hQ : ∀ (M' : Nat → Int32) (O' : Nat × Nat), rI N M' O' → rK M0 M' → Q M' O') (M : Nat → Int32) (O : Nat × Nat) (hI : rI N M O) (hk : rK M0 M) : wR_X7_statement_236 N WF WB Q M O := by
  obtain ⟨_, _, _, _, _, _, _, _, _, _, _, _, _, _, _, _⟩ := (show rN N from hN)
  obtain ⟨⟨_, _⟩, ⟨_, _⟩, ⟨_, _, _⟩, ⟨_, _⟩, ⟨_, _⟩, ⟨_, _⟩, ⟨_, _⟩⟩ := (show rI N M O from hI)
  unfold wR_X7_statement_236
  obtain ⟨_, _, hst⟩ := (show (M 21).toInt = (M0 21).toInt ∧ (M 64).toInt = (M0 64).toInt ∧ ((M0 12).toInt = 137 → (M 12).toInt = 137) from hk)
  have : (59 : Int32).toInt = 59 := by decide
  refine spR_X7_take hN _ (show rI N M O from hI) (fun M4 O4 hI hk1 => ?_)
  have hk := rK_tr (show rK M0 M from hk) hk1
  obtain ⟨_, _, hst⟩ := (show (M4 21).toInt = (M0 21).toInt ∧ (M4 64).toInt = (M0 64).toInt ∧ ((M0 12).toInt = 137 → (M4 12).toInt = 137) from hk)
  obtain ⟨_, _, hst1⟩ := (show (M4 21).toInt = (M 21).toInt ∧ (M4 64).toInt = (M 64).toInt ∧ ((M 12).toInt = 137 → (M4 12).toInt = 137) from hk1)
  obtain ⟨⟨_, _⟩, ⟨_, _⟩, ⟨_, _, _⟩, ⟨_, _⟩, ⟨_, _⟩, ⟨_, _⟩, ⟨_, _⟩⟩ := (show rI N M4 O4 from hI)
  exact hQ _ _ (show rI N M4 O4 from hI) (show rK M0 M4 from hk)
set_option maxHeartbeats 2000000 in
theorem spR_X7_statement {N : Nat → Nat} (hN : rN N) {WF : Int32 → (Nat → Int32) → (Nat × Nat) → ((Nat → Int32) → Nat × Nat → Prop) → Prop} {WB : Int32 → (Nat → Int32) → (Nat × Nat) → ((Nat → Int32) → Nat × Nat → Prop) → Prop} {dF : Nat} (sWF : ∀ (q1 : Int32) (M : Nat → Int32) (O : Nat × Nat) {Q : (Nat → Int32) → Nat × Nat → Prop}, rI N M O → (((M 12).toInt = 137 ∧ 1 ≤ (dF : Int)) ∨ (0 ≤ q1.toInt ∧ q1.toInt ≤ 20 ∧ 22 - q1.toInt ≤ (dF : Int))) → (∀ (M' : Nat → Int32) (O' : Nat × Nat), rI N M' O' → rK M M' → Q M' O') → WF q1 M O Q) {dB : Nat} (sWB : ∀ (q1 : Int32) (M : Nat → Int32) (O : Nat × Nat) {Q : (Nat → Int32) → Nat × Nat → Prop}, rI N M O → (0 ≤ q1.toInt ∧ q1.toInt ≤ 20 ∧ 21 - q1.toInt ≤ (dB : Int) ∧ 22 ≤ (dF : Int)) → (∀ (M' : Nat → Int32) (O' : Nat × Nat), rI N M' O' → rK M M' → Q M' O') → WB q1 M O Q) (q1 : Int32) {M0 : Nat → Int32} {O : Nat × Nat} {Q : (Nat → Int32) → Nat × Nat → Prop} (hI : rI N M0 O) (hpre : 0 ≤ q1.toInt ∧ q1.toInt ≤ 20 ∧ 21 - q1.toInt ≤ (dB : Int) ∧ 22 ≤ (dF : Int)) (hQ : ∀ (M' : Nat → Int32) (O' : Nat × Nat), rI N M' O' → rK M0 M' → Q M' O') : wR_X7_statement N WF WB q1 M0 O Q := by
  obtain ⟨_, _, _, _, _, _, _, _, _, _, _, _, _, _, _, _⟩ := (show rN N from hN)
  obtain ⟨⟨_, _⟩, ⟨_, _⟩, ⟨_, _, _⟩, ⟨_, _⟩, ⟨_, _⟩, ⟨_, _⟩, ⟨_, _⟩⟩ := (show rI N M0 O from hI)
  have hk : rK M0 M0 := rK_rf M0
  have hQ1 := hQ
  unfold wR_X7_statement
  refine ⟨fun hsw => ?_, fun hsw => ?_, fun hsw => ?_, fun hsw => ?_, fun hsw0 hsw1 hsw2 hsw3 => ?_⟩
  · have := ti_rng (M0 12)
    have : (213 : Int32).toInt = 213 := by decide
    have hsw9 := congrArg Int32.toInt hsw
    have := ti_rng q1
    refine spR_X7_choice hN sWF sWB _ (show rI N M0 O from hI) (show 0 ≤ q1.toInt ∧ q1.toInt ≤ 20 ∧ 21 - q1.toInt ≤ (dB : Int) ∧ 22 ≤ (dF : Int) from by omega) (fun M1 O1 hI hk1 => ?_)
    have hk := rK_tr (show rK M0 M0 from hk) hk1
    obtain ⟨_, _, hst⟩ := (show (M1 21).toInt = (M0 21).toInt ∧ (M1 64).toInt = (M0 64).toInt ∧ ((M0 12).toInt = 137 → (M1 12).toInt = 137) from hk)
    obtain ⟨_, _, hst1⟩ := (show (M1 21).toInt = (M0 21).toInt ∧ (M1 64).toInt = (M0 64).toInt ∧ ((M0 12).toInt = 137 → (M1 12).toInt = 137) from hk1)
    obtain ⟨⟨_, _⟩, ⟨_, _⟩, ⟨_, _, _⟩, ⟨_, _⟩, ⟨_, _⟩, ⟨_, _⟩, ⟨_, _⟩⟩ := (show rI N M1 O1 from hI)
    exact hQ _ _ (show rI N M1 O1 from hI) (show rK M0 M1 from hk)
  · have := ti_rng (M0 12)
    have : (214 : Int32).toInt = 214 := by decide
    have hsw9 := congrArg Int32.toInt hsw
    have : (0 : Int32).toInt = 0 := by decide
    refine spR_X7_emit hN _ (show rI N M0 O from hI) (fun M2 O2 hI hk1 => ?_)
    have hk := rK_tr (show rK M0 M0 from hk) hk1
    obtain ⟨_, _, hst⟩ := (show (M2 21).toInt = (M0 21).toInt ∧ (M2 64).toInt = (M0 64).toInt ∧ ((M0 12).toInt = 137 → (M2 12).toInt = 137) from hk)
    obtain ⟨_, _, hst1⟩ := (show (M2 21).toInt = (M0 21).toInt ∧ (M2 64).toInt = (M0 64).toInt ∧ ((M0 12).toInt = 137 → (M2 12).toInt = 137) from hk1)
    obtain ⟨⟨_, _⟩, ⟨_, _⟩, ⟨_, _, _⟩, ⟨_, _⟩, ⟨_, _⟩, ⟨_, _⟩, ⟨_, _⟩⟩ := (show rI N M2 O2 from hI)
    refine ⟨fun hsw => ?_, fun hsw => ?_, fun hsw => ?_, fun hsw => ?_, fun hsw => ?_, fun hsw => ?_, fun hsw => ?_, fun hsw => ?_, fun hsw0 hsw1 hsw2 hsw3 hsw4 hsw5 hsw6 hsw7 => ?_⟩
    · have := ti_rng (M2 12)
      have : (130 : Int32).toInt = 130 := by decide
      have hsw9 := congrArg Int32.toInt hsw
      have := ti_rng q1
      refine spR_X7_assignment hN sWF _ (show rI N M2 O2 from hI) (show 0 ≤ q1.toInt ∧ q1.toInt ≤ 20 ∧ 22 ≤ (dF : Int) from by omega) (fun M3 O3 hI hk1 => ?_)
      have hk := rK_tr (show rK M0 M2 from hk) hk1
      obtain ⟨_, _, hst⟩ := (show (M3 21).toInt = (M0 21).toInt ∧ (M3 64).toInt = (M0 64).toInt ∧ ((M0 12).toInt = 137 → (M3 12).toInt = 137) from hk)
      obtain ⟨_, _, hst1⟩ := (show (M3 21).toInt = (M2 21).toInt ∧ (M3 64).toInt = (M2 64).toInt ∧ ((M2 12).toInt = 137 → (M3 12).toInt = 137) from hk1)
      obtain ⟨⟨_, _⟩, ⟨_, _⟩, ⟨_, _, _⟩, ⟨_, _⟩, ⟨_, _⟩, ⟨_, _⟩, ⟨_, _⟩⟩ := (show rI N M3 O3 from hI)
      exact spR_X7_statement_236 hN q1 sWF sWB hQ _ _ (show rI N M3 O3 from hI) (show rK M0 M3 from hk)
    · have := ti_rng (M2 12)
      have : (201 : Int32).toInt = 201 := by decide
      have hsw9 := congrArg Int32.toInt hsw
      have := ti_rng q1
      refine spR_X7_let hN sWF _ (show rI N M2 O2 from hI) (show 0 ≤ q1.toInt ∧ q1.toInt ≤ 20 ∧ 22 ≤ (dF : Int) from by omega) (fun M5 O5 hI hk1 => ?_)
      have hk := rK_tr (show rK M0 M2 from hk) hk1
      obtain ⟨_, _, hst⟩ := (show (M5 21).toInt = (M0 21).toInt ∧ (M5 64).toInt = (M0 64).toInt ∧ ((M0 12).toInt = 137 → (M5 12).toInt = 137) from hk)
      obtain ⟨_, _, hst1⟩ := (show (M5 21).toInt = (M2 21).toInt ∧ (M5 64).toInt = (M2 64).toInt ∧ ((M2 12).toInt = 137 → (M5 12).toInt = 137) from hk1)
      obtain ⟨⟨_, _⟩, ⟨_, _⟩, ⟨_, _, _⟩, ⟨_, _⟩, ⟨_, _⟩, ⟨_, _⟩, ⟨_, _⟩⟩ := (show rI N M5 O5 from hI)
      exact spR_X7_statement_236 hN q1 sWF sWB hQ _ _ (show rI N M5 O5 from hI) (show rK M0 M5 from hk)
    · have := ti_rng (M2 12)
      have : (202 : Int32).toInt = 202 := by decide
      have hsw9 := congrArg Int32.toInt hsw
      refine spR_X7_advance hN  (show rI N M2 O2 from hI) (fun M6 O6 hI hk1 => ?_)
      have hk := rK_tr (show rK M0 M2 from hk) hk1
      obtain ⟨_, _, hst⟩ := (show (M6 21).toInt = (M0 21).toInt ∧ (M6 64).toInt = (M0 64).toInt ∧ ((M0 12).toInt = 137 → (M6 12).toInt = 137) from hk)
      obtain ⟨_, _, hst1⟩ := (show (M6 21).toInt = (M2 21).toInt ∧ (M6 64).toInt = (M2 64).toInt ∧ ((M2 12).toInt = 137 → (M6 12).toInt = 137) from hk1)
      obtain ⟨⟨_, _⟩, ⟨_, _⟩, ⟨_, _, _⟩, ⟨_, _⟩, ⟨_, _⟩, ⟨_, _⟩, ⟨_, _⟩⟩ := (show rI N M6 O6 from hI)
      refine spR_X7_object hN  (show rI N M6 O6 from hI) (fun r7 M8 O8 hI hk1 => ?_)
      have hk := rK_tr (show rK M0 M6 from hk) hk1
      obtain ⟨_, _, hst⟩ := (show (M8 21).toInt = (M0 21).toInt ∧ (M8 64).toInt = (M0 64).toInt ∧ ((M0 12).toInt = 137 → (M8 12).toInt = 137) from hk)
      obtain ⟨_, _, hst1⟩ := (show (M8 21).toInt = (M6 21).toInt ∧ (M8 64).toInt = (M6 64).toInt ∧ ((M6 12).toInt = 137 → (M8 12).toInt = 137) from hk1)
      obtain ⟨⟨_, _⟩, ⟨_, _⟩, ⟨_, _, _⟩, ⟨_, _⟩, ⟨_, _⟩, ⟨_, _⟩, ⟨_, _⟩⟩ := (show rI N M8 O8 from hI)
      have : (61 : Int32).toInt = 61 := by decide
      refine spR_X7_take hN _ (show rI N M8 O8 from hI) (fun M9 O9 hI hk1 => ?_)
      have hk := rK_tr (show rK M0 M8 from hk) hk1
      obtain ⟨_, _, hst⟩ := (show (M9 21).toInt = (M0 21).toInt ∧ (M9 64).toInt = (M0 64).toInt ∧ ((M0 12).toInt = 137 → (M9 12).toInt = 137) from hk)
      obtain ⟨_, _, hst1⟩ := (show (M9 21).toInt = (M8 21).toInt ∧ (M9 64).toInt = (M8 64).toInt ∧ ((M8 12).toInt = 137 → (M9 12).toInt = 137) from hk1)
      obtain ⟨⟨_, _⟩, ⟨_, _⟩, ⟨_, _, _⟩, ⟨_, _⟩, ⟨_, _⟩, ⟨_, _⟩, ⟨_, _⟩⟩ := (show rI N M9 O9 from hI)
      have := ti_rng (M9 12)
      refine spR_X9_isKind hN _ (show rI N M9 O9 from hI) (fun r10 => ?_)
      refine ⟨fun hc12 => ?_, fun hc12 => ?_⟩
      · have := ti_rng r10
        have hc129 := congrArg Int32.toInt hc12
        have := ti_rng r7
        refine spR_X7_otherObjection hN _ (show rI N M9 O9 from hI) (fun M13 O13 hI hk1 => ?_)
        have hk := rK_tr (show rK M0 M9 from hk) hk1
        obtain ⟨_, _, hst⟩ := (show (M13 21).toInt = (M0 21).toInt ∧ (M13 64).toInt = (M0 64).toInt ∧ ((M0 12).toInt = 137 → (M13 12).toInt = 137) from hk)
        obtain ⟨_, _, hst1⟩ := (show (M13 21).toInt = (M9 21).toInt ∧ (M13 64).toInt = (M9 64).toInt ∧ ((M9 12).toInt = 137 → (M13 12).toInt = 137) from hk1)
        obtain ⟨⟨_, _⟩, ⟨_, _⟩, ⟨_, _, _⟩, ⟨_, _⟩, ⟨_, _⟩, ⟨_, _⟩, ⟨_, _⟩⟩ := (show rI N M13 O13 from hI)
        exact spR_X7_statement_236 hN q1 sWF sWB hQ _ _ (show rI N M13 O13 from hI) (show rK M0 M13 from hk)
      · have := ti_rng r10
        have hc129 := ti_ne hc12
        have := ti_rng r7
        have := ti_rng q1
        refine spR_X7_newObjection hN sWF _ _ (show rI N M9 O9 from hI) (show 0 ≤ q1.toInt ∧ q1.toInt ≤ 20 ∧ 22 ≤ (dF : Int) from by omega) (fun M14 O14 hI hk1 => ?_)
        have hk := rK_tr (show rK M0 M9 from hk) hk1
        obtain ⟨_, _, hst⟩ := (show (M14 21).toInt = (M0 21).toInt ∧ (M14 64).toInt = (M0 64).toInt ∧ ((M0 12).toInt = 137 → (M14 12).toInt = 137) from hk)
        obtain ⟨_, _, hst1⟩ := (show (M14 21).toInt = (M9 21).toInt ∧ (M14 64).toInt = (M9 64).toInt ∧ ((M9 12).toInt = 137 → (M14 12).toInt = 137) from hk1)
        obtain ⟨⟨_, _⟩, ⟨_, _⟩, ⟨_, _, _⟩, ⟨_, _⟩, ⟨_, _⟩, ⟨_, _⟩, ⟨_, _⟩⟩ := (show rI N M14 O14 from hI)
        exact spR_X7_statement_236 hN q1 sWF sWB hQ _ _ (show rI N M14 O14 from hI) (show rK M0 M14 from hk)
    · have := ti_rng (M2 12)
      have : (206 : Int32).toInt = 206 := by decide
      have hsw9 := congrArg Int32.toInt hsw
      refine spR_X7_raising hN  (show rI N M2 O2 from hI) (fun M15 O15 hI hk1 => ?_)
      have hk := rK_tr (show rK M0 M2 from hk) hk1
      obtain ⟨_, _, hst⟩ := (show (M15 21).toInt = (M0 21).toInt ∧ (M15 64).toInt = (M0 64).toInt ∧ ((M0 12).toInt = 137 → (M15 12).toInt = 137) from hk)
      obtain ⟨_, _, hst1⟩ := (show (M15 21).toInt = (M2 21).toInt ∧ (M15 64).toInt = (M2 64).toInt ∧ ((M2 12).toInt = 137 → (M15 12).toInt = 137) from hk1)
      obtain ⟨⟨_, _⟩, ⟨_, _⟩, ⟨_, _, _⟩, ⟨_, _⟩, ⟨_, _⟩, ⟨_, _⟩, ⟨_, _⟩⟩ := (show rI N M15 O15 from hI)
      exact spR_X7_statement_236 hN q1 sWF sWB hQ _ _ (show rI N M15 O15 from hI) (show rK M0 M15 from hk)
    · have := ti_rng (M2 12)
      have : (207 : Int32).toInt = 207 := by decide
      have hsw9 := congrArg Int32.toInt hsw
      refine spR_X7_joining hN  (show rI N M2 O2 from hI) (fun M16 O16 hI hk1 => ?_)
      have hk := rK_tr (show rK M0 M2 from hk) hk1
      obtain ⟨_, _, hst⟩ := (show (M16 21).toInt = (M0 21).toInt ∧ (M16 64).toInt = (M0 64).toInt ∧ ((M0 12).toInt = 137 → (M16 12).toInt = 137) from hk)
      obtain ⟨_, _, hst1⟩ := (show (M16 21).toInt = (M2 21).toInt ∧ (M16 64).toInt = (M2 64).toInt ∧ ((M2 12).toInt = 137 → (M16 12).toInt = 137) from hk1)
      obtain ⟨⟨_, _⟩, ⟨_, _⟩, ⟨_, _, _⟩, ⟨_, _⟩, ⟨_, _⟩, ⟨_, _⟩, ⟨_, _⟩⟩ := (show rI N M16 O16 from hI)
      exact spR_X7_statement_236 hN q1 sWF sWB hQ _ _ (show rI N M16 O16 from hI) (show rK M0 M16 from hk)
    · have := ti_rng (M2 12)
      have : (209 : Int32).toInt = 209 := by decide
      have hsw9 := congrArg Int32.toInt hsw
      have := ti_rng q1
      refine spR_X7_noting hN sWF _ (show rI N M2 O2 from hI) (show 0 ≤ q1.toInt ∧ q1.toInt ≤ 20 ∧ 22 ≤ (dF : Int) from by omega) (fun M17 O17 hI hk1 => ?_)
      have hk := rK_tr (show rK M0 M2 from hk) hk1
      obtain ⟨_, _, hst⟩ := (show (M17 21).toInt = (M0 21).toInt ∧ (M17 64).toInt = (M0 64).toInt ∧ ((M0 12).toInt = 137 → (M17 12).toInt = 137) from hk)
      obtain ⟨_, _, hst1⟩ := (show (M17 21).toInt = (M2 21).toInt ∧ (M17 64).toInt = (M2 64).toInt ∧ ((M2 12).toInt = 137 → (M17 12).toInt = 137) from hk1)
      obtain ⟨⟨_, _⟩, ⟨_, _⟩, ⟨_, _, _⟩, ⟨_, _⟩, ⟨_, _⟩, ⟨_, _⟩, ⟨_, _⟩⟩ := (show rI N M17 O17 from hI)
      exact spR_X7_statement_236 hN q1 sWF sWB hQ _ _ (show rI N M17 O17 from hI) (show rK M0 M17 from hk)
    · have := ti_rng (M2 12)
      have : (210 : Int32).toInt = 210 := by decide
      have hsw9 := congrArg Int32.toInt hsw
      have := ti_rng q1
      refine spR_X7_hearingOther hN sWF _ (show rI N M2 O2 from hI) (show 0 ≤ q1.toInt ∧ q1.toInt ≤ 20 ∧ 22 ≤ (dF : Int) from by omega) (fun M18 O18 hI hk1 => ?_)
      have hk := rK_tr (show rK M0 M2 from hk) hk1
      obtain ⟨_, _, hst⟩ := (show (M18 21).toInt = (M0 21).toInt ∧ (M18 64).toInt = (M0 64).toInt ∧ ((M0 12).toInt = 137 → (M18 12).toInt = 137) from hk)
      obtain ⟨_, _, hst1⟩ := (show (M18 21).toInt = (M2 21).toInt ∧ (M18 64).toInt = (M2 64).toInt ∧ ((M2 12).toInt = 137 → (M18 12).toInt = 137) from hk1)
      obtain ⟨⟨_, _⟩, ⟨_, _⟩, ⟨_, _, _⟩, ⟨_, _⟩, ⟨_, _⟩, ⟨_, _⟩, ⟨_, _⟩⟩ := (show rI N M18 O18 from hI)
      exact spR_X7_statement_236 hN q1 sWF sWB hQ _ _ (show rI N M18 O18 from hI) (show rK M0 M18 from hk)
    · have := ti_rng (M2 12)
      have : (212 : Int32).toInt = 212 := by decide
      have hsw9 := congrArg Int32.toInt hsw
      have := ti_rng q1
      refine spR_X7_resting hN sWF _ (show rI N M2 O2 from hI) (show 0 ≤ q1.toInt ∧ q1.toInt ≤ 20 ∧ 22 ≤ (dF : Int) from by omega) (fun M19 O19 hI hk1 => ?_)
      have hk := rK_tr (show rK M0 M2 from hk) hk1
      obtain ⟨_, _, hst⟩ := (show (M19 21).toInt = (M0 21).toInt ∧ (M19 64).toInt = (M0 64).toInt ∧ ((M0 12).toInt = 137 → (M19 12).toInt = 137) from hk)
      obtain ⟨_, _, hst1⟩ := (show (M19 21).toInt = (M2 21).toInt ∧ (M19 64).toInt = (M2 64).toInt ∧ ((M2 12).toInt = 137 → (M19 12).toInt = 137) from hk1)
      obtain ⟨⟨_, _⟩, ⟨_, _⟩, ⟨_, _, _⟩, ⟨_, _⟩, ⟨_, _⟩, ⟨_, _⟩, ⟨_, _⟩⟩ := (show rI N M19 O19 from hI)
      exact spR_X7_statement_236 hN q1 sWF sWB hQ _ _ (show rI N M19 O19 from hI) (show rK M0 M19 from hk)
    · have := ti_rng (M2 12)
      refine spR_X7_fail hN  (show rI N M2 O2 from hI) (fun M20 O20 hI hk1 hp20 => ?_)
      have hk := rK_tr (show rK M0 M2 from hk) hk1
      obtain ⟨_, _, hst⟩ := (show (M20 21).toInt = (M0 21).toInt ∧ (M20 64).toInt = (M0 64).toInt ∧ ((M0 12).toInt = 137 → (M20 12).toInt = 137) from hk)
      obtain ⟨_, _, hst1⟩ := (show (M20 21).toInt = (M2 21).toInt ∧ (M20 64).toInt = (M2 64).toInt ∧ ((M2 12).toInt = 137 → (M20 12).toInt = 137) from hk1)
      obtain ⟨⟨_, _⟩, ⟨_, _⟩, ⟨_, _, _⟩, ⟨_, _⟩, ⟨_, _⟩, ⟨_, _⟩, ⟨_, _⟩⟩ := (show rI N M20 O20 from hI)
      exact spR_X7_statement_236 hN q1 sWF sWB hQ _ _ (show rI N M20 O20 from hI) (show rK M0 M20 from hk)
  · have := ti_rng (M0 12)
    have : (215 : Int32).toInt = 215 := by decide
    have hsw9 := congrArg Int32.toInt hsw
    have := ti_rng q1
    refine spR_X7_loop hN sWF sWB _ (show rI N M0 O from hI) (show 0 ≤ q1.toInt ∧ q1.toInt ≤ 20 ∧ 21 - q1.toInt ≤ (dB : Int) ∧ 22 ≤ (dF : Int) from by omega) (fun M21 O21 hI hk1 => ?_)
    have hk := rK_tr (show rK M0 M0 from hk) hk1
    obtain ⟨_, _, hst⟩ := (show (M21 21).toInt = (M0 21).toInt ∧ (M21 64).toInt = (M0 64).toInt ∧ ((M0 12).toInt = 137 → (M21 12).toInt = 137) from hk)
    obtain ⟨_, _, hst1⟩ := (show (M21 21).toInt = (M0 21).toInt ∧ (M21 64).toInt = (M0 64).toInt ∧ ((M0 12).toInt = 137 → (M21 12).toInt = 137) from hk1)
    obtain ⟨⟨_, _⟩, ⟨_, _⟩, ⟨_, _, _⟩, ⟨_, _⟩, ⟨_, _⟩, ⟨_, _⟩, ⟨_, _⟩⟩ := (show rI N M21 O21 from hI)
    exact hQ _ _ (show rI N M21 O21 from hI) (show rK M0 M21 from hk)
  · have := ti_rng (M0 12)
    have : (216 : Int32).toInt = 216 := by decide
    have hsw9 := congrArg Int32.toInt hsw
    have := ti_rng q1
    refine spR_X7_attempt hN sWB _ (show rI N M0 O from hI) (show 0 ≤ q1.toInt ∧ q1.toInt ≤ 20 ∧ 21 - q1.toInt ≤ (dB : Int) ∧ 22 ≤ (dF : Int) from by omega) (fun M22 O22 hI hk1 => ?_)
    have hk := rK_tr (show rK M0 M0 from hk) hk1
    obtain ⟨_, _, hst⟩ := (show (M22 21).toInt = (M0 21).toInt ∧ (M22 64).toInt = (M0 64).toInt ∧ ((M0 12).toInt = 137 → (M22 12).toInt = 137) from hk)
    obtain ⟨_, _, hst1⟩ := (show (M22 21).toInt = (M0 21).toInt ∧ (M22 64).toInt = (M0 64).toInt ∧ ((M0 12).toInt = 137 → (M22 12).toInt = 137) from hk1)
    obtain ⟨⟨_, _⟩, ⟨_, _⟩, ⟨_, _, _⟩, ⟨_, _⟩, ⟨_, _⟩, ⟨_, _⟩, ⟨_, _⟩⟩ := (show rI N M22 O22 from hI)
    exact hQ _ _ (show rI N M22 O22 from hI) (show rK M0 M22 from hk)
  · have := ti_rng (M0 12)
    have : (0 : Int32).toInt = 0 := by decide
    refine spR_X7_emit hN _ (show rI N M0 O from hI) (fun M23 O23 hI hk1 => ?_)
    have hk := rK_tr (show rK M0 M0 from hk) hk1
    obtain ⟨_, _, hst⟩ := (show (M23 21).toInt = (M0 21).toInt ∧ (M23 64).toInt = (M0 64).toInt ∧ ((M0 12).toInt = 137 → (M23 12).toInt = 137) from hk)
    obtain ⟨_, _, hst1⟩ := (show (M23 21).toInt = (M0 21).toInt ∧ (M23 64).toInt = (M0 64).toInt ∧ ((M0 12).toInt = 137 → (M23 12).toInt = 137) from hk1)
    obtain ⟨⟨_, _⟩, ⟨_, _⟩, ⟨_, _, _⟩, ⟨_, _⟩, ⟨_, _⟩, ⟨_, _⟩, ⟨_, _⟩⟩ := (show rI N M23 O23 from hI)
    refine ⟨fun hsw => ?_, fun hsw => ?_, fun hsw => ?_, fun hsw => ?_, fun hsw => ?_, fun hsw => ?_, fun hsw => ?_, fun hsw => ?_, fun hsw0 hsw1 hsw2 hsw3 hsw4 hsw5 hsw6 hsw7 => ?_⟩
    · have := ti_rng (M23 12)
      have : (130 : Int32).toInt = 130 := by decide
      have hsw9 := congrArg Int32.toInt hsw
      have := ti_rng q1
      refine spR_X7_assignment hN sWF _ (show rI N M23 O23 from hI) (show 0 ≤ q1.toInt ∧ q1.toInt ≤ 20 ∧ 22 ≤ (dF : Int) from by omega) (fun M24 O24 hI hk1 => ?_)
      have hk := rK_tr (show rK M0 M23 from hk) hk1
      obtain ⟨_, _, hst⟩ := (show (M24 21).toInt = (M0 21).toInt ∧ (M24 64).toInt = (M0 64).toInt ∧ ((M0 12).toInt = 137 → (M24 12).toInt = 137) from hk)
      obtain ⟨_, _, hst1⟩ := (show (M24 21).toInt = (M23 21).toInt ∧ (M24 64).toInt = (M23 64).toInt ∧ ((M23 12).toInt = 137 → (M24 12).toInt = 137) from hk1)
      obtain ⟨⟨_, _⟩, ⟨_, _⟩, ⟨_, _, _⟩, ⟨_, _⟩, ⟨_, _⟩, ⟨_, _⟩, ⟨_, _⟩⟩ := (show rI N M24 O24 from hI)
      exact spR_X7_statement_236 hN q1 sWF sWB hQ _ _ (show rI N M24 O24 from hI) (show rK M0 M24 from hk)
    · have := ti_rng (M23 12)
      have : (201 : Int32).toInt = 201 := by decide
      have hsw9 := congrArg Int32.toInt hsw
      have := ti_rng q1
      refine spR_X7_let hN sWF _ (show rI N M23 O23 from hI) (show 0 ≤ q1.toInt ∧ q1.toInt ≤ 20 ∧ 22 ≤ (dF : Int) from by omega) (fun M25 O25 hI hk1 => ?_)
      have hk := rK_tr (show rK M0 M23 from hk) hk1
      obtain ⟨_, _, hst⟩ := (show (M25 21).toInt = (M0 21).toInt ∧ (M25 64).toInt = (M0 64).toInt ∧ ((M0 12).toInt = 137 → (M25 12).toInt = 137) from hk)
      obtain ⟨_, _, hst1⟩ := (show (M25 21).toInt = (M23 21).toInt ∧ (M25 64).toInt = (M23 64).toInt ∧ ((M23 12).toInt = 137 → (M25 12).toInt = 137) from hk1)
      obtain ⟨⟨_, _⟩, ⟨_, _⟩, ⟨_, _, _⟩, ⟨_, _⟩, ⟨_, _⟩, ⟨_, _⟩, ⟨_, _⟩⟩ := (show rI N M25 O25 from hI)
      exact spR_X7_statement_236 hN q1 sWF sWB hQ _ _ (show rI N M25 O25 from hI) (show rK M0 M25 from hk)
    · have := ti_rng (M23 12)
      have : (202 : Int32).toInt = 202 := by decide
      have hsw9 := congrArg Int32.toInt hsw
      refine spR_X7_advance hN  (show rI N M23 O23 from hI) (fun M26 O26 hI hk1 => ?_)
      have hk := rK_tr (show rK M0 M23 from hk) hk1
      obtain ⟨_, _, hst⟩ := (show (M26 21).toInt = (M0 21).toInt ∧ (M26 64).toInt = (M0 64).toInt ∧ ((M0 12).toInt = 137 → (M26 12).toInt = 137) from hk)
      obtain ⟨_, _, hst1⟩ := (show (M26 21).toInt = (M23 21).toInt ∧ (M26 64).toInt = (M23 64).toInt ∧ ((M23 12).toInt = 137 → (M26 12).toInt = 137) from hk1)
      obtain ⟨⟨_, _⟩, ⟨_, _⟩, ⟨_, _, _⟩, ⟨_, _⟩, ⟨_, _⟩, ⟨_, _⟩, ⟨_, _⟩⟩ := (show rI N M26 O26 from hI)
      refine spR_X7_object hN  (show rI N M26 O26 from hI) (fun r27 M28 O28 hI hk1 => ?_)
      have hk := rK_tr (show rK M0 M26 from hk) hk1
      obtain ⟨_, _, hst⟩ := (show (M28 21).toInt = (M0 21).toInt ∧ (M28 64).toInt = (M0 64).toInt ∧ ((M0 12).toInt = 137 → (M28 12).toInt = 137) from hk)
      obtain ⟨_, _, hst1⟩ := (show (M28 21).toInt = (M26 21).toInt ∧ (M28 64).toInt = (M26 64).toInt ∧ ((M26 12).toInt = 137 → (M28 12).toInt = 137) from hk1)
      obtain ⟨⟨_, _⟩, ⟨_, _⟩, ⟨_, _, _⟩, ⟨_, _⟩, ⟨_, _⟩, ⟨_, _⟩, ⟨_, _⟩⟩ := (show rI N M28 O28 from hI)
      have : (61 : Int32).toInt = 61 := by decide
      refine spR_X7_take hN _ (show rI N M28 O28 from hI) (fun M29 O29 hI hk1 => ?_)
      have hk := rK_tr (show rK M0 M28 from hk) hk1
      obtain ⟨_, _, hst⟩ := (show (M29 21).toInt = (M0 21).toInt ∧ (M29 64).toInt = (M0 64).toInt ∧ ((M0 12).toInt = 137 → (M29 12).toInt = 137) from hk)
      obtain ⟨_, _, hst1⟩ := (show (M29 21).toInt = (M28 21).toInt ∧ (M29 64).toInt = (M28 64).toInt ∧ ((M28 12).toInt = 137 → (M29 12).toInt = 137) from hk1)
      obtain ⟨⟨_, _⟩, ⟨_, _⟩, ⟨_, _, _⟩, ⟨_, _⟩, ⟨_, _⟩, ⟨_, _⟩, ⟨_, _⟩⟩ := (show rI N M29 O29 from hI)
      have := ti_rng (M29 12)
      refine spR_X9_isKind hN _ (show rI N M29 O29 from hI) (fun r30 => ?_)
      refine ⟨fun hc32 => ?_, fun hc32 => ?_⟩
      · have := ti_rng r30
        have hc329 := congrArg Int32.toInt hc32
        have := ti_rng r27
        refine spR_X7_otherObjection hN _ (show rI N M29 O29 from hI) (fun M33 O33 hI hk1 => ?_)
        have hk := rK_tr (show rK M0 M29 from hk) hk1
        obtain ⟨_, _, hst⟩ := (show (M33 21).toInt = (M0 21).toInt ∧ (M33 64).toInt = (M0 64).toInt ∧ ((M0 12).toInt = 137 → (M33 12).toInt = 137) from hk)
        obtain ⟨_, _, hst1⟩ := (show (M33 21).toInt = (M29 21).toInt ∧ (M33 64).toInt = (M29 64).toInt ∧ ((M29 12).toInt = 137 → (M33 12).toInt = 137) from hk1)
        obtain ⟨⟨_, _⟩, ⟨_, _⟩, ⟨_, _, _⟩, ⟨_, _⟩, ⟨_, _⟩, ⟨_, _⟩, ⟨_, _⟩⟩ := (show rI N M33 O33 from hI)
        exact spR_X7_statement_236 hN q1 sWF sWB hQ _ _ (show rI N M33 O33 from hI) (show rK M0 M33 from hk)
      · have := ti_rng r30
        have hc329 := ti_ne hc32
        have := ti_rng r27
        have := ti_rng q1
        refine spR_X7_newObjection hN sWF _ _ (show rI N M29 O29 from hI) (show 0 ≤ q1.toInt ∧ q1.toInt ≤ 20 ∧ 22 ≤ (dF : Int) from by omega) (fun M34 O34 hI hk1 => ?_)
        have hk := rK_tr (show rK M0 M29 from hk) hk1
        obtain ⟨_, _, hst⟩ := (show (M34 21).toInt = (M0 21).toInt ∧ (M34 64).toInt = (M0 64).toInt ∧ ((M0 12).toInt = 137 → (M34 12).toInt = 137) from hk)
        obtain ⟨_, _, hst1⟩ := (show (M34 21).toInt = (M29 21).toInt ∧ (M34 64).toInt = (M29 64).toInt ∧ ((M29 12).toInt = 137 → (M34 12).toInt = 137) from hk1)
        obtain ⟨⟨_, _⟩, ⟨_, _⟩, ⟨_, _, _⟩, ⟨_, _⟩, ⟨_, _⟩, ⟨_, _⟩, ⟨_, _⟩⟩ := (show rI N M34 O34 from hI)
        exact spR_X7_statement_236 hN q1 sWF sWB hQ _ _ (show rI N M34 O34 from hI) (show rK M0 M34 from hk)
    · have := ti_rng (M23 12)
      have : (206 : Int32).toInt = 206 := by decide
      have hsw9 := congrArg Int32.toInt hsw
      refine spR_X7_raising hN  (show rI N M23 O23 from hI) (fun M35 O35 hI hk1 => ?_)
      have hk := rK_tr (show rK M0 M23 from hk) hk1
      obtain ⟨_, _, hst⟩ := (show (M35 21).toInt = (M0 21).toInt ∧ (M35 64).toInt = (M0 64).toInt ∧ ((M0 12).toInt = 137 → (M35 12).toInt = 137) from hk)
      obtain ⟨_, _, hst1⟩ := (show (M35 21).toInt = (M23 21).toInt ∧ (M35 64).toInt = (M23 64).toInt ∧ ((M23 12).toInt = 137 → (M35 12).toInt = 137) from hk1)
      obtain ⟨⟨_, _⟩, ⟨_, _⟩, ⟨_, _, _⟩, ⟨_, _⟩, ⟨_, _⟩, ⟨_, _⟩, ⟨_, _⟩⟩ := (show rI N M35 O35 from hI)
      exact spR_X7_statement_236 hN q1 sWF sWB hQ _ _ (show rI N M35 O35 from hI) (show rK M0 M35 from hk)
    · have := ti_rng (M23 12)
      have : (207 : Int32).toInt = 207 := by decide
      have hsw9 := congrArg Int32.toInt hsw
      refine spR_X7_joining hN  (show rI N M23 O23 from hI) (fun M36 O36 hI hk1 => ?_)
      have hk := rK_tr (show rK M0 M23 from hk) hk1
      obtain ⟨_, _, hst⟩ := (show (M36 21).toInt = (M0 21).toInt ∧ (M36 64).toInt = (M0 64).toInt ∧ ((M0 12).toInt = 137 → (M36 12).toInt = 137) from hk)
      obtain ⟨_, _, hst1⟩ := (show (M36 21).toInt = (M23 21).toInt ∧ (M36 64).toInt = (M23 64).toInt ∧ ((M23 12).toInt = 137 → (M36 12).toInt = 137) from hk1)
      obtain ⟨⟨_, _⟩, ⟨_, _⟩, ⟨_, _, _⟩, ⟨_, _⟩, ⟨_, _⟩, ⟨_, _⟩, ⟨_, _⟩⟩ := (show rI N M36 O36 from hI)
      exact spR_X7_statement_236 hN q1 sWF sWB hQ _ _ (show rI N M36 O36 from hI) (show rK M0 M36 from hk)
    · have := ti_rng (M23 12)
      have : (209 : Int32).toInt = 209 := by decide
      have hsw9 := congrArg Int32.toInt hsw
      have := ti_rng q1
      refine spR_X7_noting hN sWF _ (show rI N M23 O23 from hI) (show 0 ≤ q1.toInt ∧ q1.toInt ≤ 20 ∧ 22 ≤ (dF : Int) from by omega) (fun M37 O37 hI hk1 => ?_)
      have hk := rK_tr (show rK M0 M23 from hk) hk1
      obtain ⟨_, _, hst⟩ := (show (M37 21).toInt = (M0 21).toInt ∧ (M37 64).toInt = (M0 64).toInt ∧ ((M0 12).toInt = 137 → (M37 12).toInt = 137) from hk)
      obtain ⟨_, _, hst1⟩ := (show (M37 21).toInt = (M23 21).toInt ∧ (M37 64).toInt = (M23 64).toInt ∧ ((M23 12).toInt = 137 → (M37 12).toInt = 137) from hk1)
      obtain ⟨⟨_, _⟩, ⟨_, _⟩, ⟨_, _, _⟩, ⟨_, _⟩, ⟨_, _⟩, ⟨_, _⟩, ⟨_, _⟩⟩ := (show rI N M37 O37 from hI)
      exact spR_X7_statement_236 hN q1 sWF sWB hQ _ _ (show rI N M37 O37 from hI) (show rK M0 M37 from hk)
    · have := ti_rng (M23 12)
      have : (210 : Int32).toInt = 210 := by decide
      have hsw9 := congrArg Int32.toInt hsw
      have := ti_rng q1
      refine spR_X7_hearingOther hN sWF _ (show rI N M23 O23 from hI) (show 0 ≤ q1.toInt ∧ q1.toInt ≤ 20 ∧ 22 ≤ (dF : Int) from by omega) (fun M38 O38 hI hk1 => ?_)
      have hk := rK_tr (show rK M0 M23 from hk) hk1
      obtain ⟨_, _, hst⟩ := (show (M38 21).toInt = (M0 21).toInt ∧ (M38 64).toInt = (M0 64).toInt ∧ ((M0 12).toInt = 137 → (M38 12).toInt = 137) from hk)
      obtain ⟨_, _, hst1⟩ := (show (M38 21).toInt = (M23 21).toInt ∧ (M38 64).toInt = (M23 64).toInt ∧ ((M23 12).toInt = 137 → (M38 12).toInt = 137) from hk1)
      obtain ⟨⟨_, _⟩, ⟨_, _⟩, ⟨_, _, _⟩, ⟨_, _⟩, ⟨_, _⟩, ⟨_, _⟩, ⟨_, _⟩⟩ := (show rI N M38 O38 from hI)
      exact spR_X7_statement_236 hN q1 sWF sWB hQ _ _ (show rI N M38 O38 from hI) (show rK M0 M38 from hk)
    · have := ti_rng (M23 12)
      have : (212 : Int32).toInt = 212 := by decide
      have hsw9 := congrArg Int32.toInt hsw
      have := ti_rng q1
      refine spR_X7_resting hN sWF _ (show rI N M23 O23 from hI) (show 0 ≤ q1.toInt ∧ q1.toInt ≤ 20 ∧ 22 ≤ (dF : Int) from by omega) (fun M39 O39 hI hk1 => ?_)
      have hk := rK_tr (show rK M0 M23 from hk) hk1
      obtain ⟨_, _, hst⟩ := (show (M39 21).toInt = (M0 21).toInt ∧ (M39 64).toInt = (M0 64).toInt ∧ ((M0 12).toInt = 137 → (M39 12).toInt = 137) from hk)
      obtain ⟨_, _, hst1⟩ := (show (M39 21).toInt = (M23 21).toInt ∧ (M39 64).toInt = (M23 64).toInt ∧ ((M23 12).toInt = 137 → (M39 12).toInt = 137) from hk1)
      obtain ⟨⟨_, _⟩, ⟨_, _⟩, ⟨_, _, _⟩, ⟨_, _⟩, ⟨_, _⟩, ⟨_, _⟩, ⟨_, _⟩⟩ := (show rI N M39 O39 from hI)
      exact spR_X7_statement_236 hN q1 sWF sWB hQ _ _ (show rI N M39 O39 from hI) (show rK M0 M39 from hk)
    · have := ti_rng (M23 12)
      refine spR_X7_fail hN  (show rI N M23 O23 from hI) (fun M40 O40 hI hk1 hp40 => ?_)
      have hk := rK_tr (show rK M0 M23 from hk) hk1
      obtain ⟨_, _, hst⟩ := (show (M40 21).toInt = (M0 21).toInt ∧ (M40 64).toInt = (M0 64).toInt ∧ ((M0 12).toInt = 137 → (M40 12).toInt = 137) from hk)
      obtain ⟨_, _, hst1⟩ := (show (M40 21).toInt = (M23 21).toInt ∧ (M40 64).toInt = (M23 64).toInt ∧ ((M23 12).toInt = 137 → (M40 12).toInt = 137) from hk1)
      obtain ⟨⟨_, _⟩, ⟨_, _⟩, ⟨_, _, _⟩, ⟨_, _⟩, ⟨_, _⟩, ⟨_, _⟩, ⟨_, _⟩⟩ := (show rI N M40 O40 from hI)
      exact spR_X7_statement_236 hN q1 sWF sWB hQ _ _ (show rI N M40 O40 from hI) (show rK M0 M40 from hk)

