set_option maxHeartbeats 2000000 in
theorem spR_X7_keepHear {N : Nat → Nat} (hN : rN N) (q1 : Int32) (q2 : Int32) {M0 : Nat → Int32} {O : Nat × Nat} {Q : (Nat → Int32) → Nat × Nat → Prop} (hI : rI N M0 O) (hQ : ∀ (M' : Nat → Int32) (O' : Nat × Nat), rI N M' O' → rK M0 M' → Q M' O') : wR_X7_keepHear N q1 q2 M0 O Q := by
  obtain ⟨_, _, _, _, _, _, _, _, _, _, _, _, _, _, _, _⟩ := (show rN N from hN)
  obtain ⟨⟨_, _⟩, ⟨_, _⟩, ⟨_, _, _⟩, ⟨_, _⟩, ⟨_, _⟩, ⟨_, _⟩, ⟨_, _⟩⟩ := (show rI N M0 O from hI)
  have hk : rK M0 M0 := rK_rf M0
  have hQ1 := hQ
  unfold wR_X7_keepHear
  refine ⟨fun hc1 => ?_, fun hc1 => ?_⟩
  · have := nI_toInt (n := (N 26)) (by omega)
    have := ti_rng (M0 8)
    have hc1 := Int32.le_iff_toInt_le.mp hc1
    exact hQ _ _ (show rI N M0 O from hI) (show rK M0 M0 from hk)
  · have := nI_toInt (n := (N 26)) (by omega)
    have := ti_rng (M0 8)
    have hc1 := ti_nle hc1
    refine ⟨fun hc2 => ?_, fun hc2 => ?_⟩
    · have := nI_toInt (n := (N 27)) (by omega)
      have hc2 := Int32.le_iff_toInt_le.mp hc2
      exact hQ _ _ (show rI N M0 O from hI) (show rK M0 M0 from hk)
    · have := nI_toInt (n := (N 27)) (by omega)
      have hc2 := ti_nle hc2
      refine ⟨vp_in_iff.mpr (by omega), ?_⟩
      refine ⟨vp_in_iff.mpr (by omega), ?_⟩
      have : (1 : Int32).toInt = 1 := by decide
      first | have := ti_addx (M0 8) 1 (by omega) | obtain ⟨_, _, _, _⟩ := ti_add (M0 8) 1
      exact hQ _ _ (show rI N (um M0 8 ((M0 8) + 1)) O from (show (0 ≤ ((M0 8) + 1).toInt ∧ ((M0 8) + 1).toInt ≤ (N 26 : Int)) ∧ (0 ≤ (M0 11).toInt ∧ (M0 11).toInt ≤ (N 11 : Int)) ∧ (0 ≤ (M0 21).toInt ∧ (M0 21).toInt ≤ 4000 ∧ (M0 21).toInt + 1 = (N 11 : Int)) ∧ (0 ≤ (M0 26).toInt ∧ (M0 26).toInt ≤ (N 11 : Int)) ∧ (0 ≤ (M0 33).toInt ∧ (M0 33).toInt ≤ (N 14 : Int)) ∧ (0 ≤ (M0 63).toInt ∧ (M0 63).toInt ≤ (N 20 : Int)) ∧ (0 ≤ (M0 64).toInt ∧ (M0 64).toInt ≤ 5000) from by omega)) (show rK M0 (um M0 8 ((M0 8) + 1)) from hk)
set_option maxHeartbeats 2000000 in
theorem spR_X7_hearingOther_88 {N : Nat → Nat} (hN : rN N) (q1 : Int32) {WF : Int32 → (Nat → Int32) → (Nat × Nat) → ((Nat → Int32) → Nat × Nat → Prop) → Prop} {Q : (Nat → Int32) → Nat × Nat → Prop} {M0 : Nat → Int32} {dF : Nat} (sWF : ∀ (q1 : Int32) (M : Nat → Int32) (O : Nat × Nat) {Q : (Nat → Int32) → Nat × Nat → Prop}, rI N M O → (((M 12).toInt = 137 ∧ 1 ≤ (dF : Int)) ∨ (0 ≤ q1.toInt ∧ q1.toInt ≤ 20 ∧ 22 - q1.toInt ≤ (dF : Int))) → (∀ (M' : Nat → Int32) (O' : Nat × Nat), rI N M' O' → rK M M' → Q M' O') → WF q1 M O Q) (hQ : ∀ (M' : Nat → Int32) (O' : Nat × Nat), rI N M' O' → rK M0 M' → Q M' O') (a2 : Int32) (a3 : Int32) (a4 : Int32) (M : Nat → Int32) (O : Nat × Nat) (hI : rI N M O) (hk : rK M0 M) : wR_X7_hearingOther_88 N WF Q a2 a3 a4 M O := by
  obtain ⟨_, _, _, _, _, _, _, _, _, _, _, _, _, _, _, _⟩ := (show rN N from hN)
  obtain ⟨⟨_, _⟩, ⟨_, _⟩, ⟨_, _, _⟩, ⟨_, _⟩, ⟨_, _⟩, ⟨_, _⟩, ⟨_, _⟩⟩ := (show rI N M O from hI)
  unfold wR_X7_hearingOther_88
  obtain ⟨_, _, hst⟩ := (show (M 21).toInt = (M0 21).toInt ∧ (M 64).toInt = (M0 64).toInt ∧ ((M0 12).toInt = 137 → (M 12).toInt = 137) from hk)
  have : (41 : Int32).toInt = 41 := by decide
  refine spR_X7_take hN _ (show rI N M O from hI) (fun M5 O5 hI hk1 => ?_)
  have hk := rK_tr (show rK M0 M from hk) hk1
  obtain ⟨_, _, hst⟩ := (show (M5 21).toInt = (M0 21).toInt ∧ (M5 64).toInt = (M0 64).toInt ∧ ((M0 12).toInt = 137 → (M5 12).toInt = 137) from hk)
  obtain ⟨_, _, hst1⟩ := (show (M5 21).toInt = (M 21).toInt ∧ (M5 64).toInt = (M 64).toInt ∧ ((M 12).toInt = 137 → (M5 12).toInt = 137) from hk1)
  obtain ⟨⟨_, _⟩, ⟨_, _⟩, ⟨_, _, _⟩, ⟨_, _⟩, ⟨_, _⟩, ⟨_, _⟩, ⟨_, _⟩⟩ := (show rI N M5 O5 from hI)
  have : (2 : Int32).toInt = 2 := by decide
  have := ti_rng a2
  have := ti_rng a4
  refine spR_X7_emit__ hN _ _ _ (show rI N M5 O5 from hI) (fun M6 O6 hI hk1 => ?_)
  have hk := rK_tr (show rK M0 M5 from hk) hk1
  obtain ⟨_, _, hst⟩ := (show (M6 21).toInt = (M0 21).toInt ∧ (M6 64).toInt = (M0 64).toInt ∧ ((M0 12).toInt = 137 → (M6 12).toInt = 137) from hk)
  obtain ⟨_, _, hst1⟩ := (show (M6 21).toInt = (M5 21).toInt ∧ (M6 64).toInt = (M5 64).toInt ∧ ((M5 12).toInt = 137 → (M6 12).toInt = 137) from hk1)
  obtain ⟨⟨_, _⟩, ⟨_, _⟩, ⟨_, _, _⟩, ⟨_, _⟩, ⟨_, _⟩, ⟨_, _⟩, ⟨_, _⟩⟩ := (show rI N M6 O6 from hI)
  have := ti_rng (M6 63)
  first | have := ti_subx (M6 63) 2 (by omega) | obtain ⟨_, _, _, _⟩ := ti_sub (M6 63) 2
  have := ti_rng a3
  refine spR_X7_keepHear hN _ _ (show rI N M6 O6 from hI) (fun M7 O7 hI hk1 => ?_)
  have hk := rK_tr (show rK M0 M6 from hk) hk1
  obtain ⟨_, _, hst⟩ := (show (M7 21).toInt = (M0 21).toInt ∧ (M7 64).toInt = (M0 64).toInt ∧ ((M0 12).toInt = 137 → (M7 12).toInt = 137) from hk)
  obtain ⟨_, _, hst1⟩ := (show (M7 21).toInt = (M6 21).toInt ∧ (M7 64).toInt = (M6 64).toInt ∧ ((M6 12).toInt = 137 → (M7 12).toInt = 137) from hk1)
  obtain ⟨⟨_, _⟩, ⟨_, _⟩, ⟨_, _, _⟩, ⟨_, _⟩, ⟨_, _⟩, ⟨_, _⟩, ⟨_, _⟩⟩ := (show rI N M7 O7 from hI)
  refine ⟨fun hc8 => ?_, fun hc8 => ?_⟩
  · have := ti_rng (M7 12)
    have : (211 : Int32).toInt = 211 := by decide
    have hc89 := ti_ne hc8
    have : (10 : Int32).toInt = 10 := by decide
    refine spR_X7_emit hN _ (show rI N M7 O7 from hI) (fun M9 O9 hI hk1 => ?_)
    have hk := rK_tr (show rK M0 M7 from hk) hk1
    obtain ⟨_, _, hst⟩ := (show (M9 21).toInt = (M0 21).toInt ∧ (M9 64).toInt = (M0 64).toInt ∧ ((M0 12).toInt = 137 → (M9 12).toInt = 137) from hk)
    obtain ⟨_, _, hst1⟩ := (show (M9 21).toInt = (M7 21).toInt ∧ (M9 64).toInt = (M7 64).toInt ∧ ((M7 12).toInt = 137 → (M9 12).toInt = 137) from hk1)
    obtain ⟨⟨_, _⟩, ⟨_, _⟩, ⟨_, _, _⟩, ⟨_, _⟩, ⟨_, _⟩, ⟨_, _⟩, ⟨_, _⟩⟩ := (show rI N M9 O9 from hI)
    exact hQ _ _ (show rI N M9 O9 from hI) (show rK M0 M9 from hk)
  · have := ti_rng (M7 12)
    have : (211 : Int32).toInt = 211 := by decide
    have hc89 := congrArg Int32.toInt hc8
    refine spR_X7_advance hN  (show rI N M7 O7 from hI) (fun M10 O10 hI hk1 => ?_)
    have hk := rK_tr (show rK M0 M7 from hk) hk1
    obtain ⟨_, _, hst⟩ := (show (M10 21).toInt = (M0 21).toInt ∧ (M10 64).toInt = (M0 64).toInt ∧ ((M0 12).toInt = 137 → (M10 12).toInt = 137) from hk)
    obtain ⟨_, _, hst1⟩ := (show (M10 21).toInt = (M7 21).toInt ∧ (M10 64).toInt = (M7 64).toInt ∧ ((M7 12).toInt = 137 → (M10 12).toInt = 137) from hk1)
    obtain ⟨⟨_, _⟩, ⟨_, _⟩, ⟨_, _, _⟩, ⟨_, _⟩, ⟨_, _⟩, ⟨_, _⟩, ⟨_, _⟩⟩ := (show rI N M10 O10 from hI)
    refine spR_X7_name hN  (show rI N M10 O10 from hI) (fun r11 M12 O12 hI hk1 => ?_)
    have hk := rK_tr (show rK M0 M10 from hk) hk1
    obtain ⟨_, _, hst⟩ := (show (M12 21).toInt = (M0 21).toInt ∧ (M12 64).toInt = (M0 64).toInt ∧ ((M0 12).toInt = 137 → (M12 12).toInt = 137) from hk)
    obtain ⟨_, _, hst1⟩ := (show (M12 21).toInt = (M10 21).toInt ∧ (M12 64).toInt = (M10 64).toInt ∧ ((M10 12).toInt = 137 → (M12 12).toInt = 137) from hk1)
    obtain ⟨⟨_, _⟩, ⟨_, _⟩, ⟨_, _, _⟩, ⟨_, _⟩, ⟨_, _⟩, ⟨_, _⟩, ⟨_, _⟩⟩ := (show rI N M12 O12 from hI)
    have : (9 : Int32).toInt = 9 := by decide
    have := ti_rng r11
    refine spR_X7_emit_ hN _ _ (show rI N M12 O12 from hI) (fun M13 O13 hI hk1 => ?_)
    have hk := rK_tr (show rK M0 M12 from hk) hk1
    obtain ⟨_, _, hst⟩ := (show (M13 21).toInt = (M0 21).toInt ∧ (M13 64).toInt = (M0 64).toInt ∧ ((M0 12).toInt = 137 → (M13 12).toInt = 137) from hk)
    obtain ⟨_, _, hst1⟩ := (show (M13 21).toInt = (M12 21).toInt ∧ (M13 64).toInt = (M12 64).toInt ∧ ((M12 12).toInt = 137 → (M13 12).toInt = 137) from hk1)
    obtain ⟨⟨_, _⟩, ⟨_, _⟩, ⟨_, _, _⟩, ⟨_, _⟩, ⟨_, _⟩, ⟨_, _⟩, ⟨_, _⟩⟩ := (show rI N M13 O13 from hI)
    exact hQ _ _ (show rI N M13 O13 from hI) (show rK M0 M13 from hk)
set_option maxHeartbeats 2000000 in
theorem spR_X7_hearingOther_72 {N : Nat → Nat} (hN : rN N) (q1 : Int32) {WF : Int32 → (Nat → Int32) → (Nat × Nat) → ((Nat → Int32) → Nat × Nat → Prop) → Prop} {K34 : (Int32 → Int32 → Int32 → Int32 → Int32 → (Nat → Int32) → (Nat × Nat) → Prop)} {n34 : Nat} {Q : (Nat → Int32) → Nat × Nat → Prop} {M0 : Nat → Int32} {dF : Nat} (sWF : ∀ (q1 : Int32) (M : Nat → Int32) (O : Nat × Nat) {Q : (Nat → Int32) → Nat × Nat → Prop}, rI N M O → (((M 12).toInt = 137 ∧ 1 ≤ (dF : Int)) ∨ (0 ≤ q1.toInt ∧ q1.toInt ≤ 20 ∧ 22 - q1.toInt ≤ (dF : Int))) → (∀ (M' : Nat → Int32) (O' : Nat × Nat), rI N M' O' → rK M M' → Q M' O') → WF q1 M O Q) (sK34 : ∀ (a1 : Int32) (a2 : Int32) (a3 : Int32) (a4 : Int32) (a5 : Int32) (M : Nat → Int32) (O : Nat × Nat), rI N M O → rK M0 M → (0 ≤ a5.toInt ∧ a5.toInt ≤ 4001 ∧ (((M 12).toInt = 137 ∨ a1.toInt < 20) ∧ 0 ≤ a1.toInt ∧ 22 ≤ (dF : Int))) → (4001 - a5.toInt) + 1 ≤ (n34 : Int) → K34 a1 a2 a3 a4 a5 M O) (hQ : ∀ (M' : Nat → Int32) (O' : Nat × Nat), rI N M' O' → rK M0 M' → Q M' O') (a1 : Int32) (a2 : Int32) (a3 : Int32) (a4 : Int32) (a5 : Int32) (M : Nat → Int32) (O : Nat × Nat) (hI : rI N M O) (hk : rK M0 M) (hbi : ((0 ≤ a5.toInt ∧ a5.toInt ≤ 4001 ∧ (((M 12).toInt = 137 ∨ a1.toInt < 20) ∧ 0 ≤ a1.toInt ∧ 22 ≤ (dF : Int))) ∧ (4001 - a5.toInt) ≤ (n34 : Int) ∧ 1 ≤ (4001 - a5.toInt))) : wR_X7_hearingOther_72 N WF K34 Q a1 a2 a3 a4 a5 M O := by
  obtain ⟨_, _, _, _, _, _, _, _, _, _, _, _, _, _, _, _⟩ := (show rN N from hN)
  obtain ⟨⟨_, _⟩, ⟨_, _⟩, ⟨_, _, _⟩, ⟨_, _⟩, ⟨_, _⟩, ⟨_, _⟩, ⟨_, _⟩⟩ := (show rI N M O from hI)
  unfold wR_X7_hearingOther_72
  obtain ⟨_, _, hst⟩ := (show (M 21).toInt = (M0 21).toInt ∧ (M 64).toInt = (M0 64).toInt ∧ ((M0 12).toInt = 137 → (M 12).toInt = 137) from hk)
  have := ti_rng a1
  have : (1 : Int32).toInt = 1 := by decide
  first | have := ti_addx a1 1 (by omega) | obtain ⟨_, _, _, _⟩ := ti_add a1 1
  have := ti_rng (M 12)
  refine spR_X7_expression hN sWF _ (show rI N M O from hI) (show ((M 12).toInt = 137 ∧ 1 ≤ (dF : Int)) ∨ (0 ≤ (a1 + 1).toInt ∧ (a1 + 1).toInt ≤ 20 ∧ 22 - (a1 + 1).toInt ≤ (dF : Int)) from by omega) (fun M17 O17 hI hk1 => ?_)
  have hk := rK_tr (show rK M0 M from hk) hk1
  obtain ⟨_, _, hst⟩ := (show (M17 21).toInt = (M0 21).toInt ∧ (M17 64).toInt = (M0 64).toInt ∧ ((M0 12).toInt = 137 → (M17 12).toInt = 137) from hk)
  obtain ⟨_, _, hst1⟩ := (show (M17 21).toInt = (M 21).toInt ∧ (M17 64).toInt = (M 64).toInt ∧ ((M 12).toInt = 137 → (M17 12).toInt = 137) from hk1)
  obtain ⟨⟨_, _⟩, ⟨_, _⟩, ⟨_, _, _⟩, ⟨_, _⟩, ⟨_, _⟩, ⟨_, _⟩, ⟨_, _⟩⟩ := (show rI N M17 O17 from hI)
  have := ti_rng a2
  have := ti_rng a3
  have := ti_rng a4
  first | have := ti_addx a4 1 (by omega) | obtain ⟨_, _, _, _⟩ := ti_add a4 1
  have := ti_rng a5
  first | have := ti_addx a5 1 (by omega) | obtain ⟨_, _, _, _⟩ := ti_add a5 1
  have := ti_rng (M17 12)
  exact sK34 _ _ _ _ _ _ _ (show rI N M17 O17 from hI) (show rK M0 M17 from hk) (show 0 ≤ (a5 + 1).toInt ∧ (a5 + 1).toInt ≤ 4001 ∧ (((M17 12).toInt = 137 ∨ a1.toInt < 20) ∧ 0 ≤ a1.toInt ∧ 22 ≤ (dF : Int)) from by omega) (show (4001 - (a5 + 1).toInt) + 1 ≤ _ from by omega)
set_option maxHeartbeats 2000000 in
theorem spR_X7_hearingOther_34 {N : Nat → Nat} (hN : rN N) (q1 : Int32) {WF : Int32 → (Nat → Int32) → (Nat × Nat) → ((Nat → Int32) → Nat × Nat → Prop) → Prop} {Q : (Nat → Int32) → Nat × Nat → Prop} {M0 : Nat → Int32} {dF : Nat} (sWF : ∀ (q1 : Int32) (M : Nat → Int32) (O : Nat × Nat) {Q : (Nat → Int32) → Nat × Nat → Prop}, rI N M O → (((M 12).toInt = 137 ∧ 1 ≤ (dF : Int)) ∨ (0 ≤ q1.toInt ∧ q1.toInt ≤ 20 ∧ 22 - q1.toInt ≤ (dF : Int))) → (∀ (M' : Nat → Int32) (O' : Nat × Nat), rI N M' O' → rK M M' → Q M' O') → WF q1 M O Q) (hQ : ∀ (M' : Nat → Int32) (O' : Nat × Nat), rI N M' O' → rK M0 M' → Q M' O') : ∀ (n34 : Nat) (a1 : Int32) (a2 : Int32) (a3 : Int32) (a4 : Int32) (a5 : Int32) (M : Nat → Int32) (O : Nat × Nat), rI N M O → rK M0 M → (0 ≤ a5.toInt ∧ a5.toInt ≤ 4001 ∧ (((M 12).toInt = 137 ∨ a1.toInt < 20) ∧ 0 ≤ a1.toInt ∧ 22 ≤ (dF : Int))) → (4001 - a5.toInt) + 1 ≤ (n34 : Int) → wR_X7_hearingOther_34 N WF Q n34 a1 a2 a3 a4 a5 M O := by
  obtain ⟨_, _, _, _, _, _, _, _, _, _, _, _, _, _, _, _⟩ := (show rN N from hN)
  intro n34
  induction n34 with
  | zero => intro a1 a2 a3 a4 a5 M O hI hk hv hn; exact absurd hn (by omega)
  | succ n34 ih =>
    intro a1 a2 a3 a4 a5 M O hI hk hv hn
    obtain ⟨⟨_, _⟩, ⟨_, _⟩, ⟨_, _, _⟩, ⟨_, _⟩, ⟨_, _⟩, ⟨_, _⟩, ⟨_, _⟩⟩ := (show rI N M O from hI)
    dsimp only [wR_X7_hearingOther_34]
    obtain ⟨_, _, hst⟩ := (show (M 21).toInt = (M0 21).toInt ∧ (M 64).toInt = (M0 64).toInt ∧ ((M0 12).toInt = 137 → (M 12).toInt = 137) from hk)
    refine ⟨fun hc4 => ?_, fun hc4 => ?_⟩
    · have : (4000 : Int32).toInt = 4000 := by decide
      have := ti_rng a5
      have hc4 := Int32.lt_iff_toInt_lt.mp hc4
      have := ti_rng a2
      have := ti_rng a3
      have := ti_rng a4
      exact spR_X7_hearingOther_88 hN q1 sWF hQ _ _ _ _ _ (show rI N M O from hI) (show rK M0 M from hk)
    · have : (4000 : Int32).toInt = 4000 := by decide
      have := ti_rng a5
      have hc4 := ti_nlt hc4
      refine ⟨fun hc14 => ?_, fun hc14 => ?_⟩
      · have := ti_rng (M 12)
        have : (41 : Int32).toInt = 41 := by decide
        have hc149 := congrArg Int32.toInt hc14
        have := ti_rng a2
        have := ti_rng a3
        have := ti_rng a4
        exact spR_X7_hearingOther_88 hN q1 sWF hQ _ _ _ _ _ (show rI N M O from hI) (show rK M0 M from hk)
      · have := ti_rng (M 12)
        have : (41 : Int32).toInt = 41 := by decide
        have hc149 := ti_ne hc14
        refine ⟨fun hc15 => ?_, fun hc15 => ?_⟩
        · have : (137 : Int32).toInt = 137 := by decide
          have hc159 := congrArg Int32.toInt hc15
          have := ti_rng a2
          have := ti_rng a3
          have := ti_rng a4
          exact spR_X7_hearingOther_88 hN q1 sWF hQ _ _ _ _ _ (show rI N M O from hI) (show rK M0 M from hk)
        · have : (137 : Int32).toInt = 137 := by decide
          have hc159 := ti_ne hc15
          refine ⟨fun hc16 => ?_, fun hc16 => ?_⟩
          · have := ti_rng a4
            have : (0 : Int32).toInt = 0 := by decide
            have hc16 := Int32.le_iff_toInt_le.mp hc16
            have := ti_rng a1
            have := ti_rng a2
            have := ti_rng a3
            exact spR_X7_hearingOther_72 hN q1 sWF ih hQ _ _ _ _ _ _ _ (show rI N M O from hI) (show rK M0 M from hk) (show ((0 ≤ a5.toInt ∧ a5.toInt ≤ 4001 ∧ (((M 12).toInt = 137 ∨ a1.toInt < 20) ∧ 0 ≤ a1.toInt ∧ 22 ≤ (dF : Int))) ∧ (4001 - a5.toInt) ≤ (n34 : Int) ∧ 1 ≤ (4001 - a5.toInt)) from by omega)
          · have := ti_rng a4
            have : (0 : Int32).toInt = 0 := by decide
            have hc16 := ti_nle hc16
            have : (44 : Int32).toInt = 44 := by decide
            refine spR_X7_take hN _ (show rI N M O from hI) (fun M18 O18 hI hk1 => ?_)
            have hk := rK_tr (show rK M0 M from hk) hk1
            obtain ⟨_, _, hst⟩ := (show (M18 21).toInt = (M0 21).toInt ∧ (M18 64).toInt = (M0 64).toInt ∧ ((M0 12).toInt = 137 → (M18 12).toInt = 137) from hk)
            obtain ⟨_, _, hst1⟩ := (show (M18 21).toInt = (M 21).toInt ∧ (M18 64).toInt = (M 64).toInt ∧ ((M 12).toInt = 137 → (M18 12).toInt = 137) from hk1)
            obtain ⟨⟨_, _⟩, ⟨_, _⟩, ⟨_, _, _⟩, ⟨_, _⟩, ⟨_, _⟩, ⟨_, _⟩, ⟨_, _⟩⟩ := (show rI N M18 O18 from hI)
            have := ti_rng a1
            have := ti_rng a2
            have := ti_rng a3
            have := ti_rng (M18 12)
            exact spR_X7_hearingOther_72 hN q1 sWF ih hQ _ _ _ _ _ _ _ (show rI N M18 O18 from hI) (show rK M0 M18 from hk) (show ((0 ≤ a5.toInt ∧ a5.toInt ≤ 4001 ∧ (((M18 12).toInt = 137 ∨ a1.toInt < 20) ∧ 0 ≤ a1.toInt ∧ 22 ≤ (dF : Int))) ∧ (4001 - a5.toInt) ≤ (n34 : Int) ∧ 1 ≤ (4001 - a5.toInt)) from by omega)
set_option maxHeartbeats 2000000 in
theorem spR_X7_hearingOther {N : Nat → Nat} (hN : rN N) {WF : Int32 → (Nat → Int32) → (Nat × Nat) → ((Nat → Int32) → Nat × Nat → Prop) → Prop} {dF : Nat} (sWF : ∀ (q1 : Int32) (M : Nat → Int32) (O : Nat × Nat) {Q : (Nat → Int32) → Nat × Nat → Prop}, rI N M O → (((M 12).toInt = 137 ∧ 1 ≤ (dF : Int)) ∨ (0 ≤ q1.toInt ∧ q1.toInt ≤ 20 ∧ 22 - q1.toInt ≤ (dF : Int))) → (∀ (M' : Nat → Int32) (O' : Nat × Nat), rI N M' O' → rK M M' → Q M' O') → WF q1 M O Q) (q1 : Int32) {M0 : Nat → Int32} {O : Nat × Nat} {Q : (Nat → Int32) → Nat × Nat → Prop} (hI : rI N M0 O) (hpre : 0 ≤ q1.toInt ∧ q1.toInt ≤ 20 ∧ 22 ≤ (dF : Int)) (hQ : ∀ (M' : Nat → Int32) (O' : Nat × Nat), rI N M' O' → rK M0 M' → Q M' O') : wR_X7_hearingOther N WF q1 M0 O Q := by
  obtain ⟨_, _, _, _, _, _, _, _, _, _, _, _, _, _, _, _⟩ := (show rN N from hN)
  obtain ⟨⟨_, _⟩, ⟨_, _⟩, ⟨_, _, _⟩, ⟨_, _⟩, ⟨_, _⟩, ⟨_, _⟩, ⟨_, _⟩⟩ := (show rI N M0 O from hI)
  have hk : rK M0 M0 := rK_rf M0
  have hQ1 := hQ
  unfold wR_X7_hearingOther
  refine spR_X7_advance hN  (show rI N M0 O from hI) (fun M1 O1 hI hk1 => ?_)
  have hk := rK_tr (show rK M0 M0 from hk) hk1
  obtain ⟨_, _, hst⟩ := (show (M1 21).toInt = (M0 21).toInt ∧ (M1 64).toInt = (M0 64).toInt ∧ ((M0 12).toInt = 137 → (M1 12).toInt = 137) from hk)
  obtain ⟨_, _, hst1⟩ := (show (M1 21).toInt = (M0 21).toInt ∧ (M1 64).toInt = (M0 64).toInt ∧ ((M0 12).toInt = 137 → (M1 12).toInt = 137) from hk1)
  obtain ⟨⟨_, _⟩, ⟨_, _⟩, ⟨_, _, _⟩, ⟨_, _⟩, ⟨_, _⟩, ⟨_, _⟩, ⟨_, _⟩⟩ := (show rI N M1 O1 from hI)
  have : (130 : Int32).toInt = 130 := by decide
  refine spR_X7_take hN _ (show rI N M1 O1 from hI) (fun M2 O2 hI hk1 => ?_)
  have hk := rK_tr (show rK M0 M1 from hk) hk1
  obtain ⟨_, _, hst⟩ := (show (M2 21).toInt = (M0 21).toInt ∧ (M2 64).toInt = (M0 64).toInt ∧ ((M0 12).toInt = 137 → (M2 12).toInt = 137) from hk)
  obtain ⟨_, _, hst1⟩ := (show (M2 21).toInt = (M1 21).toInt ∧ (M2 64).toInt = (M1 64).toInt ∧ ((M1 12).toInt = 137 → (M2 12).toInt = 137) from hk1)
  obtain ⟨⟨_, _⟩, ⟨_, _⟩, ⟨_, _, _⟩, ⟨_, _⟩, ⟨_, _⟩, ⟨_, _⟩, ⟨_, _⟩⟩ := (show rI N M2 O2 from hI)
  have : (40 : Int32).toInt = 40 := by decide
  have := ti_rng q1
  refine spR_X7_takeOpening hN _ _ (show rI N M2 O2 from hI) (fun M3 O3 hI hk1 hp3 => ?_)
  have hk := rK_tr (show rK M0 M2 from hk) hk1
  obtain ⟨_, _, hst⟩ := (show (M3 21).toInt = (M0 21).toInt ∧ (M3 64).toInt = (M0 64).toInt ∧ ((M0 12).toInt = 137 → (M3 12).toInt = 137) from hk)
  obtain ⟨_, _, hst1⟩ := (show (M3 21).toInt = (M2 21).toInt ∧ (M3 64).toInt = (M2 64).toInt ∧ ((M2 12).toInt = 137 → (M3 12).toInt = 137) from hk1)
  obtain ⟨⟨_, _⟩, ⟨_, _⟩, ⟨_, _, _⟩, ⟨_, _⟩, ⟨_, _⟩, ⟨_, _⟩, ⟨_, _⟩⟩ := (show rI N M3 O3 from hI)
  have := ti_rng (M1 13)
  have := ti_rng (M1 14)
  have : (0 : Int32).toInt = 0 := by decide
  have := ti_rng (M3 12)
  exact ⟨((4001 - (0 : Int32).toInt) + 1).toNat, spR_X7_hearingOther_34 hN q1 sWF hQ _ _ _ _ _ _ _ _ (show rI N M3 O3 from hI) (show rK M0 M3 from hk) (show 0 ≤ (0 : Int32).toInt ∧ (0 : Int32).toInt ≤ 4001 ∧ (((M3 12).toInt = 137 ∨ q1.toInt < 20) ∧ 0 ≤ q1.toInt ∧ 22 ≤ (dF : Int)) from by omega) (show (4001 - (0 : Int32).toInt) + 1 ≤ _ from by omega)⟩
set_option maxHeartbeats 2000000 in
theorem spR_X7_resting_28 {N : Nat → Nat} (hN : rN N) (q1 : Int32) {WF : Int32 → (Nat → Int32) → (Nat × Nat) → ((Nat → Int32) → Nat × Nat → Prop) → Prop} {Q : (Nat → Int32) → Nat × Nat → Prop} {M0 : Nat → Int32} {dF : Nat} (sWF : ∀ (q1 : Int32) (M : Nat → Int32) (O : Nat × Nat) {Q : (Nat → Int32) → Nat × Nat → Prop}, rI N M O → (((M 12).toInt = 137 ∧ 1 ≤ (dF : Int)) ∨ (0 ≤ q1.toInt ∧ q1.toInt ≤ 20 ∧ 22 - q1.toInt ≤ (dF : Int))) → (∀ (M' : Nat → Int32) (O' : Nat × Nat), rI N M' O' → rK M M' → Q M' O') → WF q1 M O Q) (hQ : ∀ (M' : Nat → Int32) (O' : Nat × Nat), rI N M' O' → rK M0 M' → Q M' O') (M : Nat → Int32) (O : Nat × Nat) (hI : rI N M O) (hk : rK M0 M) : wR_X7_resting_28 N WF Q M O := by
  obtain ⟨_, _, _, _, _, _, _, _, _, _, _, _, _, _, _, _⟩ := (show rN N from hN)
  obtain ⟨⟨_, _⟩, ⟨_, _⟩, ⟨_, _, _⟩, ⟨_, _⟩, ⟨_, _⟩, ⟨_, _⟩, ⟨_, _⟩⟩ := (show rI N M O from hI)
  unfold wR_X7_resting_28
  obtain ⟨_, _, hst⟩ := (show (M 21).toInt = (M0 21).toInt ∧ (M 64).toInt = (M0 64).toInt ∧ ((M0 12).toInt = 137 → (M 12).toInt = 137) from hk)
  have : (3 : Int32).toInt = 3 := by decide
  refine spR_X7_emit hN _ (show rI N M O from hI) (fun M4 O4 hI hk1 => ?_)
  have hk := rK_tr (show rK M0 M from hk) hk1
  obtain ⟨_, _, hst⟩ := (show (M4 21).toInt = (M0 21).toInt ∧ (M4 64).toInt = (M0 64).toInt ∧ ((M0 12).toInt = 137 → (M4 12).toInt = 137) from hk)
  obtain ⟨_, _, hst1⟩ := (show (M4 21).toInt = (M 21).toInt ∧ (M4 64).toInt = (M 64).toInt ∧ ((M 12).toInt = 137 → (M4 12).toInt = 137) from hk1)
  obtain ⟨⟨_, _⟩, ⟨_, _⟩, ⟨_, _, _⟩, ⟨_, _⟩, ⟨_, _⟩, ⟨_, _⟩, ⟨_, _⟩⟩ := (show rI N M4 O4 from hI)
  exact hQ _ _ (show rI N M4 O4 from hI) (show rK M0 M4 from hk)
set_option maxHeartbeats 2000000 in
theorem spR_X7_resting {N : Nat → Nat} (hN : rN N) {WF : Int32 → (Nat → Int32) → (Nat × Nat) → ((Nat → Int32) → Nat × Nat → Prop) → Prop} {dF : Nat} (sWF : ∀ (q1 : Int32) (M : Nat → Int32) (O : Nat × Nat) {Q : (Nat → Int32) → Nat × Nat → Prop}, rI N M O → (((M 12).toInt = 137 ∧ 1 ≤ (dF : Int)) ∨ (0 ≤ q1.toInt ∧ q1.toInt ≤ 20 ∧ 22 - q1.toInt ≤ (dF : Int))) → (∀ (M' : Nat → Int32) (O' : Nat × Nat), rI N M' O' → rK M M' → Q M' O') → WF q1 M O Q) (q1 : Int32) {M0 : Nat → Int32} {O : Nat × Nat} {Q : (Nat → Int32) → Nat × Nat → Prop} (hI : rI N M0 O) (hpre : 0 ≤ q1.toInt ∧ q1.toInt ≤ 20 ∧ 22 ≤ (dF : Int)) (hQ : ∀ (M' : Nat → Int32) (O' : Nat × Nat), rI N M' O' → rK M0 M' → Q M' O') : wR_X7_resting N WF q1 M0 O Q := by
  obtain ⟨_, _, _, _, _, _, _, _, _, _, _, _, _, _, _, _⟩ := (show rN N from hN)
  obtain ⟨⟨_, _⟩, ⟨_, _⟩, ⟨_, _, _⟩, ⟨_, _⟩, ⟨_, _⟩, ⟨_, _⟩, ⟨_, _⟩⟩ := (show rI N M0 O from hI)
  have hk : rK M0 M0 := rK_rf M0
  have hQ1 := hQ
  unfold wR_X7_resting
  refine spR_X7_advance hN  (show rI N M0 O from hI) (fun M1 O1 hI hk1 => ?_)
  have hk := rK_tr (show rK M0 M0 from hk) hk1
  obtain ⟨_, _, hst⟩ := (show (M1 21).toInt = (M0 21).toInt ∧ (M1 64).toInt = (M0 64).toInt ∧ ((M0 12).toInt = 137 → (M1 12).toInt = 137) from hk)
  obtain ⟨_, _, hst1⟩ := (show (M1 21).toInt = (M0 21).toInt ∧ (M1 64).toInt = (M0 64).toInt ∧ ((M0 12).toInt = 137 → (M1 12).toInt = 137) from hk1)
  obtain ⟨⟨_, _⟩, ⟨_, _⟩, ⟨_, _, _⟩, ⟨_, _⟩, ⟨_, _⟩, ⟨_, _⟩, ⟨_, _⟩⟩ := (show rI N M1 O1 from hI)
  refine ⟨fun hc2 => ?_, fun hc2 => ?_⟩
  · have := ti_rng (M1 12)
    have : (59 : Int32).toInt = 59 := by decide
    have hc29 := ti_ne hc2
    have := ti_rng q1
    refine spR_X7_expression hN sWF _ (show rI N M1 O1 from hI) (show ((M1 12).toInt = 137 ∧ 1 ≤ (dF : Int)) ∨ (0 ≤ q1.toInt ∧ q1.toInt ≤ 20 ∧ 22 - q1.toInt ≤ (dF : Int)) from by omega) (fun M3 O3 hI hk1 => ?_)
    have hk := rK_tr (show rK M0 M1 from hk) hk1
    obtain ⟨_, _, hst⟩ := (show (M3 21).toInt = (M0 21).toInt ∧ (M3 64).toInt = (M0 64).toInt ∧ ((M0 12).toInt = 137 → (M3 12).toInt = 137) from hk)
    obtain ⟨_, _, hst1⟩ := (show (M3 21).toInt = (M1 21).toInt ∧ (M3 64).toInt = (M1 64).toInt ∧ ((M1 12).toInt = 137 → (M3 12).toInt = 137) from hk1)
    obtain ⟨⟨_, _⟩, ⟨_, _⟩, ⟨_, _, _⟩, ⟨_, _⟩, ⟨_, _⟩, ⟨_, _⟩, ⟨_, _⟩⟩ := (show rI N M3 O3 from hI)
    exact spR_X7_resting_28 hN q1 sWF hQ _ _ (show rI N M3 O3 from hI) (show rK M0 M3 from hk)
  · have := ti_rng (M1 12)
    have : (59 : Int32).toInt = 59 := by decide
    have hc29 := congrArg Int32.toInt hc2
    have : (7 : Int32).toInt = 7 := by decide
    have : (0 : Int32).toInt = 0 := by decide
    refine spR_X7_emit_ hN _ _ (show rI N M1 O1 from hI) (fun M5 O5 hI hk1 => ?_)
    have hk := rK_tr (show rK M0 M1 from hk) hk1
    obtain ⟨_, _, hst⟩ := (show (M5 21).toInt = (M0 21).toInt ∧ (M5 64).toInt = (M0 64).toInt ∧ ((M0 12).toInt = 137 → (M5 12).toInt = 137) from hk)
    obtain ⟨_, _, hst1⟩ := (show (M5 21).toInt = (M1 21).toInt ∧ (M5 64).toInt = (M1 64).toInt ∧ ((M1 12).toInt = 137 → (M5 12).toInt = 137) from hk1)
    obtain ⟨⟨_, _⟩, ⟨_, _⟩, ⟨_, _, _⟩, ⟨_, _⟩, ⟨_, _⟩, ⟨_, _⟩, ⟨_, _⟩⟩ := (show rI N M5 O5 from hI)
    exact spR_X7_resting_28 hN q1 sWF hQ _ _ (show rI N M5 O5 from hI) (show rK M0 M5 from hk)

