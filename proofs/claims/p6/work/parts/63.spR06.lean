set_option maxHeartbeats 2000000 in
theorem spR_X7_restOfSum_43 {N : Nat → Nat} (hN : rN N) (q1 : Int32) {WF : Int32 → (Nat → Int32) → (Nat × Nat) → ((Nat → Int32) → Nat × Nat → Prop) → Prop} {K2 : (Int32 → Int32 → (Nat → Int32) → (Nat × Nat) → Prop)} {n2 : Nat} {Q : (Nat → Int32) → Nat × Nat → Prop} {M0 : Nat → Int32} {dF : Nat} (sWF : ∀ (q1 : Int32) (M : Nat → Int32) (O : Nat × Nat) {Q : (Nat → Int32) → Nat × Nat → Prop}, rI N M O → (((M 12).toInt = 137 ∧ 1 ≤ (dF : Int)) ∨ (0 ≤ q1.toInt ∧ q1.toInt ≤ 20 ∧ 22 - q1.toInt ≤ (dF : Int))) → (∀ (M' : Nat → Int32) (O' : Nat × Nat), rI N M' O' → rK M M' → Q M' O') → WF q1 M O Q) (sK2 : ∀ (a1 : Int32) (a2 : Int32) (M : Nat → Int32) (O : Nat × Nat), rI N M O → rK M0 M → (0 ≤ a2.toInt ∧ a2.toInt ≤ 4001 ∧ (((M 12).toInt = 137 ∧ 1 ≤ (dF : Int)) ∨ (0 ≤ a1.toInt ∧ a1.toInt ≤ 20 ∧ 22 - a1.toInt ≤ (dF : Int)))) → (4001 - a2.toInt) + 1 ≤ (n2 : Int) → K2 a1 a2 M O) (hQ : ∀ (M' : Nat → Int32) (O' : Nat × Nat), rI N M' O' → rK M0 M' → Q M' O') (a1 : Int32) (a2 : Int32) (t0 : Int32) (M : Nat → Int32) (O : Nat × Nat) (hI : rI N M O) (hk : rK M0 M) (hbi : ((0 ≤ a2.toInt ∧ a2.toInt ≤ 4001 ∧ (((M 12).toInt = 137 ∧ 1 ≤ (dF : Int)) ∨ (0 ≤ a1.toInt ∧ a1.toInt ≤ 20 ∧ 22 - a1.toInt ≤ (dF : Int)))) ∧ (4001 - a2.toInt) ≤ (n2 : Int) ∧ 1 ≤ (4001 - a2.toInt))) : wR_X7_restOfSum_43 N WF K2 Q a1 a2 t0 M O := by
  obtain ⟨_, _, _, _, _, _, _, _, _, _, _, _, _, _, _, _⟩ := (show rN N from hN)
  obtain ⟨⟨_, _⟩, ⟨_, _⟩, ⟨_, _, _⟩, ⟨_, _⟩, ⟨_, _⟩, ⟨_, _⟩, ⟨_, _⟩⟩ := (show rI N M O from hI)
  unfold wR_X7_restOfSum_43
  obtain ⟨_, _, hst⟩ := (show (M 21).toInt = (M0 21).toInt ∧ (M 64).toInt = (M0 64).toInt ∧ ((M0 12).toInt = 137 → (M 12).toInt = 137) from hk)
  refine spR_X7_advance hN  (show rI N M O from hI) (fun M4 O4 hI hk1 => ?_)
  have hk := rK_tr (show rK M0 M from hk) hk1
  obtain ⟨_, _, hst⟩ := (show (M4 21).toInt = (M0 21).toInt ∧ (M4 64).toInt = (M0 64).toInt ∧ ((M0 12).toInt = 137 → (M4 12).toInt = 137) from hk)
  obtain ⟨_, _, hst1⟩ := (show (M4 21).toInt = (M 21).toInt ∧ (M4 64).toInt = (M 64).toInt ∧ ((M 12).toInt = 137 → (M4 12).toInt = 137) from hk1)
  obtain ⟨⟨_, _⟩, ⟨_, _⟩, ⟨_, _, _⟩, ⟨_, _⟩, ⟨_, _⟩, ⟨_, _⟩, ⟨_, _⟩⟩ := (show rI N M4 O4 from hI)
  have := ti_rng a1
  have := ti_rng (M4 12)
  refine sWF _ _ _ (show rI N M4 O4 from hI) (show ((M4 12).toInt = 137 ∧ 1 ≤ (dF : Int)) ∨ (0 ≤ a1.toInt ∧ a1.toInt ≤ 20 ∧ 22 - a1.toInt ≤ (dF : Int)) from by omega) (fun M5 O5 hI hk1 => ?_)
  have hk := rK_tr (show rK M0 M4 from hk) hk1
  obtain ⟨_, _, hst⟩ := (show (M5 21).toInt = (M0 21).toInt ∧ (M5 64).toInt = (M0 64).toInt ∧ ((M0 12).toInt = 137 → (M5 12).toInt = 137) from hk)
  obtain ⟨_, _, hst1⟩ := (show (M5 21).toInt = (M4 21).toInt ∧ (M5 64).toInt = (M4 64).toInt ∧ ((M4 12).toInt = 137 → (M5 12).toInt = 137) from hk1)
  obtain ⟨⟨_, _⟩, ⟨_, _⟩, ⟨_, _, _⟩, ⟨_, _⟩, ⟨_, _⟩, ⟨_, _⟩, ⟨_, _⟩⟩ := (show rI N M5 O5 from hI)
  have := ti_rng (M5 12)
  refine spR_X7_restOfProduct hN sWF _ (show rI N M5 O5 from hI) (show ((M5 12).toInt = 137 ∧ 1 ≤ (dF : Int)) ∨ (0 ≤ a1.toInt ∧ a1.toInt ≤ 20 ∧ 22 - a1.toInt ≤ (dF : Int)) from by omega) (fun M6 O6 hI hk1 => ?_)
  have hk := rK_tr (show rK M0 M5 from hk) hk1
  obtain ⟨_, _, hst⟩ := (show (M6 21).toInt = (M0 21).toInt ∧ (M6 64).toInt = (M0 64).toInt ∧ ((M0 12).toInt = 137 → (M6 12).toInt = 137) from hk)
  obtain ⟨_, _, hst1⟩ := (show (M6 21).toInt = (M5 21).toInt ∧ (M6 64).toInt = (M5 64).toInt ∧ ((M5 12).toInt = 137 → (M6 12).toInt = 137) from hk1)
  obtain ⟨⟨_, _⟩, ⟨_, _⟩, ⟨_, _, _⟩, ⟨_, _⟩, ⟨_, _⟩, ⟨_, _⟩, ⟨_, _⟩⟩ := (show rI N M6 O6 from hI)
  have := ti_rng t0
  refine spR_X7_emit hN _ (show rI N M6 O6 from hI) (fun M7 O7 hI hk1 => ?_)
  have hk := rK_tr (show rK M0 M6 from hk) hk1
  obtain ⟨_, _, hst⟩ := (show (M7 21).toInt = (M0 21).toInt ∧ (M7 64).toInt = (M0 64).toInt ∧ ((M0 12).toInt = 137 → (M7 12).toInt = 137) from hk)
  obtain ⟨_, _, hst1⟩ := (show (M7 21).toInt = (M6 21).toInt ∧ (M7 64).toInt = (M6 64).toInt ∧ ((M6 12).toInt = 137 → (M7 12).toInt = 137) from hk1)
  obtain ⟨⟨_, _⟩, ⟨_, _⟩, ⟨_, _, _⟩, ⟨_, _⟩, ⟨_, _⟩, ⟨_, _⟩, ⟨_, _⟩⟩ := (show rI N M7 O7 from hI)
  have := ti_rng a2
  have : (1 : Int32).toInt = 1 := by decide
  first | have := ti_addx a2 1 (by omega) | obtain ⟨_, _, _, _⟩ := ti_add a2 1
  have := ti_rng (M7 12)
  exact sK2 _ _ _ _ (show rI N M7 O7 from hI) (show rK M0 M7 from hk) (show 0 ≤ (a2 + 1).toInt ∧ (a2 + 1).toInt ≤ 4001 ∧ (((M7 12).toInt = 137 ∧ 1 ≤ (dF : Int)) ∨ (0 ≤ a1.toInt ∧ a1.toInt ≤ 20 ∧ 22 - a1.toInt ≤ (dF : Int))) from by omega) (show (4001 - (a2 + 1).toInt) + 1 ≤ _ from by omega)
set_option maxHeartbeats 2000000 in
theorem spR_X7_restOfSum_27 {N : Nat → Nat} (hN : rN N) (q1 : Int32) {WF : Int32 → (Nat → Int32) → (Nat × Nat) → ((Nat → Int32) → Nat × Nat → Prop) → Prop} {K2 : (Int32 → Int32 → (Nat → Int32) → (Nat × Nat) → Prop)} {n2 : Nat} {Q : (Nat → Int32) → Nat × Nat → Prop} {M0 : Nat → Int32} {dF : Nat} (sWF : ∀ (q1 : Int32) (M : Nat → Int32) (O : Nat × Nat) {Q : (Nat → Int32) → Nat × Nat → Prop}, rI N M O → (((M 12).toInt = 137 ∧ 1 ≤ (dF : Int)) ∨ (0 ≤ q1.toInt ∧ q1.toInt ≤ 20 ∧ 22 - q1.toInt ≤ (dF : Int))) → (∀ (M' : Nat → Int32) (O' : Nat × Nat), rI N M' O' → rK M M' → Q M' O') → WF q1 M O Q) (sK2 : ∀ (a1 : Int32) (a2 : Int32) (M : Nat → Int32) (O : Nat × Nat), rI N M O → rK M0 M → (0 ≤ a2.toInt ∧ a2.toInt ≤ 4001 ∧ (((M 12).toInt = 137 ∧ 1 ≤ (dF : Int)) ∨ (0 ≤ a1.toInt ∧ a1.toInt ≤ 20 ∧ 22 - a1.toInt ≤ (dF : Int)))) → (4001 - a2.toInt) + 1 ≤ (n2 : Int) → K2 a1 a2 M O) (hQ : ∀ (M' : Nat → Int32) (O' : Nat × Nat), rI N M' O' → rK M0 M' → Q M' O') (a1 : Int32) (a2 : Int32) (M : Nat → Int32) (O : Nat × Nat) (hI : rI N M O) (hk : rK M0 M) (hbi : ((0 ≤ a2.toInt ∧ a2.toInt ≤ 4001 ∧ (((M 12).toInt = 137 ∧ 1 ≤ (dF : Int)) ∨ (0 ≤ a1.toInt ∧ a1.toInt ≤ 20 ∧ 22 - a1.toInt ≤ (dF : Int)))) ∧ (4001 - a2.toInt) ≤ (n2 : Int) ∧ 1 ≤ (4001 - a2.toInt))) : wR_X7_restOfSum_27 N WF K2 Q a1 a2 M O := by
  obtain ⟨_, _, _, _, _, _, _, _, _, _, _, _, _, _, _, _⟩ := (show rN N from hN)
  obtain ⟨⟨_, _⟩, ⟨_, _⟩, ⟨_, _, _⟩, ⟨_, _⟩, ⟨_, _⟩, ⟨_, _⟩, ⟨_, _⟩⟩ := (show rI N M O from hI)
  unfold wR_X7_restOfSum_27
  obtain ⟨_, _, hst⟩ := (show (M 21).toInt = (M0 21).toInt ∧ (M 64).toInt = (M0 64).toInt ∧ ((M0 12).toInt = 137 → (M 12).toInt = 137) from hk)
  refine ⟨fun hc3 => ?_, fun hc3 => ?_⟩
  · have := ti_rng (M 12)
    have : (43 : Int32).toInt = 43 := by decide
    have hc39 := ti_ne hc3
    have := ti_rng a1
    have := ti_rng a2
    have : (15 : Int32).toInt = 15 := by decide
    exact spR_X7_restOfSum_43 hN q1 sWF sK2 hQ _ _ _ _ _ (show rI N M O from hI) (show rK M0 M from hk) (show ((0 ≤ a2.toInt ∧ a2.toInt ≤ 4001 ∧ (((M 12).toInt = 137 ∧ 1 ≤ (dF : Int)) ∨ (0 ≤ a1.toInt ∧ a1.toInt ≤ 20 ∧ 22 - a1.toInt ≤ (dF : Int)))) ∧ (4001 - a2.toInt) ≤ (n2 : Int) ∧ 1 ≤ (4001 - a2.toInt)) from by omega)
  · have := ti_rng (M 12)
    have : (43 : Int32).toInt = 43 := by decide
    have hc39 := congrArg Int32.toInt hc3
    have := ti_rng a1
    have := ti_rng a2
    have : (14 : Int32).toInt = 14 := by decide
    exact spR_X7_restOfSum_43 hN q1 sWF sK2 hQ _ _ _ _ _ (show rI N M O from hI) (show rK M0 M from hk) (show ((0 ≤ a2.toInt ∧ a2.toInt ≤ 4001 ∧ (((M 12).toInt = 137 ∧ 1 ≤ (dF : Int)) ∨ (0 ≤ a1.toInt ∧ a1.toInt ≤ 20 ∧ 22 - a1.toInt ≤ (dF : Int)))) ∧ (4001 - a2.toInt) ≤ (n2 : Int) ∧ 1 ≤ (4001 - a2.toInt)) from by omega)
set_option maxHeartbeats 2000000 in
theorem spR_X7_restOfSum_2 {N : Nat → Nat} (hN : rN N) (q1 : Int32) {WF : Int32 → (Nat → Int32) → (Nat × Nat) → ((Nat → Int32) → Nat × Nat → Prop) → Prop} {Q : (Nat → Int32) → Nat × Nat → Prop} {M0 : Nat → Int32} {dF : Nat} (sWF : ∀ (q1 : Int32) (M : Nat → Int32) (O : Nat × Nat) {Q : (Nat → Int32) → Nat × Nat → Prop}, rI N M O → (((M 12).toInt = 137 ∧ 1 ≤ (dF : Int)) ∨ (0 ≤ q1.toInt ∧ q1.toInt ≤ 20 ∧ 22 - q1.toInt ≤ (dF : Int))) → (∀ (M' : Nat → Int32) (O' : Nat × Nat), rI N M' O' → rK M M' → Q M' O') → WF q1 M O Q) (hQ : ∀ (M' : Nat → Int32) (O' : Nat × Nat), rI N M' O' → rK M0 M' → Q M' O') : ∀ (n2 : Nat) (a1 : Int32) (a2 : Int32) (M : Nat → Int32) (O : Nat × Nat), rI N M O → rK M0 M → (0 ≤ a2.toInt ∧ a2.toInt ≤ 4001 ∧ (((M 12).toInt = 137 ∧ 1 ≤ (dF : Int)) ∨ (0 ≤ a1.toInt ∧ a1.toInt ≤ 20 ∧ 22 - a1.toInt ≤ (dF : Int)))) → (4001 - a2.toInt) + 1 ≤ (n2 : Int) → wR_X7_restOfSum_2 N WF Q n2 a1 a2 M O := by
  obtain ⟨_, _, _, _, _, _, _, _, _, _, _, _, _, _, _, _⟩ := (show rN N from hN)
  intro n2
  induction n2 with
  | zero => intro a1 a2 M O hI hk hv hn; exact absurd hn (by omega)
  | succ n2 ih =>
    intro a1 a2 M O hI hk hv hn
    obtain ⟨⟨_, _⟩, ⟨_, _⟩, ⟨_, _, _⟩, ⟨_, _⟩, ⟨_, _⟩, ⟨_, _⟩, ⟨_, _⟩⟩ := (show rI N M O from hI)
    dsimp only [wR_X7_restOfSum_2]
    obtain ⟨_, _, hst⟩ := (show (M 21).toInt = (M0 21).toInt ∧ (M 64).toInt = (M0 64).toInt ∧ ((M0 12).toInt = 137 → (M 12).toInt = 137) from hk)
    refine ⟨fun hc1 => ?_, fun hc1 => ?_⟩
    · have : (4000 : Int32).toInt = 4000 := by decide
      have := ti_rng a2
      have hc1 := Int32.lt_iff_toInt_lt.mp hc1
      exact hQ _ _ (show rI N M O from hI) (show rK M0 M from hk)
    · have : (4000 : Int32).toInt = 4000 := by decide
      have := ti_rng a2
      have hc1 := ti_nlt hc1
      refine ⟨fun hc2 => ?_, fun hc2 => ?_⟩
      · have := ti_rng (M 12)
        have : (43 : Int32).toInt = 43 := by decide
        have hc29 := congrArg Int32.toInt hc2
        have := ti_rng a1
        exact spR_X7_restOfSum_27 hN q1 sWF ih hQ _ _ _ _ (show rI N M O from hI) (show rK M0 M from hk) (show ((0 ≤ a2.toInt ∧ a2.toInt ≤ 4001 ∧ (((M 12).toInt = 137 ∧ 1 ≤ (dF : Int)) ∨ (0 ≤ a1.toInt ∧ a1.toInt ≤ 20 ∧ 22 - a1.toInt ≤ (dF : Int)))) ∧ (4001 - a2.toInt) ≤ (n2 : Int) ∧ 1 ≤ (4001 - a2.toInt)) from by omega)
      · have := ti_rng (M 12)
        have : (43 : Int32).toInt = 43 := by decide
        have hc29 := ti_ne hc2
        refine ⟨fun hc8 => ?_, fun hc8 => ?_⟩
        · have : (45 : Int32).toInt = 45 := by decide
          have hc89 := ti_ne hc8
          exact hQ _ _ (show rI N M O from hI) (show rK M0 M from hk)
        · have : (45 : Int32).toInt = 45 := by decide
          have hc89 := congrArg Int32.toInt hc8
          have := ti_rng a1
          exact spR_X7_restOfSum_27 hN q1 sWF ih hQ _ _ _ _ (show rI N M O from hI) (show rK M0 M from hk) (show ((0 ≤ a2.toInt ∧ a2.toInt ≤ 4001 ∧ (((M 12).toInt = 137 ∧ 1 ≤ (dF : Int)) ∨ (0 ≤ a1.toInt ∧ a1.toInt ≤ 20 ∧ 22 - a1.toInt ≤ (dF : Int)))) ∧ (4001 - a2.toInt) ≤ (n2 : Int) ∧ 1 ≤ (4001 - a2.toInt)) from by omega)
set_option maxHeartbeats 2000000 in
theorem spR_X7_restOfSum {N : Nat → Nat} (hN : rN N) {WF : Int32 → (Nat → Int32) → (Nat × Nat) → ((Nat → Int32) → Nat × Nat → Prop) → Prop} {dF : Nat} (sWF : ∀ (q1 : Int32) (M : Nat → Int32) (O : Nat × Nat) {Q : (Nat → Int32) → Nat × Nat → Prop}, rI N M O → (((M 12).toInt = 137 ∧ 1 ≤ (dF : Int)) ∨ (0 ≤ q1.toInt ∧ q1.toInt ≤ 20 ∧ 22 - q1.toInt ≤ (dF : Int))) → (∀ (M' : Nat → Int32) (O' : Nat × Nat), rI N M' O' → rK M M' → Q M' O') → WF q1 M O Q) (q1 : Int32) {M0 : Nat → Int32} {O : Nat × Nat} {Q : (Nat → Int32) → Nat × Nat → Prop} (hI : rI N M0 O) (hpre : ((M0 12).toInt = 137 ∧ 1 ≤ (dF : Int)) ∨ (0 ≤ q1.toInt ∧ q1.toInt ≤ 20 ∧ 22 - q1.toInt ≤ (dF : Int))) (hQ : ∀ (M' : Nat → Int32) (O' : Nat × Nat), rI N M' O' → rK M0 M' → Q M' O') : wR_X7_restOfSum N WF q1 M0 O Q := by
  obtain ⟨_, _, _, _, _, _, _, _, _, _, _, _, _, _, _, _⟩ := (show rN N from hN)
  obtain ⟨⟨_, _⟩, ⟨_, _⟩, ⟨_, _, _⟩, ⟨_, _⟩, ⟨_, _⟩, ⟨_, _⟩, ⟨_, _⟩⟩ := (show rI N M0 O from hI)
  have hk : rK M0 M0 := rK_rf M0
  have hQ1 := hQ
  unfold wR_X7_restOfSum
  have := ti_rng q1
  have : (0 : Int32).toInt = 0 := by decide
  have := ti_rng (M0 12)
  exact ⟨((4001 - (0 : Int32).toInt) + 1).toNat, spR_X7_restOfSum_2 hN q1 sWF hQ _ _ _ _ _ (show rI N M0 O from hI) (show rK M0 M0 from hk) (show 0 ≤ (0 : Int32).toInt ∧ (0 : Int32).toInt ≤ 4001 ∧ (((M0 12).toInt = 137 ∧ 1 ≤ (dF : Int)) ∨ (0 ≤ q1.toInt ∧ q1.toInt ≤ 20 ∧ 22 - q1.toInt ≤ (dF : Int))) from by omega) (show (4001 - (0 : Int32).toInt) + 1 ≤ _ from by omega)⟩
set_option maxHeartbeats 2000000 in
theorem spR_X7_restOfExpression_71 {N : Nat → Nat} (hN : rN N) (q1 : Int32) {WF : Int32 → (Nat → Int32) → (Nat × Nat) → ((Nat → Int32) → Nat × Nat → Prop) → Prop} {Q : (Nat → Int32) → Nat × Nat → Prop} {M0 : Nat → Int32} {dF : Nat} (sWF : ∀ (q1 : Int32) (M : Nat → Int32) (O : Nat × Nat) {Q : (Nat → Int32) → Nat × Nat → Prop}, rI N M O → (((M 12).toInt = 137 ∧ 1 ≤ (dF : Int)) ∨ (0 ≤ q1.toInt ∧ q1.toInt ≤ 20 ∧ 22 - q1.toInt ≤ (dF : Int))) → (∀ (M' : Nat → Int32) (O' : Nat × Nat), rI N M' O' → rK M M' → Q M' O') → WF q1 M O Q) (hQ : ∀ (M' : Nat → Int32) (O' : Nat × Nat), rI N M' O' → rK M0 M' → Q M' O') (a1 : Int32) (a2 : Int32) (M : Nat → Int32) (O : Nat × Nat) (hI : rI N M O) (hk : rK M0 M) (hbi : (((M 12).toInt = 137 ∧ 1 ≤ (dF : Int)) ∨ (0 ≤ a1.toInt ∧ a1.toInt ≤ 20 ∧ 22 - a1.toInt ≤ (dF : Int)))) : wR_X7_restOfExpression_71 N WF Q a1 a2 M O := by
  obtain ⟨_, _, _, _, _, _, _, _, _, _, _, _, _, _, _, _⟩ := (show rN N from hN)
  obtain ⟨⟨_, _⟩, ⟨_, _⟩, ⟨_, _, _⟩, ⟨_, _⟩, ⟨_, _⟩, ⟨_, _⟩, ⟨_, _⟩⟩ := (show rI N M O from hI)
  unfold wR_X7_restOfExpression_71
  obtain ⟨_, _, hst⟩ := (show (M 21).toInt = (M0 21).toInt ∧ (M 64).toInt = (M0 64).toInt ∧ ((M0 12).toInt = 137 → (M 12).toInt = 137) from hk)
  refine spR_X7_advance hN  (show rI N M O from hI) (fun M6 O6 hI hk1 => ?_)
  have hk := rK_tr (show rK M0 M from hk) hk1
  obtain ⟨_, _, hst⟩ := (show (M6 21).toInt = (M0 21).toInt ∧ (M6 64).toInt = (M0 64).toInt ∧ ((M0 12).toInt = 137 → (M6 12).toInt = 137) from hk)
  obtain ⟨_, _, hst1⟩ := (show (M6 21).toInt = (M 21).toInt ∧ (M6 64).toInt = (M 64).toInt ∧ ((M 12).toInt = 137 → (M6 12).toInt = 137) from hk1)
  obtain ⟨⟨_, _⟩, ⟨_, _⟩, ⟨_, _, _⟩, ⟨_, _⟩, ⟨_, _⟩, ⟨_, _⟩, ⟨_, _⟩⟩ := (show rI N M6 O6 from hI)
  have := ti_rng a1
  have := ti_rng (M6 12)
  refine sWF _ _ _ (show rI N M6 O6 from hI) (show ((M6 12).toInt = 137 ∧ 1 ≤ (dF : Int)) ∨ (0 ≤ a1.toInt ∧ a1.toInt ≤ 20 ∧ 22 - a1.toInt ≤ (dF : Int)) from by omega) (fun M7 O7 hI hk1 => ?_)
  have hk := rK_tr (show rK M0 M6 from hk) hk1
  obtain ⟨_, _, hst⟩ := (show (M7 21).toInt = (M0 21).toInt ∧ (M7 64).toInt = (M0 64).toInt ∧ ((M0 12).toInt = 137 → (M7 12).toInt = 137) from hk)
  obtain ⟨_, _, hst1⟩ := (show (M7 21).toInt = (M6 21).toInt ∧ (M7 64).toInt = (M6 64).toInt ∧ ((M6 12).toInt = 137 → (M7 12).toInt = 137) from hk1)
  obtain ⟨⟨_, _⟩, ⟨_, _⟩, ⟨_, _, _⟩, ⟨_, _⟩, ⟨_, _⟩, ⟨_, _⟩, ⟨_, _⟩⟩ := (show rI N M7 O7 from hI)
  have := ti_rng (M7 12)
  refine spR_X7_restOfProduct hN sWF _ (show rI N M7 O7 from hI) (show ((M7 12).toInt = 137 ∧ 1 ≤ (dF : Int)) ∨ (0 ≤ a1.toInt ∧ a1.toInt ≤ 20 ∧ 22 - a1.toInt ≤ (dF : Int)) from by omega) (fun M8 O8 hI hk1 => ?_)
  have hk := rK_tr (show rK M0 M7 from hk) hk1
  obtain ⟨_, _, hst⟩ := (show (M8 21).toInt = (M0 21).toInt ∧ (M8 64).toInt = (M0 64).toInt ∧ ((M0 12).toInt = 137 → (M8 12).toInt = 137) from hk)
  obtain ⟨_, _, hst1⟩ := (show (M8 21).toInt = (M7 21).toInt ∧ (M8 64).toInt = (M7 64).toInt ∧ ((M7 12).toInt = 137 → (M8 12).toInt = 137) from hk1)
  obtain ⟨⟨_, _⟩, ⟨_, _⟩, ⟨_, _, _⟩, ⟨_, _⟩, ⟨_, _⟩, ⟨_, _⟩, ⟨_, _⟩⟩ := (show rI N M8 O8 from hI)
  have := ti_rng (M8 12)
  refine spR_X7_restOfSum hN sWF _ (show rI N M8 O8 from hI) (show ((M8 12).toInt = 137 ∧ 1 ≤ (dF : Int)) ∨ (0 ≤ a1.toInt ∧ a1.toInt ≤ 20 ∧ 22 - a1.toInt ≤ (dF : Int)) from by omega) (fun M9 O9 hI hk1 => ?_)
  have hk := rK_tr (show rK M0 M8 from hk) hk1
  obtain ⟨_, _, hst⟩ := (show (M9 21).toInt = (M0 21).toInt ∧ (M9 64).toInt = (M0 64).toInt ∧ ((M0 12).toInt = 137 → (M9 12).toInt = 137) from hk)
  obtain ⟨_, _, hst1⟩ := (show (M9 21).toInt = (M8 21).toInt ∧ (M9 64).toInt = (M8 64).toInt ∧ ((M8 12).toInt = 137 → (M9 12).toInt = 137) from hk1)
  obtain ⟨⟨_, _⟩, ⟨_, _⟩, ⟨_, _, _⟩, ⟨_, _⟩, ⟨_, _⟩, ⟨_, _⟩, ⟨_, _⟩⟩ := (show rI N M9 O9 from hI)
  have := ti_rng a2
  refine spR_X7_emit hN _ (show rI N M9 O9 from hI) (fun M10 O10 hI hk1 => ?_)
  have hk := rK_tr (show rK M0 M9 from hk) hk1
  obtain ⟨_, _, hst⟩ := (show (M10 21).toInt = (M0 21).toInt ∧ (M10 64).toInt = (M0 64).toInt ∧ ((M0 12).toInt = 137 → (M10 12).toInt = 137) from hk)
  obtain ⟨_, _, hst1⟩ := (show (M10 21).toInt = (M9 21).toInt ∧ (M10 64).toInt = (M9 64).toInt ∧ ((M9 12).toInt = 137 → (M10 12).toInt = 137) from hk1)
  obtain ⟨⟨_, _⟩, ⟨_, _⟩, ⟨_, _, _⟩, ⟨_, _⟩, ⟨_, _⟩, ⟨_, _⟩, ⟨_, _⟩⟩ := (show rI N M10 O10 from hI)
  exact hQ _ _ (show rI N M10 O10 from hI) (show rK M0 M10 from hk)
set_option maxHeartbeats 2000000 in
theorem spR_X7_restOfExpression_41 {N : Nat → Nat} (hN : rN N) (q1 : Int32) {WF : Int32 → (Nat → Int32) → (Nat × Nat) → ((Nat → Int32) → Nat × Nat → Prop) → Prop} {Q : (Nat → Int32) → Nat × Nat → Prop} {M0 : Nat → Int32} {dF : Nat} (sWF : ∀ (q1 : Int32) (M : Nat → Int32) (O : Nat × Nat) {Q : (Nat → Int32) → Nat × Nat → Prop}, rI N M O → (((M 12).toInt = 137 ∧ 1 ≤ (dF : Int)) ∨ (0 ≤ q1.toInt ∧ q1.toInt ≤ 20 ∧ 22 - q1.toInt ≤ (dF : Int))) → (∀ (M' : Nat → Int32) (O' : Nat × Nat), rI N M' O' → rK M M' → Q M' O') → WF q1 M O Q) (hQ : ∀ (M' : Nat → Int32) (O' : Nat × Nat), rI N M' O' → rK M0 M' → Q M' O') (a1 : Int32) (t0 : Int32) (M : Nat → Int32) (O : Nat × Nat) (hI : rI N M O) (hk : rK M0 M) (hbi : (((M 12).toInt = 137 ∧ 1 ≤ (dF : Int)) ∨ (0 ≤ a1.toInt ∧ a1.toInt ≤ 20 ∧ 22 - a1.toInt ≤ (dF : Int)))) : wR_X7_restOfExpression_41 N WF Q a1 t0 M O := by
  obtain ⟨_, _, _, _, _, _, _, _, _, _, _, _, _, _, _, _⟩ := (show rN N from hN)
  obtain ⟨⟨_, _⟩, ⟨_, _⟩, ⟨_, _, _⟩, ⟨_, _⟩, ⟨_, _⟩, ⟨_, _⟩, ⟨_, _⟩⟩ := (show rI N M O from hI)
  unfold wR_X7_restOfExpression_41
  obtain ⟨_, _, hst⟩ := (show (M 21).toInt = (M0 21).toInt ∧ (M 64).toInt = (M0 64).toInt ∧ ((M0 12).toInt = 137 → (M 12).toInt = 137) from hk)
  refine ⟨fun hc5 => ?_, fun hc5 => ?_⟩
  · have := ti_rng (M 12)
    have : (60 : Int32).toInt = 60 := by decide
    have hc59 := congrArg Int32.toInt hc5
    have := ti_rng a1
    have := ti_rng t0
    exact spR_X7_restOfExpression_71 hN q1 sWF hQ _ _ _ _ (show rI N M O from hI) (show rK M0 M from hk) (show (((M 12).toInt = 137 ∧ 1 ≤ (dF : Int)) ∨ (0 ≤ a1.toInt ∧ a1.toInt ≤ 20 ∧ 22 - a1.toInt ≤ (dF : Int))) from by omega)
  · have := ti_rng (M 12)
    have : (60 : Int32).toInt = 60 := by decide
    have hc59 := ti_ne hc5
    refine ⟨fun hc11 => ?_, fun hc11 => ?_⟩
    · have : (133 : Int32).toInt = 133 := by decide
      have hc119 := congrArg Int32.toInt hc11
      have := ti_rng a1
      have := ti_rng t0
      exact spR_X7_restOfExpression_71 hN q1 sWF hQ _ _ _ _ (show rI N M O from hI) (show rK M0 M from hk) (show (((M 12).toInt = 137 ∧ 1 ≤ (dF : Int)) ∨ (0 ≤ a1.toInt ∧ a1.toInt ≤ 20 ∧ 22 - a1.toInt ≤ (dF : Int))) from by omega)
    · have : (133 : Int32).toInt = 133 := by decide
      have hc119 := ti_ne hc11
      refine ⟨fun hc12 => ?_, fun hc12 => ?_⟩
      · have : (134 : Int32).toInt = 134 := by decide
        have hc129 := ti_ne hc12
        exact hQ _ _ (show rI N M O from hI) (show rK M0 M from hk)
      · have : (134 : Int32).toInt = 134 := by decide
        have hc129 := congrArg Int32.toInt hc12
        have := ti_rng a1
        have := ti_rng t0
        exact spR_X7_restOfExpression_71 hN q1 sWF hQ _ _ _ _ (show rI N M O from hI) (show rK M0 M from hk) (show (((M 12).toInt = 137 ∧ 1 ≤ (dF : Int)) ∨ (0 ≤ a1.toInt ∧ a1.toInt ≤ 20 ∧ 22 - a1.toInt ≤ (dF : Int))) from by omega)
set_option maxHeartbeats 2000000 in
theorem spR_X7_restOfExpression {N : Nat → Nat} (hN : rN N) {WF : Int32 → (Nat → Int32) → (Nat × Nat) → ((Nat → Int32) → Nat × Nat → Prop) → Prop} {dF : Nat} (sWF : ∀ (q1 : Int32) (M : Nat → Int32) (O : Nat × Nat) {Q : (Nat → Int32) → Nat × Nat → Prop}, rI N M O → (((M 12).toInt = 137 ∧ 1 ≤ (dF : Int)) ∨ (0 ≤ q1.toInt ∧ q1.toInt ≤ 20 ∧ 22 - q1.toInt ≤ (dF : Int))) → (∀ (M' : Nat → Int32) (O' : Nat × Nat), rI N M' O' → rK M M' → Q M' O') → WF q1 M O Q) (q1 : Int32) {M0 : Nat → Int32} {O : Nat × Nat} {Q : (Nat → Int32) → Nat × Nat → Prop} (hI : rI N M0 O) (hpre : ((M0 12).toInt = 137 ∧ 1 ≤ (dF : Int)) ∨ (0 ≤ q1.toInt ∧ q1.toInt ≤ 20 ∧ 22 - q1.toInt ≤ (dF : Int))) (hQ : ∀ (M' : Nat → Int32) (O' : Nat × Nat), rI N M' O' → rK M0 M' → Q M' O') : wR_X7_restOfExpression N WF q1 M0 O Q := by
  obtain ⟨_, _, _, _, _, _, _, _, _, _, _, _, _, _, _, _⟩ := (show rN N from hN)
  obtain ⟨⟨_, _⟩, ⟨_, _⟩, ⟨_, _, _⟩, ⟨_, _⟩, ⟨_, _⟩, ⟨_, _⟩, ⟨_, _⟩⟩ := (show rI N M0 O from hI)
  have hk : rK M0 M0 := rK_rf M0
  have hQ1 := hQ
  unfold wR_X7_restOfExpression
  have := ti_rng q1
  have := ti_rng (M0 12)
  refine spR_X7_restOfProduct hN sWF _ (show rI N M0 O from hI) (show ((M0 12).toInt = 137 ∧ 1 ≤ (dF : Int)) ∨ (0 ≤ q1.toInt ∧ q1.toInt ≤ 20 ∧ 22 - q1.toInt ≤ (dF : Int)) from by omega) (fun M1 O1 hI hk1 => ?_)
  have hk := rK_tr (show rK M0 M0 from hk) hk1
  obtain ⟨_, _, hst⟩ := (show (M1 21).toInt = (M0 21).toInt ∧ (M1 64).toInt = (M0 64).toInt ∧ ((M0 12).toInt = 137 → (M1 12).toInt = 137) from hk)
  obtain ⟨_, _, hst1⟩ := (show (M1 21).toInt = (M0 21).toInt ∧ (M1 64).toInt = (M0 64).toInt ∧ ((M0 12).toInt = 137 → (M1 12).toInt = 137) from hk1)
  obtain ⟨⟨_, _⟩, ⟨_, _⟩, ⟨_, _, _⟩, ⟨_, _⟩, ⟨_, _⟩, ⟨_, _⟩, ⟨_, _⟩⟩ := (show rI N M1 O1 from hI)
  have := ti_rng (M1 12)
  refine spR_X7_restOfSum hN sWF _ (show rI N M1 O1 from hI) (show ((M1 12).toInt = 137 ∧ 1 ≤ (dF : Int)) ∨ (0 ≤ q1.toInt ∧ q1.toInt ≤ 20 ∧ 22 - q1.toInt ≤ (dF : Int)) from by omega) (fun M2 O2 hI hk1 => ?_)
  have hk := rK_tr (show rK M0 M1 from hk) hk1
  obtain ⟨_, _, hst⟩ := (show (M2 21).toInt = (M0 21).toInt ∧ (M2 64).toInt = (M0 64).toInt ∧ ((M0 12).toInt = 137 → (M2 12).toInt = 137) from hk)
  obtain ⟨_, _, hst1⟩ := (show (M2 21).toInt = (M1 21).toInt ∧ (M2 64).toInt = (M1 64).toInt ∧ ((M1 12).toInt = 137 → (M2 12).toInt = 137) from hk1)
  obtain ⟨⟨_, _⟩, ⟨_, _⟩, ⟨_, _, _⟩, ⟨_, _⟩, ⟨_, _⟩, ⟨_, _⟩, ⟨_, _⟩⟩ := (show rI N M2 O2 from hI)
  refine ⟨fun hc3 => ?_, fun hc3 => ?_⟩
  · have := ti_rng (M2 12)
    have : (60 : Int32).toInt = 60 := by decide
    have hc39 := ti_ne hc3
    refine ⟨fun hc4 => ?_, fun hc4 => ?_⟩
    · have : (133 : Int32).toInt = 133 := by decide
      have hc49 := ti_ne hc4
      have : (21 : Int32).toInt = 21 := by decide
      exact spR_X7_restOfExpression_41 hN q1 sWF hQ _ _ _ _ (show rI N M2 O2 from hI) (show rK M0 M2 from hk) (show (((M2 12).toInt = 137 ∧ 1 ≤ (dF : Int)) ∨ (0 ≤ q1.toInt ∧ q1.toInt ≤ 20 ∧ 22 - q1.toInt ≤ (dF : Int))) from by omega)
    · have : (133 : Int32).toInt = 133 := by decide
      have hc49 := congrArg Int32.toInt hc4
      have : (20 : Int32).toInt = 20 := by decide
      exact spR_X7_restOfExpression_41 hN q1 sWF hQ _ _ _ _ (show rI N M2 O2 from hI) (show rK M0 M2 from hk) (show (((M2 12).toInt = 137 ∧ 1 ≤ (dF : Int)) ∨ (0 ≤ q1.toInt ∧ q1.toInt ≤ 20 ∧ 22 - q1.toInt ≤ (dF : Int))) from by omega)
  · have := ti_rng (M2 12)
    have : (60 : Int32).toInt = 60 := by decide
    have hc39 := congrArg Int32.toInt hc3
    have : (19 : Int32).toInt = 19 := by decide
    exact spR_X7_restOfExpression_41 hN q1 sWF hQ _ _ _ _ (show rI N M2 O2 from hI) (show rK M0 M2 from hk) (show (((M2 12).toInt = 137 ∧ 1 ≤ (dF : Int)) ∨ (0 ≤ q1.toInt ∧ q1.toInt ≤ 20 ∧ 22 - q1.toInt ≤ (dF : Int))) from by omega)

