set_option maxHeartbeats 2000000 in
theorem spR_X7_block_48 {N : Nat → Nat} (hN : rN N) (q1 : Int32) {WF : Int32 → (Nat → Int32) → (Nat × Nat) → ((Nat → Int32) → Nat × Nat → Prop) → Prop} {WB : Int32 → (Nat → Int32) → (Nat × Nat) → ((Nat → Int32) → Nat × Nat → Prop) → Prop} {Q : (Nat → Int32) → Nat × Nat → Prop} {M0 : Nat → Int32} {dF : Nat} (sWF : ∀ (q1 : Int32) (M : Nat → Int32) (O : Nat × Nat) {Q : (Nat → Int32) → Nat × Nat → Prop}, rI N M O → (((M 12).toInt = 137 ∧ 1 ≤ (dF : Int)) ∨ (0 ≤ q1.toInt ∧ q1.toInt ≤ 20 ∧ 22 - q1.toInt ≤ (dF : Int))) → (∀ (M' : Nat → Int32) (O' : Nat × Nat), rI N M' O' → rK M M' → Q M' O') → WF q1 M O Q) {dB : Nat} (sWB : ∀ (q1 : Int32) (M : Nat → Int32) (O : Nat × Nat) {Q : (Nat → Int32) → Nat × Nat → Prop}, rI N M O → (0 ≤ q1.toInt ∧ q1.toInt ≤ 20 ∧ 21 - q1.toInt ≤ (dB : Int) ∧ 22 ≤ (dF : Int)) → (∀ (M' : Nat → Int32) (O' : Nat × Nat), rI N M' O' → rK M M' → Q M' O') → WB q1 M O Q) (hQ : ∀ (M' : Nat → Int32) (O' : Nat × Nat), rI N M' O' → rK M0 M' → Q M' O') (M : Nat → Int32) (O : Nat × Nat) (hI : rI N M O) (hk : rK M0 M) : wR_X7_block_48 N WF WB Q M O := by
  obtain ⟨_, _, _, _, _, _, _, _, _, _, _, _, _, _, _, _⟩ := (show rN N from hN)
  obtain ⟨⟨_, _⟩, ⟨_, _⟩, ⟨_, _, _⟩, ⟨_, _⟩, ⟨_, _⟩, ⟨_, _⟩, ⟨_, _⟩⟩ := (show rI N M O from hI)
  unfold wR_X7_block_48
  obtain ⟨_, _, hst⟩ := (show (M 21).toInt = (M0 21).toInt ∧ (M 64).toInt = (M0 64).toInt ∧ ((M0 12).toInt = 137 → (M 12).toInt = 137) from hk)
  have : (125 : Int32).toInt = 125 := by decide
  refine spR_X7_take hN _ (show rI N M O from hI) (fun M3 O3 hI hk1 => ?_)
  have hk := rK_tr (show rK M0 M from hk) hk1
  obtain ⟨_, _, hst⟩ := (show (M3 21).toInt = (M0 21).toInt ∧ (M3 64).toInt = (M0 64).toInt ∧ ((M0 12).toInt = 137 → (M3 12).toInt = 137) from hk)
  obtain ⟨_, _, hst1⟩ := (show (M3 21).toInt = (M 21).toInt ∧ (M3 64).toInt = (M 64).toInt ∧ ((M 12).toInt = 137 → (M3 12).toInt = 137) from hk1)
  obtain ⟨⟨_, _⟩, ⟨_, _⟩, ⟨_, _, _⟩, ⟨_, _⟩, ⟨_, _⟩, ⟨_, _⟩, ⟨_, _⟩⟩ := (show rI N M3 O3 from hI)
  exact hQ _ _ (show rI N M3 O3 from hI) (show rK M0 M3 from hk)
set_option maxHeartbeats 2000000 in
theorem spR_X7_block_9 {N : Nat → Nat} (hN : rN N) (q1 : Int32) {WF : Int32 → (Nat → Int32) → (Nat × Nat) → ((Nat → Int32) → Nat × Nat → Prop) → Prop} {WB : Int32 → (Nat → Int32) → (Nat × Nat) → ((Nat → Int32) → Nat × Nat → Prop) → Prop} {Q : (Nat → Int32) → Nat × Nat → Prop} {M0 : Nat → Int32} {dF : Nat} (sWF : ∀ (q1 : Int32) (M : Nat → Int32) (O : Nat × Nat) {Q : (Nat → Int32) → Nat × Nat → Prop}, rI N M O → (((M 12).toInt = 137 ∧ 1 ≤ (dF : Int)) ∨ (0 ≤ q1.toInt ∧ q1.toInt ≤ 20 ∧ 22 - q1.toInt ≤ (dF : Int))) → (∀ (M' : Nat → Int32) (O' : Nat × Nat), rI N M' O' → rK M M' → Q M' O') → WF q1 M O Q) {dB : Nat} (sWB : ∀ (q1 : Int32) (M : Nat → Int32) (O : Nat × Nat) {Q : (Nat → Int32) → Nat × Nat → Prop}, rI N M O → (0 ≤ q1.toInt ∧ q1.toInt ≤ 20 ∧ 21 - q1.toInt ≤ (dB : Int) ∧ 22 ≤ (dF : Int)) → (∀ (M' : Nat → Int32) (O' : Nat × Nat), rI N M' O' → rK M M' → Q M' O') → WB q1 M O Q) (hQ : ∀ (M' : Nat → Int32) (O' : Nat × Nat), rI N M' O' → rK M0 M' → Q M' O') : ∀ (n9 : Nat) (a1 : Int32) (a2 : Int32) (M : Nat → Int32) (O : Nat × Nat), rI N M O → rK M0 M → (0 ≤ a2.toInt ∧ a2.toInt ≤ 4001 ∧ (((M 12).toInt = 137 ∨ a1.toInt < 20) ∧ 0 ≤ a1.toInt ∧ 20 - a1.toInt ≤ (dB : Int) ∧ 22 ≤ (dF : Int))) → (4001 - a2.toInt) + 1 ≤ (n9 : Int) → wR_X7_block_9 N WF WB Q n9 a1 a2 M O := by
  obtain ⟨_, _, _, _, _, _, _, _, _, _, _, _, _, _, _, _⟩ := (show rN N from hN)
  intro n9
  induction n9 with
  | zero => intro a1 a2 M O hI hk hv hn; exact absurd hn (by omega)
  | succ n9 ih =>
    intro a1 a2 M O hI hk hv hn
    obtain ⟨⟨_, _⟩, ⟨_, _⟩, ⟨_, _, _⟩, ⟨_, _⟩, ⟨_, _⟩, ⟨_, _⟩, ⟨_, _⟩⟩ := (show rI N M O from hI)
    dsimp only [wR_X7_block_9]
    obtain ⟨_, _, hst⟩ := (show (M 21).toInt = (M0 21).toInt ∧ (M 64).toInt = (M0 64).toInt ∧ ((M0 12).toInt = 137 → (M 12).toInt = 137) from hk)
    refine ⟨fun hc2 => ?_, fun hc2 => ?_⟩
    · have : (4000 : Int32).toInt = 4000 := by decide
      have := ti_rng a2
      have hc2 := Int32.lt_iff_toInt_lt.mp hc2
      exact spR_X7_block_48 hN q1 sWF sWB hQ _ _ (show rI N M O from hI) (show rK M0 M from hk)
    · have : (4000 : Int32).toInt = 4000 := by decide
      have := ti_rng a2
      have hc2 := ti_nlt hc2
      refine ⟨fun hc4 => ?_, fun hc4 => ?_⟩
      · have := ti_rng (M 12)
        have : (125 : Int32).toInt = 125 := by decide
        have hc49 := congrArg Int32.toInt hc4
        exact spR_X7_block_48 hN q1 sWF sWB hQ _ _ (show rI N M O from hI) (show rK M0 M from hk)
      · have := ti_rng (M 12)
        have : (125 : Int32).toInt = 125 := by decide
        have hc49 := ti_ne hc4
        refine ⟨fun hc5 => ?_, fun hc5 => ?_⟩
        · have : (137 : Int32).toInt = 137 := by decide
          have hc59 := congrArg Int32.toInt hc5
          exact spR_X7_block_48 hN q1 sWF sWB hQ _ _ (show rI N M O from hI) (show rK M0 M from hk)
        · have : (137 : Int32).toInt = 137 := by decide
          have hc59 := ti_ne hc5
          have := ti_rng a1
          have : (1 : Int32).toInt = 1 := by decide
          first | have := ti_addx a1 1 (by omega) | obtain ⟨_, _, _, _⟩ := ti_add a1 1
          refine spR_X7_statement hN sWF sWB _ (show rI N M O from hI) (show 0 ≤ (a1 + 1).toInt ∧ (a1 + 1).toInt ≤ 20 ∧ 21 - (a1 + 1).toInt ≤ (dB : Int) ∧ 22 ≤ (dF : Int) from by omega) (fun M6 O6 hI hk1 => ?_)
          have hk := rK_tr (show rK M0 M from hk) hk1
          obtain ⟨_, _, hst⟩ := (show (M6 21).toInt = (M0 21).toInt ∧ (M6 64).toInt = (M0 64).toInt ∧ ((M0 12).toInt = 137 → (M6 12).toInt = 137) from hk)
          obtain ⟨_, _, hst1⟩ := (show (M6 21).toInt = (M 21).toInt ∧ (M6 64).toInt = (M 64).toInt ∧ ((M 12).toInt = 137 → (M6 12).toInt = 137) from hk1)
          obtain ⟨⟨_, _⟩, ⟨_, _⟩, ⟨_, _, _⟩, ⟨_, _⟩, ⟨_, _⟩, ⟨_, _⟩, ⟨_, _⟩⟩ := (show rI N M6 O6 from hI)
          first | have := ti_addx a2 1 (by omega) | obtain ⟨_, _, _, _⟩ := ti_add a2 1
          have := ti_rng (M6 12)
          exact ih _ _ _ _ (show rI N M6 O6 from hI) (show rK M0 M6 from hk) (show 0 ≤ (a2 + 1).toInt ∧ (a2 + 1).toInt ≤ 4001 ∧ (((M6 12).toInt = 137 ∨ a1.toInt < 20) ∧ 0 ≤ a1.toInt ∧ 20 - a1.toInt ≤ (dB : Int) ∧ 22 ≤ (dF : Int)) from by omega) (show (4001 - (a2 + 1).toInt) + 1 ≤ _ from by omega)
set_option maxHeartbeats 2000000 in
theorem spR_X7_block {N : Nat → Nat} (hN : rN N) {WF : Int32 → (Nat → Int32) → (Nat × Nat) → ((Nat → Int32) → Nat × Nat → Prop) → Prop} {WB : Int32 → (Nat → Int32) → (Nat × Nat) → ((Nat → Int32) → Nat × Nat → Prop) → Prop} {dF : Nat} (sWF : ∀ (q1 : Int32) (M : Nat → Int32) (O : Nat × Nat) {Q : (Nat → Int32) → Nat × Nat → Prop}, rI N M O → (((M 12).toInt = 137 ∧ 1 ≤ (dF : Int)) ∨ (0 ≤ q1.toInt ∧ q1.toInt ≤ 20 ∧ 22 - q1.toInt ≤ (dF : Int))) → (∀ (M' : Nat → Int32) (O' : Nat × Nat), rI N M' O' → rK M M' → Q M' O') → WF q1 M O Q) {dB : Nat} (sWB : ∀ (q1 : Int32) (M : Nat → Int32) (O : Nat × Nat) {Q : (Nat → Int32) → Nat × Nat → Prop}, rI N M O → (0 ≤ q1.toInt ∧ q1.toInt ≤ 20 ∧ 21 - q1.toInt ≤ (dB : Int) ∧ 22 ≤ (dF : Int)) → (∀ (M' : Nat → Int32) (O' : Nat × Nat), rI N M' O' → rK M M' → Q M' O') → WB q1 M O Q) (q1 : Int32) {M0 : Nat → Int32} {O : Nat × Nat} {Q : (Nat → Int32) → Nat × Nat → Prop} (hI : rI N M0 O) (hpre : 0 ≤ q1.toInt ∧ q1.toInt ≤ 20 ∧ 20 - q1.toInt ≤ (dB : Int) ∧ 22 ≤ (dF : Int)) (hQ : ∀ (M' : Nat → Int32) (O' : Nat × Nat), rI N M' O' → rK M0 M' → Q M' O') : wR_X7_block N WF WB q1 M0 O Q := by
  obtain ⟨_, _, _, _, _, _, _, _, _, _, _, _, _, _, _, _⟩ := (show rN N from hN)
  obtain ⟨⟨_, _⟩, ⟨_, _⟩, ⟨_, _, _⟩, ⟨_, _⟩, ⟨_, _⟩, ⟨_, _⟩, ⟨_, _⟩⟩ := (show rI N M0 O from hI)
  have hk : rK M0 M0 := rK_rf M0
  have hQ1 := hQ
  unfold wR_X7_block
  have : (123 : Int32).toInt = 123 := by decide
  have := ti_rng q1
  refine spR_X7_takeOpening hN _ _ (show rI N M0 O from hI) (fun M1 O1 hI hk1 hp1 => ?_)
  have hk := rK_tr (show rK M0 M0 from hk) hk1
  obtain ⟨_, _, hst⟩ := (show (M1 21).toInt = (M0 21).toInt ∧ (M1 64).toInt = (M0 64).toInt ∧ ((M0 12).toInt = 137 → (M1 12).toInt = 137) from hk)
  obtain ⟨_, _, hst1⟩ := (show (M1 21).toInt = (M0 21).toInt ∧ (M1 64).toInt = (M0 64).toInt ∧ ((M0 12).toInt = 137 → (M1 12).toInt = 137) from hk1)
  obtain ⟨⟨_, _⟩, ⟨_, _⟩, ⟨_, _, _⟩, ⟨_, _⟩, ⟨_, _⟩, ⟨_, _⟩, ⟨_, _⟩⟩ := (show rI N M1 O1 from hI)
  have : (0 : Int32).toInt = 0 := by decide
  have := ti_rng (M1 12)
  exact ⟨((4001 - (0 : Int32).toInt) + 1).toNat, spR_X7_block_9 hN q1 sWF sWB hQ _ _ _ _ _ (show rI N M1 O1 from hI) (show rK M0 M1 from hk) (show 0 ≤ (0 : Int32).toInt ∧ (0 : Int32).toInt ≤ 4001 ∧ (((M1 12).toInt = 137 ∨ q1.toInt < 20) ∧ 0 ≤ q1.toInt ∧ 20 - q1.toInt ≤ (dB : Int) ∧ 22 ≤ (dF : Int)) from by omega) (show (4001 - (0 : Int32).toInt) + 1 ≤ _ from by omega)⟩
set_option maxHeartbeats 2000000 in
theorem spR_X7_property {N : Nat → Nat} (hN : rN N) {M0 : Nat → Int32} {O : Nat × Nat} {Q : Int32 → (Nat → Int32) → Nat × Nat → Prop} (hI : rI N M0 O) (hQ : ∀ (r : Int32) , Q r M0 O) : wR_X7_property N  M0 O Q := by
  obtain ⟨_, _, _, _, _, _, _, _, _, _, _, _, _, _, _, _⟩ := (show rN N from hN)
  obtain ⟨⟨_, _⟩, ⟨_, _⟩, ⟨_, _, _⟩, ⟨_, _⟩, ⟨_, _⟩, ⟨_, _⟩, ⟨_, _⟩⟩ := (show rI N M0 O from hI)
  have hk : rK M0 M0 := rK_rf M0
  have hQ1 := hQ
  unfold wR_X7_property
  refine ⟨fun hsw => ?_, fun hsw => ?_, fun hsw => ?_, fun hsw => ?_, fun hsw => ?_, fun hsw0 hsw1 hsw2 hsw3 hsw4 => ?_⟩
  · have := ti_rng (M0 12)
    have : (219 : Int32).toInt = 219 := by decide
    have hsw9 := congrArg Int32.toInt hsw
    exact hQ1 _
  · have := ti_rng (M0 12)
    have : (220 : Int32).toInt = 220 := by decide
    have hsw9 := congrArg Int32.toInt hsw
    exact hQ1 _
  · have := ti_rng (M0 12)
    have : (221 : Int32).toInt = 221 := by decide
    have hsw9 := congrArg Int32.toInt hsw
    exact hQ1 _
  · have := ti_rng (M0 12)
    have : (222 : Int32).toInt = 222 := by decide
    have hsw9 := congrArg Int32.toInt hsw
    exact hQ1 _
  · have := ti_rng (M0 12)
    have : (223 : Int32).toInt = 223 := by decide
    have hsw9 := congrArg Int32.toInt hsw
    exact hQ1 _
  · have := ti_rng (M0 12)
    exact hQ1 _
set_option maxHeartbeats 2000000 in
theorem spR_X7_toldProperty_21 {N : Nat → Nat} (hN : rN N) {Q : Int32 → (Nat → Int32) → Nat × Nat → Prop} {M0 : Nat → Int32} (hQ : ∀ (r : Int32) (M' : Nat → Int32) (O' : Nat × Nat), rI N M' O' → rK M0 M' → Q r M' O') (a1 : Int32) (M : Nat → Int32) (O : Nat × Nat) (hI : rI N M O) (hk : rK M0 M) : wR_X7_toldProperty_21 N Q a1 M O := by
  obtain ⟨_, _, _, _, _, _, _, _, _, _, _, _, _, _, _, _⟩ := (show rN N from hN)
  obtain ⟨⟨_, _⟩, ⟨_, _⟩, ⟨_, _, _⟩, ⟨_, _⟩, ⟨_, _⟩, ⟨_, _⟩, ⟨_, _⟩⟩ := (show rI N M O from hI)
  unfold wR_X7_toldProperty_21
  obtain ⟨_, _, hst⟩ := (show (M 21).toInt = (M0 21).toInt ∧ (M 64).toInt = (M0 64).toInt ∧ ((M0 12).toInt = 137 → (M 12).toInt = 137) from hk)
  exact hQ _ _ _ (show rI N M O from hI) (show rK M0 M from hk)
set_option maxHeartbeats 2000000 in
theorem spR_X7_toldProperty {N : Nat → Nat} (hN : rN N) {M0 : Nat → Int32} {O : Nat × Nat} {Q : Int32 → (Nat → Int32) → Nat × Nat → Prop} (hI : rI N M0 O) (hQ : ∀ (r : Int32) (M' : Nat → Int32) (O' : Nat × Nat), rI N M' O' → rK M0 M' → Q r M' O') : wR_X7_toldProperty N  M0 O Q := by
  obtain ⟨_, _, _, _, _, _, _, _, _, _, _, _, _, _, _, _⟩ := (show rN N from hN)
  obtain ⟨⟨_, _⟩, ⟨_, _⟩, ⟨_, _, _⟩, ⟨_, _⟩, ⟨_, _⟩, ⟨_, _⟩, ⟨_, _⟩⟩ := (show rI N M0 O from hI)
  have hk : rK M0 M0 := rK_rf M0
  have hQ1 := hQ
  unfold wR_X7_toldProperty
  refine spR_X7_property hN  (show rI N M0 O from hI) (fun r1 => ?_)
  refine ⟨fun hc3 => ?_, fun hc3 => ?_⟩
  · have := ti_rng r1
    have : ((-1) : Int32).toInt = -1 := by decide
    have hc39 := ti_ne hc3
    refine spR_X7_advance hN  (show rI N M0 O from hI) (fun M4 O4 hI hk1 => ?_)
    have hk := rK_tr (show rK M0 M0 from hk) hk1
    obtain ⟨_, _, hst⟩ := (show (M4 21).toInt = (M0 21).toInt ∧ (M4 64).toInt = (M0 64).toInt ∧ ((M0 12).toInt = 137 → (M4 12).toInt = 137) from hk)
    obtain ⟨_, _, hst1⟩ := (show (M4 21).toInt = (M0 21).toInt ∧ (M4 64).toInt = (M0 64).toInt ∧ ((M0 12).toInt = 137 → (M4 12).toInt = 137) from hk1)
    obtain ⟨⟨_, _⟩, ⟨_, _⟩, ⟨_, _, _⟩, ⟨_, _⟩, ⟨_, _⟩, ⟨_, _⟩, ⟨_, _⟩⟩ := (show rI N M4 O4 from hI)
    exact spR_X7_toldProperty_21 hN hQ _ _ _ (show rI N M4 O4 from hI) (show rK M0 M4 from hk)
  · have := ti_rng r1
    have : ((-1) : Int32).toInt = -1 := by decide
    have hc39 := congrArg Int32.toInt hc3
    refine spR_X7_fail hN  (show rI N M0 O from hI) (fun M5 O5 hI hk1 hp5 => ?_)
    have hk := rK_tr (show rK M0 M0 from hk) hk1
    obtain ⟨_, _, hst⟩ := (show (M5 21).toInt = (M0 21).toInt ∧ (M5 64).toInt = (M0 64).toInt ∧ ((M0 12).toInt = 137 → (M5 12).toInt = 137) from hk)
    obtain ⟨_, _, hst1⟩ := (show (M5 21).toInt = (M0 21).toInt ∧ (M5 64).toInt = (M0 64).toInt ∧ ((M0 12).toInt = 137 → (M5 12).toInt = 137) from hk1)
    obtain ⟨⟨_, _⟩, ⟨_, _⟩, ⟨_, _, _⟩, ⟨_, _⟩, ⟨_, _⟩, ⟨_, _⟩, ⟨_, _⟩⟩ := (show rI N M5 O5 from hI)
    exact spR_X7_toldProperty_21 hN hQ _ _ _ (show rI N M5 O5 from hI) (show rK M0 M5 from hk)
set_option maxHeartbeats 2000000 in
theorem spR_X7_factor_116 {N : Nat → Nat} (hN : rN N) (q1 : Int32) {WF : Int32 → (Nat → Int32) → (Nat × Nat) → ((Nat → Int32) → Nat × Nat → Prop) → Prop} {Q : (Nat → Int32) → Nat × Nat → Prop} {M0 : Nat → Int32} {dF : Nat} (sWF : ∀ (q1 : Int32) (M : Nat → Int32) (O : Nat × Nat) {Q : (Nat → Int32) → Nat × Nat → Prop}, rI N M O → (((M 12).toInt = 137 ∧ 1 ≤ (dF : Int)) ∨ (0 ≤ q1.toInt ∧ q1.toInt ≤ 20 ∧ 22 - q1.toInt ≤ (dF : Int))) → (∀ (M' : Nat → Int32) (O' : Nat × Nat), rI N M' O' → rK M M' → Q M' O') → WF q1 M O Q) (hQ : ∀ (M' : Nat → Int32) (O' : Nat × Nat), rI N M' O' → rK M0 M' → Q M' O') (t1 : Int32) (t2 : Int32) (t3 : Int32) (M : Nat → Int32) (O : Nat × Nat) (hI : rI N M O) (hk : rK M0 M) : wR_X7_factor_116 N WF Q t1 t2 t3 M O := by
  obtain ⟨_, _, _, _, _, _, _, _, _, _, _, _, _, _, _, _⟩ := (show rN N from hN)
  obtain ⟨⟨_, _⟩, ⟨_, _⟩, ⟨_, _, _⟩, ⟨_, _⟩, ⟨_, _⟩, ⟨_, _⟩, ⟨_, _⟩⟩ := (show rI N M O from hI)
  unfold wR_X7_factor_116
  obtain ⟨_, _, hst⟩ := (show (M 21).toInt = (M0 21).toInt ∧ (M 64).toInt = (M0 64).toInt ∧ ((M0 12).toInt = 137 → (M 12).toInt = 137) from hk)
  have := ti_rng t1
  have := ti_rng t2
  have := ti_rng t3
  refine spR_X7_emit__ hN _ _ _ (show rI N M O from hI) (fun M17 O17 hI hk1 => ?_)
  have hk := rK_tr (show rK M0 M from hk) hk1
  obtain ⟨_, _, hst⟩ := (show (M17 21).toInt = (M0 21).toInt ∧ (M17 64).toInt = (M0 64).toInt ∧ ((M0 12).toInt = 137 → (M17 12).toInt = 137) from hk)
  obtain ⟨_, _, hst1⟩ := (show (M17 21).toInt = (M 21).toInt ∧ (M17 64).toInt = (M 64).toInt ∧ ((M 12).toInt = 137 → (M17 12).toInt = 137) from hk1)
  obtain ⟨⟨_, _⟩, ⟨_, _⟩, ⟨_, _, _⟩, ⟨_, _⟩, ⟨_, _⟩, ⟨_, _⟩, ⟨_, _⟩⟩ := (show rI N M17 O17 from hI)
  exact hQ _ _ (show rI N M17 O17 from hI) (show rK M0 M17 from hk)
set_option maxHeartbeats 2000000 in
theorem spR_X7_factor {N : Nat → Nat} (hN : rN N) {WF : Int32 → (Nat → Int32) → (Nat × Nat) → ((Nat → Int32) → Nat × Nat → Prop) → Prop} {dF : Nat} (sWF : ∀ (q1 : Int32) (M : Nat → Int32) (O : Nat × Nat) {Q : (Nat → Int32) → Nat × Nat → Prop}, rI N M O → (((M 12).toInt = 137 ∧ 1 ≤ (dF : Int)) ∨ (0 ≤ q1.toInt ∧ q1.toInt ≤ 20 ∧ 22 - q1.toInt ≤ (dF : Int))) → (∀ (M' : Nat → Int32) (O' : Nat × Nat), rI N M' O' → rK M M' → Q M' O') → WF q1 M O Q) (q1 : Int32) {M0 : Nat → Int32} {O : Nat × Nat} {Q : (Nat → Int32) → Nat × Nat → Prop} (hI : rI N M0 O) (hpre : (M0 12).toInt = 137 ∨ (0 ≤ q1.toInt ∧ q1.toInt ≤ 20 ∧ 21 - q1.toInt ≤ (dF : Int))) (hQ : ∀ (M' : Nat → Int32) (O' : Nat × Nat), rI N M' O' → rK M0 M' → Q M' O') : wR_X7_factor N WF q1 M0 O Q := by
  obtain ⟨_, _, _, _, _, _, _, _, _, _, _, _, _, _, _, _⟩ := (show rN N from hN)
  obtain ⟨⟨_, _⟩, ⟨_, _⟩, ⟨_, _, _⟩, ⟨_, _⟩, ⟨_, _⟩, ⟨_, _⟩, ⟨_, _⟩⟩ := (show rI N M0 O from hI)
  have hk : rK M0 M0 := rK_rf M0
  have hQ1 := hQ
  unfold wR_X7_factor
  refine ⟨fun hsw => ?_, fun hsw => ?_, fun hsw => ?_, fun hsw => ?_, fun hsw => ?_, fun hsw0 hsw1 hsw2 hsw3 hsw4 => ?_⟩
  · have := ti_rng (M0 12)
    have : (40 : Int32).toInt = 40 := by decide
    have hsw9 := congrArg Int32.toInt hsw
    have := ti_rng q1
    refine spR_X7_takeOpening hN _ _ (show rI N M0 O from hI) (fun M1 O1 hI hk1 hp1 => ?_)
    have hk := rK_tr (show rK M0 M0 from hk) hk1
    obtain ⟨_, _, hst⟩ := (show (M1 21).toInt = (M0 21).toInt ∧ (M1 64).toInt = (M0 64).toInt ∧ ((M0 12).toInt = 137 → (M1 12).toInt = 137) from hk)
    obtain ⟨_, _, hst1⟩ := (show (M1 21).toInt = (M0 21).toInt ∧ (M1 64).toInt = (M0 64).toInt ∧ ((M0 12).toInt = 137 → (M1 12).toInt = 137) from hk1)
    obtain ⟨⟨_, _⟩, ⟨_, _⟩, ⟨_, _, _⟩, ⟨_, _⟩, ⟨_, _⟩, ⟨_, _⟩, ⟨_, _⟩⟩ := (show rI N M1 O1 from hI)
    have : (1 : Int32).toInt = 1 := by decide
    first | have := ti_addx q1 1 (by omega) | obtain ⟨_, _, _, _⟩ := ti_add q1 1
    have := ti_rng (M1 12)
    refine spR_X7_expression hN sWF _ (show rI N M1 O1 from hI) (show ((M1 12).toInt = 137 ∧ 1 ≤ (dF : Int)) ∨ (0 ≤ (q1 + 1).toInt ∧ (q1 + 1).toInt ≤ 20 ∧ 22 - (q1 + 1).toInt ≤ (dF : Int)) from by omega) (fun M2 O2 hI hk1 => ?_)
    have hk := rK_tr (show rK M0 M1 from hk) hk1
    obtain ⟨_, _, hst⟩ := (show (M2 21).toInt = (M0 21).toInt ∧ (M2 64).toInt = (M0 64).toInt ∧ ((M0 12).toInt = 137 → (M2 12).toInt = 137) from hk)
    obtain ⟨_, _, hst1⟩ := (show (M2 21).toInt = (M1 21).toInt ∧ (M2 64).toInt = (M1 64).toInt ∧ ((M1 12).toInt = 137 → (M2 12).toInt = 137) from hk1)
    obtain ⟨⟨_, _⟩, ⟨_, _⟩, ⟨_, _, _⟩, ⟨_, _⟩, ⟨_, _⟩, ⟨_, _⟩, ⟨_, _⟩⟩ := (show rI N M2 O2 from hI)
    have : (41 : Int32).toInt = 41 := by decide
    refine spR_X7_take hN _ (show rI N M2 O2 from hI) (fun M3 O3 hI hk1 => ?_)
    have hk := rK_tr (show rK M0 M2 from hk) hk1
    obtain ⟨_, _, hst⟩ := (show (M3 21).toInt = (M0 21).toInt ∧ (M3 64).toInt = (M0 64).toInt ∧ ((M0 12).toInt = 137 → (M3 12).toInt = 137) from hk)
    obtain ⟨_, _, hst1⟩ := (show (M3 21).toInt = (M2 21).toInt ∧ (M3 64).toInt = (M2 64).toInt ∧ ((M2 12).toInt = 137 → (M3 12).toInt = 137) from hk1)
    obtain ⟨⟨_, _⟩, ⟨_, _⟩, ⟨_, _, _⟩, ⟨_, _⟩, ⟨_, _⟩, ⟨_, _⟩, ⟨_, _⟩⟩ := (show rI N M3 O3 from hI)
    exact hQ _ _ (show rI N M3 O3 from hI) (show rK M0 M3 from hk)
  · have := ti_rng (M0 12)
    have : (45 : Int32).toInt = 45 := by decide
    have hsw9 := congrArg Int32.toInt hsw
    have := ti_rng q1
    refine spR_X7_takeOpening hN _ _ (show rI N M0 O from hI) (fun M4 O4 hI hk1 hp4 => ?_)
    have hk := rK_tr (show rK M0 M0 from hk) hk1
    obtain ⟨_, _, hst⟩ := (show (M4 21).toInt = (M0 21).toInt ∧ (M4 64).toInt = (M0 64).toInt ∧ ((M0 12).toInt = 137 → (M4 12).toInt = 137) from hk)
    obtain ⟨_, _, hst1⟩ := (show (M4 21).toInt = (M0 21).toInt ∧ (M4 64).toInt = (M0 64).toInt ∧ ((M0 12).toInt = 137 → (M4 12).toInt = 137) from hk1)
    obtain ⟨⟨_, _⟩, ⟨_, _⟩, ⟨_, _, _⟩, ⟨_, _⟩, ⟨_, _⟩, ⟨_, _⟩, ⟨_, _⟩⟩ := (show rI N M4 O4 from hI)
    have : (1 : Int32).toInt = 1 := by decide
    first | have := ti_addx q1 1 (by omega) | obtain ⟨_, _, _, _⟩ := ti_add q1 1
    have := ti_rng (M4 12)
    refine sWF _ _ _ (show rI N M4 O4 from hI) (show ((M4 12).toInt = 137 ∧ 1 ≤ (dF : Int)) ∨ (0 ≤ (q1 + 1).toInt ∧ (q1 + 1).toInt ≤ 20 ∧ 22 - (q1 + 1).toInt ≤ (dF : Int)) from by omega) (fun M5 O5 hI hk1 => ?_)
    have hk := rK_tr (show rK M0 M4 from hk) hk1
    obtain ⟨_, _, hst⟩ := (show (M5 21).toInt = (M0 21).toInt ∧ (M5 64).toInt = (M0 64).toInt ∧ ((M0 12).toInt = 137 → (M5 12).toInt = 137) from hk)
    obtain ⟨_, _, hst1⟩ := (show (M5 21).toInt = (M4 21).toInt ∧ (M5 64).toInt = (M4 64).toInt ∧ ((M4 12).toInt = 137 → (M5 12).toInt = 137) from hk1)
    obtain ⟨⟨_, _⟩, ⟨_, _⟩, ⟨_, _, _⟩, ⟨_, _⟩, ⟨_, _⟩, ⟨_, _⟩, ⟨_, _⟩⟩ := (show rI N M5 O5 from hI)
    have : (11 : Int32).toInt = 11 := by decide
    refine spR_X7_emit hN _ (show rI N M5 O5 from hI) (fun M6 O6 hI hk1 => ?_)
    have hk := rK_tr (show rK M0 M5 from hk) hk1
    obtain ⟨_, _, hst⟩ := (show (M6 21).toInt = (M0 21).toInt ∧ (M6 64).toInt = (M0 64).toInt ∧ ((M0 12).toInt = 137 → (M6 12).toInt = 137) from hk)
    obtain ⟨_, _, hst1⟩ := (show (M6 21).toInt = (M5 21).toInt ∧ (M6 64).toInt = (M5 64).toInt ∧ ((M5 12).toInt = 137 → (M6 12).toInt = 137) from hk1)
    obtain ⟨⟨_, _⟩, ⟨_, _⟩, ⟨_, _, _⟩, ⟨_, _⟩, ⟨_, _⟩, ⟨_, _⟩, ⟨_, _⟩⟩ := (show rI N M6 O6 from hI)
    exact hQ _ _ (show rI N M6 O6 from hI) (show rK M0 M6 from hk)
  · have := ti_rng (M0 12)
    have : (130 : Int32).toInt = 130 := by decide
    have hsw9 := congrArg Int32.toInt hsw
    refine spR_X7_name hN  (show rI N M0 O from hI) (fun r7 M8 O8 hI hk1 => ?_)
    have hk := rK_tr (show rK M0 M0 from hk) hk1
    obtain ⟨_, _, hst⟩ := (show (M8 21).toInt = (M0 21).toInt ∧ (M8 64).toInt = (M0 64).toInt ∧ ((M0 12).toInt = 137 → (M8 12).toInt = 137) from hk)
    obtain ⟨_, _, hst1⟩ := (show (M8 21).toInt = (M0 21).toInt ∧ (M8 64).toInt = (M0 64).toInt ∧ ((M0 12).toInt = 137 → (M8 12).toInt = 137) from hk1)
    obtain ⟨⟨_, _⟩, ⟨_, _⟩, ⟨_, _, _⟩, ⟨_, _⟩, ⟨_, _⟩, ⟨_, _⟩, ⟨_, _⟩⟩ := (show rI N M8 O8 from hI)
    have : (8 : Int32).toInt = 8 := by decide
    have := ti_rng r7
    refine spR_X7_emit_ hN _ _ (show rI N M8 O8 from hI) (fun M9 O9 hI hk1 => ?_)
    have hk := rK_tr (show rK M0 M8 from hk) hk1
    obtain ⟨_, _, hst⟩ := (show (M9 21).toInt = (M0 21).toInt ∧ (M9 64).toInt = (M0 64).toInt ∧ ((M0 12).toInt = 137 → (M9 12).toInt = 137) from hk)
    obtain ⟨_, _, hst1⟩ := (show (M9 21).toInt = (M8 21).toInt ∧ (M9 64).toInt = (M8 64).toInt ∧ ((M8 12).toInt = 137 → (M9 12).toInt = 137) from hk1)
    obtain ⟨⟨_, _⟩, ⟨_, _⟩, ⟨_, _, _⟩, ⟨_, _⟩, ⟨_, _⟩, ⟨_, _⟩, ⟨_, _⟩⟩ := (show rI N M9 O9 from hI)
    exact hQ _ _ (show rI N M9 O9 from hI) (show rK M0 M9 from hk)
  · have := ti_rng (M0 12)
    have : (131 : Int32).toInt = 131 := by decide
    have hsw9 := congrArg Int32.toInt hsw
    refine spR_X7_object hN  (show rI N M0 O from hI) (fun r10 M11 O11 hI hk1 => ?_)
    have hk := rK_tr (show rK M0 M0 from hk) hk1
    obtain ⟨_, _, hst⟩ := (show (M11 21).toInt = (M0 21).toInt ∧ (M11 64).toInt = (M0 64).toInt ∧ ((M0 12).toInt = 137 → (M11 12).toInt = 137) from hk)
    obtain ⟨_, _, hst1⟩ := (show (M11 21).toInt = (M0 21).toInt ∧ (M11 64).toInt = (M0 64).toInt ∧ ((M0 12).toInt = 137 → (M11 12).toInt = 137) from hk1)
    obtain ⟨⟨_, _⟩, ⟨_, _⟩, ⟨_, _, _⟩, ⟨_, _⟩, ⟨_, _⟩, ⟨_, _⟩, ⟨_, _⟩⟩ := (show rI N M11 O11 from hI)
    refine spR_X7_question hN  (show rI N M11 O11 from hI) (fun r12 M13 O13 hI hk1 => ?_)
    have hk := rK_tr (show rK M0 M11 from hk) hk1
    obtain ⟨_, _, hst⟩ := (show (M13 21).toInt = (M0 21).toInt ∧ (M13 64).toInt = (M0 64).toInt ∧ ((M0 12).toInt = 137 → (M13 12).toInt = 137) from hk)
    obtain ⟨_, _, hst1⟩ := (show (M13 21).toInt = (M11 21).toInt ∧ (M13 64).toInt = (M11 64).toInt ∧ ((M11 12).toInt = 137 → (M13 12).toInt = 137) from hk1)
    obtain ⟨⟨_, _⟩, ⟨_, _⟩, ⟨_, _, _⟩, ⟨_, _⟩, ⟨_, _⟩, ⟨_, _⟩, ⟨_, _⟩⟩ := (show rI N M13 O13 from hI)
    refine ⟨fun hc14 => ?_, fun hc14 => ?_⟩
    · have := ti_rng r12
      have : (23 : Int32).toInt = 23 := by decide
      have hc149 := ti_ne hc14
      refine spR_X7_object hN  (show rI N M13 O13 from hI) (fun r15 M16 O16 hI hk1 => ?_)
      have hk := rK_tr (show rK M0 M13 from hk) hk1
      obtain ⟨_, _, hst⟩ := (show (M16 21).toInt = (M0 21).toInt ∧ (M16 64).toInt = (M0 64).toInt ∧ ((M0 12).toInt = 137 → (M16 12).toInt = 137) from hk)
      obtain ⟨_, _, hst1⟩ := (show (M16 21).toInt = (M13 21).toInt ∧ (M16 64).toInt = (M13 64).toInt ∧ ((M13 12).toInt = 137 → (M16 12).toInt = 137) from hk1)
      obtain ⟨⟨_, _⟩, ⟨_, _⟩, ⟨_, _, _⟩, ⟨_, _⟩, ⟨_, _⟩, ⟨_, _⟩, ⟨_, _⟩⟩ := (show rI N M16 O16 from hI)
      have := ti_rng r10
      have := ti_rng r15
      exact spR_X7_factor_116 hN q1 sWF hQ _ _ _ _ _ (show rI N M16 O16 from hI) (show rK M0 M16 from hk)
    · have := ti_rng r12
      have : (23 : Int32).toInt = 23 := by decide
      have hc149 := congrArg Int32.toInt hc14
      refine spR_X7_kind hN  (show rI N M13 O13 from hI) (fun r18 M19 O19 hI hk1 => ?_)
      have hk := rK_tr (show rK M0 M13 from hk) hk1
      obtain ⟨_, _, hst⟩ := (show (M19 21).toInt = (M0 21).toInt ∧ (M19 64).toInt = (M0 64).toInt ∧ ((M0 12).toInt = 137 → (M19 12).toInt = 137) from hk)
      obtain ⟨_, _, hst1⟩ := (show (M19 21).toInt = (M13 21).toInt ∧ (M19 64).toInt = (M13 64).toInt ∧ ((M13 12).toInt = 137 → (M19 12).toInt = 137) from hk1)
      obtain ⟨⟨_, _⟩, ⟨_, _⟩, ⟨_, _, _⟩, ⟨_, _⟩, ⟨_, _⟩, ⟨_, _⟩, ⟨_, _⟩⟩ := (show rI N M19 O19 from hI)
      have := ti_rng r10
      have := ti_rng r18
      exact spR_X7_factor_116 hN q1 sWF hQ _ _ _ _ _ (show rI N M19 O19 from hI) (show rK M0 M19 from hk)
  · have := ti_rng (M0 12)
    have : (132 : Int32).toInt = 132 := by decide
    have hsw9 := congrArg Int32.toInt hsw
    have : (7 : Int32).toInt = 7 := by decide
    have := ti_rng (M0 13)
    refine spR_X7_emit_ hN _ _ (show rI N M0 O from hI) (fun M20 O20 hI hk1 => ?_)
    have hk := rK_tr (show rK M0 M0 from hk) hk1
    obtain ⟨_, _, hst⟩ := (show (M20 21).toInt = (M0 21).toInt ∧ (M20 64).toInt = (M0 64).toInt ∧ ((M0 12).toInt = 137 → (M20 12).toInt = 137) from hk)
    obtain ⟨_, _, hst1⟩ := (show (M20 21).toInt = (M0 21).toInt ∧ (M20 64).toInt = (M0 64).toInt ∧ ((M0 12).toInt = 137 → (M20 12).toInt = 137) from hk1)
    obtain ⟨⟨_, _⟩, ⟨_, _⟩, ⟨_, _, _⟩, ⟨_, _⟩, ⟨_, _⟩, ⟨_, _⟩, ⟨_, _⟩⟩ := (show rI N M20 O20 from hI)
    refine spR_X7_advance hN  (show rI N M20 O20 from hI) (fun M21 O21 hI hk1 => ?_)
    have hk := rK_tr (show rK M0 M20 from hk) hk1
    obtain ⟨_, _, hst⟩ := (show (M21 21).toInt = (M0 21).toInt ∧ (M21 64).toInt = (M0 64).toInt ∧ ((M0 12).toInt = 137 → (M21 12).toInt = 137) from hk)
    obtain ⟨_, _, hst1⟩ := (show (M21 21).toInt = (M20 21).toInt ∧ (M21 64).toInt = (M20 64).toInt ∧ ((M20 12).toInt = 137 → (M21 12).toInt = 137) from hk1)
    obtain ⟨⟨_, _⟩, ⟨_, _⟩, ⟨_, _, _⟩, ⟨_, _⟩, ⟨_, _⟩, ⟨_, _⟩, ⟨_, _⟩⟩ := (show rI N M21 O21 from hI)
    exact hQ _ _ (show rI N M21 O21 from hI) (show rK M0 M21 from hk)
  · have := ti_rng (M0 12)
    refine spR_X7_toldProperty hN  (show rI N M0 O from hI) (fun r22 M23 O23 hI hk1 => ?_)
    have hk := rK_tr (show rK M0 M0 from hk) hk1
    obtain ⟨_, _, hst⟩ := (show (M23 21).toInt = (M0 21).toInt ∧ (M23 64).toInt = (M0 64).toInt ∧ ((M0 12).toInt = 137 → (M23 12).toInt = 137) from hk)
    obtain ⟨_, _, hst1⟩ := (show (M23 21).toInt = (M0 21).toInt ∧ (M23 64).toInt = (M0 64).toInt ∧ ((M0 12).toInt = 137 → (M23 12).toInt = 137) from hk1)
    obtain ⟨⟨_, _⟩, ⟨_, _⟩, ⟨_, _, _⟩, ⟨_, _⟩, ⟨_, _⟩, ⟨_, _⟩, ⟨_, _⟩⟩ := (show rI N M23 O23 from hI)
    refine spR_X7_object hN  (show rI N M23 O23 from hI) (fun r24 M25 O25 hI hk1 => ?_)
    have hk := rK_tr (show rK M0 M23 from hk) hk1
    obtain ⟨_, _, hst⟩ := (show (M25 21).toInt = (M0 21).toInt ∧ (M25 64).toInt = (M0 64).toInt ∧ ((M0 12).toInt = 137 → (M25 12).toInt = 137) from hk)
    obtain ⟨_, _, hst1⟩ := (show (M25 21).toInt = (M23 21).toInt ∧ (M25 64).toInt = (M23 64).toInt ∧ ((M23 12).toInt = 137 → (M25 12).toInt = 137) from hk1)
    obtain ⟨⟨_, _⟩, ⟨_, _⟩, ⟨_, _, _⟩, ⟨_, _⟩, ⟨_, _⟩, ⟨_, _⟩, ⟨_, _⟩⟩ := (show rI N M25 O25 from hI)
    have : (22 : Int32).toInt = 22 := by decide
    have := ti_rng r24
    have := ti_rng r22
    refine spR_X7_emit__ hN _ _ _ (show rI N M25 O25 from hI) (fun M26 O26 hI hk1 => ?_)
    have hk := rK_tr (show rK M0 M25 from hk) hk1
    obtain ⟨_, _, hst⟩ := (show (M26 21).toInt = (M0 21).toInt ∧ (M26 64).toInt = (M0 64).toInt ∧ ((M0 12).toInt = 137 → (M26 12).toInt = 137) from hk)
    obtain ⟨_, _, hst1⟩ := (show (M26 21).toInt = (M25 21).toInt ∧ (M26 64).toInt = (M25 64).toInt ∧ ((M25 12).toInt = 137 → (M26 12).toInt = 137) from hk1)
    obtain ⟨⟨_, _⟩, ⟨_, _⟩, ⟨_, _, _⟩, ⟨_, _⟩, ⟨_, _⟩, ⟨_, _⟩, ⟨_, _⟩⟩ := (show rI N M26 O26 from hI)
    exact hQ _ _ (show rI N M26 O26 from hI) (show rK M0 M26 from hk)

