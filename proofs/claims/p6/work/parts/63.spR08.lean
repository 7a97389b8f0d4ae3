set_option maxHeartbeats 2000000 in
theorem spR_X7_let {N : Nat → Nat} (hN : rN N) {WF : Int32 → (Nat → Int32) → (Nat × Nat) → ((Nat → Int32) → Nat × Nat → Prop) → Prop} {dF : Nat} (sWF : ∀ (q1 : Int32) (M : Nat → Int32) (O : Nat × Nat) {Q : (Nat → Int32) → Nat × Nat → Prop}, rI N M O → (((M 12).toInt = 137 ∧ 1 ≤ (dF : Int)) ∨ (0 ≤ q1.toInt ∧ q1.toInt ≤ 20 ∧ 22 - q1.toInt ≤ (dF : Int))) → (∀ (M' : Nat → Int32) (O' : Nat × Nat), rI N M' O' → rK M M' → Q M' O') → WF q1 M O Q) (q1 : Int32) {M0 : Nat → Int32} {O : Nat × Nat} {Q : (Nat → Int32) → Nat × Nat → Prop} (hI : rI N M0 O) (hpre : 0 ≤ q1.toInt ∧ q1.toInt ≤ 20 ∧ 22 ≤ (dF : Int)) (hQ : ∀ (M' : Nat → Int32) (O' : Nat × Nat), rI N M' O' → rK M0 M' → Q M' O') : wR_X7_let N WF q1 M0 O Q := by
  obtain ⟨_, _, _, _, _, _, _, _, _, _, _, _, _, _, _, _⟩ := (show rN N from hN)
  obtain ⟨⟨_, _⟩, ⟨_, _⟩, ⟨_, _, _⟩, ⟨_, _⟩, ⟨_, _⟩, ⟨_, _⟩, ⟨_, _⟩⟩ := (show rI N M0 O from hI)
  have hk : rK M0 M0 := rK_rf M0
  have hQ1 := hQ
  unfold wR_X7_let
  refine spR_X7_advance hN  (show rI N M0 O from hI) (fun M1 O1 hI hk1 => ?_)
  have hk := rK_tr (show rK M0 M0 from hk) hk1
  obtain ⟨_, _, hst⟩ := (show (M1 21).toInt = (M0 21).toInt ∧ (M1 64).toInt = (M0 64).toInt ∧ ((M0 12).toInt = 137 → (M1 12).toInt = 137) from hk)
  obtain ⟨_, _, hst1⟩ := (show (M1 21).toInt = (M0 21).toInt ∧ (M1 64).toInt = (M0 64).toInt ∧ ((M0 12).toInt = 137 → (M1 12).toInt = 137) from hk1)
  obtain ⟨⟨_, _⟩, ⟨_, _⟩, ⟨_, _, _⟩, ⟨_, _⟩, ⟨_, _⟩, ⟨_, _⟩, ⟨_, _⟩⟩ := (show rI N M1 O1 from hI)
  refine spR_X7_newName hN  (show rI N M1 O1 from hI) (fun r2 M3 O3 hI hk1 => ?_)
  have hk := rK_tr (show rK M0 M1 from hk) hk1
  obtain ⟨_, _, hst⟩ := (show (M3 21).toInt = (M0 21).toInt ∧ (M3 64).toInt = (M0 64).toInt ∧ ((M0 12).toInt = 137 → (M3 12).toInt = 137) from hk)
  obtain ⟨_, _, hst1⟩ := (show (M3 21).toInt = (M1 21).toInt ∧ (M3 64).toInt = (M1 64).toInt ∧ ((M1 12).toInt = 137 → (M3 12).toInt = 137) from hk1)
  obtain ⟨⟨_, _⟩, ⟨_, _⟩, ⟨_, _, _⟩, ⟨_, _⟩, ⟨_, _⟩, ⟨_, _⟩, ⟨_, _⟩⟩ := (show rI N M3 O3 from hI)
  have : (130 : Int32).toInt = 130 := by decide
  refine spR_X7_take hN _ (show rI N M3 O3 from hI) (fun M4 O4 hI hk1 => ?_)
  have hk := rK_tr (show rK M0 M3 from hk) hk1
  obtain ⟨_, _, hst⟩ := (show (M4 21).toInt = (M0 21).toInt ∧ (M4 64).toInt = (M0 64).toInt ∧ ((M0 12).toInt = 137 → (M4 12).toInt = 137) from hk)
  obtain ⟨_, _, hst1⟩ := (show (M4 21).toInt = (M3 21).toInt ∧ (M4 64).toInt = (M3 64).toInt ∧ ((M3 12).toInt = 137 → (M4 12).toInt = 137) from hk1)
  obtain ⟨⟨_, _⟩, ⟨_, _⟩, ⟨_, _, _⟩, ⟨_, _⟩, ⟨_, _⟩, ⟨_, _⟩, ⟨_, _⟩⟩ := (show rI N M4 O4 from hI)
  have : (61 : Int32).toInt = 61 := by decide
  refine spR_X7_take hN _ (show rI N M4 O4 from hI) (fun M5 O5 hI hk1 => ?_)
  have hk := rK_tr (show rK M0 M4 from hk) hk1
  obtain ⟨_, _, hst⟩ := (show (M5 21).toInt = (M0 21).toInt ∧ (M5 64).toInt = (M0 64).toInt ∧ ((M0 12).toInt = 137 → (M5 12).toInt = 137) from hk)
  obtain ⟨_, _, hst1⟩ := (show (M5 21).toInt = (M4 21).toInt ∧ (M5 64).toInt = (M4 64).toInt ∧ ((M4 12).toInt = 137 → (M5 12).toInt = 137) from hk1)
  obtain ⟨⟨_, _⟩, ⟨_, _⟩, ⟨_, _, _⟩, ⟨_, _⟩, ⟨_, _⟩, ⟨_, _⟩, ⟨_, _⟩⟩ := (show rI N M5 O5 from hI)
  have := ti_rng q1
  have := ti_rng (M5 12)
  refine spR_X7_expression hN sWF _ (show rI N M5 O5 from hI) (show ((M5 12).toInt = 137 ∧ 1 ≤ (dF : Int)) ∨ (0 ≤ q1.toInt ∧ q1.toInt ≤ 20 ∧ 22 - q1.toInt ≤ (dF : Int)) from by omega) (fun M6 O6 hI hk1 => ?_)
  have hk := rK_tr (show rK M0 M5 from hk) hk1
  obtain ⟨_, _, hst⟩ := (show (M6 21).toInt = (M0 21).toInt ∧ (M6 64).toInt = (M0 64).toInt ∧ ((M0 12).toInt = 137 → (M6 12).toInt = 137) from hk)
  obtain ⟨_, _, hst1⟩ := (show (M6 21).toInt = (M5 21).toInt ∧ (M6 64).toInt = (M5 64).toInt ∧ ((M5 12).toInt = 137 → (M6 12).toInt = 137) from hk1)
  obtain ⟨⟨_, _⟩, ⟨_, _⟩, ⟨_, _, _⟩, ⟨_, _⟩, ⟨_, _⟩, ⟨_, _⟩, ⟨_, _⟩⟩ := (show rI N M6 O6 from hI)
  have := ti_rng (M1 13)
  have := ti_rng r2
  refine spR_X7_tell hN _ _ (show rI N M6 O6 from hI) (?_)
  have : (9 : Int32).toInt = 9 := by decide
  refine spR_X7_emit_ hN _ _ (show rI N M6 O6 from hI) (fun M8 O8 hI hk1 => ?_)
  have hk := rK_tr (show rK M0 M6 from hk) hk1
  obtain ⟨_, _, hst⟩ := (show (M8 21).toInt = (M0 21).toInt ∧ (M8 64).toInt = (M0 64).toInt ∧ ((M0 12).toInt = 137 → (M8 12).toInt = 137) from hk)
  obtain ⟨_, _, hst1⟩ := (show (M8 21).toInt = (M6 21).toInt ∧ (M8 64).toInt = (M6 64).toInt ∧ ((M6 12).toInt = 137 → (M8 12).toInt = 137) from hk1)
  obtain ⟨⟨_, _⟩, ⟨_, _⟩, ⟨_, _, _⟩, ⟨_, _⟩, ⟨_, _⟩, ⟨_, _⟩, ⟨_, _⟩⟩ := (show rI N M8 O8 from hI)
  exact hQ _ _ (show rI N M8 O8 from hI) (show rK M0 M8 from hk)
set_option maxHeartbeats 2000000 in
theorem spR_X7_assignment {N : Nat → Nat} (hN : rN N) {WF : Int32 → (Nat → Int32) → (Nat × Nat) → ((Nat → Int32) → Nat × Nat → Prop) → Prop} {dF : Nat} (sWF : ∀ (q1 : Int32) (M : Nat → Int32) (O : Nat × Nat) {Q : (Nat → Int32) → Nat × Nat → Prop}, rI N M O → (((M 12).toInt = 137 ∧ 1 ≤ (dF : Int)) ∨ (0 ≤ q1.toInt ∧ q1.toInt ≤ 20 ∧ 22 - q1.toInt ≤ (dF : Int))) → (∀ (M' : Nat → Int32) (O' : Nat × Nat), rI N M' O' → rK M M' → Q M' O') → WF q1 M O Q) (q1 : Int32) {M0 : Nat → Int32} {O : Nat × Nat} {Q : (Nat → Int32) → Nat × Nat → Prop} (hI : rI N M0 O) (hpre : 0 ≤ q1.toInt ∧ q1.toInt ≤ 20 ∧ 22 ≤ (dF : Int)) (hQ : ∀ (M' : Nat → Int32) (O' : Nat × Nat), rI N M' O' → rK M0 M' → Q M' O') : wR_X7_assignment N WF q1 M0 O Q := by
  obtain ⟨_, _, _, _, _, _, _, _, _, _, _, _, _, _, _, _⟩ := (show rN N from hN)
  obtain ⟨⟨_, _⟩, ⟨_, _⟩, ⟨_, _, _⟩, ⟨_, _⟩, ⟨_, _⟩, ⟨_, _⟩, ⟨_, _⟩⟩ := (show rI N M0 O from hI)
  have hk : rK M0 M0 := rK_rf M0
  have hQ1 := hQ
  unfold wR_X7_assignment
  refine spR_X7_name hN  (show rI N M0 O from hI) (fun r1 M2 O2 hI hk1 => ?_)
  have hk := rK_tr (show rK M0 M0 from hk) hk1
  obtain ⟨_, _, hst⟩ := (show (M2 21).toInt = (M0 21).toInt ∧ (M2 64).toInt = (M0 64).toInt ∧ ((M0 12).toInt = 137 → (M2 12).toInt = 137) from hk)
  obtain ⟨_, _, hst1⟩ := (show (M2 21).toInt = (M0 21).toInt ∧ (M2 64).toInt = (M0 64).toInt ∧ ((M0 12).toInt = 137 → (M2 12).toInt = 137) from hk1)
  obtain ⟨⟨_, _⟩, ⟨_, _⟩, ⟨_, _, _⟩, ⟨_, _⟩, ⟨_, _⟩, ⟨_, _⟩, ⟨_, _⟩⟩ := (show rI N M2 O2 from hI)
  have : (61 : Int32).toInt = 61 := by decide
  refine spR_X7_take hN _ (show rI N M2 O2 from hI) (fun M3 O3 hI hk1 => ?_)
  have hk := rK_tr (show rK M0 M2 from hk) hk1
  obtain ⟨_, _, hst⟩ := (show (M3 21).toInt = (M0 21).toInt ∧ (M3 64).toInt = (M0 64).toInt ∧ ((M0 12).toInt = 137 → (M3 12).toInt = 137) from hk)
  obtain ⟨_, _, hst1⟩ := (show (M3 21).toInt = (M2 21).toInt ∧ (M3 64).toInt = (M2 64).toInt ∧ ((M2 12).toInt = 137 → (M3 12).toInt = 137) from hk1)
  obtain ⟨⟨_, _⟩, ⟨_, _⟩, ⟨_, _, _⟩, ⟨_, _⟩, ⟨_, _⟩, ⟨_, _⟩, ⟨_, _⟩⟩ := (show rI N M3 O3 from hI)
  have := ti_rng q1
  have := ti_rng (M3 12)
  refine spR_X7_expression hN sWF _ (show rI N M3 O3 from hI) (show ((M3 12).toInt = 137 ∧ 1 ≤ (dF : Int)) ∨ (0 ≤ q1.toInt ∧ q1.toInt ≤ 20 ∧ 22 - q1.toInt ≤ (dF : Int)) from by omega) (fun M4 O4 hI hk1 => ?_)
  have hk := rK_tr (show rK M0 M3 from hk) hk1
  obtain ⟨_, _, hst⟩ := (show (M4 21).toInt = (M0 21).toInt ∧ (M4 64).toInt = (M0 64).toInt ∧ ((M0 12).toInt = 137 → (M4 12).toInt = 137) from hk)
  obtain ⟨_, _, hst1⟩ := (show (M4 21).toInt = (M3 21).toInt ∧ (M4 64).toInt = (M3 64).toInt ∧ ((M3 12).toInt = 137 → (M4 12).toInt = 137) from hk1)
  obtain ⟨⟨_, _⟩, ⟨_, _⟩, ⟨_, _, _⟩, ⟨_, _⟩, ⟨_, _⟩, ⟨_, _⟩, ⟨_, _⟩⟩ := (show rI N M4 O4 from hI)
  have : (9 : Int32).toInt = 9 := by decide
  have := ti_rng r1
  refine spR_X7_emit_ hN _ _ (show rI N M4 O4 from hI) (fun M5 O5 hI hk1 => ?_)
  have hk := rK_tr (show rK M0 M4 from hk) hk1
  obtain ⟨_, _, hst⟩ := (show (M5 21).toInt = (M0 21).toInt ∧ (M5 64).toInt = (M0 64).toInt ∧ ((M0 12).toInt = 137 → (M5 12).toInt = 137) from hk)
  obtain ⟨_, _, hst1⟩ := (show (M5 21).toInt = (M4 21).toInt ∧ (M5 64).toInt = (M4 64).toInt ∧ ((M4 12).toInt = 137 → (M5 12).toInt = 137) from hk1)
  obtain ⟨⟨_, _⟩, ⟨_, _⟩, ⟨_, _, _⟩, ⟨_, _⟩, ⟨_, _⟩, ⟨_, _⟩, ⟨_, _⟩⟩ := (show rI N M5 O5 from hI)
  exact hQ _ _ (show rI N M5 O5 from hI) (show rK M0 M5 from hk)
set_option maxHeartbeats 2000000 in
theorem spR_X7_newObjection_91 {N : Nat → Nat} (hN : rN N) (q1 : Int32) (q2 : Int32) {WF : Int32 → (Nat → Int32) → (Nat × Nat) → ((Nat → Int32) → Nat × Nat → Prop) → Prop} {Q : (Nat → Int32) → Nat × Nat → Prop} {M0 : Nat → Int32} {dF : Nat} (sWF : ∀ (q1 : Int32) (M : Nat → Int32) (O : Nat × Nat) {Q : (Nat → Int32) → Nat × Nat → Prop}, rI N M O → (((M 12).toInt = 137 ∧ 1 ≤ (dF : Int)) ∨ (0 ≤ q1.toInt ∧ q1.toInt ≤ 20 ∧ 22 - q1.toInt ≤ (dF : Int))) → (∀ (M' : Nat → Int32) (O' : Nat × Nat), rI N M' O' → rK M M' → Q M' O') → WF q1 M O Q) (hQ : ∀ (M' : Nat → Int32) (O' : Nat × Nat), rI N M' O' → rK M0 M' → Q M' O') (a1 : Int32) (a3 : Int32) (a4 : Int32) (a5 : Int32) (M : Nat → Int32) (O : Nat × Nat) (hI : rI N M O) (hk : rK M0 M) : wR_X7_newObjection_91 N WF Q a1 a3 a4 a5 M O := by
  obtain ⟨_, _, _, _, _, _, _, _, _, _, _, _, _, _, _, _⟩ := (show rN N from hN)
  obtain ⟨⟨_, _⟩, ⟨_, _⟩, ⟨_, _, _⟩, ⟨_, _⟩, ⟨_, _⟩, ⟨_, _⟩, ⟨_, _⟩⟩ := (show rI N M O from hI)
  unfold wR_X7_newObjection_91
  obtain ⟨_, _, hst⟩ := (show (M 21).toInt = (M0 21).toInt ∧ (M 64).toInt = (M0 64).toInt ∧ ((M0 12).toInt = 137 → (M 12).toInt = 137) from hk)
  have : (27 : Int32).toInt = 27 := by decide
  have := ti_rng a1
  have := ti_rng a4
  refine spR_X7_emit__ hN _ _ _ (show rI N M O from hI) (fun M9 O9 hI hk1 => ?_)
  have hk := rK_tr (show rK M0 M from hk) hk1
  obtain ⟨_, _, hst⟩ := (show (M9 21).toInt = (M0 21).toInt ∧ (M9 64).toInt = (M0 64).toInt ∧ ((M0 12).toInt = 137 → (M9 12).toInt = 137) from hk)
  obtain ⟨_, _, hst1⟩ := (show (M9 21).toInt = (M 21).toInt ∧ (M9 64).toInt = (M 64).toInt ∧ ((M 12).toInt = 137 → (M9 12).toInt = 137) from hk1)
  obtain ⟨⟨_, _⟩, ⟨_, _⟩, ⟨_, _, _⟩, ⟨_, _⟩, ⟨_, _⟩, ⟨_, _⟩, ⟨_, _⟩⟩ := (show rI N M9 O9 from hI)
  have := ti_rng a3
  refine spR_X6_put hN _ (show rI N M9 O9 from hI) (fun r10 M11 O11 hI hk1 => ?_)
  have hk := rK_tr (show rK M0 M9 from hk) hk1
  obtain ⟨_, _, hst⟩ := (show (M11 21).toInt = (M0 21).toInt ∧ (M11 64).toInt = (M0 64).toInt ∧ ((M0 12).toInt = 137 → (M11 12).toInt = 137) from hk)
  obtain ⟨_, _, hst1⟩ := (show (M11 21).toInt = (M9 21).toInt ∧ (M11 64).toInt = (M9 64).toInt ∧ ((M9 12).toInt = 137 → (M11 12).toInt = 137) from hk1)
  obtain ⟨⟨_, _⟩, ⟨_, _⟩, ⟨_, _, _⟩, ⟨_, _⟩, ⟨_, _⟩, ⟨_, _⟩, ⟨_, _⟩⟩ := (show rI N M11 O11 from hI)
  have := ti_rng a5
  refine spR_X6_put hN _ (show rI N M11 O11 from hI) (fun r12 M13 O13 hI hk1 => ?_)
  have hk := rK_tr (show rK M0 M11 from hk) hk1
  obtain ⟨_, _, hst⟩ := (show (M13 21).toInt = (M0 21).toInt ∧ (M13 64).toInt = (M0 64).toInt ∧ ((M0 12).toInt = 137 → (M13 12).toInt = 137) from hk)
  obtain ⟨_, _, hst1⟩ := (show (M13 21).toInt = (M11 21).toInt ∧ (M13 64).toInt = (M11 64).toInt ∧ ((M11 12).toInt = 137 → (M13 12).toInt = 137) from hk1)
  obtain ⟨⟨_, _⟩, ⟨_, _⟩, ⟨_, _, _⟩, ⟨_, _⟩, ⟨_, _⟩, ⟨_, _⟩, ⟨_, _⟩⟩ := (show rI N M13 O13 from hI)
  exact hQ _ _ (show rI N M13 O13 from hI) (show rK M0 M13 from hk)
set_option maxHeartbeats 2000000 in
theorem spR_X7_newObjection_61 {N : Nat → Nat} (hN : rN N) (q1 : Int32) (q2 : Int32) {WF : Int32 → (Nat → Int32) → (Nat × Nat) → ((Nat → Int32) → Nat × Nat → Prop) → Prop} {Q : (Nat → Int32) → Nat × Nat → Prop} {M0 : Nat → Int32} {dF : Nat} (sWF : ∀ (q1 : Int32) (M : Nat → Int32) (O : Nat × Nat) {Q : (Nat → Int32) → Nat × Nat → Prop}, rI N M O → (((M 12).toInt = 137 ∧ 1 ≤ (dF : Int)) ∨ (0 ≤ q1.toInt ∧ q1.toInt ≤ 20 ∧ 22 - q1.toInt ≤ (dF : Int))) → (∀ (M' : Nat → Int32) (O' : Nat × Nat), rI N M' O' → rK M M' → Q M' O') → WF q1 M O Q) (hQ : ∀ (M' : Nat → Int32) (O' : Nat × Nat), rI N M' O' → rK M0 M' → Q M' O') (a1 : Int32) (a3 : Int32) (a4 : Int32) (M : Nat → Int32) (O : Nat × Nat) (hI : rI N M O) (hk : rK M0 M) : wR_X7_newObjection_61 N WF Q a1 a3 a4 M O := by
  obtain ⟨_, _, _, _, _, _, _, _, _, _, _, _, _, _, _, _⟩ := (show rN N from hN)
  obtain ⟨⟨_, _⟩, ⟨_, _⟩, ⟨_, _, _⟩, ⟨_, _⟩, ⟨_, _⟩, ⟨_, _⟩, ⟨_, _⟩⟩ := (show rI N M O from hI)
  unfold wR_X7_newObjection_61
  obtain ⟨_, _, hst⟩ := (show (M 21).toInt = (M0 21).toInt ∧ (M 64).toInt = (M0 64).toInt ∧ ((M0 12).toInt = 137 → (M 12).toInt = 137) from hk)
  have : (41 : Int32).toInt = 41 := by decide
  refine spR_X7_take hN _ (show rI N M O from hI) (fun M7 O7 hI hk1 => ?_)
  have hk := rK_tr (show rK M0 M from hk) hk1
  obtain ⟨_, _, hst⟩ := (show (M7 21).toInt = (M0 21).toInt ∧ (M7 64).toInt = (M0 64).toInt ∧ ((M0 12).toInt = 137 → (M7 12).toInt = 137) from hk)
  obtain ⟨_, _, hst1⟩ := (show (M7 21).toInt = (M 21).toInt ∧ (M7 64).toInt = (M 64).toInt ∧ ((M 12).toInt = 137 → (M7 12).toInt = 137) from hk1)
  obtain ⟨⟨_, _⟩, ⟨_, _⟩, ⟨_, _, _⟩, ⟨_, _⟩, ⟨_, _⟩, ⟨_, _⟩, ⟨_, _⟩⟩ := (show rI N M7 O7 from hI)
  refine ⟨fun hc8 => ?_, fun hc8 => ?_⟩
  · have := ti_rng (M7 12)
    have : (205 : Int32).toInt = 205 := by decide
    have hc89 := ti_ne hc8
    have := ti_rng a1
    have := ti_rng a3
    have := ti_rng a4
    have : ((-2) : Int32).toInt = -2 := by decide
    exact spR_X7_newObjection_91 hN q1 q2 sWF hQ _ _ _ _ _ _ (show rI N M7 O7 from hI) (show rK M0 M7 from hk)
  · have := ti_rng (M7 12)
    have : (205 : Int32).toInt = 205 := by decide
    have hc89 := congrArg Int32.toInt hc8
    refine spR_X7_advance hN  (show rI N M7 O7 from hI) (fun M14 O14 hI hk1 => ?_)
    have hk := rK_tr (show rK M0 M7 from hk) hk1
    obtain ⟨_, _, hst⟩ := (show (M14 21).toInt = (M0 21).toInt ∧ (M14 64).toInt = (M0 64).toInt ∧ ((M0 12).toInt = 137 → (M14 12).toInt = 137) from hk)
    obtain ⟨_, _, hst1⟩ := (show (M14 21).toInt = (M7 21).toInt ∧ (M14 64).toInt = (M7 64).toInt ∧ ((M7 12).toInt = 137 → (M14 12).toInt = 137) from hk1)
    obtain ⟨⟨_, _⟩, ⟨_, _⟩, ⟨_, _, _⟩, ⟨_, _⟩, ⟨_, _⟩, ⟨_, _⟩, ⟨_, _⟩⟩ := (show rI N M14 O14 from hI)
    refine spR_X7_objectOrNone hN  (show rI N M14 O14 from hI) (fun r15 M16 O16 hI hk1 => ?_)
    have hk := rK_tr (show rK M0 M14 from hk) hk1
    obtain ⟨_, _, hst⟩ := (show (M16 21).toInt = (M0 21).toInt ∧ (M16 64).toInt = (M0 64).toInt ∧ ((M0 12).toInt = 137 → (M16 12).toInt = 137) from hk)
    obtain ⟨_, _, hst1⟩ := (show (M16 21).toInt = (M14 21).toInt ∧ (M16 64).toInt = (M14 64).toInt ∧ ((M14 12).toInt = 137 → (M16 12).toInt = 137) from hk1)
    obtain ⟨⟨_, _⟩, ⟨_, _⟩, ⟨_, _, _⟩, ⟨_, _⟩, ⟨_, _⟩, ⟨_, _⟩, ⟨_, _⟩⟩ := (show rI N M16 O16 from hI)
    have := ti_rng a1
    have := ti_rng a3
    have := ti_rng a4
    have := ti_rng r15
    exact spR_X7_newObjection_91 hN q1 q2 sWF hQ _ _ _ _ _ _ (show rI N M16 O16 from hI) (show rK M0 M16 from hk)
set_option maxHeartbeats 2000000 in
theorem spR_X7_newObjection_54 {N : Nat → Nat} (hN : rN N) (q1 : Int32) (q2 : Int32) {WF : Int32 → (Nat → Int32) → (Nat × Nat) → ((Nat → Int32) → Nat × Nat → Prop) → Prop} {Q : (Nat → Int32) → Nat × Nat → Prop} {M0 : Nat → Int32} {dF : Nat} (sWF : ∀ (q1 : Int32) (M : Nat → Int32) (O : Nat × Nat) {Q : (Nat → Int32) → Nat × Nat → Prop}, rI N M O → (((M 12).toInt = 137 ∧ 1 ≤ (dF : Int)) ∨ (0 ≤ q1.toInt ∧ q1.toInt ≤ 20 ∧ 22 - q1.toInt ≤ (dF : Int))) → (∀ (M' : Nat → Int32) (O' : Nat × Nat), rI N M' O' → rK M M' → Q M' O') → WF q1 M O Q) (hQ : ∀ (M' : Nat → Int32) (O' : Nat × Nat), rI N M' O' → rK M0 M' → Q M' O') (a1 : Int32) (a3 : Int32) (a4 : Int32) (M : Nat → Int32) (O : Nat × Nat) (hI : rI N M O) (hk : rK M0 M) : wR_X7_newObjection_54 N WF Q a1 a3 a4 M O := by
  obtain ⟨_, _, _, _, _, _, _, _, _, _, _, _, _, _, _, _⟩ := (show rN N from hN)
  obtain ⟨⟨_, _⟩, ⟨_, _⟩, ⟨_, _, _⟩, ⟨_, _⟩, ⟨_, _⟩, ⟨_, _⟩, ⟨_, _⟩⟩ := (show rI N M O from hI)
  unfold wR_X7_newObjection_54
  obtain ⟨_, _, hst⟩ := (show (M 21).toInt = (M0 21).toInt ∧ (M 64).toInt = (M0 64).toInt ∧ ((M0 12).toInt = 137 → (M 12).toInt = 137) from hk)
  have : (7 : Int32).toInt = 7 := by decide
  have : (0 : Int32).toInt = 0 := by decide
  refine spR_X7_emit_ hN _ _ (show rI N M O from hI) (fun M6 O6 hI hk1 => ?_)
  have hk := rK_tr (show rK M0 M from hk) hk1
  obtain ⟨_, _, hst⟩ := (show (M6 21).toInt = (M0 21).toInt ∧ (M6 64).toInt = (M0 64).toInt ∧ ((M0 12).toInt = 137 → (M6 12).toInt = 137) from hk)
  obtain ⟨_, _, hst1⟩ := (show (M6 21).toInt = (M 21).toInt ∧ (M6 64).toInt = (M 64).toInt ∧ ((M 12).toInt = 137 → (M6 12).toInt = 137) from hk1)
  obtain ⟨⟨_, _⟩, ⟨_, _⟩, ⟨_, _, _⟩, ⟨_, _⟩, ⟨_, _⟩, ⟨_, _⟩, ⟨_, _⟩⟩ := (show rI N M6 O6 from hI)
  have := ti_rng a1
  have := ti_rng a3
  have := ti_rng a4
  exact spR_X7_newObjection_61 hN q1 q2 sWF hQ _ _ _ _ _ (show rI N M6 O6 from hI) (show rK M0 M6 from hk)
set_option maxHeartbeats 2000000 in
theorem spR_X7_newObjection {N : Nat → Nat} (hN : rN N) {WF : Int32 → (Nat → Int32) → (Nat × Nat) → ((Nat → Int32) → Nat × Nat → Prop) → Prop} {dF : Nat} (sWF : ∀ (q1 : Int32) (M : Nat → Int32) (O : Nat × Nat) {Q : (Nat → Int32) → Nat × Nat → Prop}, rI N M O → (((M 12).toInt = 137 ∧ 1 ≤ (dF : Int)) ∨ (0 ≤ q1.toInt ∧ q1.toInt ≤ 20 ∧ 22 - q1.toInt ≤ (dF : Int))) → (∀ (M' : Nat → Int32) (O' : Nat × Nat), rI N M' O' → rK M M' → Q M' O') → WF q1 M O Q) (q1 : Int32) (q2 : Int32) {M0 : Nat → Int32} {O : Nat × Nat} {Q : (Nat → Int32) → Nat × Nat → Prop} (hI : rI N M0 O) (hpre : 0 ≤ q2.toInt ∧ q2.toInt ≤ 20 ∧ 22 ≤ (dF : Int)) (hQ : ∀ (M' : Nat → Int32) (O' : Nat × Nat), rI N M' O' → rK M0 M' → Q M' O') : wR_X7_newObjection N WF q1 q2 M0 O Q := by
  obtain ⟨_, _, _, _, _, _, _, _, _, _, _, _, _, _, _, _⟩ := (show rN N from hN)
  obtain ⟨⟨_, _⟩, ⟨_, _⟩, ⟨_, _, _⟩, ⟨_, _⟩, ⟨_, _⟩, ⟨_, _⟩, ⟨_, _⟩⟩ := (show rI N M0 O from hI)
  have hk : rK M0 M0 := rK_rf M0
  have hQ1 := hQ
  unfold wR_X7_newObjection
  refine spR_X7_kind hN  (show rI N M0 O from hI) (fun r1 M2 O2 hI hk1 => ?_)
  have hk := rK_tr (show rK M0 M0 from hk) hk1
  obtain ⟨_, _, hst⟩ := (show (M2 21).toInt = (M0 21).toInt ∧ (M2 64).toInt = (M0 64).toInt ∧ ((M0 12).toInt = 137 → (M2 12).toInt = 137) from hk)
  obtain ⟨_, _, hst1⟩ := (show (M2 21).toInt = (M0 21).toInt ∧ (M2 64).toInt = (M0 64).toInt ∧ ((M0 12).toInt = 137 → (M2 12).toInt = 137) from hk1)
  obtain ⟨⟨_, _⟩, ⟨_, _⟩, ⟨_, _, _⟩, ⟨_, _⟩, ⟨_, _⟩, ⟨_, _⟩, ⟨_, _⟩⟩ := (show rI N M2 O2 from hI)
  have : (40 : Int32).toInt = 40 := by decide
  have := ti_rng q2
  refine spR_X7_takeOpening hN _ _ (show rI N M2 O2 from hI) (fun M3 O3 hI hk1 hp3 => ?_)
  have hk := rK_tr (show rK M0 M2 from hk) hk1
  obtain ⟨_, _, hst⟩ := (show (M3 21).toInt = (M0 21).toInt ∧ (M3 64).toInt = (M0 64).toInt ∧ ((M0 12).toInt = 137 → (M3 12).toInt = 137) from hk)
  obtain ⟨_, _, hst1⟩ := (show (M3 21).toInt = (M2 21).toInt ∧ (M3 64).toInt = (M2 64).toInt ∧ ((M2 12).toInt = 137 → (M3 12).toInt = 137) from hk1)
  obtain ⟨⟨_, _⟩, ⟨_, _⟩, ⟨_, _, _⟩, ⟨_, _⟩, ⟨_, _⟩, ⟨_, _⟩, ⟨_, _⟩⟩ := (show rI N M3 O3 from hI)
  have : (1 : Int32).toInt = 1 := by decide
  first | have := ti_addx q2 1 (by omega) | obtain ⟨_, _, _, _⟩ := ti_add q2 1
  have := ti_rng (M3 12)
  refine spR_X7_expression hN sWF _ (show rI N M3 O3 from hI) (show ((M3 12).toInt = 137 ∧ 1 ≤ (dF : Int)) ∨ (0 ≤ (q2 + 1).toInt ∧ (q2 + 1).toInt ≤ 20 ∧ 22 - (q2 + 1).toInt ≤ (dF : Int)) from by omega) (fun M4 O4 hI hk1 => ?_)
  have hk := rK_tr (show rK M0 M3 from hk) hk1
  obtain ⟨_, _, hst⟩ := (show (M4 21).toInt = (M0 21).toInt ∧ (M4 64).toInt = (M0 64).toInt ∧ ((M0 12).toInt = 137 → (M4 12).toInt = 137) from hk)
  obtain ⟨_, _, hst1⟩ := (show (M4 21).toInt = (M3 21).toInt ∧ (M4 64).toInt = (M3 64).toInt ∧ ((M3 12).toInt = 137 → (M4 12).toInt = 137) from hk1)
  obtain ⟨⟨_, _⟩, ⟨_, _⟩, ⟨_, _, _⟩, ⟨_, _⟩, ⟨_, _⟩, ⟨_, _⟩, ⟨_, _⟩⟩ := (show rI N M4 O4 from hI)
  refine ⟨fun hc5 => ?_, fun hc5 => ?_⟩
  · have := ti_rng (M4 12)
    have : (44 : Int32).toInt = 44 := by decide
    have hc59 := ti_ne hc5
    have := ti_rng q1
    have := ti_rng (M0 14)
    have := ti_rng r1
    exact spR_X7_newObjection_54 hN q1 q2 sWF hQ _ _ _ _ _ (show rI N M4 O4 from hI) (show rK M0 M4 from hk)
  · have := ti_rng (M4 12)
    have : (44 : Int32).toInt = 44 := by decide
    have hc59 := congrArg Int32.toInt hc5
    refine ⟨fun hc17 => ?_, fun hc17 => ?_⟩
    · have := ti_rng r1
      have : (2 : Int32).toInt = 2 := by decide
      have hc179 := ti_ne hc17
      have := ti_rng q1
      have := ti_rng (M0 14)
      exact spR_X7_newObjection_54 hN q1 q2 sWF hQ _ _ _ _ _ (show rI N M4 O4 from hI) (show rK M0 M4 from hk)
    · have := ti_rng r1
      have : (2 : Int32).toInt = 2 := by decide
      have hc179 := congrArg Int32.toInt hc17
      refine spR_X7_advance hN  (show rI N M4 O4 from hI) (fun M18 O18 hI hk1 => ?_)
      have hk := rK_tr (show rK M0 M4 from hk) hk1
      obtain ⟨_, _, hst⟩ := (show (M18 21).toInt = (M0 21).toInt ∧ (M18 64).toInt = (M0 64).toInt ∧ ((M0 12).toInt = 137 → (M18 12).toInt = 137) from hk)
      obtain ⟨_, _, hst1⟩ := (show (M18 21).toInt = (M4 21).toInt ∧ (M18 64).toInt = (M4 64).toInt ∧ ((M4 12).toInt = 137 → (M18 12).toInt = 137) from hk1)
      obtain ⟨⟨_, _⟩, ⟨_, _⟩, ⟨_, _, _⟩, ⟨_, _⟩, ⟨_, _⟩, ⟨_, _⟩, ⟨_, _⟩⟩ := (show rI N M18 O18 from hI)
      have := ti_rng (M18 12)
      refine spR_X7_expression hN sWF _ (show rI N M18 O18 from hI) (show ((M18 12).toInt = 137 ∧ 1 ≤ (dF : Int)) ∨ (0 ≤ (q2 + 1).toInt ∧ (q2 + 1).toInt ≤ 20 ∧ 22 - (q2 + 1).toInt ≤ (dF : Int)) from by omega) (fun M19 O19 hI hk1 => ?_)
      have hk := rK_tr (show rK M0 M18 from hk) hk1
      obtain ⟨_, _, hst⟩ := (show (M19 21).toInt = (M0 21).toInt ∧ (M19 64).toInt = (M0 64).toInt ∧ ((M0 12).toInt = 137 → (M19 12).toInt = 137) from hk)
      obtain ⟨_, _, hst1⟩ := (show (M19 21).toInt = (M18 21).toInt ∧ (M19 64).toInt = (M18 64).toInt ∧ ((M18 12).toInt = 137 → (M19 12).toInt = 137) from hk1)
      obtain ⟨⟨_, _⟩, ⟨_, _⟩, ⟨_, _, _⟩, ⟨_, _⟩, ⟨_, _⟩, ⟨_, _⟩, ⟨_, _⟩⟩ := (show rI N M19 O19 from hI)
      have := ti_rng q1
      have := ti_rng (M0 14)
      exact spR_X7_newObjection_61 hN q1 q2 sWF hQ _ _ _ _ _ (show rI N M19 O19 from hI) (show rK M0 M19 from hk)
set_option maxHeartbeats 2000000 in
theorem spR_X7_otherObjection {N : Nat → Nat} (hN : rN N) (q1 : Int32) {M0 : Nat → Int32} {O : Nat × Nat} {Q : (Nat → Int32) → Nat × Nat → Prop} (hI : rI N M0 O) (hQ : ∀ (M' : Nat → Int32) (O' : Nat × Nat), rI N M' O' → rK M0 M' → Q M' O') : wR_X7_otherObjection N q1 M0 O Q := by
  obtain ⟨_, _, _, _, _, _, _, _, _, _, _, _, _, _, _, _⟩ := (show rN N from hN)
  obtain ⟨⟨_, _⟩, ⟨_, _⟩, ⟨_, _, _⟩, ⟨_, _⟩, ⟨_, _⟩, ⟨_, _⟩, ⟨_, _⟩⟩ := (show rI N M0 O from hI)
  have hk : rK M0 M0 := rK_rf M0
  have hQ1 := hQ
  unfold wR_X7_otherObjection
  refine ⟨fun hc1 => ?_, fun hc1 => ?_⟩
  · have := ti_rng (M0 12)
    have : (204 : Int32).toInt = 204 := by decide
    have hc19 := ti_ne hc1
    refine spR_X7_objectOrNone hN  (show rI N M0 O from hI) (fun r2 M3 O3 hI hk1 => ?_)
    have hk := rK_tr (show rK M0 M0 from hk) hk1
    obtain ⟨_, _, hst⟩ := (show (M3 21).toInt = (M0 21).toInt ∧ (M3 64).toInt = (M0 64).toInt ∧ ((M0 12).toInt = 137 → (M3 12).toInt = 137) from hk)
    obtain ⟨_, _, hst1⟩ := (show (M3 21).toInt = (M0 21).toInt ∧ (M3 64).toInt = (M0 64).toInt ∧ ((M0 12).toInt = 137 → (M3 12).toInt = 137) from hk1)
    obtain ⟨⟨_, _⟩, ⟨_, _⟩, ⟨_, _, _⟩, ⟨_, _⟩, ⟨_, _⟩, ⟨_, _⟩, ⟨_, _⟩⟩ := (show rI N M3 O3 from hI)
    have : (25 : Int32).toInt = 25 := by decide
    have := ti_rng q1
    have := ti_rng r2
    refine spR_X7_emit__ hN _ _ _ (show rI N M3 O3 from hI) (fun M4 O4 hI hk1 => ?_)
    have hk := rK_tr (show rK M0 M3 from hk) hk1
    obtain ⟨_, _, hst⟩ := (show (M4 21).toInt = (M0 21).toInt ∧ (M4 64).toInt = (M0 64).toInt ∧ ((M0 12).toInt = 137 → (M4 12).toInt = 137) from hk)
    obtain ⟨_, _, hst1⟩ := (show (M4 21).toInt = (M3 21).toInt ∧ (M4 64).toInt = (M3 64).toInt ∧ ((M3 12).toInt = 137 → (M4 12).toInt = 137) from hk1)
    obtain ⟨⟨_, _⟩, ⟨_, _⟩, ⟨_, _, _⟩, ⟨_, _⟩, ⟨_, _⟩, ⟨_, _⟩, ⟨_, _⟩⟩ := (show rI N M4 O4 from hI)
    exact hQ _ _ (show rI N M4 O4 from hI) (show rK M0 M4 from hk)
  · have := ti_rng (M0 12)
    have : (204 : Int32).toInt = 204 := by decide
    have hc19 := congrArg Int32.toInt hc1
    refine spR_X7_advance hN  (show rI N M0 O from hI) (fun M5 O5 hI hk1 => ?_)
    have hk := rK_tr (show rK M0 M0 from hk) hk1
    obtain ⟨_, _, hst⟩ := (show (M5 21).toInt = (M0 21).toInt ∧ (M5 64).toInt = (M0 64).toInt ∧ ((M0 12).toInt = 137 → (M5 12).toInt = 137) from hk)
    obtain ⟨_, _, hst1⟩ := (show (M5 21).toInt = (M0 21).toInt ∧ (M5 64).toInt = (M0 64).toInt ∧ ((M0 12).toInt = 137 → (M5 12).toInt = 137) from hk1)
    obtain ⟨⟨_, _⟩, ⟨_, _⟩, ⟨_, _, _⟩, ⟨_, _⟩, ⟨_, _⟩, ⟨_, _⟩, ⟨_, _⟩⟩ := (show rI N M5 O5 from hI)
    refine spR_X7_object hN  (show rI N M5 O5 from hI) (fun r6 M7 O7 hI hk1 => ?_)
    have hk := rK_tr (show rK M0 M5 from hk) hk1
    obtain ⟨_, _, hst⟩ := (show (M7 21).toInt = (M0 21).toInt ∧ (M7 64).toInt = (M0 64).toInt ∧ ((M0 12).toInt = 137 → (M7 12).toInt = 137) from hk)
    obtain ⟨_, _, hst1⟩ := (show (M7 21).toInt = (M5 21).toInt ∧ (M7 64).toInt = (M5 64).toInt ∧ ((M5 12).toInt = 137 → (M7 12).toInt = 137) from hk1)
    obtain ⟨⟨_, _⟩, ⟨_, _⟩, ⟨_, _, _⟩, ⟨_, _⟩, ⟨_, _⟩, ⟨_, _⟩, ⟨_, _⟩⟩ := (show rI N M7 O7 from hI)
    have : (26 : Int32).toInt = 26 := by decide
    have := ti_rng q1
    have := ti_rng r6
    refine spR_X7_emit__ hN _ _ _ (show rI N M7 O7 from hI) (fun M8 O8 hI hk1 => ?_)
    have hk := rK_tr (show rK M0 M7 from hk) hk1
    obtain ⟨_, _, hst⟩ := (show (M8 21).toInt = (M0 21).toInt ∧ (M8 64).toInt = (M0 64).toInt ∧ ((M0 12).toInt = 137 → (M8 12).toInt = 137) from hk)
    obtain ⟨_, _, hst1⟩ := (show (M8 21).toInt = (M7 21).toInt ∧ (M8 64).toInt = (M7 64).toInt ∧ ((M7 12).toInt = 137 → (M8 12).toInt = 137) from hk1)
    obtain ⟨⟨_, _⟩, ⟨_, _⟩, ⟨_, _, _⟩, ⟨_, _⟩, ⟨_, _⟩, ⟨_, _⟩, ⟨_, _⟩⟩ := (show rI N M8 O8 from hI)
    exact hQ _ _ (show rI N M8 O8 from hI) (show rK M0 M8 from hk)

