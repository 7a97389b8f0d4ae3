set_option maxHeartbeats 2000000 in
theorem spR_X7_emit_ {N : Nat → Nat} (hN : rN N) (q1 : Int32) (q2 : Int32) {M0 : Nat → Int32} {O : Nat × Nat} {Q : (Nat → Int32) → Nat × Nat → Prop} (hI : rI N M0 O) (hQ : ∀ (M' : Nat → Int32) (O' : Nat × Nat), rI N M' O' → rK M0 M' → Q M' O') : wR_X7_emit_ N q1 q2 M0 O Q := by
  obtain ⟨_, _, _, _, _, _, _, _, _, _, _, _, _, _, _, _⟩ := (show rN N from hN)
  obtain ⟨⟨_, _⟩, ⟨_, _⟩, ⟨_, _, _⟩, ⟨_, _⟩, ⟨_, _⟩, ⟨_, _⟩, ⟨_, _⟩⟩ := (show rI N M0 O from hI)
  have hk : rK M0 M0 := rK_rf M0
  have hQ1 := hQ
  unfold wR_X7_emit_
  have := ti_rng q1
  refine spR_X6_put hN _ (show rI N M0 O from hI) (fun r1 M2 O2 hI hk1 => ?_)
  have hk := rK_tr (show rK M0 M0 from hk) hk1
  obtain ⟨_, _, hst⟩ := (show (M2 21).toInt = (M0 21).toInt ∧ (M2 64).toInt = (M0 64).toInt ∧ ((M0 12).toInt = 137 → (M2 12).toInt = 137) from hk)
  obtain ⟨_, _, hst1⟩ := (show (M2 21).toInt = (M0 21).toInt ∧ (M2 64).toInt = (M0 64).toInt ∧ ((M0 12).toInt = 137 → (M2 12).toInt = 137) from hk1)
  obtain ⟨⟨_, _⟩, ⟨_, _⟩, ⟨_, _, _⟩, ⟨_, _⟩, ⟨_, _⟩, ⟨_, _⟩, ⟨_, _⟩⟩ := (show rI N M2 O2 from hI)
  have := ti_rng q2
  refine spR_X6_put hN _ (show rI N M2 O2 from hI) (fun r3 M4 O4 hI hk1 => ?_)
  have hk := rK_tr (show rK M0 M2 from hk) hk1
  obtain ⟨_, _, hst⟩ := (show (M4 21).toInt = (M0 21).toInt ∧ (M4 64).toInt = (M0 64).toInt ∧ ((M0 12).toInt = 137 → (M4 12).toInt = 137) from hk)
  obtain ⟨_, _, hst1⟩ := (show (M4 21).toInt = (M2 21).toInt ∧ (M4 64).toInt = (M2 64).toInt ∧ ((M2 12).toInt = 137 → (M4 12).toInt = 137) from hk1)
  obtain ⟨⟨_, _⟩, ⟨_, _⟩, ⟨_, _, _⟩, ⟨_, _⟩, ⟨_, _⟩, ⟨_, _⟩, ⟨_, _⟩⟩ := (show rI N M4 O4 from hI)
  exact hQ _ _ (show rI N M4 O4 from hI) (show rK M0 M4 from hk)
set_option maxHeartbeats 2000000 in
theorem spR_X7_emit {N : Nat → Nat} (hN : rN N) (q1 : Int32) {M0 : Nat → Int32} {O : Nat × Nat} {Q : (Nat → Int32) → Nat × Nat → Prop} (hI : rI N M0 O) (hQ : ∀ (M' : Nat → Int32) (O' : Nat × Nat), rI N M' O' → rK M0 M' → Q M' O') : wR_X7_emit N q1 M0 O Q := by
  obtain ⟨_, _, _, _, _, _, _, _, _, _, _, _, _, _, _, _⟩ := (show rN N from hN)
  obtain ⟨⟨_, _⟩, ⟨_, _⟩, ⟨_, _, _⟩, ⟨_, _⟩, ⟨_, _⟩, ⟨_, _⟩, ⟨_, _⟩⟩ := (show rI N M0 O from hI)
  have hk : rK M0 M0 := rK_rf M0
  have hQ1 := hQ
  unfold wR_X7_emit
  have := ti_rng q1
  refine spR_X6_put hN _ (show rI N M0 O from hI) (fun r1 M2 O2 hI hk1 => ?_)
  have hk := rK_tr (show rK M0 M0 from hk) hk1
  obtain ⟨_, _, hst⟩ := (show (M2 21).toInt = (M0 21).toInt ∧ (M2 64).toInt = (M0 64).toInt ∧ ((M0 12).toInt = 137 → (M2 12).toInt = 137) from hk)
  obtain ⟨_, _, hst1⟩ := (show (M2 21).toInt = (M0 21).toInt ∧ (M2 64).toInt = (M0 64).toInt ∧ ((M0 12).toInt = 137 → (M2 12).toInt = 137) from hk1)
  obtain ⟨⟨_, _⟩, ⟨_, _⟩, ⟨_, _, _⟩, ⟨_, _⟩, ⟨_, _⟩, ⟨_, _⟩, ⟨_, _⟩⟩ := (show rI N M2 O2 from hI)
  exact hQ _ _ (show rI N M2 O2 from hI) (show rK M0 M2 from hk)
set_option maxHeartbeats 2000000 in
theorem spR_X7_hearing {N : Nat → Nat} (hN : rN N) {WB : Int32 → (Nat → Int32) → (Nat × Nat) → ((Nat → Int32) → Nat × Nat → Prop) → Prop} {dF : Nat} {dB : Nat} (sWB : ∀ (q1 : Int32) (M : Nat → Int32) (O : Nat × Nat) {Q : (Nat → Int32) → Nat × Nat → Prop}, rI N M O → (0 ≤ q1.toInt ∧ q1.toInt ≤ 20 ∧ 21 - q1.toInt ≤ (dB : Int) ∧ 22 ≤ (dF : Int)) → (∀ (M' : Nat → Int32) (O' : Nat × Nat), rI N M' O' → rK M M' → Q M' O') → WB q1 M O Q) {M0 : Nat → Int32} {O : Nat × Nat} {Q : (Nat → Int32) → Nat × Nat → Prop} (hI : rI N M0 O) (hpre : (M0 64).toInt < 5000 ∧ 22 ≤ (dB : Int) ∧ 22 ≤ (dF : Int)) (hQ : ∀ (M' : Nat → Int32) (O' : Nat × Nat), rI N M' O' → ((M' 64).toInt = (M0 64).toInt + 1) → Q M' O') : wR_X7_hearing N WB  M0 O Q := by
  obtain ⟨_, _, _, _, _, _, _, _, _, _, _, _, _, _, _, _⟩ := (show rN N from hN)
  obtain ⟨⟨_, _⟩, ⟨_, _⟩, ⟨_, _, _⟩, ⟨_, _⟩, ⟨_, _⟩, ⟨_, _⟩, ⟨_, _⟩⟩ := (show rI N M0 O from hI)
  have hk : rK M0 M0 := rK_rf M0
  have hQ1 := hQ
  unfold wR_X7_hearing
  have : (200 : Int32).toInt = 200 := by decide
  refine spR_X7_take hN _ (show rI N M0 O from hI) (fun M1 O1 hI hk1 => ?_)
  have hk := rK_tr (show rK M0 M0 from hk) hk1
  obtain ⟨_, _, hst⟩ := (show (M1 21).toInt = (M0 21).toInt ∧ (M1 64).toInt = (M0 64).toInt ∧ ((M0 12).toInt = 137 → (M1 12).toInt = 137) from hk)
  obtain ⟨_, _, hst1⟩ := (show (M1 21).toInt = (M0 21).toInt ∧ (M1 64).toInt = (M0 64).toInt ∧ ((M0 12).toInt = 137 → (M1 12).toInt = 137) from hk1)
  obtain ⟨⟨_, _⟩, ⟨_, _⟩, ⟨_, _, _⟩, ⟨_, _⟩, ⟨_, _⟩, ⟨_, _⟩, ⟨_, _⟩⟩ := (show rI N M1 O1 from hI)
  have := ti_rng (M0 14)
  refine spR_X7_nameHearing hN _ (show rI N M1 O1 from hI) (fun M2 O2 hI hk1 => ?_)
  have hk := rK_tr (show rK M0 M1 from hk) hk1
  obtain ⟨_, _, hst⟩ := (show (M2 21).toInt = (M0 21).toInt ∧ (M2 64).toInt = (M0 64).toInt ∧ ((M0 12).toInt = 137 → (M2 12).toInt = 137) from hk)
  obtain ⟨_, _, hst1⟩ := (show (M2 21).toInt = (M1 21).toInt ∧ (M2 64).toInt = (M1 64).toInt ∧ ((M1 12).toInt = 137 → (M2 12).toInt = 137) from hk1)
  obtain ⟨⟨_, _⟩, ⟨_, _⟩, ⟨_, _, _⟩, ⟨_, _⟩, ⟨_, _⟩, ⟨_, _⟩, ⟨_, _⟩⟩ := (show rI N M2 O2 from hI)
  have : (40 : Int32).toInt = 40 := by decide
  have : (0 : Int32).toInt = 0 := by decide
  refine spR_X7_takeOpening hN _ _ (show rI N M2 O2 from hI) (fun M3 O3 hI hk1 hp3 => ?_)
  have hk := rK_tr (show rK M0 M2 from hk) hk1
  obtain ⟨_, _, hst⟩ := (show (M3 21).toInt = (M0 21).toInt ∧ (M3 64).toInt = (M0 64).toInt ∧ ((M0 12).toInt = 137 → (M3 12).toInt = 137) from hk)
  obtain ⟨_, _, hst1⟩ := (show (M3 21).toInt = (M2 21).toInt ∧ (M3 64).toInt = (M2 64).toInt ∧ ((M2 12).toInt = 137 → (M3 12).toInt = 137) from hk1)
  obtain ⟨⟨_, _⟩, ⟨_, _⟩, ⟨_, _, _⟩, ⟨_, _⟩, ⟨_, _⟩, ⟨_, _⟩, ⟨_, _⟩⟩ := (show rI N M3 O3 from hI)
  refine spR_X7_parameters hN  (show rI N M3 O3 from hI) (fun r4 M5 O5 hI hk1 => ?_)
  have hk := rK_tr (show rK M0 M3 from hk) hk1
  obtain ⟨_, _, hst⟩ := (show (M5 21).toInt = (M0 21).toInt ∧ (M5 64).toInt = (M0 64).toInt ∧ ((M0 12).toInt = 137 → (M5 12).toInt = 137) from hk)
  obtain ⟨_, _, hst1⟩ := (show (M5 21).toInt = (M3 21).toInt ∧ (M5 64).toInt = (M3 64).toInt ∧ ((M3 12).toInt = 137 → (M5 12).toInt = 137) from hk1)
  obtain ⟨⟨_, _⟩, ⟨_, _⟩, ⟨_, _, _⟩, ⟨_, _⟩, ⟨_, _⟩, ⟨_, _⟩, ⟨_, _⟩⟩ := (show rI N M5 O5 from hI)
  have : (41 : Int32).toInt = 41 := by decide
  refine spR_X7_take hN _ (show rI N M5 O5 from hI) (fun M6 O6 hI hk1 => ?_)
  have hk := rK_tr (show rK M0 M5 from hk) hk1
  obtain ⟨_, _, hst⟩ := (show (M6 21).toInt = (M0 21).toInt ∧ (M6 64).toInt = (M0 64).toInt ∧ ((M0 12).toInt = 137 → (M6 12).toInt = 137) from hk)
  obtain ⟨_, _, hst1⟩ := (show (M6 21).toInt = (M5 21).toInt ∧ (M6 64).toInt = (M5 64).toInt ∧ ((M5 12).toInt = 137 → (M6 12).toInt = 137) from hk1)
  obtain ⟨⟨_, _⟩, ⟨_, _⟩, ⟨_, _, _⟩, ⟨_, _⟩, ⟨_, _⟩, ⟨_, _⟩, ⟨_, _⟩⟩ := (show rI N M6 O6 from hI)
  refine sWB _ _ _ (show rI N M6 O6 from hI) (show 0 ≤ (0 : Int32).toInt ∧ (0 : Int32).toInt ≤ 20 ∧ 21 - (0 : Int32).toInt ≤ (dB : Int) ∧ 22 ≤ (dF : Int) from by omega) (fun M7 O7 hI hk1 => ?_)
  have hk := rK_tr (show rK M0 M6 from hk) hk1
  obtain ⟨_, _, hst⟩ := (show (M7 21).toInt = (M0 21).toInt ∧ (M7 64).toInt = (M0 64).toInt ∧ ((M0 12).toInt = 137 → (M7 12).toInt = 137) from hk)
  obtain ⟨_, _, hst1⟩ := (show (M7 21).toInt = (M6 21).toInt ∧ (M7 64).toInt = (M6 64).toInt ∧ ((M6 12).toInt = 137 → (M7 12).toInt = 137) from hk1)
  obtain ⟨⟨_, _⟩, ⟨_, _⟩, ⟨_, _, _⟩, ⟨_, _⟩, ⟨_, _⟩, ⟨_, _⟩, ⟨_, _⟩⟩ := (show rI N M7 O7 from hI)
  have : (7 : Int32).toInt = 7 := by decide
  refine spR_X7_emit_ hN _ _ (show rI N M7 O7 from hI) (fun M8 O8 hI hk1 => ?_)
  have hk := rK_tr (show rK M0 M7 from hk) hk1
  obtain ⟨_, _, hst⟩ := (show (M8 21).toInt = (M0 21).toInt ∧ (M8 64).toInt = (M0 64).toInt ∧ ((M0 12).toInt = 137 → (M8 12).toInt = 137) from hk)
  obtain ⟨_, _, hst1⟩ := (show (M8 21).toInt = (M7 21).toInt ∧ (M8 64).toInt = (M7 64).toInt ∧ ((M7 12).toInt = 137 → (M8 12).toInt = 137) from hk1)
  obtain ⟨⟨_, _⟩, ⟨_, _⟩, ⟨_, _, _⟩, ⟨_, _⟩, ⟨_, _⟩, ⟨_, _⟩, ⟨_, _⟩⟩ := (show rI N M8 O8 from hI)
  have : (3 : Int32).toInt = 3 := by decide
  refine spR_X7_emit hN _ (show rI N M8 O8 from hI) (fun M9 O9 hI hk1 => ?_)
  have hk := rK_tr (show rK M0 M8 from hk) hk1
  obtain ⟨_, _, hst⟩ := (show (M9 21).toInt = (M0 21).toInt ∧ (M9 64).toInt = (M0 64).toInt ∧ ((M0 12).toInt = 137 → (M9 12).toInt = 137) from hk)
  obtain ⟨_, _, hst1⟩ := (show (M9 21).toInt = (M8 21).toInt ∧ (M9 64).toInt = (M8 64).toInt ∧ ((M8 12).toInt = 137 → (M9 12).toInt = 137) from hk1)
  obtain ⟨⟨_, _⟩, ⟨_, _⟩, ⟨_, _, _⟩, ⟨_, _⟩, ⟨_, _⟩, ⟨_, _⟩, ⟨_, _⟩⟩ := (show rI N M9 O9 from hI)
  have := ti_rng (M3 63)
  have := ti_rng r4
  have := ti_rng (M9 64)
  refine spR_X6_addHearing hN _ _ (show rI N M9 O9 from hI) (show (M9 64).toInt < 5000 from by omega) (fun M10 O10 hI hp10 => ?_)
  obtain ⟨⟨_, _⟩, ⟨_, _⟩, ⟨_, _, _⟩, ⟨_, _⟩, ⟨_, _⟩, ⟨_, _⟩, ⟨_, _⟩⟩ := (show rI N M10 O10 from hI)
  have := ti_rng (M10 64)
  exact hQ _ _ (show rI N M10 O10 from hI) (show (M10 64).toInt = (M0 64).toInt + 1 from (by first | omega | (intro h9; first | omega | exact absurd rfl h9)))
set_option maxHeartbeats 2000000 in
theorem spR_X7_findHearings_108 {N : Nat → Nat} (hN : rN N) {K2 : (Int32 → (Nat → Int32) → (Nat × Nat) → Prop)} {n2 : Nat} {Q : (Nat → Int32) → Nat × Nat → Prop} {M0 : Nat → Int32} {O0 : Nat × Nat} (sK2 : ∀ (a1 : Int32) (M : Nat → Int32) (O : Nat × Nat), rI N M O → (M0 = M ∧ O0 = O) → (0 ≤ a1.toInt ∧ a1.toInt ≤ (N 26 : Int)) → ((N 26 : Int) - a1.toInt) + 1 ≤ (n2 : Int) → K2 a1 M O) (hQ : Q M0 O0) (a1 : Int32) (a3 : Int32) (M : Nat → Int32) (O : Nat × Nat) (hI : rI N M O) (hk : (M0 = M ∧ O0 = O)) (hbi : ((0 ≤ a1.toInt ∧ a1.toInt ≤ (N 26 : Int)) ∧ ((N 26 : Int) - a1.toInt) ≤ (n2 : Int) ∧ 1 ≤ ((N 26 : Int) - a1.toInt))) : wR_X7_findHearings_108 N K2 Q a1 a3 M O := by
  obtain ⟨_, _, _, _, _, _, _, _, _, _, _, _, _, _, _, _⟩ := (show rN N from hN)
  obtain ⟨⟨_, _⟩, ⟨_, _⟩, ⟨_, _, _⟩, ⟨_, _⟩, ⟨_, _⟩, ⟨_, _⟩, ⟨_, _⟩⟩ := (show rI N M O from hI)
  unfold wR_X7_findHearings_108
  obtain ⟨e1, e2⟩ := hk
  have hQ1 := hQ
  rw [e1, e2] at hQ1
  have := ti_rng a1
  refine ⟨vp_in_iff.mpr (by omega), fun z11 => ?_⟩
  have := ti_rng z11
  have := ti_rng a3
  refine spR_X6_change hN _ _ (show rI N M O from hI) (?_)
  have : (1 : Int32).toInt = 1 := by decide
  first | have := ti_addx a1 1 (by omega) | obtain ⟨_, _, _, _⟩ := ti_add a1 1
  exact sK2 _ _ _ (show rI N M O from hI) ⟨e1, e2⟩ (show 0 ≤ (a1 + 1).toInt ∧ (a1 + 1).toInt ≤ (N 26 : Int) from by omega) (show ((N 26 : Int) - (a1 + 1).toInt) + 1 ≤ _ from by omega)
set_option maxHeartbeats 2000000 in
theorem spR_X7_findHearings_97 {N : Nat → Nat} (hN : rN N) {K2 : (Int32 → (Nat → Int32) → (Nat × Nat) → Prop)} {n2 : Nat} {Q : (Nat → Int32) → Nat × Nat → Prop} {M0 : Nat → Int32} {O0 : Nat × Nat} (sK2 : ∀ (a1 : Int32) (M : Nat → Int32) (O : Nat × Nat), rI N M O → (M0 = M ∧ O0 = O) → (0 ≤ a1.toInt ∧ a1.toInt ≤ (N 26 : Int)) → ((N 26 : Int) - a1.toInt) + 1 ≤ (n2 : Int) → K2 a1 M O) (hQ : Q M0 O0) (a1 : Int32) (a3 : Int32) (M : Nat → Int32) (O : Nat × Nat) (hI : rI N M O) (hk : (M0 = M ∧ O0 = O)) (hbi : ((0 ≤ a1.toInt ∧ a1.toInt ≤ (N 26 : Int)) ∧ ((N 26 : Int) - a1.toInt) ≤ (n2 : Int) ∧ 1 ≤ ((N 26 : Int) - a1.toInt))) : wR_X7_findHearings_97 N K2 Q a1 a3 M O := by
  obtain ⟨_, _, _, _, _, _, _, _, _, _, _, _, _, _, _, _⟩ := (show rN N from hN)
  obtain ⟨⟨_, _⟩, ⟨_, _⟩, ⟨_, _, _⟩, ⟨_, _⟩, ⟨_, _⟩, ⟨_, _⟩, ⟨_, _⟩⟩ := (show rI N M O from hI)
  unfold wR_X7_findHearings_97
  obtain ⟨e1, e2⟩ := hk
  have hQ1 := hQ
  rw [e1, e2] at hQ1
  have := ti_rng a1
  refine ⟨vp_in_iff.mpr (by omega), fun z9 => ?_⟩
  have : (4 : Int32).toInt = 4 := by decide
  have := ti_rng z9
  refine spR_X7_putFault hN _ _ (show rI N M O from hI) (?_)
  have := ti_rng a3
  exact spR_X7_findHearings_108 hN sK2 hQ _ _ _ _ (show rI N M O from hI) ⟨e1, e2⟩ (show ((0 ≤ a1.toInt ∧ a1.toInt ≤ (N 26 : Int)) ∧ ((N 26 : Int) - a1.toInt) ≤ (n2 : Int) ∧ 1 ≤ ((N 26 : Int) - a1.toInt)) from by omega)
set_option maxHeartbeats 2000000 in
theorem spR_X7_findHearings_65 {N : Nat → Nat} (hN : rN N) {K2 : (Int32 → (Nat → Int32) → (Nat × Nat) → Prop)} {n2 : Nat} {Q : (Nat → Int32) → Nat × Nat → Prop} {M0 : Nat → Int32} {O0 : Nat × Nat} (sK2 : ∀ (a1 : Int32) (M : Nat → Int32) (O : Nat × Nat), rI N M O → (M0 = M ∧ O0 = O) → (0 ≤ a1.toInt ∧ a1.toInt ≤ (N 26 : Int)) → ((N 26 : Int) - a1.toInt) + 1 ≤ (n2 : Int) → K2 a1 M O) (hQ : Q M0 O0) (a1 : Int32) (t0 : Int32) (M : Nat → Int32) (O : Nat × Nat) (hI : rI N M O) (hk : (M0 = M ∧ O0 = O)) (hbi : ((0 ≤ a1.toInt ∧ a1.toInt ≤ (N 26 : Int)) ∧ ((N 26 : Int) - a1.toInt) ≤ (n2 : Int) ∧ 1 ≤ ((N 26 : Int) - a1.toInt))) : wR_X7_findHearings_65 N K2 Q a1 t0 M O := by
  obtain ⟨_, _, _, _, _, _, _, _, _, _, _, _, _, _, _, _⟩ := (show rN N from hN)
  obtain ⟨⟨_, _⟩, ⟨_, _⟩, ⟨_, _, _⟩, ⟨_, _⟩, ⟨_, _⟩, ⟨_, _⟩, ⟨_, _⟩⟩ := (show rI N M O from hI)
  unfold wR_X7_findHearings_65
  obtain ⟨e1, e2⟩ := hk
  have hQ1 := hQ
  rw [e1, e2] at hQ1
  refine ⟨fun hc8 => ?_, fun hc8 => ?_⟩
  · have := ti_rng t0
    have : ((-1) : Int32).toInt = -1 := by decide
    have hc89 := congrArg Int32.toInt hc8
    have := ti_rng a1
    exact spR_X7_findHearings_97 hN sK2 hQ _ _ _ _ (show rI N M O from hI) ⟨e1, e2⟩ (show ((0 ≤ a1.toInt ∧ a1.toInt ≤ (N 26 : Int)) ∧ ((N 26 : Int) - a1.toInt) ≤ (n2 : Int) ∧ 1 ≤ ((N 26 : Int) - a1.toInt)) from by omega)
  · have := ti_rng t0
    have : ((-1) : Int32).toInt = -1 := by decide
    have hc89 := ti_ne hc8
    refine spR_X6_parametersOf hN _ (show rI N M O from hI) (fun r13 => ?_)
    have := ti_rng a1
    refine ⟨vp_in_iff.mpr (by omega), fun z15 => ?_⟩
    have := ti_rng z15
    have : (1 : Int32).toInt = 1 := by decide
    first | have := ti_addx z15 1 (by omega) | obtain ⟨_, _, _, _⟩ := ti_add z15 1
    refine spR_X6_get hN _ (show rI N M O from hI) (fun r16 => ?_)
    refine ⟨fun hc18 => ?_, fun hc18 => ?_⟩
    · have := ti_rng r13
      have := ti_rng r16
      have hc189 := congrArg Int32.toInt hc18
      exact spR_X7_findHearings_108 hN sK2 hQ _ _ _ _ (show rI N M O from hI) ⟨e1, e2⟩ (show ((0 ≤ a1.toInt ∧ a1.toInt ≤ (N 26 : Int)) ∧ ((N 26 : Int) - a1.toInt) ≤ (n2 : Int) ∧ 1 ≤ ((N 26 : Int) - a1.toInt)) from by omega)
    · have := ti_rng r13
      have := ti_rng r16
      have hc189 := ti_ne hc18
      exact spR_X7_findHearings_97 hN sK2 hQ _ _ _ _ (show rI N M O from hI) ⟨e1, e2⟩ (show ((0 ≤ a1.toInt ∧ a1.toInt ≤ (N 26 : Int)) ∧ ((N 26 : Int) - a1.toInt) ≤ (n2 : Int) ∧ 1 ≤ ((N 26 : Int) - a1.toInt)) from by omega)
set_option maxHeartbeats 2000000 in
theorem spR_X7_findHearings_64 {N : Nat → Nat} (hN : rN N) {K2 : (Int32 → (Nat → Int32) → (Nat × Nat) → Prop)} {n2 : Nat} {Q : (Nat → Int32) → Nat × Nat → Prop} {M0 : Nat → Int32} {O0 : Nat × Nat} (sK2 : ∀ (a1 : Int32) (M : Nat → Int32) (O : Nat × Nat), rI N M O → (M0 = M ∧ O0 = O) → (0 ≤ a1.toInt ∧ a1.toInt ≤ (N 26 : Int)) → ((N 26 : Int) - a1.toInt) + 1 ≤ (n2 : Int) → K2 a1 M O) (hQ : Q M0 O0) (a1 : Int32) (M : Nat → Int32) (O : Nat × Nat) (hI : rI N M O) (hk : (M0 = M ∧ O0 = O)) (hbi : ((0 ≤ a1.toInt ∧ a1.toInt ≤ (N 26 : Int)) ∧ ((N 26 : Int) - a1.toInt) ≤ (n2 : Int) ∧ 1 ≤ ((N 26 : Int) - a1.toInt))) : wR_X7_findHearings_64 N K2 Q a1 M O := by
  obtain ⟨_, _, _, _, _, _, _, _, _, _, _, _, _, _, _, _⟩ := (show rN N from hN)
  obtain ⟨⟨_, _⟩, ⟨_, _⟩, ⟨_, _, _⟩, ⟨_, _⟩, ⟨_, _⟩, ⟨_, _⟩, ⟨_, _⟩⟩ := (show rI N M O from hI)
  unfold wR_X7_findHearings_64
  obtain ⟨e1, e2⟩ := hk
  have hQ1 := hQ
  rw [e1, e2] at hQ1
  have := ti_rng a1
  have : ((-1) : Int32).toInt = -1 := by decide
  exact spR_X7_findHearings_65 hN sK2 hQ _ _ _ _ (show rI N M O from hI) ⟨e1, e2⟩ (show ((0 ≤ a1.toInt ∧ a1.toInt ≤ (N 26 : Int)) ∧ ((N 26 : Int) - a1.toInt) ≤ (n2 : Int) ∧ 1 ≤ ((N 26 : Int) - a1.toInt)) from by omega)
set_option maxHeartbeats 2000000 in
theorem spR_X7_findHearings_2 {N : Nat → Nat} (hN : rN N) {Q : (Nat → Int32) → Nat × Nat → Prop} {M0 : Nat → Int32} {O0 : Nat × Nat} (hQ : Q M0 O0) : ∀ (n2 : Nat) (a1 : Int32) (M : Nat → Int32) (O : Nat × Nat), rI N M O → (M0 = M ∧ O0 = O) → (0 ≤ a1.toInt ∧ a1.toInt ≤ (N 26 : Int)) → ((N 26 : Int) - a1.toInt) + 1 ≤ (n2 : Int) → wR_X7_findHearings_2 N Q n2 a1 M O := by
  obtain ⟨_, _, _, _, _, _, _, _, _, _, _, _, _, _, _, _⟩ := (show rN N from hN)
  intro n2
  induction n2 with
  | zero => intro a1 M O hI hk hv hn; exact absurd hn (by omega)
  | succ n2 ih =>
    intro a1 M O hI hk hv hn
    obtain ⟨⟨_, _⟩, ⟨_, _⟩, ⟨_, _, _⟩, ⟨_, _⟩, ⟨_, _⟩, ⟨_, _⟩, ⟨_, _⟩⟩ := (show rI N M O from hI)
    dsimp only [wR_X7_findHearings_2]
    obtain ⟨e1, e2⟩ := hk
    have hQ1 := hQ
    rw [e1, e2] at hQ1
    refine ⟨fun hc1 => ?_, fun hc1 => ?_⟩
    · have := ti_rng (M 8)
      have := ti_rng a1
      have hc1 := Int32.le_iff_toInt_le.mp hc1
      exact hQ1
    · have := ti_rng (M 8)
      have := ti_rng a1
      have hc1 := ti_nle hc1
      refine ⟨fun hc2 => ?_, fun hc2 => ?_⟩
      · have := nI_toInt (n := (N 26)) (by omega)
        have hc2 := Int32.le_iff_toInt_le.mp hc2
        exact hQ1
      · have := nI_toInt (n := (N 26)) (by omega)
        have hc2 := ti_nle hc2
        refine ⟨fun hc3 => ?_, fun hc3 => ?_⟩
        · have := nI_toInt (n := (N 27)) (by omega)
          have hc3 := Int32.le_iff_toInt_le.mp hc3
          exact hQ1
        · have := nI_toInt (n := (N 27)) (by omega)
          have hc3 := ti_nle hc3
          refine ⟨vp_in_iff.mpr (by omega), fun z4 => ?_⟩
          have := ti_rng z4
          refine spR_X6_get hN _ (show rI N M O from hI) (fun r5 => ?_)
          refine ⟨fun hc7 => ?_, fun hc7 => ?_⟩
          · have := ti_rng r5
            have : (0 : Int32).toInt = 0 := by decide
            have hc7 := Int32.lt_iff_toInt_lt.mp hc7
            exact spR_X7_findHearings_64 hN ih hQ _ _ _ (show rI N M O from hI) ⟨e1, e2⟩ (show ((0 ≤ a1.toInt ∧ a1.toInt ≤ (N 26 : Int)) ∧ ((N 26 : Int) - a1.toInt) ≤ (n2 : Int) ∧ 1 ≤ ((N 26 : Int) - a1.toInt)) from by omega)
          · have := ti_rng r5
            have : (0 : Int32).toInt = 0 := by decide
            have hc7 := ti_nlt hc7
            refine ⟨fun hc19 => ?_, fun hc19 => ?_⟩
            · have := nI_toInt (n := (N 25)) (by omega)
              have hc19 := Int32.le_iff_toInt_le.mp hc19
              exact spR_X7_findHearings_64 hN ih hQ _ _ _ (show rI N M O from hI) ⟨e1, e2⟩ (show ((0 ≤ a1.toInt ∧ a1.toInt ≤ (N 26 : Int)) ∧ ((N 26 : Int) - a1.toInt) ≤ (n2 : Int) ∧ 1 ≤ ((N 26 : Int) - a1.toInt)) from by omega)
            · have := nI_toInt (n := (N 25)) (by omega)
              have hc19 := ti_nle hc19
              refine ⟨vp_in_iff.mpr (by omega), fun z20 => ?_⟩
              have := ti_rng z20
              exact spR_X7_findHearings_65 hN ih hQ _ _ _ _ (show rI N M O from hI) ⟨e1, e2⟩ (show ((0 ≤ a1.toInt ∧ a1.toInt ≤ (N 26 : Int)) ∧ ((N 26 : Int) - a1.toInt) ≤ (n2 : Int) ∧ 1 ≤ ((N 26 : Int) - a1.toInt)) from by omega)
set_option maxHeartbeats 2000000 in
theorem spR_X7_findHearings {N : Nat → Nat} (hN : rN N) {M0 : Nat → Int32} {O : Nat × Nat} {Q : (Nat → Int32) → Nat × Nat → Prop} (hI : rI N M0 O) (hQ : Q M0 O) : wR_X7_findHearings N  M0 O Q := by
  obtain ⟨_, _, _, _, _, _, _, _, _, _, _, _, _, _, _, _⟩ := (show rN N from hN)
  obtain ⟨⟨_, _⟩, ⟨_, _⟩, ⟨_, _, _⟩, ⟨_, _⟩, ⟨_, _⟩, ⟨_, _⟩, ⟨_, _⟩⟩ := (show rI N M0 O from hI)
  have hk : rK M0 M0 := rK_rf M0
  have hQ1 := hQ
  unfold wR_X7_findHearings
  have : (0 : Int32).toInt = 0 := by decide
  exact ⟨(((N 26 : Int) - (0 : Int32).toInt) + 1).toNat, spR_X7_findHearings_2 hN hQ _ _ _ _ (show rI N M0 O from hI) ⟨rfl, rfl⟩ (show 0 ≤ (0 : Int32).toInt ∧ (0 : Int32).toInt ≤ (N 26 : Int) from by omega) (show ((N 26 : Int) - (0 : Int32).toInt) + 1 ≤ _ from by omega)⟩
set_option maxHeartbeats 2000000 in
theorem spR_X7_readText_50 {N : Nat → Nat} (hN : rN N) {WB : Int32 → (Nat → Int32) → (Nat × Nat) → ((Nat → Int32) → Nat × Nat → Prop) → Prop} {Q : (Nat → Int32) → Nat × Nat → Prop} {M0 : Nat → Int32} {dF : Nat} {dB : Nat} (sWB : ∀ (q1 : Int32) (M : Nat → Int32) (O : Nat × Nat) {Q : (Nat → Int32) → Nat × Nat → Prop}, rI N M O → (0 ≤ q1.toInt ∧ q1.toInt ≤ 20 ∧ 21 - q1.toInt ≤ (dB : Int) ∧ 22 ≤ (dF : Int)) → (∀ (M' : Nat → Int32) (O' : Nat × Nat), rI N M' O' → rK M M' → Q M' O') → WB q1 M O Q) (hQ : ∀ (M' : Nat → Int32) (O' : Nat × Nat), rI N M' O' → Q M' O') (M : Nat → Int32) (O : Nat × Nat) (hI : rI N M O) (hk : (0 : Nat) = 0) : wR_X7_readText_50 N WB Q M O := by
  obtain ⟨_, _, _, _, _, _, _, _, _, _, _, _, _, _, _, _⟩ := (show rN N from hN)
  obtain ⟨⟨_, _⟩, ⟨_, _⟩, ⟨_, _, _⟩, ⟨_, _⟩, ⟨_, _⟩, ⟨_, _⟩, ⟨_, _⟩⟩ := (show rI N M O from hI)
  unfold wR_X7_readText_50
  refine spR_X7_findHearings hN  (show rI N M O from hI) (?_)
  exact hQ _ _ (show rI N M O from hI)
set_option maxHeartbeats 2000000 in
theorem spR_X7_readText_13 {N : Nat → Nat} (hN : rN N) {WB : Int32 → (Nat → Int32) → (Nat × Nat) → ((Nat → Int32) → Nat × Nat → Prop) → Prop} {Q : (Nat → Int32) → Nat × Nat → Prop} {M0 : Nat → Int32} {dF : Nat} {dB : Nat} (sWB : ∀ (q1 : Int32) (M : Nat → Int32) (O : Nat × Nat) {Q : (Nat → Int32) → Nat × Nat → Prop}, rI N M O → (0 ≤ q1.toInt ∧ q1.toInt ≤ 20 ∧ 21 - q1.toInt ≤ (dB : Int) ∧ 22 ≤ (dF : Int)) → (∀ (M' : Nat → Int32) (O' : Nat × Nat), rI N M' O' → rK M M' → Q M' O') → WB q1 M O Q) (hQ : ∀ (M' : Nat → Int32) (O' : Nat × Nat), rI N M' O' → Q M' O') : ∀ (n13 : Nat) (a1 : Int32) (M : Nat → Int32) (O : Nat × Nat), rI N M O → (0 : Nat) = 0 → (0 ≤ a1.toInt ∧ a1.toInt ≤ 4001 ∧ (M 64).toInt = a1.toInt ∧ 22 ≤ (dB : Int) ∧ 22 ≤ (dF : Int)) → (4001 - a1.toInt) + 1 ≤ (n13 : Int) → wR_X7_readText_13 N WB Q n13 a1 M O := by
  obtain ⟨_, _, _, _, _, _, _, _, _, _, _, _, _, _, _, _⟩ := (show rN N from hN)
  intro n13
  induction n13 with
  | zero => intro a1 M O hI hk hv hn; exact absurd hn (by omega)
  | succ n13 ih =>
    intro a1 M O hI hk hv hn
    obtain ⟨⟨_, _⟩, ⟨_, _⟩, ⟨_, _, _⟩, ⟨_, _⟩, ⟨_, _⟩, ⟨_, _⟩, ⟨_, _⟩⟩ := (show rI N M O from hI)
    dsimp only [wR_X7_readText_13]
    refine ⟨fun hc3 => ?_, fun hc3 => ?_⟩
    · have : (4000 : Int32).toInt = 4000 := by decide
      have := ti_rng a1
      have hc3 := Int32.lt_iff_toInt_lt.mp hc3
      exact spR_X7_readText_50 (M0 := M0) hN sWB hQ _ _ (show rI N M O from hI) rfl
    · have : (4000 : Int32).toInt = 4000 := by decide
      have := ti_rng a1
      have hc3 := ti_nlt hc3
      refine ⟨fun hc5 => ?_, fun hc5 => ?_⟩
      · have := ti_rng (M 12)
        have : (135 : Int32).toInt = 135 := by decide
        have hc59 := congrArg Int32.toInt hc5
        exact spR_X7_readText_50 (M0 := M0) hN sWB hQ _ _ (show rI N M O from hI) rfl
      · have := ti_rng (M 12)
        have : (135 : Int32).toInt = 135 := by decide
        have hc59 := ti_ne hc5
        refine ⟨fun hc6 => ?_, fun hc6 => ?_⟩
        · have : (137 : Int32).toInt = 137 := by decide
          have hc69 := congrArg Int32.toInt hc6
          exact spR_X7_readText_50 (M0 := M0) hN sWB hQ _ _ (show rI N M O from hI) rfl
        · have : (137 : Int32).toInt = 137 := by decide
          have hc69 := ti_ne hc6
          have := ti_rng (M 64)
          refine spR_X7_hearing hN sWB  (show rI N M O from hI) (show (M 64).toInt < 5000 ∧ 22 ≤ (dB : Int) ∧ 22 ≤ (dF : Int) from by omega) (fun M7 O7 hI hp7 => ?_)
          obtain ⟨⟨_, _⟩, ⟨_, _⟩, ⟨_, _, _⟩, ⟨_, _⟩, ⟨_, _⟩, ⟨_, _⟩, ⟨_, _⟩⟩ := (show rI N M7 O7 from hI)
          have : (1 : Int32).toInt = 1 := by decide
          first | have := ti_addx a1 1 (by omega) | obtain ⟨_, _, _, _⟩ := ti_add a1 1
          have := ti_rng (M7 64)
          exact ih _ _ _ (show rI N M7 O7 from hI) rfl (show 0 ≤ (a1 + 1).toInt ∧ (a1 + 1).toInt ≤ 4001 ∧ (M7 64).toInt = (a1 + 1).toInt ∧ 22 ≤ (dB : Int) ∧ 22 ≤ (dF : Int) from by omega) (show (4001 - (a1 + 1).toInt) + 1 ≤ _ from by omega)
set_option maxHeartbeats 2000000 in
theorem spR_X7_readText {N : Nat → Nat} (hN : rN N) {WB : Int32 → (Nat → Int32) → (Nat × Nat) → ((Nat → Int32) → Nat × Nat → Prop) → Prop} {dF : Nat} {dB : Nat} (sWB : ∀ (q1 : Int32) (M : Nat → Int32) (O : Nat × Nat) {Q : (Nat → Int32) → Nat × Nat → Prop}, rI N M O → (0 ≤ q1.toInt ∧ q1.toInt ≤ 20 ∧ 21 - q1.toInt ≤ (dB : Int) ∧ 22 ≤ (dF : Int)) → (∀ (M' : Nat → Int32) (O' : Nat × Nat), rI N M' O' → rK M M' → Q M' O') → WB q1 M O Q) {M0 : Nat → Int32} {O : Nat × Nat} {Q : (Nat → Int32) → Nat × Nat → Prop} (hI : rI N M0 O) (hpre : (M0 64).toInt = 0 ∧ 22 ≤ (dB : Int) ∧ 22 ≤ (dF : Int)) (hQ : ∀ (M' : Nat → Int32) (O' : Nat × Nat), rI N M' O' → Q M' O') : wR_X7_readText N WB  M0 O Q := by
  obtain ⟨_, _, _, _, _, _, _, _, _, _, _, _, _, _, _, _⟩ := (show rN N from hN)
  obtain ⟨⟨_, _⟩, ⟨_, _⟩, ⟨_, _, _⟩, ⟨_, _⟩, ⟨_, _⟩, ⟨_, _⟩, ⟨_, _⟩⟩ := (show rI N M0 O from hI)
  have hk : rK M0 M0 := rK_rf M0
  have hQ1 := hQ
  unfold wR_X7_readText
  refine spR_X10_split hN  (show rI N M0 O from hI) (fun M1 O1 hI hk1 => ?_)
  obtain ⟨_, _, hst1⟩ := (show (M1 21).toInt = (M0 21).toInt ∧ (M1 64).toInt = (M0 64).toInt ∧ ((M0 12).toInt = 137 → (M1 12).toInt = 137) from hk1)
  obtain ⟨⟨_, _⟩, ⟨_, _⟩, ⟨_, _, _⟩, ⟨_, _⟩, ⟨_, _⟩, ⟨_, _⟩, ⟨_, _⟩⟩ := (show rI N M1 O1 from hI)
  refine spR_X7_advance hN  (show rI N M1 O1 from hI) (fun M2 O2 hI hk1 => ?_)
  obtain ⟨_, _, hst1⟩ := (show (M2 21).toInt = (M1 21).toInt ∧ (M2 64).toInt = (M1 64).toInt ∧ ((M1 12).toInt = 137 → (M2 12).toInt = 137) from hk1)
  obtain ⟨⟨_, _⟩, ⟨_, _⟩, ⟨_, _, _⟩, ⟨_, _⟩, ⟨_, _⟩, ⟨_, _⟩, ⟨_, _⟩⟩ := (show rI N M2 O2 from hI)
  have : (0 : Int32).toInt = 0 := by decide
  have := ti_rng (M2 64)
  exact ⟨((4001 - (0 : Int32).toInt) + 1).toNat, spR_X7_readText_13 (M0 := M0) hN sWB hQ _ _ _ _ (show rI N M2 O2 from hI) rfl (show 0 ≤ (0 : Int32).toInt ∧ (0 : Int32).toInt ≤ 4001 ∧ (M2 64).toInt = (0 : Int32).toInt ∧ 22 ≤ (dB : Int) ∧ 22 ≤ (dF : Int) from by omega) (show (4001 - (0 : Int32).toInt) + 1 ≤ _ from by omega)⟩

