def rN (N : Nat → Nat) : Prop := N 10 = 4000 ∧ N 12 = N 11 ∧ N 13 = N 11 ∧ N 11 ≤ 4001 ∧ N 15 = N 14 ∧ N 14 < 100000 ∧ N 16 = 127 ∧ N 20 < 1000000 ∧ N 21 = 16 ∧ N 22 = 16 ∧ N 23 = N 14 ∧ N 24 = N 14 ∧ N 25 = N 14 ∧ N 27 = N 26 ∧ N 26 < 100000 ∧ N 28 = 5
def rI (N : Nat → Nat) (M : Nat → Int32) (O : Nat × Nat) : Prop := (0 ≤ (M 8).toInt ∧ (M 8).toInt ≤ (N 26 : Int)) ∧ (0 ≤ (M 11).toInt ∧ (M 11).toInt ≤ (N 11 : Int)) ∧ (0 ≤ (M 21).toInt ∧ (M 21).toInt ≤ 4000 ∧ (M 21).toInt + 1 = (N 11 : Int)) ∧ (0 ≤ (M 26).toInt ∧ (M 26).toInt ≤ (N 11 : Int)) ∧ (0 ≤ (M 33).toInt ∧ (M 33).toInt ≤ (N 14 : Int)) ∧ (0 ≤ (M 63).toInt ∧ (M 63).toInt ≤ (N 20 : Int)) ∧ (0 ≤ (M 64).toInt ∧ (M 64).toInt ≤ 5000)
def rK (A B : Nat → Int32) : Prop := (B 21).toInt = (A 21).toInt ∧ (B 64).toInt = (A 64).toInt ∧ ((A 12).toInt = 137 → (B 12).toInt = 137)
theorem rK_rf (M : Nat → Int32) : rK M M := ⟨rfl, rfl, fun h => h⟩
theorem rK_tr {A B C : Nat → Int32} (h : rK A B) (h2 : rK B C) : rK A C := ⟨h2.1.trans h.1, h2.2.1.trans h.2.1, fun q => h2.2.2 (h.2.2 q)⟩
theorem ti_l2i (z : Int64) (h : 0 ≤ z.toInt ∧ z.toInt < 127) : (z.toInt32).toInt = z.toInt := by
  rw [Int64.toInt_toInt32]
  apply Int.bmod_eq_of_le <;> omega
