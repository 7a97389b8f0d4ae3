theorem ti_rng (a : Int32) : -2147483648 ≤ a.toInt ∧ a.toInt ≤ 2147483647 := by
  have h1 := Int32.le_toInt a
  have h2 := Int32.toInt_lt a
  omega
theorem ti_bm (x : Int) : ∃ k : Int, x.bmod 4294967296 = x + 4294967296 * k := by
  have e : x.bmod 4294967296 = if x % 4294967296 < (4294967296 + 1) / 2 then x % 4294967296 else x % 4294967296 - 4294967296 := rfl
  rw [e]
  split
  · exact ⟨-(x / 4294967296), by omega⟩
  · exact ⟨-(x / 4294967296) - 1, by omega⟩
theorem ti_add (a b : Int32) : ∃ k : Int, (a + b).toInt = a.toInt + b.toInt + 4294967296 * k ∧ -2147483648 ≤ (a + b).toInt ∧ (a + b).toInt ≤ 2147483647 := by
  obtain ⟨k, hk⟩ := ti_bm (a.toInt + b.toInt)
  exact ⟨k, (Int32.toInt_add a b).trans hk, ti_rng _⟩
theorem ti_sub (a b : Int32) : ∃ k : Int, (a - b).toInt = a.toInt - b.toInt + 4294967296 * k ∧ -2147483648 ≤ (a - b).toInt ∧ (a - b).toInt ≤ 2147483647 := by
  obtain ⟨k, hk⟩ := ti_bm (a.toInt - b.toInt)
  exact ⟨k, (Int32.toInt_sub a b).trans hk, ti_rng _⟩
theorem ti_mulc2 (c a : Int32) (n : Int) (hc : c.toInt = n) : ∃ k : Int, (c * a).toInt = n * a.toInt + 4294967296 * k ∧ -2147483648 ≤ (c * a).toInt ∧ (c * a).toInt ≤ 2147483647 := by
  obtain ⟨k, hk⟩ := ti_bm (c.toInt * a.toInt)
  exact ⟨k, by rw [← hc]; exact (Int32.toInt_mul c a).trans hk, ti_rng _⟩
theorem ti_addx (a b : Int32) (h : -2147483648 ≤ a.toInt + b.toInt ∧ a.toInt + b.toInt ≤ 2147483647) : (a + b).toInt = a.toInt + b.toInt := by
  obtain ⟨k, h1, h2, h3⟩ := ti_add a b
  omega
theorem ti_subx (a b : Int32) (h : -2147483648 ≤ a.toInt - b.toInt ∧ a.toInt - b.toInt ≤ 2147483647) : (a - b).toInt = a.toInt - b.toInt := by
  obtain ⟨k, h1, h2, h3⟩ := ti_sub a b
  omega
theorem ti_nlt {a b : Int32} (h : ¬ a < b) : b.toInt ≤ a.toInt := by
  by_cases q : a.toInt < b.toInt
  · exact absurd (Int32.lt_iff_toInt_lt.mpr q) h
  · omega
theorem ti_nle {a b : Int32} (h : ¬ a ≤ b) : b.toInt < a.toInt := by
  by_cases q : a.toInt ≤ b.toInt
  · exact absurd (Int32.le_iff_toInt_le.mpr q) h
  · omega
theorem ti_ne {a b : Int32} (h : ¬ a = b) : ¬ a.toInt = b.toInt := fun q => h (Int32.toInt_inj.mp q)
def tN (N : Nat → Nat) : Prop := N 10 = 4000 ∧ N 11 = 21 ∧ N 12 = 21 ∧ N 13 = 3 ∧ N 14 = 200 ∧ N 15 = 144 ∧ N 16 = 96 ∧ N 17 = 12 ∧ N 18 = 1200 ∧ N 19 = 128 ∧ N 20 < 1000000 ∧ N 21 = 16 ∧ N 22 = 16
def tI (N : Nat → Nat) (M : Nat → Int32) (O : Nat × Nat) : Prop := (0 ≤ (M 1).toInt ∧ (M 1).toInt ≤ 4000) ∧ (0 ≤ (M 22).toInt ∧ (M 22).toInt ≤ 8000) ∧ 7 * (M 22).toInt ≤ ((448 * 2 ^ O.2 : Nat) : Int) ∧ (0 ≤ (M 31).toInt ∧ (M 31).toInt ≤ 200) ∧ (0 ≤ (M 52).toInt ∧ (M 52).toInt ≤ 128) ∧ (0 ≤ (M 63).toInt ∧ (M 63).toInt ≤ (N 20 : Int)) ∧ O.2 ≤ 7
