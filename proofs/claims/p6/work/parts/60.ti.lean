theorem ti_rng (a : Int32) : -2147483648 ≤ a.toInt ∧ a.toInt ≤ 2147483647 := by
  have h1 := Int32.le_toInt a
  have h2 := Int32.toInt_lt a
  omega
theorem ti_bm (x : Int) : ∃ k : Int, x.bmod 4294967296 = x + 4294967296 * k := by
  have e : x.bmod 4294967296 = if x % 4294967296 < (4294967296 + 1) / 2 then x % 4294967296 else x % 4294967296 - 4294967296 := rfl
  rw [e]
  split
  · exact ⟨-(x / 4294967296), by omega⟩
  · exact ⟨-(x / 4294967296) - 1, by omega⟩
theorem ti_add (a b : Int32) : ∃ k : Int, (a + b).toInt = a.toInt + b.toInt + 4294967296 * k ∧ -2147483648 ≤ (a + b).toInt ∧ (a + b).toInt ≤ 2147483647 := by
  obtain ⟨k, hk⟩ := ti_bm (a.toInt + b.toInt)
  exact ⟨k, (Int32.toInt_add a b).trans hk, ti_rng _⟩
theorem ti_sub (a b : Int32) : ∃ k : Int, (a - b).toInt = a.toInt - b.toInt + 4294967296 * k ∧ -2147483648 ≤ (a - b).toInt ∧ (a - b).toInt ≤ 2147483647 := by
  obtain ⟨k, hk⟩ := ti_bm (a.toInt - b.toInt)
  exact ⟨k, (Int32.toInt_sub a b).trans hk, ti_rng _⟩
theorem ti_mulc (a c : Int32) (n : Int) (hc : c.toInt = n) : ∃ k : Int, (a * c).toInt = a.toInt * n + 4294967296 * k ∧ -2147483648 ≤ (a * c).toInt ∧ (a * c).toInt ≤ 2147483647 := by
  obtain ⟨k, hk⟩ := ti_bm (a.toInt * c.toInt)
  exact ⟨k, by rw [← hc]; exact (Int32.toInt_mul a c).trans hk, ti_rng _⟩
theorem ti_mulc2 (c a : Int32) (n : Int) (hc : c.toInt = n) : ∃ k : Int, (c * a).toInt = n * a.toInt + 4294967296 * k ∧ -2147483648 ≤ (c * a).toInt ∧ (c * a).toInt ≤ 2147483647 := by
  obtain ⟨k, hk⟩ := ti_bm (c.toInt * a.toInt)
  exact ⟨k, by rw [← hc]; exact (Int32.toInt_mul c a).trans hk, ti_rng _⟩
theorem ti_addx (a b : Int32) (h : -2147483648 ≤ a.toInt + b.toInt ∧ a.toInt + b.toInt ≤ 2147483647) : (a + b).toInt = a.toInt + b.toInt := by
  obtain ⟨k, h1, h2, h3⟩ := ti_add a b
  omega
theorem ti_subx (a b : Int32) (h : -2147483648 ≤ a.toInt - b.toInt ∧ a.toInt - b.toInt ≤ 2147483647) : (a - b).toInt = a.toInt - b.toInt := by
  obtain ⟨k, h1, h2, h3⟩ := ti_sub a b
  omega
theorem ti_mulx (a c : Int32) (n : Int) (hc : c.toInt = n) (h : -2147483648 ≤ a.toInt * n ∧ a.toInt * n ≤ 2147483647) : (a * c).toInt = a.toInt * n := by
  obtain ⟨k, h1, h2, h3⟩ := ti_mulc a c n hc
  omega
theorem ti_dec (a : Int32) (h : -2147483648 < a.toInt) : (a + (-1)).toInt = a.toInt - 1 := by
  obtain ⟨k, h1, h2, h3⟩ := ti_add a (-1)
  have h4 : ((-1) : Int32).toInt = -1 := by decide
  have h5 := ti_rng a
  rw [h4] at h1
  omega
theorem ti_nlt {a b : Int32} (h : ¬ a < b) : b.toInt ≤ a.toInt := by
  by_cases q : a.toInt < b.toInt
  · exact absurd (Int32.lt_iff_toInt_lt.mpr q) h
  · omega
theorem ti_nle {a b : Int32} (h : ¬ a ≤ b) : b.toInt < a.toInt := by
  by_cases q : a.toInt ≤ b.toInt
  · exact absurd (Int32.le_iff_toInt_le.mpr q) h
  · omega
theorem ti_ne {a b : Int32} (h : ¬ a = b) : ¬ a.toInt = b.toInt := fun q => h (Int32.toInt_inj.mp q)
def tN (N : Nat → Nat) : Prop := N 10 = 4000 ∧ N 11 = 21 ∧ N 12 = 21 ∧ N 13 = 3 ∧ N 14 = 200 ∧ N 15 = 144 ∧ N 16 = 96 ∧ N 17 = 12 ∧ N 18 = 1200 ∧ N 19 = 128 ∧ N 20 < 1000000 ∧ N 21 = 16 ∧ N 22 = 16
def tI (N : Nat → Nat) (M : Nat → Int32) (O : Nat × Nat) : Prop := (0 ≤ (M 1).toInt ∧ (M 1).toInt ≤ 4000) ∧ (0 ≤ (M 22).toInt ∧ (M 22).toInt ≤ 8000) ∧ 7 * (M 22).toInt ≤ ((448 * 2 ^ O.2 : Nat) : Int) ∧ (0 ≤ (M 31).toInt ∧ (M 31).toInt ≤ 200) ∧ (0 ≤ (M 52).toInt ∧ (M 52).toInt ≤ 128) ∧ (0 ≤ (M 63).toInt ∧ (M 63).toInt ≤ (N 20 : Int)) ∧ O.2 ≤ 7
def tK (M0 M : Nat → Int32) : Prop := M 1 = M0 1
theorem tK_rf (M : Nat → Int32) : tK M M := rfl
theorem tK_tr {A B C : Nat → Int32} (h : tK A B) (h2 : tK B C) : tK A C := h2.trans h
theorem spT_X2_make {N : Nat → Nat} (_hN : tN N) (q1 q2 q3 q4 : Int32) {M0 : Nat → Int32} {O : Nat × Nat} {Q : Int32 → (Nat → Int32) → Nat × Nat → Prop} (hI : tI N M0 O) (hQ : ∀ (r : Int32) (M' : Nat → Int32) (O' : Nat × Nat), tI N M' O' → tK M0 M' → Q r M' O') : wT_X2_make N q1 q2 q3 q4 M0 O Q := by
  obtain ⟨h1, ⟨h2, h3⟩, h4, h5, h6, h7, h8⟩ := (show tI N M0 O from hI)
  refine ⟨h2, h3, h4, hQ _ _ _ hI rfl, fun O' ho h9 hle h10 => ?_⟩
  obtain ⟨k, e, e1, e2⟩ := ti_add (M0 22) 1
  have l1 : (1 : Int32).toInt = 1 := by decide
  exact hQ _ _ _ (show tI N (um M0 22 (M0 22 + 1)) O' from ⟨h1, (show 0 ≤ (M0 22 + 1).toInt ∧ (M0 22 + 1).toInt ≤ 8000 from by omega), (show 7 * (M0 22 + 1).toInt ≤ ((448 * 2 ^ O'.2 : Nat) : Int) from by omega), h5, h6, h7, h9⟩) rfl
