/-! WHAT HOLDS BETWEEN TWO CALLS of the reference. -/
def e_OB (M : e_M) (F : e_F) : Prop := (0 ≤ (M 54).toInt ∧ (M 54).toInt ≤ 8000) ∧ (∀ o : Nat, 1 ≤ o → (o : Int) ≤ (M 54).toInt → (0 ≤ (F 48 o).toInt ∧ (F 48 o).toInt ≤ 6) ∧ 0 ≤ (F 52 o).toInt ∧ (F 52 o).toInt ≤ (M 54).toInt) ∧ (∀ j : Nat, j < 96 → 0 ≤ (F 58 j).toInt ∧ (F 58 j).toInt ≤ (M 54).toInt) ∧ (∀ j : Nat, j < 260 → F 65 j = 1 → 1 ≤ (F 66 j).toInt ∧ (F 66 j).toInt ≤ (M 54).toInt) ∧ (∀ j : Nat, j < 21 → (0 ≤ (F 85 j).toInt ∧ (F 85 j).toInt ≤ 6) ∧ (F 85 j = 3 → 0 ≤ (F 86 j).toInt ∧ (F 86 j).toInt ≤ 6)) ∧ (∀ j : Nat, j < 3 → 0 ≤ (F 87 j).toInt ∧ (F 87 j).toInt ≤ (M 54).toInt) ∧ (0 ≤ (M 80).toInt ∧ (M 80).toInt ≤ 200) ∧ (0 ≤ (M 83).toInt ∧ (M 83).toInt ≤ (M 54).toInt) ∧ (0 ≤ (M 73).toInt ∧ (M 73).toInt ≤ (M 54).toInt)
theorem e_OB_cg {M M' : e_M} {F F' : e_F} (h1 : ∀ k, 47 < k → M' k = M k) (h2 : ∀ r, 45 < r → F' r = F r) (h : e_OB M F) : e_OB M' F' := by
  unfold e_OB at h ⊢
  rw [h1 54 (by decide), h1 80 (by decide), h1 83 (by decide), h1 73 (by decide), h2 48 (by decide), h2 52 (by decide), h2 58 (by decide), h2 65 (by decide), h2 66 (by decide), h2 85 (by decide), h2 86 (by decide), h2 87 (by decide)]
  exact h
def e_INV (M : e_M) (F : e_F) : Prop := (0 ≤ (M 1).toInt ∧ (M 1).toInt ≤ 4000) ∧ e_CODE (M 27).toInt (M 28).toInt F ∧ e_OB M F
theorem e_flip {a : Int32} (h : 0 ≤ a.toInt ∧ a.toInt ≤ 1) : (1 - a).toInt = 1 - a.toInt ∧ 1 - (1 - a) = a := by
  have l1 : (1 : Int32).toInt = 1 := by decide
  have e1 := ti_subx 1 a (by omega)
  rw [l1] at e1
  have e2 := ti_subx 1 (1 - a) (by omega)
  exact ⟨e1, Int32.toInt_inj.mp (by omega)⟩
