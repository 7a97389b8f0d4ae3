/-! THE REFERENCE'S READ: what it answers. -/
section XT5
variable {E : x_E} {x : x_X}
def z_fin (M : Nat → Int32) (x : x_X) : Prop := (x.1 = true → ¬ M 36 = -1) ∧ (x.1 = false → M 36 = -1 ∧ (M 37 = -1 ↔ X_2 x = false) ∧ (X_2 x = false → (M 38 = -1 ↔ X_3 x = false)) ∧ (X_2 x = false → X_3 x = false → (M 39 = -1 ↔ all4 x (X_l x).length)))
/-- the reference's hears: the first i looked at -/
def zI (x : x_X) (i : Nat) (M0 M : Nat → Int32) (F0 F : Nat → Nat → Int32) : Prop := (∀ j, j ∈ rz_LM → j ≠ 39 → j ≠ 34 → j ≠ 35 → M j = M0 j) ∧ (∀ j, j ∈ rz_LF → F j = F0 j) ∧ (X_2 x = false → X_3 x = false → (M 39 = -1 ↔ all4 x i))
/-- where both begin -/
def x_0 : x_X := (false, 0, 0, fun _ => 0, false, false, fun _ => -1, fun _ => -1, fun _ => 0, [])
theorem x_0_I (hE : E_ok E) : t_I E x_0 := by
  have l0 : (0 : Int32).toInt = 0 := by decide
  refine ⟨fun _ => ⟨Nat.zero_le _, ?_, ?_⟩, fun _ => Nat.zero_le _, fun _ => ⟨rfl, fun _ => Or.inl rfl, fun _ _ => ?_, ⟨?_, ?_⟩, fun p hp => absurd hp (by intro q; cases q)⟩⟩
  · show 0 ≤ (0 : Int32).toInt ∧ (0 : Int32).toInt ≤ 20; decide
  · show ((0 : Nat) : Int) ≤ 2 * (E_p E 0 : Int) + 0; omega
  · show (0 : Int32).toInt ≤ 16; decide
  · show 0 ≤ (0 : Int32).toInt; decide
  · show (0 : Int32).toInt ≤ ((0 : Nat) : Int); decide
end XT5
