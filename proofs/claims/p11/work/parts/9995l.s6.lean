/-! STATEMENTS: hear, its arguments and what stands behind them. -/
section XS6
variable {E : x_E} {x y : x_X} {w : Nat}
def hmm (E : x_E) (w : Nat) (x x' : x_X) : Prop := ∃ c y5, x' = X_sl w c y5 ∧ xm E 2 0 (-1) x y5
theorem xs_sl (hE : E_ok E) {c : Int32} (hb : x.1 = false) (z : X_ty E x = 210) (hy : y.1 = false → E_A E (X_t x + 1) = 130) (hwL : w < E_L E) (m : xm E 5 0 0 x y) : xs E 1 0 0 x (X_sl w c y) := fun q => by
  have q : y.1 = false := q
  obtain ⟨c1, ⟨c2, c3⟩, c4, c5, ⟨c6, c7, c8⟩, ⟨c9, c10⟩, c11, c12, -⟩ := m q
  have h1 := E_hear hE (t := X_t x) (by omega) ((X_tyg hb).symm.trans z) (hy q)
  have h2 := E_p_add hE (t := X_t x + 1) (t' := X_t y) (by omega) c3
  refine ⟨c1, ⟨by show X_t x + 1 ≤ X_t y; omega, c3⟩, c4, ?_, ⟨c6, c7⟩, c9, c10, c11, c12, fun p hp => ?_⟩
  rotate_left
  · have hp : p ∈ X_l y ++ [(w, c)] := hp
    rw [c5] at hp
    rcases List.mem_append.mp hp with h | h
    · exact Or.inl h
    · rw [List.mem_singleton.mp h]; exact Or.inr hwL
  show 9 * (X_l y ++ [(w, c)]).length + E_p E (X_t x) ≤ 9 * (X_l x).length + E_p E (X_t y)
  rw [List.length_append, c5]
  have : [(w, c)].length = 1 := rfl
  omega
end XS6
