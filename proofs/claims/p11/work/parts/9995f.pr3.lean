section PR3
variable {M : Nat → Int32}
/-- '==' and '!=' -/
theorem q_eqs {a v x y : Int32} (h : q_tk a v M) (hxy : (x = 133 ∧ y = 300) ∨ (x = 134 ∧ y = 301)) : a = x ↔ M 4 = 6 ∧ M 5 = y := by
  have hq : ∀ q, q < 33 → ¬ nI (200 + q) = 133 ∧ ¬ nI (200 + q) = 134 := by decide +kernel
  have hx : x_sn x = false := by rcases hxy with ⟨rfl, -⟩ | ⟨rfl, -⟩ <;> decide
  have hne : ∀ z : Int32, z ∈ ([132, 136, 130, 131, 135] : List Int32) → ¬ z = x := by rcases hxy with ⟨rfl, -⟩ | ⟨rfl, -⟩ <;> decide
  have hnq : ∀ q, q < 33 → ¬ nI (200 + q) = x := fun q h => by rcases hxy with ⟨rfl, -⟩ | ⟨rfl, -⟩; exact (hq q h).1; exact (hq q h).2
  rcases h with (⟨rfl, b, -⟩ | ⟨rfl, b⟩ | ⟨q, hq1, rfl, b, d⟩ | ⟨q, g, hq1, rfl, b, d⟩ | ⟨w, -, rfl, -, b, -⟩ | ⟨w, -, rfl, -, b, -⟩ | ⟨rfl, b, d⟩ | ⟨rfl, b, d⟩ | ⟨e, b, d⟩) | ⟨rfl, b⟩
  · exact ⟨fun z => absurd z (hne _ (by decide)), fun z => absurd (b.symm.trans z.1) (by decide)⟩
  · exact ⟨fun z => absurd z (hne _ (by decide)), fun z => absurd (b.symm.trans z.1) (by decide)⟩
  · exact ⟨fun z => absurd z (hnq q (by omega)), fun z => absurd (b.symm.trans z.1) (by decide)⟩
  · exact ⟨fun z => absurd z (hnq q (by omega)), fun z => absurd (b.symm.trans z.1) (by decide)⟩
  · exact ⟨fun z => absurd z (hne _ (by decide)), fun z => absurd (b.symm.trans z.1) (by decide)⟩
  · exact ⟨fun z => absurd z (hne _ (by decide)), fun z => absurd (b.symm.trans z.1) (by decide)⟩
  · rw [b, d]; rcases hxy with ⟨rfl, rfl⟩ | ⟨rfl, rfl⟩ <;> decide
  · rw [b, d]; rcases hxy with ⟨rfl, rfl⟩ | ⟨rfl, rfl⟩ <;> decide
  · have hs : ¬ a = x := fun z => by rw [z, hx] at e; exact absurd e (by decide)
    refine ⟨fun z => absurd z hs, fun z => ?_⟩
    have hay : a = y := d.symm.trans z.2
    rcases hxy with ⟨-, rfl⟩ | ⟨-, rfl⟩
    · rw [hay] at e; exact absurd e (by decide)
    · rw [hay] at e; exact absurd e (by decide)
  · exact ⟨fun z => absurd z (hne _ (by decide)), fun z => absurd (b.symm.trans z.1) (by decide)⟩
end PR3
