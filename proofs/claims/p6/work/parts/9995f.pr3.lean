section PR3
variable {M : Nat → Int32}
theorem q_kind {a v : Int32} (h : q_tk a v M) {p : Nat} (hp : p < 7) : a = nI (226 + p) ↔ M 4 = 5 ∧ M 5 = nI p := by
  have hq : ∀ q, q < 33 → ¬ nI (200 + q) = 130 ∧ ¬ nI (200 + q) = 131 ∧ ¬ nI (200 + q) = 132 ∧ ¬ nI (200 + q) = 135 ∧ ¬ nI (200 + q) = 136 ∧ ¬ nI (200 + q) = 133 ∧ ¬ nI (200 + q) = 134 := by decide +kernel
  have e0 : 226 + p = 200 + (26 + p) := by omega
  rw [e0]
  obtain ⟨q1, q2, q3, q4, q5, q6, q7⟩ := hq (26 + p) (by omega)
  rcases h with (⟨rfl, b, -⟩ | ⟨rfl, b⟩ | ⟨q, hq1, rfl, b, d⟩ | ⟨q, g, hq1, rfl, b, d⟩ | ⟨w, -, rfl, -, b, -⟩ | ⟨w, -, rfl, -, b, -⟩ | ⟨rfl, b, d⟩ | ⟨rfl, b, d⟩ | ⟨e, b, d⟩) | ⟨rfl, b⟩
  · exact ⟨fun z => absurd z.symm q3, fun z => absurd (b.symm.trans z.1) (by decide)⟩
  · exact ⟨fun z => absurd z.symm q5, fun z => absurd (b.symm.trans z.1) (by decide)⟩
  · constructor
    · intro z
      have := congrArg Int32.toInt z
      rw [fs_nI (by omega), fs_nI (by omega)] at this; omega
    · intro z; exact absurd (b.symm.trans z.1) (by decide)
  · rw [d]
    constructor
    · intro z
      have : q - 26 = p := by
        have := congrArg Int32.toInt z
        rw [fs_nI (by omega), fs_nI (by omega)] at this; omega
      rw [this]; exact ⟨b, rfl⟩
    · intro z
      have : q = 26 + p := by
        have := congrArg Int32.toInt z.2
        rw [fs_nI (by omega), fs_nI (by omega)] at this; omega
      rw [this]
  · exact ⟨fun z => absurd z.symm q1, fun z => absurd (b.symm.trans z.1) (by decide)⟩
  · exact ⟨fun z => absurd z.symm q2, fun z => absurd (b.symm.trans z.1) (by decide)⟩
  · exact ⟨fun z => absurd z.symm q6, fun z => absurd (b.symm.trans z.1) (by decide)⟩
  · exact ⟨fun z => absurd z.symm q7, fun z => absurd (b.symm.trans z.1) (by decide)⟩
  · exact ⟨fun z => absurd (q_snq (26 + p) (by omega)) (by rw [← z, e]; decide), fun z => absurd (b.symm.trans z.1) (by decide)⟩
  · exact ⟨fun z => absurd z.symm q4, fun z => absurd (b.symm.trans z.1) (by decide)⟩
/-- '==' and '!=' -/
theorem q_eqs {a v x y : Int32} (h : q_tk a v M) (hxy : (x = 133 ∧ y = 300) ∨ (x = 134 ∧ y = 301)) : a = x ↔ M 4 = 6 ∧ M 5 = y := by
  have hq : ∀ q, q < 33 → ¬ nI (200 + q) = 133 ∧ ¬ nI (200 + q) = 134 := by decide +kernel
  have hx : x_sn x = false := by rcases hxy with ⟨rfl, -⟩ | ⟨rfl, -⟩ <;> decide
  have hne : ∀ z : Int32, z ∈ ([132, 136, 130, 131, 135] : List Int32) → ¬ z = x := by rcases hxy with ⟨rfl, -⟩ | ⟨rfl, -⟩ <;> decide
  have hnq : ∀ q, q < 33 → ¬ nI (200 + q) = x := fun q h => by rcases hxy with ⟨rfl, -⟩ | ⟨rfl, -⟩; exact (hq q h).1; exact (hq q h).2
  rcases h with (⟨rfl, b, -⟩ | ⟨rfl, b⟩ | ⟨q, hq1, rfl, b, d⟩ | ⟨q, g, hq1, rfl, b, d⟩ | ⟨w, -, rfl, -, b, -⟩ | ⟨w, -, rfl, -, b, -⟩ | ⟨rfl, b, d⟩ | ⟨rfl, b, d⟩ | ⟨e, b, d⟩) | ⟨rfl, b⟩
  · exact ⟨fun z => absurd z (hne _ (by decide)), fun z => absurd (b.symm.trans z.1) (by decide)⟩
  · exact ⟨fun z => absurd z (hne _ (by decide)), fun z => absurd (b.symm.trans z.1) (by decide)⟩
  · exact ⟨fun z => absurd z (hnq q (by omega)), fun z => absurd (b.symm.trans z.1) (by decide)⟩
  · exact ⟨fun z => absurd z (hnq q (by omega)), fun z => absurd (b.symm.trans z.1) (by decide)⟩
  · exact ⟨fun z => absurd z (hne _ (by decide)), fun z => absurd (b.symm.trans z.1) (by decide)⟩
  · exact ⟨fun z => absurd z (hne _ (by decide)), fun z => absurd (b.symm.trans z.1) (by decide)⟩
  · rw [b, d]; rcases hxy with ⟨rfl, rfl⟩ | ⟨rfl, rfl⟩ <;> decide
  · rw [b, d]; rcases hxy with ⟨rfl, rfl⟩ | ⟨rfl, rfl⟩ <;> decide
  · have hs : ¬ a = x := fun z => by rw [z, hx] at e; exact absurd e (by decide)
    refine ⟨fun z => absurd z hs, fun z => ?_⟩
    have hay : a = y := d.symm.trans z.2
    rcases hxy with ⟨-, rfl⟩ | ⟨-, rfl⟩
    · rw [hay] at e; exact absurd e (by decide)
    · rw [hay] at e; exact absurd e (by decide)
  · exact ⟨fun z => absurd z (hne _ (by decide)), fun z => absurd (b.symm.trans z.1) (by decide)⟩
end PR3
