/-! WHAT THE CURRENT TOKEN IS, on both sides. -/
section PR2
variable {T A V P : Nat → Int32} {n m : Nat} {kf : Nat → Nat} {tf : Nat → List (Nat × Nat)} {M : Nat → Int32} {F : Nat → Nat → Int32} {t : Nat}
def q_tk (a v : Int32) (M : Nat → Int32) : Prop := z_tk a v M ∨ (a = 135 ∧ M 4 = 0)
theorem q_r_tk (hX : q_TX T A V P n m kf tf) (h : q_r T A V P n m kf tf M F t) : q_tk (A t) (V t) M := by
  obtain ⟨-, -, ⟨-, -, h, -⟩ | ⟨rfl, -, h, -⟩⟩ := h
  · exact Or.inl h
  · exact Or.inr ⟨hX.2.2.2.2.2.1, h⟩
theorem q_sn {c x : Int32} (hc : x_sn c = true) (hx : x_sn x = false) : ¬ x = c := fun q => by rw [q, hc] at hx; exact absurd hx (by decide)
theorem q_snq : ∀ q, q < 33 → x_sn (nI (200 + q)) = false := by decide +kernel
theorem q_snm : ∀ c : Int32, x_sn c = true → c ≠ 300 ∧ c ≠ 301 := fun c h => ⟨fun q => by rw [q] at h; exact absurd h (by decide), fun q => by rw [q] at h; exact absurd h (by decide)⟩
/-- a sign of one byte -/
theorem q_sign {a v c : Int32} (h : q_tk a v M) (hc : x_sn c = true) : a = c ↔ M 4 = 6 ∧ M 5 = c := by
  rcases h with (⟨rfl, b, -⟩ | ⟨rfl, b⟩ | ⟨q, hq, rfl, b, -⟩ | ⟨q, -, hq, rfl, b, -⟩ | ⟨w, -, rfl, -, b, -⟩ | ⟨w, -, rfl, -, b, -⟩ | ⟨rfl, b, d⟩ | ⟨rfl, b, d⟩ | ⟨e, b, d⟩) | ⟨rfl, b⟩
  · exact ⟨fun z => absurd z (q_sn hc (by decide)), fun z => absurd (b.symm.trans z.1) (by decide)⟩
  · exact ⟨fun z => absurd z (q_sn hc (by decide)), fun z => absurd (b.symm.trans z.1) (by decide)⟩
  · exact ⟨fun z => absurd z (q_sn hc (q_snq q (by omega))), fun z => absurd (b.symm.trans z.1) (by decide)⟩
  · exact ⟨fun z => absurd z (q_sn hc (q_snq q (by omega))), fun z => absurd (b.symm.trans z.1) (by decide)⟩
  · exact ⟨fun z => absurd z (q_sn hc (by decide)), fun z => absurd (b.symm.trans z.1) (by decide)⟩
  · exact ⟨fun z => absurd z (q_sn hc (by decide)), fun z => absurd (b.symm.trans z.1) (by decide)⟩
  · exact ⟨fun z => absurd z (q_sn hc (by decide)), fun z => absurd (z.2.symm.trans d) (q_snm c hc).1⟩
  · exact ⟨fun z => absurd z (q_sn hc (by decide)), fun z => absurd (z.2.symm.trans d) (q_snm c hc).2⟩
  · exact ⟨fun z => ⟨b, by rw [d]; exact z⟩, fun z => d.symm.trans z.2⟩
  · exact ⟨fun z => absurd z (q_sn hc (by decide)), fun z => absurd (b.symm.trans z.1) (by decide)⟩
/-- one of the other tokens: its class's number, the reference's kind -/
theorem q_one {a v x y : Int32} (h : q_tk a v M) (hxy : (x = 130 ∧ y = 1) ∨ (x = 131 ∧ y = 2) ∨ (x = 132 ∧ y = 3) ∨ (x = 135 ∧ y = 0) ∨ (x = 136 ∧ y = 7)) : a = x ↔ M 4 = y := by
  have hq : ∀ q, q < 33 → ¬ nI (200 + q) = 130 ∧ ¬ nI (200 + q) = 131 ∧ ¬ nI (200 + q) = 132 ∧ ¬ nI (200 + q) = 135 ∧ ¬ nI (200 + q) = 136 := by decide +kernel
  rcases h with (⟨rfl, b, -⟩ | ⟨rfl, b⟩ | ⟨q, hq1, rfl, b, -⟩ | ⟨q, -, hq1, rfl, b, -⟩ | ⟨w, -, rfl, -, b, -⟩ | ⟨w, -, rfl, -, b, -⟩ | ⟨rfl, b, d⟩ | ⟨rfl, b, d⟩ | ⟨e, b, d⟩) | ⟨rfl, b⟩
  · rw [b]; rcases hxy with ⟨rfl, rfl⟩ | ⟨rfl, rfl⟩ | ⟨rfl, rfl⟩ | ⟨rfl, rfl⟩ | ⟨rfl, rfl⟩ <;> decide
  · rw [b]; rcases hxy with ⟨rfl, rfl⟩ | ⟨rfl, rfl⟩ | ⟨rfl, rfl⟩ | ⟨rfl, rfl⟩ | ⟨rfl, rfl⟩ <;> decide
  · obtain ⟨q1, q2, q3, q4, q5⟩ := hq q (by omega)
    rw [b]; rcases hxy with ⟨rfl, rfl⟩ | ⟨rfl, rfl⟩ | ⟨rfl, rfl⟩ | ⟨rfl, rfl⟩ | ⟨rfl, rfl⟩
    · exact ⟨fun z => absurd z q1, fun z => absurd z (by decide)⟩
    · exact ⟨fun z => absurd z q2, fun z => absurd z (by decide)⟩
    · exact ⟨fun z => absurd z q3, fun z => absurd z (by decide)⟩
    · exact ⟨fun z => absurd z q4, fun z => absurd z (by decide)⟩
    · exact ⟨fun z => absurd z q5, fun z => absurd z (by decide)⟩
  · obtain ⟨q1, q2, q3, q4, q5⟩ := hq q (by omega)
    rw [b]; rcases hxy with ⟨rfl, rfl⟩ | ⟨rfl, rfl⟩ | ⟨rfl, rfl⟩ | ⟨rfl, rfl⟩ | ⟨rfl, rfl⟩
    · exact ⟨fun z => absurd z q1, fun z => absurd z (by decide)⟩
    · exact ⟨fun z => absurd z q2, fun z => absurd z (by decide)⟩
    · exact ⟨fun z => absurd z q3, fun z => absurd z (by decide)⟩
    · exact ⟨fun z => absurd z q4, fun z => absurd z (by decide)⟩
    · exact ⟨fun z => absurd z q5, fun z => absurd z (by decide)⟩
  · rw [b]; rcases hxy with ⟨rfl, rfl⟩ | ⟨rfl, rfl⟩ | ⟨rfl, rfl⟩ | ⟨rfl, rfl⟩ | ⟨rfl, rfl⟩ <;> decide
  · rw [b]; rcases hxy with ⟨rfl, rfl⟩ | ⟨rfl, rfl⟩ | ⟨rfl, rfl⟩ | ⟨rfl, rfl⟩ | ⟨rfl, rfl⟩ <;> decide
  · rw [b]; rcases hxy with ⟨rfl, rfl⟩ | ⟨rfl, rfl⟩ | ⟨rfl, rfl⟩ | ⟨rfl, rfl⟩ | ⟨rfl, rfl⟩ <;> decide
  · rw [b]; rcases hxy with ⟨rfl, rfl⟩ | ⟨rfl, rfl⟩ | ⟨rfl, rfl⟩ | ⟨rfl, rfl⟩ | ⟨rfl, rfl⟩ <;> decide
  · have hs : ∀ x : Int32, x_sn x = false → ¬ a = x := fun x hx z => by rw [z, hx] at e; exact absurd e (by decide)
    rw [b]; rcases hxy with ⟨rfl, rfl⟩ | ⟨rfl, rfl⟩ | ⟨rfl, rfl⟩ | ⟨rfl, rfl⟩ | ⟨rfl, rfl⟩
    · exact ⟨fun z => absurd z (hs _ (by decide)), fun z => absurd z (by decide)⟩
    · exact ⟨fun z => absurd z (hs _ (by decide)), fun z => absurd z (by decide)⟩
    · exact ⟨fun z => absurd z (hs _ (by decide)), fun z => absurd z (by decide)⟩
    · exact ⟨fun z => absurd z (hs _ (by decide)), fun z => absurd z (by decide)⟩
    · exact ⟨fun z => absurd z (hs _ (by decide)), fun z => absurd z (by decide)⟩
  · rw [b]; rcases hxy with ⟨rfl, rfl⟩ | ⟨rfl, rfl⟩ | ⟨rfl, rfl⟩ | ⟨rfl, rfl⟩ | ⟨rfl, rfl⟩ <;> decide
/-- a quoted word (not a kind) -/
theorem q_word {a v : Int32} (h : q_tk a v M) {p : Nat} (hp : p < 26) : a = nI (200 + p) ↔ M 4 = 4 ∧ M 5 = nI p := by
  have hq : ∀ q, q < 33 → ¬ nI (200 + q) = 130 ∧ ¬ nI (200 + q) = 131 ∧ ¬ nI (200 + q) = 132 ∧ ¬ nI (200 + q) = 135 ∧ ¬ nI (200 + q) = 136 ∧ ¬ nI (200 + q) = 133 ∧ ¬ nI (200 + q) = 134 := by decide +kernel
  obtain ⟨q1, q2, q3, q4, q5, q6, q7⟩ := hq p (by omega)
  rcases h with (⟨rfl, b, -⟩ | ⟨rfl, b⟩ | ⟨q, hq1, rfl, b, d⟩ | ⟨q, g, hq1, rfl, b, d⟩ | ⟨w, -, rfl, -, b, -⟩ | ⟨w, -, rfl, -, b, -⟩ | ⟨rfl, b, d⟩ | ⟨rfl, b, d⟩ | ⟨e, b, d⟩) | ⟨rfl, b⟩
  · exact ⟨fun z => absurd z.symm q3, fun z => absurd (b.symm.trans z.1) (by decide)⟩
  · exact ⟨fun z => absurd z.symm q5, fun z => absurd (b.symm.trans z.1) (by decide)⟩
  · rw [d]
    constructor
    · intro z
      have : q = p := by
        have := congrArg Int32.toInt z
        rw [fs_nI (by omega), fs_nI (by omega)] at this; omega
      rw [this]; exact ⟨b, rfl⟩
    · intro z
      have : q = p := by
        have := congrArg Int32.toInt z.2
        rw [fs_nI (by omega), fs_nI (by omega)] at this; omega
      rw [this]
  · constructor
    · intro z
      have := congrArg Int32.toInt z
      rw [fs_nI (by omega), fs_nI (by omega)] at this; omega
    · intro z; exact absurd (b.symm.trans z.1) (by decide)
  · exact ⟨fun z => absurd z.symm q1, fun z => absurd (b.symm.trans z.1) (by decide)⟩
  · exact ⟨fun z => absurd z.symm q2, fun z => absurd (b.symm.trans z.1) (by decide)⟩
  · exact ⟨fun z => absurd z.symm q6, fun z => absurd (b.symm.trans z.1) (by decide)⟩
  · exact ⟨fun z => absurd z.symm q7, fun z => absurd (b.symm.trans z.1) (by decide)⟩
  · exact ⟨fun z => absurd (q_snq p (by omega)) (by rw [← z, e]; decide), fun z => absurd (b.symm.trans z.1) (by decide)⟩
  · exact ⟨fun z => absurd z.symm q4, fun z => absurd (b.symm.trans z.1) (by decide)⟩
end PR2
