/-! BOTH PARSERS TOGETHER: factors. -/
section XJ3
variable {E : x_E} {x y : x_X}
theorem re_m4 (hE : E_ok E) {k : x_B} {M : Nat → Int32} {F : Nat → Nat → Int32} (h : rxx E k M F x) (hb : x.1 = false) : (X_ty E x = 132 ↔ M 4 = 3) ∧ (X_ty E x = 130 ↔ M 4 = 1) ∧ (X_ty E x = 131 ↔ M 4 = 2) ∧ (X_ip (X_ty E x) ↔ M 4 = 4 ∧ ¬ M 5 < 19 ∧ ¬ 23 < M 5) := by
  have hq := rx_tk hE h hb
  rw [X_tyg hb]
  refine ⟨q_one hq (Or.inr (Or.inr (Or.inl ⟨rfl, rfl⟩))), q_one hq (Or.inl ⟨rfl, rfl⟩), q_one hq (Or.inr (Or.inl ⟨rfl, rfl⟩)), fun z => ?_, fun z => ?_⟩
  · have go : ∀ p : Nat, 19 ≤ p → p ≤ 23 → E_A E (X_t x) = nI (200 + p) → M 4 = 4 ∧ ¬ M 5 < 19 ∧ ¬ 23 < M 5 := by
      intro p p1 p2 e
      obtain ⟨a, b⟩ := (q_word hq (show p < 26 by omega)).mp e
      refine ⟨a, ?_⟩
      rw [b, Int32.lt_iff_toInt_lt, Int32.lt_iff_toInt_lt, fs_nI (by omega), show (19 : Int32).toInt = 19 by decide, show (23 : Int32).toInt = 23 by decide]
      omega
    rcases z with z | z | z | z | z
    · exact go 19 (by omega) (by omega) (z.trans (by decide))
    · exact go 20 (by omega) (by omega) (z.trans (by decide))
    · exact go 21 (by omega) (by omega) (z.trans (by decide))
    · exact go 22 (by omega) (by omega) (z.trans (by decide))
    · exact go 23 (by omega) (by omega) (z.trans (by decide))
  · obtain ⟨a, b, c⟩ := z
    have b := ti_nlt b
    have c := ti_nlt c
    rw [show (19 : Int32).toInt = 19 by decide] at b
    rw [show (23 : Int32).toInt = 23 by decide] at c
    have go : ∀ p : Nat, p < 26 → (M 5).toInt = p → E_A E (X_t x) = nI (200 + p) := fun p hp e => (q_word hq hp).mpr ⟨a, Int32.toInt_inj.mp (by rw [e, fs_nI (by omega)])⟩
    have cs : (M 5).toInt = (19 : Nat) ∨ (M 5).toInt = (20 : Nat) ∨ (M 5).toInt = (21 : Nat) ∨ (M 5).toInt = (22 : Nat) ∨ (M 5).toInt = (23 : Nat) := by omega
    rcases cs with q | q | q | q | q
    · exact Or.inl ((go 19 (by omega) q).trans (by decide))
    · exact Or.inr (Or.inl ((go 20 (by omega) q).trans (by decide)))
    · exact Or.inr (Or.inr (Or.inl ((go 21 (by omega) q).trans (by decide))))
    · exact Or.inr (Or.inr (Or.inr (Or.inl ((go 22 (by omega) q).trans (by decide)))))
    · exact Or.inr (Or.inr (Or.inr (Or.inr ((go 23 (by omega) q).trans (by decide)))))
end XJ3
