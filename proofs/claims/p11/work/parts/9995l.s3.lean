/-! STATEMENTS without blocks. -/
section XS3
variable {E : x_E} {x y : x_X}
theorem E_l_le (hE : E_ok E) {t t' : Nat} (h : t ≤ t') (ht : t' ≤ E_m E) : E_l E t ≤ E_l E t' := by
  induction t' with
  | zero => have e : t = 0 := by omega
            rw [e]; exact Nat.le_refl _
  | succ t' ih =>
    by_cases q : t = t' + 1
    · rw [q]; exact Nat.le_refl _
    · have := ih (by omega) (by omega)
      have := (E_l_s hE (t := t') (by omega)).1
      omega
end XS3
