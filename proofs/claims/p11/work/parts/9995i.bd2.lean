section BD2
variable {N : Nat → Nat} {s : f_S3} {O : Nat × Nat} {WF : Int32 → f_S3 → (Nat × Nat) → (f_S3 → Nat × Nat → Prop) → Prop}
theorem bd_no (h : bd N s) {c : Int32} (hc : c ≠ 137) : ¬ s.1 12 = c := fun q => hc (q.symm.trans h.1)
theorem bd_told (h : bd N s) {Q : Int32 → f_S3 → Nat × Nat → Prop} (hQ : ∀ r s', bd N s' → Q r s' O) : wF_X7_toldProperty N s O Q := by
  refine ⟨fun q => absurd q (bd_no h (by decide)), fun q => absurd q (bd_no h (by decide)), fun q => absurd q (bd_no h (by decide)), fun q => absurd q (bd_no h (by decide)), fun q => absurd q (bd_no h (by decide)), fun _ _ _ _ _ => ⟨fun q => absurd rfl q, fun _ => bd_fail h (fun s' h' => hQ _ s' h')⟩⟩
end BD2
