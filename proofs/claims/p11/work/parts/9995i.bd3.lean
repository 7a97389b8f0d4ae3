section BD3
variable {N : Nat → Nat} {s : f_S3} {O : Nat × Nat} {WF WB : Int32 → f_S3 → (Nat × Nat) → (f_S3 → Nat × Nat → Prop) → Prop}
theorem bd_factor (hN : bd_N N) (h : bd N s) {d : Int32} {Q : f_S3 → Nat × Nat → Prop} (hQ : ∀ s', bd N s' → Q s' O) : wF_X7_factor N WF d s O Q := by
  refine ⟨fun q => absurd q (bd_no h (by decide)), fun q => absurd q (bd_no h (by decide)), fun q => absurd q (bd_no h (by decide)), fun q => absurd q (bd_no h (by decide)), fun q => absurd q (bd_no h (by decide)), fun _ _ _ _ _ => ?_⟩
  exact bd_told h (fun _ _ h1 => bd_object h1 (fun _ _ h2 => bd_emit3 hN h2 (fun s3 h3 => hQ s3 h3)))
theorem bd_block (h : bd N s) {d : Int32} {Q : f_S3 → Nat × Nat → Prop} (hQ : ∀ s', bd N s' → Q s' O) : wF_X7_block N WF WB d s O Q := by
  refine bd_open h (by decide) (fun s1 h1 => ⟨1, ?_⟩)
  have g : wF_X7_block_48 N WF WB Q s1 O := bd_take h1 (by decide) (fun s2 h2 => hQ s2 h2)
  exact ⟨fun _ => g, fun _ => ⟨fun _ => g, fun _ => ⟨fun _ => g, fun q => absurd h1.1 q⟩⟩⟩
theorem bd_params (h : bd N s) {Q : Int32 → f_S3 → Nat × Nat → Prop} (hQ : ∀ r s', bd N s' → Q r s' O) : wF_X7_parameters N s O Q := ⟨fun _ => ⟨1, fun _ => hQ _ s h, fun _ => ⟨fun _ => hQ _ s h, fun q => absurd h.1 q⟩⟩, fun q => absurd q (bd_no h (by decide))⟩
end BD3
