section BD2
variable {N : Nat → Nat} {s : f_S3} {O : Nat × Nat} {WF : Int32 → f_S3 → (Nat × Nat) → (f_S3 → Nat × Nat → Prop) → Prop}
def bd_W (N : Nat → Nat) (O : Nat × Nat) (WF : Int32 → f_S3 → (Nat × Nat) → (f_S3 → Nat × Nat → Prop) → Prop) : Prop := ∀ (d : Int32) (s : f_S3) (Q : f_S3 → Nat × Nat → Prop), bd N s → (∀ s', bd N s' → Q s' O) → WF d s O Q
theorem bd_no (h : bd N s) {c : Int32} (hc : c ≠ 137) : ¬ s.1 12 = c := fun q => hc (q.symm.trans h.1)
theorem bd_isKind {c : Int32} {Q : Int32 → f_S3 → Nat × Nat → Prop} (hQ : ∀ r, Q r s O) : wF_X9_isKind N c s O Q := ⟨fun _ => hQ _, fun _ => ⟨fun _ => hQ _, fun _ => hQ _⟩⟩
theorem bd_kind (h : bd N s) {Q : Int32 → f_S3 → Nat × Nat → Prop} (hQ : ∀ r s', bd N s' → Q r s' O) : wF_X7_kind N s O Q := bd_isKind (fun _ => ⟨fun _ => bd_fail h (fun s' h' => hQ _ s' h'), fun _ => bd_adv h (fun s' h' => hQ _ s' h')⟩)
theorem bd_question (h : bd N s) {Q : Int32 → f_S3 → Nat × Nat → Prop} (hQ : ∀ r s', bd N s' → Q r s' O) : wF_X7_question N s O Q := by
  have g : ∀ t : Int32, wF_X7_question_17 N Q t s O := fun t => ⟨fun q => absurd q (bd_no h (by decide)), fun _ => ⟨fun _ => bd_fail h (fun s' h' => hQ _ s' h'), fun q => absurd q (bd_no h (by decide))⟩⟩
  exact ⟨fun _ => g _, fun _ => g _⟩
theorem bd_told (h : bd N s) {Q : Int32 → f_S3 → Nat × Nat → Prop} (hQ : ∀ r s', bd N s' → Q r s' O) : wF_X7_toldProperty N s O Q := by
  refine ⟨fun q => absurd q (bd_no h (by decide)), fun q => absurd q (bd_no h (by decide)), fun q => absurd q (bd_no h (by decide)), fun q => absurd q (bd_no h (by decide)), fun q => absurd q (bd_no h (by decide)), fun _ _ _ _ _ => ⟨fun q => absurd rfl q, fun _ => bd_fail h (fun s' h' => hQ _ s' h')⟩⟩
theorem bd_prod (h : bd N s) {d : Int32} {Q : f_S3 → Nat × Nat → Prop} (hQ : ∀ s', bd N s' → Q s' O) : wF_X7_restOfProduct N WF d s O Q := ⟨1, fun _ => hQ s h, fun _ => ⟨fun q => absurd q (bd_no h (by decide)), fun _ => ⟨fun q => absurd q (bd_no h (by decide)), fun _ => ⟨fun _ => hQ s h, fun q => absurd q (bd_no h (by decide))⟩⟩⟩⟩
theorem bd_sum (h : bd N s) {d : Int32} {Q : f_S3 → Nat × Nat → Prop} (hQ : ∀ s', bd N s' → Q s' O) : wF_X7_restOfSum N WF d s O Q := ⟨1, fun _ => hQ s h, fun _ => ⟨fun q => absurd q (bd_no h (by decide)), fun _ => ⟨fun _ => hQ s h, fun q => absurd q (bd_no h (by decide))⟩⟩⟩
theorem bd_restE (h : bd N s) {d : Int32} {Q : f_S3 → Nat × Nat → Prop} (hQ : ∀ s', bd N s' → Q s' O) : wF_X7_restOfExpression N WF d s O Q := by
  refine bd_prod h (fun s1 h1 => bd_sum h1 (fun s2 h2 => ?_))
  have g : ∀ t : Int32, wF_X7_restOfExpression_41 N WF Q d t s2 O := fun t => ⟨fun q => absurd q (bd_no h2 (by decide)), fun _ => ⟨fun q => absurd q (bd_no h2 (by decide)), fun _ => ⟨fun _ => hQ s2 h2, fun q => absurd q (bd_no h2 (by decide))⟩⟩⟩
  exact ⟨fun _ => ⟨fun _ => g _, fun _ => g _⟩, fun _ => g _⟩
theorem bd_expr (hW : bd_W N O WF) (h : bd N s) {d : Int32} {Q : f_S3 → Nat × Nat → Prop} (hQ : ∀ s', bd N s' → Q s' O) : wF_X7_expression N WF d s O Q := hW _ _ _ h (fun _ h1 => bd_restE h1 (fun s2 h2 => hQ s2 h2))
end BD2
