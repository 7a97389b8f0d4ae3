/-! THE CLASS'S READER WHEN IT HAS STOPPED: it stays so. -/
section BD1
variable {N : Nat → Nat} {s : f_S3} {O : Nat × Nat}
def bd (N : Nat → Nat) (s : f_S3) : Prop := s.1 12 = 137 ∧ ¬ s.2.1 28 1 = -1 ∧ (0 ≤ (s.1 63).toInt ∧ (s.1 63).toInt ≤ N 20) ∧ (0 ≤ (s.1 8).toInt ∧ 0 ≤ (s.1 64).toInt)
def bd_N (N : Nat → Nat) : Prop := N 28 = 5 ∧ N 20 < 1000000 ∧ N 24 = N 23 ∧ N 25 = N 23 ∧ N 23 < 1000000
theorem bd_fm {k : Nat} {v : Int32} (h : bd N s) (h1 : k ≠ 12) (h2 : k ≠ 63) (h3 : k ≠ 8) (h4 : k ≠ 64) : bd N (fm s k v) := by
  have e : ∀ j, j ≠ k → (fm s k v).1 j = s.1 j := fun j hj => (um_ne hj : um s.1 k v j = s.1 j)
  refine ⟨?_, h.2.1, ?_⟩
  · rw [e 12 (fun q => h1 q.symm)]; exact h.1
  · rw [e 63 (fun q => h2 q.symm), e 8 (fun q => h3 q.symm), e 64 (fun q => h4 q.symm)]; exact h.2.2
theorem bd_fm12 (h : bd N s) : bd N (fm s 12 137) := by
  have e : ∀ j, j ≠ 12 → (fm s 12 137).1 j = s.1 j := fun j hj => (um_ne hj : um s.1 12 137 j = s.1 j)
  refine ⟨(um_eq : um s.1 12 137 12 = 137), h.2.1, ?_⟩
  rw [e 63 (by decide), e 8 (by decide), e 64 (by decide)]; exact h.2.2
theorem bd_ff {c : Nat} {i v : Int32} (h : bd N s) (h1 : c ≠ 28) : bd N (ff s c i v) := by
  refine ⟨h.1, ?_, h.2.2⟩
  show ¬ uf s.2.1 c i v 28 1 = -1
  rw [uf_at2, if_neg (fun z => h1 z.1.symm)]; exact h.2.1
theorem bd_fail (h : bd N s) {Q : f_S3 → Nat × Nat → Prop} (hQ : ∀ s', bd N s' → Q s' O) : wF_X7_fail N s O Q := ⟨fun _ => hQ _ (bd_fm12 h), fun q => absurd h.1 q⟩
theorem bd_adv (h : bd N s) {Q : f_S3 → Nat × Nat → Prop} (hQ : ∀ s', bd N s' → Q s' O) : wF_X7_advance N s O Q := ⟨fun _ => hQ _ h, fun q => absurd h.1 q⟩
theorem bd_take (h : bd N s) {p : Int32} (hp : p ≠ 137) {Q : f_S3 → Nat × Nat → Prop} (hQ : ∀ s', bd N s' → Q s' O) : wF_X7_take N p s O Q := ⟨fun _ => bd_fail h hQ, fun q => absurd (q.symm.trans h.1) hp⟩
theorem bd_open (h : bd N s) {p d : Int32} (hp : p ≠ 137) {Q : f_S3 → Nat × Nat → Prop} (hQ : ∀ s', bd N s' → Q s' O) : wF_X7_takeOpening N p d s O Q := ⟨fun _ => bd_fail h hQ, fun q => absurd (q.symm.trans h.1) hp⟩
theorem bd_put (hN : bd_N N) (h : bd N s) {p : Int32} {Q : Int32 → f_S3 → Nat × Nat → Prop} (hQ : ∀ r s', bd N s' → Q r s' O) : wF_X6_put N p s O Q := by
  have a1 := fs_nI (n := N 20) (by have := hN.2.1; omega)
  have a2 := h.2.2.1
  have e1 : (1 : Int32).toInt = 1 := by decide
  refine ⟨fun _ => hQ _ _ h, fun q => ?_⟩
  have q := ti_nle q
  rw [a1] at q
  refine ⟨vp_in_iff.mpr ⟨a2.1, q⟩, hQ _ _ ?_⟩
  have h2 := bd_ff (c := 20) (i := s.1 63) (v := p) h (by decide)
  refine ⟨?_, h2.2.1, ?_, h.2.2.2⟩
  · show um s.1 63 (s.1 63 + 1) 12 = 137; rw [um_ne (by decide)]; exact h.1
  · have e : (fm (ff s 20 (s.1 63) p) 63 (s.1 63 + 1)).1 63 = s.1 63 + 1 := (um_eq : um s.1 63 (s.1 63 + 1) 63 = s.1 63 + 1)
    have := ti_addx (s.1 63) 1 (by have := hN.2.1; omega)
    rw [e]; omega
theorem bd_emit (hN : bd_N N) (h : bd N s) {p : Int32} {Q : f_S3 → Nat × Nat → Prop} (hQ : ∀ s', bd N s' → Q s' O) : wF_X7_emit N p s O Q := bd_put hN h (fun _ s' h' => hQ s' h')
theorem bd_emit2 (hN : bd_N N) (h : bd N s) {p q : Int32} {Q : f_S3 → Nat × Nat → Prop} (hQ : ∀ s', bd N s' → Q s' O) : wF_X7_emit_ N p q s O Q := bd_put hN h (fun _ _ h' => bd_put hN h' (fun _ s' h' => hQ s' h'))
theorem bd_emit3 (hN : bd_N N) (h : bd N s) {p q r : Int32} {Q : f_S3 → Nat × Nat → Prop} (hQ : ∀ s', bd N s' → Q s' O) : wF_X7_emit__ N p q r s O Q := bd_put hN h (fun _ _ h' => bd_put hN h' (fun _ _ h' => bd_put hN h' (fun _ s' h' => hQ s' h')))
theorem bd_change (hN : bd_N N) (h : bd N s) {p q : Int32} {Q : f_S3 → Nat × Nat → Prop} (hQ : ∀ s', bd N s' → Q s' O) : wF_X6_change N p q s O Q := by
  refine ⟨fun _ => hQ _ h, fun a => ⟨fun _ => hQ _ h, fun b => ⟨?_, hQ _ (bd_ff h (by decide))⟩⟩⟩
  have a := ti_nlt a
  have b := ti_nle b
  have e0 : (0 : Int32).toInt = 0 := by decide
  have a2 := h.2.2.1
  exact vp_in_iff.mpr (by omega)
theorem bd_putFault (hN : bd_N N) (h : bd N s) {k p : Int32} (hk : k ≠ 1) {Q : f_S3 → Nat × Nat → Prop} (hQ : ∀ s', bd N s' → Q s' O) : wF_X7_putFault N k p s O Q := by
  refine ⟨fun _ => hQ _ h, fun a => ⟨fun _ => hQ _ h, fun b => ?_⟩⟩
  have a := ti_nlt a
  have b := ti_nlt b
  have e1 : (1 : Int32).toInt = 1 := by decide
  have e4 : (4 : Int32).toInt = 4 := by decide
  have hv : vp_in k (N 28) := by rw [hN.1]; exact vp_in_iff.mpr (by omega)
  refine ⟨hv, fun _ => hQ _ h, fun _ => ⟨hv, hQ _ ⟨h.1, ?_, h.2.2⟩⟩⟩
  show ¬ uf s.2.1 28 k p 28 1 = -1
  have hk1 : k.toInt ≠ 1 := fun q => hk (Int32.toInt_inj.mp (by rw [q, e1]))
  have hcl : k.toNatClampNeg ≠ 1 := fun q => by
    have : k.toInt.toNat = 1 := q
    omega
  rw [uf_at2, if_neg (fun z => hcl z.2.symm)]; exact h.2.1
theorem bd_tell (hN : bd_N N) (h : bd N s) {p q : Int32} {Q : f_S3 → Nat × Nat → Prop} (hQ : ∀ s', bd N s' → Q s' O) : wF_X7_tell N p q s O Q := by
  refine ⟨fun _ => hQ _ h, fun a => ⟨fun _ => hQ _ h, fun b => ?_⟩⟩
  have a := ti_nlt a
  have b := ti_nle b
  rw [fs_nI (by have := hN.2.2.2.2; omega)] at b
  have e0 : (0 : Int32).toInt = 0 := by decide
  exact ⟨vp_in_iff.mpr (by omega), by rw [hN.2.2.1]; exact vp_in_iff.mpr (by omega), hQ _ (bd_ff (bd_ff h (by decide)) (by decide))⟩
theorem bd_newName (h : bd N s) {Q : Int32 → f_S3 → Nat × Nat → Prop} (hQ : ∀ r s', bd N s' → Q r s' O) : wF_X7_newName N s O Q := ⟨fun _ => hQ _ _ (bd_fm h (by decide) (by decide) (by decide) (by decide)), fun q => absurd (q.symm.trans h.1) (by decide)⟩
theorem bd_object (h : bd N s) {Q : Int32 → f_S3 → Nat × Nat → Prop} (hQ : ∀ r s', bd N s' → Q r s' O) : wF_X7_object N s O Q := ⟨fun q => absurd (q.symm.trans h.1) (by decide), fun _ => bd_fail h (fun s' h' => hQ _ s' h')⟩
end BD1
