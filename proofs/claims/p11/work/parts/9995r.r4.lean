/-! THE REFERENCE'S SMALL READING METHODS LEAVE CODES AND SLOTS ALONE. -/
section HRM
def hfi (A : Nat → Int32) (T : Nat → Nat → Int32) (M : Nat → Int32) (F : Nat → Nat → Int32) : Prop := (M 29 = A 29 ∧ M 31 = A 31 ∧ M 32 = A 32) ∧ ∀ r, (r = 10 ∨ (13 ≤ r ∧ r ≤ 42 ∧ r ≠ 19)) → F r = T r
theorem hi_um {A : Nat → Int32} {T : Nat → Nat → Int32} {M : Nat → Int32} {F : Nat → Nat → Int32} {k : Nat} {v : Int32} (h : hfi A T M F) (hk : k ≠ 29 ∧ k ≠ 31 ∧ k ≠ 32) : hfi A T (um M k v) F := ⟨⟨(um_ne (fun q => hk.1 q.symm)).trans h.1.1, (um_ne (fun q => hk.2.1 q.symm)).trans h.1.2.1, (um_ne (fun q => hk.2.2 q.symm)).trans h.1.2.2⟩, h.2⟩
theorem hi_uf {A : Nat → Int32} {T : Nat → Nat → Int32} {M : Nat → Int32} {F : Nat → Nat → Int32} {c : Nat} {i v : Int32} (h : hfi A T M F) (hc : ¬ (c = 10 ∨ (13 ≤ c ∧ c ≤ 42 ∧ c ≠ 19))) : hfi A T M (uf F c i v) := ⟨h.1, fun r hr => (uf_row (fun q => hc (by rw [← q]; exact hr))).trans (h.2 r hr)⟩
theorem hr_byteAt {A : Nat → Int32} {T : Nat → Nat → Int32} {p1 : Int32} {M : Nat → Int32} {F : Nat → Nat → Int32} {Q Q' : Int32 → (Nat → Int32) → (Nat → Nat → Int32) → Prop} (hi : hfi A T M F) (h : w_byteAt p1 M F Q) (hq : ∀ (r0 : Int32) (M' : Nat → Int32) (F' : Nat → Nat → Int32), hfi A T M' F' → Q r0 M' F' → Q' r0 M' F') : w_byteAt p1 M F Q' := by
  unfold w_byteAt at h ⊢
  exact ⟨fun c1 => hq _ _ _ hi (h.1 c1), fun c2 => ⟨(h.2 c2).1, hq _ _ _ hi (h.2 c2).2⟩⟩
theorem hr_isSmall {A : Nat → Int32} {T : Nat → Nat → Int32} {p0 : Int32} {M : Nat → Int32} {F : Nat → Nat → Int32} {Q Q' : Int32 → (Nat → Int32) → (Nat → Nat → Int32) → Prop} (hi : hfi A T M F) (h : w_isSmall p0 M F Q) (hq : ∀ (r0 : Int32) (M' : Nat → Int32) (F' : Nat → Nat → Int32), hfi A T M' F' → Q r0 M' F' → Q' r0 M' F') : w_isSmall p0 M F Q' := by
  unfold w_isSmall at h ⊢
  exact ⟨fun c1 => hq _ _ _ hi (h.1 c1), fun c2 => ⟨fun c3 => hq _ _ _ hi ((h.2 c2).1 c3), fun c4 => hq _ _ _ hi ((h.2 c2).2 c4)⟩⟩
theorem hr_isGreat {A : Nat → Int32} {T : Nat → Nat → Int32} {p0 : Int32} {M : Nat → Int32} {F : Nat → Nat → Int32} {Q Q' : Int32 → (Nat → Int32) → (Nat → Nat → Int32) → Prop} (hi : hfi A T M F) (h : w_isGreat p0 M F Q) (hq : ∀ (r0 : Int32) (M' : Nat → Int32) (F' : Nat → Nat → Int32), hfi A T M' F' → Q r0 M' F' → Q' r0 M' F') : w_isGreat p0 M F Q' := by
  unfold w_isGreat at h ⊢
  exact ⟨fun c1 => hq _ _ _ hi (h.1 c1), fun c2 => ⟨fun c3 => hq _ _ _ hi ((h.2 c2).1 c3), fun c4 => hq _ _ _ hi ((h.2 c2).2 c4)⟩⟩
theorem hr_isDigit {A : Nat → Int32} {T : Nat → Nat → Int32} {p0 : Int32} {M : Nat → Int32} {F : Nat → Nat → Int32} {Q Q' : Int32 → (Nat → Int32) → (Nat → Nat → Int32) → Prop} (hi : hfi A T M F) (h : w_isDigit p0 M F Q) (hq : ∀ (r0 : Int32) (M' : Nat → Int32) (F' : Nat → Nat → Int32), hfi A T M' F' → Q r0 M' F' → Q' r0 M' F') : w_isDigit p0 M F Q' := by
  unfold w_isDigit at h ⊢
  exact ⟨fun c1 => hq _ _ _ hi (h.1 c1), fun c2 => ⟨fun c3 => hq _ _ _ hi ((h.2 c2).1 c3), fun c4 => hq _ _ _ hi ((h.2 c2).2 c4)⟩⟩
theorem hr_isOfWord {A : Nat → Int32} {T : Nat → Nat → Int32} {p0 : Int32} {M : Nat → Int32} {F : Nat → Nat → Int32} {Q Q' : Int32 → (Nat → Int32) → (Nat → Nat → Int32) → Prop} (hi : hfi A T M F) (h : w_isOfWord p0 M F Q) (hq : ∀ (r0 : Int32) (M' : Nat → Int32) (F' : Nat → Nat → Int32), hfi A T M' F' → Q r0 M' F' → Q' r0 M' F') : w_isOfWord p0 M F Q' := by
  unfold w_isOfWord at h ⊢
  exact hr_isSmall  hi h (fun _ _ _ i1 a2 => ⟨fun c3 => hq _ _ _ i1 (a2.1 c3), fun c4 => hr_isGreat  i1 (a2.2 c4) (fun _ _ _ i5 a6 => ⟨fun c7 => hq _ _ _ i5 (a6.1 c7), fun c8 => hr_isDigit  i5 (a6.2 c8) (fun _ _ _ i9 a10 => ⟨fun c11 => hq _ _ _ i9 (a10.1 c11), fun c12 => hq _ _ _ i9 (a10.2 c12)⟩)⟩)⟩)
theorem hr_name_80 {A : Nat → Int32} {T : Nat → Nat → Int32} {K12 K12' : Int32 → Int32 → (Nat → Int32) → (Nat → Nat → Int32) → Prop} {Q Q' : Int32 → (Nat → Int32) → (Nat → Nat → Int32) → Prop} {a1 : Int32} {a2 : Int32} {M : Nat → Int32} {F : Nat → Nat → Int32} (hK12 : ∀ (q0 : Int32) (q1 : Int32) (M : Nat → Int32) (F : Nat → Nat → Int32), hfi A T M F → K12 q0 q1 M F → K12' q0 q1 M F) (hq : ∀ (r0 : Int32) (M' : Nat → Int32) (F' : Nat → Nat → Int32), hfi A T M' F' → Q r0 M' F' → Q' r0 M' F') (hi : hfi A T M F) (h : w_name_80 K12 Q a1 a2 M F) : w_name_80 K12' Q' a1 a2 M F := by
  unfold w_name_80 at h ⊢
  exact hK12 _ _ _ _ hi h
theorem hr_name_73 {A : Nat → Int32} {T : Nat → Nat → Int32} {K12 K12' : Int32 → Int32 → (Nat → Int32) → (Nat → Nat → Int32) → Prop} {Q Q' : Int32 → (Nat → Int32) → (Nat → Nat → Int32) → Prop} {a1 : Int32} {a2 : Int32} {a3 : Int32} {M : Nat → Int32} {F : Nat → Nat → Int32} (hK12 : ∀ (q0 : Int32) (q1 : Int32) (M : Nat → Int32) (F : Nat → Nat → Int32), hfi A T M F → K12 q0 q1 M F → K12' q0 q1 M F) (hq : ∀ (r0 : Int32) (M' : Nat → Int32) (F' : Nat → Nat → Int32), hfi A T M' F' → Q r0 M' F' → Q' r0 M' F') (hi : hfi A T M F) (h : w_name_73 K12 Q a1 a2 a3 M F) : w_name_73 K12' Q' a1 a2 a3 M F := by
  unfold w_name_73 at h ⊢
  exact ⟨fun c1 => hr_name_80  hK12 hq hi (h.1 c1), fun c2 => hq _ _ _ hi (h.2 c2)⟩
theorem hr_name_35 {A : Nat → Int32} {T : Nat → Nat → Int32} {K12 K12' : Int32 → Int32 → (Nat → Int32) → (Nat → Nat → Int32) → Prop} {Q Q' : Int32 → (Nat → Int32) → (Nat → Nat → Int32) → Prop} (hK12 : ∀ (q0 : Int32) (q1 : Int32) (M : Nat → Int32) (F : Nat → Nat → Int32), hfi A T M F → K12 q0 q1 M F → K12' q0 q1 M F) (hq : ∀ (r0 : Int32) (M' : Nat → Int32) (F' : Nat → Nat → Int32), hfi A T M' F' → Q r0 M' F' → Q' r0 M' F') : ∀ (n : Nat) (a1 : Int32) (a2 : Int32) (a3 : Int32) (M : Nat → Int32) (F : Nat → Nat → Int32), hfi A T M F → w_name_35 K12 Q n a1 a2 a3 M F → w_name_35 K12' Q' n a1 a2 a3 M F := by
  intro n
  induction n with
  | zero => intro _ _ _ _ _ _ h; exact absurd h (fun q => q)
  | succ n ih => intro a1 a2 a3 M F hi h; dsimp only [w_name_35] at h ⊢; exact ⟨fun c1 => hr_name_73  hK12 hq hi (h.1 c1), fun c2 => ⟨(h.2 c2).1, ⟨(h.2 c2).2.1, fun c3 => fun c4 => ⟨(((h.2 c2).2.2 c3) c4).1, ⟨fun c5 => hr_name_73  hK12 hq hi ((((h.2 c2).2.2 c3) c4).2.1 c5), fun c6 => ih _ _ _ _ _ hi ((((h.2 c2).2.2 c3) c4).2.2 c6)⟩⟩⟩⟩⟩
theorem hr_name_12 {A : Nat → Int32} {T : Nat → Nat → Int32} {Q Q' : Int32 → (Nat → Int32) → (Nat → Nat → Int32) → Prop} (hq : ∀ (r0 : Int32) (M' : Nat → Int32) (F' : Nat → Nat → Int32), hfi A T M' F' → Q r0 M' F' → Q' r0 M' F') : ∀ (n : Nat) (a1 : Int32) (a2 : Int32) (M : Nat → Int32) (F : Nat → Nat → Int32), hfi A T M F → w_name_12 Q n a1 a2 M F → w_name_12 Q' n a1 a2 M F := by
  intro n
  induction n with
  | zero => intro _ _ _ _ _ h; exact absurd h (fun q => q)
  | succ n ih => intro a1 a2 M F hi h; dsimp only [w_name_12] at h ⊢; exact ⟨fun c1 => ⟨(h.1 c1).1, ⟨(h.1 c1).2.1, ⟨(h.1 c1).2.2.1, ⟨(h.1 c1).2.2.2.1, hq _ _ _ (hi_uf (hi_uf (hi_uf (hi_uf (hi_um hi (by decide)) (by decide)) (by decide)) (by decide)) (by decide)) (h.1 c1).2.2.2.2⟩⟩⟩⟩, fun c2 => ⟨(h.2 c2).1, ⟨fun c3 => Exists.elim ((h.2 c2).2.1 c3) (fun e4 g5 => ⟨e4, hr_name_35  ih hq _ _ _ _ _ _ hi g5⟩), fun c6 => hr_name_80  ih hq hi ((h.2 c2).2.2 c6)⟩⟩⟩
theorem hr_name {A : Nat → Int32} {T : Nat → Nat → Int32} {M : Nat → Int32} {F : Nat → Nat → Int32} {Q Q' : Int32 → (Nat → Int32) → (Nat → Nat → Int32) → Prop} (hi : hfi A T M F) (h : w_name M F Q) (hq : ∀ (r0 : Int32) (M' : Nat → Int32) (F' : Nat → Nat → Int32), hfi A T M' F' → Q r0 M' F' → Q' r0 M' F') : w_name M F Q' := by
  unfold w_name at h ⊢
  exact Exists.elim h (fun e1 g2 => ⟨e1, hr_name_12  hq _ _ _ _ _ hi g2⟩)
theorem hr_bad {A : Nat → Int32} {T : Nat → Nat → Int32} {M : Nat → Int32} {F : Nat → Nat → Int32} {Q Q' : Int32 → (Nat → Int32) → (Nat → Nat → Int32) → Prop} (hi : hfi A T M F) (h : w_bad M F Q) (hq : ∀ (r0 : Int32) (M' : Nat → Int32) (F' : Nat → Nat → Int32), hfi A T M' F' → Q r0 M' F' → Q' r0 M' F') : w_bad M F Q' := by
  unfold w_bad at h ⊢
  exact ⟨fun c1 => hq _ _ _ hi (h.1 c1), fun c2 => hq _ _ _ hi (h.2 c2)⟩
theorem hr_fail {A : Nat → Int32} {T : Nat → Nat → Int32} {M : Nat → Int32} {F : Nat → Nat → Int32} {Q Q' : (Nat → Int32) → (Nat → Nat → Int32) → Prop} (hi : hfi A T M F) (h : w_fail M F Q) (hq : ∀ (M' : Nat → Int32) (F' : Nat → Nat → Int32), hfi A T M' F' → Q  M' F' → Q'  M' F') : w_fail M F Q' := by
  unfold w_fail at h ⊢
  exact ⟨fun c1 => hq _ _ hi (h.1 c1), fun c2 => hq _ _ (hi_um hi (by decide)) (h.2 c2)⟩
theorem hr_isSign {A : Nat → Int32} {T : Nat → Nat → Int32} {p1 : Int32} {M : Nat → Int32} {F : Nat → Nat → Int32} {Q Q' : Int32 → (Nat → Int32) → (Nat → Nat → Int32) → Prop} (hi : hfi A T M F) (h : w_isSign p1 M F Q) (hq : ∀ (r0 : Int32) (M' : Nat → Int32) (F' : Nat → Nat → Int32), hfi A T M' F' → Q r0 M' F' → Q' r0 M' F') : w_isSign p1 M F Q' := by
  unfold w_isSign at h ⊢
  exact hr_bad  hi h (fun _ _ _ i1 a2 => ⟨fun c3 => hq _ _ _ i1 (a2.1 c3), fun c4 => ⟨fun c5 => hq _ _ _ i1 ((a2.2 c4).1 c5), fun c6 => ⟨fun c7 => hq _ _ _ i1 (((a2.2 c4).2 c6).1 c7), fun c8 => hq _ _ _ i1 (((a2.2 c4).2 c6).2 c8)⟩⟩⟩)
theorem hr_isWord {A : Nat → Int32} {T : Nat → Nat → Int32} {p1 : Int32} {M : Nat → Int32} {F : Nat → Nat → Int32} {Q Q' : Int32 → (Nat → Int32) → (Nat → Nat → Int32) → Prop} (hi : hfi A T M F) (h : w_isWord p1 M F Q) (hq : ∀ (r0 : Int32) (M' : Nat → Int32) (F' : Nat → Nat → Int32), hfi A T M' F' → Q r0 M' F' → Q' r0 M' F') : w_isWord p1 M F Q' := by
  unfold w_isWord at h ⊢
  exact hr_bad  hi h (fun _ _ _ i1 a2 => ⟨fun c3 => hq _ _ _ i1 (a2.1 c3), fun c4 => ⟨fun c5 => hq _ _ _ i1 ((a2.2 c4).1 c5), fun c6 => ⟨fun c7 => hq _ _ _ i1 (((a2.2 c4).2 c6).1 c7), fun c8 => hq _ _ _ i1 (((a2.2 c4).2 c6).2 c8)⟩⟩⟩)
theorem hr_among_99 {A : Nat → Int32} {T : Nat → Nat → Int32} {K15 K15' : Nat → Int32 → Int32 → Int32 → (Nat → Int32) → (Nat → Nat → Int32) → Prop} {Q Q' : Int32 → (Nat → Int32) → (Nat → Nat → Int32) → Prop} (hK15 : ∀ (q0 : Nat) (q1 : Int32) (q2 : Int32) (q3 : Int32) (M : Nat → Int32) (F : Nat → Nat → Int32), hfi A T M F → K15 q0 q1 q2 q3 M F → K15' q0 q1 q2 q3 M F) (hq : ∀ (r0 : Int32) (M' : Nat → Int32) (F' : Nat → Nat → Int32), hfi A T M' F' → Q r0 M' F' → Q' r0 M' F') : ∀ (n : Nat) (a1 : Nat) (a2 : Int32) (a3 : Int32) (a4 : Int32) (M : Nat → Int32) (F : Nat → Nat → Int32), hfi A T M F → w_among_99 K15 Q n a1 a2 a3 a4 M F → w_among_99 K15' Q' n a1 a2 a3 a4 M F := by
  intro n
  induction n with
  | zero => intro _ _ _ _ _ _ _ h; exact absurd h (fun q => q)
  | succ n ih => intro a1 a2 a3 a4 M F hi h; dsimp only [w_among_99] at h ⊢; exact ⟨h.1, ⟨fun c1 => hK15 _ _ _ _ _ _ hi (h.2.1 c1), fun c2 => ih _ _ _ _ _ _ hi (h.2.2 c2)⟩⟩
theorem hr_among_77 {A : Nat → Int32} {T : Nat → Nat → Int32} {K15 K15' : Nat → Int32 → Int32 → Int32 → (Nat → Int32) → (Nat → Nat → Int32) → Prop} {Q Q' : Int32 → (Nat → Int32) → (Nat → Nat → Int32) → Prop} {a1 : Nat} {a2 : Int32} {a3 : Int32} {a4 : Int32} {a5 : Int32} {M : Nat → Int32} {F : Nat → Nat → Int32} (hK15 : ∀ (q0 : Nat) (q1 : Int32) (q2 : Int32) (q3 : Int32) (M : Nat → Int32) (F : Nat → Nat → Int32), hfi A T M F → K15 q0 q1 q2 q3 M F → K15' q0 q1 q2 q3 M F) (hq : ∀ (r0 : Int32) (M' : Nat → Int32) (F' : Nat → Nat → Int32), hfi A T M' F' → Q r0 M' F' → Q' r0 M' F') (hi : hfi A T M F) (h : w_among_77 K15 Q a1 a2 a3 a4 a5 M F) : w_among_77 K15' Q' a1 a2 a3 a4 a5 M F := by
  unfold w_among_77 at h ⊢
  exact ⟨fun c1 => Exists.elim (h.1 c1) (fun e2 g3 => ⟨e2, hr_among_99  hK15 hq _ _ _ _ _ _ _ hi g3⟩), fun c4 => ⟨(h.2 c4).1, ⟨fun c5 => Exists.elim ((h.2 c4).2.1 c5) (fun e6 g7 => ⟨e6, hr_among_99  hK15 hq _ _ _ _ _ _ _ hi g7⟩), fun c8 => hq _ _ _ hi ((h.2 c4).2.2 c8)⟩⟩⟩
theorem hr_among_27 {A : Nat → Int32} {T : Nat → Nat → Int32} {K15 K15' : Nat → Int32 → Int32 → Int32 → (Nat → Int32) → (Nat → Nat → Int32) → Prop} {Q Q' : Int32 → (Nat → Int32) → (Nat → Nat → Int32) → Prop} (hK15 : ∀ (q0 : Nat) (q1 : Int32) (q2 : Int32) (q3 : Int32) (M : Nat → Int32) (F : Nat → Nat → Int32), hfi A T M F → K15 q0 q1 q2 q3 M F → K15' q0 q1 q2 q3 M F) (hq : ∀ (r0 : Int32) (M' : Nat → Int32) (F' : Nat → Nat → Int32), hfi A T M' F' → Q r0 M' F' → Q' r0 M' F') : ∀ (n : Nat) (a1 : Nat) (a2 : Int32) (a3 : Int32) (a4 : Int32) (a5 : Int32) (M : Nat → Int32) (F : Nat → Nat → Int32), hfi A T M F → w_among_27 K15 Q n a1 a2 a3 a4 a5 M F → w_among_27 K15' Q' n a1 a2 a3 a4 a5 M F := by
  intro n
  induction n with
  | zero => intro _ _ _ _ _ _ _ _ h; exact absurd h (fun q => q)
  | succ n ih => intro a1 a2 a3 a4 a5 M F hi h; dsimp only [w_among_27] at h ⊢; exact ⟨fun c1 => hr_among_77  hK15 hq hi (h.1 c1), fun c2 => ⟨(h.2 c2).1, ⟨fun c3 => hr_among_77  hK15 hq hi ((h.2 c2).2.1 c3), fun c4 => ⟨((h.2 c2).2.2 c4).1, ⟨((h.2 c2).2.2 c4).2.1, ⟨fun c5 => hr_among_77  hK15 hq hi (((h.2 c2).2.2 c4).2.2.1 c5), fun c6 => ih _ _ _ _ _ _ _ hi (((h.2 c2).2.2 c4).2.2.2 c6)⟩⟩⟩⟩⟩⟩
theorem hr_among_15 {A : Nat → Int32} {T : Nat → Nat → Int32} {Q Q' : Int32 → (Nat → Int32) → (Nat → Nat → Int32) → Prop} (hq : ∀ (r0 : Int32) (M' : Nat → Int32) (F' : Nat → Nat → Int32), hfi A T M' F' → Q r0 M' F' → Q' r0 M' F') : ∀ (n : Nat) (a1 : Nat) (a2 : Int32) (a3 : Int32) (a4 : Int32) (M : Nat → Int32) (F : Nat → Nat → Int32), hfi A T M F → w_among_15 Q n a1 a2 a3 a4 M F → w_among_15 Q' n a1 a2 a3 a4 M F := by
  intro n
  induction n with
  | zero => intro _ _ _ _ _ _ _ h; exact absurd h (fun q => q)
  | succ n ih => intro a1 a2 a3 a4 M F hi h; dsimp only [w_among_15] at h ⊢; exact ⟨fun c1 => hq _ _ _ hi (h.1 c1), fun c2 => Exists.elim (h.2 c2) (fun e3 g4 => ⟨e3, hr_among_27  ih hq _ _ _ _ _ _ _ _ hi g4⟩)⟩
theorem hr_among {A : Nat → Int32} {T : Nat → Nat → Int32} {si : Nat} {M : Nat → Int32} {F : Nat → Nat → Int32} {Q Q' : Int32 → (Nat → Int32) → (Nat → Nat → Int32) → Prop} (hi : hfi A T M F) (h : w_among si M F Q) (hq : ∀ (r0 : Int32) (M' : Nat → Int32) (F' : Nat → Nat → Int32), hfi A T M' F' → Q r0 M' F' → Q' r0 M' F') : w_among si M F Q' := by
  unfold w_among at h ⊢
  exact Exists.elim h (fun e1 g2 => ⟨e1, hr_among_15  hq _ _ _ _ _ _ _ hi g2⟩)
theorem hr_wordToken_186 {A : Nat → Int32} {T : Nat → Nat → Int32} {Q Q' : (Nat → Int32) → (Nat → Nat → Int32) → Prop} {t1 : Int32} {M : Nat → Int32} {F : Nat → Nat → Int32} (hq : ∀ (M' : Nat → Int32) (F' : Nat → Nat → Int32), hfi A T M' F' → Q  M' F' → Q'  M' F') (hi : hfi A T M F) (h : w_wordToken_186 Q t1 M F) : w_wordToken_186 Q' t1 M F := by
  unfold w_wordToken_186 at h ⊢
  exact hq _ _ (hi_um hi (by decide)) h
theorem hr_wordToken_159 {A : Nat → Int32} {T : Nat → Nat → Int32} {Q Q' : (Nat → Int32) → (Nat → Nat → Int32) → Prop} {t2 : Nat} {M : Nat → Int32} {F : Nat → Nat → Int32} (hq : ∀ (M' : Nat → Int32) (F' : Nat → Nat → Int32), hfi A T M' F' → Q  M' F' → Q'  M' F') (hi : hfi A T M F) (h : w_wordToken_159 Q t2 M F) : w_wordToken_159 Q' t2 M F := by
  unfold w_wordToken_159 at h ⊢
  exact hr_among  hi h (fun _ _ _ i1 a2 => ⟨fun c3 => hr_name  (hi_um i1 (by decide)) (a2.1 c3) (fun _ _ _ i4 a5 => hq _ _ (hi_um i4 (by decide)) a5), fun c6 => ⟨fun c7 => hr_wordToken_186  hq (hi_um i1 (by decide)) ((a2.2 c6).1 c7), fun c8 => hr_wordToken_186  hq (hi_um i1 (by decide)) ((a2.2 c6).2 c8)⟩⟩)
theorem hr_wordToken_129 {A : Nat → Int32} {T : Nat → Nat → Int32} {Q Q' : (Nat → Int32) → (Nat → Nat → Int32) → Prop} {t1 : Int32} {M : Nat → Int32} {F : Nat → Nat → Int32} (hq : ∀ (M' : Nat → Int32) (F' : Nat → Nat → Int32), hfi A T M' F' → Q  M' F' → Q'  M' F') (hi : hfi A T M F) (h : w_wordToken_129 Q t1 M F) : w_wordToken_129 Q' t1 M F := by
  unfold w_wordToken_129 at h ⊢
  exact ⟨fun c1 => ⟨fun c2 => hr_wordToken_159  hq (hi_um hi (by decide)) ((h.1 c1).1 c2), fun c3 => hr_wordToken_159  hq (hi_um hi (by decide)) ((h.1 c1).2 c3)⟩, fun c4 => hq _ _ (hi_um hi (by decide)) (h.2 c4)⟩
theorem hr_wordToken_77 {A : Nat → Int32} {T : Nat → Nat → Int32} {K43 K43' : Int32 → (Nat → Int32) → (Nat → Nat → Int32) → Prop} {Q Q' : (Nat → Int32) → (Nat → Nat → Int32) → Prop} {a3 : Int32} {M : Nat → Int32} {F : Nat → Nat → Int32} (hK43 : ∀ (q0 : Int32) (M : Nat → Int32) (F : Nat → Nat → Int32), hfi A T M F → K43 q0 M F → K43' q0 M F) (hq : ∀ (M' : Nat → Int32) (F' : Nat → Nat → Int32), hfi A T M' F' → Q  M' F' → Q'  M' F') (hi : hfi A T M F) (h : w_wordToken_77 K43 Q a3 M F) : w_wordToken_77 K43' Q' a3 M F := by
  unfold w_wordToken_77 at h ⊢
  exact ⟨h.1, fun c1 => fun c2 => hK43 _ _ _ (hi_um hi (by decide)) ((h.2 c1) c2)⟩
theorem hr_wordToken_43 {A : Nat → Int32} {T : Nat → Nat → Int32} {Q Q' : (Nat → Int32) → (Nat → Nat → Int32) → Prop} (hq : ∀ (M' : Nat → Int32) (F' : Nat → Nat → Int32), hfi A T M' F' → Q  M' F' → Q'  M' F') : ∀ (n : Nat) (a3 : Int32) (M : Nat → Int32) (F : Nat → Nat → Int32), hfi A T M F → w_wordToken_43 Q n a3 M F → w_wordToken_43 Q' n a3 M F := by
  intro n
  induction n with
  | zero => intro _ _ _ _ h; exact absurd h (fun q => q)
  | succ n ih => intro a3 M F hi h; dsimp only [w_wordToken_43] at h ⊢; exact ⟨fun c1 => hq _ _ hi (h.1 c1), fun c2 => ⟨fun c3 => hq _ _ hi ((h.2 c2).1 c3), fun c4 => ⟨((h.2 c2).2 c4).1, hr_isDigit  hi ((h.2 c2).2 c4).2 (fun _ _ _ i5 a6 => ⟨fun c7 => hr_wordToken_77  ih hq i5 (a6.1 c7), fun c8 => hr_wordToken_77  ih hq (hi_um i5 (by decide)) (a6.2 c8)⟩)⟩⟩⟩
theorem hr_wordToken_30 {A : Nat → Int32} {T : Nat → Nat → Int32} {Q Q' : (Nat → Int32) → (Nat → Nat → Int32) → Prop} {t1 : Int32} {M : Nat → Int32} {F : Nat → Nat → Int32} (hq : ∀ (M' : Nat → Int32) (F' : Nat → Nat → Int32), hfi A T M' F' → Q  M' F' → Q'  M' F') (hi : hfi A T M F) (h : w_wordToken_30 Q t1 M F) : w_wordToken_30 Q' t1 M F := by
  unfold w_wordToken_30 at h ⊢
  exact Exists.elim h (fun e1 g2 => ⟨e1, hr_wordToken_43  hq _ _ _ _ (hi_um (hi_um hi (by decide)) (by decide)) g2⟩)
theorem hr_wordToken {A : Nat → Int32} {T : Nat → Nat → Int32} {p1 : Int32} {M : Nat → Int32} {F : Nat → Nat → Int32} {Q Q' : (Nat → Int32) → (Nat → Nat → Int32) → Prop} (hi : hfi A T M F) (h : w_wordToken p1 M F Q) (hq : ∀ (M' : Nat → Int32) (F' : Nat → Nat → Int32), hfi A T M' F' → Q  M' F' → Q'  M' F') : w_wordToken p1 M F Q' := by
  unfold w_wordToken at h ⊢
  exact hr_isDigit  hi h (fun _ _ _ i1 a2 => ⟨fun c3 => ⟨fun c4 => hr_isSmall  i1 ((a2.1 c3).1 c4) (fun _ _ _ i5 a6 => ⟨fun c7 => hr_wordToken_129  hq i5 (a6.1 c7), fun c8 => hr_wordToken_129  hq i5 (a6.2 c8)⟩), fun c9 => hr_wordToken_129  hq i1 ((a2.1 c3).2 c9)⟩, fun c10 => ⟨fun c11 => hr_wordToken_30  hq i1 ((a2.2 c10).1 c11), fun c12 => hr_wordToken_30  hq i1 ((a2.2 c10).2 c12)⟩⟩)
theorem hr_next_229 {A : Nat → Int32} {T : Nat → Nat → Int32} {Q Q' : (Nat → Int32) → (Nat → Nat → Int32) → Prop} {a2 : Int32} {M : Nat → Int32} {F : Nat → Nat → Int32} (hq : ∀ (M' : Nat → Int32) (F' : Nat → Nat → Int32), hfi A T M' F' → Q  M' F' → Q'  M' F') (hi : hfi A T M F) (h : w_next_229 Q a2 M F) : w_next_229 Q' a2 M F := by
  unfold w_next_229 at h ⊢
  exact ⟨fun c1 => hq _ _ hi (h.1 c1), fun c2 => ⟨fun c3 => hq _ _ hi ((h.2 c2).1 c3), fun c4 => ⟨fun c5 => hq _ _ hi (((h.2 c2).2 c4).1 c5), fun c6 => ⟨fun c7 => hq _ _ hi ((((h.2 c2).2 c4).2 c6).1 c7), fun c8 => ⟨fun c9 => hq _ _ hi (((((h.2 c2).2 c4).2 c6).2 c8).1 c9), fun c10 => ⟨fun c11 => hq _ _ hi ((((((h.2 c2).2 c4).2 c6).2 c8).2 c10).1 c11), fun c12 => ⟨fun c13 => hq _ _ hi (((((((h.2 c2).2 c4).2 c6).2 c8).2 c10).2 c12).1 c13), fun c14 => ⟨fun c15 => hq _ _ hi ((((((((h.2 c2).2 c4).2 c6).2 c8).2 c10).2 c12).2 c14).1 c15), fun c16 => ⟨fun c17 => hq _ _ hi (((((((((h.2 c2).2 c4).2 c6).2 c8).2 c10).2 c12).2 c14).2 c16).1 c17), fun c18 => ⟨fun c19 => hq _ _ hi ((((((((((h.2 c2).2 c4).2 c6).2 c8).2 c10).2 c12).2 c14).2 c16).2 c18).1 c19), fun c20 => ⟨fun c21 => hq _ _ hi (((((((((((h.2 c2).2 c4).2 c6).2 c8).2 c10).2 c12).2 c14).2 c16).2 c18).2 c20).1 c21), fun c22 => ⟨fun c23 => hq _ _ hi ((((((((((((h.2 c2).2 c4).2 c6).2 c8).2 c10).2 c12).2 c14).2 c16).2 c18).2 c20).2 c22).1 c23), fun c24 => ⟨fun c25 => hq _ _ hi (((((((((((((h.2 c2).2 c4).2 c6).2 c8).2 c10).2 c12).2 c14).2 c16).2 c18).2 c20).2 c22).2 c24).1 c25), fun c26 => hq _ _ (hi_um hi (by decide)) (((((((((((((h.2 c2).2 c4).2 c6).2 c8).2 c10).2 c12).2 c14).2 c16).2 c18).2 c20).2 c22).2 c24).2 c26)⟩⟩⟩⟩⟩⟩⟩⟩⟩⟩⟩⟩⟩
theorem hr_next_190 {A : Nat → Int32} {T : Nat → Nat → Int32} {Q Q' : (Nat → Int32) → (Nat → Nat → Int32) → Prop} {a2 : Int32} {M : Nat → Int32} {F : Nat → Nat → Int32} (hq : ∀ (M' : Nat → Int32) (F' : Nat → Nat → Int32), hfi A T M' F' → Q  M' F' → Q'  M' F') (hi : hfi A T M F) (h : w_next_190 Q a2 M F) : w_next_190 Q' a2 M F := by
  unfold w_next_190 at h ⊢
  exact ⟨fun c1 => hr_next_229  hq hi (h.1 c1), fun c2 => hr_byteAt  hi (h.2 c2) (fun _ _ _ i3 a4 => ⟨fun c5 => hr_next_229  hq i3 (a4.1 c5), fun c6 => hq _ _ (hi_um (hi_um i3 (by decide)) (by decide)) (a4.2 c6)⟩)⟩
theorem hr_next_107 {A : Nat → Int32} {T : Nat → Nat → Int32} {Q Q' : (Nat → Int32) → (Nat → Nat → Int32) → Prop} (hq : ∀ (M' : Nat → Int32) (F' : Nat → Nat → Int32), hfi A T M' F' → Q  M' F' → Q'  M' F') : ∀ (n : Nat) (a2 : Int32) (M : Nat → Int32) (F : Nat → Nat → Int32), hfi A T M F → w_next_107 Q n a2 M F → w_next_107 Q' n a2 M F := by
  intro n
  induction n with
  | zero => intro _ _ _ _ h; exact absurd h (fun q => q)
  | succ n ih => intro a2 M F hi h; dsimp only [w_next_107] at h ⊢; exact hr_byteAt  hi h (fun _ _ _ i1 a2 => hr_isOfWord  i1 a2 (fun _ _ _ i3 a4 => ⟨fun c5 => hr_wordToken  i3 (a4.1 c5) (fun _ _ i6 a7 => hq _ _ i6 a7), fun c8 => ih _ _ _ (hi_um i3 (by decide)) (a4.2 c8)⟩))
theorem hr_next_63 {A : Nat → Int32} {T : Nat → Nat → Int32} {Q Q' : (Nat → Int32) → (Nat → Nat → Int32) → Prop} {a1 : Int32} {M : Nat → Int32} {F : Nat → Nat → Int32} (hq : ∀ (M' : Nat → Int32) (F' : Nat → Nat → Int32), hfi A T M' F' → Q  M' F' → Q'  M' F') (hi : hfi A T M F) (h : w_next_63 Q a1 M F) : w_next_63 Q' a1 M F := by
  unfold w_next_63 at h ⊢
  exact hr_byteAt  (hi_um hi (by decide)) h (fun _ _ _ i1 a2 => ⟨fun c3 => hr_isOfWord  (hi_um i1 (by decide)) (a2.1 c3) (fun _ _ _ i4 a5 => ⟨fun c6 => ⟨fun c7 => hr_next_190  hq (hi_um (hi_um i4 (by decide)) (by decide)) ((a5.1 c6).1 c7), fun c8 => hr_byteAt  (hi_um (hi_um i4 (by decide)) (by decide)) ((a5.1 c6).2 c8) (fun _ _ _ i9 a10 => ⟨fun c11 => hr_next_190  hq i9 (a10.1 c11), fun c12 => hq _ _ (hi_um (hi_um i9 (by decide)) (by decide)) (a10.2 c12)⟩)⟩, fun c13 => Exists.elim (a5.2 c13) (fun e14 g15 => ⟨e14, hr_next_107  hq _ _ _ _ i4 g15⟩)⟩), fun c16 => hq _ _ (hi_um (hi_um (hi_um i1 (by decide)) (by decide)) (by decide)) (a2.2 c16)⟩)
theorem hr_next_57 {A : Nat → Int32} {T : Nat → Nat → Int32} {K5 K5' : Int32 → (Nat → Int32) → (Nat → Nat → Int32) → Prop} {Q Q' : (Nat → Int32) → (Nat → Nat → Int32) → Prop} {a1 : Int32} {M : Nat → Int32} {F : Nat → Nat → Int32} (hK5 : ∀ (q0 : Int32) (M : Nat → Int32) (F : Nat → Nat → Int32), hfi A T M F → K5 q0 M F → K5' q0 M F) (hq : ∀ (M' : Nat → Int32) (F' : Nat → Nat → Int32), hfi A T M' F' → Q  M' F' → Q'  M' F') (hi : hfi A T M F) (h : w_next_57 K5 Q a1 M F) : w_next_57 K5' Q' a1 M F := by
  unfold w_next_57 at h ⊢
  exact hK5 _ _ _ hi h
theorem hr_next_5 {A : Nat → Int32} {T : Nat → Nat → Int32} {Q Q' : (Nat → Int32) → (Nat → Nat → Int32) → Prop} (hq : ∀ (M' : Nat → Int32) (F' : Nat → Nat → Int32), hfi A T M' F' → Q  M' F' → Q'  M' F') : ∀ (n : Nat) (a1 : Int32) (M : Nat → Int32) (F : Nat → Nat → Int32), hfi A T M F → w_next_5 Q n a1 M F → w_next_5 Q' n a1 M F := by
  intro n
  induction n with
  | zero => intro _ _ _ _ h; exact absurd h (fun q => q)
  | succ n ih => intro a1 M F hi h; dsimp only [w_next_5] at h ⊢; exact ⟨fun c1 => hr_next_63  hq hi (h.1 c1), fun c2 => ⟨(h.2 c2).1, ⟨fun c3 => hr_next_57  ih hq hi ((h.2 c2).2.1 c3), fun c4 => ⟨((h.2 c2).2.2 c4).1, ⟨fun c5 => hr_next_57  ih hq hi (((h.2 c2).2.2 c4).2.1 c5), fun c6 => ⟨(((h.2 c2).2.2 c4).2.2 c6).1, ⟨fun c7 => hr_next_57  ih hq hi ((((h.2 c2).2.2 c4).2.2 c6).2.1 c7), fun c8 => ⟨((((h.2 c2).2.2 c4).2.2 c6).2.2 c8).1, ⟨fun c9 => hr_next_63  hq hi (((((h.2 c2).2.2 c4).2.2 c6).2.2 c8).2.1 c9), fun c10 => hr_next_57  ih hq hi (((((h.2 c2).2.2 c4).2.2 c6).2.2 c8).2.2 c10)⟩⟩⟩⟩⟩⟩⟩⟩⟩
theorem hr_next {A : Nat → Int32} {T : Nat → Nat → Int32} {M : Nat → Int32} {F : Nat → Nat → Int32} {Q Q' : (Nat → Int32) → (Nat → Nat → Int32) → Prop} (hi : hfi A T M F) (h : w_next M F Q) (hq : ∀ (M' : Nat → Int32) (F' : Nat → Nat → Int32), hfi A T M' F' → Q  M' F' → Q'  M' F') : w_next M F Q' := by
  unfold w_next at h ⊢
  exact Exists.elim h (fun e1 g2 => ⟨e1, hr_next_5  hq _ _ _ _ hi g2⟩)
theorem hr_pass {A : Nat → Int32} {T : Nat → Nat → Int32} {M : Nat → Int32} {F : Nat → Nat → Int32} {Q Q' : (Nat → Int32) → (Nat → Nat → Int32) → Prop} (hi : hfi A T M F) (h : w_pass M F Q) (hq : ∀ (M' : Nat → Int32) (F' : Nat → Nat → Int32), hfi A T M' F' → Q  M' F' → Q'  M' F') : w_pass M F Q' := by
  unfold w_pass at h ⊢
  exact hr_bad  hi h (fun _ _ _ i1 a2 => ⟨fun c3 => hq _ _ i1 (a2.1 c3), fun c4 => hr_next  i1 (a2.2 c4) (fun _ _ i5 a6 => hq _ _ i5 a6)⟩)
theorem hr_need {A : Nat → Int32} {T : Nat → Nat → Int32} {p1 : Int32} {M : Nat → Int32} {F : Nat → Nat → Int32} {Q Q' : (Nat → Int32) → (Nat → Nat → Int32) → Prop} (hi : hfi A T M F) (h : w_need p1 M F Q) (hq : ∀ (M' : Nat → Int32) (F' : Nat → Nat → Int32), hfi A T M' F' → Q  M' F' → Q'  M' F') : w_need p1 M F Q' := by
  unfold w_need at h ⊢
  exact hr_isSign  hi h (fun _ _ _ i1 a2 => ⟨fun c3 => hr_fail  i1 (a2.1 c3) (fun _ _ i4 a5 => hq _ _ i4 a5), fun c6 => hr_pass  i1 (a2.2 c6) (fun _ _ i7 a8 => hq _ _ i7 a8)⟩)
theorem hr_needWord {A : Nat → Int32} {T : Nat → Nat → Int32} {p1 : Int32} {M : Nat → Int32} {F : Nat → Nat → Int32} {Q Q' : (Nat → Int32) → (Nat → Nat → Int32) → Prop} (hi : hfi A T M F) (h : w_needWord p1 M F Q) (hq : ∀ (M' : Nat → Int32) (F' : Nat → Nat → Int32), hfi A T M' F' → Q  M' F' → Q'  M' F') : w_needWord p1 M F Q' := by
  unfold w_needWord at h ⊢
  exact hr_isWord  hi h (fun _ _ _ i1 a2 => ⟨fun c3 => hr_fail  i1 (a2.1 c3) (fun _ _ i4 a5 => hq _ _ i4 a5), fun c6 => hr_pass  i1 (a2.2 c6) (fun _ _ i7 a8 => hq _ _ i7 a8)⟩)
theorem hr_opens_21 {A : Nat → Int32} {T : Nat → Nat → Int32} {Q Q' : (Nat → Int32) → (Nat → Nat → Int32) → Prop} {M : Nat → Int32} {F : Nat → Nat → Int32} (hq : ∀ (M' : Nat → Int32) (F' : Nat → Nat → Int32), hfi A T M' F' → Q  M' F' → Q'  M' F') (hi : hfi A T M F) (h : w_opens_21 Q M F) : w_opens_21 Q' M F := by
  unfold w_opens_21 at h ⊢
  exact hr_pass  (hi_um hi (by decide)) h (fun _ _ i1 a2 => hq _ _ i1 a2)
theorem hr_opens_17 {A : Nat → Int32} {T : Nat → Nat → Int32} {Q Q' : (Nat → Int32) → (Nat → Nat → Int32) → Prop} {M : Nat → Int32} {F : Nat → Nat → Int32} (hq : ∀ (M' : Nat → Int32) (F' : Nat → Nat → Int32), hfi A T M' F' → Q  M' F' → Q'  M' F') (hi : hfi A T M F) (h : w_opens_17 Q M F) : w_opens_17 Q' M F := by
  unfold w_opens_17 at h ⊢
  exact hr_fail  hi h (fun _ _ i1 a2 => hr_opens_21  hq i1 a2)
theorem hr_opens {A : Nat → Int32} {T : Nat → Nat → Int32} {p1 : Int32} {M : Nat → Int32} {F : Nat → Nat → Int32} {Q Q' : (Nat → Int32) → (Nat → Nat → Int32) → Prop} (hi : hfi A T M F) (h : w_opens p1 M F Q) (hq : ∀ (M' : Nat → Int32) (F' : Nat → Nat → Int32), hfi A T M' F' → Q  M' F' → Q'  M' F') : w_opens p1 M F Q' := by
  unfold w_opens at h ⊢
  exact hr_isSign  hi h (fun _ _ _ i1 a2 => ⟨fun c3 => hr_opens_17  hq i1 (a2.1 c3), fun c4 => ⟨fun c5 => hr_opens_21  hq i1 ((a2.2 c4).1 c5), fun c6 => hr_opens_17  hq i1 ((a2.2 c4).2 c6)⟩⟩)
theorem hr_closes {A : Nat → Int32} {T : Nat → Nat → Int32} {p1 : Int32} {M : Nat → Int32} {F : Nat → Nat → Int32} {Q Q' : (Nat → Int32) → (Nat → Nat → Int32) → Prop} (hi : hfi A T M F) (h : w_closes p1 M F Q) (hq : ∀ (M' : Nat → Int32) (F' : Nat → Nat → Int32), hfi A T M' F' → Q  M' F' → Q'  M' F') : w_closes p1 M F Q' := by
  unfold w_closes at h ⊢
  exact hr_need  hi h (fun _ _ i1 a2 => hq _ _ (hi_um i1 (by decide)) a2)
theorem hr_taken_23 {A : Nat → Int32} {T : Nat → Nat → Int32} {Q Q' : Int32 → (Nat → Int32) → (Nat → Nat → Int32) → Prop} {M : Nat → Int32} {F : Nat → Nat → Int32} (hq : ∀ (r0 : Int32) (M' : Nat → Int32) (F' : Nat → Nat → Int32), hfi A T M' F' → Q r0 M' F' → Q' r0 M' F') (hi : hfi A T M F) (h : w_taken_23 Q M F) : w_taken_23 Q' M F := by
  unfold w_taken_23 at h ⊢
  exact hr_fail  hi h (fun _ _ i1 a2 => hq _ _ _ i1 a2)
theorem hr_taken {A : Nat → Int32} {T : Nat → Nat → Int32} {p1 : Int32} {M : Nat → Int32} {F : Nat → Nat → Int32} {Q Q' : Int32 → (Nat → Int32) → (Nat → Nat → Int32) → Prop} (hi : hfi A T M F) (h : w_taken p1 M F Q) (hq : ∀ (r0 : Int32) (M' : Nat → Int32) (F' : Nat → Nat → Int32), hfi A T M' F' → Q r0 M' F' → Q' r0 M' F') : w_taken p1 M F Q' := by
  unfold w_taken at h ⊢
  exact hr_bad  (hi_um hi (by decide)) h (fun _ _ _ i1 a2 => ⟨fun c3 => hr_taken_23  hq i1 (a2.1 c3), fun c4 => ⟨fun c5 => hr_pass  i1 ((a2.2 c4).1 c5) (fun _ _ i6 a7 => hq _ _ _ i6 a7), fun c8 => hr_taken_23  hq i1 ((a2.2 c4).2 c8)⟩⟩)
end HRM
