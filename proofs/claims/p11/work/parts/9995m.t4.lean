/-! HEARS FIND THEIR HEARINGS; THE FAULT THAT COUNTS. -/
section XT4
variable {E : x_E} {x : x_X}
def ok4 (x : x_X) (p : Nat × Int32) : Prop := ¬ X_v x p.1 = -1 ∧ X_r x (X_v x p.1).toNatClampNeg = p.2
def all4 (x : x_X) (i : Nat) : Prop := ∀ j, j < i → ok4 x ((X_l x).getD j (0, 0))
def is_a (x : x_X) (r : Int32) : Prop := (x.1 = true → r = 1) ∧ (x.1 = false → X_2 x = true → r = 2) ∧ (x.1 = false → X_2 x = false → X_3 x = true → r = 3) ∧ (x.1 = false → X_2 x = false → X_3 x = false → (all4 x (X_l x).length → r = 0) ∧ (¬ all4 x (X_l x).length → r = 4))
theorem is_a_u {r r' : Int32} (h : is_a x r) (h' : is_a x r') : r = r' := by
  obtain ⟨a1, a2, a3, a4⟩ := h
  obtain ⟨b1, b2, b3, b4⟩ := h'
  cases q1 : x.1 with
  | true => rw [a1 q1, b1 q1]
  | false =>
    cases q2 : X_2 x with
    | true => rw [a2 q1 q2, b2 q1 q2]
    | false =>
      cases q3 : X_3 x with
      | true => rw [a3 q1 q2 q3, b3 q1 q2 q3]
      | false =>
        by_cases q4 : all4 x (X_l x).length
        · rw [(a4 q1 q2 q3).1 q4, (b4 q1 q2 q3).1 q4]
        · rw [(a4 q1 q2 q3).2 q4, (b4 q1 q2 q3).2 q4]
/-- what the class's reader leaves -/
def c_fin (N : Nat → Nat) (s : f_S3) (x : x_X) : Prop := (0 ≤ (s.1 63).toInt ∧ (s.1 63).toInt ≤ N 20) ∧ (x.1 = true → ¬ s.2.1 28 1 = -1) ∧ (x.1 = false → s.2.1 28 1 = -1 ∧ (s.2.1 28 2 = -1 ↔ X_2 x = false) ∧ (X_2 x = false → (s.2.1 28 3 = -1 ↔ X_3 x = false)) ∧ (X_2 x = false → X_3 x = false → (s.2.1 28 4 = -1 ↔ all4 x (X_l x).length)))
theorem bw_pf {N : Nat → Nat} {s : f_S3} {O : Nat × Nat} (hN : bd_N N) (h : bw N s) {p : Int32} {Q : f_S3 → Nat × Nat → Prop} (hQ : ∀ s', bw N s' → Q s' O) : wF_X7_putFault N 4 p s O Q := by
  have hv : vp_in 4 (N 28) := by rw [hN.1]; exact vp_in_iff.mpr (by decide)
  refine ⟨fun q => absurd q (by decide), fun _ => ⟨fun q => absurd q (by decide), fun _ => ⟨hv, fun _ => hQ _ h, fun _ => ⟨hv, hQ _ ⟨h.1, ?_, h.2.2⟩⟩⟩⟩⟩
  show ¬ uf s.2.1 28 4 p 28 1 = -1
  rw [uf_at2, if_neg (fun z => absurd z.2 (by decide))]; exact h.2.1
theorem bw_ch {N : Nat → Nat} {s : f_S3} {O : Nat × Nat} (h : bw N s) {p v : Int32} {Q : f_S3 → Nat × Nat → Prop} (hQ : ∀ s', bw N s' → Q s' O) : wF_X6_change N p v s O Q := by
  refine ⟨fun _ => hQ _ h, fun a => ⟨fun _ => hQ _ h, fun b => ⟨?_, hQ _ ⟨h.1, ?_, h.2.2⟩⟩⟩⟩
  · have a := ti_nlt a
    have b := ti_nle b
    have e0 : (0 : Int32).toInt = 0 := by decide
    have a2 := h.2.2
    exact vp_in_iff.mpr (by omega)
  · show ¬ uf s.2.1 20 p v 28 1 = -1
    rw [uf_at2, if_neg (fun z => absurd z.1 (by decide))]; exact h.2.1
theorem bw_get {N : Nat → Nat} {s : f_S3} {O : Nat × Nat} (h : bw N s) {p : Int32} {Q : Int32 → f_S3 → Nat × Nat → Prop} (hQ : ∀ r, Q r s O) : wF_X6_get N p s O Q := by
  refine ⟨fun _ => hQ _, fun a => ⟨fun _ => hQ _, fun b => ⟨?_, hQ _⟩⟩⟩
  have a := ti_nlt a
  have b := ti_nle b
  have e0 : (0 : Int32).toInt = 0 := by decide
  have a2 := h.2.2
  exact vp_in_iff.mpr (by omega)
theorem bw_par {N : Nat → Nat} {s : f_S3} {O : Nat × Nat} (h22 : N 22 = 16) {p : Int32} {Q : Int32 → f_S3 → Nat × Nat → Prop} (hQ : ∀ r, Q r s O) : wF_X6_parametersOf N p s O Q := by
  refine ⟨fun _ => hQ _, fun a => ⟨fun _ => hQ _, fun b => ⟨?_, hQ _⟩⟩⟩
  have a := ti_nlt a
  have b := ti_nle b
  have e0 : (0 : Int32).toInt = 0 := by decide
  have e16 : (16 : Int32).toInt = 16 := by decide
  rw [h22]
  exact vp_in_iff.mpr (by omega)
theorem bw_find {N : Nat → Nat} {O : Nat × Nat} (hN : bd_N N) (h22 : N 22 = 16) (h26 : N 26 < 1000000) (h27 : N 27 = N 26) {Q : f_S3 → Nat × Nat → Prop} (hQ : ∀ s', bw N s' → Q s' O) : ∀ (f i : Nat) (s : f_S3), i + f = N 26 → bw N s → wF_X7_findHearings_2 N Q (f + 1) (nI i) s O := by
  intro f
  induction f with
  | zero =>
    intro i s hi h
    exact ⟨fun _ => hQ s h, fun _ => ⟨fun _ => hQ s h, fun q => absurd ((y_le (by omega) (by omega)).mpr (by omega)) q⟩⟩
  | succ f ih =>
    intro i s hi h
    have vi : vp_in (nI i) (N 26) := y_in (by omega) (by omega)
    have vj : vp_in (nI i) (N 27) := by rw [h27]; exact vi
    have go108 : ∀ (t0 : Int32) (s1 : f_S3), bw N s1 → wF_X7_findHearings_108 N (wF_X7_findHearings_2 N Q (f + 1)) Q (nI i) t0 s1 O := fun t0 s1 h1 => ⟨vi, bw_ch h1 (fun s2 h2 => by rw [y_1]; exact ih (i + 1) s2 (by omega) h2)⟩
    have go97 : ∀ (t0 : Int32), wF_X7_findHearings_97 N (wF_X7_findHearings_2 N Q (f + 1)) Q (nI i) t0 s O := fun t0 => ⟨vj, bw_pf hN h (fun s2 h2 => go108 t0 s2 h2)⟩
    have go65 : ∀ (t0 : Int32), wF_X7_findHearings_65 N (wF_X7_findHearings_2 N Q (f + 1)) Q (nI i) t0 s O := fun t0 => ⟨fun _ => go97 t0, fun _ => bw_par h22 (fun r8 => ⟨vi, bw_get h (fun r11 => ⟨fun _ => go108 t0 s h, fun _ => go97 t0⟩)⟩)⟩
    refine ⟨fun _ => hQ s h, fun _ => ⟨fun _ => hQ s h, fun _ => ⟨fun _ => hQ s h, fun _ => ⟨vi, bw_get h (fun r2 => ⟨fun _ => go65 (-1), fun a => ⟨fun _ => go65 (-1), fun b => ⟨?_, go65 _⟩⟩⟩)⟩⟩⟩⟩
    have a := ti_nlt a
    have b := ti_nle b
    have hn := hN.2.2.2.2
    rw [hN.2.2.2.1, fs_nI (by omega)] at b
    have e0 : (0 : Int32).toInt = 0 := by decide
    rw [hN.2.2.2.1]
    exact vp_in_iff.mpr (by omega)
/-- the class's hears: the first i looked at -/
def fI (x : x_X) (i : Nat) (s0 s : f_S3) : Prop := s.1 = s0.1 ∧ (∀ c, c ≠ 20 → c ≠ 28 → s.2.1 c = s0.2.1 c) ∧ (∀ j, j ≠ 4 → s.2.1 28 j = s0.2.1 28 j) ∧ (∀ j, i ≤ j → j < (X_l x).length → ∀ p, s0.2.1 26 j = nI p → p + 1 < X_z x → s.2.1 20 p = s0.2.1 20 p ∧ s.2.1 20 (p + 1) = s0.2.1 20 (p + 1)) ∧ (X_2 x = false → X_3 x = false → (s.2.1 28 4 = -1 ↔ all4 x i))
theorem all4_s {i : Nat} : all4 x (i + 1) ↔ all4 x i ∧ ok4 x ((X_l x).getD i (0, 0)) := by
  refine ⟨fun h => ⟨fun j hj => h j (by omega), h i (by omega)⟩, fun h j hj => ?_⟩
  by_cases q : j = i
  · rw [q]; exact h.2
  · exact h.1 j (by omega)
theorem c_fault {N : Nat → Nat} (hN : N 28 = 5) {s : f_S3} {O : Nat × Nat} (h : c_fin N s x) {Q : Int32 → f_S3 → Nat × Nat → Prop} (hQ : ∀ r, is_a x r → Q r s O) : wF_X7_faultFound N s O Q := by
  obtain ⟨-, hb, hg⟩ := h
  have v : ∀ j : Nat, j < 5 → vp_in (nI j) (N 28) := fun j hj => by rw [hN]; exact y_in hj (by decide)
  have e1 : (1 : Int32) = nI 1 := by decide
  have e2 : (1 : Int32) + 1 = 2 := by decide
  have e3 : (2 : Int32) + 1 = 3 := by decide
  have e4 : (3 : Int32) + 1 = 4 := by decide
  have e5 : (4 : Int32) + 1 = 5 := by decide
  have s5 : ((4 : Int32) < 5 → Q 0 s O) → wF_X7_faultFound_2 N Q 1 5 s O := fun z => ⟨fun _ => z (by decide), fun q => absurd (by decide) q⟩
  have s4 : (s.2.1 28 4 = -1 → Q 0 s O) → (¬ s.2.1 28 4 = -1 → Q 4 s O) → wF_X7_faultFound_2 N Q 2 4 s O := fun a b => ⟨fun q => absurd q (by decide), fun _ => ⟨v 4 (by decide), fun q => by rw [e5]; exact s5 (fun _ => a q), b⟩⟩
  have s3 : (s.2.1 28 3 = -1 → wF_X7_faultFound_2 N Q 2 4 s O) → (¬ s.2.1 28 3 = -1 → Q 3 s O) → wF_X7_faultFound_2 N Q 3 3 s O := fun a b => ⟨fun q => absurd q (by decide), fun _ => ⟨v 3 (by decide), fun q => by rw [e4]; exact a q, b⟩⟩
  have s2 : (s.2.1 28 2 = -1 → wF_X7_faultFound_2 N Q 3 3 s O) → (¬ s.2.1 28 2 = -1 → Q 2 s O) → wF_X7_faultFound_2 N Q 4 2 s O := fun a b => ⟨fun q => absurd q (by decide), fun _ => ⟨v 2 (by decide), fun q => by rw [e3]; exact a q, b⟩⟩
  have s1 : (s.2.1 28 1 = -1 → wF_X7_faultFound_2 N Q 4 2 s O) → (¬ s.2.1 28 1 = -1 → Q 1 s O) → wF_X7_faultFound_2 N Q 5 1 s O := fun a b => ⟨fun q => absurd q (by decide), fun _ => ⟨v 1 (by decide), fun q => by rw [e2]; exact a q, b⟩⟩
  refine ⟨5, s1 (fun q1 => ?_) (fun q1 => hQ 1 ?_)⟩
  · have xb : x.1 = false := by
      cases y : x.1 with
      | true => exact absurd q1 (hb y)
      | false => rfl
    obtain ⟨-, g2, g3, g4⟩ := hg xb
    refine s2 (fun q2 => s3 (fun q3 => s4 (fun q4 => hQ 0 ?_) (fun q4 => hQ 4 ?_)) (fun q3 => hQ 3 ?_)) (fun q2 => hQ 2 ?_)
    · have u := g2.mp q2
      have w := (g3 u).mp q3
      exact ⟨fun y => absurd (y.symm.trans xb) (by decide), fun _ y => absurd (y.symm.trans u) (by decide), fun _ _ y => absurd (y.symm.trans w) (by decide), fun _ _ _ => ⟨fun _ => rfl, fun y => absurd ((g4 u w).mp q4) y⟩⟩
    · have u := g2.mp q2
      have w := (g3 u).mp q3
      exact ⟨fun y => absurd (y.symm.trans xb) (by decide), fun _ y => absurd (y.symm.trans u) (by decide), fun _ _ y => absurd (y.symm.trans w) (by decide), fun _ _ _ => ⟨fun y => absurd ((g4 u w).mpr y) q4, fun _ => rfl⟩⟩
    · have u := g2.mp q2
      exact ⟨fun y => absurd (y.symm.trans xb) (by decide), fun _ y => absurd (y.symm.trans u) (by decide), fun _ _ _ => rfl, fun _ _ y => absurd ((g3 u).mpr y) q3⟩
    · exact ⟨fun y => absurd (y.symm.trans xb) (by decide), fun _ _ => rfl, fun _ y => absurd (g2.mpr y) q2, fun _ y => absurd (g2.mpr y) q2⟩
  · have xb : x.1 = true := by
      cases y : x.1 with
      | true => rfl
      | false => exact absurd (hg y).1 q1
    exact ⟨fun _ => rfl, fun y => absurd (xb.symm.trans y) (by decide), fun y => absurd (xb.symm.trans y) (by decide), fun y => absurd (xb.symm.trans y) (by decide)⟩
end XT4
