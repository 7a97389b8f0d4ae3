/-! WHAT IS PUT IS RIGHT: codes, tries, upholds; what is put later leaves them so. -/
section YP1
variable {y y' y1 : y_X}
def gK (y : y_X) : k_K := (Y_C y, Y_z y, Y_a y 0, Y_a y 1, Y_a y 2, Y_k y 0, Y_k y 1, Y_a y 3, Y_B y, Y_n y + 1, Y_T y, Y_V y, (Y_i y 1).toNatClampNeg, (fun _ => 0, fun _ _ => 0))
/-- a hear, its hearing not yet found -/
def G_hr (y : y_X) (k : Nat) : Prop := ∃ i, (i < (Y_l y).length ∧ Y_a y 5 i = k ∧ Y_a y 6 i = Y_a y 0 k + 1 ∧ Y_R y 15 k = ((Y_l y).getD i (0, 0)).2) ∧ (Y_C y (Y_a y 0 k) = 2 ∧ Y_C y (Y_a y 0 k + 1) = nI (33 + ((Y_l y).getD i (0, 0)).1) ∧ Y_C y (Y_a y 0 k + 2) = Y_R y 15 k) ∧ (Y_R y 16 k = -1 → Y_C y (Y_a y 0 k + 3) = 10 ∧ Y_a y 0 (k + 1) = Y_a y 0 k + 4) ∧ (¬ Y_R y 16 k = -1 → Y_C y (Y_a y 0 k + 3) = 9 ∧ Y_C y (Y_a y 0 k + 4) = Y_R y 16 k ∧ Y_a y 0 (k + 1) = Y_a y 0 k + 5) ∧ Y_a y 0 (k + 1) ≤ Y_z y ∧ Y_k y 0 (k + 1) = Y_k y 0 k ∧ k_wf (gK y) (Y_k y 0 k)
/-- from where on a stretch speaks of what: ints, codes, tries, upholds -/
abbrev x_b : Type := Nat × Nat × Nat × Nat
def bs (y : y_X) : x_b := (Y_z y, Y_n y, Y_T y, Y_V y)
def b0 : x_b := (0, 0, 0, 0)
def b_le (b b' : x_b) : Prop := b.1 ≤ b'.1 ∧ b.2.1 ≤ b'.2.1 ∧ b.2.2.1 ≤ b'.2.2.1 ∧ b.2.2.2 ≤ b'.2.2.2
def G_at (b : x_b) (y : y_X) (k : Nat) : Prop := (¬ Y_R y 13 k = 18 → k_at (gK y) (Y_R y) k) ∧ (Y_R y 13 k = 18 → G_hr y k) ∧ (Y_R y 13 k = 22 → ∃ a : Nat, Y_R y 14 k = nI a ∧ b.2.2.1 ≤ (nI a).toNatClampNeg ∧ a < Y_T y ∧ (Y_R y 20 (nI a).toNatClampNeg = -1 ∨ ∃ u : Nat, Y_R y 20 (nI a).toNatClampNeg = nI u ∧ b.2.2.2 ≤ (nI u).toNatClampNeg ∧ u < Y_V y)) ∧ b.1 ≤ Y_a y 0 k ∧ (Y_R y 13 k = 20 ∨ Y_R y 13 k = 21 → b.2.1 ≤ (Y_R y 14 k).toNatClampNeg)
def G_t (b : x_b) (y : y_X) (t : Nat) : Prop := k_t (gK y) (Y_R y) t ∧ b.1 ≤ Y_a y 1 t ∧ (Y_R y 21 t = -1 → b.2.1 ≤ (Y_R y 22 t).toNatClampNeg) ∧ (¬ Y_R y 21 t = -1 → b.2.1 ≤ (Y_R y 21 t).toNatClampNeg) ∧ (Y_R y 20 t = -1 ∨ b.2.2.2 ≤ (Y_R y 20 t).toNatClampNeg) ∧ Y_a y 7 t = 2
def G_u (b : x_b) (y : y_X) (u : Nat) : Prop := k_u (gK y) (Y_R y) u ∧ Y_a y 3 u < Y_T y ∧ b.1 ≤ Y_a y 2 u ∧ b.2.1 ≤ (Y_R y 25 u).toNatClampNeg ∧ (Y_R y 26 u = -1 ∨ b.2.2.2 ≤ (Y_R y 26 u).toNatClampNeg) ∧ (Y_a y 8 u = 4 ∧ (Y_R y 23 u).toInt < 33)
/-- what stands stays -/
def G_ex (b : x_b) (y y' : y_X) : Prop := (Y_B y' = Y_B y ∧ Y_z y ≤ Y_z y' ∧ Y_m y 0 ≤ Y_m y' 0 ∧ Y_m y 1 ≤ Y_m y' 1 ∧ Y_m y 2 ≤ Y_m y' 2) ∧ (∀ p, b.1 ≤ p → p < Y_z y → Y_C y' p = Y_C y p) ∧ (∀ r k, 13 ≤ r → r ≤ 17 → b.2.1 ≤ k → k < Y_n y → Y_R y' r k = Y_R y r k) ∧ (∀ r t, 20 ≤ r → r ≤ 22 → b.2.2.1 ≤ t → t < Y_T y → Y_R y' r t = Y_R y r t) ∧ (∀ r u, 23 ≤ r → r ≤ 26 → b.2.2.2 ≤ u → u < Y_V y → Y_R y' r u = Y_R y r u) ∧ (∀ k, b.2.1 ≤ k → k ≤ Y_n y → Y_a y' 0 k = Y_a y 0 k ∧ Y_k y' 0 k = Y_k y 0 k) ∧ (∀ t, t < Y_T y → (b.2.2.1 ≤ t → Y_a y' 1 t = Y_a y 1 t ∧ Y_a y' 7 t = Y_a y 7 t) ∧ Y_k y' 1 t = Y_k y 1 t) ∧ (∀ u, b.2.2.2 ≤ u → u < Y_V y → Y_a y' 2 u = Y_a y 2 u ∧ Y_a y' 3 u = Y_a y 3 u ∧ Y_a y' 8 u = Y_a y 8 u) ∧ (∃ l, Y_l y' = Y_l y ++ l) ∧ ∀ i, i < (Y_l y).length → Y_a y' 5 i = Y_a y 5 i ∧ Y_a y' 6 i = Y_a y 6 i
variable {b b' : x_b}
theorem b_rf : b_le b b := ⟨Nat.le_refl _, Nat.le_refl _, Nat.le_refl _, Nat.le_refl _⟩
theorem b_0 : b_le b0 b := ⟨Nat.zero_le _, Nat.zero_le _, Nat.zero_le _, Nat.zero_le _⟩
theorem b_tr {b1 b2 b3 : x_b} (h : b_le b1 b2) (h' : b_le b2 b3) : b_le b1 b3 := ⟨Nat.le_trans h.1 h'.1, Nat.le_trans h.2.1 h'.2.1, Nat.le_trans h.2.2.1 h'.2.2.1, Nat.le_trans h.2.2.2 h'.2.2.2⟩
theorem G_n (h : G_ex b y y') : Y_n y ≤ Y_n y' ∧ Y_T y ≤ Y_T y' ∧ Y_V y ≤ Y_V y' := by
  obtain ⟨⟨e, -, a, b, c⟩, -⟩ := h
  unfold Y_n Y_T Y_V
  rw [e]; omega
theorem b_ex (h : G_ex b y y') : b_le (bs y) (bs y') := ⟨h.1.2.1, (G_n h).1, (G_n h).2.1, (G_n h).2.2⟩
theorem G_rf : G_ex b y y := ⟨⟨rfl, Nat.le_refl _, Nat.le_refl _, Nat.le_refl _, Nat.le_refl _⟩, fun _ _ _ => rfl, fun _ _ _ _ _ _ => rfl, fun _ _ _ _ _ _ => rfl, fun _ _ _ _ _ _ => rfl, fun _ _ _ => ⟨rfl, rfl⟩, fun _ _ => ⟨fun _ => ⟨rfl, rfl⟩, rfl⟩, fun _ _ _ => ⟨rfl, rfl, rfl⟩, ⟨[], (List.append_nil _).symm⟩, fun _ _ => ⟨rfl, rfl⟩⟩
theorem G_w (hb : b_le b b') (h : G_ex b y y') : G_ex b' y y' := by
  obtain ⟨b1, b2, b3, b4⟩ := hb
  obtain ⟨a, c, d, e, f, g, i, j, k, l⟩ := h
  exact ⟨a, fun p h1 => c p (by omega), fun r q x1 x2 x3 => d r q x1 x2 (by omega), fun r q x1 x2 x3 => e r q x1 x2 (by omega), fun r q x1 x2 x3 => f r q x1 x2 (by omega), fun q x => g q (by omega), fun q x => ⟨fun z => (i q x).1 (by omega), (i q x).2⟩, fun q x => j q (by omega), k, l⟩
theorem G_tr (h : G_ex b y y1) (h' : G_ex b y1 y') : G_ex b y y' := by
  obtain ⟨n1, n2, n3⟩ := G_n h
  obtain ⟨⟨a1, a2, a3, a4, a5⟩, b, c, d, e, f, g, i, ⟨l1, j1⟩, k⟩ := h
  obtain ⟨⟨a1', a2', a3', a4', a5'⟩, b', c', d', e', f', g', i', ⟨l2, j2⟩, k'⟩ := h'
  refine ⟨⟨a1'.trans a1, by omega, by omega, by omega, by omega⟩, fun p h0 hp => (b' p h0 (by omega)).trans (b p h0 hp), fun r q x1 x2 x0 x3 => (c' r q x1 x2 x0 (by omega)).trans (c r q x1 x2 x0 x3), fun r q x1 x2 x0 x3 => (d' r q x1 x2 x0 (by omega)).trans (d r q x1 x2 x0 x3), fun r q x1 x2 x0 x3 => (e' r q x1 x2 x0 (by omega)).trans (e r q x1 x2 x0 x3), fun q x0 x => ⟨(f' q x0 (by omega)).1.trans (f q x0 x).1, (f' q x0 (by omega)).2.trans (f q x0 x).2⟩, fun q x => ⟨fun x0 => ⟨((g' q (by omega)).1 x0).1.trans ((g q x).1 x0).1, ((g' q (by omega)).1 x0).2.trans ((g q x).1 x0).2⟩, (g' q (by omega)).2.trans (g q x).2⟩, fun q x0 x => ⟨(i' q x0 (by omega)).1.trans (i q x0 x).1, (i' q x0 (by omega)).2.1.trans (i q x0 x).2.1, (i' q x0 (by omega)).2.2.trans (i q x0 x).2.2⟩, ⟨l1 ++ l2, by rw [j2, j1, List.append_assoc]⟩, fun q x => ?_⟩
  have hl : q < (Y_l y1).length := by rw [j1, List.length_append]; omega
  exact ⟨(k' q hl).1.trans (k q x).1, (k' q hl).2.trans (k q x).2⟩
theorem y_cll (t : Nat) : (nI t).toNatClampNeg ≤ t := by
  show (BitVec.ofNat 32 t).toInt.toNat ≤ t
  rw [BitVec.toInt_eq_toNat_bmod, BitVec.toNat_ofNat, Int.bmod_def]
  have h := Nat.mod_le t (2 ^ 32)
  have h2 : t % 2 ^ 32 < 2 ^ 32 := Nat.mod_lt _ (by decide)
  generalize t % 2 ^ 32 = r at *
  split <;> omega
theorem G_wf (h : G_ex b y y') : ∀ l : List (Nat × Nat), k_wf (gK y) l → k_wf (gK y') l := by
  have n := G_n h
  obtain ⟨⟨a1, -⟩, -, -, -, -, -, g, -⟩ := h
  intro l
  induction l with
  | nil => exact fun _ => True.intro
  | cons x l ih =>
    obtain ⟨a, ph⟩ := x
    intro q
    have q : Y_k y 1 a = l ∧ (400 * Y_B y ≤ a ∧ a < Y_T y) ∧ ph ≤ 2 ∧ k_wf (gK y) l := q
    show Y_k y' 1 a = l ∧ (400 * Y_B y' ≤ a ∧ a < Y_T y') ∧ ph ≤ 2 ∧ k_wf (gK y') l
    obtain ⟨q1, q2, q3, q4⟩ := q
    exact ⟨(g a q2.2).2.trans q1, by rw [a1]; omega, q3, ih q4⟩
theorem k_e_cg {n a b c w j t l h j' t' l' : Int32} (hj : n = 20 ∨ n = 21 → j = j') (ht : n = 22 → t = t' ∧ l = l') : k_e n a b c w j t l h = k_e n a b c w j' t' l' h := by
  have e22 : (if n = 22 then [4, t, l] else if n = 23 then [5] else [6]) = (if n = 22 then [4, t', l'] else if n = 23 then [5] else [6]) := by
    by_cases q : n = 22
    · rw [(ht q).1, (ht q).2]
    · rw [if_neg q, if_neg q]
  have e20 : ∀ X : List Int32, (if n = 20 then [12, j] else if n = 21 then [13, j] else X) = (if n = 20 then [12, j'] else if n = 21 then [13, j'] else X) := fun X => by
    by_cases q : n = 20
    · rw [hj (Or.inl q)]
    · by_cases q2 : n = 21
      · rw [hj (Or.inr q2)]
      · rw [if_neg q, if_neg q2, if_neg q, if_neg q2]
  unfold k_e
  rw [e22, e20]
theorem G_hx (h : G_ex b y y') {v : Int32} (hv : v = -1 ∨ ∃ u : Nat, v = nI u ∧ b.2.2.2 ≤ (nI u).toNatClampNeg ∧ u < Y_V y) : k_hx (gK y') v = k_hx (gK y) v := by
  unfold k_hx
  rcases hv with q | ⟨u, rfl, hu0, hu⟩
  · rw [if_pos q, if_pos q]
  · have e : K_H (gK y') (nI u).toNatClampNeg = K_H (gK y) (nI u).toNatClampNeg := (h.2.2.2.2.2.2.2.1 _ hu0 (Nat.lt_of_le_of_lt (y_cll u) hu)).1
    rw [e]
theorem G_en (h : G_ex b y y') {k : Nat} (hb : b.2.1 ≤ k) (hk : k < Y_n y) (hj : Y_R y 13 k = 20 ∨ Y_R y 13 k = 21 → k_tg (gK y) (Y_R y 14 k) (Y_k y 0 k)) (hj2 : Y_R y 13 k = 20 ∨ Y_R y 13 k = 21 → b.2.1 ≤ (Y_R y 14 k).toNatClampNeg) (h3 : Y_R y 13 k = 22 → ∃ a : Nat, Y_R y 14 k = nI a ∧ b.2.2.1 ≤ (nI a).toNatClampNeg ∧ a < Y_T y ∧ (Y_R y 20 (nI a).toNatClampNeg = -1 ∨ ∃ u : Nat, Y_R y 20 (nI a).toNatClampNeg = nI u ∧ b.2.2.2 ≤ (nI u).toNatClampNeg ∧ u < Y_V y)) : k_en (gK y') (Y_R y') k = k_en (gK y) (Y_R y) k := by
  have c := h.2.2.1
  unfold k_en
  rw [c 13 k (by decide) (by decide) hb hk, c 14 k (by decide) (by decide) hb hk, c 15 k (by decide) (by decide) hb hk, c 16 k (by decide) (by decide) hb hk, c 17 k (by decide) (by decide) hb hk, show K_B (gK y') = K_B (gK y) from h.1.1]
  refine k_e_cg (fun q => ?_) (fun q => ?_)
  · obtain ⟨t, t1, -, t3, -⟩ := hj q
    have hq := hj2 q
    have t3 : t < Y_n y + 1 := t3
    rw [t1] at hq ⊢
    exact congrArg nI (h.2.2.2.2.2.1 _ hq (by have := y_cll t; omega)).1
  · obtain ⟨a, a1, a0, a2, a3⟩ := h3 q
    have al : (nI a).toNatClampNeg < Y_T y := Nat.lt_of_le_of_lt (y_cll a) a2
    rw [a1, h.2.2.2.1 20 _ (by decide) (by decide) a0 al]
    exact ⟨G_hx h a3, congrArg nI ((h.2.2.2.2.2.2.1 _ al).1 a0).1⟩
theorem G_at_m (h : G_ex b y y') {k : Nat} (hb : b.2.1 ≤ k) (hk : k < Y_n y) (q : G_at b y k) : G_at b y' k := by
  have hn := G_n h
  obtain ⟨q1, q2, q3, q4, q5⟩ := q
  have c := h.2.2.1
  have e13 := c 13 k (by decide) (by decide) hb hk
  have e14 := c 14 k (by decide) (by decide) hb hk
  have e15 := c 15 k (by decide) (by decide) hb hk
  have e16 := c 16 k (by decide) (by decide) hb hk
  obtain ⟨f1, f2⟩ := h.2.2.2.2.2.1 k hb (by omega)
  obtain ⟨f3, f4⟩ := h.2.2.2.2.2.1 (k + 1) (by omega) (by omega)
  have hB : Y_B y' = Y_B y := h.1.1
  have hz := h.1.2.1
  refine ⟨fun z => ?_, fun z => ?_, fun z => ?_, by rw [f1]; exact q4, by rw [e13, e14]; exact q5⟩
  · rw [e13] at z
    obtain ⟨⟨a1, a2⟩, a3, a4, a5, a6, a7, a8, a9, a10, a11⟩ := q1 z
    have en := G_en h hb hk a5 q5 q3
    have a1 : Y_a y 0 k + (k_en (gK y) (Y_R y) k).length ≤ Y_z y := a1
    refine ⟨⟨?_, ?_⟩, ?_, ?_, ?_, ?_, ?_, ?_, ?_, ?_, ?_⟩
    · rw [en]; show Y_a y' 0 k + _ ≤ Y_z y'; omega
    · rw [en]; intro i hi; show Y_C y' (Y_a y' 0 k + i) = _; rw [f1, h.2.1 _ (by omega) (by omega)]; exact a2 i hi
    · rw [en, e13]; intro b1 b2 b3; obtain ⟨u1, u2⟩ := a3 b1 b2 b3; exact ⟨by show Y_a y' 0 (k + 1) = Y_a y' 0 k + _; rw [f3, f1]; exact u1, by show k + 1 < Y_n y' + 1; omega⟩
    · rw [e13]; intro b1 b2 b3 b4 b5; show Y_k y' 0 (k + 1) = Y_k y' 0 k; rw [f4, f2]; exact a4 b1 b2 b3 b4 b5
    · rw [e13, e14]; intro z2; show k_tg (gK y') _ (Y_k y' 0 k); rw [f2]
      obtain ⟨t, t1, t2, t3, t4⟩ := a5 z2
      have t0 := q5 z2
      rw [t1] at t0
      have t3 : t < Y_n y + 1 := t3
      have t2 : 9000 * Y_B y ≤ t := t2
      have tc := y_cll t
      exact ⟨t, t1, (show 9000 * Y_B y' ≤ t by omega), (show t < Y_n y' + 1 by omega), (h.2.2.2.2.2.1 t (by omega) (by omega)).2.trans t4⟩
    · rw [e13, e14]; intro b
      obtain ⟨a, c1, ⟨c2, c3⟩, c4, c5⟩ := a6 b
      have c3 : a < Y_T y := c3
      have c2 : 400 * Y_B y ≤ a := c2
      exact ⟨a, c1, ⟨(show 400 * Y_B y' ≤ a by omega), (show a < Y_T y' by omega)⟩, by show Y_k y' 0 (k + 1) = (a, 0) :: Y_k y' 0 k; rw [f4, f2]; exact c4, by show Y_k y' 1 a = Y_k y' 0 k; rw [f2, (h.2.2.2.2.2.2.1 a c3).2]; exact c5⟩
    · rw [e13, e14]; intro b
      obtain ⟨a, ph, c1, ⟨c2, c3⟩, c4, c5⟩ := a7 b
      have c3 : a < Y_T y := c3
      have c2 : 400 * Y_B y ≤ a := c2
      exact ⟨a, ph, c1, ⟨(show 400 * Y_B y' ≤ a by omega), (show a < Y_T y' by omega)⟩, c4, by show Y_k y' 0 k = (a, ph) :: Y_k y' 1 a; rw [f2, (h.2.2.2.2.2.2.1 a c3).2]; exact c5⟩
    · rw [e13]; intro b
      obtain ⟨a, c1, c2⟩ := a8 b
      have wf : k_wf (gK y) ((a, 2) :: K_o (gK y) a) := by rw [← c1]; exact a11
      have c3 : a < Y_T y := wf.2.1.2
      exact ⟨a, by show Y_k y' 0 k = (a, 2) :: Y_k y' 1 a; rw [f2, (h.2.2.2.2.2.2.1 a c3).2]; exact c1, by show Y_k y' 0 (k + 1) = Y_k y' 1 a; rw [f4, (h.2.2.2.2.2.2.1 a c3).2]; exact c2⟩
    · rw [e13, e15, e16]; exact a9
    · rw [e13]; intro b; exact absurd b z
    · show k_wf (gK y') (Y_k y' 0 k); rw [f2]; exact G_wf h _ a11
  · rw [e13] at z
    obtain ⟨i, ⟨i1, i2, i3, i4⟩, ⟨i5, i6, i7⟩, i8, i9, i10, i11, i12⟩ := q2 z
    obtain ⟨l2, el⟩ := h.2.2.2.2.2.2.2.2.1
    obtain ⟨j1, j2⟩ := h.2.2.2.2.2.2.2.2.2 i i1
    have eg : (Y_l y').getD i (0, 0) = (Y_l y).getD i (0, 0) := by
      rw [el, List.getD_eq_getElem?_getD, List.getD_eq_getElem?_getD, List.getElem?_append_left i1]
    have l4 : Y_a y 0 k + 4 ≤ Y_a y 0 (k + 1) := by
      by_cases q : Y_R y 16 k = -1
      · have := (i8 q).2; omega
      · have := (i9 q).2.2; omega
    have l5 : ¬ Y_R y 16 k = -1 → Y_a y 0 k + 5 ≤ Y_a y 0 (k + 1) := fun q => by have := (i9 q).2.2; omega
    refine ⟨i, ⟨by rw [el, List.length_append]; omega, j1.trans i2, by rw [j2, f1]; exact i3, by rw [e15, eg]; exact i4⟩, ⟨?_, ?_, ?_⟩, ?_, ?_, by rw [f3]; omega, by rw [f4, f2]; exact i11, by rw [f2]; exact G_wf h _ i12⟩
    · rw [f1, h.2.1 _ (by omega) (by omega)]; exact i5
    · rw [f1, h.2.1 _ (by omega) (by omega), eg]; exact i6
    · rw [f1, h.2.1 _ (by omega) (by omega), e15]; exact i7
    · rw [e16, f1, f3]; intro q; rw [h.2.1 _ (by omega) (by omega)]; exact i8 q
    · rw [e16, f1, f3]; intro q; have := l5 q; rw [h.2.1 _ (by omega) (by omega), h.2.1 _ (by omega) (by omega)]; exact i9 q
  · rw [e13] at z
    obtain ⟨a, a1, a0, a2, a3⟩ := q3 z
    have al : (nI a).toNatClampNeg < Y_T y := Nat.lt_of_le_of_lt (y_cll a) a2
    refine ⟨a, by rw [e14]; exact a1, a0, by omega, ?_⟩
    rw [h.2.2.2.1 20 _ (by decide) (by decide) a0 al]
    rcases a3 with q | ⟨u, u1, u0, u2⟩
    · exact Or.inl q
    · exact Or.inr ⟨u, u1, u0, by omega⟩
theorem G_t_m (h : G_ex b y y') {t : Nat} (hb : b.2.2.1 ≤ t) (ht : t < Y_T y) (q : G_t b y t) : G_t b y' t := by
  have hn := G_n h
  have hB : Y_B y' = Y_B y := h.1.1
  have hz := h.1.2.1
  have d := h.2.2.2.1
  obtain ⟨g1, g2⟩ := h.2.2.2.2.2.2.1 t ht
  obtain ⟨g1, g7⟩ := g1 hb
  obtain ⟨⟨q1, q2, q3, q4⟩, r1, r2, r3, r4, r5⟩ := q
  have q4 : Y_a y 1 t < Y_z y := q4
  have d20 := d 20 t (by decide) (by decide) hb ht
  have d21 := d 21 t (by decide) (by decide) hb ht
  have d22 := d 22 t (by decide) (by decide) hb ht
  refine ⟨?_, by rw [g1]; exact r1, by rw [d21, d22]; exact r2, by rw [d21]; exact r3, by rw [d20]; exact r4, g7.trans r5⟩
  unfold k_t
  rw [d20, d21, d22]
  refine ⟨fun z => ?_, fun z => ?_, ?_, by show Y_a y' 1 t < Y_z y'; omega⟩
  · obtain ⟨a1, e, a2, ⟨a3, a4⟩, a5, a6⟩ := q1 z
    have a4 : e < Y_n y + 1 := a4
    have a3 : 9000 * Y_B y ≤ e := a3
    have a0 := r2 z
    rw [a2] at a0
    have ec := y_cll e
    obtain ⟨b1, b2⟩ := h.2.2.2.2.2.1 e (by omega) (by omega)
    refine ⟨by show Y_C y' (Y_a y' 1 t) = 6; rw [g1, h.2.1 _ r1 q4]; exact a1, e, a2, ⟨(show 9000 * Y_B y' ≤ e by omega), (show e < Y_n y' + 1 by omega)⟩, by show Y_a y' 0 e = Y_a y' 1 t + 1; rw [b1, g1]; exact a5, by show Y_k y' 0 e = Y_k y' 1 t; rw [b2, g2]; exact a6⟩
  · obtain ⟨l, a2, ⟨a3, a4⟩, a5, a6⟩ := q2 z
    have a4 : l < Y_n y + 1 := a4
    have a3 : 9000 * Y_B y ≤ l := a3
    have a0 := r3 z
    rw [a2] at a0
    have ec := y_cll l
    obtain ⟨b1, b2⟩ := h.2.2.2.2.2.1 l (by omega) (by omega)
    exact ⟨l, a2, ⟨(show 9000 * Y_B y' ≤ l by omega), (show l < Y_n y' + 1 by omega)⟩, by show Y_a y' 0 l = Y_a y' 1 t; rw [b1, g1]; exact a5, by show Y_k y' 0 l = (t, 2) :: Y_k y' 1 t; rw [b2, g2]; exact a6⟩
  · rcases q3 with z | ⟨u, u1, ⟨u2, u3⟩, u4⟩
    · exact Or.inl z
    · have u3 : u < Y_V y := u3
      have u2 : 400 * Y_B y ≤ u := u2
      rcases r4 with z | u0
      · exact Or.inl z
      · rw [u1] at u0
        have uc := y_cll u
        exact Or.inr ⟨u, u1, ⟨(show 400 * Y_B y' ≤ u by omega), (show u < Y_V y' by omega)⟩, by show Y_a y' 3 u = t; rw [(h.2.2.2.2.2.2.2.1 u (by omega) u3).2.1]; exact u4⟩
theorem G_u_m (h : G_ex b y y') {u : Nat} (hb : b.2.2.2 ≤ u) (hu : u < Y_V y) (q : G_u b y u) : G_u b y' u := by
  have hn := G_n h
  have hB : Y_B y' = Y_B y := h.1.1
  have hz := h.1.2.1
  have e := h.2.2.2.2.1
  obtain ⟨g1, g2, g8⟩ := h.2.2.2.2.2.2.2.1 u hb hu
  obtain ⟨⟨q1, q2, q3, q4, ⟨a, q5, ⟨q6, q7⟩, q8, q9⟩, q10, q11⟩, qt, r1, r2, r3, r4⟩ := q
  have q1 : Y_a y 2 u + 3 ≤ Y_z y := q1
  have q7 : a < Y_n y + 1 := q7
  have q6 : 9000 * Y_B y ≤ a := q6
  have a0 := r2
  rw [q5] at a0
  have ac := y_cll a
  obtain ⟨b1, b2⟩ := h.2.2.2.2.2.1 a (by omega) (by omega)
  have e23 := e 23 u (by decide) (by decide) hb hu
  have e24 := e 24 u (by decide) (by decide) hb hu
  have e25 := e 25 u (by decide) (by decide) hb hu
  have e26 := e 26 u (by decide) (by decide) hb hu
  have ev : Y_R y 26 u = -1 ∨ ∃ v : Nat, Y_R y 26 u = nI v ∧ b.2.2.2 ≤ (nI v).toNatClampNeg ∧ v < Y_V y := by
    rcases q10 with z | ⟨v, v1, ⟨v2, v3⟩, v4⟩
    · exact Or.inl z
    · rcases r3 with z | v0
      · exact Or.inl z
      · rw [v1] at v0; exact Or.inr ⟨v, v1, v0, v3⟩
  refine ⟨?_, by rw [g2]; omega, by rw [g1]; exact r1, by rw [e25]; exact r2, by rw [e26]; exact r3, g8.trans r4.1, by rw [h.2.2.2.2.1 23 u (by decide) (by decide) hb hu]; exact r4.2⟩
  unfold k_u
  rw [e23, e24, e25, e26]
  refine ⟨by show Y_a y' 2 u + 3 ≤ Y_z y'; omega, ?_, ?_, ?_, ⟨a, q5, ⟨(show 9000 * Y_B y' ≤ a by omega), (show a < Y_n y' + 1 by omega)⟩, ?_, ?_⟩, ?_, q11⟩
  · show Y_C y' (Y_a y' 2 u) = _; rw [g1, h.2.1 _ (by omega) (by omega)]; exact q2
  · show Y_C y' (Y_a y' 2 u + 1) = _; rw [g1, h.2.1 _ (by omega) (by omega)]; exact q3
  · rw [G_hx h ev]; show Y_C y' (Y_a y' 2 u + 2) = _; rw [g1, h.2.1 _ (by omega) (by omega)]; exact q4
  · show Y_a y' 0 a = Y_a y' 2 u + 3; rw [b1, g1]; exact q8
  · show Y_k y' 0 a = (Y_a y' 3 u, 1) :: Y_k y' 1 (Y_a y' 3 u); rw [b2, g2, (h.2.2.2.2.2.2.1 _ qt).2]; exact q9
  · rcases q10 with z | ⟨v, v1, ⟨v2, v3⟩, v4⟩
    · exact Or.inl z
    · have v3 : v < Y_V y := v3
      exact Or.inr ⟨v, v1, ⟨v2, (show v < Y_V y' by omega)⟩, by show Y_a y' 3 v = Y_a y' 3 u; rw [(h.2.2.2.2.2.2.2.1 v (by omega) v3).2.1, g2]; exact v4⟩
theorem G_at_w (hb : b_le b' b) {k : Nat} (q : G_at b y k) : G_at b' y k := by
  obtain ⟨b1, b2, b3, b4⟩ := hb
  obtain ⟨q1, q2, q3, q4, q5⟩ := q
  refine ⟨q1, q2, fun z => ?_, by omega, fun z => Nat.le_trans b2 (q5 z)⟩
  obtain ⟨a, a1, a0, a2, a3⟩ := q3 z
  refine ⟨a, a1, by omega, a2, ?_⟩
  rcases a3 with q | ⟨u, u1, u0, u2⟩
  · exact Or.inl q
  · exact Or.inr ⟨u, u1, by omega, u2⟩
theorem G_t_w (hb : b_le b' b) {k : Nat} (q : G_t b y k) : G_t b' y k := by
  obtain ⟨b1, b2, b3, b4⟩ := hb
  obtain ⟨q1, q2, q3, q4, q5⟩ := q
  exact ⟨q1, by omega, fun z => Nat.le_trans b2 (q3 z), fun z => Nat.le_trans b2 (q4 z), q5.1.imp id (fun z => Nat.le_trans b4 z), q5.2⟩
theorem G_u_w (hb : b_le b' b) {k : Nat} (q : G_u b y k) : G_u b' y k := by
  obtain ⟨b1, b2, b3, b4⟩ := hb
  obtain ⟨q1, q2, q3, q4, q5⟩ := q
  exact ⟨q1, q2, by omega, by omega, q5.1.imp id (fun z => Nat.le_trans b4 z), q5.2⟩
/-- the codes' places grow; the hears' codes and places belong together -/
def mon (y : y_X) : Prop := (∀ k, 9000 * Y_B y ≤ k → k < Y_n y → Y_a y 0 k < Y_a y 0 (k + 1)) ∧ ∀ i, i < (Y_l y).length → (9000 * Y_B y ≤ Y_a y 5 i ∧ Y_a y 5 i < Y_n y) ∧ Y_a y 6 i = Y_a y 0 (Y_a y 5 i) + 1 ∧ Y_R y 13 (Y_a y 5 i) = 18
theorem mon_q (h : mon y) (hB : Y_B y' = Y_B y) (hn : Y_n y' = Y_n y) (ha : ∀ k, k ≤ Y_n y → Y_a y' 0 k = Y_a y 0 k) (hl : (Y_l y').length = (Y_l y).length) (h56 : ∀ i, i < (Y_l y).length → Y_a y' 5 i = Y_a y 5 i ∧ Y_a y' 6 i = Y_a y 6 i) (hR : ∀ k, k < Y_n y → Y_R y' 13 k = Y_R y 13 k) : mon y' := by
  refine ⟨fun k h1 h2 => ?_, fun i hi => ?_⟩
  · rw [hB] at h1
    rw [hn] at h2
    rw [ha k (by omega), ha (k + 1) (by omega)]
    exact h.1 k h1 h2
  · rw [hl] at hi
    obtain ⟨⟨a1, a2⟩, a3⟩ := h.2 i hi
    obtain ⟨b1, b2⟩ := h56 i hi
    rw [b1, b2, hB, hn, ha _ (by omega), hR _ a2]
    exact ⟨⟨a1, a2⟩, a3⟩
theorem mon_s (h : mon y) (hz : Y_a y 0 (Y_n y) = Y_z y) (hB : Y_B y' = Y_B y) (hn : Y_n y' = Y_n y + 1) (ha : ∀ k, k ≤ Y_n y → Y_a y' 0 k = Y_a y 0 k) (hl : (Y_l y').length = (Y_l y).length) (h56 : ∀ i, i < (Y_l y).length → Y_a y' 5 i = Y_a y 5 i ∧ Y_a y' 6 i = Y_a y 6 i) (hR : ∀ k, k < Y_n y → Y_R y' 13 k = Y_R y 13 k) (hl2 : Y_z y < Y_a y' 0 (Y_n y + 1)) : mon y' := by
  refine ⟨fun k h1 h2 => ?_, fun i hi => ?_⟩
  · rw [hB] at h1
    rw [hn] at h2
    by_cases q : k = Y_n y
    · rw [q, ha _ (Nat.le_refl _), hz]; exact hl2
    · rw [ha k (by omega), ha (k + 1) (by omega)]; exact h.1 k h1 (by omega)
  · rw [hl] at hi
    obtain ⟨⟨a1, a2⟩, a3⟩ := h.2 i hi
    obtain ⟨b1, b2⟩ := h56 i hi
    rw [b1, b2, hB, hn, ha _ (by omega), hR _ a2]
    exact ⟨⟨a1, by omega⟩, a3⟩
/-- in order: the next code's place is the Program's end; what is open is known -/
def gI (y : y_X) : Prop := (Y_a y 0 (Y_n y) = Y_z y ∧ Y_k y 0 (Y_n y) = Y_c y) ∧ k_wf (gK y) (Y_c y) ∧ (Y_m y 0 ≤ Y_z y ∧ mon y) ∧ Y_m y 1 ≤ Y_z y ∧ 4 * Y_m y 2 ≤ Y_z y ∧ Y_B y ≤ 1
/-- a stretch of codes is right -/
def G_st (b : x_b) (y y' : y_X) : Prop := (∀ k, Y_n y ≤ k → k < Y_n y' → G_at b y' k) ∧ (∀ t, Y_T y ≤ t → t < Y_T y' → G_t b y' t) ∧ ∀ u, Y_V y ≤ u → u < Y_V y' → G_u b y' u
theorem G_st_tr (hb : b_le b (bs y)) (h : G_st b y y1) (e : G_ex b y1 y') (h' : G_st b y1 y') (hy : b_le (bs y) (bs y1)) : G_st b y y' := by
  obtain ⟨k1, t1, u1⟩ := h
  obtain ⟨k2, t2, u2⟩ := h'
  obtain ⟨c1, c2, c3, c4⟩ := hb
  have c2 : b.2.1 ≤ Y_n y := c2
  have c3 : b.2.2.1 ≤ Y_T y := c3
  have c4 : b.2.2.2 ≤ Y_V y := c4
  refine ⟨fun k x1 x2 => ?_, fun k x1 x2 => ?_, fun k x1 x2 => ?_⟩
  · by_cases q : k < Y_n y1
    · exact G_at_m e (by omega) q (k1 k x1 q)
    · exact k2 k (by omega) x2
  · by_cases q : k < Y_T y1
    · exact G_t_m e (by omega) q (t1 k x1 q)
    · exact t2 k (by omega) x2
  · by_cases q : k < Y_V y1
    · exact G_u_m e (by omega) q (u1 k x1 q)
    · exact u2 k (by omega) x2
theorem G_st_w (hb : b_le b' b) (h : G_st b y y') : G_st b' y y' := ⟨fun k x1 x2 => G_at_w hb (h.1 k x1 x2), fun k x1 x2 => G_t_w hb (h.2.1 k x1 x2), fun k x1 x2 => G_u_w hb (h.2.2 k x1 x2)⟩
/-- the slots of what is told -/
def gv (E : x_E) (y : y_X) : Prop := ((0 ≤ (Y_i y 3).toInt ∧ (Y_i y 3).toInt ≤ 8) ∧ 0 ≤ (Y_i y 2).toInt ∧ (Y_i y 2).toInt ≤ 12) ∧ (∀ w, (Y_u y w).toInt ≤ (Y_i y 1).toInt) ∧ ∀ w, Y_u y w = Y_i y 1 → (0 ≤ (Y_S y w).2.toInt ∧ (Y_S y w).2.toInt ≤ 8) ∧ (¬ E_nw E w → (Y_S y w).2.toInt < 8) ∧ 0 ≤ (Y_S y w).1.toInt
def gx (E : x_E) (y y' : y_X) : Prop := Y_2 y' = false → Y_3 y' = false → gI y → gv E y → (gI y' ∧ gv E y') ∧ Y_c y' = Y_c y ∧ G_ex b0 y y' ∧ G_st (bs y) y y'
theorem gx_tr {E : x_E} (h2 : Y_2 y' = false → Y_2 y1 = false) (h3 : Y_3 y' = false → Y_3 y1 = false) (h : gx E y y1) (h' : gx E y1 y') : gx E y y' := fun a b i v => by
  obtain ⟨⟨i1, v1⟩, c1, e1, s1⟩ := h (h2 a) (h3 b) i v
  obtain ⟨⟨i2, v2⟩, c2, e2, s2⟩ := h' a b i1 v1
  exact ⟨⟨i2, v2⟩, c2.trans c1, G_tr e1 e2, G_st_tr b_rf s1 (G_w b_0 e2) (G_st_w (b_ex e1) s2) (b_ex e1)⟩
end YP1
