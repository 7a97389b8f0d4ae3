/-! WHAT IS PUT IS RIGHT: codes, tries, upholds; what is put later leaves them so. -/
section YP1
variable {y y' y1 : y_X}
def gK (y : y_X) : k_K := (Y_C y, Y_z y, Y_a y 0, Y_a y 1, Y_a y 2, Y_k y 0, Y_k y 1, Y_a y 3, Y_B y, Y_n y + 1, Y_T y, Y_V y, (Y_i y 1).toNatClampNeg, (fun _ => 0, fun _ _ => 0))
/-- a hear, its hearing not yet found -/
def G_hr (y : y_X) (k : Nat) : Prop := ∃ i, (i < (Y_l y).length ∧ Y_a y 5 i = k ∧ Y_a y 6 i = Y_a y 0 k + 1 ∧ Y_R y 15 k = ((Y_l y).getD i (0, 0)).2) ∧ (Y_C y (Y_a y 0 k) = 2 ∧ Y_C y (Y_a y 0 k + 1) = nI (33 + ((Y_l y).getD i (0, 0)).1) ∧ Y_C y (Y_a y 0 k + 2) = Y_R y 15 k) ∧ (Y_R y 16 k = -1 → Y_C y (Y_a y 0 k + 3) = 10 ∧ Y_a y 0 (k + 1) = Y_a y 0 k + 4) ∧ (¬ Y_R y 16 k = -1 → Y_C y (Y_a y 0 k + 3) = 9 ∧ Y_C y (Y_a y 0 k + 4) = Y_R y 16 k ∧ Y_a y 0 (k + 1) = Y_a y 0 k + 5) ∧ Y_a y 0 (k + 1) ≤ Y_z y ∧ Y_k y 0 (k + 1) = Y_k y 0 k ∧ k_wf (gK y) (Y_k y 0 k)
def G_at (y : y_X) (k : Nat) : Prop := (¬ Y_R y 13 k = 18 → k_at (gK y) (Y_R y) k) ∧ (Y_R y 13 k = 18 → G_hr y k) ∧ (Y_R y 13 k = 22 → ∃ a : Nat, Y_R y 14 k = nI a ∧ a < Y_T y ∧ (Y_R y 20 (nI a).toNatClampNeg = -1 ∨ ∃ u : Nat, Y_R y 20 (nI a).toNatClampNeg = nI u ∧ u < Y_V y))
def G_u (y : y_X) (u : Nat) : Prop := k_u (gK y) (Y_R y) u ∧ Y_a y 3 u < Y_T y
/-- what stands stays -/
def G_ex (y y' : y_X) : Prop := (Y_B y' = Y_B y ∧ Y_z y ≤ Y_z y' ∧ Y_m y 0 ≤ Y_m y' 0 ∧ Y_m y 1 ≤ Y_m y' 1 ∧ Y_m y 2 ≤ Y_m y' 2) ∧ (∀ p, p < Y_z y → Y_C y' p = Y_C y p) ∧ (∀ r k, 13 ≤ r → r ≤ 17 → k < Y_n y → Y_R y' r k = Y_R y r k) ∧ (∀ r t, 20 ≤ r → r ≤ 22 → t < Y_T y → Y_R y' r t = Y_R y r t) ∧ (∀ r u, 23 ≤ r → r ≤ 26 → u < Y_V y → Y_R y' r u = Y_R y r u) ∧ (∀ k, k ≤ Y_n y → Y_a y' 0 k = Y_a y 0 k ∧ Y_k y' 0 k = Y_k y 0 k) ∧ (∀ t, t < Y_T y → Y_a y' 1 t = Y_a y 1 t ∧ Y_k y' 1 t = Y_k y 1 t) ∧ (∀ u, u < Y_V y → Y_a y' 2 u = Y_a y 2 u ∧ Y_a y' 3 u = Y_a y 3 u) ∧ (∃ l, Y_l y' = Y_l y ++ l) ∧ ∀ i, i < (Y_l y).length → Y_a y' 5 i = Y_a y 5 i ∧ Y_a y' 6 i = Y_a y 6 i
theorem G_n (h : G_ex y y') : Y_n y ≤ Y_n y' ∧ Y_T y ≤ Y_T y' ∧ Y_V y ≤ Y_V y' := by
  obtain ⟨⟨e, -, a, b, c⟩, -⟩ := h
  unfold Y_n Y_T Y_V
  rw [e]; omega
theorem G_rf : G_ex y y := ⟨⟨rfl, Nat.le_refl _, Nat.le_refl _, Nat.le_refl _, Nat.le_refl _⟩, fun _ _ => rfl, fun _ _ _ _ _ => rfl, fun _ _ _ _ _ => rfl, fun _ _ _ _ _ => rfl, fun _ _ => ⟨rfl, rfl⟩, fun _ _ => ⟨rfl, rfl⟩, fun _ _ => ⟨rfl, rfl⟩, ⟨[], (List.append_nil _).symm⟩, fun _ _ => ⟨rfl, rfl⟩⟩
theorem G_tr (h : G_ex y y1) (h' : G_ex y1 y') : G_ex y y' := by
  obtain ⟨n1, n2, n3⟩ := G_n h
  obtain ⟨⟨a1, a2, a3, a4, a5⟩, b, c, d, e, f, g, i, ⟨l1, j1⟩, k⟩ := h
  obtain ⟨⟨a1', a2', a3', a4', a5'⟩, b', c', d', e', f', g', i', ⟨l2, j2⟩, k'⟩ := h'
  refine ⟨⟨a1'.trans a1, by omega, by omega, by omega, by omega⟩, fun p hp => (b' p (by omega)).trans (b p hp), fun r q x1 x2 x3 => (c' r q x1 x2 (by omega)).trans (c r q x1 x2 x3), fun r q x1 x2 x3 => (d' r q x1 x2 (by omega)).trans (d r q x1 x2 x3), fun r q x1 x2 x3 => (e' r q x1 x2 (by omega)).trans (e r q x1 x2 x3), fun q x => ⟨(f' q (by omega)).1.trans (f q x).1, (f' q (by omega)).2.trans (f q x).2⟩, fun q x => ⟨(g' q (by omega)).1.trans (g q x).1, (g' q (by omega)).2.trans (g q x).2⟩, fun q x => ⟨(i' q (by omega)).1.trans (i q x).1, (i' q (by omega)).2.trans (i q x).2⟩, ⟨l1 ++ l2, by rw [j2, j1, List.append_assoc]⟩, fun q x => ?_⟩
  have hl : q < (Y_l y1).length := by rw [j1, List.length_append]; omega
  exact ⟨(k' q hl).1.trans (k q x).1, (k' q hl).2.trans (k q x).2⟩
theorem y_cll (t : Nat) : (nI t).toNatClampNeg ≤ t := by
  show (BitVec.ofNat 32 t).toInt.toNat ≤ t
  rw [BitVec.toInt_eq_toNat_bmod, BitVec.toNat_ofNat, Int.bmod_def]
  have h := Nat.mod_le t (2 ^ 32)
  have h2 : t % 2 ^ 32 < 2 ^ 32 := Nat.mod_lt _ (by decide)
  generalize t % 2 ^ 32 = r at *
  split <;> omega
theorem G_wf (h : G_ex y y') : ∀ l : List (Nat × Nat), k_wf (gK y) l → k_wf (gK y') l := by
  have n := G_n h
  obtain ⟨⟨a1, -⟩, -, -, -, -, -, g, -⟩ := h
  intro l
  induction l with
  | nil => exact fun _ => True.intro
  | cons x l ih =>
    obtain ⟨a, ph⟩ := x
    intro q
    have q : Y_k y 1 a = l ∧ (400 * Y_B y ≤ a ∧ a < Y_T y) ∧ ph ≤ 2 ∧ k_wf (gK y) l := q
    show Y_k y' 1 a = l ∧ (400 * Y_B y' ≤ a ∧ a < Y_T y') ∧ ph ≤ 2 ∧ k_wf (gK y') l
    obtain ⟨q1, q2, q3, q4⟩ := q
    exact ⟨(g a q2.2).2.trans q1, by rw [a1]; omega, q3, ih q4⟩
theorem k_e_cg {n a b c w j t l h j' t' l' : Int32} (hj : n = 20 ∨ n = 21 → j = j') (ht : n = 22 → t = t' ∧ l = l') : k_e n a b c w j t l h = k_e n a b c w j' t' l' h := by
  have e22 : (if n = 22 then [4, t, l] else if n = 23 then [5] else [6]) = (if n = 22 then [4, t', l'] else if n = 23 then [5] else [6]) := by
    by_cases q : n = 22
    · rw [(ht q).1, (ht q).2]
    · rw [if_neg q, if_neg q]
  have e20 : ∀ X : List Int32, (if n = 20 then [12, j] else if n = 21 then [13, j] else X) = (if n = 20 then [12, j'] else if n = 21 then [13, j'] else X) := fun X => by
    by_cases q : n = 20
    · rw [hj (Or.inl q)]
    · by_cases q2 : n = 21
      · rw [hj (Or.inr q2)]
      · rw [if_neg q, if_neg q2, if_neg q, if_neg q2]
  unfold k_e
  rw [e22, e20]
theorem G_hx (h : G_ex y y') {v : Int32} (hv : v = -1 ∨ ∃ u : Nat, v = nI u ∧ u < Y_V y) : k_hx (gK y') v = k_hx (gK y) v := by
  unfold k_hx
  rcases hv with q | ⟨u, rfl, hu⟩
  · rw [if_pos q, if_pos q]
  · have e : K_H (gK y') (nI u).toNatClampNeg = K_H (gK y) (nI u).toNatClampNeg := (h.2.2.2.2.2.2.2.1 _ (Nat.lt_of_le_of_lt (y_cll u) hu)).1
    rw [e]
theorem G_en (h : G_ex y y') {k : Nat} (hk : k < Y_n y) (hj : Y_R y 13 k = 20 ∨ Y_R y 13 k = 21 → k_tg (gK y) (Y_R y 14 k) (Y_k y 0 k)) (h3 : Y_R y 13 k = 22 → ∃ a : Nat, Y_R y 14 k = nI a ∧ a < Y_T y ∧ (Y_R y 20 (nI a).toNatClampNeg = -1 ∨ ∃ u : Nat, Y_R y 20 (nI a).toNatClampNeg = nI u ∧ u < Y_V y)) : k_en (gK y') (Y_R y') k = k_en (gK y) (Y_R y) k := by
  have c := h.2.2.1
  unfold k_en
  rw [c 13 k (by decide) (by decide) hk, c 14 k (by decide) (by decide) hk, c 15 k (by decide) (by decide) hk, c 16 k (by decide) (by decide) hk, c 17 k (by decide) (by decide) hk, show K_B (gK y') = K_B (gK y) from h.1.1]
  refine k_e_cg (fun q => ?_) (fun q => ?_)
  · obtain ⟨t, t1, -, t3, -⟩ := hj q
    have t3 : t < Y_n y + 1 := t3
    rw [t1]
    exact congrArg nI (h.2.2.2.2.2.1 _ (by have := y_cll t; omega)).1
  · obtain ⟨a, a1, a2, a3⟩ := h3 q
    have al : (nI a).toNatClampNeg < Y_T y := Nat.lt_of_le_of_lt (y_cll a) a2
    rw [a1, h.2.2.2.1 20 _ (by decide) (by decide) al]
    exact ⟨G_hx h a3, congrArg nI (h.2.2.2.2.2.2.1 _ al).1⟩
theorem G_at_m (h : G_ex y y') {k : Nat} (hk : k < Y_n y) (q : G_at y k) : G_at y' k := by
  have hn := G_n h
  obtain ⟨q1, q2, q3⟩ := q
  have c := h.2.2.1
  have e13 := c 13 k (by decide) (by decide) hk
  have e14 := c 14 k (by decide) (by decide) hk
  have e15 := c 15 k (by decide) (by decide) hk
  have e16 := c 16 k (by decide) (by decide) hk
  obtain ⟨f1, f2⟩ := h.2.2.2.2.2.1 k (by omega)
  obtain ⟨f3, f4⟩ := h.2.2.2.2.2.1 (k + 1) (by omega)
  have hB : Y_B y' = Y_B y := h.1.1
  have hz := h.1.2.1
  have tg : ∀ (v : Int32) (l : List (Nat × Nat)), k_tg (gK y) v l → k_tg (gK y') v l := fun v l ⟨t, t1, t2, t3, t4⟩ => by
    have t3 : t < Y_n y + 1 := t3
    have t2 : 9000 * Y_B y ≤ t := t2
    exact ⟨t, t1, (show 9000 * Y_B y' ≤ t by omega), (show t < Y_n y' + 1 by omega), (h.2.2.2.2.2.1 t (by omega)).2.trans t4⟩
  refine ⟨fun z => ?_, fun z => ?_, fun z => ?_⟩
  · rw [e13] at z
    obtain ⟨⟨a1, a2⟩, a3, a4, a5, a6, a7, a8, a9, a10, a11⟩ := q1 z
    have en := G_en h hk a5 q3
    have a1 : Y_a y 0 k + (k_en (gK y) (Y_R y) k).length ≤ Y_z y := a1
    refine ⟨⟨?_, ?_⟩, ?_, ?_, ?_, ?_, ?_, ?_, ?_, ?_, ?_⟩
    · rw [en]; show Y_a y' 0 k + _ ≤ Y_z y'; omega
    · rw [en]; intro i hi; show Y_C y' (Y_a y' 0 k + i) = _; rw [f1, h.2.1 _ (by omega)]; exact a2 i hi
    · rw [en, e13]; intro b1 b2 b3; obtain ⟨u1, u2⟩ := a3 b1 b2 b3; exact ⟨by show Y_a y' 0 (k + 1) = Y_a y' 0 k + _; rw [f3, f1]; exact u1, by show k + 1 < Y_n y' + 1; omega⟩
    · rw [e13]; intro b1 b2 b3 b4 b5; show Y_k y' 0 (k + 1) = Y_k y' 0 k; rw [f4, f2]; exact a4 b1 b2 b3 b4 b5
    · rw [e13, e14]; intro b; show k_tg (gK y') _ (Y_k y' 0 k); rw [f2]; exact tg _ _ (a5 b)
    · rw [e13, e14]; intro b
      obtain ⟨a, c1, ⟨c2, c3⟩, c4, c5⟩ := a6 b
      have c3 : a < Y_T y := c3
      have c2 : 400 * Y_B y ≤ a := c2
      exact ⟨a, c1, ⟨(show 400 * Y_B y' ≤ a by omega), (show a < Y_T y' by omega)⟩, by show Y_k y' 0 (k + 1) = (a, 0) :: Y_k y' 0 k; rw [f4, f2]; exact c4, by show Y_k y' 1 a = Y_k y' 0 k; rw [f2, (h.2.2.2.2.2.2.1 a c3).2]; exact c5⟩
    · rw [e13, e14]; intro b
      obtain ⟨a, ph, c1, ⟨c2, c3⟩, c4, c5⟩ := a7 b
      have c3 : a < Y_T y := c3
      have c2 : 400 * Y_B y ≤ a := c2
      exact ⟨a, ph, c1, ⟨(show 400 * Y_B y' ≤ a by omega), (show a < Y_T y' by omega)⟩, c4, by show Y_k y' 0 k = (a, ph) :: Y_k y' 1 a; rw [f2, (h.2.2.2.2.2.2.1 a c3).2]; exact c5⟩
    · rw [e13]; intro b
      obtain ⟨a, c1, c2⟩ := a8 b
      have wf : k_wf (gK y) ((a, 2) :: K_o (gK y) a) := by rw [← c1]; exact a11
      have c3 : a < Y_T y := wf.2.1.2
      exact ⟨a, by show Y_k y' 0 k = (a, 2) :: Y_k y' 1 a; rw [f2, (h.2.2.2.2.2.2.1 a c3).2]; exact c1, by show Y_k y' 0 (k + 1) = Y_k y' 1 a; rw [f4, (h.2.2.2.2.2.2.1 a c3).2]; exact c2⟩
    · rw [e13, e15, e16]; exact a9
    · rw [e13]; intro b; exact absurd b z
    · show k_wf (gK y') (Y_k y' 0 k); rw [f2]; exact G_wf h _ a11
  · rw [e13] at z
    obtain ⟨i, ⟨i1, i2, i3, i4⟩, ⟨i5, i6, i7⟩, i8, i9, i10, i11, i12⟩ := q2 z
    obtain ⟨l2, el⟩ := h.2.2.2.2.2.2.2.2.1
    obtain ⟨j1, j2⟩ := h.2.2.2.2.2.2.2.2.2 i i1
    have eg : (Y_l y').getD i (0, 0) = (Y_l y).getD i (0, 0) := by
      rw [el, List.getD_eq_getElem?_getD, List.getD_eq_getElem?_getD, List.getElem?_append_left i1]
    have l4 : Y_a y 0 k + 4 ≤ Y_a y 0 (k + 1) := by
      by_cases q : Y_R y 16 k = -1
      · have := (i8 q).2; omega
      · have := (i9 q).2.2; omega
    have l5 : ¬ Y_R y 16 k = -1 → Y_a y 0 k + 5 ≤ Y_a y 0 (k + 1) := fun q => by have := (i9 q).2.2; omega
    refine ⟨i, ⟨by rw [el, List.length_append]; omega, j1.trans i2, by rw [j2, f1]; exact i3, by rw [e15, eg]; exact i4⟩, ⟨?_, ?_, ?_⟩, ?_, ?_, by rw [f3]; omega, by rw [f4, f2]; exact i11, by rw [f2]; exact G_wf h _ i12⟩
    · rw [f1, h.2.1 _ (by omega)]; exact i5
    · rw [f1, h.2.1 _ (by omega), eg]; exact i6
    · rw [f1, h.2.1 _ (by omega), e15]; exact i7
    · rw [e16, f1, f3]; intro q; rw [h.2.1 _ (by omega)]; exact i8 q
    · rw [e16, f1, f3]; intro q; have := l5 q; rw [h.2.1 _ (by omega), h.2.1 _ (by omega)]; exact i9 q
  · rw [e13] at z
    obtain ⟨a, a1, a2, a3⟩ := q3 z
    have al : (nI a).toNatClampNeg < Y_T y := Nat.lt_of_le_of_lt (y_cll a) a2
    refine ⟨a, by rw [e14]; exact a1, by omega, ?_⟩
    rw [h.2.2.2.1 20 _ (by decide) (by decide) al]
    rcases a3 with q | ⟨u, u1, u2⟩
    · exact Or.inl q
    · exact Or.inr ⟨u, u1, by omega⟩
theorem G_t_m (h : G_ex y y') {t : Nat} (ht : t < Y_T y) (q : k_t (gK y) (Y_R y) t) : k_t (gK y') (Y_R y') t := by
  have hn := G_n h
  have hB : Y_B y' = Y_B y := h.1.1
  have hz := h.1.2.1
  have d := h.2.2.2.1
  obtain ⟨g1, g2⟩ := h.2.2.2.2.2.2.1 t ht
  obtain ⟨q1, q2, q3, q4⟩ := q
  have q4 : Y_a y 1 t < Y_z y := q4
  unfold k_t
  rw [d 20 t (by decide) (by decide) ht, d 21 t (by decide) (by decide) ht, d 22 t (by decide) (by decide) ht]
  refine ⟨fun z => ?_, fun z => ?_, ?_, by show Y_a y' 1 t < Y_z y'; omega⟩
  · obtain ⟨a1, e, a2, ⟨a3, a4⟩, a5, a6⟩ := q1 z
    have a4 : e < Y_n y + 1 := a4
    have a3 : 9000 * Y_B y ≤ e := a3
    obtain ⟨b1, b2⟩ := h.2.2.2.2.2.1 e (by omega)
    refine ⟨by show Y_C y' (Y_a y' 1 t) = 6; rw [g1, h.2.1 _ q4]; exact a1, e, a2, ⟨(show 9000 * Y_B y' ≤ e by omega), (show e < Y_n y' + 1 by omega)⟩, by show Y_a y' 0 e = Y_a y' 1 t + 1; rw [b1, g1]; exact a5, by show Y_k y' 0 e = Y_k y' 1 t; rw [b2, g2]; exact a6⟩
  · obtain ⟨l, a2, ⟨a3, a4⟩, a5, a6⟩ := q2 z
    have a4 : l < Y_n y + 1 := a4
    have a3 : 9000 * Y_B y ≤ l := a3
    obtain ⟨b1, b2⟩ := h.2.2.2.2.2.1 l (by omega)
    exact ⟨l, a2, ⟨(show 9000 * Y_B y' ≤ l by omega), (show l < Y_n y' + 1 by omega)⟩, by show Y_a y' 0 l = Y_a y' 1 t; rw [b1, g1]; exact a5, by show Y_k y' 0 l = (t, 2) :: Y_k y' 1 t; rw [b2, g2]; exact a6⟩
  · rcases q3 with z | ⟨u, u1, ⟨u2, u3⟩, u4⟩
    · exact Or.inl z
    · have u3 : u < Y_V y := u3
      have u2 : 400 * Y_B y ≤ u := u2
      exact Or.inr ⟨u, u1, ⟨(show 400 * Y_B y' ≤ u by omega), (show u < Y_V y' by omega)⟩, by show Y_a y' 3 u = t; rw [(h.2.2.2.2.2.2.2.1 u u3).2]; exact u4⟩
theorem G_u_m (h : G_ex y y') {u : Nat} (hu : u < Y_V y) (q : G_u y u) : G_u y' u := by
  have hn := G_n h
  have hB : Y_B y' = Y_B y := h.1.1
  have hz := h.1.2.1
  have e := h.2.2.2.2.1
  obtain ⟨g1, g2⟩ := h.2.2.2.2.2.2.2.1 u hu
  obtain ⟨⟨q1, q2, q3, q4, ⟨a, q5, ⟨q6, q7⟩, q8, q9⟩, q10, q11⟩, qt⟩ := q
  have q1 : Y_a y 2 u + 3 ≤ Y_z y := q1
  have q7 : a < Y_n y + 1 := q7
  have q6 : 9000 * Y_B y ≤ a := q6
  obtain ⟨b1, b2⟩ := h.2.2.2.2.2.1 a (by omega)
  have ev : Y_R y 26 u = -1 ∨ ∃ v : Nat, Y_R y 26 u = nI v ∧ v < Y_V y := by
    rcases q10 with z | ⟨v, v1, ⟨v2, v3⟩, v4⟩
    · exact Or.inl z
    · exact Or.inr ⟨v, v1, v3⟩
  refine ⟨?_, by rw [g2]; omega⟩
  unfold k_u
  rw [e 23 u (by decide) (by decide) hu, e 24 u (by decide) (by decide) hu, e 25 u (by decide) (by decide) hu, e 26 u (by decide) (by decide) hu]
  refine ⟨by show Y_a y' 2 u + 3 ≤ Y_z y'; omega, ?_, ?_, ?_, ⟨a, q5, ⟨(show 9000 * Y_B y' ≤ a by omega), (show a < Y_n y' + 1 by omega)⟩, ?_, ?_⟩, ?_, q11⟩
  · show Y_C y' (Y_a y' 2 u) = _; rw [g1, h.2.1 _ (by omega)]; exact q2
  · show Y_C y' (Y_a y' 2 u + 1) = _; rw [g1, h.2.1 _ (by omega)]; exact q3
  · rw [G_hx h ev]; show Y_C y' (Y_a y' 2 u + 2) = _; rw [g1, h.2.1 _ (by omega)]; exact q4
  · show Y_a y' 0 a = Y_a y' 2 u + 3; rw [b1, g1]; exact q8
  · show Y_k y' 0 a = (Y_a y' 3 u, 1) :: Y_k y' 1 (Y_a y' 3 u); rw [b2, g2, (h.2.2.2.2.2.2.1 _ qt).2]; exact q9
  · rcases q10 with z | ⟨v, v1, ⟨v2, v3⟩, v4⟩
    · exact Or.inl z
    · have v3 : v < Y_V y := v3
      exact Or.inr ⟨v, v1, ⟨v2, (show v < Y_V y' by omega)⟩, by show Y_a y' 3 v = Y_a y' 3 u; rw [(h.2.2.2.2.2.2.2.1 v v3).2, g2]; exact v4⟩
/-- in order: the next code's place is the Program's end; what is open is known -/
def gI (y : y_X) : Prop := (Y_a y 0 (Y_n y) = Y_z y ∧ Y_k y 0 (Y_n y) = Y_c y) ∧ k_wf (gK y) (Y_c y) ∧ Y_m y 0 ≤ Y_z y ∧ Y_m y 1 ≤ Y_z y ∧ Y_m y 2 ≤ Y_z y ∧ Y_B y ≤ 1
def gx (y y' : y_X) : Prop := Y_2 y' = false → Y_3 y' = false → gI y → gI y' ∧ Y_c y' = Y_c y ∧ G_ex y y' ∧ (∀ k, Y_n y ≤ k → k < Y_n y' → G_at y' k) ∧ (∀ t, Y_T y ≤ t → t < Y_T y' → k_t (gK y') (Y_R y') t) ∧ ∀ u, Y_V y ≤ u → u < Y_V y' → G_u y' u
theorem gx_tr (h2 : Y_2 y' = false → Y_2 y1 = false) (h3 : Y_3 y' = false → Y_3 y1 = false) (h : gx y y1) (h' : gx y1 y') : gx y y' := fun a b i => by
  obtain ⟨i1, c1, e1, k1, t1, u1⟩ := h (h2 a) (h3 b) i
  obtain ⟨i2, c2, e2, k2, t2, u2⟩ := h' a b i1
  refine ⟨i2, c2.trans c1, G_tr e1 e2, fun k x1 x2 => ?_, fun k x1 x2 => ?_, fun k x1 x2 => ?_⟩
  · by_cases q : k < Y_n y1
    · exact G_at_m e2 q (k1 k x1 q)
    · exact k2 k (by omega) x2
  · by_cases q : k < Y_T y1
    · exact G_t_m e2 q (t1 k x1 q)
    · exact t2 k (by omega) x2
  · by_cases q : k < Y_V y1
    · exact G_u_m e2 q (u1 k x1 q)
    · exact u2 k (by omega) x2
end YP1
