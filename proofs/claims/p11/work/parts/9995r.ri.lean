/-! TRIES: what is put, and that it is right. -/
section YT1
variable {E : x_E} {x y y' y1 y2 : y_X} {b : x_b} {c : List (Nat × Nat)} {t q hp : Nat} {pv : Option Nat}
/-- all but what the two readers hold of the text -/
def Y_G (d : Nat) (C : Nat → Int32) (R : Nat → Nat → Int32) (m : Nat → Nat) (a : Nat → Nat → Nat) (k : Nat → Nat → List (Nat × Nat)) (c : List (Nat × Nat)) (y : y_X) : y_X := (y.1, Y_t y, Y_z y + d, Y_i y, Y_2 y, Y_3 y, Y_u y, Y_v y, Y_r y, Y_l y, C, R, m, a, k, Y_S y, c)
section
variable {d : Nat} {C : Nat → Int32} {R : Nat → Nat → Int32} {m : Nat → Nat} {a : Nat → Nat → Nat} {k : Nat → Nat → List (Nat × Nat)}
theorem YG_z : Y_z (Y_G d C R m a k c y) = Y_z y + d := rfl
theorem YG_C : Y_C (Y_G d C R m a k c y) = C := rfl
theorem YG_R : Y_R (Y_G d C R m a k c y) = R := rfl
theorem YG_m : Y_m (Y_G d C R m a k c y) = m := rfl
theorem YG_a : Y_a (Y_G d C R m a k c y) = a := rfl
theorem YG_k : Y_k (Y_G d C R m a k c y) = k := rfl
theorem YG_c : Y_c (Y_G d C R m a k c y) = c := rfl
theorem YG_l : Y_l (Y_G d C R m a k c y) = Y_l y := rfl
theorem YG_n : Y_n (Y_G d C R m a k c y) = 9000 * m 3 + m 0 := rfl
theorem YG_T : Y_T (Y_G d C R m a k c y) = 400 * m 3 + m 1 := rfl
theorem YG_V : Y_V (Y_G d C R m a k c y) = 400 * m 3 + m 2 := rfl
theorem YG_B : Y_B (Y_G d C R m a k c y) = m 3 := rfl
theorem YG_v (h : gv E y) : gv E (Y_G d C R m a k c y) := gv_cg rfl rfl rfl rfl rfl h
end
/-- a try begins; an uphold begins; a try ends with no lastly; a lastly begins; a lastly ends -/
def Y_y0 (y : y_X) : y_X := Y_G 3 (cl (Y_C y) (Y_z y) [4, -1, -1]) (f2 (f2 (r5 (Y_R y) (Y_n y) (22, nI (Y_T y), 0, 0, -1)) 20 (Y_T y) (-1)) 21 (Y_T y) (-1)) (f1 (f1 (Y_m y) 0 (Y_m y 0 + 1)) 1 (Y_m y 1 + 1)) (f2 (f2 (Y_a y) 0 (Y_n y + 1) (Y_z y + 3)) 7 (Y_T y) 1) (f2 (f2 (Y_k y) 0 (Y_n y + 1) ((Y_T y, 0) :: Y_c y)) 1 (Y_T y) (Y_c y)) ((Y_T y, 0) :: Y_c y) y
def Y_pv (R : Nat → Nat → Int32) (t u : Nat) : Option Nat → Nat → Nat → Int32
  | none => f2 R 20 t (nI u)
  | some u0 => f2 R 26 u0 (nI u)
def Y_y1 (hp t : Nat) (c : List (Nat × Nat)) (kd ob : Int32) (pv : Option Nat) (y : y_X) : y_X := Y_G 4 (cl (f1 (Y_C y) hp (nI (Y_z y + 1))) (Y_z y) [5, kd, ob, -1]) (f2 (Y_pv (f2 (f2 (f2 (r5 (Y_R y) (Y_n y) (23, nI t, 0, 0, -1)) 23 (Y_V y) kd) 24 (Y_V y) ob) 26 (Y_V y) (-1)) t (Y_V y) pv) 25 (Y_V y) (nI (Y_n y + 1))) (f1 (f1 (Y_m y) 0 (Y_m y 0 + 1)) 2 (Y_m y 2 + 1)) (f2 (f2 (f2 (f2 (Y_a y) 0 (Y_n y + 1) (Y_z y + 4)) 2 (Y_V y) (Y_z y + 1)) 3 (Y_V y) t) 8 (Y_V y) 4) (f2 (Y_k y) 0 (Y_n y + 1) ((t, 1) :: c)) ((t, 1) :: c) y
def Y_y2 (q t : Nat) (c : List (Nat × Nat)) (y : y_X) : y_X := Y_G 2 (cl (f1 (Y_C y) q (nI (Y_z y + 1))) (Y_z y) [5, 6]) (f2 (r5 (Y_R y) (Y_n y) (23, nI t, 0, 0, -1)) 22 t (nI (Y_n y + 1))) (f1 (Y_m y) 0 (Y_m y 0 + 1)) (f2 (f2 (f2 (Y_a y) 0 (Y_n y + 1) (Y_z y + 2)) 1 t (Y_z y + 1)) 7 t 2) (f2 (Y_k y) 0 (Y_n y + 1) c) c y
def Y_y3 (q t : Nat) (c : List (Nat × Nat)) (y : y_X) : y_X := Y_G 1 (cl (f1 (Y_C y) q (nI (Y_z y + 1))) (Y_z y) [5]) (f2 (r5 (Y_R y) (Y_n y) (23, nI t, 0, 0, -1)) 21 t (nI (Y_n y + 1))) (f1 (Y_m y) 0 (Y_m y 0 + 1)) (f2 (f2 (Y_a y) 0 (Y_n y + 1) (Y_z y + 1)) 1 t (Y_z y + 1)) (f2 (Y_k y) 0 (Y_n y + 1) ((t, 2) :: c)) ((t, 2) :: c) y
def Y_y4 (t : Nat) (c : List (Nat × Nat)) (y : y_X) : y_X := Y_G 1 (cl (Y_C y) (Y_z y) [6]) (f2 (r5 (Y_R y) (Y_n y) (24, nI t, 0, 0, -1)) 22 t (nI (Y_n y + 1))) (f1 (Y_m y) 0 (Y_m y 0 + 1)) (f2 (f2 (Y_a y) 0 (Y_n y + 1) (Y_z y + 1)) 7 t 2) (f2 (Y_k y) 0 (Y_n y + 1) c) c y
/-- what stays but for the holes of a try -/
def G_xx (hp q t : Nat) (pv : Option Nat) (y y' : y_X) : Prop := (Y_B y' = Y_B y ∧ Y_z y ≤ Y_z y' ∧ Y_m y 0 ≤ Y_m y' 0 ∧ Y_m y 1 ≤ Y_m y' 1 ∧ Y_m y 2 ≤ Y_m y' 2) ∧ (∀ p, p ≠ hp → p ≠ q → p < Y_z y → Y_C y' p = Y_C y p) ∧ (∀ r k, 13 ≤ r → r ≤ 17 → k < Y_n y → Y_R y' r k = Y_R y r k) ∧ (∀ r s, 20 ≤ r → r ≤ 22 → (s ≠ t ∨ (r = 20 ∧ pv ≠ none)) → s < Y_T y → Y_R y' r s = Y_R y r s) ∧ (∀ r u, 23 ≤ r → r ≤ 26 → (r ≠ 26 ∨ pv ≠ some u) → u < Y_V y → Y_R y' r u = Y_R y r u) ∧ (∀ k, k ≤ Y_n y → Y_a y' 0 k = Y_a y 0 k ∧ Y_k y' 0 k = Y_k y 0 k) ∧ (∀ s, s < Y_T y → (s ≠ t → Y_a y' 1 s = Y_a y 1 s ∧ Y_a y' 7 s = Y_a y 7 s) ∧ Y_k y' 1 s = Y_k y 1 s) ∧ (∀ u, u < Y_V y → Y_a y' 2 u = Y_a y 2 u ∧ Y_a y' 3 u = Y_a y 3 u ∧ Y_a y' 8 u = Y_a y 8 u) ∧ (∃ l, Y_l y' = Y_l y ++ l) ∧ ∀ i, i < (Y_l y).length → Y_a y' 5 i = Y_a y 5 i ∧ Y_a y' 6 i = Y_a y 6 i
theorem xx_n (h : G_xx hp q t pv y y') : Y_n y ≤ Y_n y' ∧ Y_T y ≤ Y_T y' ∧ Y_V y ≤ Y_V y' := by
  obtain ⟨⟨e, -, a, b, c⟩, -⟩ := h
  unfold Y_n Y_T Y_V
  rw [e]; omega
theorem xx_b (h : G_xx hp q t pv y y') : b_le (bs y) (bs y') := ⟨h.1.2.1, (xx_n h).1, (xx_n h).2.1, (xx_n h).2.2⟩
theorem xx_tr0 (h : G_xx hp q t pv y y1) (e : G_ex b0 y1 y') : G_xx hp q t pv y y' := by
  have n := xx_n h
  have nz := h.1.2.1
  obtain ⟨⟨a1, a2, a3, a4, a5⟩, h2, h3, h4, h5, h6, h7, h8, ⟨l1, j1⟩, h10⟩ := h
  obtain ⟨⟨c1, c2, c3, c4, c5⟩, e2, e3, e4, e5, e6, e7, e8, ⟨l2, j2⟩, e10⟩ := e
  refine ⟨⟨c1.trans a1, by omega, by omega, by omega, by omega⟩, fun p x1 x2 x3 => (e2 p (Nat.zero_le _) (by omega)).trans (h2 p x1 x2 x3), fun r k x1 x2 x3 => (e3 r k x1 x2 (Nat.zero_le _) (by omega)).trans (h3 r k x1 x2 x3), fun r s x1 x2 x3 x4 => (e4 r s x1 x2 (Nat.zero_le _) (by omega)).trans (h4 r s x1 x2 x3 x4), fun r u x1 x2 x3 x4 => (e5 r u x1 x2 (Nat.zero_le _) (by omega)).trans (h5 r u x1 x2 x3 x4), fun k x1 => ⟨(e6 k (Nat.zero_le _) (by omega)).1.trans (h6 k x1).1, (e6 k (Nat.zero_le _) (by omega)).2.trans (h6 k x1).2⟩, fun s x1 => ⟨fun x2 => ⟨((e7 s (by omega)).1 (Nat.zero_le _)).1.trans ((h7 s x1).1 x2).1, ((e7 s (by omega)).1 (Nat.zero_le _)).2.trans ((h7 s x1).1 x2).2⟩, (e7 s (by omega)).2.trans (h7 s x1).2⟩, fun u x1 => ⟨(e8 u (Nat.zero_le _) (by omega)).1.trans (h8 u x1).1, (e8 u (Nat.zero_le _) (by omega)).2.1.trans (h8 u x1).2.1, (e8 u (Nat.zero_le _) (by omega)).2.2.trans (h8 u x1).2.2⟩, ⟨l1 ++ l2, by rw [j2, j1, List.append_assoc]⟩, fun i hi => ?_⟩
  have hl : i < (Y_l y1).length := by rw [j1, List.length_append]; omega
  exact ⟨(e10 i hl).1.trans (h10 i hi).1, (e10 i hl).2.trans (h10 i hi).2⟩
theorem xx_tr1 {hp' u : Nat} (h : G_xx hp q t pv y y1) (e : G_xx hp' q t (some u) y1 y') (hz : Y_z y ≤ hp') (hu : Y_V y ≤ u) : G_xx hp q t pv y y' := by
  have n := xx_n h
  obtain ⟨⟨a1, a2, a3, a4, a5⟩, h2, h3, h4, h5, h6, h7, h8, ⟨l1, j1⟩, h10⟩ := h
  obtain ⟨⟨c1, c2, c3, c4, c5⟩, e2, e3, e4, e5, e6, e7, e8, ⟨l2, j2⟩, e10⟩ := e
  refine ⟨⟨c1.trans a1, by omega, by omega, by omega, by omega⟩, fun p x1 x2 x3 => (e2 p (by omega) x2 (by omega)).trans (h2 p x1 x2 x3), fun r k x1 x2 x3 => (e3 r k x1 x2 (by omega)).trans (h3 r k x1 x2 x3), fun r s x1 x2 x3 x4 => (e4 r s x1 x2 (x3.imp id (fun z => ⟨z.1, fun w => by cases w⟩)) (by omega)).trans (h4 r s x1 x2 x3 x4), fun r u' x1 x2 x3 x4 => (e5 r u' x1 x2 (Or.inr (fun w => by have : u = u' := Option.some.inj w; omega)) (by omega)).trans (h5 r u' x1 x2 x3 x4), fun k x1 => ⟨(e6 k (by omega)).1.trans (h6 k x1).1, (e6 k (by omega)).2.trans (h6 k x1).2⟩, fun s x1 => ⟨fun x2 => ⟨((e7 s (by omega)).1 x2).1.trans ((h7 s x1).1 x2).1, ((e7 s (by omega)).1 x2).2.trans ((h7 s x1).1 x2).2⟩, (e7 s (by omega)).2.trans (h7 s x1).2⟩, fun u' x1 => ⟨(e8 u' (by omega)).1.trans (h8 u' x1).1, (e8 u' (by omega)).2.1.trans (h8 u' x1).2.1, (e8 u' (by omega)).2.2.trans (h8 u' x1).2.2⟩, ⟨l1 ++ l2, by rw [j2, j1, List.append_assoc]⟩, fun i hi => ?_⟩
  have hl : i < (Y_l y1).length := by rw [j1, List.length_append]; omega
  exact ⟨(e10 i hl).1.trans (h10 i hi).1, (e10 i hl).2.trans (h10 i hi).2⟩
theorem xx_ex (e : G_ex b x y) (h : G_xx hp q t pv y y') (c1 : hp < b.1 ∨ Y_z x ≤ hp) (c2 : q < b.1 ∨ Y_z x ≤ q) (c3 : t < b.2.2.1 ∨ Y_T x ≤ t) (c4 : ∀ u, pv = some u → u < b.2.2.2 ∨ Y_V x ≤ u) : G_ex b x y' := by
  have n := G_n e
  obtain ⟨⟨a1, a2, a3, a4, a5⟩, h2, h3, h4, h5, h6, h7, h8, ⟨l1, j1⟩, h10⟩ := h
  obtain ⟨⟨d1, d2, d3, d4, d5⟩, e2, e3, e4, e5, e6, e7, e8, ⟨l2, j2⟩, e10⟩ := e
  refine ⟨⟨a1.trans d1, by omega, by omega, by omega, by omega⟩, fun p x1 x2 => (h2 p (by omega) (by omega) (by omega)).trans (e2 p x1 x2), fun r k x1 x2 x3 x4 => (h3 r k x1 x2 (by omega)).trans (e3 r k x1 x2 x3 x4), fun r s x1 x2 x3 x4 => (h4 r s x1 x2 (Or.inl (by omega)) (by omega)).trans (e4 r s x1 x2 x3 x4), fun r u x1 x2 x3 x4 => (h5 r u x1 x2 (Or.inr (fun w => by have := c4 u w; omega)) (by omega)).trans (e5 r u x1 x2 x3 x4), fun k x1 x2 => ⟨(h6 k (by omega)).1.trans (e6 k x1 x2).1, (h6 k (by omega)).2.trans (e6 k x1 x2).2⟩, fun s x1 => ⟨fun x2 => ⟨((h7 s (by omega)).1 (by omega)).1.trans ((e7 s x1).1 x2).1, ((h7 s (by omega)).1 (by omega)).2.trans ((e7 s x1).1 x2).2⟩, (h7 s (by omega)).2.trans (e7 s x1).2⟩, fun u x1 x2 => ⟨(h8 u (by omega)).1.trans (e8 u x1 x2).1, (h8 u (by omega)).2.1.trans (e8 u x1 x2).2.1, (h8 u (by omega)).2.2.trans (e8 u x1 x2).2.2⟩, ⟨l2 ++ l1, by rw [j1, j2, List.append_assoc]⟩, fun i hi => ?_⟩
  have hl : i < (Y_l y).length := by rw [j2, List.length_append]; omega
  exact ⟨(h10 i hl).1.trans (e10 i hi).1, (h10 i hl).2.trans (e10 i hi).2⟩
/-- what comes next in the chain of upholds -/
def T_nx (t : Nat) (y : y_X) : Option Nat → Int32
  | none => Y_R y 20 t
  | some u => Y_R y 26 u
def LT (b : x_b) (c : List (Nat × Nat)) (y : y_X) (t q : Nat) : Prop := (Y_C y q = nI (Y_a y 1 t) ∧ Y_a y 7 t = 2) ∧ (Y_R y 21 t = -1 → Y_C y (Y_a y 1 t) = 6 ∧ ∃ e : Nat, Y_R y 22 t = nI e ∧ (9000 * Y_B y ≤ e ∧ e < Y_n y + 1) ∧ Y_a y 0 e = Y_a y 1 t + 1 ∧ Y_k y 0 e = c ∧ b.2.1 ≤ (nI e).toNatClampNeg) ∧ (¬ Y_R y 21 t = -1 → ∃ l : Nat, Y_R y 21 t = nI l ∧ (9000 * Y_B y ≤ l ∧ l < Y_n y + 1) ∧ Y_a y 0 l = Y_a y 1 t ∧ Y_k y 0 l = (t, 2) :: c ∧ b.2.1 ≤ (nI l).toNatClampNeg) ∧ Y_a y 1 t < Y_z y ∧ b.1 ≤ Y_a y 1 t
def TP (E : x_E) (q t : Nat) (c : List (Nat × Nat)) (hp : Nat) (pv : Option Nat) (y : y_X) : Prop := (gI y ∧ gv E y) ∧ (∃ ph, ph < 2 ∧ Y_c y = (t, ph) :: c) ∧ Y_k y 1 t = c ∧ (400 * Y_B y ≤ t ∧ t < Y_T y) ∧ (q < Y_z y ∧ hp < Y_z y ∧ hp ≠ q) ∧ Y_C y hp = -1 ∧ Y_R y 21 t = -1 ∧ T_nx t y pv = -1 ∧ (∀ u, pv = some u → u < Y_V y ∧ Y_a y 3 u = t) ∧ t < 100000
def TF (E : x_E) (q t : Nat) (c : List (Nat × Nat)) (hp : Nat) (pv : Option Nat) (y x' : y_X) : Prop := (gI x' ∧ gv E x') ∧ Y_c x' = c ∧ G_xx hp q t pv y x' ∧ G_st (bs y) y x' ∧ (Y_C x' hp = k_hx (gK x') (T_nx t x' pv) ∧ (T_nx t x' pv = -1 ∨ ∃ u : Nat, T_nx t x' pv = nI u ∧ Y_V y ≤ u ∧ u < Y_V x' ∧ u < 100000 ∧ Y_a x' 3 u = t)) ∧ LT (bs y) c x' t q
theorem gI_T (i : gI y) (hz : Y_z y < 90000) : Y_T y < 91000 ∧ Y_V y < 91000 ∧ Y_n y < 110000 ∧ 9000 * Y_B y ≤ Y_n y ∧ 400 * Y_B y ≤ Y_T y ∧ 400 * Y_B y ≤ Y_V y := by
  obtain ⟨-, -, i3, i4, i5, i6⟩ := i
  unfold Y_n Y_T Y_V
  omega
theorem TP_ex (h : TP E q t c hp pv y) (e : G_ex b0 y y') (i : gI y') (v : gv E y') (hc : Y_c y' = Y_c y) : TP E q t c hp pv y' := by
  have n := G_n e
  obtain ⟨-, ⟨ph, h1, h2⟩, h3, ⟨h4, h5⟩, ⟨h6, h7, h8⟩, h9, h10, h11, h12, h13⟩ := h
  have hz := e.1.2.1
  have hB : Y_B y' = Y_B y := e.1.1
  refine ⟨⟨i, v⟩, ⟨ph, h1, hc.trans h2⟩, (e.2.2.2.2.2.2.1 t h5).2.trans h3, ⟨by rw [hB]; exact h4, by omega⟩, ⟨by omega, by omega, h8⟩, (e.2.1 hp (Nat.zero_le _) h7).trans h9, (e.2.2.2.1 21 t (by decide) (by decide) (Nat.zero_le _) h5).trans h10, ?_, fun u hu => ⟨by have := (h12 u hu).1; omega, (e.2.2.2.2.2.2.2.1 u (Nat.zero_le _) (h12 u hu).1).2.1.trans (h12 u hu).2⟩, h13⟩
  cases hpv : pv with
  | none => rw [hpv] at h11; exact (e.2.2.2.1 20 t (by decide) (by decide) (Nat.zero_le _) h5).trans h11
  | some u => rw [hpv] at h11; exact (e.2.2.2.2.1 26 u (by decide) (by decide) (Nat.zero_le _) (h12 u hpv).1).trans h11
/-- the leave's code -/
theorem G_23 {k ph : Nat} (h1 : Y_R y 13 k = 23) (h2 : Y_R y 14 k = nI t) (hA : Y_a y 0 k + 1 ≤ Y_z y) (hC : Y_C y (Y_a y 0 k) = 5) (hc : Y_k y 0 k = (t, ph) :: c) (ho : Y_k y 1 t = c) (hp : ph < 2) (ht : 400 * Y_B y ≤ t ∧ t < Y_T y) (hw : k_wf (gK y) ((t, ph) :: c)) (b1 : b.1 ≤ Y_a y 0 k) : G_at b y k := by
  have hen : k_en (gK y) (Y_R y) k = [5] := by
    unfold k_en
    rw [h1, k_e_23]
  refine ⟨fun _ => ?_, fun q => absurd (h1.symm.trans q) (by decide), fun q => absurd (h1.symm.trans q) (by decide), b1, fun q => absurd q (fun q => q.elim (fun q => absurd (h1.symm.trans q) (by decide)) (fun q => absurd (h1.symm.trans q) (by decide)))⟩
  unfold k_at
  rw [hen, h1]
  refine ⟨⟨hA, fun j hj => ?_⟩, fun _ _ q => absurd rfl q, fun _ _ q => absurd rfl q, fun q => absurd q (by decide), fun q => absurd q (by decide), fun _ => ⟨t, ph, h2, ht, hp, ?_⟩, fun q => absurd q (by decide), ⟨fun q => absurd q (by decide), fun q => absurd q (by decide)⟩, fun q => absurd q (by decide), ?_⟩
  · have hj : j < 1 := hj
    have ej : j = 0 := by omega
    subst ej
    exact hC
  · show Y_k y 0 k = (t, ph) :: Y_k y 1 t
    rw [hc, ho]
  · show k_wf (gK y) (Y_k y 0 k)
    rw [hc]; exact hw
theorem G_24 {k : Nat} (h1 : Y_R y 13 k = 24) (hA : Y_a y 0 k + 1 ≤ Y_z y) (hA' : Y_a y 0 (k + 1) = Y_a y 0 k + 1) (hk : k < Y_n y) (hC : Y_C y (Y_a y 0 k) = 6) (hc : Y_k y 0 k = (t, 2) :: c) (hc' : Y_k y 0 (k + 1) = c) (ho : Y_k y 1 t = c) (hw : k_wf (gK y) ((t, 2) :: c)) (b1 : b.1 ≤ Y_a y 0 k) : G_at b y k := by
  have hen : k_en (gK y) (Y_R y) k = [6] := by
    unfold k_en
    rw [h1, k_e_24]
  refine ⟨fun _ => ?_, fun q => absurd (h1.symm.trans q) (by decide), fun q => absurd (h1.symm.trans q) (by decide), b1, fun q => absurd q (fun q => q.elim (fun q => absurd (h1.symm.trans q) (by decide)) (fun q => absurd (h1.symm.trans q) (by decide)))⟩
  unfold k_at
  rw [hen, h1]
  refine ⟨⟨hA, fun j hj => ?_⟩, fun _ _ _ => ⟨hA', (show k + 1 < Y_n y + 1 by omega)⟩, fun _ _ _ _ q => absurd rfl q, fun q => absurd q (by decide), fun q => absurd q (by decide), fun q => absurd q (by decide), fun _ => ⟨t, ?_, ?_⟩, ⟨fun q => absurd q (by decide), fun q => absurd q (by decide)⟩, fun q => absurd q (by decide), ?_⟩
  · have hj : j < 1 := hj
    have ej : j = 0 := by omega
    subst ej
    exact hC
  · show Y_k y 0 k = (t, 2) :: Y_k y 1 t
    rw [hc, ho]
  · show Y_k y 0 (k + 1) = Y_k y 1 t
    rw [hc', ho]
  · show k_wf (gK y) (Y_k y 0 k)
    rw [hc]; exact hw
theorem k_wfc {K K' : k_K} (ho : ∀ a, K_o K' a = K_o K a) (hB : K_B K' = K_B K) (hT : K_T K ≤ K_T K') : ∀ l, k_wf K l → k_wf K' l := by
  intro l
  induction l with
  | nil => exact fun _ => True.intro
  | cons x l ih =>
    obtain ⟨a, ph⟩ := x
    intro q
    obtain ⟨q1, ⟨q2, q3⟩, q4, q5⟩ := q
    exact ⟨(ho a).trans q1, ⟨by rw [hB]; exact q2, by omega⟩, q4, ih q5⟩
end YT1
