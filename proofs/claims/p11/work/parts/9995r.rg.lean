/-! HOLES AND PATCHES: what is put later into what stands. -/
section YH1
variable {E : x_E} {x y y' y1 y2 : y_X} {b : x_b} {p k r : Nat} {v : Int32} {c : List (Nat × Nat)}
theorem Gx_ch (e : G_ex b x y) (hp : Y_z x ≤ p) : G_ex b x (Y_ch p v y) := by
  obtain ⟨e1, e2, e3⟩ := e
  refine ⟨e1, fun q h1 h2 => ?_, e3⟩
  show f1 (Y_C y) p v q = Y_C x q
  rw [f1_ne (by omega)]; exact e2 q h1 h2
theorem Gp_ch (hp : p < b.1) : G_ex b y (Y_ch p v y) := by
  obtain ⟨e1, e2, e3⟩ := G_rf (b := b) (y := y)
  refine ⟨e1, fun q h1 h2 => ?_, e3⟩
  show f1 (Y_C y) p v q = Y_C y q
  rw [f1_ne (by omega)]
theorem Gx_rc (e : G_ex b x y) (h1 : 13 ≤ r → r ≤ 17 → Y_n x ≤ k) (h2 : 20 ≤ r → r ≤ 22 → Y_T x ≤ k) (h3 : 23 ≤ r → r ≤ 26 → Y_V x ≤ k) : G_ex b x (Y_rc r k v y) := by
  obtain ⟨e1, e2, e3, e4, e5, e6⟩ := e
  refine ⟨e1, e2, fun r' q x1 x2 x3 x4 => ?_, fun r' q x1 x2 x3 x4 => ?_, fun r' q x1 x2 x3 x4 => ?_, e6⟩
  · show f2 (Y_R y) r k v r' q = _
    rw [f2_at, if_neg (fun z => by have := h1 (by omega) (by omega); omega)]; exact e3 r' q x1 x2 x3 x4
  · show f2 (Y_R y) r k v r' q = _
    rw [f2_at, if_neg (fun z => by have := h2 (by omega) (by omega); omega)]; exact e4 r' q x1 x2 x3 x4
  · show f2 (Y_R y) r k v r' q = _
    rw [f2_at, if_neg (fun z => by have := h3 (by omega) (by omega); omega)]; exact e5 r' q x1 x2 x3 x4
theorem Gp_rc (h1 : 13 ≤ r → r ≤ 17 → k < b.2.1) (h2 : 20 ≤ r → r ≤ 22 → k < b.2.2.1) (h3 : 23 ≤ r → r ≤ 26 → k < b.2.2.2) : G_ex b y (Y_rc r k v y) := by
  obtain ⟨e1, e2, e3, e4, e5, e6⟩ := G_rf (b := b) (y := y)
  refine ⟨e1, e2, fun r' q x1 x2 x3 x4 => ?_, fun r' q x1 x2 x3 x4 => ?_, fun r' q x1 x2 x3 x4 => ?_, e6⟩
  · show f2 (Y_R y) r k v r' q = _
    rw [f2_at, if_neg (fun z => by have := h1 (by omega) (by omega); omega)]
  · show f2 (Y_R y) r k v r' q = _
    rw [f2_at, if_neg (fun z => by have := h2 (by omega) (by omega); omega)]
  · show f2 (Y_R y) r k v r' q = _
    rw [f2_at, if_neg (fun z => by have := h3 (by omega) (by omega); omega)]
theorem I_ch (i : gI y) : gI (Y_ch p v y) := ⟨i.1, G_wf (Gp_ch (b := (p + 1, 0, 0, 0)) (Nat.lt_succ_self _)) _ i.2.1, i.2.2⟩
theorem I_rc (i : gI y) (hr : 13 ≠ r) : gI (Y_rc r k v y) := ⟨i.1, G_wf (Gp_rc (b := (0, k + 1, k + 1, k + 1)) (fun _ _ => Nat.lt_succ_self _) (fun _ _ => Nat.lt_succ_self _) (fun _ _ => Nat.lt_succ_self _)) _ i.2.1, ⟨i.2.2.1.1, mon_q (y' := Y_rc r k v y) i.2.2.1.2 rfl rfl (fun _ _ => rfl) rfl (fun _ _ => ⟨rfl, rfl⟩) (fun _ _ => by show f2 (Y_R y) r k v 13 _ = _; rw [f2_ne hr])⟩, i.2.2.2⟩
theorem G_st_m (e : G_ex b y1 y2) (hn : Y_n y2 = Y_n y1 ∧ Y_T y2 = Y_T y1 ∧ Y_V y2 = Y_V y1) (hb : b_le b (bs y)) (h : G_st b y y1) : G_st b y y2 := by
  obtain ⟨c1, c2, c3, c4⟩ := hb
  have c2 : b.2.1 ≤ Y_n y := c2
  have c3 : b.2.2.1 ≤ Y_T y := c3
  have c4 : b.2.2.2 ≤ Y_V y := c4
  obtain ⟨n1, n2, n3⟩ := hn
  refine ⟨fun k x1 x2 => ?_, fun k x1 x2 => ?_, fun k x1 x2 => ?_⟩
  · rw [n1] at x2; exact G_at_m e (by omega) x2 (h.1 k x1 x2)
  · rw [n2] at x2; exact G_t_m e (by omega) x2 (h.2.1 k x1 x2)
  · rw [n3] at x2; exact G_u_m e (by omega) x2 (h.2.2 k x1 x2)
/-- a jump's code, but for where it leads -/
def Jf (y : y_X) (k : Nat) (op o1 : Int32) (p : Nat) (c : List (Nat × Nat)) : Prop := Y_R y 13 k = op ∧ Y_a y 0 k = p ∧ Y_C y p = o1 ∧ Y_a y 0 (k + 1) = p + 2 ∧ Y_k y 0 k = c ∧ Y_k y 0 (k + 1) = c ∧ k < Y_n y ∧ p + 2 ≤ Y_z y
variable {op o1 : Int32}
theorem Jf_ex (e : G_ex b0 y y') (h : Jf y k op o1 p c) : Jf y' k op o1 p c := by
  have n := G_n e
  obtain ⟨h1, h2, h3, h4, h5, h6, h7, h8⟩ := h
  have z := e.1.2.1
  obtain ⟨f1, f2⟩ := e.2.2.2.2.2.1 k (Nat.zero_le _) (by omega)
  obtain ⟨f3, f4⟩ := e.2.2.2.2.2.1 (k + 1) (Nat.zero_le _) (by omega)
  exact ⟨(e.2.2.1 13 k (by decide) (by decide) (Nat.zero_le _) h7).trans h1, f1.trans h2, (e.2.1 p (Nat.zero_le _) (by omega)).trans h3, f3.trans h4, f2.trans h5, f4.trans h6, by omega, by omega⟩
theorem Jf_ch {q : Nat} (hq : p ≠ q) (h : Jf y k op o1 p c) : Jf (Y_ch q v y) k op o1 p c := by
  obtain ⟨h1, h2, h3, h4, h5, h6, h7, h8⟩ := h
  exact ⟨h1, h2, (f1_ne hq : f1 (Y_C y) q v p = Y_C y p).trans h3, h4, h5, h6, h7, h8⟩
theorem Jf_rc {q : Nat} (h : Jf y k op o1 p c) : Jf (Y_rc 14 q v y) k op o1 p c := by
  obtain ⟨h1, h2, h3, h4, h5, h6, h7, h8⟩ := h
  exact ⟨(by rw [f2_ne (by decide)] : f2 (Y_R y) 14 q v 13 k = Y_R y 13 k).trans h1, h2, h3, h4, h5, h6, h7, h8⟩
theorem Jf_em {w a : Int32} (i : gI y) : Jf (Y_em [o1, w] (op, a, 0, 0, -1) (Y_c y) y) (Y_n y) op o1 (Y_z y) (Y_c y) := by
  obtain ⟨n1, n2, n3, n4⟩ := Y_n_em (y := y) (l := [o1, w]) (o := (op, a, 0, 0, -1)) (c := Y_c y)
  refine ⟨(r5_at (R := Y_R y) (k := Y_n y) (o := (op, a, 0, 0, -1))).1, ?_, cl_at (i := 0) (show 0 < 2 by decide), ?_, ?_, ?_, by rw [n1]; omega, Nat.le_refl _⟩
  · show f2 (Y_a y) 0 (Y_n y + 1) (Y_z y + 2) 0 (Y_n y) = Y_z y
    rw [f2_at, if_neg (by omega)]; exact i.1.1
  · show f2 (Y_a y) 0 (Y_n y + 1) (Y_z y + 2) 0 (Y_n y + 1) = Y_z y + 2
    rw [f2_eq, f1_eq]
  · show f2 (Y_k y) 0 (Y_n y + 1) (Y_c y) 0 (Y_n y) = Y_c y
    rw [f2_at, if_neg (by omega)]; exact i.1.2
  · show f2 (Y_k y) 0 (Y_n y + 1) (Y_c y) 0 (Y_n y + 1) = Y_c y
    rw [f2_eq, f1_eq]
/-- a jump that leads where it should -/
theorem G_jp {t : Nat} (hop : (op = 20 ∧ o1 = 12) ∨ (op = 21 ∧ o1 = 13)) (hw : k_wf (gK y) c) (h : Jf y k op o1 p c) (h14 : Y_R y 14 k = nI t) (ht : t < 1000000) (hC : Y_C y (p + 1) = nI (Y_a y 0 t)) (t1 : 9000 * Y_B y ≤ t) (t2 : t ≤ Y_n y) (t3 : Y_k y 0 t = c) (b1 : b.1 ≤ p) (b2 : b.2.1 ≤ t) : G_at b y k := by
  obtain ⟨h1, h2, h3, h4, h5, h6, h7, h8⟩ := h
  have ct : (nI t).toNatClampNeg = t := y_cl (by omega)
  have hen : k_en (gK y) (Y_R y) k = [o1, nI (Y_a y 0 t)] := by
    unfold k_en
    rw [h1, h14, ct]
    rcases hop with ⟨q1, q2⟩ | ⟨q1, q2⟩
    · rw [q1, q2, k_e_20]; rfl
    · rw [q1, q2, k_e_21]; rfl
  have n18 : ¬ op = 18 := by rcases hop with ⟨q, -⟩ | ⟨q, -⟩ <;> rw [q] <;> decide
  have n22 : ¬ op = 22 := by rcases hop with ⟨q, -⟩ | ⟨q, -⟩ <;> rw [q] <;> decide
  have n23 : ¬ op = 23 := by rcases hop with ⟨q, -⟩ | ⟨q, -⟩ <;> rw [q] <;> decide
  have n24 : ¬ op = 24 := by rcases hop with ⟨q, -⟩ | ⟨q, -⟩ <;> rw [q] <;> decide
  have n8 : ¬ op = 8 := by rcases hop with ⟨q, -⟩ | ⟨q, -⟩ <;> rw [q] <;> decide
  have n13 : ¬ op = 13 := by rcases hop with ⟨q, -⟩ | ⟨q, -⟩ <;> rw [q] <;> decide
  refine ⟨fun _ => ?_, fun q => absurd (h1.symm.trans q) n18, fun q => absurd (h1.symm.trans q) n22, by rw [h2]; exact b1, fun _ => by rw [h14, ct]; exact b2⟩
  unfold k_at
  rw [hen, h1, h14]
  refine ⟨⟨?_, fun j hj => ?_⟩, fun _ _ _ => ⟨?_, ?_⟩, fun _ _ _ _ _ => ?_, fun _ => ⟨t, rfl, t1, Nat.lt_succ_of_le t2, ?_⟩, fun q => absurd q n22, fun q => absurd q n23, fun q => absurd q n24, ⟨fun q => absurd q n8, fun q => absurd q n13⟩, fun q => absurd q n18, ?_⟩
  · show Y_a y 0 k + 2 ≤ Y_z y
    rw [h2]; exact h8
  · show Y_C y (Y_a y 0 k + j) = _
    rw [h2]
    have hj : j < 2 := hj
    have cs : j = 0 ∨ j = 1 := by omega
    rcases cs with rfl | rfl
    · exact h3
    · exact hC
  · show Y_a y 0 (k + 1) = Y_a y 0 k + 2
    rw [h4, h2]
  · show k + 1 < Y_n y + 1
    omega
  · show Y_k y 0 (k + 1) = Y_k y 0 k
    rw [h5, h6]
  · show Y_k y 0 t = Y_k y 0 k
    rw [t3, h5]
  · show k_wf (gK y) (Y_k y 0 k)
    rw [h5]; exact hw
theorem gI_n (i : gI y) (hz : Y_z y < 100000) : Y_n y < 200000 ∧ 9000 * Y_B y ≤ Y_n y := by
  obtain ⟨-, -, i3, -, -, i6⟩ := i
  unfold Y_n
  omega
/-- a jump's hole filled, on both sides -/
def Y_pj (p : Nat) (v : Int32) (k : Nat) (v' : Int32) (y : y_X) : y_X := Y_ch p v (Y_rc 14 k v' y)
section
variable {v' : Int32}
theorem pj_z : Y_z (Y_pj p v k v' y) = Y_z y := rfl
theorem pj_n : Y_n (Y_pj p v k v' y) = Y_n y := rfl
theorem pj_T : Y_T (Y_pj p v k v' y) = Y_T y := rfl
theorem pj_V : Y_V (Y_pj p v k v' y) = Y_V y := rfl
theorem pj_B : Y_B (Y_pj p v k v' y) = Y_B y := rfl
theorem pj_c : Y_c (Y_pj p v k v' y) = Y_c y := rfl
theorem pj_a : Y_a (Y_pj p v k v' y) = Y_a y := rfl
theorem pj_k : Y_k (Y_pj p v k v' y) = Y_k y := rfl
theorem pj_C : Y_C (Y_pj p v k v' y) = f1 (Y_C y) p v := rfl
theorem pj_R : Y_R (Y_pj p v k v' y) = f2 (Y_R y) 14 k v' := rfl
theorem pj_v (h : gv E y) : gv E (Y_pj p v k v' y) := gv_cg rfl rfl rfl rfl rfl h
theorem pj_I (i : gI y) : gI (Y_pj p v k v' y) := I_ch (I_rc i (by decide))
theorem pj_p (hk : k < b.2.1) (hp : p < b.1) : G_ex b y (Y_pj p v k v' y) := G_tr (Gp_rc (fun _ _ => hk) (fun h _ => absurd h (by decide)) (fun h _ => absurd h (by decide))) (Gp_ch hp)
theorem pj_x (e : G_ex b x y) (hk : Y_n x ≤ k) (hp : Y_z x ≤ p) : G_ex b x (Y_pj p v k v' y) := Gx_ch (Gx_rc e (fun _ _ => hk) (fun h _ => absurd h (by decide)) (fun h _ => absurd h (by decide))) hp
theorem pj_J {k' p' : Nat} (hq : p' ≠ p) (h : Jf y k' op o1 p' c) : Jf (Y_pj p v k v' y) k' op o1 p' c := Jf_ch hq (Jf_rc h)
end
/-- an if without an else: the hole filled -/
theorem gx_if1 (hz : Y_z y < 100000) (h : gx E (Y_em [13, -1] (21, 0, 0, 0, -1) (Y_c x) x) y) : gx E x (Y_pj (Y_z x + 1) (nI (Y_z y)) (Y_n x) (nI (Y_n y)) y) := fun q2 q3 i gv0 => by
  obtain ⟨n1, n2, n3, n4⟩ := Y_n_em (y := x) (l := [13, -1]) (o := (21, 0, 0, 0, -1)) (c := Y_c x)
  have I4 := em_I (l := [13, -1]) (o := (21, 0, 0, 0, -1)) i (show 1 ≤ 2 by decide) i.2.1
  have J4 := Jf_em (op := 21) (o1 := 13) (w := -1) (a := 0) i
  have e34 : G_ex b0 x (Y_em [13, -1] (21, 0, 0, 0, -1) (Y_c x) x) := em_ex
  have z4 : Y_z (Y_em [13, -1] (21, 0, 0, 0, -1) (Y_c x) x) = Y_z x + 2 := rfl
  have c4 : Y_c (Y_em [13, -1] (21, 0, 0, 0, -1) (Y_c x) x) = Y_c x := rfl
  have B4 : Y_B (Y_em [13, -1] (21, 0, 0, 0, -1) (Y_c x) x) = Y_B x := n4
  have gv4 : gv E (Y_em [13, -1] (21, 0, 0, 0, -1) (Y_c x) x) := gv_cg rfl rfl rfl rfl rfl gv0
  generalize Y_em [13, -1] (21, 0, 0, 0, -1) (Y_c x) x = x4 at *
  obtain ⟨⟨I5, gv5⟩, c5, e45, s45⟩ := h q2 q3 I4 gv4
  obtain ⟨b5, b6⟩ := gI_n I5 hz
  have nn := G_n e45
  have b34 := b_ex e34
  have e56 : G_ex (bs x4) y (Y_pj (Y_z x + 1) (nI (Y_z y)) (Y_n x) (nI (Y_n y)) y) := pj_p (by show Y_n x < Y_n x4; omega) (by show Y_z x + 1 < Y_z x4; omega)
  have e36 : G_ex b0 x (Y_pj (Y_z x + 1) (nI (Y_z y)) (Y_n x) (nI (Y_n y)) y) := pj_x (G_tr e34 e45) (Nat.le_refl _) (Nat.le_succ _)
  have J6 : Jf (Y_pj (Y_z x + 1) (nI (Y_z y)) (Y_n x) (nI (Y_n y)) y) (Y_n x) 21 13 (Y_z x) (Y_c x) := pj_J (by omega) (Jf_ex e45 J4)
  have s46 := G_st_m (y := x4) e56 ⟨pj_n, pj_T, pj_V⟩ b_rf s45
  have I6 : gI (Y_pj (Y_z x + 1) (nI (Y_z y)) (Y_n x) (nI (Y_n y)) y) := pj_I I5
  refine ⟨⟨I6, pj_v gv5⟩, pj_c.trans (c5.trans c4), e36, fun k h1 h2 => ?_, fun t h1 h2 => ?_, fun u h1 h2 => ?_⟩
  · by_cases q : k = Y_n x
    · subst q
      refine G_jp (t := Y_n y) (Or.inr ⟨rfl, rfl⟩) ?_ J6 ?_ (by omega) ?_ (by rw [pj_B]; exact b6) (by rw [pj_n]; exact Nat.le_refl _) ?_ (Nat.le_refl _) (by show Y_n x ≤ Y_n y; omega)
      · rw [← c4, ← c5, ← pj_c (p := Y_z x + 1) (v := nI (Y_z y)) (k := Y_n x) (v' := nI (Y_n y)) (y := y)]; exact I6.2.1
      · rw [pj_R, f2_eq, f1_eq]
      · rw [pj_C, pj_a, f1_eq, I5.1.1]
      · rw [pj_k, I5.1.2, c5, c4]
    · exact G_at_w b34 (s46.1 k (by omega) h2)
  · exact G_t_w b34 (s46.2.1 t (by omega) h2)
  · exact G_u_w b34 (s46.2.2 u (by omega) h2)
/-- an if with an else: the first hole filled, the second open -/
def Y_e2 (x y : y_X) : y_X := Y_pj (Y_z x + 1) (nI (Y_z y + 2)) (Y_n x) (nI (Y_n y + 1)) (Y_em [12, -1] (20, 0, 0, 0, -1) (Y_c y) y)
theorem gx_if2 {z : y_X} (hz : Y_z z < 100000) (f2' : Y_2 z = false → Y_2 y = false) (f3' : Y_3 z = false → Y_3 y = false) (h : gx E (Y_em [13, -1] (21, 0, 0, 0, -1) (Y_c x) x) y) (h' : gx E (Y_e2 x y) z) : gx E x (Y_pj (Y_z y + 1) (nI (Y_z z)) (Y_n y) (nI (Y_n z)) z) := fun q2 q3 i gv0 => by
  obtain ⟨n1, n2, n3, n4⟩ := Y_n_em (y := x) (l := [13, -1]) (o := (21, 0, 0, 0, -1)) (c := Y_c x)
  have I4 := em_I (l := [13, -1]) (o := (21, 0, 0, 0, -1)) i (show 1 ≤ 2 by decide) i.2.1
  have J4 := Jf_em (op := 21) (o1 := 13) (w := -1) (a := 0) i
  have e34 : G_ex b0 x (Y_em [13, -1] (21, 0, 0, 0, -1) (Y_c x) x) := em_ex
  have z4 : Y_z (Y_em [13, -1] (21, 0, 0, 0, -1) (Y_c x) x) = Y_z x + 2 := rfl
  have c4 : Y_c (Y_em [13, -1] (21, 0, 0, 0, -1) (Y_c x) x) = Y_c x := rfl
  have gv4 : gv E (Y_em [13, -1] (21, 0, 0, 0, -1) (Y_c x) x) := gv_cg rfl rfl rfl rfl rfl gv0
  generalize Y_em [13, -1] (21, 0, 0, 0, -1) (Y_c x) x = x4 at *
  obtain ⟨⟨I5, gv5⟩, c5, e45, s45⟩ := h (f2' q2) (f3' q3) I4 gv4
  have b34 := b_ex e34
  have nn := G_n e45
  have nz := e45.1.2.1
  -- the second jump
  obtain ⟨m1, m2, m3, m4⟩ := Y_n_em (y := y) (l := [12, -1]) (o := (20, 0, 0, 0, -1)) (c := Y_c y)
  have I7 := em_I (l := [12, -1]) (o := (20, 0, 0, 0, -1)) I5 (show 1 ≤ 2 by decide) I5.2.1
  have J7 := Jf_em (op := 20) (o1 := 12) (w := -1) (a := 0) I5
  have e57 : G_ex (bs x4) y (Y_em [12, -1] (20, 0, 0, 0, -1) (Y_c y) y) := em_ex
  have e57' : G_ex b0 y (Y_em [12, -1] (20, 0, 0, 0, -1) (Y_c y) y) := em_ex
  have z7 : Y_z (Y_em [12, -1] (20, 0, 0, 0, -1) (Y_c y) y) = Y_z y + 2 := rfl
  have c7 : Y_c (Y_em [12, -1] (20, 0, 0, 0, -1) (Y_c y) y) = Y_c y := rfl
  have a7 : Y_a (Y_em [12, -1] (20, 0, 0, 0, -1) (Y_c y) y) 0 (Y_n y + 1) = Y_z y + 2 := J7.2.2.2.1
  have k7 : Y_k (Y_em [12, -1] (20, 0, 0, 0, -1) (Y_c y) y) 0 (Y_n y + 1) = Y_c y := J7.2.2.2.2.2.1
  have gv7 : gv E (Y_em [12, -1] (20, 0, 0, 0, -1) (Y_c y) y) := gv_cg rfl rfl rfl rfl rfl gv5
  unfold Y_e2 at h'
  generalize Y_em [12, -1] (20, 0, 0, 0, -1) (Y_c y) y = x7 at *
  have J47 := Jf_ex e57' (Jf_ex e45 J4)
  have J47' : Jf (Y_pj (Y_z x + 1) (nI (Y_z y + 2)) (Y_n x) (nI (Y_n y + 1)) x7) (Y_n x) 21 13 (Y_z x) (Y_c x) := pj_J (by omega) J47
  have J7' : Jf (Y_pj (Y_z x + 1) (nI (Y_z y + 2)) (Y_n x) (nI (Y_n y + 1)) x7) (Y_n y) 20 12 (Y_z y) (Y_c y) := pj_J (by omega) J7
  have e77 : G_ex (bs x4) x7 (Y_pj (Y_z x + 1) (nI (Y_z y + 2)) (Y_n x) (nI (Y_n y + 1)) x7) := pj_p (by show Y_n x < Y_n x4; omega) (by show Y_z x + 1 < Y_z x4; omega)
  have e37 : G_ex b0 x (Y_pj (Y_z x + 1) (nI (Y_z y + 2)) (Y_n x) (nI (Y_n y + 1)) x7) := pj_x (G_tr e34 (G_tr e45 e57')) (Nat.le_refl _) (Nat.le_succ _)
  have I7' : gI (Y_pj (Y_z x + 1) (nI (Y_z y + 2)) (Y_n x) (nI (Y_n y + 1)) x7) := pj_I I7
  have gv7' : gv E (Y_pj (Y_z x + 1) (nI (Y_z y + 2)) (Y_n x) (nI (Y_n y + 1)) x7) := pj_v gv7
  have z8 : Y_z (Y_pj (Y_z x + 1) (nI (Y_z y + 2)) (Y_n x) (nI (Y_n y + 1)) x7) = Y_z y + 2 := pj_z.trans z7
  have n8 : Y_n (Y_pj (Y_z x + 1) (nI (Y_z y + 2)) (Y_n x) (nI (Y_n y + 1)) x7) = Y_n y + 1 := pj_n.trans m1
  have t8 : Y_T (Y_pj (Y_z x + 1) (nI (Y_z y + 2)) (Y_n x) (nI (Y_n y + 1)) x7) = Y_T y := pj_T.trans m2
  have v8 : Y_V (Y_pj (Y_z x + 1) (nI (Y_z y + 2)) (Y_n x) (nI (Y_n y + 1)) x7) = Y_V y := pj_V.trans m3
  have c8 : Y_c (Y_pj (Y_z x + 1) (nI (Y_z y + 2)) (Y_n x) (nI (Y_n y + 1)) x7) = Y_c y := pj_c.trans c7
  have H1 : Y_R (Y_pj (Y_z x + 1) (nI (Y_z y + 2)) (Y_n x) (nI (Y_n y + 1)) x7) 14 (Y_n x) = nI (Y_n y + 1) := by
    rw [pj_R, f2_eq, f1_eq]
  have H2 : Y_C (Y_pj (Y_z x + 1) (nI (Y_z y + 2)) (Y_n x) (nI (Y_n y + 1)) x7) (Y_z x + 1) = nI (Y_z y + 2) := by
    rw [pj_C, f1_eq]
  have H3 : Y_a (Y_pj (Y_z x + 1) (nI (Y_z y + 2)) (Y_n x) (nI (Y_n y + 1)) x7) 0 (Y_n y + 1) = Y_z y + 2 := by rw [pj_a]; exact a7
  have H4 : Y_k (Y_pj (Y_z x + 1) (nI (Y_z y + 2)) (Y_n x) (nI (Y_n y + 1)) x7) 0 (Y_n y + 1) = Y_c y := by rw [pj_k]; exact k7
  have e58 := G_tr e57 e77
  generalize Y_pj (Y_z x + 1) (nI (Y_z y + 2)) (Y_n x) (nI (Y_n y + 1)) x7 = x8 at *
  obtain ⟨⟨I9, gv9⟩, c9, e89, s89⟩ := h' q2 q3 I7' gv7'
  obtain ⟨b5, b6⟩ := gI_n I9 hz
  have nn9 := G_n e89
  have nz9 := e89.1.2.1
  have eA : G_ex (bs x8) z (Y_pj (Y_z y + 1) (nI (Y_z z)) (Y_n y) (nI (Y_n z)) z) := pj_p (by show Y_n y < Y_n x8; omega) (by show Y_z y + 1 < Y_z x8; omega)
  have eB : G_ex (bs x4) y (Y_pj (Y_z y + 1) (nI (Y_z z)) (Y_n y) (nI (Y_n z)) z) := pj_x (G_tr e58 (G_w b_0 e89)) (Nat.le_refl _) (Nat.le_succ _)
  have eC : G_ex b0 x (Y_pj (Y_z y + 1) (nI (Y_z z)) (Y_n y) (nI (Y_n z)) z) := pj_x (G_tr e37 e89) (by omega) (by omega)
  have I10 : gI (Y_pj (Y_z y + 1) (nI (Y_z z)) (Y_n y) (nI (Y_n z)) z) := pj_I I9
  have K1 : Jf (Y_pj (Y_z y + 1) (nI (Y_z z)) (Y_n y) (nI (Y_n z)) z) (Y_n x) 21 13 (Y_z x) (Y_c x) := pj_J (by omega) (Jf_ex e89 J47')
  have K2 : Jf (Y_pj (Y_z y + 1) (nI (Y_z z)) (Y_n y) (nI (Y_n z)) z) (Y_n y) 20 12 (Y_z y) (Y_c y) := pj_J (by omega) (Jf_ex e89 J7')
  have s8 := G_st_m (y := x8) eA ⟨pj_n, pj_T, pj_V⟩ b_rf s89
  have b38 : b_le (bs x) (bs x8) := b_ex e37
  have cz : Y_c z = Y_c x := c9.trans (c8.trans (c5.trans c4))
  have wf10 : k_wf (gK (Y_pj (Y_z y + 1) (nI (Y_z z)) (Y_n y) (nI (Y_n z)) z)) (Y_c x) := by rw [← cz, ← pj_c (p := Y_z y + 1) (v := nI (Y_z z)) (k := Y_n y) (v' := nI (Y_n z)) (y := z)]; exact I10.2.1
  refine ⟨⟨I10, pj_v gv9⟩, pj_c.trans cz, eC, fun k h1 h2 => ?_, fun t h1 h2 => ?_, fun u h1 h2 => ?_⟩
  · by_cases q : k = Y_n x
    · subst q
      refine G_jp (t := Y_n y + 1) (Or.inr ⟨rfl, rfl⟩) wf10 K1 ?_ (by omega) ?_ ?_ ?_ ?_ (Nat.le_refl _) (by show Y_n x ≤ Y_n y + 1; omega)
      · rw [pj_R, f2_at, if_neg (by omega), e89.2.2.1 14 _ (by decide) (by decide) (Nat.zero_le _) (by omega)]; exact H1
      · rw [pj_C, pj_a, f1_ne (by omega), e89.2.1 _ (Nat.zero_le _) (by omega), H2, (e89.2.2.2.2.2.1 (Y_n y + 1) (Nat.zero_le _) (by omega)).1, H3]
      · rw [pj_B]
        have := (gI_n I5 (by omega)).2
        have e1 : Y_B z = Y_B x8 := e89.1.1
        have e2 : Y_B x8 = Y_B y := e58.1.1
        rw [e1, e2]; omega
      · rw [pj_n]; omega
      · rw [pj_k, (e89.2.2.2.2.2.1 (Y_n y + 1) (Nat.zero_le _) (by omega)).2, H4, c5, c4]
    · by_cases q' : k < Y_n y
      · exact G_at_w b34 (G_at_m eB (by show Y_n x4 ≤ k; omega) q' (s45.1 k (by omega) q'))
      · by_cases q2 : k = Y_n y
        · subst q2
          refine G_jp (t := Y_n z) (Or.inl ⟨rfl, rfl⟩) (c := Y_c y) ?_ K2 ?_ (by omega) ?_ (by rw [pj_B]; exact b6) (by rw [pj_n]; exact Nat.le_refl _) ?_ (by show Y_z x ≤ Y_z y; omega) (by show Y_n x ≤ Y_n z; omega)
          · rw [c5, c4]; exact wf10
          · rw [pj_R, f2_eq, f1_eq]
          · rw [pj_C, pj_a, f1_eq, I9.1.1]
          · rw [pj_k, I9.1.2, cz, c5, c4]
        · exact G_at_w b38 (s8.1 k (by omega) h2)
  · by_cases q' : t < Y_T y
    · exact G_t_w b34 (G_t_m eB (by show Y_T x4 ≤ t; omega) q' (s45.2.1 t (by omega) q'))
    · exact G_t_w b38 (s8.2.1 t (by omega) h2)
  · by_cases q' : u < Y_V y
    · exact G_u_w b34 (G_u_m eB (by show Y_V x4 ≤ u; omega) q' (s45.2.2 u (by omega) q'))
    · exact G_u_w b38 (s8.2.2 u (by omega) h2)
/-- a while: back to its head; the hole filled -/
def Y_wh (x0 x y : y_X) : y_X := Y_pj (Y_z x + 1) (nI (Y_z y + 2)) (Y_n x) (nI (Y_n y + 1)) (Y_em [12, nI (Y_z x0)] (20, nI (Y_n x0), 0, 0, -1) (Y_c y) y)
theorem gx_wh {x0 : y_X} (hz : Y_z y < 100000) (f2' : Y_2 y = false → Y_2 x = false) (f3' : Y_3 y = false → Y_3 x = false) (h0 : gx E x0 x) (h : gx E (Y_em [13, -1] (21, 0, 0, 0, -1) (Y_c x) x) y) : gx E x0 (Y_wh x0 x y) := fun q2 q3 i00 gv00 => by
  obtain ⟨⟨i, gv0⟩, c0, e0, s0⟩ := h0 (f2' q2) (f3' q3) i00 gv00
  obtain ⟨n1, n2, n3, n4⟩ := Y_n_em (y := x) (l := [13, -1]) (o := (21, 0, 0, 0, -1)) (c := Y_c x)
  have I4 := em_I (l := [13, -1]) (o := (21, 0, 0, 0, -1)) i (show 1 ≤ 2 by decide) i.2.1
  have J4 := Jf_em (op := 21) (o1 := 13) (w := -1) (a := 0) i
  have e34 : G_ex b0 x (Y_em [13, -1] (21, 0, 0, 0, -1) (Y_c x) x) := em_ex
  have z4 : Y_z (Y_em [13, -1] (21, 0, 0, 0, -1) (Y_c x) x) = Y_z x + 2 := rfl
  have c4 : Y_c (Y_em [13, -1] (21, 0, 0, 0, -1) (Y_c x) x) = Y_c x := rfl
  have gv4 : gv E (Y_em [13, -1] (21, 0, 0, 0, -1) (Y_c x) x) := gv_cg rfl rfl rfl rfl rfl gv0
  generalize Y_em [13, -1] (21, 0, 0, 0, -1) (Y_c x) x = x4 at *
  obtain ⟨⟨I5, gv5⟩, c5, e45, s45⟩ := h q2 q3 I4 gv4
  obtain ⟨b5, b6⟩ := gI_n I5 hz
  have b34 := b_ex e34
  have b03 := b_ex e0
  have nn := G_n e45
  have nz := e45.1.2.1
  have nn0 := G_n e0
  have nz0 := e0.1.2.1
  obtain ⟨m1, m2, m3, m4⟩ := Y_n_em (y := y) (l := [12, nI (Y_z x0)]) (o := (20, nI (Y_n x0), 0, 0, -1)) (c := Y_c y)
  have I7 := em_I (l := [12, nI (Y_z x0)]) (o := (20, nI (Y_n x0), 0, 0, -1)) I5 (show 1 ≤ 2 by decide) I5.2.1
  have J7 := Jf_em (op := 20) (o1 := 12) (w := nI (Y_z x0)) (a := nI (Y_n x0)) I5
  have e57 : G_ex (bs x4) y (Y_em [12, nI (Y_z x0)] (20, nI (Y_n x0), 0, 0, -1) (Y_c y) y) := em_ex
  have e57' : G_ex b0 y (Y_em [12, nI (Y_z x0)] (20, nI (Y_n x0), 0, 0, -1) (Y_c y) y) := em_ex
  have H1 : Y_R (Y_em [12, nI (Y_z x0)] (20, nI (Y_n x0), 0, 0, -1) (Y_c y) y) 14 (Y_n y) = nI (Y_n x0) := (r5_at (R := Y_R y) (k := Y_n y) (o := (20, nI (Y_n x0), 0, 0, -1))).2.1
  have H2 : Y_C (Y_em [12, nI (Y_z x0)] (20, nI (Y_n x0), 0, 0, -1) (Y_c y) y) (Y_z y + 1) = nI (Y_z x0) := cl_at (i := 1) (show 1 < 2 by decide)
  have z7 : Y_z (Y_em [12, nI (Y_z x0)] (20, nI (Y_n x0), 0, 0, -1) (Y_c y) y) = Y_z y + 2 := rfl
  have c7 : Y_c (Y_em [12, nI (Y_z x0)] (20, nI (Y_n x0), 0, 0, -1) (Y_c y) y) = Y_c y := rfl
  have gv7 : gv E (Y_em [12, nI (Y_z x0)] (20, nI (Y_n x0), 0, 0, -1) (Y_c y) y) := gv_cg rfl rfl rfl rfl rfl gv5
  unfold Y_wh
  generalize Y_em [12, nI (Y_z x0)] (20, nI (Y_n x0), 0, 0, -1) (Y_c y) y = x7 at *
  have J47 := Jf_ex e57' (Jf_ex e45 J4)
  have K1 : Jf (Y_pj (Y_z x + 1) (nI (Y_z y + 2)) (Y_n x) (nI (Y_n y + 1)) x7) (Y_n x) 21 13 (Y_z x) (Y_c x) := pj_J (by omega) J47
  have K2 : Jf (Y_pj (Y_z x + 1) (nI (Y_z y + 2)) (Y_n x) (nI (Y_n y + 1)) x7) (Y_n y) 20 12 (Y_z y) (Y_c y) := pj_J (by omega) J7
  have e77 : G_ex (bs x4) x7 (Y_pj (Y_z x + 1) (nI (Y_z y + 2)) (Y_n x) (nI (Y_n y + 1)) x7) := pj_p (by show Y_n x < Y_n x4; omega) (by show Y_z x + 1 < Y_z x4; omega)
  have e37 : G_ex b0 x (Y_pj (Y_z x + 1) (nI (Y_z y + 2)) (Y_n x) (nI (Y_n y + 1)) x7) := pj_x (G_tr e34 (G_tr e45 e57')) (Nat.le_refl _) (Nat.le_succ _)
  have I8 : gI (Y_pj (Y_z x + 1) (nI (Y_z y + 2)) (Y_n x) (nI (Y_n y + 1)) x7) := pj_I I7
  have e58 := G_tr e57 e77
  have s48 : ∀ k, Y_n x4 ≤ k → k < Y_n y → G_at (bs x4) (Y_pj (Y_z x + 1) (nI (Y_z y + 2)) (Y_n x) (nI (Y_n y + 1)) x7) k := fun k x1 x2 => G_at_m e58 x1 x2 (s45.1 k x1 x2)
  have e08 := G_tr e0 e37
  have cz : Y_c x7 = Y_c x := c7.trans (c5.trans c4)
  have wf8 : k_wf (gK (Y_pj (Y_z x + 1) (nI (Y_z y + 2)) (Y_n x) (nI (Y_n y + 1)) x7)) (Y_c x) := by rw [← cz, ← pj_c (p := Y_z x + 1) (v := nI (Y_z y + 2)) (k := Y_n x) (v' := nI (Y_n y + 1)) (y := x7)]; exact I8.2.1
  have Bx : Y_B x7 = Y_B x := e57.1.1.trans (e45.1.1.trans e34.1.1)
  refine ⟨⟨I8, pj_v gv7⟩, pj_c.trans (cz.trans c0), e08, fun k h1 h2 => ?_, fun t h1 h2 => ?_, fun u h1 h2 => ?_⟩
  · rw [pj_n] at h2
    by_cases q0 : k < Y_n x
    · exact G_at_m (G_w b_0 e37) h1 q0 (s0.1 k h1 q0)
    · by_cases q : k = Y_n x
      · subst q
        refine G_jp (t := Y_n y + 1) (Or.inr ⟨rfl, rfl⟩) wf8 K1 ?_ (by omega) ?_ ?_ ?_ ?_ nz0 (by show Y_n x0 ≤ Y_n y + 1; omega)
        · rw [pj_R, f2_eq, f1_eq]
        · rw [pj_C, pj_a, f1_eq, J7.2.2.2.1]
        · rw [pj_B]
          have : Y_B x7 = Y_B y := e57.1.1
          rw [this]; omega
        · rw [pj_n]; omega
        · rw [pj_k, J7.2.2.2.2.2.1, c5, c4]
      · by_cases q' : k < Y_n y
        · exact G_at_w (b_tr b03 b34) (s48 k (by omega) q')
        · have q2 : k = Y_n y := by omega
          subst q2
          have hA : Y_a x7 0 (Y_n x0) = Y_z x0 := by
            rw [(e57'.2.2.2.2.2.1 (Y_n x0) (Nat.zero_le _) (by omega)).1, (e45.2.2.2.2.2.1 (Y_n x0) (Nat.zero_le _) (by omega)).1, (e34.2.2.2.2.2.1 (Y_n x0) (Nat.zero_le _) (by omega)).1, (e0.2.2.2.2.2.1 (Y_n x0) (Nat.zero_le _) (by omega)).1]
            exact i00.1.1
          have hK : Y_k x7 0 (Y_n x0) = Y_c x0 := by
            rw [(e57'.2.2.2.2.2.1 (Y_n x0) (Nat.zero_le _) (by omega)).2, (e45.2.2.2.2.2.1 (Y_n x0) (Nat.zero_le _) (by omega)).2, (e34.2.2.2.2.2.1 (Y_n x0) (Nat.zero_le _) (by omega)).2, (e0.2.2.2.2.2.1 (Y_n x0) (Nat.zero_le _) (by omega)).2]
            exact i00.1.2
          refine G_jp (t := Y_n x0) (Or.inl ⟨rfl, rfl⟩) (c := Y_c y) ?_ K2 ?_ (by omega) ?_ ?_ ?_ ?_ (by show Y_z x0 ≤ Y_z y; omega) (Nat.le_refl _)
          · rw [c5, c4]; exact wf8
          · rw [pj_R, f2_at, if_neg (by omega)]; exact H1
          · rw [pj_C, pj_a, f1_ne (by omega), hA]; exact H2
          · rw [pj_B]
            have e1 : Y_B x = Y_B x0 := e0.1.1
            rw [Bx, e1]
            exact (gI_n i00 (by omega)).2
          · rw [pj_n]; omega
          · rw [pj_k, hK, c5, c4]; exact c0.symm
  · rw [pj_T] at h2
    by_cases q0 : t < Y_T x
    · exact G_t_m (G_w b_0 e37) h1 q0 (s0.2.1 t h1 q0)
    · exact G_t_w (b_tr b03 b34) (G_t_m e58 (by show Y_T x4 ≤ t; omega) (by omega) (s45.2.1 t (by omega) (by omega)))
  · rw [pj_V] at h2
    by_cases q0 : u < Y_V x
    · exact G_u_m (G_w b_0 e37) h1 q0 (s0.2.2 u h1 q0)
    · exact G_u_w (b_tr b03 b34) (G_u_m e58 (by show Y_V x4 ≤ u; omega) (by omega) (s45.2.2 u (by omega) (by omega)))
end YH1
