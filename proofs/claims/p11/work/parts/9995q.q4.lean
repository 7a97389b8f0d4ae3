/-! OBJECTIONS MADE, SETTLED, JOINED in both. -/
section TQ4
variable {K : k_K} {N : Nat → Nat} {s s' : f_S3} {O : Nat × Nat} {M M' : e_M} {F F' : e_F} {p : Nat} {st ra : Int32}
def mk_M (M : e_M) : e_M := um (um M 55 (M 55 + 1)) 54 (M 54 + 1)
def mk_F (i : Int32) (F : e_F) (k g d a c b : Int32) : e_F := uf (uf (uf (uf (uf (uf F 48 i k) 49 i g) 50 i d) 51 i a) 52 i c) 53 i (vp_nar .boolean b)
theorem vnb0 : vp_nar .boolean 0 = 0 := by decide
theorem vnb1 : vp_nar .boolean 1 = 1 := by decide
theorem mk_F_set (i : Int32) (F : e_F) (k g d a c : Int32) : uf (uf (mk_F i F k g d a 0 0) 52 i c) 53 i (vp_nar .boolean 1) = mk_F i F k g d a c 1 := by
  funext r j
  unfold mk_F
  simp only [uf_at2]
  by_cases q1 : r = 53 ∧ j = i.toNatClampNeg
  · rw [if_pos q1, if_pos q1]
  · rw [if_neg q1, if_neg q1]
    by_cases q2 : r = 52 ∧ j = i.toNatClampNeg
    · rw [if_pos q2, if_neg q1, if_pos q2]
    · simp only [if_neg q1, if_neg q2]
theorem r_makes {k g d a c b : Int32} {Q : Int32 → e_M → e_F → Prop} (h : w_makes k g d a c b M F Q) : ((M 55 = 100 ∨ M 54 = 8000) → Q 0 (um M 71 1) F) ∧ (¬ (M 55 = 100 ∨ M 54 = 8000) → Q (M 54 + 1) (mk_M M) (mk_F (M 54 + 1) F k g d a c b)) := by
  obtain ⟨h1, h2⟩ := h
  refine ⟨fun q => ?_, fun q => ?_⟩
  · by_cases z : M 55 = 100
    · exact h1 z
    · rcases q with q | q
      · exact absurd q z
      · exact (h2 z).2 q
  · have q1 : ¬ M 55 = 100 := fun z => q (Or.inl z)
    have q2 : ¬ M 54 = 8000 := fun z => q (Or.inr z)
    exact ((h2 q1).1 q2).2.2.2.2.2.2
theorem fg_row (hD : S_D s O M F) : (fg s (448 * 2 ^ O.2)).2.1 99 = s.2.1 99 := by
  funext j
  show b_uF s.2.1 99 (cp_x (s.2.1 99) (448 * 2 ^ O.2)) 99 j = _
  unfold b_uF
  rw [if_pos rfl]
  unfold cp_x
  by_cases q : j < 448 * 2 ^ O.2
  · rw [if_pos q]
  · rw [if_neg q]
    exact (hD.2.2.2 j (by have := hD.2.1.2.1; omega)).symm
theorem fg_ne {n k : Nat} (hk : k ≠ 99) : (fg s n).2.1 k = s.2.1 k := by
  show b_uF s.2.1 99 _ k = _
  unfold b_uF
  rw [if_neg hk]
/-- the row behind a make -/
theorem fmk_row {s1 : f_S3} {k g d a : Int32} {m : Nat} (hm : m ≤ 8000) (j : Nat) : (fmk k g d a s1 (nI m)).2.1 99 j = if j = 7 * m then k else if j = 7 * m + 1 then g else if j = 7 * m + 2 then d else if j = 7 * m + 3 then nI (m + 1) else if j = 7 * m + 4 then a else s1.2.1 99 j := by
  have e : ∀ r : Nat, r < 5 → (nI m * 7 + nI r).toNatClampNeg = 7 * m + r := fun r hr => by
    rw [show (7 : Int32) = nI 7 from rfl, pk_mul, nI_add, y_cl (by omega)]; omega
  have e0 : (nI m * 7 + 0).toNatClampNeg = 7 * m := e 0 (by decide)
  have e1 : (nI m * 7 + 1).toNatClampNeg = 7 * m + 1 := e 1 (by decide)
  have e2 : (nI m * 7 + 2).toNatClampNeg = 7 * m + 2 := e 2 (by decide)
  have e3 : (nI m * 7 + 3).toNatClampNeg = 7 * m + 3 := e 3 (by decide)
  have e4 : (nI m * 7 + 4).toNatClampNeg = 7 * m + 4 := e 4 (by decide)
  show uf (uf (uf (uf (uf s1.2.1 99 (nI m * 7 + 0) k) 99 (nI m * 7 + 1) g) 99 (nI m * 7 + 2) d) 99 (nI m * 7 + 3) (nI m + 1)) 99 (nI m * 7 + 4) a 99 j = _
  simp only [uf_at2, e0, e1, e2, e3, e4, true_and, y_1]
  by_cases q4 : j = 7 * m + 4
  · rw [if_pos q4, if_neg (by omega), if_neg (by omega), if_neg (by omega), if_neg (by omega), if_pos q4]
  rw [if_neg q4]
  by_cases q3 : j = 7 * m + 3
  · rw [if_pos q3, if_neg (by omega), if_neg (by omega), if_neg (by omega), if_pos q3]
  rw [if_neg q3]
  by_cases q2 : j = 7 * m + 2
  · rw [if_pos q2, if_neg (by omega), if_neg (by omega), if_pos q2]
  rw [if_neg q2]
  by_cases q1 : j = 7 * m + 1
  · rw [if_pos q1, if_neg (by omega), if_pos q1]
  rw [if_neg q1]
  by_cases q0 : j = 7 * m
  · rw [if_pos q0, if_pos q0]
  · rw [if_neg q0, if_neg q0, if_neg q1, if_neg q2, if_neg q3, if_neg q4]
theorem S_D_mk {s1 : f_S3} {O' : Nat × Nat} {k g d a : Int32} {m : Nat} (hD : S_D s O M F) (em : M 54 = nI m) (hm : m < 8000) (e1 : s1.1 23 = s.1 23) (r1 : s1.2.1 99 = s.2.1 99) (h7 : O'.2 ≤ 7) (hl : 7 * ((M 54).toInt + 1) ≤ ((448 * 2 ^ O'.2 : Nat) : Int)) : S_D (fmk k g d a s1 (nI m)) O' (mk_M M) (mk_F (M 54 + 1) F k g d a 0 0) := by
  obtain ⟨⟨d1, d2⟩, ⟨d3, d4, d5⟩, d6, d7⟩ := hD
  have e54 : (M 54).toInt = m := by rw [em]; exact fs_nI (by omega)
  have e55 : mk_M M 54 = nI (m + 1) := by show M 54 + 1 = _; rw [em]; exact y_1
  have e56 : (mk_M M 54).toInt = (m : Int) + 1 := by rw [e55, fs_nI (by omega)]; omega
  have ei : (M 54 + 1).toNatClampNeg = m + 1 := by rw [em, y_1]; exact y_cl (by omega)
  have fr : ∀ (r : Nat) (i : Nat), i ≠ m + 1 → mk_F (M 54 + 1) F k g d a 0 0 r i = F r i := fun r i hi => by
    unfold mk_F
    simp only [uf_at2, ei]
    rw [if_neg (fun q => hi q.2), if_neg (fun q => hi q.2), if_neg (fun q => hi q.2), if_neg (fun q => hi q.2), if_neg (fun q => hi q.2), if_neg (fun q => hi q.2)]
  refine ⟨⟨?_, ?_⟩, ⟨by rw [e56]; omega, by rw [e56]; omega, h7⟩, fun i hi => ?_, fun j hj => ?_⟩
  · show nI m + 1 = mk_M M 54
    rw [e55]; exact y_1
  · show s1.1 23 = M 56
    rw [e1]; exact d2
  · rw [e56] at hi
    by_cases q : i = m
    · subst q
      have z5 := d7 (7 * i + 5) (by omega)
      have z6 := d7 (7 * i + 6) (by omega)
      have w : ∀ (r : Nat) (v : Int32), mk_F (M 54 + 1) F k g d a 0 0 r (i + 1) = (if r = 53 then 0 else if r = 52 then 0 else if r = 51 then a else if r = 50 then d else if r = 49 then g else if r = 48 then k else F r (i + 1)) := fun r v => by
        unfold mk_F
        simp only [uf_at2, ei, and_true, vnb0]
      simp only [fmk_row (Nat.le_of_lt hm), r1, z5, z6, w _ 0]
      refine ⟨⟨?_, ?_, ?_, ?_, ?_, ?_, ?_⟩, ?_⟩ <;> simp
    · obtain ⟨⟨g0, g1, g2, g3, g4, g5, g6⟩, g7⟩ := d6 i (by omega)
      have low : ∀ r : Nat, r < 7 → (fmk k g d a s1 (nI m)).2.1 99 (7 * i + r) = s.2.1 99 (7 * i + r) := fun r hr => by
        rw [fmk_row (Nat.le_of_lt hm), if_neg (by omega), if_neg (by omega), if_neg (by omega), if_neg (by omega), if_neg (by omega), r1]
      have lo0 := low 0 (by decide)
      rw [Nat.add_zero] at lo0
      simp only [fr _ (i + 1) (by omega)]
      exact ⟨⟨lo0.trans g0, (low 1 (by decide)).trans g1, (low 2 (by decide)).trans g2, (low 3 (by decide)).trans g3, (low 4 (by decide)).trans g4, (low 5 (by decide)).trans g5, (low 6 (by decide)).trans g6⟩, g7⟩
  · rw [e56] at hj
    rw [fmk_row (Nat.le_of_lt hm), if_neg (by omega), if_neg (by omega), if_neg (by omega), if_neg (by omega), if_neg (by omega), r1]
    exact d7 j (by omega)
theorem m_make {k g d a : Int32} (h : S_s K p st ra s O M F) {Q : Int32 → f_S3 → Nat × Nat → Prop} (hQ0 : (M 55 = 100 ∨ M 54 = 8000) → Q 0 s O) (hQ : ¬ (M 55 = 100 ∨ M 54 = 8000) → ∀ s' O', S_s K p st ra s' O' (mk_M M) (mk_F (M 54 + 1) F k g d a 0 0) → Q (M 54 + 1) s' O') : wY_X2_makeInTrial N k g d a s O Q := by
  have hh := h
  obtain ⟨⟨a1, a2, a3⟩, ⟨hD, ⟨⟨m1, m2, m3, m4, m5⟩, m6, m7, m8, m9⟩, hC⟩, ⟨hNN, hR, hT⟩, hd, hV⟩ := h
  have hD2 := hD
  obtain ⟨⟨d1, d2⟩, ⟨d3, d4, d5⟩, d6, d7⟩ := hD2
  obtain ⟨m, hm, em, em2, -⟩ := t_nat (x := M 54) (n := 8001) (by omega)
  obtain ⟨b, hb, eb, eb2, -⟩ := t_nat (x := M 55) (n := 101) (by omega)
  have q8 : M 54 = 8000 ↔ m = 8000 := by rw [em]; exact nI_eq (b := 8000) (by omega) (by omega)
  have q1 : M 55 = 100 ↔ b = 100 := by rw [eb]; exact nI_eq (b := 100) (by omega) (by omega)
  have l1 : s.1 22 - s.1 21 < 100 ↔ b < 100 := by rw [m7, eb]; exact y_lt (b := 100) (by omega) (by omega)
  have l8 : s.1 22 < 8000 ↔ m < 8000 := by rw [d1, em]; exact y_lt (b := 8000) (by omega) (by omega)
  unfold wY_X2_makeInTrial wY_X2_make
  refine ⟨fun q => ⟨by rw [d1]; exact d3.1, by rw [d1]; exact d3.2, by rw [d1]; exact d4, fun z => hQ0 (Or.inr (q8.mpr ?_)), fun z M1 O' ho h7 hl => ?_⟩, fun q => hQ0 (Or.inl (q1.mpr ?_))⟩
  · rw [l8] at z; omega
  · rw [l1] at q
    rw [l8] at z
    rw [d1] at hl ⊢
    have r99 : M1.2.1 99 = s.2.1 99 := by
      rcases ho with ⟨-, rfl⟩ | ⟨-, rfl⟩
      · rfl
      · exact fg_row hD
    have rn : ∀ r, r ≠ 99 → M1.2.1 r = s.2.1 r := fun r hr => by
      rcases ho with ⟨-, rfl⟩ | ⟨-, rfl⟩
      · rfl
      · exact fg_ne hr
    have e1 : M1.1 = s.1 := by rcases ho with ⟨-, rfl⟩ | ⟨-, rfl⟩ <;> rfl
    have nr : ∀ r, r ≠ 99 → (fmk k g d a M1 (M 54)).2.1 r = s.2.1 r := fun r hr => by
      rw [← rn r hr]
      show uf (uf (uf (uf (uf M1.2.1 99 _ k) 99 _ g) 99 _ d) 99 _ _) 99 _ a r = _
      rw [e_uf_ne hr, e_uf_ne hr, e_uf_ne hr, e_uf_ne hr, e_uf_ne hr]
    have ne : ∀ r, r ≠ 22 → (fmk k g d a M1 (M 54)).1 r = s.1 r := fun r hr => by
      rw [← e1]
      exact e_um_ne hr
    have fF : ∀ r, r ∉ [48, 49, 50, 51, 52, 53] → mk_F (M 54 + 1) F k g d a 0 0 r = F r := fun r hr => by
      simp only [List.mem_cons, List.not_mem_nil, or_false, not_or] at hr
      unfold mk_F
      rw [e_uf_ne hr.2.2.2.2.2, e_uf_ne hr.2.2.2.2.1, e_uf_ne hr.2.2.2.1, e_uf_ne hr.2.2.1, e_uf_ne hr.2.1, e_uf_ne hr.1]
    refine hQ (fun w => ?_) _ O' ⟨⟨(ne 49 (by decide)).trans a1, (ne 53 (by decide)).trans a2, (ne 54 (by decide)).trans a3⟩, ⟨?_, ⟨⟨(ne 36 (by decide)).trans m1, (ne 48 (by decide)).trans m2, (ne 31 (by decide)).trans m3, (ne 38 (by decide)).trans m4, (ne 37 (by decide)).trans m5⟩, fun j hj => ?_, ?_, ?_⟩, S_C_cg hC (ne 63 (by decide)) ⟨nr 20 (by decide), nr 21 (by decide), nr 22 (by decide)⟩ ⟨fF 18 (by decide), fF 19 (by decide)⟩ ⟨⟨ne 1 (by decide), ne 3 (by decide), ne 4 (by decide), ne 32 (by decide), ne 33 (by decide), ne 34 (by decide), ne 35 (by decide), ne 64 (by decide)⟩, nr 10 (by decide), nr 11 (by decide), nr 12 (by decide), nr 13 (by decide)⟩⟩, ⟨S_N_cg hNN ⟨nr 15 (by decide), nr 16 (by decide)⟩ rfl ⟨fF 57 (by decide), fF 58 (by decide)⟩, S_R_cg hR (nr 17 (by decide)) rfl ⟨fF 59 (by decide), fF 60 (by decide), fF 13 (by decide), fF 16 (by decide)⟩, S_T_cg hT (ne 51 (by decide)) (nr 18 (by decide)) ⟨rfl, rfl⟩ ⟨fF 20 (by decide), fF 61 (by decide), fF 63 (by decide), fF 64 (by decide), fF 65 (by decide), fF 66 (by decide)⟩⟩, (ne 50 (by decide)).trans hd, S_V_cg hV (ne 52 (by decide)) (nr 19 (by decide)) rfl (fF 68 (by decide))⟩
    · rcases w with w | w
      · rw [q1] at w; omega
      · rw [q8] at w; omega
    · have := S_D_mk (k := k) (g := g) (d := d) (a := a) hD em z (by rw [e1]) r99 h7 hl
      rw [← em] at this
      exact this
    · rw [nr 14 (by decide), fF 84 (by decide)]; exact m6 j hj
    · show M 54 + 1 - M1.1 21 = M 55 + 1
      rw [e1, ← m7, d1, Int32.sub_eq_add_neg, Int32.sub_eq_add_neg, Int32.add_assoc, Int32.add_assoc, Int32.add_comm 1]
    · show 0 ≤ (M 55 + 1).toInt ∧ (M 55 + 1).toInt ≤ 100
      rw [eb, y_1, fs_nI (by omega)]; omega
  · rw [l1] at q; omega
theorem m_exists (hD : S_D s O M F) {o : Int32} (ho : 1 ≤ o.toInt ∧ o.toInt ≤ (M 54).toInt) {Q : Int32 → f_S3 → Nat × Nat → Prop} (hQ : Q 1 s O) : wY_X2_exists N o s O Q := by
  refine ⟨fun q => ?_, fun _ => ⟨fun q => ?_, fun _ => hQ⟩⟩
  · rw [Int32.lt_iff_toInt_lt, show (1 : Int32).toInt = 1 by decide] at q; omega
  · rw [hD.1.1, Int32.lt_iff_toInt_lt] at q; omega
theorem m_exists0 {Q : Int32 → f_S3 → Nat × Nat → Prop} (hQ : Q 0 s O) : wY_X2_exists N 0 s O Q := ⟨fun _ => hQ, fun q => absurd (by decide) q⟩
theorem S_D_set {i : Nat} {c : Int32} (hD : S_D s O M F) (hi : (i : Int) < (M 54).toInt) : S_D (ff (ff s 99 (nI (7 * i + 6)) c) 99 (nI (7 * i + 5)) 1) O M (uf (uf F 52 (nI (i + 1)) c) 53 (nI (i + 1)) (vp_nar .boolean 1)) := by
  obtain ⟨d1, ⟨d3, d4, d5⟩, d6, d7⟩ := hD
  have e6 : (nI (7 * i + 6)).toNatClampNeg = 7 * i + 6 := y_cl (by omega)
  have e5 : (nI (7 * i + 5)).toNatClampNeg = 7 * i + 5 := y_cl (by omega)
  have e1 : (nI (i + 1)).toNatClampNeg = i + 1 := y_cl (by omega)
  have row : ∀ j, (ff (ff s 99 (nI (7 * i + 6)) c) 99 (nI (7 * i + 5)) 1).2.1 99 j = if j = 7 * i + 5 then 1 else if j = 7 * i + 6 then c else s.2.1 99 j := fun j => by
    show uf (uf s.2.1 99 (nI (7 * i + 6)) c) 99 (nI (7 * i + 5)) 1 99 j = _
    simp only [uf_at2, e5, e6, true_and]
  have fw : ∀ r j, uf (uf F 52 (nI (i + 1)) c) 53 (nI (i + 1)) (vp_nar .boolean 1) r j = if r = 53 ∧ j = i + 1 then 1 else if r = 52 ∧ j = i + 1 then c else F r j := fun r j => by simp only [uf_at2, e1, vnb1]
  refine ⟨d1, ⟨d3, d4, d5⟩, fun j hj => ?_, fun j hj => ?_⟩
  · obtain ⟨⟨g0, g1, g2, g3, g4, g5, g6⟩, g7⟩ := d6 j hj
    by_cases q : j = i
    · subst q
      refine ⟨⟨?_, ?_, ?_, ?_, ?_, ?_, ?_⟩, ?_⟩
      · rw [row, fw, if_neg (by omega), if_neg (by omega), if_neg (fun w => absurd w.1 (by decide)), if_neg (fun w => absurd w.1 (by decide))]; exact g0
      · rw [row, fw, if_neg (by omega), if_neg (by omega), if_neg (fun w => absurd w.1 (by decide)), if_neg (fun w => absurd w.1 (by decide))]; exact g1
      · rw [row, fw, if_neg (by omega), if_neg (by omega), if_neg (fun w => absurd w.1 (by decide)), if_neg (fun w => absurd w.1 (by decide))]; exact g2
      · rw [row, if_neg (by omega), if_neg (by omega)]; exact g3
      · rw [row, fw, if_neg (by omega), if_neg (by omega), if_neg (fun w => absurd w.1 (by decide)), if_neg (fun w => absurd w.1 (by decide))]; exact g4
      · rw [row, fw, if_pos rfl, if_pos ⟨rfl, rfl⟩]
      · rw [row, fw, if_neg (by omega), if_pos rfl, if_neg (fun w => absurd w.1 (by decide)), if_pos ⟨rfl, rfl⟩]
      · right; rw [fw, if_pos ⟨rfl, rfl⟩]
    · have n1 : ∀ r : Nat, ¬ (r = 53 ∧ j + 1 = i + 1) := fun r w => q (by omega)
      have n2 : ∀ r : Nat, ¬ (r = 52 ∧ j + 1 = i + 1) := fun r w => q (by omega)
      refine ⟨⟨?_, ?_, ?_, ?_, ?_, ?_, ?_⟩, ?_⟩
      · rw [row, fw, if_neg (by omega), if_neg (by omega), if_neg (n1 _), if_neg (n2 _)]; exact g0
      · rw [row, fw, if_neg (by omega), if_neg (by omega), if_neg (n1 _), if_neg (n2 _)]; exact g1
      · rw [row, fw, if_neg (by omega), if_neg (by omega), if_neg (n1 _), if_neg (n2 _)]; exact g2
      · rw [row, if_neg (by omega), if_neg (by omega)]; exact g3
      · rw [row, fw, if_neg (by omega), if_neg (by omega), if_neg (n1 _), if_neg (n2 _)]; exact g4
      · rw [row, fw, if_neg (by omega), if_neg (by omega), if_neg (n1 _), if_neg (n2 _)]; exact g5
      · rw [row, fw, if_neg (by omega), if_neg (by omega), if_neg (n1 _), if_neg (n2 _)]; exact g6
      · rw [fw, if_neg (n1 _), if_neg (n2 _)]; exact g7
  · rw [row, if_neg (by omega), if_neg (by omega)]; exact d7 j hj
theorem m_settle (h : S_s K p st ra s O M F) {o c : Int32} (ho : 1 ≤ o.toInt ∧ o.toInt ≤ (M 54).toInt) {Q : f_S3 → Nat × Nat → Prop} (hQ : ∀ s', S_s K p st ra s' O M (uf (uf F 52 o c) 53 o (vp_nar .boolean 1)) → Q s' O) : wY_X2_settle N o c s O Q := by
  obtain ⟨⟨a1, a2, a3⟩, ⟨hD, hM, hC⟩, ⟨hNN, hR, hT⟩, hd, hV⟩ := h
  obtain ⟨i, hi, e, e2, e3⟩ := t_ser ho
  have hb := hD.2.1
  have e1 : nI (i + 1) - 1 = nI i := y_sub (a := i + 1) (b := 1) (by omega) (by omega)
  have ix : ∀ r : Nat, (o - 1) * 7 + nI r = nI (7 * i + r) := fun r => by
    rw [e, e1, show (7 : Int32) = nI 7 from rfl, pk_mul, nI_add, Nat.mul_comm]
  have i5 : (o - 1) * 7 + 5 = nI (7 * i + 5) := ix 5
  have i6 : (o - 1) * 7 + 6 = nI (7 * i + 6) := ix 6
  refine m_exists hD ho ⟨fun q => absurd q (by decide), fun _ => ?_⟩
  rw [i5, i6]
  subst e
  refine ⟨vp_in_iff.mpr (by rw [fs_nI (by omega)]; omega), vp_in_iff.mpr (by rw [fs_nI (by omega)]; omega), hQ _ ⟨⟨a1, a2, a3⟩, ⟨S_D_set hD hi, S_M_cg hM ⟨rfl, rfl, rfl, rfl, rfl, rfl, rfl⟩ rfl ⟨rfl, rfl, rfl, rfl, rfl, rfl⟩ rfl, S_C_cg hC rfl ⟨rfl, rfl, rfl⟩ ⟨rfl, rfl⟩⟩, ⟨S_N_cg hNN ⟨rfl, rfl⟩ rfl ⟨rfl, rfl⟩, S_R_cg hR rfl rfl ⟨rfl, rfl, rfl, rfl⟩, S_T_cg hT rfl rfl ⟨rfl, rfl⟩ ⟨rfl, rfl, rfl, rfl, rfl, rfl⟩⟩, hd, S_V_cg hV rfl rfl rfl rfl⟩⟩
theorem S_s_23 (h : S_s K p st ra s O M F) : S_s K p st ra (fm s 23 (s.1 23 + 1)) O (um M 56 (M 56 + 1)) F := by
  obtain ⟨⟨a1, a2, a3⟩, ⟨⟨⟨d1, d2⟩, d3, d4, d5⟩, hM, hC⟩, ⟨hNN, hR, hT⟩, hd, hV⟩ := h
  refine ⟨⟨a1, a2, a3⟩, ⟨⟨⟨d1, ?_⟩, d3, d4, d5⟩, S_M_cg hM ⟨rfl, rfl, rfl, rfl, rfl, rfl, rfl⟩ rfl ⟨rfl, rfl, rfl, rfl, rfl, rfl⟩ rfl, S_C_cg hC rfl ⟨rfl, rfl, rfl⟩ ⟨rfl, rfl⟩⟩, ⟨S_N_cg hNN ⟨rfl, rfl⟩ rfl ⟨rfl, rfl⟩, S_R_cg hR rfl rfl ⟨rfl, rfl, rfl, rfl⟩, S_T_cg hT rfl rfl ⟨rfl, rfl⟩ ⟨rfl, rfl, rfl, rfl, rfl, rfl⟩⟩, hd, S_V_cg hV rfl rfl rfl rfl⟩
  show s.1 23 + 1 = M 56 + 1
  rw [d2]
/-- what the class raises for itself -/
theorem m_raiseNew {k g : Int32} (h : S_s K p st ra s O M F) {Q : f_S3 → Nat × Nat → Prop} (hQ0 : (M 55 = 100 ∨ M 54 = 8000) → ∀ s', S_s K p 3 0 s' O M F → Q s' O) (hQ : ¬ (M 55 = 100 ∨ M 54 = 8000) → ∀ s' O', S_s K p st (M 54 + 1) s' O' (mk_M M) (mk_F (M 54 + 1) F k g 0 (-1) 0 0) → Q s' O') : wY_X8_raiseNew N k g s O Q := by
  have hD := h.2.1.1
  have nz : ¬ M 54 + 1 = 0 := fun q => by
    obtain ⟨m, hm, em, em2, -⟩ := t_nat (x := M 54) (n := 8001) (by have := hD.2.1.1; omega)
    rw [em, y_1] at q
    have := (nI_eq (b := 0) (by omega) (by omega)).mp q
    omega
  exact m_make h (fun q => ⟨fun z => absurd rfl z, fun _ => hQ0 q _ (S_s_st (S_s_ra h))⟩) (fun q s' O' h' => ⟨fun _ => hQ q _ O' (S_s_ra h'), fun z => absurd z nz⟩)
end TQ4
