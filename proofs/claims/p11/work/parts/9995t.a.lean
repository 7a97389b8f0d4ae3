/-! THE OTHER CALLS: both courts answer alike and stay alike. -/
section ZA1
variable {K : k_K} {s : f_S3} {O : Nat × Nat} {M : e_M} {F : e_F} {N : Nat → Nat}
theorem uf2_a {f : Nat → Nat → Int32} {a b : Nat} {i v w : Int32} {j : Nat} (h : a ≠ b) : uf (uf f a i v) b i w a j = if j = i.toNatClampNeg then v else f a j := by
  rw [uf_row h, uf_at2]
  by_cases z : j = i.toNatClampNeg
  · rw [if_pos ⟨rfl, z⟩, if_pos z]
  · rw [if_neg (fun q => z q.2), if_neg z]
theorem uf2_b {f : Nat → Nat → Int32} {a b : Nat} {i v w : Int32} {j : Nat} (h : b ≠ a) : uf (uf f a i v) b i w b j = if j = i.toNatClampNeg then w else f b j := by
  rw [uf_at2]
  by_cases z : j = i.toNatClampNeg
  · rw [if_pos ⟨rfl, z⟩, if_pos z]
  · rw [if_neg (fun q => z q.2), if_neg z, uf_row h]
theorem fr_rf : R_fr s s := ⟨rfl, rfl, rfl, rfl⟩
theorem za_3 {p : Int32} : 3 ≤ p ↔ 2 < p := by
  rw [Int32.le_iff_toInt_le, Int32.lt_iff_toInt_lt, show (3 : Int32).toInt = 3 by decide, show (2 : Int32).toInt = 2 by decide]
  omega
theorem za_7 {p : Int32} : 7 ≤ p ↔ 6 < p := by
  rw [Int32.le_iff_toInt_le, Int32.lt_iff_toInt_lt, show (7 : Int32).toInt = 7 by decide, show (6 : Int32).toInt = 6 by decide]
  omega
theorem za_5 {p : Int32} : p ≤ 5 ↔ ¬ 5 < p := by
  rw [Int32.le_iff_toInt_le, Int32.lt_iff_toInt_lt]
  omega
theorem za_6 {p : Int32} : p ≤ 6 ↔ ¬ 7 ≤ p := by
  rw [Int32.le_iff_toInt_le, Int32.le_iff_toInt_le, show (7 : Int32).toInt = 7 by decide, show (6 : Int32).toInt = 6 by decide]
  omega
theorem za_2 {p : Int32} : p ≤ 2 ↔ ¬ 3 ≤ p := by
  rw [Int32.le_iff_toInt_le, Int32.le_iff_toInt_le, show (3 : Int32).toInt = 3 by decide, show (2 : Int32).toInt = 2 by decide]
  omega
/-- an instance's number, a kind's number -/
theorem za_i {p : Int32} {Q : Int32 → f_S3 → Nat × Nat → Prop} (h0 : (p < 0 ∨ 2 < p) → Q 0 s O) (h1 : ¬ p < 0 → ¬ 2 < p → Q 1 s O) : wY_X0_isInstance N p s O Q := ⟨fun q => h0 (Or.inl q), fun q => ⟨fun z => h0 (Or.inr (za_3.mp z)), fun z => h1 q (fun w => z (za_3.mpr w))⟩⟩
theorem za_k {p : Int32} {Q : Int32 → f_S3 → Nat × Nat → Prop} (h0 : (p < 0 ∨ 6 < p) → Q 0 s O) (h1 : ¬ p < 0 → ¬ 6 < p → Q 1 s O) : wY_X3_exists N p s O Q := ⟨fun q => h0 (Or.inl q), fun q => ⟨fun z => h0 (Or.inr (za_7.mp z)), fun z => h1 q (fun w => z (za_7.mpr w))⟩⟩
theorem R_t_cg {s' : f_S3} {M' : e_M} {F' : e_F} (h : R_t K s M F) (e : s'.1 64 = s.1 64 ∧ s'.1 63 = s.1 63) (r : s'.2.1 20 = s.2.1 20 ∧ s'.2.1 21 = s.2.1 21 ∧ s'.2.1 22 = s.2.1 22) (m : M' 28 = M 28 ∧ M' 27 = M 27) (f : ∀ r, r < 46 → F' r = F r) : R_t K s' M' F' := by
  obtain ⟨⟨a1, a2, a3⟩, a4, ⟨b1, b2, b3⟩⟩ := h
  refine ⟨⟨by rw [e.1, m.1]; exact a1, by rw [m.1]; exact a2, by rw [m.2]; exact a3⟩, k_cor_cg a4 f, ⟨by rw [e.2]; exact b1, fun i hi => by rw [r.1]; exact b2 i hi, fun h hh => ?_⟩⟩
  rw [r.2.1, r.2.2, f 18 (by decide), f 19 (by decide)]
  exact b3 h hh
theorem R_m_cg {s' : f_S3} {M' : e_M} {F' : e_F} (h : R_m s M F) (e : ∀ j, 31 ≤ j → j ≤ 38 → s'.1 j = s.1 j) (r : s'.2.1 14 = s.2.1 14) (m : ∀ j, 75 ≤ j → j ≤ 83 → M' j = M j) (f : F' 84 = F 84) : R_m s' M' F' := by
  obtain ⟨⟨a1, a2, a3, a4⟩, ⟨b1, b2, b3, b4⟩, c⟩ := h
  refine ⟨⟨?_, ?_, ?_, ?_⟩, ⟨?_, ?_, ?_, ?_⟩, fun j hj => ?_⟩
  · rw [e 32 (by decide) (by decide), m 75 (by decide) (by decide)]; exact a1
  · rw [e 33 (by decide) (by decide), m 76 (by decide) (by decide)]; exact a2
  · rw [e 34 (by decide) (by decide), m 77 (by decide) (by decide)]; exact a3
  · rw [e 35 (by decide) (by decide), m 83 (by decide) (by decide)]; exact a4
  · rw [e 36 (by decide) (by decide), m 78 (by decide) (by decide)]; exact b1
  · rw [e 31 (by decide) (by decide), m 80 (by decide) (by decide)]; exact b2
  · rw [e 37 (by decide) (by decide), m 81 (by decide) (by decide)]; exact b3
  · rw [e 38 (by decide) (by decide), m 82 (by decide) (by decide)]; exact b4
  · rw [m 80 (by decide) (by decide)] at hj
    rw [r, f]; exact c j hj
theorem po_both (hN : tN N) (R : R_o K s O M F) (p1 p2 p3 p4 : Int32) : ∃ (r : Int32) (M' : e_M) (F' : e_F), (∀ Q : Int32 → e_M → e_F → Prop, w_policy p1 p2 p3 p4 M F Q → Q r M' F') ∧ ∀ Q : Int32 → f_S3 → Nat × Nat → Prop, (∀ s' O', R_o K s' O' M' F' → R_fr s s' → Q r s' O') → wY_X11_policy N p1 p2 p3 p4 s O Q := by
  have no : ∀ Q : Int32 → f_S3 → Nat × Nat → Prop, (∀ s' O', R_o K s' O' M F → R_fr s s' → Q 0 s' O') → ((0 : Int32) = 0 ∨ (0 : Int32) = 1) ∧ Q 0 s O := fun Q hQ => ⟨Or.inl rfl, hQ s O R fr_rf⟩
  by_cases q1 : p1 < 0
  · exact ⟨0, M, F, fun Q h => h.1 q1, fun Q hQ => by unfold wY_X11_policy wY_X0_setPolicy; exact za_i (fun _ => ⟨fun _ => no Q hQ, fun z => absurd rfl z⟩) (fun z _ => absurd q1 z)⟩
  by_cases q2 : 2 < p1
  · exact ⟨0, M, F, fun Q h => (h.2 q1).1 q2, fun Q hQ => by unfold wY_X11_policy wY_X0_setPolicy; exact za_i (fun _ => ⟨fun _ => no Q hQ, fun z => absurd rfl z⟩) (fun _ z => absurd q2 z)⟩
  by_cases q3 : p2 < 0
  · exact ⟨0, M, F, fun Q h => ((h.2 q1).2 q2).1 q3, fun Q hQ => by unfold wY_X11_policy wY_X0_setPolicy; exact za_i (fun z => absurd z (fun z => z.elim q1 q2)) (fun _ _ => ⟨fun z => absurd z (by decide), fun _ => za_k (fun _ => ⟨fun _ => no Q hQ, fun z => absurd rfl z⟩) (fun z _ => absurd q3 z)⟩)⟩
  by_cases q4 : 6 < p2
  · exact ⟨0, M, F, fun Q h => (((h.2 q1).2 q2).2 q3).1 q4, fun Q hQ => by unfold wY_X11_policy wY_X0_setPolicy; exact za_i (fun z => absurd z (fun z => z.elim q1 q2)) (fun _ _ => ⟨fun z => absurd z (by decide), fun _ => za_k (fun _ => ⟨fun _ => no Q hQ, fun z => absurd rfl z⟩) (fun _ z => absurd q4 z)⟩)⟩
  -- behind the kind
  have go : ∀ (Q : Int32 → f_S3 → Nat × Nat → Prop), ((p3 < (-1) → (Q 0 s O)) ∧ (¬ p3 < (-1) → ((p3 ≤ 5 → ((¬ p3 = 2 → (wY_X0_setPolicy_41 N Q p1 p2 p3 p4 s O)) ∧ (p3 = 2 → (wY_X3_exists N p4 s O (fun r7 M8 O8 => ((¬ r7 = 0 → (wY_X0_setPolicy_41 N Q p1 p2 p3 p4 M8 O8)) ∧ (r7 = 0 → (Q 0 M8 O8)))))))) ∧ (¬ p3 ≤ 5 → (Q 0 s O))))) → wY_X0_setPolicy N p1 p2 p3 p4 s O Q := fun Q h => by unfold wY_X0_setPolicy; exact za_i (fun z => absurd z (fun z => z.elim q1 q2)) (fun _ _ => ⟨fun z => absurd z (by decide), fun _ => za_k (fun z => absurd z (fun z => z.elim q3 q4)) (fun _ _ => ⟨fun z => absurd z (by decide), fun _ => h⟩)⟩)
  by_cases q5 : p3 < -1
  · exact ⟨0, M, F, fun Q h => ((((h.2 q1).2 q2).2 q3).2 q4).1 q5, fun Q hQ => by unfold wY_X11_policy; exact go _ ⟨fun _ => no Q hQ, fun z => absurd q5 z⟩⟩
  by_cases q6 : 5 < p3
  · exact ⟨0, M, F, fun Q h => (((((h.2 q1).2 q2).2 q3).2 q4).2 q5).1 q6, fun Q hQ => by unfold wY_X11_policy; exact go _ ⟨fun z => absurd z q5, fun _ => ⟨fun z => absurd q6 (za_5.mp z), fun _ => no Q hQ⟩⟩⟩
  -- the policy put
  have l0 : (0 : Int32).toInt = 0 := by decide
  have g1 := ti_nlt q1
  have g2 := ti_nlt q2
  have g3 := ti_nlt q3
  have g4 := ti_nlt q4
  rw [l0] at g1 g3
  rw [show (2 : Int32).toInt = 2 by decide] at g2
  rw [show (6 : Int32).toInt = 6 by decide] at g4
  obtain ⟨a, ha, ea, -⟩ := t_nat (x := p1) (n := 3) (by omega)
  obtain ⟨b, hb, eb, -⟩ := t_nat (x := p2) (n := 7) (by omega)
  have ix1 : p1 * 7 + p2 = nI (7 * a + b) := by rw [ea, eb, show (7 : Int32) = nI 7 from rfl, pk_mul, nI_add, Nat.mul_comm]
  have ix2 : 7 * p1 + p2 = nI (7 * a + b) := by rw [ea, eb, show (7 : Int32) = nI 7 from rfl, pk_mul, nI_add]
  obtain ⟨hD, hM, ⟨hP1, hP2⟩, hT⟩ := R
  have fin : ∀ Q : Int32 → f_S3 → Nat × Nat → Prop, (∀ s' O', R_o K s' O' M (uf (uf F 85 (7 * p1 + p2) (p3 + 1)) 86 (7 * p1 + p2) p4) → R_fr s s' → Q 1 s' O') → wY_X0_setPolicy_41 N (fun r1 M2 O2 => ((r1 = 0 ∨ r1 = 1) ∧ (Q r1 M2 O2))) p1 p2 p3 p4 s O := fun Q hQ => by
    have v : vp_in (nI (7 * a + b)) 21 := vp_in_iff.mpr (by rw [fs_nI (by omega)]; omega)
    unfold wY_X0_setPolicy_41
    rw [hN.2.1, hN.2.2.1, ix1]
    refine ⟨v, v, Or.inr rfl, hQ _ O ⟨?_, ?_, ⟨fun j hj => ?_, fun j hj => ?_⟩, ?_⟩ ⟨rfl, rfl, rfl, rfl⟩⟩
    · exact S_D_cg hD ⟨rfl, rfl⟩ rfl ⟨rfl, rfl⟩ ⟨rfl, rfl, rfl, rfl, rfl, rfl⟩
    · exact R_m_cg hM (fun _ _ _ => rfl) rfl (fun _ _ _ => rfl) rfl
    · obtain ⟨e1, e2⟩ := hP1 j hj
      refine ⟨?_, ?_⟩
      · show uf (uf s.2.1 11 (nI (7 * a + b)) p3) 12 (nI (7 * a + b)) p4 11 j = uf (uf F 85 (7 * p1 + p2) (p3 + 1)) 86 (7 * p1 + p2) p4 85 j - 1
        rw [uf2_a (f := s.2.1) (by decide), uf2_a (f := F) (by decide), ix2]
        by_cases z : j = (nI (7 * a + b)).toNatClampNeg
        · rw [if_pos z, if_pos z, Int32.add_sub_cancel]
        · rw [if_neg z, if_neg z]; exact e1
      · show uf (uf s.2.1 11 (nI (7 * a + b)) p3) 12 (nI (7 * a + b)) p4 12 j = uf (uf F 85 (7 * p1 + p2) (p3 + 1)) 86 (7 * p1 + p2) p4 86 j
        rw [uf2_b (f := s.2.1) (by decide), uf2_b (f := F) (by decide), ix2]
        by_cases z : j = (nI (7 * a + b)).toNatClampNeg
        · rw [if_pos z, if_pos z]
        · rw [if_neg z, if_neg z]; exact e2
    · show uf (uf s.2.1 11 (nI (7 * a + b)) p3) 12 (nI (7 * a + b)) p4 13 j = uf (uf F 85 (7 * p1 + p2) (p3 + 1)) 86 (7 * p1 + p2) p4 87 j
      rw [uf_row (by decide), uf_row (by decide), uf_row (by decide), uf_row (by decide)]; exact hP2 j hj
    · exact R_t_cg hT ⟨rfl, rfl⟩ ⟨rfl, rfl, rfl⟩ ⟨rfl, rfl⟩ (fun r hr => by rw [uf_row (by omega), uf_row (by omega)])
  have go2 := fun (Q : Int32 → e_M → e_F → Prop) (h : w_policy p1 p2 p3 p4 M F Q) => (((((h.2 q1).2 q2).2 q3).2 q4).2 q5).2 q6
  by_cases q7 : p3 = 2
  · by_cases q8 : p4 < 0
    · exact ⟨0, M, F, fun Q h => ((go2 Q h).2 q7).1 q8, fun Q hQ => by unfold wY_X11_policy; exact go _ ⟨fun z => absurd z q5, fun _ => ⟨fun _ => ⟨fun z => absurd q7 z, fun _ => za_k (fun _ => ⟨fun z => absurd rfl z, fun _ => no Q hQ⟩) (fun z _ => absurd q8 z)⟩, fun z => absurd (za_5.mpr q6) z⟩⟩⟩
    · by_cases q9 : p4 ≤ 6
      · exact ⟨1, M, _, fun Q h => (((((go2 Q h).2 q7).2 q8).1 q9).2).2, fun Q hQ => by unfold wY_X11_policy; exact go _ ⟨fun z => absurd z q5, fun _ => ⟨fun _ => ⟨fun z => absurd q7 z, fun _ => za_k (fun z => absurd z (fun z => z.elim q8 (fun w => za_6.mp q9 (za_7.mpr w)))) (fun _ _ => ⟨fun _ => fin Q hQ, fun z => absurd z (by decide)⟩)⟩, fun z => absurd (za_5.mpr q6) z⟩⟩⟩
      · exact ⟨0, M, F, fun Q h => (((go2 Q h).2 q7).2 q8).2 q9, fun Q hQ => by unfold wY_X11_policy; exact go _ ⟨fun z => absurd z q5, fun _ => ⟨fun _ => ⟨fun z => absurd q7 z, fun _ => za_k (fun _ => ⟨fun z => absurd rfl z, fun _ => no Q hQ⟩) (fun _ z => absurd (za_7.mpr (by
          by_cases w : 6 < p4
          · exact w
          · exact absurd (za_6.mpr (fun u => w (za_7.mp u))) q9)) (fun u => z (za_7.mp u)))⟩, fun z => absurd (za_5.mpr q6) z⟩⟩⟩
  · exact ⟨1, M, _, fun Q h => (((go2 Q h).1 q7).2).2, fun Q hQ => by unfold wY_X11_policy; exact go _ ⟨fun z => absurd z q5, fun _ => ⟨fun _ => ⟨fun _ => fin Q hQ, fun z => absurd z q7⟩, fun z => absurd (za_5.mpr q6) z⟩⟩⟩
/-- an objection made outside of a trial -/
theorem m_mk {k g d a : Int32} (hD : S_D s O M F) {Q : Int32 → f_S3 → Nat × Nat → Prop} (hQ0 : M 54 = 8000 → Q 0 s O) (hQ : ¬ M 54 = 8000 → ∀ s' O', S_D s' O' (um M 54 (M 54 + 1)) (mk_F (M 54 + 1) F k g d a 0 0) → (∀ j, j ≠ 22 → s'.1 j = s.1 j) → (∀ r, r ≠ 99 → s'.2.1 r = s.2.1 r) → Q (M 54 + 1) s' O') : wY_X2_make N k g d a s O Q := by
  have hD2 := hD
  obtain ⟨⟨d1, d2⟩, ⟨d3, d4, d5⟩, d6, d7⟩ := hD2
  obtain ⟨m, hm, em, em2, -⟩ := t_nat (x := M 54) (n := 8001) (by omega)
  have q8 : M 54 = 8000 ↔ m = 8000 := by rw [em]; exact nI_eq (b := 8000) (by omega) (by omega)
  have l8 : s.1 22 < 8000 ↔ m < 8000 := by rw [d1, em]; exact y_lt (b := 8000) (by omega) (by omega)
  unfold wY_X2_make
  refine ⟨by rw [d1]; exact d3.1, by rw [d1]; exact d3.2, by rw [d1]; exact d4, fun z => hQ0 (q8.mpr ?_), fun z M1 O' ho h7 hl => ?_⟩
  · rw [l8] at z; omega
  · rw [l8] at z
    rw [d1] at hl ⊢
    have r99 : M1.2.1 99 = s.2.1 99 := by
      rcases ho with ⟨-, rfl⟩ | ⟨-, rfl⟩
      · rfl
      · exact fg_row hD
    have rn : ∀ r, r ≠ 99 → M1.2.1 r = s.2.1 r := fun r hr => by
      rcases ho with ⟨-, rfl⟩ | ⟨-, rfl⟩
      · rfl
      · exact fg_ne hr
    have e1 : M1.1 = s.1 := by rcases ho with ⟨-, rfl⟩ | ⟨-, rfl⟩ <;> rfl
    have nr : ∀ r, r ≠ 99 → (fmk k g d a M1 (M 54)).2.1 r = s.2.1 r := fun r hr => by
      rw [← rn r hr]
      show uf (uf (uf (uf (uf M1.2.1 99 _ k) 99 _ g) 99 _ d) 99 _ _) 99 _ a r = _
      rw [e_uf_ne hr, e_uf_ne hr, e_uf_ne hr, e_uf_ne hr, e_uf_ne hr]
    have ne : ∀ r, r ≠ 22 → (fmk k g d a M1 (M 54)).1 r = s.1 r := fun r hr => by
      rw [← e1]
      exact e_um_ne hr
    refine hQ (fun w => ?_) _ O' ?_ ne nr
    · rw [q8] at w; omega
    · have := S_D_mk (k := k) (g := g) (d := d) (a := a) hD em z (by rw [e1]) r99 h7 hl
      rw [← em] at this
      exact S_D_cg this ⟨rfl, rfl⟩ rfl ⟨rfl, rfl⟩ ⟨rfl, rfl, rfl, rfl, rfl, rfl⟩
theorem co_both (hN : tN N) (R : R_o K s O M F) (p1 p2 p3 : Int32) : ∃ (r : Int32) (M' : e_M) (F' : e_F), (∀ Q : Int32 → e_M → e_F → Prop, w_complain p1 p2 p3 M F Q → Q r M' F') ∧ ∀ Q : Int32 → f_S3 → Nat × Nat → Prop, (∀ s' O', R_o K s' O' M' F' → R_fr s s' → Q r s' O') → wY_X11_complain N p1 p2 p3 s O Q := by
  by_cases q1 : p1 < 0
  · exact ⟨-1, M, F, fun Q h => h.1 q1, fun Q hQ => by unfold wY_X11_complain wY_X0_enterComplaint; exact za_i (fun _ => ⟨fun _ => hQ s O R fr_rf, fun z => absurd rfl z⟩) (fun z _ => absurd q1 z)⟩
  by_cases q2 : 2 < p1
  · exact ⟨-1, M, F, fun Q h => (h.2 q1).1 q2, fun Q hQ => by unfold wY_X11_complain wY_X0_enterComplaint; exact za_i (fun _ => ⟨fun _ => hQ s O R fr_rf, fun z => absurd rfl z⟩) (fun _ z => absurd q2 z)⟩
  by_cases q3 : p2 < 0
  · exact ⟨-1, M, F, fun Q h => ((h.2 q1).2 q2).1 q3, fun Q hQ => by unfold wY_X11_complain wY_X0_enterComplaint; exact za_i (fun z => absurd z (fun z => z.elim q1 q2)) (fun _ _ => ⟨fun z => absurd z (by decide), fun _ => za_k (fun _ => ⟨fun z => absurd rfl z, fun _ => hQ s O R fr_rf⟩) (fun z _ => absurd q3 z)⟩)⟩
  by_cases q4 : 6 < p2
  · exact ⟨-1, M, F, fun Q h => (((h.2 q1).2 q2).2 q3).1 q4, fun Q hQ => by unfold wY_X11_complain wY_X0_enterComplaint; exact za_i (fun z => absurd z (fun z => z.elim q1 q2)) (fun _ _ => ⟨fun z => absurd z (by decide), fun _ => za_k (fun _ => ⟨fun z => absurd rfl z, fun _ => hQ s O R fr_rf⟩) (fun _ z => absurd q4 z)⟩)⟩
  have l0 : (0 : Int32).toInt = 0 := by decide
  have g1 := ti_nlt q1
  have g2 := ti_nlt q2
  rw [l0] at g1
  rw [show (2 : Int32).toInt = 2 by decide] at g2
  have R0 := R
  obtain ⟨hD, hM, ⟨hP1, hP2⟩, hT⟩ := R
  have v : vp_in p1 3 := vp_in_iff.mpr (by omega)
  have n0 : ¬ M 54 + 1 = 0 := fun w => by
    have b1 := hD.2.1.1
    have e := congrArg Int32.toInt w
    rw [ti_addx _ _ (by rw [show (1 : Int32).toInt = 1 by decide]; omega), show (1 : Int32).toInt = 1 by decide, l0] at e
    omega
  have go : ∀ Q : Int32 → f_S3 → Nat × Nat → Prop, (M 54 = 8000 → Q (-1) s O) → (¬ M 54 = 8000 → ∀ s' O', S_D s' O' (um M 54 (M 54 + 1)) (mk_F (M 54 + 1) F p2 p3 0 (-1) 0 0) → (∀ j, j ≠ 22 → s'.1 j = s.1 j) → (∀ r, r ≠ 99 → s'.2.1 r = s.2.1 r) → Q (M 54 + 1) (ff s' 13 p1 (M 54 + 1)) O') → wY_X11_complain N p1 p2 p3 s O Q := fun Q h0 h1 => by unfold wY_X11_complain wY_X0_enterComplaint; exact za_i (fun z => absurd z (fun z => z.elim q1 q2)) (fun _ _ => ⟨fun z => absurd z (by decide), fun _ => za_k (fun z => absurd z (fun z => z.elim q3 q4)) (fun _ _ => ⟨fun _ => m_mk hD (fun z => ⟨fun w => absurd rfl w, fun _ => h0 z⟩) (fun z s' O' a b c => ⟨fun _ => ⟨by rw [hN.2.2.2.1]; exact v, h1 z s' O' a b c⟩, fun w => absurd w n0⟩), fun z => absurd z (by decide)⟩)⟩)
  by_cases q5 : M 54 = 8000
  · exact ⟨-1, M, F, fun Q h => ((((h.2 q1).2 q2).2 q3).2 q4).2 q5, fun Q hQ => go Q (fun _ => hQ s O R0 fr_rf) (fun z => absurd q5 z)⟩
  · refine ⟨M 54 + 1, um M 54 (M 54 + 1), uf (mk_F (M 54 + 1) F p2 p3 0 (-1) 0 0) 87 p1 (M 54 + 1), fun Q h => ?_, fun Q hQ => go Q (fun z => absurd z q5) (fun _ s' O' a b c => hQ _ O' ⟨?_, ?_, ⟨fun j hj => ?_, fun j hj => ?_⟩, ?_⟩ ⟨?_, ?_, ?_, ?_⟩)⟩
    · have w := ((((h.2 q1).2 q2).2 q3).2 q4).1 q5
      have w := w.2.2.2.2.2.2.2
      have e : um M 54 (M 54 + 1) 54 = M 54 + 1 := um_eq
      rw [e] at w
      exact w
    · exact S_D_cg a ⟨rfl, rfl⟩ (uf_row (F := s'.2.1) (c := 13) (r := 99) (i := p1) (v := M 54 + 1) (by decide)) ⟨rfl, rfl⟩ ⟨uf_row (by decide), uf_row (by decide), uf_row (by decide), uf_row (by decide), uf_row (by decide), uf_row (by decide)⟩
    · have fF : mk_F (M 54 + 1) F p2 p3 0 (-1) 0 0 84 = F 84 := by
        unfold mk_F
        rw [e_uf_ne (by decide), e_uf_ne (by decide), e_uf_ne (by decide), e_uf_ne (by decide), e_uf_ne (by decide), e_uf_ne (by decide)]
      exact R_m_cg hM (fun j h1 h2 => b j (by omega)) ((uf_row (F := s'.2.1) (c := 13) (r := 14) (i := p1) (v := M 54 + 1) (by decide)).trans (c 14 (by decide))) (fun j h1 h2 => um_ne (by omega)) (by rw [uf_row (by decide)]; exact fF)
    · have fF : ∀ r, 53 < r → mk_F (M 54 + 1) F p2 p3 0 (-1) 0 0 r = F r := fun r hr => by
        unfold mk_F
        rw [e_uf_ne (by omega), e_uf_ne (by omega), e_uf_ne (by omega), e_uf_ne (by omega), e_uf_ne (by omega), e_uf_ne (by omega)]
      show uf s'.2.1 13 p1 (M 54 + 1) 11 j = uf (mk_F (M 54 + 1) F p2 p3 0 (-1) 0 0) 87 p1 (M 54 + 1) 85 j - 1 ∧ uf s'.2.1 13 p1 (M 54 + 1) 12 j = uf (mk_F (M 54 + 1) F p2 p3 0 (-1) 0 0) 87 p1 (M 54 + 1) 86 j
      rw [uf_row (by decide), uf_row (by decide), uf_row (by decide), uf_row (by decide), c 11 (by decide), c 12 (by decide), fF 85 (by decide), fF 86 (by decide)]
      exact hP1 j hj
    · have fF : mk_F (M 54 + 1) F p2 p3 0 (-1) 0 0 87 = F 87 := by
        unfold mk_F
        rw [e_uf_ne (by decide), e_uf_ne (by decide), e_uf_ne (by decide), e_uf_ne (by decide), e_uf_ne (by decide), e_uf_ne (by decide)]
      show uf s'.2.1 13 p1 (M 54 + 1) 13 j = uf (mk_F (M 54 + 1) F p2 p3 0 (-1) 0 0) 87 p1 (M 54 + 1) 87 j
      rw [uf_at2, uf_at2, c 13 (by decide), fF]
      by_cases z : j = p1.toNatClampNeg
      · rw [if_pos ⟨rfl, z⟩, if_pos ⟨rfl, z⟩]
      · rw [if_neg (fun q => z q.2), if_neg (fun q => z q.2)]; exact hP2 j hj
    · refine R_t_cg hT ⟨b 64 (by decide), b 63 (by decide)⟩ ⟨?_, ?_, ?_⟩ ⟨um_ne (by decide), um_ne (by decide)⟩ (fun r hr => ?_)
      · exact (uf_row (F := s'.2.1) (c := 13) (r := 20) (i := p1) (v := M 54 + 1) (by decide)).trans (c 20 (by decide))
      · exact (uf_row (F := s'.2.1) (c := 13) (r := 21) (i := p1) (v := M 54 + 1) (by decide)).trans (c 21 (by decide))
      · exact (uf_row (F := s'.2.1) (c := 13) (r := 22) (i := p1) (v := M 54 + 1) (by decide)).trans (c 22 (by decide))
      · rw [uf_row (by omega)]
        unfold mk_F
        rw [e_uf_ne (by omega), e_uf_ne (by omega), e_uf_ne (by omega), e_uf_ne (by omega), e_uf_ne (by omega), e_uf_ne (by omega)]
    · exact b 1 (by decide)
    · exact b 3 (by decide)
    · exact b 4 (by decide)
    · exact (uf_row (F := s'.2.1) (c := 13) (r := 10) (i := p1) (v := M 54 + 1) (by decide)).trans (c 10 (by decide))
end ZA1
