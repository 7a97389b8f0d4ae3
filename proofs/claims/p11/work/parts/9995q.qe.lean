/-! ACTS THAT MAKE AND RECKON, each beside the class's deed. -/
section TQE
variable {K : k_K} {N : Nat → Nat} {s s' : f_S3} {O : Nat × Nat} {M M' M1 : e_M} {F F' F1 : e_F} {p : Nat} {st ra : Int32} {G : e_G} {B Nn E T V : Int} {f ot k j : Nat}
theorem k_bc2 {c : Int32} (h : -2 ≤ c.toInt) : (k_bc c = -2 ↔ c = -1) ∧ (k_bc c = -1 ↔ c = -2) ∧ (¬ c = -1 → ¬ c = -2 → k_bc c = c ∧ 0 ≤ c.toInt) := by
  unfold k_bc
  by_cases q1 : c = -1
  · rw [if_pos q1, q1]
    exact ⟨⟨fun _ => rfl, fun _ => rfl⟩, ⟨fun g => absurd g (by decide), fun g => absurd g (by decide)⟩, fun g => absurd rfl g⟩
  · rw [if_neg q1]
    by_cases q2 : c = -2
    · rw [if_pos q2, q2]
      exact ⟨⟨fun g => absurd g (by decide), fun g => absurd g (by decide)⟩, ⟨fun _ => rfl, fun _ => rfl⟩, fun _ g => absurd rfl g⟩
    · rw [if_neg q2]
      have a1 := ti_ne q1
      have a2 := ti_ne q2
      rw [show (-1 : Int32).toInt = -1 by decide] at a1
      rw [show (-2 : Int32).toInt = -2 by decide] at a2
      exact ⟨⟨fun g => absurd g q2, fun g => absurd g q1⟩, ⟨fun g => absurd g q1, fun g => absurd g q2⟩, fun _ _ => ⟨rfl, by omega⟩⟩
theorem o_make (hN : tN N) (hz : K_z K ≤ N 20) (X : C_X K G B Nn E T V M F f ot k) (hn : F 13 k = 13) : O_A N K M F f ot k := by
  obtain ⟨e1, e2, e3, e4, e5⟩ := C_X_k X
  obtain ⟨⟨c1, c2⟩, c3, c4, c5, c6⟩ := C_X_f X
  have hf : 1 ≤ (M 62).toInt ∧ (M 62).toInt ≤ 12 := by omega
  have hT : (F 13 k).toInt = ((13 : Nat) : Int) := by rw [hn]; decide
  have h69 := e_CX_a X.1 13 (by rw [e2]; exact hT) (by decide)
  rw [e2] at h69
  obtain ⟨⟨g1, g2⟩, -, ⟨a1, a2⟩, ⟨b1, b2⟩, d1⟩ := h69
  have d1 : (F 16 k).toInt < 8 := d1
  have g1 : (2 : Int) ≤ (M 69).toInt := g1
  have g2 : (M 69).toInt ≤ 2 := g2
  have a1 : (0 : Int) ≤ (F 14 k).toInt := a1
  have a2 : (F 14 k).toInt < 8 := a2
  have b1 : (0 : Int) ≤ (F 15 k).toInt := b1
  have b2 : (F 15 k).toInt < 7 := b2
  obtain ⟨i0, i1⟩ := k_int X.2.1 X.2.2.2.2.1 (k_en_13 hn)
  obtain ⟨j0, j1⟩ := k_fall X.2.1 X.2.2.2.2.1 (k_en_13 hn) hn (by decide)
  have i0 : K_A K k + 5 ≤ K_z K := i0
  have j0 : K_A K (k + 1) = K_A K k + 5 := j0
  have q0 : K_C K (K_A K k) = 27 := i1 0 (show 0 < 5 by decide)
  have q1 : K_C K (K_A K k + 1) = F 14 k := i1 1 (show 1 < 5 by decide)
  have q2 : K_C K (K_A K k + 1 + 1) = F 15 k := i1 2 (show 2 < 5 by decide)
  have q3 : K_C K (K_A K k + 1 + 1 + 1) = F 17 k := i1 3 (show 3 < 5 by decide)
  have q4 : K_C K (K_A K k + 1 + 1 + 1 + 1) = k_bc (F 16 k) := i1 4 (show 4 < 5 by decide)
  have hc2 := (C_X_at X).2.2.2.2.2.2.2.1.2 hn
  obtain ⟨y1, y2, y3⟩ := k_bc2 hc2
  have m1 := t_m1 (x := M 69) (by omega)
  have rf : ∀ Q : e_M → e_F → Prop, w_act M F Q → w_makes (F 15 k) (F 68 (M 69 - 1 - 1).toNatClampNeg) (F 68 (M 69 - 1).toNatClampNeg) (F 17 k) (if F 16 k < 0 then 0 else F 58 (8 * (M 62 - 1) + F 16 k).toNatClampNeg) (if F 16 k = -1 then (0 : Int32) else 1) (um (um (um M 70 (M 70 + 1)) 69 (M 69 - 1)) 69 (M 69 - 1 - 1)) F (fun r19 M20 F20 => ((r19 ≤ 0 → (Q M20 F20)) ∧ (¬ r19 ≤ 0 → (w_hold_ (F 14 k) r19 M20 F20 (fun M21 F21 => (Q M21 F21)))))) := fun Q h => by
    have h := (h.2.2.2.2.2.2.2.2.2.2.2.2.2.2.2.1 (by rw [e3]; exact hn)).2.2.1 (by rw [e3]; exact hn)
    have h := h.2.2
    have h : vp_in (M 70) 18000 ∧ ((F 16 (M 70).toNatClampNeg < 0 → w_more_148 (fun M2 F2 => Q M2 F2) (M 70) (F 14 (M 70).toNatClampNeg) (F 68 (M 69 - 1).toNatClampNeg) (F 68 (M 69 - 1 - 1).toNatClampNeg) 0 (um (um (um M 70 (M 70 + 1)) 69 (M 69 - 1)) 69 (M 69 - 1 - 1)) F) ∧ (¬ F 16 (M 70).toNatClampNeg < 0 → vp_in (M 70) 18000 ∧ w_obj (F 16 (M 70).toNatClampNeg) (um (um (um M 70 (M 70 + 1)) 69 (M 69 - 1)) 69 (M 69 - 1 - 1)) F (fun r23 M24 F24 => w_more_148 (fun M2 F2 => Q M2 F2) (M 70) (F 14 (M 70).toNatClampNeg) (F 68 (M 69 - 1).toNatClampNeg) (F 68 (M 69 - 1 - 1).toNatClampNeg) r23 M24 F24))) := h
    rw [e3] at h
    have h2 : w_more_148 (fun M2 F2 => Q M2 F2) (M 70) (F 14 k) (F 68 (M 69 - 1).toNatClampNeg) (F 68 (M 69 - 1 - 1).toNatClampNeg) (if F 16 k < 0 then 0 else F 58 (8 * (M 62 - 1) + F 16 k).toNatClampNeg) (um (um (um M 70 (M 70 + 1)) 69 (M 69 - 1)) 69 (M 69 - 1 - 1)) F := by
      by_cases w : F 16 k < 0
      · rw [if_pos w]; exact h.2.1 w
      · rw [if_neg w]; exact ((h.2.2 w).2).2 _ rfl
    obtain ⟨-, -, -, h3, h4⟩ := h2
    rw [e3] at h3 h4
    by_cases w : F 16 k = -1
    · rw [if_pos w]; exact h3 w
    · rw [if_neg w]; exact h4 w
  have cl : ∀ (O : Nat × Nat) (s : f_S3), S_s K (K_A K k) 0 0 s O M F → ∀ Qc : f_S3 → Nat × Nat → Prop, (∀ s3, S_s K (K_A K (k + 1)) 0 0 s3 O (um (um (um M 70 (M 70 + 1)) 69 (M 69 - 1)) 69 (M 69 - 1 - 1)) F → wY_X2_makeInTrial N (F 15 k) (F 68 (M 69 - 1 - 1).toNatClampNeg) (F 68 (M 69 - 1).toNatClampNeg) (F 17 k) s3 O (fun r11 M12 O12 => ((¬ r11 = 0 → ((k_bc (F 16 k) = (-2) → (wY_X8_holdNew_76 N (fun s2 O2 => t_84 N Qc s2 O2) (F 14 k) r11 M12 O12)) ∧ (¬ k_bc (F 16 k) = (-2) → (wY_X8_objectAt N (k_bc (F 16 k)) M12 O12 (fun r14 M15 O15 => (wY_X2_settle N r11 r14 M15 O15 (fun M16 O16 => (wY_X8_holdNew_76 N (fun s2 O2 => t_84 N Qc s2 O2) (F 14 k) r11 M16 O16)))))))) ∧ (r11 = 0 → (t_84 N Qc (fm M12 53 3) O12))))) → t_dd N s O Qc := fun O s h Qc hq => by
    refine d_obj hN hz (S_s_m (k := 70) (v := M 70 + 1) h (by decide)) (by omega) q0 (by decide) (by decide) (by decide) (fun s1 h1 => m_fetch hN hz h1 (by omega) (fun s2 h2 => ?_))
    rw [q1]
    refine ⟨fun g => absurd g (by decide), fun g => absurd g (by decide), fun g => absurd g (by decide), fun g => absurd g (by decide), fun g => absurd g (by decide), fun _ => m_fetch hN hz h2 (by omega) (fun s3 h3 => ?_), fun g => absurd g (by decide), fun g => absurd g (by decide), fun _ _ _ _ _ g _ _ => absurd rfl g⟩
    rw [q2]
    refine m_fetch hN hz h3 (by omega) (fun s4 h4 => ?_)
    rw [q3]
    refine m_fetch hN hz h4 (by omega) (fun s5 h5 => ?_)
    rw [q4]
    rw [j0] at hq
    exact m_pop hN h5 (show 1 ≤ (M 69).toInt ∧ (M 69).toInt ≤ 64 by omega) (fun s6 h6 => m_pop hN h6 (show 1 ≤ (M 69 - 1).toInt ∧ (M 69 - 1).toInt ≤ 64 by omega) (fun s7 h7 => hq s7 h7))
  have hO2 : e_OB (um (um (um M 70 (M 70 + 1)) 69 (M 69 - 1)) 69 (M 69 - 1 - 1)) F := (W_69 (W_69 (W_0 X))).2.2.2
  have hb54 := hO2.1
  have hb54 : 0 ≤ (M 54).toInt ∧ (M 54).toInt ≤ 8000 := hb54
  have hca : 0 ≤ ((if F 16 k < 0 then 0 else F 58 (8 * (M 62 - 1) + F 16 k).toNatClampNeg)).toInt ∧ ((if F 16 k < 0 then 0 else F 58 (8 * (M 62 - 1) + F 16 k).toNatClampNeg)).toInt ≤ (M 54).toInt := by
    by_cases w : F 16 k < 0
    · rw [if_pos w, e_z0]; omega
    · rw [if_neg w]
      have w' : 0 ≤ (F 16 k).toInt := by
        have : ¬ (F 16 k).toInt < 0 := fun g => w (by rw [Int32.lt_iff_toInt_lt, e_z0]; exact g)
        omega
      exact C_X_o X (by omega)
  by_cases full : M 55 = 100 ∨ M 54 = 8000
  · refine ⟨um (um (um (um M 70 (M 70 + 1)) 69 (M 69 - 1)) 69 (M 69 - 1 - 1)) 71 1, F, 1, fun Q h => ((r_makes (rf Q h)).1 full).1 (Int32.le_refl _), ap_ov rfl, fun O s h => t_go1 h.1.2.1 (fun Qc hq => cl O s h Qc (fun s3 h3 => m_make h3 (fun _ => ⟨fun g => absurd rfl g, fun _ => ?_⟩) (fun g => absurd full g)))⟩
    have h4 := S_s_st (v := 3) h3
    exact t_84g h4 (hq _ _ (A_S_ov rfl (S_s_m h4 (by decide))))
  · have l1 : (1 : Int32).toInt = 1 := by decide
    have ea := ti_addx (M 54) 1 (by omega)
    have onz : ¬ M 54 + 1 = 0 := fun g => by have := congrArg Int32.toInt g; rw [ea, l1, e_z0] at this; omega
    have onl : ¬ M 54 + 1 ≤ 0 := fun g => by rw [Int32.le_iff_toInt_le, e_z0] at g; omega
    have fin' : ∀ (O' : Nat × Nat) (s4 : f_S3) (Qc : f_S3 → Nat × Nat → Prop), (∀ s' O', A_S K (mk_M (um (um (um M 70 (M 70 + 1)) 69 (M 69 - 1)) 69 (M 69 - 1 - 1))) (uf (mk_F (M 54 + 1) F (F 15 k) (F 68 (M 69 - 1 - 1).toNatClampNeg) (F 68 (M 69 - 1).toNatClampNeg) (F 17 k) (if F 16 k < 0 then 0 else F 58 (8 * (M 62 - 1) + F 16 k).toNatClampNeg) (if F 16 k = -1 then (0 : Int32) else 1)) 58 (8 * (M 62 - 1) + F 14 k) (M 54 + 1)) s' O' → Qc s' O') → S_s K (K_A K (k + 1)) 0 0 s4 O' (mk_M (um (um (um M 70 (M 70 + 1)) 69 (M 69 - 1)) 69 (M 69 - 1 - 1))) (mk_F (M 54 + 1) F (F 15 k) (F 68 (M 69 - 1 - 1).toNatClampNeg) (F 68 (M 69 - 1).toNatClampNeg) (F 17 k) (if F 16 k < 0 then 0 else F 58 (8 * (M 62 - 1) + F 16 k).toNatClampNeg) (if F 16 k = -1 then (0 : Int32) else 1)) → wY_X8_holdNew_76 N (fun s2 O2 => t_84 N Qc s2 O2) (F 14 k) (M 54 + 1) s4 O' := fun O' s4 Qc hq h4 => m_setobj hN h4 (show 1 ≤ (M 62).toInt ∧ (M 62).toInt ≤ 12 by omega) (by omega) (fun s5 h5 => t_84g h5 (hq _ _ (A_S_go X.2.2.2.2.2.1 X.2.2.2.2.2.2.1 e4 h5)))
    refine ⟨mk_M (um (um (um M 70 (M 70 + 1)) 69 (M 69 - 1)) 69 (M 69 - 1 - 1)), uf (mk_F (M 54 + 1) F (F 15 k) (F 68 (M 69 - 1 - 1).toNatClampNeg) (F 68 (M 69 - 1).toNatClampNeg) (F 17 k) (if F 16 k < 0 then 0 else F 58 (8 * (M 62 - 1) + F 16 k).toNatClampNeg) (if F 16 k = -1 then (0 : Int32) else 1)) 58 (8 * (M 62 - 1) + F 14 k) (M 54 + 1), 1, fun Q h => (((r_makes (rf Q h)).2 full).2 onl).2, ap_st X 13 hT (by decide) ⟨rfl, rfl, rfl, rfl, rfl, rfl, rfl⟩ rfl ⟨rfl, rfl, rfl, rfl, rfl⟩, fun O s h => t_go1 h.1.2.1 (fun Qc hq => cl O s h Qc (fun s3 h3 => m_make h3 (fun g => absurd g full) (fun _ s4 O' h4 => ⟨fun _ => ⟨fun w => ?_, fun w => ?_⟩, fun g => absurd g onz⟩)))⟩
    · have w1 := y1.mp w
      have w2 : F 16 k < 0 := by rw [w1]; decide
      refine fin' O' s4 Qc hq ?_
      rw [if_pos w1, if_pos w2]
      exact h4
    · have w1 : ¬ F 16 k = -1 := fun g => w (y1.mpr g)
      have o2 : 1 ≤ (M 54 + 1).toInt ∧ (M 54 + 1).toInt ≤ (mk_M (um (um (um M 70 (M 70 + 1)) 69 (M 69 - 1)) 69 (M 69 - 1 - 1)) 54).toInt := (show 1 ≤ (M 54 + 1).toInt ∧ (M 54 + 1).toInt ≤ (M 54 + 1).toInt by omega)
      have go : ∀ r14 : Int32, r14 = (if F 16 k < 0 then 0 else F 58 (8 * (M 62 - 1) + F 16 k).toNatClampNeg) → wY_X2_settle N (M 54 + 1) r14 s4 O' (fun M16 O16 => (wY_X8_holdNew_76 N (fun s2 O2 => t_84 N Qc s2 O2) (F 14 k) (M 54 + 1) M16 O16)) := fun r14 hr => m_settle h4 o2 (fun s5 h5 => by
        have h5 : S_s K (K_A K (k + 1)) 0 0 s5 O' (mk_M (um (um (um M 70 (M 70 + 1)) 69 (M 69 - 1)) 69 (M 69 - 1 - 1))) (uf (uf (mk_F (M 54 + 1) F (F 15 k) (F 68 (M 69 - 1 - 1).toNatClampNeg) (F 68 (M 69 - 1).toNatClampNeg) (F 17 k) 0 0) 52 (M 54 + 1) r14) 53 (M 54 + 1) (vp_nar .boolean 1)) := h5
        rw [mk_F_set, hr] at h5
        refine fin' O' s5 Qc hq ?_
        rw [if_neg w1]
        exact h5)
      by_cases w2 : F 16 k = -2
      · rw [y2.mpr w2]
        exact m_obj_ rfl (go 0 (by rw [if_pos (by rw [w2]; decide)]))
      · obtain ⟨w3, w4⟩ := y3 w1 w2
        rw [w3]
        have w5 : ¬ F 16 k < 0 := fun g => by rw [Int32.lt_iff_toInt_lt, e_z0] at g; omega
        refine m_obj hN h4 (show 1 ≤ (M 62).toInt ∧ (M 62).toInt ≤ 12 by omega) (show 0 ≤ (F 16 k).toInt ∧ (F 16 k).toInt < 8 by omega) (go _ ?_)
        rw [if_neg w5]
        rfl
def t_op (a l r : Int32) : Int32 := if a = 37 then (if r = -1 then 0 else l - l / r * r) else if a = 42 then l * r else if a = 43 then l + r else if a = 45 then l - r else if a = 47 then (if r = -1 then -l else l / r) else if a = 60 then (if r ≤ l then 0 else 1) else if a = 300 then (if l = r then 1 else 0) else (if l = r then 0 else 1)
theorem r_cnt {a l r : Int32} {Q : e_M → e_F → Prop} (h : w_count_35 Q a r l M F) : w_push (t_op a l r) M F (fun M2 F2 => Q M2 F2) := by
  obtain ⟨h37, h42, h43, h45, h47, h60, h300, hd⟩ := h
  unfold t_op
  by_cases q1 : a = 37
  · rw [if_pos q1]
    by_cases w : r = -1
    · rw [if_pos w]; exact (h37 q1).2 w
    · rw [if_neg w]; exact ((h37 q1).1 w).2
  rw [if_neg q1]
  by_cases q2 : a = 42
  · rw [if_pos q2]; exact h42 q2
  rw [if_neg q2]
  by_cases q3 : a = 43
  · rw [if_pos q3]; exact h43 q3
  rw [if_neg q3]
  by_cases q4 : a = 45
  · rw [if_pos q4]; exact h45 q4
  rw [if_neg q4]
  by_cases q5 : a = 47
  · rw [if_pos q5]
    by_cases w : r = -1
    · rw [if_pos w]; exact (h47 q5).2 w
    · rw [if_neg w]; exact ((h47 q5).1 w).2
  rw [if_neg q5]
  by_cases q6 : a = 60
  · rw [if_pos q6]
    by_cases w : r ≤ l
    · rw [if_pos w]; exact (h60 q6).1 w
    · rw [if_neg w]; exact (h60 q6).2 w
  rw [if_neg q6]
  by_cases q7 : a = 300
  · rw [if_pos q7]
    by_cases w : l = r
    · rw [if_pos w]; exact (h300 q7).2 w
    · rw [if_neg w]; exact (h300 q7).1 w
  rw [if_neg q7]
  by_cases w : l = r
  · rw [if_pos w]; exact (hd q1 q2 q3 q4 q5 q6 q7).1 w
  · rw [if_neg w]; exact (hd q1 q2 q3 q4 q5 q6 q7).2 w
theorem k_sgb (a : Int32) : (6 < k_sg a ∧ 13 < k_sg a ∧ ¬ 21 < k_sg a) ∧ (k_sg a = 17 ↔ a = 47) ∧ (k_sg a = 18 ↔ a = 37) := by
  unfold k_sg
  by_cases q3 : a = 43
  · rw [if_pos q3, q3]; decide
  rw [if_neg q3]
  by_cases q4 : a = 45
  · rw [if_pos q4, q4]; decide
  rw [if_neg q4]
  by_cases q2 : a = 42
  · rw [if_pos q2, q2]; decide
  rw [if_neg q2]
  by_cases q5 : a = 47
  · rw [if_pos q5, q5]; decide
  rw [if_neg q5]
  by_cases q1 : a = 37
  · rw [if_pos q1, q1]; decide
  rw [if_neg q1]
  by_cases q6 : a = 60
  · rw [if_pos q6, q6]; decide
  rw [if_neg q6]
  by_cases q7 : a = 300
  · rw [if_pos q7, q7]; decide
  rw [if_neg q7]
  exact ⟨by decide, ⟨fun g => absurd g (by decide), fun g => absurd g q5⟩, ⟨fun g => absurd g (by decide), fun g => absurd g q1⟩⟩
theorem m_op {a l r : Int32} (hr : a = 47 ∨ a = 37 → ¬ r = 0) {Q : Int32 → f_S3 → Nat × Nat → Prop} (hQ : Q (t_op a l r) s O) : wY_X8_ofTwoNumbers N (k_sg a) l r s O Q := by
  unfold t_op at hQ
  unfold k_sg
  by_cases q3 : a = 43
  · rw [if_pos q3]
    rw [q3, if_neg (by decide), if_neg (by decide), if_pos rfl] at hQ
    exact ⟨fun _ => hQ, fun g => absurd g (by decide), fun g => absurd g (by decide), fun g => absurd g (by decide), fun g => absurd g (by decide), fun g => absurd g (by decide), fun g => absurd g (by decide), fun g => absurd rfl g⟩
  rw [if_neg q3]
  by_cases q4 : a = 45
  · rw [if_pos q4]
    rw [q4, if_neg (by decide), if_neg (by decide), if_neg (by decide), if_pos rfl] at hQ
    exact ⟨fun g => absurd g (by decide), fun _ => hQ, fun g => absurd g (by decide), fun g => absurd g (by decide), fun g => absurd g (by decide), fun g => absurd g (by decide), fun g => absurd g (by decide), fun _ g => absurd rfl g⟩
  rw [if_neg q4]
  by_cases q2 : a = 42
  · rw [if_pos q2]
    rw [q2, if_neg (by decide), if_pos rfl] at hQ
    exact ⟨fun g => absurd g (by decide), fun g => absurd g (by decide), fun _ => hQ, fun g => absurd g (by decide), fun g => absurd g (by decide), fun g => absurd g (by decide), fun g => absurd g (by decide), fun _ _ g => absurd rfl g⟩
  rw [if_neg q2]
  by_cases q5 : a = 47
  · rw [if_pos q5]
    have rz := hr (Or.inl q5)
    rw [q5, if_neg (by decide), if_neg (by decide), if_neg (by decide), if_neg (by decide), if_pos rfl] at hQ
    refine ⟨fun g => absurd g (by decide), fun g => absurd g (by decide), fun g => absurd g (by decide), fun _ => ⟨fun _ => ⟨rz, ?_⟩, fun g => absurd g rz⟩, fun g => absurd g (by decide), fun g => absurd g (by decide), fun g => absurd g (by decide), fun _ _ _ g => absurd rfl g⟩
    by_cases w : r = -1
    · rw [if_pos w] at hQ; rw [w, t_div]; exact hQ
    · rw [if_neg w] at hQ; exact hQ
  rw [if_neg q5]
  by_cases q1 : a = 37
  · rw [if_pos q1]
    have rz := hr (Or.inr q1)
    rw [if_pos q1] at hQ
    refine ⟨fun g => absurd g (by decide), fun g => absurd g (by decide), fun g => absurd g (by decide), fun g => absurd g (by decide), fun _ => ⟨fun _ => ⟨rz, ?_⟩, fun g => absurd g rz⟩, fun g => absurd g (by decide), fun g => absurd g (by decide), fun _ _ _ _ g => absurd rfl g⟩
    by_cases w : r = -1
    · rw [if_pos w] at hQ; rw [w, t_rem]; exact hQ
    · rw [if_neg w] at hQ; exact hQ
  rw [if_neg q1]
  rw [if_neg q1, if_neg q2, if_neg q3, if_neg q4, if_neg q5] at hQ
  by_cases q6 : a = 60
  · rw [if_pos q6] at hQ ⊢
    refine ⟨fun g => absurd g (by decide), fun g => absurd g (by decide), fun g => absurd g (by decide), fun g => absurd g (by decide), fun g => absurd g (by decide), fun _ => ⟨fun w => ?_, fun w => ?_⟩, fun g => absurd g (by decide), fun _ _ _ _ _ g => absurd rfl g⟩
    · rw [if_pos w] at hQ; exact hQ
    · rw [if_neg w] at hQ; exact hQ
  rw [if_neg q6] at hQ ⊢
  by_cases q7 : a = 300
  · rw [if_pos q7] at hQ ⊢
    refine ⟨fun g => absurd g (by decide), fun g => absurd g (by decide), fun g => absurd g (by decide), fun g => absurd g (by decide), fun g => absurd g (by decide), fun g => absurd g (by decide), fun _ => ⟨fun w => ?_, fun w => ?_⟩, fun _ _ _ _ _ _ g => absurd rfl g⟩
    · rw [if_neg w] at hQ; exact hQ
    · rw [if_pos w] at hQ; exact hQ
  rw [if_neg q7] at hQ ⊢
  refine ⟨fun g => absurd g (by decide), fun g => absurd g (by decide), fun g => absurd g (by decide), fun g => absurd g (by decide), fun g => absurd g (by decide), fun g => absurd g (by decide), fun g => absurd g (by decide), fun _ _ _ _ _ _ _ => ⟨fun w => ?_, fun w => ?_⟩⟩
  · rw [if_pos w] at hQ; exact hQ
  · rw [if_neg w] at hQ; exact hQ
theorem o_count (hN : tN N) (hz : K_z K ≤ N 20) (X : C_X K G B Nn E T V M F f ot k) (hn : F 13 k = 6) : O_A N K M F f ot k := by
  obtain ⟨e1, e2, e3, e4, e5⟩ := C_X_k X
  obtain ⟨⟨c1, c2⟩, c3, c4, c5, c6⟩ := C_X_f X
  have hf : 1 ≤ (M 62).toInt ∧ (M 62).toInt ≤ 12 := by omega
  have hT : (F 13 k).toInt = ((6 : Nat) : Int) := by rw [hn]; decide
  have h69 := e_CX_a X.1 6 (by rw [e2]; exact hT) (by decide)
  rw [e2] at h69
  obtain ⟨⟨g1, g2⟩, -, ⟨a1, a2⟩, ⟨b1, b2⟩, d1⟩ := h69
  have g1 : (2 : Int) ≤ (M 69).toInt := g1
  have g2 : (M 69).toInt ≤ 62 := g2
  have a1 : (-2147483648 : Int) ≤ (F 14 k).toInt := a1
  have a2 : (F 14 k).toInt < 2147483648 := a2
  have b1 : (-2147483648 : Int) ≤ (F 15 k).toInt := b1
  have b2 : (F 15 k).toInt < 2147483648 := b2
  obtain ⟨i0, i1⟩ := k_int X.2.1 X.2.2.2.2.1 (k_en_6 hn)
  obtain ⟨j0, j1⟩ := k_fall X.2.1 X.2.2.2.2.1 (k_en_6 hn) hn (by decide)
  have i0 : K_A K k + 1 ≤ K_z K := i0
  have j0 : K_A K (k + 1) = K_A K k + 1 := j0
  have q0 : K_C K (K_A K k) = k_sg (F 14 k) := i1 0 (show 0 < 1 by decide)
  have n0 : ¬ F 13 k = 0 := fun q => by rw [hn] at q; exact absurd q (by decide)
  have m1 := t_m1 (x := M 69) (by omega)
  have m2 := t_m1 (x := M 69 - 1) (by omega)
  obtain ⟨⟨s6, s13, s21⟩, s17, s18⟩ := k_sgb (F 14 k)
  by_cases z : (F 14 k = 47 ∨ F 14 k = 37) ∧ (F 68 (M 69 - 1).toNatClampNeg) = 0
  · obtain ⟨M', F', j, r1, r2, r3⟩ := t_rs hN hz X n0 (W_69 (v := M 69 - 1 - 1) (W_69 (v := M 69 - 1) (W_0 X))) (kk := 6) (g := 3) (by decide)
    refine ⟨M', F', j + 1, fun Q h => ?_, r2, fun O s h => t_goD h.1.2.1 (fun Qc hq => ?_)⟩
    · have h := h.2.2.2.2.2.2.2.2.1 (by rw [e3]; exact hn)
      rw [e3] at h
      have h := h.2.2
      by_cases w : F 14 k = 47
      · exact r1 Q ((h.1 w).2 z.2)
      · rcases z.1 with g | g
        · exact absurd g w
        · exact r1 Q (((h.2 w).2 g).2 z.2)
    · refine d_two hN hz (S_s_m (k := 70) (v := M 70 + 1) h (by decide)) (by omega) q0 s6 s13 s21 (fun s1 h1 => m_pop hN h1 (show 1 ≤ (M 69).toInt ∧ (M 69).toInt ≤ 64 by omega) (fun s2 h2 => m_pop hN h2 (show 1 ≤ (M 69 - 1).toInt ∧ (M 69 - 1).toInt ≤ 64 by omega) (fun s3 h3 => ⟨fun g => absurd z.2 g, fun _ => ⟨fun _ => r3 O s3 _ h3 Qc hq, fun g1 => ⟨fun g2 => ?_, fun _ => r3 O s3 _ h3 Qc hq⟩⟩⟩)))
      rcases z.1 with g | g
      · exact absurd (s17.mpr g) g1
      · exact absurd (s18.mpr g) g2
  · have zr : F 14 k = 47 ∨ F 14 k = 37 → ¬ (F 68 (M 69 - 1).toNatClampNeg) = 0 := fun g w => z ⟨g, w⟩
    refine ⟨um (um (um (um M 70 (M 70 + 1)) 69 (M 69 - 1)) 69 (M 69 - 1 - 1)) 69 (M 69 - 1 - 1 + 1), uf F 68 (M 69 - 1 - 1) (t_op (F 14 k) (F 68 (M 69 - 1 - 1).toNatClampNeg) (F 68 (M 69 - 1).toNatClampNeg)), 1, fun Q h => ?_, ap_st X 6 hT (by decide) ⟨rfl, rfl, rfl, rfl, rfl, rfl, rfl⟩ rfl ⟨rfl, rfl, rfl, rfl, rfl⟩, fun O s h => t_go1 h.1.2.1 (fun Qc hq => ?_)⟩
    · have h := h.2.2.2.2.2.2.2.2.1 (by rw [e3]; exact hn)
      rw [e3] at h
      have h := h.2.2
      have h2 : w_count_35 (fun M2 F2 => Q M2 F2) (F 14 k) (F 68 (M 69 - 1).toNatClampNeg) (F 68 (M 69 - 1 - 1).toNatClampNeg) (um (um (um M 70 (M 70 + 1)) 69 (M 69 - 1)) 69 (M 69 - 1 - 1)) F := by
        by_cases w : F 14 k = 47
        · exact (h.1 w).1 (zr (Or.inl w))
        · by_cases w2 : F 14 k = 37
          · exact ((h.2 w).2 w2).1 (zr (Or.inr w2))
          · exact (h.2 w).1 w2
      exact (r_cnt h2).2
    · refine d_two hN hz (S_s_m (k := 70) (v := M 70 + 1) h (by decide)) (by omega) q0 s6 s13 s21 (fun s1 h1 => m_pop hN h1 (show 1 ≤ (M 69).toInt ∧ (M 69).toInt ≤ 64 by omega) (fun s2 h2 => m_pop hN h2 (show 1 ≤ (M 69 - 1).toInt ∧ (M 69 - 1).toInt ≤ 64 by omega) (fun s3 h3 => ?_)))
      have go : wY_X8_doTwoNumbers_34 N (fun s2 O2 => t_84 N Qc s2 O2) (k_sg (F 14 k)) (F 68 (M 69 - 1).toNatClampNeg) (F 68 (M 69 - 1 - 1).toNatClampNeg) s3 O := m_op zr (m_push hN h3 (show 0 ≤ (M 69 - 1 - 1).toInt ∧ (M 69 - 1 - 1).toInt < 64 by omega) (fun s4 h4 => t_84g h4 (hq _ _ (A_S_go X.2.2.2.2.2.1 X.2.2.2.2.2.2.1 e4 (by rw [j0]; exact h4)))))
      exact ⟨fun _ => go, fun g => ⟨fun w => absurd g (zr (Or.inl (s17.mp w))), fun _ => ⟨fun _ => go, fun w => absurd g (zr (Or.inr (s18.mp w)))⟩⟩⟩
end TQE
