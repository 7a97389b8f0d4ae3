/-! ACTS THAT ASK, MAKE, RAISE, JOIN, RECKON, STEP, JUMP, each beside the class's deed. -/
section TQD
variable {K : k_K} {N : Nat → Nat} {s s' : f_S3} {O : Nat × Nat} {M M' M1 : e_M} {F F' F1 : e_F} {p : Nat} {st ra : Int32} {G : e_G} {B Nn E T V : Int} {f ot k j : Nat}
theorem t_div (a : Int32) : a / (-1) = -a := Int32.toInt_inj.mp (by rw [Int32.toInt_div, show (-1 : Int32).toInt = -1 by decide, Int32.toInt_neg, Int.tdiv_neg, Int.tdiv_one])
theorem t_rem (a : Int32) : a - a / (-1) * (-1) = 0 := by rw [t_div, Int32.mul_neg, Int32.mul_one, Int32.neg_neg, Int32.sub_self]
theorem o_raise (hN : tN N) (hz : K_z K ≤ N 20) (X : C_X K G B Nn E T V M F f ot k) (hn : F 13 k = 14) : O_A N K M F f ot k := by
  obtain ⟨e1, e2, e3, e4, e5⟩ := C_X_k X
  obtain ⟨⟨c1, c2⟩, c3, c4, c5, c6⟩ := C_X_f X
  have hf : 1 ≤ (M 62).toInt ∧ (M 62).toInt ≤ 12 := by omega
  have hT : (F 13 k).toInt = ((14 : Nat) : Int) := by rw [hn]; decide
  have h69 := e_CX_a X.1 14 (by rw [e2]; exact hT) (by decide)
  rw [e2] at h69
  obtain ⟨⟨g1, g2⟩, -, ⟨a1, a2⟩, ⟨b1, b2⟩, d1⟩ := h69
  have g1 : (0 : Int) ≤ (M 69).toInt := g1
  have g2 : (M 69).toInt ≤ 0 := g2
  have a1 : (0 : Int) ≤ (F 14 k).toInt := a1
  have a2 : (F 14 k).toInt < 8 := a2
  have b1 : (-2147483648 : Int) ≤ (F 15 k).toInt := b1
  have b2 : (F 15 k).toInt < 2147483648 := b2
  obtain ⟨i0, i1⟩ := k_int X.2.1 X.2.2.2.2.1 (k_en_14 hn)
  obtain ⟨j0, j1⟩ := k_fall X.2.1 X.2.2.2.2.1 (k_en_14 hn) hn (by decide)
  have i0 : K_A K k + 2 ≤ K_z K := i0
  have j0 : K_A K (k + 1) = K_A K k + 2 := j0
  have q0 : K_C K (K_A K k) = 28 := i1 0 (show 0 < 2 by decide)
  have q1 : K_C K (K_A K k + 1) = F 14 k := i1 1 (show 1 < 2 by decide)
  have n0 : ¬ F 13 k = 0 := fun q => by rw [hn] at q; exact absurd q (by decide)
  have ho := C_X_o X (a := F 14 k) (by omega)
  by_cases z : F 58 (8 * (M 62 - 1) + F 14 k).toNatClampNeg = 0
  · obtain ⟨M', F', j, r1, r2, r3⟩ := t_rs hN hz X n0 (W_0 X) (kk := 3) (g := 1) (by decide)
    refine ⟨M', F', j + 1, fun Q h => ?_, r2, fun O s h => t_goD h.1.2.1 (fun Qc hq => ?_)⟩
    · have h := (h.2.2.2.2.2.2.2.2.2.2.2.2.2.2.2.2.1 (by rw [e3]; exact hn)).2.2.2.1 (by rw [e3]; exact hn)
      rw [e3] at h
      exact r1 Q ((h.2 _ rfl).2 z)
    · refine d_obj hN hz (S_s_m (k := 70) (v := M 70 + 1) h (by decide)) (by omega) q0 (by decide) (by decide) (by decide) (fun s1 h1 => m_fetch hN hz h1 (by omega) (fun s2 h2 => ?_))
      rw [q1]
      refine ⟨fun g => absurd g (by decide), fun g => absurd g (by decide), fun g => absurd g (by decide), fun g => absurd g (by decide), fun g => absurd g (by decide), fun g => absurd g (by decide), fun _ => m_obj hN h2 hf (by omega) ⟨fun w => absurd z w, fun _ => r3 O s2 _ h2 Qc hq⟩, fun g => absurd g (by decide), fun _ _ _ _ _ _ g _ => absurd rfl g⟩
  · have z' := ti_ne z
    rw [e_z0] at z'
    obtain ⟨M', F', j, r1, r2, r3⟩ := t_rz hN hz X n0 (W_0 X) (o := F 58 (8 * (M 62 - 1) + F 14 k).toNatClampNeg) (show 1 ≤ (F 58 (8 * (M 62 - 1) + F 14 k).toNatClampNeg).toInt ∧ (F 58 (8 * (M 62 - 1) + F 14 k).toNatClampNeg).toInt ≤ (M 54).toInt by omega)
    refine ⟨M', F', j + 1, fun Q h => ?_, r2, fun O s h => t_goD h.1.2.1 (fun Qc hq => ?_)⟩
    · have h := (h.2.2.2.2.2.2.2.2.2.2.2.2.2.2.2.2.1 (by rw [e3]; exact hn)).2.2.2.1 (by rw [e3]; exact hn)
      rw [e3] at h
      exact r1 Q (((h.2 _ rfl).1 z).2 _ rfl)
    · refine d_obj hN hz (S_s_m (k := 70) (v := M 70 + 1) h (by decide)) (by omega) q0 (by decide) (by decide) (by decide) (fun s1 h1 => m_fetch hN hz h1 (by omega) (fun s2 h2 => ?_))
      rw [q1]
      refine ⟨fun g => absurd g (by decide), fun g => absurd g (by decide), fun g => absurd g (by decide), fun g => absurd g (by decide), fun g => absurd g (by decide), fun g => absurd g (by decide), fun _ => m_obj hN h2 hf (by omega) ⟨fun _ => ?_, fun w => absurd w z⟩, fun g => absurd g (by decide), fun _ _ _ _ _ _ g _ => absurd rfl g⟩
      have h3 := S_s_ra (v := F 58 (8 * (M 62 - 1) + F 14 k).toNatClampNeg) h2
      exact r3 O _ h3.1.2.1 h3.1.2.2 h3.2.1 h3.2.2.1 Qc hq
theorem o_cause (hN : tN N) (hz : K_z K ≤ N 20) (X : C_X K G B Nn E T V M F f ot k) (hn : F 13 k = 12) : O_A N K M F f ot k := by
  obtain ⟨e1, e2, e3, e4, e5⟩ := C_X_k X
  obtain ⟨⟨c1, c2⟩, c3, c4, c5, c6⟩ := C_X_f X
  have hf : 1 ≤ (M 62).toInt ∧ (M 62).toInt ≤ 12 := by omega
  have hT : (F 13 k).toInt = ((12 : Nat) : Int) := by rw [hn]; decide
  have h69 := e_CX_a X.1 12 (by rw [e2]; exact hT) (by decide)
  rw [e2] at h69
  obtain ⟨⟨g1, g2⟩, -, ⟨a1, a2⟩, ⟨b1, b2⟩, d1⟩ := h69
  have g1 : (0 : Int) ≤ (M 69).toInt := g1
  have g2 : (M 69).toInt ≤ 0 := g2
  have a1 : (0 : Int) ≤ (F 14 k).toInt := a1
  have a2 : (F 14 k).toInt < 8 := a2
  have b1 : (0 : Int) ≤ (F 15 k).toInt := b1
  have b2 : (F 15 k).toInt < 8 := b2
  obtain ⟨i0, i1⟩ := k_int X.2.1 X.2.2.2.2.1 (k_en_12 hn)
  obtain ⟨j0, j1⟩ := k_fall X.2.1 X.2.2.2.2.1 (k_en_12 hn) hn (by decide)
  have i0 : K_A K k + 3 ≤ K_z K := i0
  have j0 : K_A K (k + 1) = K_A K k + 3 := j0
  have q0 : K_C K (K_A K k) = 26 := i1 0 (show 0 < 3 by decide)
  have q1 : K_C K (K_A K k + 1) = F 14 k := i1 1 (show 1 < 3 by decide)
  have q2 : K_C K (K_A K k + 1 + 1) = F 15 k := i1 2 (show 2 < 3 by decide)
  have n0 : ¬ F 13 k = 0 := fun q => by rw [hn] at q; exact absurd q (by decide)
  have ho := C_X_o X (a := F 15 k) (by omega)
  by_cases z : F 58 (8 * (M 62 - 1) + F 15 k).toNatClampNeg = 0
  · obtain ⟨M', F', j, r1, r2, r3⟩ := t_rs hN hz X n0 (W_0 X) (kk := 3) (g := 1) (by decide)
    refine ⟨M', F', j + 1, fun Q h => ?_, r2, fun O s h => t_goD h.1.2.1 (fun Qc hq => ?_)⟩
    · have h := (h.2.2.2.2.2.2.2.2.2.2.2.2.2.2.1 (by rw [e3]; exact hn)).2.1 (by rw [e3]; exact hn)
      rw [e3] at h
      exact r1 Q ((h.2.2 _ rfl).2 z)
    · refine d_obj hN hz (S_s_m (k := 70) (v := M 70 + 1) h (by decide)) (by omega) q0 (by decide) (by decide) (by decide) (fun s1 h1 => m_fetch hN hz h1 (by omega) (fun s2 h2 => ?_))
      rw [q1]
      refine ⟨fun g => absurd g (by decide), fun g => absurd g (by decide), fun g => absurd g (by decide), fun g => absurd g (by decide), fun _ => m_fetch hN hz h2 (by omega) (fun s3 h3 => ?_), fun g => absurd g (by decide), fun g => absurd g (by decide), fun g => absurd g (by decide), fun _ _ _ _ g _ _ _ => absurd rfl g⟩
      rw [q2]
      exact m_obj hN h3 hf (by omega) ⟨fun w => absurd z w, fun _ => r3 O s3 _ h3 Qc hq⟩
  · have z' := ti_ne z
    rw [e_z0] at z'
    refine ⟨um M 70 (M 70 + 1), uf F 58 (8 * (M 62 - 1) + F 14 k) (F 52 (F 58 (8 * (M 62 - 1) + F 15 k).toNatClampNeg).toNatClampNeg), 1, fun Q h => ?_, ap_st X 12 hT (by decide) ⟨rfl, rfl, rfl, rfl, rfl, rfl, rfl⟩ rfl ⟨rfl, rfl, rfl, rfl, rfl⟩, fun O s h => t_go1 h.1.2.1 (fun Qc hq => ?_)⟩
    · have h := (h.2.2.2.2.2.2.2.2.2.2.2.2.2.2.1 (by rw [e3]; exact hn)).2.1 (by rw [e3]; exact hn)
      rw [e3] at h
      exact ((((h.2.2 _ rfl).1 z).2.2 _ rfl).2).2
    · refine d_obj hN hz (S_s_m (k := 70) (v := M 70 + 1) h (by decide)) (by omega) q0 (by decide) (by decide) (by decide) (fun s1 h1 => m_fetch hN hz h1 (by omega) (fun s2 h2 => ?_))
      rw [q1]
      refine ⟨fun g => absurd g (by decide), fun g => absurd g (by decide), fun g => absurd g (by decide), fun g => absurd g (by decide), fun _ => m_fetch hN hz h2 (by omega) (fun s3 h3 => ?_), fun g => absurd g (by decide), fun g => absurd g (by decide), fun g => absurd g (by decide), fun _ _ _ _ g _ _ _ => absurd rfl g⟩
      rw [q2]
      exact m_obj hN h3 hf (by omega) ⟨fun _ => m_causeOf h3.2.1.1 (show 1 ≤ (F 58 (8 * (M 62 - 1) + F 15 k).toNatClampNeg).toInt ∧ (F 58 (8 * (M 62 - 1) + F 15 k).toNatClampNeg).toInt ≤ (M 54).toInt by omega) (m_setobj hN h3 hf (by omega) (fun s4 h4 => t_84g h4 (hq _ _ (A_S_go X.2.2.2.2.2.1 X.2.2.2.2.2.2.1 e4 (by rw [j0]; exact h4))))), fun w => absurd w z⟩
def t_av (F : e_F) (o b : Int32) : Int32 := if b = 0 then F 49 o.toNatClampNeg else if b = 1 then F 50 o.toNatClampNeg else if b = 2 then t_wt F o else if b = 3 then t_mn F 50 0 o else o
theorem r_ask {o b : Int32} {Q : e_M → e_F → Prop} (hO : e_OB M F) (ho : 1 ≤ o.toInt ∧ o.toInt ≤ (M 54).toInt) (hb : ¬ (b = 1 ∧ ¬ F 48 o.toNatClampNeg = 2)) (h : w_ask o b M F Q) : w_push (t_av F o b) M F (fun M2 F2 => Q M2 F2) := by
  have oz : ¬ o = 0 := fun q => by rw [q] at ho; exact absurd ho.1 (by decide)
  obtain ⟨h0, h1, h2, h3, h4⟩ := h.1 oz
  unfold t_av
  by_cases q0 : b = 0
  · rw [if_pos q0]; exact (h0 q0).2
  rw [if_neg q0]
  by_cases q1 : b = 1
  · rw [if_pos q1]
    by_cases w : F 48 o.toNatClampNeg = 2
    · exact ((h1 q1).2.2 w).2
    · exact absurd ⟨q1, w⟩ hb
  rw [if_neg q1]
  by_cases q2 : b = 2
  · rw [if_pos q2]; exact r_weight (h2 q2)
  rw [if_neg q2]
  by_cases q3 : b = 3
  · rw [if_pos q3]; exact r_many hO (by omega) (h3 q3)
  rw [if_neg q3]; exact h4 q0 q1 q2 q3
theorem m_ask {o b : Int32} (hO : e_OB M F) (hD : S_D s O M F) (ho : 1 ≤ o.toInt ∧ o.toInt ≤ (M 54).toInt) {Q : Int32 → f_S3 → Nat × Nat → Prop} (hQ : Q (t_av F o b) s O) : wY_X2_tell N o (k_wh b) s O Q := by
  unfold t_av at hQ
  unfold k_wh
  by_cases q0 : b = 0
  · rw [if_pos q0] at hQ ⊢
    exact ⟨fun g => absurd g (by decide), fun g => absurd g (by decide), fun _ _ => ⟨fun g => absurd g (by decide), fun _ => ⟨fun g => absurd g (by decide), fun _ => m_groundOf hD ho hQ⟩⟩⟩
  rw [if_neg q0] at hQ ⊢
  by_cases q1 : b = 1
  · rw [if_pos q1] at hQ ⊢
    exact ⟨fun g => absurd g (by decide), fun g => absurd g (by decide), fun _ _ => ⟨fun g => absurd g (by decide), fun _ => ⟨fun g => absurd g (by decide), fun _ => m_daysOf hD ho hQ⟩⟩⟩
  rw [if_neg q1] at hQ ⊢
  by_cases q2 : b = 2
  · rw [if_pos q2] at hQ ⊢
    exact ⟨fun _ => m_weight hO hD ho hQ, fun g => absurd g (by decide), fun g => absurd rfl g⟩
  rw [if_neg q2] at hQ ⊢
  by_cases q3 : b = 3
  · rw [if_pos q3] at hQ ⊢
    exact ⟨fun g => absurd g (by decide), fun _ => m_many hO hD (by omega) hQ, fun _ g => absurd rfl g⟩
  rw [if_neg q3] at hQ ⊢
  exact ⟨fun g => absurd g (by decide), fun g => absurd g (by decide), fun _ _ => ⟨fun g => absurd g (by decide), fun _ => ⟨fun g => absurd g (by decide), fun _ => m_serOf hD ho hQ⟩⟩⟩
theorem k_wh2 {b : Int32} : k_wh b = 2 ↔ b = 1 := by
  unfold k_wh
  by_cases q0 : b = 0
  · rw [if_pos q0, q0]; decide
  rw [if_neg q0]
  by_cases q1 : b = 1
  · rw [if_pos q1, q1]; decide
  rw [if_neg q1]
  refine ⟨fun g => ?_, fun g => absurd g q1⟩
  split at g
  · exact absurd g (by decide)
  · split at g <;> exact absurd g (by decide)
theorem o_ask (hN : tN N) (hz : K_z K ≤ N 20) (X : C_X K G B Nn E T V M F f ot k) (hn : F 13 k = 7) : O_A N K M F f ot k := by
  obtain ⟨e1, e2, e3, e4, e5⟩ := C_X_k X
  obtain ⟨⟨c1, c2⟩, c3, c4, c5, c6⟩ := C_X_f X
  have hf : 1 ≤ (M 62).toInt ∧ (M 62).toInt ≤ 12 := by omega
  have hT : (F 13 k).toInt = ((7 : Nat) : Int) := by rw [hn]; decide
  have h69 := e_CX_a X.1 7 (by rw [e2]; exact hT) (by decide)
  rw [e2] at h69
  obtain ⟨⟨g1, g2⟩, -, ⟨a1, a2⟩, ⟨b1, b2⟩, d1⟩ := h69
  have g1 : (0 : Int) ≤ (M 69).toInt := g1
  have g2 : (M 69).toInt ≤ 61 := g2
  have a1 : (0 : Int) ≤ (F 14 k).toInt := a1
  have a2 : (F 14 k).toInt < 8 := a2
  have b1 : (-2147483648 : Int) ≤ (F 15 k).toInt := b1
  have b2 : (F 15 k).toInt < 2147483648 := b2
  obtain ⟨i0, i1⟩ := k_int X.2.1 X.2.2.2.2.1 (k_en_7 hn)
  obtain ⟨j0, j1⟩ := k_fall X.2.1 X.2.2.2.2.1 (k_en_7 hn) hn (by decide)
  have i0 : K_A K k + 3 ≤ K_z K := i0
  have j0 : K_A K (k + 1) = K_A K k + 3 := j0
  have q0 : K_C K (K_A K k) = 22 := i1 0 (show 0 < 3 by decide)
  have q1 : K_C K (K_A K k + 1) = F 14 k := i1 1 (show 1 < 3 by decide)
  have q2 : K_C K (K_A K k + 1 + 1) = k_wh (F 15 k) := i1 2 (show 2 < 3 by decide)
  have n0 : ¬ F 13 k = 0 := fun q => by rw [hn] at q; exact absurd q (by decide)
  have ho := C_X_o X (a := F 14 k) (by omega)
  have hOB : e_OB (um M 70 (M 70 + 1)) F := e_OB_70 X.1.2.2.1 _
  by_cases z : F 58 (8 * (M 62 - 1) + F 14 k).toNatClampNeg = 0
  · obtain ⟨M', F', j, r1, r2, r3⟩ := t_rs hN hz X n0 (W_0 X) (kk := 3) (g := 1) (by decide)
    refine ⟨M', F', j + 1, fun Q h => ?_, r2, fun O s h => t_goD h.1.2.1 (fun Qc hq => ?_)⟩
    · have h := h.2.2.2.2.2.2.2.2.2.1 (by rw [e3]; exact hn)
      rw [e3] at h
      exact r1 Q ((h.2 _ rfl).2.2 z)
    · refine d_obj hN hz (S_s_m (k := 70) (v := M 70 + 1) h (by decide)) (by omega) q0 (by decide) (by decide) (by decide) (fun s1 h1 => m_fetch hN hz h1 (by omega) (fun s2 h2 => ?_))
      rw [q1]
      refine ⟨fun _ => m_fetch hN hz h2 (by omega) (fun s3 h3 => ?_), fun g => absurd g (by decide), fun g => absurd g (by decide), fun g => absurd g (by decide), fun g => absurd g (by decide), fun g => absurd g (by decide), fun g => absurd g (by decide), fun g => absurd g (by decide), fun g _ _ _ _ _ _ _ => absurd rfl g⟩
      rw [q2]
      exact m_obj hN h3 hf (by omega) ⟨fun w => absurd z w, fun _ => r3 O s3 _ h3 Qc hq⟩
  · have z' := ti_ne z
    rw [e_z0] at z'
    have ho1 : 1 ≤ (F 58 (8 * (M 62 - 1) + F 14 k).toNatClampNeg).toInt ∧ (F 58 (8 * (M 62 - 1) + F 14 k).toNatClampNeg).toInt ≤ (M 54).toInt := by omega
    by_cases w : F 15 k = 1 ∧ ¬ F 48 (F 58 (8 * (M 62 - 1) + F 14 k).toNatClampNeg).toNatClampNeg = 2
    · obtain ⟨M', F', j, r1, r2, r3⟩ := t_rs hN hz X n0 (W_0 X) (kk := 1) (g := 2) (by decide)
      refine ⟨M', F', j + 1, fun Q h => ?_, r2, fun O s h => t_goD h.1.2.1 (fun Qc hq => ?_)⟩
      · have h := h.2.2.2.2.2.2.2.2.2.1 (by rw [e3]; exact hn)
        rw [e3] at h
        exact r1 Q ((((h.2 _ rfl).2.1 z).2.1 w.1).2.1 w.2)
      · refine d_obj hN hz (S_s_m (k := 70) (v := M 70 + 1) h (by decide)) (by omega) q0 (by decide) (by decide) (by decide) (fun s1 h1 => m_fetch hN hz h1 (by omega) (fun s2 h2 => ?_))
        rw [q1]
        refine ⟨fun _ => m_fetch hN hz h2 (by omega) (fun s3 h3 => ?_), fun g => absurd g (by decide), fun g => absurd g (by decide), fun g => absurd g (by decide), fun g => absurd g (by decide), fun g => absurd g (by decide), fun g => absurd g (by decide), fun g => absurd g (by decide), fun g _ _ _ _ _ _ _ => absurd rfl g⟩
        rw [q2]
        exact m_obj hN h3 hf (by omega) ⟨fun _ => ⟨fun g => absurd (k_wh2.mpr w.1) g, fun _ => m_kindOf h3.2.1.1 ho1 ⟨fun g => absurd g w.2, fun _ => r3 O s3 _ h3 Qc hq⟩⟩, fun g => absurd g z⟩
    · refine ⟨um (um M 70 (M 70 + 1)) 69 (M 69 + 1), uf F 68 (M 69) (t_av F (F 58 (8 * (M 62 - 1) + F 14 k).toNatClampNeg) (F 15 k)), 1, fun Q h => ?_, ap_st X 7 hT (by decide) ⟨rfl, rfl, rfl, rfl, rfl, rfl, rfl⟩ rfl ⟨rfl, rfl, rfl, rfl, rfl⟩, fun O s h => t_go1 h.1.2.1 (fun Qc hq => ?_)⟩
      · have h := h.2.2.2.2.2.2.2.2.2.1 (by rw [e3]; exact hn)
        rw [e3] at h
        exact (r_ask hOB ho1 w (h.2 _ rfl).2).2
      · refine d_obj hN hz (S_s_m (k := 70) (v := M 70 + 1) h (by decide)) (by omega) q0 (by decide) (by decide) (by decide) (fun s1 h1 => m_fetch hN hz h1 (by omega) (fun s2 h2 => ?_))
        rw [q1]
        refine ⟨fun _ => m_fetch hN hz h2 (by omega) (fun s3 h3 => ?_), fun g => absurd g (by decide), fun g => absurd g (by decide), fun g => absurd g (by decide), fun g => absurd g (by decide), fun g => absurd g (by decide), fun g => absurd g (by decide), fun g => absurd g (by decide), fun g _ _ _ _ _ _ _ => absurd rfl g⟩
        rw [q2]
        have tl : wY_X8_tellOf_45 N (fun s2 O2 => t_84 N Qc s2 O2) (k_wh (F 15 k)) (F 58 (8 * (M 62 - 1) + F 14 k).toNatClampNeg) s3 O := m_ask hOB h3.2.1.1 ho1 (m_push hN h3 (show 0 ≤ (M 69).toInt ∧ (M 69).toInt < 64 by omega) (fun s4 h4 => t_84g h4 (hq _ _ (A_S_go X.2.2.2.2.2.1 X.2.2.2.2.2.2.1 e4 (by rw [j0]; exact h4)))))
        refine m_obj hN h3 hf (by omega) ⟨fun _ => ⟨fun _ => tl, fun g => m_kindOf h3.2.1.1 ho1 ⟨fun _ => tl, fun g2 => absurd ⟨k_wh2.mp g, g2⟩ w⟩⟩, fun g => absurd g z⟩
theorem o_join (hN : tN N) (hz : K_z K ≤ N 20) (X : C_X K G B Nn E T V M F f ot k) (hn : F 13 k = 15) : O_A N K M F f ot k := by
  obtain ⟨e1, e2, e3, e4, e5⟩ := C_X_k X
  obtain ⟨⟨c1, c2⟩, c3, c4, c5, c6⟩ := C_X_f X
  have hf : 1 ≤ (M 62).toInt ∧ (M 62).toInt ≤ 12 := by omega
  have hT : (F 13 k).toInt = ((15 : Nat) : Int) := by rw [hn]; decide
  have h69 := e_CX_a X.1 15 (by rw [e2]; exact hT) (by decide)
  rw [e2] at h69
  obtain ⟨⟨g1, g2⟩, -, ⟨a1, a2⟩, ⟨b1, b2⟩, d1⟩ := h69
  have g1 : (0 : Int) ≤ (M 69).toInt := g1
  have g2 : (M 69).toInt ≤ 0 := g2
  have a1 : (0 : Int) ≤ (F 14 k).toInt := a1
  have a2 : (F 14 k).toInt < 8 := a2
  have b1 : (-1 : Int) ≤ (F 15 k).toInt := b1
  have b2 : (F 15 k).toInt < 8 := b2
  obtain ⟨i0, i1⟩ := k_int X.2.1 X.2.2.2.2.1 (k_en_15 hn)
  obtain ⟨j0, j1⟩ := k_fall X.2.1 X.2.2.2.2.1 (k_en_15 hn) hn (by decide)
  have i0 : K_A K k + 3 ≤ K_z K := i0
  have j0 : K_A K (k + 1) = K_A K k + 3 := j0
  have q0 : K_C K (K_A K k) = 29 := i1 0 (show 0 < 3 by decide)
  have q1 : K_C K (K_A K k + 1) = F 14 k := i1 1 (show 1 < 3 by decide)
  have q2 : K_C K (K_A K k + 1 + 1) = F 15 k := i1 2 (show 2 < 3 by decide)
  have n0 : ¬ F 13 k = 0 := fun q => by rw [hn] at q; exact absurd q (by decide)
  have ho := C_X_o X (a := F 14 k) (by omega)
  have rf : ∀ Q : e_M → e_F → Prop, w_act M F Q → w_joins (F 58 (8 * (M 62 - 1) + F 14 k).toNatClampNeg) (if F 15 k = -1 then 0 else F 58 (8 * (M 62 - 1) + F 15 k).toNatClampNeg) (um M 70 (M 70 + 1)) F (fun M37 F37 => Q M37 F37) := fun Q h => by
    have h := (h.2.2.2.2.2.2.2.2.2.2.2.2.2.2.2.2.2.1 (by rw [e3]; exact hn)).2.2.2.2.1 (by rw [e3]; exact hn)
    rw [e3] at h
    obtain ⟨-, h1, h2⟩ := h.2 _ rfl
    by_cases w : F 15 k = -1
    · rw [if_pos w]; exact h2 w
    · rw [if_neg w]; exact (h1 w).2.2 _ rfl
  have cl : ∀ (O : Nat × Nat) (s : f_S3), S_s K (K_A K k) 0 0 s O M F → ∀ Qc : f_S3 → Nat × Nat → Prop, (∀ s3, S_s K (K_A K (k + 1)) 0 0 s3 O (um M 70 (M 70 + 1)) F → wY_X8_joinHeld N (F 58 (8 * (M 62 - 1) + F 14 k).toNatClampNeg) (if F 15 k = -1 then 0 else F 58 (8 * (M 62 - 1) + F 15 k).toNatClampNeg) s3 O (fun s2 O2 => t_84 N Qc s2 O2)) → t_dd N s O Qc := fun O s h Qc hq => by
    refine d_obj hN hz (S_s_m (k := 70) (v := M 70 + 1) h (by decide)) (by omega) q0 (by decide) (by decide) (by decide) (fun s1 h1 => m_fetch hN hz h1 (by omega) (fun s2 h2 => ?_))
    rw [q1]
    refine ⟨fun g => absurd g (by decide), fun g => absurd g (by decide), fun g => absurd g (by decide), fun g => absurd g (by decide), fun g => absurd g (by decide), fun g => absurd g (by decide), fun g => absurd g (by decide), fun _ => m_obj hN h2 hf (by omega) (m_fetch hN hz h2 (by omega) (fun s3 h3 => ?_)), fun _ _ _ _ _ _ _ g => absurd rfl g⟩
    rw [q2]
    rw [j0] at hq
    by_cases w : F 15 k = -1
    · rw [if_pos w] at hq
      rw [w]
      exact m_obj_ rfl (hq s3 h3)
    · rw [if_neg w] at hq
      have w' := ti_ne w
      rw [show (-1 : Int32).toInt = -1 by decide] at w'
      exact m_obj hN h3 hf (by omega) (hq s3 h3)
  by_cases z : F 58 (8 * (M 62 - 1) + F 14 k).toNatClampNeg = 0
  · obtain ⟨M', F', j, r1, r2, r3⟩ := t_rs hN hz X n0 (W_0 X) (kk := 3) (g := 1) (by decide)
    exact ⟨M', F', j + 1, fun Q h => r1 Q ((rf Q h).2 z), r2, fun O s h => t_goD h.1.2.1 (fun Qc hq => cl O s h Qc (fun s3 h3 => ⟨fun w => absurd z w, fun _ => r3 O s3 _ h3 Qc hq⟩))⟩
  · have z' := ti_ne z
    rw [e_z0] at z'
    have ho1 : 1 ≤ (F 58 (8 * (M 62 - 1) + F 14 k).toNatClampNeg).toInt ∧ (F 58 (8 * (M 62 - 1) + F 14 k).toNatClampNeg).toInt ≤ (M 54).toInt := by omega
    by_cases y : F 53 (F 58 (8 * (M 62 - 1) + F 14 k).toNatClampNeg).toNatClampNeg = 0
    · have y1 : ¬ F 53 (F 58 (8 * (M 62 - 1) + F 14 k).toNatClampNeg).toNatClampNeg = 1 := fun g => by rw [y] at g; exact absurd g (by decide)
      by_cases w : F 58 (8 * (M 62 - 1) + F 14 k).toNatClampNeg = (if F 15 k = -1 then 0 else F 58 (8 * (M 62 - 1) + F 15 k).toNatClampNeg)
      · obtain ⟨M', F', j, r1, r2, r3⟩ := t_rj hN hz X n0 (W_56 (v := M 56 + 1) (W_0 X)) (kk := 5) (g := 5) (x := F 58 (8 * (M 62 - 1) + F 14 k).toNatClampNeg) (by decide) ho1
        refine ⟨M', F', j + 1, fun Q h => r1 Q ((((rf Q h).1 z).2.1 y).2 w), r2, fun O s h => t_goD h.1.2.1 (fun Qc hq => cl O s h Qc (fun s3 h3 => ⟨fun _ => m_setOf h3.2.1.1 ho1 ⟨fun _ => ⟨fun g => absurd w g, fun _ => ⟨fun _ => ?_, fun g => absurd g (by decide)⟩⟩, fun g => absurd g y1⟩, fun g => absurd g z⟩))⟩
        refine ⟨fun g => absurd g (by decide), fun _ => ⟨fun _ => ?_, fun g => absurd g (by decide)⟩⟩
        exact r3 O _ _ (S_s_23 h3) Qc hq
      · refine ⟨um M 70 (M 70 + 1), uf (uf F 52 (F 58 (8 * (M 62 - 1) + F 14 k).toNatClampNeg) (if F 15 k = -1 then 0 else F 58 (8 * (M 62 - 1) + F 15 k).toNatClampNeg)) 53 (F 58 (8 * (M 62 - 1) + F 14 k).toNatClampNeg) (vp_nar .boolean 1), 1, fun Q h => ((((rf Q h).1 z).2.1 y).1 w).2.2, ap_st X 15 hT (by decide) ⟨rfl, rfl, rfl, rfl, rfl, rfl, rfl⟩ rfl ⟨rfl, rfl, rfl, rfl, rfl⟩, fun O s h => t_go1 h.1.2.1 (fun Qc hq => cl O s h Qc (fun s3 h3 => ⟨fun _ => m_setOf h3.2.1.1 ho1 ⟨fun _ => ⟨fun _ => ⟨fun g => absurd rfl g, fun _ => m_settle h3 ho1 (fun s4 h4 => ?_)⟩, fun g => absurd g w⟩, fun g => absurd g y1⟩, fun g => absurd g z⟩))⟩
        exact ⟨fun _ => t_84g h4 (hq _ _ (A_S_go X.2.2.2.2.2.1 X.2.2.2.2.2.2.1 e4 h4)), fun g => absurd rfl g⟩
    · obtain ⟨M', F', j, r1, r2, r3⟩ := t_rj hN hz X n0 (W_56 (v := M 56 + 1) (W_0 X)) (kk := 2) (g := 4) (x := F 58 (8 * (M 62 - 1) + F 14 k).toNatClampNeg) (by decide) ho1
      refine ⟨M', F', j + 1, fun Q h => r1 Q (((rf Q h).1 z).2.2 y), r2, fun O s h => t_goD h.1.2.1 (fun Qc hq => cl O s h Qc (fun s3 h3 => ?_))⟩
      have y1 : F 53 (F 58 (8 * (M 62 - 1) + F 14 k).toNatClampNeg).toNatClampNeg = 1 := by
        obtain ⟨i, d1, d2, d3, -⟩ := t_ser (M := M) ho1
        rcases (h3.2.1.1.2.2.1 i d1).2 with g | g
        · rw [d3] at y; exact absurd g y
        · rw [d3]; exact g
      refine ⟨fun _ => m_setOf h3.2.1.1 ho1 ⟨fun g => absurd y1 g, fun _ => ⟨fun _ => ?_, fun g => absurd g (by decide)⟩⟩, fun g => absurd g z⟩
      refine ⟨fun g => absurd g (by decide), fun _ => ⟨fun g => absurd rfl g, fun _ => ?_⟩⟩
      exact r3 O _ _ (S_s_23 h3) Qc hq
theorem o_step (hN : tN N) (hz : K_z K ≤ N 20) (X : C_X K G B Nn E T V M F f ot k) (hn : F 13 k = 0) : O_A N K M F f ot k := by
  obtain ⟨e1, e2, e3, e4, e5⟩ := C_X_k X
  obtain ⟨⟨c1, c2⟩, c3, c4, c5, c6⟩ := C_X_f X
  have hs := X.1.2.2.2
  obtain ⟨i0, i1⟩ := k_int X.2.1 X.2.2.2.2.1 (k_en_0 hn)
  obtain ⟨j0, j1⟩ := k_fall X.2.1 X.2.2.2.2.1 (k_en_0 hn) hn (by decide)
  have i0 : K_A K k + 1 ≤ K_z K := i0
  have j0 : K_A K (k + 1) = K_A K k + 1 := j0
  have q0 : K_C K (K_A K k) = 0 := i1 0 (show 0 < 1 by decide)
  have hx : K_x K (k + 1) = K_x K k := (C_X_at X).2.2.1 (by rw [hn]; decide) (by rw [hn]; decide) (by rw [hn]; decide) (by rw [hn]; decide) (by rw [hn]; decide)
  by_cases full : M 78 = M 79
  · refine ⟨um (um M 70 (M 70 + 1)) 71 1, F, 1, fun Q h => ?_, ap_ov rfl, fun O s h => t_go1 h.1.2.1 (fun Qc hq => ?_)⟩
    · exact (h.2.2.1 (by rw [e3]; exact hn)).2 full
    · exact d_course hN hz (S_s_m (k := 70) (v := M 70 + 1) h (by decide)) (by omega) q0 (by decide) (fun s1 h1 => ⟨fun _ => m_step h1 (show 0 ≤ (M 78).toInt ∧ (M 78).toInt ≤ (M 79).toInt by omega) (fun _ s2 h2 => t_84g h2 (hq _ _ (A_S_ov rfl (S_s_m h2 (by decide))))) (fun g => absurd full g), fun g => absurd g (by decide), fun g => absurd g (by decide), fun g => absurd g (by decide), fun g => absurd g (by decide), fun g => absurd g (by decide), fun g => absurd g (by decide), fun g => absurd rfl g⟩)
  · refine ⟨um (um M 70 (M 70 + 1)) 78 (M 78 + 1), F, 1, fun Q h => ?_, Or.inr (Or.inr ⟨X.2.2.2.2.2.1, X.2.2.2.2.2.2.1, X.2.2.2.2.2.2.2, f, ot, k + 1, ⟨c1, c2⟩, ⟨X.2.2.1.1, by rw [hx]; exact X.2.2.1.2⟩, e4, ⟨by have := X.2.2.2.2.1; omega, j1⟩, ?_⟩), fun O s h => t_go1 h.1.2.1 (fun Qc hq => ?_)⟩
    · exact (h.2.2.1 (by rw [e3]; exact hn)).1 full
    · have l1 : (1 : Int32).toInt = 1 := by decide
      have lt : (M 78).toInt < (M 79).toInt := by have := ti_ne full; omega
      have ea := ti_addx (M 78) 1 (by omega)
      have hb := X.2.1.1
      have hk := X.2.2.2.2.1
      have rm0 : t_rm F (K_E K) k = 0 := by unfold t_rm; rw [if_pos hn]
      have rm1 : t_rm F (K_E K) (k + 1) ≤ 108004 := t_rm_max (by omega)
      show 108100 * ((M 79).toInt - (M 78 + 1).toInt).toNat + t_fs F (K_E K) f + t_ps F ot + t_rm F (K_E K) (k + 1) + 1 ≤ 108100 * ((M 79).toInt - (M 78).toInt).toNat + t_fs F (K_E K) f + t_ps F ot + t_rm F (K_E K) k
      omega
    · exact d_course hN hz (S_s_m (k := 70) (v := M 70 + 1) h (by decide)) (by omega) q0 (by decide) (fun s1 h1 => ⟨fun _ => m_step h1 (show 0 ≤ (M 78).toInt ∧ (M 78).toInt ≤ (M 79).toInt by omega) (fun g => absurd g full) (fun _ s2 h2 => t_84g h2 (hq _ _ (A_S_go X.2.2.2.2.2.1 X.2.2.2.2.2.2.1 e4 (by rw [j0]; exact h2)))), fun g => absurd g (by decide), fun g => absurd g (by decide), fun g => absurd g (by decide), fun g => absurd g (by decide), fun g => absurd g (by decide), fun g => absurd g (by decide), fun g => absurd rfl g⟩)
theorem o_jump (hN : tN N) (hz : K_z K ≤ N 20) (X : C_X K G B Nn E T V M F f ot k) (hn : F 13 k = 20) : O_A N K M F f ot k := by
  obtain ⟨e1, e2, e3, e4, e5⟩ := C_X_k X
  obtain ⟨i0, i1⟩ := k_int X.2.1 X.2.2.2.2.1 (k_en_20 hn)
  have i0 : K_A K k + 2 ≤ K_z K := i0
  have q0 : K_C K (K_A K k) = 12 := i1 0 (show 0 < 2 by decide)
  have q1 : K_C K (K_A K k + 1) = nI (K_A K (F 14 k).toNatClampNeg) := i1 1 (show 1 < 2 by decide)
  obtain ⟨t, t1, t2, t3, t4⟩ := (C_X_at X).2.2.2.1 (Or.inl hn)
  have hb := X.2.1.1
  have ct : (F 14 k).toNatClampNeg = t := by rw [t1]; exact y_cl (by omega)
  have it : (F 14 k).toInt = t := by rw [t1]; exact fs_nI (by omega)
  obtain ⟨-, w2, w3⟩ := e_opc_20 (e_op_n (e_CX_op X.1).1 (by rw [e2, hn]; decide)).2
  rw [e2, it] at w2 w3
  obtain ⟨w4, w5, w6, -⟩ := w2
  rw [Int.toNat_natCast] at w6 w3
  refine ⟨um (um M 70 (M 70 + 1)) 70 (F 14 k), F, 1, fun Q h => ?_, ap_go X ⟨by rw [hn]; decide, by rw [hn]; decide, by rw [hn]; decide⟩ (k' := t) ⟨w3.imp (fun g => by omega) id, t3, t2⟩ (fun g => by rw [hn] at g; exact absurd g (by decide)) (t_nt X.1.1 w4 w5 (by omega)) t4 ⟨rfl, rfl, X.2.2.2.2.2.1, X.2.2.2.2.2.2.1, X.2.2.2.2.2.2.2, rfl, rfl⟩ t1 ⟨rfl, rfl, rfl, rfl, rfl⟩, fun O s h => t_go1 h.1.2.1 (fun Qc hq => ?_)⟩
  · have h := h.2.2.2.2.2.2.2.2.2.2.2.2.2.2.2.2.2.2.2.2.2.2.1 (by rw [e3]; exact hn)
    rw [e3] at h
    exact h
  · refine d_number hN hz (S_s_m (k := 70) (v := M 70 + 1) h (by decide)) (by omega) q0 (by decide) (by decide) (fun s1 h1 => ⟨fun g => absurd g (by decide), fun g => absurd g (by decide), fun g => absurd g (by decide), fun g => absurd g (by decide), fun g => absurd g (by decide), fun _ => m_fetch hN hz h1 (by omega) (fun s2 h2 => ?_), fun _ _ _ _ _ g => absurd rfl g⟩)
    rw [q1, ct]
    have h3 := S_s_p (v := nI (K_A K t)) h2 rfl
    exact t_84g h3 (hq _ _ (A_S_go X.2.2.2.2.2.1 X.2.2.2.2.2.2.1 t1 (S_s_m h3 (by decide))))
theorem o_unless (hN : tN N) (hz : K_z K ≤ N 20) (X : C_X K G B Nn E T V M F f ot k) (hn : F 13 k = 21) : O_A N K M F f ot k := by
  obtain ⟨e1, e2, e3, e4, e5⟩ := C_X_k X
  obtain ⟨i0, i1⟩ := k_int X.2.1 X.2.2.2.2.1 (k_en_21 hn)
  obtain ⟨j0, j1⟩ := k_fall X.2.1 X.2.2.2.2.1 (k_en_21 hn) hn (by decide)
  have j0 : K_A K (k + 1) = K_A K k + 2 := j0
  have i0 : K_A K k + 2 ≤ K_z K := i0
  have q0 : K_C K (K_A K k) = 13 := i1 0 (show 0 < 2 by decide)
  have q1 : K_C K (K_A K k + 1) = nI (K_A K (F 14 k).toNatClampNeg) := i1 1 (show 1 < 2 by decide)
  obtain ⟨t, t1, t2, t3, t4⟩ := (C_X_at X).2.2.2.1 (Or.inr hn)
  have hx : K_x K (k + 1) = K_x K k := (C_X_at X).2.2.1 (by rw [hn]; decide) (by rw [hn]; decide) (by rw [hn]; decide) (by rw [hn]; decide) (by rw [hn]; decide)
  have hb := X.2.1.1
  have hk := X.2.2.2.2.1
  have ct : (F 14 k).toNatClampNeg = t := by rw [t1]; exact y_cl (by omega)
  have it : (F 14 k).toInt = t := by rw [t1]; exact fs_nI (by omega)
  obtain ⟨w0, w1, -, w7, w2, w3⟩ := e_opc_21 (e_op_n (e_CX_op X.1).1 (by rw [e2, hn]; decide)).2
  have h69 : (M 69).toInt = 1 := by
    have := X.1.2.1.2.2.2.1
    rw [w0] at this
    exact this
  have hr := X.1.2.1.2.2.1
  rw [e2] at w1 w7 w2 w3
  rw [it] at w2 w3
  obtain ⟨w4, w5, w6, -⟩ := w2
  rw [Int.toNat_natCast] at w6
  by_cases z : F 68 (M 69 - 1).toNatClampNeg = 0
  · refine ⟨um (um (um M 70 (M 70 + 1)) 69 (M 69 - 1)) 70 (F 14 k), F, 1, fun Q h => ?_, ap_go X ⟨by rw [hn]; decide, by rw [hn]; decide, by rw [hn]; decide⟩ (k' := t) ⟨Or.inl (by omega), t3, t2⟩ (fun g => by rw [hn] at g; exact absurd g (by decide)) (t_nt X.1.1 w4 w5 (by omega)) t4 ⟨rfl, rfl, X.2.2.2.2.2.1, X.2.2.2.2.2.2.1, X.2.2.2.2.2.2.2, rfl, rfl⟩ t1 ⟨rfl, rfl, rfl, rfl, rfl⟩, fun O s h => t_go1 h.1.2.1 (fun Qc hq => ?_)⟩
    · have h := h.2.2.2.2.2.2.2.2.2.2.2.2.2.2.2.2.2.2.2.2.2.2.2.1 (by rw [e3]; exact hn)
      rw [e3] at h
      exact h.2.2 z
    · refine d_number hN hz (S_s_m (k := 70) (v := M 70 + 1) h (by decide)) (by omega) q0 (by decide) (by decide) (fun s1 h1 => ⟨fun g => absurd g (by decide), fun g => absurd g (by decide), fun g => absurd g (by decide), fun g => absurd g (by decide), fun g => absurd g (by decide), fun g => absurd g (by decide), fun _ _ _ _ _ _ => m_fetch hN hz h1 (by omega) (fun s2 h2 => m_pop hN h2 (show 1 ≤ (M 69).toInt ∧ (M 69).toInt ≤ 64 by omega) (fun s3 h3 => ⟨fun g => absurd z g, fun _ => ?_⟩))⟩)
      rw [q1, ct]
      have h4 := S_s_p (v := nI (K_A K t)) h3 rfl
      exact t_84g h4 (hq _ _ (A_S_go X.2.2.2.2.2.1 X.2.2.2.2.2.2.1 t1 (S_s_m h4 (by decide))))
  · refine ⟨um (um M 70 (M 70 + 1)) 69 (M 69 - 1), F, 1, fun Q h => ?_, ap_go X ⟨by rw [hn]; decide, by rw [hn]; decide, by rw [hn]; decide⟩ (k' := k + 1) ⟨Or.inl (by omega), j1, by omega⟩ (fun _ => rfl) (t_nt X.1.1 (x := k + 1) (by omega) (by omega) (by omega)) hx ⟨rfl, rfl, X.2.2.2.2.2.1, X.2.2.2.2.2.2.1, X.2.2.2.2.2.2.2, rfl, rfl⟩ e4 ⟨rfl, rfl, rfl, rfl, rfl⟩, fun O s h => t_go1 h.1.2.1 (fun Qc hq => ?_)⟩
    · have h := h.2.2.2.2.2.2.2.2.2.2.2.2.2.2.2.2.2.2.2.2.2.2.2.1 (by rw [e3]; exact hn)
      exact h.2.1 z
    · refine d_number hN hz (S_s_m (k := 70) (v := M 70 + 1) h (by decide)) (by omega) q0 (by decide) (by decide) (fun s1 h1 => ⟨fun g => absurd g (by decide), fun g => absurd g (by decide), fun g => absurd g (by decide), fun g => absurd g (by decide), fun g => absurd g (by decide), fun g => absurd g (by decide), fun _ _ _ _ _ _ => m_fetch hN hz h1 (by omega) (fun s2 h2 => m_pop hN h2 (show 1 ≤ (M 69).toInt ∧ (M 69).toInt ≤ 64 by omega) (fun s3 h3 => ⟨fun _ => t_84g h3 (hq _ _ (A_S_go X.2.2.2.2.2.1 X.2.2.2.2.2.2.1 e4 (by rw [j0]; exact h3))), fun g => absurd g z⟩))⟩)
end TQD
