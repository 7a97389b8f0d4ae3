/-! ACTS THAT GO STRAIGHT ON, each beside the class's deed. -/
section TQC
variable {K : k_K} {N : Nat → Nat} {s s' : f_S3} {O : Nat × Nat} {M M' M1 : e_M} {F F' F1 : e_F} {p : Nat} {st ra : Int32} {G : e_G} {B Nn E T V : Int} {f ot k j : Nat}
def O_A (N : Nat → Nat) (K : k_K) (M : e_M) (F : e_F) (f ot k : Nat) : Prop := ∃ (M' : e_M) (F' : e_F) (j : Nat), (∀ Q : e_M → e_F → Prop, w_act M F Q → Q M' F') ∧ A_P K M F f ot k M' F' j ∧ ∀ (O : Nat × Nat) (s : f_S3), S_s K (K_A K k) 0 0 s O M F → t_go N j s O (A_S K M' F')
theorem k_en_0 (hn : F 13 k = 0) : k_en K F k = [0] := by
  unfold k_en k_e
  rw [hn, if_pos rfl]
theorem k_en_1 (hn : F 13 k = 1) : k_en K F k = [7, F 14 k] := by
  unfold k_en k_e
  rw [hn, if_neg (by decide), if_pos rfl]
theorem k_en_2 (hn : F 13 k = 2) : k_en K F k = [8, F 14 k] := by
  unfold k_en k_e
  rw [hn, if_neg (by decide), if_neg (by decide), if_pos rfl]
theorem k_en_3 (hn : F 13 k = 3) : k_en K F k = [9, F 14 k] := by
  unfold k_en k_e
  rw [hn, if_neg (by decide), if_neg (by decide), if_neg (by decide), if_pos rfl]
theorem k_en_4 (hn : F 13 k = 4) : k_en K F k = [11] := by
  unfold k_en k_e
  rw [hn, if_neg (by decide), if_neg (by decide), if_neg (by decide), if_neg (by decide), if_pos rfl]
theorem k_en_6 (hn : F 13 k = 6) : k_en K F k = [k_sg (F 14 k)] := by
  unfold k_en k_e
  rw [hn, if_neg (by decide), if_neg (by decide), if_neg (by decide), if_neg (by decide), if_neg (by decide), if_pos rfl]
theorem k_en_7 (hn : F 13 k = 7) : k_en K F k = [22, F 14 k, k_wh (F 15 k)] := by
  unfold k_en k_e
  rw [hn, if_neg (by decide), if_neg (by decide), if_neg (by decide), if_neg (by decide), if_neg (by decide), if_neg (by decide), if_pos rfl]
theorem k_en_8 (hn : F 13 k = 8) : k_en K F k = [23, F 14 k, F 15 k] := by
  unfold k_en k_e
  rw [hn, if_neg (by decide), if_neg (by decide), if_neg (by decide), if_neg (by decide), if_neg (by decide), if_neg (by decide), if_neg (by decide), if_pos rfl]
theorem k_en_9 (hn : F 13 k = 9) : k_en K F k = [24, F 14 k, F 15 k] := by
  unfold k_en k_e
  rw [hn, if_neg (by decide), if_neg (by decide), if_neg (by decide), if_neg (by decide), if_neg (by decide), if_neg (by decide), if_neg (by decide), if_neg (by decide), if_pos rfl]
theorem k_en_10 (hn : F 13 k = 10) : k_en K F k = [25, F 14 k, F 15 k] := by
  unfold k_en k_e
  rw [hn, if_neg (by decide), if_neg (by decide), if_neg (by decide), if_neg (by decide), if_neg (by decide), if_neg (by decide), if_neg (by decide), if_neg (by decide), if_neg (by decide), if_pos rfl]
theorem k_en_11 (hn : F 13 k = 11) : k_en K F k = [25, F 14 k, -1] := by
  unfold k_en k_e
  rw [hn, if_neg (by decide), if_neg (by decide), if_neg (by decide), if_neg (by decide), if_neg (by decide), if_neg (by decide), if_neg (by decide), if_neg (by decide), if_neg (by decide), if_neg (by decide), if_pos rfl]
theorem k_en_12 (hn : F 13 k = 12) : k_en K F k = [26, F 14 k, F 15 k] := by
  unfold k_en k_e
  rw [hn, if_neg (by decide), if_neg (by decide), if_neg (by decide), if_neg (by decide), if_neg (by decide), if_neg (by decide), if_neg (by decide), if_neg (by decide), if_neg (by decide), if_neg (by decide), if_neg (by decide), if_pos rfl]
theorem k_en_13 (hn : F 13 k = 13) : k_en K F k = [27, F 14 k, F 15 k, F 17 k, k_bc (F 16 k)] := by
  unfold k_en k_e
  rw [hn, if_neg (by decide), if_neg (by decide), if_neg (by decide), if_neg (by decide), if_neg (by decide), if_neg (by decide), if_neg (by decide), if_neg (by decide), if_neg (by decide), if_neg (by decide), if_neg (by decide), if_neg (by decide), if_pos rfl]
theorem k_en_14 (hn : F 13 k = 14) : k_en K F k = [28, F 14 k] := by
  unfold k_en k_e
  rw [hn, if_neg (by decide), if_neg (by decide), if_neg (by decide), if_neg (by decide), if_neg (by decide), if_neg (by decide), if_neg (by decide), if_neg (by decide), if_neg (by decide), if_neg (by decide), if_neg (by decide), if_neg (by decide), if_neg (by decide), if_pos rfl]
theorem k_en_15 (hn : F 13 k = 15) : k_en K F k = [29, F 14 k, F 15 k] := by
  unfold k_en k_e
  rw [hn, if_neg (by decide), if_neg (by decide), if_neg (by decide), if_neg (by decide), if_neg (by decide), if_neg (by decide), if_neg (by decide), if_neg (by decide), if_neg (by decide), if_neg (by decide), if_neg (by decide), if_neg (by decide), if_neg (by decide), if_neg (by decide), if_pos rfl]
theorem k_en_16 (hn : F 13 k = 16) : k_en K F k = [1] := by
  unfold k_en k_e
  rw [hn, if_neg (by decide), if_neg (by decide), if_neg (by decide), if_neg (by decide), if_neg (by decide), if_neg (by decide), if_neg (by decide), if_neg (by decide), if_neg (by decide), if_neg (by decide), if_neg (by decide), if_neg (by decide), if_neg (by decide), if_neg (by decide), if_neg (by decide), if_pos rfl]
theorem k_en_17 (hn : F 13 k = 17) : k_en K F k = [30, F 14 k] := by
  unfold k_en k_e
  rw [hn, if_neg (by decide), if_neg (by decide), if_neg (by decide), if_neg (by decide), if_neg (by decide), if_neg (by decide), if_neg (by decide), if_neg (by decide), if_neg (by decide), if_neg (by decide), if_neg (by decide), if_neg (by decide), if_neg (by decide), if_neg (by decide), if_neg (by decide), if_neg (by decide), if_pos rfl]
theorem k_en_19 (hn : F 13 k = 19) : k_en K F k = [3] := by
  unfold k_en k_e
  rw [hn, if_neg (by decide), if_neg (by decide), if_neg (by decide), if_neg (by decide), if_neg (by decide), if_neg (by decide), if_neg (by decide), if_neg (by decide), if_neg (by decide), if_neg (by decide), if_neg (by decide), if_neg (by decide), if_neg (by decide), if_neg (by decide), if_neg (by decide), if_neg (by decide), if_neg (by decide), if_neg (by decide), if_pos rfl]
theorem k_en_20 (hn : F 13 k = 20) : k_en K F k = [12, nI (K_A K (F 14 k).toNatClampNeg)] := by
  unfold k_en k_e
  rw [hn, if_neg (by decide), if_neg (by decide), if_neg (by decide), if_neg (by decide), if_neg (by decide), if_neg (by decide), if_neg (by decide), if_neg (by decide), if_neg (by decide), if_neg (by decide), if_neg (by decide), if_neg (by decide), if_neg (by decide), if_neg (by decide), if_neg (by decide), if_neg (by decide), if_neg (by decide), if_neg (by decide), if_neg (by decide), if_pos rfl]
theorem k_en_21 (hn : F 13 k = 21) : k_en K F k = [13, nI (K_A K (F 14 k).toNatClampNeg)] := by
  unfold k_en k_e
  rw [hn, if_neg (by decide), if_neg (by decide), if_neg (by decide), if_neg (by decide), if_neg (by decide), if_neg (by decide), if_neg (by decide), if_neg (by decide), if_neg (by decide), if_neg (by decide), if_neg (by decide), if_neg (by decide), if_neg (by decide), if_neg (by decide), if_neg (by decide), if_neg (by decide), if_neg (by decide), if_neg (by decide), if_neg (by decide), if_neg (by decide), if_pos rfl]
theorem k_en_22 (hn : F 13 k = 22) : k_en K F k = [4, k_hx K (F 20 (F 14 k).toNatClampNeg), nI (K_L K (F 14 k).toNatClampNeg)] := by
  unfold k_en k_e
  rw [hn, if_neg (by decide), if_neg (by decide), if_neg (by decide), if_neg (by decide), if_neg (by decide), if_neg (by decide), if_neg (by decide), if_neg (by decide), if_neg (by decide), if_neg (by decide), if_neg (by decide), if_neg (by decide), if_neg (by decide), if_neg (by decide), if_neg (by decide), if_neg (by decide), if_neg (by decide), if_neg (by decide), if_neg (by decide), if_neg (by decide), if_neg (by decide), if_pos rfl]
theorem k_en_23 (hn : F 13 k = 23) : k_en K F k = [5] := by
  unfold k_en k_e
  rw [hn, if_neg (by decide), if_neg (by decide), if_neg (by decide), if_neg (by decide), if_neg (by decide), if_neg (by decide), if_neg (by decide), if_neg (by decide), if_neg (by decide), if_neg (by decide), if_neg (by decide), if_neg (by decide), if_neg (by decide), if_neg (by decide), if_neg (by decide), if_neg (by decide), if_neg (by decide), if_neg (by decide), if_neg (by decide), if_neg (by decide), if_neg (by decide), if_neg (by decide), if_pos rfl]
theorem k_en_24 (hn : F 13 k = 24) : k_en K F k = [6] := by
  unfold k_en k_e
  rw [hn, if_neg (by decide), if_neg (by decide), if_neg (by decide), if_neg (by decide), if_neg (by decide), if_neg (by decide), if_neg (by decide), if_neg (by decide), if_neg (by decide), if_neg (by decide), if_neg (by decide), if_neg (by decide), if_neg (by decide), if_neg (by decide), if_neg (by decide), if_neg (by decide), if_neg (by decide), if_neg (by decide), if_neg (by decide), if_neg (by decide), if_neg (by decide), if_neg (by decide), if_neg (by decide)]
theorem ap_st (X : C_X K G B Nn E T V M F f ot k) (n : Nat) (hn : (F 13 k).toInt = n) (h18 : n < 18 ∧ n ≠ 0 ∧ n ≠ 5) (m : M' 62 = M 62 ∧ M' 67 = M 67 ∧ M' 71 = M 71 ∧ M' 72 = M 72 ∧ M' 73 = M 73 ∧ M' 78 = M 78 ∧ M' 79 = M 79) (h70 : M' 70 = M 70 + 1) (fr : F' 13 = F 13 ∧ F' 59 = F 59 ∧ F' 61 = F 61 ∧ F' 63 = F 63 ∧ F' 64 = F 64) : A_P K M F f ot k M' F' 1 := by
  obtain ⟨e1, e2, e3, e4, e5⟩ := C_X_k X
  obtain ⟨⟨g1, g2⟩, ⟨g3, g4, g5⟩, -⟩ := e_CX_a X.1 n (by rw [e2]; exact hn) h18
  rw [e2] at g4
  have dl := e_dl_0 n h18.1
  have ne : ∀ (c : Int32) (q : Int), c.toInt = q → q ≠ n → ¬ F 13 k = c := fun c q h1 h2 h3 => h2 (by rw [← h1, ← h3, hn])
  have n0 := ne 0 0 (by decide) (by omega)
  have n19 := ne 19 19 (by decide) (by omega)
  have n20 := ne 20 20 (by decide) (by omega)
  have n22 := ne 22 22 (by decide) (by omega)
  have n23 := ne 23 23 (by decide) (by omega)
  have n24 := ne 24 24 (by decide) (by omega)
  have atk := C_X_at X
  have hr := X.1.2.1.2.2.1
  have hk1 := (atk.2.1 n19 n20 n23).2
  have hX := X
  obtain ⟨-, -, -, -, hk, h71, h72, h73⟩ := hX
  obtain ⟨m1, m2, m3, m4, m5, m6, m7⟩ := m
  refine ap_go X ⟨n0, n19, n22⟩ (k' := k + 1) ⟨Or.inl (by omega), hk1, by omega⟩ (fun _ => rfl) (t_nt X.1.1 (x := k + 1) (by omega) (by omega) (by omega)) (atk.2.2.1 n19 n20 n23 n22 n24) ⟨m1, m2, m3.trans h71, m4.trans h72, m5.trans h73, m6, m7⟩ (h70.trans e4) fr
theorem t_rs (hN : tN N) (hz : K_z K ≤ N 20) (X : C_X K G B Nn E T V M F f ot k) (h13 : ¬ F 13 k = 0) (W : W_ok M M1 F F1) {kk g : Int32} (hkk : 0 ≤ kk.toInt ∧ kk.toInt ≤ 6) : ∃ (M' : e_M) (F' : e_F) (j : Nat), (∀ Q : e_M → e_F → Prop, w_raises kk g 0 M1 F1 Q → Q M' F') ∧ A_P K M F f ot k M' F' (j + 1) ∧ ∀ (O : Nat × Nat) (s : f_S3) (p : Nat), S_s K p 0 0 s O M1 F1 → ∀ Qd : f_S3 → Nat × Nat → Prop, (∀ s' O', t_go N j s' O' (A_S K M' F') → Qd s' O') → wY_X8_raiseNew N kk g s O (fun s2 O2 => t_84 N Qd s2 O2) := by
  by_cases full : M1 55 = 100 ∨ M1 54 = 8000
  · refine ⟨um M1 71 1, F1, 0, fun Q h => ?_, ap_ov rfl, fun O s p h Qd hq => m_raiseNew h (fun _ s' h' => t_84g h' (hq s' O (t_go0 (A_S_ov rfl (S_s_m h' (by decide)))))) (fun q => absurd full q)⟩
    exact ((r_makes (h.1 (Int32.le_refl _))).1 full).1 (Int32.le_refl _)
  · have hO := W.2.2.2
    have hb := hO.1
    have l1 : (1 : Int32).toInt = 1 := by decide
    have e1 := ti_addx (M1 54) 1 (by omega)
    have hO2 : e_OB (mk_M M1) (mk_F (M1 54 + 1) F1 kk g 0 (-1) 0 0) := (r_makes (p_makes (Q := fun _ M' F' => e_OB M' F') (p1 := kk) (p2 := g) (p3 := 0) (p4 := -1) (p5 := 0) (p6 := 0) hO hkk (by rw [e_z0]; omega) (fun _ _ _ _ h _ _ => h))).2 full
    have fF : ∀ r, r ∉ [48, 49, 50, 51, 52, 53] → mk_F (M1 54 + 1) F1 kk g 0 (-1) 0 0 r = F1 r := fun r hr => by
      simp only [List.mem_cons, List.not_mem_nil, or_false, not_or] at hr
      unfold mk_F
      rw [e_uf_ne hr.2.2.2.2.2, e_uf_ne hr.2.2.2.2.1, e_uf_ne hr.2.2.2.1, e_uf_ne hr.2.2.1, e_uf_ne hr.2.1, e_uf_ne hr.1]
    have W2 : W_ok M (mk_M M1) F (mk_F (M1 54 + 1) F1 kk g 0 (-1) 0 0) := by
      refine ⟨fun i hi => ?_, fun r hr => (fF r (by simp only [List.mem_cons, List.not_mem_nil, or_false, not_or]; omega)).trans (W.2.1 r hr), ⟨(fF 59 (by decide)).trans W.2.2.1.1, (fF 60 (by decide)).trans W.2.2.1.2.1, (fF 61 (by decide)).trans W.2.2.1.2.2.1, (fF 63 (by decide)).trans W.2.2.1.2.2.2.1, (fF 64 (by decide)).trans W.2.2.1.2.2.2.2⟩, hO2⟩
      have h1 : i ≠ 54 := fun q => by rw [q] at hi; exact absurd hi (by decide)
      have h2 : i ≠ 55 := fun q => by rw [q] at hi; exact absurd hi (by decide)
      exact (e_um_ne h1).trans ((e_um_ne h2).trans (W.1 i hi))
    obtain ⟨M', F', j, r1, r2, r3⟩ := t_rz hN hz X h13 W2 (o := M1 54 + 1) (show 1 ≤ (M1 54 + 1).toInt ∧ (M1 54 + 1).toInt ≤ (M1 54 + 1).toInt by omega)
    refine ⟨M', F', j, fun Q h => ?_, r2, fun O s p h Qd hq => m_raiseNew h (fun q => absurd q full) (fun _ s' O' h' => r3 O' s' h'.1.2.1 h'.1.2.2 h'.2.1 h'.2.2.1 Qd hq)⟩
    refine r1 Q (((r_makes (h.1 (Int32.le_refl _))).2 full).2 (fun q => ?_))
    rw [Int32.le_iff_toInt_le, e_z0] at q; omega
theorem t_rj (hN : tN N) (hz : K_z K ≤ N 20) (X : C_X K G B Nn E T V M F f ot k) (h13 : ¬ F 13 k = 0) (W : W_ok M M1 F F1) {kk g x : Int32} (hkk : 0 ≤ kk.toInt ∧ kk.toInt ≤ 6) (hx : 1 ≤ x.toInt ∧ x.toInt ≤ (M1 54).toInt) : ∃ (M' : e_M) (F' : e_F) (j : Nat), (∀ Q : e_M → e_F → Prop, w_raises kk g x M1 F1 Q → Q M' F') ∧ A_P K M F f ot k M' F' (j + 1) ∧ ∀ (O : Nat × Nat) (s : f_S3) (p : Nat), S_s K p 0 0 s O M1 F1 → ∀ Qd : f_S3 → Nat × Nat → Prop, (∀ s' O', t_go N j s' O' (A_S K M' F') → Qd s' O') → wY_X8_joinHeld_38 N (fun s2 O2 => t_84 N Qd s2 O2) x kk g s O := by
  have hx0 : ¬ x ≤ 0 := fun q => by rw [Int32.le_iff_toInt_le, e_z0] at q; omega
  by_cases full : M1 55 = 100 ∨ M1 54 = 8000
  · refine ⟨um M1 71 1, F1, 0, fun Q h => ?_, ap_ov rfl, fun O s p h Qd hq => m_raiseNew h (fun _ s' h' => ?_) (fun q => absurd full q)⟩
    · exact ((r_makes (h.2 hx0)).1 full).1 (Int32.le_refl _)
    · rw [h'.1.2.2]
      exact m_exists0 ⟨fun _ => t_84g h' (hq s' O (t_go0 (A_S_ov rfl (S_s_m h' (by decide))))), fun q => absurd rfl q⟩
  · have hO := W.2.2.2
    have hb := hO.1
    have l1 : (1 : Int32).toInt = 1 := by decide
    have e1 := ti_addx (M1 54) 1 (by omega)
    have hO2 : e_OB (mk_M M1) (mk_F (M1 54 + 1) F1 kk g 0 (-1) x 1) := (r_makes (p_makes (Q := fun _ M' F' => e_OB M' F') (p1 := kk) (p2 := g) (p3 := 0) (p4 := -1) (p5 := x) (p6 := 1) hO hkk (by omega) (fun _ _ _ _ h _ _ => h))).2 full
    have fF : ∀ r, r ∉ [48, 49, 50, 51, 52, 53] → mk_F (M1 54 + 1) F1 kk g 0 (-1) x 1 r = F1 r := fun r hr => by
      simp only [List.mem_cons, List.not_mem_nil, or_false, not_or] at hr
      unfold mk_F
      rw [e_uf_ne hr.2.2.2.2.2, e_uf_ne hr.2.2.2.2.1, e_uf_ne hr.2.2.2.1, e_uf_ne hr.2.2.1, e_uf_ne hr.2.1, e_uf_ne hr.1]
    have W2 : W_ok M (mk_M M1) F (mk_F (M1 54 + 1) F1 kk g 0 (-1) x 1) := by
      refine ⟨fun i hi => ?_, fun r hr => (fF r (by simp only [List.mem_cons, List.not_mem_nil, or_false, not_or]; omega)).trans (W.2.1 r hr), ⟨(fF 59 (by decide)).trans W.2.2.1.1, (fF 60 (by decide)).trans W.2.2.1.2.1, (fF 61 (by decide)).trans W.2.2.1.2.2.1, (fF 63 (by decide)).trans W.2.2.1.2.2.2.1, (fF 64 (by decide)).trans W.2.2.1.2.2.2.2⟩, hO2⟩
      have h1 : i ≠ 54 := fun q => by rw [q] at hi; exact absurd hi (by decide)
      have h2 : i ≠ 55 := fun q => by rw [q] at hi; exact absurd hi (by decide)
      exact (e_um_ne h1).trans ((e_um_ne h2).trans (W.1 i hi))
    obtain ⟨M', F', j, r1, r2, r3⟩ := t_rz hN hz X h13 W2 (o := M1 54 + 1) (show 1 ≤ (M1 54 + 1).toInt ∧ (M1 54 + 1).toInt ≤ (M1 54 + 1).toInt by omega)
    refine ⟨M', F', j, fun Q h => ?_, r2, fun O s p h Qd hq => m_raiseNew h (fun q => absurd q full) (fun _ s' O' h' => ?_)⟩
    · refine r1 Q (((r_makes (h.2 hx0)).2 full).2 (fun q => ?_))
      rw [Int32.le_iff_toInt_le, e_z0] at q; omega
    · rw [h'.1.2.2]
      refine m_settle h' (show 1 ≤ (M1 54 + 1).toInt ∧ (M1 54 + 1).toInt ≤ (M1 54 + 1).toInt by omega) (fun s2 h2 => ?_)
      rw [mk_F_set] at h2
      exact r3 O' s2 h2.1.2.1 h2.1.2.2 h2.2.1 h2.2.2.1 Qd hq
theorem W_0 (X : C_X K G B Nn E T V M F f ot k) : W_ok M (um M 70 (M 70 + 1)) F F := ⟨fun i hi => e_um_ne (fun q => by rw [q] at hi; exact absurd hi (by decide)), fun _ _ => rfl, ⟨rfl, rfl, rfl, rfl, rfl⟩, e_OB_70 X.1.2.2.1 _⟩
theorem W_69 {v : Int32} (W : W_ok M M1 F F1) : W_ok M (um M1 69 v) F F1 := ⟨fun i hi => (e_um_ne (fun q => by rw [q] at hi; exact absurd hi (by decide))).trans (W.1 i hi), W.2.1, W.2.2.1, e_OB_hc (e_hc_um (ks := [69]) (rs := []) v (by decide) (e_hc_rf _ _ M1 F1)) (by decide) (by decide) W.2.2.2⟩
theorem W_56 {v : Int32} (W : W_ok M M1 F F1) : W_ok M (um M1 56 v) F F1 := ⟨fun i hi => (e_um_ne (fun q => by rw [q] at hi; exact absurd hi (by decide))).trans (W.1 i hi), W.2.1, W.2.2.1, e_OB_hc (e_hc_um (ks := [56]) (rs := []) v (by decide) (e_hc_rf _ _ M1 F1)) (by decide) (by decide) W.2.2.2⟩
/-- an objection held -/
theorem C_X_o (X : C_X K G B Nn E T V M F f ot k) {a : Int32} (ha : 0 ≤ a.toInt ∧ a.toInt < 8) : 0 ≤ (F 58 (8 * (M 62 - 1) + a).toNatClampNeg).toInt ∧ (F 58 (8 * (M 62 - 1) + a).toNatClampNeg).toInt ≤ (M 54).toInt := by
  obtain ⟨⟨c1, c2⟩, c3, -⟩ := C_X_f X
  obtain ⟨i, h1, -, h3, -⟩ := t_ix (x := M 62) (n := 8) (by omega) (by omega) ha
  have h3 : 8 * (M 62 - 1) + a = nI i := h3
  rw [h3, y_cl (by omega)]
  exact X.1.2.2.1.2.2.1 i (by omega)
theorem o_push (hN : tN N) (hz : K_z K ≤ N 20) (X : C_X K G B Nn E T V M F f ot k) (hn : F 13 k = 1) : O_A N K M F f ot k := by
  obtain ⟨e1, e2, e3, e4, e5⟩ := C_X_k X
  obtain ⟨⟨c1, c2⟩, c3, c4, c5, c6⟩ := C_X_f X
  have hf : 1 ≤ (M 62).toInt ∧ (M 62).toInt ≤ 12 := by omega
  have hT : (F 13 k).toInt = ((1 : Nat) : Int) := by rw [hn]; decide
  have h69 := e_CX_a X.1 1 (by rw [e2]; exact hT) (by decide)
  rw [e2] at h69
  obtain ⟨⟨g1, g2⟩, -, ⟨a1, a2⟩, ⟨b1, b2⟩, d1⟩ := h69
  have g1 : (0 : Int) ≤ (M 69).toInt := g1
  have g2 : (M 69).toInt ≤ 61 := g2
  have a1 : (-2147483648 : Int) ≤ (F 14 k).toInt := a1
  have a2 : (F 14 k).toInt < 2147483648 := a2
  have b1 : (-2147483648 : Int) ≤ (F 15 k).toInt := b1
  have b2 : (F 15 k).toInt < 2147483648 := b2
  obtain ⟨i0, i1⟩ := k_int X.2.1 X.2.2.2.2.1 (k_en_1 hn)
  obtain ⟨j0, j1⟩ := k_fall X.2.1 X.2.2.2.2.1 (k_en_1 hn) hn (by decide)
  have i0 : K_A K k + 2 ≤ K_z K := i0
  have j0 : K_A K (k + 1) = K_A K k + 2 := j0
  have q0 : K_C K (K_A K k) = 7 := i1 0 (show 0 < 2 by decide)
  have q1 : K_C K (K_A K k + 1) = F 14 k := i1 1 (show 1 < 2 by decide)
  refine ⟨um (um M 70 (M 70 + 1)) 69 (M 69 + 1), uf F 68 (M 69) (F 14 k), 1, fun Q h => ?_, ap_st X 1 hT (by decide) ⟨rfl, rfl, rfl, rfl, rfl, rfl, rfl⟩ rfl ⟨rfl, rfl, rfl, rfl, rfl⟩, fun O s h => t_go1 h.1.2.1 (fun Qc hq => ?_)⟩
  · have h := h.2.2.2.1 (by rw [e3]; exact hn)
    rw [e3] at h
    exact h.2
  · refine d_number hN hz (S_s_m (k := 70) (v := M 70 + 1) h (by decide)) (by omega) q0 (by decide) (by decide) (fun s1 h1 => ⟨fun _ => m_fetch hN hz h1 (by omega) (fun s2 h2 => ?_), fun g => absurd g (by decide), fun g => absurd g (by decide), fun g => absurd g (by decide), fun g => absurd g (by decide), fun g => absurd g (by decide), fun g _ _ _ _ _ => absurd rfl g⟩)
    rw [q1]
    exact m_push hN h2 (show 0 ≤ (M 69).toInt ∧ (M 69).toInt < 64 by omega) (fun s3 h3 => t_84g h3 (hq _ _ (A_S_go X.2.2.2.2.2.1 X.2.2.2.2.2.2.1 e4 (by rw [j0]; exact h3))))
theorem o_load (hN : tN N) (hz : K_z K ≤ N 20) (X : C_X K G B Nn E T V M F f ot k) (hn : F 13 k = 2) : O_A N K M F f ot k := by
  obtain ⟨e1, e2, e3, e4, e5⟩ := C_X_k X
  obtain ⟨⟨c1, c2⟩, c3, c4, c5, c6⟩ := C_X_f X
  have hf : 1 ≤ (M 62).toInt ∧ (M 62).toInt ≤ 12 := by omega
  have hT : (F 13 k).toInt = ((2 : Nat) : Int) := by rw [hn]; decide
  have h69 := e_CX_a X.1 2 (by rw [e2]; exact hT) (by decide)
  rw [e2] at h69
  obtain ⟨⟨g1, g2⟩, -, ⟨a1, a2⟩, ⟨b1, b2⟩, d1⟩ := h69
  have g1 : (0 : Int) ≤ (M 69).toInt := g1
  have g2 : (M 69).toInt ≤ 61 := g2
  have a1 : (0 : Int) ≤ (F 14 k).toInt := a1
  have a2 : (F 14 k).toInt < 12 := a2
  have b1 : (-2147483648 : Int) ≤ (F 15 k).toInt := b1
  have b2 : (F 15 k).toInt < 2147483648 := b2
  obtain ⟨i0, i1⟩ := k_int X.2.1 X.2.2.2.2.1 (k_en_2 hn)
  obtain ⟨j0, j1⟩ := k_fall X.2.1 X.2.2.2.2.1 (k_en_2 hn) hn (by decide)
  have i0 : K_A K k + 2 ≤ K_z K := i0
  have j0 : K_A K (k + 1) = K_A K k + 2 := j0
  have q0 : K_C K (K_A K k) = 8 := i1 0 (show 0 < 2 by decide)
  have q1 : K_C K (K_A K k + 1) = F 14 k := i1 1 (show 1 < 2 by decide)
  refine ⟨um (um M 70 (M 70 + 1)) 69 (M 69 + 1), uf F 68 (M 69) (F 57 (12 * (M 62 - 1) + F 14 k).toNatClampNeg), 1, fun Q h => ?_, ap_st X 2 hT (by decide) ⟨rfl, rfl, rfl, rfl, rfl, rfl, rfl⟩ rfl ⟨rfl, rfl, rfl, rfl, rfl⟩, fun O s h => t_go1 h.1.2.1 (fun Qc hq => ?_)⟩
  · have h := h.2.2.2.2.1 (by rw [e3]; exact hn)
    rw [e3] at h
    exact (h _ rfl).2.2
  · refine d_number hN hz (S_s_m (k := 70) (v := M 70 + 1) h (by decide)) (by omega) q0 (by decide) (by decide) (fun s1 h1 => ⟨fun g => absurd g (by decide), fun _ => m_fetch hN hz h1 (by omega) (fun s2 h2 => ?_), fun g => absurd g (by decide), fun g => absurd g (by decide), fun g => absurd g (by decide), fun g => absurd g (by decide), fun _ g _ _ _ _ => absurd rfl g⟩)
    rw [q1]
    exact m_num hN h2 hf (by omega) (m_push hN h2 (show 0 ≤ (M 69).toInt ∧ (M 69).toInt < 64 by omega) (fun s3 h3 => t_84g h3 (hq _ _ (A_S_go X.2.2.2.2.2.1 X.2.2.2.2.2.2.1 e4 (by rw [j0]; exact h3)))))
theorem o_store (hN : tN N) (hz : K_z K ≤ N 20) (X : C_X K G B Nn E T V M F f ot k) (hn : F 13 k = 3) : O_A N K M F f ot k := by
  obtain ⟨e1, e2, e3, e4, e5⟩ := C_X_k X
  obtain ⟨⟨c1, c2⟩, c3, c4, c5, c6⟩ := C_X_f X
  have hf : 1 ≤ (M 62).toInt ∧ (M 62).toInt ≤ 12 := by omega
  have hT : (F 13 k).toInt = ((3 : Nat) : Int) := by rw [hn]; decide
  have h69 := e_CX_a X.1 3 (by rw [e2]; exact hT) (by decide)
  rw [e2] at h69
  obtain ⟨⟨g1, g2⟩, -, ⟨a1, a2⟩, ⟨b1, b2⟩, d1⟩ := h69
  have g1 : (1 : Int) ≤ (M 69).toInt := g1
  have g2 : (M 69).toInt ≤ 1 := g2
  have a1 : (0 : Int) ≤ (F 14 k).toInt := a1
  have a2 : (F 14 k).toInt < 12 := a2
  have b1 : (-2147483648 : Int) ≤ (F 15 k).toInt := b1
  have b2 : (F 15 k).toInt < 2147483648 := b2
  obtain ⟨i0, i1⟩ := k_int X.2.1 X.2.2.2.2.1 (k_en_3 hn)
  obtain ⟨j0, j1⟩ := k_fall X.2.1 X.2.2.2.2.1 (k_en_3 hn) hn (by decide)
  have i0 : K_A K k + 2 ≤ K_z K := i0
  have j0 : K_A K (k + 1) = K_A K k + 2 := j0
  have q0 : K_C K (K_A K k) = 9 := i1 0 (show 0 < 2 by decide)
  have q1 : K_C K (K_A K k + 1) = F 14 k := i1 1 (show 1 < 2 by decide)
  refine ⟨um (um M 70 (M 70 + 1)) 69 (M 69 - 1), uf F 57 (12 * (M 62 - 1) + F 14 k) (F 68 (M 69 - 1).toNatClampNeg), 1, fun Q h => ?_, ap_st X 3 hT (by decide) ⟨rfl, rfl, rfl, rfl, rfl, rfl, rfl⟩ rfl ⟨rfl, rfl, rfl, rfl, rfl⟩, fun O s h => t_go1 h.1.2.1 (fun Qc hq => ?_)⟩
  · have h := h.2.2.2.2.2.1 (by rw [e3]; exact hn)
    rw [e3] at h
    exact (h _ rfl).2.2
  · refine d_number hN hz (S_s_m (k := 70) (v := M 70 + 1) h (by decide)) (by omega) q0 (by decide) (by decide) (fun s1 h1 => ⟨fun g => absurd g (by decide), fun g => absurd g (by decide), fun _ => m_fetch hN hz h1 (by omega) (fun s2 h2 => ?_), fun g => absurd g (by decide), fun g => absurd g (by decide), fun g => absurd g (by decide), fun _ _ g _ _ _ => absurd rfl g⟩)
    rw [q1]
    exact m_pop hN h2 (show 1 ≤ (M 69).toInt ∧ (M 69).toInt ≤ 64 by omega) (fun s3 h3 => m_setnum hN h3 hf (by omega) (fun s4 h4 => t_84g h4 (hq _ _ (A_S_go X.2.2.2.2.2.1 X.2.2.2.2.2.2.1 e4 (by rw [j0]; exact h4)))))
theorem t_m1 {x : Int32} (h : 1 ≤ x.toInt ∧ x.toInt ≤ 64) : (x - 1).toInt = x.toInt - 1 := by
  rw [ti_subx _ _ (by rw [show (1 : Int32).toInt = 1 by decide]; omega), show (1 : Int32).toInt = 1 by decide]
theorem o_neg (hN : tN N) (hz : K_z K ≤ N 20) (X : C_X K G B Nn E T V M F f ot k) (hn : F 13 k = 4) : O_A N K M F f ot k := by
  obtain ⟨e1, e2, e3, e4, e5⟩ := C_X_k X
  obtain ⟨⟨c1, c2⟩, c3, c4, c5, c6⟩ := C_X_f X
  have hf : 1 ≤ (M 62).toInt ∧ (M 62).toInt ≤ 12 := by omega
  have hT : (F 13 k).toInt = ((4 : Nat) : Int) := by rw [hn]; decide
  have h69 := e_CX_a X.1 4 (by rw [e2]; exact hT) (by decide)
  rw [e2] at h69
  obtain ⟨⟨g1, g2⟩, -, ⟨a1, a2⟩, ⟨b1, b2⟩, d1⟩ := h69
  have g1 : (1 : Int) ≤ (M 69).toInt := g1
  have g2 : (M 69).toInt ≤ 62 := g2
  have a1 : (-2147483648 : Int) ≤ (F 14 k).toInt := a1
  have a2 : (F 14 k).toInt < 2147483648 := a2
  have b1 : (-2147483648 : Int) ≤ (F 15 k).toInt := b1
  have b2 : (F 15 k).toInt < 2147483648 := b2
  obtain ⟨i0, i1⟩ := k_int X.2.1 X.2.2.2.2.1 (k_en_4 hn)
  obtain ⟨j0, j1⟩ := k_fall X.2.1 X.2.2.2.2.1 (k_en_4 hn) hn (by decide)
  have i0 : K_A K k + 1 ≤ K_z K := i0
  have j0 : K_A K (k + 1) = K_A K k + 1 := j0
  have q0 : K_C K (K_A K k) = 11 := i1 0 (show 0 < 1 by decide)
  have m1 := t_m1 (x := M 69) (by omega)
  refine ⟨um (um (um M 70 (M 70 + 1)) 69 (M 69 - 1)) 69 (M 69 - 1 + 1), uf F 68 (M 69 - 1) (-(F 68 (M 69 - 1).toNatClampNeg)), 1, fun Q h => ?_, ap_st X 4 hT (by decide) ⟨rfl, rfl, rfl, rfl, rfl, rfl, rfl⟩ rfl ⟨rfl, rfl, rfl, rfl, rfl⟩, fun O s h => t_go1 h.1.2.1 (fun Qc hq => ?_)⟩
  · have h := h.2.2.2.2.2.2.1 (by rw [e3]; exact hn)
    exact h.2.2
  · exact d_number hN hz (S_s_m (k := 70) (v := M 70 + 1) h (by decide)) (by omega) q0 (by decide) (by decide) (fun s1 h1 => ⟨fun g => absurd g (by decide), fun g => absurd g (by decide), fun g => absurd g (by decide), fun g => absurd g (by decide), fun _ => m_pop hN h1 (show 1 ≤ (M 69).toInt ∧ (M 69).toInt ≤ 64 by omega) (fun s2 h2 => m_push hN h2 (show 0 ≤ (M 69 - 1).toInt ∧ (M 69 - 1).toInt < 64 by omega) (fun s3 h3 => t_84g h3 (hq _ _ (A_S_go X.2.2.2.2.2.1 X.2.2.2.2.2.2.1 e4 (by rw [j0]; exact h3))))), fun g => absurd g (by decide), fun _ _ _ _ g _ => absurd rfl g⟩)
theorem o_same (hN : tN N) (hz : K_z K ≤ N 20) (X : C_X K G B Nn E T V M F f ot k) (hn : F 13 k = 9) : O_A N K M F f ot k := by
  obtain ⟨e1, e2, e3, e4, e5⟩ := C_X_k X
  obtain ⟨⟨c1, c2⟩, c3, c4, c5, c6⟩ := C_X_f X
  have hf : 1 ≤ (M 62).toInt ∧ (M 62).toInt ≤ 12 := by omega
  have hT : (F 13 k).toInt = ((9 : Nat) : Int) := by rw [hn]; decide
  have h69 := e_CX_a X.1 9 (by rw [e2]; exact hT) (by decide)
  rw [e2] at h69
  obtain ⟨⟨g1, g2⟩, -, ⟨a1, a2⟩, ⟨b1, b2⟩, d1⟩ := h69
  have g1 : (0 : Int) ≤ (M 69).toInt := g1
  have g2 : (M 69).toInt ≤ 61 := g2
  have a1 : (0 : Int) ≤ (F 14 k).toInt := a1
  have a2 : (F 14 k).toInt < 8 := a2
  have b1 : (0 : Int) ≤ (F 15 k).toInt := b1
  have b2 : (F 15 k).toInt < 8 := b2
  obtain ⟨i0, i1⟩ := k_int X.2.1 X.2.2.2.2.1 (k_en_9 hn)
  obtain ⟨j0, j1⟩ := k_fall X.2.1 X.2.2.2.2.1 (k_en_9 hn) hn (by decide)
  have i0 : K_A K k + 3 ≤ K_z K := i0
  have j0 : K_A K (k + 1) = K_A K k + 3 := j0
  have q0 : K_C K (K_A K k) = 24 := i1 0 (show 0 < 3 by decide)
  have q1 : K_C K (K_A K k + 1) = F 14 k := i1 1 (show 1 < 3 by decide)
  have q2 : K_C K (K_A K k + 1 + 1) = F 15 k := i1 2 (show 2 < 3 by decide)
  refine ⟨um (um M 70 (M 70 + 1)) 69 (M 69 + 1), uf F 68 (M 69) (if F 58 (8 * (M 62 - 1) + F 14 k).toNatClampNeg = F 58 (8 * (M 62 - 1) + F 15 k).toNatClampNeg then 1 else 0), 1, fun Q h => ?_, ap_st X 9 hT (by decide) ⟨rfl, rfl, rfl, rfl, rfl, rfl, rfl⟩ rfl ⟨rfl, rfl, rfl, rfl, rfl⟩, fun O s h => t_go1 h.1.2.1 (fun Qc hq => ?_)⟩
  · have h := h.2.2.2.2.2.2.2.2.2.2.2.1 (by rw [e3]; exact hn)
    rw [e3] at h
    have h2 := (((h.2 _ rfl).2).2 _ rfl)
    by_cases z : F 58 (8 * (M 62 - 1) + F 14 k).toNatClampNeg = F 58 (8 * (M 62 - 1) + F 15 k).toNatClampNeg
    · rw [if_pos z]; exact (h2.2 z).2
    · rw [if_neg z]; exact (h2.1 z).2
  · refine d_obj hN hz (S_s_m (k := 70) (v := M 70 + 1) h (by decide)) (by omega) q0 (by decide) (by decide) (by decide) (fun s1 h1 => m_fetch hN hz h1 (by omega) (fun s2 h2 => ?_))
    rw [q1]
    refine ⟨fun g => absurd g (by decide), fun g => absurd g (by decide), fun _ => ?_, fun g => absurd g (by decide), fun g => absurd g (by decide), fun g => absurd g (by decide), fun g => absurd g (by decide), fun g => absurd g (by decide), fun _ _ g _ _ _ _ _ => absurd rfl g⟩
    refine m_obj hN h2 hf (by omega) (m_fetch hN hz h2 (by omega) (fun s3 h3 => ?_))
    rw [q2]
    refine m_obj hN h3 hf (by omega) ⟨fun z => ?_, fun z => ?_⟩
    · have z : ¬ F 58 (8 * (M 62 - 1) + F 14 k).toNatClampNeg = F 58 (8 * (M 62 - 1) + F 15 k).toNatClampNeg := z
      rw [if_neg z] at hq; exact m_push hN h3 (show 0 ≤ (M 69).toInt ∧ (M 69).toInt < 64 by omega) (fun s4 h4 => t_84g h4 (hq _ _ (A_S_go X.2.2.2.2.2.1 X.2.2.2.2.2.2.1 e4 (by rw [j0]; exact h4))))
    · have z : F 58 (8 * (M 62 - 1) + F 14 k).toNatClampNeg = F 58 (8 * (M 62 - 1) + F 15 k).toNatClampNeg := z
      rw [if_pos z] at hq; exact m_push hN h3 (show 0 ≤ (M 69).toInt ∧ (M 69).toInt < 64 by omega) (fun s4 h4 => t_84g h4 (hq _ _ (A_S_go X.2.2.2.2.2.1 X.2.2.2.2.2.2.1 e4 (by rw [j0]; exact h4))))
theorem o_copy (hN : tN N) (hz : K_z K ≤ N 20) (X : C_X K G B Nn E T V M F f ot k) (hn : F 13 k = 10) : O_A N K M F f ot k := by
  obtain ⟨e1, e2, e3, e4, e5⟩ := C_X_k X
  obtain ⟨⟨c1, c2⟩, c3, c4, c5, c6⟩ := C_X_f X
  have hf : 1 ≤ (M 62).toInt ∧ (M 62).toInt ≤ 12 := by omega
  have hT : (F 13 k).toInt = ((10 : Nat) : Int) := by rw [hn]; decide
  have h69 := e_CX_a X.1 10 (by rw [e2]; exact hT) (by decide)
  rw [e2] at h69
  obtain ⟨⟨g1, g2⟩, -, ⟨a1, a2⟩, ⟨b1, b2⟩, d1⟩ := h69
  have g1 : (0 : Int) ≤ (M 69).toInt := g1
  have g2 : (M 69).toInt ≤ 0 := g2
  have a1 : (0 : Int) ≤ (F 14 k).toInt := a1
  have a2 : (F 14 k).toInt < 8 := a2
  have b1 : (0 : Int) ≤ (F 15 k).toInt := b1
  have b2 : (F 15 k).toInt < 8 := b2
  obtain ⟨i0, i1⟩ := k_int X.2.1 X.2.2.2.2.1 (k_en_10 hn)
  obtain ⟨j0, j1⟩ := k_fall X.2.1 X.2.2.2.2.1 (k_en_10 hn) hn (by decide)
  have i0 : K_A K k + 3 ≤ K_z K := i0
  have j0 : K_A K (k + 1) = K_A K k + 3 := j0
  have q0 : K_C K (K_A K k) = 25 := i1 0 (show 0 < 3 by decide)
  have q1 : K_C K (K_A K k + 1) = F 14 k := i1 1 (show 1 < 3 by decide)
  have q2 : K_C K (K_A K k + 1 + 1) = F 15 k := i1 2 (show 2 < 3 by decide)
  refine ⟨(um M 70 (M 70 + 1)), uf F 58 (8 * (M 62 - 1) + F 14 k) (F 58 (8 * (M 62 - 1) + F 15 k).toNatClampNeg), 1, fun Q h => ?_, ap_st X 10 hT (by decide) ⟨rfl, rfl, rfl, rfl, rfl, rfl, rfl⟩ rfl ⟨rfl, rfl, rfl, rfl, rfl⟩, fun O s h => t_go1 h.1.2.1 (fun Qc hq => ?_)⟩
  · have h := h.2.2.2.2.2.2.2.2.2.2.2.2.1 (by rw [e3]; exact hn)
    rw [e3] at h
    exact (h.2.2 _ rfl).2
  · refine d_obj hN hz (S_s_m (k := 70) (v := M 70 + 1) h (by decide)) (by omega) q0 (by decide) (by decide) (by decide) (fun s1 h1 => m_fetch hN hz h1 (by omega) (fun s2 h2 => ?_))
    rw [q1]
    refine ⟨fun g => absurd g (by decide), fun g => absurd g (by decide), fun g => absurd g (by decide), fun _ => ?_, fun g => absurd g (by decide), fun g => absurd g (by decide), fun g => absurd g (by decide), fun g => absurd g (by decide), fun _ _ _ g _ _ _ _ => absurd rfl g⟩
    refine m_fetch hN hz h2 (by omega) (fun s3 h3 => ?_)
    rw [q2]
    exact m_obj hN h3 hf (by omega) (m_setobj hN h3 hf (by omega) (fun s4 h4 => t_84g h4 (hq _ _ (A_S_go X.2.2.2.2.2.1 X.2.2.2.2.2.2.1 e4 (by rw [j0]; exact h4)))))
theorem o_clear (hN : tN N) (hz : K_z K ≤ N 20) (X : C_X K G B Nn E T V M F f ot k) (hn : F 13 k = 11) : O_A N K M F f ot k := by
  obtain ⟨e1, e2, e3, e4, e5⟩ := C_X_k X
  obtain ⟨⟨c1, c2⟩, c3, c4, c5, c6⟩ := C_X_f X
  have hf : 1 ≤ (M 62).toInt ∧ (M 62).toInt ≤ 12 := by omega
  have hT : (F 13 k).toInt = ((11 : Nat) : Int) := by rw [hn]; decide
  have h69 := e_CX_a X.1 11 (by rw [e2]; exact hT) (by decide)
  rw [e2] at h69
  obtain ⟨⟨g1, g2⟩, -, ⟨a1, a2⟩, ⟨b1, b2⟩, d1⟩ := h69
  have g1 : (0 : Int) ≤ (M 69).toInt := g1
  have g2 : (M 69).toInt ≤ 0 := g2
  have a1 : (0 : Int) ≤ (F 14 k).toInt := a1
  have a2 : (F 14 k).toInt < 8 := a2
  have b1 : (-2147483648 : Int) ≤ (F 15 k).toInt := b1
  have b2 : (F 15 k).toInt < 2147483648 := b2
  obtain ⟨i0, i1⟩ := k_int X.2.1 X.2.2.2.2.1 (k_en_11 hn)
  obtain ⟨j0, j1⟩ := k_fall X.2.1 X.2.2.2.2.1 (k_en_11 hn) hn (by decide)
  have i0 : K_A K k + 3 ≤ K_z K := i0
  have j0 : K_A K (k + 1) = K_A K k + 3 := j0
  have q0 : K_C K (K_A K k) = 25 := i1 0 (show 0 < 3 by decide)
  have q1 : K_C K (K_A K k + 1) = F 14 k := i1 1 (show 1 < 3 by decide)
  have q2 : K_C K (K_A K k + 1 + 1) = -1 := i1 2 (show 2 < 3 by decide)
  refine ⟨(um M 70 (M 70 + 1)), uf F 58 (8 * (M 62 - 1) + F 14 k) 0, 1, fun Q h => ?_, ap_st X 11 hT (by decide) ⟨rfl, rfl, rfl, rfl, rfl, rfl, rfl⟩ rfl ⟨rfl, rfl, rfl, rfl, rfl⟩, fun O s h => t_go1 h.1.2.1 (fun Qc hq => ?_)⟩
  · have h := h.2.2.2.2.2.2.2.2.2.2.2.2.2.1 (by rw [e3]; exact hn)
    rw [e3] at h
    exact h.2
  · refine d_obj hN hz (S_s_m (k := 70) (v := M 70 + 1) h (by decide)) (by omega) q0 (by decide) (by decide) (by decide) (fun s1 h1 => m_fetch hN hz h1 (by omega) (fun s2 h2 => ?_))
    rw [q1]
    refine ⟨fun g => absurd g (by decide), fun g => absurd g (by decide), fun g => absurd g (by decide), fun _ => ?_, fun g => absurd g (by decide), fun g => absurd g (by decide), fun g => absurd g (by decide), fun g => absurd g (by decide), fun _ _ _ g _ _ _ _ => absurd rfl g⟩
    refine m_fetch hN hz h2 (by omega) (fun s3 h3 => ?_)
    rw [q2]
    exact m_obj_ rfl (m_setobj hN h3 hf (by omega) (fun s4 h4 => t_84g h4 (hq _ _ (A_S_go X.2.2.2.2.2.1 X.2.2.2.2.2.2.1 e4 (by rw [j0]; exact h4)))))
theorem o_is (hN : tN N) (hz : K_z K ≤ N 20) (X : C_X K G B Nn E T V M F f ot k) (hn : F 13 k = 8) : O_A N K M F f ot k := by
  obtain ⟨e1, e2, e3, e4, e5⟩ := C_X_k X
  obtain ⟨⟨c1, c2⟩, c3, c4, c5, c6⟩ := C_X_f X
  have hf : 1 ≤ (M 62).toInt ∧ (M 62).toInt ≤ 12 := by omega
  have hT : (F 13 k).toInt = ((8 : Nat) : Int) := by rw [hn]; decide
  have h69 := e_CX_a X.1 8 (by rw [e2]; exact hT) (by decide)
  rw [e2] at h69
  obtain ⟨⟨g1, g2⟩, -, ⟨a1, a2⟩, ⟨b1, b2⟩, d1⟩ := h69
  have g1 : (0 : Int) ≤ (M 69).toInt := g1
  have g2 : (M 69).toInt ≤ 61 := g2
  have a1 : (0 : Int) ≤ (F 14 k).toInt := a1
  have a2 : (F 14 k).toInt < 8 := a2
  have b1 : (-2147483648 : Int) ≤ (F 15 k).toInt := b1
  have b2 : (F 15 k).toInt < 2147483648 := b2
  obtain ⟨i0, i1⟩ := k_int X.2.1 X.2.2.2.2.1 (k_en_8 hn)
  obtain ⟨j0, j1⟩ := k_fall X.2.1 X.2.2.2.2.1 (k_en_8 hn) hn (by decide)
  have i0 : K_A K k + 3 ≤ K_z K := i0
  have j0 : K_A K (k + 1) = K_A K k + 3 := j0
  have q0 : K_C K (K_A K k) = 23 := i1 0 (show 0 < 3 by decide)
  have q1 : K_C K (K_A K k + 1) = F 14 k := i1 1 (show 1 < 3 by decide)
  have q2 : K_C K (K_A K k + 1 + 1) = F 15 k := i1 2 (show 2 < 3 by decide)
  have hbk := (C_X_at X).2.2.2.2.2.2.2.1.1 hn
  have ho := C_X_o X (a := F 14 k) (by omega)
  refine ⟨um (um M 70 (M 70 + 1)) 69 (M 69 + 1), uf F 68 (M 69) (if F 58 (8 * (M 62 - 1) + F 14 k).toNatClampNeg = 0 then 0 else if t_is 7 (F 48 (F 58 (8 * (M 62 - 1) + F 14 k).toNatClampNeg).toNatClampNeg) (F 15 k) = 0 then 0 else 1), 1, fun Q h => ?_, ap_st X 8 hT (by decide) ⟨rfl, rfl, rfl, rfl, rfl, rfl, rfl⟩ rfl ⟨rfl, rfl, rfl, rfl, rfl⟩, fun O s h => t_go1 h.1.2.1 (fun Qc hq => ?_)⟩
  · have h := h.2.2.2.2.2.2.2.2.2.2.1 (by rw [e3]; exact hn)
    rw [e3] at h
    obtain ⟨h1, h2⟩ := h.2 _ rfl
    by_cases z : F 58 (8 * (M 62 - 1) + F 14 k).toNatClampNeg = 0
    · rw [if_pos z]; exact (h1 (show F 58 (8 * (M 62 - 1) + F 14 k).toNatClampNeg ≤ 0 by rw [z]; exact Int32.le_refl _)).2
    · rw [if_neg z]
      have z' := ti_ne z
      rw [e_z0] at z'
      have zl : ¬ F 58 (8 * (M 62 - 1) + F 14 k).toNatClampNeg ≤ 0 := fun w => by rw [Int32.le_iff_toInt_le, e_z0] at w; omega
      have hk : 0 ≤ (F 48 (F 58 (8 * (M 62 - 1) + F 14 k).toNatClampNeg).toNatClampNeg).toInt ∧ (F 48 (F 58 (8 * (M 62 - 1) + F 14 k).toNatClampNeg).toNatClampNeg).toInt ≤ 6 := (X.1.2.2.1.2.1 (F 58 (8 * (M 62 - 1) + F 14 k).toNatClampNeg).toInt.toNat (by omega) (by omega)).1
      have h3 := r_isKind hk hbk (((h2 zl).2 _ rfl).2).2
      by_cases w : t_is 7 (F 48 (F 58 (8 * (M 62 - 1) + F 14 k).toNatClampNeg).toNatClampNeg) (F 15 k) = 0
      · rw [if_pos w]; exact (h3.1 w).2
      · rw [if_neg w]; exact (h3.2 w).2
  · refine d_obj hN hz (S_s_m (k := 70) (v := M 70 + 1) h (by decide)) (by omega) q0 (by decide) (by decide) (by decide) (fun s1 h1 => m_fetch hN hz h1 (by omega) (fun s2 h2 => ?_))
    rw [q1]
    refine ⟨fun g => absurd g (by decide), fun _ => ?_, fun g => absurd g (by decide), fun g => absurd g (by decide), fun g => absurd g (by decide), fun g => absurd g (by decide), fun g => absurd g (by decide), fun g => absurd g (by decide), fun _ g _ _ _ _ _ _ => absurd rfl g⟩
    refine m_obj hN h2 hf (by omega) (m_fetch hN hz h2 (by omega) (fun s3 h3 => ?_))
    rw [q2]
    refine ⟨fun z => ?_, fun z => ?_⟩
    · have z : F 58 (8 * (M 62 - 1) + F 14 k).toNatClampNeg = 0 := z
      rw [if_pos z] at hq; exact m_push hN h3 (show 0 ≤ (M 69).toInt ∧ (M 69).toInt < 64 by omega) (fun s4 h4 => t_84g h4 (hq _ _ (A_S_go X.2.2.2.2.2.1 X.2.2.2.2.2.2.1 e4 (by rw [j0]; exact h4))))
    · have z : ¬ F 58 (8 * (M 62 - 1) + F 14 k).toNatClampNeg = 0 := z
      have z' := ti_ne z
      rw [e_z0] at z'
      have hk : 0 ≤ (F 48 (F 58 (8 * (M 62 - 1) + F 14 k).toNatClampNeg).toNatClampNeg).toInt ∧ (F 48 (F 58 (8 * (M 62 - 1) + F 14 k).toNatClampNeg).toNatClampNeg).toInt ≤ 6 := (X.1.2.2.1.2.1 (F 58 (8 * (M 62 - 1) + F 14 k).toNatClampNeg).toInt.toNat (by omega) (by omega)).1
      refine m_kindOf h3.2.1.1 (show 1 ≤ (F 58 (8 * (M 62 - 1) + F 14 k).toNatClampNeg).toInt ∧ (F 58 (8 * (M 62 - 1) + F 14 k).toNatClampNeg).toInt ≤ (M 54).toInt by omega) (m_is (by omega) ⟨fun w => ?_, fun w => ?_⟩)
      · rw [if_neg z, if_pos w] at hq; exact m_push hN h3 (show 0 ≤ (M 69).toInt ∧ (M 69).toInt < 64 by omega) (fun s4 h4 => t_84g h4 (hq _ _ (A_S_go X.2.2.2.2.2.1 X.2.2.2.2.2.2.1 e4 (by rw [j0]; exact h4))))
      · rw [if_neg z, if_neg w] at hq; exact m_push hN h3 (show 0 ≤ (M 69).toInt ∧ (M 69).toInt < 64 by omega) (fun s4 h4 => t_84g h4 (hq _ _ (A_S_go X.2.2.2.2.2.1 X.2.2.2.2.2.2.1 e4 (by rw [j0]; exact h4))))
theorem o_note (hN : tN N) (hz : K_z K ≤ N 20) (X : C_X K G B Nn E T V M F f ot k) (hn : F 13 k = 16) : O_A N K M F f ot k := by
  obtain ⟨e1, e2, e3, e4, e5⟩ := C_X_k X
  obtain ⟨⟨c1, c2⟩, c3, c4, c5, c6⟩ := C_X_f X
  have hf : 1 ≤ (M 62).toInt ∧ (M 62).toInt ≤ 12 := by omega
  have hT : (F 13 k).toInt = ((16 : Nat) : Int) := by rw [hn]; decide
  have h69 := e_CX_a X.1 16 (by rw [e2]; exact hT) (by decide)
  rw [e2] at h69
  obtain ⟨⟨g1, g2⟩, -, ⟨a1, a2⟩, ⟨b1, b2⟩, d1⟩ := h69
  have g1 : (1 : Int) ≤ (M 69).toInt := g1
  have g2 : (M 69).toInt ≤ 1 := g2
  have a1 : (-2147483648 : Int) ≤ (F 14 k).toInt := a1
  have a2 : (F 14 k).toInt < 2147483648 := a2
  have b1 : (-2147483648 : Int) ≤ (F 15 k).toInt := b1
  have b2 : (F 15 k).toInt < 2147483648 := b2
  obtain ⟨i0, i1⟩ := k_int X.2.1 X.2.2.2.2.1 (k_en_16 hn)
  obtain ⟨j0, j1⟩ := k_fall X.2.1 X.2.2.2.2.1 (k_en_16 hn) hn (by decide)
  have i0 : K_A K k + 1 ≤ K_z K := i0
  have j0 : K_A K (k + 1) = K_A K k + 1 := j0
  have q0 : K_C K (K_A K k) = 1 := i1 0 (show 0 < 1 by decide)
  have hO := X.1.2.2.1.2.2.2.2.2.2.1
  by_cases full : M 80 = 200
  · refine ⟨um (um (um M 70 (M 70 + 1)) 69 (M 69 - 1)) 71 1, F, 1, fun Q h => ?_, ap_ov rfl, fun O s h => t_go1 h.1.2.1 (fun Qc hq => ?_)⟩
    · have h := (h.2.2.2.2.2.2.2.2.2.2.2.2.2.2.2.2.2.2.1 (by rw [e3]; exact hn)).2.2.2.2.2.1 (by rw [e3]; exact hn)
      exact (h.2).2 full
    · exact d_course hN hz (S_s_m (k := 70) (v := M 70 + 1) h (by decide)) (by omega) q0 (by decide) (fun s1 h1 => ⟨fun g => absurd g (by decide), fun _ => m_pop hN h1 (show 1 ≤ (M 69).toInt ∧ (M 69).toInt ≤ 64 by omega) (fun s2 h2 => m_note hN h2 hO (fun _ s3 h3 => t_84g h3 (hq _ _ (A_S_ov rfl (S_s_m h3 (by decide))))) (fun g => absurd full g)), fun g => absurd g (by decide), fun g => absurd g (by decide), fun g => absurd g (by decide), fun g => absurd g (by decide), fun g => absurd g (by decide), fun _ g _ _ _ _ _ => absurd rfl g⟩)
  · refine ⟨um (um (um M 70 (M 70 + 1)) 69 (M 69 - 1)) 80 (M 80 + 1), uf F 84 (M 80) (F 68 (M 69 - 1).toNatClampNeg), 1, fun Q h => ?_, ap_st X 16 hT (by decide) ⟨rfl, rfl, rfl, rfl, rfl, rfl, rfl⟩ rfl ⟨rfl, rfl, rfl, rfl, rfl⟩, fun O s h => t_go1 h.1.2.1 (fun Qc hq => ?_)⟩
    · have h := (h.2.2.2.2.2.2.2.2.2.2.2.2.2.2.2.2.2.2.1 (by rw [e3]; exact hn)).2.2.2.2.2.1 (by rw [e3]; exact hn)
      exact ((h.2).1 full).2
    · exact d_course hN hz (S_s_m (k := 70) (v := M 70 + 1) h (by decide)) (by omega) q0 (by decide) (fun s1 h1 => ⟨fun g => absurd g (by decide), fun _ => m_pop hN h1 (show 1 ≤ (M 69).toInt ∧ (M 69).toInt ≤ 64 by omega) (fun s2 h2 => m_note hN h2 hO (fun g => absurd g full) (fun _ s3 h3 => t_84g h3 (hq _ _ (A_S_go X.2.2.2.2.2.1 X.2.2.2.2.2.2.1 e4 (by rw [j0]; exact h3))))), fun g => absurd g (by decide), fun g => absurd g (by decide), fun g => absurd g (by decide), fun g => absurd g (by decide), fun g => absurd g (by decide), fun _ g _ _ _ _ _ => absurd rfl g⟩)
theorem o_tell (hN : tN N) (hz : K_z K ≤ N 20) (X : C_X K G B Nn E T V M F f ot k) (hn : F 13 k = 17) : O_A N K M F f ot k := by
  obtain ⟨e1, e2, e3, e4, e5⟩ := C_X_k X
  obtain ⟨⟨c1, c2⟩, c3, c4, c5, c6⟩ := C_X_f X
  have hf : 1 ≤ (M 62).toInt ∧ (M 62).toInt ≤ 12 := by omega
  have hT : (F 13 k).toInt = ((17 : Nat) : Int) := by rw [hn]; decide
  have h69 := e_CX_a X.1 17 (by rw [e2]; exact hT) (by decide)
  rw [e2] at h69
  obtain ⟨⟨g1, g2⟩, -, ⟨a1, a2⟩, ⟨b1, b2⟩, d1⟩ := h69
  have g1 : (0 : Int) ≤ (M 69).toInt := g1
  have g2 : (M 69).toInt ≤ 0 := g2
  have a1 : (0 : Int) ≤ (F 14 k).toInt := a1
  have a2 : (F 14 k).toInt < 8 := a2
  have b1 : (-2147483648 : Int) ≤ (F 15 k).toInt := b1
  have b2 : (F 15 k).toInt < 2147483648 := b2
  obtain ⟨i0, i1⟩ := k_int X.2.1 X.2.2.2.2.1 (k_en_17 hn)
  obtain ⟨j0, j1⟩ := k_fall X.2.1 X.2.2.2.2.1 (k_en_17 hn) hn (by decide)
  have i0 : K_A K k + 2 ≤ K_z K := i0
  have j0 : K_A K (k + 1) = K_A K k + 2 := j0
  have q0 : K_C K (K_A K k) = 30 := i1 0 (show 0 < 2 by decide)
  have q1 : K_C K (K_A K k + 1) = F 14 k := i1 1 (show 1 < 2 by decide)
  have hO := X.1.2.2.1.2.2.2.2.2.2.1
  by_cases full : M 80 = 200
  · refine ⟨um (um M 70 (M 70 + 1)) 71 1, F, 1, fun Q h => ?_, ap_ov rfl, fun O s h => t_go1 h.1.2.1 (fun Qc hq => ?_)⟩
    · have h := (h.2.2.2.2.2.2.2.2.2.2.2.2.2.2.2.2.2.2.2.1 (by rw [e3]; exact hn)).2.2.2.2.2.2.1 (by rw [e3]; exact hn)
      rw [e3] at h
      exact (h.2 _ rfl).2 full
    · refine d_obj hN hz (S_s_m (k := 70) (v := M 70 + 1) h (by decide)) (by omega) q0 (by decide) (by decide) (by decide) (fun s1 h1 => m_fetch hN hz h1 (by omega) (fun s2 h2 => ?_))
      rw [q1]
      refine ⟨fun g => absurd g (by decide), fun g => absurd g (by decide), fun g => absurd g (by decide), fun g => absurd g (by decide), fun g => absurd g (by decide), fun g => absurd g (by decide), fun g => absurd g (by decide), fun g => absurd g (by decide), fun _ _ _ _ _ _ _ _ => ?_⟩
      exact m_obj hN h2 hf (by omega) (m_note hN h2 hO (fun _ s3 h3 => t_84g h3 (hq _ _ (A_S_ov rfl (S_s_m h3 (by decide))))) (fun g => absurd full g))
  · refine ⟨um (um M 70 (M 70 + 1)) 80 (M 80 + 1), uf F 84 (M 80) (F 58 (8 * (M 62 - 1) + F 14 k).toNatClampNeg), 1, fun Q h => ?_, ap_st X 17 hT (by decide) ⟨rfl, rfl, rfl, rfl, rfl, rfl, rfl⟩ rfl ⟨rfl, rfl, rfl, rfl, rfl⟩, fun O s h => t_go1 h.1.2.1 (fun Qc hq => ?_)⟩
    · have h := (h.2.2.2.2.2.2.2.2.2.2.2.2.2.2.2.2.2.2.2.1 (by rw [e3]; exact hn)).2.2.2.2.2.2.1 (by rw [e3]; exact hn)
      rw [e3] at h
      exact ((h.2 _ rfl).1 full).2
    · refine d_obj hN hz (S_s_m (k := 70) (v := M 70 + 1) h (by decide)) (by omega) q0 (by decide) (by decide) (by decide) (fun s1 h1 => m_fetch hN hz h1 (by omega) (fun s2 h2 => ?_))
      rw [q1]
      refine ⟨fun g => absurd g (by decide), fun g => absurd g (by decide), fun g => absurd g (by decide), fun g => absurd g (by decide), fun g => absurd g (by decide), fun g => absurd g (by decide), fun g => absurd g (by decide), fun g => absurd g (by decide), fun _ _ _ _ _ _ _ _ => ?_⟩
      exact m_obj hN h2 hf (by omega) (m_note hN h2 hO (fun g => absurd g full) (fun _ s3 h3 => t_84g h3 (hq _ _ (A_S_go X.2.2.2.2.2.1 X.2.2.2.2.2.2.1 e4 (by rw [j0]; exact h3)))))
end TQC
