theorem e_mu_try {G : e_G} {E : Int} {M M' : e_M} {F F' : e_F} {f f' ot ot' : Nat} (h79 : M' 79 = M 79) (h78 : M' 78 = M 78) (f0 : e_fl G M' = 0) (f1 : e_fl G M = 1) (hp : e_ph F' ot' < 1000) : e_mu G E M' F' f' ot' < e_mu G E M F f ot := by
  unfold e_mu
  rw [h79, h78, f0, f1]
  exact e_lex (Or.inl ⟨e_VF_bd _ _ _ _, by omega⟩)
theorem e_mu_step {G : e_G} {E : Int} {M M' : e_M} {F F' : e_F} {f f' ot ot' : Nat} (h79 : M' 79 = M 79) (h78 : (M' 78).toInt = (M 78).toInt + 1) (hl : (M 78).toInt < (M 79).toInt) (hp : e_ph F' ot' < 1000) : e_mu G E M' F' f' ot' < e_mu G E M F f ot := by
  have fl0 : e_fl G M' ≤ 1 := by unfold e_fl; split <;> omega
  unfold e_mu
  rw [h79, h78]
  exact e_lex (Or.inl ⟨e_VF_bd _ _ _ _, by omega⟩)
theorem p_tryX {G : e_G} {B N E T V : Int} {M : e_M} {F : e_F} {f ot : Nat} {Q : e_M → e_F → Prop} (X : e_CX G B N E T V M F f ot) (hn : (F 13 (M 70).toInt.toNat).toInt = ((22 : Nat) : Int)) (hQ : ∀ (M2 : e_M) (F2 : e_F), e_QA G B E T M F f ot M2 F2 → Q M2 F2) : vp_in (M 67) 260 ∧ Q (um (um M 70 (M 70 + 1)) 67 (M 67 + 1)) (uf (uf F 63 (M 67) (F 14 (M 70).toInt.toNat)) 64 (M 67) 0) := by
  have l1 : (1 : Int32).toInt = 1 := by decide
  obtain ⟨ho, hk, ⟨k1, k2⟩, k3, k4⟩ := e_CX_op X
  obtain ⟨⟨d1, d2⟩, o3⟩ := e_op_n ho hn
  obtain ⟨q1, q2, q3, q4, ⟨q5, q6⟩, q7⟩ := e_opc_22 o3
  obtain ⟨t1, t2, t3⟩ := e_CX_ot X
  obtain ⟨hC, hR, hS⟩ := X
  obtain ⟨⟨r1, r2, r3, r4⟩, rF, ⟨r5, r6⟩, r7, r8⟩ := (show e_RUN G B E T M F f ot from hR)
  have hO := hS.1
  have h69z : (M 69).toInt = 0 := by omega
  have i67 : (M 67).toNatClampNeg = ot := by rw [e_tc, r2]; omega
  have e67 := ti_addx (M 67) 1 (by omega)
  have e67' : (M 67 + 1).toInt = ((ot + 1 : Nat) : Int) := by omega
  refine ⟨vp_in_iff.mpr (by omega), ?_⟩
  have f63 : ∀ j, j ≠ ot → uf (uf F 63 (M 67) (F 14 (M 70).toInt.toNat)) 64 (M 67) 0 63 j = F 63 j := fun j hj => e_upd_ne (by rw [i67]; exact hj)
  have f64 : ∀ j, j ≠ ot → uf (uf F 63 (M 67) (F 14 (M 70).toInt.toNat)) 64 (M 67) 0 64 j = F 64 j := fun j hj => e_upd_ne (by rw [i67]; exact hj)
  have g63 : uf (uf F 63 (M 67) (F 14 (M 70).toInt.toNat)) 64 (M 67) 0 63 ot = F 14 (M 70).toInt.toNat := by
    show upd (F 63) (M 67).toNatClampNeg _ ot = _
    rw [i67]; exact e_upd_eq
  have g64 : uf (uf F 63 (M 67) (F 14 (M 70).toInt.toNat)) 64 (M 67) 0 64 ot = 0 := by
    show upd (F 64) (M 67).toNatClampNeg _ ot = _
    rw [i67]; exact e_upd_eq
  have c : e_hc [67, 70] [63, 64] M F (um (um M 70 (M 70 + 1)) 67 (M 67 + 1)) (uf (uf F 63 (M 67) (F 14 (M 70).toInt.toNat)) 64 (M 67) 0) := e_hc_uf _ _ (by decide) (e_hc_uf _ _ (by decide) (e_hc_um _ (by decide) (e_hc_um _ (by decide) (e_hc_rf _ _ M F))))
  have z0 : G 0 (M 70 + 1).toInt.toNat = 0 := by rw [k4]; exact q2
  refine hQ _ _ ⟨e_XR_of c (by decide) (by decide), ⟨e_OB_hc c (by decide) (by decide) hO, hS.2⟩, fun _ _ => ⟨f, ot + 1, ⟨⟨r1, e67', r3, r4⟩, e_FS_ut r3 t1 rfl rfl rfl f63 f64 (by rw [g63]; exact ⟨q5, q6⟩) (by rw [g63, q7]; omega) (by rw [g64]; decide) rF, (show 9000 * B ≤ (M 70 + 1).toInt ∧ (M 70 + 1).toInt < E from by omega), e_m0 h69z z0, ?_⟩, ?_⟩⟩
  · show ((ot + 1 : Nat) : Int) - e_b F (f - 1) = G 1 (M 70 + 1).toInt.toNat
    rw [k4]; omega
  · have hp := e_ph_le (uf (uf F 63 (M 67) (F 14 (M 70).toInt.toNat)) 64 (M 67) 0) (ot + 1)
    have fl0 : e_fl G (um (um M 70 (M 70 + 1)) 67 (M 67 + 1)) = 0 := if_neg (show ¬ G 0 (M 70 + 1).toInt.toNat = -1 from by omega)
    have fl1 : e_fl G M = 1 := if_pos q1
    exact e_mu_try rfl rfl fl0 fl1 (by omega)
