theorem p_act {G : e_G} {B N E T V : Int} {M : e_M} {F : e_F} {f ot : Nat} {Q : e_M → e_F → Prop} (X : e_CX G B N E T V M F f ot) (hQ : ∀ (M2 : e_M) (F2 : e_F), e_QA G B E T M F f ot M2 F2 → Q M2 F2) : w_act M F Q := by
  have l1 : (1 : Int32).toInt = 1 := by decide
  obtain ⟨ho, hk, ⟨k1, k2⟩, k3, k4⟩ := e_CX_op X
  have hv : vp_in (M 70) 18000 := vp_in_iff.mpr (by omega)
  have hO := X.2.2.1
  have hO1 := e_OB_70 hO (M 70 + 1)
  have h62 := e_CX_62 X (e_cs_70 (M 70 + 1))
  have h62' : 1 ≤ (M 62).toInt ∧ (M 62).toInt ≤ 12 := h62
  have cl : ∀ (w : Int32), F 13 (M 70).toInt.toNat = w → 12 ≤ w.toInt → w ≠ 20 → w ≠ 21 → w_more (M 70) (F 14 (M 70).toInt.toNat) (um M 70 (M 70 + 1)) F Q := fun w h h1 h2 h3 => p_moreX X (by rw [h]; exact h1) (by rw [h]; exact h2) (by rw [h]; exact h3) hQ
  have hpu : ∀ (n : Nat), (F 13 (M 70).toInt.toNat).toInt = (n : Int) → (n < 18 ∧ n ≠ 0 ∧ n ≠ 5) → e_dl n = 1 → (0 ≤ (M 69).toInt ∧ (M 69).toInt < 64) → ∀ v : Int32, w_push v (um M 70 (M 70 + 1)) F Q := fun n hn h18 hd hb v => p_push hb (fun M5 F5 c5 h5 => hQ M5 F5 (e_CX_go X n hn h18 (e_cs_tr (e_cs_70 _) c5 (by decide) (by decide)) (e_OB_hc c5 (by decide) (by decide) hO1) (c5.1 70 (by decide)) (by rw [hd]; exact h5)))
  refine ⟨hv, hv, fun h => ?_, fun h => ?_, fun h v e => ?_, fun h v e => ?_, fun h => ?_, fun h => ?_, fun h => ?_, fun h => ?_, fun h => ?_, fun h => ?_, fun h => ?_, fun h => ?_, fun h => cl 12 h (by decide) (by decide) (by decide), fun h => cl 13 h (by decide) (by decide) (by decide), fun h => cl 14 h (by decide) (by decide) (by decide), fun h => cl 15 h (by decide) (by decide) (by decide), fun h => cl 16 h (by decide) (by decide) (by decide), fun h => cl 17 h (by decide) (by decide) (by decide), fun h => cl 18 h (by decide) (by decide) (by decide), fun h => cl 19 h (by decide) (by decide) (by decide), fun h => ?_, fun h => ?_, fun n0 n1 n2 n3 n4 n5 n6 n7 n8 n9 n10 n11 n12 n13 n14 n15 n16 n17 n18 n19 n20 n21 => ?_⟩
  · -- STEP
    have hn : (F 13 (M 70).toInt.toNat).toInt = ((0 : Nat) : Int) := by rw [show F 13 (M 70).toInt.toNat = 0 from h]; decide
    obtain ⟨q1, q2, q3, q4⟩ := e_opc_0 (e_op_n ho hn).2
    obtain ⟨hC, hR, hS⟩ := (show e_CX G B N E T V M F f ot from X)
    obtain ⟨⟨r1, r2, r3, r4⟩, rF, ⟨r5, r6⟩, r7, r8⟩ := hR
    obtain ⟨-, s1, s2, s3⟩ := hS
    refine ⟨fun q => ?_, fun q => hQ _ _ (e_QA_ov X.2.2 (e_hc_um (ks := [70, 71]) (rs := []) 1 (by decide) (e_hc_um _ (by decide) (e_hc_rf _ _ M F))) (by decide) (by decide) (by decide) (e_OB_hc (e_hc_um (ks := [71]) (rs := []) 1 (by decide) (e_hc_rf _ _ _ F)) (by decide) (by decide) hO1) rfl)⟩
    have q' := ti_ne q
    have e78 := ti_addx (M 78) 1 (by omega)
    have c : e_hc [70, 78] [] M F (um (um M 70 (M 70 + 1)) 78 (M 78 + 1)) F := e_hc_um _ (by decide) (e_hc_um _ (by decide) (e_hc_rf _ _ M F))
    refine hQ _ _ ⟨e_XR_of c (by decide) (by decide), ⟨e_OB_hc c (by decide) (by decide) hO, (show 0 ≤ (M 78 + 1).toInt ∧ (M 78 + 1).toInt ≤ (M 79).toInt ∧ (M 79).toInt ≤ 5000 from by omega)⟩, fun _ _ => ⟨f, ot, ⟨⟨r1, r2, r3, r4⟩, rF, (show 9000 * B ≤ (M 70 + 1).toInt ∧ (M 70 + 1).toInt < E from by omega), (show (M 69).toInt = max 0 (G 0 (M 70 + 1).toInt.toNat) from by rw [k4]; omega), (show (ot : Int) - e_b F (f - 1) = G 1 (M 70 + 1).toInt.toNat from by rw [k4]; omega)⟩, ?_⟩⟩
    have hp := e_ph_le F ot
    have hp2 := (e_CX_ot X).2.1
    exact e_mu_step rfl (show (M 78 + 1).toInt = (M 78).toInt + 1 from by omega) (by omega) (by omega)
  · have hn : (F 13 (M 70).toInt.toNat).toInt = ((1 : Nat) : Int) := by rw [show F 13 (M 70).toInt.toNat = 1 from h]; decide
    obtain ⟨⟨a1, a2⟩, -⟩ := e_CX_a X 1 hn (by decide)
    have a1' : 0 ≤ (M 69).toInt := a1
    have a2' : (M 69).toInt ≤ 61 := a2
    exact hpu 1 hn (by decide) rfl (by omega) _
  · have hn : (F 13 (M 70).toInt.toNat).toInt = ((2 : Nat) : Int) := by rw [show F 13 (M 70).toInt.toNat = 2 from h]; decide
    obtain ⟨⟨a1, a2⟩, -, ⟨b1, b2⟩, -⟩ := e_CX_a X 2 hn (by decide)
    have a1' : 0 ≤ (M 69).toInt := a1
    have a2' : (M 69).toInt ≤ 61 := a2
    have b1' : 0 ≤ (F 14 (M 70).toNatClampNeg).toInt := b1
    have b2' : (F 14 (M 70).toNatClampNeg).toInt < 12 := b2
    have e' := e_ix12 (x := M 62) (a := F 14 (M 70).toNatClampNeg) h62' ⟨b1', b2'⟩
    exact ⟨vp_in_iff.mpr (by rw [e]; omega), hpu 2 hn (by decide) rfl (by omega) _⟩
  · have hn : (F 13 (M 70).toInt.toNat).toInt = ((3 : Nat) : Int) := by rw [show F 13 (M 70).toInt.toNat = 3 from h]; decide
    obtain ⟨⟨a1, a2⟩, -, ⟨b1, b2⟩, -⟩ := e_CX_a X 3 hn (by decide)
    have a1' : 1 ≤ (M 69).toInt := a1
    have a2' : (M 69).toInt ≤ 1 := a2
    have b1' : 0 ≤ (F 14 (M 70).toNatClampNeg).toInt := b1
    have b2' : (F 14 (M 70).toNatClampNeg).toInt < 12 := b2
    have e' := e_ix12 (x := M 62) (a := F 14 (M 70).toNatClampNeg) h62' ⟨b1', b2'⟩
    refine p_pop (show 1 ≤ (M 69).toInt ∧ (M 69).toInt ≤ 64 from by omega) (fun r M2 c2 e2 => ⟨vp_in_iff.mpr (by rw [e]; omega), ?_⟩)
    exact hQ _ _ (e_CX_go X 3 hn (by decide) (e_hc_uf _ _ (by decide) (e_cs_tr (e_cs_70 _) c2 (by decide) (by decide))) (e_OB_hc (e_hc_uf (ks := []) (rs := [57]) v r (by decide) (e_hc_rf _ _ M2 F)) (by decide) (by decide) (e_OB_hc c2 (by decide) (by decide) hO1)) (c2.1 70 (by decide)) e2)
  · have hn : (F 13 (M 70).toInt.toNat).toInt = ((4 : Nat) : Int) := by rw [show F 13 (M 70).toInt.toNat = 4 from h]; decide
    obtain ⟨⟨a1, a2⟩, -⟩ := e_CX_a X 4 hn (by decide)
    have a1' : 1 ≤ (M 69).toInt := a1
    have a2' : (M 69).toInt ≤ 62 := a2
    refine p_pop (show 1 ≤ (M 69).toInt ∧ (M 69).toInt ≤ 64 from by omega) (fun r M2 c2 e2 => ?_)
    have e2' : (M2 69).toInt = (M 69).toInt - 1 := e2
    refine p_push (by omega) (fun M5 F5 c5 h5 => hQ M5 F5 (e_CX_go X 4 hn (by decide) (e_cs_tr (e_cs_tr (e_cs_70 _) c2 (by decide) (by decide)) c5 (by decide) (by decide)) (e_OB_hc c5 (by decide) (by decide) (e_OB_hc c2 (by decide) (by decide) hO1)) ((c5.1 70 (by decide)).trans (c2.1 70 (by decide))) (show (M5 69).toInt = (M 69).toInt + 0 from by omega)))
  · have hn : (F 13 (M 70).toInt.toNat).toInt = ((5 : Nat) : Int) := by rw [show F 13 (M 70).toInt.toNat = 5 from h]; decide
    exact absurd (e_op_n ho hn).2 e_opc_5
  · exact p_countX X (by rw [show F 13 (M 70).toInt.toNat = 6 from h]; decide) hQ _
  · have hn : (F 13 (M 70).toInt.toNat).toInt = ((7 : Nat) : Int) := by rw [show F 13 (M 70).toInt.toNat = 7 from h]; decide
    obtain ⟨-, -, ⟨b1, b2⟩, -⟩ := e_CX_a X 7 hn (by decide)
    exact p_obj hO1 h62 ⟨b1, b2⟩ (fun v _ hv3 => ⟨hv, p_askX X hn hQ v _ hv3⟩)
  · have hn : (F 13 (M 70).toInt.toNat).toInt = ((8 : Nat) : Int) := by rw [show F 13 (M 70).toInt.toNat = 8 from h]; decide
    obtain ⟨⟨a1, a2⟩, -, ⟨b1, b2⟩, -⟩ := e_CX_a X 8 hn (by decide)
    have a1' : 0 ≤ (M 69).toInt := a1
    have a2' : (M 69).toInt ≤ 61 := a2
    have hp := hpu 8 hn (by decide) rfl (by omega)
    refine p_obj hO1 h62 ⟨b1, b2⟩ (fun v ev hv3 => ⟨fun _ => hp 0, fun q => p_obj hO1 h62 ⟨b1, b2⟩ (fun v' ev' hv' => ?_)⟩)
    have e : v' = v := ev'.trans ev.symm
    have q' := ti_nle q
    rw [e_z0] at q'
    have hv3' : 0 ≤ v.toInt ∧ v.toInt ≤ (M 54).toInt := hv3
    have ha := hO.1
    rw [e]
    have hk := (hO.2.1 v.toInt.toNat (by omega) (by omega)).1
    exact ⟨vp_in_iff.mpr (by omega), hv, p_isKind (show -1 ≤ (F 48 v.toInt.toNat).toInt ∧ (F 48 v.toInt.toNat).toInt ≤ 6 from by omega) (fun r => ⟨fun _ => hp 0, fun _ => hp 1⟩)⟩
  · have hn : (F 13 (M 70).toInt.toNat).toInt = ((9 : Nat) : Int) := by rw [show F 13 (M 70).toInt.toNat = 9 from h]; decide
    obtain ⟨⟨a1, a2⟩, -, ⟨b1, b2⟩, ⟨d1, d2⟩, -⟩ := e_CX_a X 9 hn (by decide)
    have a1' : 0 ≤ (M 69).toInt := a1
    have a2' : (M 69).toInt ≤ 61 := a2
    have hp := hpu 9 hn (by decide) rfl (by omega)
    exact p_obj hO1 h62 ⟨b1, b2⟩ (fun v ev hv3 => ⟨hv, p_obj hO1 h62 ⟨d1, d2⟩ (fun v' ev' hv' => ⟨fun _ => hp 0, fun _ => hp 1⟩)⟩)
  · have hn : (F 13 (M 70).toInt.toNat).toInt = ((10 : Nat) : Int) := by rw [show F 13 (M 70).toInt.toNat = 10 from h]; decide
    obtain ⟨-, -, ⟨b1, b2⟩, ⟨d1, d2⟩, -⟩ := e_CX_a X 10 hn (by decide)
    exact ⟨hv, p_obj hO1 h62 ⟨d1, d2⟩ (fun v ev hv3 => p_hold_ hO1 h62 ⟨b1, b2⟩ hv3 (fun F' c' o' => hQ _ _ (e_CX_go X 10 hn (by decide) (e_cs_tr (e_cs_70 _) c' (by decide) (by decide)) o' rfl (Int.add_zero (M 69).toInt).symm)))⟩
  · have hn : (F 13 (M 70).toInt.toNat).toInt = ((11 : Nat) : Int) := by rw [show F 13 (M 70).toInt.toNat = 11 from h]; decide
    obtain ⟨-, -, ⟨b1, b2⟩, -⟩ := e_CX_a X 11 hn (by decide)
    have ha := hO.1
    exact p_hold_ hO1 h62 ⟨b1, b2⟩ (show 0 ≤ (0 : Int32).toInt ∧ (0 : Int32).toInt ≤ (M 54).toInt from by rw [e_z0]; omega) (fun F' c' o' => hQ _ _ (e_CX_go X 11 hn (by decide) (e_cs_tr (e_cs_70 _) c' (by decide) (by decide)) o' rfl (Int.add_zero (M 69).toInt).symm))
  · -- JUMP
    have hn : (F 13 (M 70).toInt.toNat).toInt = ((20 : Nat) : Int) := by rw [show F 13 (M 70).toInt.toNat = 20 from h]; decide
    obtain ⟨q1, ⟨g1, g2, g3, g4⟩, q3⟩ := e_opc_20 (e_op_n ho hn).2
    have r7 := X.2.1.2.2.2.1
    have h69z : (M 69).toInt = 0 := by omega
    exact hQ _ _ (e_QA_go X.1 X.2.1 X.2.2 (fun q => by rw [q] at hn; exact absurd hn (by decide)) (e_hc_um (ks := [70]) (rs := []) _ (by decide) (e_hc_um (M 70 + 1) (by decide) (e_hc_rf _ _ M F))) (by decide) (by decide) (by decide) (by decide) (e_OB_70 hO1 _) ⟨g1, g2⟩ (show (M 69).toInt = G 0 (F 14 (M 70).toInt.toNat).toInt.toNat from by rw [h69z, g3]) (show 0 ≤ (M 69).toInt from by omega) g4 (show (M 70).toInt < (F 14 (M 70).toInt.toNat).toInt ∨ F 13 (F 14 (M 70).toInt.toNat).toInt.toNat = 0 from by rw [← hk]; exact q3))
  · -- UNLESS
    have hn : (F 13 (M 70).toInt.toNat).toInt = ((21 : Nat) : Int) := by rw [show F 13 (M 70).toInt.toNat = 21 from h]; decide
    obtain ⟨q1, q2, q3, q4, ⟨g1, g2, g3, g4⟩, q6⟩ := e_opc_21 (e_op_n ho hn).2
    have r7 := X.2.1.2.2.2.1
    have r5 := X.2.1.2.2.1
    have h69 : (M 69).toInt = 1 := by omega
    have h13 : F 13 (M 70).toInt.toNat ≠ 0 := fun q => by rw [q] at hn; exact absurd hn (by decide)
    refine p_pop (show 1 ≤ (M 69).toInt ∧ (M 69).toInt ≤ 64 from by omega) (fun r M2 c2 e2 => ?_)
    have e2' : (M2 69).toInt = (M 69).toInt - 1 := e2
    have c : e_hc [69, 70] [] M F M2 F := e_hc_tr (e_hc_um (ks := [70]) (rs := []) (M 70 + 1) (by decide) (e_hc_rf _ _ M F)) c2 (by decide) (by decide) (by decide) (by decide)
    have hO2 := e_OB_hc c2 (by decide) (by decide) hO1
    have e70 : M2 70 = M 70 + 1 := c2.1 70 (by decide)
    refine ⟨fun _ => hQ _ _ (e_QA_go X.1 X.2.1 X.2.2 h13 c (by decide) (by decide) (by decide) (by decide) hO2 (by rw [e70]; omega) (by rw [e70, k4, q2]; omega) (by omega) (by rw [e70, k4]; exact q3) (Or.inl (by rw [e70]; omega))), fun _ => ?_⟩
    refine hQ _ _ (e_QA_go X.1 X.2.1 X.2.2 h13 (e_hc_um _ (by decide) c) (by decide) (by decide) (by decide) (by decide) (e_OB_70 hO2 _) ⟨g1, g2⟩ (show (M2 69).toInt = G 0 (F 14 (M 70).toInt.toNat).toInt.toNat from by rw [g3]; omega) (show 0 ≤ (M2 69).toInt from by omega) g4 (Or.inl (show (M 70).toInt < (F 14 (M 70).toInt.toNat).toInt from by omega)))
  · obtain ⟨m, hm, -⟩ := e_CX_op X |>.1
    have g0 : (F 13 (M 70).toInt.toNat).toInt ≠ 0 := ti_ne n0
    have g1 : (F 13 (M 70).toInt.toNat).toInt ≠ 1 := ti_ne n1
    have g2 : (F 13 (M 70).toInt.toNat).toInt ≠ 2 := ti_ne n2
    have g3 : (F 13 (M 70).toInt.toNat).toInt ≠ 3 := ti_ne n3
    have g4 : (F 13 (M 70).toInt.toNat).toInt ≠ 4 := ti_ne n4
    have g5 : (F 13 (M 70).toInt.toNat).toInt ≠ 5 := ti_ne n5
    have g6 : (F 13 (M 70).toInt.toNat).toInt ≠ 6 := ti_ne n6
    have g7 : (F 13 (M 70).toInt.toNat).toInt ≠ 7 := ti_ne n7
    have g8 : (F 13 (M 70).toInt.toNat).toInt ≠ 8 := ti_ne n8
    have g9 : (F 13 (M 70).toInt.toNat).toInt ≠ 9 := ti_ne n9
    have g10 : (F 13 (M 70).toInt.toNat).toInt ≠ 10 := ti_ne n10
    have g11 : (F 13 (M 70).toInt.toNat).toInt ≠ 11 := ti_ne n11
    exact p_moreX X (by omega) n20 n21 hQ
