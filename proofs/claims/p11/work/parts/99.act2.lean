theorem e_opc_0 {F : e_F} {G : e_G} {B N E T : Int} {k : Nat} {a b c h h' d d' : Int} (o : e_opc F G B N E T k a b c h h' d d' 0) : h = 0 ∧ (h' = 0 ∨ h' = -1) ∧ d' = d ∧ (k : Int) + 1 < E := by
  rcases o with q | q | q | q | q | q | q | q | q
  · exact absurd rfl q.1.2.1
  · exact q.2
  all_goals exact absurd q.1 (by decide)
theorem e_opc_18 {F : e_F} {G : e_G} {B N E T : Int} {k : Nat} {a b c h h' d d' : Int} (o : e_opc F G B N E T k a b c h h' d d' 18) : (h = b ∧ 0 ≤ b ∧ b ≤ 4) ∧ h' = 0 ∧ d' = d ∧ (k : Int) + 1 < E ∧ (-1 ≤ c ∧ c < 12) ∧ (400 * B ≤ a ∧ a < 400 * B + N) := by
  rcases o with q | q | q | q | q | q | q | q | q
  · exact absurd q.1.1 (by decide)
  · exact absurd q.1 (by decide)
  · exact q.2
  all_goals exact absurd q.1 (by decide)
theorem e_opc_19 {F : e_F} {G : e_G} {B N E T : Int} {k : Nat} {a b c h h' d d' : Int} (o : e_opc F G B N E T k a b c h h' d d' 19) : h = 1 := by
  rcases o with q | q | q | q | q | q | q | q | q
  · exact absurd q.1.1 (by decide)
  · exact absurd q.1 (by decide)
  · exact absurd q.1 (by decide)
  · exact q.2
  all_goals exact absurd q.1 (by decide)
theorem e_opc_20 {F : e_F} {G : e_G} {B N E T : Int} {k : Nat} {a b c h h' d d' : Int} (o : e_opc F G B N E T k a b c h h' d d' 20) : h = 0 ∧ e_tg G (9000 * B) E a d ∧ ((k : Int) < a ∨ F 13 a.toNat = 0) := by
  rcases o with q | q | q | q | q | q | q | q | q
  · exact absurd q.1.1 (by decide)
  · exact absurd q.1 (by decide)
  · exact absurd q.1 (by decide)
  · exact absurd q.1 (by decide)
  · exact q.2
  all_goals exact absurd q.1 (by decide)
theorem e_opc_21 {F : e_F} {G : e_G} {B N E T : Int} {k : Nat} {a b c h h' d d' : Int} (o : e_opc F G B N E T k a b c h h' d d' 21) : h = 1 ∧ h' = 0 ∧ d' = d ∧ (k : Int) + 1 < E ∧ e_tg G (9000 * B) E a d ∧ (k : Int) < a := by
  rcases o with q | q | q | q | q | q | q | q | q
  · exact absurd q.1.1 (by decide)
  · exact absurd q.1 (by decide)
  · exact absurd q.1 (by decide)
  · exact absurd q.1 (by decide)
  · exact absurd q.1 (by decide)
  · exact q.2
  all_goals exact absurd q.1 (by decide)
theorem e_opc_22 {F : e_F} {G : e_G} {B N E T : Int} {k : Nat} {a b c h h' d d' : Int} (o : e_opc F G B N E T k a b c h h' d d' 22) : h = -1 ∧ h' = 0 ∧ d' = d + 1 ∧ (k : Int) + 1 < E ∧ (400 * B ≤ a ∧ a < 400 * B + T) ∧ G 2 a.toNat = d := by
  rcases o with q | q | q | q | q | q | q | q | q
  · exact absurd q.1.1 (by decide)
  · exact absurd q.1 (by decide)
  · exact absurd q.1 (by decide)
  · exact absurd q.1 (by decide)
  · exact absurd q.1 (by decide)
  · exact absurd q.1 (by decide)
  · exact q.2
  all_goals exact absurd q.1 (by decide)
theorem e_opc_23 {F : e_F} {G : e_G} {B N E T : Int} {k : Nat} {a b c h h' d d' : Int} (o : e_opc F G B N E T k a b c h h' d d' 23) : h = 0 ∧ (400 * B ≤ a ∧ a < 400 * B + T) ∧ G 2 a.toNat + 1 = d := by
  rcases o with q | q | q | q | q | q | q | q | q
  · exact absurd q.1.1 (by decide)
  · exact absurd q.1 (by decide)
  · exact absurd q.1 (by decide)
  · exact absurd q.1 (by decide)
  · exact absurd q.1 (by decide)
  · exact absurd q.1 (by decide)
  · exact absurd q.1 (by decide)
  · exact q.2
  all_goals exact absurd q.1 (by decide)
theorem e_opc_24 {F : e_F} {G : e_G} {B N E T : Int} {k : Nat} {a b c h h' d d' : Int} {n : Nat} (hn : 24 ≤ n) (o : e_opc F G B N E T k a b c h h' d d' n) : h = 0 ∧ h' = 0 ∧ d' = d - 1 ∧ (k : Int) + 1 < E ∧ 1 ≤ d := by
  rcases o with q | q | q | q | q | q | q | q | q
  · exact absurd q.1.1 (by omega)
  · exact absurd q.1 (by omega)
  · exact absurd q.1 (by omega)
  · exact absurd q.1 (by omega)
  · exact absurd q.1 (by omega)
  · exact absurd q.1 (by omega)
  · exact absurd q.1 (by omega)
  · exact absurd q.1 (by omega)
  · exact q.2
theorem e_opc_5 {F : e_F} {G : e_G} {B N E T : Int} {k : Nat} {a b c h h' d d' : Int} (o : e_opc F G B N E T k a b c h h' d d' 5) : False := by
  rcases o with q | q | q | q | q | q | q | q | q
  · exact q.1.2.2 rfl
  all_goals exact absurd q.1 (by decide)
theorem p_hearsX {G : e_G} {B N E T V : Int} {M : e_M} {F : e_F} {f ot : Nat} {Q : e_M → e_F → Prop} (X : e_CX G B N E T V M F f ot) (hn : (F 13 (M 70).toInt.toNat).toInt = ((18 : Nat) : Int)) (hQ : ∀ (M2 : e_M) (F2 : e_F), e_QA G B E T M F f ot M2 F2 → Q M2 F2) : w_hears (F 14 (M 70).toInt.toNat) (F 15 (M 70).toInt.toNat) (F 16 (M 70).toInt.toNat) (um M 70 (M 70 + 1)) F Q := by
  have l1 : (1 : Int32).toInt = 1 := by decide
  have l12 : (12 : Int32).toInt = 12 := by decide
  obtain ⟨ho, hk, ⟨k1, k2⟩, k3, k4⟩ := e_CX_op X
  obtain ⟨⟨d1, d2⟩, o3⟩ := e_op_n ho hn
  obtain ⟨⟨q1, q2, q3⟩, q4, q5, q6, ⟨q7, q8⟩, q9, q10⟩ := e_opc_18 o3
  obtain ⟨t1, t2, t3⟩ := e_CX_ot X
  obtain ⟨hC, hR, hS⟩ := X
  obtain ⟨⟨r1, r2, r3, r4⟩, rF, ⟨r5, r6⟩, r7, r8⟩ := (show e_RUN G B E T M F f ot from hR)
  obtain ⟨⟨b0, b1⟩, ⟨b2, b3⟩, ⟨b4, b5⟩, -⟩ := hC.1
  have hO := hS.1
  have hO1 := e_OB_70 hO (M 70 + 1)
  have h69 : (M 69).toInt = (F 15 (M 70).toInt.toNat).toInt := by omega
  refine ⟨fun q => ?_, fun q => hQ _ _ (e_QA_ov hS (e_hc_um (ks := [70, 71]) (rs := []) 1 (by decide) (e_hc_um _ (by decide) (e_hc_rf _ _ M F))) (by decide) (by decide) (by decide) (e_OB_hc (e_hc_um (ks := [71]) (rs := []) 1 (by decide) (e_hc_rf _ _ _ F)) (by decide) (by decide) hO1) rfl)⟩
  have q' : (M 62).toInt ≠ (12 : Int32).toInt := ti_ne (show ¬ M 62 = 12 from q)
  have f12 : f < 12 := by omega
  have hv : vp_in (M 62) 12 := vp_in_iff.mpr (by omega)
  have es := ti_subx (M 69) (F 15 (M 70).toInt.toNat) (by omega)
  have es' : (M 69 - F 15 (M 70).toInt.toNat).toInt = 0 := by omega
  refine ⟨hv, hv, ?_⟩
  show w_begins (F 14 (M 70).toInt.toNat) (um (um M 70 (M 70 + 1)) 69 (M 69 - F 15 (M 70).toInt.toNat)) (uf (uf F 59 (M 62) (M 70 + 1)) 60 (M 62) (F 16 (M 70).toInt.toNat)) (fun M3 F3 => ∃ e56, w_hears_56 Q e56 (F 15 (M 70).toInt.toNat) 0 M3 F3)
  generalize hM2 : um (um M 70 (M 70 + 1)) 69 (M 69 - F 15 (M 70).toInt.toNat) = M2
  generalize hF2 : uf (uf F 59 (M 62) (M 70 + 1)) 60 (M 62) (F 16 (M 70).toInt.toNat) = F2
  have c2 : e_hc [69, 70] [59, 60] M F M2 F2 := by
    rw [← hM2, ← hF2]
    exact e_hc_uf _ _ (by decide) (e_hc_uf _ _ (by decide) (e_hc_um _ (by decide) (e_hc_um _ (by decide) (e_hc_rf _ _ M F))))
  have m69 : (M2 69).toInt = 0 := by rw [← hM2]; exact es'
  have m62 : M2 62 = M 62 := c2.1 62 (by decide)
  have m67 : M2 67 = M 67 := c2.1 67 (by decide)
  have hO2 : e_OB M2 F2 := e_OB_hc c2 (by decide) (by decide) hO
  have i62 : (M 62).toNatClampNeg = f := by rw [e_tc, r1]; omega
  have f59 : ∀ j, j ≠ f → F2 59 j = F 59 j := fun j hj => by rw [← hF2]; exact e_upd_ne (by rw [i62]; exact hj)
  have f60 : ∀ j, j ≠ f → F2 60 j = F 60 j := fun j hj => by rw [← hF2]; exact e_upd_ne (by rw [i62]; exact hj)
  have g59 : F2 59 f = M 70 + 1 := by
    rw [← hF2]
    show upd (F 59) (M 62).toNatClampNeg (M 70 + 1) f = _
    rw [i62]; exact e_upd_eq
  have g60 : F2 60 f = F 16 (M 70).toInt.toNat := by
    rw [← hF2]
    show upd (F 60) (M 62).toNatClampNeg _ f = _
    rw [i62]; exact e_upd_eq
  have r18 : F2 18 = F 18 := c2.2 18 (by decide)
  have r61 : F2 61 = F 61 := c2.2 61 (by decide)
  refine p_begins (M := M2) (h := F 14 (M 70).toInt.toNat) hO2 (by rw [m62]; omega) (by omega) (fun F3 c3 hO3 e61 => ?_)
  rw [r18]
  rw [m62, m67, r61] at e61
  have i62' : (M 62).toInt.toNat = f := by rw [r1]; omega
  rw [i62'] at e61
  generalize hM3 : um (um (um M2 62 (M2 62 + 1)) 82 (M2 82 + 1)) 70 (F 18 (F 14 (M 70).toInt.toNat).toInt.toNat) = M3
  have c3' : e_hc [62, 70, 82] [] M2 F3 M3 F3 := by
    rw [← hM3]
    exact e_hc_um _ (by decide) (e_hc_um _ (by decide) (e_hc_um _ (by decide) (e_hc_rf _ _ M2 F3)))
  have hO3' : e_OB M3 F3 := e_OB_hc c3' (by decide) (by decide) hO3
  have n62 : (M3 62).toInt = (f : Int) + 1 := by
    have : M3 62 = M 62 + 1 := by rw [← hM3]; show M2 62 + 1 = _; rw [m62]
    have e := ti_addx (M 62) 1 (by omega)
    rw [this]; omega
  have n69 : (M3 69).toInt = 0 := by rw [c3'.1 69 (by decide)]; exact m69
  have n67 : M3 67 = M 67 := (c3'.1 67 (by decide)).trans m67
  have n70 : M3 70 = F 18 (F 14 (M 70).toInt.toNat).toInt.toNat := by rw [← hM3]; rfl
  obtain ⟨g1, g2, g3, g4⟩ := hC.2.2.2.2 (F 14 (M 70).toInt.toNat).toInt.toNat (by omega) (by omega)
  have cAll : e_hc [62, 69, 70, 82] [57, 58, 59, 60, 61] M F M3 F3 := e_hc_tr (e_hc_tr (ks2 := [69, 70]) (rs2 := [57, 58, 59, 60, 61]) c2 c3 (by decide) (by decide) (by decide) (by decide)) c3' (by decide) (by decide) (by decide) (by decide)
  have key : ∀ (n : Nat) (a : Int32) (F4 : e_F), (0 ≤ a.toInt ∧ a.toInt ≤ 4) → 4 - a.toInt < n → e_hc [] [57] M3 F3 M3 F4 → w_hears_56 Q n (F 15 (M 70).toInt.toNat) a M3 F4 := by
    intro n
    induction n with
    | zero => intro a F4 h1 h2; exact absurd h2 (by omega)
    | succ n ih =>
      intro a F4 h1 h2 c4
      dsimp only [w_hears_56]
      refine ⟨fun _ => ?_, fun q => ?_⟩
      · have cF : e_hc [62, 69, 70, 82] [57, 58, 59, 60, 61] M F M3 F4 := e_hc_tr cAll c4 (by decide) (by decide) (by decide) (by decide)
        have xr : e_XR M F M3 F4 := e_XR_of cF (by decide) (by decide)
        have hO4 : e_OB M3 F4 := e_OB_hc c4 (by decide) (by decide) hO3'
        have s59 : F4 59 = F2 59 := (c4.2 59 (by decide)).trans (c3.2 59 (by decide))
        have s60 : F4 60 = F2 60 := (c4.2 60 (by decide)).trans (c3.2 60 (by decide))
        have s61 : F4 61 = upd (F 61) f (M 67) := (c4.2 61 (by decide)).trans e61
        have s63 : F4 63 = F 63 := cF.2 63 (by decide)
        have s64 : F4 64 = F 64 := cF.2 64 (by decide)
        have e78 : M3 78 = M 78 := cF.1 78 (by decide)
        have e79 : M3 79 = M 79 := cF.1 79 (by decide)
        have fs : e_FS G B E T F4 (f + 1) ot := by
          refine e_FS_uf r3 t1 t3 (fun j hj => by rw [s59]; exact f59 j hj) (fun j hj => by rw [s60]; exact f60 j hj) (fun j hj => by rw [s61]; exact e_upd_ne hj) s63 s64 ?_ ?_ ?_ ?_ ?_ rF
          · rw [s59, g59]; omega
          · rw [s59, g59, k4]; exact q4
          · rw [s59, g59, k4, q5]; omega
          · rw [s60, g60]; exact ⟨q7, q8⟩
          · rw [s61, e_upd_eq]; exact r2
        have ebf : e_b F4 f = ot := by unfold e_b; rw [s61, e_upd_eq]; exact r2
        refine hQ _ _ ⟨xr, ⟨hO4, by rw [e78, e79]; exact hS.2⟩, fun _ _ => ⟨f + 1, ot, ⟨⟨by rw [n62]; omega, by rw [n67]; exact r2, by omega, by omega⟩, fs, by rw [n70]; exact ⟨g1, g2⟩, by rw [n70]; exact e_m0 n69 g3, ?_⟩, ?_⟩⟩
        · rw [n70, g4]
          show (ot : Int) - e_b F4 (f + 1 - 1) = 0
          rw [Nat.add_sub_cancel, ebf]; omega
        · unfold e_mu
          rw [e78, e79, e_fl_0 (G := G) (M := M3) (by rw [n70, g3]; exact Int.le_refl _), e_ph_cg ot (fun j _ => by rw [s64])]
          have r13 : ¬ F 13 (M 70).toInt.toNat = 0 := fun q => by rw [q, e_z0] at hn; exact absurd hn (by decide)
          refine e_lex (Or.inr ⟨by omega, e_VF_up (fun j hj => by rw [s59]; exact f59 j hj) ⟨r3, f12⟩ ?_ ?_⟩)
          · unfold e_rm
            rw [if_neg r13, s59, g59]; omega
          · have := e_rm_le (F := F4) (E := E) (pc := (M3 70).toInt)
            rw [n70] at this ⊢
            omega
      · have q' := ti_nle q
        have e := ti_addx a 1 (by omega)
        have e1 := ti_addx (M3 69) a (by omega)
        have e2 := e_ix12 (x := M3 62) (a := a) (by omega) (by omega)
        exact ⟨vp_in_iff.mpr (by omega), vp_in_iff.mpr (by omega), ih (a + 1) _ (by omega) (by omega) (e_hc_uf _ _ (by decide) c4)⟩
  exact ⟨5, key 5 0 F3 (by decide) (by decide) (e_hc_rf _ _ M3 F3)⟩
theorem p_doneX {G : e_G} {B N E T V : Int} {M : e_M} {F : e_F} {f ot : Nat} {Q : e_M → e_F → Prop} (X : e_CX G B N E T V M F f ot) (hn : (F 13 (M 70).toInt.toNat).toInt = ((23 : Nat) : Int)) (hQ : ∀ (M2 : e_M) (F2 : e_F), e_QA G B E T M F f ot M2 F2 → Q M2 F2) : w_goesLastly (M 67 - 1) 0 0 (um M 70 (M 70 + 1)) F (fun r60 M61 F61 => ((r60 = 0 → (vp_in (F 14 (M 70).toInt.toNat) 800 ∧ (Q (um (um M61 67 ((M61 67) - 1)) 70 ((F61 22) (F 14 (M 70).toInt.toNat).toNatClampNeg)) F61))) ∧ (¬ r60 = 0 → (Q M61 F61)))) := by
  have l1 : (1 : Int32).toInt = 1 := by decide
  obtain ⟨ho, hk, ⟨k1, k2⟩, k3, k4⟩ := e_CX_op X
  obtain ⟨⟨d1, d2⟩, o3⟩ := e_op_n ho hn
  obtain ⟨q1, ⟨q2, q3⟩, q4⟩ := e_opc_23 o3
  obtain ⟨t1, t2, t3⟩ := e_CX_ot X
  obtain ⟨hC, hR, hS⟩ := X
  obtain ⟨⟨r1, r2, r3, r4⟩, rF, ⟨r5, r6⟩, r7, r8⟩ := (show e_RUN G B E T M F f ot from hR)
  obtain ⟨⟨b0, b1⟩, ⟨b2, b3⟩, ⟨b4, b5⟩, ⟨b6, b7⟩, b8, b9⟩ := hC.1
  have hO := hS.1
  have hO1 := e_OB_70 hO (M 70 + 1)
  have h69z : (M 69).toInt = 0 := by omega
  obtain ⟨⟨z1, z2, z3, z4⟩, -⟩ := hC.2.2.1 (F 14 (M 70).toInt.toNat).toInt.toNat (by omega) (by omega)
  obtain ⟨m, -, ⟨z5, z6⟩, -⟩ := hC.2.1 (F 22 (F 14 (M 70).toInt.toNat).toInt.toNat).toInt.toNat (by omega) (by omega)
  have hb0 := (rF.1.1 (f - 1) (by omega)).1
  obtain ⟨t, rfl⟩ : ∃ t, ot = t + 1 := ⟨ot - 1, by omega⟩
  have e67 := ti_subx (M 67) 1 (by omega)
  have e67' : (M 67 - 1).toInt = (t : Int) := by omega
  have i67 : (M 67 - 1).toNatClampNeg = t := by rw [e_tc, e67']; omega
  obtain ⟨s1, s2, s3⟩ := rF.2.2 (f - 1) t (by omega) (by omega) (fun q => absurd q (by omega)) (by omega)
  have tk := hC.2.2.1 (F 63 t).toInt.toNat (by omega) (by omega)
  have hpt : e_ph F (t + 1) = e_ph F t + e_pt (F 64 t) := rfl
  have p1 := e_pt_1 (F 64 t)
  have c1 : e_hc [70] [] M F (um M 70 (M 70 + 1)) F := e_hc_um _ (by decide) (e_hc_rf _ _ M F)
  refine p_goesLastly e67' (by omega) (by omega) (fun _ => ⟨fun _ => ⟨vp_in_iff.mpr (by omega), ?_⟩, fun q => absurd rfl q⟩) (fun x1 x2 => ⟨fun q => absurd q (by decide), fun _ => ?_⟩)
  · refine hQ _ _ (e_QA_PO hS c1 (by decide) (by decide) (by decide) (by decide) ⟨e_XR_of (e_hc_um (ks := [67, 70]) (rs := []) _ (by decide) (e_hc_um _ (by decide) (e_hc_rf _ _ _ F))) (by decide) (by decide), e_OB_hc (e_hc_um (ks := [67, 70]) (rs := []) _ (by decide) (e_hc_um (M 67 - 1) (by decide) (e_hc_rf _ _ _ F))) (by decide) (by decide) hO1, ⟨rfl, rfl⟩, fun _ _ => ⟨f, t, ⟨⟨r1, e67', r3, r4⟩, e_FS_pt rF, ⟨z1, z2⟩, e_m0 h69z z3, ?_⟩, z3, Or.inl (by omega)⟩⟩)
    show (t : Int) - e_b F (f - 1) = G 1 (F 22 (F 14 (M 70).toInt.toNat).toInt.toNat).toInt.toNat
    omega
  · obtain ⟨g1, g2, g3, g4⟩ := tk.2.1.resolve_left x2
    have f64 : ∀ j, j ≠ t → uf (uf (uf F 64 (M 67 - 1) 2) 65 (M 67 - 1) 0) 66 (M 67 - 1) 0 64 j = F 64 j := fun j hj => e_upd_ne (by rw [i67]; exact hj)
    have f64t : uf (uf (uf F 64 (M 67 - 1) 2) 65 (M 67 - 1) 0) 66 (M 67 - 1) 0 64 t = 2 := by
      show upd (F 64) (M 67 - 1).toNatClampNeg 2 t = 2
      rw [i67]; exact e_upd_eq
    refine hQ _ _ (e_QA_PO hS c1 (by decide) (by decide) (by decide) (by decide) ⟨e_XR_of (e_hc_uf (ks := [70]) (rs := [64, 65, 66]) _ _ (by decide) (e_hc_uf _ _ (by decide) (e_hc_uf _ _ (by decide) (e_hc_um _ (by decide) (e_hc_rf _ _ _ F))))) (by decide) (by decide), e_OB_66 (e_OB_hc (e_hc_uf (ks := [70]) (rs := [64]) (M 67 - 1) 2 (by decide) (e_hc_um _ (by decide) (e_hc_rf _ _ _ F))) (by decide) (by decide) hO1) (fun q => absurd q (by decide)), ⟨rfl, rfl⟩, fun _ _ => ⟨f, t + 1, ⟨⟨r1, r2, r3, r4⟩, e_FS_cg (F := F) rfl rfl rfl rfl (fun j => ?_) rF, ⟨g1, g2⟩, e_m0 h69z g3, ?_⟩, g3, Or.inl ?_⟩⟩)
    · by_cases q : j = t
      · right
        rw [q, f64t]; decide
      · exact Or.inl (f64 j q)
    · show ((t + 1 : Nat) : Int) - e_b F (f - 1) = G 1 (F 21 (F 63 t).toInt.toNat).toInt.toNat
      rw [g4, s2]; omega
    · rw [e_ph_set f64 f64t]
      have := e_pt_2 s3 x1
      have : e_pt 2 = 1 := by decide
      omega
theorem p_lastX {G : e_G} {B N E T V : Int} {M : e_M} {F : e_F} {f ot n : Nat} {Q : e_M → e_F → Prop} (X : e_CX G B N E T V M F f ot) (hn : (F 13 (M 70).toInt.toNat).toInt = (n : Int)) (h24 : 24 ≤ n) (hQ : ∀ (M2 : e_M) (F2 : e_F), e_QA G B E T M F f ot M2 F2 → Q M2 F2) : vp_in (M 67 - 1) 260 ∧ (¬ F 65 (M 67 - 1).toNatClampNeg = 1 → (¬ F 65 (M 67 - 1).toNatClampNeg = 2 → Q (um (um M 70 (M 70 + 1)) 67 (M 67 - 1)) F) ∧ (F 65 (M 67 - 1).toNatClampNeg = 2 → w_rest (F 66 (M 67 - 1).toNatClampNeg) (um (um M 70 (M 70 + 1)) 67 (M 67 - 1)) F Q)) ∧ (F 65 (M 67 - 1).toNatClampNeg = 1 → w_raise (F 66 (M 67 - 1).toNatClampNeg) (um (um M 70 (M 70 + 1)) 67 (M 67 - 1)) F Q) := by
  have l1 : (1 : Int32).toInt = 1 := by decide
  obtain ⟨ho, hk, ⟨k1, k2⟩, k3, k4⟩ := e_CX_op X
  obtain ⟨⟨d1, d2⟩, o3⟩ := e_op_n ho hn
  obtain ⟨q1, q2, q3, q4, q5⟩ := e_opc_24 h24 o3
  obtain ⟨t1, t2, t3⟩ := e_CX_ot X
  obtain ⟨hC, hR, hS⟩ := X
  obtain ⟨⟨r1, r2, r3, r4⟩, rF, ⟨r5, r6⟩, r7, r8⟩ := (show e_RUN G B E T M F f ot from hR)
  have hO := hS.1
  have h69z : (M 69).toInt = 0 := by omega
  have h69 : M 69 = 0 := Int32.toInt_inj.mp (by rw [h69z]; decide)
  have hb0 := (rF.1.1 (f - 1) (by omega)).1
  obtain ⟨t, rfl⟩ : ∃ t, ot = t + 1 := ⟨ot - 1, by omega⟩
  have e67 := ti_subx (M 67) 1 (by omega)
  have e67' : (M 67 - 1).toInt = (t : Int) := by omega
  have i67 : (M 67 - 1).toNatClampNeg = t := by rw [e_tc, e67']; omega
  rw [i67]
  have c1 : e_hc [67, 70] [] M F (um (um M 70 (M 70 + 1)) 67 (M 67 - 1)) F := e_hc_um _ (by decide) (e_hc_um _ (by decide) (e_hc_rf _ _ M F))
  have hO1 : e_OB (um (um M 70 (M 70 + 1)) 67 (M 67 - 1)) F := e_OB_hc c1 (by decide) (by decide) hO
  have hpt : e_ph F (t + 1) = e_ph F t + e_pt (F 64 t) := rfl
  have p1 := e_pt_1 (F 64 t)
  have hup : ∀ (M2 : e_M) (F2 : e_F), e_PO G B E T (um (um M 70 (M 70 + 1)) 67 (M 67 - 1)) F f t M2 F2 → Q M2 F2 := by
    intro M2 F2 p
    obtain ⟨a1, a2, a3, a4⟩ := p
    refine hQ M2 F2 (e_QA_PO hS c1 (by decide) (by decide) (by decide) (by decide) ⟨a1, a2, a3, fun x y => ?_⟩)
    obtain ⟨f', ot', u1, u2, u3⟩ := a4 x y
    refine ⟨f', ot', u1, u2, Or.inl ?_⟩
    rcases u3 with u | ⟨u, -⟩ <;> omega
  refine ⟨vp_in_iff.mpr (by omega), fun _ => ⟨fun _ => ?_, fun _ => ?_⟩, fun w => ?_⟩
  · refine hQ _ _ (e_QA_PO hS c1 (by decide) (by decide) (by decide) (by decide) ⟨e_XR_rf _ F, hO1, ⟨rfl, rfl⟩, fun _ _ => ⟨f, t, ⟨⟨r1, e67', r3, r4⟩, e_FS_pt rF, (show 9000 * B ≤ (M 70 + 1).toInt ∧ (M 70 + 1).toInt < E from by omega), e_m0 h69z (show G 0 (M 70 + 1).toInt.toNat = 0 from by rw [k4]; exact q2), ?_⟩, (show G 0 (M 70 + 1).toInt.toNat = 0 from by rw [k4]; exact q2), Or.inl (by omega)⟩⟩)
    show (t : Int) - e_b F (f - 1) = G 1 (M 70 + 1).toInt.toNat
    rw [k4]; omega
  · exact p_rest hC hO1 h69 r1 e67' ⟨r3, r4⟩ (e_FS_pt rF) (by omega) (by omega) hup
  · have hw := hO.2.2.2.1 t (by omega) w
    exact p_raise hC hO1 hw r1 e67' ⟨r3, r4⟩ (e_FS_pt rF) (by omega) (by omega) hup
