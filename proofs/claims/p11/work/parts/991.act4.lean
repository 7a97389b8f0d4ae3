theorem p_moreX {G : e_G} {B N E T V : Int} {M : e_M} {F : e_F} {f ot : Nat} {Q : e_M → e_F → Prop} (X : e_CX G B N E T V M F f ot) (h12 : 12 ≤ (F 13 (M 70).toInt.toNat).toInt) (h20 : ¬ F 13 (M 70).toInt.toNat = 20) (h21 : ¬ F 13 (M 70).toInt.toNat = 21) (hQ : ∀ (M2 : e_M) (F2 : e_F), e_QA G B E T M F f ot M2 F2 → Q M2 F2) : w_more (M 70) (F 14 (M 70).toInt.toNat) (um M 70 (M 70 + 1)) F Q := by
  obtain ⟨ho, hk, ⟨k1, k2⟩, k3, k4⟩ := e_CX_op X
  have hv : vp_in (M 70) 18000 := vp_in_iff.mpr (by omega)
  have hO := X.2.2.1
  have hO1 := e_OB_70 hO (M 70 + 1)
  have ha := hO.1
  have h62 := e_CX_62 X (e_cs_70 (M 70 + 1))
  have z0 : 0 ≤ (0 : Int32).toInt ∧ (0 : Int32).toInt ≤ (M 54).toInt := by rw [e_z0]; omega
  have hrs : ∀ k g : Int32, (0 ≤ k.toInt ∧ k.toInt ≤ 6) → w_raises k g 0 (um M 70 (M 70 + 1)) F Q := fun k g hk => e_CX_rs X (e_cs_70 _) hO1 hk z0 hQ
  have c22 : F 13 (M 70).toInt.toNat = 22 → vp_in (M 67) 260 ∧ Q (um (um M 70 (M 70 + 1)) 67 (M 67 + 1)) (uf (uf F 63 (M 67) (F 14 (M 70).toInt.toNat)) 64 (M 67) 0) := fun h => p_tryX X (by rw [h]; decide) hQ
  refine ⟨hv, fun h => ?_, fun h => ?_, fun h => ?_, fun h => ?_, fun h => ?_, fun h => ?_, fun h => ?_, fun h => ?_, fun h => absurd h h20, fun h => absurd h h21, fun h => ⟨(c22 h).1, (c22 h).1, (c22 h).2⟩, fun h => ?_, fun n12 n13 n14 n15 n16 n17 n18 n19 n20 n21 n22 n23 => ?_⟩
  · have hn : (F 13 (M 70).toInt.toNat).toInt = ((12 : Nat) : Int) := by rw [show F 13 (M 70).toInt.toNat = 12 from h]; decide
    obtain ⟨-, -, ⟨a1, a2⟩, ⟨b1, b2⟩, -⟩ := e_CX_a X 12 hn (by decide)
    refine ⟨hv, p_obj hO1 h62 ⟨b1, b2⟩ (fun v ev hv3 => ⟨fun q => ⟨hv, p_obj hO1 h62 ⟨b1, b2⟩ (fun v' ev' hv' => ?_)⟩, fun _ => hrs 3 1 (by decide)⟩)⟩
    have e : v' = v := ev'.trans ev.symm
    have q' := ti_ne q
    rw [e_z0] at q'
    have hv3' : 0 ≤ v.toInt ∧ v.toInt ≤ (M 54).toInt := hv3
    rw [e]
    refine ⟨vp_in_iff.mpr (by omega), p_hold_ hO1 h62 ⟨a1, a2⟩ (e_cause hO (by omega)) (fun F' c' o' => hQ _ _ (e_CX_go X 12 hn (by decide) (e_cs_tr (e_cs_70 _) c' (by decide) (by decide)) o' rfl ?_))⟩
    exact (Int.add_zero (M 69).toInt).symm
  · have hn : (F 13 (M 70).toInt.toNat).toInt = ((13 : Nat) : Int) := by rw [show F 13 (M 70).toInt.toNat = 13 from h]; decide
    obtain ⟨⟨l1, l2⟩, -, ⟨a1, a2⟩, ⟨b1, b2⟩, c1⟩ := e_CX_a X 13 hn (by decide)
    have l1' : 2 ≤ (M 69).toInt := l1
    have l2' : (M 69).toInt ≤ 2 := l2
    have b2' : (F 15 (M 70).toInt.toNat).toInt < 7 := b2
    have b1' : 0 ≤ (F 15 (M 70).toInt.toNat).toInt := b1
    have c1' : (F 16 (M 70).toInt.toNat).toInt < 8 := c1
    refine p_pop (show 1 ≤ (M 69).toInt ∧ (M 69).toInt ≤ 64 from by omega) (fun r11 M12 c12 e12 => ?_)
    have e12' : (M12 69).toInt = (M 69).toInt - 1 := e12
    refine p_pop (by omega) (fun r13 M14 c14 e14 => ?_)
    have c : e_cs M F M14 F := e_cs_tr (e_cs_tr (e_cs_70 _) c12 (by decide) (by decide)) c14 (by decide) (by decide)
    have hO4 : e_OB M14 F := e_OB_hc c14 (by decide) (by decide) (e_OB_hc c12 (by decide) (by decide) hO1)
    have e70 : M14 70 = M 70 + 1 := (c14.1 70 (by decide)).trans (c12.1 70 (by decide))
    have e54 : M14 54 = M 54 := (c14.1 54 (by decide)).trans (c12.1 54 (by decide))
    have h62' := e_CX_62 X c
    have h183 : ∀ t0 x : Int32, (0 ≤ t0.toInt ∧ t0.toInt ≤ (M14 54).toInt) → w_more_183 Q (F 14 (M 70).toInt.toNat) (F 15 (M 70).toInt.toNat) r13 r11 (F 17 (M 70).toInt.toNat) t0 x M14 F := by
      intro t0 x ht
      refine p_makes hO4 (by omega) ht (fun r M' F' c' o le hr => ⟨fun q => ?_, fun q => ?_⟩)
      · rcases hr with ⟨r0, h71⟩ | ⟨⟨r1, r2⟩, h71⟩
        · exact hQ M' F' (e_CX_ov X (e_cs_tr c c' (by decide) (by decide)) o h71)
        · have := Int32.le_iff_toInt_le.mp q
          rw [e_z0] at this
          exact absurd this (by omega)
      · have q' := ti_nle q
        rw [e_z0] at q'
        rcases hr with ⟨r0, h71⟩ | ⟨⟨r1, r2⟩, h71⟩
        · rw [r0, e_z0] at q'
          exact absurd q' (by omega)
        · have cc := e_cs_tr c c' (by decide) (by decide)
          have e69 : M' 69 = M14 69 := c'.1 69 (by decide)
          refine p_hold_ o (e_CX_62 X cc) ⟨a1, a2⟩ ⟨by omega, r2⟩ (fun F2 c2 o2 => hQ _ _ (e_CX_go X 13 hn (by decide) (e_cs_tr cc c2 (by decide) (by decide)) o2 ((c'.1 70 (by decide)).trans e70) ?_))
          rw [e69]
          show (M14 69).toInt = (M 69).toInt + -2
          omega
    have h148 : ∀ t0 : Int32, (0 ≤ t0.toInt ∧ t0.toInt ≤ (M14 54).toInt) → w_more_148 Q (M 70) (F 14 (M 70).toInt.toNat) r11 r13 t0 M14 F := fun t0 ht => ⟨hv, hv, hv, fun _ => h183 t0 0 ht, fun _ => h183 t0 1 ht⟩
    refine ⟨hv, fun _ => h148 0 (by rw [e54]; exact z0), fun q => ⟨hv, p_obj hO4 h62' ⟨?_, c1'⟩ (fun v _ hv3 => h148 v hv3)⟩⟩
    have := ti_nlt q
    rw [e_z0] at this
    exact this
  · have hn : (F 13 (M 70).toInt.toNat).toInt = ((14 : Nat) : Int) := by rw [show F 13 (M 70).toInt.toNat = 14 from h]; decide
    obtain ⟨-, -, ⟨a1, a2⟩, -⟩ := e_CX_a X 14 hn (by decide)
    refine p_obj hO1 h62 ⟨a1, a2⟩ (fun v ev hv3 => ⟨fun q => p_obj hO1 h62 ⟨a1, a2⟩ (fun v' ev' hv' => ?_), fun _ => hrs 3 1 (by decide)⟩)
    have e : v' = v := ev'.trans ev.symm
    have q' := ti_ne q
    rw [e_z0] at q'
    have hv3' : 0 ≤ v.toInt ∧ v.toInt ≤ (M 54).toInt := hv3
    rw [e]
    exact e_CX_r X (e_cs_70 _) hO1 (show 1 ≤ v.toInt ∧ v.toInt ≤ (M 54).toInt from by omega) hQ
  · have hn : (F 13 (M 70).toInt.toNat).toInt = ((15 : Nat) : Int) := by rw [show F 13 (M 70).toInt.toNat = 15 from h]; decide
    obtain ⟨-, -, ⟨a1, a2⟩, ⟨b1, b2⟩, -⟩ := e_CX_a X 15 hn (by decide)
    have b1' : -1 ≤ (F 15 (M 70).toInt.toNat).toInt := b1
    have b2' : (F 15 (M 70).toInt.toNat).toInt < 8 := b2
    refine p_obj hO1 h62 ⟨a1, a2⟩ (fun v ev hv3 => ⟨hv, fun q => ⟨hv, p_obj hO1 h62 ⟨?_, b2'⟩ (fun v' ev' hv' => p_joinsX X hn hQ v v' hv3 hv')⟩, fun _ => p_joinsX X hn hQ v 0 hv3 z0⟩)
    have q' : (F 15 (M 70).toInt.toNat).toInt ≠ -1 := ti_ne (show ¬ F 15 (M 70).toInt.toNat = -1 from q)
    show 0 ≤ (F 15 (M 70).toInt.toNat).toInt
    omega
  · have hn : (F 13 (M 70).toInt.toNat).toInt = ((16 : Nat) : Int) := by rw [show F 13 (M 70).toInt.toNat = 16 from h]; decide
    obtain ⟨⟨l1, l2⟩, -⟩ := e_CX_a X 16 hn (by decide)
    have l1' : 1 ≤ (M 69).toInt := l1
    have l2' : (M 69).toInt ≤ 1 := l2
    exact p_pop (show 1 ≤ (M 69).toInt ∧ (M 69).toInt ≤ 64 from by omega) (fun r M2 c2 e2 => p_notesX X 16 hn (by decide) (e_cs_tr (e_cs_70 _) c2 (by decide) (by decide)) (e_OB_hc c2 (by decide) (by decide) hO1) (c2.1 70 (by decide)) e2 hQ r)
  · have hn : (F 13 (M 70).toInt.toNat).toInt = ((17 : Nat) : Int) := by rw [show F 13 (M 70).toInt.toNat = 17 from h]; decide
    obtain ⟨-, -, ⟨a1, a2⟩, -⟩ := e_CX_a X 17 hn (by decide)
    exact p_obj hO1 h62 ⟨a1, a2⟩ (fun v ev hv3 => p_notesX X 17 hn (by decide) (e_cs_70 _) hO1 rfl (Int.add_zero (M 69).toInt).symm hQ v)
  · have hn : (F 13 (M 70).toInt.toNat).toInt = ((18 : Nat) : Int) := by rw [show F 13 (M 70).toInt.toNat = 18 from h]; decide
    exact ⟨hv, hv, p_hearsX X hn hQ⟩
  · have hn : (F 13 (M 70).toInt.toNat).toInt = ((19 : Nat) : Int) := by rw [show F 13 (M 70).toInt.toNat = 19 from h]; decide
    have q1 := e_opc_19 (e_op_n ho hn).2
    have r7 := X.2.1.2.2.2.1
    have h69 : (M 69).toInt = 1 := by omega
    refine p_pop (show 1 ≤ (M 69).toInt ∧ (M 69).toInt ≤ 64 from by omega) (fun r M2 c2 e2 => ?_)
    have e2' : (M2 69).toInt = (M 69).toInt - 1 := e2
    have c : e_cs M F M2 F := e_cs_tr (e_cs_70 _) c2 (by decide) (by decide)
    obtain ⟨s, ⟨g62, g67⟩, fs, hb⟩ := e_CX_fs X c
    obtain ⟨-, -, a3, a4⟩ := X.2.1.1
    exact p_rest s (e_OB_hc c2 (by decide) (by decide) hO1) (Int32.toInt_inj.mp (by rw [e2', h69]; decide)) g62 g67 ⟨a3, a4⟩ fs hb (e_CX_ot X).2.1 (fun M3 F3 p => hQ M3 F3 (e_QA_PO X.2.2 c (by decide) (by decide) (by decide) (by decide) p))
  · have hn : (F 13 (M 70).toInt.toNat).toInt = ((23 : Nat) : Int) := by rw [show F 13 (M 70).toInt.toNat = 23 from h]; decide
    exact p_doneX X hn hQ
  · obtain ⟨m, hm, -⟩ := ho
    have g12 : (F 13 (M 70).toInt.toNat).toInt ≠ 12 := ti_ne n12
    have g13 : (F 13 (M 70).toInt.toNat).toInt ≠ 13 := ti_ne n13
    have g14 : (F 13 (M 70).toInt.toNat).toInt ≠ 14 := ti_ne n14
    have g15 : (F 13 (M 70).toInt.toNat).toInt ≠ 15 := ti_ne n15
    have g16 : (F 13 (M 70).toInt.toNat).toInt ≠ 16 := ti_ne n16
    have g17 : (F 13 (M 70).toInt.toNat).toInt ≠ 17 := ti_ne n17
    have g18 : (F 13 (M 70).toInt.toNat).toInt ≠ 18 := ti_ne n18
    have g19 : (F 13 (M 70).toInt.toNat).toInt ≠ 19 := ti_ne n19
    have g20 : (F 13 (M 70).toInt.toNat).toInt ≠ 20 := ti_ne n20
    have g21 : (F 13 (M 70).toInt.toNat).toInt ≠ 21 := ti_ne n21
    have g22 : (F 13 (M 70).toInt.toNat).toInt ≠ 22 := ti_ne n22
    have g23 : (F 13 (M 70).toInt.toNat).toInt ≠ 23 := ti_ne n23
    obtain ⟨p1, p2, p3⟩ := p_lastX X hm (by omega) hQ
    exact ⟨p1, p1, p2, p3⟩
