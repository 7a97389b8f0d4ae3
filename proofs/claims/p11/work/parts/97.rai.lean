/-! RAISING AND RESTING. -/
theorem p_goesLastly {t p v : Int32} {M : e_M} {F : e_F} {Q : Int32 → e_M → e_F → Prop} {tt : Nat} (ht : t.toInt = tt) (h260 : tt < 260) (h63 : 0 ≤ (F 63 tt).toInt ∧ (F 63 tt).toInt < 800) (h0 : F 64 tt = 2 ∨ F 21 (F 63 tt).toInt.toNat = -1 → Q 0 M F) (h1 : F 64 tt ≠ 2 → F 21 (F 63 tt).toInt.toNat ≠ -1 → Q 1 (um M 70 (F 21 (F 63 tt).toInt.toNat)) (uf (uf (uf F 64 t 2) 65 t p) 66 t v)) : w_goesLastly t p v M F Q := by
  have e : t.toNatClampNeg = tt := by rw [e_tc, ht]; omega
  have hv : vp_in t 260 := vp_in_iff.mpr (by omega)
  have hv2 : vp_in (F 63 tt) 800 := vp_in_iff.mpr (by omega)
  unfold w_goesLastly
  rw [e]
  refine ⟨hv, fun q => h0 (Or.inl q), fun q => ⟨hv, hv2, fun v4 e4 => ⟨fun q4 => ⟨hv, hv, hv, hv, hv2, fun v10 e10 => ?_⟩, fun q4 => h0 (Or.inr (e4.symm.trans q4))⟩⟩⟩
  rw [e10]
  exact h1 q (fun h => q4 (e4.trans h))
theorem e_ix8 {x a : Int32} (hx : 1 ≤ x.toInt ∧ x.toInt ≤ 12) (ha : 0 ≤ a.toInt ∧ a.toInt < 8) : (8 * (x - 1) + a).toInt = 8 * (x.toInt - 1) + a.toInt := by
  have l1 : (1 : Int32).toInt = 1 := by decide
  have e1 := ti_subx x 1 (by omega)
  obtain ⟨k, h1, h2, h3⟩ := ti_mulc2 8 (x - 1) 8 (by decide)
  have e2 : (8 * (x - 1)).toInt = 8 * (x.toInt - 1) := by omega
  have e3 := ti_addx (8 * (x - 1)) a (by omega)
  omega
theorem e_ix12 {x a : Int32} (hx : 1 ≤ x.toInt ∧ x.toInt ≤ 12) (ha : 0 ≤ a.toInt ∧ a.toInt < 12) : (12 * (x - 1) + a).toInt = 12 * (x.toInt - 1) + a.toInt := by
  have l1 : (1 : Int32).toInt = 1 := by decide
  have e1 := ti_subx x 1 (by omega)
  obtain ⟨k, h1, h2, h3⟩ := ti_mulc2 12 (x - 1) 12 (by decide)
  have e2 : (12 * (x - 1)).toInt = 12 * (x.toInt - 1) := by omega
  have e3 := ti_addx (12 * (x - 1)) a (by omega)
  omega
theorem p_raise_5 {G : e_G} {B N E T V : Int} {a1 : Int32} {F : e_F} {Q : e_M → e_F → Prop} (hC : e_SC G B N E T V F) {M0 : e_M} {P : Nat} (hQ : ∀ (M' : e_M) (F' : e_F), e_hc [62, 67, 69, 70, 72, 73] [58, 64, 65, 66] M0 F M' F' → e_OB M' F' → (M' 72 = 0 → ∃ f' ot' : Nat, e_RUN G B E T M' F' f' ot' ∧ G 0 (M' 70).toInt.toNat = 0 ∧ e_ph F' ot' < P) → Q M' F') : ∀ (n f ot : Nat) (M : e_M), e_hc [62, 67, 69, 70, 72, 73] [58, 64, 65, 66] M0 F M F → e_OB M F → (1 ≤ a1.toInt ∧ a1.toInt ≤ (M 54).toInt) → (M 62).toInt = f → (M 67).toInt = ot → M 69 = 0 → (1 ≤ f ∧ f ≤ 12) → e_FS G B E T F f ot → e_b F (f - 1) ≤ ot → ot ≤ 240 → e_ph F ot ≤ P → f + ot < n → w_raise_5 Q n a1 M F := by
  have l1 : (1 : Int32).toInt = 1 := by decide
  intro n
  induction n with
  | zero => intro f ot M _ _ _ _ _ _ _ _ _ _ _ h; exact absurd h (by omega)
  | succ n ih =>
    intro f ot M c hO ho h62 h67 h69 hf hS hb h240 hP hn
    obtain ⟨⟨⟨b0, b1⟩, ⟨b2, b3⟩, ⟨b4, b5⟩, ⟨b6, b7⟩, b8, b9⟩, hC2⟩ := (show e_SC G B N E T V F from hC)
    have h69z : (M 69).toInt = 0 := by rw [h69]; decide
    have e62 := ti_subx (M 62) 1 (by omega)
    rw [l1, h62] at e62
    have i62 : (M 62 - 1).toNatClampNeg = f - 1 := by rw [e_tc, e62]; omega
    dsimp only [w_raise_5]
    rw [i62]
    refine ⟨vp_in_iff.mpr (by omega), fun hne => ?_, fun heq => ⟨fun q => ?_, fun q => ?_⟩⟩
    · have hne' : e_b F (f - 1) < ot := by
        have := ti_ne hne
        unfold e_b at *
        omega
      have hb0 := (hS.1.1 (f - 1) (by omega)).1
      obtain ⟨t, rfl⟩ : ∃ t, ot = t + 1 := ⟨ot - 1, by omega⟩
      have e67 := ti_subx (M 67) 1 (by omega)
      rw [l1, h67] at e67
      have e67' : (M 67 - 1).toInt = (t : Int) := by omega
      have i67 : (M 67 - 1).toNatClampNeg = t := by rw [e_tc, e67']; omega
      rw [i67]
      obtain ⟨s1, s2, s3⟩ := hS.2.2 (f - 1) t (by omega) (by omega) (fun q => absurd q (by omega)) (by omega)
      have hv : vp_in (M 67 - 1) 260 := vp_in_iff.mpr (by omega)
      have tk := hC.2.2.1 (F 63 t).toInt.toNat (by omega) (by omega)
      have hpt : e_ph F (t + 1) = e_ph F t + e_pt (F 64 t) := rfl
      have p1 := e_pt_1 (F 64 t)
      have h170 : w_raise_170 (w_raise_5 Q n) Q a1 (M 67 - 1) M F := by
        refine p_goesLastly e67' (by omega) (by omega) (fun _ => ⟨fun _ => ?_, fun q => absurd rfl q⟩) (fun q1 q2 => ⟨fun q => absurd q (by decide), fun _ => ?_⟩)
        · exact ih f t (um M 67 (M 67 - 1)) (e_hc_um _ (by decide) c) (e_OB_hc (e_hc_um (ks := [67]) (rs := []) (M 67 - 1) (by decide) (e_hc_rf _ _ M F)) (by decide) (by decide) hO) ho h62 e67' h69 hf (e_FS_pt hS) (by omega) (by omega) (by omega) (by omega)
        · obtain ⟨g1, g2, g3, g4⟩ := tk.2.1.resolve_left q2
          have f64 : ∀ j, j ≠ t → uf (uf (uf F 64 (M 67 - 1) 2) 65 (M 67 - 1) 1) 66 (M 67 - 1) a1 64 j = F 64 j := fun j hj => e_upd_ne (by rw [i67]; exact hj)
          have f64t : uf (uf (uf F 64 (M 67 - 1) 2) 65 (M 67 - 1) 1) 66 (M 67 - 1) a1 64 t = 2 := by
            show upd (F 64) (M 67 - 1).toNatClampNeg 2 t = 2
            rw [i67]; exact e_upd_eq
          refine hQ _ _ (e_hc_uf _ _ (by decide) (e_hc_uf _ _ (by decide) (e_hc_uf _ _ (by decide) (e_hc_um _ (by decide) c)))) (e_OB_66 (e_OB_hc (e_hc_uf (ks := [70]) (rs := [64]) (M 67 - 1) 2 (by decide) (e_hc_um (F 21 (F 63 t).toInt.toNat) (by decide) (e_hc_rf _ _ M F))) (by decide) (by decide) hO) (fun _ => ho)) (fun _ => ⟨f, t + 1, ⟨⟨h62, h67, hf.1, hf.2⟩, e_FS_cg (F := F) rfl rfl rfl rfl (fun j => ?_) hS, ⟨g1, g2⟩, e_m0 h69z g3, ?_⟩, g3, ?_⟩)
          · by_cases q : j = t
            · right
              rw [q, f64t]; decide
            · exact Or.inl (f64 j q)
          · show ((t + 1 : Nat) : Int) - e_b F (f - 1) = _
            have g4' : G 1 (F 21 (F 63 t).toInt.toNat).toInt.toNat = _ := g4
            rw [s2] at g4'
            show _ = G 1 (F 21 (F 63 t).toInt.toNat).toInt.toNat
            omega
          · rw [e_ph_set f64 f64t]
            have := e_pt_2 s3 q1
            have : e_pt 2 = 1 := by decide
            omega
      refine ⟨hv, fun _ => h170, fun h64 => ⟨hv, vp_in_iff.mpr (by omega), fun v7 e7 => ?_⟩⟩
      have hv1 : vp_in a1 8001 := vp_in_iff.mpr (by have := hO.1; omega)
      have hk6 := (hO.2.1 a1.toInt.toNat (by omega) (by omega)).1
      have key : ∀ (m : Nat) (u : Int32), (u = -1 ∨ ((400 * B ≤ u.toInt ∧ u.toInt < 400 * B + V) ∧ G 3 u.toInt.toNat = (((F 63 t).toInt.toNat : Nat) : Int))) → (u ≠ -1 → 400 * B + V - u.toInt < m) → 1 ≤ m → w_raise_82 (w_raise_5 Q n) Q m a1 (M 67 - 1) u M F := by
        intro m
        induction m with
        | zero => intro u _ _ h; exact absurd h (by omega)
        | succ m ihm =>
          intro u hu hm _
          dsimp only [w_raise_82]
          refine ⟨fun q => ⟨fun _ => h170, fun q2 => absurd q q2⟩, fun q => ?_⟩
          obtain ⟨u1, u2⟩ := hu.resolve_left q
          have hvu : vp_in u 800 := vp_in_iff.mpr (by omega)
          obtain ⟨o1, o2, o3, o4⟩ := hC.2.2.2.1 u.toInt.toNat (by omega) (by omega)
          rw [u2, Int.toNat_natCast] at o3
          obtain ⟨g1, g2, g3, g4⟩ := o3
          have hm' := hm q
          have hgo : ∀ F' : e_F, e_hc [62, 67, 69, 70, 72, 73] [58, 64, 65, 66] M F M F' → e_OB M F' → (∀ j, j ≠ t → F' 64 j = F 64 j) → F' 64 t = 1 → w_raise_159 Q u M F' := by
            intro F' c' hO' f64 f64t
            have r25 : F' 25 = F 25 := c'.2 25 (by decide)
            have r59 : F' 59 = F 59 := c'.2 59 (by decide)
            have r60 : F' 60 = F 60 := c'.2 60 (by decide)
            have r61 : F' 61 = F 61 := c'.2 61 (by decide)
            have r63 : F' 63 = F 63 := c'.2 63 (by decide)
            refine ⟨hvu, hQ _ _ (e_hc_um _ (by decide) (e_hc_tr c c' (by decide) (by decide) (by decide) (by decide))) (e_OB_hc (e_hc_um (ks := [70]) (rs := []) (F' 25 u.toNatClampNeg) (by decide) (e_hc_rf _ _ M F')) (by decide) (by decide) hO') (fun _ => ⟨f, t + 1, ⟨⟨h62, h67, hf.1, hf.2⟩, e_FS_cg r59 r60 r61 r63 (fun j => ?_) hS, ?_, e_m0 h69z (show G 0 (F' 25 u.toInt.toNat).toInt.toNat = 0 from by rw [r25]; exact g3), ?_⟩, ?_, ?_⟩)⟩
            · by_cases q : j = t
              · right
                rw [q, f64t]; decide
              · exact Or.inl (f64 j q)
            · show 9000 * B ≤ (F' 25 u.toInt.toNat).toInt ∧ (F' 25 u.toInt.toNat).toInt < E
              rw [r25]; exact ⟨g1, g2⟩
            · show ((t + 1 : Nat) : Int) - e_b F' (f - 1) = G 1 (F' 25 u.toInt.toNat).toInt.toNat
              have eb : e_b F' (f - 1) = e_b F (f - 1) := by unfold e_b; rw [r61]
              rw [eb, r25, g4, s2]; omega
            · show G 0 (F' 25 u.toInt.toNat).toInt.toNat = 0
              rw [r25]; exact g3
            · rw [e_ph_set f64 f64t]
              have z : e_pt 1 = 2 := by decide
              have z0 : e_pt (F 64 t) = 3 := by rw [h64]; decide
              omega
          have h115 : w_raise_115 (w_raise_5 Q n) Q a1 (M 67 - 1) u M F := by
            refine ⟨fun q' => absurd q' q, fun _ => ⟨hv, hvu, fun q24 => ?_, fun q24 => ⟨hvu, fun v12 e12 => ?_⟩⟩⟩
            · refine hgo _ (e_hc_uf _ _ (by decide) (e_hc_rf _ _ M F)) (e_OB_hc (e_hc_uf (ks := []) (rs := [64]) (M 67 - 1) 1 (by decide) (e_hc_rf _ _ M F)) (by decide) (by decide) hO) (fun j hj => e_upd_ne (by rw [i67]; exact hj)) ?_
              show upd (F 64) (M 67 - 1).toNatClampNeg 1 t = 1
              rw [i67]; exact e_upd_eq
            · have o1' : -1 ≤ (F 24 u.toNatClampNeg).toInt ∧ (F 24 u.toNatClampNeg).toInt < 8 := o1
              have q24' : (F 24 u.toNatClampNeg).toInt ≠ -1 := ti_ne q24
              have e := e_ix8 (x := M 62) (a := F 24 u.toNatClampNeg) (by omega) (by omega)
              refine ⟨vp_in_iff.mpr (by rw [e12]; omega), hgo _ (e_hc_uf _ _ (by decide) (e_hc_uf _ _ (by decide) (e_hc_rf _ _ M F))) (e_OB_58 (e_OB_hc (e_hc_uf (ks := []) (rs := [64]) (M 67 - 1) 1 (by decide) (e_hc_rf _ _ M F)) (by decide) (by decide) hO) (by omega)) (fun j hj => e_upd_ne (by rw [i67]; exact hj)) ?_⟩
              show upd (F 64) (M 67 - 1).toNatClampNeg 1 t = 1
              rw [i67]; exact e_upd_eq
          refine ⟨hv1, hvu, p_isKind (show -1 ≤ (F 48 a1.toInt.toNat).toInt ∧ (F 48 a1.toInt.toNat).toInt ≤ 6 from by omega) (fun r => ⟨fun _ => h115, fun _ => ⟨hvu, ?_⟩⟩)⟩
          have o4' : F 26 u.toNatClampNeg = -1 ∨ (((u.toInt.toNat : Int) < (F 26 u.toNatClampNeg).toInt ∧ (F 26 u.toNatClampNeg).toInt < 400 * B + V) ∧ G 3 (F 26 u.toNatClampNeg).toInt.toNat = G 3 u.toInt.toNat) := o4
          refine ihm (F 26 u.toNatClampNeg) ?_ (fun q' => ?_) (by omega)
          · rcases o4' with q' | ⟨q1, q2⟩
            · exact Or.inl q'
            · exact Or.inr ⟨by omega, q2.trans u2⟩
          · have := (o4'.resolve_left q').1
            omega
      have t20 : F 20 (F 63 t).toInt.toNat = -1 ∨ ((400 * B ≤ (F 20 (F 63 t).toInt.toNat).toInt ∧ (F 20 (F 63 t).toInt.toNat).toInt < 400 * B + V) ∧ G 3 (F 20 (F 63 t).toInt.toNat).toInt.toNat = (((F 63 t).toInt.toNat : Nat) : Int)) := tk.2.2
      have e7' : v7 = F 20 (F 63 t).toInt.toNat := e7
      rw [← e7'] at t20
      exact ⟨1000, key 1000 v7 t20 (fun q => by have := (t20.resolve_left q).1; omega) (by decide)⟩
    · have ch1 : e_hc [62, 67, 69, 70, 72, 73] [58, 64, 65, 66] M0 F (um (um (um M 62 (M 62 - 1)) 73 a1) 72 1) F := e_hc_um _ (by decide) (e_hc_um _ (by decide) (e_hc_um _ (by decide) c))
      have o1 : e_OB (um M 62 (M 62 - 1)) F := e_OB_hc (e_hc_um (ks := [62]) (rs := []) (M 62 - 1) (by decide) (e_hc_rf _ _ M F)) (by decide) (by decide) hO
      have o2 : e_OB (um (um M 62 (M 62 - 1)) 73 a1) F := e_OB_73 o1 (show 0 ≤ a1.toInt ∧ a1.toInt ≤ (M 54).toInt from by omega)
      exact hQ _ _ ch1 (e_OB_hc (e_hc_um (ks := [72]) (rs := []) 1 (by decide) (e_hc_rf _ _ _ F)) (by decide) (by decide) o2) (fun q => absurd (show (1 : Int32) = 0 from q) (by decide))
    · have q' := ti_nle q
      rw [e_z0, e62] at q'
      have hot : (ot : Int) = e_b F (f - 1) := by
        unfold e_b
        rw [← heq, h67]
      have hmono := hS.1.2 (f - 1 - 1) (f - 1) (by omega) (by omega)
      exact ih (f - 1) ot (um M 62 (M 62 - 1)) (e_hc_um _ (by decide) c) (e_OB_hc (e_hc_um (ks := [62]) (rs := []) (M 62 - 1) (by decide) (e_hc_rf _ _ M F)) (by decide) (by decide) hO) ho (show (M 62 - 1).toInt = ((f - 1 : Nat) : Int) from by omega) h67 h69 (by omega) (e_FS_pf hf.1 hot hS) (by omega) h240 hP (by omega)
theorem p_raise {G : e_G} {B N E T V : Int} {a1 : Int32} {M : e_M} {F : e_F} {Q : e_M → e_F → Prop} {f ot : Nat} (hC : e_SC G B N E T V F) (hO : e_OB M F) (ho : 1 ≤ a1.toInt ∧ a1.toInt ≤ (M 54).toInt) (h62 : (M 62).toInt = f) (h67 : (M 67).toInt = ot) (hf : 1 ≤ f ∧ f ≤ 12) (hS : e_FS G B E T F f ot) (hb : e_b F (f - 1) ≤ ot) (h240 : ot ≤ 240) (hQ : ∀ (M' : e_M) (F' : e_F), e_PO G B E T M F f ot M' F' → Q M' F') : w_raise a1 M F Q := by
  refine ⟨f + ot + 1, p_raise_5 hC (M0 := M) (P := e_ph F ot) (fun M' F' c o h => hQ M' F' ⟨e_XR_of c (by decide) (by decide), o, ⟨c.1 78 (by decide), c.1 79 (by decide)⟩, fun q _ => ?_⟩) (f + ot + 1) f ot (um M 69 0) (e_hc_um _ (by decide) (e_hc_rf _ _ M F)) (e_OB_hc (e_hc_um (ks := [69]) (rs := []) 0 (by decide) (e_hc_rf _ _ M F)) (by decide) (by decide) hO) ho h62 h67 rfl hf hS hb h240 (Nat.le_refl _) (by omega)⟩
  obtain ⟨f', ot', r, g, p⟩ := h q
  exact ⟨f', ot', r, g, Or.inl p⟩
theorem p_raises {G : e_G} {B N E T V : Int} {k g cs : Int32} {M : e_M} {F : e_F} {Q : e_M → e_F → Prop} {f ot : Nat} (hC : e_SC G B N E T V F) (hO : e_OB M F) (hk : 0 ≤ k.toInt ∧ k.toInt ≤ 6) (hc : 0 ≤ cs.toInt ∧ cs.toInt ≤ (M 54).toInt) (h62 : (M 62).toInt = f) (h67 : (M 67).toInt = ot) (hf : 1 ≤ f ∧ f ≤ 12) (hS : e_FS G B E T F f ot) (hb : e_b F (f - 1) ≤ ot) (h240 : ot ≤ 240) (hQ : ∀ (M' : e_M) (F' : e_F), e_PO G B E T M F f ot M' F' → Q M' F') : w_raises k g cs M F Q := by
  have h15 : ∀ x : Int32, w_raises_15 Q k g 0 (-1) cs x M F := by
    intro x
    refine p_makes hO hk hc (fun r M' F' c o le hr => ⟨fun q => ?_, fun q => ?_⟩)
    · rcases hr with ⟨r0, h71⟩ | ⟨⟨r1, r2⟩, h71⟩
      · exact hQ M' F' ⟨e_XR_of c (by decide) (by decide), o, ⟨c.1 78 (by decide), c.1 79 (by decide)⟩, fun _ q => absurd (h71.symm.trans q) (by decide)⟩
      · have := Int32.le_iff_toInt_le.mp q
        rw [e_z0] at this
        exact absurd this (by omega)
    · have q' := ti_nle q
      rw [e_z0] at q'
      rcases hr with ⟨r0, h71⟩ | ⟨⟨r1, r2⟩, h71⟩
      · rw [r0, e_z0] at q'
        exact absurd q' (by omega)
      · have r59 := c.2 59 (by decide)
        have r60 := c.2 60 (by decide)
        have r61 := c.2 61 (by decide)
        have r63 := c.2 63 (by decide)
        have r64 := c.2 64 (by decide)
        refine p_raise (f := f) (ot := ot) (e_SC_xr (e_XR_of c (by decide) (by decide)) hC) o ⟨r1, r2⟩ (by rw [c.1 62 (by decide)]; exact h62) (by rw [c.1 67 (by decide)]; exact h67) hf (e_FS_cg r59 r60 r61 r63 (fun j => Or.inl (by rw [r64])) hS) (by unfold e_b at *; rw [r61]; exact hb) h240 (fun M2 F2 p => hQ M2 F2 (e_PO_pre c (by decide) (by decide) (by decide) (by decide) p))
  exact ⟨fun _ => h15 0, fun _ => h15 1⟩
theorem p_rest_0 {G : e_G} {B N E T V : Int} {a1 : Int32} {F : e_F} {Q : e_M → e_F → Prop} (hC : e_SC G B N E T V F) {M0 : e_M} {P f : Nat} (hQ : ∀ (M' : e_M) (F' : e_F), e_hc [62, 67, 70, 72, 74] [57, 64, 65, 66] M0 F M' F' → e_OB M' F' → (M' 72 = 0 → ∃ f' ot' : Nat, e_RUN G B E T M' F' f' ot' ∧ G 0 (M' 70).toInt.toNat = 0 ∧ (e_ph F' ot' < P ∨ (e_ph F' ot' ≤ P ∧ ∀ x, e_VF F' E f' (e_rm F' E (M' 70).toInt) < e_VF F E f x))) → Q M' F') : ∀ (n ot : Nat) (M : e_M), e_hc [62, 67, 70, 72, 74] [57, 64, 65, 66] M0 F M F → e_OB M F → (M 62).toInt = f → (M 67).toInt = ot → M 69 = 0 → (1 ≤ f ∧ f ≤ 12) → e_FS G B E T F f ot → e_b F (f - 1) ≤ ot → ot ≤ 240 → e_ph F ot ≤ P → ot < n → w_rest_0 Q n a1 M F := by
  have l1 : (1 : Int32).toInt = 1 := by decide
  intro n
  induction n with
  | zero => intro ot M _ _ _ _ _ _ _ _ _ _ h; exact absurd h (by omega)
  | succ n ih =>
    intro ot M c hO h62 h67 h69 hf hS hb h240 hP hn
    obtain ⟨⟨⟨b0, b1⟩, ⟨b2, b3⟩, ⟨b4, b5⟩, ⟨b6, b7⟩, b8, b9⟩, hC2⟩ := (show e_SC G B N E T V F from hC)
    have h69z : (M 69).toInt = 0 := by rw [h69]; decide
    have e62 := ti_subx (M 62) 1 (by omega)
    rw [l1, h62] at e62
    have i62 : (M 62 - 1).toNatClampNeg = f - 1 := by rw [e_tc, e62]; omega
    have hv62 : vp_in (M 62 - 1) 12 := vp_in_iff.mpr (by omega)
    dsimp only [w_rest_0]
    rw [i62]
    refine ⟨hv62, fun hle => ⟨fun hne => ?_, fun heq => ?_⟩, fun hgt => ?_⟩
    · have hle' := Int32.le_iff_toInt_le.mp hle
      have hne' := ti_ne hne
      rw [e62, e_z0] at hne'
      have hot : (ot : Int) = e_b F (f - 1) := by unfold e_b at *; omega
      obtain ⟨s1, s2, s3, s4⟩ := hS.2.1 (f - 1) (by omega) (by omega)
      have hrun : ∀ F' : e_F, e_hc [] [57] M F M F' → e_OB M F' → Q (um (um M 62 (M 62 - 1)) 70 (F 59 (f - 1))) F' := by
        intro F' c' hO'
        have r13 : F' 13 = F 13 := c'.2 13 (by decide)
        have r59 : F' 59 = F 59 := c'.2 59 (by decide)
        have r60 : F' 60 = F 60 := c'.2 60 (by decide)
        have r61 : F' 61 = F 61 := c'.2 61 (by decide)
        have r63 : F' 63 = F 63 := c'.2 63 (by decide)
        have r64 : F' 64 = F 64 := c'.2 64 (by decide)
        have eb : ∀ i, e_b F' i = e_b F i := fun i => by unfold e_b; rw [r61]
        refine hQ _ _ (e_hc_um _ (by decide) (e_hc_um _ (by decide) (e_hc_tr c c' (by decide) (by decide) (by decide) (by decide)))) (e_OB_hc (e_hc_um (ks := [62, 70]) (rs := []) (F 59 (f - 1)) (by decide) (e_hc_um (M 62 - 1) (by decide) (e_hc_rf _ _ M F'))) (by decide) (by decide) hO') (fun _ => ⟨f - 1, ot, ⟨⟨(show (M 62 - 1).toInt = ((f - 1 : Nat) : Int) from by omega), h67, by omega, by omega⟩, e_FS_pf hf.1 (by rw [eb]; exact hot) (e_FS_cg r59 r60 r61 r63 (fun j => Or.inl (by rw [r64])) hS), s1, e_m0 h69z s2, ?_⟩, s2, Or.inr ⟨?_, fun x => ?_⟩⟩)
        · rw [eb]
          show (ot : Int) - e_b F (f - 1 - 1) = G 1 (F 59 (f - 1)).toInt.toNat
          omega
        · rw [e_ph_cg ot (fun j _ => by rw [r64])]; exact hP
        · show e_VF F' E (f - 1) (e_rm F' E (F 59 (f - 1)).toInt) < e_VF F E f x
          have hm := e_rm_le (F := F') (E := E) (pc := (F 59 (f - 1)).toInt)
          exact e_VF_pop r59 (by omega) (by omega) (by omega)
      refine ⟨hv62, hv62, fun q => hrun F (e_hc_rf _ _ M F) hO, fun q => ⟨hv62, fun v5 e5 => ?_⟩⟩
      have q' : (F 60 (f - 1)).toInt ≠ -1 := ti_ne q
      have e := e_ix12 (x := M 62 - 1) (a := F 60 (f - 1)) (by omega) (by omega)
      refine ⟨vp_in_iff.mpr (by rw [e5]; omega), hrun _ (e_hc_uf _ _ (by decide) (e_hc_rf _ _ M F)) (e_OB_hc (e_hc_uf (ks := []) (rs := [57]) v5 a1 (by decide) (e_hc_rf _ _ M F)) (by decide) (by decide) hO)⟩
    · exact hQ _ _ (e_hc_um _ (by decide) (e_hc_um _ (by decide) (e_hc_um _ (by decide) c))) (e_OB_hc (e_hc_um (ks := [62, 74, 72]) (rs := []) 1 (by decide) (e_hc_um a1 (by decide) (e_hc_um (M 62 - 1) (by decide) (e_hc_rf _ _ M F)))) (by decide) (by decide) hO) (fun q => absurd (show (1 : Int32) = 0 from q) (by decide))
    · have hgt' := ti_nle hgt
      have hlt : e_b F (f - 1) < ot := by unfold e_b; omega
      have hb0 := (hS.1.1 (f - 1) (by omega)).1
      obtain ⟨t, rfl⟩ : ∃ t, ot = t + 1 := ⟨ot - 1, by omega⟩
      have e67 := ti_subx (M 67) 1 (by omega)
      rw [l1, h67] at e67
      have e67' : (M 67 - 1).toInt = (t : Int) := by omega
      have i67 : (M 67 - 1).toNatClampNeg = t := by rw [e_tc, e67']; omega
      obtain ⟨s1, s2, s3⟩ := hS.2.2 (f - 1) t (by omega) (by omega) (fun q => absurd q (by omega)) (by omega)
      have tk := hC.2.2.1 (F 63 t).toInt.toNat (by omega) (by omega)
      have hpt : e_ph F (t + 1) = e_ph F t + e_pt (F 64 t) := rfl
      have p1 := e_pt_1 (F 64 t)
      refine p_goesLastly e67' (by omega) (by omega) (fun _ => ⟨fun _ => ?_, fun q => absurd rfl q⟩) (fun q1 q2 => ⟨fun q => absurd q (by decide), fun _ => ?_⟩)
      · exact ih t (um M 67 (M 67 - 1)) (e_hc_um _ (by decide) c) (e_OB_hc (e_hc_um (ks := [67]) (rs := []) (M 67 - 1) (by decide) (e_hc_rf _ _ M F)) (by decide) (by decide) hO) h62 e67' h69 hf (e_FS_pt hS) (by omega) (by omega) (by omega) (by omega)
      · obtain ⟨g1, g2, g3, g4⟩ := tk.2.1.resolve_left q2
        have f64 : ∀ j, j ≠ t → uf (uf (uf F 64 (M 67 - 1) 2) 65 (M 67 - 1) 2) 66 (M 67 - 1) a1 64 j = F 64 j := fun j hj => e_upd_ne (by rw [i67]; exact hj)
        have f64t : uf (uf (uf F 64 (M 67 - 1) 2) 65 (M 67 - 1) 2) 66 (M 67 - 1) a1 64 t = 2 := by
          show upd (F 64) (M 67 - 1).toNatClampNeg 2 t = 2
          rw [i67]; exact e_upd_eq
        refine hQ _ _ (e_hc_uf _ _ (by decide) (e_hc_uf _ _ (by decide) (e_hc_uf _ _ (by decide) (e_hc_um _ (by decide) c)))) (e_OB_66 (e_OB_hc (e_hc_uf (ks := [70]) (rs := [64]) (M 67 - 1) 2 (by decide) (e_hc_um (F 21 (F 63 t).toInt.toNat) (by decide) (e_hc_rf _ _ M F))) (by decide) (by decide) hO) (fun q => absurd q (by decide))) (fun _ => ⟨f, t + 1, ⟨⟨h62, h67, hf.1, hf.2⟩, e_FS_cg (F := F) rfl rfl rfl rfl (fun j => ?_) hS, ⟨g1, g2⟩, e_m0 h69z g3, ?_⟩, g3, Or.inl ?_⟩)
        · by_cases q : j = t
          · right
            rw [q, f64t]; decide
          · exact Or.inl (f64 j q)
        · show ((t + 1 : Nat) : Int) - e_b F (f - 1) = G 1 (F 21 (F 63 t).toInt.toNat).toInt.toNat
          rw [g4, s2]; omega
        · rw [e_ph_set f64 f64t]
          have := e_pt_2 s3 q1
          have : e_pt 2 = 1 := by decide
          omega
theorem p_rest {G : e_G} {B N E T V : Int} {a1 : Int32} {M : e_M} {F : e_F} {Q : e_M → e_F → Prop} {f ot : Nat} (hC : e_SC G B N E T V F) (hO : e_OB M F) (h69 : M 69 = 0) (h62 : (M 62).toInt = f) (h67 : (M 67).toInt = ot) (hf : 1 ≤ f ∧ f ≤ 12) (hS : e_FS G B E T F f ot) (hb : e_b F (f - 1) ≤ ot) (h240 : ot ≤ 240) (hQ : ∀ (M' : e_M) (F' : e_F), e_PO G B E T M F f ot M' F' → Q M' F') : w_rest a1 M F Q := by
  refine ⟨ot + 1, p_rest_0 hC (M0 := M) (P := e_ph F ot) (f := f) (fun M' F' c o h => hQ M' F' ⟨e_XR_of c (by decide) (by decide), o, ⟨c.1 78 (by decide), c.1 79 (by decide)⟩, fun q _ => h q⟩) (ot + 1) ot M (e_hc_rf _ _ M F) hO h62 h67 h69 hf hS hb h240 (Nat.le_refl _) (by omega)⟩
