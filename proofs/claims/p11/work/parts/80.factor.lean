theorem e_CB_9 {M : e_M} {F : e_F} {e : Int} (hI : e_PI M F) (h : e_CB M e) (he : e ≤ 100) : (M 29).toInt ≤ 8990 := by
  have s := e_PI_e hI
  have o := e_PI_o hI
  by_cases q : (M 36).toInt = -1
  · have := h.1 q; omega
  · have := h.2 q; omega
theorem e_Z_rfB {M : e_M} {F : e_F} (G : e_G) (hI : e_PI M F) (hb : (M 36).toInt ≠ -1) (c A B δ : Int) : e_Z c A B δ M F G M F G := ⟨hI, ⟨e_PR_rf M F G, fun g => absurd g.1 hb⟩, fun g => absurd g hb⟩
theorem e_Z_wk {c A B δ c2 A2 B2 : Int} {M M1 : e_M} {F F1 : e_F} {G G1 : e_G} (h : e_Z c A B δ M F G M1 F1 G1) (hc : c ≤ c2) (hA : A ≤ A2) (hB : B2 ≤ B) : e_Z c2 A2 B2 δ M F G M1 F1 G1 := ⟨h.1, ⟨h.2.1.1, fun g a b => h.2.1.2 g (by omega) (by omega)⟩, fun g => by have := h.2.2 g; omega⟩
theorem e_Pput {c n1 n2 n3 : Int} {M M1 M2 : e_M} {F F1 F2 : e_F} {G G2 : e_G} {e : Int} (x : e_P c M F G M1 F1) (hc : 1 ≤ c) (y : M1 33 = M 33) (hI : e_PI M F) (hC : e_CB M e) (he : 0 ≤ e) (z : e_Z 1 n1 n2 n3 M1 F1 G M2 F2 G2) (k : ∀ k, k ≠ 29 → M2 k = M1 k) (k29 : (M2 29).toInt = (M1 29).toInt + 1) : e_Z (-1) n1 n2 n3 M F G M2 F2 G2 ∧ M2 33 = M 33 ∧ (∀ f, ((M 36).toInt = -1 → 1 ≤ f) → ((M 36).toInt ≠ -1 → e + 1 ≤ f) → e_CB M2 f) := by
  have zz := e_Z_tr (c3 := -1) (δ3 := n3) (e_P_Z x (by omega) n1 n2) z (by omega) (by omega) (by omega) (by omega)
  have o := e_PI_o hI
  have m6 := e_Z_mo zz
  have e29 : M1 29 = M 29 := x.2.2.1.1
  rw [e29] at k29
  refine ⟨zz, (k 33 (by decide)).trans y, fun f a b => ⟨fun g => ?_, fun g => ?_⟩⟩
  · have := (zz.2.2 g).1
    have := hC.1 (e_Z_nb zz g)
    omega
  · rw [k29, (k 33 (by decide)).trans y]
    by_cases q : (M 36).toInt = -1
    · have := hC.1 q
      have := a q
      omega
    · have := hC.2 q
      have := b q
      omega
theorem p_asked {x : Int32} {M : e_M} {F : e_F} (G : e_G) {e : Int} {Q : e_M → e_F → Prop} (hI : e_PI M F) (hC : e_CB M e) (he : 0 ≤ e) (he' : e ≤ 60) (hx : e_gd M F → 0 ≤ x.toInt ∧ x.toInt < 8) (hQ : ∀ (M' : e_M) (F' : e_F) (G' : e_G), e_Z (-1) 0 61 1 M F G M' F' G' → M' 33 = M 33 → (∀ f, ((M 36).toInt = -1 → 1 ≤ f) → ((M 36).toInt ≠ -1 → e + 1 ≤ f) → e_CB M' f) → Q M' F') : w_asked x M F Q := by
  have z0 : ¬ (1 : Int32) = 0 := by decide
  refine p_isWord (fun _ => ⟨fun _ => ?_, fun q => absurd rfl q⟩) (fun hb h4 h5 => ⟨fun q => absurd q z0, fun _ => ?_⟩)
  · refine p_needWord 25 (by decide) G hI (fun M1 F1 x1 y1 => p_object G x1.1 (fun r M2 F2 x2 y2 hr => ?_))
    have x12 := e_P_tr (c3 := 1) x1 x2 (by show (1 : Int) ≤ ((e_w2.getD 25 0 : Nat) : Int) + 1; decide)
    have y12 := y2.trans y1
    refine p_putS 9 (by decide) (by decide) G x2.1 (e_CB_9 (e := e) x2.1 (e_CB_P x12 y12 (by omega) hC he hI) (by omega)) (fun g => ?_) (fun r' M3 F3 G3 z3 k3 c3 _ _ => ?_)
    · have h1 := hx (e_PR_gd x12.2.1 g)
      have h2 := hr g.1 g.2.1
      exact ⟨h1, h2, by decide⟩
    · obtain ⟨a, b, c⟩ := e_Pput x12 (by omega) y12 hI hC he z3 k3 c3
      exact hQ M3 F3 G3 a b c
  · have hs := hI.2.2.1 (by omega)
    refine p_passN (G := G) hI hb (fun M1 F1 a b c d => ?_)
    obtain ⟨x1, y1⟩ := e_P_pass (c := 1) a b c d (by omega)
    refine p_taken G a (by decide) (fun r M2 F2 x2 y2 _ hr => ?_)
    have x12 := e_P_tr (c3 := 1) x1 x2 (by omega)
    have y12 := y2.trans y1
    refine p_putS 8 (by decide) (by decide) G x2.1 (e_CB_9 (e := e) x2.1 (e_CB_P x12 y12 (by omega) hC he hI) (by omega)) (fun g => ?_) (fun r' M3 F3 G3 z3 k3 c3 _ _ => ?_)
    · have h1 := hx (e_PR_gd x12.2.1 g)
      have := ti_rng r
      refine ⟨h1, ⟨this.1, ?_⟩, by decide⟩
      show r.toInt < 2147483648
      omega
    · obtain ⟨a, b, c⟩ := e_Pput x12 (by omega) y12 hI hC he z3 k3 c3
      exact hQ M3 F3 G3 a b c
theorem e_Z_open {c A B δ : Int} {M M1 : e_M} {F F1 : e_F} {G G1 : e_G} (v : Int32) (hv : 0 ≤ v.toInt ∧ v.toInt ≤ 21) (h : e_Z c A B δ M F G M1 F1 G1) : e_Z c A B δ M F G (um M1 33 v) F1 G1 := by
  have x := e_P_open v hv (e_P_rf (G := G1) h.1)
  exact e_Z_tr h (e_P_Z x (by decide) (A + δ) (B + δ)) (by omega) (by omega) (by omega) (by omega)
theorem p_factor {WF : e_M → e_F → (e_M → e_F → Prop) → Prop} {n : Nat} (hX : e_SX WF n 0 2) : e_SX (w_factor WF) (n + 1) 0 2 := by
  intro M F G e Q hI hC he he' hf hQ
  have z0 : ¬ (1 : Int32) = 0 := by decide
  have l1 : (1 : Int32).toInt = 1 := by decide
  refine ⟨fun hb36 => ⟨fun _ => ?_, fun q => absurd rfl q⟩, fun hb36 => ⟨fun q => absurd q z0, fun _ => ?_⟩⟩
  · have hb : (M 36).toInt = -1 := by rw [hb36]; decide
    have ho : (M 33).toInt ≤ 20 ∧ 22 - (M 33).toInt ≤ ((n + 1 : Nat) : Int) := by
      rcases hf with q | q
      · exact absurd hb q.1
      · exact q
    have o0 := e_PI_o hI
    have s0 := e_PI_e hI
    have h29 := hC.1 hb
    have hC0 : e_CB M 0 := ⟨hC.1, fun q => absurd hb q⟩
    refine ⟨fun h43 => ⟨fun h41 => ?_, fun h41 => ?_⟩, fun h43 => ?_⟩
    · have h213 : w_factor_213 WF Q M F := by
        refine ⟨fun _ => p_fail (fun M' h hb' => ?_) s0.1, fun h42 => p_object G hI (fun r M1 F1 x1 y1 hr => ?_)⟩
        · obtain ⟨x, y⟩ := e_P_fail G 0 hI h hb'
          exact hQ M' F G ⟨x.1, ⟨x.2.1, fun g => absurd g.1 hb'⟩, fun g => absurd g hb'⟩ y (fun f a _ => e_CB_mo (e_CB_P x y (by omega) hC0 (by omega) hI) (by have := a hb; omega))
        · have hC1 := e_CB_P x1 y1 (by omega) hC0 (by omega) hI
          refine p_asked G x1.1 hC1 (by omega) (by omega) (fun g => hr g.1 g.2.1) (fun M2 F2 G2 z2 y2 c2 => ?_)
          exact hQ M2 F2 G2 (e_Z_wk (e_Z_tr (c3 := -3) (δ3 := 1) (e_P_Z x1 (by omega) 0 61) z2 (by omega) (by omega) (by omega) (by omega)) (by omega) (by omega) (by omega)) (y2.trans y1) (fun f a _ => c2 f (fun _ => by have := a hb; omega) (fun _ => by have := a hb; omega))
      refine p_isSign (fun _ => ⟨fun _ => ?_, fun q => absurd rfl q⟩) (fun _ h46 _ => ⟨fun q => absurd q z0, fun _ => ?_⟩)
      · refine p_isSign (fun _ => ⟨fun _ => ⟨fun _ => h213, fun h44 => ⟨fun _ => h213, fun _ => ⟨fun _ => h213, fun _ => ?_⟩⟩⟩, fun q => absurd rfl q⟩) (fun _ h46 _ => ⟨fun q => absurd q z0, fun _ => ?_⟩)
        · have h44' : (M 4).toInt = 4 := by rw [h44]; decide
          have hs := hI.2.2.1 (by omega)
          refine p_passN (G := G) hI hb (fun M1 F1 a b c d => ?_)
          obtain ⟨x1, y1⟩ := e_P_pass (c := 1) a b c d (by omega)
          refine p_object G a (fun r M2 F2 x2 y2 hr => ?_)
          have x12 := e_P_tr (c3 := 1) x1 x2 (by omega)
          have y12 := y2.trans y1
          refine p_putS 7 (by decide) (by decide) G x2.1 (e_CB_9 (e := 0) x2.1 (e_CB_P x12 y12 (by omega) hC0 (by omega) hI) (by omega)) (fun g => ?_) (fun r' M3 F3 G3 z3 k3 c3 _ _ => ?_)
          · have h2 := hr g.1 g.2.1
            have := ti_rng (M 5 - 19)
            refine ⟨h2, ⟨this.1, ?_⟩, by decide⟩
            show (M 5 - 19).toInt < 2147483648
            omega
          · obtain ⟨a, b, c⟩ := e_Pput x12 (by omega) y12 hI hC0 (by omega) z3 k3 c3
            exact hQ M3 F3 G3 (e_Z_wk a (by omega) (by decide) (show _ ≤ (61 : Int) from by omega)) b (fun f q _ => c f (fun _ => by have := q hb; omega) (fun q => absurd hb q))
        · refine p_opens G hI ho.1 (fun M1 F1 x1 o1 n1 => ?_)
          have hs1 := e_PI_e x1.1
          have e29 : M1 29 = M 29 := x1.2.2.1.1
          have m61 : (M 6).toInt ≤ (M1 6).toInt := x1.2.1.1.2.1.2.2.2.2.2
          have hC1 : e_CB M1 0 := ⟨fun g => by rw [e29]; omega, fun g => by rw [e29, o1]; omega⟩
          have hf1 : e_fu M1 n := by
            by_cases q : (M1 36).toInt = -1
            · right; have := n1 q; omega
            · exact Or.inl ⟨q, by omega⟩
          refine p_whole hX M1 F1 G 0 _ x1.1 hC1 (by omega) (by omega) hf1 (fun M2 F2 G2 z2 y2 c2 => ?_)
          have c2 := c2 5 (fun _ => by omega) (fun _ => by omega)
          refine p_closes G2 z2.1 (by rw [y2]; omega) (fun M3 F3 x3 o3 => ?_)
          have y3 : M3 33 = M 33 := Int32.toInt_inj.mp (by rw [o3, y2, o1]; omega)
          rw [o1] at z2
          have z12 := e_Z_tr (c3 := -2) (δ3 := 1) (e_P_Z x1 (by omega) 0 (61 - 3 * (20 - (M 33).toInt) - 0)) z2 (by omega) (by omega) (by omega) (by omega)
          have z123 := e_Z_tr (c3 := 0) (δ3 := 1) z12 (e_P_Z x3 (by omega) 1 62) (by omega) (by omega) (by omega) (by omega)
          have m63 := e_Z_mo z123
          have e29' : M3 29 = M2 29 := x3.2.2.1.1
          have m6' : (M2 6).toInt ≤ (M3 6).toInt := x3.2.1.1.2.1.2.2.2.2.2
          refine hQ M3 F3 G2 z123 y3 (fun f q _ => ⟨fun g => ?_, fun g => ?_⟩)
          · have := (z123.2.2 g).1
            omega
          · rw [e29', y3]
            have := q hb
            by_cases q2 : (M2 36).toInt = -1
            · have := c2.1 q2; omega
            · have := c2.2 q2; rw [y2, o1] at this; omega
      · have h91 : ∀ M1 : e_M, e_P 0 M F G M1 F → M1 33 = M 33 → ((M1 36).toInt = -1 → (M 33).toInt ≤ 19) → ((M1 36).toInt = -1 → M1 6 = M 6 ∧ M1 3 = M 3) → w_factor_91 WF Q M1 F := by
          intro M1 x1 y1 n1 t61
          have e1 := ti_addx (M1 33) 1 (by rw [y1]; omega)
          rw [y1] at e1
          have x2 := e_P_open (M1 33 + 1) (by rw [y1]; omega) x1
          have hin : ∀ (M3 : e_M) (F3 : e_F), e_P 0 M F G M3 F3 → ((M3 36).toInt = -1 → e_P 1 M F G M3 F3) → (M3 33).toInt = (M 33).toInt + 1 → ((M3 36).toInt = -1 → (M 33).toInt ≤ 19) → WF M3 F3 (fun M20 F20 => (w_put 4 0 0 0 (um M20 33 ((M20 33) - 1)) F20 (fun r21 M22 F22 => (Q M22 F22)))) := by
            intro M3 F3 x3 x3' o3 n3
            have e29 : M3 29 = M 29 := x3.2.2.1.1
            have m63 : (M 6).toInt ≤ (M3 6).toInt := x3.2.1.1.2.1.2.2.2.2.2
            have hC3 : e_CB M3 0 := ⟨fun g => by rw [e29]; omega, fun g => by rw [e29, o3]; omega⟩
            have hf3 : e_fu M3 n := by
              by_cases q : (M3 36).toInt = -1
              · right; have := n3 q; omega
              · exact Or.inl ⟨q, by omega⟩
            refine hX M3 F3 G 0 _ x3.1 hC3 (by omega) (by omega) hf3 (fun M4 F4 G4 z4 y4 c4 => ?_)
            have c4 := c4 2 (fun _ => by omega) (fun _ => by omega)
            have e4 := ti_subx (M4 33) 1 (by rw [y4]; omega)
            rw [y4, o3] at e4
            have e4' : (M4 33 - 1).toInt = (M 33).toInt := by rw [y4]; omega
            have z5 := e_Z_open (M4 33 - 1) (by omega) z4
            rw [o3] at z5
            have s4 := e_PI_e z4.1
            have c29 : (M4 29).toInt ≤ 8990 := e_CB_9 z4.1 c4 (by omega)
            refine p_putS 4 (by decide) (by decide) G4 z5.1 c29 (fun _ => ⟨⟨by decide, by decide⟩, ⟨by decide, by decide⟩, by decide⟩) (fun r' M6 F6 G6 z6 k6 c6 _ _ => ?_)
            have y6 : M6 33 = M 33 := Int32.toInt_inj.mp (by rw [k6 33 (by decide)]; exact e4')
            have zA := e_Z_tr (c3 := 0) (δ3 := 1) (e_P_Z x3 (by omega) 0 (61 - 3 * (20 - (M 33).toInt) - 0)) z5 (by omega) (by omega) (by omega) (by omega)
            have zB := e_Z_tr (c3 := 1) (δ3 := 1) zA z6 (show (1 : Int) ≤ 0 + 1 from by omega) (show _ ≤ (62 : Int) from by omega) (by omega) (show (1 : Int) = 1 + 0 from by omega)
            have k36 : M6 36 = M4 36 := k6 36 (by decide)
            have k06 : M6 6 = M4 6 := k6 6 (by decide)
            have c6' : (M6 29).toInt = (M4 29).toInt + 1 := c6
            have hfin : e_Z 0 0 (61 - 3 * (20 - (M 33).toInt) - 0) 1 M F G M6 F6 G6 := by
              refine ⟨zB.1, zB.2.1, fun g => ?_⟩
              have g3 : (M3 36).toInt = -1 := e_Z_nb z4 (by rw [← k36]; exact g)
              have q1 := (x3' g3).2.2.2 g3
              have q2 := z4.2.2 (by rw [← k36]; exact g)
              have q3 := zB.2.2 g
              rw [k06] at q3 ⊢
              rw [e29] at q2
              omega
            refine hQ M6 F6 G6 hfin y6 (fun f q _ => ⟨fun g => ?_, fun g => ?_⟩)
            · have := (hfin.2.2 g).1
              omega
            · rw [k36] at g
              have c4' := c4.2 g
              rw [y4, o3] at c4'
              have := q hb
              rw [y6, k06, c6']
              omega
          by_cases q : (M1 36).toInt = -1
          · refine p_passN (G := G) x2.1 q (fun M3 F3 a b c d => ?_)
            have hs := hI.2.2.1 (by omega)
            have t6 := t61 q
            obtain ⟨x3, y3⟩ := e_P_pass (c := 1) a b c d (show (M1 6).toInt + 1 ≤ (M1 3).toInt from by rw [t6.1, t6.2]; omega)
            have x13 := e_P_tr (c3 := 1) x2 x3 (by omega)
            exact hin M3 F3 (e_P_tr (c3 := 0) x2 x3 (by omega)) (fun _ => x13) (by rw [y3]; show (M1 33 + 1).toInt = _; rw [y1]; omega) (fun _ => n1 q)
          · refine p_pass (G := G) x2.1 (fun _ => ?_) (fun q2 => absurd q2 q)
            exact hin _ _ x2 (fun q2 => absurd q2 q) (show (M1 33 + 1).toInt = _ from by rw [y1]; omega) (fun q2 => absurd q2 q)
        refine ⟨fun h20 => h91 M (e_P_rf G hI) rfl (fun _ => ?_) (fun _ => ⟨rfl, rfl⟩), fun h20 => p_fail (fun M' h hb' => ?_) s0.1⟩
        · have := ti_ne h20
          have l20 : (20 : Int32).toInt = 20 := by decide
          omega
        · obtain ⟨x, y⟩ := e_P_fail G 0 hI h hb'
          exact h91 M' x y (fun q => absurd q hb') (fun q => absurd q hb')
    · have h41' : (M 4).toInt = 1 := by rw [h41]; decide
      refine p_taken G hI (by decide) (fun r M1 F1 x1 y1 y47 hx => p_told G x1.1 (fun g => ?_) (by rw [y47]; exact s0.1) (fun r2 M2 x2 k2 hr => ?_))
      · obtain ⟨t4, tw, tn⟩ := hx g
        obtain ⟨w1, w2⟩ := hI.2.1.1 h41'
        rw [← tw] at w1 w2
        have hm : (M 12).toInt ≤ (M1 12).toInt := x1.2.1.1.2.1.2.2.2.2.1
        exact ⟨by omega, by rw [e_PR_sm x1.2.1 (by omega)]; exact w2⟩
      · have x12 := e_P_tr (c3 := 1) x1 x2 (by omega)
        have y12 : M2 33 = M 33 := (k2 33 (by decide)).trans y1
        refine p_putS 2 (by decide) (by decide) G x2.1 (e_CB_9 (e := 0) x2.1 (e_CB_P x12 y12 (by omega) hC0 (by omega) hI) (by omega)) (fun g => ?_) (fun r' M3 F3 G3 z3 k3 c3 _ _ => ?_)
        · have g1 := e_PR_gd x2.2.1 g
          exact ⟨hr g1.1 g1.2.1, ⟨by decide, by decide⟩, by decide⟩
        · obtain ⟨a, b, c⟩ := e_Pput x12 (by omega) y12 hI hC0 (by omega) z3 k3 c3
          exact hQ M3 F3 G3 (e_Z_wk a (by omega) (by decide) (show _ ≤ (61 : Int) from by omega)) b (fun f q _ => c f (fun _ => by have := q hb; omega) (fun q => absurd hb q))
    · have h43' : (M 4).toInt = 3 := by rw [h43]; decide
      have hs := hI.2.2.1 (by omega)
      refine p_putS 1 (by decide) (by decide) G hI (by omega) (fun _ => ?_) (fun r' M1 F1 G1 z1 k1 c1 _ _ => ?_)
      · have := ti_rng (M 5)
        refine ⟨⟨this.1, ?_⟩, ⟨by decide, by decide⟩, by decide⟩
        show (M 5).toInt < 2147483648
        omega
      · refine p_passN (G := G1) z1.1 (by rw [k1 36 (by decide)]; exact hb) (fun M2 F2 a b c d => ?_)
        have q6 : M1 6 = M 6 := k1 6 (by decide)
        have q3 : M1 3 = M 3 := k1 3 (by decide)
        obtain ⟨x2, y2⟩ := e_P_pass (c := 1) a b c d (by rw [q6, q3]; omega)
        have z := e_Z_tr (c3 := -1) (δ3 := 1) z1 (e_P_Z x2 (by omega) 1 62) (show (1 : Int) ≤ 0 + 1 from by omega) (show (61 : Int) + 1 ≤ 62 from by omega) (by omega) (show (1 : Int) = 1 + 0 from by omega)
        have z' := e_Z_wk (c2 := 0) (A2 := 0) (B2 := 61 - 3 * (20 - (M 33).toInt) - 0) z (by omega) (by decide) (show _ ≤ (61 : Int) from by omega)
        have h36 : (M2 36).toInt = -1 := by rw [c 36 (by decide) (by decide) (by decide) (by decide) (by decide), k1 36 (by decide)]; exact hb
        refine hQ M2 F2 G1 z' (y2.trans (k1 33 (by decide))) (fun f q _ => ⟨fun g => ?_, fun g => absurd h36 g⟩)
        have := (z'.2.2 g).1
        omega
  · have hb : (M 36).toInt ≠ -1 := fun q => ti_ne hb36 (by rw [q]; decide)
    exact hQ M F G (e_Z_rfB G hI hb _ _ _ _) rfl (fun f _ b => e_CB_mo hC (b hb))
