/-! HEARINGS HELD, DEALT WITH; THE CALLS. -/
theorem p_holds {G : e_G} {B N E T V : Int} {h a b : Int32} {M : e_M} {F : e_F} {Q : e_M → e_F → Prop} (hC : e_SC G B N E T V F) (hS : e_TS M F) (hh : 400 * B ≤ h.toInt ∧ h.toInt < 400 * B + N) (hQ : ∀ (M' : e_M) (F' : e_F), e_XR M F M' F' → e_TS M' F' → Q M' F') : w_holds h a b M F Q := by
  obtain ⟨⟨b0, b1⟩, ⟨b2, b3⟩, ⟨b4, b5⟩, -⟩ := hC.1
  have ha := hS.1.1
  have hvh : vp_in h 800 := vp_in_iff.mpr (by omega)
  have key : ∀ (n : Nat) (M1 : e_M) (F1 : e_F), e_XR M F M1 F1 → e_TS M1 F1 → (M1 72 = 0 → M1 71 = 0 → ∃ f ot : Nat, e_RUN G B E T M1 F1 f ot ∧ e_mu G E M1 F1 f ot < n) → w_holds_63 Q (n + 1) M1 F1 := by
    intro n
    induction n with
    | zero =>
      intro M1 F1 x s r
      refine ⟨fun _ => hQ M1 F1 x s, fun q1 => ⟨fun _ => hQ M1 F1 x s, fun q2 => ?_⟩⟩
      obtain ⟨f, ot, -, m⟩ := r q1 q2
      exact absurd m (by omega)
    | succ n ih =>
      intro M1 F1 x s r
      refine ⟨fun _ => hQ M1 F1 x s, fun q1 => ⟨fun _ => hQ M1 F1 x s, fun q2 => ?_⟩⟩
      obtain ⟨f, ot, r1, m⟩ := r q1 q2
      refine p_act ⟨e_SC_xr x hC, r1, s⟩ (fun M2 F2 q => ih M2 F2 (e_XR_tr x q.1) q.2.1 (fun z1 z2 => ?_))
      obtain ⟨f', ot', r2, m2⟩ := q.2.2 z1 z2
      exact ⟨f', ot', r2, by omega⟩
  have c0 : e_hc [62, 67, 69, 72, 73] [] M F (um (um (um (um (um M 62 0) 67 0) 69 0) 73 0) 72 0) F := e_hc_um _ (by decide) (e_hc_um _ (by decide) (e_hc_um _ (by decide) (e_hc_um _ (by decide) (e_hc_um _ (by decide) (e_hc_rf _ _ M F)))))
  have o1 : e_OB (um (um (um (um M 62 0) 67 0) 69 0) 73 0) F := e_OB_73 (e_OB_hc (e_hc_um (ks := [62, 67, 69]) (rs := []) 0 (by decide) (e_hc_um 0 (by decide) (e_hc_um 0 (by decide) (e_hc_rf _ _ M F)))) (by decide) (by decide) hS.1) (show 0 ≤ (0 : Int32).toInt ∧ (0 : Int32).toInt ≤ (M 54).toInt from by rw [e_z0]; omega)
  have o2 : e_OB (um (um (um (um (um M 62 0) 67 0) 69 0) 73 0) 72 0) F := e_OB_hc (e_hc_um (ks := [72]) (rs := []) 0 (by decide) (e_hc_rf _ _ _ F)) (by decide) (by decide) o1
  refine p_begins o2 (show 0 ≤ (0 : Int32).toInt ∧ (0 : Int32).toInt < 12 from by decide) (by omega) (fun F1 c1 hO1 e61 => ?_)
  generalize hM2 : um (um (um (um (um (um (um (um M 62 0) 67 0) 69 0) 73 0) 72 0) 62 ((um (um (um (um (um M 62 0) 67 0) 69 0) 73 0) 72 0) 62 + 1)) 82 ((um (um (um (um (um M 62 0) 67 0) 69 0) 73 0) 72 0) 82 + 1)) 70 (F 18 h.toInt.toNat) = M2
  have c2 : e_hc [62, 70, 82] [] (um (um (um (um (um M 62 0) 67 0) 69 0) 73 0) 72 0) F1 M2 F1 := by
    rw [← hM2]
    exact e_hc_um _ (by decide) (e_hc_um _ (by decide) (e_hc_um _ (by decide) (e_hc_rf _ _ _ F1)))
  have hO2 : e_OB M2 F1 := e_OB_hc c2 (by decide) (by decide) hO1
  have cc : e_hc [62, 67, 69, 70, 72, 73, 82] [57, 58, 61] M F M2 F1 := e_hc_tr (e_hc_tr (ks2 := [62, 67, 69, 72, 73]) (rs2 := [57, 58, 61]) c0 c1 (by decide) (by decide) (by decide) (by decide)) c2 (by decide) (by decide) (by decide) (by decide)
  have n62 : (M2 62).toInt = ((1 : Nat) : Int) := by rw [← hM2]; exact (by decide : ((0 : Int32) + 1).toInt = ((1 : Nat) : Int))
  have n67 : (M2 67).toInt = ((0 : Nat) : Int) := by rw [← hM2]; exact (by decide : (0 : Int32).toInt = ((0 : Nat) : Int))
  have n69 : (M2 69).toInt = 0 := by rw [← hM2]; exact (by decide : (0 : Int32).toInt = 0)
  have n70 : M2 70 = F 18 h.toInt.toNat := by rw [← hM2]; rfl
  obtain ⟨g1, g2, g3, g4⟩ := hC.2.2.2.2 h.toInt.toNat (by omega) (by omega)
  have hgo : ∀ F2 : e_F, e_hc [] [57] M2 F1 M2 F2 → ∃ e63, w_holds_63 Q e63 M2 F2 := by
    intro F2 c3
    have cA : e_hc [62, 67, 69, 70, 72, 73, 82] [57, 58, 61] M F M2 F2 := e_hc_tr cc c3 (by decide) (by decide) (by decide) (by decide)
    have s61 : e_b F2 0 = 0 := by
      unfold e_b
      rw [c3.2 61 (by decide), e61]
      show (upd (F 61) 0 0 0).toInt = 0
      rw [e_upd_eq]; decide
    have hT : e_TS M2 F2 := ⟨e_OB_hc c3 (by decide) (by decide) hO2, by rw [cA.1 78 (by decide), cA.1 79 (by decide)]; exact hS.2⟩
    have hR : e_RUN G B E T M2 F2 1 0 := ⟨⟨n62, n67, by decide, by decide⟩, e_FS_0 s61, by rw [n70]; exact ⟨g1, g2⟩, by rw [n70]; exact e_m0 n69 g3, by rw [n70, g4]; show ((0 : Nat) : Int) - e_b F2 0 = 0; rw [s61]; rfl⟩
    exact ⟨_, key (e_mu G E M2 F2 1 0 + 1) M2 F2 (e_XR_of cA (by decide) (by decide)) hT (fun _ _ => ⟨1, 0, hR, Nat.lt_succ_self _⟩)⟩
  have h46 : ∀ F2 : e_F, e_hc [] [57] M2 F1 M2 F2 → w_holds_46 Q h b M2 F2 := fun F2 c3 => ⟨hvh, fun _ => hgo F2 c3, fun _ => ⟨vp_in_iff.mpr (by decide), hgo _ (e_hc_uf _ _ (by decide) c3)⟩⟩
  exact ⟨hvh, fun _ => h46 F1 (e_hc_rf _ _ M2 F1), fun _ => ⟨vp_in_iff.mpr (by decide), h46 _ (e_hc_uf _ _ (by decide) (e_hc_rf _ _ M2 F1))⟩⟩
def wf_dl : Nat → Int32 → Int32 → Int32 → Int32 → e_M → e_F → (e_M → e_F → Prop) → Prop
  | 0 => fun _ _ _ _ _ _ _ => False
  | n + 1 => fun p1 p2 p3 p4 M F Q => w_deals (wf_dl n) p1 p2 p3 p4 M F Q
theorem e_ix7 {x a : Int32} (hx : 0 ≤ x.toInt ∧ x.toInt ≤ 2) (ha : 0 ≤ a.toInt ∧ a.toInt ≤ 6) : (7 * x + a).toInt = 7 * x.toInt + a.toInt := by
  obtain ⟨k, h1, h2, h3⟩ := ti_mulc2 7 x 7 (by decide)
  have e2 : (7 * x).toInt = 7 * x.toInt := by omega
  have e3 := ti_addx (7 * x) a (by omega)
  omega
theorem e_TS_hc {ks rs : List Nat} {M M' : e_M} {F F' : e_F} (c : e_hc ks rs M F M' F') (hk : ∀ k, k ∈ [54, 80, 83, 73, 78, 79] → k ∉ ks) (hr : ∀ r, r ∈ [48, 52, 58, 65, 66, 85, 86, 87] → r ∉ rs) (h : e_TS M F) : e_TS M' F' := ⟨e_OB_hc c (fun k hk' => hk k (by simp only [List.mem_cons, List.not_mem_nil, or_false] at hk' ⊢; omega)) hr h.1, by rw [c.1 78 (hk 78 (by decide)), c.1 79 (hk 79 (by decide))]; exact h.2⟩
theorem p_deals {G : e_G} {B N E T V : Int} {h a b : Int32} (hh : 400 * B ≤ h.toInt ∧ h.toInt < 400 * B + N) : ∀ (n : Nat) (i : Int32) (M : e_M) (F : e_F) (Q : e_M → e_F → Prop), (0 ≤ i.toInt ∧ i.toInt ≤ 2) → i.toInt < n → e_SC G B N E T V F → e_TS M F → (∀ (M' : e_M) (F' : e_F), e_XR M F M' F' → e_TS M' F' → Q M' F') → wf_dl n i h a b M F Q := by
  have l1 : (1 : Int32).toInt = 1 := by decide
  intro n
  induction n with
  | zero => intro i M F Q h1 h2; exact absurd h2 (by omega)
  | succ n ih =>
    intro i M F Q hi hn hC hS hQ
    have hbl : ∀ (M1 : e_M) (F1 : e_F) (Q1 : e_M → e_F → Prop), e_SC G B N E T V F1 → e_TS M1 F1 → (∀ (M' : e_M) (F' : e_F), e_XR M1 F1 M' F' → e_TS M' F' → Q1 M' F') → w_below (wf_dl n) i h a b M1 F1 Q1 := by
      intro M1 F1 Q1 hC1 hS1 hQ1
      refine ⟨fun q => ?_, fun _ => p_holds hC1 hS1 hh hQ1⟩
      have q' := ti_ne q
      rw [e_z0] at q'
      have e := ti_subx i 1 (by omega)
      exact ih (i - 1) M1 F1 Q1 (by omega) (by omega) hC1 hS1 hQ1
    refine hbl M F _ hC hS (fun M1 F1 x1 s1 => ⟨fun _ => hQ M1 F1 x1 s1, fun _ => ⟨fun _ => hQ M1 F1 x1 s1, fun q73 => ⟨fun _ => ?_, fun _ => hQ M1 F1 x1 s1⟩⟩⟩)
    obtain ⟨o1, o2, o3, o4, o5, o6, o7, o8, o9⟩ := (show e_OB M1 F1 from s1.1)
    have q73' := ti_ne q73
    rw [e_z0] at q73'
    have h73 : 1 ≤ (M1 73).toInt ∧ (M1 73).toInt ≤ (M1 54).toInt := by omega
    have hv73 : vp_in (M1 73) 8001 := vp_in_iff.mpr (by omega)
    have hk := (o2 (M1 73).toInt.toNat (by omega) (by omega)).1
    refine ⟨hv73, 10, ?_⟩
    have hgo : ∀ (ks : List Nat) (M2 : e_M) (F2 : e_F), e_hc ks [] M1 F1 M2 F2 → (∀ k, k ∈ ks → 48 ≤ k) → (∀ k, k ∈ [54, 80, 83, 73, 78, 79] → k ∉ ks) → Q M2 F2 := fun ks M2 F2 c h1 h2 => hQ M2 F2 (e_XR_tr x1 (e_XR_of c h1 (by decide))) (e_TS_hc c h2 (by decide) s1)
    have h74 : ∀ k : Int32, (-1 ≤ k.toInt ∧ k.toInt ≤ 6) → w_deals_74 (wf_dl n) Q i h a b k M1 F1 := by
      intro k hk
      refine ⟨fun q => ?_, fun _ => hQ M1 F1 x1 s1⟩
      have q' : k.toInt ≠ -1 := ti_ne q
      have e7 := e_ix7 (x := i) (a := k) hi (by omega)
      have hv7 : vp_in (7 * i + k) 21 := vp_in_iff.mpr (by omega)
      have i7 : (7 * i + k).toNatClampNeg < 21 := by rw [e_tc, e7]; omega
      obtain ⟨⟨p1, p2⟩, p3⟩ := o5 (7 * i + k).toNatClampNeg i7
      refine ⟨hv7, fun v4 e4 => ⟨hv7, fun _ => hQ M1 F1 x1 s1, fun _ => hgo [77] _ _ (e_hc_um _ (by decide) (e_hc_rf _ _ M1 F1)) (by decide) (by decide), fun q4 => ⟨hv73, ?_⟩, fun _ => ?_, fun _ => ?_, fun _ _ _ _ _ => ?_⟩⟩
      · have e3 : F1 85 (7 * i + k).toNatClampNeg = 3 := by
          have es := ti_subx (F1 85 (7 * i + k).toNatClampNeg) 1 (by omega)
          rw [← e4, q4] at es
          have l2 : (2 : Int32).toInt = 2 := by decide
          have l3 : (3 : Int32).toInt = 3 := by decide
          exact Int32.toInt_inj.mp (by omega)
        refine p_makes s1.1 (p3 e3) ⟨by omega, h73.2⟩ (fun r M2 F2 c o le hr => ?_)
        have hr' : 0 ≤ r.toInt ∧ r.toInt ≤ (M2 54).toInt := by
          rcases hr with ⟨r0, -⟩ | ⟨⟨r1, r2⟩, -⟩
          · rw [r0, e_z0]
            have := o.1
            omega
          · omega
        have c' : e_hc [54, 55, 71, 73] [48, 49, 50, 51, 52, 53] M1 F1 (um M2 73 r) F2 := e_hc_um _ (by decide) (e_hc_tr c (e_hc_rf [] [] M2 F2) (by decide) (by decide) (by decide) (by decide))
        exact hQ _ _ (e_XR_tr x1 (e_XR_of c' (by decide) (by decide))) ⟨e_OB_73 o hr', by rw [c'.1 78 (by decide), c'.1 79 (by decide)]; exact s1.2⟩
      · have c : e_hc [81] [] M1 F1 (um M1 81 (M1 81 + 1)) F1 := e_hc_um _ (by decide) (e_hc_rf _ _ M1 F1)
        exact hbl _ _ _ (e_SC_xr x1 hC) (e_TS_hc c (by decide) (by decide) s1) (fun M2 F2 x2 s2 => hQ M2 F2 (e_XR_tr (e_XR_tr x1 (e_XR_of c (by decide) (by decide))) x2) s2)
      · have hvi : vp_in i 3 := vp_in_iff.mpr (by omega)
        have h87 := o6 i.toNatClampNeg (by rw [e_tc]; omega)
        have h29 : w_enters_29 Q M1 F1 := hgo [56] _ _ (e_hc_um _ (by decide) (e_hc_rf _ _ M1 F1)) (by decide) (by decide)
        refine ⟨hvi, fun q => ?_, fun _ => hQ M1 F1 x1 s1⟩
        have q' := ti_ne q
        rw [e_z0] at q'
        have hv8 : vp_in (F1 87 i.toNatClampNeg) 8001 := vp_in_iff.mpr (by omega)
        refine ⟨hv8, fun v3 e3 => ⟨fun _ => h29, fun _ => ⟨fun _ => ⟨hv8, hv8, ?_⟩, fun _ => h29⟩⟩⟩
        have c : e_hc [73] [52, 53] M1 F1 (um M1 73 (F1 87 i.toNatClampNeg)) (uf (uf F1 52 (F1 87 i.toNatClampNeg) (M1 73)) 53 (F1 87 i.toNatClampNeg) (vp_nar .boolean 1)) := e_hc_uf _ _ (by decide) (e_hc_uf _ _ (by decide) (e_hc_um _ (by decide) (e_hc_rf _ _ M1 F1)))
        exact hQ _ _ (e_XR_tr x1 (e_XR_of c (by decide) (by decide))) ⟨e_OB_52 (e_OB_73 s1.1 h87) ⟨by omega, h73.2⟩, s1.2⟩
      · exact p_weight s1.1 h73 (fun r => ⟨fun _ => hQ M1 F1 x1 s1, fun _ => hgo [77] _ _ (e_hc_um _ (by decide) (e_hc_rf _ _ M1 F1)) (by decide) (by decide)⟩)
    have key : ∀ (m : Nat) (k : Int32), (-1 ≤ k.toInt ∧ k.toInt ≤ 6) → e_rk k.toInt < m → w_deals_43 (wf_dl n) Q m i h a b k M1 F1 := by
      intro m
      induction m with
      | zero => intro k _ h; exact absurd h (by omega)
      | succ m ihm =>
        intro k hk hm
        refine ⟨fun _ => h74 k hk, fun q => ?_⟩
        have q' : k.toInt ≠ -1 := ti_ne q
        have e7 := e_ix7 (x := i) (a := k) hi (by omega)
        exact ⟨vp_in_iff.mpr (by omega), fun _ => h74 k hk, fun _ => p_above (by omega) (fun r h1 h2 => ihm r h1 (by omega))⟩
    have hrk : e_rk (F1 48 (M1 73).toInt.toNat).toInt < 10 := by
      unfold e_rk
      split
      · decide
      · split
        · decide
        · split <;> decide
    exact key 10 (F1 48 (M1 73).toInt.toNat) (by omega) hrk
theorem p_trial {h a b s : Int32} {n : Nat} (hn : 3 ≤ n) {M : e_M} {F : e_F} {Q : Int32 → e_M → e_F → Prop} (hV : e_INV M F) (hQ : ∀ (r : Int32) (M' : e_M) (F' : e_F), e_INV M' F' → M' 1 = M 1 → Q r M' F') : w_trial (wf_dl n) h a b s M F Q := by
  have l1 : (1 : Int32).toInt = 1 := by decide
  have l2 : (2 : Int32).toInt = 2 := by decide
  have l5 : (5000 : Int32).toInt = 5000 := by decide
  have h0 : Q (-1) M F := hQ _ M F hV rfl
  refine ⟨fun _ => h0, fun q1 => ⟨fun _ => h0, fun q2 => ⟨fun _ => h0, fun q3 => ⟨fun q4 => ?_, fun _ => h0⟩⟩⟩⟩
  obtain ⟨v1, ⟨G, E, T, V, hC⟩, vO⟩ := hV
  have g1 := ti_nlt q1
  have g2 := ti_nle q2
  have g3 := ti_nlt q3
  have g4 := Int32.le_iff_toInt_le.mp q4
  rw [e_z0] at g1
  obtain ⟨b01, ⟨b2, b3⟩, -⟩ := hC.1
  have er := e_row4 (a := M 27) (b := h) b01 (by omega)
  generalize hM1 : um (um (um (um (um (um (um (um (um M 78 0) 79 s) 80 0) 81 0) 82 0) 55 0) 71 0) 77 (-1)) 74 0 = M1
  have c1 : e_hc [55, 71, 74, 77, 78, 79, 80, 81, 82] [] M F M1 F := by
    rw [← hM1]
    exact e_hc_um _ (by decide) (e_hc_um _ (by decide) (e_hc_um _ (by decide) (e_hc_um _ (by decide) (e_hc_um _ (by decide) (e_hc_um _ (by decide) (e_hc_um _ (by decide) (e_hc_um _ (by decide) (e_hc_um _ (by decide) (e_hc_rf _ _ M F)))))))))
  have hT : e_TS M1 F := by
    obtain ⟨o1, o2, o3, o4, o5, o6, o7, o8, o9⟩ := vO
    rw [← hM1]
    exact ⟨⟨o1, o2, o3, o4, o5, o6, (by decide : 0 ≤ (0 : Int32).toInt ∧ (0 : Int32).toInt ≤ 200), o8, o9⟩, (show 0 ≤ (0 : Int32).toInt ∧ (0 : Int32).toInt ≤ s.toInt ∧ s.toInt ≤ 5000 from by rw [e_z0]; omega)⟩
  refine p_deals (G := G) (B := (M 27).toInt) (N := (M 28).toInt) (E := E) (T := T) (V := V) (h := 400 * M 27 + h) (by omega) n 2 M1 F _ (by decide) (by omega) hC hT (fun M2 F2 x2 s2 => ?_)
  have xr : e_XR M F M2 F2 := e_XR_tr (e_XR_of c1 (by decide) (by decide)) x2
  have fin : ∀ (ks : List Nat) (M3 : e_M) (v : Int32), e_hc ks [] M2 F2 M3 F2 → (∀ k, k ∈ ks → 74 ≤ k ∧ k ≤ 77) → (v = M2 73 ∨ v = 0) → ∀ r : Int32, Q r (um M3 83 v) F2 := by
    intro ks M3 v c hk hv r
    have xr3 : e_XR M F (um M3 83 v) F2 := e_XR_tr xr ⟨fun k h => (e_um_ne (by omega)).trans (c.1 k (fun q => by have := hk k q; omega)), fun _ _ => rfl⟩
    have k1 : um M3 83 v 1 = M 1 := xr3.1 1 (by decide)
    have k27 : um M3 83 v 27 = M 27 := xr3.1 27 (by decide)
    have k28 : um M3 83 v 28 = M 28 := xr3.1 28 (by decide)
    obtain ⟨o1, o2, o3, o4, o5, o6, o7, o8, o9⟩ := s2.1
    have n54 : M3 54 = M2 54 := c.1 54 (fun q => by have := hk 54 q; omega)
    have n80 : M3 80 = M2 80 := c.1 80 (fun q => by have := hk 80 q; omega)
    have n73 : M3 73 = M2 73 := c.1 73 (fun q => by have := hk 73 q; omega)
    have hO3 : e_OB (um M3 83 v) F2 := by
      have hv' : 0 ≤ v.toInt ∧ v.toInt ≤ (M2 54).toInt := by
        rcases hv with q | q
        · rw [q]; exact o9
        · rw [q, e_z0]; omega
      unfold e_OB
      have u54 : um M3 83 v 54 = M2 54 := n54
      have u80 : um M3 83 v 80 = M2 80 := n80
      have u73 : um M3 83 v 73 = M2 73 := n73
      have u83 : um M3 83 v 83 = v := e_um_eq
      rw [u54, u80, u73, u83]
      exact ⟨o1, o2, o3, o4, o5, o6, o7, hv', o9⟩
    refine hQ r _ F2 ⟨by rw [k1]; exact v1, ?_, hO3⟩ k1
    rw [k27, k28]
    exact ⟨G, E, T, V, e_SC_xr xr hC⟩
  have h158 : ∀ (ks : List Nat) (M3 : e_M) (t : Int32), e_hc ks [] M2 F2 M3 F2 → (∀ k, k ∈ ks → 74 ≤ k ∧ k ≤ 77) → w_trial_158 (wf_dl n) Q t M3 F2 := by
    intro ks M3 t c hk
    have c' : e_hc (76 :: ks) [] M2 F2 (um M3 76 t) F2 := e_hc_um _ (List.mem_cons_self) (e_hc_tr c (e_hc_rf [] [] M3 F2) (fun k h => List.mem_cons_of_mem _ h) (fun _ h => absurd h List.not_mem_nil) (by decide) (by decide))
    have hk' : ∀ k, k ∈ 76 :: ks → 74 ≤ k ∧ k ≤ 77 := fun k h => by
      rcases List.mem_cons.mp h with q | q
      · omega
      · exact hk k q
    have n73 : M3 73 = M2 73 := c.1 73 (fun q => by have := hk 73 q; omega)
    have f73 := fun r => fin (76 :: ks) (um M3 76 t) (M3 73) c' hk' (Or.inl n73) r
    exact ⟨fun _ => f73 _, fun _ => ⟨fun _ => fin (76 :: ks) (um M3 76 t) 0 c' hk' (Or.inr rfl) _, fun _ => f73 _⟩⟩
  have h142 : ∀ (ks : List Nat) (M3 : e_M), e_hc ks [] M2 F2 M3 F2 → (∀ k, k ∈ ks → 74 ≤ k ∧ k ≤ 77) → w_trial_142 (wf_dl n) Q M3 F2 := fun ks M3 c hk => ⟨fun _ => h158 ks M3 0 c hk, fun _ => h158 ks M3 (M3 74) c hk⟩
  have h127 : ∀ t : Int32, w_trial_127 (wf_dl n) Q t M2 F2 := fun t => ⟨fun _ => h142 [75] _ (e_hc_um _ (by decide) (e_hc_rf _ _ M2 F2)) (by decide), fun _ => h142 [75, 77] _ (e_hc_um _ (by decide) (e_hc_um _ (by decide) (e_hc_rf _ _ M2 F2))) (by decide)⟩
  exact ⟨fun _ => ⟨fun _ => ⟨fun _ => h127 0, fun _ => h127 2⟩, fun _ => h127 1⟩, fun _ => h127 3⟩
