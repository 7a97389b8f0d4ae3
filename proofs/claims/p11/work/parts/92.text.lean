/-- no name is told in this hearing yet -/
def e_ns (M : e_M) (F : e_F) : Prop := 0 ≤ (M 30).toInt ∧ ∀ w : Nat, (w : Int) < (M 12).toInt → (F 9 w).toInt < (M 30).toInt
theorem p_passT {M : e_M} {F : e_F} {G : e_G} {Q : e_M → e_F → Prop} (hI : e_PI (e_J M) F) (hb : (M 36).toInt = -1) (hS : e_ns M F) (hQ : ∀ (M' : e_M) (F' : e_F), e_PI (e_J M') F' → e_PR (e_J M) F G (e_J M') F' G → e_SM M M' → (M 3).toInt ≤ (M' 6).toInt → e_ns M' F' → Q M' F') : w_pass M F Q := by
  have hm : M 36 = -1 := Int32.toInt_inj.mp (by rw [hb]; decide)
  refine ⟨fun _ => ⟨fun q => absurd rfl q, fun _ => p_next (M := M) hI.1 (fun M' F' hx hl ht => ?_)⟩, fun q => absurd hm q⟩
  obtain ⟨x0, x1, x2, nx⟩ := hx
  refine e_passX (M := e_J M) (M' := e_J M') (F' := F') (G := G) hI ⟨fun k a b c d e => e_J_cg (x0 k a b c d e), x1, x2, nx⟩ hl ht (fun a b _ d => hQ M' F' a b x0 d ?_)
  have h30 : M' 30 = M 30 := x0 30 (by decide) (by decide) (by decide) (by decide) (by decide)
  obtain ⟨-, -, y3, y4, y5⟩ := nx
  refine ⟨by rw [h30]; exact hS.1, fun w hw => ?_⟩
  rw [h30]
  by_cases q : (w : Int) < (M 12).toInt
  · rw [(y4 w q).2.2.1]; exact hS.2 w q
  · rw [(y5 w (by omega) hw).2.2.1, e_m1]; have := hS.1; omega
theorem p_needWordT {c : Int32} (j : Nat) (hj : c.toInt = j) {M : e_M} {F : e_F} (G : e_G) {Q : e_M → e_F → Prop} (hI : e_PI (e_J M) F) (hS : e_ns M F) (hQ : ∀ (M' : e_M) (F' : e_F), e_P (e_w2.getD j 0 : Nat) (e_J M) F G (e_J M') F' → M' 33 = M 33 → ((M' 36).toInt = -1 → e_ns M' F') → Q M' F') : w_needWord c M F Q := by
  refine p_isWord (fun _ => ⟨fun _ => p_fail (fun M' h hb => ?_) (show 0 ≤ (M 6).toInt from e_PI_s (M := e_J M) hI), fun q => absurd rfl q⟩) (fun hb h4 h5 => ⟨fun q => absurd q (by decide), fun _ => p_passT (G := G) hI hb hS (fun M' F' a b c d e => ?_)⟩)
  · obtain ⟨x, y⟩ := e_P_fail (M' := e_J M') G (e_w2.getD j 0 : Nat) hI (fun k a => e_J_cg (h k a)) hb
    exact hQ _ _ x y (fun q => absurd q hb)
  · have : (M 3).toInt - (M 6).toInt = (e_w2.getD j 0 : Nat) := e_len (M := e_J M) hI h4 j (show (M 5).toInt = j from by rw [h5]; exact hj)
    obtain ⟨x, y⟩ := e_P_pass (M := e_J M) (M' := e_J M') (c := (e_w2.getD j 0 : Nat)) a b (fun k a b c' d e => e_J_cg (c k a b c' d e)) d (show (M 6).toInt + _ ≤ (M 3).toInt from by omega)
    exact hQ _ _ x y (fun _ => e)
theorem p_takenT {M : e_M} {F : e_F} (G : e_G) {Q : Int32 → e_M → e_F → Prop} (hI : e_PI (e_J M) F) (hS : (M 36).toInt = -1 → e_ns M F) (hQ : ∀ (r : Int32) (M' : e_M) (F' : e_F), e_P 1 (e_J M) F G (e_J M') F' → M' 33 = M 33 → M' 47 = M 6 → ((M' 36).toInt = -1 → (0 ≤ r.toInt ∧ r.toInt < (M' 12).toInt) ∧ e_ns M' F') → Q r M' F') : w_taken 1 M F Q := by
  have hJ : ∀ k, k ≠ 47 → e_J (um M 47 (M 6)) k = e_J M k := fun k a => e_J_cg (e_um_ne a)
  have hI2 : e_PI (e_J (um M 47 (M 6))) F := e_PI_go (fun k _ a _ => hJ k a) hI
  have hR2 : e_PR (e_J M) F G (e_J (um M 47 (M 6))) F G := e_PR_go (fun k _ a _ _ => hJ k a) (fun h => h)
  have h23 : w_taken_23 Q (um M 47 (M 6)) F := by
    refine p_fail (fun M' h hb => ?_) (show 0 ≤ (M 6).toInt from e_PI_s (M := e_J M) hI)
    obtain ⟨x, y⟩ := e_P_fail (M' := e_J M') G 1 hI2 (fun k a => e_J_cg (h k a)) hb
    exact hQ 0 _ _ ⟨x.1, e_PR_tr hR2 x.2.1, x.2.2.1, fun q => absurd q hb⟩ y (h 47 (by decide)) (fun q => absurd q hb)
  refine ⟨fun hb => ⟨fun q => absurd rfl q, fun _ => ⟨fun h4 => ?_, fun _ => h23⟩⟩, fun hb => ⟨fun _ => h23, fun q => absurd q (by decide)⟩⟩
  have hb' : (M 36).toInt = -1 := by rw [show M 36 = -1 from hb]; decide
  refine p_passT (G := G) hI2 hb' (hS hb') (fun M' F' a b c d e => ?_)
  have h4' : M 4 = 1 := h4
  have h4i : (M 4).toInt = 1 := by rw [h4']; decide
  have h9 : (M 6).toInt < (M 3).toInt := hI.2.2.1 (show (M 4).toInt ≠ 0 from by omega)
  obtain ⟨x, y⟩ := e_P_pass (M := e_J (um M 47 (M 6))) (M' := e_J M') (c := 1) a b (fun k a b c' d e => e_J_cg (c k a b c' d e)) d (show (M 6).toInt + 1 ≤ (M 3).toInt from by omega)
  have hm : (M 12).toInt ≤ (M' 12).toInt := b.1.2.1.2.2.2.2.1
  obtain ⟨w1, -⟩ := hI.2.1.1 h4i
  have w1' : 0 ≤ (M 5).toInt ∧ (M 5).toInt < (M 12).toInt := w1
  exact hQ _ _ _ ⟨x.1, e_PR_tr hR2 x.2.1, x.2.2.1, x.2.2.2⟩ y (c 47 (by decide) (by decide) (by decide) (by decide) (by decide)) (fun _ => ⟨(show 0 ≤ (M 5).toInt ∧ (M 5).toInt < (M' 12).toInt from by omega), e⟩)
theorem e_TG_of {M M1 : e_M} {F F1 : e_F} {G : e_G} (h : e_TF M F G) (x : e_P 8 (e_J M) F G (e_J M1) F1) (hb : (M1 36).toInt = -1) (y : M1 33 = M 33) (hS : e_ns M1 F1) : e_TG M1 F1 G := by
  obtain ⟨hI, h33, -, ⟨n1, n2, n3, n4, n5⟩, hHP, hgd⟩ := h
  obtain ⟨xI, xP, ⟨e29', e31', e32', e46'⟩, x6⟩ := x
  have e29 : M1 29 = M 29 := e29'
  have e31 : M1 31 = M 31 := e31'
  have e32 : M1 32 = M 32 := e32'
  have e46 : M1 46 = M 46 := e46'
  have m6 : (M 6).toInt + 8 ≤ (M1 6).toInt := x6 hb
  have e27 : M1 27 = M 27 := xP.1.1.1
  have e30 : M1 30 = M 30 := xP.1.1.2.2.1
  have een : e_en M1 = e_en M := by unfold e_en; rw [e27, e29]
  have bb : 0 ≤ (M 27).toInt ∧ (M 27).toInt ≤ 1 := e_PI_b (M := e_J M) hI
  have P18 : F1 18 = F 18 := xP.2.1.2.2.2.1.1
  have P19 : F1 19 = F 19 := xP.2.1.2.2.2.1.2.1
  refine ⟨xI, hb, by rw [y]; exact h33, hS.2, ?_, fun h38 => ?_, fun g => ?_⟩
  · rw [e29, e31, e32, e46, e30]; omega
  · have h38_0 : (M 38).toInt = -1 := by
      by_cases q : (M 38).toInt = -1
      · exact q
      · exact absurd h38 (xP.1.2.2.2 q)
    intro r h1 h2
    rw [P19]
    rw [e27] at h1 h2
    rw [e30] at h2
    exact hHP h38_0 r h1 h2
  · have g0 : e_gd M F := e_PR_gd (M := e_J M) (M' := e_J M1) xP g
    obtain ⟨a1, a2, a3, a4⟩ := hgd g0
    rw [een]
    have sg : e_SG e_z (e_J M1) F1 G (e_en M) := e_SG_tr (M := e_J M) (L := e_en M) xP bb.1 (Int.le_refl _) (show 9000 * (M 27).toInt + (M 29).toInt ≤ 9000 * (M 27).toInt + (M 29).toInt + 1 from by omega) a1 (e_SG_rf e29 e31 e32)
    refine ⟨sg, fun r h1 h2 => ?_, a3, a4⟩
    rw [een, e27, P18]
    rw [e27] at h1 h2
    rw [e30] at h2
    exact a2 r h1 h2
theorem e_TG_11 {M : e_M} {F : e_F} {G : e_G} (w : Int32) (h : e_TG M F G) : e_TG M (uf F 11 w (M 30)) G := by
  obtain ⟨⟨j1, j2, j3, j4, ⟨j5, j5'⟩, j6⟩, hb, h33, hS, hn, hHP, hgd⟩ := h
  have i30 : 0 ≤ (M 30).toInt := j4.2.2.2.2.2.2
  refine ⟨⟨j1, j2, j3, j4, ⟨fun v hv => ?_, j5'⟩, j6⟩, hb, h33, hS, hn, hHP, hgd⟩
  obtain ⟨a, b, c⟩ := j5 v hv
  by_cases q : v = w.toNatClampNeg
  · have e : (uf F 11 w (M 30)) 11 v = M 30 := by rw [q]; exact e_upd_eq
    rw [e]
    exact ⟨a, (show -1 ≤ (M 30).toInt from by omega), Int.le_refl _⟩
  · have e : (uf F 11 w (M 30)) 11 v = F 11 v := e_upd_ne q
    rw [e]
    exact ⟨a, b, c⟩
theorem e_TG_37 {M : e_M} {F : e_F} {G : e_G} (v : Int32) (h : e_TG M F G) : e_TG (um M 37 v) F G := ⟨e_PI_go (fun k _ _ a => e_J_cg (e_um_ne a)) h.1, h.2⟩
theorem e_TG_38 {M : e_M} {F : e_F} {G : e_G} (v : Int32) (hv : v.toInt ≠ -1) (h : e_TG M F G) : e_TG (um M 38 v) F G := by
  obtain ⟨hI, hb, h33, hS, hn, hHP, hgd⟩ := h
  have e : e_J (um M 38 v) = um (e_J M) 38 v := by
    funext k
    by_cases q : k = 38
    · subst q; rfl
    · rw [e_J_cg (e_um_ne q), e_um_ne q]
  exact ⟨by rw [e]; exact (e_P_38 G v hv hI).1, hb, h33, hS, hn, fun q => absurd q hv, fun q => absurd q.2.1 hv⟩
def e_TI (M0 : e_M) (F0 : e_F) (M : e_M) (F : e_F) (G : e_G) : Prop := e_TR M0 F0 M F ∧ ((M 36).toInt = -1 → e_TF M F G)
theorem p_text {WB : e_M → e_F → (e_M → e_F → Prop) → Prop} {n : Nat} (hB : e_BK WB n) (hn : 21 ≤ n) {M0 M : e_M} {F0 F : e_F} {G : e_G} {Q : e_M → e_F → Prop} (hT : e_TI M0 F0 M F G) (hQ : ∀ (M' : e_M) (F' : e_F) (G' : e_G), e_TI M0 F0 M' F' G' → Q M' F') : w_text WB M F Q := by
  have z0 : ¬ (1 : Int32) = 0 := by decide
  have key : ∀ (k : Nat) (M1 : e_M) (F1 : e_F) (G1 : e_G), e_TI M0 F0 M1 F1 G1 → ((M1 36).toInt = -1 → 4001 - (M1 6).toInt < k) → 1 ≤ k → w_text_0 WB Q k M1 F1 := by
    intro k
    induction k with
    | zero => intro M1 F1 G1 _ _ q; exact absurd q (by omega)
    | succ k ih =>
      intro M1 F1 G1 h1 hk _
      dsimp only [w_text_0]
      refine ⟨fun hb => ⟨fun q => absurd rfl q, fun _ => ⟨fun _ => hQ M1 F1 G1 h1, fun h4 => ?_⟩⟩, fun hb => ⟨fun _ => hQ M1 F1 G1 h1, fun q => absurd q z0⟩⟩
      have hb' : (M1 36).toInt = -1 := by rw [hb]; decide
      have hF := h1.2 hb'
      have hI := hF.1
      have hA : e_PA (e_J M1) := hI.2.2.2.1
      have hS : e_ns M1 F1 := ⟨hA.2.2.2.2.2.2, fun w hw => (hF.2.2.1 w hw).1⟩
      have hk1 := hk hb'
      have s1 : 0 ≤ (M1 6).toInt ∧ (M1 6).toInt ≤ (M1 3).toInt ∧ (M1 3).toInt ≤ 4000 := e_PI_e (M := e_J M1) hI
      refine p_needWordT 0 (by decide) G1 hI hS (fun M3 F3 x3 y3 n3 => p_takenT G1 x3.1 n3 (fun w M5 F5 x5 y5 s5 hw => ?_))
      have x := e_P_tr (c3 := 8) x3 x5 (by show (8 : Int) ≤ ((e_w2.getD 0 0 : Nat) : Int) + 1; decide)
      have tr5 := e_TR_tr h1.1 (e_TR_J (e_TR_PR x.2.1 hI.2.2.2.1))
      refine ⟨fun hb5 => ⟨fun _ => ?_, fun q => absurd rfl q⟩, fun hb5 => ⟨fun q => absurd q z0, fun _ => hQ M5 F5 G1 ⟨tr5, fun q => absurd q (fun q => ti_ne hb5 (by rw [q]; decide))⟩⟩⟩
      have hb5' : (M5 36).toInt = -1 := by rw [hb5]; decide
      obtain ⟨w1, w2⟩ := hw hb5'
      have tg := e_TG_of hF x hb5' (y5.trans y3) w2
      have n5 : 0 ≤ (M5 12).toInt ∧ (M5 12).toInt < 2100 := e_PI_n (M := e_J M5) x5.1
      have m6 : (M1 6).toInt + 8 ≤ (M5 6).toInt := x.2.2.2 hb5'
      have hv : vp_in w 2100 := vp_in_iff.mpr (by omega)
      have h47 : 0 ≤ (M5 47).toInt := by rw [s5]; exact (show 0 ≤ (M3 6).toInt from e_PI_s (M := e_J M3) x3.1)
      have h95 : ∀ (M6 : e_M) (F6 : e_F), e_TG M6 F6 G1 → e_TR M0 F0 M6 F6 → (M1 6).toInt + 8 ≤ (M6 6).toInt → w_text_95 WB (w_text_0 WB Q k) Q M6 F6 := by
        intro M6 F6 tg6 tr6 m6'
        refine p_hearing hB hn tg6 (fun M7 F7 G7 tr7 h7 m7 => ?_)
        refine ih (um M7 30 (M7 30 + 1)) F7 G7 ⟨e_TR_tr tr6 (e_TR_tr tr7 ?_), h7⟩ (fun g => ?_) (by omega)
        · exact ⟨⟨rfl, rfl, rfl, rfl, fun k hk => e_um_ne (by omega)⟩, fun _ _ => ⟨rfl, rfl, rfl, rfl⟩, fun _ _ => ⟨⟨rfl, rfl⟩, ⟨rfl, rfl, rfl⟩, ⟨rfl, rfl, rfl, rfl⟩⟩, rfl, fun _ _ => rfl, fun _ _ => rfl⟩
        · show 4001 - (M7 6).toInt < k
          omega
      have h71 : ∀ (M6 : e_M) (F6 : e_F), e_TG M6 F6 G1 → e_TR M0 F0 M6 F6 → (M1 6).toInt + 8 ≤ (M6 6).toInt → 0 ≤ (M6 47).toInt → w_text_71 WB (w_text_0 WB Q k) Q M6 F6 := by
        intro M6 F6 tg6 tr6 m6' h47'
        refine ⟨fun _ => h95 M6 F6 tg6 tr6 m6', fun _ => p_least h47' (fun r hr => h95 (um M6 38 r) F6 (e_TG_38 r hr tg6) (e_TR_tr tr6 ?_) m6')⟩
        exact ⟨⟨rfl, rfl, rfl, rfl, fun k hk => e_um_ne (by omega)⟩, fun _ _ => ⟨rfl, rfl, rfl, rfl⟩, fun _ _ => ⟨⟨rfl, rfl⟩, ⟨rfl, rfl, rfl⟩, ⟨rfl, rfl, rfl, rfl⟩⟩, rfl, fun _ _ => rfl, fun _ _ => rfl⟩
      refine ⟨hv, fun _ => ⟨hv, h71 M5 _ (e_TG_11 w tg) (e_TR_tr tr5 ?_) m6 h47⟩, fun _ => p_least h47 (fun r hr => h71 (um M5 37 r) F5 (e_TG_37 r tg) (e_TR_tr tr5 ?_) m6 h47)⟩
      · exact ⟨⟨rfl, rfl, rfl, rfl, fun _ _ => rfl⟩, fun _ _ => ⟨rfl, rfl, rfl, rfl⟩, fun _ _ => ⟨⟨rfl, rfl⟩, ⟨rfl, rfl, rfl⟩, ⟨rfl, rfl, rfl, rfl⟩⟩, rfl, fun r hr => e_uf_ne (by omega), fun _ _ => rfl⟩
      · exact ⟨⟨rfl, rfl, rfl, rfl, fun k hk => e_um_ne (by omega)⟩, fun _ _ => ⟨rfl, rfl, rfl, rfl⟩, fun _ _ => ⟨⟨rfl, rfl⟩, ⟨rfl, rfl, rfl⟩, ⟨rfl, rfl, rfl, rfl⟩⟩, rfl, fun _ _ => rfl, fun _ _ => rfl⟩
  refine ⟨5000, key 5000 M F G hT (fun g => ?_) (by decide)⟩
  have : 0 ≤ (M 6).toInt ∧ (M 6).toInt ≤ (M 3).toInt ∧ (M 3).toInt ≤ 4000 := e_PI_e (M := e_J M) (hT.2 g).1
  omega
