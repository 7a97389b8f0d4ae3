/-! ONE CODE'S DEED. -/
theorem p_push {v : Int32} {M : e_M} {F : e_F} {Q : e_M → e_F → Prop} (h : 0 ≤ (M 69).toInt ∧ (M 69).toInt < 64) (hQ : ∀ (M' : e_M) (F' : e_F), e_hc [69] [68] M F M' F' → (M' 69).toInt = (M 69).toInt + 1 → Q M' F') : w_push v M F Q := by
  have l1 : (1 : Int32).toInt = 1 := by decide
  have e := ti_addx (M 69) 1 (by omega)
  exact ⟨vp_in_iff.mpr (by omega), hQ _ _ (e_hc_uf _ _ (by decide) (e_hc_um _ (by decide) (e_hc_rf _ _ M F))) (show (M 69 + 1).toInt = _ from by omega)⟩
theorem p_pop {M : e_M} {F : e_F} {Q : Int32 → e_M → e_F → Prop} (h : 1 ≤ (M 69).toInt ∧ (M 69).toInt ≤ 64) (hQ : ∀ (r : Int32) (M' : e_M), e_hc [69] [] M F M' F → (M' 69).toInt = (M 69).toInt - 1 → Q r M' F) : w_pop M F Q := by
  have l1 : (1 : Int32).toInt = 1 := by decide
  have e := ti_subx (M 69) 1 (by omega)
  exact ⟨vp_in_iff.mpr (by omega), hQ _ _ (e_hc_um _ (by decide) (e_hc_rf _ _ M F)) (show (M 69 - 1).toInt = _ from by omega)⟩
theorem p_obj {x : Int32} {M : e_M} {F : e_F} {Q : Int32 → e_M → e_F → Prop} (hO : e_OB M F) (h62 : 1 ≤ (M 62).toInt ∧ (M 62).toInt ≤ 12) (hx : 0 ≤ x.toInt ∧ x.toInt < 8) (hQ : ∀ v : Int32, v = F 58 (8 * (M 62 - 1) + x).toNatClampNeg → (0 ≤ v.toInt ∧ v.toInt ≤ (M 54).toInt) → Q v M F) : w_obj x M F Q := by
  have e := e_ix8 h62 hx
  refine ⟨vp_in_iff.mpr (by omega), fun v hv => hQ v hv ?_⟩
  rw [hv, e_tc, e]
  exact hO.2.2.1 _ (by omega)
theorem p_hold_ {x o : Int32} {M : e_M} {F : e_F} {Q : e_M → e_F → Prop} (hO : e_OB M F) (h62 : 1 ≤ (M 62).toInt ∧ (M 62).toInt ≤ 12) (hx : 0 ≤ x.toInt ∧ x.toInt < 8) (ho : 0 ≤ o.toInt ∧ o.toInt ≤ (M 54).toInt) (hQ : ∀ F' : e_F, e_hc [] [58] M F M F' → e_OB M F' → Q M F') : w_hold_ x o M F Q := by
  have e := e_ix8 h62 hx
  exact ⟨vp_in_iff.mpr (by omega), hQ _ (e_hc_uf _ _ (by decide) (e_hc_rf _ _ M F)) (e_OB_58 hO ho)⟩
def e_CX (G : e_G) (B N E T V : Int) (M : e_M) (F : e_F) (f ot : Nat) : Prop := e_SC G B N E T V F ∧ e_RUN G B E T M F f ot ∧ e_TS M F
def e_ks : List Nat := [54, 55, 56, 69, 70, 71, 80]
def e_rs : List Nat := [48, 49, 50, 51, 52, 53, 57, 58, 68, 84]
def e_cs (M : e_M) (F : e_F) (M' : e_M) (F' : e_F) : Prop := e_hc e_ks e_rs M F M' F'
theorem e_cs_tr {ks rs : List Nat} {M M1 M2 : e_M} {F F1 F2 : e_F} (a : e_cs M F M1 F1) (b : e_hc ks rs M1 F1 M2 F2) (h1 : ∀ k, k ∈ ks → k ∈ e_ks) (h2 : ∀ r, r ∈ rs → r ∈ e_rs) : e_cs M F M2 F2 := e_hc_tr a b (fun _ h => h) h1 (fun _ h => h) h2
theorem e_cs_70 {M : e_M} {F : e_F} (v : Int32) : e_cs M F (um M 70 v) F := e_hc_um v (by decide) (e_hc_rf _ _ M F)
theorem e_op_n {F : e_F} {G : e_G} {B N E T : Int} {k j : Nat} (o : e_op F G B N E T k) (hn : (F 13 k).toInt = (j : Int)) : (0 ≤ G 1 k ∧ G 1 k ≤ 20) ∧ e_opc F G B N E T k (F 14 k).toInt (F 15 k).toInt (F 16 k).toInt (G 0 k) (G 0 (k + 1)) (G 1 k) (G 1 (k + 1)) j := by
  obtain ⟨m, o1, o2, o3⟩ := o
  have : m = j := by omega
  subst this
  exact ⟨o2, o3⟩
theorem e_CX_op {G : e_G} {B N E T V : Int} {M : e_M} {F : e_F} {f ot : Nat} (X : e_CX G B N E T V M F f ot) : e_op F G B N E T (M 70).toInt.toNat ∧ (((M 70).toInt.toNat : Nat) : Int) = (M 70).toInt ∧ (0 ≤ (M 70).toInt ∧ (M 70).toInt < 18000) ∧ (M 70 + 1).toInt = (M 70).toInt + 1 ∧ (M 70 + 1).toInt.toNat = (M 70).toInt.toNat + 1 := by
  obtain ⟨hC, hR, hS⟩ := X
  have l1 : (1 : Int32).toInt = 1 := by decide
  obtain ⟨⟨b0, b1⟩, -, ⟨b2, b3⟩, -⟩ := hC.1
  obtain ⟨p1, p2⟩ := hR.2.2.1
  have e := ti_addx (M 70) 1 (by omega)
  exact ⟨hC.2.1 _ (by omega) (by omega), by omega, by omega, by omega, by omega⟩
theorem e_CX_ot {G : e_G} {B N E T V : Int} {M : e_M} {F : e_F} {f ot : Nat} (X : e_CX G B N E T V M F f ot) : e_b F (f - 1) ≤ ot ∧ ot ≤ 240 ∧ ot ≤ 20 * f := by
  obtain ⟨⟨n, -, o2, -⟩, -⟩ := e_CX_op X
  obtain ⟨hC, hR, hS⟩ := X
  obtain ⟨⟨a1, a2, a3, a4⟩, b, p, d, e⟩ := hR
  have := b.1.1 (f - 1) (by omega)
  omega
theorem e_CX_a {G : e_G} {B N E T V : Int} {M : e_M} {F : e_F} {f ot : Nat} (X : e_CX G B N E T V M F f ot) (n : Nat) (hn : (F 13 (M 70).toInt.toNat).toInt = (n : Int)) (h18 : n < 18 ∧ n ≠ 0 ∧ n ≠ 5) : (e_lo n ≤ (M 69).toInt ∧ (M 69).toInt ≤ e_hi n) ∧ ((M 70).toInt + 1 < E ∧ G 0 ((M 70).toInt.toNat + 1) = (M 69).toInt + e_dl n ∧ G 1 ((M 70).toInt.toNat + 1) = G 1 (M 70).toInt.toNat) ∧ (e_al n ≤ (F 14 (M 70).toInt.toNat).toInt ∧ (F 14 (M 70).toInt.toNat).toInt < e_ah n) ∧ (e_bl n ≤ (F 15 (M 70).toInt.toNat).toInt ∧ (F 15 (M 70).toInt.toNat).toInt < e_bh n) ∧ (F 16 (M 70).toInt.toNat).toInt < e_ch n := by
  obtain ⟨ho, hk, -⟩ := e_CX_op X
  obtain ⟨o2, o3⟩ := e_op_n ho hn
  have hR := X.2.1.2.2.2.1
  have hlo : 0 ≤ e_lo n := by
    have : ∀ m : Nat, m < 18 → 0 ≤ e_lo m := by decide
    exact this n h18.1
  rcases o3 with q | q | q | q | q | q | q | q | q
  · obtain ⟨q0, ⟨q1, q2⟩, q3, q4, q5, q6, q7, q8⟩ := q
    have e : (M 69).toInt = G 0 (M 70).toInt.toNat := by omega
    exact ⟨by omega, ⟨by omega, by omega, q4⟩, q6, q7, q8⟩
  · exact absurd q.1 (by omega)
  · exact absurd q.1 (by omega)
  · exact absurd q.1 (by omega)
  · exact absurd q.1 (by omega)
  · exact absurd q.1 (by omega)
  · exact absurd q.1 (by omega)
  · exact absurd q.1 (by omega)
  · exact absurd q.1 (by omega)
theorem e_dl_0 : ∀ n : Nat, n < 18 → 0 ≤ e_lo n + e_dl n := by decide
theorem e_CX_go {G : e_G} {B N E T V : Int} {M M' : e_M} {F F' : e_F} {f ot : Nat} (X : e_CX G B N E T V M F f ot) (n : Nat) (hn : (F 13 (M 70).toInt.toNat).toInt = (n : Int)) (h18 : n < 18 ∧ n ≠ 0 ∧ n ≠ 5) (c : e_cs M F M' F') (hO : e_OB M' F') (h70 : M' 70 = M 70 + 1) (h69 : (M' 69).toInt = (M 69).toInt + e_dl n) : e_QA G B E T M F f ot M' F' := by
  obtain ⟨a1, ⟨a2, a3, a4⟩, -⟩ := e_CX_a X n hn h18
  obtain ⟨-, hk, ⟨k1, k2⟩, k3, k4⟩ := e_CX_op X
  have d0 := e_dl_0 n h18.1
  have p := X.2.1.2.2.1
  refine e_QA_go X.1 X.2.1 X.2.2 (fun q => ?_) c (by decide) (by decide) (by decide) (by decide) hO (by rw [h70]; omega) (by rw [h70, k4, a3]; exact h69) (by omega) (by rw [h70, k4]; exact a4) (Or.inl (by rw [h70]; omega))
  rw [q, e_z0] at hn
  omega
theorem e_CX_ov {G : e_G} {B N E T V : Int} {M M' : e_M} {F F' : e_F} {f ot : Nat} (X : e_CX G B N E T V M F f ot) (c : e_cs M F M' F') (hO : e_OB M' F') (h71 : M' 71 = 1) : e_QA G B E T M F f ot M' F' := e_QA_ov X.2.2 c (by decide) (by decide) (by decide) hO h71
theorem e_CX_fs {G : e_G} {B N E T V : Int} {M M' : e_M} {F F' : e_F} {f ot : Nat} (X : e_CX G B N E T V M F f ot) (c : e_cs M F M' F') : e_SC G B N E T V F' ∧ ((M' 62).toInt = f ∧ (M' 67).toInt = ot) ∧ e_FS G B E T F' f ot ∧ e_b F' (f - 1) ≤ ot := by
  have xr : e_XR M F M' F' := e_XR_of c (by decide) (by decide)
  have r59 : F' 59 = F 59 := c.2 59 (by decide)
  have r60 : F' 60 = F 60 := c.2 60 (by decide)
  have r61 : F' 61 = F 61 := c.2 61 (by decide)
  have r63 : F' 63 = F 63 := c.2 63 (by decide)
  have r64 : F' 64 = F 64 := c.2 64 (by decide)
  have e62 : M' 62 = M 62 := c.1 62 (by decide)
  have e67 : M' 67 = M 67 := c.1 67 (by decide)
  have ot' := e_CX_ot X
  refine ⟨e_SC_xr xr X.1, ⟨by rw [e62]; exact X.2.1.1.1, by rw [e67]; exact X.2.1.1.2.1⟩, e_FS_cg r59 r60 r61 r63 (fun j => Or.inl (by rw [r64])) X.2.1.2.1, ?_⟩
  have : e_b F' (f - 1) = e_b F (f - 1) := by unfold e_b; rw [r61]
  omega
theorem e_CX_62 {G : e_G} {B N E T V : Int} {M M' : e_M} {F F' : e_F} {f ot : Nat} (X : e_CX G B N E T V M F f ot) (c : e_cs M F M' F') : 1 ≤ (M' 62).toInt ∧ (M' 62).toInt ≤ 12 := by
  have e62 : M' 62 = M 62 := c.1 62 (by decide)
  obtain ⟨a1, a2, a3, a4⟩ := X.2.1.1
  rw [e62]; omega
theorem e_CX_rs {G : e_G} {B N E T V : Int} {M M' : e_M} {F F' : e_F} {f ot : Nat} {k g cs : Int32} {Q : e_M → e_F → Prop} (X : e_CX G B N E T V M F f ot) (c : e_cs M F M' F') (hO : e_OB M' F') (hk : 0 ≤ k.toInt ∧ k.toInt ≤ 6) (hc : 0 ≤ cs.toInt ∧ cs.toInt ≤ (M' 54).toInt) (hQ : ∀ (M2 : e_M) (F2 : e_F), e_QA G B E T M F f ot M2 F2 → Q M2 F2) : w_raises k g cs M' F' Q := by
  obtain ⟨s, ⟨h62, h67⟩, fs, hb⟩ := e_CX_fs X c
  obtain ⟨-, -, a3, a4⟩ := X.2.1.1
  exact p_raises s hO hk hc h62 h67 ⟨a3, a4⟩ fs hb (e_CX_ot X).2.1 (fun M2 F2 p => hQ M2 F2 (e_QA_PO X.2.2 c (by decide) (by decide) (by decide) (by decide) p))
theorem e_CX_r {G : e_G} {B N E T V : Int} {M M' : e_M} {F F' : e_F} {f ot : Nat} {o : Int32} {Q : e_M → e_F → Prop} (X : e_CX G B N E T V M F f ot) (c : e_cs M F M' F') (hO : e_OB M' F') (ho : 1 ≤ o.toInt ∧ o.toInt ≤ (M' 54).toInt) (hQ : ∀ (M2 : e_M) (F2 : e_F), e_QA G B E T M F f ot M2 F2 → Q M2 F2) : w_raise o M' F' Q := by
  obtain ⟨s, ⟨h62, h67⟩, fs, hb⟩ := e_CX_fs X c
  obtain ⟨-, -, a3, a4⟩ := X.2.1.1
  exact p_raise s hO ho h62 h67 ⟨a3, a4⟩ fs hb (e_CX_ot X).2.1 (fun M2 F2 p => hQ M2 F2 (e_QA_PO X.2.2 c (by decide) (by decide) (by decide) (by decide) p))
theorem p_countX {G : e_G} {B N E T V : Int} {M : e_M} {F : e_F} {f ot : Nat} {Q : e_M → e_F → Prop} (X : e_CX G B N E T V M F f ot) (hn : (F 13 (M 70).toInt.toNat).toInt = ((6 : Nat) : Int)) (hQ : ∀ (M2 : e_M) (F2 : e_F), e_QA G B E T M F f ot M2 F2 → Q M2 F2) (a : Int32) : w_count a (um M 70 (M 70 + 1)) F Q := by
  obtain ⟨⟨a1, a2⟩, -⟩ := e_CX_a X 6 hn (by decide)
  have a1' : 2 ≤ (M 69).toInt := a1
  have a2' : (M 69).toInt ≤ 62 := a2
  have hO := X.2.2.1
  refine p_pop (show 1 ≤ (M 69).toInt ∧ (M 69).toInt ≤ 64 from by omega) (fun r1 M2 c2 h2 => ?_)
  have h2' : (M2 69).toInt = (M 69).toInt - 1 := h2
  refine p_pop (by omega) (fun r3 M4 c4 h4 => ?_)
  have c : e_cs M F M4 F := e_cs_tr (e_cs_tr (e_cs_70 _) c2 (by decide) (by decide)) c4 (by decide) (by decide)
  have hO4 : e_OB M4 F := e_OB_hc (e_hc_tr (ks2 := [69, 70]) (rs2 := []) (e_hc_tr (ks2 := [69, 70]) (rs2 := []) (e_hc_um (ks := [70]) (rs := []) (M 70 + 1) (by decide) (e_hc_rf _ _ M F)) c2 (by decide) (by decide) (by decide) (by decide)) c4 (by decide) (by decide) (by decide) (by decide)) (by decide) (by decide) hO
  have e70 : M4 70 = M 70 + 1 := (c4.1 70 (by decide)).trans (c2.1 70 (by decide))
  have hp : ∀ v : Int32, w_push v M4 F Q := fun v => p_push (by omega) (fun M5 F5 c5 h5 => hQ M5 F5 (e_CX_go X 6 hn (by decide) (e_cs_tr c c5 (by decide) (by decide)) (e_OB_hc c5 (by decide) (by decide) hO4) ((c5.1 70 (by decide)).trans e70) (show (M5 69).toInt = (M 69).toInt + -1 from by omega)))
  have h35 : ((a = 47 ∨ a = 37) → ¬ r1 = 0) → w_count_35 Q a r1 r3 M4 F := by
    intro hz
    exact ⟨fun q => ⟨fun _ => ⟨hz (Or.inr q), hp _⟩, fun _ => hp _⟩, fun _ => hp _, fun _ => hp _, fun _ => hp _, fun q => ⟨fun _ => ⟨hz (Or.inl q), hp _⟩, fun _ => hp _⟩, fun _ => ⟨fun _ => hp _, fun _ => hp _⟩, fun _ => ⟨fun _ => hp _, fun _ => hp _⟩, fun _ _ _ _ _ _ _ => ⟨fun _ => hp _, fun _ => hp _⟩⟩
  have h22 : w_count_22 Q a r1 r3 M4 F := ⟨fun q => h35 (fun _ => q), fun _ => e_CX_rs X c hO4 (by decide) ⟨by decide, by have := hO4.1; rw [e_z0]; omega⟩ hQ⟩
  exact ⟨fun _ => h22, fun q1 => ⟨fun q2 => h35 (fun h => h.elim (fun h => absurd h q1) (fun h => absurd h q2)), fun _ => h22⟩⟩
theorem e_OB_70 {M : e_M} {F : e_F} (hO : e_OB M F) (v : Int32) : e_OB (um M 70 v) F := e_OB_hc (e_hc_um (ks := [70]) (rs := []) v (by decide) (e_hc_rf _ _ M F)) (by decide) (by decide) hO
theorem p_askX {G : e_G} {B N E T V : Int} {M : e_M} {F : e_F} {f ot : Nat} {Q : e_M → e_F → Prop} (X : e_CX G B N E T V M F f ot) (hn : (F 13 (M 70).toInt.toNat).toInt = ((7 : Nat) : Int)) (hQ : ∀ (M2 : e_M) (F2 : e_F), e_QA G B E T M F f ot M2 F2 → Q M2 F2) (o w : Int32) (ho : 0 ≤ o.toInt ∧ o.toInt ≤ (M 54).toInt) : w_ask o w (um M 70 (M 70 + 1)) F Q := by
  obtain ⟨⟨a1, a2⟩, -⟩ := e_CX_a X 7 hn (by decide)
  have a1' : 0 ≤ (M 69).toInt := a1
  have a2' : (M 69).toInt ≤ 61 := a2
  have hO := X.2.2.1
  have hO1 := e_OB_70 hO (M 70 + 1)
  have ha := hO.1
  have hp : ∀ v : Int32, w_push v (um M 70 (M 70 + 1)) F Q := fun v => p_push (show 0 ≤ (M 69).toInt ∧ (M 69).toInt < 64 from by omega) (fun M5 F5 c5 h5 => hQ M5 F5 (e_CX_go X 7 hn (by decide) (e_cs_tr (e_cs_70 _) c5 (by decide) (by decide)) (e_OB_hc c5 (by decide) (by decide) hO1) (c5.1 70 (by decide)) h5))
  have hr : ∀ k g : Int32, (0 ≤ k.toInt ∧ k.toInt ≤ 6) → w_raises k g 0 (um M 70 (M 70 + 1)) F Q := fun k g hk => e_CX_rs X (e_cs_70 _) hO1 hk ⟨by decide, (show (0 : Int32).toInt ≤ (M 54).toInt from by rw [e_z0]; omega)⟩ hQ
  refine ⟨fun q => ?_, fun _ => hr 3 1 (by decide)⟩
  have q' := ti_ne q
  rw [e_z0] at q'
  have hv : vp_in o 8001 := vp_in_iff.mpr (by omega)
  exact ⟨fun _ => ⟨hv, hp _⟩, fun _ => ⟨hv, fun _ => hr 1 2 (by decide), fun _ => ⟨hv, hp _⟩⟩, fun _ => p_weight hO1 (show 1 ≤ o.toInt ∧ o.toInt ≤ (M 54).toInt from by omega) (fun r => hp r), fun _ => p_many hO1 ho (fun r => hp r), fun _ _ _ _ => hp _⟩
theorem p_joinsX {G : e_G} {B N E T V : Int} {M : e_M} {F : e_F} {f ot : Nat} {Q : e_M → e_F → Prop} (X : e_CX G B N E T V M F f ot) (hn : (F 13 (M 70).toInt.toNat).toInt = ((15 : Nat) : Int)) (hQ : ∀ (M2 : e_M) (F2 : e_F), e_QA G B E T M F f ot M2 F2 → Q M2 F2) (x y : Int32) (hx : 0 ≤ x.toInt ∧ x.toInt ≤ (M 54).toInt) (hy : 0 ≤ y.toInt ∧ y.toInt ≤ (M 54).toInt) : w_joins x y (um M 70 (M 70 + 1)) F Q := by
  have hO := X.2.2.1
  have hO1 := e_OB_70 hO (M 70 + 1)
  have ha := hO.1
  have c56 : e_hc [56] [] (um M 70 (M 70 + 1)) F (um (um M 70 (M 70 + 1)) 56 (M 56 + 1)) F := e_hc_um _ (by decide) (e_hc_rf _ _ _ F)
  have hr : ∀ k g : Int32, (0 ≤ k.toInt ∧ k.toInt ≤ 6) → w_raises k g x (um (um M 70 (M 70 + 1)) 56 (M 56 + 1)) F Q := fun k g hk => e_CX_rs X (e_cs_tr (e_cs_70 _) c56 (by decide) (by decide)) (e_OB_hc c56 (by decide) (by decide) hO1) hk hx hQ
  refine ⟨fun q => ?_, fun _ => e_CX_rs X (e_cs_70 _) hO1 (by decide) ⟨by decide, (show (0 : Int32).toInt ≤ (M 54).toInt from by rw [e_z0]; omega)⟩ hQ⟩
  have q' := ti_ne q
  rw [e_z0] at q'
  have hv : vp_in x 8001 := vp_in_iff.mpr (by omega)
  refine ⟨hv, fun _ => ⟨fun _ => ⟨hv, hv, ?_⟩, fun _ => hr 5 5 (by decide)⟩, fun _ => hr 2 4 (by decide)⟩
  refine hQ _ _ (e_CX_go X 15 hn (by decide) (e_hc_uf _ _ (by decide) (e_hc_uf _ _ (by decide) (e_cs_70 _))) (e_OB_52 hO1 hy) rfl ?_)
  show (M 69).toInt = (M 69).toInt + 0
  omega
theorem p_notesX {G : e_G} {B N E T V : Int} {M M1 : e_M} {F : e_F} {f ot : Nat} {Q : e_M → e_F → Prop} (X : e_CX G B N E T V M F f ot) (n : Nat) (hn : (F 13 (M 70).toInt.toNat).toInt = (n : Int)) (h18 : n < 18 ∧ n ≠ 0 ∧ n ≠ 5) (c : e_cs M F M1 F) (hO : e_OB M1 F) (h70 : M1 70 = M 70 + 1) (h69 : (M1 69).toInt = (M 69).toInt + e_dl n) (hQ : ∀ (M2 : e_M) (F2 : e_F), e_QA G B E T M F f ot M2 F2 → Q M2 F2) (v : Int32) : w_notes v M1 F Q := by
  have l1 : (1 : Int32).toInt = 1 := by decide
  obtain ⟨o1, o2, o3, o4, o5, o6, ⟨o7, o7'⟩, o8, o9⟩ := (show e_OB M1 F from hO)
  refine ⟨fun q => ?_, fun q => hQ _ _ (e_CX_ov X (e_hc_um _ (by decide) c) (e_OB_hc (e_hc_um (ks := [71]) (rs := []) 1 (by decide) (e_hc_rf _ _ M1 F)) (by decide) (by decide) hO) rfl)⟩
  have q' : (M1 80).toInt ≠ 200 := ti_ne q
  have e := ti_addx (M1 80) 1 (by omega)
  refine ⟨vp_in_iff.mpr (by omega), hQ _ _ (e_CX_go X n hn h18 (e_hc_uf _ _ (by decide) (e_hc_um _ (by decide) c)) ⟨o1, o2, o3, o4, o5, o6, (show 0 ≤ (M1 80 + 1).toInt ∧ (M1 80 + 1).toInt ≤ 200 from by omega), o8, o9⟩ h70 h69)⟩
theorem p_begins {h : Int32} {M : e_M} {F : e_F} {Q : e_M → e_F → Prop} (hO : e_OB M F) (h62 : 0 ≤ (M 62).toInt ∧ (M 62).toInt < 12) (hh : 0 ≤ h.toInt ∧ h.toInt < 800) (hQ : ∀ F' : e_F, e_hc [] [57, 58, 61] M F M F' → e_OB M F' → F' 61 = upd (F 61) (M 62).toInt.toNat (M 67) → Q (um (um (um M 62 (M 62 + 1)) 82 (M 82 + 1)) 70 (F 18 h.toInt.toNat)) F') : w_begins h M F Q := by
  have l1 : (1 : Int32).toInt = 1 := by decide
  have l8 : (8 : Int32).toInt = 8 := by decide
  have l12 : (12 : Int32).toInt = 12 := by decide
  obtain ⟨k1, e1, -, -⟩ := ti_mulc2 12 (M 62) 12 l12
  obtain ⟨k2, e2, -, -⟩ := ti_mulc2 8 (M 62) 8 l8
  have r1 := ti_rng (12 * M 62)
  have r2 := ti_rng (8 * M 62)
  have e12 : (12 * M 62).toInt = 12 * (M 62).toInt := by omega
  have e8 : (8 * M 62).toInt = 8 * (M 62).toInt := by omega
  have h33 : ∀ (n : Nat) (a : Int32) (F1 : e_F), (0 ≤ a.toInt ∧ a.toInt ≤ 8) → 8 - a.toInt < n → e_hc [] [57, 58] M F M F1 → e_OB M F1 → w_begins_33 Q n h a M F1 := by
    intro n
    induction n with
    | zero => intro a F1 h1 h2; exact absurd h2 (by omega)
    | succ n ih =>
      intro a F1 h1 h2 c o
      dsimp only [w_begins_33]
      refine ⟨fun _ => ⟨vp_in_iff.mpr (by omega), vp_in_iff.mpr (by omega), ?_⟩, fun q => ?_⟩
      · have r18 : F1 18 = F 18 := c.2 18 (by decide)
        rw [r18]
        refine hQ _ (e_hc_uf _ _ (by decide) (e_hc_tr c (e_hc_rf [] [] M F1) (by decide) (by decide) (by decide) (by decide))) (e_OB_hc (e_hc_uf (ks := []) (rs := [61]) (M 62) (M 67) (by decide) (e_hc_rf _ _ M F1)) (by decide) (by decide) o) ?_
        have r61 : F1 61 = F 61 := c.2 61 (by decide)
        rw [e_uf_eq, r61]
      · have q' := ti_nle q
        have e := ti_addx a 1 (by omega)
        have e3 := ti_addx (8 * M 62) a (by omega)
        exact ⟨vp_in_iff.mpr (by omega), ih (a + 1) _ (by omega) (by omega) (e_hc_uf _ _ (by decide) c) (e_OB_58 o ⟨by decide, by have := o.1; rw [e_z0]; omega⟩)⟩
  have h10 : ∀ (n : Nat) (a : Int32) (F1 : e_F), (0 ≤ a.toInt ∧ a.toInt ≤ 12) → 12 - a.toInt < n → e_hc [] [57, 58] M F M F1 → e_OB M F1 → w_begins_10 Q n h (12 * M 62) a M F1 := by
    intro n
    induction n with
    | zero => intro a F1 h1 h2; exact absurd h2 (by omega)
    | succ n ih =>
      intro a F1 h1 h2 c o
      dsimp only [w_begins_10]
      refine ⟨fun _ => ⟨9, h33 9 0 F1 (by decide) (by decide) c o⟩, fun q => ?_⟩
      have q' := ti_nle q
      have e := ti_addx a 1 (by omega)
      have e3 := ti_addx (12 * M 62) a (by omega)
      exact ⟨vp_in_iff.mpr (by omega), ih (a + 1) _ (by omega) (by omega) (e_hc_uf _ _ (by decide) c) (e_OB_hc (e_hc_uf (ks := []) (rs := [57]) (12 * M 62 + a) 0 (by decide) (e_hc_rf _ _ M F1)) (by decide) (by decide) o)⟩
  exact ⟨13, h10 13 0 F (by decide) (by decide) (e_hc_rf _ _ M F) hO⟩
