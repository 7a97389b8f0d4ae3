/-! THE REFERENCE'S OTHER CALLS. -/
theorem e_INV_hc {ks rs : List Nat} {M M' : e_M} {F F' : e_F} (c : e_hc ks rs M F M' F') (hk : ∀ k, k ∈ [54, 80, 83, 73, 27, 28] → k ∉ ks) (hr : ∀ r, r ∈ [13, 14, 15, 16, 18, 20, 21, 22, 24, 25, 26, 48, 52, 58, 65, 66, 85, 86, 87] → r ∉ rs) (h1 : 0 ≤ (M' 1).toInt ∧ (M' 1).toInt ≤ 4000) (h : e_INV M F) : e_INV M' F' := by
  obtain ⟨-, ⟨G, E, T, V, hC⟩, hO⟩ := h
  refine ⟨h1, ?_, e_OB_hc c (fun k hk' => hk k (by simp only [List.mem_cons, List.not_mem_nil, or_false] at hk' ⊢; omega)) (fun r hr' => hr r (by simp only [List.mem_cons, List.not_mem_nil, or_false] at hr' ⊢; omega)) hO⟩
  rw [c.1 27 (hk 27 (by decide)), c.1 28 (hk 28 (by decide))]
  refine ⟨G, E, T, V, e_SC_cg (fun j _ _ => ?_) (fun j _ _ => ?_) hC⟩
  · rw [c.2 13 (hr 13 (by decide)), c.2 14 (hr 14 (by decide)), c.2 15 (hr 15 (by decide)), c.2 16 (hr 16 (by decide))]
    exact ⟨rfl, rfl, rfl, rfl⟩
  · rw [c.2 18 (hr 18 (by decide)), c.2 20 (hr 20 (by decide)), c.2 21 (hr 21 (by decide)), c.2 22 (hr 22 (by decide)), c.2 24 (hr 24 (by decide)), c.2 25 (hr 25 (by decide)), c.2 26 (hr 26 (by decide))]
    exact ⟨rfl, ⟨rfl, rfl, rfl⟩, rfl, rfl, rfl⟩
theorem e_INV_OB {M M' : e_M} {F F' : e_F} (x : e_XR M F M' F') (hO : e_OB M' F') (h : e_INV M F) : e_INV M' F' := by
  obtain ⟨v1, ⟨G, E, T, V, hC⟩, -⟩ := h
  refine ⟨by rw [x.1 1 (by decide)]; exact v1, ?_, hO⟩
  rw [x.1 27 (by decide), x.1 28 (by decide)]
  exact ⟨G, E, T, V, e_SC_xr x hC⟩
theorem p_fault {p : Int32} {M : e_M} {F : e_F} {Q : Int32 → e_M → e_F → Prop} (hQ : ∀ r : Int32, Q r M F) : w_fault p M F Q := ⟨fun _ => ⟨fun _ => hQ _, fun _ => ⟨fun _ => hQ _, fun _ => hQ _⟩⟩, fun _ => hQ _⟩
/-- a policy that may be told -/
def e_pol (p1 p2 p3 p4 : Int32) : Prop := (0 ≤ p1.toInt ∧ p1.toInt ≤ 2) ∧ (0 ≤ p2.toInt ∧ p2.toInt ≤ 6) ∧ (-1 ≤ p3.toInt ∧ p3.toInt ≤ 5) ∧ (p3.toInt = 2 → 0 ≤ p4.toInt ∧ p4.toInt ≤ 6)
theorem p_policy {p1 p2 p3 p4 : Int32} {M : e_M} {F : e_F} {Q : Int32 → e_M → e_F → Prop} (hV : e_INV M F) (hQ : ∀ (r : Int32) (M' : e_M) (F' : e_F), e_INV M' F' → M' 1 = M 1 → ((r = 1 ∧ e_pol p1 p2 p3 p4) ∨ (r = 0 ∧ ¬ e_pol p1 p2 p3 p4)) → Q r M' F') : w_policy p1 p2 p3 p4 M F Q := by
  have l1 : (1 : Int32).toInt = 1 := by decide
  have l2 : (2 : Int32).toInt = 2 := by decide
  have l3 : (3 : Int32).toInt = 3 := by decide
  have l5 : (5 : Int32).toInt = 5 := by decide
  have l6 : (6 : Int32).toInt = 6 := by decide
  have h0 : ¬ e_pol p1 p2 p3 p4 → Q 0 M F := fun q => hQ 0 M F hV rfl (Or.inr ⟨rfl, q⟩)
  have h48 : e_pol p1 p2 p3 p4 → w_policy_48 Q p1 p2 p3 p4 M F := by
    intro hp
    obtain ⟨a1, a2, a3, a4⟩ := (show e_pol p1 p2 p3 p4 from hp)
    have e7 := e_ix7 a1 a2
    have hv : vp_in (7 * p1 + p2) 21 := vp_in_iff.mpr (by omega)
    have e31 := ti_addx p3 1 (by omega)
    obtain ⟨o1, o2, o3, o4, o5, o6⟩ := hV.2.2
    refine ⟨hv, hv, hQ 1 M _ (e_INV_OB (e_XR_of (e_hc_uf (ks := []) (rs := [85, 86]) _ _ (by decide) (e_hc_uf _ _ (by decide) (e_hc_rf _ _ M F))) (by decide) (by decide)) ⟨o1, o2, o3, o4, fun j hj => ?_, o6⟩ hV) rfl (Or.inl ⟨rfl, hp⟩)⟩
    show (0 ≤ (upd (F 85) (7 * p1 + p2).toNatClampNeg (p3 + 1) j).toInt ∧ (upd (F 85) (7 * p1 + p2).toNatClampNeg (p3 + 1) j).toInt ≤ 6) ∧ (upd (F 85) (7 * p1 + p2).toNatClampNeg (p3 + 1) j = 3 → 0 ≤ (upd (F 86) (7 * p1 + p2).toNatClampNeg p4 j).toInt ∧ (upd (F 86) (7 * p1 + p2).toNatClampNeg p4 j).toInt ≤ 6)
    by_cases q : j = (7 * p1 + p2).toNatClampNeg
    · rw [q, e_upd_eq, e_upd_eq]
      refine ⟨by omega, fun q3 => a4 ?_⟩
      have : (p3 + 1).toInt = 3 := by rw [q3]; decide
      omega
    · rw [e_upd_ne q, e_upd_ne q]
      exact o5 j hj
  refine ⟨fun q => h0 (fun hp => ?_), fun q1 => ⟨fun q => h0 (fun hp => ?_), fun q2 => ⟨fun q => h0 (fun hp => ?_), fun q3 => ⟨fun q => h0 (fun hp => ?_), fun q4 => ⟨fun q => h0 (fun hp => ?_), fun q5 => ⟨fun q => h0 (fun hp => ?_), fun q6 => ⟨fun q => ?_, fun q7 => ⟨fun q => h0 (fun hp => ?_), fun q8 => ⟨fun q => ?_, fun q => h0 (fun hp => ?_)⟩⟩⟩⟩⟩⟩⟩⟩⟩
  · have := Int32.lt_iff_toInt_lt.mp q; have := hp.1; rw [e_z0] at *; omega
  · have := Int32.lt_iff_toInt_lt.mp q; have := hp.1; omega
  · have := Int32.lt_iff_toInt_lt.mp q; have := hp.2.1; rw [e_z0] at *; omega
  · have := Int32.lt_iff_toInt_lt.mp q; have := hp.2.1; omega
  · have := Int32.lt_iff_toInt_lt.mp q; have := hp.2.2.1; rw [e_m1] at *; omega
  · have := Int32.lt_iff_toInt_lt.mp q; have := hp.2.2.1; omega
  · have a1 := ti_nlt q1; have a2 := ti_nlt q2; have a3 := ti_nlt q3; have a4 := ti_nlt q4; have a5 := ti_nlt q5; have a6 := ti_nlt q6
    have a7 : p3.toInt ≠ 2 := ti_ne q
    rw [e_z0] at a1 a3
    rw [e_m1] at a5
    exact h48 ⟨by omega, by omega, by omega, fun h => absurd h a7⟩
  · have := Int32.lt_iff_toInt_lt.mp q
    have h2 : p3.toInt = 2 := by rw [q7]; decide
    have := hp.2.2.2 h2; rw [e_z0] at *; omega
  · have a1 := ti_nlt q1; have a2 := ti_nlt q2; have a3 := ti_nlt q3; have a4 := ti_nlt q4; have a5 := ti_nlt q5; have a6 := ti_nlt q6
    have a8 := ti_nlt q8
    have a9 := Int32.le_iff_toInt_le.mp q
    rw [e_z0] at a1 a3 a8
    rw [e_m1] at a5
    exact h48 ⟨by omega, by omega, by omega, fun _ => by omega⟩
  · have := ti_nle q
    have h2 : p3.toInt = 2 := by rw [q7]; decide
    have := hp.2.2.2 h2; omega
theorem p_complain {p1 p2 p3 : Int32} {M : e_M} {F : e_F} {Q : Int32 → e_M → e_F → Prop} (hV : e_INV M F) (hQ : ∀ (r : Int32) (M' : e_M) (F' : e_F), e_INV M' F' → M' 1 = M 1 → Q r M' F') : w_complain p1 p2 p3 M F Q := by
  have l2 : (2 : Int32).toInt = 2 := by decide
  have l6 : (6 : Int32).toInt = 6 := by decide
  have l8 : (8000 : Int32).toInt = 8000 := by decide
  have h0 : Q (-1) M F := hQ _ M F hV rfl
  refine ⟨fun _ => h0, fun q1 => ⟨fun _ => h0, fun q2 => ⟨fun _ => h0, fun q3 => ⟨fun _ => h0, fun q4 => ⟨fun q5 => ?_, fun _ => h0⟩⟩⟩⟩⟩
  have a1 := ti_nlt q1; have a2 := ti_nlt q2; have a3 := ti_nlt q3; have a4 := ti_nlt q4; have a5 := ti_ne q5
  rw [e_z0] at a1 a3
  have hO := hV.2.2
  have ha := hO.1
  refine p_makesOne hO (by omega) (by omega) ⟨by decide, by rw [e_z0]; omega⟩ (fun M2 F2 c o e e' => ⟨vp_in_iff.mpr (by omega), ?_⟩)
  have xr : e_XR M F M2 (uf F2 87 p1 (M 54 + 1)) := e_XR_of (e_hc_uf (ks := [54]) (rs := [48, 49, 50, 51, 52, 53, 87]) _ _ (by decide) (e_hc_tr c (e_hc_rf [] [] M2 F2) (by decide) (by decide) (by decide) (by decide))) (by decide) (by decide)
  obtain ⟨o1, o2, o3, o4, o5, o6, o7⟩ := o
  refine hQ _ _ _ (e_INV_OB xr ⟨o1, o2, o3, o4, o5, fun j hj => ?_, o7⟩ hV) (xr.1 1 (by decide))
  show 0 ≤ (upd (F2 87) p1.toNatClampNeg (M 54 + 1) j).toInt ∧ (upd (F2 87) p1.toNatClampNeg (M 54 + 1) j).toInt ≤ (M2 54).toInt
  by_cases q : j = p1.toNatClampNeg
  · rw [q, e_upd_eq, ← e']
    omega
  · rw [e_upd_ne q]
    exact o6 j hj
theorem p_about {p : Int32} {M : e_M} {F : e_F} {Q : Int32 → e_M → e_F → Prop} (hQ : ∀ r : Int32, Q r M F) : w_about p M F Q := ⟨fun _ => hQ _, fun _ => hQ _, fun _ => hQ _, fun _ => hQ _, fun _ => hQ _, fun _ => hQ _, fun _ => hQ _, fun _ => hQ _, fun _ => hQ _, fun _ => hQ _, fun _ _ _ _ _ _ _ _ _ _ => hQ _⟩
theorem p_note_ {p : Int32} {M : e_M} {F : e_F} {Q : Int32 → e_M → e_F → Prop} (hO : e_OB M F) (hQ : ∀ r : Int32, Q r M F) : w_note_ p M F Q := by
  obtain ⟨o1, o2, o3, o4, o5, o6, o7, -⟩ := hO
  refine ⟨fun _ => hQ _, fun q => ⟨fun _ => hQ _, fun q2 => ⟨vp_in_iff.mpr ?_, hQ _⟩⟩⟩
  have := ti_nlt q
  have := ti_nle q2
  rw [e_z0] at *
  omega
theorem p_told_ {o i w z : Int32} {M : e_M} {F : e_F} {Q : Int32 → e_M → e_F → Prop} (hO : e_OB M F) (ho : 0 ≤ o.toInt ∧ o.toInt ≤ (M 54).toInt) (hQ : ∀ r : Int32, Q r M F) : w_told_ o i w z M F Q := by
  have l1 : (1 : Int32).toInt = 1 := by decide
  have l5 : (50 : Int32).toInt = 50 := by decide
  have ha := hO.1
  have h45 : ∀ o : Int32, (0 ≤ o.toInt ∧ o.toInt ≤ (M 54).toInt) → w_told__45 Q w z o M F := by
    intro o ho
    refine ⟨fun q => ?_, fun _ => ⟨fun _ => hQ _, fun _ => hQ _⟩⟩
    have q' := ti_ne q
    rw [e_z0] at q'
    have hv : vp_in o 8001 := vp_in_iff.mpr (by omega)
    exact ⟨fun _ => ⟨hv, hQ _⟩, fun _ => ⟨hv, hQ _⟩, fun _ => ⟨hv, hQ _⟩, fun _ => hQ _, fun _ => ⟨hv, hQ _⟩, fun _ => ⟨hv, fun _ => hQ _, fun _ => hQ _⟩, fun _ => p_weight hO (by omega) hQ, fun _ _ _ _ _ _ _ => hQ _⟩
  have h19 : ∀ (n : Nat) (o k : Int32), (0 ≤ o.toInt ∧ o.toInt ≤ (M 54).toInt) → (0 ≤ k.toInt ∧ k.toInt ≤ 50) → 50 - k.toInt < n → (i.toInt < 50) → w_told__19 Q n i w z o k M F := by
    intro n
    induction n with
    | zero => intro o k _ h1 h2; exact absurd h2 (by omega)
    | succ n ih =>
      intro o k ho hk hn hi
      refine ⟨fun _ => h45 o ho, fun q => ⟨fun _ => h45 o ho, fun q2 => ?_⟩⟩
      have q' := ti_nle q
      have q2' := ti_nle q2
      rw [e_z0] at q2'
      have e := ti_addx k 1 (by omega)
      exact ⟨vp_in_iff.mpr (by omega), ih _ (k + 1) (e_cause hO (by omega)) (by omega) (by omega) hi⟩
  have h13 : i.toInt < 50 ∨ 50 ≤ i.toInt → w_told__13 Q i w z M F := by
    intro _
    refine ⟨51, ?_⟩
    refine ⟨fun _ => h45 0 (by rw [e_z0]; omega), fun _ => ⟨fun _ => h45 0 (by rw [e_z0]; omega), fun q => absurd (show (0 : Int32) ≤ 0 from by decide) q⟩⟩
  refine ⟨fun _ => h13 (by omega), fun q1 => ⟨fun q2 => ⟨51, ?_⟩, fun _ => h13 (by omega)⟩⟩
  have := Int32.lt_iff_toInt_lt.mp q2
  exact h19 51 o 0 ho (by decide) (by decide) (by omega)
theorem p_chain {i w : Int32} {M : e_M} {F : e_F} {Q : Int32 → e_M → e_F → Prop} (hO : e_OB M F) (hQ : ∀ r : Int32, Q r M F) : w_chain i w M F Q := p_told_ hO hO.2.2.2.2.2.2.2.1 hQ
theorem p_complaint {p i w : Int32} {M : e_M} {F : e_F} {Q : Int32 → e_M → e_F → Prop} (hO : e_OB M F) (hQ : ∀ r : Int32, Q r M F) : w_complaint p i w M F Q := by
  have l2 : (2 : Int32).toInt = 2 := by decide
  have ha := hO.1
  have h10 : w_complaint_10 Q i w M F := p_told_ hO (by rw [e_z0]; omega) hQ
  refine ⟨fun _ => h10, fun q1 => ⟨fun q2 => ?_, fun _ => h10⟩⟩
  have a1 := ti_nlt q1
  have a2 := Int32.le_iff_toInt_le.mp q2
  rw [e_z0] at a1
  exact ⟨vp_in_iff.mpr (by omega), p_told_ hO (hO.2.2.2.2.2.1 p.toNatClampNeg (by rw [e_tc]; omega)) hQ⟩
