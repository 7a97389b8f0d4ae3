/-! STATEMENTS with blocks: the whole try; blocks. -/
section YSa
variable {E : x_E} {W W' x y : y_X} {k : x_B} {M : Nat → Int32} {F : Nat → Nat → Int32}
theorem f1_cm {A : Type} {f : Nat → A} {i j : Nat} {v w : A} (h : i ≠ j) : f1 (f1 f i v) j w = f1 (f1 f j w) i v := by
  funext s
  by_cases z : s = i
  · rw [z, f1_ne h, f1_eq, f1_eq]
  · by_cases z2 : s = j
    · rw [z2, f1_eq, f1_ne (fun q => h q.symm), f1_eq]
    · rw [f1_ne z2, f1_ne z, f1_ne z, f1_ne z2]
theorem f2_cm {A : Type} {f : Nat → Nat → A} {i j k l : Nat} {v w : A} (h : i ≠ j) : f2 (f2 f i k v) j l w = f2 (f2 f j l w) i k v := by
  funext r s
  rw [f2_at, f2_at, f2_at, f2_at]
  by_cases z : r = i ∧ s = k
  · rw [if_pos z, if_pos z, if_neg (fun q => h (z.1.symm.trans q.1))]
  · rw [if_neg z, if_neg z]
theorem r5_f2 {R : Nat → Nat → Int32} {k r i : Nat} {v : Int32} {o : x_O} (h : r < 13 ∨ 17 < r) : r5 (f2 R r i v) k o = f2 (r5 R k o) r i v := by
  unfold r5
  rw [f2_cm (i := r) (by omega), f2_cm (i := r) (by omega), f2_cm (i := r) (by omega), f2_cm (i := r) (by omega), f2_cm (i := r) (by omega)]
/-- a try's number taken -/
def Y_tn (y : y_X) : y_X := Y_gs (Y_C y, f2 (f2 (Y_R y) 20 (Y_T y) (-1)) 21 (Y_T y) (-1), f1 (Y_m y) 1 (Y_m y 1 + 1), f2 (Y_a y) 7 (Y_T y) 1, Y_k y, Y_S y, Y_c y) y
theorem tv_tn : tv y (Y_tn y) := ⟨rfl, rfl, rfl, rfl, rfl, rfl, rfl, rfl, rfl, rfl⟩
theorem tn_R : Y_R (Y_tn y) = f2 (f2 (Y_R y) 20 (Y_T y) (-1)) 21 (Y_T y) (-1) := rfl
theorem tn_m : Y_m (Y_tn y) = f1 (Y_m y) 1 (Y_m y 1 + 1) := rfl
theorem tn_a : Y_a (Y_tn y) = f2 (Y_a y) 7 (Y_T y) 1 := rfl
theorem rx_tn (h : rxG E k M F y) (hv : vp_in (400 * M 27 + M 31) 800) : rxG E k (um M 31 (M 31 + 1)) (uf (uf F 20 (400 * M 27 + M 31) (-1)) 21 (400 * M 27 + M 31) (-1)) (Y_tn y) := by
  refine ⟨?_, fun n => ?_⟩
  · have e : yx (Y_tn y) = yx y := by unfold yx Y_tn Y_gs; rfl
    rw [e]; exact rx_um (by decide) (rx_uf (by decide) (rx_uf (by decide) h.1))
  · have n : nf y := tv_nf tv_tn n
    obtain ⟨eT', bT⟩ := rg_T h n
    rw [eT'] at hv ⊢
    have lT := vp_n hv (by omega)
    obtain ⟨p1, ⟨p2, p2', p2''⟩, ⟨p3, p3', p3''⟩, p4, p5, p6, p7, p8, p9⟩ := h.2 n
    have em0 : Y_m (Y_tn y) 0 = Y_m y 0 := by rw [tn_m, f1_ne (by decide)]
    have em1 : Y_m (Y_tn y) 1 = Y_m y 1 + 1 := by rw [tn_m, f1_eq]
    have em2 : Y_m (Y_tn y) 2 = Y_m y 2 := by rw [tn_m, f1_ne (by decide)]
    have eB : Y_B (Y_tn y) = Y_B y := by show Y_m (Y_tn y) 3 = _; rw [tn_m, f1_ne (by decide)]
    have en : Y_n (Y_tn y) = Y_n y := by unfold Y_n; rw [eB, em0]
    have eT : Y_T (Y_tn y) = Y_T y + 1 := by unfold Y_T; rw [eB, em1]; omega
    have eV : Y_V (Y_tn y) = Y_V y := by unfold Y_V; rw [eB, em2]
    have eR : Y_R (Y_tn y) = f2 (f2 (Y_R y) 20 (Y_T y) (-1)) 21 (Y_T y) (-1) := tn_R
    have e7 : Y_a (Y_tn y) 7 = f1 (Y_a y 7) (Y_T y) 1 := by rw [tn_a, f2_eq]
    have e8 : Y_a (Y_tn y) 8 = Y_a y 8 := by rw [tn_a, f2_ne (by decide)]
    have e5 : Y_a (Y_tn y) 5 = Y_a y 5 := by rw [tn_a, f2_ne (by decide)]
    obtain ⟨t1, t2, t3, t4, t5, t6, t7, t8, t9, t10⟩ := tv_tn (y := y)
    have key : ∀ r i, (F r i = Y_R y r i ∨ (i = Y_T y ∧ 20 ≤ r ∧ r ≤ 21)) → uf (uf F 20 (nI (Y_T y)) (-1)) 21 (nI (Y_T y)) (-1) r i = f2 (f2 (Y_R y) 20 (Y_T y) (-1)) 21 (Y_T y) (-1) r i := fun r i q => by
      rw [uf_at2, uf_at2, f2_at, f2_at, y_cl (by omega)]
      by_cases c1 : r = 21 ∧ i = Y_T y
      · rw [if_pos c1, if_pos c1]
      · rw [if_neg c1, if_neg c1]
        by_cases c2 : r = 20 ∧ i = Y_T y
        · rw [if_pos c2, if_pos c2]
        · rw [if_neg c2, if_neg c2]
          exact q.resolve_right (by omega)
    have oth : ∀ r i, r ≠ 20 → r ≠ 21 → uf (uf F 20 (nI (Y_T y)) (-1)) 21 (nI (Y_T y)) (-1) r i = F r i := fun r i q1 q2 => by
      rw [uf_at2, uf_at2, if_neg (fun q => q2 q.1), if_neg (fun q => q1 q.1)]
    generalize Y_tn y = x' at *
    refine ⟨by rw [eB]; exact p1, ⟨?_, ?_, ?_⟩, ⟨by rw [en]; exact p3, by omega, by rw [eV]; exact p3''⟩, fun r i x1 x2 x3 x4 => ?_, fun r i x1 x2 x3 x4 x5 => ?_, fun r i x1 x2 x3 x4 x5 => ?_, fun j hj => ?_, fun w hw => ?_, fun i hi => ?_⟩
    · rw [um_ne (by decide), em0]; exact p2
    · rw [um_eq, em1, p2', show (1 : Int32) = nI 1 from rfl, nI_add]
    · rw [um_ne (by decide), em2]; exact p2''
    · rw [eR]; rw [eB] at x3; rw [en] at x4; exact key r i (Or.inl (p4 r i x1 x2 x3 x4))
    · rw [eR]; rw [eB] at x3; rw [eT] at x4; rw [e7] at x5
      by_cases z : i = Y_T y
      · rw [z, f1_eq] at x5
        exact key r i (Or.inr ⟨z, x1, x5⟩)
      · rw [f1_ne z] at x5
        exact key r i (Or.inl (p5 r i x1 x2 x3 (by omega) x5))
    · rw [eR]; rw [eB] at x3; rw [eV] at x4; rw [e8] at x5; exact key r i (Or.inl (p6 r i x1 x2 x3 x4 x5))
    · rw [eB, t8, oth 18 _ (by decide) (by decide)]; rw [t3] at hj; exact p7 j hj
    · rw [t6, t3] at hw; rw [t10, oth 10 w (by decide) (by decide)]; exact p8 w hw
    · rw [t9] at hi; rw [e5, oth 42 i (by decide) (by decide)]; exact p9 i hi
theorem rc_5b {kK : x_Kt} {s : f_S3} (h : rcG E kK s (Y_bd W)) (hW : W'.1 = true) : rcG E kK s W' := rcG_bd (h.1.1 rfl) hW
theorem st_tryG (hE : E_ok E) {j : Nat} (hB : jBG E j) (hx : yg E 4 x) (hh : hlG E x) (ht : jtG E (j + 1) x) (hI : gn E x) (z : Y_ty E x = 216) : ∃ x', jSG E x x' := by
  have m0 := ym_0 (yg_t hx)
  have z' : Y_ty E (Y_0 x) = 216 := Y_0_ty.trans z
  have hlt : (Y_0 x).1 = false → Y_t (Y_0 x) < E_m E := yq_lt hE (ym_t m0) z' (by decide)
  have m1 := ym_t0 m0 (ym_ad hE hlt)
  have pc : ∀ {kK : x_Kt} {s : f_S3}, rcG E kK s (Y_ad (Y_0 x)) → rcG E kK s (Y_ad (Y_0 x)) := fun h => h
  obtain ⟨u, eu⟩ : ∃ u, u = Y_ad (Y_0 x) := ⟨_, rfl⟩
  rw [← eu] at m1
  have Mm1 := ym_ad hE hlt
  rw [← eu] at Mm1
  have gu : gn E u := gn_m m1 hI
  have g1 : yg E 3 u := yg_m hx m1 (by decide)
  have hz : u.1 = false → Y_z u < 80000 := fun hb => by
    obtain ⟨d1, d2, d3⟩ := g1 hb
    have d3 : (Y_z u : Int) ≤ 2 * (E_p E (Y_t u) : Int) + 3 := d3
    have h2 := E_pn hE (t := Y_t u) d1
    have h3 := E_n4 hE
    omega
  have ty : tv u (Y_y0 u) := tv_G
  have exW : yx (Y_y0 u) = X_pt 3 (yx u) := rfl
  have m4 : xm E 1 2 0 (yx x) (yx (Y_y0 u)) := by
    rw [exW]; exact xm_w (xm_t0 m1.1 (xm_pt (ym_t m1) 3)) (by decide) (by decide) rfl
  have s4 := xm_xs hE m4
  have g4 : gn E (Y_y0 u) := fun n => (t0_f (gu (tv_nf ty n)).1 (gu (tv_nf ty n)).2 (hz (tv_nf ty n).1)).1.1
  obtain ⟨y5, ba, bb, bm⟩ := hB (Y_y0 u) (xg_m hx m4 (by decide)) (hl_s hh s4) (jt_m ht m4) g4
  have s5 := xs_t0 s4 bm.1
  have s6 : xs E 1 (-1) 0 (yx x) (X_pt 1 (yx y5)) := xs_w (xs_t0 s5 (xm_xs hE (xm_pt (xs_t s5) 1))) (by decide) (by decide) rfl
  have g6 : xg E 6 (X_pt 1 (yx y5)) := xg_s hx s6 (by decide)
  have n5 : nf y5 → nf u := fun n => tv_nf ty (nf_s bm n)
  have go : ∀ y6, xs E 0 0 0 (X_pt 1 (yx y5)) (X_pt 1 (yx y6)) → (nf y6 → y6 = y5) → (∀ (k : x_Kt) (s : f_S3) (O : Nat × Nat) (G : f_S3 → Nat × Nat → Prop), rcG E k s (Y_cs [5] y5) → (∀ s', rcG E k s' (Y_cs [5] y6) → G s' O) → (((s.1 12) = 217 → G s O) ∧ (¬ (s.1 12) = 217 → (((s.1 12) = 218 → G s O) ∧ (¬ (s.1 12) = 218 → (wF_X7_fail (E_N E) s O (fun M28 O28 => G M28 O28))))))) → (∀ (k : x_B) (M : Nat → Int32) (F : Nat → Nat → Int32) (A A' : (Nat → Int32) → (Nat → Nat → Int32) → Prop), rxG E k M F (Y_rs (23, nI (Y_T u), 0, 0, -1) y5) → (∀ M' F', rxG E k M' F' (Y_rs (23, nI (Y_T u), 0, 0, -1) y6) → A M' F' → A' M' F') → (w_isWord 17 M F (fun r9 M10 F10 => ((¬ r9 = 0 → A M10 F10) ∧ (r9 = 0 → (w_isWord 18 M10 F10 (fun r43 M44 F44 => ((¬ r43 = 0 → A M44 F44) ∧ (r43 = 0 → (w_fail M44 F44 (fun M45 F45 => A M45 F45)))))))))) → (w_isWord 17 M F (fun r9 M10 F10 => ((¬ r9 = 0 → A' M10 F10) ∧ (r9 = 0 → (w_isWord 18 M10 F10 (fun r43 M44 F44 => ((¬ r43 = 0 → A' M44 F44) ∧ (r43 = 0 → (w_fail M44 F44 (fun M45 F45 => A' M45 F45))))))))))) → ∃ x', jSG E x x' := by
    intro y6 sy hy6 hc hr0
    have s7 := xs_t0 s6 sy
    have T0 : nf y6 → gI u → gv E u → TP E (Y_z u + 2) (Y_T u) (Y_c u) (Y_z u + 1) none y6 ∧ ∀ x', TF E (Y_z u + 2) (Y_T u) (Y_c u) (Y_z u + 1) none y6 x' → (gI x' ∧ gv E x') ∧ Y_c x' = Y_c u ∧ G_ex b0 u x' ∧ G_st (bs u) u x' := fun n i v => by
      have e := hy6 n
      rw [e] at n ⊢
      exact tr_0 i v (hz (n5 n).1) n.2.1 n.2.2 (bm.2 n.1)
    have hT6 : gT E (Y_z u + 2) (Y_T u) (Y_c u) (Y_z u + 1) none y6 := fun n => by
      have e := hy6 n
      have n' : nf y5 := by rw [← e]; exact n
      have nu := n5 n'
      refine ⟨(T0 n (gu nu).1 (gu nu).2).1, ?_⟩
      rw [e]
      obtain ⟨P1, -, ⟨-, nT, -⟩, -⟩ := t0_f (gu nu).1 (gu nu).2 (hz nu.1)
      have e6 := (bm.2 n'.1 n'.2.1 n'.2.2 P1.1.1 P1.1.2).2.2.1
      rw [((e6.2.2.2.2.2.2.1 (Y_T u) (by rw [nT]; exact Nat.lt_succ_self _)).1 (Nat.zero_le _)).2]
      unfold Y_y0; rw [YG_a, f2_eq, f1_eq]
    obtain ⟨x', ia, ib, im⟩ := try_LG hE hB j (Nat.le_refl _) y6 (Y_z u + 1) none (xg_s g6 sy (by decide)) (hl_s hh s7) (jt_s (a := 1) ht (xs_w s7 (by decide) (Int.le_refl _) rfl)) hT6
    have gall : ∀ x0 : y_X, (u.1 = false → gx E x0 u) → x'.1 = false → gx E x0 x' := fun x0 h0 b => by
      obtain ⟨b1, -, -, -, -, -, -, b11, b12, -⟩ := im.1 b
      have b1 : y6.1 = false := b1
      intro q2 q3
      have n6 : nf y6 := ⟨b1, b11 q2, b12 q3⟩
      have e := hy6 n6
      have n5' : nf y5 := by rw [← e]; exact n6
      have nu := n5 n5'
      exact gx_tr (y1 := u) (fun _ => nu.2.1) (fun _ => nu.2.2) (h0 nu.1) (fun f2' f3' i v => (T0 n6 i v).2 x' (im.2 ⟨b, f2', f3'⟩ (T0 n6 i v).1)) q2 q3
    refine ⟨x', fun n p hp K s O Q hs hQ => ?_, fun n k M F Q Q' hr w hQ => ?_, ⟨xs_w (xs_t0 s7 im.1) (by decide) (by decide) rfl, gall x m1.2⟩, fS_of (gall (Y_0 x) Mm1.2)⟩
    · have e := (cg_ty hs).trans z
      refine ⟨fun q => absurd (q.symm.trans e) (by decide), fun q => absurd (q.symm.trans e) (by decide), fun q => absurd (q.symm.trans e) (by decide), fun _ => ?_, fun _ _ _ q => absurd e q⟩
      refine cg_emit hE hs (yg_lo (n := 15) hx (by decide)) (by decide) (fun s1 h1 => cg_adv hE (y := Y_0 x) (rc_em h1) hlt (fun s2 h2 => ?_))
      rw [← eu] at h2
      have lo := yg_lo (n := 3) g1 (by decide)
      refine cg_emit hE h2 lo (by decide) (fun s3 h3 => cg_hole hE h3 (Y_lo_p lo _) (show 3 + 1 ≤ 15 by decide) (fun r4 s4' hr4 h4 => ?_))
      have z1 : Y_z (Y_cs [4] u) = Y_z u + 1 := cs_z
      rw [z1] at h4 hr4
      rw [Y_csa] at h4
      refine cg_hole hE h4 (Y_lo_p lo _) (show 3 + 2 ≤ 15 by decide) (fun r6 s5' hr6 h5 => ?_)
      have z2 : Y_z (Y_cs ([4] ++ [-1]) u) = Y_z u + 2 := cs_z
      rw [z2] at h5 hr6
      rw [Y_csa] at h5
      have h5' := rc_tv (W' := Y_y0 u) h5 (tv_tr (tv_sy tv_cs) ty) (by unfold Y_y0; rw [YG_z, cs_z]; rfl) (fun _ => ⟨by unfold Y_y0; rw [YG_C, cs_C]; rfl, by unfold Y_y0; rw [YG_a, cs_a, f2_ne (by decide), f2_ne (by decide)], by unfold Y_y0; rw [YG_a, cs_a, f2_ne (by decide), f2_ne (by decide)]⟩)
      refine ba n p (jb_m hp s4) _ s5' O _ h5' (fun s6' h6 => ?_)
      have g5 : yg E 15 y5 := xg_s hx s5 (by decide)
      refine cg_emit hE h6 (yg_lo (n := 15) g5 (by decide)) (by decide) (fun s7' h7 => ?_)
      refine hc _ s7' O (fun M9 O9 => wF_X7_attempt_66 (E_N E) (cb (E_N E) n) (fun M21 O21 => Q M21 O21) p r4 r6 M9 O9) h7 (fun s8 h8 => ⟨j + 1, ?_⟩)
      exact ia n p 0 (j + 1) r4 r6 _ s8 O _ (jb_m hp s7) ja_0 (by omega) (fun b => by
        have b5 : u.1 = false := (bm.1 (sy b).1).1
        exact ⟨⟨List.mem_cons_of_mem _ (List.mem_cons_self ..), hr4 b5⟩, List.mem_cons_self .., hr6 b5⟩) h8 (fun s' h' => hQ s' (cg_sub h' (fun q hq => List.mem_cons_of_mem _ (List.mem_cons_of_mem _ hq)) rfl))
    · refine st_rG hE 16 (by decide) (by decide) (by decide) z hr (fun M1 F1 r1 e5 w1 => st_W16 (e5.trans (by decide)) (fun w => ?_) w1) w
      refine rg_pass hE hlt k M1 F1 _ _ r1 w (fun M2 F2 r2 w2 => ⟨w2.1, w2.2.1, ?_⟩)
      rw [← eu] at r2
      have eT : nf u → 400 * M2 27 + M2 31 = nI (Y_T u) := fun n => (rg_T r2 n).1
      have r3 := rx_tn r2 w2.1
      refine rg_put r3 w2.2.2 (fun _ M3 F3 _ r4 w3 => ?_)
      have r4 := rx_rsn (o' := (22, nI (Y_T u), 0, 0, -1)) r4 (fun n => by rw [eT (tv_nf tv_tn n)])
      have en : Y_n (Y_tn u) = Y_n u := by
        unfold Y_n Y_B; rw [tn_m, f1_ne (by decide), f1_ne (by decide)]
      have r5 : rxG E k M3 F3 (Y_y0 u) := by
        refine rx_tv r4 (tv_tr (tv_sy (tv_tr tv_tn tv_rs)) ty) (fun _ => ⟨?_, ?_, ?_, ?_, ?_⟩)
        · unfold Y_y0; rw [YG_m, rs_m, tn_m, show f1 (Y_m u) 1 (Y_m u 1 + 1) 0 = Y_m u 0 from f1_ne (by decide)]
          exact f1_cm (by decide)
        · unfold Y_y0; rw [YG_R, rs_R, tn_R, en, r5_f2 (by decide), r5_f2 (by decide)]
        · unfold Y_y0; rw [YG_a, rs_a, tn_a, f2_ne (by decide), f2_ne (by decide), f2_ne (by decide)]
        · unfold Y_y0; rw [YG_a, rs_a, tn_a, f2_eq, f2_eq, f2_ne (by decide)]
        · unfold Y_y0; rw [YG_a, rs_a, tn_a, f2_ne (by decide), f2_ne (by decide), f2_ne (by decide)]
      refine bb n k M3 F3 _ _ r5 w3 (fun M4 F4 r6 w4 => rg_put r6 w4 (fun _ M5 F5 _ r7 w5 => ?_))
      have r7 := rx_rsn (o' := (23, nI (Y_T u), 0, 0, -1)) r7 (fun n => by rw [eT (n5 n)])
      refine hr0 k M5 F5 (fun M10 F10 => ∃ e90, w_trying_90 (wf_blk n) (fun M36 F36 => Q M36 F36) e90 ((400 * (M2 27)) + (M2 31)) (-1) M10 F10) (fun M10 F10 => ∃ e90, w_trying_90 (wf_blk n) (fun M36 F36 => Q' M36 F36) e90 ((400 * (M2 27)) + (M2 31)) (-1) M10 F10) r7 (fun M6 F6 r8 w6 => ?_) w5
      obtain ⟨e, w6⟩ := w6
      exact ⟨e, ib n e _ _ (fun n => ⟨eT (n5 (by rw [← hy6 n]; exact n)), rfl⟩) k M6 F6 _ _ r8 w6 (fun M7 F7 r9 w7 => hQ M7 F7 r9 w7)⟩
  by_cases z6 : Y_ty E y5 = 217 ∨ Y_ty E y5 = 218
  · refine go y5 (xs_rf (xg_t g6)) (fun _ => rfl) (fun k s O G hs hG => ⟨fun _ => hG s hs, fun q1 => ⟨fun _ => hG s hs, fun q2 => ?_⟩⟩) (fun k M F A A' hr hA w => ?_)
    · rw [cg_ty hs] at q1 q2
      exact absurd z6 (fun q => q.elim q1 q2)
    · refine rg_w1 hE hr 17 (by decide) (c := 17) (d := 217) (by decide) (by decide) (fun _ w => hA M F hr w) (fun q1 w => ?_) w
      exact rg_w1 hE hr 18 (by decide) (c := 18) (d := 218) (by decide) (by decide) (fun _ w => hA M F hr w) (fun q2 _ => absurd z6 (fun q => q.elim q1 q2)) w
  · refine go (Y_bd y5) (xs_bd rfl) (fun n => absurd n (nf_bd rfl)) (fun k s O G hs hG => ⟨fun q => ?_, fun q1 => ⟨fun q => ?_, fun q2 => cg_fail hE hs (fun s1 h1 => hG s1 (rc_5b h1 rfl))⟩⟩) (fun k M F A A' hr hA w => ?_)
    · exact absurd (Or.inl ((cg_ty hs).symm.trans q)) z6
    · exact absurd (Or.inr ((cg_ty hs).symm.trans q)) z6
    · refine rg_w1 hE hr 17 (by decide) (c := 17) (d := 217) (by decide) (by decide) (fun q _ => absurd (Or.inl q) z6) (fun q1 w => ?_) w
      exact rg_w1 hE hr 18 (by decide) (c := 18) (d := 218) (by decide) (by decide) (fun q _ => absurd (Or.inr q) z6) (fun q2 w => rg_fail hE k M F _ _ hr w (fun M1 F1 r1 w1 => hA M1 F1 (rxG_zb (r1.1.1 rfl) rfl) w1)) w
theorem st_allG (hE : E_ok E) {j : Nat} (hB : jBG E j) (hx : yg E 4 x) (hh : hlG E x) (ht : jtG E (j + 1) x) (hI : gn E x) (hb : x.1 = false) : ∃ x', jSG E x x' := by
  by_cases z1 : Y_ty E x = 130
  · exact st_assignG hE hx z1
  by_cases z2 : Y_ty E x = 201
  · exact st_letG hE hx z2
  by_cases z3 : Y_ty E x = 202
  · exact st_holdG hE hx z3
  by_cases z4 : Y_ty E x = 206
  · exact st_raiseG hE hx z4
  by_cases z5 : Y_ty E x = 207
  · exact st_joinG hE hx z5
  by_cases z6 : Y_ty E x = 209
  · exact st_noteG hE hx z6
  by_cases z7 : Y_ty E x = 210
  · exact st_hearG hE hx hh z7
  by_cases z8 : Y_ty E x = 212
  · exact st_restG hE hx z8
  by_cases z9 : Y_ty E x = 213
  · exact st_ifG hE hB hx hh ht hI z9
  by_cases z10 : Y_ty E x = 215
  · exact st_whileG hE hB hx hh ht hI z10
  by_cases z11 : Y_ty E x = 216
  · exact st_tryG hE hB hx hh ht hI z11
  exact st_failG hE hx hb z1 z2 z3 z4 z5 z6 z7 z8 z9 z10 z11
/-- what a block begins with -/
def fB (E : x_E) (x x' : y_X) : Prop := nf x' → gI x → gv E x → Y_n x' = Y_n x ∨ (Y_n x < Y_n x' ∧ Y_R x' 13 (Y_n x) = 0)
theorem cl_n {c : Int32} : Y_n (Y_cl E c x) = Y_n x := by
  unfold Y_cl Y_tk
  split <;> rfl
/-- a block's end -/
theorem blk_xG (hE : E_ok E) (hx : yg E 4 x) (ho : x.1 = false → 1 ≤ (Y_i x 0).toInt ∧ (Y_i x 0).toInt ≤ 20) (z : Y_ty E x = 125 ∨ x.1 = true) : (∀ (WF WB : Int32 → x_CW) (p a : Int32) (e : Nat), 0 < e → crKG E (fun s O Q => wF_X7_block_9 (E_N E) WF WB Q e p a s O) x (Y_cl E 125 x)) ∧ (∀ (WF WB : x_RW) (e : Nat), rrG E (fun M F Q => w_block_6 WF WB Q e M F) x (Y_cl E 125 x)) ∧ ys E 1 (-2) (-1) x (Y_cl E 125 x) := by
  have hz' : Y_ty E x = 125 ∨ Y_ty E x = 137 := z.imp id (fun q => Y_tyb q)
  refine ⟨fun WF WB p a e he K s O Q hs hQ => ?_, fun WF WB e k M F Q Q' hr w hQ => ?_, ym_ys hE (ym_cl hE (yg_t hx) (by decide))⟩
  · obtain ⟨e, rfl⟩ : ∃ e', e = e' + 1 := ⟨e - 1, by omega⟩
    have go : wF_X7_block_48 (E_N E) WF WB Q s O := cg_take hE hs (by decide) (by decide) (fun s1 h1 => hQ s1 (cg_o h1))
    dsimp only [wF_X7_block_9]
    rw [cg_ty hs]
    exact ⟨fun _ => go, fun _ => ⟨fun _ => go, fun q1 => ⟨fun _ => go, fun q2 => absurd hz' (fun q => q.elim q1 q2)⟩⟩⟩
  · cases e with
    | zero => exact absurd w (fun q => q)
    | succ e =>
      dsimp only [w_block_6] at w ⊢
      have go : w_block_29 WF WB Q M F → w_block_29 WF WB Q' M F := fun w => rg_closes hE (c := 125) rfl ho k M F _ _ hr w (fun M1 F1 r1 w1 => hQ M1 F1 r1 w1)
      refine rg_b1 hr (fun _ w => go w) (fun hb w => ?_) w
      exact rg_s1 hE hr (c := 125) rfl (fun _ w => go w) (fun q _ => absurd z (fun y => y.elim q (fun y => absurd (y.symm.trans hb) (by decide)))) w
theorem blk_LG (hE : E_ok E) {j : Nat} (hB : jBG E j) : ∀ i, i ≤ j → ∀ x, yg E 4 x → hlG E x → (x.1 = false → 1 ≤ (Y_i x 0).toInt ∧ (Y_i x 0).toInt ≤ 20) → jtG E i x → gn E x → ∃ x', (∀ (n : Nat) (p a : Int32) (e : Nat), jbG n (p + 1) x → jaG a x → i < e → crKG E (fun s O Q => wF_X7_block_9 (E_N E) (cff (E_N E) 22) (cb (E_N E) n) Q e p a s O) x x') ∧ (∀ n e, rrG E (fun M F Q => w_block_6 (wf_fac 22) (wf_blk n) Q e M F) x x') ∧ ys E 1 (-2) (-1) x x' ∧ fB E x x' := by
  intro i
  induction i with
  | zero =>
    intro hi x hx hh ho ht hI
    have hb : x.1 = true := by
      cases q : x.1 with
      | true => rfl
      | false => have := ht q; have := xg_t hx q; omega
    obtain ⟨a, b, m⟩ := blk_xG hE hx ho (Or.inr hb)
    exact ⟨_, fun n p a' e _ _ he => a _ _ p a' e he, fun n e => b _ _ e, m, fun _ _ _ => Or.inl cl_n⟩
  | succ i ih =>
    intro hi x hx hh ho ht hI
    by_cases z : Y_ty E x = 125 ∨ x.1 = true
    · obtain ⟨a, b, m⟩ := blk_xG hE hx ho z
      exact ⟨_, fun n p a' e _ _ he => a _ _ p a' e (by omega), fun n e => b _ _ e, m, fun _ _ _ => Or.inl cl_n⟩
    · have hb : x.1 = false := by
        cases q : x.1 with
        | true => exact absurd (Or.inr q) z
        | false => rfl
      have n125 : ¬ Y_ty E x = 125 := fun q => z (Or.inl q)
      have n137 : ¬ Y_ty E x = 137 := fun q => E_ty hE (yg_t hx hb) ((Y_tyg hb).symm.trans q)
      obtain ⟨x1, sa, sb, sm, sf⟩ := st_allG hE hB hx hh (jt_w ht (by omega)) hI hb
      obtain ⟨x', ia, ib, im, _⟩ := ih (by omega) x1 (yg_s hx sm (by decide)) (hlG_s hh sm) (fun q => by
        obtain ⟨c1, c2⟩ := ys_i0 sm q
        rw [c2]; exact ho c1) (jtG_s ht sm) (gn_s sm hI)
      refine ⟨x', fun n p a e hp ha he K s O Q hs hQ => ?_, fun n e k M F Q Q' hr w hQ => ?_, ys_w (ys_tr sm im) (by decide) (by decide) (by decide), fun n i v => Or.inr ?_⟩
      rotate_left 2
      · have n1 := nf_s im n
        obtain ⟨f1', f2'⟩ := sf n1 i v
        obtain ⟨⟨I1, V1⟩, -, -, -⟩ := sm.2 n1.1 n1.2.1 n1.2.2 i v
        obtain ⟨-, -, e, -⟩ := im.2 n.1 n.2.1 n.2.2 I1 V1
        have := (G_n e).1
        exact ⟨by omega, (e.2.2.1 13 (Y_n x) (by decide) (by decide) (Nat.zero_le _) f1').trans f2'⟩
      · obtain ⟨e, rfl⟩ : ∃ e', e = e' + 1 := ⟨e - 1, by omega⟩
        have e0 := cg_ty hs
        refine ⟨fun q => absurd q (jaG_4 hE ha hb (yg_t hx hb)), fun _ => ⟨fun q => absurd (e0.symm.trans q) n125, fun _ => ⟨fun q => absurd (e0.symm.trans q) n137, fun _ => ?_⟩⟩⟩
        exact sa n (p + 1) hp K s O _ hs (fun s1 h1 => ia n p (a + 1) e (jbG_m hp sm) (jaG_s hE ha sm (by decide)) (by omega) K s1 O Q h1 hQ)
      · cases e with
        | zero => exact absurd w (fun q => q)
        | succ e =>
          dsimp only [w_block_6] at w ⊢
          refine rg_b1 hr (fun q => absurd (q.symm.trans hb) (by decide)) (fun _ w => ?_) w
          exact rg_s1 hE hr (c := 125) rfl (fun q => absurd q n125) (fun _ w => sb n k M F _ _ hr w (fun M1 F1 r1 w1 => ib n e k M1 F1 Q Q' r1 w1 hQ)) w
theorem blk_one (hE : E_ok E) {j : Nat} (ih : jBG E j) : ∀ x, yg E 6 x → hlG E x → jtG E (j + 1) x → gn E x → ∃ x', jyG E x x' ∧ fB E x x' := by
  intro x hx hh ht hI
  have hx10 : yg E 10 x := xg_w hx (by decide)
  have m0 := ym_op hE (yg_t hx) (c := 123) (by decide)
  have g0 := Y_op_g hE (c := 123) hx10 (by decide)
  have g0' : yg E 4 (Y_op E 123 x) := yg_o hx m0 (fun q => (Y_op_i q).2.2.1) (by decide)
  have ho := Y_op_1 (y := Y_op E 123 x) hx10 g0 (ym_rf (yg_t g0))
  have s0 := ym_ys hE m0
  have cn : ∀ (n : Nat) (p : Int32), jbG n p x → ∃ n', n = n' + 1 := fun n p hp => ⟨n - 1, by have := hp.1; omega⟩
  have gI0 : gn E (Y_op E 123 x) := gn_m m0 hI
  cases hb0 : (Y_op E 123 x).1 with
  | true =>
    obtain ⟨a, b, m⟩ := blk_xG hE g0' ho (Or.inr hb0)
    refine ⟨_, ⟨fun n p hp K s O Q hs hQ => ?_, fun n k M F Q Q' hr w hQ => ?_, ys_w (ys_tr s0 m) (by decide) (by decide) (by decide)⟩, fun n => absurd (nf_s m n) (nf_bd hb0)⟩
    · obtain ⟨n, rfl⟩ := cn n p hp
      show wF_X7_block (E_N E) (cff (E_N E) 22) (cb (E_N E) n) p s O Q
      exact cg_open hE hs (yg_oo hx) (by decide) (by decide) (fun q => (hp.2 q).2) (fun s1 h1 => ⟨1, a _ _ p 0 1 (by decide) K s1 O Q h1 hQ⟩)
    · cases n with
      | zero => exact absurd w (fun q => q)
      | succ n =>
        refine rg_opens hE (c := 123) rfl k M F _ _ hr w (fun M1 F1 r1 w1 => ?_)
        obtain ⟨e, w1⟩ := w1
        exact ⟨e, b _ _ e k M1 F1 Q Q' r1 w1 hQ⟩
  | false =>
    obtain ⟨x', ia, ib, im, bf⟩ := blk_LG hE ih j (Nat.le_refl _) (Y_op E 123 x) g0' (hlG_s hh s0) ho (jt_m ht m0.1) gI0
    refine ⟨x', ⟨fun n p hp K s O Q hs hQ => ?_, fun n k M F Q Q' hr w hQ => ?_, ys_w (ys_tr s0 im) (by decide) (by decide) (by decide)⟩, fun n i v => ?_⟩
    rotate_left 2
    · have n0 := nf_s im n
      obtain ⟨⟨I1, V1⟩, -, -, -⟩ := m0.2 n0.1 n0.2.1 n0.2.2 i v
      have eo : Y_op E 123 x = Y_si 0 (Y_i x 0 + 1) (Y_ad x) := by
        unfold Y_op
        rw [if_pos ⟨(Y_op_i hb0).2.1, (Y_op_i hb0).2.2.1⟩]
      have en : Y_n (Y_op E 123 x) = Y_n x := by rw [eo]; rfl
      have := bf n I1 V1
      rw [en] at this
      exact this
    · obtain ⟨n, rfl⟩ := cn n p hp
      obtain ⟨i1, i2, i3, i4⟩ := Y_op_i hb0
      have hp2 := jbG_2 hp i1
      have l1 : (1 : Int32).toInt = 1 := by decide
      have l20 : (20 : Int32).toInt = 20 := by decide
      have o := yg_oo hx i1
      have hlt20 : (Y_i x 0).toInt < 20 := by
        by_cases q : (Y_i x 0).toInt = 20
        · exact absurd (Int32.toInt_inj.mp (by rw [l20]; exact q)) i3
        · omega
      show wF_X7_block (E_N E) (cff (E_N E) 22) (cb (E_N E) n) p s O Q
      refine cg_open hE hs (yg_oo hx) (by decide) (by decide) (fun q => (hp.2 q).2) (fun s1 h1 => ⟨j + 1, ia n p 0 (j + 1) ⟨by omega, fun _ => ?_⟩ jaG_0 (by omega) K s1 O Q h1 hQ⟩)
      show 21 ≤ (Y_i (Y_op E 123 x) 0).toInt + (n : Int) ∧ p + 1 = Y_i (Y_op E 123 x) 0
      rw [i4, hp2.2, ti_addx _ _ (by rw [l1]; omega), l1]
      exact ⟨by omega, rfl⟩
    · cases n with
      | zero => exact absurd w (fun q => q)
      | succ n =>
        refine rg_opens hE (c := 123) rfl k M F _ _ hr w (fun M1 F1 r1 w1 => ?_)
        obtain ⟨e, w1⟩ := w1
        exact ⟨e, ib n e k M1 F1 Q Q' r1 w1 hQ⟩
theorem j_blockG (hE : E_ok E) : ∀ j, jBG E j := by
  intro j
  induction j with
  | zero =>
    intro x hx hh ht hI
    have hb : x.1 = true := by
      cases q : x.1 with
      | true => rfl
      | false => have := ht q; have := xg_t hx q; omega
    have e1 : Y_op E 123 x = Y_bd x := by
      unfold Y_op
      rw [if_neg (fun q => by rw [Y_tyb hb] at q; exact absurd q.1 (by decide))]
    obtain ⟨a, b, m⟩ := blk_xG hE (x := Y_bd x) (fun q => absurd q (by show ¬ true = false; decide)) (fun q => absurd q (by show ¬ true = false; decide)) (Or.inr rfl)
    have hc : (Y_cl E 125 (Y_bd x)).1 = true := Y_tk_b rfl
    refine ⟨Y_cl E 125 (Y_bd x), fun n p hp K s O Q hs hQ => ?_, fun n k M F Q Q' hr w hQ => ?_, ys_bd hc⟩
    · obtain ⟨n, rfl⟩ : ∃ n', n = n' + 1 := ⟨n - 1, by have := hp.1; omega⟩
      show wF_X7_block (E_N E) (cff (E_N E) 22) (cb (E_N E) n) p s O Q
      exact bd_block (hs.1.1 hb) (fun s' h' => hQ s' (rcG_bd h' hc))
    · cases n with
      | zero => exact absurd w (fun q => q)
      | succ n =>
        refine rg_opens hE (c := 123) rfl k M F _ _ hr w (fun M1 F1 r1 w1 => ?_)
        rw [e1] at r1
        obtain ⟨e, w1⟩ := w1
        exact ⟨e, b _ _ e k M1 F1 Q Q' r1 w1 hQ⟩
  | succ j ih =>
    intro x hx hh ht hI
    obtain ⟨x', h, -⟩ := blk_one hE ih x hx hh ht hI
    exact ⟨x', h⟩
end YSa
