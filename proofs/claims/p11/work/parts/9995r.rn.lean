/-! STATEMENTS with blocks: try, its end. -/
section YS8
variable {E : x_E} {x y : y_X} {c : List (Nat × Nat)} {t q hp : Nat} {pv : Option Nat}
def pvI : Option Nat → Int32
  | none => -1
  | some u => nI u
def jTR (E : x_E) (t : Nat) (pv : Option Nat) (y x' : y_X) : Prop := ∀ (n e : Nat) (a1 a2 : Int32), (nf y → a1 = nI t ∧ a2 = pvI pv) → rrG E (fun M F Q => w_trying_90 (wf_blk n) Q e a1 a2 M F) (Y_rs (23, nI t, 0, 0, -1) y) x'
def jTX (E : x_E) (q t : Nat) (c : List (Nat × Nat)) (hp : Nat) (pv : Option Nat) (y x' : y_X) : Prop := xs E 0 1 0 (X_pt 1 (yx y)) (yx x') ∧ (nf x' → TP E q t c hp pv y → TF E q t c hp pv y x')
def gT (E : x_E) (q t : Nat) (c : List (Nat × Nat)) (hp : Nat) (pv : Option Nat) (y : y_X) : Prop := nf y → TP E q t c hp pv y ∧ Y_a y 7 t = 1
theorem Y_n_rs {o : x_O} : Y_n (Y_rs o y) = Y_n y + 1 ∧ Y_T (Y_rs o y) = Y_T y ∧ Y_V (Y_rs o y) = Y_V y ∧ Y_B (Y_rs o y) = Y_B y := by
  have e3 : f1 (Y_m y) 0 (Y_m y 0 + 1) 3 = Y_m y 3 := f1_ne (by decide)
  have e1 : f1 (Y_m y) 0 (Y_m y 0 + 1) 1 = Y_m y 1 := f1_ne (by decide)
  have e2 : f1 (Y_m y) 0 (Y_m y 0 + 1) 2 = Y_m y 2 := f1_ne (by decide)
  have e0 : f1 (Y_m y) 0 (Y_m y 0 + 1) 0 = Y_m y 0 + 1 := f1_eq
  refine ⟨?_, ?_, ?_, e3⟩
  · show 9000 * f1 (Y_m y) 0 (Y_m y 0 + 1) 3 + f1 (Y_m y) 0 (Y_m y 0 + 1) 0 = 9000 * Y_m y 3 + Y_m y 0 + 1
    rw [e3, e0]; omega
  · show 400 * f1 (Y_m y) 0 (Y_m y 0 + 1) 3 + f1 (Y_m y) 0 (Y_m y 0 + 1) 1 = 400 * Y_m y 3 + Y_m y 1
    rw [e3, e1]
  · show 400 * f1 (Y_m y) 0 (Y_m y 0 + 1) 3 + f1 (Y_m y) 0 (Y_m y 0 + 1) 2 = 400 * Y_m y 3 + Y_m y 2
    rw [e3, e2]
/-- the reference: a try's end told -/
theorem rx_22 {k : x_B} {M : Nat → Int32} {F : Nat → Nat → Int32} {W W' : y_X} {a1 v v' : Int32} (h : rxG E k M F W) (ht : tv W W') (hr : nf W → a1 = nI t ∧ t < 20000 ∧ v = v' ∧ Y_a W 7 t = 1) (hg : nf W → Y_m W' = Y_m W ∧ Y_R W' = f2 (Y_R W) 22 t v' ∧ Y_a W' 5 = Y_a W 5 ∧ Y_a W' 7 = f1 (Y_a W 7) t 2 ∧ Y_a W' 8 = Y_a W 8) : rxG E k M (uf F 22 a1 v) W' := by
  have g := rx_rcv (row := 22) (i := t) (v' := v') (by decide) (by decide) (by decide) h (fun n => ⟨(hr n).1, (hr n).2.1⟩) (fun n => (hr n).2.2.1)
  refine rx_tvm g (tv_tr (tv_sy tv_rc) ht) (fun n => ?_)
  have n' : nf W := by unfold nf Y_rc Y_gs at n; exact n
  obtain ⟨g1, g2, g3, g4, g5⟩ := hg n'
  obtain ⟨r1, r2, r3, r4⟩ := hr n'
  obtain ⟨p1, p2, p3, p4, p5, p6, -⟩ := g.2 n
  refine ⟨g1, g2, g3, fun r i x1 x2 x3 x4 x5 => ?_, fun r i x1 x2 x3 x4 x5 => p6 r i x1 x2 x3 x4 (by rw [g5] at x5; exact x5)⟩
  by_cases z : r = 22 ∧ i = t
  · rw [z.1, z.2]
    show uf F 22 a1 v 22 t = f2 (Y_R W) 22 t v' 22 t
    rw [uf_at2, r1, y_cl (by omega), if_pos ⟨rfl, rfl⟩, f2_eq, f1_eq, r3]
  · refine p5 r i x1 x2 x3 x4 ?_
    show r ≤ 20 + Y_a W 7 i
    rw [g4] at x5
    by_cases zi : i = t
    · rw [zi, r4]; omega
    · rw [f1_ne zi] at x5; exact x5
theorem try_xG (hE : E_ok E) {j : Nat} (hB : jBG E j) (hx : xg E 6 (X_pt 1 (yx y))) (hh : hl E (X_pt 1 (yx y))) (ht : jt E j (X_pt 1 (yx y))) (hT : gT E q t c hp pv y) (z : ¬ Y_ty E y = 217) : ∃ x', (∀ (n : Nat) (p r6 : Int32) (K : List Nat) (s : f_S3) (O : Nat × Nat) (Q : f_S3 → Nat × Nat → Prop), jb n p (X_pt 1 (yx y)) → (y.1 = false → q ∈ K ∧ r6 = nI q) → rcG E (K, 0, false, false) s (Y_cs [5] y) → (∀ s', rcG E (K, 0, false, false) s' x' → Q s' O) → wF_X7_attempt_169 (E_N E) (cb (E_N E) n) Q p r6 s O) ∧ jTR E t pv y x' ∧ jTX E q t c hp pv y x' := by
  have hz : y.1 = false → Y_z y < 80000 := fun hb => by
    have h1 : Y_z y + 1 < 100000 := yg_z (x := Y_cs [5] y) hE hx (by decide) hb
    obtain ⟨d1, d2, d3⟩ := hx hb
    have d3 : ((Y_z y + 1 : Nat) : Int) ≤ 2 * (E_p E (Y_t y) : Int) + 6 := d3
    have h2 := E_pn hE (t := Y_t y) d1
    have h3 := E_n4 hE
    omega
  have n23 : nf (Y_rs (23, nI t, 0, 0, -1) y) → nf y := fun n => by unfold nf Y_rs at n; exact n
  have tT : ∀ (k : x_B) (M : Nat → Int32) (F : Nat → Nat → Int32) (W : y_X), rxG E k M F W → Y_T W = Y_T y → (nf W → nf y) → nf W → t < 20000 := fun k M F W hr eT e n => by
    have h1 := (hr.2 n).2.2.1.2.1
    have h2 := (hT (e n)).1.2.2.2.1.2
    rw [eT] at h1; omega
  by_cases z8 : Y_ty E y = 218
  · have hlt : y.1 = false → Y_t y < E_m E := yq_lt hE (fun b => xg_t hx b) z8 (by decide)
    have m0 : xm E 0 (-2) 0 (X_pt 1 (yx y)) (yx (Y_ad (Y_y3 q t c y))) := xm_w (xm_ad hE (x := X_pt 1 (yx y)) hlt) (by decide) (by decide) rfl
    have s0 := xm_xs hE m0
    have nw : nf (Y_ad (Y_y3 q t c y)) → nf y := fun n => n
    have gw : gn E (Y_ad (Y_y3 q t c y)) := fun n => (t3_f (hT (nw n)).1 (hz (nw n).1)).1
    obtain ⟨y6, ba, bb, bm⟩ := hB (Y_ad (Y_y3 q t c y)) (xg_m hx m0 (by decide)) (hl_s hh s0) (jt_m (a := 0) ht m0) gw
    have s1 := xs_t0 s0 bm.1
    have g6 : xg E 6 (yx y6) := xg_s hx s1 (by decide)
    have s2 : xs E 0 1 0 (X_pt 1 (yx y)) (yx (Y_y4 t c y6)) := xs_w (xs_t0 s1 (xm_xs hE (xm_pt (xs_t s1) 1))) (by decide) (by decide) rfl
    have e7 : Y_a (Y_y3 q t c y) 7 = Y_a y 7 := by unfold Y_y3; rw [YG_a, f2_ne (by decide), f2_ne (by decide)]
    refine ⟨Y_y4 t c y6, fun n p r6 K s O Q hp' hr6 hs hQ => ?_, fun n e a1 a2 ha k M F Q Q' hr w hQ => ?_, s2, fun n hP => ?_⟩
    · refine cg_change hE hs (j := q) (fun b => ⟨(hr6 b).2, (hr6 b).1⟩) (fun s1' h1 => ⟨fun z => absurd ((cg_ty h1).trans z8) z, fun _ => cg_adv hE h1 hlt (fun s2' h2 => ?_)⟩)
      have h3 : rcG E (K, 0, false, false) s2' (Y_ad (Y_y3 q t c y)) := by
        refine rc_tv h2 (tv_ad (tv_tr (tv_sy (tv_tr tv_cs tv_ch)) tv_G)) rfl (fun n => ?_)
        have n : nf y := n
        refine ⟨?_, ?_, ?_⟩
        · show cl (f1 (Y_C y) q (nI (Y_z y + 1))) (Y_z y) [5] = f1 (cl (Y_C y) (Y_z y) [5]) q (s.1 63)
          rw [cg_63 hs n.1, f1_cl (hT n).1.2.2.2.2.1.1]
          rfl
        · show Y_a (Y_y3 q t c y) 4 = Y_a y 4
          unfold Y_y3; rw [YG_a, f2_ne (by decide), f2_ne (by decide)]
        · show Y_a (Y_y3 q t c y) 6 = Y_a y 6
          unfold Y_y3; rw [YG_a, f2_ne (by decide), f2_ne (by decide)]
      refine ba n p (jb_m hp' s0) _ s2' O _ h3 (fun s3 h4 => cg_emit hE h4 (yg_lo (n := 15) g6 (by decide)) (by decide) (fun s4 h5 => hQ s4 ?_))
      refine rc_tv h5 (tv_tr (tv_sy tv_cs) tv_G) rfl (fun _ => ⟨rfl, ?_, ?_⟩)
      · show Y_a (Y_y4 t c y6) 4 = Y_a y6 4
        unfold Y_y4; rw [YG_a, f2_ne (by decide), f2_ne (by decide)]
      · show Y_a (Y_y4 t c y6) 6 = Y_a y6 6
        unfold Y_y4; rw [YG_a, f2_ne (by decide), f2_ne (by decide)]
    · cases e with
      | zero => exact absurd w (fun q => q)
      | succ e =>
        dsimp only [w_trying_90] at w ⊢
        refine rg_w0 hE hr 17 (by decide) (c := 17) (d := 217) (by decide) (by decide) (fun q => absurd q z) (fun _ w => ?_) w
        refine rg_w0 hE hr 18 (by decide) (c := 18) (d := 218) (by decide) (by decide) (fun _ w => ?_) (fun q => absurd z8 q) w
        refine rg_pass hE (y := Y_rs (23, nI t, 0, 0, -1) y) hlt k M F _ _ hr w (fun M1 F1 r1 w1 => ?_)
        have w1' : vp_in a1 800 ∧ wf_blk n M1 _ _ := w1
        have r2 := rx_rcv (row := 21) (i := t) (r := a1) (v := 9000 * M1 27 + M1 29) (v' := nI (Y_n y + 1)) (by decide) (by decide) (by decide) r1 (fun n => ⟨(ha n).1, tT k M1 F1 _ r1 Y_n_rs.2.1 (fun n => n) n⟩) (fun n => by rw [(rg_here r1 n).1]; exact congrArg nI Y_n_rs.1)
        have r3 : rxG E k M1 (uf F1 21 a1 (9000 * M1 27 + M1 29)) (Y_ad (Y_y3 q t c y)) := by
          refine rx_tv r2 (tv_tr (tv_sy (tv_tr (tv_ad tv_rs) tv_rc)) (tv_ad tv_G)) (fun n => ⟨rfl, rfl, ?_, ?_, ?_⟩)
          · show Y_a (Y_y3 q t c y) 5 = Y_a y 5
            unfold Y_y3; rw [YG_a, f2_ne (by decide), f2_ne (by decide)]
          · exact e7
          · show Y_a (Y_y3 q t c y) 8 = Y_a y 8
            unfold Y_y3; rw [YG_a, f2_ne (by decide), f2_ne (by decide)]
        refine ⟨w1'.1, bb n k M1 _ _ _ r3 w1'.2 (fun M2 F2 r4 w2 => rg_put r4 w2 (fun _ M3 F3 _ r5 w3 => ?_))⟩
        have w3' : vp_in a1 800 ∧ Q M3 _ := w3
        have n6 : nf y6 → nf y := fun n => nw (nf_s bm n)
        have r5 := rx_rsn (o' := (24, nI t, 0, 0, -1)) r5 (fun n => by rw [(ha (n6 n)).1])
        refine ⟨w3'.1, hQ _ _ (rx_22 (t := t) (v' := nI (Y_n y6 + 1)) r5 (tv_tr (tv_sy tv_rs) tv_G) (fun n => ?_) (fun n => ⟨rfl, rfl, ?_, ?_, ?_⟩)) w3'.2⟩
        · have n' : nf y6 := by unfold nf Y_rs at n; exact n
          have hTy := hT (n6 n')
          obtain ⟨⟨I3, v3⟩, -, -, -, ⟨-, nT, -⟩, -⟩ := t3_f hTy.1 (hz (n6 n').1)
          have e6 := (bm.2 n'.1 n'.2.1 n'.2.2 I3 v3).2.2.1
          have t3 : t < Y_T (Y_y3 q t c y) := by rw [nT]; exact hTy.1.2.2.2.1.2
          have n7 := (G_n e6).2.1
          have hT6 : t < Y_T y6 := Nat.lt_of_lt_of_le t3 n7
          have h1 := (r5.2 n).2.2.1.2.1
          rw [Y_n_rs.2.1] at h1
          refine ⟨(ha (n6 n')).1, by omega, by rw [(rg_here r5 n).1]; exact congrArg nI Y_n_rs.1, ?_⟩
          show Y_a y6 7 t = 1
          rw [((e6.2.2.2.2.2.2.1 t t3).1 (Nat.zero_le _)).2]
          exact (congrFun e7 t).trans hTy.2
        · show Y_a (Y_y4 t c y6) 5 = Y_a y6 5
          unfold Y_y4; rw [YG_a, f2_ne (by decide), f2_ne (by decide)]
        · show Y_a (Y_y4 t c y6) 7 = f1 (Y_a y6 7) t 2
          unfold Y_y4; rw [YG_a, f2_eq, f2_ne (by decide)]
        · show Y_a (Y_y4 t c y6) 8 = Y_a y6 8
          unfold Y_y4; rw [YG_a, f2_ne (by decide), f2_ne (by decide)]
    · have n6 : nf y6 := n
      have n0 : nf y := nw (nf_s bm n6)
      have z6 : Y_z y6 < 80000 := by
        obtain ⟨d1, d2, d3⟩ := g6 n6.1
        have d3 : (Y_z y6 : Int) ≤ 2 * (E_p E (Y_t y6) : Int) + 6 := d3
        have h2 := E_pn hE (t := Y_t y6) d1
        have h3 := E_n4 hE
        omega
      exact tr_3 hP (hz n0.1) z6 n6.2.1 n6.2.2 (gx_tr (y1 := Y_ad (Y_y3 q t c y)) (fun _ => (nf_s bm n6).2.1) (fun _ => (nf_s bm n6).2.2) (gx_eq rfl rfl ⟨rfl, rfl, rfl, rfl, rfl, rfl⟩) (bm.2 n6.1))
  · have s2 : xs E 0 1 0 (X_pt 1 (yx y)) (yx (Y_y2 q t c y)) := xm_xs hE (xm_pt (x := X_pt 1 (yx y)) (fun b => xg_t hx b) 1)
    refine ⟨Y_y2 q t c y, fun n p r6 K s O Q hp' hr6 hs hQ => ?_, fun n e a1 a2 ha k M F Q Q' hr w hQ => ?_, s2, fun n hP => ?_⟩
    · refine cg_change hE hs (j := q) (fun b => ⟨(hr6 b).2, (hr6 b).1⟩) (fun s1' h1 => ⟨fun _ => cg_emit hE h1 (xg_lo (n := 15) (x := X_pt 1 (yx y)) hx (by decide)) (by decide) (fun s4 h5 => hQ s4 ?_), fun z => absurd ((cg_ty h1).symm.trans z) z8⟩)
      refine rc_tv h5 (tv_tr (tv_sy (tv_tr tv_cs (tv_tr tv_ch tv_cs))) tv_G) rfl (fun n => ?_)
      have n : nf y := n
      refine ⟨?_, ?_, ?_⟩
      · show cl (f1 (Y_C y) q (nI (Y_z y + 1))) (Y_z y) [5, 6] = cl (f1 (cl (Y_C y) (Y_z y) [5]) q (s.1 63)) (Y_z y + 1) [6]
        rw [cg_63 hs n.1, f1_cl (hT n).1.2.2.2.2.1.1]
        exact (cl_cl (l := [5]) (m := [6])).symm
      · show Y_a (Y_y2 q t c y) 4 = Y_a y 4
        unfold Y_y2; rw [YG_a, f2_ne (by decide), f2_ne (by decide), f2_ne (by decide)]
      · show Y_a (Y_y2 q t c y) 6 = Y_a y 6
        unfold Y_y2; rw [YG_a, f2_ne (by decide), f2_ne (by decide), f2_ne (by decide)]
    · cases e with
      | zero => exact absurd w (fun q => q)
      | succ e =>
        dsimp only [w_trying_90] at w ⊢
        refine rg_w0 hE hr 17 (by decide) (c := 17) (d := 217) (by decide) (by decide) (fun q => absurd q z) (fun _ w => ?_) w
        refine rg_w0 hE hr 18 (by decide) (c := 18) (d := 218) (by decide) (by decide) (fun q => absurd q z8) (fun _ w => ?_) w
        have w' : vp_in a1 800 ∧ Q M _ := w
        refine ⟨w'.1, hQ _ _ (rx_22 (t := t) (v' := nI (Y_n y + 1)) hr (tv_tr (tv_sy tv_rs) tv_G) (fun n => ⟨(ha (n23 n)).1, tT k M F _ hr Y_n_rs.2.1 n23 n, by rw [(rg_here hr n).1]; exact congrArg nI Y_n_rs.1, (hT (n23 n)).2⟩) (fun n => ⟨rfl, rfl, ?_, ?_, ?_⟩)) w'.2⟩
        · show Y_a (Y_y2 q t c y) 5 = Y_a y 5
          unfold Y_y2; rw [YG_a, f2_ne (by decide), f2_ne (by decide), f2_ne (by decide)]
        · show Y_a (Y_y2 q t c y) 7 = f1 (Y_a y 7) t 2
          unfold Y_y2; rw [YG_a, f2_eq, f2_ne (by decide), f2_ne (by decide)]
        · show Y_a (Y_y2 q t c y) 8 = Y_a y 8
          unfold Y_y2; rw [YG_a, f2_ne (by decide), f2_ne (by decide), f2_ne (by decide)]
    · have n0 : nf y := n
      exact tr_2 hP (hz n0.1)
end YS8
