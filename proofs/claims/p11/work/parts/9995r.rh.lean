/-! STATEMENTS with blocks: if, while. -/
section YS7
variable {E : x_E} {x y : y_X}
theorem rc_pj {k : x_Kt} {s : f_S3} {p i : Nat} {v v' w : Int32} (h : rcG E k s (Y_ch p v y)) (hv : nf y → v = v') : rcG E k s (Y_pj p v' i w y) := by
  refine rcG_cg (y := Y_ch p v y) rfl (fun n => ?_) h
  have n : nf y := by unfold nf Y_ch Y_gs at n; exact n
  rw [hv n]
  exact ⟨rfl, rfl, rfl, rfl⟩
theorem rx_pj {k : x_B} {M : Nat → Int32} {F : Nat → Nat → Int32} {p i : Nat} {r v v' w : Int32} (h : rxG E k M F y) (hr : nf y → r = nI i ∧ i < 20000) (hv : nf y → v = v') : rxG E k M (uf F 14 r v) (Y_pj p w i v' y) := by
  have h1 := rx_rc (row := 14) (v := v) (by decide) (by decide) (by decide) h hr
  refine ⟨h1.1, fun n => ?_⟩
  have n' : nf y := by unfold nf Y_pj Y_ch Y_rc Y_gs at n; exact n
  have h2 := h1.2
  rw [hv n'] at h2 ⊢
  exact RG_cg (y := Y_rc 14 i v' y) (fun n => n) rfl rfl rfl rfl rfl rfl rfl rfl h2 ⟨rfl, rfl, rfl⟩ (fun _ _ => rfl) (fun n => (h2 n).2.2.2.2.2.2.2.2) n
theorem rg_here {k : x_B} {M : Nat → Int32} {F : Nat → Nat → Int32} (h : rxG E k M F y) (n : nf y) : 9000 * M 27 + M 29 = nI (Y_n y) ∧ Y_n y ≤ 18000 := by
  obtain ⟨p1, ⟨p2, -⟩, ⟨p3, -⟩, -⟩ := h.2 n
  have e27 : M 27 = nI k.1 := (h.1.2 n.1).2.2.2.2.2.1.1
  rw [e27, p1, p2, show (9000 : Int32) = nI 9000 from rfl, pk_mul, nI_add]
  exact ⟨rfl, p3⟩
theorem cg_63 {k : x_Kt} {s : f_S3} (h : rcG E k s y) (hb : y.1 = false) : s.1 63 = nI (Y_z y) := (h.1.2 hb).2.2.2.2.1.1
theorem yg_z {c : Int} (hE : E_ok E) (h : yg E c x) (hc : c ≤ 100) (hb : x.1 = false) : Y_z x < 100000 := by
  obtain ⟨d1, d2, d3⟩ := h hb
  have d3 : (Y_z x : Int) ≤ 2 * (E_p E (Y_t x) : Int) + c := d3
  have h1 := E_pn hE (t := Y_t x) d1
  have h2 := E_n4 hE
  omega
def jyG (E : x_E) (x x' : y_X) : Prop := (∀ (n : Nat) (p : Int32), jbG n p x → crKG E (cb (E_N E) n p) x x') ∧ (∀ n, rrG E (wf_blk n) x x') ∧ ys E 2 (-4) 0 x x'
/-- in order, as long as nothing is wrong -/
def gn (E : x_E) (x : y_X) : Prop := nf x → gI x ∧ gv E x
theorem gn_m {a : Nat} {d : Int} {e : Int32} (m : ym E a d e x y) (h : gn E x) : gn E y := fun n => (m.2 n.1 n.2.1 n.2.2 (h (nf_m m n)).1 (h (nf_m m n)).2).1
theorem gn_s {a : Nat} {d : Int} {e : Int32} (m : ys E a d e x y) (h : gn E x) : gn E y := fun n => (m.2 n.1 n.2.1 n.2.2 (h (nf_s m n)).1 (h (nf_s m n)).2).1
theorem gn_em {l : List Int32} {o : x_O} (hl : 1 ≤ l.length) (h : gn E x) : gn E (Y_em l o (Y_c x) x) := fun n => by
  have n : nf x := by unfold nf Y_em at n; exact n
  exact ⟨em_I (h n).1 hl (h n).1.2.1, gv_cg rfl rfl rfl rfl rfl (h n).2⟩
theorem gn_pj {p k : Nat} {v v' : Int32} (h : gn E x) : gn E (Y_pj p v k v' x) := fun n => ⟨pj_I (h n).1, pj_v (h n).2⟩
def jBG (E : x_E) (j : Nat) : Prop := ∀ x, yg E 6 x → hlG E x → jtG E j x → gn E x → ∃ x', jyG E x x'
theorem em_R {l : List Int32} {o : x_O} {c : List (Nat × Nat)} : Y_R (Y_em l o c y) = r5 (Y_R y) (Y_n y) o := rfl
theorem fS_wh {x3 x5 : y_X} (h0 : x3.1 = false → gx E (Y_0 x) x3) (h : x5.1 = false → gx E (Y_em [13, -1] (21, 0, 0, 0, -1) (Y_c x3) x3) x5) (hf : nf x5 → nf x3) : fS E x (Y_wh x x3 x5) := fun n i v => by
  have n5 : nf x5 := by unfold nf Y_wh Y_pj Y_ch Y_rc Y_gs Y_em at n; exact n
  have n3 := hf n5
  obtain ⟨f1', f2'⟩ := fS_of h0 n3 i v
  have I : gI (Y_0 x) := em_I (l := [0]) (o := (0, 0, 0, 0, -1)) i (Nat.le_refl _) i.2.1
  have V : gv E (Y_0 x) := gv_cg rfl rfl rfl rfl rfl v
  obtain ⟨⟨I3, V3⟩, -, -, -⟩ := h0 n3.1 n3.2.1 n3.2.2 I V
  have I4 : gI (Y_em [13, -1] (21, 0, 0, 0, -1) (Y_c x3) x3) := em_I (l := [13, -1]) (o := (21, 0, 0, 0, -1)) I3 (show 1 ≤ 2 by decide) I3.2.1
  have V4 : gv E (Y_em [13, -1] (21, 0, 0, 0, -1) (Y_c x3) x3) := gv_cg rfl rfl rfl rfl rfl V3
  obtain ⟨-, -, e5, -⟩ := h n5.1 n5.2.1 n5.2.2 I4 V4
  have n4 : Y_n (Y_em [13, -1] (21, 0, 0, 0, -1) (Y_c x3) x3) = Y_n x3 + 1 := Y_n_em.1
  have r4 : Y_R (Y_em [13, -1] (21, 0, 0, 0, -1) (Y_c x3) x3) 13 (Y_n x) = Y_R x3 13 (Y_n x) := by rw [em_R]; exact r5_ne (by omega)
  have n6 := (G_n e5).1
  have n7 : Y_n (Y_em [12, nI (Y_z x)] (20, nI (Y_n x), 0, 0, -1) (Y_c x5) x5) = Y_n x5 + 1 := Y_n_em.1
  have r5' : Y_R x5 13 (Y_n x) = 0 := (e5.2.2.1 13 (Y_n x) (by decide) (by decide) (Nat.zero_le _) (by omega)).trans (r4.trans f2')
  have r6 : Y_R (Y_em [12, nI (Y_z x)] (20, nI (Y_n x), 0, 0, -1) (Y_c x5) x5) 13 (Y_n x) = Y_R x5 13 (Y_n x) := by rw [em_R]; exact r5_ne (by omega)
  unfold Y_wh
  rw [pj_n, pj_R, f2_ne (by decide), n7, r6]
  exact ⟨by omega, r5'⟩
theorem st_ifG (hE : E_ok E) {j : Nat} (hB : jBG E j) (hx : yg E 4 x) (hh : hlG E x) (ht : jtG E (j + 1) x) (hI : gn E x) (z : Y_ty E x = 213) : ∃ x', jSG E x x' := by
  have hb := Y_tyn z (by decide)
  have m0 := ym_0 (yg_t hx)
  have z' : Y_ty E (Y_0 x) = 213 := Y_0_ty.trans z
  have hlt : (Y_0 x).1 = false → Y_t (Y_0 x) < E_m E := yq_lt hE (ym_t m0) z' (by decide)
  have m1 := ym_t0 m0 (ym_ad hE hlt)
  have Mm1 := ym_ad hE hlt
  obtain ⟨x3, a, b, me⟩ := j_EG hE (yg_m hx m1 (c' := 10) (by decide))
  have m2 := ym_t0 m1 me
  have Mm2 := ym_t0 Mm1 me
  have m4 : xm E 1 1 0 (yx x) (yx (Y_em [13, -1] (21, 0, 0, 0, -1) (Y_c x3) x3)) := xm_w (xm_t0 m2.1 (xm_pt (ym_t m2) 2)) (by decide) (by decide) rfl
  have s4 := xm_xs hE m4
  have f4 : nf (Y_em [13, -1] (21, 0, 0, 0, -1) (Y_c x3) x3) → nf x3 := fun n => by unfold nf Y_em at n; exact n
  have g4 : yg E 6 (Y_em [13, -1] (21, 0, 0, 0, -1) (Y_c x3) x3) := xg_m hx m4 (by decide)
  obtain ⟨x5, ba, bb, bm⟩ := hB (Y_em [13, -1] (21, 0, 0, 0, -1) (Y_c x3) x3) g4 (hl_s hh s4) (jt_m ht m4) (gn_em (show 1 ≤ 2 by decide) (gn_m m2 hI))
  have s5 := xs_t0 s4 bm.1
  have g5 : yg E 4 x5 := xg_s hx s5 (by decide)
  have jb4 : ∀ (n : Nat) (p : Int32), jbG n p x → jbG n p (Y_em [13, -1] (21, 0, 0, 0, -1) (Y_c x3) x3) := fun n p hp => jb_m hp s4
  have n53 : nf x5 → nf x3 := fun n => f4 (nf_s bm n)
  have cw : ∀ (n : Nat) (p : Int32), jbG n p x → ∀ (K : List Nat) (s : f_S3) (O : Nat × Nat) (Q : f_S3 → Nat × Nat → Prop), rcG E (K, 0, false, false) s x → (∀ (r5 : Int32) (s7 : f_S3), (x5.1 = false → r5 = nI (Y_z x3 + 1)) → rcG E ((Y_z x3 + 1) :: K, 0, false, false) s7 x5 → (((s7.1 12) = 214 → (wF_X7_advance (E_N E) s7 O (fun M8 O8 => (wF_X7_emit (E_N E) 12 M8 O8 (fun M9 O9 => (wF_X6_put (E_N E) (-1) M9 O9 (fun r10 M11 O11 => (wF_X6_change (E_N E) r5 (M11.1 63) M11 O11 (fun M12 O12 => (cb (E_N E) n p M12 O12 (fun M13 O13 => (wF_X6_change (E_N E) r10 (M13.1 63) M13 O13 (fun M14 O14 => (Q M14 O14)))))))))))))) ∧ (¬ (s7.1 12) = 214 → (wF_X6_change (E_N E) r5 (s7.1 63) s7 O (fun M15 O15 => (Q M15 O15)))))) → wF_X7_statement (E_N E) (cff (E_N E) 22) (cb (E_N E) n) p s O Q := by
    intro n p hp K s O Q hs hk
    have e := (cg_ty hs).trans z
    refine ⟨fun _ => ?_, fun q => absurd (q.symm.trans e) (by decide), fun q => absurd (q.symm.trans e) (by decide), fun q => absurd (q.symm.trans e) (by decide), fun q => absurd e q⟩
    refine cg_emit hE hs (yg_lo (n := 15) hx (by decide)) (by decide) (fun s1 h1 => cg_adv hE (y := Y_0 x) (rc_em h1) hlt (fun s2 h2 => a 22 p (jbG_p hp hx m1) _ s2 O _ h2 (fun s3 h3 => ?_)))
    have lo := yg_lo (n := 10) (yg_m hx m2 (c' := 10) (by decide)) (by decide)
    refine cg_emit hE h3 lo (by decide) (fun s4' h4 => cg_hole hE h4 (Y_lo_p lo _) (show 10 + 1 ≤ 15 by decide) (fun r5 s6 hr6 h6 => ?_))
    rw [Y_csa] at h6
    exact ba n p (jb4 n p hp) _ s6 O _ (rc_em h6) (fun s7 h7 => hk r5 s7 (fun q => hr6 (bm.1 q).1) h7)
  have rw5 : ∀ (n : Nat) (k : x_B) (M : Nat → Int32) (F : Nat → Nat → Int32) (Q Q' : (Nat → Int32) → (Nat → Nat → Int32) → Prop), rxG E k M F x → (∀ (r3 : Int32) (M5 : Nat → Int32) (F5 : Nat → Nat → Int32), (nf x5 → r3 = nI (Y_n x3) ∧ Y_n x3 < 20000) → rxG E k M5 F5 x5 → (w_isWord 14 M5 F5 (fun r6 M7 F7 => ((r6 = 0 → (w_here M7 F7 (fun r8 M9 F9 => (vp_in r3 18000 ∧ (Q M9 (uf F9 14 r3 r8)))))) ∧ (¬ r6 = 0 → (w_pass M7 F7 (fun M11 F11 => (w_put 20 0 0 0 M11 F11 (fun r12 M13 F13 => (w_here M13 F13 (fun r14 M15 F15 => (vp_in r3 18000 ∧ (wf_blk n M15 (uf F15 14 r3 r14) (fun M17 F17 => (w_here M17 F17 (fun r18 M19 F19 => (vp_in r12 18000 ∧ (Q M19 (uf F19 14 r12 r18)))))))))))))))))) → (w_isWord 14 M5 F5 (fun r6 M7 F7 => ((r6 = 0 → (w_here M7 F7 (fun r8 M9 F9 => (vp_in r3 18000 ∧ (Q' M9 (uf F9 14 r3 r8)))))) ∧ (¬ r6 = 0 → (w_pass M7 F7 (fun M11 F11 => (w_put 20 0 0 0 M11 F11 (fun r12 M13 F13 => (w_here M13 F13 (fun r14 M15 F15 => (vp_in r3 18000 ∧ (wf_blk n M15 (uf F15 14 r3 r14) (fun M17 F17 => (w_here M17 F17 (fun r18 M19 F19 => (vp_in r12 18000 ∧ (Q' M19 (uf F19 14 r12 r18))))))))))))))))))) → w_statement (wf_fac 22) (wf_blk n) M F Q → w_statement (wf_fac 22) (wf_blk n) M F Q' := by
    intro n k M F Q Q' hr hk w
    refine st_rG hE 13 (by decide) (by decide) (by decide) z hr (fun M1 F1 r1 e5 w1 => st_W13 (e5.trans (by decide)) (fun w => ?_) w1) w
    exact rg_pass hE hlt k M1 F1 _ _ r1 w (fun M2 F2 r2 w2 => b 22 k M2 F2 _ _ r2 w2 (fun M3 F3 r3 w3 => rg_put r3 w3 (fun r M4 F4 er r4 w4 => bb n k M4 F4 _ _ (rx_em r4) w4 (fun M5 F5 r5 w5 => hk r M5 F5 (fun n => ⟨er (n53 n), by have := (rg_here r3 (n53 n)).2; omega⟩) r5 w5))))
  by_cases z5 : Y_ty E x5 = 214
  · have hlt5 := yq_lt hE (yg_t g5) z5 (by decide)
    have n0 := ym_ad hE hlt5
    have n2 : xm E 0 0 0 (yx x5) (yx (Y_e2 x3 (Y_ad x5))) := xm_w (xm_t0 n0.1 (xm_pt (ym_t n0) 2)) (by decide) (by decide) rfl
    have s6 := xs_t0 s5 (xm_xs hE n2)
    have f7 : nf (Y_e2 x3 (Y_ad x5)) → nf x5 := fun n => by unfold nf Y_e2 Y_pj Y_ch Y_rc Y_gs Y_em Y_ad at n; exact n
    have g7 : yg E 6 (Y_e2 x3 (Y_ad x5)) := xg_s hx s6 (by decide)
    obtain ⟨x8, ca, cc, cm⟩ := hB (Y_e2 x3 (Y_ad x5)) g7 (hl_s hh s6) (jt_s (a := 1) ht (xs_w s6 (by decide) (Int.le_refl _) rfl)) (gn_pj (gn_em (show 1 ≤ 2 by decide) (gn_m n0 (gn_s bm (gn_em (show 1 ≤ 2 by decide) (gn_m m2 hI))))))
    have g8 : yg E 4 x8 := xg_s g7 cm.1 (by decide)
    have s8 := xs_t0 s6 cm.1
    have e7 : Y_n (Y_em [12, -1] (20, 0, 0, 0, -1) (Y_c (Y_ad x5)) (Y_ad x5)) = Y_n (Y_ad x5) + 1 := Y_n_em.1
    have gall : ∀ x0 : y_X, (x3.1 = false → gx E x0 x3) → x8.1 = false → gx E x0 (Y_pj (Y_z (Y_ad x5) + 1) (nI (Y_z x8)) (Y_n (Y_ad x5)) (nI (Y_n x8)) x8) := fun x0 h0 q => by
      obtain ⟨b1, -, -, -, -, -, -, b11, b12, -⟩ := cm.1 q
      obtain ⟨a1, -, -, -, -, -, -, a11, a12, -⟩ := bm.1 b1
      have gg : gx E x3 (Y_pj (Y_z (Y_ad x5) + 1) (nI (Y_z x8)) (Y_n (Y_ad x5)) (nI (Y_n x8)) x8) := gx_if2 (y := Y_ad x5) (yg_z hE g8 (by decide) q) b11 b12 (gx_tr (y1 := x5) (fun z => z) (fun z => z) (bm.2 b1) (gx_eq rfl rfl ⟨rfl, rfl, rfl, rfl, rfl, rfl⟩)) (cm.2 q)
      exact gx_tr (y1 := x3) (fun z => a11 (b11 z)) (fun z => a12 (b12 z)) (h0 a1) gg
    refine ⟨Y_pj (Y_z (Y_ad x5) + 1) (nI (Y_z x8)) (Y_n (Y_ad x5)) (nI (Y_n x8)) x8, fun n p hp K s O Q hs hQ => cw n p hp K s O Q hs (fun r5 s7 e5 h7 => ⟨fun _ => ?_, fun q => absurd ((cg_ty h7).trans z5) q⟩), fun n k M F Q Q' hr w hQ => rw5 n k M F Q Q' hr (fun r3 M5 F5 e3 r5 w5 => ?_) w, ⟨xs_w s8 (by decide) (by decide) rfl, gall x m2.2⟩, fS_of (gall (Y_0 x) Mm2.2)⟩
    · refine cg_adv hE h7 hlt5 (fun s8 h8 => ?_)
      have lo := yg_lo (n := 2) (yg_m g5 n0 (c' := 2) (by decide)) (by decide)
      refine cg_emit hE h8 lo (by decide) (fun s9 h9 => cg_hole hE h9 (Y_lo_p lo _) (show 2 + 1 ≤ 15 by decide) (fun r10 s11 hr10 h11 => ?_))
      rw [Y_csa] at h11
      have h11 := rc_em (o := (20, 0, 0, 0, -1)) (c := Y_c (Y_ad x5)) h11
      refine cg_change hE h11 (j := Y_z x3 + 1) (fun q => ⟨e5 q, List.mem_cons_of_mem _ (List.mem_cons_self ..)⟩) (fun s12 h12 => ca n p (jb_m hp s6) _ s12 O _ (rc_pj (v' := nI (Y_z (Y_ad x5) + 2)) (i := Y_n x3) (w := nI (Y_n (Y_ad x5) + 1)) h12 (fun n => cg_63 h11 n.1)) (fun s13 h13 => cg_change hE h13 (j := Y_z (Y_ad x5) + 1) (fun q => ⟨hr10 (by have := (cm.1 q).1; exact this), List.mem_cons_self ..⟩) (fun s14 h14 => hQ s14 (cg_sub (rc_pj h14 (fun n => cg_63 h13 n.1)) (fun q hq => List.mem_cons_of_mem _ (List.mem_cons_of_mem _ hq)) rfl))))
    · refine rg_w0 hE r5 14 (by decide) (c := 14) (d := 214) (by decide) (by decide) (fun _ w => ?_) (fun q => absurd z5 q) w5
      refine rg_pass hE hlt5 k M5 F5 _ _ r5 w (fun M6 F6 r6 w6 => rg_put r6 w6 (fun r12 M7 F7 er r7 w7 => ?_))
      have w7' : vp_in r3 18000 ∧ wf_blk n M7 _ _ := w7
      have r7 := rx_em (l := [12, -1]) (c := Y_c (Y_ad x5)) r7
      refine ⟨w7'.1, cc n k M7 _ _ _ (rx_pj (p := Y_z x3 + 1) (w := nI (Y_z (Y_ad x5) + 2)) (v' := nI (Y_n (Y_ad x5) + 1)) r7 (fun n => e3 n) (fun n => by rw [(rg_here r7 n).1, e7])) w7'.2 (fun M8 F8 r8 w8 => ?_)⟩
      have w8' : vp_in r12 18000 ∧ Q M8 _ := w8
      exact ⟨w8'.1, hQ _ _ (rx_pj r8 (fun n => ⟨er (f7 (nf_s cm n)), by have h1 := (rg_here r6 (f7 (nf_s cm n))).2; omega⟩) (fun n => (rg_here r8 n).1)) w8'.2⟩
  · have gall : ∀ x0 : y_X, (x3.1 = false → gx E x0 x3) → x5.1 = false → gx E x0 (Y_pj (Y_z x3 + 1) (nI (Y_z x5)) (Y_n x3) (nI (Y_n x5)) x5) := fun x0 h0 q => by
      obtain ⟨b1, -, -, -, -, -, -, b11, b12, -⟩ := bm.1 q
      exact gx_tr (y1 := x3) (fun z => b11 z) (fun z => b12 z) (h0 b1) (gx_if1 (yg_z hE g5 (by decide) q) (bm.2 q))
    refine ⟨Y_pj (Y_z x3 + 1) (nI (Y_z x5)) (Y_n x3) (nI (Y_n x5)) x5, fun n p hp K s O Q hs hQ => cw n p hp K s O Q hs (fun r5 s7 e5 h7 => ⟨fun q => absurd ((cg_ty h7).symm.trans q) z5, fun _ => ?_⟩), fun n k M F Q Q' hr w hQ => rw5 n k M F Q Q' hr (fun r3 M5 F5 e3 r5 w5 => ?_) w, ⟨xs_w s5 (by decide) (by decide) rfl, gall x m2.2⟩, fS_of (gall (Y_0 x) Mm2.2)⟩
    · exact cg_change hE h7 (j := Y_z x3 + 1) (fun q => ⟨e5 q, List.mem_cons_self ..⟩) (fun s8 h8 => hQ s8 (cg_sub (rc_pj h8 (fun n => cg_63 h7 n.1)) (fun q hq => List.mem_cons_of_mem _ hq) rfl))
    · refine rg_w0 hE r5 14 (by decide) (c := 14) (d := 214) (by decide) (by decide) (fun q => absurd q z5) (fun _ w => ?_) w5
      have w' : vp_in r3 18000 ∧ Q M5 _ := w
      exact ⟨w'.1, hQ _ _ (rx_pj r5 e3 (fun n => (rg_here r5 n).1)) w'.2⟩
theorem st_whileG (hE : E_ok E) {j : Nat} (hB : jBG E j) (hx : yg E 4 x) (hh : hlG E x) (ht : jtG E (j + 1) x) (hI : gn E x) (z : Y_ty E x = 215) : ∃ x', jSG E x x' := by
  have hb := Y_tyn z (by decide)
  have m0 := ym_0 (yg_t hx)
  have z' : Y_ty E (Y_0 x) = 215 := Y_0_ty.trans z
  have hlt : (Y_0 x).1 = false → Y_t (Y_0 x) < E_m E := yq_lt hE (ym_t m0) z' (by decide)
  have m1 := ym_t0 m0 (ym_ad hE hlt)
  have Mm1 := ym_ad hE hlt
  obtain ⟨x3, a, b, me⟩ := j_EG hE (yg_m hx m1 (c' := 10) (by decide))
  have m2 := ym_t0 m1 me
  have Mm2 := ym_t0 Mm1 me
  have m4 : xm E 1 1 0 (yx x) (yx (Y_em [13, -1] (21, 0, 0, 0, -1) (Y_c x3) x3)) := xm_w (xm_t0 m2.1 (xm_pt (ym_t m2) 2)) (by decide) (by decide) rfl
  have s4 := xm_xs hE m4
  have f4 : nf (Y_em [13, -1] (21, 0, 0, 0, -1) (Y_c x3) x3) → nf x3 := fun n => by unfold nf Y_em at n; exact n
  have g4 : yg E 6 (Y_em [13, -1] (21, 0, 0, 0, -1) (Y_c x3) x3) := xg_m hx m4 (by decide)
  obtain ⟨x5, ba, bb, bm⟩ := hB (Y_em [13, -1] (21, 0, 0, 0, -1) (Y_c x3) x3) g4 (hl_s hh s4) (jt_m ht m4) (gn_em (show 1 ≤ 2 by decide) (gn_m m2 hI))
  have s5 := xs_t0 s4 bm.1
  have g5 : yg E 4 x5 := xg_s hx s5 (by decide)
  have s6 : xs E 1 0 0 (yx x) (yx (Y_wh x x3 x5)) := xs_w (xs_t0 s5 (xm_xs hE (xm_pt (xs_t s5) 2))) (by decide) (by decide) rfl
  have n53 : nf x5 → nf x3 := fun n => f4 (nf_s bm n)
  have n5x : nf x5 → nf x := fun n => nf_m m2 (n53 n)
  have e6 : Y_n (Y_em [12, nI (Y_z x)] (20, nI (Y_n x), 0, 0, -1) (Y_c x5) x5) = Y_n x5 + 1 := Y_n_em.1
  have f6 : nf (Y_em [12, nI (Y_z x)] (20, nI (Y_n x), 0, 0, -1) (Y_c x5) x5) → nf x5 := fun n => by unfold nf Y_em at n; exact n
  refine ⟨Y_wh x x3 x5, fun n p hp K s O Q hs hQ => ?_, fun n k M F Q Q' hr w hQ => ?_, ⟨s6, fun q => ?_⟩, fS_wh Mm2.2 bm.2 n53⟩
  · have e := (cg_ty hs).trans z
    refine ⟨fun q => absurd (q.symm.trans e) (by decide), fun q => absurd (q.symm.trans e) (by decide), fun _ => ?_, fun q => absurd (q.symm.trans e) (by decide), fun _ _ q => absurd e q⟩
    refine cg_emit hE hs (yg_lo (n := 15) hx (by decide)) (by decide) (fun s1 h1 => cg_adv hE (y := Y_0 x) (rc_em h1) hlt (fun s2 h2 => a 22 p (jbG_p hp hx m1) _ s2 O _ h2 (fun s3 h3 => ?_)))
    have lo := yg_lo (n := 10) (yg_m hx m2 (c' := 10) (by decide)) (by decide)
    refine cg_emit hE h3 lo (by decide) (fun s4' h4 => cg_hole hE h4 (Y_lo_p lo _) (show 10 + 1 ≤ 15 by decide) (fun r5 s6' hr6 h6 => ?_))
    rw [Y_csa] at h6
    refine ba n p (jb_m hp s4) _ s6' O _ (rc_em h6) (fun s7 h7 => cg_emit2 hE h7 (yg_lo (n := 4) g5 (by decide)) (by decide) (fun s8 h8 => ?_))
    have h8 := rc_emn (l' := [12, nI (Y_z x)]) (o := (20, nI (Y_n x), 0, 0, -1)) (c := Y_c x5) h8 (by rfl) (fun n => by rw [cg_63 hs (n5x n).1])
    exact cg_change hE h8 (j := Y_z x3 + 1) (fun q => ⟨hr6 (bm.1 q).1, List.mem_cons_self ..⟩) (fun s9 h9 => hQ s9 (cg_sub (rc_pj h9 (fun n => cg_63 h8 n.1)) (fun q hq => List.mem_cons_of_mem _ hq) rfl))
  · refine st_0W hE z hr (fun w => st_rW hE 15 (by decide) (by decide) z hr (fun e5 w1 => st_W15 (e5.trans (by decide)) (fun w => ?_) w1) w) w
    have hlt' : x.1 = false → Y_t x < E_m E := yq_lt hE (yg_t hx) z (by decide)
    refine rg_pass hE hlt' k M F _ _ hr w (fun M2 F2 r2 w2 => rg_put r2 w2 (fun rh M2' F2' eh r2' w2' => ?_))
    have r3 := rx_em (l := [0]) (c := Y_c x) r2'
    have ec : Y_em [0] (0, 0, 0, 0, -1) (Y_c x) (Y_ad x) = Y_ad (Y_0 x) := by unfold Y_0 Y_em Y_ad; rfl
    rw [ec] at r3
    refine b 22 k M2' F2' _ _ r3 w2' (fun M3 F3 r3' w3 => rg_put r3' w3 (fun r M4 F4 er r4 w4 => bb n k M4 F4 _ _ (rx_em r4) w4 (fun M5 F5 r5 w5 => rg_put r5 w5 (fun _ M6 F6 _ r6 w6 => ?_))))
    have w6' : vp_in r 18000 ∧ Q M6 _ := w6
    have r6 := rx_emn (l := [12, nI (Y_z x)]) (o' := (20, nI (Y_n x), 0, 0, -1)) (c := Y_c x5) (fun n => by rw [eh (show nf (Y_ad x) from n5x n)]; rfl) r6
    exact ⟨w6'.1, hQ _ _ (rx_pj r6 (fun n => ⟨er (n53 (f6 n)), by have := (rg_here r3' (n53 (f6 n))).2; omega⟩) (fun n => by rw [(rg_here r6 n).1, e6])) w6'.2⟩
  · have q5 : x5.1 = false := q
    obtain ⟨b1, -, -, -, -, -, -, b11, b12, -⟩ := bm.1 q5
    exact gx_wh (yg_z hE g5 (by decide) q5) b11 b12 (m2.2 b1) (bm.2 q5)
end YS7
