/-! STATEMENTS with blocks: try, its upholds. -/
section YS9
variable {E : x_E} {W W' x y : y_X} {c : List (Nat × Nat)} {t q hp V nn : Nat} {pv : Option Nat} {k : x_B} {M : Nat → Int32} {F : Nat → Nat → Int32} {kd ob : Int32}
theorem E_k33 {c : Int32} (z : X_ik c) : (c - 226).toInt < 33 := by
  have a := ti_nlt z.1
  have b := ti_nle z.2
  have l1 : (226 : Int32).toInt = 226 := by decide
  have l2 : (233 : Int32).toInt = 233 := by decide
  have l3 : (-226 : Int32).toInt = -226 := by decide
  rw [l1] at a
  rw [l2] at b
  rw [Int32.sub_eq_add_neg, ti_addx _ _ (by rw [l3]; omega), l3]
  omega
theorem f1_f1 {A : Type} {f : Nat → A} {i : Nat} {v w : A} : f1 (f1 f i v) i w = f1 f i w := by
  funext j
  by_cases z : j = i
  · rw [z, f1_eq, f1_eq]
  · rw [f1_ne z, f1_ne z, f1_ne z]
/-- the class: an uphold's head put -/
theorem cg_y1 {kK : x_Kt} {s : f_S3} {v r16 t1 : Int32} (h : rcG E kK s (Y_cs [-1] (Y_cs [t1] (Y_qo E (Y_cs [r16] (Y_kd E (Y_ad (Y_ch hp v (Y_cs [5] y))))))))) (hv : nf (Y_qo E (Y_kd E (Y_ad y))) → v = nI (Y_z y + 1) ∧ r16 = kd ∧ t1 = ob ∧ hp < Y_z y) : rcG E kK s (Y_qo E (Y_kd E (Y_ad (Y_y1 hp t c kd ob pv y)))) := by
  have t0 : tv y (Y_ch hp v (Y_cs [5] y)) := tv_tr tv_cs tv_ch
  have t2 : tv (Y_qo E (Y_kd E (Y_ad y))) (Y_qo E (Y_cs [r16] (Y_kd E (Y_ad (Y_ch hp v (Y_cs [5] y)))))) := tv_qo (tv_tr (tv_kd (tv_ad t0)) tv_cs)
  have t3 : tv (Y_qo E (Y_kd E (Y_ad y))) (Y_cs [-1] (Y_cs [t1] (Y_qo E (Y_cs [r16] (Y_kd E (Y_ad (Y_ch hp v (Y_cs [5] y)))))))) := tv_tr t2 (tv_tr tv_cs tv_cs)
  have ty : tv y (Y_y1 hp t c kd ob pv y) := tv_G
  have t4 : tv (Y_qo E (Y_kd E (Y_ad y))) (Y_qo E (Y_kd E (Y_ad (Y_y1 hp t c kd ob pv y)))) := tv_qo (tv_kd (tv_ad ty))
  obtain ⟨a1, a2, a3, a4, a5, -⟩ : gq (Y_y1 hp t c kd ob pv y) (Y_qo E (Y_kd E (Y_ad (Y_y1 hp t c kd ob pv y)))) := gq_tr (gq_tr gq_ad gq_kd) gq_qo
  obtain ⟨b1, b2, -, -, b5, -⟩ : gq (Y_ch hp v (Y_cs [5] y)) (Y_kd E (Y_ad (Y_ch hp v (Y_cs [5] y)))) := gq_tr gq_ad gq_kd
  obtain ⟨c1, c2, -, -, c5, -⟩ : gq (Y_cs [r16] (Y_kd E (Y_ad (Y_ch hp v (Y_cs [5] y))))) (Y_qo E (Y_cs [r16] (Y_kd E (Y_ad (Y_ch hp v (Y_cs [5] y)))))) := gq_qo
  have eW : Y_z (Y_y1 hp t c kd ob pv y) = Y_z y + 4 := by unfold Y_y1; rw [YG_z]
  have eC : Y_C (Y_y1 hp t c kd ob pv y) = cl (f1 (Y_C y) hp (nI (Y_z y + 1))) (Y_z y) [5, kd, ob, -1] := by unfold Y_y1; rw [YG_C]
  have ea : Y_a (Y_y1 hp t c kd ob pv y) = f2 (f2 (f2 (f2 (Y_a y) 0 (Y_n y + 1) (Y_z y + 4)) 2 (Y_V y) (Y_z y + 1)) 3 (Y_V y) t) 8 (Y_V y) 4 := by unfold Y_y1; rw [YG_a]
  refine rc_tv h (tv_tr (tv_sy t3) t4) ?_ (fun n => ?_)
  · rw [a1, eW, cs_z, cs_z, c1, cs_z, b1, ch_z, cs_z]
    show Y_z y + 4 = Y_z y + 1 + 1 + 1 + 1
    omega
  · obtain ⟨e1, e2, e3, e4⟩ := hv (tv_nf t3 n)
    refine ⟨?_, ?_, ?_⟩
    · rw [a2, eC, cs_C, cs_C, cs_z, c2, c1, cs_C, cs_z, b2, b1, ch_C, ch_z, cs_C, cs_z, e1, e2, e3, f1_cl e4]
      exact cl_4.symm
    · rw [a5, ea, cs_a, cs_a, c5, cs_a, b5, ch_a, cs_a, f2_ne (by decide), f2_ne (by decide), f2_ne (by decide), f2_ne (by decide)]
    · rw [a5, ea, cs_a, cs_a, c5, cs_a, b5, ch_a, cs_a, f2_ne (by decide), f2_ne (by decide), f2_ne (by decide), f2_ne (by decide)]
/-- the reference: an uphold's rows told -/
theorem rx_y1 {a1 a2 vv t2 hh : Int32} (h : rxG E k M F W) (ht : tv W W') (hv : nf W → (a1 = nI t ∧ a2 = pvI pv ∧ vv = nI V ∧ t2 = ob ∧ hh = nI nn) ∧ t < 20000 ∧ V < 20000 ∧ (∀ u, pv = some u → u < 20000 ∧ u < V) ∧ Y_a W 8 V = 1) (hg : nf W → Y_m W' = Y_m W ∧ Y_R W' = f2 (Y_pv (f2 (f2 (Y_R W) 24 V ob) 26 V (-1)) t V pv) 25 V (nI nn) ∧ Y_a W' 5 = Y_a W 5 ∧ Y_a W' 7 = Y_a W 7 ∧ Y_a W' 8 = f1 (Y_a W 8) V 4) : (a2 = -1 → rxG E k M (uf (uf (uf (uf F 24 vv t2) 26 vv (-1)) 20 a1 vv) 25 vv hh) W') ∧ (¬ a2 = -1 → rxG E k M (uf (uf (uf (uf F 24 vv t2) 26 vv (-1)) 26 a2 vv) 25 vv hh) W') := by
  by_cases n : nf W
  · obtain ⟨⟨e1, e2, e3, e4, e5⟩, hT, hV, hu, h8⟩ := hv n
    obtain ⟨g1, g2, g3, g4, g5⟩ := hg n
    subst e1 e3 e4 e5
    have s1 := rx_rc (row := 24) (i := V) (v := t2) (by decide) (by decide) (by decide) h (fun _ => ⟨rfl, hV⟩)
    have s2 := rx_rc (row := 26) (i := V) (v := -1) (by decide) (by decide) (by decide) s1 (fun _ => ⟨rfl, hV⟩)
    cases pv with
    | none =>
      refine ⟨fun _ => ?_, fun z => absurd e2 z⟩
      have s3 := rx_rc (row := 20) (i := t) (v := nI V) (by decide) (by decide) (by decide) s2 (fun _ => ⟨rfl, hT⟩)
      have s4 := rx_rc (row := 25) (i := V) (v := nI nn) (by decide) (by decide) (by decide) s3 (fun _ => ⟨rfl, hV⟩)
      have tW : tv W (Y_rc 25 V (nI nn) (Y_rc 20 t (nI V) (Y_rc 26 V (-1) (Y_rc 24 V t2 W)))) := tv_tr (tv_tr tv_rc tv_rc) (tv_tr tv_rc tv_rc)
      have g2' : Y_R W' = f2 (f2 (f2 (f2 (Y_R W) 24 V t2) 26 V (-1)) 20 t (nI V)) 25 V (nI nn) := g2
      refine rx_tvm s4 (tv_tr (tv_sy tW) ht) (fun n4 => ?_)
      obtain ⟨p1, p2, p3, p4, p5, p6, -⟩ := s4.2 n4
      rw [rc_m, rc_m, rc_m, rc_m, rc_R, rc_R, rc_R, rc_R, rc_a, rc_a, rc_a, rc_a]
      refine ⟨g1, g2', g3, fun r i x1 x2 x3 x4 x5 => ?_, fun r i x1 x2 x3 x4 x5 => ?_⟩
      · have := p5 r i x1 x2 x3 x4 (by rw [rc_a, rc_a, rc_a, rc_a]; rw [g4] at x5; exact x5)
        rw [rc_R, rc_R, rc_R, rc_R] at this
        exact this
      · rw [g5] at x5
        by_cases z : i = V
        · by_cases z3 : r = 23
          · have := p6 r i x1 x2 x3 x4 (by rw [rc_a, rc_a, rc_a, rc_a, z, h8]; omega)
            rw [rc_R, rc_R, rc_R, rc_R] at this
            exact this
          · have cs : r = 24 ∨ r = 25 ∨ r = 26 := by omega
            subst z
            rw [uf_at2, uf_at2, uf_at2, uf_at2, f2_at, f2_at, f2_at, f2_at, y_cl (by omega), y_cl (by omega)]
            rcases cs with rfl | rfl | rfl
            · rw [if_neg (by omega), if_neg (by omega), if_neg (by omega), if_pos ⟨rfl, rfl⟩, if_neg (by omega), if_neg (by omega), if_neg (by omega), if_pos ⟨rfl, rfl⟩]
            · rw [if_pos ⟨rfl, rfl⟩, if_pos ⟨rfl, rfl⟩]
            · rw [if_neg (by omega), if_neg (by omega), if_pos ⟨rfl, rfl⟩, if_neg (by omega), if_neg (by omega), if_pos ⟨rfl, rfl⟩]
        · rw [f1_ne z] at x5
          have := p6 r i x1 x2 x3 x4 (by rw [rc_a, rc_a, rc_a, rc_a]; exact x5)
          rw [rc_R, rc_R, rc_R, rc_R] at this
          exact this
    | some u =>
      obtain ⟨hu1, hu2⟩ := hu u rfl
      have e2 : a2 = nI u := e2
      subst e2
      refine ⟨fun z => absurd z (nI_ne1 (by omega)), fun _ => ?_⟩
      have s3 := rx_rc (row := 26) (i := u) (v := nI V) (by decide) (by decide) (by decide) s2 (fun _ => ⟨rfl, hu1⟩)
      have s4 := rx_rc (row := 25) (i := V) (v := nI nn) (by decide) (by decide) (by decide) s3 (fun _ => ⟨rfl, hV⟩)
      have tW : tv W (Y_rc 25 V (nI nn) (Y_rc 26 u (nI V) (Y_rc 26 V (-1) (Y_rc 24 V t2 W)))) := tv_tr (tv_tr tv_rc tv_rc) (tv_tr tv_rc tv_rc)
      have g2' : Y_R W' = f2 (f2 (f2 (f2 (Y_R W) 24 V t2) 26 V (-1)) 26 u (nI V)) 25 V (nI nn) := g2
      refine rx_tvm s4 (tv_tr (tv_sy tW) ht) (fun n4 => ?_)
      obtain ⟨p1, p2, p3, p4, p5, p6, -⟩ := s4.2 n4
      rw [rc_m, rc_m, rc_m, rc_m, rc_R, rc_R, rc_R, rc_R, rc_a, rc_a, rc_a, rc_a]
      refine ⟨g1, g2', g3, fun r i x1 x2 x3 x4 x5 => ?_, fun r i x1 x2 x3 x4 x5 => ?_⟩
      · have := p5 r i x1 x2 x3 x4 (by rw [rc_a, rc_a, rc_a, rc_a]; rw [g4] at x5; exact x5)
        rw [rc_R, rc_R, rc_R, rc_R] at this
        exact this
      · rw [g5] at x5
        by_cases z : i = V
        · by_cases z3 : r = 23
          · have := p6 r i x1 x2 x3 x4 (by rw [rc_a, rc_a, rc_a, rc_a, z, h8]; omega)
            rw [rc_R, rc_R, rc_R, rc_R] at this
            exact this
          · have cs : r = 24 ∨ r = 25 ∨ r = 26 := by omega
            subst z
            rw [uf_at2, uf_at2, uf_at2, uf_at2, f2_at, f2_at, f2_at, f2_at, y_cl (by omega), y_cl (by omega)]
            rcases cs with rfl | rfl | rfl
            · rw [if_neg (by omega), if_neg (by omega), if_neg (by omega), if_pos ⟨rfl, rfl⟩, if_neg (by omega), if_neg (by omega), if_neg (by omega), if_pos ⟨rfl, rfl⟩]
            · rw [if_pos ⟨rfl, rfl⟩, if_pos ⟨rfl, rfl⟩]
            · rw [if_neg (by omega), if_neg (by omega), if_pos ⟨rfl, rfl⟩, if_neg (by omega), if_neg (by omega), if_pos ⟨rfl, rfl⟩]
        · rw [f1_ne z] at x5
          have := p6 r i x1 x2 x3 x4 (by rw [rc_a, rc_a, rc_a, rc_a]; exact x5)
          rw [rc_R, rc_R, rc_R, rc_R] at this
          exact this
  · have e : ∀ F', rxx E k M F' (yx W) → rxG E k M F' W' := fun F' hx => by
      obtain ⟨h1, h2, h3, h4, h5, h6, h7, h8, h9, h10⟩ := ht
      refine ⟨?_, fun n' => absurd (tv_nf ⟨h1, h2, h3, h4, h5, h6, h7, h8, h9, h10⟩ n') n⟩
      have e : yx W' = (W.1, Y_t W, Y_z W', Y_i W, Y_2 W, Y_3 W, Y_u W, Y_v W, Y_r W, Y_l W) := by
        show (W'.1, Y_t W', Y_z W', Y_i W', Y_2 W', Y_3 W', Y_u W', Y_v W', Y_r W', Y_l W') = _
        rw [h1, h2, h3, h4, h5, h6, h7, h8, h9]
      rw [e]
      exact hx
    exact ⟨fun _ => e _ (rx_uf (by decide) (rx_uf (by decide) (rx_uf (by decide) (rx_uf (by decide) h.1)))), fun _ => e _ (rx_uf (by decide) (rx_uf (by decide) (rx_uf (by decide) (rx_uf (by decide) h.1))))⟩
def jTC (E : x_E) (i q hp : Nat) (y x' : y_X) : Prop := ∀ (n : Nat) (p a : Int32) (e : Nat) (r4 r6 : Int32) (K : List Nat) (s : f_S3) (O : Nat × Nat) (Q : f_S3 → Nat × Nat → Prop), jb n p (X_pt 1 (yx y)) → ja a (X_pt 1 (yx y)) → i < e → (y.1 = false → (hp ∈ K ∧ r4 = nI hp) ∧ q ∈ K ∧ r6 = nI q) → rcG E (K, 0, false, false) s (Y_cs [5] y) → (∀ s', rcG E (K, 0, false, false) s' x' → Q s' O) → wF_X7_attempt_69 (E_N E) (cb (E_N E) n) Q e p r4 r6 a s O
theorem try_e (hE : E_ok E) {j : Nat} (hB : jBG E j) (i : Nat) (hi : i ≤ j) (hx : xg E 6 (X_pt 1 (yx y))) (hh : hl E (X_pt 1 (yx y))) (ht : jt E i (X_pt 1 (yx y))) (hT : gT E q t c hp pv y) (z : ¬ Y_ty E y = 217) : ∃ x', jTC E i q hp y x' ∧ jTR E t pv y x' ∧ jTX E q t c hp pv y x' := by
  obtain ⟨x', a, b, m⟩ := try_xG hE hB hx hh (jt_w ht hi) hT z
  refine ⟨x', fun n p a' e r4 r6 K s O Q hp' ha he hr hs hQ => ?_, b, m⟩
  obtain ⟨e, rfl⟩ : ∃ e', e = e' + 1 := ⟨e - 1, by omega⟩
  have go := a n p r6 K s O Q hp' (fun q => (hr q).2) hs hQ
  exact ⟨fun _ => go, fun _ => ⟨fun _ => go, fun q => absurd ((cg_ty hs).symm.trans q) z⟩⟩
theorem try_LG (hE : E_ok E) {j : Nat} (hB : jBG E j) : ∀ i, i ≤ j → ∀ (y : y_X) (hp : Nat) (pv : Option Nat), xg E 6 (X_pt 1 (yx y)) → hl E (X_pt 1 (yx y)) → jt E i (X_pt 1 (yx y)) → gT E q t c hp pv y → ∃ x', jTC E i q hp y x' ∧ jTR E t pv y x' ∧ jTX E q t c hp pv y x' := by
  intro i
  induction i with
  | zero =>
    intro hi y hp pv hx hh ht hT
    refine try_e hE hB 0 hi hx hh ht hT (fun q => ?_)
    have hb := Y_tyn q (by decide)
    have := ht hb
    have := xg_t hx hb
    omega
  | succ i ih =>
    intro hi y hp pv hx hh ht hT
    by_cases z : Y_ty E y = 217
    · have hb := Y_tyn z (by decide)
      have hlt : y.1 = false → Y_t y < E_m E := yq_lt hE (fun b => xg_t hx b) z (by decide)
      have hz : y.1 = false → Y_z y < 80000 := fun hb => by
        obtain ⟨d1, d2, d3⟩ := hx hb
        have d3 : ((Y_z y + 1 : Nat) : Int) ≤ 2 * (E_p E (Y_t y) : Int) + 6 := d3
        have h2 := E_pn hE (t := Y_t y) d1
        have h3 := E_n4 hE
        omega
      have mY : ym E 2 (-4) 0 y (Y_qo E (Y_kd E (Y_ad y))) := by
        have m1 := ym_ad hE hlt
        have m2 := ym_t0 m1 (ym_kd hE (ym_t m1))
        exact ym_w (ym_t0 m2 (ym_qo hE (ym_t m2))) (by decide) (by decide) rfl
      have mYk : ym E 1 (-2) 0 y (Y_ad y) := ym_ad hE hlt
      have hkm := ym_t (ym_t0 mYk (ym_kd hE (ym_t mYk)))
      have ny : nf (Y_qo E (Y_kd E (Y_ad y))) → nf y := nf_m mY
      have nk : nf (Y_qo E (Y_kd E (Y_ad y))) → nf (Y_kd E (Y_ad y)) := nf_m (ym_qo hE hkm)
      have gq0 : gn E (Y_qo E (Y_kd E (Y_ad y))) := gn_m mY (fun n => (hT n).1.1)
      obtain ⟨kd, ekd⟩ : ∃ v, v = Y_ty E (Y_ad y) - 226 := ⟨_, rfl⟩
      obtain ⟨ob, eob⟩ : ∃ v, v = Y_ov E (Y_kd E (Y_ad y)) := ⟨_, rfl⟩
      have hkd : nf (Y_qo E (Y_kd E (Y_ad y))) → ¬ kd = -1 := fun n => by rw [ekd]; exact E_kn (nf_kd (nk n))
      have hk33 : nf (Y_qo E (Y_kd E (Y_ad y))) → kd.toInt < 33 := fun n => by rw [ekd]; exact E_k33 (nf_kd (nk n))
      have hob : nf (Y_qo E (Y_kd E (Y_ad y))) → -1 ≤ ob.toInt ∧ ob.toInt < 8 := fun n => by rw [eob]; exact ov_r hE hkm n (gq0 n).2
      have ty : tv y (Y_y1 hp t c kd ob pv y) := tv_G
      have t4 : tv (Y_qo E (Y_kd E (Y_ad y))) (Y_qo E (Y_kd E (Y_ad (Y_y1 hp t c kd ob pv y)))) := tv_qo (tv_kd (tv_ad ty))
      have hltW : (Y_y1 hp t c kd ob pv y).1 = false → Y_t (Y_y1 hp t c kd ob pv y) < E_m E := fun b => by rw [ty.2.1]; exact hlt (ty.1.symm.trans b)
      have mW : ym E 2 (-4) 0 (Y_y1 hp t c kd ob pv y) (Y_qo E (Y_kd E (Y_ad (Y_y1 hp t c kd ob pv y)))) := by
        have m1 := ym_ad hE hltW
        have m2 := ym_t0 m1 (ym_kd hE (ym_t m1))
        exact ym_w (ym_t0 m2 (ym_qo hE (ym_t m2))) (by decide) (by decide) rfl
      have exW : yx (Y_y1 hp t c kd ob pv y) = X_pt 3 (X_pt 1 (yx y)) := rfl
      have gW : gq (Y_y1 hp t c kd ob pv y) (Y_qo E (Y_kd E (Y_ad (Y_y1 hp t c kd ob pv y)))) := gq_tr (gq_tr gq_ad gq_kd) gq_qo
      have m6 : xm E 1 (-1) 0 (X_pt 1 (yx y)) (yx (Y_qo E (Y_kd E (Y_ad (Y_y1 hp t c kd ob pv y))))) := by
        have m0 := xm_pt (x := X_pt 1 (yx y)) (fun b => xg_t hx b) 3
        rw [← exW] at m0
        exact xm_w (xm_t0 m0 mW.1) (by decide) (by decide) rfl
      have s6 := xm_xs hE m6
      have n3 : nf (Y_qo E (Y_kd E (Y_ad (Y_y1 hp t c kd ob pv y)))) → nf (Y_qo E (Y_kd E (Y_ad y))) := fun n => tv_nf t4 n
      have g3 : gn E (Y_qo E (Y_kd E (Y_ad (Y_y1 hp t c kd ob pv y)))) := gn_m mW (fun n => (t1_f (kd := kd) (ob := ob) (hT (tv_nf ty n)).1 (hz (tv_nf ty n).1)).1.1)
      obtain ⟨y4, ba, bb, bm⟩ := hB _ (xg_m hx m6 (by decide)) (hl_s hh s6) (jt_m (jt_w ht (by omega)) m6) g3
      have s7 := xs_t0 s6 bm.1
      have s8 : xs E 1 (-4) 0 (X_pt 1 (yx y)) (X_pt 1 (yx y4)) := xs_w (xs_t0 s7 (xm_xs hE (xm_pt (xs_t s7) 1))) (by decide) (by decide) rfl
      have n4 : nf y4 → nf (Y_qo E (Y_kd E (Y_ad y))) := fun n => n3 (nf_s bm n)
      have gx4 : nf y4 → gx E (Y_y1 hp t c kd ob pv y) y4 := fun n => gx_tr (fun _ => (nf_s bm n).2.1) (fun _ => (nf_s bm n).2.2) (mW.2 (nf_s bm n).1) (bm.2 n.1)
      have T1 : nf y4 → TP E q t c hp pv y → TP E q t c (Y_z y + 3) (some (Y_V y)) y4 ∧ ∀ x', TF E q t c (Y_z y + 3) (some (Y_V y)) y4 x' → TF E q t c hp pv y x' := fun n hP => tr_1 (kd := kd) (ob := ob) hP (hz (ny (n4 n)).1) (hkd (n4 n)) (hk33 (n4 n)) (hob (n4 n)) n.2.1 n.2.2 (gx4 n)
      have hT4 : gT E q t c (Y_z y + 3) (some (Y_V y)) y4 := fun n => by
        have n0 := ny (n4 n)
        refine ⟨(T1 n (hT n0).1).1, ?_⟩
        obtain ⟨P3, -, -, ⟨-, nT, -, -, -⟩, -⟩ := t1_f (kd := kd) (ob := ob) (hT n0).1 (hz n0.1)
        have e6 := (gx4 n n.2.1 n.2.2 P3.1.1 P3.1.2).2.2.1
        rw [((e6.2.2.2.2.2.2.1 t (by rw [nT]; exact (hT n0).1.2.2.2.1.2)).1 (Nat.zero_le _)).2]
        have e7 : Y_a (Y_y1 hp t c kd ob pv y) 7 = Y_a y 7 := by unfold Y_y1; rw [YG_a, f2_ne (by decide), f2_ne (by decide), f2_ne (by decide), f2_ne (by decide)]
        rw [e7]; exact (hT n0).2
      obtain ⟨x', ia, ib, im⟩ := ih (by omega) y4 (Y_z y + 3) (some (Y_V y)) (xg_s hx s8 (by decide)) (hl_s hh s8) (jt_s ht s8) hT4
      refine ⟨x', fun n p a e r4 r6 K s O Q hp' ha he hr hs hQ => ?_, fun n e a1 a2 ha k M F Q Q' hr w hQ => ?_, xs_w (xs_t0 s8 im.1) (by decide) (by decide) rfl, fun n hP => ?_⟩
      · obtain ⟨e, rfl⟩ : ∃ e', e = e' + 1 := ⟨e - 1, by omega⟩
        obtain ⟨⟨k4, e4⟩, k6, e6⟩ := hr hb
        refine ⟨fun q => absurd q (ja_4 hE ha hb (xg_t hx hb)), fun _ => ⟨fun q => absurd ((cg_ty hs).trans z) q, fun _ => ?_⟩⟩
        refine cg_change hE hs (j := hp) (fun _ => ⟨e4, k4⟩) (fun s1 h1 => cg_adv hE h1 hlt (fun s2 h2 => cg_kind hE h2 (fun r16 s3 er h3 => ?_)))
        have t0 : tv y (Y_ch hp (s.1 63) (Y_cs [5] y)) := tv_tr tv_cs tv_ch
        have tk : tv (Y_kd E (Y_ad y)) (Y_kd E (Y_ad (Y_ch hp (s.1 63) (Y_cs [5] y)))) := tv_kd (tv_ad t0)
        have hl3 : Y_lo E 3 (Y_kd E (Y_ad (Y_ch hp (s.1 63) (Y_cs [5] y)))) := by
          have m0 := xm_pt (x := X_pt 1 (yx y)) (fun b => xg_t hx b) 0
          have mc := ym_ad hE (x := Y_ch hp (s.1 63) (Y_cs [5] y)) hlt
          have mc2 := ym_t0 mc (ym_kd hE (ym_t mc))
          have hx' : yg E 6 (Y_ch hp (s.1 63) (Y_cs [5] y)) := hx
          exact yg_lo (yg_m hx' mc2 (c' := 3) (by decide)) (by decide)
        refine cg_put hE h3 hl3 (by decide) (fun _ s4 _ h4 => ?_)
        refine cg_qo (G := fun t1 M19 O19 => wF_X7_attempt_140 (E_N E) (cb (E_N E) n) (wF_X7_attempt_69 (E_N E) (cb (E_N E) n) Q e) Q p r6 a t1 M19 O19) hE h4 (fun t1 s5 et h5 => ?_)
        have t2 : tv (Y_qo E (Y_kd E (Y_ad y))) (Y_qo E (Y_cs [r16] (Y_kd E (Y_ad (Y_ch hp (s.1 63) (Y_cs [5] y)))))) := tv_qo (tv_tr tk tv_cs)
        have gc : gq (Y_cs [r16] (Y_kd E (Y_ad (Y_ch hp (s.1 63) (Y_cs [5] y))))) (Y_qo E (Y_cs [r16] (Y_kd E (Y_ad (Y_ch hp (s.1 63) (Y_cs [5] y)))))) := gq_qo
        have gb : gq (Y_ch hp (s.1 63) (Y_cs [5] y)) (Y_kd E (Y_ad (Y_ch hp (s.1 63) (Y_cs [5] y)))) := gq_tr gq_ad gq_kd
        have zc : Y_z (Y_qo E (Y_cs [r16] (Y_kd E (Y_ad (Y_ch hp (s.1 63) (Y_cs [5] y)))))) = Y_z y + 2 := by
          rw [gc.1, cs_z, gb.1, ch_z, cs_z]; rfl
        have hl5 : Y_lo E 6 (Y_qo E (Y_cs [r16] (Y_kd E (Y_ad (Y_ch hp (s.1 63) (Y_cs [5] y)))))) := fun b => by
          rw [zc, t2.2.1]
          have b' : (Y_qo E (Y_kd E (Y_ad y))).1 = false := t2.1.symm.trans b
          obtain ⟨d1, d2, d3⟩ := xg_m hx m6 (c' := 5) (by decide) (t4.1.trans b')
          have d3 : (Y_z (Y_qo E (Y_kd E (Y_ad (Y_y1 hp t c kd ob pv y)))) : Int) ≤ 2 * (E_p E (Y_t (Y_qo E (Y_kd E (Y_ad (Y_y1 hp t c kd ob pv y))))) : Int) + 5 := d3
          have eW : Y_z (Y_y1 hp t c kd ob pv y) = Y_z y + 4 := by unfold Y_y1; rw [YG_z]
          rw [gW.1, eW, t4.2.1] at d3
          omega
        refine cg_put hE h5 hl5 (by decide) (fun _ s6' _ h6 => cg_hole hE h6 (Y_lo_p hl5 _) (show 6 + 1 ≤ 15 by decide) (fun r22 s7' hr22 h7 => ?_))
        have zc6 : Y_z (Y_cs [t1] (Y_qo E (Y_cs [r16] (Y_kd E (Y_ad (Y_ch hp (s.1 63) (Y_cs [5] y))))))) = Y_z y + 3 := by
          rw [cs_z, zc]; rfl
        rw [zc6] at h7 hr22
        have h8 := cg_y1 (t := t) (c := c) (kd := kd) (ob := ob) (pv := pv) h7 (fun n => by
          have n0 := ny n
          refine ⟨?_, ?_, ?_, (hT n0).1.2.2.2.2.1.2.1⟩
          · rw [cg_63 hs n0.1, cs_z]; rfl
          · rw [ekd]
            have e1 : Y_ty E (Y_ad (Y_ch hp (s.1 63) (Y_cs [5] y))) = Y_ty E (Y_ad y) := tv_ty (tv_ad t0)
            rw [← e1]
            exact er (by rw [e1]; exact nf_kd (nk n))
          · rw [eob, et (tv_nf (tv_sy t2) n)]
            exact tv_ov (tv_tr tk tv_cs))
        refine ba n p (jb_m hp' s6) _ s7' O _ h8 (fun s8' h9 => ?_)
        have g7 : yg E 15 y4 := xg_s hx s7 (by decide)
        refine cg_emit hE h9 (yg_lo (n := 15) g7 (by decide)) (by decide) (fun s9 h10 => ?_)
        exact ia n p (a + 1) e r22 r6 ((Y_z y + 3) :: K) s9 O Q (jb_m hp' s8) (ja_s hE ha s8 (by decide)) (by omega) (fun b => by
          have b3 := (bm.1 b).1
          have b5 : (Y_cs [t1] (Y_qo E (Y_cs [r16] (Y_kd E (Y_ad (Y_ch hp (s.1 63) (Y_cs [5] y))))))).1 = false := t2.1.trans (t4.1.symm.trans b3)
          exact ⟨⟨List.mem_cons_self .., hr22 b5⟩, List.mem_cons_of_mem _ k6, e6⟩) h10 (fun s' h' => hQ s' (cg_sub h' (fun q hq => List.mem_cons_of_mem _ hq) rfl))
      · cases e with
        | zero => exact absurd w (fun q => q)
        | succ e =>
          dsimp only [w_trying_90] at w ⊢
          refine rg_w0 hE hr 17 (by decide) (c := 17) (d := 217) (by decide) (by decide) (fun _ w => ?_) (fun q => absurd z q) w
          refine rg_pass hE (y := Y_rs (23, nI t, 0, 0, -1) y) hlt k M F _ _ hr w (fun M1 F1 r1 w1 => ?_)
          have tr : tv y (Y_rs (23, nI t, 0, 0, -1) y) := tv_rs
          have nA : nf y → nf (Y_ad (Y_rs (23, nI t, 0, 0, -1) y)) := fun n => by
            have := tv_nf (tv_sy tr) n
            exact this
          have eV : Y_V (Y_ad (Y_rs (23, nI t, 0, 0, -1) y)) = Y_V y := Y_n_rs.2.2.1
          have en : Y_n (Y_ad (Y_rs (23, nI t, 0, 0, -1) y)) = Y_n y + 1 := Y_n_rs.1
          have VV : nf y → 400 * M1 27 + M1 32 = nI (Y_V y) := fun n => by
            rw [(rg_V r1 (nA n)).1, eV]
          have bV : nf y → Y_V y < 91000 := fun n => (gI_T (hT n).1.1.1 (by have := hz n.1; omega)).2.1
          refine rg_takenK hE (rx_u0 r1 (fun n => by rw [eV]; have := bV (tv_nf tr n); omega)) w1 (fun r26 M2 F2 r3 er w2 => ⟨w2.1, ?_⟩)
          have t3 : tv (Y_ad y) (Y_u0 (Y_ad (Y_rs (23, nI t, 0, 0, -1) y))) := tv_tr (tv_ad tr) tv_u0
          have t3k : tv (Y_kd E (Y_ad y)) (Y_kd E (Y_u0 (Y_ad (Y_rs (23, nI t, 0, 0, -1) y)))) := tv_kd t3
          have nyk : nf (Y_kd E (Y_ad y)) → nf y := nf_m (ym_t0 mYk (ym_kd hE (ym_t mYk)))
          have lV : nf y → Y_V y < 800 := fun n => by
            have := w2.1
            rw [VV n] at this
            exact vp_n this (by have := bV n; omega)
          have r4 := rx_u1 (V := Y_V y) (kd := kd) (r := 400 * M1 27 + M1 32) (v := r26) r3 (fun n => by
            have nk0 := tv_nf t3k n
            have n0 := nyk nk0
            refine ⟨VV n0, by have := lV n0; omega, ?_⟩
            rw [ekd, ← tv_ty (E := E) t3]
            exact er (by rw [tv_ty t3]; exact nf_kd nk0))
          have t5 : tv (Y_kd E (Y_ad y)) (Y_u1 (Y_V y) kd (Y_kd E (Y_u0 (Y_ad (Y_rs (23, nI t, 0, 0, -1) y))))) := tv_tr t3k tv_u1
          have t6 : tv (Y_qo E (Y_kd E (Y_ad y))) (Y_qo E (Y_u1 (Y_V y) kd (Y_kd E (Y_u0 (Y_ad (Y_rs (23, nI t, 0, 0, -1) y)))))) := tv_qo t5
          refine rg_qo (A := fun t2 M30 F30 => w_trying_169 (wf_blk n) (w_trying_90 (wf_blk n) Q e) Q a1 a2 ((400 * (M1 27)) + (M1 32)) ((400 * (M1 27)) + (M1 32)) t2 M30 F30) (A' := fun t2 M30 F30 => w_trying_169 (wf_blk n) (w_trying_90 (wf_blk n) Q' e) Q' a1 a2 ((400 * (M1 27)) + (M1 32)) ((400 * (M1 27)) + (M1 32)) t2 M30 F30) hE r4 (fun t2 M3 F3 et hr5 w3 => ?_) w2.2
          have fin : ∀ F4, rxG E k M3 (uf F4 25 ((400 * (M1 27)) + (M1 32)) (9000 * M3 27 + M3 29)) (Y_qo E (Y_kd E (Y_ad (Y_y1 hp t c kd ob pv y)))) → w_trying_202 (wf_blk n) (w_trying_90 (wf_blk n) Q e) Q a1 ((400 * (M1 27)) + (M1 32)) M3 F4 → w_trying_202 (wf_blk n) (w_trying_90 (wf_blk n) Q' e) Q' a1 ((400 * (M1 27)) + (M1 32)) M3 F4 := fun F4 r6 w4 => by
            have w4' : vp_in ((400 * (M1 27)) + (M1 32)) 800 ∧ wf_blk n M3 (uf F4 25 ((400 * (M1 27)) + (M1 32)) (9000 * M3 27 + M3 29)) _ := w4
            refine ⟨w4'.1, bb n k M3 _ _ _ r6 w4'.2 (fun M5 F5 r7 w5 => rg_put r7 w5 (fun _ M6 F6 _ r8 w6 => ?_))⟩
            have r8 := rx_rsn (o' := (23, nI t, 0, 0, -1)) r8 (fun n => by rw [(ha (tv_nf tr (tv_nf (tv_sy tr) (ny (n4 n))))).1])
            exact ib n e a1 _ (fun n => ⟨(ha (ny (n4 n))).1, VV (ny (n4 n))⟩) k M6 F6 Q Q' r8 w6 hQ
          have g5 : gq (Y_u1 (Y_V y) kd (Y_kd E (Y_u0 (Y_ad (Y_rs (23, nI t, 0, 0, -1) y))))) (Y_qo E (Y_u1 (Y_V y) kd (Y_kd E (Y_u0 (Y_ad (Y_rs (23, nI t, 0, 0, -1) y)))))) := gq_qo
          have g4 : gq (Y_u0 (Y_ad (Y_rs (23, nI t, 0, 0, -1) y))) (Y_kd E (Y_u0 (Y_ad (Y_rs (23, nI t, 0, 0, -1) y)))) := gq_kd
          have em : Y_m (Y_qo E (Y_u1 (Y_V y) kd (Y_kd E (Y_u0 (Y_ad (Y_rs (23, nI t, 0, 0, -1) y)))))) = f1 (f1 (Y_m y) 0 (Y_m y 0 + 1)) 2 (Y_m y 2 + 1) := by
            rw [g5.2.2.2.1, u1_m, g4.2.2.2.1, u0_m, ad_m, rs_m, show f1 (Y_m y) 0 (Y_m y 0 + 1) 2 = Y_m y 2 from f1_ne (by decide)]
          have eR : Y_R (Y_qo E (Y_u1 (Y_V y) kd (Y_kd E (Y_u0 (Y_ad (Y_rs (23, nI t, 0, 0, -1) y)))))) = f2 (r5 (Y_R y) (Y_n y) (23, nI t, 0, 0, -1)) 23 (Y_V y) kd := by
            rw [g5.2.2.1, u1_R, g4.2.2.1, u0_R, ad_R, rs_R]
          have ea : Y_a (Y_qo E (Y_u1 (Y_V y) kd (Y_kd E (Y_u0 (Y_ad (Y_rs (23, nI t, 0, 0, -1) y)))))) = f2 (f2 (Y_a y) 8 (Y_V y) 0) 8 (Y_V y) 1 := by
            rw [g5.2.2.2.2.1, u1_a, g4.2.2.2.2.1, u0_a, ad_a, rs_a, eV]
          have nnW : Y_n (Y_qo E (Y_u1 (Y_V y) kd (Y_kd E (Y_u0 (Y_ad (Y_rs (23, nI t, 0, 0, -1) y)))))) = Y_n y + 1 := by
            unfold Y_n Y_B
            rw [em, f1_ne (by decide), f1_ne (by decide), f1_ne (by decide), f1_eq]; omega
          have eWm : Y_m (Y_y1 hp t c kd ob pv y) = f1 (f1 (Y_m y) 0 (Y_m y 0 + 1)) 2 (Y_m y 2 + 1) := by unfold Y_y1; rw [YG_m]
          have eWR : Y_R (Y_y1 hp t c kd ob pv y) = f2 (Y_pv (f2 (f2 (f2 (r5 (Y_R y) (Y_n y) (23, nI t, 0, 0, -1)) 23 (Y_V y) kd) 24 (Y_V y) ob) 26 (Y_V y) (-1)) t (Y_V y) pv) 25 (Y_V y) (nI (Y_n y + 1)) := by unfold Y_y1; rw [YG_R]
          have eWa : Y_a (Y_y1 hp t c kd ob pv y) = f2 (f2 (f2 (f2 (Y_a y) 0 (Y_n y + 1) (Y_z y + 4)) 2 (Y_V y) (Y_z y + 1)) 3 (Y_V y) t) 8 (Y_V y) 4 := by unfold Y_y1; rw [YG_a]
          have key := rx_y1 (W' := Y_qo E (Y_kd E (Y_ad (Y_y1 hp t c kd ob pv y)))) (a1 := a1) (a2 := a2) (vv := 400 * M1 27 + M1 32) (t2 := t2) (hh := 9000 * M3 27 + M3 29) (t := t) (V := Y_V y) (nn := Y_n y + 1) (pv := pv) (ob := ob) hr5 (tv_tr (tv_sy t6) t4) (fun n => by
            have nq := tv_nf t6 n
            have n0 := ny nq
            obtain ⟨-, -, -, ⟨p4, p5⟩, -, -, -, -, p12, -⟩ := (hT n0).1
            have hTT := (rg_T r1 (nA n0)).2
            have eT : Y_T (Y_ad (Y_rs (23, nI t, 0, 0, -1) y)) = Y_T y := Y_n_rs.2.1
            rw [eT] at hTT
            have := lV n0
            refine ⟨⟨(ha n0).1, (ha n0).2, VV n0, ?_, ?_⟩, by omega, by omega, fun u hu => ?_, ?_⟩
            · rw [et n, eob]; exact tv_ov t5
            · rw [(rg_here hr5 n).1, nnW]
            · have := (p12 u hu).1; omega
            · rw [ea, f2_eq, f1_eq]) (fun n => by
            refine ⟨?_, ?_, ?_, ?_, ?_⟩
            · rw [gW.2.2.2.1, eWm, em]
            · rw [gW.2.2.1, eWR, eR]
            · rw [gW.2.2.2.2.1, eWa, ea, f2_ne (by decide), f2_ne (by decide), f2_ne (by decide), f2_ne (by decide), f2_ne (by decide), f2_ne (by decide)]
            · rw [gW.2.2.2.2.1, eWa, ea, f2_ne (by decide), f2_ne (by decide), f2_ne (by decide), f2_ne (by decide), f2_ne (by decide), f2_ne (by decide)]
            · rw [gW.2.2.2.2.1, eWa, ea, f2_eq, f2_ne (by decide), f2_ne (by decide), f2_ne (by decide), f2_eq, f2_eq, f1_f1, f1_f1])
          obtain ⟨v1, v2, v3, v4⟩ := w3
          exact ⟨v1, v2, fun q => ⟨(v3 q).1, fin _ (key.2 q) (v3 q).2⟩, fun q => ⟨(v4 q).1, fin _ (key.1 q) (v4 q).2⟩⟩
      · have n4' : nf y4 := by
          obtain ⟨b1, -, -, -, -, -, -, b11, b12, -⟩ := im.1 n.1
          exact ⟨b1, b11 n.2.1, b12 n.2.2⟩
        obtain ⟨u1, u2⟩ := T1 n4' hP
        exact u2 x' (im.2 n u1)
    · exact try_e hE hB (i + 1) hi hx hh ht hT z
end YS9
