/-! HEARINGS WITH WHAT THEY PUT: both readers. -/
section YT7
theorem nh_pre {E : x_E} {x : x_X} (hE : E_ok E) (hb : x.1 = false) (hI : t_I E x) : xg E 0 (X_nh E (X_tk E 200 x)) ∧ hl E (X_nh E (X_tk E 200 x)) ∧ ((X_nh E (X_tk E 200 x)).1 = false → X_i (X_nh E (X_tk E 200 x)) 0 = 0 ∧ X_i (X_nh E (X_tk E 200 x)) 1 = X_i x 1 ∧ X_t x + 2 ≤ X_t (X_nh E (X_tk E 200 x))) := by
  obtain ⟨hx, hh, hT⟩ := hI
  obtain ⟨t0, tv, t16, th, tl⟩ := hT hb
  have m1 := xm_tk hE (xg_t hx) (c := 200) (by decide)
  -- the name
  have g2 : xg E 0 (X_nh E (X_tk E 200 x)) := fun q => by
    obtain ⟨a1, a2, a3, a4, a5, a6, -⟩ := X_nh_i q
    obtain ⟨b1, ⟨b2, b3⟩, b4, b5, ⟨b6, -⟩, -⟩ := m1 a2
    obtain ⟨c1, c2, c3⟩ := hx b1
    have ht := xq_lt hE (fun _ => b3) a1 (by decide) a2
    have hp : E_p E (X_t (X_tk E 200 x)) ≤ E_p E (X_t (X_tk E 200 x) + 1) := E_p_mono hE (Nat.le_succ (X_t (X_tk E 200 x))) ht
    rw [a3, a4, a6, b6, Int32.add_zero]
    exact ⟨ht, c2, by omega⟩
  have h2 : hl E (X_nh E (X_tk E 200 x)) := fun q => by
    obtain ⟨a1, a2, a3, a4, a5, a6, -⟩ := X_nh_i q
    obtain ⟨b1, ⟨b2, b3⟩, b4, b5, -⟩ := m1 a2
    have ht := xq_lt hE (fun _ => b3) a1 (by decide) a2
    have := hh b1
    have hp := E_p_mono hE (show X_t x ≤ X_t (X_tk E 200 x) + 1 by omega) ht
    rw [a3, a5, b5]; omega
  have i2 : (X_nh E (X_tk E 200 x)).1 = false → X_i (X_nh E (X_tk E 200 x)) 0 = 0 ∧ X_i (X_nh E (X_tk E 200 x)) 1 = X_i x 1 ∧ X_t x + 2 ≤ X_t (X_nh E (X_tk E 200 x)) := fun q => by
    obtain ⟨a1, a2, a3, a4, a5, a6, a7, -⟩ := X_nh_i q
    obtain ⟨b1, ⟨b2, b3⟩, b4, b5, ⟨b6, b7, b8⟩, -⟩ := m1 a2
    refine ⟨by rw [a6, b6, t0]; decide, by rw [a7, b7], by rw [a3]; omega⟩
  exact ⟨g2, h2, i2⟩
def X_rf (f : Nat → Int32) (x : x_X) : x_X := (x.1, X_t x, X_z x, X_i x, X_2 x, X_3 x, X_u x, X_v x, f, X_l x)
theorem rc_rf {E : x_E} {x : x_X} {k : x_Kt} {s : f_S3} {f : Nat → Int32} (h : rc E k s x) (hf : x.1 = false → ∀ j : Nat, (j : Int) < (X_i x 1).toInt → f j = X_r x j) : rc E k s (X_rf f x) := by
  refine ⟨h.1, fun q => ?_⟩
  obtain ⟨g1, g2, g3, g4, g5, g6, ⟨p1, p2⟩⟩ := h.2 q
  refine ⟨g1, g2, g3, g4, g5, g6, ⟨p1, fun j hj hj' => ?_⟩⟩
  show s.2.1 22 j = f j
  rw [hf q j hj]; exact p2 j hj hj'
theorem rxg_rf {E : x_E} {x : x_X} {k : x_B} {M : Nat → Int32} {F : Nat → Nat → Int32} {f : Nat → Int32} (h : rxg E k M F x) (hf : ∀ j : Nat, (j : Int) ≤ (X_i x 1).toInt → f j = X_r x j) : rxg E k M F (X_rf f x) := by
  obtain ⟨g1, g2, g3, g4, g5, ⟨p1, p5⟩⟩ := h
  refine ⟨g1, g2, g3, g4, g5, ⟨p1, fun j hj => ?_⟩⟩
  have hj : (j : Int) < (X_i x 1).toInt ∨ (k.2 = true ∧ (j : Int) = (X_i x 1).toInt) := hj
  have e : f j = X_r x j := hf j (by rcases hj with q | ⟨-, q⟩ <;> omega)
  exact (p5 j hj).trans e.symm
variable {E : x_E} {W W' x y : y_X} {k : x_B} {M : Nat → Int32} {F : Nat → Nat → Int32} {s : f_S3} {O : Nat × Nat}
/-- the class: a hearing begins; a hearing kept -/
theorem cg_hs {kK : x_Kt} {c : Int32} (h : rcG E kK s y) (hi : y.1 = false → 0 ≤ (Y_i y 1).toInt ∧ (Y_i y 1).toInt < 50000) : rcG E kK s (Y_hs c y) := by
  have e2 : (Y_i y 1).toNatClampNeg = (Y_i y 1).toInt.toNat := rfl
  refine ⟨rc_rf (f := h_f c (nI (Y_n y)) (nI (Y_z y)) (Y_i y 1).toNatClampNeg (Y_r y)) h.1 (fun q j hj => ?_), fun n => ?_⟩
  · have hi := hi q
    have hj : (j : Int) < (Y_i y 1).toInt := hj
    rw [h_f1 (by omega) (by omega), if_neg (by omega)]; rfl
  · have n : nf y := n
    have hi := hi n.1
    obtain ⟨c1, c2, c3, c4⟩ := h.2 n
    refine ⟨c1, c2, fun j h1 h2 => ?_, c4⟩
    have h1 : (j : Int) < (Y_i y 1).toInt := h1
    show s.2.1 21 j = h_f c (nI (Y_n y)) (nI (Y_z y)) (Y_i y 1).toNatClampNeg (Y_r y) (200000 + j)
    rw [h_f3 (by omega) (by omega), if_neg (by omega)]
    exact c3 j h1 h2
theorem cg_add (hE : E_ok E) {kK : x_Kt} {p r : Int32} (h : rcG E kK s y) (hb : y.1 = false) (ht : (Y_i y 1).toInt + 1 ≤ Y_t y) (hr : r = Y_r y (Y_i y 1).toNatClampNeg) (hp : nf y → p = Y_r y (200000 + (Y_i y 1).toNatClampNeg)) (hU : nf y → ∀ w, (Y_u y w).toInt ≤ (Y_i y 1).toInt) {Q : f_S3 → Nat × Nat → Prop} (hQ : ∀ s', rcg E kK s' (yx (Y_nx y)) → CG E s' (Y_nx y) → Q s' O) : wF_X6_addHearing (E_N E) p r s O Q := by
  have h0 := c_add (O := O) (p := p) hE (h.1.2 hb) ht hr (Q := fun s' _ => rcg E kK s' (X_nx (yx y))) (fun _ h' => h')
  have e64 : s.1 64 = Y_i y 1 := (h.1.2 hb).2.2.1.1
  have hmt : Y_t y ≤ E_m E := (h.1.2 hb).1.2.2
  have hn := E_n4 hE
  have i0 : 0 ≤ (Y_i y 1).toInt := (h.1.2 hb).2.2.2.2.2.2.1.1
  have e2 : (Y_i y 1).toNatClampNeg = (Y_i y 1).toInt.toNat := rfl
  have l16 : (16 : Int32).toInt = 16 := by decide
  have li : (Y_i y 1 + 1).toInt = (Y_i y 1).toInt + 1 := by
    rw [ti_addx _ _ (by rw [show (1 : Int32).toInt = 1 by decide]; omega), show (1 : Int32).toInt = 1 by decide]
  have ei : Y_i (Y_nx y) 1 = Y_i y 1 + 1 := (um_eq : um (Y_i y) 1 (Y_i y 1 + 1) 1 = _)
  refine ⟨fun q => hQ _ (h0.1 q) (fun n => ?_), fun q => ⟨(h0.2 q).1, (h0.2 q).2.1, hQ _ (h0.2 q).2.2 (fun n => ?_)⟩⟩
  · have n : nf y := n
    rw [e64, Int32.le_iff_toInt_le, l16] at q
    obtain ⟨c1, c2, c3, c4⟩ := h.2 n
    refine ⟨c1, fun w hw hu => ?_, fun j h1 h2 => ?_, c4⟩
    · have hu : Y_u y w = Y_i (Y_nx y) 1 := hu
      rw [ei] at hu
      have := hU n w
      rw [hu, li] at this; omega
    · exact c3 j (by omega) h2
  · have n : nf y := n
    rw [e64, Int32.le_iff_toInt_le, l16] at q
    obtain ⟨c1, c2, c3, c4⟩ := h.2 n
    refine ⟨fun p' hp' => ?_, fun w hw hu => ?_, fun j h1 h2 => ?_, fun i hi => ?_⟩
    · show uf (uf s.2.1 21 (s.1 64) p) 22 (s.1 64) r 20 p' = _
      rw [uf_row (by decide), uf_row (by decide)]; exact c1 p' hp'
    · have hu : Y_u y w = Y_i (Y_nx y) 1 := hu
      rw [ei] at hu
      have := hU n w
      rw [hu, li] at this; omega
    · rw [ei, li] at h1
      show uf (uf s.2.1 21 (s.1 64) p) 22 (s.1 64) r 21 j = Y_r y (200000 + j)
      rw [uf_row (by decide), uf_at2, e64]
      by_cases z : j = (Y_i y 1).toNatClampNeg
      · rw [if_pos ⟨rfl, z⟩, z]; exact hp n
      · rw [if_neg (fun q => z q.2)]
        exact c3 j (by omega) h2
    · show uf (uf s.2.1 21 (s.1 64) p) 22 (s.1 64) r 26 i = _
      rw [uf_row (by decide), uf_row (by decide)]; exact c4 i hi
/-- the reference: a hearing begins; a hearing kept -/
theorem rg_hs (hE : E_ok E) {b : Nat} {a c h8 : Int32} (h : rxG E (b, false) M F y) (hb : y.1 = false) (ha : a = 400 * nI b + Y_i y 1) (hh : h8 = 9000 * M 27 + M 29) : rxG E (b, true) M (uf (uf F 19 a c) 18 a h8) (Y_hs c y) := by
  have g := h.1.2 hb
  have gs := re_sr (c := c) hE g (a := a) ha
  obtain ⟨g1, g2, g3, g4, ⟨h1, h2⟩, ⟨⟨p1, p2, p3, p4⟩, p5⟩⟩ := id g
  have hn := E_n4 hE
  have hmm : Y_t y ≤ E_m E := g1.2
  have p2 : b ≤ 1 := p2
  have p3 : 0 ≤ (Y_i y 1).toInt := p3
  have p4 : (Y_i y 1).toInt ≤ Y_t y := p4
  have e2 : (Y_i y 1).toNatClampNeg = (Y_i y 1).toInt.toNat := rfl
  have e4 : (400 * nI b : Int32).toInt = 400 * (b : Int) := by
    have : b = 0 ∨ b = 1 := by omega
    rcases this with rfl | rfl <;> decide
  have ea : a.toInt = 400 * (b : Int) + (Y_i y 1).toInt := by rw [ha, ti_addx _ _ (by rw [e4]; omega), e4]
  have en : a.toNatClampNeg = 400 * b + (Y_i y 1).toNatClampNeg := by
    have e1 : a.toNatClampNeg = a.toInt.toNat := rfl
    rw [e1, e2, ea]; omega
  refine ⟨rx_g (x := yx (Y_hs c y)) (rxg_rf (x := X_sr c (yx y)) (f := h_f c (nI (Y_n y)) (nI (Y_z y)) (Y_i y 1).toNatClampNeg (Y_r y)) ?_ (fun j hj => ?_)) hb, fun n => ?_⟩
  · have r := rx_uf (c := 18) (i := a) (v := h8) (by decide) (rx_g gs hb)
    exact r.2 hb
  · have hj : (j : Int) ≤ (Y_i y 1).toInt := hj
    rw [h_f1 (by omega) (by omega)]
    rfl
  · have n : nf y := n
    obtain ⟨q1, q2, q3, q4, q5, q6, q7, q8, q9⟩ := h.2 n
    have q1 : b = Y_B y := q1
    refine ⟨q1, q2, q3, fun r i x1 x2 x3 x4 => ?_, fun r i x1 x2 x3 x4 x5 => ?_, fun r i x1 x2 x3 x4 x5 => ?_, fun j hj => ?_, fun w hw => ?_, fun i hi => ?_⟩
    · rw [uf_row (by omega), uf_row (by omega)]; exact q4 r i x1 x2 x3 x4
    · rw [uf_row (by omega), uf_row (by omega)]; exact q5 r i x1 x2 x3 x4 x5
    · rw [uf_row (by omega), uf_row (by omega)]; exact q6 r i x1 x2 x3 x4 x5
    · have hj : (j : Int) < (Y_i y 1).toInt ∨ (true = true ∧ (j : Int) = (Y_i y 1).toInt) := hj
      show uf (uf F 19 a c) 18 a h8 18 (400 * Y_B y + j) = h_f c (nI (Y_n y)) (nI (Y_z y)) (Y_i y 1).toNatClampNeg (Y_r y) (100000 + j)
      rw [h_f2 (by omega) (by omega), uf_at2, en, ← q1]
      by_cases z : j = (Y_i y 1).toNatClampNeg
      · rw [if_pos ⟨rfl, by omega⟩, if_pos z, hh, (rg_here h n).1]
      · rw [if_neg (fun q => z (by omega)), if_neg z, uf_row (by decide), q1]
        exact q7 j (Or.inl (by rcases hj with q | ⟨-, q⟩ <;> omega))
    · rw [uf_row (by decide), uf_row (by decide)]; exact q8 w hw
    · rw [uf_row (by decide), uf_row (by decide)]; exact q9 i hi
theorem rg_nx (hE : E_ok E) {b : Nat} (h : rxG E (b, true) M F y) (hb : y.1 = false) (ht : (Y_i y 1).toInt + 1 ≤ Y_t y) (hU : nf y → ∀ w, (Y_u y w).toInt ≤ (Y_i y 1).toInt) : rxG E (b, false) (um M 30 (M 30 + 1)) F (Y_nx y) := by
  have hmm : Y_t y ≤ E_m E := (h.1.2 hb).1.2
  have hn := E_n4 hE
  have p3 : 0 ≤ (Y_i y 1).toInt := (h.1.2 hb).2.2.2.2.2.1.2.2.1
  have li : (Y_i y 1 + 1).toInt = (Y_i y 1).toInt + 1 := by
    rw [ti_addx _ _ (by rw [show (1 : Int32).toInt = 1 by decide]; omega), show (1 : Int32).toInt = 1 by decide]
  have ei : Y_i (Y_nx y) 1 = Y_i y 1 + 1 := (um_eq : um (Y_i y) 1 (Y_i y 1 + 1) 1 = _)
  refine ⟨rx_g (re_nx hE (h.1.2 hb) ht) hb, fun n => ?_⟩
  have n : nf y := n
  obtain ⟨q1, q2, q3, q4, q5, q6, q7, q8, q9⟩ := h.2 n
  refine ⟨q1, ⟨?_, ?_, ?_⟩, q3, q4, q5, q6, fun j hj => ?_, fun w hw => ?_, q9⟩
  · rw [um_ne (by decide)]; exact q2.1
  · rw [um_ne (by decide)]; exact q2.2.1
  · rw [um_ne (by decide)]; exact q2.2.2
  · refine q7 j ?_
    rcases hj with hj | ⟨hj, -⟩
    · rw [ei, li] at hj
      by_cases z : (j : Int) < (Y_i y 1).toInt
      · exact Or.inl z
      · exact Or.inr ⟨rfl, by omega⟩
    · exact absurd hj (by show ¬ false = true; decide)
  · have hw : Y_u y w = Y_i (Y_nx y) 1 := hw
    rw [ei] at hw
    have := hU n w
    rw [hw, li] at this; omega
theorem gI_q (g : gq y W) (hl : Y_l W = Y_l y) (hc : Y_c y = []) (i : gI y) : gI W := by
  obtain ⟨q1, q2, q3, q4, q5, q6, q7⟩ := g
  obtain ⟨n6, nT6, nV6⟩ := Y_nTV q4
  have B6 : Y_B W = Y_B y := congrFun q4 3
  obtain ⟨⟨a1, a2⟩, a3, a4, a5, a6, a7⟩ := i
  refine ⟨⟨?_, ?_⟩, ?_, ?_, ?_, ?_, ?_⟩
  · rw [q5, n6, q1]; exact a1
  · rw [q6, n6, q7]; exact a2
  · rw [q7, hc]; exact True.intro
  · exact ⟨by rw [q4, q1]; exact a4.1, mon_q a4.2 B6 n6 (fun k _ => by rw [q5]) (by rw [hl]) (fun i _ => by rw [q5]; exact ⟨rfl, rfl⟩) (fun k _ => by rw [q3])⟩
  · rw [q4, q1]; exact a5
  · rw [q4, q1]; exact a6
  · rw [B6]; exact a7
/-- between hearings -/
def rcwG (E : x_E) (s : f_S3) (y : y_X) : Prop := rcw E s (yx y) ∧ CG E s y
def t_IG (E : x_E) (y : y_X) : Prop := t_I E (yx y) ∧ (nf y → H_in y)
theorem j_hearingG (hE : E_ok E) (hb : x.1 = false) (hI : t_IG E x) : ∃ x', (∀ (s : f_S3) (O : Nat × Nat) (Q : f_S3 → Nat × Nat → Prop), rcG E ([], 0, false, false) s x → (∀ s', rcwG E s' x' → Q s' O) → wF_X7_hearing (E_N E) (cb (E_N E) 22) s O Q) ∧ (∀ (n b : Nat) (M : Nat → Int32) (F : Nat → Nat → Int32) (K0 K0' Q Q' : (Nat → Int32) → (Nat → Nat → Int32) → Prop), rxoG E b M F x → (∀ M' F', rxG E (b, false) M' F' x' → K0 M' F' → K0' M' F') → (∀ M' F', zb M' → x'.1 = true → Q M' F' → Q' M' F') → tbb (wf_blk n) K0 Q M F → tbb (wf_blk n) K0' Q' M F) ∧ t_IG E x' ∧ (x'.1 = false → Y_t x + 1 ≤ Y_t x') := by
  obtain ⟨hI0, hH⟩ := hI
  obtain ⟨g2, h2, i2⟩ := nh_pre hE hb hI0
  obtain ⟨hx, hh, hT⟩ := hI0
  obtain ⟨t0, tv', t16, th, tl⟩ := hT hb
  have hx : yg E 0 x := hx
  have l0 : (0 : Int32).toInt = 0 := by decide
  have l1 : (1 : Int32).toInt = 1 := by decide
  have hn4 := E_n4 hE
  have m1 := ym_tk hE (yg_t hx) (c := 200) (by decide)
  have eN : X_nh E (X_tk E 200 (yx x)) = yx (Y_nh E (Y_tk E 200 x)) := by rw [yx_nh, yx_tk]
  rw [eN] at g2 h2 i2
  have xi := X_nh_i (E := E) (x := X_tk E 200 (yx x))
  rw [eN] at xi
  have n12 : nf (Y_nh E (Y_tk E 200 x)) → nf x := fun n => nf_m m1 (nh_n n)
  have gl2 : gl x (Y_nh E (Y_tk E 200 x)) := gl_tr gl_tk gl_nh
  have V2 : nf (Y_nh E (Y_tk E 200 x)) → gI (Y_nh E (Y_tk E 200 x)) ∧ gv E (Y_nh E (Y_tk E 200 x)) ∧ 0 ≤ (Y_i x 1).toInt ∧ (Y_i x 1).toInt < 16 := fun n => by
    obtain ⟨⟨i, hc⟩, hu, -⟩ := hH (n12 n)
    obtain ⟨z1, z2, z3, z4⟩ := nh_g n
    have ei : Y_i (Y_tk E 200 x) 1 = Y_i x 1 := (gl_tk (E := E) (c := 200)).2.2.2
    rw [ei, Int32.lt_iff_toInt_lt, show (16 : Int32).toInt = 16 by decide] at z3
    refine ⟨gI_q gl2.1 gl2.2.1 hc i, ?_, th.1, z3⟩
    have e1 : Y_i (Y_nh E (Y_tk E 200 x)) 1 = Y_i x 1 := gl2.2.2.2
    have eu : Y_u (Y_nh E (Y_tk E 200 x)) = Y_u x := by
      rw [z4]
      show Y_u (Y_tk E 200 x) = Y_u x
      unfold Y_tk; split <;> rfl
    have e3 : Y_i (Y_nh E (Y_tk E 200 x)) 3 = 0 := by rw [z4]; rfl
    have e2 : Y_i (Y_nh E (Y_tk E 200 x)) 2 = 0 := by rw [z4]; rfl
    refine ⟨⟨?_, ?_⟩, fun w => ?_, fun w q => ?_⟩
    · rw [e3]; decide
    · rw [e2]; decide
    · rw [eu, e1]; have := hu w; omega
    · rw [eu, e1] at q
      have := hu w
      rw [q] at this; omega
  have HX2 : ∀ {s : f_S3}, rcG E ([], 0, false, false) s (Y_nh E (Y_tk E 200 x)) → rcG E ([], 0, false, false) s (Y_nh E (Y_tk E 200 x)) := fun h => h
  have HQ2 : (Y_nh E (Y_tk E 200 x)).1 = true → (Y_nh E (Y_tk E 200 x)).1 = true := fun h => h
  have HR2 : ∀ {b : Nat} {M : Nat → Int32} {F : Nat → Nat → Int32}, rxG E (b, false) M F (Y_nh E (Y_tk E 200 x)) → rxG E (b, false) M F (Y_nh E (Y_tk E 200 x)) := fun h => h
  obtain ⟨x2, ex2⟩ : ∃ v, v = Y_nh E (Y_tk E 200 x) := ⟨_, rfl⟩
  rw [← ex2] at g2 h2 i2 xi n12 gl2 V2
  have HX2 : ∀ {s : f_S3}, rcG E ([], 0, false, false) s (Y_nh E (Y_tk E 200 x)) → rcG E ([], 0, false, false) s x2 := fun h => by rw [ex2]; exact h
  have HQ2 : (Y_nh E (Y_tk E 200 x)).1 = true → x2.1 = true := fun h => by rw [ex2]; exact h
  have HR2 : ∀ {b : Nat} {M : Nat → Int32} {F : Nat → Nat → Int32}, rxG E (b, false) M F (Y_nh E (Y_tk E 200 x)) → rxG E (b, false) M F x2 := fun h => by rw [ex2]; exact h
  have g2 : yg E 0 x2 := g2
  have h2 : hlG E x2 := h2
  have i2 : x2.1 = false → Y_i x2 0 = 0 ∧ Y_i x2 1 = Y_i x 1 ∧ Y_t x + 2 ≤ Y_t x2 := i2
  have g2' : yg E 10 x2 := yg_w g2 (by decide)
  have mo := ym_op hE (yg_t g2) (c := 40) (by decide)
  have g3 := Y_op_g hE (c := 40) g2' (by decide)
  have gl3 : gl x2 (Y_op E 40 x2) := gl_op
  obtain ⟨x4, c', pa, pb, pm, pq⟩ := j_paramsG hE g3
  have o4 : x4.1 = false → 1 ≤ (Y_i x4 0).toInt ∧ (Y_i x4 0).toInt ≤ 20 := fun q => by
    obtain ⟨a1, a2⟩ := ys_i0 pm q
    have := Y_op_1 (y := Y_op E 40 x2) g2' g3 (ym_rf (yg_t g3)) a1
    rw [a2]; exact this
  have m5 := ym_cl hE (ys_t pm) (c := 41) (by decide)
  have s35 := ys_tr (ys_tr (ym_ys hE mo) pm) (ym_ys hE m5)
  have s25 := ys_w s35 (a' := 2) (d' := -4) (e' := 0) (by decide) (by decide) (by decide)
  have g5 : yg E 0 (Y_cl E 41 x4) := yg_s g2 s25 (by decide)
  have h5 : hlG E (Y_cl E 41 x4) := hlG_s h2 s25
  have gl5 : gl x (Y_cl E 41 x4) := gl_tr gl2 (gl_tr gl3 (gl_tr pq gl_cl))
  have z35 : Y_z (Y_op E 40 x2) = Y_z (Y_cl E 41 x4) := (gl_tr pq (gl_cl (E := E) (c := 41))).1.1.symm
  -- the class's way to the block
  have cw : ∀ (s : f_S3) (O : Nat × Nat) (Q : f_S3 → Nat × Nat → Prop), rcG E ([], 0, false, false) s x → (∀ (z r : Int32) (s6 : f_S3), ((Y_cl E 41 x4).1 = false → z = nI (Y_z (Y_cl E 41 x4)) ∧ r = c') → rcG E ([], 0, false, false) s6 (Y_cl E 41 x4) → (cb (E_N E) 22 0 s6 O (fun M7 O7 => (wF_X7_emit_ (E_N E) 7 0 M7 O7 (fun M8 O8 => (wF_X7_emit (E_N E) 3 M8 O8 (fun M9 O9 => (wF_X6_addHearing (E_N E) z r M9 O9 (fun M10 O10 => (Q M10 O10)))))))))) → wF_X7_hearing (E_N E) (cb (E_N E) 22) s O Q := by
    intro s O Q gs hk
    have hpl : ¬ s.1 14 = -1 := by
      have e14 := (gs.1.2 hb).1.2.1.2.2.2
      rw [e14]; exact E_Pn hE (gs.1.2 hb).1.2.2
    refine cg_take hE gs (by decide) (by decide) (fun s1 h1 => cg_nameHearing hE (fun _ => hpl) h1 (fun s2 h2' => cg_open hE (c := 40) (HX2 h2') (yg_oo g2) (by decide) (by decide) (fun q => (i2 q).1.symm) (fun s3 h3 => pa _ s3 O _ h3 (fun r s4 hr h4 => cg_take hE h4 (by decide) (by decide) (fun s5 h5' => ?_)))))
    refine hk _ r s5 (fun q => ?_) (cg_o h5')
    have q4 : x4.1 = false := (m5.1 q).1
    have q3 : (Y_op E 40 x2).1 = false := (pm.1 q4).1
    exact ⟨by rw [cg_63 h3 q3, z35], hr q4⟩
  -- the reference's way to the block
  have rw5 : ∀ (n b : Nat) (M : Nat → Int32) (F : Nat → Nat → Int32) (K0 K0' Q Q' : (Nat → Int32) → (Nat → Nat → Int32) → Prop), rxoG E b M F x → (∀ M' F', zb M' → x2.1 = true → Q M' F' → Q' M' F') → (∀ (r : Int32) (M5 : Nat → Int32) (F5 : Nat → Nat → Int32), (x4.1 = false → r = c') → rxG E (b, false) M5 F5 (Y_cl E 41 x4) → (w_bad M5 F5 (fun r5 M6 F6 => ((r5 = 0 → (vp_in (400 * nI b + Y_i x 1) 800 ∧ (w_here M6 (uf F6 19 (400 * nI b + Y_i x 1) r) (fun r8 M9 F9 => (vp_in (400 * nI b + Y_i x 1) 800 ∧ (wf_blk n M9 (uf F9 18 (400 * nI b + Y_i x 1) r8) (fun M11 F11 => (w_put 1 0 0 0 M11 F11 (fun _ M13 F13 => (w_put 19 0 0 0 M13 F13 (fun _ M15 F15 => (K0 (um M15 30 ((M15 30) + 1)) F15)))))))))))) ∧ (¬ r5 = 0 → (K0 (um M6 30 ((M6 30) + 1)) F6))))) → (w_bad M5 F5 (fun r5 M6 F6 => ((r5 = 0 → (vp_in (400 * nI b + Y_i x 1) 800 ∧ (w_here M6 (uf F6 19 (400 * nI b + Y_i x 1) r) (fun r8 M9 F9 => (vp_in (400 * nI b + Y_i x 1) 800 ∧ (wf_blk n M9 (uf F9 18 (400 * nI b + Y_i x 1) r8) (fun M11 F11 => (w_put 1 0 0 0 M11 F11 (fun _ M13 F13 => (w_put 19 0 0 0 M13 F13 (fun _ M15 F15 => (K0' (um M15 30 ((M15 30) + 1)) F15)))))))))))) ∧ (¬ r5 = 0 → (K0' (um M6 30 ((M6 30) + 1)) F6)))))) → tbb (wf_blk n) K0 Q M F → tbb (wf_blk n) K0' Q' M F := by
    intro n b M F K0 K0' Q Q' hr hQ hk wt
    refine rg_nho hE hr (fun M' F' z q w => hQ M' F' z (HQ2 q) w) (fun M1 F1 r1 e27 e30 w1 => ?_) wt
    have r1 := HR2 r1
    have w1 : w_hearing (wf_blk n) M1 F1 (fun M10 F10 => (K0 (um M10 30 ((M10 30) + 1)) F10)) := w1
    show w_hearing (wf_blk n) M1 F1 (fun M10 F10 => (K0' (um M10 30 ((M10 30) + 1)) F10))
    unfold w_hearing at w1 ⊢
    rw [e27, e30] at w1 ⊢
    refine rg_opens hE (c := 40) rfl (b, false) _ F1 _ _ r1 w1 (fun M2 F2 r2 w2 => ?_)
    refine pb (wf_blk n) _ (b, false) M2 F2 _ _ r2 (fun r M3 F3 hr3 r3 w3 => ?_) w2
    exact rg_closes hE (c := 41) rfl o4 (b, false) M3 F3 _ _ r3 w3 (fun M4 F4 r4 w4 => hk r M4 F4 hr3 r4 w4)
  clear HX2 HQ2 HR2
  cases hb5 : (Y_cl E 41 x4).1 with
  | true =>
    refine ⟨Y_bd x, fun s O Q gs hQ => cw s O Q gs (fun z r s6 hr h6 => ?_), fun n b M F K0 K0' Q Q' hr hK hQ wt => ?_, ⟨⟨fun q => absurd q (by show ¬ true = false; decide), fun q => absurd q (by show ¬ true = false; decide), fun q => absurd q (by show ¬ true = false; decide)⟩, fun n => absurd n (nf_bd rfl)⟩, fun q => absurd q (by show ¬ true = false; decide)⟩
    · have hN := hE.2.2.2.1
      show wF_X7_block (E_N E) (cff (E_N E) 22) (cb (E_N E) 21) 0 s6 O _
      refine bd_block (h6.1.1 hb5) (fun s7 h7 => bd_emit2 hN h7 (fun s8 h8 => bd_emit hN h8 (fun s9 h9 => bw_add ⟨hE.2.2.2.2.2.2.2.2.1, hE.2.2.2.2.2.2.2.2.2⟩ h9 (fun s10 h10 => hQ s10 ⟨⟨fun _ => h10, fun q => absurd q (by show ¬ true = false; decide)⟩, fun n => absurd n (nf_bd rfl)⟩))))
    · refine rw5 n b M F K0 K0' Q Q' hr (fun M' F' z _ w => hQ M' F' z rfl w) (fun r M5 F5 hr5 r5 w5 => ?_) wt
      exact rg_b0 r5 (fun _ w => hK _ _ (rxG_zb (zb_um (r5.1.1 hb5) (by decide)) rfl) w) (fun q => absurd (hb5.symm.trans q) (by decide)) w5
  | false =>
    have q4 : x4.1 = false := (m5.1 hb5).1
    have q25 := s25.1 hb5
    have q2 : x2.1 = false := q25.1
    obtain ⟨j1, j2, j3⟩ := i2 q2
    have e51 : Y_i (Y_cl E 41 x4) 1 = Y_i x 1 := gl5.2.2.2
    have e50 : Y_i (Y_cl E 41 x4) 0 = 0 := by
      have : Y_i (Y_cl E 41 x4) 0 = Y_i x2 0 + 0 := q25.2.2.2.2.1.1
      rw [this, j1]; decide
    have t5 : Y_t x2 + 2 ≤ Y_t (Y_cl E 41 x4) := q25.2.1.1
    have t5m : Y_t (Y_cl E 41 x4) ≤ E_m E := q25.2.1.2
    have n52 : nf (Y_cl E 41 x4) → nf x2 := fun n => nf_s s25 n
    have V5 : nf (Y_cl E 41 x4) → gI (Y_cl E 41 x4) ∧ gv E (Y_cl E 41 x4) := fun n => by
      obtain ⟨i, v, -⟩ := V2 (n52 n)
      exact (s25.2 n.1 n.2.1 n.2.2 i v).1
    have gn6 : gn E (Y_hs c' (Y_cl E 41 x4)) := fun n => by
      have n : nf (Y_cl E 41 x4) := n
      have hH1 := (hH (n12 (n52 n))).1
      exact ⟨gI_q (gq_tr gl5.1 gq_hs) gl5.2.1 hH1.2 hH1.1, gv_cg rfl rfl rfl rfl rfl (V5 n).2⟩
    have V2' : nf (Y_cl E 41 x4) → 0 ≤ (Y_i x 1).toInt ∧ (Y_i x 1).toInt < 16 := fun n => (V2 (n52 n)).2.2
    have nx5 : nf (Y_cl E 41 x4) → nf x := fun n => n12 (n52 n)
    have c2 : X_v (yx (Y_cl E 41 x4)) = X_v (yx x2) := q25.2.2.2.2.2.1
    have c3 : (Y_2 (Y_cl E 41 x4) = false → Y_2 x2 = false) ∧ (Y_3 (Y_cl E 41 x4) = false → Y_3 x2 = false) := ⟨q25.2.2.2.2.2.2.2.1, q25.2.2.2.2.2.2.2.2.1⟩
    have c4 : ∀ p, p ∈ Y_l (Y_cl E 41 x4) → p.1 < E_L E := fun p hp => by
      have el : Y_l (Y_cl E 41 x4) = Y_l x := gl5.2.1
      rw [el] at hp
      exact tl p hp
    generalize Y_cl E 41 x4 = x5 at *
    have i50 : x5.1 = false → 0 ≤ (Y_i x5 1).toInt ∧ (Y_i x5 1).toInt < 50000 := fun _ => by
      rw [e51]
      have th : 0 ≤ (Y_i x 1).toInt ∧ (Y_i x 1).toInt ≤ Y_t x := th
      omega
    obtain ⟨x7, ⟨ba, bb, bm⟩, bf⟩ := blk_one hE (j_blockG hE (E_m E)) (Y_hs c' x5) (show yg E 6 (Y_hs c' x5) from xg_w g5 (by decide)) h5 (fun _ => by omega) gn6
    have mp1 : ym E 0 2 0 x7 (Y_em [7, 0] (1, 0, 0, 0, -1) (Y_c x7) x7) := ym_em (ys_t bm) ho_1 (Nat.le_succ _) (fun _ => k_e_1.symm) (fun _ => h8_1)
    have g7 : yg E 0 x7 := xg_s (x := yx (Y_hs c' x5)) g5 bm.1 (by decide)
    have lo8 := yg_lo (n := 15) (yg_m g7 mp1 (c' := 15) (by decide)) (by decide)
    have n75 : nf x7 → nf x5 := fun n => by
      have := nf_s bm n
      exact this
    have H9 := fun (n : nf x7) (hzz : Y_z x7 < 80000) => H_step (E := E) (c := c') (hH (nx5 (n75 n))) gl5.1 gl5.2.1 gl5.2.2.1 e51 (V2' (n75 n)) hzz (gn6 (nf_s bm n)).2 n (bm.2 n.1) bf (bm.1 n.1).2.2.2.2.2.2.1 (bm.1 n.1).2.2.2.2.1.2
    obtain ⟨x8, e8⟩ : ∃ v, v = Y_em [7, 0] (1, 0, 0, 0, -1) (Y_c x7) x7 := ⟨_, rfl⟩
    rw [← e8] at mp1 lo8 H9
    have mp2 : ym E 0 1 0 x8 (Y_em [3] (19, 0, 0, 0, -1) (Y_c x8) x8) := ym_em (ym_t mp1) ho_19 (Nat.le_refl _) (fun _ => k_e_19.symm) (fun _ => h8_19)
    obtain ⟨x9, e9⟩ : ∃ v, v = Y_em [3] (19, 0, 0, 0, -1) (Y_c x8) x8 := ⟨_, rfl⟩
    rw [← e9] at mp2 H9
    have mp := ym_t0 mp1 mp2
    have s56 := ys_w (ys_t0 bm (ym_ys hE mp)) (a' := 2) (d' := -1) (by decide) (by decide) rfl
    have g9 : yg E 0 x9 := xg_s (x := yx (Y_hs c' x5)) g5 s56.1 (by decide)
    have h9 : hlG E x9 := hl_s (x := yx (Y_hs c' x5)) h5 s56.1
    have n9 : nf x9 → nf x7 := fun n => nf_m mp n
    have hz7 : nf x7 → Y_z x7 < 80000 := fun n => by
      obtain ⟨d1, d2, d3⟩ := g7 n.1
      have d3 : (Y_z x7 : Int) ≤ 2 * (E_p E (Y_t x7) : Int) + 0 := d3
      have h2 := E_pn hE (t := Y_t x7) d1
      omega
    have f9 : x9.1 = false → Y_i x9 0 = 0 ∧ Y_i x9 1 = Y_i x 1 ∧ Y_t x + 2 ≤ Y_t x9 ∧ Y_v x9 = Y_v x2 ∧ Y_r x9 = Y_r (Y_hs c' x5) ∧ (Y_2 x9 = false → Y_2 x2 = false) ∧ (Y_3 x9 = false → Y_3 x2 = false) ∧ Y_t x9 ≤ E_m E ∧ (∀ p, p ∈ Y_l x9 → p.1 < E_L E) := fun q => by
      obtain ⟨a1, ⟨a2, a3⟩, -, -, ⟨a4, a5⟩, a6, a7, a8, a9, a10⟩ := s56.1 q
      have a2 : Y_t x5 + 2 ≤ Y_t x9 := a2
      have a4 : Y_i x9 0 = Y_i x5 0 + 0 := a4
      refine ⟨by rw [a4, e50]; decide, (show Y_i x9 1 = Y_i x5 1 from a5).trans e51, by omega, (show Y_v x9 = Y_v x5 from a6).trans c2, a7, fun z => c3.1 (a8 z), fun z => c3.2 (a9 z), a3, fun p hp => (a10 p hp).elim (fun h => c4 p h) id⟩
    have rI : x9.1 = false → Y_r x9 (Y_i x9 1).toNatClampNeg = c' ∧ Y_r x9 (200000 + (Y_i x9 1).toNatClampNeg) = nI (Y_z x5) := fun q => by
      obtain ⟨-, f2, -, -, f5, -⟩ := f9 q
      have e : Y_r (Y_hs c' x5) = h_f c' (nI (Y_n x5)) (nI (Y_z x5)) (Y_i x5 1).toNatClampNeg (Y_r x5) := rfl
      have e2 : (Y_i x 1).toNatClampNeg = (Y_i x 1).toInt.toNat := rfl
      have := i50 hb5
      rw [e51] at this
      rw [f5, f2, e, e51, h_f1 (by omega) (by omega), h_f3 (by omega) (by omega), if_pos rfl, if_pos rfl]
      exact ⟨rfl, rfl⟩
    have hU : nf x9 → ∀ w, (Y_u x9 w).toInt ≤ (Y_i x9 1).toInt := fun n w => by
      have v7 := (H9 (n9 n) (hz7 (n9 n))).2
      have eu : Y_u x9 = Y_u x7 := by rw [e9, e8]; rfl
      have ei : Y_i x9 1 = Y_i x7 1 := by rw [e9, e8]; rfl
      rw [eu, ei]; exact v7.2.1 w
    have th' : 0 ≤ (Y_i x 1).toInt ∧ (Y_i x 1).toInt ≤ Y_t x := th
    have tx : Y_t x ≤ E_m E := yg_t hx hb
    have e1 : (Y_i x 1 + 1).toInt = (Y_i x 1).toInt + 1 := by
      rw [ti_addx _ _ (by rw [l1]; omega), l1]
    refine ⟨Y_nx x9, fun s O Q gs hQ => cw s O Q gs (fun z r s6 hr h6' => ?_), fun n b M F K0 K0' Q Q' hr hK hQ wt => ?_, ⟨⟨fun q => ?_, fun q => h9 q, fun q => ?_⟩, fun n => ?_⟩, fun q => ?_⟩
    · refine ba 22 0 ⟨by decide, fun q => ?_⟩ [] s6 O _ (cg_hs h6' i50) (fun s7 h7 => cg_emit2 hE h7 (yg_lo (n := 14) (yg_w g7 (c' := 14) (by decide)) (by decide)) (by decide) (fun s8 h8 => ?_))
      · have e50' : Y_i (Y_hs c' x5) 0 = 0 := e50
        show 21 ≤ (Y_i (Y_hs c' x5) 0).toInt + (22 : Int) ∧ (0 : Int32) = Y_i (Y_hs c' x5) 0
        rw [e50', l0]
        exact ⟨by omega, rfl⟩
      · have h8 := rc_em (o := (1, 0, 0, 0, -1)) (c := Y_c x7) h8
        rw [← e8] at h8
        refine cg_emit hE h8 lo8 (by decide) (fun s9 h9' => ?_)
        have h9' := rc_em (o := (19, 0, 0, 0, -1)) (c := Y_c x8) h9'
        rw [← e9] at h9'
        cases hb9 : x9.1 with
        | true => exact bw_add ⟨hE.2.2.2.2.2.2.2.2.1, hE.2.2.2.2.2.2.2.2.2⟩ (h9'.1.1 hb9) (fun s10 h10 => hQ s10 ⟨⟨fun _ => h10, fun q => absurd (hb9.symm.trans q) (by decide)⟩, fun n => absurd n (nf_bd hb9)⟩)
        | false =>
          obtain ⟨f1, f2, f3, f4, f5, -⟩ := f9 hb9
          refine cg_add hE h9' hb9 ?_ ?_ (fun n => ?_) hU (fun s10 h10 c10 => hQ s10 ⟨⟨fun q => absurd (hb9.symm.trans q) (by decide), fun _ => h10⟩, c10⟩)
          · rw [f2]; omega
          · rw [(rI hb9).1]; exact (hr hb5).2
          · rw [(rI hb9).2]; exact (hr hb5).1
    · refine rw5 n b M F K0 K0' Q Q' hr (fun M' F' z q _ => absurd (q.symm.trans q2) (by decide)) (fun r M5 F5 hr5 r5 w5 => ?_) wt
      have er := hr5 q4
      subst er
      refine rg_b0 r5 (fun q => absurd (q.symm.trans hb5) (by decide)) (fun _ w => ?_) w5
      obtain ⟨v1, v2⟩ := w
      have v2' : vp_in (400 * nI b + Y_i x 1) 800 ∧ wf_blk n M5 (uf (uf F5 19 (400 * nI b + Y_i x 1) r) 18 (400 * nI b + Y_i x 1) (9000 * M5 27 + M5 29)) _ := v2
      have gsr := rg_hs (c := r) (a := 400 * nI b + Y_i x 1) hE r5 hb5 (by rw [e51]) rfl
      refine ⟨v1, v2'.1, bb n (b, true) M5 _ _ _ gsr v2'.2 (fun M6 F6 r6 w6 => rg_put r6 w6 (fun _ M7 F7 _ r7 w7 => ?_))⟩
      have r7 := rx_em (l := [7, 0]) (c := Y_c x7) r7
      rw [← e8] at r7
      refine rg_put r7 w7 (fun _ M8 F8 _ r8 w8 => hK _ _ ?_ w8)
      have r8 := rx_em (l := [3]) (c := Y_c x8) r8
      rw [← e9] at r8
      cases hb9 : x9.1 with
      | true => exact rxG_zb (zb_um (r8.1.1 hb9) (by decide)) hb9
      | false =>
        obtain ⟨f1, f2, f3, -⟩ := f9 hb9
        exact rg_nx hE r8 hb9 (by rw [f2]; omega) hU
    · have q : x9.1 = false := q
      exact g9 q
    · have q : x9.1 = false := q
      obtain ⟨f1, f2, f3, f4, f5, f6', f7, f8, f9'⟩ := f9 q
      obtain ⟨a1, a2, a3, a4, a5, a6, a7, a8, a9, a10⟩ := xi q2
      obtain ⟨b1, -, -, -, ⟨-, b7, -⟩, ⟨b9, -⟩, b11, b12, -⟩ := xm_tk hE (xg_t hx) (c := 200) (by decide) a2
      have e1' : (X_i (yx (Y_nx x9)) 1).toInt = (Y_i x 1).toInt + 1 := by
        have e : X_i (yx (Y_nx x9)) 1 = Y_i x9 1 + 1 := (um_eq : um (Y_i x9) 1 (Y_i x9 1 + 1) 1 = _)
        rw [e, f2, e1]
      refine ⟨f1, fun w => ?_, fun p2 p3 => ?_, ⟨?_, ?_⟩, fun p hp => f9' p hp⟩
      · show Y_v x9 w = -1 ∨ (0 ≤ (Y_v x9 w).toInt ∧ (Y_v x9 w).toInt < (X_i (yx (Y_nx x9)) 1).toInt)
        rw [f4, e1']
        have a8 : Y_v x2 w = X_v (X_tk E 200 (yx x)) w ∨ Y_v x2 w = X_i (X_tk E 200 (yx x)) 1 := a8 w
        have tv' : Y_v x w = -1 ∨ (0 ≤ (Y_v x w).toInt ∧ (Y_v x w).toInt < (Y_i x 1).toInt) := tv' w
        have b9 : X_v (X_tk E 200 (yx x)) = Y_v x := b9
        have b7 : X_i (X_tk E 200 (yx x)) 1 = Y_i x 1 := b7
        rcases a8 with y | y
        · rw [y, b9]
          rcases tv' with y' | y'
          · exact Or.inl y'
          · exact Or.inr ⟨y'.1, by omega⟩
        · rw [y, b7]; exact Or.inr ⟨th'.1, by omega⟩
      · rw [e1']
        have p3' := (a10 (f7 p3)).2
        have b7 : X_i (X_tk E 200 (yx x)) 1 = Y_i x 1 := b7
        rw [b7, Int32.lt_iff_toInt_lt, show (16 : Int32).toInt = 16 by decide] at p3'
        omega
      · rw [e1']; omega
      · rw [e1']
        show (Y_i x 1).toInt + 1 ≤ ((Y_t x9 : Nat) : Int)
        omega
    · have n : nf x9 := n
      exact (H9 (n9 n) (hz7 (n9 n))).1
    · have q : x9.1 = false := q
      obtain ⟨f1, f2, f3, -⟩ := f9 q
      show Y_t x + 1 ≤ Y_t x9
      omega
end YT7
