/-! HEARINGS AND THE TEXT: both parsers. -/
section XT3
variable {E : x_E} {x y : x_X}
theorem j_params (hE : E_ok E) (hx : xg E 10 x) : ∃ (x' : x_X) (c' : Int32), (∀ (K : List Nat) (s : f_S3) (O : Nat × Nat) (Q : Int32 → f_S3 → Nat × Nat → Prop), rc E (K, 0, false, false) s x → (∀ r s', (x'.1 = false → r = c') → rc E (K, 0, false, false) s' x' → Q r s' O) → wF_X7_parameters (E_N E) s O Q) ∧ (∀ (WB : x_RW) (h : Int32) (k : x_B) (M : Nat → Int32) (F : Nat → Nat → Int32) (Q Q' : (Nat → Int32) → (Nat → Nat → Int32) → Prop), rxx E k M F x → (∀ r M' F', (x'.1 = false → r = c') → rxx E k M' F' x' → w_hearing_72 WB Q h r M' F' → w_hearing_72 WB Q' h r M' F') → w_isSign 41 M F (fun r2 M3 F3 => ((¬ r2 = 0 → (w_hearing_72 WB Q h 0 M3 F3)) ∧ (r2 = 0 → (w_parameter 0 M3 F3 (fun M16 F16 => (∃ e48, w_hearing_48 WB Q e48 h 1 M16 F16)))))) → w_isSign 41 M F (fun r2 M3 F3 => ((¬ r2 = 0 → (w_hearing_72 WB Q' h 0 M3 F3)) ∧ (r2 = 0 → (w_parameter 0 M3 F3 (fun M16 F16 => (∃ e48, w_hearing_48 WB Q' e48 h 1 M16 F16))))))) ∧ xs E 0 0 0 x x' := by
  have e01 : (0 : Int32) + 1 = 1 := by decide
  cases hb : x.1 with
  | true =>
    refine ⟨x, 0, fun K s O Q hs hQ => bd_params (hs.1 hb) (fun r s' h' => hQ r s' (fun q => absurd (hb.symm.trans q) (by decide)) (rc_bd h' hb)), fun WB h k M F Q Q' hr hk w => ?_, xs_rf (xg_t hx)⟩
    have pb : (X_p1 E (X_c4 0 x)).1 = true := by
      have c4 : (X_c4 0 x).1 = true := by unfold X_c4; split <;> exact hb
      unfold X_p1
      rw [if_neg (fun q => by rw [X_tyb c4] at q; exact absurd q (by decide))]; rfl
    refine re_s1 hE hr (c := 41) rfl (fun q => absurd ((X_tyb hb).symm.trans q) (by decide)) (fun _ w => ?_) w
    refine re_par hE k M F _ _ hr w (fun M1 F1 r1 w1 => ?_)
    obtain ⟨e, w1⟩ := w1
    refine ⟨e, ?_⟩
    cases e with
    | zero => exact absurd w1 (fun q => q)
    | succ e =>
      dsimp only [w_hearing_48] at w1 ⊢
      exact re_s0 hE r1 (c := 44) rfl (fun q => absurd ((X_tyb pb).symm.trans q) (by decide)) (fun _ w => hk _ M1 F1 (fun q => absurd (hb.symm.trans q) (by decide)) (rx_zb (r1.1 pb) hb) w) w1
  | false =>
    by_cases z : X_ty E x = 41
    · exact ⟨x, 0, fun K s O Q hs hQ => ⟨fun q => absurd ((c_ty hs).trans z) q, fun _ => hQ 0 s (fun _ => rfl) hs⟩, fun WB h k M F Q Q' hr hk w => re_s1 hE hr (c := 41) rfl (fun _ w => hk 0 M F (fun _ => rfl) hr w) (fun q => absurd z q) w, xs_rf (xg_t hx)⟩
    · obtain ⟨x', c', a, b, m⟩ := par_L hE (E_m E + 1) x 0 hb hx (fun _ => by omega)
      refine ⟨x', c', fun K s O Q hs hQ => ⟨fun _ => ⟨E_m E + 2, a 0 (E_m E + 2) K s O Q ja_0 (by omega) hs hQ⟩, fun q => absurd ((c_ty hs).symm.trans q) z⟩, fun WB h k M F Q Q' hr hk w => ?_, xs_w m (by decide) (by decide) rfl⟩
      refine re_s1 hE hr (c := 41) rfl (fun q => absurd q z) (fun _ w => ?_) w
      refine re_par hE k M F _ _ hr w (fun M1 F1 r1 w1 => ?_)
      obtain ⟨e, w1⟩ := w1
      rw [← e01] at w1
      have := b e WB h k M1 F1 Q Q' r1 hk w1
      rw [e01] at this
      exact ⟨e, this⟩
/-- between hearings -/
def t_I (E : x_E) (x : x_X) : Prop := xg E 0 x ∧ hl E x ∧ (x.1 = false → X_i x 0 = 0 ∧ (∀ w, X_v x w = -1 ∨ (0 ≤ (X_v x w).toInt ∧ (X_v x w).toInt < (X_i x 1).toInt)) ∧ (X_2 x = false → X_3 x = false → (X_i x 1).toInt ≤ 16) ∧ (0 ≤ (X_i x 1).toInt ∧ (X_i x 1).toInt ≤ X_t x) ∧ ∀ p, p ∈ X_l x → p.1 < E_L E)
theorem X_nh_i (h : (X_nh E x).1 = false) : X_ty E x = 130 ∧ x.1 = false ∧ X_t (X_nh E x) = X_t x + 1 ∧ X_z (X_nh E x) = X_z x ∧ X_l (X_nh E x) = X_l x ∧ X_i (X_nh E x) 0 = X_i x 0 ∧ X_i (X_nh E x) 1 = X_i x 1 ∧ (∀ w, X_v (X_nh E x) w = X_v x w ∨ X_v (X_nh E x) w = X_i x 1) ∧ (X_2 (X_nh E x) = false → X_2 x = false) ∧ (X_3 (X_nh E x) = false → X_3 x = false ∧ X_i x 1 < 16) := by
  unfold X_nh at h ⊢
  by_cases z : X_ty E x = 130
  · rw [if_pos z] at h ⊢
    have key : ∀ y : x_X, (y.1 = x.1 ∧ X_t y = X_t x + 1 ∧ X_z y = X_z x ∧ X_l y = X_l x ∧ X_i y = X_i x ∧ (∀ w, X_v y w = X_v x w ∨ X_v y w = X_i x 1) ∧ (X_2 y = false → X_2 x = false) ∧ (X_3 y = false → X_3 x = false)) → (X_h0 (X_h3 y)).1 = false → X_ty E x = 130 ∧ x.1 = false ∧ X_t (X_h0 (X_h3 y)) = X_t x + 1 ∧ X_z (X_h0 (X_h3 y)) = X_z x ∧ X_l (X_h0 (X_h3 y)) = X_l x ∧ X_i (X_h0 (X_h3 y)) 0 = X_i x 0 ∧ X_i (X_h0 (X_h3 y)) 1 = X_i x 1 ∧ (∀ w, X_v (X_h0 (X_h3 y)) w = X_v x w ∨ X_v (X_h0 (X_h3 y)) w = X_i x 1) ∧ (X_2 (X_h0 (X_h3 y)) = false → X_2 x = false) ∧ (X_3 (X_h0 (X_h3 y)) = false → X_3 x = false ∧ X_i x 1 < 16) := by
      intro y hy hb
      obtain ⟨e1, e2, e3, e4, e5, e6, e7, e8⟩ := hy
      unfold X_h3 at hb ⊢
      rw [e5] at hb ⊢
      by_cases q : X_i x 1 < 16
      · rw [if_pos q] at hb ⊢
        exact ⟨z, e1.symm.trans hb, e2, e3, e4, congrFun e5 0, congrFun e5 1, e6, e7, fun r => ⟨e8 r, q⟩⟩
      · rw [if_neg q] at hb ⊢
        exact ⟨z, e1.symm.trans hb, e2, e3, e4, congrFun e5 0, congrFun e5 1, e6, e7, fun r => absurd r (by show ¬ true = false; decide)⟩
    refine key _ ?_ h
    unfold X_hv
    split
    · refine ⟨rfl, rfl, rfl, rfl, rfl, fun w => ?_, fun q => q, fun q => q⟩
      show fu (X_v x) (E_w E (X_t x)) (X_i x 1) w = X_v x w ∨ fu (X_v x) (E_w E (X_t x)) (X_i x 1) w = X_i x 1
      unfold fu
      split
      · exact Or.inr rfl
      · exact Or.inl rfl
    · exact ⟨rfl, rfl, rfl, rfl, rfl, fun w => Or.inl rfl, fun q => absurd q (by show ¬ true = false; decide), fun q => q⟩
  · rw [if_neg z] at h
    exact absurd h (by show ¬ true = false; decide)
theorem j_hearing (hE : E_ok E) (hn : E_no E) (hb : x.1 = false) (hI : t_I E x) : ∃ x', (∀ (s : f_S3) (O : Nat × Nat) (Q : f_S3 → Nat × Nat → Prop), rcg E ([], 0, false, false) s x → (∀ s', rcw E s' x' → Q s' O) → wF_X7_hearing (E_N E) (cb (E_N E) 22) s O Q) ∧ (∀ (n b : Nat) (M : Nat → Int32) (F : Nat → Nat → Int32) (K0 K0' Q Q' : (Nat → Int32) → (Nat → Nat → Int32) → Prop), rxo E b M F x → (∀ M' F', rxx E (b, false) M' F' x' → K0 M' F' → K0' M' F') → (∀ M' F', zb M' → x'.1 = true → Q M' F' → Q' M' F') → tbb (wf_blk n) K0 Q M F → tbb (wf_blk n) K0' Q' M F) ∧ t_I E x' ∧ (x'.1 = false → X_t x + 1 ≤ X_t x') := by
  obtain ⟨hx, hh, hT⟩ := hI
  obtain ⟨t0, tv, t16, th, tl⟩ := hT hb
  have l0 : (0 : Int32).toInt = 0 := by decide
  have l1 : (1 : Int32).toInt = 1 := by decide
  have m1 := xm_tk hE (xg_t hx) (c := 200) (by decide)
  -- the name
  have g2 : xg E 0 (X_nh E (X_tk E 200 x)) := fun q => by
    obtain ⟨a1, a2, a3, a4, a5, a6, -⟩ := X_nh_i q
    obtain ⟨b1, ⟨b2, b3⟩, b4, b5, ⟨b6, -⟩, -⟩ := m1 a2
    obtain ⟨c1, c2, c3⟩ := hx b1
    have ht := xq_lt hE (fun _ => b3) a1 (by decide) a2
    have hp : E_p E (X_t (X_tk E 200 x)) ≤ E_p E (X_t (X_tk E 200 x) + 1) := E_p_mono hE (Nat.le_succ (X_t (X_tk E 200 x))) ht
    rw [a3, a4, a6, b6, Int32.add_zero]
    exact ⟨ht, c2, by omega⟩
  have h2 : hl E (X_nh E (X_tk E 200 x)) := fun q => by
    obtain ⟨a1, a2, a3, a4, a5, a6, -⟩ := X_nh_i q
    obtain ⟨b1, ⟨b2, b3⟩, b4, b5, -⟩ := m1 a2
    have ht := xq_lt hE (fun _ => b3) a1 (by decide) a2
    have := hh b1
    have hp := E_p_mono hE (show X_t x ≤ X_t (X_tk E 200 x) + 1 by omega) ht
    rw [a3, a5, b5]; omega
  have i2 : (X_nh E (X_tk E 200 x)).1 = false → X_i (X_nh E (X_tk E 200 x)) 0 = 0 ∧ X_i (X_nh E (X_tk E 200 x)) 1 = X_i x 1 ∧ X_t x + 2 ≤ X_t (X_nh E (X_tk E 200 x)) := fun q => by
    obtain ⟨a1, a2, a3, a4, a5, a6, a7, -⟩ := X_nh_i q
    obtain ⟨b1, ⟨b2, b3⟩, b4, b5, ⟨b6, b7, b8⟩, -⟩ := m1 a2
    refine ⟨by rw [a6, b6, t0]; decide, by rw [a7, b7], by rw [a3]; omega⟩
  have g2' : xg E 10 (X_nh E (X_tk E 200 x)) := xg_w g2 (by decide)
  have mo := xm_op hE (xg_t g2) (c := 40) (by decide)
  have g3 := X_op_g hE (c := 40) g2' (by decide)
  have g3' : xg E 0 (X_op E 40 (X_nh E (X_tk E 200 x))) := xg_o g2 mo (fun q => (X_op_i q).2.2.1) (by decide)
  obtain ⟨x4, c', pa, pb, pm⟩ := j_params hE g3
  have o4 : x4.1 = false → 1 ≤ (X_i x4 0).toInt ∧ (X_i x4 0).toInt ≤ 20 := fun q => by
    obtain ⟨a1, a2⟩ := xs_i0 pm q
    have := X_op_1 (y := X_op E 40 (X_nh E (X_tk E 200 x))) g2' g3 (xm_rf (xg_t g3)) a1
    rw [a2]; exact this
  have m5 := xm_cl hE (xs_t pm) (c := 41) (by decide)
  have s35 := xs_tr (xs_tr (xm_xs hE mo) pm) (xm_xs hE m5)
  have s25 := xs_w s35 (a' := 2) (d' := -4) (e' := 0) (by decide) (by decide) (by decide)
  have g5 := xg_s g2 s25 (c' := 0) (by decide)
  have h5 := hl_s h2 s25
  -- the class's way to the block
  have cw : ∀ (s : f_S3) (O : Nat × Nat) (Q : f_S3 → Nat × Nat → Prop), rcg E ([], 0, false, false) s x → (∀ (z r : Int32) (s6 : f_S3), (x4.1 = false → r = c') → rc E ([], 0, false, false) s6 (X_cl E 41 x4) → (cb (E_N E) 22 0 s6 O (fun M7 O7 => (wF_X7_emit_ (E_N E) 7 0 M7 O7 (fun M8 O8 => (wF_X7_emit (E_N E) 3 M8 O8 (fun M9 O9 => (wF_X6_addHearing (E_N E) z r M9 O9 (fun M10 O10 => (Q M10 O10)))))))))) → wF_X7_hearing (E_N E) (cb (E_N E) 22) s O Q := by
    intro s O Q gs hk
    have hpl : ¬ s.1 14 = -1 := by rw [gs.1.2.1.2.2.2]; exact E_Pn hE gs.1.2.2
    refine c_take hE (rc_g gs hb) (by decide) (by decide) (fun s1 h1 => c_nameHearing hE (fun _ => hpl) h1 (fun s2 h2' => c_open hE h2' (xg_oo g2) (by decide) (by decide) (fun q => (i2 q).1.symm) (fun s3 h3 => pa _ s3 O _ h3 (fun r s4 hr h4 => c_take hE h4 (by decide) (by decide) (fun s5 h5' => ?_)))))
    exact hk _ r s5 hr (rc_o h5')
  -- the reference's way to the block
  have rw5 : ∀ (n b : Nat) (M : Nat → Int32) (F : Nat → Nat → Int32) (K0 K0' Q Q' : (Nat → Int32) → (Nat → Nat → Int32) → Prop), rxo E b M F x → (∀ M' F', zb M' → (X_nh E (X_tk E 200 x)).1 = true → Q M' F' → Q' M' F') → (∀ (r : Int32) (M5 : Nat → Int32) (F5 : Nat → Nat → Int32), (x4.1 = false → r = c') → rxx E (b, false) M5 F5 (X_cl E 41 x4) → (w_bad M5 F5 (fun r5 M6 F6 => ((r5 = 0 → (vp_in (400 * nI b + X_i x 1) 800 ∧ (w_here M6 (uf F6 19 (400 * nI b + X_i x 1) r) (fun r8 M9 F9 => (vp_in (400 * nI b + X_i x 1) 800 ∧ (wf_blk n M9 (uf F9 18 (400 * nI b + X_i x 1) r8) (fun M11 F11 => (w_put 1 0 0 0 M11 F11 (fun _ M13 F13 => (w_put 19 0 0 0 M13 F13 (fun _ M15 F15 => (K0 (um M15 30 ((M15 30) + 1)) F15)))))))))))) ∧ (¬ r5 = 0 → (K0 (um M6 30 ((M6 30) + 1)) F6))))) → (w_bad M5 F5 (fun r5 M6 F6 => ((r5 = 0 → (vp_in (400 * nI b + X_i x 1) 800 ∧ (w_here M6 (uf F6 19 (400 * nI b + X_i x 1) r) (fun r8 M9 F9 => (vp_in (400 * nI b + X_i x 1) 800 ∧ (wf_blk n M9 (uf F9 18 (400 * nI b + X_i x 1) r8) (fun M11 F11 => (w_put 1 0 0 0 M11 F11 (fun _ M13 F13 => (w_put 19 0 0 0 M13 F13 (fun _ M15 F15 => (K0' (um M15 30 ((M15 30) + 1)) F15)))))))))))) ∧ (¬ r5 = 0 → (K0' (um M6 30 ((M6 30) + 1)) F6)))))) → tbb (wf_blk n) K0 Q M F → tbb (wf_blk n) K0' Q' M F := by
    intro n b M F K0 K0' Q Q' hr hQ hk wt
    refine re_nho hE hr hQ (fun M1 F1 r1 e27 e30 w1 => ?_) wt
    have w1 : w_hearing (wf_blk n) M1 F1 (fun M10 F10 => (K0 (um M10 30 ((M10 30) + 1)) F10)) := w1
    show w_hearing (wf_blk n) M1 F1 (fun M10 F10 => (K0' (um M10 30 ((M10 30) + 1)) F10))
    unfold w_hearing at w1 ⊢
    rw [e27, e30] at w1 ⊢
    refine re_opens hE (c := 40) rfl (b, false) _ F1 _ _ r1 w1 (fun M2 F2 r2 w2 => ?_)
    refine pb (wf_blk n) _ (b, false) M2 F2 _ _ r2 (fun r M3 F3 hr3 r3 w3 => ?_) w2
    exact re_closes hE (c := 41) rfl o4 (b, false) M3 F3 _ _ r3 w3 (fun M4 F4 r4 w4 => hk r M4 F4 hr3 r4 w4)
  cases hb5 : (X_cl E 41 x4).1 with
  | true =>
    refine ⟨X_bd x, fun s O Q gs hQ => cw s O Q gs (fun z r s6 hr h6 => ?_), fun n b M F K0 K0' Q Q' hr hK hQ wt => ?_, ⟨fun q => absurd q (by show ¬ true = false; decide), fun q => absurd q (by show ¬ true = false; decide), fun q => absurd q (by show ¬ true = false; decide)⟩, fun q => absurd q (by show ¬ true = false; decide)⟩
    · have hN := hE.2.2.2.1
      show wF_X7_block (E_N E) (cff (E_N E) 22) (cb (E_N E) 21) 0 s6 O _
      refine bd_block (h6.1 hb5) (fun s7 h7 => bd_emit2 hN h7 (fun s8 h8 => bd_emit hN h8 (fun s9 h9 => bw_add ⟨hE.2.2.2.2.2.2.2.2.1, hE.2.2.2.2.2.2.2.2.2⟩ h9 (fun s10 h10 => hQ s10 ⟨fun _ => h10, fun q => absurd q (by show ¬ true = false; decide)⟩))))
    · refine rw5 n b M F K0 K0' Q Q' hr (fun M' F' z _ w => hQ M' F' z rfl w) (fun r M5 F5 hr5 r5 w5 => ?_) wt
      exact re_b0 r5 (fun _ w => hK _ _ (rx_zb (zb_um (r5.1 hb5) (by decide)) rfl) w) (fun q => absurd (hb5.symm.trans q) (by decide)) w5
  | false =>
    have q4 : x4.1 = false := (m5 hb5).1
    have q25 := s25 hb5
    have q2 := q25.1
    obtain ⟨j1, j2, j3⟩ := i2 q2
    have e51 : X_i (X_cl E 41 x4) 1 = X_i x 1 := by rw [q25.2.2.2.2.1.2, j2]
    have e50 : X_i (X_cl E 41 x4) 0 = 0 := by rw [q25.2.2.2.2.1.1, j1]; decide
    obtain ⟨x5, ba, bb, bm⟩ := j_block hE hn (E_m E + 1) (X_sr c' (X_cl E 41 x4)) (show xg E 6 (X_sr c' (X_cl E 41 x4)) from xg_w g5 (by decide)) h5 (fun _ => by omega)
    have mp1 := xm_pt (xs_t bm) 2
    have mp := xm_t0 mp1 (xm_pt (xm_t mp1) 1)
    have s56 := xs_w (xs_t0 bm (xm_xs hE mp)) (a' := 2) (d' := -1) (by decide) (by decide) rfl
    have g6 : xg E 0 (X_pt 1 (X_pt 2 x5)) := xg_s (x := X_sr c' (X_cl E 41 x4)) g5 s56 (by decide)
    have h6 : hl E (X_pt 1 (X_pt 2 x5)) := hl_s (x := X_sr c' (X_cl E 41 x4)) h5 s56
    have f6 : (X_pt 1 (X_pt 2 x5)).1 = false → X_i (X_pt 1 (X_pt 2 x5)) 0 = 0 ∧ X_i (X_pt 1 (X_pt 2 x5)) 1 = X_i x 1 ∧ X_t x + 2 ≤ X_t (X_pt 1 (X_pt 2 x5)) ∧ X_v (X_pt 1 (X_pt 2 x5)) = X_v (X_nh E (X_tk E 200 x)) ∧ X_r (X_pt 1 (X_pt 2 x5)) (X_i x 1).toNatClampNeg = c' ∧ (X_2 (X_pt 1 (X_pt 2 x5)) = false → X_2 (X_nh E (X_tk E 200 x)) = false) ∧ (X_3 (X_pt 1 (X_pt 2 x5)) = false → X_3 (X_nh E (X_tk E 200 x)) = false) ∧ X_t (X_pt 1 (X_pt 2 x5)) ≤ E_m E ∧ (∀ p, p ∈ X_l (X_pt 1 (X_pt 2 x5)) → p.1 < E_L E) := fun q => by
      obtain ⟨a1, ⟨a2, a3⟩, -, -, ⟨a4, a5⟩, a6, a7, a8, a9, a10⟩ := s56 q
      obtain ⟨-, ⟨b2, -⟩, -, -, -, b6, b7, b8, b9, b10⟩ := q25
      refine ⟨?_, a5.trans e51, ?_, a6.trans b6, ?_, fun z => b8 (a8 z), fun z => b9 (a9 z), a3, fun p hp => ?_⟩
      · have a4 : X_i (X_pt 1 (X_pt 2 x5)) 0 = X_i (X_cl E 41 x4) 0 + 0 := a4
        rw [a4, e50]; decide
      · have a2 : X_t (X_cl E 41 x4) + 2 ≤ X_t (X_pt 1 (X_pt 2 x5)) := a2
        omega
      · rw [a7]
        show fu (X_r (X_cl E 41 x4)) (X_i (X_cl E 41 x4) 1).toNatClampNeg c' (X_i x 1).toNatClampNeg = c'
        unfold fu
        rw [e51, if_pos rfl]
      · rcases a10 p hp with h | h
        · rcases b10 p h with h | h
          · have nh := X_nh_i q2
            rw [nh.2.2.2.2.1, (m1 nh.2.1).2.2.2.1] at h
            exact tl p h
          · exact h
        · exact h
    have hn4 := E_n4 hE
    have e1 : (X_i x 1 + 1).toInt = (X_i x 1).toInt + 1 := by
      have := xg_t hx hb
      rw [ti_addx _ _ (by rw [l1]; omega), l1]
    refine ⟨X_nx (X_pt 1 (X_pt 2 x5)), fun s O Q gs hQ => cw s O Q gs (fun z r s6 hr h6' => ?_), fun n b M F K0 K0' Q Q' hr hK hQ wt => ?_, ⟨fun q => ?_, fun q => h6 q, fun q => ?_⟩, fun q => ?_⟩
    · refine ba 22 0 ⟨by decide, fun q => ?_⟩ [] s6 O _ (rc_sr h6') (fun s7 h7 => c_emit2 hE h7 (xg_lo (n := 14) (xg_s (x := X_sr c' (X_cl E 41 x4)) g5 bm (c' := 14) (by decide)) (by decide)) (by decide) (fun s8 h8 => c_emit (c := 15) hE h8 (fun q => ?_) (by decide) (fun s9 h9 => ?_)))
      · rw [show X_i (X_sr c' (X_cl E 41 x4)) 0 = 0 from e50, l0]
        exact ⟨by omega, rfl⟩
      · exact xg_lo (n := 15) (xg_m (xg_s (x := X_sr c' (X_cl E 41 x4)) g5 bm (c' := 0) (by decide)) mp1 (c' := 15) (by decide)) (by decide) q
      · cases hb6 : (X_pt 1 (X_pt 2 x5)).1 with
        | true => exact bw_add ⟨hE.2.2.2.2.2.2.2.2.1, hE.2.2.2.2.2.2.2.2.2⟩ (h9.1 hb6) (fun s10 h10 => hQ s10 ⟨fun _ => h10, fun q => absurd (hb6.symm.trans q) (by decide)⟩)
        | false =>
          obtain ⟨f1, f2, f3, f4, f5, -⟩ := f6 hb6
          refine c_add hE (h9.2 hb6) ?_ ?_ (fun s10 h10 => hQ s10 ⟨fun q => absurd (hb6.symm.trans q) (by decide), fun _ => h10⟩)
          · rw [f2]; omega
          · rw [f2, f5]; exact hr q4
    · refine rw5 n b M F K0 K0' Q Q' hr (fun M' F' z q _ => absurd (q.symm.trans q2) (by decide)) (fun r M5 F5 hr5 r5 w5 => ?_) wt
      have er := hr5 q4
      subst er
      refine re_b0 r5 (fun q => absurd (q.symm.trans hb5) (by decide)) (fun _ w => ?_) w5
      obtain ⟨v1, v2⟩ := w
      have v2' : vp_in (400 * nI b + X_i x 1) 800 ∧ wf_blk n M5 _ _ := v2
      have gsr := re_sr (c := r) hE (r5.2 hb5) (a := 400 * nI b + X_i x 1) (by rw [e51])
      refine ⟨v1, v2'.1, bb n (b, true) M5 _ _ _ (rx_uf (by decide) (rx_g gsr hb5)) v2'.2 (fun M6 F6 r6 w6 => re_put (b, true) M6 F6 _ _ r6 w6 (fun _ M7 F7 r7 w7 => re_put (b, true) M7 F7 _ _ r7 w7 (fun _ M8 F8 r8 w8 => hK _ _ ?_ w8)))⟩
      cases hb6 : (X_pt 1 (X_pt 2 x5)).1 with
      | true => exact rx_zb (zb_um (r8.1 hb6) (by decide)) hb6
      | false =>
        obtain ⟨f1, f2, f3, -⟩ := f6 hb6
        exact rx_g (re_nx (x := X_pt 1 (X_pt 2 x5)) hE (r8.2 hb6) (by rw [f2]; omega)) hb6
    · have q : (X_pt 1 (X_pt 2 x5)).1 = false := q
      exact g6 q
    · have q : (X_pt 1 (X_pt 2 x5)).1 = false := q
      obtain ⟨f1, f2, f3, f4, f5, f6', f7, f8, f9⟩ := f6 q
      obtain ⟨a1, a2, a3, a4, a5, a6, a7, a8, a9, a10⟩ := X_nh_i q2
      obtain ⟨b1, -, -, -, ⟨-, b7, -⟩, ⟨b9, -⟩, b11, b12, -⟩ := m1 a2
      have e1' : (X_i (X_nx (X_pt 1 (X_pt 2 x5))) 1).toInt = (X_i x 1).toInt + 1 := by
        show (X_i (X_pt 1 (X_pt 2 x5)) 1 + 1).toInt = _
        rw [f2, e1]
      refine ⟨f1, fun w => ?_, fun p2 p3 => ?_, ⟨?_, ?_⟩, fun p hp => f9 p hp⟩
      · show X_v (X_pt 1 (X_pt 2 x5)) w = -1 ∨ (0 ≤ (X_v (X_pt 1 (X_pt 2 x5)) w).toInt ∧ (X_v (X_pt 1 (X_pt 2 x5)) w).toInt < (X_i (X_nx (X_pt 1 (X_pt 2 x5))) 1).toInt)
        rw [f4, e1']
        rcases a8 w with y | y
        · rw [y, b9]
          rcases tv w with y' | y'
          · exact Or.inl y'
          · exact Or.inr ⟨y'.1, by omega⟩
        · rw [y, b7]; exact Or.inr ⟨th.1, by omega⟩
      · rw [e1']
        have p3' := (a10 (f7 p3)).2
        rw [b7, Int32.lt_iff_toInt_lt, show (16 : Int32).toInt = 16 by decide] at p3'
        omega
      · rw [e1']; omega
      · rw [e1']
        show (X_i x 1).toInt + 1 ≤ ((X_t (X_pt 1 (X_pt 2 x5)) : Nat) : Int)
        omega
    · have q : (X_pt 1 (X_pt 2 x5)).1 = false := q
      obtain ⟨f1, f2, f3, -⟩ := f6 q
      show X_t x + 1 ≤ X_t (X_pt 1 (X_pt 2 x5))
      omega
theorem txt_L (hE : E_ok E) (hn : E_no E) : ∀ (i : Nat) (x : x_X), t_I E x → jt E i x → ∃ x', (∀ (a : Int32) (e : Nat) (s : f_S3) (O : Nat × Nat) (Q : f_S3 → Nat × Nat → Prop), ja a x → i < e → rcw E s x → (∀ s', rcw E s' x' → wF_X7_readText_50 (E_N E) (cb (E_N E) 22) Q s' O) → wF_X7_readText_13 (E_N E) (cb (E_N E) 22) Q e a s O) ∧ (∀ (n b e : Nat) (M : Nat → Int32) (F : Nat → Nat → Int32) (Q Q' : (Nat → Int32) → (Nat → Nat → Int32) → Prop), rxo E b M F x → (∀ M' F', rxo E b M' F' x' → Q M' F' → Q' M' F') → w_text_0 (wf_blk n) Q e M F → w_text_0 (wf_blk n) Q' e M F) ∧ t_I E x' ∧ (x'.1 = false → X_ty E x' = 135) := by
  have ex : ∀ (i : Nat) (x : x_X), t_I E x → (X_ty E x = 135 ∨ x.1 = true) → ∃ x', (∀ (a : Int32) (e : Nat) (s : f_S3) (O : Nat × Nat) (Q : f_S3 → Nat × Nat → Prop), i < e → rcw E s x → (∀ s', rcw E s' x' → wF_X7_readText_50 (E_N E) (cb (E_N E) 22) Q s' O) → wF_X7_readText_13 (E_N E) (cb (E_N E) 22) Q e a s O) ∧ (∀ (n b e : Nat) (M : Nat → Int32) (F : Nat → Nat → Int32) (Q Q' : (Nat → Int32) → (Nat → Nat → Int32) → Prop), rxo E b M F x → (∀ M' F', rxo E b M' F' x' → Q M' F' → Q' M' F') → w_text_0 (wf_blk n) Q e M F → w_text_0 (wf_blk n) Q' e M F) ∧ t_I E x' ∧ (x'.1 = false → X_ty E x' = 135) := by
    intro i x hI hz
    have hz' : X_ty E x = 135 ∨ X_ty E x = 137 := hz.imp id (fun q => X_tyb q)
    refine ⟨x, fun a e s O Q he hs hQ => ?_, fun n b e M F Q Q' hr hQ w => ?_, hI, fun q => hz.elim id (fun y => absurd (y.symm.trans q) (by decide))⟩
    · obtain ⟨e, rfl⟩ : ∃ e', e = e' + 1 := ⟨e - 1, by omega⟩
      have go := hQ s hs
      have e0 := rcw_ty hs
      exact ⟨fun _ => go, fun _ => ⟨fun _ => go, fun q1 => ⟨fun _ => go, fun q2 => by
        rw [e0] at q1 q2
        exact absurd hz' (fun q => q.elim q1 q2)⟩⟩⟩
    · cases e with
      | zero => exact absurd w (fun q => q)
      | succ e =>
        dsimp only [w_text_0] at w ⊢
        obtain ⟨a0, c0, hy⟩ := id hr
        refine re_b1 hy (fun _ w => hQ M F hr w) (fun hb w => ?_) w
        have hb : x.1 = false := hb
        have z : X_ty E x = 135 := hz.elim id (fun q => absurd (q.symm.trans hb) (by decide))
        have hmm := (q_one (rx_tk hE hy hb) (x := 135) (y := 0) (Or.inr (Or.inr (Or.inr (Or.inl ⟨rfl, rfl⟩))))).mp ((X_tyg hb).symm.trans z)
        exact ⟨fun q => hQ M F hr (w.1 q), fun q => absurd hmm q⟩
  intro i
  induction i with
  | zero =>
    intro x hI ht
    have hb : x.1 = true := by
      cases q : x.1 with
      | true => rfl
      | false => have := ht q; have := xg_t hI.1 q; omega
    obtain ⟨x', a, b, c⟩ := ex 0 x hI (Or.inr hb)
    exact ⟨x', fun a' e s O Q _ he => a a' e s O Q he, b, c⟩
  | succ i ih =>
    intro x hI ht
    by_cases hz : X_ty E x = 135 ∨ x.1 = true
    · obtain ⟨x', a, b, c⟩ := ex (i + 1) x hI hz
      exact ⟨x', fun a' e s O Q _ he => a a' e s O Q he, b, c⟩
    · have hb : x.1 = false := by
        cases q : x.1 with
        | true => exact absurd (Or.inr q) hz
        | false => rfl
      have n135 : ¬ X_ty E x = 135 := fun q => hz (Or.inl q)
      have n137 : ¬ X_ty E x = 137 := fun q => E_ty hE (xg_t hI.1 hb) ((X_tyg hb).symm.trans q)
      have n0 : ∀ (a0 c0 : Int32) (k : x_B) (M : Nat → Int32) (F : Nat → Nat → Int32), rxx E k M F (X_si 3 c0 (X_si 2 a0 x)) → ¬ M 4 = 0 := fun a0 c0 k M F hy q => n135 ((X_tyg hb).trans ((q_one (rx_tk hE hy hb) (x := 135) (y := 0) (Or.inr (Or.inr (Or.inr (Or.inl ⟨rfl, rfl⟩))))).mpr q))
      obtain ⟨xh, ha, hr', hI', hT⟩ := j_hearing hE hn hb hI
      have cw : ∀ (a : Int32) (e : Nat) (s : f_S3) (O : Nat × Nat) (Q : f_S3 → Nat × Nat → Prop), ja a x → rcw E s x → (∀ s', rcw E s' xh → wF_X7_readText_13 (E_N E) (cb (E_N E) 22) Q e (a + 1) s' O) → wF_X7_readText_13 (E_N E) (cb (E_N E) 22) Q (e + 1) a s O := fun a e s O Q hja hs hk => by
        have e0 := rcw_ty hs
        exact ⟨fun q => absurd q (ja_4 hE hja hb (xg_t hI.1 hb)), fun _ => ⟨fun q => absurd (e0.symm.trans q) n135, fun _ => ⟨fun q => absurd (e0.symm.trans q) n137, fun _ => ha s O _ (hs.2 hb) (fun s' h' => hk s' h')⟩⟩⟩
      cases hbh : xh.1 with
      | true =>
        obtain ⟨x', a, b, c⟩ := ex 0 xh hI' (Or.inr hbh)
        refine ⟨xh, fun a' e s O Q hja he hs hQ => ?_, fun n b' e M F Q Q' hr hQ w => ?_, hI', fun q => absurd (hbh.symm.trans q) (by decide)⟩
        · obtain ⟨e, rfl⟩ : ∃ e', e = e' + 1 + 1 := ⟨e - 2, by omega⟩
          refine cw a' (e + 1) s O Q hja hs (fun s' h' => ?_)
          have go := hQ s' h'
          exact ⟨fun _ => go, fun _ => ⟨fun _ => go, fun _ => ⟨fun _ => go, fun q => absurd ((rcw_ty h').trans (X_tyb hbh)) q⟩⟩⟩
        · cases e with
          | zero => exact absurd w (fun q => q)
          | succ e =>
            dsimp only [w_text_0] at w ⊢
            obtain ⟨a0, c0, hy⟩ := id hr
            refine re_b1 hy (fun q => absurd (q.symm.trans hb) (by decide)) (fun _ w => ⟨fun q => absurd q (n0 a0 c0 _ M F hy), fun q => ?_⟩) w
            refine hr' n b' M F (w_text_0 (wf_blk n) Q e) (w_text_0 (wf_blk n) Q' e) Q Q' hr (fun M1 F1 r1 w1 => ?_) (fun M1 F1 z1 _ w1 => hQ M1 F1 (rxo_of (rx_zb z1 hbh)) w1) (w.2 q)
            cases e with
            | zero => exact absurd w1 (fun q => q)
            | succ e =>
              dsimp only [w_text_0] at w1 ⊢
              exact re_b1 r1 (fun _ w => hQ M1 F1 (rxo_of r1) w) (fun q => absurd (hbh.symm.trans q) (by decide)) w1
      | false =>
        obtain ⟨x', ia, ib, im⟩ := ih xh hI' (fun q => by have := hT q; have := ht hb; omega)
        have hja : ∀ a, ja a x → ja (a + 1) xh := fun a h q => by
          have l1 : (1 : Int32).toInt = 1 := by decide
          have h := h hb
          have := hT q
          have := E_n4 hE
          have := xg_t hI.1 hb
          rw [ti_addx _ _ (by rw [l1]; omega), l1]
          omega
        refine ⟨x', fun a' e s O Q hj he hs hQ => ?_, fun n b' e M F Q Q' hr hQ w => ?_, im⟩
        · obtain ⟨e, rfl⟩ : ∃ e', e = e' + 1 := ⟨e - 1, by omega⟩
          exact cw a' e s O Q hj hs (fun s' h' => ia (a' + 1) e s' O Q (hja a' hj) (by omega) h' hQ)
        · cases e with
          | zero => exact absurd w (fun q => q)
          | succ e =>
            dsimp only [w_text_0] at w ⊢
            obtain ⟨a0, c0, hy⟩ := id hr
            refine re_b1 hy (fun q => absurd (q.symm.trans hb) (by decide)) (fun _ w => ⟨fun q => absurd q (n0 a0 c0 _ M F hy), fun q => ?_⟩) w
            exact hr' n b' M F (w_text_0 (wf_blk n) Q e) (w_text_0 (wf_blk n) Q' e) Q Q' hr (fun M1 F1 r1 w1 => ib n b' e M1 F1 Q Q' (rxo_of r1) hQ w1) (fun M1 F1 z1 q1 _ => absurd (q1.symm.trans hbh) (by decide)) (w.2 q)
end XT3
