/-! STATEMENTS: hold. -/
section XS4
variable {E : x_E} {x y : x_X}
/-- behind what a new objection is made of -/
theorem made_t (hE : E_ok E) (hn : E_no E) (hx : xg E 10 x) (ho : x.1 = false → 1 ≤ (X_i x 0).toInt ∧ (X_i x 0).toInt ≤ 20) : ∃ x', (∀ (WF : Int32 → x_CW) (k : x_Kt) (s : f_S3) (O : Nat × Nat) (Q : f_S3 → Nat × Nat → Prop) (a1 a3 a4 : Int32), rc E k s x → (∀ s', rc E k s' x' → Q s' O) → wF_X7_newObjection_61 (E_N E) WF Q a1 a3 a4 s O) ∧ (∀ (WF : x_RW) (a1 a2 a3 : Int32), rr E (fun M F Q => w_made_59 WF Q a1 a2 a3 M F) x x') ∧ xm E 1 3 (-1) x x' := by
  have m1 := xm_cl hE (xg_t hx) (c := 41) (by decide)
  have g1 : xg E 8 (X_cl E 41 x) := fun q => by
    have l1 : (1 : Int32).toInt = 1 := by decide
    obtain ⟨c1, ⟨c2, c3⟩, c4, c5, ⟨c6, c7, c8⟩, -⟩ := m1 q
    obtain ⟨d1, d2, d3⟩ := hx c1
    have o := ho c1
    refine ⟨c3, ?_, by omega⟩
    rw [c6, show (-1 : Int32) = - 1 from rfl, ← Int32.sub_eq_add_neg, ti_subx _ _ (by rw [l1]; omega), l1]
    omega
  have key : ∀ y, xm E 0 0 0 (X_cl E 41 x) y → (∀ (k : x_Kt) (s : f_S3) (O : Nat × Nat) (Q : f_S3 → Nat × Nat → Prop) (a1 a3 a4 a5 : Int32), rc E k s y → (∀ s', rc E k s' (X_pt 1 (X_pt 1 (X_pt 3 y))) → Q s' O) → ∀ WF : Int32 → x_CW, wF_X7_newObjection_91 (E_N E) WF Q a1 a3 a4 a5 s O) ∧ (∀ (WF : x_RW) (a1 a2 a3 a5 : Int32), rr E (fun M F Q => w_made_105 WF Q a1 a2 a3 a5 M F) y (X_pt 1 (X_pt 1 (X_pt 3 y)))) ∧ xm E 1 3 (-1) x (X_pt 1 (X_pt 1 (X_pt 3 y))) := by
    intro y my
    have g2 := xg_m g1 my (c' := 8) (by decide)
    have m2 := xm_pt (xg_t g2) 3
    have m3 := xm_t0 m2 (xm_pt (xm_t m2) 1)
    have m4 := xm_t0 m3 (xm_pt (xm_t m3) 1)
    refine ⟨fun k s O Q a1 a3 a4 a5 hs hQ WF => ?_, fun WF a1 a2 a3 a5 k M F Q Q' hr w hQ => ?_, xm_w (xm_tr m1 (xm_t0 my m4)) (by decide) (by decide) (by decide)⟩
    · exact c_emit3 hE hs (xg_lo (n := 13) g2 (by decide)) (by decide) (fun s1 h1 => c_put hE h1 (xg_lo (n := 15) (xg_m g2 m2 (c' := 15) (by decide)) (by decide)) (by decide) (fun _ s2 _ h2 => c_put hE h2 (xg_lo (n := 15) (xg_m g2 m3 (c' := 15) (by decide)) (by decide)) (by decide) (fun _ s3 _ h3 => hQ s3 h3)))
    · exact re_put k M F _ _ hr w (fun r M1 F1 r1 w1 => ⟨w1.1, hQ _ _ (rx_uf (by decide) (rx_pt (rx_pt (rx_pt r1)))) w1.2⟩)
  by_cases z : X_ty E (X_cl E 41 x) = 205
  · have hlt := xq_lt hE (xg_t g1) z (by decide)
    have n1 := xm_ad hE hlt
    have n2 := xm_t0 n1 (xm_on hE hn (xm_t n1))
    obtain ⟨a, b, m⟩ := key _ (xm_w n2 (by decide) (by decide) rfl)
    refine ⟨_, fun WF k s O Q a1 a3 a4 hs hQ => ?_, fun WF a1 a2 a3 k M F Q Q' hr w hQ => ?_, m⟩
    · refine c_take hE hs (by decide) (by decide) (fun s1 h1 => ?_)
      have h1 : rc E k s1 (X_cl E 41 x) := rc_o h1
      exact ⟨fun q => absurd ((c_ty h1).trans z) q, fun _ => c_adv hE h1 hlt (fun s2 h2 => c_objectOrNone hE h2 (fun r s3 h3 => a k s3 O Q a1 a3 a4 r h3 hQ WF))⟩
    · refine re_closes hE (c := 41) rfl ho k M F _ _ hr w (fun M1 F1 r1 w1 => ?_)
      refine re_w0 hE r1 5 (by decide) (c := 5) (d := 205) (by decide) (by decide) (fun _ w => ?_) (fun q => absurd z q) w1
      refine re_pass hE hlt k M1 F1 _ _ r1 w (fun M2 F2 r2 w2 => ?_)
      exact re_on hE (K := fun r M F => w_made_105 WF Q a1 a2 a3 r M F) (K' := fun r M F => w_made_105 WF Q' a1 a2 a3 r M F) r2 (fun r M3 F3 r3 w3 => b WF a1 a2 a3 r k M3 F3 Q Q' r3 w3 hQ) w2
  · obtain ⟨a, b, m⟩ := key _ (xm_rf (xg_t g1))
    refine ⟨_, fun WF k s O Q a1 a3 a4 hs hQ => ?_, fun WF a1 a2 a3 k M F Q Q' hr w hQ => ?_, m⟩
    · refine c_take hE hs (by decide) (by decide) (fun s1 h1 => ?_)
      have h1 : rc E k s1 (X_cl E 41 x) := rc_o h1
      exact ⟨fun _ => a k s1 O Q a1 a3 a4 _ h1 hQ WF, fun q => absurd ((c_ty h1).symm.trans q) z⟩
    · refine re_closes hE (c := 41) rfl ho k M F _ _ hr w (fun M1 F1 r1 w1 => ?_)
      exact re_w0 hE r1 5 (by decide) (c := 5) (d := 205) (by decide) (by decide) (fun q => absurd q z) (fun _ w => b WF a1 a2 a3 _ k M1 F1 Q Q' r1 w hQ) w1
/-- a new objection: from its kind -/
theorem j_made (hE : E_ok E) (hn : E_no E) (hx : xg E 4 x) (zk : X_ik (X_ty E x)) : ∃ x', (∀ (n : Nat) (p : Int32), jb n p x → ∀ (k : x_Kt) (s : f_S3) (O : Nat × Nat) (Q : f_S3 → Nat × Nat → Prop) (a : Int32), rc E k s x → (∀ s', rc E k s' x' → Q s' O) → wF_X7_newObjection (E_N E) (cff (E_N E) 22) a p s O Q) ∧ (∀ a : Int32, rr E (w_made (wf_fac 22) a) x x') ∧ xm E 1 3 0 x x' := by
  have hb : x.1 = false := by
    cases q : x.1 with
    | true => rw [X_tyb q] at zk; exact absurd zk (by decide)
    | false => rfl
  have n135 : ¬ X_ty E x = 135 := fun q => by rw [q] at zk; exact absurd zk (by decide)
  have hlt : x.1 = false → X_t x < E_m E := fun b => E_lt hE (xg_t hx b) rfl (fun q => n135 ((X_tyg b).trans q))
  have ekd : X_kd E x = X_ad x := by unfold X_kd; rw [if_pos zk]
  have m1 := xm_ad hE hlt
  have g1 : xg E 10 (X_ad x) := xg_m hx m1 (by decide)
  have m2 := xm_op hE (xg_t g1) (c := 40) (by decide)
  have g2 := X_op_g hE (c := 40) g1 (by decide)
  have g2' : xg E 0 (X_op E 40 (X_ad x)) := xg_o (xg_m hx m1 (c' := 2) (by decide)) m2 (fun q => (X_op_i q).2.2.1) (by decide)
  obtain ⟨x3, a, b, me⟩ := j_E hE hn g2
  have jpp : ∀ (n : Nat) (p : Int32), jb n p x → jp 22 (p + 1) (X_op E 40 (X_ad x)) := fun n p hp => by
    have o := xg_oo hx hb
    exact X_op_p g1 (by decide) ((hp.2 hb).2) (show 21 ≤ (X_i x 0).toInt + 22 by omega)
  have m28 : ∀ (k : x_B) (M : Nat → Int32) (F : Nat → Nat → Int32), rxx E k M F x → (X_ty E x = 228 ↔ M 5 = 2) := fun k M F hr => by
    have hq := rx_tk hE hr hb
    have h4 : M 4 = 5 := (re_kindI hq).mpr (by rw [← X_tyg (E := E) hb]; exact zk)
    have h := q_kind hq (p := 2) (by decide)
    rw [X_tyg hb]
    exact ⟨fun q => (h.mp (q.trans (by decide))).2.trans (by decide), fun q => (h.mpr ⟨h4, q.trans (by decide)⟩).trans (by decide)⟩
  have c28 : ∀ r : Int32, r = X_ty E x - 226 → (X_ty E x = 228 ↔ r = 2) := fun r e => by
    subst e
    refine ⟨fun q => by rw [q]; decide, fun q => ?_⟩
    have : X_ty E x = (X_ty E x - 226) + 226 := (Int32.sub_add_cancel _ _).symm
    rw [q] at this
    exact this.trans (by decide)
  by_cases zl : X_ty E x = 228 ∧ X_ty E x3 = 44
  · have g3 : xg E 10 x3 := xg_m g2 me (by decide)
    have hlt3 := xq_lt hE (xg_t g3) zl.2 (by decide)
    have m3 := xm_ad hE hlt3
    have m23 := xm_t0 me m3
    obtain ⟨x4, a', b', me'⟩ := j_E hE hn (xg_m g3 m3 (c' := 10) (by decide))
    have m24 := xm_t0 m23 me'
    obtain ⟨x5, a5, b5, m5⟩ := made_t hE hn (xg_m g2 m24 (c' := 10) (by decide)) (X_op_1 g1 g2 m24)
    refine ⟨x5, fun n p hp k s O Q a0 hs hQ => ?_, fun a0 k M F Q Q' hr w hQ => ?_, xm_w (xm_tr m1 (xm_tr m2 (xm_tr m24 m5))) (by decide) (by decide) (by decide)⟩
    · refine c_kind hE hs (fun r s1 hr1 h1 => ?_)
      rw [ekd] at h1
      have r2 := (c28 r (hr1 zk)).mp zl.1
      refine c_open hE h1 (xg_oo g1) (by decide) (by decide) (fun _ => (hp.2 hb).2) (fun s2 h2 => a 22 (p + 1) (jpp n p hp) k s2 O _ h2 (fun s3 h3 => ⟨fun q => absurd ((c_ty h3).trans zl.2) q, fun _ => ⟨fun q => absurd r2 q, fun _ => ?_⟩⟩))
      exact c_adv hE h3 hlt3 (fun s4 h4 => a' 22 (p + 1) (jp_m (jpp n p hp) m23) k s4 O _ h4 (fun s5 h5 => a5 _ k s5 O Q a0 _ r h5 hQ))
    · have e5 := (m28 k M F hr).mp zl.1
      refine re_pass hE hlt k M F _ _ hr w (fun M1 F1 r1 w1 => re_opens hE (c := 40) rfl k M1 F1 _ _ r1 w1 (fun M2 F2 r2 w2 => b 22 k M2 F2 _ _ r2 w2 (fun M3 F3 r3 w3 => ⟨fun q => absurd e5 q, fun q => ?_⟩)))
      refine re_s0 hE r3 (c := 44) rfl (fun _ w => ?_) (fun q => absurd zl.2 q) (w3.2 q)
      exact re_pass hE hlt3 k M3 F3 _ _ r3 w (fun M4 F4 r4 w4 => b' 22 k M4 F4 _ _ r4 w4 (fun M5 F5 r5 w5 => b5 _ a0 _ _ k M5 F5 Q Q' r5 w5 hQ))
  · have m3 := xm_t0 me (xm_pt (xm_t me) 2)
    obtain ⟨x5, a5, b5, m5⟩ := made_t hE hn (xg_m g2' m3 (c' := 10) (by decide)) (X_op_1 g1 g2 m3)
    refine ⟨x5, fun n p hp k s O Q a0 hs hQ => ?_, fun a0 k M F Q Q' hr w hQ => ?_, xm_w (xm_tr m1 (xm_tr m2 (xm_tr m3 m5))) (by decide) (by decide) (by decide)⟩
    · refine c_kind hE hs (fun r s1 hr1 h1 => ?_)
      rw [ekd] at h1
      have r2 := c28 r (hr1 zk)
      refine c_open hE h1 (xg_oo g1) (by decide) (by decide) (fun _ => (hp.2 hb).2) (fun s2 h2 => a 22 (p + 1) (jpp n p hp) k s2 O _ h2 (fun s3 h3 => ?_))
      have go : wF_X7_newObjection_54 (E_N E) (cff (E_N E) 22) Q a0 (s.1 14) r s3 O := c_emit2 hE h3 (xg_lo (n := 14) (xg_m g2' me (c' := 14) (by decide)) (by decide)) (by decide) (fun s4 h4 => a5 _ k s4 O Q a0 _ r h4 hQ)
      exact ⟨fun _ => go, fun q1 => ⟨fun _ => go, fun q2 => absurd ⟨r2.mpr q2, (c_ty h3).symm.trans q1⟩ zl⟩⟩
    · have e5 := m28 k M F hr
      refine re_pass hE hlt k M F _ _ hr w (fun M1 F1 r1 w1 => re_opens hE (c := 40) rfl k M1 F1 _ _ r1 w1 (fun M2 F2 r2 w2 => b 22 k M2 F2 _ _ r2 w2 (fun M3 F3 r3 w3 => ?_)))
      have go : w_made_49 (wf_fac 22) Q a0 (M 5) (M 6) M3 F3 → w_made_49 (wf_fac 22) Q' a0 (M 5) (M 6) M3 F3 := fun w => re_put k M3 F3 _ _ r3 w (fun _ M4 F4 r4 w4 => b5 _ a0 _ _ k M4 F4 Q Q' (rx_pt (j := 2) r4) w4 hQ)
      refine ⟨fun q => go (w3.1 q), fun q => re_s0 hE r3 (c := 44) rfl (fun q4 _ => absurd ⟨e5.mpr q, q4⟩ zl) (fun _ w => go w) (w3.2 q)⟩
theorem st_hold (hE : E_ok E) (hn : E_no E) (hx : xg E 4 x) (z : X_ty E x = 202) : ∃ x', jSx E x x' := by
  have hlt := xq_lt hE (xg_t hx) z (by decide)
  have m0 := xm_pt (xg_t hx) 1
  have m1 := xm_t0 m0 (xm_ad hE (x := X_pt 1 x) hlt)
  have m2 := xm_t0 m1 (xm_ob hE hn (xm_t m1))
  have m3 := xm_t0 m2 (xm_tk hE (xm_t m2) (c := 61) (by decide))
  have g3 := xg_m hx m3 (c' := 4) (by decide)
  by_cases zk : X_ik (X_ty E (X_tk E 61 (X_ob E (X_ad (X_pt 1 x)))))
  · obtain ⟨x4, a, b, me⟩ := j_made hE hn g3 zk
    have m4 := xm_t0 m3 me
    have m5 := xm_t0 m4 (xm_tk hE (xm_t m4) (c := 59) (by decide))
    refine ⟨_, fun n p hp K s O Q hs hQ => ?_, fun n k M F Q Q' hr w hQ => ?_, xm_xs hE (xm_w m5 (by decide) (by decide) rfl)⟩
    · refine st_c hE hx (by decide) (by rw [z]; decide) (by rw [z]; decide) (by rw [z]; decide) hs (fun s1 h1 => st_B202 ((c_ty h1).trans z) ?_)
      refine c_adv hE h1 hlt (fun s2 h2 => c_object hE h2 (fun r s3 h3 => c_take hE h3 (by decide) (by decide) (fun s4 h4 => ?_)))
      refine y_isKind (fun _ => ⟨fun q => absurd q (by decide), fun _ => a n p (jb_i hp (xm_i0 m3)) _ s4 O _ r h4 (fun s5 h5 => c_take hE h5 (by decide) (by decide) (fun s6 h6 => hQ s6 h6))⟩) (fun q => absurd ?_ q)
      rw [c_ty h4]; exact zk
    · refine st_r hE 2 (by decide) (by decide) z hr (fun M1 F1 r1 e5 w1 => st_W2 (e5.trans (by decide)) (fun w => ?_) w1) w
      refine re_pass hE (x := X_pt 1 x) hlt k M1 F1 _ _ (rx_pt r1) w (fun M2 F2 r2 w2 => re_object hE k M2 F2 _ _ r2 w2 (fun r M3 F3 r3 w3 => re_need hE (c := 61) rfl k M3 F3 _ _ r3 w3 (fun M4 F4 r4 w4 => ?_)))
      refine re_w0 hE r4 3 (by decide) (c := 3) (d := 203) (by decide) (by decide) (fun q => ?_) (fun _ w => ?_) w4
      · rw [q] at zk; exact absurd zk (by decide)
      refine re_w0 hE r4 4 (by decide) (c := 4) (d := 204) (by decide) (by decide) (fun q => ?_) (fun _ w => ?_) w
      · rw [q] at zk; exact absurd zk (by decide)
      refine re_b1 r4 (fun q => ?_) (fun hb4 w => ⟨fun q => absurd ?_ q, fun q => b r k M4 F4 _ _ r4 (w.2 q) (fun M5 F5 r5 w5 => re_need hE (c := 59) rfl k M5 F5 _ _ r5 w5 (fun M6 F6 r6 w6 => hQ M6 F6 r6 w6))⟩) w
      · rw [X_tyb q] at zk; exact absurd zk (by decide)
      · exact (re_kindI (rx_tk hE r4 hb4)).mpr (by rw [← X_tyg (E := E) hb4]; exact zk)
  · have g : ∀ x4, xm E 0 0 0 (X_tk E 61 (X_ob E (X_ad (X_pt 1 x)))) x4 → (∀ (k : x_Kt) (s : f_S3) (O : Nat × Nat) (Q : f_S3 → Nat × Nat → Prop) (r : Int32), rc E k s (X_tk E 61 (X_ob E (X_ad (X_pt 1 x)))) → (∀ s', rc E k s' (X_pt 3 x4) → Q s' O) → wF_X7_otherObjection (E_N E) r s O Q) → (∀ (k : x_B) (M : Nat → Int32) (F : Nat → Nat → Int32) (Q Q' : (Nat → Int32) → (Nat → Nat → Int32) → Prop) (r : Int32), rxx E k M F (X_tk E 61 (X_ob E (X_ad (X_pt 1 x)))) → (∀ M' F', rxx E k M' F' x4 → w_hold_104 (wf_fac 22) Q M' F' → w_hold_104 (wf_fac 22) Q' M' F') → (w_isWord 3 M F (fun r5 M6 F6 => ((r5 = 0 → (w_isWord 4 M6 F6 (fun r7 M8 F8 => ((r7 = 0 → (w_bad M8 F8 (fun r9 M10 F10 => ((¬ r9 = 0 → (w_hold_91 (wf_fac 22) Q r M10 F10)) ∧ (r9 = 0 → ((¬ (M10 4) = 5 → (w_hold_91 (wf_fac 22) Q r M10 F10)) ∧ ((M10 4) = 5 → (w_made (wf_fac 22) r M10 F10 (fun M16 F16 => (w_hold_104 (wf_fac 22) Q M16 F16)))))))))) ∧ (¬ r7 = 0 → (w_pass M8 F8 (fun M17 F17 => (w_object M17 F17 (fun r18 M19 F19 => (w_put 12 r r18 0 M19 F19 (fun _ M21 F21 => (w_hold_104 (wf_fac 22) Q M21 F21)))))))))))) ∧ (¬ r5 = 0 → (w_pass M6 F6 (fun M22 F22 => (w_put 11 r 0 0 M22 F22 (fun _ M24 F24 => (w_hold_104 (wf_fac 22) Q M24 F24))))))))) → (w_isWord 3 M F (fun r5 M6 F6 => ((r5 = 0 → (w_isWord 4 M6 F6 (fun r7 M8 F8 => ((r7 = 0 → (w_bad M8 F8 (fun r9 M10 F10 => ((¬ r9 = 0 → (w_hold_91 (wf_fac 22) Q' r M10 F10)) ∧ (r9 = 0 → ((¬ (M10 4) = 5 → (w_hold_91 (wf_fac 22) Q' r M10 F10)) ∧ ((M10 4) = 5 → (w_made (wf_fac 22) r M10 F10 (fun M16 F16 => (w_hold_104 (wf_fac 22) Q' M16 F16)))))))))) ∧ (¬ r7 = 0 → (w_pass M8 F8 (fun M17 F17 => (w_object M17 F17 (fun r18 M19 F19 => (w_put 12 r r18 0 M19 F19 (fun _ M21 F21 => (w_hold_104 (wf_fac 22) Q' M21 F21)))))))))))) ∧ (¬ r5 = 0 → (w_pass M6 F6 (fun M22 F22 => (w_put 11 r 0 0 M22 F22 (fun _ M24 F24 => (w_hold_104 (wf_fac 22) Q' M24 F24)))))))))) → ∃ x', jSx E x x' := by
      intro x4 m4 hc hr4
      have m34 := xm_t0 m3 m4
      have m5 := xm_t0 m34 (xm_pt (xm_t m34) 3)
      have m6 := xm_t0 m5 (xm_tk hE (xm_t m5) (c := 59) (by decide))
      refine ⟨_, fun n p hp K s O Q hs hQ => ?_, fun n k M F Q Q' hr w hQ => ?_, xm_xs hE (xm_w m6 (by decide) (by decide) rfl)⟩
      · refine st_c hE hx (by decide) (by rw [z]; decide) (by rw [z]; decide) (by rw [z]; decide) hs (fun s1 h1 => st_B202 ((c_ty h1).trans z) ?_)
        refine c_adv hE h1 hlt (fun s2 h2 => c_object hE h2 (fun r s3 h3 => c_take hE h3 (by decide) (by decide) (fun s4 h4 => ?_)))
        refine y_isKind (fun q => absurd ?_ zk) (fun _ => ⟨fun _ => hc _ s4 O _ r h4 (fun s5 h5 => c_take hE h5 (by decide) (by decide) (fun s6 h6 => hQ s6 h6)), fun q => absurd rfl q⟩)
        rw [← c_ty h4]; exact q
      · refine st_r hE 2 (by decide) (by decide) z hr (fun M1 F1 r1 e5 w1 => st_W2 (e5.trans (by decide)) (fun w => ?_) w1) w
        refine re_pass hE (x := X_pt 1 x) hlt k M1 F1 _ _ (rx_pt r1) w (fun M2 F2 r2 w2 => re_object hE k M2 F2 _ _ r2 w2 (fun r M3 F3 r3 w3 => re_need hE (c := 61) rfl k M3 F3 _ _ r3 w3 (fun M4 F4 r4 w4 => ?_)))
        exact hr4 k M4 F4 _ _ r r4 (fun M5 F5 r5 w5 => re_need hE (c := 59) rfl k M5 F5 _ _ (rx_pt (j := 3) r5) w5 (fun M6 F6 r6 w6 => hQ M6 F6 r6 w6)) w4
    by_cases z4 : X_ty E (X_tk E 61 (X_ob E (X_ad (X_pt 1 x)))) = 204
    · have hlt4 := xq_lt hE (xg_t g3) z4 (by decide)
      have n1 := xm_ad hE hlt4
      have n2 := xm_t0 n1 (xm_ob hE hn (xm_t n1))
      refine g _ (xm_w n2 (by decide) (by decide) rfl) (fun k s O Q r hs hQ => ⟨fun q => absurd ((c_ty hs).trans z4) q, fun _ => c_adv hE hs hlt4 (fun s1 h1 => c_object hE h1 (fun r' s2 h2 => c_emit3 hE h2 (xg_lo (n := 13) (xg_m g3 n2 (c' := 13) (by decide)) (by decide)) (by decide) (fun s3 h3 => hQ s3 h3)))⟩) (fun k M F Q Q' r hr hQ w => ?_)
      refine re_w0 hE hr 3 (by decide) (c := 3) (d := 203) (by decide) (by decide) (fun q => absurd (q.symm.trans z4) (by decide)) (fun _ w => ?_) w
      refine re_w0 hE hr 4 (by decide) (c := 4) (d := 204) (by decide) (by decide) (fun _ w => ?_) (fun q => absurd z4 q) w
      exact re_pass hE hlt4 k M F _ _ hr w (fun M1 F1 r1 w1 => re_object hE k M1 F1 _ _ r1 w1 (fun _ M2 F2 r2 w2 => re_put k M2 F2 _ _ r2 w2 (fun _ M3 F3 r3 w3 => hQ M3 F3 r3 w3)))
    · refine g _ (xm_w (xm_on hE hn (xg_t g3)) (by decide) (by decide) rfl) (fun k s O Q r hs hQ => ⟨fun _ => c_objectOrNone hE hs (fun r' s2 h2 => c_emit3 hE h2 (xg_lo (n := 13) (xg_m g3 (xm_on hE hn (xg_t g3)) (c' := 13) (by decide)) (by decide)) (by decide) (fun s3 h3 => hQ s3 h3)), fun q => absurd ((c_ty hs).symm.trans q) z4⟩) (fun k M F Q Q' r hr hQ w => ?_)
      unfold X_on at hQ
      refine re_w0 hE hr 3 (by decide) (c := 3) (d := 203) (by decide) (by decide) (fun q w => ?_) (fun q w => ?_) w
      · rw [if_pos q] at hQ
        exact re_pass hE (re_lt hE hr (fun q' => absurd (q'.symm.trans q) (by decide))) k M F _ _ hr w (fun M1 F1 r1 w1 => re_put k M1 F1 _ _ r1 w1 (fun _ M2 F2 r2 w2 => hQ M2 F2 r2 w2))
      · rw [if_neg q] at hQ
        refine re_w0 hE hr 4 (by decide) (c := 4) (d := 204) (by decide) (by decide) (fun q' => absurd q' z4) (fun _ w => ?_) w
        have go : w_hold_91 (wf_fac 22) Q r M F → w_hold_91 (wf_fac 22) Q' r M F := fun w => re_object hE k M F _ _ hr w (fun _ M1 F1 r1 w1 => re_put k M1 F1 _ _ r1 w1 (fun _ M2 F2 r2 w2 => hQ M2 F2 r2 w2))
        refine re_b1 hr (fun _ w => go w) (fun hb w => ⟨fun q => go (w.1 q), fun q => absurd ?_ zk⟩) w
        rw [X_tyg hb]
        exact (re_kindI (rx_tk hE hr hb)).mp q
end XS4
