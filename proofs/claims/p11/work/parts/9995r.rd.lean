/-! STATEMENTS: hold, with what it puts. -/
section YS4
variable {E : x_E} {x y : y_X}
theorem f2_f2 {A : Type} {f : Nat → Nat → A} {i k : Nat} {v w : A} : f2 (f2 f i k v) i k w = f2 f i k w := by
  funext r j
  rw [f2_at, f2_at, f2_at]
  by_cases q : r = i ∧ j = k
  · rw [if_pos q, if_pos q]
  · rw [if_neg q, if_neg q, if_neg q]
section
variable {k : x_B} {M : Nat → Int32} {F : Nat → Nat → Int32}
/-- a row of the reference changed at a place -/
theorem rx_rc {row i : Nat} {r v : Int32} (h1 : row ∉ rz_LF) (h10 : row ≠ 10) (h42 : row ≠ 42) (h : rxG E k M F y) (hr : nf y → r = nI i ∧ i < 20000) (h18 : row ≠ 18 := by decide) : rxG E k M (uf F row r v) (Y_rc row i v y) := by
  have e : yx (Y_rc row i v y) = yx y := by unfold yx Y_rc Y_gs; rfl
  refine ⟨by rw [e]; exact rx_uf h1 h.1, fun n => ?_⟩
  have n : nf y := by unfold nf Y_rc Y_gs at n; exact n
  obtain ⟨er, hi⟩ := hr n
  have ec : r.toNatClampNeg = i := by rw [er]; exact y_cl (by omega)
  have key : ∀ a b : Nat, F a b = Y_R y a b → uf F row r v a b = f2 (Y_R y) row i v a b := fun a b q => by
    rw [uf_at2, f2_at, ec]
    by_cases z : a = row ∧ b = i
    · rw [if_pos z, if_pos z]
    · rw [if_neg z, if_neg z]; exact q
  obtain ⟨a1, a2, a3, a4, a5, a6, a7, a8, a9⟩ := h.2 n
  refine ⟨a1, a2, a3, fun r' j x1 x2 x3 x4 => key _ _ (a4 r' j x1 x2 x3 x4), fun r' j x1 x2 x3 x4 x5 => key _ _ (a5 r' j x1 x2 x3 x4 x5), fun r' j x1 x2 x3 x4 x5 => key _ _ (a6 r' j x1 x2 x3 x4 x5), fun j hj => by rw [uf_row (fun q => h18 q.symm)]; exact a7 j hj, fun w hw => ?_, fun j hj => ?_⟩
  · rw [uf_row (fun q => h10 q.symm)]; exact a8 w hw
  · rw [uf_row (fun q => h42 q.symm)]; exact a9 j hj
theorem rx_17 {a b c d r v : Int32} (h : rxG E k M F (Y_rs (a, b, c, d, -1) y)) (hr : nf y → r = nI (Y_n y)) : rxG E k M (uf F 17 r v) (Y_rs (a, b, c, d, v) y) := by
  have hn : nf (Y_rs (a, b, c, d, -1) y) → r = nI (Y_n y) ∧ Y_n y < 20000 := fun n => by
    have ny : nf y := by unfold nf Y_rs at n; exact n
    refine ⟨hr ny, ?_⟩
    have h3 := (h.2 n).2.2.1.1
    have en : Y_n (Y_rs (a, b, c, d, -1) y) = Y_n y + 1 := by
      show 9000 * f1 (Y_m y) 0 (Y_m y 0 + 1) 3 + f1 (Y_m y) 0 (Y_m y 0 + 1) 0 = 9000 * Y_m y 3 + Y_m y 0 + 1
      rw [f1_ne (by decide), f1_eq]; omega
    omega
  have h' := rx_rc (row := 17) (i := Y_n y) (v := v) (by decide) (by decide) (by decide) h hn
  have e : Y_rc 17 (Y_n y) v (Y_rs (a, b, c, d, -1) y) = Y_rs (a, b, c, d, v) y := by
    have e1 : f2 (r5 (Y_R y) (Y_n y) (a, b, c, d, -1)) 17 (Y_n y) v = r5 (Y_R y) (Y_n y) (a, b, c, d, v) := by unfold r5; rw [f2_f2]
    unfold Y_rc Y_gs
    show (_, _, _, _, _, _, _, _, _, _, _, f2 (r5 (Y_R y) (Y_n y) (a, b, c, d, -1)) 17 (Y_n y) v, _) = _
    rw [e1]
    rfl
  rw [e] at h'
  exact h'
theorem rg_sp (h : rxG E k M F y) (hb : y.1 = false) : M 6 = E_P E (Y_t y) := (h.1.2 hb).1.1.2.1
end
/-- the slot of an object just met -/
theorem nf_ob_s (hE : E_ok E) (h : x.1 = false → Y_t x ≤ E_m E) (n : nf (Y_ob E x)) (v : gv E (Y_ob E x)) : 0 ≤ (Y_S (Y_ob E x) (E_w E (Y_t x))).2.toInt ∧ (Y_S (Y_ob E x) (E_w E (Y_t x))).2.toInt < 8 := by
  obtain ⟨z, hb, cs⟩ := nf_ob n
  have hA := (Y_tyg hb).symm.trans z
  obtain ⟨w1, -, -, -⟩ := E_word hE (h hb) (Or.inr hA)
  have hno := E_no_ok hE (Y_t x) w1 hA
  have told : Y_u (Y_ob E x) (E_w E (Y_t x)) = Y_i (Y_ob E x) 1 := by
    rcases cs with ⟨q, e⟩ | ⟨q, e⟩
    · rw [e]; exact q
    · rw [e]
      show fu (Y_u x) (E_w E (Y_t x)) (Y_i x 1) (E_w E (Y_t x)) = um (Y_i x) 3 (Y_i x 3 + 1) 1
      unfold fu
      rw [if_pos rfl, um_ne (by decide)]
  obtain ⟨g1, g2⟩ := v.2.2 _ told
  exact ⟨g1.1, g2.1 hno⟩
/-- because of whom: as the class, as the reference says it -/
def Y_bC (E : x_E) (x : y_X) : Int32 := if Y_ty E x = 203 then -1 else (Y_S (Y_on E x) (E_w E (Y_t x))).2
def Y_bR (E : x_E) (x : y_X) : Int32 := if Y_ty E x = 203 then -2 else (Y_S (Y_on E x) (E_w E (Y_t x))).2
theorem Y_bCR (hE : E_ok E) (h : x.1 = false → Y_t x ≤ E_m E) (n : nf (Y_on E x)) (v : gv E (Y_on E x)) : Y_bC E x = k_bc (Y_bR E x) ∧ -2 ≤ (Y_bR E x).toInt := by
  unfold Y_bC Y_bR
  by_cases q : Y_ty E x = 203
  · rw [if_pos q, if_pos q]; decide
  · rw [if_neg q, if_neg q]
    have e : Y_on E x = Y_ob E x := if_neg q
    rw [e] at n v ⊢
    have g := nf_ob_s hE h n v
    refine ⟨?_, by omega⟩
    unfold k_bc
    rw [if_neg (fun z => ?_), if_neg (fun z => ?_)]
    · rw [z] at g; exact absurd g.1 (by decide)
    · rw [z] at g; exact absurd g.1 (by decide)
/-- behind what a new objection is made of -/
theorem made_tG (hE : E_ok E) (A W D : Int32) (hx : yg E 10 x) (ho : x.1 = false → 1 ≤ (Y_i x 0).toInt ∧ (Y_i x 0).toInt ≤ 20) : ∃ x', (∀ (WF : Int32 → x_CW) (k : x_Kt) (s : f_S3) (O : Nat × Nat) (Q : f_S3 → Nat × Nat → Prop) (a1 a3 a4 : Int32), (nf x → a1 = A ∧ a3 = W ∧ a4 = D) → rcG E k s x → (∀ s', rcG E k s' x' → Q s' O) → wF_X7_newObjection_61 (E_N E) WF Q a1 a3 a4 s O) ∧ (∀ (WF : x_RW) (a1 a2 a3 : Int32), (nf x → a1 = A ∧ a3 = W ∧ a2 = D) → rrG E (fun M F Q => w_made_59 WF Q a1 a2 a3 M F) x x') ∧ ym E 1 3 (-1) x x' := by
  have m1 := ym_cl hE (yg_t hx) (c := 41) (by decide)
  have g1 : yg E 8 (Y_cl E 41 x) := fun q => by
    have l1 : (1 : Int32).toInt = 1 := by decide
    obtain ⟨c1, ⟨c2, c3⟩, c4, c5, ⟨c6, c7, c8⟩, -⟩ := m1.1 q
    obtain ⟨d1, d2, d3⟩ := hx c1
    have o : 1 ≤ (X_i (yx x) 0).toInt ∧ (X_i (yx x) 0).toInt ≤ 20 := ho c1
    refine ⟨c3, ?_, by omega⟩
    rw [c6, show (-1 : Int32) = - 1 from rfl, ← Int32.sub_eq_add_neg, ti_subx _ _ (by rw [l1]; omega), l1]
    omega
  have key : ∀ (y : y_X) (cC cR : Int32), ym E 0 0 0 (Y_cl E 41 x) y → (nf y → gv E y → cC = k_bc cR ∧ -2 ≤ cR.toInt) → (∀ (k : x_Kt) (s : f_S3) (O : Nat × Nat) (Q : f_S3 → Nat × Nat → Prop) (a1 a3 a4 a5 : Int32), (nf y → a1 = A ∧ a3 = W ∧ a4 = D) → (nf y → a5 = cC) → rcG E k s y → (∀ s', rcG E k s' (Y_em [27, A, D, W, cC] (13, A, D, cR, W) (Y_c y) y) → Q s' O) → ∀ WF : Int32 → x_CW, wF_X7_newObjection_91 (E_N E) WF Q a1 a3 a4 a5 s O) ∧ (∀ (WF : x_RW) (a1 a2 a3 a5 : Int32), (nf y → a1 = A ∧ a3 = W ∧ a2 = D) → (nf y → a5 = cR) → rrG E (fun M F Q => w_made_105 WF Q a1 a2 a3 a5 M F) y (Y_em [27, A, D, W, cC] (13, A, D, cR, W) (Y_c y) y)) ∧ ym E 1 3 (-1) x (Y_em [27, A, D, W, cC] (13, A, D, cR, W) (Y_c y) y) := by
    intro y cC cR my hcc
    have g2 := yg_m g1 my (c' := 8) (by decide)
    have m2 : ym E 0 5 0 y (Y_em [27, A, D, W, cC] (13, A, D, cR, W) (Y_c y) y) := ym_emv (yg_t g2) ho_13 (show 1 ≤ 5 by decide) (fun n v => by rw [k_e_13, ← (hcc n v).1]) (fun n v => ⟨fun q => absurd q (show ¬ (13 : Int32) = 8 by decide), fun _ => (hcc n v).2⟩)
    refine ⟨fun k s O Q a1 a3 a4 a5 ha h5 hs hQ WF => ?_, fun WF a1 a2 a3 a5 ha h5 k M F Q Q' hr w hQ => ?_, ym_w (ym_tr m1 (ym_t0 my m2)) (by decide) (by decide) (by decide)⟩
    · have lo := yg_lo (n := 8) g2 (by decide)
      refine cg_emit3 hE hs lo (by decide) (fun s1 h1 => cg_put hE h1 (Y_lo_p lo _) (show 8 + 3 ≤ 15 by decide) (fun _ s2 _ h2 => cg_put (c := 8 + 3 + 1) hE h2 (Y_lo_p (Y_lo_p lo _) _) (show 8 + 3 + 1 ≤ 15 by decide) (fun _ s3 _ h3 => hQ s3 ?_)))
      rw [Y_csa, Y_csa] at h3
      exact rc_emn h3 (by rfl) (fun n => by rw [(ha n).1, (ha n).2.1, (ha n).2.2, h5 n]; rfl)
    · refine rg_put hr w (fun r M1 F1 er r1 w1 => ⟨w1.1, hQ _ _ ?_ w1.2⟩)
      exact rx_emn (fun n => by rw [(ha n).1, (ha n).2.1, (ha n).2.2, h5 n]) (rx_17 r1 er)
  by_cases z : Y_ty E (Y_cl E 41 x) = 205
  · have hlt := yq_lt hE (yg_t g1) z (by decide)
    have n1 := ym_ad hE hlt
    have no := ym_on hE (ym_t n1)
    have n2 := ym_t0 n1 no
    have nx : nf (Y_on E (Y_ad (Y_cl E 41 x))) → nf x := fun n => nf_m m1 (nf_m n2 n)
    obtain ⟨a, b, m⟩ := key _ (Y_bC E (Y_ad (Y_cl E 41 x))) (Y_bR E (Y_ad (Y_cl E 41 x))) (ym_w n2 (by decide) (by decide) rfl) (fun n v => Y_bCR hE (ym_t n1) n v)
    refine ⟨_, fun WF k s O Q a1 a3 a4 ha hs hQ => ?_, fun WF a1 a2 a3 ha k M F Q Q' hr w hQ => ?_, m⟩
    · refine cg_take hE hs (by decide) (by decide) (fun s1 h1 => ?_)
      have h1 : rcG E k s1 (Y_cl E 41 x) := cg_o h1
      exact ⟨fun q => absurd ((cg_ty h1).trans z) q, fun _ => cg_adv hE h1 hlt (fun s2 h2 => cg_objectOrNone hE h2 (fun r s3 er h3 => a k s3 O Q a1 a3 a4 r (fun n => ha (nx n)) er h3 hQ WF))⟩
    · refine rg_closes hE (c := 41) rfl ho k M F _ _ hr w (fun M1 F1 r1 w1 => ?_)
      refine rg_w0 hE r1 5 (by decide) (c := 5) (d := 205) (by decide) (by decide) (fun _ w => ?_) (fun q => absurd z q) w1
      refine rg_pass hE hlt k M1 F1 _ _ r1 w (fun M2 F2 r2 w2 => ?_)
      exact rg_on hE (c := -2) (K := fun r M F => w_made_105 WF Q a1 a2 a3 r M F) (K' := fun r M F => w_made_105 WF Q' a1 a2 a3 r M F) r2 (fun r M3 F3 er r3 w3 => b WF a1 a2 a3 r (fun n => ha (nx n)) er k M3 F3 Q Q' r3 w3 hQ) w2
  · obtain ⟨a, b, m⟩ := key _ (-2) (-1) (ym_rf (yg_t g1)) (fun _ _ => by decide)
    refine ⟨_, fun WF k s O Q a1 a3 a4 ha hs hQ => ?_, fun WF a1 a2 a3 ha k M F Q Q' hr w hQ => ?_, m⟩
    · refine cg_take hE hs (by decide) (by decide) (fun s1 h1 => ?_)
      have h1 : rcG E k s1 (Y_cl E 41 x) := cg_o h1
      exact ⟨fun _ => a k s1 O Q a1 a3 a4 _ (fun n => ha (nf_m m1 n)) (fun _ => rfl) h1 hQ WF, fun q => absurd ((cg_ty h1).symm.trans q) z⟩
    · refine rg_closes hE (c := 41) rfl ho k M F _ _ hr w (fun M1 F1 r1 w1 => ?_)
      exact rg_w0 hE r1 5 (by decide) (c := 5) (d := 205) (by decide) (by decide) (fun q => absurd q z) (fun _ w => b WF a1 a2 a3 _ (fun n => ha (nf_m m1 n)) (fun _ => rfl) k M1 F1 Q Q' r1 w hQ) w1
/-- a new objection: from its kind -/
theorem j_madeG (hE : E_ok E) (A : Int32) (hx : yg E 4 x) (zk : X_ik (Y_ty E x)) : ∃ x', (∀ (n : Nat) (p : Int32), jbG n p x → ∀ (k : x_Kt) (s : f_S3) (O : Nat × Nat) (Q : f_S3 → Nat × Nat → Prop) (a : Int32), (nf x → a = A) → rcG E k s x → (∀ s', rcG E k s' x' → Q s' O) → wF_X7_newObjection (E_N E) (cff (E_N E) 22) a p s O Q) ∧ (∀ a : Int32, (nf x → a = A) → rrG E (w_made (wf_fac 22) a) x x') ∧ ym E 1 3 0 x x' := by
  have hb : x.1 = false := by
    cases q : x.1 with
    | true => rw [Y_tyb q] at zk; exact absurd zk (by decide)
    | false => rfl
  have n135 : ¬ Y_ty E x = 135 := fun q => by rw [q] at zk; exact absurd zk (by decide)
  have hlt : x.1 = false → Y_t x < E_m E := fun b => E_lt hE (yg_t hx b) rfl (fun q => n135 ((Y_tyg b).trans q))
  have ekd : Y_kd E x = Y_ad x := by unfold Y_kd; rw [if_pos zk]
  have m1 := ym_ad hE hlt
  have g1 : yg E 10 (Y_ad x) := yg_m hx m1 (by decide)
  have m2 := ym_op hE (yg_t g1) (c := 40) (by decide)
  have m12 := ym_tr m1 m2
  have g2 := Y_op_g hE (c := 40) g1 (by decide)
  have g2' : yg E 0 (Y_op E 40 (Y_ad x)) := yg_o (yg_m hx m1 (c' := 2) (by decide)) m2 (fun q => (Y_op_i q).2.2.1) (by decide)
  obtain ⟨x3, a, b, me⟩ := j_EG hE g2
  have jpp : ∀ (n : Nat) (p : Int32), jbG n p x → jpG 22 (p + 1) (Y_op E 40 (Y_ad x)) := fun n p hp => by
    have o := yg_oo hx hb
    exact Y_op_p g1 (by decide) ((jbG_2 hp hb).2) (show 21 ≤ (Y_i x 0).toInt + 22 by omega)
  have m5D : ∀ (k : x_B) (M : Nat → Int32) (F : Nat → Nat → Int32), rxG E k M F x → M 5 = Y_ty E x - 226 := fun k M F hr => by
    rw [Y_tyg hb]
    rw [Y_tyg hb] at zk
    exact E_kd (rx_tk hE hr.1 hb) zk
  have c28 : ∀ r : Int32, r = Y_ty E x - 226 → (Y_ty E x = 228 ↔ r = 2) := fun r e => by
    subst e
    refine ⟨fun q => by rw [q]; decide, fun q => ?_⟩
    have : Y_ty E x = (Y_ty E x - 226) + 226 := (Int32.sub_add_cancel _ _).symm
    rw [q] at this
    exact this.trans (by decide)
  by_cases zl : Y_ty E x = 228 ∧ Y_ty E x3 = 44
  · have g3 : yg E 10 x3 := yg_m g2 me (by decide)
    have hlt3 := yq_lt hE (yg_t g3) zl.2 (by decide)
    have m3 := ym_ad hE hlt3
    have m23 := ym_t0 me m3
    obtain ⟨x4, a', b', me'⟩ := j_EG hE (yg_m g3 m3 (c' := 10) (by decide))
    have m24 := ym_t0 m23 me'
    have nx : nf x4 → nf x := fun n => nf_m m12 (nf_m m24 n)
    obtain ⟨x5, a5, b5, m5⟩ := made_tG hE A (E_P E (Y_t x)) (Y_ty E x - 226) (yg_m g2 m24 (c' := 10) (by decide)) (Y_op_1 g1 g2 m24)
    refine ⟨x5, fun n p hp k s O Q a0 h0 hs hQ => ?_, fun a0 h0 k M F Q Q' hr w hQ => ?_, ym_w (ym_tr m1 (ym_tr m2 (ym_tr m24 m5))) (by decide) (by decide) (by decide)⟩
    · refine cg_kind hE hs (fun r s1 hr1 h1 => ?_)
      rw [ekd] at h1
      have r2 := (c28 r (hr1 zk)).mp zl.1
      refine cg_open hE h1 (yg_oo g1) (by decide) (by decide) (fun _ => (jbG_2 hp hb).2) (fun s2 h2 => a 22 (p + 1) (jpp n p hp) k s2 O _ h2 (fun s3 h3 => ⟨fun q => absurd ((cg_ty h3).trans zl.2) q, fun _ => ⟨fun q => absurd r2 q, fun _ => ?_⟩⟩))
      exact cg_adv hE h3 hlt3 (fun s4 h4 => a' 22 (p + 1) (jpG_m (jpp n p hp) m23) k s4 O _ h4 (fun s5 h5 => a5 _ k s5 O Q a0 _ r (fun n => ⟨h0 (nx n), (hs.1.2 hb).1.2.1.2.2.2, hr1 zk⟩) h5 hQ))
    · have e5 := (c28 _ (m5D k M F hr)).mp zl.1
      refine rg_pass hE hlt k M F _ _ hr w (fun M1 F1 r1 w1 => rg_opens hE (c := 40) rfl k M1 F1 _ _ r1 w1 (fun M2 F2 r2 w2 => b 22 k M2 F2 _ _ r2 w2 (fun M3 F3 r3 w3 => ⟨fun q => absurd e5 q, fun q => ?_⟩)))
      refine rg_s0 hE r3 (c := 44) rfl (fun _ w => ?_) (fun q => absurd zl.2 q) (w3.2 q)
      exact rg_pass hE hlt3 k M3 F3 _ _ r3 w (fun M4 F4 r4 w4 => b' 22 k M4 F4 _ _ r4 w4 (fun M5 F5 r5 w5 => b5 _ a0 _ _ (fun n => ⟨h0 (nx n), rg_sp hr hb, m5D k M F hr⟩) k M5 F5 Q Q' r5 w5 hQ))
  · have m3' : ym E 0 2 0 x3 (Y_em [7, 0] (1, 0, 0, 0, -1) (Y_c x3) x3) := ym_em (ym_t me) ho_1 (Nat.le_succ _) (fun _ => k_e_1.symm) (fun _ => h8_1)
    have m3 := ym_t0 me m3'
    have nx : nf (Y_em [7, 0] (1, 0, 0, 0, -1) (Y_c x3) x3) → nf x := fun n => nf_m m12 (nf_m m3 n)
    obtain ⟨x5, a5, b5, m5⟩ := made_tG hE A (E_P E (Y_t x)) (Y_ty E x - 226) (yg_m g2' m3 (c' := 10) (by decide)) (Y_op_1 g1 g2 m3)
    refine ⟨x5, fun n p hp k s O Q a0 h0 hs hQ => ?_, fun a0 h0 k M F Q Q' hr w hQ => ?_, ym_w (ym_tr m1 (ym_tr m2 (ym_tr m3 m5))) (by decide) (by decide) (by decide)⟩
    · refine cg_kind hE hs (fun r s1 hr1 h1 => ?_)
      rw [ekd] at h1
      have r2 := c28 r (hr1 zk)
      refine cg_open hE h1 (yg_oo g1) (by decide) (by decide) (fun _ => (jbG_2 hp hb).2) (fun s2 h2 => a 22 (p + 1) (jpp n p hp) k s2 O _ h2 (fun s3 h3 => ?_))
      have go : wF_X7_newObjection_54 (E_N E) (cff (E_N E) 22) Q a0 (s.1 14) r s3 O := cg_emit2 hE h3 (yg_lo (n := 14) (yg_m g2' me (c' := 14) (by decide)) (by decide)) (by decide) (fun s4 h4 => a5 _ k s4 O Q a0 _ r (fun n => ⟨h0 (nx n), (hs.1.2 hb).1.2.1.2.2.2, hr1 zk⟩) (rc_em h4) hQ)
      exact ⟨fun _ => go, fun q1 => ⟨fun _ => go, fun q2 => absurd ⟨r2.mpr q2, (cg_ty h3).symm.trans q1⟩ zl⟩⟩
    · have e5 := c28 _ (m5D k M F hr)
      refine rg_pass hE hlt k M F _ _ hr w (fun M1 F1 r1 w1 => rg_opens hE (c := 40) rfl k M1 F1 _ _ r1 w1 (fun M2 F2 r2 w2 => b 22 k M2 F2 _ _ r2 w2 (fun M3 F3 r3 w3 => ?_)))
      have go : w_made_49 (wf_fac 22) Q a0 (M 5) (M 6) M3 F3 → w_made_49 (wf_fac 22) Q' a0 (M 5) (M 6) M3 F3 := fun w => rg_put r3 w (fun _ M4 F4 _ r4 w4 => b5 _ a0 _ _ (fun n => ⟨h0 (nx n), rg_sp hr hb, m5D k M F hr⟩) k M4 F4 Q Q' (rx_em r4) w4 hQ)
      refine ⟨fun q => go (w3.1 q), fun q => rg_s0 hE r3 (c := 44) rfl (fun q4 _ => absurd ⟨e5.mpr q, q4⟩ zl) (fun _ w => go w) (w3.2 q)⟩
theorem st_holdG (hE : E_ok E) (hx : yg E 4 x) (z : Y_ty E x = 202) : ∃ x', jSG E x x' := by
  have m0 := ym_0 (yg_t hx)
  have z' : Y_ty E (Y_0 x) = 202 := Y_0_ty.trans z
  have hlt : (Y_0 x).1 = false → Y_t (Y_0 x) < E_m E := yq_lt hE (ym_t m0) z' (by decide)
  have m1 := ym_t0 m0 (ym_ad hE hlt)
  have Mm1 := (ym_ad hE hlt)
  have m2 := ym_t0 m1 (ym_ob hE (ym_t m1))
  have Mm2 := ym_t0 Mm1 (ym_ob hE (ym_t m1))
  have n3 := ym_tk hE (ym_t m2) (c := 61) (by decide)
  have m3 := ym_t0 m2 n3
  have Mm3 := ym_t0 Mm2 n3
  have g3 := yg_m hx m3 (c' := 4) (by decide)
  generalize ey3 : Y_tk E 61 (Y_ob E (Y_ad (Y_0 x))) = y3 at *
  by_cases zk : X_ik (Y_ty E y3)
  · obtain ⟨x4, a, b, me⟩ := j_madeG hE (Y_S (Y_ob E (Y_ad (Y_0 x))) (E_w E (Y_t (Y_ad (Y_0 x))))).2 g3 zk
    have m4 := ym_t0 m3 me
    have Mm4 := ym_t0 Mm3 me
    have m5 := ym_t0 m4 (ym_tk hE (ym_t m4) (c := 59) (by decide))
    have Mm5 := ym_t0 Mm4 (ym_tk hE (ym_t m4) (c := 59) (by decide))
    refine ⟨_, fun n p hp K s O Q hs hQ => ?_, fun n k M F Q Q' hr w hQ => ?_, ym_ys hE (ym_w m5 (by decide) (by decide) rfl), fS_of Mm5.2⟩
    · refine st_cG hE hx (by decide) (by rw [z]; decide) (by rw [z]; decide) (by rw [z]; decide) hs (fun s1 h1 => st_B202 ((cg_ty h1).trans z') ?_)
      refine cg_adv hE h1 hlt (fun s2 h2 => cg_object hE h2 (fun r s3 er h3 => cg_take hE h3 (by decide) (by decide) (fun s4 h4 => ?_)))
      rw [ey3] at h4
      refine y_isKind (fun _ => ⟨fun q => absurd q (by decide), fun _ => a n p (jbG_i hp (ym_i0 m3)) _ s4 O _ r (fun n => er (nf_m n3 n)) h4 (fun s5 h5 => cg_take hE h5 (by decide) (by decide) (fun s6 h6 => hQ s6 h6))⟩) (fun q => absurd ?_ q)
      rw [cg_ty h4]; exact zk
    · refine st_rG hE 2 (by decide) (by decide) (by decide) z hr (fun M1 F1 r1 e5 w1 => st_W2 (e5.trans (by decide)) (fun w => ?_) w1) w
      refine rg_pass hE hlt k M1 F1 _ _ r1 w (fun M2 F2 r2 w2 => rg_object hE r2 w2 (fun r M3 F3 er r3 w3 => rg_need hE (c := 61) rfl k M3 F3 _ _ r3 w3 (fun M4 F4 r4 w4 => ?_)))
      rw [ey3] at r4
      refine rg_w0 hE r4 3 (by decide) (c := 3) (d := 203) (by decide) (by decide) (fun q => ?_) (fun _ w => ?_) w4
      · rw [q] at zk; exact absurd zk (by decide)
      refine rg_w0 hE r4 4 (by decide) (c := 4) (d := 204) (by decide) (by decide) (fun q => ?_) (fun _ w => ?_) w
      · rw [q] at zk; exact absurd zk (by decide)
      refine rg_b1 r4 (fun q => ?_) (fun hb4 w => ⟨fun q => absurd ?_ q, fun q => b r (fun n => er (nf_m n3 n)) k M4 F4 _ _ r4 (w.2 q) (fun M5 F5 r5 w5 => rg_need hE (c := 59) rfl k M5 F5 _ _ r5 w5 (fun M6 F6 r6 w6 => hQ M6 F6 r6 w6))⟩) w
      · rw [Y_tyb q] at zk; exact absurd zk (by decide)
      · exact (re_kindI (rx_tk hE r4.1 hb4)).mpr (by rw [Y_tyg hb4] at zk; exact zk)
  · have g : ∀ (x4 : y_X) (l : List Int32) (o : x_O), l.length = 3 → ym E 0 0 0 y3 x4 → ym E 0 3 0 x4 (Y_em l o (Y_c x4) x4) → (∀ (k : x_Kt) (s : f_S3) (O : Nat × Nat) (Q : f_S3 → Nat × Nat → Prop) (r : Int32), (nf y3 → r = (Y_S (Y_ob E (Y_ad (Y_0 x))) (E_w E (Y_t (Y_ad (Y_0 x))))).2) → rcG E k s y3 → (∀ s', rcG E k s' (Y_em l o (Y_c x4) x4) → Q s' O) → wF_X7_otherObjection (E_N E) r s O Q) → (∀ (k : x_B) (M : Nat → Int32) (F : Nat → Nat → Int32) (Q Q' : (Nat → Int32) → (Nat → Nat → Int32) → Prop) (r : Int32), (nf y3 → r = (Y_S (Y_ob E (Y_ad (Y_0 x))) (E_w E (Y_t (Y_ad (Y_0 x))))).2) → rxG E k M F y3 → (∀ M' F', rxG E k M' F' (Y_em l o (Y_c x4) x4) → w_hold_104 (wf_fac 22) Q M' F' → w_hold_104 (wf_fac 22) Q' M' F') → (w_isWord 3 M F (fun r5 M6 F6 => ((r5 = 0 → (w_isWord 4 M6 F6 (fun r7 M8 F8 => ((r7 = 0 → (w_bad M8 F8 (fun r9 M10 F10 => ((¬ r9 = 0 → (w_hold_91 (wf_fac 22) Q r M10 F10)) ∧ (r9 = 0 → ((¬ (M10 4) = 5 → (w_hold_91 (wf_fac 22) Q r M10 F10)) ∧ ((M10 4) = 5 → (w_made (wf_fac 22) r M10 F10 (fun M16 F16 => (w_hold_104 (wf_fac 22) Q M16 F16)))))))))) ∧ (¬ r7 = 0 → (w_pass M8 F8 (fun M17 F17 => (w_object M17 F17 (fun r18 M19 F19 => (w_put 12 r r18 0 M19 F19 (fun _ M21 F21 => (w_hold_104 (wf_fac 22) Q M21 F21)))))))))))) ∧ (¬ r5 = 0 → (w_pass M6 F6 (fun M22 F22 => (w_put 11 r 0 0 M22 F22 (fun _ M24 F24 => (w_hold_104 (wf_fac 22) Q M24 F24))))))))) → (w_isWord 3 M F (fun r5 M6 F6 => ((r5 = 0 → (w_isWord 4 M6 F6 (fun r7 M8 F8 => ((r7 = 0 → (w_bad M8 F8 (fun r9 M10 F10 => ((¬ r9 = 0 → (w_hold_91 (wf_fac 22) Q' r M10 F10)) ∧ (r9 = 0 → ((¬ (M10 4) = 5 → (w_hold_91 (wf_fac 22) Q' r M10 F10)) ∧ ((M10 4) = 5 → (w_made (wf_fac 22) r M10 F10 (fun M16 F16 => (w_hold_104 (wf_fac 22) Q' M16 F16)))))))))) ∧ (¬ r7 = 0 → (w_pass M8 F8 (fun M17 F17 => (w_object M17 F17 (fun r18 M19 F19 => (w_put 12 r r18 0 M19 F19 (fun _ M21 F21 => (w_hold_104 (wf_fac 22) Q' M21 F21)))))))))))) ∧ (¬ r5 = 0 → (w_pass M6 F6 (fun M22 F22 => (w_put 11 r 0 0 M22 F22 (fun _ M24 F24 => (w_hold_104 (wf_fac 22) Q' M24 F24)))))))))) → ∃ x', jSG E x x' := by
      intro x4 l o hl m4 m5' hc hr4
      have m34 := ym_t0 m3 m4
      have Mm34 := ym_t0 Mm3 m4
      have m5 := ym_t0 m34 m5'
      have Mm5 := ym_t0 Mm34 m5'
      have m6 := ym_t0 m5 (ym_tk hE (ym_t m5) (c := 59) (by decide))
      have Mm6 := ym_t0 Mm5 (ym_tk hE (ym_t m5) (c := 59) (by decide))
      refine ⟨_, fun n p hp K s O Q hs hQ => ?_, fun n k M F Q Q' hr w hQ => ?_, ym_ys hE (ym_w m6 (by decide) (by decide) rfl), fS_of Mm6.2⟩
      · refine st_cG hE hx (by decide) (by rw [z]; decide) (by rw [z]; decide) (by rw [z]; decide) hs (fun s1 h1 => st_B202 ((cg_ty h1).trans z') ?_)
        refine cg_adv hE h1 hlt (fun s2 h2 => cg_object hE h2 (fun r s3 er h3 => cg_take hE h3 (by decide) (by decide) (fun s4 h4 => ?_)))
        rw [ey3] at h4
        refine y_isKind (fun q => absurd ?_ zk) (fun _ => ⟨fun _ => hc _ s4 O _ r (fun n => er (nf_m n3 n)) h4 (fun s5 h5 => cg_take hE h5 (by decide) (by decide) (fun s6 h6 => hQ s6 h6)), fun q => absurd rfl q⟩)
        rw [← cg_ty h4]; exact q
      · refine st_rG hE 2 (by decide) (by decide) (by decide) z hr (fun M1 F1 r1 e5 w1 => st_W2 (e5.trans (by decide)) (fun w => ?_) w1) w
        refine rg_pass hE hlt k M1 F1 _ _ r1 w (fun M2 F2 r2 w2 => rg_object hE r2 w2 (fun r M3 F3 er r3 w3 => rg_need hE (c := 61) rfl k M3 F3 _ _ r3 w3 (fun M4 F4 r4 w4 => ?_)))
        rw [ey3] at r4
        exact hr4 k M4 F4 _ _ r (fun n => er (nf_m n3 n)) r4 (fun M5 F5 r5 w5 => rg_need hE (c := 59) rfl k M5 F5 _ _ r5 w5 (fun M6 F6 r6 w6 => hQ M6 F6 r6 w6)) w4
    generalize eA : (Y_S (Y_ob E (Y_ad (Y_0 x))) (E_w E (Y_t (Y_ad (Y_0 x))))).2 = A at *
    by_cases z4 : Y_ty E y3 = 204
    · have hlt4 := yq_lt hE (yg_t g3) z4 (by decide)
      have n1 := ym_ad hE hlt4
      have n2 := ym_t0 n1 (ym_ob hE (ym_t n1))
      refine g _ [26, A, (Y_S (Y_ob E (Y_ad y3)) (E_w E (Y_t (Y_ad y3)))).2] (12, A, (Y_S (Y_ob E (Y_ad y3)) (E_w E (Y_t (Y_ad y3)))).2, 0, -1) rfl (ym_w n2 (by decide) (by decide) rfl) (ym_em (ym_t n2) ho_12 (show 1 ≤ 3 by decide) (fun _ => k_e_12.symm) (fun _ => h8_12)) (fun k s O Q r hr hs hQ => ⟨fun q => absurd ((cg_ty hs).trans z4) q, fun _ => cg_adv hE hs hlt4 (fun s1 h1 => cg_object hE h1 (fun r' s2 er h2 => cg_emit3 hE h2 (yg_lo (n := 13) (yg_m g3 n2 (c' := 13) (by decide)) (by decide)) (by decide) (fun s3 h3 => hQ s3 (rc_emn h3 (by rfl) (fun n => by rw [er n, hr (nf_m n2 n)])))))⟩) (fun k M F Q Q' r hr hrx hQ w => ?_)
      refine rg_w0 hE hrx 3 (by decide) (c := 3) (d := 203) (by decide) (by decide) (fun q => absurd (q.symm.trans z4) (by decide)) (fun _ w => ?_) w
      refine rg_w0 hE hrx 4 (by decide) (c := 4) (d := 204) (by decide) (by decide) (fun _ w => ?_) (fun q => absurd z4 q) w
      exact rg_pass hE hlt4 k M F _ _ hrx w (fun M1 F1 r1 w1 => rg_object hE r1 w1 (fun _ M2 F2 er r2 w2 => rg_put r2 w2 (fun _ M3 F3 _ r3 w3 => hQ M3 F3 (rx_emn (fun n => by rw [er n, hr (nf_m n2 n)]) r3) w3)))
    · have no := ym_on hE (yg_t g3)
      by_cases z3 : Y_ty E y3 = 203
      · have hlt4 := yq_lt hE (yg_t g3) z3 (by decide)
        have eon : Y_on E y3 = Y_ad y3 := if_pos z3
        rw [eon] at no
        refine g _ [25, A, -1] (11, A, 0, 0, -1) rfl (ym_w no (by decide) (by decide) rfl) (ym_em (ym_t no) ho_11 (show 1 ≤ 3 by decide) (fun _ => k_e_11.symm) (fun _ => h8_11)) (fun k s O Q r hr hs hQ => ⟨fun _ => cg_objectOrNone hE hs (fun r' s2 er h2 => ?_), fun q => absurd ((cg_ty hs).symm.trans q) z4⟩) (fun k M F Q Q' r hr hrx hQ w => ?_)
        · rw [eon, if_pos z3] at er
          rw [eon] at h2
          exact cg_emit3 hE h2 (yg_lo (n := 13) (yg_m g3 no (c' := 13) (by decide)) (by decide)) (by decide) (fun s3 h3 => hQ s3 (rc_emn h3 (by rfl) (fun n => by rw [er n, hr (nf_m no n)])))
        · refine rg_w0 hE hrx 3 (by decide) (c := 3) (d := 203) (by decide) (by decide) (fun q w => ?_) (fun q => absurd z3 q) w
          exact rg_pass hE hlt4 k M F _ _ hrx w (fun M1 F1 r1 w1 => rg_put r1 w1 (fun _ M2 F2 _ r2 w2 => hQ M2 F2 (rx_emn (fun n => by rw [hr (nf_m no n)]) r2) w2))
      · have eon : Y_on E y3 = Y_ob E y3 := if_neg z3
        rw [eon] at no
        refine g _ [25, A, (Y_S (Y_ob E y3) (E_w E (Y_t y3))).2] (10, A, (Y_S (Y_ob E y3) (E_w E (Y_t y3))).2, 0, -1) rfl (ym_w no (by decide) (by decide) rfl) (ym_em (ym_t no) ho_10 (show 1 ≤ 3 by decide) (fun _ => k_e_10.symm) (fun _ => h8_10)) (fun k s O Q r hr hs hQ => ⟨fun _ => cg_objectOrNone hE hs (fun r' s2 er h2 => ?_), fun q => absurd ((cg_ty hs).symm.trans q) z4⟩) (fun k M F Q Q' r hr hrx hQ w => ?_)
        · rw [eon, if_neg z3] at er
          rw [eon] at h2
          exact cg_emit3 hE h2 (yg_lo (n := 13) (yg_m g3 no (c' := 13) (by decide)) (by decide)) (by decide) (fun s3 h3 => hQ s3 (rc_emn h3 (by rfl) (fun n => by rw [er n, hr (nf_m no n)])))
        · refine rg_w0 hE hrx 3 (by decide) (c := 3) (d := 203) (by decide) (by decide) (fun q => absurd q z3) (fun q w => ?_) w
          refine rg_w0 hE hrx 4 (by decide) (c := 4) (d := 204) (by decide) (by decide) (fun q' => absurd q' z4) (fun _ w => ?_) w
          have go : w_hold_91 (wf_fac 22) Q r M F → w_hold_91 (wf_fac 22) Q' r M F := fun w => rg_object hE hrx w (fun _ M1 F1 er r1 w1 => rg_put r1 w1 (fun _ M2 F2 _ r2 w2 => hQ M2 F2 (rx_emn (fun n => by rw [er n, hr (nf_m no n)]) r2) w2))
          refine rg_b1 hrx (fun _ w => go w) (fun hb w => ⟨fun q => go (w.1 q), fun q => absurd ?_ zk⟩) w
          rw [Y_tyg hb]
          exact (re_kindI (rx_tk hE hrx.1 hb)).mp q
end YS4
