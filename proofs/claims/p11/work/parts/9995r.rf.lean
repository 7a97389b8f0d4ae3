/-! STATEMENTS: hear, its arguments and what stands behind them, with what is put. -/
section YS6
variable {E : x_E} {x y : y_X} {w : Nat} {c : Int32}
theorem gx_tk {d : Int32} : gx E y (Y_tk E d y) := by
  unfold Y_tk
  split <;> exact gx_eq rfl rfl ⟨rfl, rfl, rfl, rfl, rfl, rfl⟩
theorem Y_tk_f {d : Int32} : Y_2 (Y_tk E d y) = Y_2 y ∧ Y_3 (Y_tk E d y) = Y_3 y := by
  unfold Y_tk
  split <;> exact ⟨rfl, rfl⟩
theorem nf_nm (n : nf (Y_nm E x)) : Y_ty E x = 130 ∧ Y_u x (E_w E (Y_t x)) = Y_i x 1 ∧ Y_nm E x = Y_ad x := by
  unfold Y_nm at n ⊢
  by_cases q : Y_ty E x = 130
  · rw [if_pos q] at n ⊢
    by_cases u : Y_u x (E_w E (Y_t x)) = Y_i x 1
    · rw [if_pos u]; exact ⟨q, u, rfl⟩
    · rw [if_neg u] at n; exact absurd n.2.1 (by show ¬ true = false; decide)
  · rw [if_neg q] at n; exact absurd n (nf_bd rfl)
theorem nf_nm_s (n : nf (Y_nm E x)) (v : gv E (Y_nm E x)) : ¬ (Y_S x (E_w E (Y_t x))).1 = -1 := by
  obtain ⟨-, u, e⟩ := nf_nm n
  rw [e] at v
  have g := (v.2.2 _ (show Y_u (Y_ad x) (E_w E (Y_t x)) = Y_i (Y_ad x) 1 from u)).2.2
  have g : 0 ≤ (Y_S x (E_w E (Y_t x))).1.toInt := g
  intro q
  rw [q] at g
  exact absurd g (by decide)
def hmG (E : x_E) (w : Nat) (x x' : y_X) : Prop := (∃ c y5, yx x' = X_sl w c y5 ∧ xm E 2 0 (-1) (yx x) y5) ∧ (x'.1 = false → gx E x x')
theorem hmG_b (c : Int32) (y5 : x_X) {x' : y_X} (e : yx x' = X_sl w c y5) (h : x'.1 = true) : hmG E w x x' := ⟨⟨c, y5, e, xm_bd (by have := congrArg (fun z : x_X => z.1) e; exact this.symm.trans h)⟩, fun q => absurd (h.symm.trans q) (by decide)⟩
theorem hmG_tr {a : Nat} {d : Int} {x1 x' : y_X} (m : ym E a d 0 x x1) (hd : d ≤ 0) (h : hmG E w x1 x') : hmG E w x x' := by
  obtain ⟨⟨c, y5, e, m5⟩, g⟩ := h
  refine ⟨⟨c, y5, e, xm_w (xm_tr m.1 m5) (by omega) (by omega) (by decide)⟩, fun q => ?_⟩
  have q5 : y5.1 = false := (congrArg (fun z : x_X => z.1) e).symm.trans q
  obtain ⟨b1, -, -, -, -, -, b11, b12, -⟩ := m5 q5
  exact gx_tr (fun z => b11 ((congrArg X_2 e).symm.trans z)) (fun z => b12 ((congrArg X_3 e).symm.trans z)) (m.2 b1) (g q)
theorem hmG_f {a : Nat} {d : Int} {l : List Int32} {sl : Int32} (hE : E_ok E) (m : ym E a d (-1) x y) (ht : y.1 = false → Y_t y ≤ E_m E) (ha : 1 ≤ a) (hd : d + (l.length : Int) ≤ 2) (hl : nf y → gv E y → (sl = -1 ∧ l = [2, nI (33 + w), c, 10]) ∨ (¬ sl = -1 ∧ l = [2, nI (33 + w), c, 9, sl])) (h1 : 1 ≤ l.length) : hmG E w x (Y_tk E 59 (Y_he l sl w c y)) := by
  have e : yx (Y_tk E 59 (Y_he l sl w c y)) = X_sl w c (X_tk E 59 (X_pt l.length (yx y))) := by
    have e1 : yx (Y_he l sl w c y) = X_sl w c (X_pt l.length (yx y)) := by unfold yx Y_he Y_lm Y_em; rfl
    rw [yx_tk, e1, X_sl_tk]
  have m5 := xm_tr m.1 (xm_t0 (xm_pt ht l.length) (xm_tk hE (xm_t (xm_pt ht l.length)) (c := 59) (by decide)))
  refine ⟨⟨c, _, e, xm_w m5 (by omega) (by omega) (by decide)⟩, fun q => ?_⟩
  have hb : y.1 = false := (Y_tk_g q).2.2
  exact gx_tr (y1 := Y_he l sl w c y) (fun z => (Y_tk_f (E := E) (d := 59)).1.symm.trans z) (fun z => (Y_tk_f (E := E) (d := 59)).2.symm.trans z) (gx_tr (y1 := y) (fun z => z) (fun z => z) (m.2 hb) (gx_he (fun a b v => hl ⟨hb, a, b⟩ v) h1)) gx_tk
theorem hear_tG (hE : E_ok E) (c : Int32) (hx : yg E 8 x) (ho : x.1 = false → 1 ≤ (Y_i x 0).toInt ∧ (Y_i x 0).toInt ≤ 20) (h9 : x.1 = false → 9 * (Y_l x).length ≤ E_n E) : ∃ x', (∀ (WF : Int32 → x_CW) (k : x_Kt) (s : f_S3) (O : Nat × Nat) (Q : f_S3 → Nat × Nat → Prop) (a2 a3 : Int32), (x.1 = false → a2 = nI (33 + w) ∧ ¬ a3 = -1) → rcG E k s x → (∀ s', rcG E k s' x' → Q s' O) → wF_X7_hearingOther_88 (E_N E) WF (fun M O => wF_X7_take (E_N E) 59 M O Q) a2 a3 c s O) ∧ (∀ (WF : x_RW) (a1 a2 : Int32), (x.1 = false → a1 = nI w ∧ ¬ a2 = -1) → rrG E (fun M F Q => w_hear_61 WF Q a1 a2 c M F) x x') ∧ hmG E w x x' := by
  have m1 := ym_cl hE (yg_t hx) (c := 41) (by decide)
  have g1 : yg E 6 (Y_cl E 41 x) := fun q => by
    have l1 : (1 : Int32).toInt = 1 := by decide
    obtain ⟨c1, ⟨c2, c3⟩, c4, c5, ⟨c6, c7, c8⟩, -⟩ := m1.1 q
    obtain ⟨d1, d2, d3⟩ := hx c1
    have o : 1 ≤ (X_i (yx x) 0).toInt ∧ (X_i (yx x) 0).toInt ≤ 20 := ho c1
    refine ⟨c3, ?_, by omega⟩
    rw [c6, show (-1 : Int32) = - 1 from rfl, ← Int32.sub_eq_add_neg, ti_subx _ _ (by rw [l1]; omega), l1]
    omega
  have hb1 : (Y_cl E 41 x).1 = false → x.1 = false := fun q => (m1.1 q).1
  have h91 : (Y_cl E 41 x).1 = false → 9 * (Y_l (Y_cl E 41 x)).length ≤ E_n E := fun q => by
    have e : Y_l (Y_cl E 41 x) = Y_l x := (m1.1 q).2.2.2.1
    rw [e]; exact h9 (hb1 q)
  generalize ex1 : Y_cl E 41 x = x1 at *
  by_cases z : Y_ty E x1 = 211
  · have hlt := yq_lt hE (yg_t g1) z (by decide)
    have n1 := ym_ad hE hlt
    have n2 := ym_t0 n1 (ym_nm hE (ym_t n1))
    have g4 : yg E 2 (Y_nm E (Y_ad x1)) := yg_m g1 n2 (by decide)
    have ez : Y_z (Y_nm E (Y_ad x1)) = Y_z x1 ∧ Y_n (Y_nm E (Y_ad x1)) = Y_n x1 ∧ Y_l (Y_nm E (Y_ad x1)) = Y_l x1 := Y_nm_z
    refine ⟨Y_tk E 59 (Y_he [2, nI (33 + w), c, 9, (Y_S (Y_ad x1) (E_w E (Y_t (Y_ad x1)))).1] (Y_S (Y_ad x1) (E_w E (Y_t (Y_ad x1)))).1 w c (Y_nm E (Y_ad x1))), fun WF k s O Q a2 a3 ha hs hQ => ?_, fun WF a1 a2 ha k M F Q Q' hr wt hQ => ?_, hmG_f hE (ym_w (ym_tr m1 n2) (Nat.le_refl _) (Int.le_refl _) (show (-1 : Int32) + 0 = -1 by decide)) (yg_t g4) (by decide) (by show (-2 : Int) + (-2 + -2) + ((5 : Nat) : Int) ≤ 2; decide) (fun n v => Or.inr ⟨nf_nm_s n v, rfl⟩) (show 1 ≤ 5 by decide)⟩
    · refine cg_take hE hs (by decide) (by decide) (fun s1 h1 => ?_)
      have h1 : rcG E k s1 x1 := by rw [← ex1]; exact cg_o h1
      refine cg_keep (w := w) hE h1 (yg_lo (n := 13) g1 (by decide)) h91 (fun q => ha (hb1 q)) (fun s2 h2 => ?_)
      refine ⟨fun q => absurd ((cg_ty h2).trans (Y_lm_ty.trans (Y_cs_ty.trans z))) q, fun _ => cg_adv hE h2 hlt (fun s3 h3 => ?_)⟩
      rw [Y_lm_ad, Y_cs_ad] at h3
      refine cg_name hE h3 (fun r s4 er h4 => ?_)
      rw [Y_nm_lm, Y_nm_cs] at h4 er
      refine cg_emit2 (c := 14) hE h4 (fun q => ?_) (by decide) (fun s5 h5 => cg_take hE (rc_he (l := [2, nI (33 + w), c, 9, r]) (sl := (Y_S (Y_ad x1) (E_w E (Y_t (Y_ad x1)))).1) ?_ (by rfl) (fun n => by rw [er n]; rfl)) (by decide) (by decide) (fun s6 h6 => hQ s6 h6))
      · have lo := yg_lo (n := 2) g4 (by decide) q
        show Y_z (Y_nm E (Y_ad x1)) + 3 ≤ 2 * E_p E (Y_t (Y_nm E (Y_ad x1))) + 14
        omega
      · rw [Y_lm_cs, Y_csa] at h5
        rw [ez.1, ez.2.1]
        exact h5
    · refine rg_closes hE (c := 41) rfl ho k M F _ _ hr wt (fun M1 F1 r1 w1 => ?_)
      rw [ex1] at r1
      refine rg_w0 hE r1 11 (by decide) (c := 11) (d := 211) (by decide) (by decide) (fun _ wt => ?_) (fun q => absurd z q) w1
      refine rg_pass hE hlt k M1 F1 _ _ r1 wt (fun M2 F2 r2 w2 => ?_)
      refine rg_name hE r2 w2 (fun r M3 F3 er r3 w3 => ?_)
      refine rg_102 (w := w) (c := c) hE er (fun q => ?_) k M3 F3 _ _ r3 w3 (fun M4 F4 r4 w4 => hQ M4 F4 r4 w4)
      have q5 := (Y_tk_g q).2.2
      have hb0 := (n2.1 q5).1
      rw [ez.2.2]
      exact ⟨h91 hb0, ha (hb1 hb0)⟩
  · refine ⟨Y_tk E 59 (Y_he [2, nI (33 + w), c, 10] (-1) w c x1), fun WF k s O Q a2 a3 ha hs hQ => ?_, fun WF a1 a2 ha k M F Q Q' hr wt hQ => ?_, hmG_f hE m1 (yg_t g1) (by decide) (by show (-2 : Int) + ((4 : Nat) : Int) ≤ 2; decide) (fun n v => Or.inl ⟨rfl, rfl⟩) (show 1 ≤ 4 by decide)⟩
    · refine cg_take hE hs (by decide) (by decide) (fun s1 h1 => ?_)
      have h1 : rcG E k s1 x1 := by rw [← ex1]; exact cg_o h1
      refine cg_keep (w := w) hE h1 (yg_lo (n := 13) g1 (by decide)) h91 (fun q => ha (hb1 q)) (fun s2 h2 => ?_)
      refine ⟨fun _ => cg_emit (c := 15) hE h2 (fun q => ?_) (by decide) (fun s5 h5 => cg_take hE (rc_he (l := [2, nI (33 + w), c, 10]) (sl := -1) ?_ (by rfl) (fun n => by rfl)) (by decide) (by decide) (fun s6 h6 => hQ s6 h6)), fun q => absurd (Y_cs_ty.symm.trans (Y_lm_ty.symm.trans ((cg_ty h2).symm.trans q))) z⟩
      · have lo := yg_lo (n := 6) g1 (by decide) q
        show Y_z x1 + 3 ≤ 2 * E_p E (Y_t x1) + 15
        omega
      · rw [Y_lm_cs, Y_csa] at h5
        exact h5
    · refine rg_closes hE (c := 41) rfl ho k M F _ _ hr wt (fun M1 F1 r1 w1 => ?_)
      rw [ex1] at r1
      refine rg_w0 hE r1 11 (by decide) (c := 11) (d := 211) (by decide) (by decide) (fun q => absurd q z) (fun _ wt => ?_) w1
      refine rg_102 (w := w) (c := c) hE (fun _ => rfl) (fun q => ?_) k M1 F1 _ _ r1 wt (fun M4 F4 r4 w4 => hQ M4 F4 r4 w4)
      have q5 := (Y_tk_g q).2.2
      exact ⟨h91 q5, ha (hb1 q5)⟩
/-- the reference where no ')' stands: it is bad behind -/
theorem hear_bG (hE : E_ok E) (c : Int32) (hb : Y_ty E x ≠ 41) (ho : x.1 = false → 1 ≤ (Y_i x 0).toInt ∧ (Y_i x 0).toInt ≤ 20) {WF : x_RW} {a1 a2 : Int32} {x' : y_X} (hx' : x'.1 = true) : rrG E (fun M F Q => w_hear_61 WF Q a1 a2 c M F) x x' := fun k M F Q Q' hr wt hQ => by
  have e1 : (Y_cl E 41 x).1 = true := by
    show (Y_tk E 41 x).1 = true
    unfold Y_tk; rw [if_neg hb]; rfl
  refine rg_closes hE (c := 41) rfl ho k M F _ _ hr wt (fun M1 F1 r1 w1 => ?_)
  refine rg_w0 hE r1 11 (by decide) (c := 11) (d := 211) (by decide) (by decide) (fun q => absurd ((Y_tyb e1).symm.trans q) (by decide)) (fun _ wt => ?_) w1
  exact rg_102 (w := 0) (c := c) (l := []) (sl := -1) hE (fun n => absurd n (nf_bd e1)) (fun q => absurd ((Y_tk_b e1).symm.trans q) (by decide)) k M1 F1 _ _ r1 wt (fun M2 F2 r2 w2 => hQ M2 F2 (rxG_zb (r2.1.1 (Y_tk_b e1)) hx') w2)
theorem hear_LG (hE : E_ok E) : ∀ (i : Nat) (x : y_X) (c : Int32), yg E 8 x → (x.1 = false → 1 ≤ (Y_i x 0).toInt ∧ (Y_i x 0).toInt ≤ 20) → (x.1 = false → 9 * (Y_l x).length ≤ E_n E) → jtG E i x → (x.1 = false → 1 ≤ c.toInt ∧ c.toInt ≤ Y_t x) → ∃ x', (∀ (p a : Int32) (e : Nat) (k : x_Kt) (s : f_S3) (O : Nat × Nat) (Q : f_S3 → Nat × Nat → Prop) (a2 a3 : Int32), jpG 22 (p + 1) x → jaG a x → i < e → (x.1 = false → a2 = nI (33 + w) ∧ ¬ a3 = -1) → rcG E k s x → (∀ s', rcG E k s' x' → Q s' O) → wF_X7_hearingOther_34 (E_N E) (cff (E_N E) 22) (fun M O => wF_X7_take (E_N E) 59 M O Q) e p a2 a3 c a s O) ∧ (∀ (e : Nat) (a1 a2 : Int32), (x.1 = false → a1 = nI w ∧ ¬ a2 = -1) → rrG E (fun M F Q => w_hear_38 (wf_fac 22) Q e a1 a2 c M F) x x') ∧ hmG E w x x' := by
  have ex : ∀ (i : Nat) (x : y_X) (c : Int32), yg E 8 x → (x.1 = false → 1 ≤ (Y_i x 0).toInt ∧ (Y_i x 0).toInt ≤ 20) → (x.1 = false → 9 * (Y_l x).length ≤ E_n E) → (Y_ty E x = 41 ∨ x.1 = true) → ∃ x', (∀ (p a : Int32) (e : Nat) (k : x_Kt) (s : f_S3) (O : Nat × Nat) (Q : f_S3 → Nat × Nat → Prop) (a2 a3 : Int32), i < e → (x.1 = false → a2 = nI (33 + w) ∧ ¬ a3 = -1) → rcG E k s x → (∀ s', rcG E k s' x' → Q s' O) → wF_X7_hearingOther_34 (E_N E) (cff (E_N E) 22) (fun M O => wF_X7_take (E_N E) 59 M O Q) e p a2 a3 c a s O) ∧ (∀ (e : Nat) (a1 a2 : Int32), (x.1 = false → a1 = nI w ∧ ¬ a2 = -1) → rrG E (fun M F Q => w_hear_38 (wf_fac 22) Q e a1 a2 c M F) x x') ∧ hmG E w x x' := by
    intro i x c hx ho h9 hz
    obtain ⟨x', tc, tr, tm⟩ := hear_tG (w := w) hE c hx ho h9
    have hz' : Y_ty E x = 41 ∨ Y_ty E x = 137 := hz.imp id (fun q => Y_tyb q)
    refine ⟨x', fun p a e k s O Q a2 a3 he ha hs hQ => ?_, fun e a1 a2 ha k M F Q Q' hr wt hQ => ?_, tm⟩
    · obtain ⟨e, rfl⟩ : ∃ e', e = e' + 1 := ⟨e - 1, by omega⟩
      dsimp only [wF_X7_hearingOther_34]
      have go := tc (cff (E_N E) 22) k s O Q a2 a3 ha hs hQ
      rw [cg_ty hs]
      exact ⟨fun _ => go, fun _ => ⟨fun _ => go, fun q1 => ⟨fun _ => go, fun q2 => absurd hz' (fun q => q.elim q1 q2)⟩⟩⟩
    · cases e with
      | zero => exact absurd wt (fun q => q)
      | succ e =>
        dsimp only [w_hear_38] at wt ⊢
        refine rg_s0 hE hr (c := 44) rfl (fun q _ => ?_) (fun _ wt => tr _ a1 a2 ha k M F Q Q' hr wt hQ) wt
        rw [q] at hz'; exact absurd hz' (by decide)
  intro i
  induction i with
  | zero =>
    intro x c hx ho h9 ht hc
    have hb : x.1 = true := by
      cases q : x.1 with
      | true => rfl
      | false => have h1 : E_m E < Y_t x + 0 := ht q; have := yg_t hx q; omega
    obtain ⟨x', a, b, m⟩ := ex 0 x c hx ho h9 (Or.inr hb)
    exact ⟨x', fun p a' e k s O Q a2 a3 _ _ he => a p a' e k s O Q a2 a3 he, b, m⟩
  | succ i ih =>
    intro x c hx ho h9 ht hc
    by_cases hz : Y_ty E x = 41 ∨ x.1 = true
    · obtain ⟨x', a, b, m⟩ := ex (i + 1) x c hx ho h9 hz
      exact ⟨x', fun p a' e k s O Q a2 a3 _ _ he => a p a' e k s O Q a2 a3 he, b, m⟩
    · have hb : x.1 = false := by
        cases q : x.1 with
        | true => exact absurd (Or.inr q) hz
        | false => rfl
      have n41 : ¬ Y_ty E x = 41 := fun q => hz (Or.inl q)
      have n137 : ¬ Y_ty E x = 137 := fun q => E_ty hE (yg_t hx hb) ((Y_tyg hb).symm.trans q)
      have nc : ¬ c ≤ 0 := fun q => by
        have := hc hb
        rw [Int32.le_iff_toInt_le, show (0 : Int32).toInt = 0 by decide] at q
        omega
      by_cases z : Y_ty E x = 44
      · have hlt := yq_lt hE (yg_t hx) z (by decide)
        have m0 := ym_ad hE hlt
        obtain ⟨x1, a, b, me⟩ := j_EG hE (yg_m hx m0 (c' := 10) (by decide))
        have m1 := ym_t0 m0 me
        have l1 : (1 : Int32).toInt = 1 := by decide
        have h91 : x1.1 = false → 9 * (Y_l x1).length ≤ E_n E := fun q => by
          have e : Y_l x1 = Y_l x := (m1.1 q).2.2.2.1
          rw [e]; exact h9 (m1.1 q).1
        have hc1 : x1.1 = false → 1 ≤ (c + 1).toInt ∧ (c + 1).toInt ≤ Y_t x1 := fun q => by
          obtain ⟨c1, ⟨c2, c3⟩, -⟩ := m1.1 q
          have c2 : Y_t x + (1 + 1) ≤ Y_t x1 := c2
          have c3 : Y_t x1 ≤ E_m E := c3
          have h := hc c1
          have := E_n4 hE
          rw [ti_addx _ _ (by rw [l1]; omega), l1]
          omega
        obtain ⟨x', ia, ib, im⟩ := ih x1 (c + 1) (yg_m hx m1 (c' := 8) (by decide)) (fun q => by
            obtain ⟨c1, c2⟩ := ym_i0 m1 q
            rw [c2]; exact ho c1) h91 (jtG_m (jtG_w ht (Nat.add_le_add_left (by decide) i)) m1) hc1
        refine ⟨x', fun p a' e k s O Q a2 a3 hp ha he h2 hs hQ => ?_, fun e a1 a2 ha k M F Q Q' hr wt hQ => ?_, hmG_tr m1 (by decide) im⟩
        · obtain ⟨e, rfl⟩ : ∃ e', e = e' + 1 := ⟨e - 1, by omega⟩
          dsimp only [wF_X7_hearingOther_34]
          have e0 := cg_ty hs
          refine ⟨fun q => absurd q (jaG_4 hE ha hb (yg_t hx hb)), fun _ => ⟨fun q => absurd (e0.symm.trans q) n41, fun _ => ⟨fun q => absurd (e0.symm.trans q) n137, fun _ => ⟨fun q => absurd q nc, fun _ => ?_⟩⟩⟩⟩
          refine cg_take hE hs (by decide) (by decide) (fun s1 h1 => ?_)
          have etk : Y_tk E 44 x = Y_ad x := by unfold Y_tk; rw [if_pos z]
          rw [etk] at h1
          exact a 22 (p + 1) (jpG_m hp m0) k s1 O _ h1 (fun s3 h3 => ia p (a' + 1) e k s3 O Q a2 a3 (jpG_m hp m1) (jaG_m hE ha m1 (by decide)) (by omega) (fun q => h2 (m1.1 q).1) h3 hQ)
        · cases e with
          | zero => exact absurd wt (fun q => q)
          | succ e =>
            dsimp only [w_hear_38] at wt ⊢
            refine rg_s0 hE hr (c := 44) rfl (fun _ wt => ?_) (fun q => absurd z q) wt
            exact rg_pass hE hlt k M F _ _ hr wt (fun M1 F1 r1 w1 => b 22 k M1 F1 _ _ r1 w1 (fun M2 F2 r2 w2 => ib e a1 a2 (fun q => ha (m1.1 q).1) k M2 F2 Q Q' r2 w2 hQ))
      · obtain ⟨xb, a, b, me⟩ := j_EG hE (x := Y_bd x) (fun q => absurd q (by show ¬ true = false; decide))
        have hbb : xb.1 = true := by
          cases q : xb.1 with
          | true => rfl
          | false => exact absurd (me.1 q).1 (by show ¬ true = false; decide)
        obtain ⟨x5, tc, tr, tm⟩ := hear_tG (w := w) (x := xb) hE (c + 1) (fun q => absurd (hbb.symm.trans q) (by decide)) (fun q => absurd (hbb.symm.trans q) (by decide)) (fun q => absurd (hbb.symm.trans q) (by decide))
        have h5 : x5.1 = true := by
          cases q : x5.1 with
          | true => rfl
          | false =>
            obtain ⟨⟨c', y5, e5, m5⟩, -⟩ := tm
            have q5 : y5.1 = false := (congrArg (fun z : x_X => z.1) e5).symm.trans q
            exact absurd (hbb.symm.trans (m5 q5).1) (by decide)
        refine ⟨Y_sl w c (Y_bd x), fun p a' e k s O Q a2 a3 hp ha he h2 hs hQ => ?_, fun e a1 a2 ha k M F Q Q' hr wt hQ => ?_, hmG_b c (X_bd (yx x)) rfl rfl⟩
        · obtain ⟨e, rfl⟩ : ∃ e', e = e' + 1 + 1 := ⟨e - 2, by omega⟩
          dsimp only [wF_X7_hearingOther_34]
          have e0 := cg_ty hs
          refine ⟨fun q => absurd q (jaG_4 hE ha hb (yg_t hx hb)), fun _ => ⟨fun q => absurd (e0.symm.trans q) n41, fun _ => ⟨fun q => absurd (e0.symm.trans q) n137, fun _ => ⟨fun q => absurd q nc, fun _ => ?_⟩⟩⟩⟩
          refine cg_take hE hs (by decide) (by decide) (fun s1 h1 => ?_)
          have etk : Y_tk E 44 x = Y_bd x := by unfold Y_tk; rw [if_neg z]
          rw [etk] at h1
          refine a 22 (p + 1) ⟨by decide, fun q => absurd q (by show ¬ true = false; decide)⟩ k s1 O _ h1 (fun s3 h3 => ?_)
          have go := tc (cff (E_N E) 22) k s3 O Q a2 a3 (fun q => absurd (hbb.symm.trans q) (by decide)) h3 (fun s4 h4 => hQ s4 (rcG_bd (h4.1.1 h5) rfl))
          have e3 := (cg_ty h3).trans (Y_tyb hbb)
          exact ⟨fun _ => go, fun _ => ⟨fun _ => go, fun _ => ⟨fun _ => go, fun q => absurd e3 q⟩⟩⟩
        · cases e with
          | zero => exact absurd wt (fun q => q)
          | succ e =>
            dsimp only [w_hear_38] at wt ⊢
            exact rg_s0 hE hr (c := 44) rfl (fun q => absurd q z) (fun _ wt => hear_bG hE c n41 ho rfl k M F Q Q' hr wt hQ) wt
theorem ys_sl (hE : E_ok E) {x' : y_X} (hb : x.1 = false) (z : Y_ty E x = 210) (hy : x'.1 = false → E_A E (Y_t x + 1) = 130) (hwL : w < E_L E) {a : Nat} {d : Int} {e : Int32} (m : ym E a d e x y) (ha : 3 ≤ a) (hd : d ≤ 0) (he : e + -1 = 0) (h : hmG E w y x') : ys E 1 0 0 x x' := by
  obtain ⟨⟨c, y5, e5, m5⟩, g⟩ := h
  refine ⟨?_, fun q => ?_⟩
  · rw [e5]
    refine xs_sl hE hb z (fun q => hy ?_) hwL (xm_w (xm_tr m.1 m5) (by omega) (by omega) he)
    exact (congrArg (fun z : x_X => z.1) e5).trans q
  · have q5 : y5.1 = false := (congrArg (fun z : x_X => z.1) e5).symm.trans q
    obtain ⟨b1, -, -, -, -, -, b11, b12, -⟩ := m5 q5
    exact gx_tr (fun z => b11 ((congrArg X_2 e5).symm.trans z)) (fun z => b12 ((congrArg X_3 e5).symm.trans z)) (m.2 b1) (g q)
theorem st_hearG (hE : E_ok E) (hx : yg E 4 x) (hh : hlG E x) (z : Y_ty E x = 210) : ∃ x', jSG E x x' := by
  have hb := Y_tyn z (by decide)
  have m0 := ym_0 (yg_t hx)
  have z' : Y_ty E (Y_0 x) = 210 := Y_0_ty.trans z
  have hlt : (Y_0 x).1 = false → Y_t (Y_0 x) < E_m E := yq_lt hE (ym_t m0) z' (by decide)
  have m1 := ym_t0 m0 (ym_ad hE hlt)
  have Mm1 := (ym_ad hE hlt)
  have hb1 : (Y_ad (Y_0 x)).1 = false := hb
  have m2 := ym_t0 m1 (ym_tk hE (ym_t m1) (c := 130) (by decide))
  have Mm2 := ym_t0 Mm1 (ym_tk hE (ym_t m1) (c := 130) (by decide))
  have g2 : yg E 10 (Y_tk E 130 (Y_ad (Y_0 x))) := yg_m hx m2 (by decide)
  have mo := ym_op hE (yg_t g2) (c := 40) (by decide)
  have g3 := Y_op_g hE (c := 40) g2 (by decide)
  have g3' : yg E 0 (Y_op E 40 (Y_tk E 130 (Y_ad (Y_0 x)))) := yg_o (yg_m hx m2 (c' := 2) (by decide)) mo (fun q => (Y_op_i q).2.2.1) (by decide)
  have m3 := ym_w (ym_tr m2 mo) (a' := 3) (d' := -5) (e' := 1) (by decide) (by decide) (by decide)
  have Mm3 := ym_w (ym_tr Mm2 mo) (a' := 3) (d' := -5) (e' := 1) (by decide) (by decide) (by decide)
  have nm : (Y_op E 40 (Y_tk E 130 (Y_ad (Y_0 x)))).1 = false → Y_ty E (Y_ad (Y_0 x)) = 130 := fun q => (Y_tk_g (Y_op_i q).1).1
  have nA : (Y_op E 40 (Y_tk E 130 (Y_ad (Y_0 x)))).1 = false → E_A E (Y_t x + 1) = 130 := fun q => (Y_tyg hb1).symm.trans (nm q)
  have h93 : (Y_op E 40 (Y_tk E 130 (Y_ad (Y_0 x)))).1 = false → 9 * (Y_l (Y_op E 40 (Y_tk E 130 (Y_ad (Y_0 x))))).length ≤ E_n E := fun q => by
    have e : Y_l (Y_op E 40 (Y_tk E 130 (Y_ad (Y_0 x)))) = Y_l x := (m3.1 q).2.2.2.1
    rw [e]
    have h1 : 9 * (Y_l x).length ≤ E_p E (Y_t x) := hh hb
    have := E_pn hE (yg_t hx hb)
    omega
  have hw : (Y_op E 40 (Y_tk E 130 (Y_ad (Y_0 x)))).1 = false → E_V E (Y_t (Y_ad (Y_0 x))) = nI (33 + E_w E (Y_t (Y_ad (Y_0 x)))) := fun q => (E_word hE (ym_t m1 hb1) (Or.inl ((Y_tyg hb1).symm.trans (nm q)))).2.1
  have hwL : (Y_op E 40 (Y_tk E 130 (Y_ad (Y_0 x)))).1 = false → E_w E (Y_t (Y_ad (Y_0 x))) < E_L E := fun q => (E_word hE (ym_t m1 hb1) (Or.inl ((Y_tyg hb1).symm.trans (nm q)))).2.2.1
  have ho3 := Y_op_1 (y := Y_op E 40 (Y_tk E 130 (Y_ad (Y_0 x)))) g2 g3 (ym_rf (yg_t g3))
  have jpp : ∀ (n : Nat) (p : Int32), jbG n p x → jpG 22 (p + 1) (Y_op E 40 (Y_tk E 130 (Y_ad (Y_0 x)))) := fun n p hp => ⟨by decide, fun q => by
    have l1 : (1 : Int32).toInt = 1 := by decide
    obtain ⟨a1, -, -, a4⟩ := Y_op_i q
    obtain ⟨b1, b2⟩ := ym_i0 m2 a1
    have o := yg_oo g3 q
    show 22 ≤ (Y_i (Y_op E 40 (Y_tk E 130 (Y_ad (Y_0 x)))) 0).toInt + 22 ∧ p + 1 = Y_i (Y_op E 40 (Y_tk E 130 (Y_ad (Y_0 x)))) 0
    refine ⟨by omega, ?_⟩
    rw [a4, b2, (jbG_2 hp hb).2]⟩
  generalize ey3 : Y_op E 40 (Y_tk E 130 (Y_ad (Y_0 x))) = y3 at *
  -- the class's and the reference's ways to the arguments
  have cw : ∀ (x' : y_X), (∀ (p : Int32) (k : x_Kt) (s : f_S3) (O : Nat × Nat) (Q : f_S3 → Nat × Nat → Prop) (a2 a3 : Int32), jpG 22 (p + 1) y3 → (y3.1 = false → a2 = nI (33 + E_w E (Y_t (Y_ad (Y_0 x)))) ∧ ¬ a3 = -1) → rcG E k s y3 → (∀ s', rcG E k s' x' → Q s' O) → ∃ e, wF_X7_hearingOther_34 (E_N E) (cff (E_N E) 22) (fun M O => wF_X7_take (E_N E) 59 M O Q) e p a2 a3 0 0 s O) → (∀ (k : x_B) (M : Nat → Int32) (F : Nat → Nat → Int32) (Q Q' : (Nat → Int32) → (Nat → Nat → Int32) → Prop) (a1 a2 : Int32), (y3.1 = false → a1 = nI (E_w E (Y_t (Y_ad (Y_0 x)))) ∧ ¬ a2 = -1) → rxG E k M F y3 → (∀ M' F', rxG E k M' F' x' → Q M' F' → Q' M' F') → (w_isSign 41 M F (fun r5 M6 F6 => ((¬ r5 = 0 → (w_hear_61 (wf_fac 22) Q a1 a2 0 M6 F6)) ∧ (r5 = 0 → (w_whole (wf_fac 22) M6 F6 (fun M24 F24 => (∃ e38, w_hear_38 (wf_fac 22) Q e38 a1 a2 1 M24 F24))))))) → (w_isSign 41 M F (fun r5 M6 F6 => ((¬ r5 = 0 → (w_hear_61 (wf_fac 22) Q' a1 a2 0 M6 F6)) ∧ (r5 = 0 → (w_whole (wf_fac 22) M6 F6 (fun M24 F24 => (∃ e38, w_hear_38 (wf_fac 22) Q' e38 a1 a2 1 M24 F24)))))))) → ys E 1 0 0 x x' → fS E x x' → ∃ x', jSG E x x' := by
    intro x' hc hr ms mf
    refine ⟨x', fun n p hp K s O Q hs hQ => ?_, fun n k M F Q Q' hr0 w hQ => ?_, ms, mf⟩
    · refine st_cG hE hx (by decide) (by rw [z]; decide) (by rw [z]; decide) (by rw [z]; decide) hs (fun s1 h1 => st_B210 ((cg_ty h1).trans z') ?_)
      refine cg_adv hE h1 hlt (fun s2 h2 => cg_take hE h2 (by decide) (by decide) (fun s3 h3 => cg_open hE h3 (yg_oo g2) (by decide) (by decide) (fun q => ?_) (fun s4 h4 => ?_)))
      · obtain ⟨b1, b2⟩ := ym_i0 m2 q
        rw [b2]; exact (jbG_2 hp hb).2
      · rw [ey3] at h4
        exact hc p _ s4 O Q _ _ (jpp n p hp) (fun q => ⟨(h2.1.2 hb1).1.2.1.2.2.1.trans (hw q), by rw [(h2.1.2 hb1).1.2.1.2.2.2]; exact E_Pn hE (ym_t m1 hb1)⟩) h4 hQ
    · refine st_rG hE 10 (by decide) (by decide) (by decide) z hr0 (fun M1 F1 r1 e5 w1 => st_W10 (e5.trans (by decide)) (fun w => ?_) w1) w
      refine rg_pass hE hlt k M1 F1 _ _ r1 w (fun M2 F2 r2 w2 => rg_takenW hE (Or.inl ⟨rfl, rfl⟩) r2 w2 (fun r M3 F3 r3 hr3 w3 => rg_opens hE (c := 40) rfl k M3 F3 _ _ r3 w3 (fun M4 F4 r4 w4 => ?_)))
      rw [ey3] at r4
      exact hr k M4 F4 _ _ r (M3 47) (fun q => hr3 (nm q)) r4 (fun M5 F5 r5 w5 => hQ M5 F5 r5 w5) w4
  have e01 : (0 : Int32) + 1 = 1 := by decide
  cases hb3 : y3.1 with
  | true =>
    obtain ⟨x5, tc, tr, tm⟩ := hear_tG (w := E_w E (Y_t (Y_ad (Y_0 x)))) hE 0 (yg_w g3' (by decide)) ho3 h93
    have h5 : x5.1 = true := by
      cases q : x5.1 with
      | true => rfl
      | false =>
        obtain ⟨⟨c', y5, e5, m5⟩, -⟩ := tm
        have q5 : y5.1 = false := (congrArg (fun z : x_X => z.1) e5).symm.trans q
        exact absurd (hb3.symm.trans (m5 q5).1) (by decide)
    obtain ⟨xb, a, b, me⟩ := j_EG hE g3
    have hbb : xb.1 = true := by
      cases q : xb.1 with
      | true => rfl
      | false => exact absurd (hb3.symm.trans (me.1 q).1) (by decide)
    refine cw (Y_bd x) (fun p k s O Q a2 a3 hp ha hs hQ => ⟨1, ?_⟩) (fun k M F Q Q' a1 a2 ha hr hQ w => ?_) (ys_bd rfl) (fun n => absurd n (nf_bd rfl))
    · have go := tc (cff (E_N E) 22) k s O Q a2 a3 ha hs (fun s4 h4 => hQ s4 (rcG_bd (h4.1.1 h5) rfl))
      have e3 := (cg_ty hs).trans (Y_tyb hb3)
      exact ⟨fun _ => go, fun _ => ⟨fun _ => go, fun _ => ⟨fun _ => go, fun q => absurd e3 q⟩⟩⟩
    · refine rg_s1 hE hr (c := 41) rfl (fun q => absurd ((Y_tyb hb3).symm.trans q) (by decide)) (fun _ w => ?_) w
      refine b 22 k M F _ _ hr w (fun M1 F1 r1 w1 => ?_)
      obtain ⟨e, w1⟩ := w1
      refine ⟨e, ?_⟩
      cases e with
      | zero => exact absurd w1 (fun q => q)
      | succ e =>
        dsimp only [w_hear_38] at w1 ⊢
        exact rg_s0 hE r1 (c := 44) rfl (fun q => absurd ((Y_tyb hbb).symm.trans q) (by decide)) (fun _ wt => hear_bG hE 1 (by rw [Y_tyb hbb]; decide) (fun q => absurd (hbb.symm.trans q) (by decide)) (x' := Y_bd x) rfl k M1 F1 Q Q' r1 wt hQ) w1
  | false =>
    have n137 : ¬ Y_ty E y3 = 137 := fun q => E_ty hE (yg_t g3 hb3) ((Y_tyg hb3).symm.trans q)
    by_cases z3 : Y_ty E y3 = 41
    · obtain ⟨x', tc, tr, tm⟩ := hear_tG (w := E_w E (Y_t (Y_ad (Y_0 x)))) hE 0 (yg_w g3' (by decide)) ho3 h93
      refine cw x' (fun p k s O Q a2 a3 hp ha hs hQ => ⟨1, ?_⟩) (fun k M F Q Q' a1 a2 ha hr hQ w => ?_) (ys_sl hE hb z (fun _ => nA hb3) (hwL hb3) m3 (by decide) (by decide) (by decide) tm) (fS_of (ys_sl (x := Y_0 x) hE hb z' (fun _ => nA hb3) (hwL hb3) Mm3 (by decide) (by decide) (by decide) tm).2)
      · have go := tc (cff (E_N E) 22) k s O Q a2 a3 ha hs hQ
        have e3 := (cg_ty hs).trans z3
        exact ⟨fun _ => go, fun _ => ⟨fun _ => go, fun q => absurd e3 q⟩⟩
      · exact rg_s1 hE hr (c := 41) rfl (fun _ w => tr _ a1 a2 ha k M F Q Q' hr w hQ) (fun q => absurd z3 q) w
    · obtain ⟨x1, a, b, me⟩ := j_EG hE g3
      have m31 := ym_w (ym_tr m3 me) (a' := 4) (d' := -5) (e' := 1) (by decide) (by decide) (by decide)
      have Mm31 := ym_w (ym_tr Mm3 me) (a' := 4) (d' := -5) (e' := 1) (by decide) (by decide) (by decide)
      obtain ⟨x', ia, ib, im⟩ := hear_LG (w := E_w E (Y_t (Y_ad (Y_0 x)))) hE (E_m E + 1) x1 1 (yg_m g3' me (c' := 8) (by decide)) (fun q => by
        obtain ⟨c1, c2⟩ := ym_i0 me q
        rw [c2]; exact ho3 c1) (fun q => by
        have e : Y_l x1 = Y_l y3 := (me.1 q).2.2.2.1
        rw [e]; exact h93 hb3) (fun _ => by omega) (fun q => by
        rw [show (1 : Int32).toInt = 1 by decide]
        have h1 : Y_t y3 + 1 ≤ Y_t x1 := (me.1 q).2.1.1
        omega)
      refine cw x' (fun p k s O Q a2 a3 hp ha hs hQ => ⟨(E_m E + 2) + 1, ?_⟩) (fun k M F Q Q' a1 a2 ha hr hQ w => ?_) (ys_sl hE hb z (fun _ => nA hb3) (hwL hb3) m31 (by decide) (by decide) (by decide) im) (fS_of (ys_sl (x := Y_0 x) hE hb z' (fun _ => nA hb3) (hwL hb3) Mm31 (by decide) (by decide) (by decide) im).2)
      · have e3 := cg_ty hs
        refine ⟨fun q => absurd q (by decide), fun _ => ⟨fun q => absurd (e3.symm.trans q) z3, fun _ => ⟨fun q => absurd (e3.symm.trans q) n137, fun _ => ⟨fun _ => ?_, fun q => absurd (by decide) q⟩⟩⟩⟩
        refine a 22 (p + 1) hp k s O _ hs (fun s1 h1 => ?_)
        have go := ia p 1 (E_m E + 2) k s1 O Q a2 a3 (jpG_m hp me) (fun q => by
          rw [show (1 : Int32).toInt = 1 by decide]
          have h1 : Y_t y3 + 1 ≤ Y_t x1 := (me.1 q).2.1.1
          show 0 ≤ (1 : Int) ∧ (1 : Int) ≤ (Y_t x1 : Int)
          omega) (by omega) (fun _ => ha hb3) h1 hQ
        rw [← e01] at go
        exact go
      · refine rg_s1 hE hr (c := 41) rfl (fun q => absurd q z3) (fun _ w => ?_) w
        refine b 22 k M F _ _ hr w (fun M1 F1 r1 w1 => ?_)
        obtain ⟨e, w1⟩ := w1
        exact ⟨e, ib e a1 a2 (fun _ => ha hb3) k M1 F1 Q Q' r1 w1 hQ⟩
end YS6
