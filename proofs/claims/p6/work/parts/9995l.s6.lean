/-! STATEMENTS: hear, its arguments and what stands behind them. -/
section XS6
variable {E : x_E} {x y : x_X} {w : Nat}
theorem hear_t (hE : E_ok E) (hn : E_no E) (c : Int32) (hx : xg E 8 x) (ho : x.1 = false → 1 ≤ (X_i x 0).toInt ∧ (X_i x 0).toInt ≤ 20) (h9 : x.1 = false → 9 * (X_l x).length ≤ E_n E) : ∃ y5, (∀ (WF : Int32 → x_CW) (k : x_Kt) (s : f_S3) (O : Nat × Nat) (Q : f_S3 → Nat × Nat → Prop) (a2 a3 : Int32), (x.1 = false → a2 = nI (33 + w) ∧ ¬ a3 = -1) → rc E k s x → (∀ s', rc E k s' (X_sl w c y5) → Q s' O) → wF_X7_hearingOther_88 (E_N E) WF (fun M O => wF_X7_take (E_N E) 59 M O Q) a2 a3 c s O) ∧ (∀ (WF : x_RW) (a1 a2 : Int32), (x.1 = false → a1 = nI w ∧ ¬ a2 = -1) → rr E (fun M F Q => w_hear_61 WF Q a1 a2 c M F) x (X_sl w c y5)) ∧ xm E 2 0 (-1) x y5 := by
  have m1 := xm_cl hE (xg_t hx) (c := 41) (by decide)
  have g1 : xg E 6 (X_cl E 41 x) := fun q => by
    have l1 : (1 : Int32).toInt = 1 := by decide
    obtain ⟨c1, ⟨c2, c3⟩, c4, c5, ⟨c6, c7, c8⟩, -⟩ := m1 q
    obtain ⟨d1, d2, d3⟩ := hx c1
    have o := ho c1
    refine ⟨c3, ?_, by omega⟩
    rw [c6, show (-1 : Int32) = - 1 from rfl, ← Int32.sub_eq_add_neg, ti_subx _ _ (by rw [l1]; omega), l1]
    omega
  have m2 := xm_pt (xg_t g1) 3
  have hb1 : (X_cl E 41 x).1 = false → x.1 = false := fun q => (m1 q).1
  have h91 : (X_cl E 41 x).1 = false → 9 * (X_l (X_cl E 41 x)).length ≤ E_n E := fun q => by
    rw [(m1 q).2.2.2.1]; exact h9 (hb1 q)
  by_cases z : X_ty E (X_cl E 41 x) = 211
  · have hlt := xq_lt hE (xg_t g1) z (by decide)
    have m3 := xm_t0 m2 (xm_ad hE (x := X_pt 3 (X_cl E 41 x)) hlt)
    have m4 := xm_t0 m3 (xm_nm hE (xm_t m3))
    have m5 := xm_t0 m4 (xm_pt (xm_t m4) 2)
    have m6 := xm_t0 m5 (xm_tk hE (xm_t m5) (c := 59) (by decide))
    refine ⟨_, fun WF k s O Q a2 a3 ha hs hQ => ?_, fun WF a1 a2 ha k M F Q Q' hr wt hQ => ?_, xm_w (xm_tr m1 m6) (by decide) (by decide) (by decide)⟩
    · refine c_take hE hs (by decide) (by decide) (fun s1 h1 => ?_)
      have h1 : rc E k s1 (X_cl E 41 x) := rc_o h1
      refine c_keep (w := w) hE h1 (xg_lo (n := 13) g1 (by decide)) h91 (fun q => ha (hb1 q)) (fun s2 h2 => ?_)
      have e2 : X_ty E (X_sl w c (X_pt 3 (X_cl E 41 x))) = 211 := z
      refine ⟨fun q => absurd ((c_ty h2).trans e2) q, fun _ => c_adv hE h2 hlt (fun s3 h3 => c_name hE h3 (fun r s4 h4 => ?_))⟩
      have eA : X_ad (X_sl w c (X_pt 3 (X_cl E 41 x))) = X_sl w c (X_ad (X_pt 3 (X_cl E 41 x))) := rfl
      rw [eA, X_sl_nm] at h4
      refine c_emit2 (c := 14) hE h4 (fun q => ?_) (by decide) (fun s5 h5 => c_take hE h5 (by decide) (by decide) (fun s6 h6 => hQ s6 ?_))
      · have lo := xg_lo (n := 14) (xg_m g1 m4 (c' := 14) (by decide)) (by decide) q
        exact lo
      · have eP : X_pt 2 (X_sl w c (X_nm E (X_ad (X_pt 3 (X_cl E 41 x))))) = X_sl w c (X_pt 2 (X_nm E (X_ad (X_pt 3 (X_cl E 41 x))))) := rfl
        rw [eP, X_sl_tk] at h6
        exact h6
    · refine re_closes hE (c := 41) rfl ho k M F _ _ hr wt (fun M1 F1 r1 w1 => ?_)
      refine re_w0 hE r1 11 (by decide) (c := 11) (d := 211) (by decide) (by decide) (fun _ wt => ?_) (fun q => absurd z q) w1
      refine re_pass hE (x := X_pt 3 (X_cl E 41 x)) hlt k M1 F1 _ _ (rx_pt r1) wt (fun M2 F2 r2 w2 => ?_)
      refine re_name hE k M2 F2 _ _ r2 w2 (fun r M3 F3 r3 w3 => ?_)
      refine re_102 (w := w) (c := c) hE (fun q => ?_) k M3 F3 _ _ (rx_pt (j := 2) r3) w3 (fun M4 F4 r4 w4 => hQ M4 F4 r4 w4)
      have q5 := (X_tk_g q).2.2
      have mm := xm_tr m1 m5 q5
      have hb0 := mm.1
      exact ⟨by rw [mm.2.2.2.1]; exact h9 hb0, ha hb0⟩
  · have m3 := xm_t0 m2 (xm_pt (xm_t m2) 1)
    have m4 := xm_t0 m3 (xm_tk hE (xm_t m3) (c := 59) (by decide))
    refine ⟨_, fun WF k s O Q a2 a3 ha hs hQ => ?_, fun WF a1 a2 ha k M F Q Q' hr wt hQ => ?_, xm_w (xm_tr m1 m4) (by decide) (by decide) (by decide)⟩
    · refine c_take hE hs (by decide) (by decide) (fun s1 h1 => ?_)
      have h1 : rc E k s1 (X_cl E 41 x) := rc_o h1
      refine c_keep (w := w) hE h1 (xg_lo (n := 13) g1 (by decide)) h91 (fun q => ha (hb1 q)) (fun s2 h2 => ?_)
      have e2 : ¬ X_ty E (X_sl w c (X_pt 3 (X_cl E 41 x))) = 211 := z
      refine ⟨fun _ => c_emit (c := 15) hE h2 (fun q => ?_) (by decide) (fun s5 h5 => c_take hE h5 (by decide) (by decide) (fun s6 h6 => hQ s6 ?_)), fun q => absurd ((c_ty h2).symm.trans q) e2⟩
      · have lo := xg_lo (n := 15) (xg_m g1 m2 (c' := 15) (by decide)) (by decide) q
        exact lo
      · have eP : X_pt 1 (X_sl w c (X_pt 3 (X_cl E 41 x))) = X_sl w c (X_pt 1 (X_pt 3 (X_cl E 41 x))) := rfl
        rw [eP, X_sl_tk] at h6
        exact h6
    · refine re_closes hE (c := 41) rfl ho k M F _ _ hr wt (fun M1 F1 r1 w1 => ?_)
      refine re_w0 hE r1 11 (by decide) (c := 11) (d := 211) (by decide) (by decide) (fun q => absurd q z) (fun _ wt => ?_) w1
      refine re_102 (w := w) (c := c) hE (fun q => ?_) k M1 F1 _ _ (rx_pt (j := 1) (rx_pt (j := 3) r1)) wt (fun M4 F4 r4 w4 => hQ M4 F4 r4 w4)
      have q5 := (X_tk_g q).2.2
      have mm := xm_tr m1 m3 q5
      have hb0 := mm.1
      exact ⟨by rw [mm.2.2.2.1]; exact h9 hb0, ha hb0⟩
/-- the reference where no ')' stands: it is bad behind -/
theorem hear_b (hE : E_ok E) (c : Int32) (hb : X_ty E x ≠ 41) (ho : x.1 = false → 1 ≤ (X_i x 0).toInt ∧ (X_i x 0).toInt ≤ 20) {WF : x_RW} {a1 a2 : Int32} {x' : x_X} (hx' : x'.1 = true) : rr E (fun M F Q => w_hear_61 WF Q a1 a2 c M F) x x' := fun k M F Q Q' hr wt hQ => by
  have e1 : (X_cl E 41 x).1 = true := by
    show (X_tk E 41 x).1 = true
    unfold X_tk; rw [if_neg hb]; rfl
  refine re_closes hE (c := 41) rfl ho k M F _ _ hr wt (fun M1 F1 r1 w1 => ?_)
  refine re_w0 hE r1 11 (by decide) (c := 11) (d := 211) (by decide) (by decide) (fun q => absurd ((X_tyb e1).symm.trans q) (by decide)) (fun _ wt => ?_) w1
  exact re_102 (w := 0) (c := c) hE (fun q => absurd ((X_tk_b e1).symm.trans q) (by decide)) k M1 F1 _ _ r1 wt (fun M2 F2 r2 w2 => hQ M2 F2 (rx_zb (r2.1 (X_tk_b e1)) hx') w2)
def hmm (E : x_E) (w : Nat) (x x' : x_X) : Prop := ∃ c y5, x' = X_sl w c y5 ∧ xm E 2 0 (-1) x y5
theorem hear_L (hE : E_ok E) (hn : E_no E) : ∀ (i : Nat) (x : x_X) (c : Int32), xg E 8 x → (x.1 = false → 1 ≤ (X_i x 0).toInt ∧ (X_i x 0).toInt ≤ 20) → (x.1 = false → 9 * (X_l x).length ≤ E_n E) → jt E i x → (x.1 = false → 1 ≤ c.toInt ∧ c.toInt ≤ X_t x) → ∃ x', (∀ (p a : Int32) (e : Nat) (k : x_Kt) (s : f_S3) (O : Nat × Nat) (Q : f_S3 → Nat × Nat → Prop) (a2 a3 : Int32), jp 22 (p + 1) x → ja a x → i < e → (x.1 = false → a2 = nI (33 + w) ∧ ¬ a3 = -1) → rc E k s x → (∀ s', rc E k s' x' → Q s' O) → wF_X7_hearingOther_34 (E_N E) (cff (E_N E) 22) (fun M O => wF_X7_take (E_N E) 59 M O Q) e p a2 a3 c a s O) ∧ (∀ (e : Nat) (a1 a2 : Int32), (x.1 = false → a1 = nI w ∧ ¬ a2 = -1) → rr E (fun M F Q => w_hear_38 (wf_fac 22) Q e a1 a2 c M F) x x') ∧ hmm E w x x' := by
  have ex : ∀ (i : Nat) (x : x_X) (c : Int32), xg E 8 x → (x.1 = false → 1 ≤ (X_i x 0).toInt ∧ (X_i x 0).toInt ≤ 20) → (x.1 = false → 9 * (X_l x).length ≤ E_n E) → (X_ty E x = 41 ∨ x.1 = true) → ∃ x', (∀ (p a : Int32) (e : Nat) (k : x_Kt) (s : f_S3) (O : Nat × Nat) (Q : f_S3 → Nat × Nat → Prop) (a2 a3 : Int32), i < e → (x.1 = false → a2 = nI (33 + w) ∧ ¬ a3 = -1) → rc E k s x → (∀ s', rc E k s' x' → Q s' O) → wF_X7_hearingOther_34 (E_N E) (cff (E_N E) 22) (fun M O => wF_X7_take (E_N E) 59 M O Q) e p a2 a3 c a s O) ∧ (∀ (e : Nat) (a1 a2 : Int32), (x.1 = false → a1 = nI w ∧ ¬ a2 = -1) → rr E (fun M F Q => w_hear_38 (wf_fac 22) Q e a1 a2 c M F) x x') ∧ hmm E w x x' := by
    intro i x c hx ho h9 hz
    obtain ⟨y5, tc, tr, tm⟩ := hear_t (w := w) hE hn c hx ho h9
    have hz' : X_ty E x = 41 ∨ X_ty E x = 137 := hz.imp id (fun q => X_tyb q)
    refine ⟨X_sl w c y5, fun p a e k s O Q a2 a3 he ha hs hQ => ?_, fun e a1 a2 ha k M F Q Q' hr wt hQ => ?_, c, y5, rfl, tm⟩
    · obtain ⟨e, rfl⟩ : ∃ e', e = e' + 1 := ⟨e - 1, by omega⟩
      dsimp only [wF_X7_hearingOther_34]
      have go := tc (cff (E_N E) 22) k s O Q a2 a3 ha hs hQ
      rw [c_ty hs]
      exact ⟨fun _ => go, fun _ => ⟨fun _ => go, fun q1 => ⟨fun _ => go, fun q2 => absurd hz' (fun q => q.elim q1 q2)⟩⟩⟩
    · cases e with
      | zero => exact absurd wt (fun q => q)
      | succ e =>
        dsimp only [w_hear_38] at wt ⊢
        refine re_s0 hE hr (c := 44) rfl (fun q _ => ?_) (fun _ wt => tr _ a1 a2 ha k M F Q Q' hr wt hQ) wt
        rw [q] at hz'; exact absurd hz' (by decide)
  intro i
  induction i with
  | zero =>
    intro x c hx ho h9 ht hc
    have hb : x.1 = true := by
      cases q : x.1 with
      | true => rfl
      | false => have := ht q; have := xg_t hx q; omega
    obtain ⟨x', a, b, m⟩ := ex 0 x c hx ho h9 (Or.inr hb)
    exact ⟨x', fun p a' e k s O Q a2 a3 _ _ he => a p a' e k s O Q a2 a3 he, b, m⟩
  | succ i ih =>
    intro x c hx ho h9 ht hc
    by_cases hz : X_ty E x = 41 ∨ x.1 = true
    · obtain ⟨x', a, b, m⟩ := ex (i + 1) x c hx ho h9 hz
      exact ⟨x', fun p a' e k s O Q a2 a3 _ _ he => a p a' e k s O Q a2 a3 he, b, m⟩
    · have hb : x.1 = false := by
        cases q : x.1 with
        | true => exact absurd (Or.inr q) hz
        | false => rfl
      have n41 : ¬ X_ty E x = 41 := fun q => hz (Or.inl q)
      have n137 : ¬ X_ty E x = 137 := fun q => E_ty hE (xg_t hx hb) ((X_tyg hb).symm.trans q)
      have nc : ¬ c ≤ 0 := fun q => by
        have := hc hb
        rw [Int32.le_iff_toInt_le, show (0 : Int32).toInt = 0 by decide] at q
        omega
      by_cases z : X_ty E x = 44
      · have hlt := xq_lt hE (xg_t hx) z (by decide)
        have m0 := xm_ad hE hlt
        obtain ⟨x1, a, b, me⟩ := j_E hE hn (xg_m hx m0 (c' := 10) (by decide))
        have m1 := xm_t0 m0 me
        have l1 : (1 : Int32).toInt = 1 := by decide
        obtain ⟨x', ia, ib, c', y5, e5, m5⟩ := ih x1 (c + 1) (xg_m hx m1 (c' := 8) (by decide)) (fun q => by
            obtain ⟨c1, c2⟩ := xm_i0 m1 q
            rw [c2]; exact ho c1) (fun q => by rw [(m1 q).2.2.2.1]; exact h9 (m1 q).1) (jt_m (jt_w ht (Nat.add_le_add_left (by decide) i)) m1) (fun q => by
            obtain ⟨c1, ⟨c2, c3⟩, -⟩ := m1 q
            have h := hc c1
            have := E_n4 hE
            rw [ti_addx _ _ (by rw [l1]; omega), l1]
            omega)
        refine ⟨x', fun p a' e k s O Q a2 a3 hp ha he h2 hs hQ => ?_, fun e a1 a2 ha k M F Q Q' hr wt hQ => ?_, c', y5, e5, xm_w (xm_tr m1 m5) (by decide) (by decide) (by decide)⟩
        · obtain ⟨e, rfl⟩ : ∃ e', e = e' + 1 := ⟨e - 1, by omega⟩
          dsimp only [wF_X7_hearingOther_34]
          have e0 := c_ty hs
          refine ⟨fun q => absurd q (ja_4 hE ha hb (xg_t hx hb)), fun _ => ⟨fun q => absurd (e0.symm.trans q) n41, fun _ => ⟨fun q => absurd (e0.symm.trans q) n137, fun _ => ⟨fun q => absurd q nc, fun _ => ?_⟩⟩⟩⟩
          refine c_take hE hs (by decide) (by decide) (fun s1 h1 => ?_)
          have etk : X_tk E 44 x = X_ad x := by unfold X_tk; rw [if_pos z]
          rw [etk] at h1
          exact a 22 (p + 1) (jp_m hp m0) k s1 O _ h1 (fun s3 h3 => ia p (a' + 1) e k s3 O Q a2 a3 (jp_m hp m1) (ja_m hE ha m1 (by decide)) (by omega) (fun q => h2 (m1 q).1) h3 hQ)
        · cases e with
          | zero => exact absurd wt (fun q => q)
          | succ e =>
            dsimp only [w_hear_38] at wt ⊢
            refine re_s0 hE hr (c := 44) rfl (fun _ wt => ?_) (fun q => absurd z q) wt
            exact re_pass hE hlt k M F _ _ hr wt (fun M1 F1 r1 w1 => b 22 k M1 F1 _ _ r1 w1 (fun M2 F2 r2 w2 => ib e a1 a2 (fun q => ha (m1 q).1) k M2 F2 Q Q' r2 w2 hQ))
      · obtain ⟨xb, a, b, me⟩ := j_E hE hn (x := X_bd x) (fun q => absurd q (by show ¬ true = false; decide))
        have hbb : xb.1 = true := by
          cases q : xb.1 with
          | true => rfl
          | false => exact absurd (me q).1 (by show ¬ true = false; decide)
        obtain ⟨y5, tc, tr, tm⟩ := hear_t (w := w) (x := xb) hE hn (c + 1) (fun q => absurd (hbb.symm.trans q) (by decide)) (fun q => absurd (hbb.symm.trans q) (by decide)) (fun q => absurd (hbb.symm.trans q) (by decide))
        have h5 : y5.1 = true := by
          cases q : y5.1 with
          | true => rfl
          | false => exact absurd (hbb.symm.trans (tm q).1) (by decide)
        refine ⟨X_sl w c (X_bd x), fun p a' e k s O Q a2 a3 hp ha he h2 hs hQ => ?_, fun e a1 a2 ha k M F Q Q' hr wt hQ => ?_, c, X_bd x, rfl, xm_bd rfl⟩
        · obtain ⟨e, rfl⟩ : ∃ e', e = e' + 1 + 1 := ⟨e - 2, by omega⟩
          dsimp only [wF_X7_hearingOther_34]
          have e0 := c_ty hs
          refine ⟨fun q => absurd q (ja_4 hE ha hb (xg_t hx hb)), fun _ => ⟨fun q => absurd (e0.symm.trans q) n41, fun _ => ⟨fun q => absurd (e0.symm.trans q) n137, fun _ => ⟨fun q => absurd q nc, fun _ => ?_⟩⟩⟩⟩
          refine c_take hE hs (by decide) (by decide) (fun s1 h1 => ?_)
          have etk : X_tk E 44 x = X_bd x := by unfold X_tk; rw [if_neg z]
          rw [etk] at h1
          refine a 22 (p + 1) ⟨by decide, fun q => absurd q (by show ¬ true = false; decide)⟩ k s1 O _ h1 (fun s3 h3 => ?_)
          have go := tc (cff (E_N E) 22) k s3 O Q a2 a3 (fun q => absurd (hbb.symm.trans q) (by decide)) h3 (fun s4 h4 => hQ s4 (rc_bd (h4.1 h5) rfl))
          have e3 := (c_ty h3).trans (X_tyb hbb)
          exact ⟨fun _ => go, fun _ => ⟨fun _ => go, fun _ => ⟨fun _ => go, fun q => absurd e3 q⟩⟩⟩
        · cases e with
          | zero => exact absurd wt (fun q => q)
          | succ e =>
            dsimp only [w_hear_38] at wt ⊢
            exact re_s0 hE hr (c := 44) rfl (fun q => absurd q z) (fun _ wt => hear_b hE c n41 ho rfl k M F Q Q' hr wt hQ) wt
theorem xs_sl (hE : E_ok E) {c : Int32} (hb : x.1 = false) (z : X_ty E x = 210) (hy : y.1 = false → E_A E (X_t x + 1) = 130) (hwL : w < E_L E) (m : xm E 5 0 0 x y) : xs E 1 0 0 x (X_sl w c y) := fun q => by
  have q : y.1 = false := q
  obtain ⟨c1, ⟨c2, c3⟩, c4, c5, ⟨c6, c7, c8⟩, ⟨c9, c10⟩, c11, c12, -⟩ := m q
  have h1 := E_hear hE (t := X_t x) (by omega) ((X_tyg hb).symm.trans z) (hy q)
  have h2 := E_p_add hE (t := X_t x + 1) (t' := X_t y) (by omega) c3
  refine ⟨c1, ⟨by show X_t x + 1 ≤ X_t y; omega, c3⟩, c4, ?_, ⟨c6, c7⟩, c9, c10, c11, c12, fun p hp => ?_⟩
  rotate_left
  · have hp : p ∈ X_l y ++ [(w, c)] := hp
    rw [c5] at hp
    rcases List.mem_append.mp hp with h | h
    · exact Or.inl h
    · rw [List.mem_singleton.mp h]; exact Or.inr hwL
  show 9 * (X_l y ++ [(w, c)]).length + E_p E (X_t x) ≤ 9 * (X_l x).length + E_p E (X_t y)
  rw [List.length_append, c5]
  have : [(w, c)].length = 1 := rfl
  omega
theorem st_hear (hE : E_ok E) (hn : E_no E) (hx : xg E 4 x) (hh : hl E x) (z : X_ty E x = 210) : ∃ x', jSx E x x' := by
  have hb := X_tyn z (by decide)
  have hlt := xq_lt hE (xg_t hx) z (by decide)
  have m0 := xm_pt (xg_t hx) 1
  have m1 := xm_t0 m0 (xm_ad hE (x := X_pt 1 x) hlt)
  have hb1 : (X_ad (X_pt 1 x)).1 = false := hb
  have m2 := xm_t0 m1 (xm_tk hE (xm_t m1) (c := 130) (by decide))
  have g2 : xg E 10 (X_tk E 130 (X_ad (X_pt 1 x))) := xg_m hx m2 (by decide)
  have mo := xm_op hE (xg_t g2) (c := 40) (by decide)
  have g3 := X_op_g hE (c := 40) g2 (by decide)
  have g3' : xg E 0 (X_op E 40 (X_tk E 130 (X_ad (X_pt 1 x)))) := xg_o (xg_m hx m2 (c' := 2) (by decide)) mo (fun q => (X_op_i q).2.2.1) (by decide)
  have m3 := xm_w (xm_tr m2 mo) (a' := 3) (d' := -5) (e' := 1) (by decide) (by decide) (by decide)
  have nm : (X_op E 40 (X_tk E 130 (X_ad (X_pt 1 x)))).1 = false → X_ty E (X_ad (X_pt 1 x)) = 130 := fun q => (X_tk_g (X_op_i q).1).1
  have nA : (X_op E 40 (X_tk E 130 (X_ad (X_pt 1 x)))).1 = false → E_A E (X_t x + 1) = 130 := fun q => (X_tyg hb1).symm.trans (nm q)
  have h93 : (X_op E 40 (X_tk E 130 (X_ad (X_pt 1 x)))).1 = false → 9 * (X_l (X_op E 40 (X_tk E 130 (X_ad (X_pt 1 x))))).length ≤ E_n E := fun q => by
    rw [(m3 q).2.2.2.1]
    have := hh hb
    have := E_pn hE (xg_t hx hb)
    omega
  have hw : (X_op E 40 (X_tk E 130 (X_ad (X_pt 1 x)))).1 = false → E_V E (X_t (X_ad (X_pt 1 x))) = nI (33 + E_w E (X_t (X_ad (X_pt 1 x)))) := fun q => (E_word hE (xm_t m1 hb1) (Or.inl ((X_tyg hb1).symm.trans (nm q)))).2.1
  have hwL : (X_op E 40 (X_tk E 130 (X_ad (X_pt 1 x)))).1 = false → E_w E (X_t (X_ad (X_pt 1 x))) < E_L E := fun q => (E_word hE (xm_t m1 hb1) (Or.inl ((X_tyg hb1).symm.trans (nm q)))).2.2.1
  have ho3 := X_op_1 (y := X_op E 40 (X_tk E 130 (X_ad (X_pt 1 x)))) g2 g3 (xm_rf (xg_t g3))
  have jpp : ∀ (n : Nat) (p : Int32), jb n p x → jp 22 (p + 1) (X_op E 40 (X_tk E 130 (X_ad (X_pt 1 x)))) := fun n p hp => ⟨by decide, fun q => by
    have l1 : (1 : Int32).toInt = 1 := by decide
    obtain ⟨a1, -, -, a4⟩ := X_op_i q
    obtain ⟨b1, b2⟩ := xm_i0 m2 a1
    have o := xg_oo g3 q
    refine ⟨by omega, ?_⟩
    rw [a4, b2, (hp.2 hb).2]⟩
  -- the class's and the reference's ways to the arguments
  have cw : ∀ (x' : x_X), (∀ (p : Int32) (k : x_Kt) (s : f_S3) (O : Nat × Nat) (Q : f_S3 → Nat × Nat → Prop) (a2 a3 : Int32), jp 22 (p + 1) (X_op E 40 (X_tk E 130 (X_ad (X_pt 1 x)))) → ((X_op E 40 (X_tk E 130 (X_ad (X_pt 1 x)))).1 = false → a2 = nI (33 + E_w E (X_t (X_ad (X_pt 1 x)))) ∧ ¬ a3 = -1) → rc E k s (X_op E 40 (X_tk E 130 (X_ad (X_pt 1 x)))) → (∀ s', rc E k s' x' → Q s' O) → ∃ e, wF_X7_hearingOther_34 (E_N E) (cff (E_N E) 22) (fun M O => wF_X7_take (E_N E) 59 M O Q) e p a2 a3 0 0 s O) → (∀ (k : x_B) (M : Nat → Int32) (F : Nat → Nat → Int32) (Q Q' : (Nat → Int32) → (Nat → Nat → Int32) → Prop) (a1 a2 : Int32), ((X_op E 40 (X_tk E 130 (X_ad (X_pt 1 x)))).1 = false → a1 = nI (E_w E (X_t (X_ad (X_pt 1 x)))) ∧ ¬ a2 = -1) → rxx E k M F (X_op E 40 (X_tk E 130 (X_ad (X_pt 1 x)))) → (∀ M' F', rxx E k M' F' x' → Q M' F' → Q' M' F') → (w_isSign 41 M F (fun r5 M6 F6 => ((¬ r5 = 0 → (w_hear_61 (wf_fac 22) Q a1 a2 0 M6 F6)) ∧ (r5 = 0 → (w_whole (wf_fac 22) M6 F6 (fun M24 F24 => (∃ e38, w_hear_38 (wf_fac 22) Q e38 a1 a2 1 M24 F24))))))) → (w_isSign 41 M F (fun r5 M6 F6 => ((¬ r5 = 0 → (w_hear_61 (wf_fac 22) Q' a1 a2 0 M6 F6)) ∧ (r5 = 0 → (w_whole (wf_fac 22) M6 F6 (fun M24 F24 => (∃ e38, w_hear_38 (wf_fac 22) Q' e38 a1 a2 1 M24 F24)))))))) → xs E 1 0 0 x x' → ∃ x', jSx E x x' := by
    intro x' hc hr ms
    refine ⟨x', fun n p hp K s O Q hs hQ => ?_, fun n k M F Q Q' hr0 w hQ => ?_, ms⟩
    · refine st_c hE hx (by decide) (by rw [z]; decide) (by rw [z]; decide) (by rw [z]; decide) hs (fun s1 h1 => st_B210 ((c_ty h1).trans z) ?_)
      refine c_adv hE h1 hlt (fun s2 h2 => c_take hE h2 (by decide) (by decide) (fun s3 h3 => c_open hE h3 (xg_oo g2) (by decide) (by decide) (fun q => ?_) (fun s4 h4 => ?_)))
      · obtain ⟨b1, b2⟩ := xm_i0 m2 q
        rw [b2]; exact (hp.2 hb).2
      · exact hc p _ s4 O Q _ _ (jpp n p hp) (fun q => ⟨(h2.2 hb1).1.2.1.2.2.1.trans (hw q), by rw [(h2.2 hb1).1.2.1.2.2.2]; exact E_Pn hE (xm_t m1 hb1)⟩) h4 hQ
    · refine st_r hE 10 (by decide) (by decide) z hr0 (fun M1 F1 r1 e5 w1 => st_W10 (e5.trans (by decide)) (fun w => ?_) w1) w
      refine re_pass hE (x := X_pt 1 x) hlt k M1 F1 _ _ (rx_pt r1) w (fun M2 F2 r2 w2 => re_takenW hE (Or.inl ⟨rfl, rfl⟩) r2 w2 (fun r M3 F3 r3 hr3 w3 => re_opens hE (c := 40) rfl k M3 F3 _ _ r3 w3 (fun M4 F4 r4 w4 => ?_)))
      exact hr k M4 F4 _ _ r (M3 47) (fun q => hr3 (nm q)) r4 (fun M5 F5 r5 w5 => hQ M5 F5 r5 w5) w4
  have e01 : (0 : Int32) + 1 = 1 := by decide
  cases hb3 : (X_op E 40 (X_tk E 130 (X_ad (X_pt 1 x)))).1 with
  | true =>
    obtain ⟨y5, tc, tr, tm⟩ := hear_t (w := E_w E (X_t (X_ad (X_pt 1 x)))) hE hn 0 (xg_w g3' (by decide)) ho3 h93
    have h5 : y5.1 = true := by
      cases q : y5.1 with
      | true => rfl
      | false => exact absurd (hb3.symm.trans (tm q).1) (by decide)
    obtain ⟨xb, a, b, me⟩ := j_E hE hn g3
    have hbb : xb.1 = true := by
      cases q : xb.1 with
      | true => rfl
      | false => exact absurd (hb3.symm.trans (me q).1) (by decide)
    refine cw (X_bd x) (fun p k s O Q a2 a3 hp ha hs hQ => ⟨1, ?_⟩) (fun k M F Q Q' a1 a2 ha hr hQ w => ?_) (xs_bd rfl)
    · have go := tc (cff (E_N E) 22) k s O Q a2 a3 ha hs (fun s4 h4 => hQ s4 (rc_bd (h4.1 h5) rfl))
      have e3 := (c_ty hs).trans (X_tyb hb3)
      exact ⟨fun _ => go, fun _ => ⟨fun _ => go, fun _ => ⟨fun _ => go, fun q => absurd e3 q⟩⟩⟩
    · refine re_s1 hE hr (c := 41) rfl (fun q => absurd ((X_tyb hb3).symm.trans q) (by decide)) (fun _ w => ?_) w
      refine b 22 k M F _ _ hr w (fun M1 F1 r1 w1 => ?_)
      obtain ⟨e, w1⟩ := w1
      refine ⟨e, ?_⟩
      cases e with
      | zero => exact absurd w1 (fun q => q)
      | succ e =>
        dsimp only [w_hear_38] at w1 ⊢
        exact re_s0 hE r1 (c := 44) rfl (fun q => absurd ((X_tyb hbb).symm.trans q) (by decide)) (fun _ wt => hear_b hE 1 (by rw [X_tyb hbb]; decide) (fun q => absurd (hbb.symm.trans q) (by decide)) (x' := X_bd x) rfl k M1 F1 Q Q' r1 wt hQ) w1
  | false =>
    have n137 : ¬ X_ty E (X_op E 40 (X_tk E 130 (X_ad (X_pt 1 x)))) = 137 := fun q => E_ty hE (xg_t g3 hb3) ((X_tyg hb3).symm.trans q)
    by_cases z3 : X_ty E (X_op E 40 (X_tk E 130 (X_ad (X_pt 1 x)))) = 41
    · obtain ⟨y5, tc, tr, tm⟩ := hear_t (w := E_w E (X_t (X_ad (X_pt 1 x)))) hE hn 0 (xg_w g3' (by decide)) ho3 h93
      refine cw (X_sl _ 0 y5) (fun p k s O Q a2 a3 hp ha hs hQ => ⟨1, ?_⟩) (fun k M F Q Q' a1 a2 ha hr hQ w => ?_) (xs_sl hE hb z (fun _ => nA hb3) (hwL hb3) (xm_w (xm_tr m3 tm) (by decide) (by decide) (by decide)))
      · have go := tc (cff (E_N E) 22) k s O Q a2 a3 ha hs hQ
        have e3 := (c_ty hs).trans z3
        exact ⟨fun _ => go, fun _ => ⟨fun _ => go, fun q => absurd e3 q⟩⟩
      · exact re_s1 hE hr (c := 41) rfl (fun _ w => tr _ a1 a2 ha k M F Q Q' hr w hQ) (fun q => absurd z3 q) w
    · obtain ⟨x1, a, b, me⟩ := j_E hE hn g3
      have m31 := xm_w (xm_tr m3 me) (a' := 4) (d' := -5) (e' := 1) (by decide) (by decide) (by decide)
      obtain ⟨x', ia, ib, c', y5, e5, m5⟩ := hear_L (w := E_w E (X_t (X_ad (X_pt 1 x)))) hE hn (E_m E + 1) x1 1 (xg_m g3' me (c' := 8) (by decide)) (X_op_1 g2 g3 me) (fun q => by rw [(me q).2.2.2.1]; exact h93 hb3) (fun _ => by omega) (fun q => by
        rw [show (1 : Int32).toInt = 1 by decide]
        have := (me q).2.1.1
        omega)
      subst e5
      refine cw (X_sl (E_w E (X_t (X_ad (X_pt 1 x)))) c' y5) (fun p k s O Q a2 a3 hp ha hs hQ => ⟨(E_m E + 2) + 1, ?_⟩) (fun k M F Q Q' a1 a2 ha hr hQ w => ?_) (xs_sl hE hb z (fun _ => nA hb3) (hwL hb3) (xm_w (xm_tr m31 m5) (by decide) (by decide) (by decide)))
      · have e3 := c_ty hs
        refine ⟨fun q => absurd q (by decide), fun _ => ⟨fun q => absurd (e3.symm.trans q) z3, fun _ => ⟨fun q => absurd (e3.symm.trans q) n137, fun _ => ⟨fun _ => ?_, fun q => absurd (by decide) q⟩⟩⟩⟩
        refine a 22 (p + 1) hp k s O _ hs (fun s1 h1 => ?_)
        have go := ia p 1 (E_m E + 2) k s1 O Q a2 a3 (jp_m hp me) (fun q => by
          rw [show (1 : Int32).toInt = 1 by decide]
          have := (me q).2.1.1
          omega) (by omega) (fun _ => ha hb3) h1 hQ
        rw [← e01] at go
        exact go
      · refine re_s1 hE hr (c := 41) rfl (fun q => absurd q z3) (fun _ w => ?_) w
        refine b 22 k M F _ _ hr w (fun M1 F1 r1 w1 => ?_)
        obtain ⟨e, w1⟩ := w1
        exact ⟨e, ib e a1 a2 (fun _ => ha hb3) k M1 F1 Q Q' r1 w1 hQ⟩
end XS6
