/-! BOTH PARSERS TOGETHER, WITH WHAT THEY PUT: products, sums, expressions. -/
section YJ3
variable {E : x_E} {x y : y_X}
theorem ho_0 : ¬ (0 : Int32) = 18 ∧ ¬ (0 : Int32) = 20 ∧ ¬ (0 : Int32) = 21 ∧ ¬ (0 : Int32) = 22 ∧ ¬ (0 : Int32) = 23 ∧ ¬ (0 : Int32) = 24 := by decide
theorem ho_1 : ¬ (1 : Int32) = 18 ∧ ¬ (1 : Int32) = 20 ∧ ¬ (1 : Int32) = 21 ∧ ¬ (1 : Int32) = 22 ∧ ¬ (1 : Int32) = 23 ∧ ¬ (1 : Int32) = 24 := by decide
theorem ho_2 : ¬ (2 : Int32) = 18 ∧ ¬ (2 : Int32) = 20 ∧ ¬ (2 : Int32) = 21 ∧ ¬ (2 : Int32) = 22 ∧ ¬ (2 : Int32) = 23 ∧ ¬ (2 : Int32) = 24 := by decide
theorem ho_3 : ¬ (3 : Int32) = 18 ∧ ¬ (3 : Int32) = 20 ∧ ¬ (3 : Int32) = 21 ∧ ¬ (3 : Int32) = 22 ∧ ¬ (3 : Int32) = 23 ∧ ¬ (3 : Int32) = 24 := by decide
theorem ho_4 : ¬ (4 : Int32) = 18 ∧ ¬ (4 : Int32) = 20 ∧ ¬ (4 : Int32) = 21 ∧ ¬ (4 : Int32) = 22 ∧ ¬ (4 : Int32) = 23 ∧ ¬ (4 : Int32) = 24 := by decide
theorem ho_6 : ¬ (6 : Int32) = 18 ∧ ¬ (6 : Int32) = 20 ∧ ¬ (6 : Int32) = 21 ∧ ¬ (6 : Int32) = 22 ∧ ¬ (6 : Int32) = 23 ∧ ¬ (6 : Int32) = 24 := by decide
theorem ho_7 : ¬ (7 : Int32) = 18 ∧ ¬ (7 : Int32) = 20 ∧ ¬ (7 : Int32) = 21 ∧ ¬ (7 : Int32) = 22 ∧ ¬ (7 : Int32) = 23 ∧ ¬ (7 : Int32) = 24 := by decide
theorem ho_8 : ¬ (8 : Int32) = 18 ∧ ¬ (8 : Int32) = 20 ∧ ¬ (8 : Int32) = 21 ∧ ¬ (8 : Int32) = 22 ∧ ¬ (8 : Int32) = 23 ∧ ¬ (8 : Int32) = 24 := by decide
theorem ho_9 : ¬ (9 : Int32) = 18 ∧ ¬ (9 : Int32) = 20 ∧ ¬ (9 : Int32) = 21 ∧ ¬ (9 : Int32) = 22 ∧ ¬ (9 : Int32) = 23 ∧ ¬ (9 : Int32) = 24 := by decide
theorem ho_10 : ¬ (10 : Int32) = 18 ∧ ¬ (10 : Int32) = 20 ∧ ¬ (10 : Int32) = 21 ∧ ¬ (10 : Int32) = 22 ∧ ¬ (10 : Int32) = 23 ∧ ¬ (10 : Int32) = 24 := by decide
theorem ho_11 : ¬ (11 : Int32) = 18 ∧ ¬ (11 : Int32) = 20 ∧ ¬ (11 : Int32) = 21 ∧ ¬ (11 : Int32) = 22 ∧ ¬ (11 : Int32) = 23 ∧ ¬ (11 : Int32) = 24 := by decide
theorem ho_12 : ¬ (12 : Int32) = 18 ∧ ¬ (12 : Int32) = 20 ∧ ¬ (12 : Int32) = 21 ∧ ¬ (12 : Int32) = 22 ∧ ¬ (12 : Int32) = 23 ∧ ¬ (12 : Int32) = 24 := by decide
theorem ho_13 : ¬ (13 : Int32) = 18 ∧ ¬ (13 : Int32) = 20 ∧ ¬ (13 : Int32) = 21 ∧ ¬ (13 : Int32) = 22 ∧ ¬ (13 : Int32) = 23 ∧ ¬ (13 : Int32) = 24 := by decide
theorem ho_14 : ¬ (14 : Int32) = 18 ∧ ¬ (14 : Int32) = 20 ∧ ¬ (14 : Int32) = 21 ∧ ¬ (14 : Int32) = 22 ∧ ¬ (14 : Int32) = 23 ∧ ¬ (14 : Int32) = 24 := by decide
theorem ho_15 : ¬ (15 : Int32) = 18 ∧ ¬ (15 : Int32) = 20 ∧ ¬ (15 : Int32) = 21 ∧ ¬ (15 : Int32) = 22 ∧ ¬ (15 : Int32) = 23 ∧ ¬ (15 : Int32) = 24 := by decide
theorem ho_16 : ¬ (16 : Int32) = 18 ∧ ¬ (16 : Int32) = 20 ∧ ¬ (16 : Int32) = 21 ∧ ¬ (16 : Int32) = 22 ∧ ¬ (16 : Int32) = 23 ∧ ¬ (16 : Int32) = 24 := by decide
theorem ho_17 : ¬ (17 : Int32) = 18 ∧ ¬ (17 : Int32) = 20 ∧ ¬ (17 : Int32) = 21 ∧ ¬ (17 : Int32) = 22 ∧ ¬ (17 : Int32) = 23 ∧ ¬ (17 : Int32) = 24 := by decide
theorem ho_19 : ¬ (19 : Int32) = 18 ∧ ¬ (19 : Int32) = 20 ∧ ¬ (19 : Int32) = 21 ∧ ¬ (19 : Int32) = 22 ∧ ¬ (19 : Int32) = 23 ∧ ¬ (19 : Int32) = 24 := by decide
theorem h8_0 {b c : Int32} : ((0 : Int32) = 8 → ¬ b = -1) ∧ ((0 : Int32) = 13 → -2 ≤ c.toInt) := ⟨fun q => absurd q (by decide), fun q => absurd q (by decide)⟩
theorem h8_1 {b c : Int32} : ((1 : Int32) = 8 → ¬ b = -1) ∧ ((1 : Int32) = 13 → -2 ≤ c.toInt) := ⟨fun q => absurd q (by decide), fun q => absurd q (by decide)⟩
theorem h8_2 {b c : Int32} : ((2 : Int32) = 8 → ¬ b = -1) ∧ ((2 : Int32) = 13 → -2 ≤ c.toInt) := ⟨fun q => absurd q (by decide), fun q => absurd q (by decide)⟩
theorem h8_3 {b c : Int32} : ((3 : Int32) = 8 → ¬ b = -1) ∧ ((3 : Int32) = 13 → -2 ≤ c.toInt) := ⟨fun q => absurd q (by decide), fun q => absurd q (by decide)⟩
theorem h8_4 {b c : Int32} : ((4 : Int32) = 8 → ¬ b = -1) ∧ ((4 : Int32) = 13 → -2 ≤ c.toInt) := ⟨fun q => absurd q (by decide), fun q => absurd q (by decide)⟩
theorem h8_6 {b c : Int32} : ((6 : Int32) = 8 → ¬ b = -1) ∧ ((6 : Int32) = 13 → -2 ≤ c.toInt) := ⟨fun q => absurd q (by decide), fun q => absurd q (by decide)⟩
theorem h8_7 {b c : Int32} : ((7 : Int32) = 8 → ¬ b = -1) ∧ ((7 : Int32) = 13 → -2 ≤ c.toInt) := ⟨fun q => absurd q (by decide), fun q => absurd q (by decide)⟩
theorem h8_9 {b c : Int32} : ((9 : Int32) = 8 → ¬ b = -1) ∧ ((9 : Int32) = 13 → -2 ≤ c.toInt) := ⟨fun q => absurd q (by decide), fun q => absurd q (by decide)⟩
theorem h8_10 {b c : Int32} : ((10 : Int32) = 8 → ¬ b = -1) ∧ ((10 : Int32) = 13 → -2 ≤ c.toInt) := ⟨fun q => absurd q (by decide), fun q => absurd q (by decide)⟩
theorem h8_11 {b c : Int32} : ((11 : Int32) = 8 → ¬ b = -1) ∧ ((11 : Int32) = 13 → -2 ≤ c.toInt) := ⟨fun q => absurd q (by decide), fun q => absurd q (by decide)⟩
theorem h8_12 {b c : Int32} : ((12 : Int32) = 8 → ¬ b = -1) ∧ ((12 : Int32) = 13 → -2 ≤ c.toInt) := ⟨fun q => absurd q (by decide), fun q => absurd q (by decide)⟩
theorem h8_14 {b c : Int32} : ((14 : Int32) = 8 → ¬ b = -1) ∧ ((14 : Int32) = 13 → -2 ≤ c.toInt) := ⟨fun q => absurd q (by decide), fun q => absurd q (by decide)⟩
theorem h8_15 {b c : Int32} : ((15 : Int32) = 8 → ¬ b = -1) ∧ ((15 : Int32) = 13 → -2 ≤ c.toInt) := ⟨fun q => absurd q (by decide), fun q => absurd q (by decide)⟩
theorem h8_16 {b c : Int32} : ((16 : Int32) = 8 → ¬ b = -1) ∧ ((16 : Int32) = 13 → -2 ≤ c.toInt) := ⟨fun q => absurd q (by decide), fun q => absurd q (by decide)⟩
theorem h8_17 {b c : Int32} : ((17 : Int32) = 8 → ¬ b = -1) ∧ ((17 : Int32) = 13 → -2 ≤ c.toInt) := ⟨fun q => absurd q (by decide), fun q => absurd q (by decide)⟩
theorem h8_19 {b c : Int32} : ((19 : Int32) = 8 → ¬ b = -1) ∧ ((19 : Int32) = 13 → -2 ≤ c.toInt) := ⟨fun q => absurd q (by decide), fun q => absurd q (by decide)⟩
/-- a comparison's number -/
def E_cp (c : Int32) : Int32 := if c = 133 then 300 else if c = 134 then 301 else c
/-- products -/
theorem j_prod0G (hE : E_ok E) (h : ¬ (Y_ty E x = 42 ∨ Y_ty E x = 47 ∨ Y_ty E x = 37)) : (∀ (WF : Int32 → x_CW) (p a : Int32) (e : Nat), 0 < e → crG E (fun s O Q => wF_X7_restOfProduct_2 (E_N E) WF Q e p a s O) x x) ∧ (∀ (WF : x_RW) (e : Nat), rrG E (fun M F Q => w_productBehind_0 WF Q e M F) x x) := by
  refine ⟨fun WF p a e he k s O Q hs hQ => ?_, fun WF e k M F Q Q' hx w hQ => ?_⟩
  · obtain ⟨e, rfl⟩ : ∃ e', e = e' + 1 := ⟨e - 1, by omega⟩
    dsimp only [wF_X7_restOfProduct_2]
    rw [cg_ty hs]
    exact ⟨fun _ => hQ s hs, fun _ => ⟨fun q => absurd (Or.inl q) h, fun _ => ⟨fun q => absurd (Or.inr (Or.inl q)) h, fun _ => ⟨fun _ => hQ s hs, fun q => absurd (Or.inr (Or.inr q)) h⟩⟩⟩⟩
  · cases e with
    | zero => exact absurd w (fun q => q)
    | succ e =>
      dsimp only [w_productBehind_0] at w ⊢
      refine rg_s1 hE hx (c := 42) rfl (fun z _ => absurd (Or.inl z) h) (fun _ w => ?_) w
      refine rg_s1 hE hx (c := 47) rfl (fun z _ => absurd (Or.inr (Or.inl z)) h) (fun _ w => ?_) w
      exact rg_s0 hE hx (c := 37) rfl (fun z _ => absurd (Or.inr (Or.inr z)) h) (fun _ w => hQ M F hx w) w
theorem j_prodLG (hE : E_ok E) {j : Nat} (hF : jFG E j) : ∀ i, i ≤ j → ∀ x, yg E 10 x → jtG E i x → ∃ x', (∀ (n : Nat) (p a : Int32) (e : Nat), jpG n p x → jaG a x → i < e → crG E (fun s O Q => wF_X7_restOfProduct_2 (E_N E) (cff (E_N E) n) Q e p a s O) x x') ∧ (∀ n e, rrG E (fun M F Q => w_productBehind_0 (wf_fac n) Q e M F) x x') ∧ ym E 0 0 0 x x' := by
  intro i
  induction i with
  | zero =>
    intro _ x hx ht
    have hb : x.1 = true := by
      cases q : x.1 with
      | true => rfl
      | false => have h1 : E_m E < Y_t x + 0 := ht q; have := yg_t hx q; omega
    have h0 := j_prod0G (x := x) hE (by rw [Y_tyb hb]; decide)
    exact ⟨x, fun n p a e _ _ he => h0.1 _ p a e he, fun n e => h0.2 _ e, ym_rf (yg_t hx)⟩
  | succ i ih =>
    intro hi x hx ht
    by_cases z : Y_ty E x = 42 ∨ Y_ty E x = 47 ∨ Y_ty E x = 37
    · have hb : x.1 = false := by rcases z with z | z | z <;> exact Y_tyn z (by decide)
      have hlt : x.1 = false → Y_t x < E_m E := by
        rcases z with z | z | z
        · exact yq_lt hE (yg_t hx) z (by decide)
        · exact yq_lt hE (yg_t hx) z (by decide)
        · exact yq_lt hE (yg_t hx) z (by decide)
      have m0 := ym_ad hE hlt
      have ht1 : jtG E i (Y_ad x) := jtG_m ht m0
      obtain ⟨x1, j1, j2, m1⟩ := hF (Y_ad x) (yg_m hx m0 (by decide)) (jtG_w ht1 (by omega))
      have m2 : ym E 0 1 0 x1 (Y_em [k_sg (Y_ty E x)] (6, (Y_ty E x), 0, 0, -1) (Y_c x1) x1) := ym_em (ym_t m1) ho_6 (Nat.le_refl _) (fun _ => k_e_6.symm) (fun _ => h8_6)
      have m12 := ym_t0 m1 m2
      have m3 := ym_t0 m0 m12
      obtain ⟨x', i1, i2, m4⟩ := ih (by omega) (Y_em [k_sg (Y_ty E x)] (6, (Y_ty E x), 0, 0, -1) (Y_c x1) x1) (yg_m hx m3 (by decide)) (jtG_m (jtG_w ht1 (Nat.le_add_right _ _)) m12)
      refine ⟨x', fun n p a e hp ha he k s O Q hs hQ => ?_, fun n e k M F Q Q' hr w hQ => ?_, ym_w (ym_t0 m3 m4) (by decide) (by decide) (by decide)⟩
      · obtain ⟨e, rfl⟩ : ∃ e', e = e' + 1 := ⟨e - 1, by omega⟩
        dsimp only [wF_X7_restOfProduct_2]
        have body : ∀ t0 : Int32, t0 = k_sg (Y_ty E x) → wF_X7_restOfProduct_66 (E_N E) (cff (E_N E) n) (wF_X7_restOfProduct_2 (E_N E) (cff (E_N E) n) Q e) Q p a t0 s O := fun t0 et => cg_adv hE hs hlt (fun s1 h1 => j1 n p (jpG_m hp m0) k s1 O _ h1 (fun s2 h2 => cg_emit hE h2 (yg_lo (n := 15) (yg_m (yg_m hx m0 (c' := 8) (by decide)) m1 (c' := 15) (by decide)) (by decide)) (by decide) (fun s3 h3 => i1 n p (a + 1) e (jpG_m hp (ym_w m3 (Nat.le_refl _) (Int.le_refl _) (by decide))) (jaG_m hE ha m3 (by decide)) (by omega) k s3 O Q (rc_em (by rw [← et]; exact h3)) hQ)))
        have cz : (Y_ty E x = 42 → (16 : Int32) = k_sg (Y_ty E x)) ∧ (Y_ty E x = 47 → (17 : Int32) = k_sg (Y_ty E x)) ∧ (Y_ty E x = 37 → (18 : Int32) = k_sg (Y_ty E x)) := ⟨fun q => by rw [q]; decide, fun q => by rw [q]; decide, fun q => by rw [q]; decide⟩
        have ety := cg_ty hs
        have b36 : wF_X7_restOfProduct_36 (E_N E) (cff (E_N E) n) (wF_X7_restOfProduct_2 (E_N E) (cff (E_N E) n) Q e) Q p a s O := ⟨fun q1 => ⟨fun q2 => body _ (cz.2.2 (by rw [ety] at q1 q2; exact z.elim (fun z => absurd z q1) (fun z => z.elim (fun z => absurd z q2) id))), fun q2 => body _ (cz.2.1 (ety.symm.trans q2))⟩, fun q1 => body _ (cz.1 (ety.symm.trans q1))⟩
        refine ⟨fun q => absurd q (jaG_4 hE ha hb (yg_t hx hb)), fun _ => ⟨fun _ => b36, fun q1 => ⟨fun _ => b36, fun q2 => ⟨fun q3 => ?_, fun _ => b36⟩⟩⟩⟩
        rw [cg_ty hs] at q1 q2 q3
        exact absurd z (fun z => z.elim q1 (fun z => z.elim q2 q3))
      · cases e with
        | zero => exact absurd w (fun q => q)
        | succ e =>
          dsimp only [w_productBehind_0] at w ⊢
          have m5 : M 5 = Y_ty E x := by
            rcases z with z | z | z
            · rw [z]; exact rg_m5 hE hr (c := 42) rfl z
            · rw [z]; exact rg_m5 hE hr (c := 47) rfl z
            · rw [z]; exact rg_m5 hE hr (c := 37) rfl z
          have body : w_productBehind_27 (wf_fac n) (w_productBehind_0 (wf_fac n) Q e) Q M F → w_productBehind_27 (wf_fac n) (w_productBehind_0 (wf_fac n) Q' e) Q' M F := fun w => by
            unfold w_productBehind_27 at w ⊢
            rw [m5] at w ⊢
            exact rg_pass hE hlt k M F _ _ hr w (fun M1 F1 h1 w1 => j2 n k M1 F1 _ _ h1 w1 (fun M2 F2 h2 w2 => rg_put h2 w2 (fun r M3 F3 _ h3 w3 => i2 n e k M3 F3 Q Q' (rx_em h3) w3 hQ)))
          refine rg_s1 hE hr (c := 42) rfl (fun _ w => body w) (fun q1 w => ?_) w
          refine rg_s1 hE hr (c := 47) rfl (fun _ w => body w) (fun q2 w => ?_) w
          exact rg_s0 hE hr (c := 37) rfl (fun _ w => body w) (fun q3 _ => absurd z (fun z => z.elim q1 (fun z => z.elim q2 q3))) w
    · have h0 := j_prod0G (x := x) hE z
      exact ⟨x, fun n p a e _ _ he => h0.1 _ p a e (by omega), fun n e => h0.2 _ e, ym_rf (yg_t hx)⟩
theorem j_prodG (hE : E_ok E) {j : Nat} (hF : jFG E j) (hx : yg E 10 x) (ht : jtG E j x) : ∃ x', jxG E (fun n p => wF_X7_restOfProduct (E_N E) (cff (E_N E) n) p) (fun n => w_productBehind (wf_fac n)) 0 0 x x' := by
  obtain ⟨x', a, b, c⟩ := j_prodLG hE hF j (Nat.le_refl _) x hx ht
  exact ⟨x', fun n p hp k s O Q hs hQ => ⟨j + 1, a n p 0 (j + 1) hp jaG_0 (by omega) k s O Q hs hQ⟩, fun n k M F Q Q' hr w hQ => by
    obtain ⟨e, w⟩ := w
    exact ⟨e, b n e k M F Q Q' hr w hQ⟩, c⟩
/-- a factor and what is multiplied behind it -/
theorem j_productG (hE : E_ok E) {j : Nat} (hF : jFG E j) (hx : yg E 10 x) (ht : jtG E j x) : ∃ x', jxG E (fun n p s O Q => cff (E_N E) n p s O (fun s1 O1 => wF_X7_restOfProduct (E_N E) (cff (E_N E) n) p s1 O1 Q)) (fun n => w_product (wf_fac n)) 1 0 x x' := by
  obtain ⟨x1, a1, b1, c1⟩ := hF x hx ht
  obtain ⟨x2, a2, b2, c2⟩ := j_prodG hE hF (yg_m hx c1 (by decide)) (jtG_m (jtG_w ht (Nat.le_add_right _ _)) c1)
  exact ⟨x2, fun n p hp k s O Q hs hQ => a1 n p hp k s O _ hs (fun s1 h1 => a2 n p (jpG_m hp c1) k s1 O Q h1 hQ), fun n k M F Q Q' hr w hQ => b1 n k M F _ _ hr w (fun M1 F1 h1 w1 => b2 n k M1 F1 _ _ h1 w1 hQ), ym_w (ym_t0 c1 c2) (by decide) (by decide) (by decide)⟩
/-- sums -/
theorem j_sum0G (hE : E_ok E) (h : ¬ (Y_ty E x = 43 ∨ Y_ty E x = 45)) : (∀ (WF : Int32 → x_CW) (p a : Int32) (e : Nat), 0 < e → crG E (fun s O Q => wF_X7_restOfSum_2 (E_N E) WF Q e p a s O) x x) ∧ (∀ (WF : x_RW) (e : Nat), rrG E (fun M F Q => w_sumBehind_0 WF Q e M F) x x) := by
  refine ⟨fun WF p a e he k s O Q hs hQ => ?_, fun WF e k M F Q Q' hx w hQ => ?_⟩
  · obtain ⟨e, rfl⟩ : ∃ e', e = e' + 1 := ⟨e - 1, by omega⟩
    dsimp only [wF_X7_restOfSum_2]
    rw [cg_ty hs]
    exact ⟨fun _ => hQ s hs, fun _ => ⟨fun q => absurd (Or.inl q) h, fun _ => ⟨fun _ => hQ s hs, fun q => absurd (Or.inr q) h⟩⟩⟩
  · cases e with
    | zero => exact absurd w (fun q => q)
    | succ e =>
      dsimp only [w_sumBehind_0] at w ⊢
      refine rg_s1 hE hx (c := 43) rfl (fun z _ => absurd (Or.inl z) h) (fun _ w => ?_) w
      exact rg_s0 hE hx (c := 45) rfl (fun z _ => absurd (Or.inr z) h) (fun _ w => hQ M F hx w) w
theorem j_sumLG (hE : E_ok E) {j : Nat} (hF : jFG E j) : ∀ i, i ≤ j → ∀ x, yg E 10 x → jtG E i x → ∃ x', (∀ (n : Nat) (p a : Int32) (e : Nat), jpG n p x → jaG a x → i < e → crG E (fun s O Q => wF_X7_restOfSum_2 (E_N E) (cff (E_N E) n) Q e p a s O) x x') ∧ (∀ n e, rrG E (fun M F Q => w_sumBehind_0 (wf_fac n) Q e M F) x x') ∧ ym E 0 0 0 x x' := by
  intro i
  induction i with
  | zero =>
    intro _ x hx ht
    have hb : x.1 = true := by
      cases q : x.1 with
      | true => rfl
      | false => have h1 : E_m E < Y_t x + 0 := ht q; have := yg_t hx q; omega
    have h0 := j_sum0G (x := x) hE (by rw [Y_tyb hb]; decide)
    exact ⟨x, fun n p a e _ _ he => h0.1 _ p a e he, fun n e => h0.2 _ e, ym_rf (yg_t hx)⟩
  | succ i ih =>
    intro hi x hx ht
    by_cases z : Y_ty E x = 43 ∨ Y_ty E x = 45
    · have hb : x.1 = false := by rcases z with z | z <;> exact Y_tyn z (by decide)
      have hlt : x.1 = false → Y_t x < E_m E := by
        rcases z with z | z
        · exact yq_lt hE (yg_t hx) z (by decide)
        · exact yq_lt hE (yg_t hx) z (by decide)
      have m0 := ym_ad hE hlt
      have ht1 : jtG E i (Y_ad x) := jtG_m ht m0
      obtain ⟨x1, j1, j2, m1⟩ := j_productG (x := Y_ad x) hE hF (yg_m hx m0 (by decide)) (jtG_w ht1 (by omega))
      have m2 : ym E 0 1 0 x1 (Y_em [k_sg (Y_ty E x)] (6, (Y_ty E x), 0, 0, -1) (Y_c x1) x1) := ym_em (ym_t m1) ho_6 (Nat.le_refl _) (fun _ => k_e_6.symm) (fun _ => h8_6)
      have m12 := ym_t0 m1 m2
      have m3 := ym_t0 m0 m12
      obtain ⟨x', i1, i2, m4⟩ := ih (by omega) (Y_em [k_sg (Y_ty E x)] (6, (Y_ty E x), 0, 0, -1) (Y_c x1) x1) (yg_m hx m3 (by decide)) (jtG_m (jtG_w ht1 (Nat.le_add_right _ _)) m12)
      refine ⟨x', fun n p a e hp ha he k s O Q hs hQ => ?_, fun n e k M F Q Q' hr w hQ => ?_, ym_w (ym_t0 m3 m4) (by decide) (by decide) (by decide)⟩
      · obtain ⟨e, rfl⟩ : ∃ e', e = e' + 1 := ⟨e - 1, by omega⟩
        dsimp only [wF_X7_restOfSum_2]
        have body : ∀ t0 : Int32, t0 = k_sg (Y_ty E x) → wF_X7_restOfSum_43 (E_N E) (cff (E_N E) n) (wF_X7_restOfSum_2 (E_N E) (cff (E_N E) n) Q e) Q p a t0 s O := fun t0 et => cg_adv hE hs hlt (fun s1 h1 => j1 n p (jpG_m hp m0) k s1 O _ h1 (fun s2 h2 => cg_emit hE h2 (yg_lo (n := 15) (yg_m (yg_m hx m0 (c' := 8) (by decide)) m1 (c' := 15) (by decide)) (by decide)) (by decide) (fun s3 h3 => i1 n p (a + 1) e (jpG_m hp (ym_w m3 (Nat.le_refl _) (Int.le_refl _) (by decide))) (jaG_m hE ha m3 (by decide)) (by omega) k s3 O Q (rc_em (by rw [← et]; exact h3)) hQ)))
        have cz : (Y_ty E x = 43 → (14 : Int32) = k_sg (Y_ty E x)) ∧ (Y_ty E x = 45 → (15 : Int32) = k_sg (Y_ty E x)) := ⟨fun q => by rw [q]; decide, fun q => by rw [q]; decide⟩
        have ety := cg_ty hs
        have b27 : wF_X7_restOfSum_27 (E_N E) (cff (E_N E) n) (wF_X7_restOfSum_2 (E_N E) (cff (E_N E) n) Q e) Q p a s O := ⟨fun q1 => body _ (cz.2 (by rw [ety] at q1; exact z.elim (fun z => absurd z q1) id)), fun q1 => body _ (cz.1 (ety.symm.trans q1))⟩
        refine ⟨fun q => absurd q (jaG_4 hE ha hb (yg_t hx hb)), fun _ => ⟨fun _ => b27, fun q1 => ⟨fun q2 => ?_, fun _ => b27⟩⟩⟩
        rw [cg_ty hs] at q1 q2
        exact absurd z (fun z => z.elim q1 q2)
      · cases e with
        | zero => exact absurd w (fun q => q)
        | succ e =>
          dsimp only [w_sumBehind_0] at w ⊢
          have m5 : M 5 = Y_ty E x := by
            rcases z with z | z
            · rw [z]; exact rg_m5 hE hr (c := 43) rfl z
            · rw [z]; exact rg_m5 hE hr (c := 45) rfl z
          have body : w_sumBehind_18 (wf_fac n) (w_sumBehind_0 (wf_fac n) Q e) Q M F → w_sumBehind_18 (wf_fac n) (w_sumBehind_0 (wf_fac n) Q' e) Q' M F := fun w => by
            unfold w_sumBehind_18 at w ⊢
            rw [m5] at w ⊢
            exact rg_pass hE hlt k M F _ _ hr w (fun M1 F1 h1 w1 => j2 n k M1 F1 _ _ h1 w1 (fun M2 F2 h2 w2 => rg_put h2 w2 (fun r M3 F3 _ h3 w3 => i2 n e k M3 F3 Q Q' (rx_em h3) w3 hQ)))
          refine rg_s1 hE hr (c := 43) rfl (fun _ w => body w) (fun q1 w => ?_) w
          exact rg_s0 hE hr (c := 45) rfl (fun _ w => body w) (fun q3 _ => absurd z (fun z => z.elim q1 q3)) w
    · have h0 := j_sum0G (x := x) hE z
      exact ⟨x, fun n p a e _ _ he => h0.1 _ p a e (by omega), fun n e => h0.2 _ e, ym_rf (yg_t hx)⟩
theorem j_sumG (hE : E_ok E) {j : Nat} (hF : jFG E j) (hx : yg E 10 x) (ht : jtG E j x) : ∃ x', jxG E (fun n p => wF_X7_restOfSum (E_N E) (cff (E_N E) n) p) (fun n => w_sumBehind (wf_fac n)) 0 0 x x' := by
  obtain ⟨x', a, b, c⟩ := j_sumLG hE hF j (Nat.le_refl _) x hx ht
  exact ⟨x', fun n p hp k s O Q hs hQ => ⟨j + 1, a n p 0 (j + 1) hp jaG_0 (by omega) k s O Q hs hQ⟩, fun n k M F Q Q' hr w hQ => by
    obtain ⟨e, w⟩ := w
    exact ⟨e, b n e k M F Q Q' hr w hQ⟩, c⟩
/-- products and sums behind a factor -/
theorem j_behindG (hE : E_ok E) {j : Nat} (hF : jFG E j) (hx : yg E 10 x) (ht : jtG E j x) : ∃ x', jxG E (fun n p s O Q => wF_X7_restOfProduct (E_N E) (cff (E_N E) n) p s O (fun s1 O1 => wF_X7_restOfSum (E_N E) (cff (E_N E) n) p s1 O1 Q)) (fun n M F Q => w_productBehind (wf_fac n) M F (fun M1 F1 => w_sumBehind (wf_fac n) M1 F1 Q)) 0 0 x x' := by
  obtain ⟨x1, a1, b1, c1⟩ := j_prodG hE hF hx ht
  obtain ⟨x2, a2, b2, c2⟩ := j_sumG hE hF (yg_m hx c1 (by decide)) (jtG_m (jtG_w ht (Nat.le_add_right _ _)) c1)
  exact ⟨x2, fun n p hp k s O Q hs hQ => a1 n p hp k s O _ hs (fun s1 h1 => a2 n p (jpG_m hp c1) k s1 O Q h1 hQ), fun n k M F Q Q' hr w hQ => b1 n k M F _ _ hr w (fun M1 F1 h1 w1 => b2 n k M1 F1 _ _ h1 w1 hQ), ym_w (ym_t0 c1 c2) (by decide) (by decide) (by decide)⟩
theorem j_restEG (hE : E_ok E) {j : Nat} (hF : jFG E j) (hx : yg E 10 x) (ht : jtG E j x) : ∃ x', jxG E (fun n p => wF_X7_restOfExpression (E_N E) (cff (E_N E) n) p) (fun n => w_wholeBehind (wf_fac n)) 0 0 x x' := by
  obtain ⟨x1, a1, b1, c1⟩ := j_behindG hE hF hx ht
  have hx1 := yg_m hx c1 (c' := 10) (by decide)
  by_cases z : Y_ty E x1 = 60 ∨ Y_ty E x1 = 133 ∨ Y_ty E x1 = 134
  · have hlt : x1.1 = false → Y_t x1 < E_m E := by
      rcases z with z | z | z
      · exact yq_lt hE (yg_t hx1) z (by decide)
      · exact yq_lt hE (yg_t hx1) z (by decide)
      · exact yq_lt hE (yg_t hx1) z (by decide)
    have m0 := ym_ad hE hlt
    have ht1 : jtG E j x1 := jtG_m (jtG_w ht (Nat.le_add_right _ _)) c1
    obtain ⟨x2, a2, b2, c2⟩ := hF (Y_ad x1) (yg_m hx1 m0 (by decide)) (jtG_m (jtG_w ht1 (Nat.le_add_right _ _)) m0)
    have m2 := ym_t0 m0 c2
    obtain ⟨x3, a3, b3, c3⟩ := j_behindG hE hF (yg_m hx1 m2 (by decide)) (jtG_m (jtG_w ht1 (Nat.le_add_right _ _)) m2)
    have m3 := ym_t0 m2 c3
    have m4 := ym_t0 m3 (show ym E 0 1 0 x3 (Y_em [k_sg (E_cp (Y_ty E x1))] (6, E_cp (Y_ty E x1), 0, 0, -1) (Y_c x3) x3) from ym_em (ym_t m3) ho_6 (Nat.le_refl _) (fun _ => k_e_6.symm) (fun _ => h8_6))
    refine ⟨Y_em [k_sg (E_cp (Y_ty E x1))] (6, E_cp (Y_ty E x1), 0, 0, -1) (Y_c x3) x3, fun n p hp k s O Q hs hQ => ?_, fun n k M F Q Q' hr w hQ => ?_, ym_w (ym_t0 c1 m4) (by decide) (by decide) (by decide)⟩
    · refine a1 n p hp k s O _ hs (fun s1 h1 => ?_)
      have hp1 := jpG_m hp c1
      have body : ∀ t0 : Int32, t0 = k_sg (E_cp (Y_ty E x1)) → wF_X7_restOfExpression_71 (E_N E) (cff (E_N E) n) Q p t0 s1 O := fun t0 et => cg_adv hE h1 hlt (fun s2 h2 => a2 n p (jpG_m hp1 m0) k s2 O _ h2 (fun s3 h3 => a3 n p (jpG_m hp1 m2) k s3 O _ h3 (fun s4 h4 => cg_emit hE h4 (yg_lo (n := 15) (yg_m hx1 m3 (c' := 15) (by decide)) (by decide)) (by decide) (fun s5 h5 => hQ s5 (rc_em (by rw [← et]; exact h5))))))
      have ety := cg_ty h1
      have cz : (Y_ty E x1 = 60 → (19 : Int32) = k_sg (E_cp (Y_ty E x1))) ∧ (Y_ty E x1 = 133 → (20 : Int32) = k_sg (E_cp (Y_ty E x1))) ∧ (Y_ty E x1 = 134 → (21 : Int32) = k_sg (E_cp (Y_ty E x1))) := ⟨fun q => by rw [q]; decide, fun q => by rw [q]; decide, fun q => by rw [q]; decide⟩
      refine ⟨fun q1 => ⟨fun q2 => ?_, fun q2 => ?_⟩, fun q1 => ?_⟩
      · have z4 : Y_ty E x1 = 134 := by
          rw [ety] at q1 q2
          exact z.elim (fun z => absurd z q1) (fun z => z.elim (fun z => absurd z q2) id)
        exact ⟨fun q => absurd q q1, fun _ => ⟨fun q => absurd q q2, fun _ => ⟨fun q => absurd (ety.trans z4) q, fun _ => body _ (cz.2.2 z4)⟩⟩⟩
      · exact ⟨fun q => absurd q q1, fun _ => ⟨fun _ => body _ (cz.2.1 (ety.symm.trans q2)), fun q => absurd q2 q⟩⟩
      · exact ⟨fun _ => body _ (cz.1 (ety.symm.trans q1)), fun q => absurd q1 q⟩
    · refine b1 n k M F _ _ hr w (fun M1 F1 h1 w1 => ?_)
      have m5 : M1 5 = E_cp (Y_ty E x1) := by
        rcases z with z | z | z
        · rw [z]; exact rg_m5 hE h1 (c := 60) rfl z
        · rw [z]; exact rg_m5e hE h1 (Or.inl ⟨rfl, rfl⟩) z
        · rw [z]; exact rg_m5e hE h1 (Or.inr ⟨rfl, rfl⟩) z
      have body : w_compared_30 (wf_fac n) Q M1 F1 → w_compared_30 (wf_fac n) Q' M1 F1 := fun w => by
        unfold w_compared_30 at w ⊢
        rw [m5] at w ⊢
        exact rg_pass hE hlt k M1 F1 _ _ h1 w (fun M2 F2 h2 w2 => b2 n k M2 F2 _ _ h2 w2 (fun M3 F3 h3 w3 => b3 n k M3 F3 _ _ h3 w3 (fun M4 F4 h4 w4 => rg_put h4 w4 (fun r M5 F5 _ h5 w5 => hQ M5 F5 (rx_em h5) w5))))
      refine rg_s1 hE h1 (c := 60) rfl (fun _ w => body w) (fun q1 w => ?_) w1
      refine rg_e1 hE h1 (c := 300) (Or.inl ⟨rfl, rfl⟩) (fun _ w => body w) (fun q2 w => ?_) w
      exact rg_e1 hE h1 (c := 301) (Or.inr ⟨rfl, rfl⟩) (fun _ w => body w) (fun q3 _ => absurd z (fun z => z.elim q1 (fun z => z.elim q2 q3))) w
  · refine ⟨x1, fun n p hp k s O Q hs hQ => ?_, fun n k M F Q Q' hr w hQ => ?_, c1⟩
    · refine a1 n p hp k s O _ hs (fun s1 h1 => ?_)
      have b41 : ∀ t0 : Int32, wF_X7_restOfExpression_41 (E_N E) (cff (E_N E) n) Q p t0 s1 O := fun t0 => by
        unfold wF_X7_restOfExpression_41
        rw [cg_ty h1]
        exact ⟨fun q => absurd (Or.inl q) z, fun _ => ⟨fun q => absurd (Or.inr (Or.inl q)) z, fun _ => ⟨fun _ => hQ s1 h1, fun q => absurd (Or.inr (Or.inr q)) z⟩⟩⟩
      exact ⟨fun _ => ⟨fun _ => b41 _, fun _ => b41 _⟩, fun _ => b41 _⟩
    · refine b1 n k M F _ _ hr w (fun M1 F1 h1 w1 => ?_)
      refine rg_s1 hE h1 (c := 60) rfl (fun q _ => absurd (Or.inl q) z) (fun q1 w => ?_) w1
      refine rg_e1 hE h1 (c := 300) (Or.inl ⟨rfl, rfl⟩) (fun q _ => absurd (Or.inr (Or.inl q)) z) (fun q2 w => ?_) w
      exact rg_e1 hE h1 (c := 301) (Or.inr ⟨rfl, rfl⟩) (fun q _ => absurd (Or.inr (Or.inr q)) z) (fun _ w => hQ M1 F1 h1 w) w
theorem j_exprG (hE : E_ok E) {j : Nat} (hF : jFG E j) (hx : yg E 10 x) (ht : jtG E j x) : ∃ x', jxG E (fun n p => wF_X7_expression (E_N E) (cff (E_N E) n) p) (fun n => w_whole (wf_fac n)) 1 0 x x' := by
  obtain ⟨x1, a1, b1, c1⟩ := hF x hx ht
  obtain ⟨x2, a2, b2, c2⟩ := j_restEG hE hF (yg_m hx c1 (by decide)) (jtG_m (jtG_w ht (Nat.le_add_right _ _)) c1)
  exact ⟨x2, fun n p hp k s O Q hs hQ => a1 n p hp k s O _ hs (fun s1 h1 => a2 n p (jpG_m hp c1) k s1 O Q h1 hQ), fun n k M F Q Q' hr w hQ => b1 n k M F _ _ hr w (fun M1 F1 h1 w1 => b2 n k M1 F1 _ _ h1 w1 hQ), ym_w (ym_t0 c1 c2) (by decide) (by decide) (by decide)⟩
end YJ3
