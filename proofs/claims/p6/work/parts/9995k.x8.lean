/-! BOTH PARSERS TOGETHER: products, sums, expressions. -/
section XJ2
variable {E : x_E} {x y : x_X}
def cff (N : Nat → Nat) : Nat → Int32 → x_CW
  | 0 => fun _ _ _ _ => False
  | n + 1 => fun d s O Q => wF_X7_factor N (cff N n) d s O Q
def jp (n : Nat) (p : Int32) (x : x_X) : Prop := 1 ≤ n ∧ (x.1 = false → 22 ≤ (X_i x 0).toInt + n ∧ p = X_i x 0)
def ja (a : Int32) (x : x_X) : Prop := x.1 = false → 0 ≤ a.toInt ∧ a.toInt ≤ X_t x
def jx (E : x_E) (C : Nat → Int32 → x_CW) (R : Nat → x_RW) (a : Nat) (d : Int) (x x' : x_X) : Prop := (∀ (n : Nat) (p : Int32), jp n p x → cr E (C n p) x x') ∧ (∀ n, rr E (R n) x x') ∧ xm E a d 0 x x'
/-- at most j tokens left -/
def jt (E : x_E) (j : Nat) (x : x_X) : Prop := x.1 = false → E_m E < X_t x + j
def jF (E : x_E) (j : Nat) : Prop := ∀ x, xg E 10 x → jt E j x → ∃ x', jx E (cff (E_N E)) wf_fac 1 0 x x'
theorem xm_i0 {a : Nat} {d : Int} (m : xm E a d 0 x y) (h : y.1 = false) : x.1 = false ∧ X_i y 0 = X_i x 0 := by
  obtain ⟨c1, -, -, -, ⟨c6, -⟩, -⟩ := m h
  exact ⟨c1, by rw [c6, Int32.add_zero]⟩
theorem jp_m {n a : Nat} {p : Int32} {d : Int} (h : jp n p x) (m : xm E a d 0 x y) : jp n p y := ⟨h.1, fun q => by
  obtain ⟨c1, c2⟩ := xm_i0 m q
  rw [c2]; exact h.2 c1⟩
theorem jt_m {j a : Nat} {d : Int} {e : Int32} (h : jt E (j + a) x) (m : xm E a d e x y) : jt E j y := fun q => by
  obtain ⟨c1, ⟨c2, -⟩, -⟩ := m q
  have := h c1
  omega
theorem jt_w {i j : Nat} (h : jt E i x) (hij : i ≤ j) : jt E j x := fun q => by have := h q; omega
theorem ja_m {a : Int32} {b : Nat} {d : Int} {e : Int32} (hE : E_ok E) (h : ja a x) (m : xm E b d e x y) (hb : 1 ≤ b) : ja (a + 1) y := fun q => by
  have l1 : (1 : Int32).toInt = 1 := by decide
  obtain ⟨c1, ⟨c2, c3⟩, -⟩ := m q
  have h := h c1
  have := E_n4 hE
  rw [ti_addx _ _ (by rw [l1]; omega), l1]
  omega
theorem ja_4 {a : Int32} (hE : E_ok E) (h : ja a x) (hb : x.1 = false) (ht : X_t x ≤ E_m E) : ¬ 4000 < a := fun q => by
  have h := h hb
  have := E_n4 hE
  rw [Int32.lt_iff_toInt_lt, show (4000 : Int32).toInt = 4000 by decide] at q
  omega
theorem ja_0 : ja 0 x := fun _ => by rw [show (0 : Int32).toInt = 0 by decide]; omega
section
variable {k : x_B} {M : Nat → Int32} {F : Nat → Nat → Int32} {A B A' B' : (Nat → Int32) → (Nat → Nat → Int32) → Prop}
theorem re_s1 (hE : E_ok E) (h : rxx E k M F x) {c : Int32} (hc : x_sn c = true) (h1 : X_ty E x = c → A M F → A' M F) (h0 : ¬ X_ty E x = c → B M F → B' M F) (w : w_isSign c M F (fun r M F => (¬ r = 0 → A M F) ∧ (r = 0 → B M F))) : w_isSign c M F (fun r M F => (¬ r = 0 → A' M F) ∧ (r = 0 → B' M F)) := re_c1 (T := w_isSign c M F) (fun _ => re_isSign hE h hc) h1 h0 w
theorem re_s0 (hE : E_ok E) (h : rxx E k M F x) {c : Int32} (hc : x_sn c = true) (h1 : X_ty E x = c → A M F → A' M F) (h0 : ¬ X_ty E x = c → B M F → B' M F) (w : w_isSign c M F (fun r M F => (r = 0 → B M F) ∧ (¬ r = 0 → A M F))) : w_isSign c M F (fun r M F => (r = 0 → B' M F) ∧ (¬ r = 0 → A' M F)) := re_c0 (T := w_isSign c M F) (fun _ => re_isSign hE h hc) h1 h0 w
theorem re_w1 (hE : E_ok E) (h : rxx E k M F x) (p : Nat) (hp : p < 26) {c d : Int32} (hc : c = nI p) (hd : d = nI (200 + p)) (h1 : X_ty E x = d → A M F → A' M F) (h0 : ¬ X_ty E x = d → B M F → B' M F) (w : w_isWord c M F (fun r M F => (¬ r = 0 → A M F) ∧ (r = 0 → B M F))) : w_isWord c M F (fun r M F => (¬ r = 0 → A' M F) ∧ (r = 0 → B' M F)) := re_c1 (T := w_isWord c M F) (fun _ => re_isWord hE h p hp hc hd) h1 h0 w
theorem re_w0 (hE : E_ok E) (h : rxx E k M F x) (p : Nat) (hp : p < 26) {c d : Int32} (hc : c = nI p) (hd : d = nI (200 + p)) (h1 : X_ty E x = d → A M F → A' M F) (h0 : ¬ X_ty E x = d → B M F → B' M F) (w : w_isWord c M F (fun r M F => (r = 0 → B M F) ∧ (¬ r = 0 → A M F))) : w_isWord c M F (fun r M F => (r = 0 → B' M F) ∧ (¬ r = 0 → A' M F)) := re_c0 (T := w_isWord c M F) (fun _ => re_isWord hE h p hp hc hd) h1 h0 w
theorem re_e1 (hE : E_ok E) (h : rxx E k M F x) {c d : Int32} (hc : (c = 300 ∧ d = 133) ∨ (c = 301 ∧ d = 134)) (h1 : X_ty E x = d → A M F → A' M F) (h0 : ¬ X_ty E x = d → B M F → B' M F) (w : w_isSign c M F (fun r M F => (¬ r = 0 → A M F) ∧ (r = 0 → B M F))) : w_isSign c M F (fun r M F => (¬ r = 0 → A' M F) ∧ (r = 0 → B' M F)) := by
  rcases hc with ⟨rfl, rfl⟩ | ⟨rfl, rfl⟩
  · exact re_c1 (T := w_isSign 300 M F) (fun _ => (re_isEq hE h).1) h1 h0 w
  · exact re_c1 (T := w_isSign 301 M F) (fun _ => (re_isEq hE h).2) h1 h0 w
end
/-- products -/
theorem j_prod0 (hE : E_ok E) (h : ¬ (X_ty E x = 42 ∨ X_ty E x = 47 ∨ X_ty E x = 37)) : (∀ (WF : Int32 → x_CW) (p a : Int32) (e : Nat), 0 < e → cr E (fun s O Q => wF_X7_restOfProduct_2 (E_N E) WF Q e p a s O) x x) ∧ (∀ (WF : x_RW) (e : Nat), rr E (fun M F Q => w_productBehind_0 WF Q e M F) x x) := by
  refine ⟨fun WF p a e he k s O Q hs hQ => ?_, fun WF e k M F Q Q' hx w hQ => ?_⟩
  · obtain ⟨e, rfl⟩ : ∃ e', e = e' + 1 := ⟨e - 1, by omega⟩
    dsimp only [wF_X7_restOfProduct_2]
    rw [c_ty hs]
    exact ⟨fun _ => hQ s hs, fun _ => ⟨fun q => absurd (Or.inl q) h, fun _ => ⟨fun q => absurd (Or.inr (Or.inl q)) h, fun _ => ⟨fun _ => hQ s hs, fun q => absurd (Or.inr (Or.inr q)) h⟩⟩⟩⟩
  · cases e with
    | zero => exact absurd w (fun q => q)
    | succ e =>
      dsimp only [w_productBehind_0] at w ⊢
      refine re_s1 hE hx (c := 42) rfl (fun z _ => absurd (Or.inl z) h) (fun _ w => ?_) w
      refine re_s1 hE hx (c := 47) rfl (fun z _ => absurd (Or.inr (Or.inl z)) h) (fun _ w => ?_) w
      exact re_s0 hE hx (c := 37) rfl (fun z _ => absurd (Or.inr (Or.inr z)) h) (fun _ w => hQ M F hx w) w
theorem j_prodL (hE : E_ok E) {j : Nat} (hF : jF E j) : ∀ i, i ≤ j → ∀ x, xg E 10 x → jt E i x → ∃ x', (∀ (n : Nat) (p a : Int32) (e : Nat), jp n p x → ja a x → i < e → cr E (fun s O Q => wF_X7_restOfProduct_2 (E_N E) (cff (E_N E) n) Q e p a s O) x x') ∧ (∀ n e, rr E (fun M F Q => w_productBehind_0 (wf_fac n) Q e M F) x x') ∧ xm E 0 0 0 x x' := by
  intro i
  induction i with
  | zero =>
    intro _ x hx ht
    have hb : x.1 = true := by
      cases q : x.1 with
      | true => rfl
      | false => have := ht q; have := xg_t hx q; omega
    have h0 := j_prod0 (x := x) hE (by rw [X_tyb hb]; decide)
    exact ⟨x, fun n p a e _ _ he => h0.1 _ p a e he, fun n e => h0.2 _ e, xm_rf (xg_t hx)⟩
  | succ i ih =>
    intro hi x hx ht
    by_cases z : X_ty E x = 42 ∨ X_ty E x = 47 ∨ X_ty E x = 37
    · have hb : x.1 = false := by rcases z with z | z | z <;> exact X_tyn z (by decide)
      have hlt : x.1 = false → X_t x < E_m E := by
        rcases z with z | z | z
        · exact xq_lt hE (xg_t hx) z (by decide)
        · exact xq_lt hE (xg_t hx) z (by decide)
        · exact xq_lt hE (xg_t hx) z (by decide)
      have m0 := xm_ad hE hlt
      have ht1 : jt E i (X_ad x) := jt_m ht m0
      obtain ⟨x1, j1, j2, m1⟩ := hF (X_ad x) (xg_m hx m0 (by decide)) (jt_w ht1 (by omega))
      have m2 := xm_pt (xm_t m1) 1
      have m12 := xm_t0 m1 m2
      have m3 := xm_t0 m0 m12
      obtain ⟨x', i1, i2, m4⟩ := ih (by omega) (X_pt 1 x1) (xg_m hx m3 (by decide)) (jt_m (jt_w ht1 (Nat.le_add_right _ _)) m12)
      refine ⟨x', fun n p a e hp ha he k s O Q hs hQ => ?_, fun n e k M F Q Q' hr w hQ => ?_, xm_w (xm_t0 m3 m4) (by decide) (by decide) (by decide)⟩
      · obtain ⟨e, rfl⟩ : ∃ e', e = e' + 1 := ⟨e - 1, by omega⟩
        dsimp only [wF_X7_restOfProduct_2]
        have body : ∀ t0 : Int32, wF_X7_restOfProduct_66 (E_N E) (cff (E_N E) n) (wF_X7_restOfProduct_2 (E_N E) (cff (E_N E) n) Q e) Q p a t0 s O := fun t0 => c_adv hE hs hlt (fun s1 h1 => j1 n p (jp_m hp m0) k s1 O _ h1 (fun s2 h2 => c_emit hE h2 (xg_lo (n := 15) (xg_m (xg_m hx m0 (c' := 8) (by decide)) m1 (c' := 15) (by decide)) (by decide)) (by decide) (fun s3 h3 => i1 n p (a + 1) e (jp_m hp (xm_w m3 (Nat.le_refl _) (Int.le_refl _) (by decide))) (ja_m hE ha m3 (by decide)) (by omega) k s3 O Q h3 hQ)))
        have b36 : wF_X7_restOfProduct_36 (E_N E) (cff (E_N E) n) (wF_X7_restOfProduct_2 (E_N E) (cff (E_N E) n) Q e) Q p a s O := ⟨fun _ => ⟨fun _ => body _, fun _ => body _⟩, fun _ => body _⟩
        refine ⟨fun q => absurd q (ja_4 hE ha hb (xg_t hx hb)), fun _ => ⟨fun _ => b36, fun q1 => ⟨fun _ => b36, fun q2 => ⟨fun q3 => ?_, fun _ => b36⟩⟩⟩⟩
        rw [c_ty hs] at q1 q2 q3
        exact absurd z (fun z => z.elim q1 (fun z => z.elim q2 q3))
      · cases e with
        | zero => exact absurd w (fun q => q)
        | succ e =>
          dsimp only [w_productBehind_0] at w ⊢
          have body : w_productBehind_27 (wf_fac n) (w_productBehind_0 (wf_fac n) Q e) Q M F → w_productBehind_27 (wf_fac n) (w_productBehind_0 (wf_fac n) Q' e) Q' M F := fun w => re_pass hE hlt k M F _ _ hr w (fun M1 F1 h1 w1 => j2 n k M1 F1 _ _ h1 w1 (fun M2 F2 h2 w2 => re_put k M2 F2 _ _ h2 w2 (fun r M3 F3 h3 w3 => i2 n e k M3 F3 Q Q' (rx_pt h3) w3 hQ)))
          refine re_s1 hE hr (c := 42) rfl (fun _ w => body w) (fun q1 w => ?_) w
          refine re_s1 hE hr (c := 47) rfl (fun _ w => body w) (fun q2 w => ?_) w
          exact re_s0 hE hr (c := 37) rfl (fun _ w => body w) (fun q3 _ => absurd z (fun z => z.elim q1 (fun z => z.elim q2 q3))) w
    · have h0 := j_prod0 (x := x) hE z
      exact ⟨x, fun n p a e _ _ he => h0.1 _ p a e (by omega), fun n e => h0.2 _ e, xm_rf (xg_t hx)⟩
theorem j_prod (hE : E_ok E) {j : Nat} (hF : jF E j) (hx : xg E 10 x) (ht : jt E j x) : ∃ x', jx E (fun n p => wF_X7_restOfProduct (E_N E) (cff (E_N E) n) p) (fun n => w_productBehind (wf_fac n)) 0 0 x x' := by
  obtain ⟨x', a, b, c⟩ := j_prodL hE hF j (Nat.le_refl _) x hx ht
  exact ⟨x', fun n p hp k s O Q hs hQ => ⟨j + 1, a n p 0 (j + 1) hp ja_0 (by omega) k s O Q hs hQ⟩, fun n k M F Q Q' hr w hQ => by
    obtain ⟨e, w⟩ := w
    exact ⟨e, b n e k M F Q Q' hr w hQ⟩, c⟩
/-- a factor and what is multiplied behind it -/
theorem j_product (hE : E_ok E) {j : Nat} (hF : jF E j) (hx : xg E 10 x) (ht : jt E j x) : ∃ x', jx E (fun n p s O Q => cff (E_N E) n p s O (fun s1 O1 => wF_X7_restOfProduct (E_N E) (cff (E_N E) n) p s1 O1 Q)) (fun n => w_product (wf_fac n)) 1 0 x x' := by
  obtain ⟨x1, a1, b1, c1⟩ := hF x hx ht
  obtain ⟨x2, a2, b2, c2⟩ := j_prod hE hF (xg_m hx c1 (by decide)) (jt_m (jt_w ht (Nat.le_add_right _ _)) c1)
  exact ⟨x2, fun n p hp k s O Q hs hQ => a1 n p hp k s O _ hs (fun s1 h1 => a2 n p (jp_m hp c1) k s1 O Q h1 hQ), fun n k M F Q Q' hr w hQ => b1 n k M F _ _ hr w (fun M1 F1 h1 w1 => b2 n k M1 F1 _ _ h1 w1 hQ), xm_w (xm_t0 c1 c2) (by decide) (by decide) (by decide)⟩
/-- sums -/
theorem j_sum0 (hE : E_ok E) (h : ¬ (X_ty E x = 43 ∨ X_ty E x = 45)) : (∀ (WF : Int32 → x_CW) (p a : Int32) (e : Nat), 0 < e → cr E (fun s O Q => wF_X7_restOfSum_2 (E_N E) WF Q e p a s O) x x) ∧ (∀ (WF : x_RW) (e : Nat), rr E (fun M F Q => w_sumBehind_0 WF Q e M F) x x) := by
  refine ⟨fun WF p a e he k s O Q hs hQ => ?_, fun WF e k M F Q Q' hx w hQ => ?_⟩
  · obtain ⟨e, rfl⟩ : ∃ e', e = e' + 1 := ⟨e - 1, by omega⟩
    dsimp only [wF_X7_restOfSum_2]
    rw [c_ty hs]
    exact ⟨fun _ => hQ s hs, fun _ => ⟨fun q => absurd (Or.inl q) h, fun _ => ⟨fun _ => hQ s hs, fun q => absurd (Or.inr q) h⟩⟩⟩
  · cases e with
    | zero => exact absurd w (fun q => q)
    | succ e =>
      dsimp only [w_sumBehind_0] at w ⊢
      refine re_s1 hE hx (c := 43) rfl (fun z _ => absurd (Or.inl z) h) (fun _ w => ?_) w
      exact re_s0 hE hx (c := 45) rfl (fun z _ => absurd (Or.inr z) h) (fun _ w => hQ M F hx w) w
theorem j_sumL (hE : E_ok E) {j : Nat} (hF : jF E j) : ∀ i, i ≤ j → ∀ x, xg E 10 x → jt E i x → ∃ x', (∀ (n : Nat) (p a : Int32) (e : Nat), jp n p x → ja a x → i < e → cr E (fun s O Q => wF_X7_restOfSum_2 (E_N E) (cff (E_N E) n) Q e p a s O) x x') ∧ (∀ n e, rr E (fun M F Q => w_sumBehind_0 (wf_fac n) Q e M F) x x') ∧ xm E 0 0 0 x x' := by
  intro i
  induction i with
  | zero =>
    intro _ x hx ht
    have hb : x.1 = true := by
      cases q : x.1 with
      | true => rfl
      | false => have := ht q; have := xg_t hx q; omega
    have h0 := j_sum0 (x := x) hE (by rw [X_tyb hb]; decide)
    exact ⟨x, fun n p a e _ _ he => h0.1 _ p a e he, fun n e => h0.2 _ e, xm_rf (xg_t hx)⟩
  | succ i ih =>
    intro hi x hx ht
    by_cases z : X_ty E x = 43 ∨ X_ty E x = 45
    · have hb : x.1 = false := by rcases z with z | z <;> exact X_tyn z (by decide)
      have hlt : x.1 = false → X_t x < E_m E := by
        rcases z with z | z
        · exact xq_lt hE (xg_t hx) z (by decide)
        · exact xq_lt hE (xg_t hx) z (by decide)
      have m0 := xm_ad hE hlt
      have ht1 : jt E i (X_ad x) := jt_m ht m0
      obtain ⟨x1, j1, j2, m1⟩ := j_product (x := X_ad x) hE hF (xg_m hx m0 (by decide)) (jt_w ht1 (by omega))
      have m2 := xm_pt (xm_t m1) 1
      have m12 := xm_t0 m1 m2
      have m3 := xm_t0 m0 m12
      obtain ⟨x', i1, i2, m4⟩ := ih (by omega) (X_pt 1 x1) (xg_m hx m3 (by decide)) (jt_m (jt_w ht1 (Nat.le_add_right _ _)) m12)
      refine ⟨x', fun n p a e hp ha he k s O Q hs hQ => ?_, fun n e k M F Q Q' hr w hQ => ?_, xm_w (xm_t0 m3 m4) (by decide) (by decide) (by decide)⟩
      · obtain ⟨e, rfl⟩ : ∃ e', e = e' + 1 := ⟨e - 1, by omega⟩
        dsimp only [wF_X7_restOfSum_2]
        have body : ∀ t0 : Int32, wF_X7_restOfSum_43 (E_N E) (cff (E_N E) n) (wF_X7_restOfSum_2 (E_N E) (cff (E_N E) n) Q e) Q p a t0 s O := fun t0 => c_adv hE hs hlt (fun s1 h1 => j1 n p (jp_m hp m0) k s1 O _ h1 (fun s2 h2 => c_emit hE h2 (xg_lo (n := 15) (xg_m (xg_m hx m0 (c' := 8) (by decide)) m1 (c' := 15) (by decide)) (by decide)) (by decide) (fun s3 h3 => i1 n p (a + 1) e (jp_m hp (xm_w m3 (Nat.le_refl _) (Int.le_refl _) (by decide))) (ja_m hE ha m3 (by decide)) (by omega) k s3 O Q h3 hQ)))
        have b27 : wF_X7_restOfSum_27 (E_N E) (cff (E_N E) n) (wF_X7_restOfSum_2 (E_N E) (cff (E_N E) n) Q e) Q p a s O := ⟨fun _ => body _, fun _ => body _⟩
        refine ⟨fun q => absurd q (ja_4 hE ha hb (xg_t hx hb)), fun _ => ⟨fun _ => b27, fun q1 => ⟨fun q2 => ?_, fun _ => b27⟩⟩⟩
        rw [c_ty hs] at q1 q2
        exact absurd z (fun z => z.elim q1 q2)
      · cases e with
        | zero => exact absurd w (fun q => q)
        | succ e =>
          dsimp only [w_sumBehind_0] at w ⊢
          have body : w_sumBehind_18 (wf_fac n) (w_sumBehind_0 (wf_fac n) Q e) Q M F → w_sumBehind_18 (wf_fac n) (w_sumBehind_0 (wf_fac n) Q' e) Q' M F := fun w => re_pass hE hlt k M F _ _ hr w (fun M1 F1 h1 w1 => j2 n k M1 F1 _ _ h1 w1 (fun M2 F2 h2 w2 => re_put k M2 F2 _ _ h2 w2 (fun r M3 F3 h3 w3 => i2 n e k M3 F3 Q Q' (rx_pt h3) w3 hQ)))
          refine re_s1 hE hr (c := 43) rfl (fun _ w => body w) (fun q1 w => ?_) w
          exact re_s0 hE hr (c := 45) rfl (fun _ w => body w) (fun q3 _ => absurd z (fun z => z.elim q1 q3)) w
    · have h0 := j_sum0 (x := x) hE z
      exact ⟨x, fun n p a e _ _ he => h0.1 _ p a e (by omega), fun n e => h0.2 _ e, xm_rf (xg_t hx)⟩
theorem j_sum (hE : E_ok E) {j : Nat} (hF : jF E j) (hx : xg E 10 x) (ht : jt E j x) : ∃ x', jx E (fun n p => wF_X7_restOfSum (E_N E) (cff (E_N E) n) p) (fun n => w_sumBehind (wf_fac n)) 0 0 x x' := by
  obtain ⟨x', a, b, c⟩ := j_sumL hE hF j (Nat.le_refl _) x hx ht
  exact ⟨x', fun n p hp k s O Q hs hQ => ⟨j + 1, a n p 0 (j + 1) hp ja_0 (by omega) k s O Q hs hQ⟩, fun n k M F Q Q' hr w hQ => by
    obtain ⟨e, w⟩ := w
    exact ⟨e, b n e k M F Q Q' hr w hQ⟩, c⟩
/-- products and sums behind a factor -/
theorem j_behind (hE : E_ok E) {j : Nat} (hF : jF E j) (hx : xg E 10 x) (ht : jt E j x) : ∃ x', jx E (fun n p s O Q => wF_X7_restOfProduct (E_N E) (cff (E_N E) n) p s O (fun s1 O1 => wF_X7_restOfSum (E_N E) (cff (E_N E) n) p s1 O1 Q)) (fun n M F Q => w_productBehind (wf_fac n) M F (fun M1 F1 => w_sumBehind (wf_fac n) M1 F1 Q)) 0 0 x x' := by
  obtain ⟨x1, a1, b1, c1⟩ := j_prod hE hF hx ht
  obtain ⟨x2, a2, b2, c2⟩ := j_sum hE hF (xg_m hx c1 (by decide)) (jt_m (jt_w ht (Nat.le_add_right _ _)) c1)
  exact ⟨x2, fun n p hp k s O Q hs hQ => a1 n p hp k s O _ hs (fun s1 h1 => a2 n p (jp_m hp c1) k s1 O Q h1 hQ), fun n k M F Q Q' hr w hQ => b1 n k M F _ _ hr w (fun M1 F1 h1 w1 => b2 n k M1 F1 _ _ h1 w1 hQ), xm_w (xm_t0 c1 c2) (by decide) (by decide) (by decide)⟩
theorem j_restE (hE : E_ok E) {j : Nat} (hF : jF E j) (hx : xg E 10 x) (ht : jt E j x) : ∃ x', jx E (fun n p => wF_X7_restOfExpression (E_N E) (cff (E_N E) n) p) (fun n => w_wholeBehind (wf_fac n)) 0 0 x x' := by
  obtain ⟨x1, a1, b1, c1⟩ := j_behind hE hF hx ht
  have hx1 := xg_m hx c1 (c' := 10) (by decide)
  by_cases z : X_ty E x1 = 60 ∨ X_ty E x1 = 133 ∨ X_ty E x1 = 134
  · have hlt : x1.1 = false → X_t x1 < E_m E := by
      rcases z with z | z | z
      · exact xq_lt hE (xg_t hx1) z (by decide)
      · exact xq_lt hE (xg_t hx1) z (by decide)
      · exact xq_lt hE (xg_t hx1) z (by decide)
    have m0 := xm_ad hE hlt
    have ht1 : jt E j x1 := jt_m (jt_w ht (Nat.le_add_right _ _)) c1
    obtain ⟨x2, a2, b2, c2⟩ := hF (X_ad x1) (xg_m hx1 m0 (by decide)) (jt_m (jt_w ht1 (Nat.le_add_right _ _)) m0)
    have m2 := xm_t0 m0 c2
    obtain ⟨x3, a3, b3, c3⟩ := j_behind hE hF (xg_m hx1 m2 (by decide)) (jt_m (jt_w ht1 (Nat.le_add_right _ _)) m2)
    have m3 := xm_t0 m2 c3
    have m4 := xm_t0 m3 (xm_pt (xm_t m3) 1)
    refine ⟨X_pt 1 x3, fun n p hp k s O Q hs hQ => ?_, fun n k M F Q Q' hr w hQ => ?_, xm_w (xm_t0 c1 m4) (by decide) (by decide) (by decide)⟩
    · refine a1 n p hp k s O _ hs (fun s1 h1 => ?_)
      have hp1 := jp_m hp c1
      have body : ∀ t0 : Int32, wF_X7_restOfExpression_71 (E_N E) (cff (E_N E) n) Q p t0 s1 O := fun t0 => c_adv hE h1 hlt (fun s2 h2 => a2 n p (jp_m hp1 m0) k s2 O _ h2 (fun s3 h3 => a3 n p (jp_m hp1 m2) k s3 O _ h3 (fun s4 h4 => c_emit hE h4 (xg_lo (n := 15) (xg_m hx1 m3 (c' := 15) (by decide)) (by decide)) (by decide) (fun s5 h5 => hQ s5 h5))))
      have b41 : ∀ t0 : Int32, wF_X7_restOfExpression_41 (E_N E) (cff (E_N E) n) Q p t0 s1 O := fun t0 => ⟨fun _ => body _, fun q1 => ⟨fun _ => body _, fun q2 => ⟨fun q3 => by
        rw [c_ty h1] at q1 q2 q3
        exact absurd z (fun z => z.elim q1 (fun z => z.elim q2 q3)), fun _ => body _⟩⟩⟩
      exact ⟨fun _ => ⟨fun _ => b41 _, fun _ => b41 _⟩, fun _ => b41 _⟩
    · refine b1 n k M F _ _ hr w (fun M1 F1 h1 w1 => ?_)
      have body : w_compared_30 (wf_fac n) Q M1 F1 → w_compared_30 (wf_fac n) Q' M1 F1 := fun w => re_pass hE hlt k M1 F1 _ _ h1 w (fun M2 F2 h2 w2 => b2 n k M2 F2 _ _ h2 w2 (fun M3 F3 h3 w3 => b3 n k M3 F3 _ _ h3 w3 (fun M4 F4 h4 w4 => re_put k M4 F4 _ _ h4 w4 (fun r M5 F5 h5 w5 => hQ M5 F5 (rx_pt h5) w5))))
      refine re_s1 hE h1 (c := 60) rfl (fun _ w => body w) (fun q1 w => ?_) w1
      refine re_e1 hE h1 (c := 300) (Or.inl ⟨rfl, rfl⟩) (fun _ w => body w) (fun q2 w => ?_) w
      exact re_e1 hE h1 (c := 301) (Or.inr ⟨rfl, rfl⟩) (fun _ w => body w) (fun q3 _ => absurd z (fun z => z.elim q1 (fun z => z.elim q2 q3))) w
  · refine ⟨x1, fun n p hp k s O Q hs hQ => ?_, fun n k M F Q Q' hr w hQ => ?_, c1⟩
    · refine a1 n p hp k s O _ hs (fun s1 h1 => ?_)
      have b41 : ∀ t0 : Int32, wF_X7_restOfExpression_41 (E_N E) (cff (E_N E) n) Q p t0 s1 O := fun t0 => by
        unfold wF_X7_restOfExpression_41
        rw [c_ty h1]
        exact ⟨fun q => absurd (Or.inl q) z, fun _ => ⟨fun q => absurd (Or.inr (Or.inl q)) z, fun _ => ⟨fun _ => hQ s1 h1, fun q => absurd (Or.inr (Or.inr q)) z⟩⟩⟩
      exact ⟨fun _ => ⟨fun _ => b41 _, fun _ => b41 _⟩, fun _ => b41 _⟩
    · refine b1 n k M F _ _ hr w (fun M1 F1 h1 w1 => ?_)
      refine re_s1 hE h1 (c := 60) rfl (fun q _ => absurd (Or.inl q) z) (fun q1 w => ?_) w1
      refine re_e1 hE h1 (c := 300) (Or.inl ⟨rfl, rfl⟩) (fun q _ => absurd (Or.inr (Or.inl q)) z) (fun q2 w => ?_) w
      exact re_e1 hE h1 (c := 301) (Or.inr ⟨rfl, rfl⟩) (fun q _ => absurd (Or.inr (Or.inr q)) z) (fun _ w => hQ M1 F1 h1 w) w
theorem j_expr (hE : E_ok E) {j : Nat} (hF : jF E j) (hx : xg E 10 x) (ht : jt E j x) : ∃ x', jx E (fun n p => wF_X7_expression (E_N E) (cff (E_N E) n) p) (fun n => w_whole (wf_fac n)) 1 0 x x' := by
  obtain ⟨x1, a1, b1, c1⟩ := hF x hx ht
  obtain ⟨x2, a2, b2, c2⟩ := j_restE hE hF (xg_m hx c1 (by decide)) (jt_m (jt_w ht (Nat.le_add_right _ _)) c1)
  exact ⟨x2, fun n p hp k s O Q hs hQ => a1 n p hp k s O _ hs (fun s1 h1 => a2 n p (jp_m hp c1) k s1 O Q h1 hQ), fun n k M F Q Q' hr w hQ => b1 n k M F _ _ hr w (fun M1 F1 h1 w1 => b2 n k M1 F1 _ _ h1 w1 hQ), xm_w (xm_t0 c1 c2) (by decide) (by decide) (by decide)⟩
end XJ2
