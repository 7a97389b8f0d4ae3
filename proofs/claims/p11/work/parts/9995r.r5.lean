/-! THE REFERENCE'S READER WITH WHAT ITS ROWS HOLD. -/
section YR1
variable {E : x_E} {k : x_B} {M M' : Nat → Int32} {F F' : Nat → Nat → Int32} {y y' : y_X}
def RG (E : x_E) (k : x_B) (M : Nat → Int32) (F : Nat → Nat → Int32) (y : y_X) : Prop := nf y → k.1 = Y_B y ∧ (M 29 = nI (Y_m y 0) ∧ M 31 = nI (Y_m y 1) ∧ M 32 = nI (Y_m y 2)) ∧ (Y_n y ≤ 18000 ∧ Y_T y ≤ 800 ∧ Y_V y ≤ 100000) ∧ (∀ r i, 13 ≤ r → r ≤ 17 → 9000 * Y_B y ≤ i → i < Y_n y → F r i = Y_R y r i) ∧ (∀ r i, 20 ≤ r → r ≤ 22 → 400 * Y_B y ≤ i → i < Y_T y → r ≤ 20 + Y_a y 7 i → F r i = Y_R y r i) ∧ (∀ r i, 23 ≤ r → r ≤ 26 → 400 * Y_B y ≤ i → i < Y_V y → r ≤ 22 + Y_a y 8 i → F r i = Y_R y r i) ∧ (∀ j : Nat, (j : Int) < (Y_i y 1).toInt ∨ (k.2 = true ∧ (j : Int) = (Y_i y 1).toInt) → F 18 (400 * Y_B y + j) = Y_r y (100000 + j)) ∧ (∀ w, Y_u y w = Y_i y 1 → (E_nw E w → F 10 w = (Y_S y w).1) ∧ (¬ E_nw E w → F 10 w = (Y_S y w).2)) ∧ ∀ i, i < (Y_l y).length → F 42 i = nI (Y_a y 5 i)
def rxG (E : x_E) (k : x_B) (M : Nat → Int32) (F : Nat → Nat → Int32) (y : y_X) : Prop := rxx E k M F (yx y) ∧ RG E k M F y
theorem RG_fr (h : RG E k M F y) (f : hfi M F M' F') : RG E k M' F' y := by
  obtain ⟨⟨f1, f2, f3⟩, f4⟩ := f
  intro n
  obtain ⟨a1, ⟨a2, a3, a4⟩, a5, a6, a7, a8, a9, a10, a11⟩ := h n
  refine ⟨a1, ⟨f1.trans a2, f2.trans a3, f3.trans a4⟩, a5, fun r i h1 h2 h3 h4 => ?_, fun r i h1 h2 h3 h4 h5 => ?_, fun r i h1 h2 h3 h4 h5 => ?_, fun j hj => ?_, fun w hw => ?_, fun i hi => ?_⟩
  · rw [f4 r (Or.inr (by omega))]; exact a6 r i h1 h2 h3 h4
  · rw [f4 r (Or.inr (by omega))]; exact a7 r i h1 h2 h3 h4 h5
  · rw [f4 r (Or.inr (by omega))]; exact a8 r i h1 h2 h3 h4 h5
  · rw [f4 18 (Or.inr (by decide))]; exact a9 j hj
  · rw [f4 10 (Or.inl rfl)]; exact a10 w hw
  · rw [f4 42 (Or.inr (by decide))]; exact a11 i hi
theorem hf_rf : hfi M F M F := ⟨⟨rfl, rfl, rfl⟩, fun _ _ => rfl⟩
theorem rxG_zb (h : zb M) (hy : y.1 = true) : rxG E k M F y := ⟨rx_zb h hy, fun n => absurd n (nf_bd hy)⟩
/-- a run of the reference: if it is safe, it leads to y' -/
def rrG (E : x_E) (W : x_RW) (y y' : y_X) : Prop := ∀ (k : x_B) (M : Nat → Int32) (F : Nat → Nat → Int32) (Q Q' : (Nat → Int32) → (Nat → Nat → Int32) → Prop), rxG E k M F y → W M F Q → (∀ M' F', rxG E k M' F' y' → Q M' F' → Q' M' F') → W M F Q'
theorem rg_of {W : x_RW} (hf : ∀ (M : Nat → Int32) (F : Nat → Nat → Int32) (Q Q' : (Nat → Int32) → (Nat → Nat → Int32) → Prop), W M F Q → (∀ M' F', hfi M F M' F' → Q M' F' → Q' M' F') → W M F Q') (ho : rr E W (yx y) (yx y')) (hg : ∀ k M F, RG E k M F y → RG E k M F y') : rrG E W y y' := fun k M F Q Q' h w hQ => ho k M F (fun M' F' => hfi M F M' F' ∧ Q M' F') Q' h.1 (hf M F Q _ w (fun _ _ f q => ⟨f, q⟩)) (fun M' F' h' q => hQ M' F' ⟨h', RG_fr (hg k M F h.2) q.1⟩ q.2)
theorem yx_tk {c : Int32} : yx (Y_tk E c y) = X_tk E c (yx y) := yx_if _
theorem yx_op {c : Int32} : yx (Y_op E c y) = X_op E c (yx y) := yx_if _
theorem yx_kd : yx (Y_kd E y) = X_kd E (yx y) := yx_if _
theorem yx_cl {c : Int32} : yx (Y_cl E c y) = X_cl E c (yx y) := by
  have e : yx (Y_cl E c y) = X_si 0 (Y_i y 0 - 1) (yx (Y_tk E c y)) := rfl
  rw [e, yx_tk]; rfl
theorem RG_tk {c : Int32} (h : RG E k M F y) : RG E k M F (Y_tk E c y) := by
  unfold Y_tk
  split
  · exact h
  · exact fun n => absurd n (nf_bd rfl)
theorem RG_op {c : Int32} (h : RG E k M F y) : RG E k M F (Y_op E c y) := by
  unfold Y_op
  split
  · exact h
  · exact fun n => absurd n (nf_bd rfl)
theorem rg_fail (hE : E_ok E) : rrG E w_fail y (Y_bd y) := fun k M F Q Q' h w hQ => re_fail hE k M F Q Q' h.1 w (fun M' F' h' q => hQ M' F' ⟨h', fun n => absurd n (nf_bd rfl)⟩ q)
theorem rg_pass (hE : E_ok E) (ht : y.1 = false → Y_t y < E_m E) : rrG E w_pass y (Y_ad y) := rg_of (fun _ _ _ _ w hq => hr_pass hf_rf w hq) (re_pass hE ht) (fun _ _ _ h => h)
theorem rg_need (hE : E_ok E) {c : Int32} (hc : x_sn c = true) : rrG E (w_need c) y (Y_tk E c y) := rg_of (fun _ _ _ _ w hq => hr_need hf_rf w hq) (by rw [yx_tk]; exact re_need hE hc) (fun _ _ _ h => RG_tk h)
theorem rg_needWord (hE : E_ok E) (p : Nat) (hp : p < 26) {c d : Int32} (hc : c = nI p) (hd : d = nI (200 + p)) : rrG E (w_needWord c) y (Y_tk E d y) := rg_of (fun _ _ _ _ w hq => hr_needWord hf_rf w hq) (by rw [yx_tk]; exact re_needWord hE p hp hc hd) (fun _ _ _ h => RG_tk h)
theorem rg_opens (hE : E_ok E) {c : Int32} (hc : x_sn c = true) : rrG E (w_opens c) y (Y_op E c y) := rg_of (fun _ _ _ _ w hq => hr_opens hf_rf w hq) (by rw [yx_op]; exact re_opens hE hc) (fun _ _ _ h => RG_op h)
theorem rg_closes (hE : E_ok E) {c : Int32} (hc : x_sn c = true) (ho : y.1 = false → 1 ≤ (Y_i y 0).toInt ∧ (Y_i y 0).toInt ≤ 20) : rrG E (w_closes c) y (Y_cl E c y) := rg_of (fun _ _ _ _ w hq => hr_closes hf_rf w hq) (by rw [yx_cl]; exact re_closes hE hc ho) (fun _ _ _ h => RG_tk h)
theorem rg_lt (hE : E_ok E) (h : rxG E k M F y) (h5 : ¬ Y_ty E y = 135) : y.1 = false → Y_t y < E_m E := re_lt hE h.1 h5
theorem rg_takenW (hE : E_ok E) {a d : Int32} (hyd : (a = 1 ∧ d = 130) ∨ (a = 2 ∧ d = 131)) {Q Q' : Int32 → (Nat → Int32) → (Nat → Nat → Int32) → Prop} (h : rxG E k M F y) (w : w_taken a M F Q) (hQ : ∀ r M' F', rxG E k M' F' (Y_tk E d y) → (Y_ty E y = d → r = nI (E_w E (Y_t y)) ∧ ¬ M' 47 = -1) → Q r M' F' → Q' r M' F') : w_taken a M F Q' := re_takenW hE hyd h.1 (hr_taken (Q' := fun r M' F' => hfi M F M' F' ∧ Q r M' F') hf_rf w (fun _ _ _ f q => ⟨f, q⟩)) (fun r M' F' h' e q => hQ r M' F' ⟨by rw [yx_tk]; exact h', RG_fr (RG_tk h.2) q.1⟩ e q.2)
theorem E_kd {M : Nat → Int32} {a v : Int32} (h : q_tk a v M) (z : X_ik a) : M 5 = a - 226 := by
  have hk : ∀ p, p < 33 → 26 ≤ p → nI (p - 26) = nI (200 + p) - 226 := by decide +kernel
  have hw : ∀ q, q < 26 → ¬ X_ik (nI (200 + q)) := by decide +kernel
  have hs : ∀ c : Int32, x_sn c = true → ¬ X_ik c := fun c hc => by
    rw [x_sn_iff] at hc
    rcases hc with rfl | rfl | rfl | rfl | rfl | rfl | rfl | rfl | rfl | rfl | rfl | rfl | rfl <;> decide
  rcases h with (⟨rfl, b⟩ | ⟨rfl, b⟩ | ⟨q, hq, rfl, b, -⟩ | ⟨q, g, hq, rfl, b, c⟩ | ⟨w, -, rfl, -, b, -⟩ | ⟨w, -, rfl, -, b, -⟩ | ⟨rfl, b, -⟩ | ⟨rfl, b, -⟩ | ⟨e, b, -⟩) | ⟨rfl, b⟩
  · exact absurd z (by decide)
  · exact absurd z (by decide)
  · exact absurd z (hw q hq)
  · exact c.trans (hk q hq g)
  · exact absurd z (by decide)
  · exact absurd z (by decide)
  · exact absurd z (by decide)
  · exact absurd z (by decide)
  · exact absurd z (hs _ e)
  · exact absurd z (by decide)
theorem rg_takenK (hE : E_ok E) {Q Q' : Int32 → (Nat → Int32) → (Nat → Nat → Int32) → Prop} (h : rxG E k M F y) (w : w_taken 5 M F Q) (hQ : ∀ r M' F', rxG E k M' F' (Y_kd E y) → (X_ik (Y_ty E y) → r = Y_ty E y - 226) → Q r M' F' → Q' r M' F') : w_taken 5 M F Q' := by
  refine re_taken hE (x := yx y) (x' := X_kd E (yx y)) (p := X_ik (Y_ty E y)) (fun z => ⟨by unfold X_kd; exact if_pos z, ?_, fun q => ?_⟩) (fun z => by unfold X_kd; exact if_neg z) (fun hb M hM => ?_) h.1 (hr_taken (Q' := fun r M' F' => hfi M F M' F' ∧ Q r M' F') hf_rf w (fun _ _ _ f q => ⟨f, q⟩)) (fun r M' F' h' e q => hQ r M' F' ⟨by rw [yx_kd]; exact h', RG_fr ?_ q.1⟩ (fun z => ?_) q.2)
  · cases q : y.1 with
    | true => rw [Y_tyb q] at z; exact absurd z (by decide)
    | false => exact q
  · have q : Y_ty E y = 135 := q
    rw [q] at z; exact absurd z (by decide)
  · have hb : y.1 = false := hb
    rw [Y_tyg hb]; exact re_kindI hM
  · unfold Y_kd
    split
    · exact h.2
    · exact fun n => absurd n (nf_bd rfl)
  · have hb : y.1 = false := by
      cases q : y.1 with
      | true => rw [Y_tyb q] at z; exact absurd z (by decide)
      | false => rfl
    rw [(e z).1, Y_tyg hb]
    rw [Y_tyg hb] at z
    exact E_kd (rx_tk hE h.1 hb) z
theorem rg_told {w : Nat} {p1 p2 : Int32} (hE : E_ok E) (hw : y.1 = false → p1 = nI w ∧ w < E_l E (Y_t y) ∧ w < E_L E ∧ ¬ p2 = -1) {Q Q' : Int32 → (Nat → Int32) → (Nat → Nat → Int32) → Prop} (h : rxG E k M F y) (wt : w_told p1 p2 M F Q) (hQ : ∀ r M' F', (nf (Y_td w y) → E_nw E w → r = (Y_S y w).1) → rxG E k M' F' (Y_td w y) → Q r M' F' → Q' r M' F') : w_told p1 p2 M F Q' := by
  unfold w_told at wt ⊢
  rw [re_bad h.1] at wt ⊢
  have hL : E_L E ≤ 2005 := hE.1.2.2.2.2.1
  cases hb : (yx y).1 with
  | true =>
    rw [hb, if_pos rfl] at wt
    have hb : y.1 = true := hb
    have tb : (Y_td w y).1 = true := by unfold Y_td; split <;> exact hb
    exact ⟨fun q => absurd q (by decide), fun _ => hQ _ _ _ (fun n => absurd n (nf_bd tb)) (rxG_zb (h.1.1 hb) tb) (wt.2 (by decide))⟩
  | false =>
    rw [hb, if_neg (by decide)] at wt
    have hb : y.1 = false := hb
    obtain ⟨e, wl, wL, pn⟩ := hw hb
    subst e
    have g := h.1.2 hb
    have eF : F 9 w = Y_u y w := (g.2.2.2.1.1 w wl).1
    have eM : M 30 = Y_i y 1 := g.2.2.1.2.1
    refine ⟨fun _ => ?_, fun q => absurd rfl q⟩
    have wt := wt.1 rfl
    rw [y_cl (by omega), eF, eM] at wt ⊢
    unfold Y_td at hQ
    refine ⟨wt.1, fun z => ?_, fun z => ⟨(wt.2.2 z).1, ?_⟩⟩
    · rw [if_neg z] at hQ
      exact re_least pn (wt.2.1 z) (fun r hr w' => hQ _ _ _ (fun n => absurd n.2.1 (by show ¬ true = false; decide)) ⟨rx_g (re_s2 g hr) hb, fun n => absurd n.2.1 (by show ¬ true = false; decide)⟩ w')
    · rw [if_pos z] at hQ
      exact hQ _ _ _ (fun n nw => ((h.2 n).2.2.2.2.2.2.2.1 w z).1 nw) h (wt.2.2 z).2
theorem RG_su (hE : E_ok E) {w j : Nat} (wL : w < E_L E) {v b : Int32} (hj : (j = 2 ∧ E_nw E w) ∨ (j = 3 ∧ ¬ E_nw E w)) (hb : nf y → b = Y_i y j) (h : RG E k M F y) (hM : M' 29 = M 29 ∧ M' 31 = M 31 ∧ M' 32 = M 32) : RG E k M' (uf (uf F 9 (nI w) v) 10 (nI w) b) (Y_si j (Y_i y j + 1) (Y_su w y)) := by
  have hL : E_L E ≤ 2005 := hE.1.2.2.2.2.1
  intro n
  have n : nf y := n
  obtain ⟨a1, ⟨a2, a3, a4⟩, a5, a6, a7, a8, a9, a10, a11⟩ := h n
  have i1 : Y_i (Y_si j (Y_i y j + 1) (Y_su w y)) 1 = Y_i y 1 := by
    rcases hj with ⟨rfl, -⟩ | ⟨rfl, -⟩ <;> rfl
  refine ⟨a1, ⟨hM.1.trans a2, hM.2.1.trans a3, hM.2.2.trans a4⟩, a5, fun r i h1 h2 h3 h4 => ?_, fun r i h1 h2 h3 h4 h5 => ?_, fun r i h1 h2 h3 h4 h5 => ?_, fun q hq => ?_, fun w' hw' => ?_, fun i hi => a11 i hi⟩
  · rw [uf_row (by omega), uf_row (by omega)]; exact a6 r i h1 h2 h3 h4
  · rw [uf_row (by omega), uf_row (by omega)]; exact a7 r i h1 h2 h3 h4 h5
  · rw [uf_row (by omega), uf_row (by omega)]; exact a8 r i h1 h2 h3 h4 h5
  · rw [i1] at hq; exact a9 q hq
  · rw [i1] at hw'
    have hw' : fu (Y_u y) w (Y_i y 1) w' = Y_i y 1 := hw'
    show (_ → uf (uf F 9 (nI w) v) 10 (nI w) b 10 w' = (f1 (Y_S y) w (Y_i y 2, Y_i y 3) w').1) ∧ (_ → uf (uf F 9 (nI w) v) 10 (nI w) b 10 w' = (f1 (Y_S y) w (Y_i y 2, Y_i y 3) w').2)
    rw [uf_at2, y_cl (by omega)]
    by_cases q : w' = w
    · subst q
      rw [if_pos ⟨rfl, rfl⟩, f1_eq, hb n]
      rcases hj with ⟨rfl, x⟩ | ⟨rfl, x⟩
      · exact ⟨fun _ => rfl, fun z => absurd x z⟩
      · exact ⟨fun z => absurd z x, fun _ => rfl⟩
    · rw [if_neg (fun z => q z.2), f1_ne q, uf_row (by decide)]
      unfold fu at hw'
      rw [if_neg q] at hw'
      exact a10 w' hw'
theorem rg_tell {w : Nat} {p1 p2 : Int32} (hE : E_ok E) (hw : y.1 = false → p1 = nI w ∧ w < E_l E (Y_t y) ∧ w < E_L E ∧ ¬ p2 = -1) (hn : y.1 = false → E_nw E w) {Q Q' : (Nat → Int32) → (Nat → Nat → Int32) → Prop} (h : rxG E k M F y) (wt : w_tell p1 p2 M F Q) (hQ : ∀ M' F', rxG E k M' F' (Y_te w y) → Q M' F' → Q' M' F') : w_tell p1 p2 M F Q' := by
  have hL : E_L E ≤ 2005 := hE.1.2.2.2.2.1
  cases hb : y.1 with
  | true =>
    refine re_tell (x := yx y) (w := w) hE (fun q => absurd (hb.symm.trans q) (by decide)) h.1 wt (fun M' F' h' q => hQ M' F' ⟨by rw [yx_te]; exact h', fun n => absurd (hb.symm.trans (nf_te n).2.2.1) (by decide)⟩ q)
  | false =>
    obtain ⟨e, wl, wL, pn⟩ := hw hb
    have nw := hn hb
    subst e
    have g := h.1.2 hb
    have eF : F 9 w = Y_u y w := (g.2.2.2.1.1 w wl).1
    have eM : M 30 = Y_i y 1 := g.2.2.1.2.1
    -- the frame beside the old run
    have wt2 : w_tell (nI w) p2 M F (fun M' F' => (nf (Y_te w y) → RG E k M' F' (Y_te w y)) ∧ Q M' F') := by
      unfold w_tell at wt ⊢
      rw [re_bad h.1] at wt ⊢
      rw [show (yx y).1 = false from hb, if_neg (by decide)] at wt ⊢
      refine ⟨fun _ => ?_, fun q => absurd rfl q⟩
      have wt := wt.1 rfl
      have ec : (F 9 (nI w).toNatClampNeg = M 30) ↔ Y_u y w = Y_i y 1 := by rw [y_cl (by omega), eF, eM]
      refine ⟨wt.1, fun z => ?_, fun z => ?_⟩
      · have wt := wt.2.1 z
        refine ⟨wt.1, wt.2.1, fun x => ⟨fun n => ?_, wt.2.2.1 x⟩, fun x => re_least pn (wt.2.2.2 x) (fun r _ q => ⟨fun n => ?_, q⟩)⟩
        · obtain ⟨n1, n2, n3⟩ := nf_te n
          rw [n2]
          exact RG_su hE wL (Or.inl ⟨rfl, nw⟩) (fun n => (g.2.2.1.2.2 n.2.1 n.2.2).1) h.2 ⟨rfl, rfl, rfl⟩
        · obtain ⟨n1, n2, n3⟩ := nf_te n
          rw [n2]
          exact RG_su hE wL (Or.inl ⟨rfl, nw⟩) (fun n => (g.2.2.1.2.2 n.2.1 n.2.2).1) h.2 ⟨rfl, rfl, rfl⟩
      · exact re_least pn (wt.2.2 z) (fun r _ q => ⟨fun n => absurd (ec.mp z) (nf_te n).1, q⟩)
    exact re_tell (x := yx y) (w := w) hE (fun _ => ⟨rfl, wl, wL, pn⟩) h.1 wt2 (fun M' F' h' q => hQ M' F' ⟨by rw [yx_te]; exact h', fun n => q.1 n n⟩ q.2)
theorem rg_put {a b c d : Int32} {Q Q' : Int32 → (Nat → Int32) → (Nat → Nat → Int32) → Prop} (h : rxG E k M F y) (w : w_put a b c d M F Q) (hQ : ∀ r M' F', (nf y → r = nI (Y_n y)) → rxG E k M' F' (Y_rs (a, b, c, d, -1) y) → Q r M' F' → Q' r M' F') : w_put a b c d M F Q' := by
  refine ⟨w.1, w.2.1, w.2.2.1, w.2.2.2.1, w.2.2.2.2.1, ?_⟩
  have e27 : y.1 = false → M 27 = nI k.1 := fun hb => (h.1.2 hb).2.2.2.2.2.1.1
  have er : nf y → 9000 * M 27 + M 29 = nI (Y_n y) := fun n => by
    obtain ⟨a1, ⟨a2, -⟩, -⟩ := h.2 n
    rw [e27 n.1, a1, a2, show (9000 : Int32) = nI 9000 from rfl, pk_mul, nI_add]; rfl
  refine hQ _ _ _ er ⟨rx_um (by decide) (rx_uf (by decide) (rx_uf (by decide) (rx_uf (by decide) (rx_uf (by decide) (rx_uf (by decide) h.1))))), fun n => ?_⟩ w.2.2.2.2.2
  have n : nf y := n
  have er := er n
  obtain ⟨a1, ⟨a2, a3, a4⟩, ⟨a5, a5', a5''⟩, a6, a7, a8, a9, a10, a11⟩ := h.2 n
  have hv := w.1
  rw [er] at hv ⊢
  have lt : Y_n y < 18000 := by
    have := vp_in_iff.mp hv
    rw [fs_nI (by omega)] at this
    omega
  have cn : (nI (Y_n y)).toNatClampNeg = Y_n y := y_cl (by omega)
  have en : Y_n (Y_rs (a, b, c, d, -1) y) = Y_n y + 1 := by
    show 9000 * f1 (Y_m y) 0 (Y_m y 0 + 1) 3 + f1 (Y_m y) 0 (Y_m y 0 + 1) 0 = 9000 * Y_m y 3 + Y_m y 0 + 1
    rw [f1_ne (by decide), f1_eq]; omega
  refine ⟨a1, ⟨?_, a3, a4⟩, ⟨by rw [en]; omega, a5', a5''⟩, fun r i h1 h2 h3 h4 => ?_, fun r i h1 h2 h3 h4 h5 => ?_, fun r i h1 h2 h3 h4 h5 => ?_, fun j hj => ?_, a10, a11⟩
  · show M 29 + 1 = nI (f1 (Y_m y) 0 (Y_m y 0 + 1) 0)
    rw [a2, f1_eq, y_1]
  · rw [en] at h4
    show uf (uf (uf (uf (uf F 13 (nI (Y_n y)) a) 14 (nI (Y_n y)) b) 15 (nI (Y_n y)) c) 16 (nI (Y_n y)) d) 17 (nI (Y_n y)) (-1) r i = r5 (Y_R y) (Y_n y) (a, b, c, d, -1) r i
    by_cases q : i = Y_n y
    · subst q
      obtain ⟨z1, z2, z3, z4, z5⟩ := r5_at (R := Y_R y) (k := Y_n y) (o := (a, b, c, d, -1))
      have cs : r = 13 ∨ r = 14 ∨ r = 15 ∨ r = 16 ∨ r = 17 := by omega
      rcases cs with rfl | rfl | rfl | rfl | rfl
      · rw [z1]; simp only [uf_at2, cn]; rfl
      · rw [z2]; simp only [uf_at2, cn]; rfl
      · rw [z3]; simp only [uf_at2, cn]; rfl
      · rw [z4]; simp only [uf_at2, cn]; rfl
      · rw [z5]; simp only [uf_at2, cn]; rfl
    · rw [r5_ne q, uf_at2, cn, if_neg (fun z => q z.2), uf_at2, cn, if_neg (fun z => q z.2), uf_at2, cn, if_neg (fun z => q z.2), uf_at2, cn, if_neg (fun z => q z.2), uf_at2, cn, if_neg (fun z => q z.2)]
      exact a6 r i h1 h2 h3 (by omega)
  · show uf (uf (uf (uf (uf F 13 _ a) 14 _ b) 15 _ c) 16 _ d) 17 _ (-1) r i = r5 (Y_R y) (Y_n y) (a, b, c, d, -1) r i
    rw [r5_nr (Or.inr (by omega)), uf_row (by omega), uf_row (by omega), uf_row (by omega), uf_row (by omega), uf_row (by omega)]; exact a7 r i h1 h2 h3 h4 h5
  · show uf (uf (uf (uf (uf F 13 _ a) 14 _ b) 15 _ c) 16 _ d) 17 _ (-1) r i = r5 (Y_R y) (Y_n y) (a, b, c, d, -1) r i
    rw [r5_nr (Or.inr (by omega)), uf_row (by omega), uf_row (by omega), uf_row (by omega), uf_row (by omega), uf_row (by omega)]; exact a8 r i h1 h2 h3 h4 h5
  · exact a9 j hj
end YR1
