/-! BOTH PARSERS TOGETHER, WITH WHAT THEY PUT: factors. -/
section YJ4
variable {E : x_E} {x y : y_X}
theorem nf_m {a : Nat} {d : Int} {e : Int32} (m : ym E a d e x y) (n : nf y) : nf x := by
  obtain ⟨b1, -, -, -, -, -, b11, b12, -⟩ := m.1 n.1
  exact ⟨b1, b11 n.2.1, b12 n.2.2⟩
/-- what is put counts only while nothing is wrong -/
theorem rc_emn {k : x_Kt} {s : f_S3} {l l' : List Int32} {o : x_O} {c : List (Nat × Nat)} (h : rcG E k s (Y_cs l x)) (hl : l'.length = l.length) (he : nf x → l = l') : rcG E k s (Y_em l' o c x) := by
  by_cases n : nf x
  · rw [← he n]; exact rc_em h
  · have e : yx (Y_em l' o c x) = yx (Y_cs l x) := by
      unfold yx Y_em Y_cs
      dsimp only [Y_z]
      rw [hl]
    refine ⟨by rw [e]; exact h.1, fun n' => absurd ?_ n⟩
    unfold nf Y_em at n'
    exact n'
theorem rx_emn {k : x_B} {M : Nat → Int32} {F : Nat → Nat → Int32} {l : List Int32} {o o' : x_O} {c : List (Nat × Nat)} (he : nf x → o = o') (h : rxG E k M F (Y_rs o x)) : rxG E k M F (Y_em l o' c x) := by
  by_cases n : nf x
  · rw [← he n]; exact rx_em h
  · refine ⟨rx_pt (x := yx x) (j := l.length) h.1, fun n' => absurd ?_ n⟩
    unfold nf Y_em at n'
    exact n'
theorem rg_m4 (hE : E_ok E) {k : x_B} {M : Nat → Int32} {F : Nat → Nat → Int32} (h : rxG E k M F x) (hb : x.1 = false) : (Y_ty E x = 132 ↔ M 4 = 3) ∧ (Y_ty E x = 130 ↔ M 4 = 1) ∧ (Y_ty E x = 131 ↔ M 4 = 2) ∧ (X_ip (Y_ty E x) ↔ M 4 = 4 ∧ ¬ M 5 < 19 ∧ ¬ 23 < M 5) := re_m4 hE h.1 hb
theorem E_nv {M : Nat → Int32} {a v : Int32} (h : q_tk a v M) (z : a = 132) : M 5 = v := by
  have hw : ∀ q, q < 33 → ¬ (132 : Int32) = nI (200 + q) := by decide +kernel
  subst z
  rcases h with (⟨-, -, c⟩ | ⟨e, -⟩ | ⟨q, hq, e, -⟩ | ⟨q, -, hq, e, -⟩ | ⟨w, -, e, -⟩ | ⟨w, -, e, -⟩ | ⟨e, -⟩ | ⟨e, -⟩ | ⟨e, -⟩) | ⟨e, -⟩
  · exact c
  · exact absurd e (by decide)
  · exact absurd e (hw q (by omega))
  · exact absurd e (hw q hq)
  · exact absurd e (by decide)
  · exact absurd e (by decide)
  · exact absurd e (by decide)
  · exact absurd e (by decide)
  · exact absurd e (by decide)
  · exact absurd e (by decide)
theorem rg_m5n (hE : E_ok E) {k : x_B} {M : Nat → Int32} {F : Nat → Nat → Int32} (h : rxG E k M F x) (z : Y_ty E x = 132) : M 5 = E_V E (Y_t x) := by
  have hb := Y_tyn z (by decide)
  exact E_nv (rx_tk hE h.1 hb) ((Y_tyg hb).symm.trans z)
theorem E_whk {c : Int32} (z : X_ip c) : k_wh (c - 219) = E_wh c := by
  rcases z with z | z | z | z | z <;> rw [z] <;> decide
theorem rg_pb (hE : E_ok E) {k : x_B} {M : Nat → Int32} {F : Nat → Nat → Int32} (h : rxG E k M F x) (z : X_ip (Y_ty E x)) : M 5 - 19 = Y_ty E x - 219 := by
  have hb : x.1 = false := by
    cases q : x.1 with
    | true => rw [Y_tyb q] at z; exact absurd z (by decide)
    | false => rfl
  have hq := rx_tk hE h.1 hb
  have go : ∀ p : Nat, p < 26 → Y_ty E x = nI (200 + p) → M 5 = nI p := fun p hp e => ((q_word hq hp).mp ((Y_tyg hb).symm.trans e)).2
  rcases z with z | z | z | z | z
  · rw [go 19 (by omega) (z.trans (by decide)), z]; decide
  · rw [go 20 (by omega) (z.trans (by decide)), z]; decide
  · rw [go 21 (by omega) (z.trans (by decide)), z]; decide
  · rw [go 22 (by omega) (z.trans (by decide)), z]; decide
  · rw [go 23 (by omega) (z.trans (by decide)), z]; decide
/-- what is asked of an object: the state, then what is put -/
def Y_as (E : x_E) (x : y_X) : y_X := if Y_ty E x = 224 then Y_kd E (Y_qu E x) else Y_ob E (Y_qu E x)
def Y_av (E : x_E) (x : y_X) : Int32 := if Y_ty E x = 224 then Y_ty E (Y_qu E x) - 226 else (Y_S (Y_as E x) (E_w E (Y_t (Y_qu E x)))).2
def Y_al (E : x_E) (p : Int32) (x : y_X) : List Int32 := if Y_ty E x = 224 then [23, p, Y_av E x] else [24, p, Y_av E x]
def Y_ao (E : x_E) (p : Int32) (x : y_X) : x_O := if Y_ty E x = 224 then (8, p, Y_av E x, 0, -1) else (9, p, Y_av E x, 0, -1)
def Y_aq (E : x_E) (p : Int32) (x : y_X) : y_X := Y_em (Y_al E p x) (Y_ao E p x) (Y_c (Y_as E x)) (Y_as E x)
theorem Y_al3 {p : Int32} : (Y_al E p x).length = 3 := by unfold Y_al; split <;> rfl
theorem ym_as (hE : E_ok E) (h : x.1 = false → Y_t x ≤ E_m E) : ym E 2 (-4) 0 x (Y_as E x) := by
  have m := ym_qu hE h
  unfold Y_as
  split
  · exact ym_w (ym_t0 m (ym_kd hE (ym_t m))) (by decide) (by decide) rfl
  · exact ym_w (ym_t0 m (ym_ob hE (ym_t m))) (by decide) (by decide) rfl
theorem nf_kd (n : nf (Y_kd E x)) : X_ik (Y_ty E x) := by
  unfold Y_kd at n
  by_cases q : X_ik (Y_ty E x)
  · exact q
  · rw [if_neg q] at n; exact absurd n (nf_bd rfl)
theorem E_kn {c : Int32} (z : X_ik c) : ¬ c - 226 = -1 := fun q => by
  have e : c = -1 + 226 := by rw [← q, Int32.sub_add_cancel]
  rw [e] at z
  exact absurd z (by decide)
theorem ym_aq (hE : E_ok E) (p : Int32) (h : x.1 = false → Y_t x ≤ E_m E) : ym E 2 (-1) 0 x (Y_aq E p x) := by
  have m := ym_as hE h
  have m2 : ym E 0 ((Y_al E p x).length : Int) 0 (Y_as E x) (Y_aq E p x) := by
    unfold Y_aq
    refine ym_em (ym_t m) ?_ (by rw [Y_al3]; decide) (fun n => ?_) (fun n => ?_)
    · unfold Y_ao
      split
      · exact ho_8
      · exact ho_9
    · unfold Y_al Y_ao
      split
      · exact k_e_8.symm
      · exact k_e_9.symm
    · unfold Y_ao
      split
      · next z =>
        refine ⟨fun _ => ?_, fun q => absurd q (show ¬ (8 : Int32) = 13 by decide)⟩
        show ¬ Y_av E x = -1
        have e : Y_as E x = Y_kd E (Y_qu E x) := if_pos z
        rw [e] at n
        have k := nf_kd n
        unfold Y_av
        rw [if_pos z]
        exact E_kn k
      · exact h8_9
  rw [Y_al3] at m2
  exact ym_w (ym_t0 m m2) (by decide) (by decide) rfl
theorem cg_asked (hE : E_ok E) {k : x_Kt} {s : f_S3} {O : Nat × Nat} (h : rcG E k s x) {K : Int32 → Int32 → f_S3 → Nat × Nat → Prop} (hQ : ∀ a b s', (Y_ty E x = 224 → a = 23) → (¬ Y_ty E x = 224 → a = 24) → (nf (Y_as E x) → b = Y_av E x) → rcG E k s' (Y_as E x) → K a b s' O) : wF_X7_question (E_N E) s O (fun r12 M13 O13 => ((¬ r12 = 23 → (wF_X7_object (E_N E) M13 O13 (fun r14 M15 O15 => K r12 r14 M15 O15))) ∧ (r12 = 23 → (wF_X7_kind (E_N E) M13 O13 (fun r17 M18 O18 => K r12 r17 M18 O18))))) := by
  refine cg_question hE h (fun r s1 a b h1 => ?_)
  by_cases z : Y_ty E x = 224
  · have e : Y_as E x = Y_kd E (Y_qu E x) := if_pos z
    have ev : Y_av E x = Y_ty E (Y_qu E x) - 226 := if_pos z
    rw [e, ev] at hQ
    exact ⟨fun q => absurd (a z) q, fun _ => cg_kind hE h1 (fun r' s2 er h2 => hQ _ _ s2 a b (fun n => er (nf_kd n)) h2)⟩
  · have e : Y_as E x = Y_ob E (Y_qu E x) := if_neg z
    have ev : Y_av E x = (Y_S (Y_ob E (Y_qu E x)) (E_w E (Y_t (Y_qu E x)))).2 := by rw [← e]; exact if_neg z
    rw [e, ev] at hQ
    exact ⟨fun _ => cg_object hE h1 (fun r' s2 er h2 => hQ _ _ s2 a b er h2), fun q => absurd ((b z).symm.trans q) (by decide)⟩
theorem rg_asked (hE : E_ok E) {p p' : Int32} (hp : nf (Y_as E x) → p = p') : rrG E (w_asked p) x (Y_aq E p' x) := fun k M F Q Q' h w hQ => by
  unfold w_asked at w ⊢
  unfold Y_aq at hQ
  refine rg_w0 hE h 24 (by decide) (c := 24) (d := 224) (by decide) (by decide) (fun z w => ?_) (fun z w => ?_) w
  · have e : Y_as E x = Y_kd E (Y_qu E x) := if_pos z
    have ev : Y_av E x = Y_ty E (Y_qu E x) - 226 := if_pos z
    have eo : Y_ao E p' x = (8, p', Y_av E x, 0, -1) := if_pos z
    rw [eo, e, ev] at hQ
    rw [e] at hp
    have eq : Y_qu E x = Y_ad x := by unfold Y_qu; rw [if_pos (Or.inl z)]
    rw [eq] at hQ hp
    exact rg_pass hE (rg_lt hE h (fun q => absurd (q.symm.trans z) (by decide))) k M F _ _ h w (fun M1 F1 h1 w1 => rg_takenK hE h1 w1 (fun r M2 F2 h2 er w2 => rg_put h2 w2 (fun _ M3 F3 _ h3 w3 => hQ M3 F3 (rx_emn (fun n => by rw [hp n, er (nf_kd n)]) h3) w3)))
  · have e : Y_as E x = Y_ob E (Y_qu E x) := if_neg z
    have ev : Y_av E x = (Y_S (Y_ob E (Y_qu E x)) (E_w E (Y_t (Y_qu E x)))).2 := by rw [← e]; exact if_neg z
    have eo : Y_ao E p' x = (9, p', Y_av E x, 0, -1) := if_neg z
    rw [eo, e, ev] at hQ
    rw [e] at hp
    have eq : Y_qu E x = Y_tk E 225 x := by
      unfold Y_qu Y_tk
      by_cases q : Y_ty E x = 225
      · rw [if_pos q, if_pos (Or.inr q)]
      · rw [if_neg q, if_neg (fun y => y.elim z q)]
    rw [eq] at hQ hp
    exact rg_needWord hE 25 (by decide) (c := 25) (d := 225) (by decide) (by decide) k M F _ _ h w (fun M1 F1 h1 w1 => rg_object hE h1 w1 (fun r M2 F2 er h2 w2 => rg_put h2 w2 (fun _ M3 F3 _ h3 w3 => hQ M3 F3 (rx_emn (fun n => by rw [hp n, er n]) h3) w3)))
theorem fac_badG (hE : E_ok E) (hb : x.1 = true) : jxG E (cff (E_N E)) wf_fac 1 0 x x := by
  refine ⟨fun n p hp k s O Q hs hQ => ?_, fun n k M F Q Q' hr w hQ => ?_, ym_bd hb⟩
  · obtain ⟨n, rfl⟩ : ∃ n', n = n' + 1 := ⟨n - 1, by have := hp.1; omega⟩
    show wF_X7_factor (E_N E) (cff (E_N E) n) p s O Q
    exact bd_factor hE.2.2.2.1 (hs.1.1 hb) (fun s' h' => hQ s' (rcG_bd h' hb))
  · cases n with
    | zero => exact absurd w (fun q => q)
    | succ n =>
      have w : w_factor (wf_fac n) M F Q := w
      show w_factor (wf_fac n) M F Q'
      unfold w_factor at w ⊢
      exact rg_b0 hr (fun _ w => hQ M F hr w) (fun q _ => absurd (hb.symm.trans q) (by decide)) w
/-- the reference's factor when it is good: its branches -/
theorem fac_rG (hE : E_ok E) (hb : x.1 = false) {x' : y_X} (h : ∀ (n : Nat) (k : x_B) (M : Nat → Int32) (F : Nat → Nat → Int32) (Q Q' : (Nat → Int32) → (Nat → Nat → Int32) → Prop), rxG E k M F x → (∀ M' F', rxG E k M' F' x' → Q M' F' → Q' M' F') → w_factor (wf_fac n) M F Q → w_factor (wf_fac n) M F Q') : ∀ n, rrG E (wf_fac n) x x' := fun n k M F Q Q' hr w hQ => by
  cases n with
  | zero => exact absurd w (fun q => q)
  | succ n => exact h n k M F Q Q' hr hQ w
/-- a class's factor runs with one call more to spare -/
theorem fac_cG {x' : y_X} (hx : yg E 10 x) (hb : x.1 = false) (h : ∀ (n : Nat) (p : Int32) (k : x_Kt) (s : f_S3) (O : Nat × Nat) (Q : f_S3 → Nat × Nat → Prop), 1 ≤ n → p = Y_i x 0 → 21 ≤ (Y_i x 0).toInt + n → rcG E k s x → (∀ s', rcG E k s' x' → Q s' O) → wF_X7_factor (E_N E) (cff (E_N E) n) p s O Q) : ∀ (n : Nat) (p : Int32), jpG n p x → crG E (cff (E_N E) n p) x x' := fun n p hp k s O Q hs hQ => by
  obtain ⟨a, b⟩ := hp.2 hb
  have a : 22 ≤ (Y_i x 0).toInt + n := a
  have o := yg_oo hx hb
  obtain ⟨n, rfl⟩ : ∃ n', n = n' + 1 := ⟨n - 1, by omega⟩
  exact h n p k s O Q (by omega) b (by omega) hs hQ
theorem fac_numG (hE : E_ok E) (hx : yg E 10 x) (z : Y_ty E x = 132) : ∃ x', jxG E (cff (E_N E)) wf_fac 1 0 x x' := by
  have hb := Y_tyn z (by decide)
  have hlt := yq_lt hE (yg_t hx) z (by decide)
  have m0 : ym E 0 2 0 x (Y_em [7, E_V E (Y_t x)] (1, E_V E (Y_t x), 0, 0, -1) (Y_c x) x) := ym_em (yg_t hx) ho_1 (Nat.le_succ _) (fun _ => k_e_1.symm) (fun _ => h8_1)
  have m := ym_t0 m0 (ym_ad hE (x := Y_em [7, E_V E (Y_t x)] (1, E_V E (Y_t x), 0, 0, -1) (Y_c x) x) hlt)
  refine ⟨Y_ad (Y_em [7, E_V E (Y_t x)] (1, E_V E (Y_t x), 0, 0, -1) (Y_c x) x), fac_cG hx hb (fun n p k s O Q _ _ _ hs hQ => ?_), fac_rG hE hb (fun n k M F Q Q' hr hQ w => ?_), ym_w m (by decide) (by decide) rfl⟩
  · have e := (cg_ty hs).trans z
    have no : ∀ c : Int32, c ≠ 132 → ¬ s.1 12 = c := fun c hc q => hc (q.symm.trans e)
    have ev : s.1 13 = E_V E (Y_t x) := (hs.1.2 hb).1.2.1.2.2.1
    refine ⟨fun q => absurd q (no _ (by decide)), fun q => absurd q (no _ (by decide)), fun q => absurd q (no _ (by decide)), fun q => absurd q (no _ (by decide)), fun _ => ?_, fun _ _ _ _ q => absurd e q⟩
    rw [ev]
    exact cg_emit2 hE hs (yg_lo (n := 14) hx (by decide)) (by decide) (fun s1 h1 => cg_adv hE (y := Y_em [7, E_V E (Y_t x)] (1, E_V E (Y_t x), 0, 0, -1) (Y_c x) x) (rc_em h1) hlt (fun s2 h2 => hQ s2 h2))
  · have hmm := rg_m4 hE hr hb
    have e5 := rg_m5n hE hr z
    unfold w_factor at w ⊢
    refine rg_b0 hr (fun q => absurd (q.symm.trans hb) (by decide)) (fun _ w => ⟨fun q => absurd (hmm.1.mp z) q, fun q => ?_⟩) w
    have w := w.2 q
    rw [e5] at w ⊢
    exact rg_put hr w (fun _ M1 F1 _ h1 w1 => rg_pass hE (y := Y_em [7, E_V E (Y_t x)] (1, E_V E (Y_t x), 0, 0, -1) (Y_c x) x) hlt k M1 F1 _ _ (rx_em h1) w1 (fun M2 F2 h2 w2 => hQ M2 F2 h2 w2))
theorem fac_nmG (hE : E_ok E) (hx : yg E 10 x) (z : Y_ty E x = 130) : ∃ x', jxG E (cff (E_N E)) wf_fac 1 0 x x' := by
  have hb := Y_tyn z (by decide)
  have m0 := ym_nm hE (yg_t hx)
  have m : ym E 0 2 0 (Y_nm E x) (Y_em [8, (Y_S x (E_w E (Y_t x))).1] (2, (Y_S x (E_w E (Y_t x))).1, 0, 0, -1) (Y_c (Y_nm E x)) (Y_nm E x)) := ym_em (ym_t m0) ho_2 (Nat.le_succ _) (fun _ => k_e_2.symm) (fun _ => h8_2)
  refine ⟨_, fac_cG hx hb (fun n p k s O Q _ _ _ hs hQ => ?_), fac_rG hE hb (fun n k M F Q Q' hr hQ w => ?_), ym_w (ym_t0 m0 m) (by decide) (by decide) rfl⟩
  · have e := (cg_ty hs).trans z
    have no : ∀ c : Int32, c ≠ 130 → ¬ s.1 12 = c := fun c hc q => hc (q.symm.trans e)
    exact ⟨fun q => absurd q (no _ (by decide)), fun q => absurd q (no _ (by decide)), fun _ => cg_name hE hs (fun r s1 er h1 => cg_emit2 hE h1 (yg_lo (n := 14) (yg_m hx m0 (c' := 14) (by decide)) (by decide)) (by decide) (fun s2 h2 => hQ s2 (rc_emn h2 rfl (fun n => by rw [er n])))), fun q => absurd q (no _ (by decide)), fun q => absurd q (no _ (by decide)), fun _ _ q => absurd e q⟩
  · have hmm := rg_m4 hE hr hb
    unfold w_factor at w ⊢
    refine rg_b0 hr (fun q => absurd (q.symm.trans hb) (by decide)) (fun _ w => ⟨fun n3 => ⟨fun q => absurd (hmm.2.1.mp z) q, fun q => ?_⟩, fun q => absurd (z.symm.trans (hmm.1.mpr q)) (by decide)⟩) w
    exact rg_name hE hr ((w.1 n3).2 q) (fun r M1 F1 er h1 w1 => rg_put h1 w1 (fun _ M2 F2 _ h2 w2 => hQ M2 F2 (rx_emn (fun n => by rw [er n]) h2) w2))
/-- neither number nor name -/
theorem fac_restG {k : x_B} {M : Nat → Int32} {F : Nat → Nat → Int32} (hE : E_ok E) (hb : x.1 = false) (n2 : ¬ Y_ty E x = 132) (n0 : ¬ Y_ty E x = 130) (hr : rxG E k M F x) {WF : x_RW} {Q Q' : (Nat → Int32) → (Nat → Nat → Int32) → Prop} (h45 : Y_ty E x = 45 → w_opens 45 M F (fun M19 F19 => (WF M19 F19 (fun M20 F20 => (w_put 4 0 0 0 (um M20 33 ((M20 33) - 1)) F20 (fun _ M22 F22 => (Q M22 F22)))))) → w_opens 45 M F (fun M19 F19 => (WF M19 F19 (fun M20 F20 => (w_put 4 0 0 0 (um M20 33 ((M20 33) - 1)) F20 (fun _ M22 F22 => (Q' M22 F22))))))) (h40 : ¬ Y_ty E x = 45 → Y_ty E x = 40 → w_opens 40 M F (fun M16 F16 => (w_whole WF M16 F16 (fun M17 F17 => (w_closes 41 M17 F17 (fun M18 F18 => (Q M18 F18)))))) → w_opens 40 M F (fun M16 F16 => (w_whole WF M16 F16 (fun M17 F17 => (w_closes 41 M17 F17 (fun M18 F18 => (Q' M18 F18))))))) (hpp : X_ip (Y_ty E x) → w_pass M F (fun M11 F11 => (w_object M11 F11 (fun r12 M13 F13 => (w_put 7 r12 ((M 5) - 19) 0 M13 F13 (fun _ M15 F15 => (Q M15 F15)))))) → w_pass M F (fun M11 F11 => (w_object M11 F11 (fun r12 M13 F13 => (w_put 7 r12 ((M 5) - 19) 0 M13 F13 (fun _ M15 F15 => (Q' M15 F15))))))) (h213 : ¬ Y_ty E x = 45 → ¬ Y_ty E x = 40 → ¬ X_ip (Y_ty E x) → w_factor_213 WF Q M F → w_factor_213 WF Q' M F) (w : w_factor WF M F Q) : w_factor WF M F Q' := by
  have hmm := rg_m4 hE hr hb
  unfold w_factor at w ⊢
  refine rg_b0 hr (fun q => absurd (q.symm.trans hb) (by decide)) (fun _ w => ⟨fun m3 => ⟨fun m1 => ?_, fun q => absurd (hmm.2.1.mpr q) n0⟩, fun q => absurd (hmm.1.mpr q) n2⟩) w
  have w := (w.1 m3).1 m1
  refine rg_s0 hE hr (c := 45) rfl (fun z w => ?_) (fun n45 w => ?_) w
  · have w' := h45 z ((re_isSign hE hr.1 (c := 45) rfl).mpr (by rw [if_pos (show X_ty E (yx x) = 45 from z)]; exact ⟨fun q => absurd q (by decide), fun _ => w⟩))
    have w' := (re_isSign hE hr.1 (c := 45) rfl).mp w'
    rw [if_pos (show X_ty E (yx x) = 45 from z)] at w'
    exact w'.2 (by decide)
  · refine rg_s0 hE hr (c := 40) rfl (fun z w => h40 n45 z w) (fun n40 w => ?_) w
    by_cases zp : X_ip (Y_ty E x)
    · obtain ⟨a, b, c⟩ := hmm.2.2.2.mp zp
      exact ⟨fun q => absurd a q, fun _ => ⟨fun q => absurd q b, fun _ => ⟨fun q => absurd q c, fun _ => hpp zp (((w.2 a).2 b).2 c)⟩⟩⟩
    · have g := h213 n45 n40 zp
      exact ⟨fun q => g (w.1 q), fun q4 => ⟨fun q => g ((w.2 q4).1 q), fun qa => ⟨fun q => g (((w.2 q4).2 qa).1 q), fun qb => absurd (hmm.2.2.2.mpr ⟨q4, qa, qb⟩) zp⟩⟩⟩
theorem fac_obG (hE : E_ok E) (hx : yg E 10 x) (z : Y_ty E x = 131) : ∃ x', jxG E (cff (E_N E)) wf_fac 1 0 x x' := by
  have hb := Y_tyn z (by decide)
  have m0 := ym_ob hE (yg_t hx)
  have m1 := ym_t0 m0 (ym_as hE (ym_t m0))
  have m := ym_t0 m0 (ym_aq hE (Y_S (Y_ob E x) (E_w E (Y_t x))).2 (ym_t m0))
  refine ⟨_, fac_cG hx hb (fun n p k s O Q _ _ _ hs hQ => ?_), fac_rG hE hb (fun n k M F Q Q' hr hQ w => ?_), ym_w m (by decide) (by decide) rfl⟩
  · have e := (cg_ty hs).trans z
    have no : ∀ c : Int32, c ≠ 131 → ¬ s.1 12 = c := fun c hc q => hc (q.symm.trans e)
    refine ⟨fun q => absurd q (no _ (by decide)), fun q => absurd q (no _ (by decide)), fun q => absurd q (no _ (by decide)), fun _ => ?_, fun q => absurd q (no _ (by decide)), fun _ _ _ q => absurd e q⟩
    refine cg_object hE hs (fun r s1 er h1 => cg_asked hE h1 (K := fun a b s' O' => wF_X7_factor_116 (E_N E) (cff (E_N E) n) Q a r b s' O') (fun a b s2 ea eb ev h2 => cg_emit3 hE h2 (yg_lo (n := 13) (yg_m hx m1 (c' := 13) (by decide)) (by decide)) (by decide) (fun s3 h3 => hQ s3 (rc_emn h3 Y_al3 (fun n => ?_)))))
    rw [er (nf_m (ym_as hE (ym_t m0)) n), ev n]
    unfold Y_al
    by_cases q : Y_ty E (Y_ob E x) = 224
    · rw [ea q, if_pos q]
    · rw [eb q, if_neg q]
  · have hmm := rg_m4 hE hr hb
    refine fac_restG hE hb (by rw [z]; decide) (by rw [z]; decide) hr (fun q => absurd (z.symm.trans q) (by decide)) (fun _ q => absurd (z.symm.trans q) (by decide)) (fun q => by rw [z] at q; exact absurd q (by decide)) (fun _ _ _ w => ?_) w
    refine ⟨fun q => absurd (hmm.2.2.1.mp z) q, fun q => ?_⟩
    exact rg_object hE hr (w.2 q) (fun r M1 F1 er h1 w1 => rg_asked hE (fun n => er (nf_m (ym_as hE (ym_t m0)) n)) k M1 F1 _ _ h1 w1 (fun M2 F2 h2 w2 => hQ M2 F2 h2 w2))
theorem nf_pp (n : nf (Y_pp E x)) : X_ip (Y_ty E x) := by
  unfold Y_pp at n
  by_cases q : X_ip (Y_ty E x)
  · exact q
  · rw [if_neg q] at n; exact absurd n (nf_bd rfl)
theorem fac_ppG (hE : E_ok E) (hx : yg E 10 x) (hb : x.1 = false) (z : ¬ Y_ty E x = 40 ∧ ¬ Y_ty E x = 45 ∧ ¬ Y_ty E x = 130 ∧ ¬ Y_ty E x = 131 ∧ ¬ Y_ty E x = 132) : ∃ x', jxG E (cff (E_N E)) wf_fac 1 0 x x' := by
  obtain ⟨z1, z2, z3, z4, z5⟩ := z
  have m0 := ym_pp hE (yg_t hx)
  have mo := ym_ob hE (ym_t m0)
  have m1 := ym_t0 m0 mo
  have m2 : ym E 0 3 0 (Y_ob E (Y_pp E x)) (Y_em [22, (Y_S (Y_ob E (Y_pp E x)) (E_w E (Y_t (Y_pp E x)))).2, E_wh (Y_ty E x)] (7, (Y_S (Y_ob E (Y_pp E x)) (E_w E (Y_t (Y_pp E x)))).2, Y_ty E x - 219, 0, -1) (Y_c (Y_ob E (Y_pp E x))) (Y_ob E (Y_pp E x))) := ym_em (ym_t m1) ho_7 (show 1 ≤ 3 by decide) (fun n => by rw [k_e_7, E_whk (nf_pp (nf_m mo n))]) (fun _ => h8_7)
  refine ⟨_, fac_cG hx hb (fun n p k s O Q _ _ _ hs hQ => ?_), fac_rG hE hb (fun n k M F Q Q' hr hQ w => ?_), ym_w (ym_t0 m1 m2) (by decide) (by decide) rfl⟩
  · have e := cg_ty hs
    have no : ∀ c : Int32, ¬ Y_ty E x = c → ¬ s.1 12 = c := fun c hc q => hc (e.symm.trans q)
    refine ⟨fun q => absurd q (no _ z1), fun q => absurd q (no _ z2), fun q => absurd q (no _ z3), fun q => absurd q (no _ z4), fun q => absurd q (no _ z5), fun _ _ _ _ _ => ?_⟩
    exact cg_prop hE hs (fun r s1 er h1 => cg_object hE h1 (fun r' s2 er' h2 => cg_emit3 hE h2 (yg_lo (n := 13) (yg_m hx m1 (c' := 13) (by decide)) (by decide)) (by decide) (fun s3 h3 => hQ s3 (rc_emn h3 rfl (fun n => by rw [er' n, er (nf_pp (nf_m mo n))])))))
  · have hmm := rg_m4 hE hr hb
    refine fac_restG hE hb z5 z3 hr (fun q => absurd q z2) (fun _ q => absurd q z1) (fun q w => ?_) (fun _ _ q w => ⟨fun q2 => ?_, fun q2 => absurd (hmm.2.2.1.mpr q2) z4⟩) w
    · have ep : Y_pp E x = Y_ad x := by unfold Y_pp; rw [if_pos q]
      rw [ep] at hQ
      rw [rg_pb hE hr q] at w ⊢
      exact rg_pass hE (rg_lt hE hr (fun y => by rw [y] at q; exact absurd q (by decide))) k M F _ _ hr w (fun M1 F1 h1 w1 => rg_object hE h1 w1 (fun _ M2 F2 er h2 w2 => rg_put h2 w2 (fun _ M3 F3 _ h3 w3 => hQ M3 F3 (rx_emn (fun n => by rw [er n]) h3) w3)))
    · have ep : Y_pp E x = Y_bd x := by unfold Y_pp; rw [if_neg q]
      have eo : Y_ob E (Y_bd x) = Y_bd (Y_bd x) := by unfold Y_ob; rw [if_neg (by rw [Y_tyb rfl]; decide)]
      rw [ep, eo] at hQ
      exact rg_fail hE k M F _ _ hr (w.1 q2) (fun M1 F1 h1 w1 => hQ M1 F1 (rxG_zb (h1.1.1 rfl) rfl) w1)
theorem Y_op_g (hE : E_ok E) {c : Int32} (hx : yg E 10 x) (h5 : c ≠ 135) : yg E 10 (Y_op E c x) := yg_o hx (ym_op hE (yg_t hx) h5) (fun q => (Y_op_i q).2.2.1) (by decide)
theorem Y_op_p {n : Nat} {p c : Int32} (hx : yg E 10 x) (hn : 1 ≤ n) (hp : p = Y_i x 0) (h21 : 21 ≤ (Y_i x 0).toInt + n) : jpG n (p + 1) (Y_op E c x) := ⟨hn, fun q => by
  have l1 : (1 : Int32).toInt = 1 := by decide
  obtain ⟨a, -, -, b⟩ := Y_op_i q
  have o := yg_oo hx a
  show 22 ≤ (Y_i (Y_op E c x) 0).toInt + n ∧ p + 1 = Y_i (Y_op E c x) 0
  rw [b, hp]
  refine ⟨?_, rfl⟩
  rw [ti_addx _ _ (by rw [l1]; omega), l1]; omega⟩
/-- behind an opening at least one stands open -/
theorem Y_op_1 {a : Nat} {d : Int} {c : Int32} (hx : yg E 10 x) (hg : yg E 10 (Y_op E c x)) (m : ym E a d 0 (Y_op E c x) y) : y.1 = false → 1 ≤ (Y_i y 0).toInt ∧ (Y_i y 0).toInt ≤ 20 := fun q => by
  have l1 : (1 : Int32).toInt = 1 := by decide
  obtain ⟨a, b⟩ := xm_i0 m.1 q
  have b : Y_i y 0 = Y_i (Y_op E c x) 0 := b
  obtain ⟨a', -, -, b'⟩ := Y_op_i a
  have o := yg_oo hx a'
  have o' := yg_oo hg a
  rw [b]
  refine ⟨?_, o'.2⟩
  rw [b', ti_addx _ _ (by rw [l1]; omega), l1]; omega
theorem fac_negG (hE : E_ok E) {j : Nat} (hF : jFG E j) (hx : yg E 10 x) (ht : jtG E (j + 1) x) (z : Y_ty E x = 45) : ∃ x', jxG E (cff (E_N E)) wf_fac 1 0 x x' := by
  have hb := Y_tyn z (by decide)
  have m0 := ym_op hE (yg_t hx) (c := 45) (by decide)
  have g0 := Y_op_g hE (c := 45) hx (by decide)
  obtain ⟨x2, j1, j2, m1⟩ := hF (Y_op E 45 x) g0 (jtG_m ht m0)
  have m2 := ym_tr m1 (ym_dn (ym_t m1))
  have m3 := ym_tr m2 (show ym E 0 1 0 (Y_si 0 (Y_i x2 0 - 1) x2) (Y_em [11] (4, 0, 0, 0, -1) (Y_c (Y_si 0 (Y_i x2 0 - 1) x2)) (Y_si 0 (Y_i x2 0 - 1) x2)) from ym_em (ym_t m2) ho_4 (Nat.le_refl _) (fun _ => k_e_4.symm) (fun _ => h8_4))
  have m := ym_tr m0 m3
  refine ⟨(Y_em [11] (4, 0, 0, 0, -1) (Y_c (Y_si 0 (Y_i x2 0 - 1) x2)) (Y_si 0 (Y_i x2 0 - 1) x2)), fac_cG hx hb (fun n p k s O Q hn hp h21 hs hQ => ?_), fac_rG hE hb (fun n k M F Q Q' hr hQ w => ?_), ym_w m (by decide) (by decide) (by decide)⟩
  · have e := (cg_ty hs).trans z
    have no : ∀ c : Int32, c ≠ 45 → ¬ s.1 12 = c := fun c hc q => hc (q.symm.trans e)
    refine ⟨fun q => absurd q (no _ (by decide)), fun _ => ?_, fun q => absurd q (no _ (by decide)), fun q => absurd q (no _ (by decide)), fun q => absurd q (no _ (by decide)), fun _ q => absurd e q⟩
    refine cg_open hE hs (yg_oo hx) (by decide) (by decide) (fun _ => hp) (fun s1 h1 => j1 n (p + 1) (Y_op_p hx hn hp h21) k s1 O _ h1 (fun s2 h2 => cg_emit hE h2 (yg_lo (n := 15) (yg_m g0 m1 (c' := 15) (by decide)) (by decide)) (by decide) (fun s3 h3 => hQ s3 ?_)))
    have h4 := cg_o (v := Y_i x2 0 - 1) h3
    have e : Y_si 0 (Y_i x2 0 - 1) (Y_cs [11] x2) = Y_cs [11] (Y_si 0 (Y_i x2 0 - 1) x2) := by unfold Y_cs Y_si; rfl
    rw [e] at h4
    exact rc_em h4
  · refine fac_restG hE hb (by rw [z]; decide) (by rw [z]; decide) hr (fun _ w => ?_) (fun q => absurd z q) (fun q => by rw [z] at q; exact absurd q (by decide)) (fun q => absurd z q) w
    exact rg_opens hE (c := 45) rfl k M F _ _ hr w (fun M1 F1 h1 w1 => j2 n k M1 F1 _ _ h1 w1 (fun M2 F2 h2 w2 => rg_put (rg_dec (Y_op_1 hx g0 m1) h2) w2 (fun _ M3 F3 _ h3 w3 => hQ M3 F3 (rx_em h3) w3)))
theorem fac_parG (hE : E_ok E) {j : Nat} (hF : jFG E j) (hx : yg E 10 x) (ht : jtG E (j + 1) x) (z : Y_ty E x = 40) : ∃ x', jxG E (cff (E_N E)) wf_fac 1 0 x x' := by
  have hb := Y_tyn z (by decide)
  have m0 := ym_op hE (yg_t hx) (c := 40) (by decide)
  have g0 := Y_op_g hE (c := 40) hx (by decide)
  obtain ⟨x2, j1, j2, m1⟩ := j_exprG hE hF g0 (jtG_m ht m0)
  have m2 := ym_tr m1 (ym_cl hE (ym_t m1) (c := 41) (by decide))
  have m := ym_tr m0 m2
  refine ⟨Y_cl E 41 x2, fac_cG hx hb (fun n p k s O Q hn hp h21 hs hQ => ?_), fac_rG hE hb (fun n k M F Q Q' hr hQ w => ?_), ym_w m (by decide) (by decide) (by decide)⟩
  · have e := (cg_ty hs).trans z
    have no : ∀ c : Int32, c ≠ 40 → ¬ s.1 12 = c := fun c hc q => hc (q.symm.trans e)
    refine ⟨fun _ => ?_, fun q => absurd q (no _ (by decide)), fun q => absurd q (no _ (by decide)), fun q => absurd q (no _ (by decide)), fun q => absurd q (no _ (by decide)), fun q => absurd e q⟩
    exact cg_open hE hs (yg_oo hx) (by decide) (by decide) (fun _ => hp) (fun s1 h1 => j1 n (p + 1) (Y_op_p hx hn hp h21) k s1 O _ h1 (fun s2 h2 => cg_take hE h2 (by decide) (by decide) (fun s3 h3 => hQ s3 (cg_o h3))))
  · refine fac_restG hE hb (by rw [z]; decide) (by rw [z]; decide) hr (fun q => absurd (z.symm.trans q) (by decide)) (fun _ _ w => ?_) (fun q => by rw [z] at q; exact absurd q (by decide)) (fun _ q => absurd z q) w
    exact rg_opens hE (c := 40) rfl k M F _ _ hr w (fun M1 F1 h1 w1 => j2 n k M1 F1 _ _ h1 w1 (fun M2 F2 h2 w2 => rg_closes hE (c := 41) rfl (Y_op_1 hx g0 m1) k M2 F2 _ _ h2 w2 (fun M3 F3 h3 w3 => hQ M3 F3 h3 w3)))
theorem j_factorG (hE : E_ok E) : ∀ j, jFG E j := by
  intro j
  induction j with
  | zero =>
    intro x hx ht
    refine ⟨x, fac_badG hE ?_⟩
    cases q : x.1 with
    | true => rfl
    | false => have h1 : E_m E < Y_t x + 0 := ht q; have := yg_t hx q; omega
  | succ j ih =>
    intro x hx ht
    cases hb : x.1 with
    | true => exact ⟨x, fac_badG hE hb⟩
    | false =>
      by_cases z1 : Y_ty E x = 40
      · exact fac_parG hE ih hx ht z1
      by_cases z2 : Y_ty E x = 45
      · exact fac_negG hE ih hx ht z2
      by_cases z3 : Y_ty E x = 130
      · exact fac_nmG hE hx z3
      by_cases z4 : Y_ty E x = 131
      · exact fac_obG hE hx z4
      by_cases z5 : Y_ty E x = 132
      · exact fac_numG hE hx z5
      exact fac_ppG hE hx hb ⟨z1, z2, z3, z4, z5⟩
/-- an expression -/
theorem j_EG (hE : E_ok E) (hx : yg E 10 x) : ∃ x', jxG E (fun n p => wF_X7_expression (E_N E) (cff (E_N E) n) p) (fun n => w_whole (wf_fac n)) 1 0 x x' := j_exprG hE (j_factorG hE (E_m E + 1)) hx (fun _ => by omega)
theorem j_RG (hE : E_ok E) (hx : yg E 10 x) : ∃ x', jxG E (fun n p => wF_X7_restOfExpression (E_N E) (cff (E_N E) n) p) (fun n => w_wholeBehind (wf_fac n)) 0 0 x x' := j_restEG hE (j_factorG hE (E_m E + 1)) hx (fun _ => by omega)
end YJ4
