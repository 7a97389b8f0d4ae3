/-! BOTH PARSERS TOGETHER: factors. -/
section XJ3
variable {E : x_E} {x y : x_X}
theorem re_m4 (hE : E_ok E) {k : x_B} {M : Nat → Int32} {F : Nat → Nat → Int32} (h : rxx E k M F x) (hb : x.1 = false) : (X_ty E x = 132 ↔ M 4 = 3) ∧ (X_ty E x = 130 ↔ M 4 = 1) ∧ (X_ty E x = 131 ↔ M 4 = 2) ∧ (X_ip (X_ty E x) ↔ M 4 = 4 ∧ ¬ M 5 < 19 ∧ ¬ 23 < M 5) := by
  have hq := rx_tk hE h hb
  rw [X_tyg hb]
  refine ⟨q_one hq (Or.inr (Or.inr (Or.inl ⟨rfl, rfl⟩))), q_one hq (Or.inl ⟨rfl, rfl⟩), q_one hq (Or.inr (Or.inl ⟨rfl, rfl⟩)), fun z => ?_, fun z => ?_⟩
  · have go : ∀ p : Nat, 19 ≤ p → p ≤ 23 → E_A E (X_t x) = nI (200 + p) → M 4 = 4 ∧ ¬ M 5 < 19 ∧ ¬ 23 < M 5 := by
      intro p p1 p2 e
      obtain ⟨a, b⟩ := (q_word hq (show p < 26 by omega)).mp e
      refine ⟨a, ?_⟩
      rw [b, Int32.lt_iff_toInt_lt, Int32.lt_iff_toInt_lt, fs_nI (by omega), show (19 : Int32).toInt = 19 by decide, show (23 : Int32).toInt = 23 by decide]
      omega
    rcases z with z | z | z | z | z
    · exact go 19 (by omega) (by omega) (z.trans (by decide))
    · exact go 20 (by omega) (by omega) (z.trans (by decide))
    · exact go 21 (by omega) (by omega) (z.trans (by decide))
    · exact go 22 (by omega) (by omega) (z.trans (by decide))
    · exact go 23 (by omega) (by omega) (z.trans (by decide))
  · obtain ⟨a, b, c⟩ := z
    have b := ti_nlt b
    have c := ti_nlt c
    rw [show (19 : Int32).toInt = 19 by decide] at b
    rw [show (23 : Int32).toInt = 23 by decide] at c
    have go : ∀ p : Nat, p < 26 → (M 5).toInt = p → E_A E (X_t x) = nI (200 + p) := fun p hp e => (q_word hq hp).mpr ⟨a, Int32.toInt_inj.mp (by rw [e, fs_nI (by omega)])⟩
    have cs : (M 5).toInt = (19 : Nat) ∨ (M 5).toInt = (20 : Nat) ∨ (M 5).toInt = (21 : Nat) ∨ (M 5).toInt = (22 : Nat) ∨ (M 5).toInt = (23 : Nat) := by omega
    rcases cs with q | q | q | q | q
    · exact Or.inl ((go 19 (by omega) q).trans (by decide))
    · exact Or.inr (Or.inl ((go 20 (by omega) q).trans (by decide)))
    · exact Or.inr (Or.inr (Or.inl ((go 21 (by omega) q).trans (by decide))))
    · exact Or.inr (Or.inr (Or.inr (Or.inl ((go 22 (by omega) q).trans (by decide)))))
    · exact Or.inr (Or.inr (Or.inr (Or.inr ((go 23 (by omega) q).trans (by decide)))))
/-- what is asked of an object -/
def X_as (E : x_E) (x : x_X) : x_X := if X_ty E x = 224 then X_kd E (X_qu E x) else X_ob E (X_qu E x)
theorem xm_as (hE : E_ok E) (hn : E_no E) (h : x.1 = false → X_t x ≤ E_m E) : xm E 2 (-4) 0 x (X_as E x) := by
  have m := xm_qu hE h
  unfold X_as
  split
  · exact xm_w (xm_t0 m (xm_kd hE (xm_t m))) (by decide) (by decide) rfl
  · exact xm_w (xm_t0 m (xm_ob hE hn (xm_t m))) (by decide) (by decide) rfl
theorem c_asked (hE : E_ok E) {k : x_Kt} {s : f_S3} {O : Nat × Nat} (h : rc E k s x) {K : Int32 → Int32 → f_S3 → Nat × Nat → Prop} (hQ : ∀ a b s', rc E k s' (X_as E x) → K a b s' O) : wF_X7_question (E_N E) s O (fun r12 M13 O13 => ((¬ r12 = 23 → (wF_X7_object (E_N E) M13 O13 (fun r14 M15 O15 => K r12 r14 M15 O15))) ∧ (r12 = 23 → (wF_X7_kind (E_N E) M13 O13 (fun r17 M18 O18 => K r12 r17 M18 O18))))) := by
  unfold X_as at hQ
  refine c_question hE h (fun r s1 a b h1 => ?_)
  by_cases z : X_ty E x = 224
  · rw [if_pos z] at hQ
    exact ⟨fun q => absurd (a z) q, fun _ => c_kind hE h1 (fun r' s2 _ h2 => hQ _ _ s2 h2)⟩
  · rw [if_neg z] at hQ
    exact ⟨fun _ => c_object hE h1 (fun r' s2 h2 => hQ _ _ s2 h2), fun q => absurd ((b z).symm.trans q) (by decide)⟩
theorem re_asked (hE : E_ok E) {p : Int32} : rr E (w_asked p) x (X_as E x) := fun k M F Q Q' h w hQ => by
  unfold X_as at hQ
  unfold w_asked at w ⊢
  refine re_w0 hE h 24 (by decide) (c := 24) (d := 224) (by decide) (by decide) (fun z w => ?_) (fun z w => ?_) w
  · rw [if_pos z] at hQ
    have e : X_qu E x = X_ad x := by unfold X_qu; rw [if_pos (Or.inl z)]
    rw [e] at hQ
    exact re_pass hE (re_lt hE h (fun q => absurd (q.symm.trans z) (by decide))) k M F _ _ h w (fun M1 F1 h1 w1 => re_takenK hE k M1 F1 _ _ h1 w1 (fun r M2 F2 h2 w2 => re_put k M2 F2 _ _ h2 w2 (fun _ M3 F3 h3 w3 => hQ M3 F3 h3 w3)))
  · rw [if_neg z] at hQ
    have e : X_qu E x = X_tk E 225 x := by
      unfold X_qu X_tk
      by_cases q : X_ty E x = 225
      · rw [if_pos q, if_pos (Or.inr q)]
      · rw [if_neg q, if_neg (fun y => y.elim z q)]
    rw [e] at hQ
    exact re_needWord hE 25 (by decide) (c := 25) (d := 225) (by decide) (by decide) k M F _ _ h w (fun M1 F1 h1 w1 => re_object hE k M1 F1 _ _ h1 w1 (fun r M2 F2 h2 w2 => re_put k M2 F2 _ _ h2 w2 (fun _ M3 F3 h3 w3 => hQ M3 F3 h3 w3)))
theorem fac_bad (hE : E_ok E) (hb : x.1 = true) : jx E (cff (E_N E)) wf_fac 1 0 x x := by
  refine ⟨fun n p hp k s O Q hs hQ => ?_, fun n k M F Q Q' hr w hQ => ?_, xm_bd hb⟩
  · obtain ⟨n, rfl⟩ : ∃ n', n = n' + 1 := ⟨n - 1, by have := hp.1; omega⟩
    show wF_X7_factor (E_N E) (cff (E_N E) n) p s O Q
    exact bd_factor hE.2.2.2.1 (hs.1 hb) (fun s' h' => hQ s' (rc_bd h' hb))
  · cases n with
    | zero => exact absurd w (fun q => q)
    | succ n =>
      have w : w_factor (wf_fac n) M F Q := w
      show w_factor (wf_fac n) M F Q'
      unfold w_factor at w ⊢
      exact re_b0 hr (fun _ w => hQ M F hr w) (fun q _ => absurd (hb.symm.trans q) (by decide)) w
/-- the reference's factor when it is good: its branches -/
theorem fac_r (hE : E_ok E) (hb : x.1 = false) {x' : x_X} (h : ∀ (n : Nat) (k : x_B) (M : Nat → Int32) (F : Nat → Nat → Int32) (Q Q' : (Nat → Int32) → (Nat → Nat → Int32) → Prop), rxx E k M F x → (∀ M' F', rxx E k M' F' x' → Q M' F' → Q' M' F') → w_factor (wf_fac n) M F Q → w_factor (wf_fac n) M F Q') : ∀ n, rr E (wf_fac n) x x' := fun n k M F Q Q' hr w hQ => by
  cases n with
  | zero => exact absurd w (fun q => q)
  | succ n => exact h n k M F Q Q' hr hQ w
/-- a class's factor runs with one call more to spare -/
theorem fac_c {x' : x_X} (hx : xg E 10 x) (hb : x.1 = false) (h : ∀ (n : Nat) (p : Int32) (k : x_Kt) (s : f_S3) (O : Nat × Nat) (Q : f_S3 → Nat × Nat → Prop), 1 ≤ n → p = X_i x 0 → 21 ≤ (X_i x 0).toInt + n → rc E k s x → (∀ s', rc E k s' x' → Q s' O) → wF_X7_factor (E_N E) (cff (E_N E) n) p s O Q) : ∀ (n : Nat) (p : Int32), jp n p x → cr E (cff (E_N E) n p) x x' := fun n p hp k s O Q hs hQ => by
  obtain ⟨a, b⟩ := hp.2 hb
  have o := xg_oo hx hb
  obtain ⟨n, rfl⟩ : ∃ n', n = n' + 1 := ⟨n - 1, by omega⟩
  exact h n p k s O Q (by omega) b (by omega) hs hQ
theorem fac_num (hE : E_ok E) (hx : xg E 10 x) (z : X_ty E x = 132) : ∃ x', jx E (cff (E_N E)) wf_fac 1 0 x x' := by
  have hb := X_tyn z (by decide)
  have hlt := xq_lt hE (xg_t hx) z (by decide)
  have m := xm_t0 (xm_ad hE hlt) (xm_pt (xm_t (xm_ad hE hlt)) 2)
  refine ⟨X_pt 2 (X_ad x), fac_c hx hb (fun n p k s O Q _ _ _ hs hQ => ?_), fac_r hE hb (fun n k M F Q Q' hr hQ w => ?_), xm_w m (by decide) (by decide) rfl⟩
  · have e := (c_ty hs).trans z
    have no : ∀ c : Int32, c ≠ 132 → ¬ s.1 12 = c := fun c hc q => hc (q.symm.trans e)
    exact ⟨fun q => absurd q (no _ (by decide)), fun q => absurd q (no _ (by decide)), fun q => absurd q (no _ (by decide)), fun q => absurd q (no _ (by decide)), fun _ => c_emit2 hE hs (xg_lo (n := 14) hx (by decide)) (by decide) (fun s1 h1 => c_adv hE h1 hlt (fun s2 h2 => hQ s2 h2)), fun _ _ _ _ q => absurd e q⟩
  · have hmm := re_m4 hE hr hb
    unfold w_factor at w ⊢
    refine re_b0 hr (fun q => absurd (q.symm.trans hb) (by decide)) (fun _ w => ⟨fun q => absurd (hmm.1.mp z) q, fun q => ?_⟩) w
    exact re_put k M F _ _ hr (w.2 q) (fun _ M1 F1 h1 w1 => re_pass hE hlt k M1 F1 _ _ h1 w1 (fun M2 F2 h2 w2 => hQ M2 F2 (rx_pt h2) w2))
theorem fac_nm (hE : E_ok E) (hx : xg E 10 x) (z : X_ty E x = 130) : ∃ x', jx E (cff (E_N E)) wf_fac 1 0 x x' := by
  have hb := X_tyn z (by decide)
  have m0 := xm_nm hE (xg_t hx)
  have m := xm_t0 m0 (xm_pt (xm_t m0) 2)
  refine ⟨X_pt 2 (X_nm E x), fac_c hx hb (fun n p k s O Q _ _ _ hs hQ => ?_), fac_r hE hb (fun n k M F Q Q' hr hQ w => ?_), xm_w m (by decide) (by decide) rfl⟩
  · have e := (c_ty hs).trans z
    have no : ∀ c : Int32, c ≠ 130 → ¬ s.1 12 = c := fun c hc q => hc (q.symm.trans e)
    exact ⟨fun q => absurd q (no _ (by decide)), fun q => absurd q (no _ (by decide)), fun _ => c_name hE hs (fun r s1 h1 => c_emit2 hE h1 (xg_lo (n := 14) (xg_m hx m0 (c' := 14) (by decide)) (by decide)) (by decide) (fun s2 h2 => hQ s2 h2)), fun q => absurd q (no _ (by decide)), fun q => absurd q (no _ (by decide)), fun _ _ q => absurd e q⟩
  · have hmm := re_m4 hE hr hb
    unfold w_factor at w ⊢
    refine re_b0 hr (fun q => absurd (q.symm.trans hb) (by decide)) (fun _ w => ⟨fun n3 => ⟨fun q => absurd (hmm.2.1.mp z) q, fun q => ?_⟩, fun q => absurd (z.symm.trans (hmm.1.mpr q)) (by decide)⟩) w
    exact re_name hE k M F _ _ hr ((w.1 n3).2 q) (fun _ M1 F1 h1 w1 => re_put k M1 F1 _ _ h1 w1 (fun _ M2 F2 h2 w2 => hQ M2 F2 (rx_pt h2) w2))
/-- neither number nor name -/
theorem fac_rest {k : x_B} {M : Nat → Int32} {F : Nat → Nat → Int32} (hE : E_ok E) (hb : x.1 = false) (n2 : ¬ X_ty E x = 132) (n0 : ¬ X_ty E x = 130) (hr : rxx E k M F x) {WF : x_RW} {Q Q' : (Nat → Int32) → (Nat → Nat → Int32) → Prop} (h45 : X_ty E x = 45 → w_opens 45 M F (fun M19 F19 => (WF M19 F19 (fun M20 F20 => (w_put 4 0 0 0 (um M20 33 ((M20 33) - 1)) F20 (fun _ M22 F22 => (Q M22 F22)))))) → w_opens 45 M F (fun M19 F19 => (WF M19 F19 (fun M20 F20 => (w_put 4 0 0 0 (um M20 33 ((M20 33) - 1)) F20 (fun _ M22 F22 => (Q' M22 F22))))))) (h40 : ¬ X_ty E x = 45 → X_ty E x = 40 → w_opens 40 M F (fun M16 F16 => (w_whole WF M16 F16 (fun M17 F17 => (w_closes 41 M17 F17 (fun M18 F18 => (Q M18 F18)))))) → w_opens 40 M F (fun M16 F16 => (w_whole WF M16 F16 (fun M17 F17 => (w_closes 41 M17 F17 (fun M18 F18 => (Q' M18 F18))))))) (hpp : X_ip (X_ty E x) → w_pass M F (fun M11 F11 => (w_object M11 F11 (fun r12 M13 F13 => (w_put 7 r12 ((M 5) - 19) 0 M13 F13 (fun _ M15 F15 => (Q M15 F15)))))) → w_pass M F (fun M11 F11 => (w_object M11 F11 (fun r12 M13 F13 => (w_put 7 r12 ((M 5) - 19) 0 M13 F13 (fun _ M15 F15 => (Q' M15 F15))))))) (h213 : ¬ X_ty E x = 45 → ¬ X_ty E x = 40 → ¬ X_ip (X_ty E x) → w_factor_213 WF Q M F → w_factor_213 WF Q' M F) (w : w_factor WF M F Q) : w_factor WF M F Q' := by
  have hmm := re_m4 hE hr hb
  unfold w_factor at w ⊢
  refine re_b0 hr (fun q => absurd (q.symm.trans hb) (by decide)) (fun _ w => ⟨fun m3 => ⟨fun m1 => ?_, fun q => absurd (hmm.2.1.mpr q) n0⟩, fun q => absurd (hmm.1.mpr q) n2⟩) w
  have w := (w.1 m3).1 m1
  refine re_s0 hE hr (c := 45) rfl (fun z w => ?_) (fun n45 w => ?_) w
  · have w' := h45 z ((re_isSign hE hr (c := 45) rfl).mpr (by rw [if_pos z]; exact ⟨fun q => absurd q (by decide), fun _ => w⟩))
    have w' := (re_isSign hE hr (c := 45) rfl).mp w'
    rw [if_pos z] at w'
    exact w'.2 (by decide)
  · refine re_s0 hE hr (c := 40) rfl (fun z w => h40 n45 z w) (fun n40 w => ?_) w
    by_cases zp : X_ip (X_ty E x)
    · obtain ⟨a, b, c⟩ := hmm.2.2.2.mp zp
      exact ⟨fun q => absurd a q, fun _ => ⟨fun q => absurd q b, fun _ => ⟨fun q => absurd q c, fun _ => hpp zp (((w.2 a).2 b).2 c)⟩⟩⟩
    · have g := h213 n45 n40 zp
      exact ⟨fun q => g (w.1 q), fun q4 => ⟨fun q => g ((w.2 q4).1 q), fun qa => ⟨fun q => g (((w.2 q4).2 qa).1 q), fun qb => absurd (hmm.2.2.2.mpr ⟨q4, qa, qb⟩) zp⟩⟩⟩
theorem fac_ob (hE : E_ok E) (hn : E_no E) (hx : xg E 10 x) (z : X_ty E x = 131) : ∃ x', jx E (cff (E_N E)) wf_fac 1 0 x x' := by
  have hb := X_tyn z (by decide)
  have m0 := xm_ob hE hn (xg_t hx)
  have m1 := xm_t0 m0 (xm_as hE hn (xm_t m0))
  have m := xm_t0 m1 (xm_pt (xm_t m1) 3)
  refine ⟨X_pt 3 (X_as E (X_ob E x)), fac_c hx hb (fun n p k s O Q _ _ _ hs hQ => ?_), fac_r hE hb (fun n k M F Q Q' hr hQ w => ?_), xm_w m (by decide) (by decide) rfl⟩
  · have e := (c_ty hs).trans z
    have no : ∀ c : Int32, c ≠ 131 → ¬ s.1 12 = c := fun c hc q => hc (q.symm.trans e)
    refine ⟨fun q => absurd q (no _ (by decide)), fun q => absurd q (no _ (by decide)), fun q => absurd q (no _ (by decide)), fun _ => ?_, fun q => absurd q (no _ (by decide)), fun _ _ _ q => absurd e q⟩
    exact c_object hE hs (fun r s1 h1 => c_asked hE h1 (K := fun a b s' O' => wF_X7_factor_116 (E_N E) (cff (E_N E) n) Q a r b s' O') (fun a b s2 h2 => c_emit3 hE h2 (xg_lo (n := 13) (xg_m hx m1 (c' := 13) (by decide)) (by decide)) (by decide) (fun s3 h3 => hQ s3 h3)))
  · have hmm := re_m4 hE hr hb
    refine fac_rest hE hb (by rw [z]; decide) (by rw [z]; decide) hr (fun q => absurd (z.symm.trans q) (by decide)) (fun _ q => absurd (z.symm.trans q) (by decide)) (fun q => by rw [z] at q; exact absurd q (by decide)) (fun _ _ _ w => ?_) w
    refine ⟨fun q => absurd (hmm.2.2.1.mp z) q, fun q => ?_⟩
    exact re_object hE k M F _ _ hr (w.2 q) (fun r M1 F1 h1 w1 => re_asked hE k M1 F1 _ _ h1 w1 (fun M2 F2 h2 w2 => hQ M2 F2 (rx_pt h2) w2))
theorem fac_pp (hE : E_ok E) (hn : E_no E) (hx : xg E 10 x) (hb : x.1 = false) (z : ¬ X_ty E x = 40 ∧ ¬ X_ty E x = 45 ∧ ¬ X_ty E x = 130 ∧ ¬ X_ty E x = 131 ∧ ¬ X_ty E x = 132) : ∃ x', jx E (cff (E_N E)) wf_fac 1 0 x x' := by
  obtain ⟨z1, z2, z3, z4, z5⟩ := z
  have m0 := xm_pp hE (xg_t hx)
  have m1 := xm_t0 m0 (xm_ob hE hn (xm_t m0))
  have m := xm_t0 m1 (xm_pt (xm_t m1) 3)
  refine ⟨X_pt 3 (X_ob E (X_pp E x)), fac_c hx hb (fun n p k s O Q _ _ _ hs hQ => ?_), fac_r hE hb (fun n k M F Q Q' hr hQ w => ?_), xm_w m (by decide) (by decide) rfl⟩
  · have e := c_ty hs
    have no : ∀ c : Int32, ¬ X_ty E x = c → ¬ s.1 12 = c := fun c hc q => hc (e.symm.trans q)
    refine ⟨fun q => absurd q (no _ z1), fun q => absurd q (no _ z2), fun q => absurd q (no _ z3), fun q => absurd q (no _ z4), fun q => absurd q (no _ z5), fun _ _ _ _ _ => ?_⟩
    exact c_prop hE hs (fun r s1 h1 => c_object hE h1 (fun r' s2 h2 => c_emit3 hE h2 (xg_lo (n := 13) (xg_m hx m1 (c' := 13) (by decide)) (by decide)) (by decide) (fun s3 h3 => hQ s3 h3)))
  · have hmm := re_m4 hE hr hb
    refine fac_rest hE hb z5 z3 hr (fun q => absurd q z2) (fun _ q => absurd q z1) (fun q w => ?_) (fun _ _ q w => ⟨fun q2 => ?_, fun q2 => absurd (hmm.2.2.1.mpr q2) z4⟩) w
    · have ep : X_pp E x = X_ad x := by unfold X_pp; rw [if_pos q]
      rw [ep] at hQ
      exact re_pass hE (re_lt hE hr (fun y => by rw [y] at q; exact absurd q (by decide))) k M F _ _ hr w (fun M1 F1 h1 w1 => re_object hE k M1 F1 _ _ h1 w1 (fun _ M2 F2 h2 w2 => re_put k M2 F2 _ _ h2 w2 (fun _ M3 F3 h3 w3 => hQ M3 F3 (rx_pt h3) w3)))
    · have ep : X_pp E x = X_bd x := by unfold X_pp; rw [if_neg q]
      have eo : X_ob E (X_bd x) = X_bd (X_bd x) := by unfold X_ob; rw [if_neg (by rw [X_tyb rfl]; decide)]
      rw [ep, eo] at hQ
      exact re_fail hE k M F _ _ hr (w.1 q2) (fun M1 F1 h1 w1 => hQ M1 F1 (rx_zb (h1.1 rfl) rfl) w1)
theorem X_op_g (hE : E_ok E) {c : Int32} (hx : xg E 10 x) (h5 : c ≠ 135) : xg E 10 (X_op E c x) := xg_o hx (xm_op hE (xg_t hx) h5) (fun q => (X_op_i q).2.2.1) (by decide)
theorem X_op_p {n : Nat} {p c : Int32} (hx : xg E 10 x) (hn : 1 ≤ n) (hp : p = X_i x 0) (h21 : 21 ≤ (X_i x 0).toInt + n) : jp n (p + 1) (X_op E c x) := ⟨hn, fun q => by
  have l1 : (1 : Int32).toInt = 1 := by decide
  obtain ⟨a, -, -, b⟩ := X_op_i q
  have o := xg_oo hx a
  rw [b, hp]
  refine ⟨?_, rfl⟩
  rw [ti_addx _ _ (by rw [l1]; omega), l1]; omega⟩
/-- behind an opening at least one stands open -/
theorem X_op_1 {a : Nat} {d : Int} {c : Int32} (hx : xg E 10 x) (hg : xg E 10 (X_op E c x)) (m : xm E a d 0 (X_op E c x) y) : y.1 = false → 1 ≤ (X_i y 0).toInt ∧ (X_i y 0).toInt ≤ 20 := fun q => by
  have l1 : (1 : Int32).toInt = 1 := by decide
  obtain ⟨a, b⟩ := xm_i0 m q
  obtain ⟨a', -, -, b'⟩ := X_op_i a
  have o := xg_oo hx a'
  have o' := xg_oo hg a
  rw [b]
  refine ⟨?_, o'.2⟩
  rw [b', ti_addx _ _ (by rw [l1]; omega), l1]; omega
theorem fac_neg (hE : E_ok E) {j : Nat} (hF : jF E j) (hx : xg E 10 x) (ht : jt E (j + 1) x) (z : X_ty E x = 45) : ∃ x', jx E (cff (E_N E)) wf_fac 1 0 x x' := by
  have hb := X_tyn z (by decide)
  have m0 := xm_op hE (xg_t hx) (c := 45) (by decide)
  have g0 := X_op_g hE (c := 45) hx (by decide)
  obtain ⟨x2, j1, j2, m1⟩ := hF (X_op E 45 x) g0 (jt_m ht m0)
  have m2 := xm_tr m1 (xm_dn (xm_t m1))
  have m3 := xm_tr m2 (xm_pt (xm_t m2) 1)
  have m := xm_tr m0 m3
  refine ⟨X_pt 1 (X_si 0 (X_i x2 0 - 1) x2), fac_c hx hb (fun n p k s O Q hn hp h21 hs hQ => ?_), fac_r hE hb (fun n k M F Q Q' hr hQ w => ?_), xm_w m (by decide) (by decide) (by decide)⟩
  · have e := (c_ty hs).trans z
    have no : ∀ c : Int32, c ≠ 45 → ¬ s.1 12 = c := fun c hc q => hc (q.symm.trans e)
    refine ⟨fun q => absurd q (no _ (by decide)), fun _ => ?_, fun q => absurd q (no _ (by decide)), fun q => absurd q (no _ (by decide)), fun q => absurd q (no _ (by decide)), fun _ q => absurd e q⟩
    refine c_open hE hs (xg_oo hx) (by decide) (by decide) (fun _ => hp) (fun s1 h1 => j1 n (p + 1) (X_op_p hx hn hp h21) k s1 O _ h1 (fun s2 h2 => c_emit hE h2 (xg_lo (n := 15) (xg_m g0 m1 (c' := 15) (by decide)) (by decide)) (by decide) (fun s3 h3 => hQ s3 ?_)))
    have := rc_o (v := X_i x2 0 - 1) h3
    exact this
  · refine fac_rest hE hb (by rw [z]; decide) (by rw [z]; decide) hr (fun _ w => ?_) (fun q => absurd z q) (fun q => by rw [z] at q; exact absurd q (by decide)) (fun q => absurd z q) w
    exact re_opens hE (c := 45) rfl k M F _ _ hr w (fun M1 F1 h1 w1 => j2 n k M1 F1 _ _ h1 w1 (fun M2 F2 h2 w2 => re_put k _ F2 _ _ (re_dec (X_op_1 hx g0 m1) h2) w2 (fun _ M3 F3 h3 w3 => hQ M3 F3 (rx_pt h3) w3)))
theorem fac_par (hE : E_ok E) {j : Nat} (hF : jF E j) (hx : xg E 10 x) (ht : jt E (j + 1) x) (z : X_ty E x = 40) : ∃ x', jx E (cff (E_N E)) wf_fac 1 0 x x' := by
  have hb := X_tyn z (by decide)
  have m0 := xm_op hE (xg_t hx) (c := 40) (by decide)
  have g0 := X_op_g hE (c := 40) hx (by decide)
  obtain ⟨x2, j1, j2, m1⟩ := j_expr hE hF g0 (jt_m ht m0)
  have m2 := xm_tr m1 (xm_cl hE (xm_t m1) (c := 41) (by decide))
  have m := xm_tr m0 m2
  refine ⟨X_cl E 41 x2, fac_c hx hb (fun n p k s O Q hn hp h21 hs hQ => ?_), fac_r hE hb (fun n k M F Q Q' hr hQ w => ?_), xm_w m (by decide) (by decide) (by decide)⟩
  · have e := (c_ty hs).trans z
    have no : ∀ c : Int32, c ≠ 40 → ¬ s.1 12 = c := fun c hc q => hc (q.symm.trans e)
    refine ⟨fun _ => ?_, fun q => absurd q (no _ (by decide)), fun q => absurd q (no _ (by decide)), fun q => absurd q (no _ (by decide)), fun q => absurd q (no _ (by decide)), fun q => absurd e q⟩
    exact c_open hE hs (xg_oo hx) (by decide) (by decide) (fun _ => hp) (fun s1 h1 => j1 n (p + 1) (X_op_p hx hn hp h21) k s1 O _ h1 (fun s2 h2 => c_take hE h2 (by decide) (by decide) (fun s3 h3 => hQ s3 (rc_o h3))))
  · refine fac_rest hE hb (by rw [z]; decide) (by rw [z]; decide) hr (fun q => absurd (z.symm.trans q) (by decide)) (fun _ _ w => ?_) (fun q => by rw [z] at q; exact absurd q (by decide)) (fun _ q => absurd z q) w
    exact re_opens hE (c := 40) rfl k M F _ _ hr w (fun M1 F1 h1 w1 => j2 n k M1 F1 _ _ h1 w1 (fun M2 F2 h2 w2 => re_closes hE (c := 41) rfl (X_op_1 hx g0 m1) k M2 F2 _ _ h2 w2 (fun M3 F3 h3 w3 => hQ M3 F3 h3 w3)))
theorem j_factor (hE : E_ok E) (hn : E_no E) : ∀ j, jF E j := by
  intro j
  induction j with
  | zero =>
    intro x hx ht
    refine ⟨x, fac_bad hE ?_⟩
    cases q : x.1 with
    | true => rfl
    | false => have := ht q; have := xg_t hx q; omega
  | succ j ih =>
    intro x hx ht
    cases hb : x.1 with
    | true => exact ⟨x, fac_bad hE hb⟩
    | false =>
      by_cases z1 : X_ty E x = 40
      · exact fac_par hE ih hx ht z1
      by_cases z2 : X_ty E x = 45
      · exact fac_neg hE ih hx ht z2
      by_cases z3 : X_ty E x = 130
      · exact fac_nm hE hx z3
      by_cases z4 : X_ty E x = 131
      · exact fac_ob hE hn hx z4
      by_cases z5 : X_ty E x = 132
      · exact fac_num hE hx z5
      exact fac_pp hE hn hx hb ⟨z1, z2, z3, z4, z5⟩
/-- an expression -/
theorem j_E (hE : E_ok E) (hn : E_no E) (hx : xg E 10 x) : ∃ x', jx E (fun n p => wF_X7_expression (E_N E) (cff (E_N E) n) p) (fun n => w_whole (wf_fac n)) 1 0 x x' := j_expr hE (j_factor hE hn (E_m E + 1)) hx (fun _ => by omega)
theorem j_R (hE : E_ok E) (hn : E_no E) (hx : xg E 10 x) : ∃ x', jx E (fun n p => wF_X7_restOfExpression (E_N E) (cff (E_N E) n) p) (fun n => w_wholeBehind (wf_fac n)) 0 0 x x' := j_restE hE (j_factor hE hn (E_m E + 1)) hx (fun _ => by omega)
end XJ3
