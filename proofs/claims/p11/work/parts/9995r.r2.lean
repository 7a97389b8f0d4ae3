/-! THE CLASS'S READER WITH WHAT ITS ROWS HOLD. -/
section YC1
variable {E : x_E} {k : x_Kt} {s s' : f_S3} {y : y_X} {O : Nat × Nat} {K : List Nat}
def nf (y : y_X) : Prop := y.1 = false ∧ Y_2 y = false ∧ Y_3 y = false
def CG (E : x_E) (s : f_S3) (y : y_X) : Prop := nf y → (∀ p, p < Y_z y → s.2.1 20 p = Y_C y p) ∧ (∀ w, w < E_L E → Y_u y w = Y_i y 1 → (E_nw E w → s.2.1 24 (33 + w) = (Y_S y w).1) ∧ (¬ E_nw E w → s.2.1 24 (33 + w) = (Y_S y w).2)) ∧ (∀ j : Nat, (j : Int) < (Y_i y 1).toInt → j < 16 → s.2.1 21 j = Y_r y (200000 + j)) ∧ ∀ i, i < (Y_l y).length → s.2.1 26 i = nI (Y_a y 6 i)
def rcG (E : x_E) (k : x_Kt) (s : f_S3) (y : y_X) : Prop := rc E k s (yx y) ∧ CG E s y
def fF (s s' : f_S3) : Prop := s'.2.1 20 = s.2.1 20 ∧ s'.2.1 21 = s.2.1 21 ∧ s'.2.1 24 = s.2.1 24 ∧ s'.2.1 26 = s.2.1 26
theorem CG_fr (h : CG E s y) (f : fF s s') : CG E s' y := by
  obtain ⟨f1, f2, f3, f4⟩ := f
  unfold CG
  rw [f1, f2, f3, f4]
  exact h
theorem fF_fail {N : Nat → Nat} {Q Q' : f_S3 → Nat × Nat → Prop} (h : wF_X7_fail N s O Q) (hq : ∀ s', fF s s' → Q s' O → Q' s' O) : wF_X7_fail N s O Q' := ⟨fun q => hq _ ⟨rfl, rfl, rfl, rfl⟩ (h.1 q), fun q => ⟨(h.2 q).1, hq _ ⟨rfl, rfl, rfl, rfl⟩ (h.2 q).2⟩⟩
theorem fF_adv {N : Nat → Nat} {Q Q' : f_S3 → Nat × Nat → Prop} (h : wF_X7_advance N s O Q) (hq : ∀ s', fF s s' → Q s' O → Q' s' O) : wF_X7_advance N s O Q' := ⟨fun q => hq _ ⟨rfl, rfl, rfl, rfl⟩ (h.1 q), fun q => ⟨fun q2 => hq _ ⟨rfl, rfl, rfl, rfl⟩ ((h.2 q).1 q2), fun q2 => ⟨((h.2 q).2 q2).1, ((h.2 q).2 q2).2.1, ((h.2 q).2 q2).2.2.1, hq _ ⟨rfl, rfl, rfl, rfl⟩ ((h.2 q).2 q2).2.2.2⟩⟩⟩
theorem cg_ty (h : rcG E k s y) : s.1 12 = Y_ty E y := c_ty h.1
theorem Y_tyb (h : y.1 = true) : Y_ty E y = 137 := by unfold Y_ty; rw [h]; rfl
theorem Y_tyg (h : y.1 = false) : Y_ty E y = E_A E (Y_t y) := by unfold Y_ty; rw [h]; rfl
theorem Y_tyn {c : Int32} (h : Y_ty E y = c) (hc : c ≠ 137) : y.1 = false := by
  cases q : y.1 with
  | true => exact absurd ((Y_tyb q).symm.trans h).symm hc
  | false => rfl
theorem nf_bd {y : y_X} (h : y.1 = true) : ¬ nf y := fun q => absurd (h.symm.trans q.1) (by decide)
theorem rcG_bd (h : bd (E_N E) s) (hy : y.1 = true) : rcG E k s y := ⟨rc_bd h hy, fun q => absurd q (nf_bd hy)⟩
theorem cg_fail (hE : E_ok E) (h : rcG E k s y) {Q : f_S3 → Nat × Nat → Prop} (hQ : ∀ s', rcG E k s' (Y_bd y) → Q s' O) : wF_X7_fail (E_N E) s O Q := fF_fail (c_fail hE h.1 (Q := fun s' _ => rc E k s' (X_bd (yx y))) (fun _ h' => h')) (fun s' _ h' => hQ s' ⟨h', fun q => absurd q (nf_bd rfl)⟩)
theorem cg_adv (hE : E_ok E) (h : rcG E k s y) (ht : y.1 = false → Y_t y < E_m E) {Q : f_S3 → Nat × Nat → Prop} (hQ : ∀ s', rcG E k s' (Y_ad y) → Q s' O) : wF_X7_advance (E_N E) s O Q := fF_adv (c_adv hE h.1 ht (Q := fun s' _ => rc E k s' (X_ad (yx y))) (fun _ h' => h')) (fun s' f h' => hQ s' ⟨h', CG_fr (y := Y_ad y) h.2 f⟩)
theorem cg_take (hE : E_ok E) (h : rcG E k s y) {c : Int32} (h5 : c ≠ 135) (h7 : c ≠ 137) {Q : f_S3 → Nat × Nat → Prop} (hQ : ∀ s', rcG E k s' (Y_tk E c y) → Q s' O) : wF_X7_take (E_N E) c s O Q := by
  unfold Y_tk at hQ
  refine ⟨fun q => cg_fail hE h (fun s' h' => hQ s' ?_), fun q => cg_adv hE h (fun hb => ?_) (fun s' h' => hQ s' ?_)⟩
  · rw [cg_ty h] at q; rw [if_neg q]; exact h'
  · rw [cg_ty h, Y_tyg hb] at q; exact E_lt hE (h.1.2 hb).1.2.2 q h5
  · rw [cg_ty h] at q; rw [if_pos q]; exact h'
def Y_oo (y : y_X) : Prop := y.1 = false → 0 ≤ (Y_i y 0).toInt ∧ (Y_i y 0).toInt ≤ 20
theorem cg_open (hE : E_ok E) (h : rcG E k s y) (ho : Y_oo y) {c d : Int32} (h5 : c ≠ 135) (h7 : c ≠ 137) (hd : y.1 = false → d = Y_i y 0) {Q : f_S3 → Nat × Nat → Prop} (hQ : ∀ s', rcG E k s' (Y_op E c y) → Q s' O) : wF_X7_takeOpening (E_N E) c d s O Q := by
  unfold Y_op at hQ
  refine ⟨fun q => cg_fail hE h (fun s' h' => hQ s' ?_), fun q => ?_⟩
  · rw [cg_ty h] at q; rw [if_neg (fun z => q z.1)]; exact h'
  · rw [cg_ty h] at q
    have hb := Y_tyn q h7
    have o := ho hb
    rw [hd hb]
    refine ⟨fun z => cg_fail hE h (fun s' h' => hQ s' ?_), fun z => cg_adv hE h (fun hb => ?_) (fun s' h' => hQ s' ?_)⟩
    · rw [Int32.le_iff_toInt_le, show (20 : Int32).toInt = 20 by decide] at z
      have e : Y_i y 0 = 20 := Int32.toInt_inj.mp (by rw [show (20 : Int32).toInt = 20 by decide]; omega)
      rw [if_neg (fun y => y.2 e)]; exact h'
    · rw [Y_tyg hb] at q; exact E_lt hE (h.1.2 hb).1.2.2 q h5
    · have e : ¬ Y_i y 0 = 20 := fun y => z (by rw [y]; decide)
      rw [if_pos ⟨q, e⟩]; exact ⟨rc_o h'.1, h'.2⟩
theorem cg_o {v : Int32} (h : rcG E k s y) : rcG E k s (Y_si 0 v y) := ⟨rc_o h.1, h.2⟩
def Y_lo (E : x_E) (c : Nat) (y : y_X) : Prop := y.1 = false → Y_z y ≤ 2 * E_p E (Y_t y) + c
theorem cg_put (hE : E_ok E) (h : rcG E k s y) {c : Nat} (hl : Y_lo E c y) (hc : c ≤ 15) {v : Int32} {Q : Int32 → f_S3 → Nat × Nat → Prop} (hQ : ∀ r s', (y.1 = false → r = nI (Y_z y)) → rcG E k s' (Y_cs [v] y) → Q r s' O) : wF_X6_put (E_N E) v s O Q := by
  have h0 := c_put hE h.1 hl hc (v := v) (O := O) (Q := fun r s' _ => (y.1 = false → r = nI (Y_z y) ∧ s'.2.1 20 (Y_z y) = v ∧ (∀ j, j ≠ Y_z y → s'.2.1 20 j = s.2.1 20 j) ∧ s'.2.1 26 = s.2.1 26) ∧ rc E k s' (X_pt 1 (yx y))) (fun r s' a b => ⟨a, b⟩)
  have fin : ∀ (r : Int32) (s' : f_S3), s'.2.1 21 = s.2.1 21 → s'.2.1 24 = s.2.1 24 → (y.1 = false → r = nI (Y_z y) ∧ s'.2.1 20 (Y_z y) = v ∧ (∀ j, j ≠ Y_z y → s'.2.1 20 j = s.2.1 20 j) ∧ s'.2.1 26 = s.2.1 26) ∧ rc E k s' (X_pt 1 (yx y)) → Q r s' O := fun r s' e21 e24 ⟨a, b⟩ => by
    refine hQ r s' (fun hb => (a hb).1) ⟨b, fun q => ?_⟩
    obtain ⟨-, a2, a3, a4⟩ := a q.1
    obtain ⟨g1, g2, g3, g4⟩ := h.2 q
    refine ⟨fun p hp => ?_, fun w hw hu => by rw [e24]; exact g2 w hw hu, fun j h1 h2 => by rw [e21]; exact g3 j h1 h2, fun i hi => by rw [a4]; exact g4 i hi⟩
    have hp : p < Y_z y + 1 := hp
    show s'.2.1 20 p = cl (Y_C y) (Y_z y) [v] p
    by_cases z : p = Y_z y
    · rw [z, a2]; exact (cl_at (i := 0) (show 0 < [v].length from Nat.zero_lt_one)).symm
    · rw [a3 p z, cl_lt (by omega)]; exact g1 p (by omega)
  exact ⟨fun q => fin _ _ rfl rfl (h0.1 q), fun q => ⟨(h0.2 q).1, fin _ _ rfl rfl (h0.2 q).2⟩⟩
theorem cg_emit (hE : E_ok E) (h : rcG E k s y) {c : Nat} (hl : Y_lo E c y) (hc : c ≤ 15) {v : Int32} {Q : f_S3 → Nat × Nat → Prop} (hQ : ∀ s', rcG E k s' (Y_cs [v] y) → Q s' O) : wF_X7_emit (E_N E) v s O Q := cg_put hE h hl hc (fun _ s' _ h' => hQ s' h')
theorem Y_lo_p {c : Nat} (hl : Y_lo E c y) (l : List Int32) : Y_lo E (c + l.length) (Y_cs l y) := fun hb => by
  have := hl hb
  show Y_z y + l.length ≤ 2 * E_p E (Y_t y) + (c + l.length)
  omega
theorem cg_emit2 (hE : E_ok E) (h : rcG E k s y) {c : Nat} (hl : Y_lo E c y) (hc : c ≤ 14) {v w : Int32} {Q : f_S3 → Nat × Nat → Prop} (hQ : ∀ s', rcG E k s' (Y_cs [v, w] y) → Q s' O) : wF_X7_emit_ (E_N E) v w s O Q := cg_put hE h hl (by omega) (fun _ _ _ h1 => cg_put hE h1 (Y_lo_p hl [v]) (show c + 1 ≤ 15 by omega) (fun _ s' _ h' => hQ s' (by rw [← Y_cs2]; exact h')))
theorem cg_emit3 (hE : E_ok E) (h : rcG E k s y) {c : Nat} (hl : Y_lo E c y) (hc : c ≤ 13) {u v w : Int32} {Q : f_S3 → Nat × Nat → Prop} (hQ : ∀ s', rcG E k s' (Y_cs [u, v, w] y) → Q s' O) : wF_X7_emit__ (E_N E) u v w s O Q := cg_put hE h hl (by omega) (fun _ _ _ h1 => cg_put hE h1 (Y_lo_p hl [u]) (show c + 1 ≤ 15 by omega) (fun _ _ _ h2 => cg_put hE h2 (by rw [Y_cs2]; exact Y_lo_p hl [u, v]) (show c + 2 ≤ 15 by omega) (fun _ s' _ h' => hQ s' (by rw [← Y_cs3, ← Y_cs2]; exact h'))))
theorem cg_sub {k' : x_Kt} (h : rcG E k s y) (h1 : ∀ q, q ∈ k'.1 → q ∈ k.1) (h2 : k'.2 = k.2) : rcG E k' s y := ⟨rc_sub h.1 h1 h2, h.2⟩
theorem cg_hole (hE : E_ok E) (h : rcG E k s y) {c : Nat} (hl : Y_lo E c y) (hc : c ≤ 15) {v : Int32} {Q : Int32 → f_S3 → Nat × Nat → Prop} (hQ : ∀ r s', (y.1 = false → r = nI (Y_z y)) → rcG E (Y_z y :: k.1, k.2) s' (Y_cs [v] y) → Q r s' O) : wF_X6_put (E_N E) v s O Q := by
  have h0 := c_hole hE h.1 hl hc (v := v) (O := O) (Q := fun _ s' _ => rc E (Y_z y :: k.1, k.2) s' (X_pt 1 (yx y))) (fun r s' _ b => b)
  have h1 := cg_put hE h hl hc (v := v) (O := O) (Q := fun r s' _ => (y.1 = false → r = nI (Y_z y)) ∧ CG E s' (Y_cs [v] y)) (fun r s' a b => ⟨a, b.2⟩)
  exact ⟨fun q => hQ _ _ (h1.1 q).1 ⟨h0.1 q, (h1.1 q).2⟩, fun q => ⟨(h0.2 q).1, hQ _ _ (h1.2 q).2.1 ⟨(h0.2 q).2, (h1.2 q).2.2⟩⟩⟩
theorem cg_change (hE : E_ok E) (h : rcG E k s y) {r v : Int32} {j : Nat} (hj : y.1 = false → r = nI j ∧ j ∈ k.1) {Q : f_S3 → Nat × Nat → Prop} (hQ : ∀ s', rcG E k s' (Y_ch j v y) → Q s' O) : wF_X6_change (E_N E) r v s O Q := by
  have h0 := c_change hE h.1 hj (v := v) (O := O) (Q := fun s' _ => rc E k s' (yx y)) (fun s' b => b)
  cases hb : y.1 with
  | true => exact ⟨fun q => hQ _ ⟨h0.1 q, fun z => absurd z (nf_bd hb)⟩, fun q => ⟨fun q2 => hQ _ ⟨(h0.2 q).1 q2, fun z => absurd z (nf_bd hb)⟩, fun q2 => ⟨((h0.2 q).2 q2).1, hQ _ ⟨((h0.2 q).2 q2).2, fun z => absurd z (nf_bd hb)⟩⟩⟩⟩
  | false =>
    obtain ⟨e, hm⟩ := hj hb
    obtain ⟨g1, g2, g3, g4, ⟨z1, z2, z3⟩, -⟩ := h.1.2 hb
    have hlt : j < Y_z y := z3 j hm
    have hN2 := hE.2.2.2.1.2.1
    have z2 : Y_z y ≤ E_N E 20 := z2
    have z1 : s.1 63 = nI (Y_z y) := z1
    refine ⟨fun q => absurd q (by rw [e]; exact y_lt0 (by omega)), fun q => ⟨fun q2 => ?_, fun q2 => ⟨((h0.2 q).2 q2).1, hQ _ ⟨((h0.2 q).2 q2).2, fun n => ?_⟩⟩⟩⟩
    · rw [e, z1, y_le (by omega) (by omega)] at q2; omega
    · obtain ⟨c1, c2, c3, c4⟩ := h.2 n
      refine ⟨fun p hp => ?_, c2, c3, c4⟩
      show uf s.2.1 20 r v 20 p = f1 (Y_C y) j v p
      rw [uf_at2, e, y_cl (by omega)]
      by_cases q : p = j
      · rw [if_pos ⟨rfl, q⟩, q, f1_eq]
      · rw [if_neg (fun z => q z.2), f1_ne q]; exact c1 p hp
/-- the slot of a word -/
theorem y_slotV (hE : E_ok E) {w : Nat} (hw : w < E_L E) {Q : Int32 → f_S3 → Nat × Nat → Prop} (hQ : Q (s.2.1 24 (33 + w)) s O) : wF_X7_slotOf (E_N E) (nI (33 + w)) s O Q := by
  obtain ⟨a1, a2, a3, a4⟩ := E_wN hE hw
  refine ⟨fun q => absurd q (y_lt0 (by omega)), fun _ => ⟨fun q => ?_, fun _ => ⟨by rw [a2]; exact y_in a1 (by omega), ?_⟩⟩⟩
  · rw [a2, y_le (by omega) (by omega)] at q; omega
  · rw [y_cl (by omega)]; exact hQ
theorem cg_name (hE : E_ok E) (h : rcG E k s y) {Q : Int32 → f_S3 → Nat × Nat → Prop} (hQ : ∀ r s', (nf (Y_nm E y) → r = (Y_S y (E_w E (Y_t y))).1) → rcG E k s' (Y_nm E y) → Q r s' O) : wF_X7_name (E_N E) s O Q := by
  unfold Y_nm at hQ
  refine ⟨fun q => ?_, fun q => cg_fail hE h (fun s' h' => hQ 0 s' ?_ ?_)⟩
  · rw [cg_ty h] at q
    rw [if_pos q] at hQ
    have hb := Y_tyn q (by decide)
    have g := h.1.2 hb
    have ha : E_A E (Y_t y) = 130 := by rw [← Y_tyg hb]; exact q
    obtain ⟨w1, w2, w3, -⟩ := E_word hE (t := Y_t y) g.1.2.2 (Or.inl ha)
    have hv : s.1 13 = nI (33 + E_w E (Y_t y)) := g.1.2.1.2.2.1.trans w2
    rw [hv]
    refine y_told hE w3 g (fun z => ⟨fun _ => ?_, fun q => absurd q (by decide)⟩) (fun z => ⟨fun q => absurd rfl q, fun _ => ?_⟩)
    · have z : Y_u y (E_w E (Y_t y)) = Y_i y 1 := z
      rw [if_pos z] at hQ
      unfold wF_X7_name_36
      rw [hv]
      exact y_slotV hE w3 (cg_adv hE h (fun _ => w1) (fun s2 h2 => hQ _ s2 (fun n => ((h.2 n).2.1 _ w3 z).1 ⟨Y_t y, w1, ha, rfl⟩) h2))
    · have z : ¬ Y_u y (E_w E (Y_t y)) = Y_i y 1 := z
      rw [if_neg z] at hQ
      refine y_pf hE.2.2.2.1.1 (Or.inl ⟨rfl, rfl⟩) (by rw [g.1.2.1.2.2.2]; exact E_Pn hE g.1.2.2) (fun s' q' => ?_)
      unfold wF_X7_name_36
      rw [q'.1, hv]
      exact y_slotV hE w3 (cg_adv hE (y := Y_s2 y) ⟨rc_g (c_pf2 g q') hb, fun n => absurd n.2.1 (by show ¬ true = false; decide)⟩ (fun _ => w1) (fun s2 h2 => hQ _ s2 (fun n => absurd n.2.1 (by show ¬ true = false; decide)) h2))
  · rw [cg_ty h] at q; rw [if_neg q]; exact fun n => absurd n (nf_bd rfl)
  · rw [cg_ty h] at q; rw [if_neg q]; exact h'
theorem nf_o3 {y : y_X} (h : nf (Y_o3 y)) : Y_i y 3 ≤ 8 ∧ Y_o3 y = y := by
  unfold Y_o3 at h ⊢
  by_cases q : Y_i y 3 ≤ 8
  · exact ⟨q, if_pos q⟩
  · rw [if_neg q] at h; exact absurd h.2.2 (by show ¬ true = false; decide)
theorem yx_o3 {y : y_X} : yx (Y_o3 y) = X_o3 (yx y) := by unfold Y_o3 X_o3; exact yx_if _
theorem Y_o3_b {y : y_X} : (Y_o3 y).1 = y.1 ∧ Y_t (Y_o3 y) = Y_t y := by unfold Y_o3; split <;> exact ⟨rfl, rfl⟩
theorem cg_object (hE : E_ok E) (h : rcG E k s y) {Q : Int32 → f_S3 → Nat × Nat → Prop} (hQ : ∀ r s', (nf (Y_ob E y) → r = (Y_S (Y_ob E y) (E_w E (Y_t y))).2) → rcG E k s' (Y_ob E y) → Q r s' O) : wF_X7_object (E_N E) s O Q := by
  unfold Y_ob at hQ
  refine ⟨fun q => ?_, fun q => cg_fail hE h (fun s' h' => hQ 0 s' ?_ ?_)⟩
  · rw [cg_ty h] at q
    rw [if_pos q] at hQ
    have hb := Y_tyn q (by decide)
    have g := h.1.2 hb
    have ha : E_A E (Y_t y) = 131 := by rw [← Y_tyg hb]; exact q
    obtain ⟨w1, w2, w3, -⟩ := E_word hE (t := Y_t y) g.1.2.2 (Or.inr ha)
    have hno := E_no_ok hE (Y_t y) w1 ha
    have hv : s.1 13 = nI (33 + E_w E (Y_t y)) := g.1.2.1.2.2.1.trans w2
    obtain ⟨a1, a2, a3, a4⟩ := E_wN hE w3
    have put : ∀ s1 : f_S3, ¬ Y_u y (E_w E (Y_t y)) = Y_i y 1 → (s1 = s ∧ s.1 10 < 8) ∨ (¬ s.1 10 < 8 ∧ y_pfp s s1 3) → wF_X7_object_45 (E_N E) Q s1 O := by
      intro s1 z hs
      have hv1 : s1.1 13 = nI (33 + E_w E (Y_t y)) := by
        rcases hs with ⟨rfl, -⟩ | ⟨-, hp⟩
        · exact hv
        · rw [hp.1]; exact hv
      have rws : ∀ r, r ≠ 28 → s1.2.1 r = s.2.1 r := by
        rcases hs with ⟨rfl, -⟩ | ⟨-, hp⟩
        · exact fun _ _ => rfl
        · exact hp.2.1
      have f10 : s1.1 10 = s.1 10 := by
        rcases hs with ⟨rfl, -⟩ | ⟨-, hp⟩
        · rfl
        · rw [hp.1]
      have eot : Y_ot (E_w E (Y_t y)) y = Y_o3 (Y_si 3 (Y_i y 3 + 1) (Y_su (E_w E (Y_t y)) y)) := if_neg z
      rw [eot] at hQ
      unfold wF_X7_object_45
      rw [hv1]
      refine y_tell hE w3 ?_
      show wF_X7_object_67 (E_N E) Q (fm (ff (ff s1 23 (nI (33 + E_w E (Y_t y))) (s1.1 64)) 24 (nI (33 + E_w E (Y_t y))) (s1.1 10)) 10 (s1.1 10 + 1)) O
      have r0 := c_o3 hE w3 (v := s1.1 10) g hs
      have e1 : yx (Y_si 3 (Y_i y 3 + 1) (Y_su (E_w E (Y_t y)) y)) = X_si 3 (X_i (yx y) 3 + 1) (X_su (E_w E (Y_t y)) (yx y)) := rfl
      have e0 : yx (Y_o3 (Y_si 3 (Y_i y 3 + 1) (Y_su (E_w E (Y_t y)) y))) = X_o3 (X_si 3 (X_i (yx y) 3 + 1) (X_su (E_w E (Y_t y)) (yx y))) := by rw [yx_o3, e1]
      rw [← e0] at r0
      have e24 : ∀ j, (fm (ff (ff s1 23 (nI (33 + E_w E (Y_t y))) (s1.1 64)) 24 (nI (33 + E_w E (Y_t y))) (s1.1 10)) 10 (s1.1 10 + 1)).2.1 24 j = if j = 33 + E_w E (Y_t y) then s1.1 10 else s.2.1 24 j := fun j => by
        show uf (uf s1.2.1 23 (nI (33 + E_w E (Y_t y))) (s1.1 64)) 24 (nI (33 + E_w E (Y_t y))) (s1.1 10) 24 j = _
        rw [uf_at2, y_cl (by omega)]
        by_cases q : j = 33 + E_w E (Y_t y)
        · rw [if_pos ⟨rfl, q⟩, if_pos q]
        · rw [if_neg (fun z => q z.2), if_neg q]
          show s1.2.1 24 j = _
          rw [rws 24 (by decide)]
      have R1 : rcG E k (fm (ff (ff s1 23 (nI (33 + E_w E (Y_t y))) (s1.1 64)) 24 (nI (33 + E_w E (Y_t y))) (s1.1 10)) 10 (s1.1 10 + 1)) (Y_o3 (Y_si 3 (Y_i y 3 + 1) (Y_su (E_w E (Y_t y)) y))) := by
        refine ⟨rc_g r0 (Y_o3_b.1.trans hb), fun n => ?_⟩
        obtain ⟨n1, n2⟩ := nf_o3 n
        rw [n2] at n ⊢
        have ny : nf y := n
        obtain ⟨c1, c2, c3, c4⟩ := h.2 ny
        have i10 : s.1 10 = Y_i y 3 := (g.2.2.1.2 ny.2.1 ny.2.2).1.2
        refine ⟨fun p hp => ?_, fun w hw hu => ?_, fun j h1 h2 => ?_, fun i hi => ?_⟩
        · show s1.2.1 20 p = _; rw [rws 20 (by decide)]; exact c1 p hp
        · rw [e24]
          show (_ → _ = (f1 (Y_S y) (E_w E (Y_t y)) (Y_i y 2, Y_i y 3) w).1) ∧ (_ → _ = (f1 (Y_S y) (E_w E (Y_t y)) (Y_i y 2, Y_i y 3) w).2)
          by_cases q : w = E_w E (Y_t y)
          · subst q
            rw [f1_eq, if_pos rfl]
            exact ⟨fun x => absurd x hno, fun _ => by rw [f10, i10]⟩
          · rw [f1_ne q, if_neg (by omega)]
            have hu : fu (Y_u y) (E_w E (Y_t y)) (Y_i y 1) w = Y_i y 1 := hu
            unfold fu at hu
            rw [if_neg q] at hu
            exact c2 w hw hu
        · show s1.2.1 21 j = _; rw [rws 21 (by decide)]; exact c3 j h1 h2
        · show s1.2.1 26 i = _; rw [rws 26 (by decide)]; exact c4 i hi
      unfold wF_X7_object_67
      have e13 : (fm (ff (ff s1 23 (nI (33 + E_w E (Y_t y))) (s1.1 64)) 24 (nI (33 + E_w E (Y_t y))) (s1.1 10)) 10 (s1.1 10 + 1)).1 13 = nI (33 + E_w E (Y_t y)) := hv1
      rw [e13]
      refine y_slotV hE w3 (cg_adv hE R1 (fun _ => by rw [Y_o3_b.2]; exact w1) (fun s2 h2 => hQ _ s2 (fun n => ?_) h2))
      have n : nf (Y_o3 (Y_si 3 (Y_i y 3 + 1) (Y_su (E_w E (Y_t y)) y))) := n
      obtain ⟨n1, n2⟩ := nf_o3 n
      rw [n2] at n ⊢
      have i10 : s.1 10 = Y_i y 3 := (g.2.2.1.2 n.2.1 n.2.2).1.2
      rw [e24, if_pos rfl]
      show s1.1 10 = (f1 (Y_S y) (E_w E (Y_t y)) (Y_i y 2, Y_i y 3) (E_w E (Y_t y))).2
      rw [f1_eq, f10, i10]
    rw [hv]
    refine y_told hE w3 g (fun z => ⟨fun _ => ?_, fun q => absurd q (by decide)⟩) (fun z => ⟨fun q => absurd rfl q, fun _ => ⟨fun l => put s z (Or.inl ⟨rfl, l⟩), fun l => ?_⟩⟩)
    · have z : Y_u y (E_w E (Y_t y)) = Y_i y 1 := z
      have eot : Y_ot (E_w E (Y_t y)) y = y := if_pos z
      rw [eot] at hQ
      unfold wF_X7_object_67
      rw [hv]
      exact y_slotV hE w3 (cg_adv hE h (fun _ => w1) (fun s2 h2 => hQ _ s2 (fun n => ((h.2 n).2.1 _ w3 z).2 hno) h2))
    · exact y_pf hE.2.2.2.1.1 (Or.inr (Or.inl ⟨rfl, rfl⟩)) (by rw [g.1.2.1.2.2.2]; exact E_Pn hE g.1.2.2) (fun s' q' => put s' z (Or.inr ⟨l, q'⟩))
  · rw [cg_ty h] at q; rw [if_neg q]; exact fun n => absurd n (nf_bd rfl)
  · rw [cg_ty h] at q; rw [if_neg q]; exact h'
end YC1
