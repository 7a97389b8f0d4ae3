/-! THE REFERENCE'S READER: what opens and closes; tokens taken; names and objects; codes. -/
section XR2
variable {E : x_E} {k : x_B} {M M' : Nat → Int32} {F F' : Nat → Nat → Int32} {x x' : x_X}
theorem re_si0 {v : Int32} (h : rxx E k M F x) (hv : x.1 = false → 0 ≤ v.toInt ∧ v.toInt ≤ 20) : rxx E k (um M 33 v) F (X_si 0 v x) := by
  refine ⟨fun q => zb_um (h.1 q) (by decide), fun q => ?_⟩
  obtain ⟨g1, g2, ⟨i0, i1, i2⟩, g4, g5, g6⟩ := h.2 q
  exact ⟨rz_q_cg g1 rfl rfl rfl rfl rfl rfl rfl rfl rfl, g2, ⟨⟨(um_eq : um M 33 v 33 = v), hv q⟩, i1, i2⟩, g4, g5, g6⟩
theorem re_opens (hE : E_ok E) {c : Int32} (hc : x_sn c = true) : rr E (w_opens c) x (X_op E c x) := fun k M F Q Q' h w hQ => by
  have l1 : (1 : Int32).toInt = 1 := by decide
  have l20 : (20 : Int32).toInt = 20 := by decide
  unfold X_op at hQ
  refine (re_isSign hE h hc).mpr ?_
  have w := (re_isSign hE h hc).mp w
  have hbad : ∀ w' : w_opens_17 Q M F, (¬ (X_ty E x = c ∧ ¬ X_i x 0 = 20)) → w_opens_17 Q' M F := by
    intro w' z
    rw [if_neg z] at hQ
    refine re_fail hE k M F _ _ h w' (fun M1 F1 h1 w1 => ?_)
    have h2 : rxx E k (um M1 33 (M1 33 + 1)) F1 (X_bd x) := rx_zb (zb_um (h1.1 rfl) (by decide)) rfl
    exact re_pass hE (fun q => absurd q (by show ¬ true = false; decide)) k _ _ _ _ h2 w1 (fun M2 F2 h3 w2 => hQ M2 F2 (rx_zb (h3.1 rfl) rfl) w2)
  by_cases z : X_ty E x = c
  · rw [if_pos z] at w ⊢
    have hb := X_tyn z (fun q => by rw [q] at hc; exact absurd hc (by decide))
    obtain ⟨⟨o1, o2, o3⟩, -⟩ := (h.2 hb).2.2.1
    refine ⟨fun q => absurd q (by decide), fun _ => ⟨fun y => ?_, fun y => hbad ((w.2 (by decide)).2 y) (fun q => q.2 (o1.symm.trans y))⟩⟩
    have y' : ¬ X_i x 0 = 20 := fun q => y (o1.trans q)
    rw [if_pos ⟨z, y'⟩] at hQ
    have hlt : (X_i x 0).toInt < 20 := by
      by_cases q : (X_i x 0).toInt = 20
      · exact absurd (Int32.toInt_inj.mp (by rw [l20]; exact q)) y'
      · omega
    have e1 : (X_i x 0 + 1).toInt = (X_i x 0).toInt + 1 := by rw [ti_addx _ _ (by rw [l1]; omega), l1]
    have w := (w.2 (by decide)).1 y
    unfold w_opens_21 at w ⊢
    rw [o1] at w ⊢
    have h1 := re_si0 (v := X_i x 0 + 1) h (fun _ => by omega)
    refine re_pass hE (fun _ => ?_) k _ _ _ _ h1 w (fun M1 F1 h2 w2 => hQ M1 F1 h2 w2)
    have hlt' := re_lt hE h (fun q => by rw [q] at z; rw [← z] at hc; exact absurd hc (by decide)) hb
    exact hlt'
  · rw [if_neg z] at w ⊢
    exact ⟨fun _ => hbad (w.1 rfl) (fun q => z q.1), fun q => absurd rfl q⟩
theorem re_closes (hE : E_ok E) {c : Int32} (hc : x_sn c = true) (ho : x.1 = false → 1 ≤ (X_i x 0).toInt ∧ (X_i x 0).toInt ≤ 20) : rr E (w_closes c) x (X_cl E c x) := fun k M F Q Q' h w hQ => by
  have l1 : (1 : Int32).toInt = 1 := by decide
  refine re_need hE hc k M F _ _ h w (fun M1 F1 h1 w1 => ?_)
  have tkb : (X_tk E c x).1 = false → x.1 = false ∧ X_i (X_tk E c x) 0 = X_i x 0 := by
    unfold X_tk
    split
    · exact fun q => ⟨q, rfl⟩
    · exact fun q => absurd q (by show ¬ true = false; decide)
  cases hb : (X_tk E c x).1 with
  | true => exact hQ _ _ (rx_zb (zb_um (h1.1 hb) (by decide)) hb) w1
  | false =>
    have o1 := (h1.2 hb).2.2.1.1.1
    obtain ⟨b0, b1⟩ := tkb hb
    rw [b1] at o1
    rw [o1] at w1 ⊢
    refine hQ _ _ (re_si0 h1 (fun _ => ?_)) w1
    have := ho b0
    rw [ti_subx _ _ (by rw [l1]; omega), l1]; omega
/-- a token of one kind taken: p: it stands here -/
theorem re_taken (hE : E_ok E) {y : Int32} {p : Prop} (hp1 : p → x' = X_ad x ∧ x.1 = false ∧ ¬ X_ty E x = 135) (hp0 : ¬ p → x' = X_bd x) (hi : x.1 = false → ∀ M, q_tk (E_A E (X_t x)) (E_V E (X_t x)) M → (M 4 = y ↔ p)) {Q Q' : Int32 → (Nat → Int32) → (Nat → Nat → Int32) → Prop} (h : rxx E k M F x) (w : w_taken y M F Q) (hQ : ∀ r M' F', rxx E k M' F' x' → (p → r = M 5 ∧ ¬ M' 47 = -1) → Q r M' F' → Q' r M' F') : w_taken y M F Q' := by
  have h' : rxx E k (um M 47 (M 6)) F x := rx_um (by decide) h
  unfold w_taken at w ⊢
  rw [re_bad h'] at w ⊢
  have hbad : ¬ p → w_taken_23 Q (um M 47 (M 6)) F → w_taken_23 Q' (um M 47 (M 6)) F := fun z w => re_fail hE k _ _ _ _ h' w (fun M1 F1 h1 w1 => hQ 0 M1 F1 (by rw [hp0 z]; exact h1) (fun q => absurd q z) w1)
  cases hb : x.1 with
  | true =>
    rw [hb, if_pos rfl] at w
    exact ⟨fun _ => hbad (fun z => absurd ((hp1 z).2.1.symm.trans hb) (by decide)) (w.1 (by decide)), fun q => absurd q (by decide)⟩
  | false =>
    rw [hb, if_neg (by decide)] at w
    have hi := hi hb _ (rx_tk hE h' hb)
    refine ⟨fun q => absurd rfl q, fun _ => ⟨fun z => ?_, fun z => hbad (fun q => z (hi.mpr q)) ((w.2 rfl).2 z)⟩⟩
    obtain ⟨a1, a2, a3⟩ := hp1 (hi.mp z)
    refine re_passV hE (re_lt hE h' a3) h' ((w.2 rfl).1 z) (fun M1 F1 e47 h1 w1 => hQ _ M1 F1 (by rw [a1]; exact h1) (fun _ => ⟨rfl, ?_⟩) w1)
    rw [e47, um_eq, (h.2 hb).1.1.2.1]
    exact E_Pn hE (h.2 hb).1.2
/-- a name or an object taken: its number -/
theorem re_takenW (hE : E_ok E) {y d : Int32} (hyd : (y = 1 ∧ d = 130) ∨ (y = 2 ∧ d = 131)) {Q Q' : Int32 → (Nat → Int32) → (Nat → Nat → Int32) → Prop} (h : rxx E k M F x) (w : w_taken y M F Q) (hQ : ∀ r M' F', rxx E k M' F' (X_tk E d x) → (X_ty E x = d → r = nI (E_w E (X_t x)) ∧ ¬ M' 47 = -1) → Q r M' F' → Q' r M' F') : w_taken y M F Q' := by
  have hd : d ≠ 137 ∧ d ≠ 135 := by rcases hyd with ⟨-, rfl⟩ | ⟨-, rfl⟩ <;> decide
  refine re_taken hE (x' := X_tk E d x) (p := X_ty E x = d) (fun z => ⟨by unfold X_tk; rw [if_pos z], X_tyn z hd.1, fun q => hd.2 (z.symm.trans q)⟩) (fun z => by unfold X_tk; rw [if_neg z]) (fun hb M hM => ?_) h w (fun r M' F' h' e w' => hQ r M' F' h' (fun z => ⟨?_, (e z).2⟩) w')
  · rw [X_tyg hb]
    rcases hyd with ⟨rfl, rfl⟩ | ⟨rfl, rfl⟩
    · exact (q_one hM (Or.inl ⟨rfl, rfl⟩)).symm
    · exact (q_one hM (Or.inr (Or.inl ⟨rfl, rfl⟩))).symm
  · have hb := X_tyn z hd.1
    rw [X_tyg hb] at z
    have hor : E_A E (X_t x) = 130 ∨ E_A E (X_t x) = 131 := by rcases hyd with ⟨-, rfl⟩ | ⟨-, rfl⟩; exact Or.inl z; exact Or.inr z
    have ht := (h.2 hb).1.2
    obtain ⟨b1, -⟩ := E_word hE ht hor
    rw [(e (by rw [X_tyg hb]; exact z)).1]
    rcases (h.2 hb).1.1.2.2 with ⟨-, -, q, -⟩ | ⟨q, -⟩
    · exact E_m5 hE b1 hor q
    · omega
theorem re_kindI {M : Nat → Int32} {a v : Int32} (h : q_tk a v M) : M 4 = 5 ↔ X_ik a := by
  have hk : ∀ p, p < 7 → X_ik (nI (226 + p)) := by decide +kernel
  have hw : ∀ q, q < 26 → ¬ X_ik (nI (200 + q)) := by decide +kernel
  have hs : ∀ c : Int32, x_sn c = true → ¬ X_ik c := fun c hc => by
    rw [x_sn_iff] at hc
    rcases hc with rfl | rfl | rfl | rfl | rfl | rfl | rfl | rfl | rfl | rfl | rfl | rfl | rfl <;> decide
  rcases h with (⟨rfl, b, -⟩ | ⟨rfl, b⟩ | ⟨q, hq, rfl, b, -⟩ | ⟨q, g, hq, rfl, b, -⟩ | ⟨w, -, rfl, -, b, -⟩ | ⟨w, -, rfl, -, b, -⟩ | ⟨rfl, b, -⟩ | ⟨rfl, b, -⟩ | ⟨e, b, -⟩) | ⟨rfl, b⟩
  · rw [b]; decide
  · rw [b]; decide
  · exact ⟨fun z => absurd (b.symm.trans z) (by decide), fun z => absurd z (hw q hq)⟩
  · refine ⟨fun _ => ?_, fun _ => b⟩
    have := hk (q - 26) (by omega)
    rw [show 226 + (q - 26) = 200 + q by omega] at this; exact this
  · rw [b]; decide
  · rw [b]; decide
  · rw [b]; decide
  · rw [b]; decide
  · exact ⟨fun z => absurd (b.symm.trans z) (by decide), fun z => absurd z (hs _ e)⟩
  · rw [b]; decide
theorem re_least {v p : Int32} {Q Q' : Int32 → (Nat → Int32) → (Nat → Nat → Int32) → Prop} (hp : ¬ p = -1) (w : w_least v p M F Q) (hQ : ∀ r, ¬ r = -1 → Q r M F → Q' r M F) : w_least v p M F Q' := ⟨fun z => hQ p hp (w.1 z), fun z => ⟨fun y => hQ v z ((w.2 z).1 y), fun y => hQ p hp ((w.2 z).2 y)⟩⟩
/-- faults 2 and 3 put -/
theorem re_s2 (h : rxg E k M F x) {r : Int32} (hr : ¬ r = -1) : rxg E k (um M 37 r) F (X_s2 x) := by
  obtain ⟨g1, ⟨f36, f39, f37, f38⟩, ⟨i0, i1, i2⟩, g4, g5, g6⟩ := h
  exact ⟨rz_q_cg g1 rfl rfl rfl rfl rfl rfl rfl rfl rfl, ⟨f36, f39, ⟨fun q => absurd q hr, fun q => absurd q (by show ¬ true = false; decide)⟩, fun q => absurd q (by show ¬ true = false; decide)⟩, ⟨i0, i1, fun q => absurd q (by show ¬ true = false; decide)⟩, g4, g5, g6⟩
theorem re_s3 (h : rxg E k M F x) {r : Int32} (hr : ¬ r = -1) : rxg E k (um M 38 r) F (X_s3 x) := by
  obtain ⟨g1, ⟨f36, f39, f37, f38⟩, ⟨i0, i1, i2⟩, g4, g5, g6⟩ := h
  exact ⟨rz_q_cg g1 rfl rfl rfl rfl rfl rfl rfl rfl rfl, ⟨f36, f39, f37, fun _ => ⟨fun q => absurd q hr, fun q => absurd q (by show ¬ true = false; decide)⟩⟩, ⟨i0, i1, fun _ q => absurd q (by show ¬ true = false; decide)⟩, g4, g5, g6⟩
def X_td (w : Nat) (x : x_X) : x_X := if X_u x w = X_i x 1 then x else X_s2 x
/-- a word told: the reference's row -/
theorem re_su (hE : E_ok E) {w : Nat} (wl : w < E_l E (X_t x)) (wL : w < E_L E) {a b : Int32} (h : rxg E k M F x) : rxg E k M (uf (uf F 9 (nI w) (M 30)) 10 a b) (X_su w x) := by
  have hL : E_L E ≤ 2005 := hE.1.2.2.2.2.1
  obtain ⟨g1, g2, ⟨i0, i1, i2⟩, ⟨t1, t2⟩, g5, g6⟩ := h
  refine ⟨rz_q_cg g1 rfl rfl rfl rfl rfl rfl rfl rfl rfl, g2, ⟨i0, i1, i2⟩, ⟨fun v hv => ⟨?_, (t1 v hv).2⟩, fun v hv => ⟨?_, (t2 v hv).2⟩⟩, g5, g6⟩
  · show uf (uf F 9 (nI w) (M 30)) 10 a b 9 v = fu (X_u x) w (X_i x 1) v
    unfold fu
    rw [uf_at2, if_neg (fun z => absurd z.1 (by decide)), uf_at2, y_cl (by omega), i1]
    by_cases q : v = w
    · rw [if_pos ⟨rfl, q⟩, if_pos q]
    · rw [if_neg (fun z => q z.2), if_neg q]; exact (t1 v hv).1
  · show fu (X_u x) w (X_i x 1) v = -1
    unfold fu
    have hv : E_l E (X_t x) ≤ v := hv
    rw [if_neg (by omega)]; exact (t2 v hv).1
theorem re_i (h : rxg E k M F x) {i j : Nat} (hij : (i = 34 ∧ j = 2) ∨ (i = 35 ∧ j = 3)) {a b : Int32} (hab : X_2 x = false → X_3 x = false → a = b) : rxg E k (um M i a) F (X_si j b x) := by
  obtain ⟨g1, g2, ⟨i0, i1, i2⟩, g4, g5, g6⟩ := h
  rcases hij with ⟨rfl, rfl⟩ | ⟨rfl, rfl⟩
  · exact ⟨rz_q_cg g1 rfl rfl rfl rfl rfl rfl rfl rfl rfl, g2, ⟨i0, i1, fun p q => ⟨hab p q, (i2 p q).2⟩⟩, g4, g5, g6⟩
  · exact ⟨rz_q_cg g1 rfl rfl rfl rfl rfl rfl rfl rfl rfl, g2, ⟨i0, i1, fun p q => ⟨(i2 p q).1, hab p q⟩⟩, g4, g5, g6⟩
theorem re_f3 (h : rxg E k M F x) {b : Bool} (he : ∀ j, j ≠ 38 → M' j = M j) (hb : X_2 x = false → (b = true → ¬ M' 38 = -1) ∧ (b = false → (M' 38 = -1 ↔ M 38 = -1))) : rxg E k M' F (bif b then X_s3 x else x) := by
  obtain ⟨g1, ⟨f36, f39, f37, f38⟩, ⟨i0, i1, i2⟩, g4, ⟨h1, h2⟩, ⟨⟨p1, p2⟩, p3⟩⟩ := h
  have a1 := rz_q_cg (M' := M') (F' := F) g1 (he 2 (by decide)) (he 3 (by decide)) (he 4 (by decide)) (he 5 (by decide)) (he 6 (by decide)) (he 12 (by decide)) rfl rfl rfl
  have a36 : M' 36 = -1 := (he 36 (by decide)).trans f36
  have a39 : M' 39 = -1 := (he 39 (by decide)).trans f39
  have a37 : M' 37 = -1 ↔ X_2 x = false := by rw [he 37 (by decide)]; exact f37
  have ai0 : M' 33 = X_i x 0 ∧ 0 ≤ (X_i x 0).toInt ∧ (X_i x 0).toInt ≤ 20 := by rw [he 33 (by decide)]; exact i0
  have ai1 : M' 30 = X_i x 1 := by rw [he 30 (by decide)]; exact i1
  have ah : rz_h M' F (X_l x) := ⟨(he 46 (by decide)).trans h1, h2⟩
  have ap : rz_p k M' F (X_i x 1) (X_t x) (X_r x) := ⟨⟨(he 27 (by decide)).trans p1, p2⟩, p3⟩
  cases b with
  | true => exact ⟨a1, ⟨a36, a39, a37, fun q => ⟨fun z => absurd z ((hb q).1 rfl), fun z => absurd z (by show ¬ true = false; decide)⟩⟩, ⟨ai0, ai1, fun _ q => absurd q (by show ¬ true = false; decide)⟩, g4, ah, ap⟩
  | false => exact ⟨a1, ⟨a36, a39, a37, fun q => ((hb q).2 rfl).trans (f38 q)⟩, ⟨ai0, ai1, fun q r => by rw [he 34 (by decide), he 35 (by decide)]; exact i2 q r⟩, g4, ah, ap⟩
/-- one more name or object: y counts before (M i), the limit d -/
theorem re_more (hE : E_ok E) {w : Nat} (wl : w < E_l E (X_t x)) (wL : w < E_L E) {a b d : Int32} {i j : Nat} (hij : (i = 34 ∧ j = 2) ∨ (i = 35 ∧ j = 3)) (g : rxg E k M F x) (hM' : (M' = um M i (M i + 1) ∧ M i + 1 ≤ d) ∨ (¬ M i + 1 ≤ d ∧ ∃ r, ¬ r = -1 ∧ M' = um (um M i (M i + 1)) 38 r)) : rxg E k M' (uf (uf F 9 (nI w) (M 30)) 10 a b) (bif decide (¬ X_i x j + 1 ≤ d) then X_s3 (X_si j (X_i x j + 1) (X_su w x)) else X_si j (X_i x j + 1) (X_su w x)) := by
  have hsame : X_2 x = false → X_3 x = false → M i = X_i x j := fun p q => by
    obtain ⟨-, -, ⟨-, -, i2⟩, -⟩ := g
    rcases hij with ⟨rfl, rfl⟩ | ⟨rfl, rfl⟩
    · exact (i2 p q).1
    · exact (i2 p q).2
  have f38 := g.2.1.2.2.2
  have g1 := re_i (re_su hE wl wL (a := a) (b := b) g) hij (a := M i + 1) (b := X_i x j + 1) (fun p q => by rw [hsame p q])
  have n38 : um M i (M i + 1) 38 = M 38 := by rcases hij with ⟨rfl, -⟩ | ⟨rfl, -⟩ <;> rfl
  refine re_f3 g1 ?_ (fun q => ?_)
  · rcases hM' with ⟨rfl, -⟩ | ⟨-, r, -, rfl⟩
    · exact fun _ _ => rfl
    · exact fun l hl => um_ne hl
  · have q : X_2 x = false := q
    rw [n38]
    rcases hM' with ⟨rfl, y⟩ | ⟨y, r, hr, rfl⟩
    · rw [n38]
      refine ⟨fun z => ?_, fun _ => Iff.rfl⟩
      cases h3 : X_3 x with
      | true => exact fun c => absurd ((f38 q).mp c) (by rw [h3]; decide)
      | false => rw [hsame q h3] at y; exact absurd y (of_decide_eq_true z)
    · rw [um_eq]
      refine ⟨fun _ => hr, fun z => ?_⟩
      cases h3 : X_3 x with
      | true => exact ⟨fun c => absurd c hr, fun c => absurd ((f38 q).mp c) (by rw [h3]; decide)⟩
      | false => rw [hsame q h3] at y; exact absurd y (of_decide_eq_false z)
theorem X_t3e {w : Nat} : X_t3 (X_si 2 (X_i x 2 + 1) (X_su w x)) = (bif decide (¬ X_i x 2 + 1 ≤ 12) then X_s3 (X_si 2 (X_i x 2 + 1) (X_su w x)) else X_si 2 (X_i x 2 + 1) (X_su w x)) := by
  unfold X_t3
  have e : X_i (X_si 2 (X_i x 2 + 1) (X_su w x)) 2 = X_i x 2 + 1 := rfl
  rw [e]
  by_cases q : X_i x 2 + 1 ≤ 12
  · rw [if_pos q, decide_eq_false (fun z => z q)]; rfl
  · rw [if_neg q, decide_eq_true q]; rfl
theorem X_o3e {w : Nat} : X_o3 (X_si 3 (X_i x 3 + 1) (X_su w x)) = (bif decide (¬ X_i x 3 + 1 ≤ 8) then X_s3 (X_si 3 (X_i x 3 + 1) (X_su w x)) else X_si 3 (X_i x 3 + 1) (X_su w x)) := by
  unfold X_o3
  have e : X_i (X_si 3 (X_i x 3 + 1) (X_su w x)) 3 = X_i x 3 + 1 := rfl
  rw [e]
  by_cases q : X_i x 3 + 1 ≤ 8
  · rw [if_pos q, decide_eq_false (fun z => z q)]; rfl
  · rw [if_neg q, decide_eq_true q]; rfl
theorem X_b3 {b : Bool} {y : x_X} : (bif b then X_s3 y else y).1 = y.1 := by cases b <;> rfl
theorem re_tell {w : Nat} {p1 p2 : Int32} (hE : E_ok E) (hw : x.1 = false → p1 = nI w ∧ w < E_l E (X_t x) ∧ w < E_L E ∧ ¬ p2 = -1) {Q Q' : (Nat → Int32) → (Nat → Nat → Int32) → Prop} (h : rxx E k M F x) (wt : w_tell p1 p2 M F Q) (hQ : ∀ M' F', rxx E k M' F' (X_te w x) → Q M' F' → Q' M' F') : w_tell p1 p2 M F Q' := by
  unfold w_tell at wt ⊢
  rw [re_bad h] at wt ⊢
  have hL : E_L E ≤ 2005 := hE.1.2.2.2.2.1
  have teb : (X_te w x).1 = x.1 := by
    unfold X_te
    split
    · rfl
    · rw [X_t3e]; exact X_b3
  cases hb : x.1 with
  | true =>
    rw [hb, if_pos rfl] at wt
    exact ⟨fun q => absurd q (by decide), fun _ => hQ _ _ (rx_zb (h.1 hb) (teb.trans hb)) (wt.2 (by decide))⟩
  | false =>
    rw [hb, if_neg (by decide)] at wt
    obtain ⟨e, wl, wL, pn⟩ := hw hb
    subst e
    have g := h.2 hb
    have eF := (g.2.2.2.1.1 w wl).1
    have eM := g.2.2.1.2.1
    refine ⟨fun _ => ?_, fun q => absurd rfl q⟩
    have wt := wt.1 rfl
    have hx : ∀ M' F', rxg E k M' F' (X_te w x) → Q M' F' → Q' M' F' := fun M' F' g' => hQ M' F' (rx_g g' (teb.trans hb))
    unfold X_te at hx
    have ec : (F 9 (nI w).toNatClampNeg = M 30) ↔ X_u x w = X_i x 1 := by rw [y_cl (by omega), eF, eM]
    refine ⟨wt.1, fun z => ?_, fun z => ?_⟩
    · have z' : ¬ X_u x w = X_i x 1 := fun q => z (ec.mpr q)
      rw [if_neg z', X_t3e] at hx
      have wt := wt.2.1 z
      refine ⟨wt.1, wt.2.1, fun y => hx _ _ (re_more hE wl wL (Or.inl ⟨rfl, rfl⟩) g (Or.inl ⟨rfl, y⟩)) (wt.2.2.1 y), fun y => re_least pn (wt.2.2.2 y) (fun r hr w' => hx _ _ (re_more hE wl wL (Or.inl ⟨rfl, rfl⟩) g (Or.inr ⟨y, r, hr, rfl⟩)) w')⟩
    · have z' : X_u x w = X_i x 1 := ec.mp z
      rw [if_pos z'] at hx
      exact re_least pn (wt.2.2 z) (fun r hr w' => hx _ _ (re_s2 g hr) w')
theorem E_l_mono (hE : E_ok E) {t : Nat} (ht : t < E_m E) {w : Nat} (h : w < (E_f E (t + 1)).length) : w < E_l E (t + 1) := by
  have := E_l_s hE ht
  rw [E_l_lt ht] at this
  omega
theorem re_ad_ob : (X_ob E x).1 = (X_tk E 131 x).1 := by
  unfold X_ob X_tk
  split
  · show (X_ot (E_w E (X_t x)) x).1 = x.1
    unfold X_ot
    split
    · rfl
    · rw [X_o3e]; exact X_b3
  · rfl
theorem re_object (hE : E_ok E) : rvv E w_object x (X_ob E x) := fun k M F Q Q' h w hQ => by
  have hL : E_L E ≤ 2005 := hE.1.2.2.2.2.1
  refine re_takenW hE (Or.inr ⟨rfl, rfl⟩) h w (fun r M1 F1 h1 hr w1 => ?_)
  refine (re_bad h1).mpr ?_
  have w1 := (re_bad h1).mp w1
  cases hb : (X_tk E 131 x).1 with
  | true =>
    rw [hb, if_pos rfl] at w1
    exact ⟨fun q => absurd q (by decide), fun _ => hQ _ _ _ (rx_zb (h1.1 hb) (re_ad_ob.trans hb)) (w1.2 (by decide))⟩
  | false =>
    rw [hb, if_neg (by decide)] at w1
    have z : X_ty E x = 131 := by
      by_cases q : X_ty E x = 131
      · exact q
      · unfold X_tk at hb; rw [if_neg q] at hb; exact absurd hb (by show ¬ true = false; decide)
    obtain ⟨e, n47⟩ := hr z
    have hbx := X_tyn z (by decide)
    have hA : E_A E (X_t x) = 131 := (X_tyg hbx).symm.trans z
    have ht := (h.2 hbx).1.2
    obtain ⟨w1', -, wL, wl⟩ := E_word hE ht (Or.inr hA)
    have wl : E_w E (X_t x) < E_l E (X_t x + 1) := E_l_mono hE w1' wl
    have etk : X_tk E 131 x = X_ad x := by unfold X_tk; rw [if_pos z]
    rw [etk] at h1 hb
    have g := h1.2 hb
    subst e
    have eF := (g.2.2.2.1.1 _ wl).1
    have eM := g.2.2.1.2.1
    refine ⟨fun _ => ?_, fun q => absurd rfl q⟩
    have w1 := w1.1 rfl
    have eob : X_ob E x = X_ot (E_w E (X_t x)) (X_ad x) := by
      unfold X_ob
      rw [if_pos z]
      unfold X_ot
      have : (X_u (X_ad x) (E_w E (X_t x)) = X_i (X_ad x) 1) = (X_u x (E_w E (X_t x)) = X_i x 1) := rfl
      by_cases q : X_u x (E_w E (X_t x)) = X_i x 1
      · rw [if_pos q, if_pos (show X_u (X_ad x) (E_w E (X_t x)) = X_i (X_ad x) 1 from q)]
      · rw [if_neg q, if_neg (show ¬ X_u (X_ad x) (E_w E (X_t x)) = X_i (X_ad x) 1 from q), X_o3e, X_o3e]
        show X_ad (bif decide (¬ X_i x 3 + 1 ≤ 8) then _ else _) = bif decide (¬ X_i x 3 + 1 ≤ 8) then _ else _
        cases decide (¬ X_i x 3 + 1 ≤ 8) <;> rfl
    have hx : ∀ r M' F', rxg E k M' F' (X_ot (E_w E (X_t x)) (X_ad x)) → Q r M' F' → Q' r M' F' := fun r M' F' g' => hQ r M' F' (rx_g (by rw [eob]; exact g') (by rw [re_ad_ob, etk]; exact hb))
    unfold X_ot at hx
    have ec : (F1 9 (nI (E_w E (X_t x))).toNatClampNeg = M1 30) ↔ X_u (X_ad x) (E_w E (X_t x)) = X_i (X_ad x) 1 := by rw [y_cl (by omega), eF, eM]
    refine ⟨w1.1, fun z => ?_, fun z => ?_⟩
    · have z' := ec.mp z
      rw [if_pos z'] at hx
      have w1 := w1.2.1 z
      exact ⟨w1.1, hx _ _ _ g w1.2⟩
    · have z' : ¬ X_u (X_ad x) (E_w E (X_t x)) = X_i (X_ad x) 1 := fun q => z (ec.mpr q)
      rw [if_neg z', X_o3e] at hx
      have w1 := w1.2.2 z
      refine ⟨w1.1, w1.2.1, fun y => ?_, fun y => re_least n47 (w1.2.2.2 y) (fun r hr w' => ?_)⟩
      · have w1 := w1.2.2.1 y
        exact ⟨w1.1, hx _ _ _ (re_more hE wl wL (Or.inr ⟨rfl, rfl⟩) g (Or.inl ⟨rfl, y⟩)) w1.2⟩
      · exact ⟨w'.1, hx _ _ _ (re_more hE wl wL (Or.inr ⟨rfl, rfl⟩) g (Or.inr ⟨y, r, hr, rfl⟩)) w'.2⟩
end XR2
