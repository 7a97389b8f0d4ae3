/-! THE CLASS'S READER: names and objects. -/
section XC2
variable {E : x_E} {k : x_Kt} {s s' : f_S3} {x : x_X} {O : Nat × Nat} {K : List Nat}
def y_pfp (s s' : f_S3) (j : Nat) : Prop := s'.1 = s.1 ∧ (∀ r, r ≠ 28 → s'.2.1 r = s.2.1 r) ∧ (∀ i, i ≠ j → s'.2.1 28 i = s.2.1 28 i) ∧ ¬ s'.2.1 28 j = -1
theorem y_pf {N : Nat → Nat} (hN : N 28 = 5) {c p : Int32} {j : Nat} (hc : (c = 2 ∧ j = 2) ∨ (c = 3 ∧ j = 3) ∨ (c = 4 ∧ j = 4)) (hp : ¬ p = -1) {Q : f_S3 → Nat × Nat → Prop} (hQ : ∀ s', y_pfp s s' j → Q s' O) : wF_X7_putFault N c p s O Q := by
  have e : c.toNatClampNeg = j ∧ ¬ c < 1 ∧ ¬ 4 < c ∧ vp_in c 5 := by rcases hc with ⟨rfl, rfl⟩ | ⟨rfl, rfl⟩ | ⟨rfl, rfl⟩ <;> exact ⟨by decide, by decide, by decide, vp_in_iff.mpr (by decide)⟩
  obtain ⟨e1, e2, e3, e4⟩ := e
  unfold wF_X7_putFault
  rw [hN, e1]
  refine ⟨fun q => absurd q e2, fun _ => ⟨fun q => absurd q e3, fun _ => ⟨e4, fun q => hQ s ⟨rfl, fun _ _ => rfl, fun _ _ => rfl, q⟩, fun q => ⟨e4, hQ _ ⟨rfl, fun r hr => ?_, fun i hi => ?_, ?_⟩⟩⟩⟩⟩
  · show uf s.2.1 28 c p r = s.2.1 r
    funext i
    rw [uf_at2, if_neg (fun z => hr z.1)]
  · show uf s.2.1 28 c p 28 i = _
    rw [uf_at2, e1, if_neg (fun z => hi z.2)]
  · show ¬ uf s.2.1 28 c p 28 j = -1
    rw [uf_at2, e1, if_pos ⟨rfl, rfl⟩]; exact hp
theorem pf_rcg {j : Nat} (h : rcg E k s x) (q : y_pfp s s' j) {k' : x_Kt} {x' : x_X} (e1 : x' = X_s2 x ∨ x' = X_s3 x ∨ x' = x) (ek : k'.1 = k.1 ∧ k'.2.1 = k.2.1) (hf : c_f k' s' (X_2 x') (X_3 x')) : rcg E k' s' x' := by
  obtain ⟨g1, g2, g3, g4, ⟨z1, z2, z3⟩, ⟨y1, y2⟩, g7⟩ := h
  obtain ⟨q1, q2, q3, q4⟩ := q
  have ke : k' = (k.1, k.2.1, k'.2.2.1, k'.2.2.2) := by rw [← ek.1, ← ek.2]
  have i9 : c_i k' s' (X_i x) (X_2 x) (X_3 x) := by
    unfold c_i; rw [q1, ek.2]; exact g3
  have ii : c_i k' s' (X_i x') (X_2 x') (X_3 x') := by
    rcases e1 with rfl | rfl | rfl
    · exact ⟨i9.1, fun q => absurd q (by show ¬ true = false; decide)⟩
    · exact ⟨i9.1, fun _ q => absurd q (by show ¬ true = false; decide)⟩
    · exact i9
  have a1 := c_k_cg (s' := s') g1 ⟨by rw [q1], by rw [q1], by rw [q1], by rw [q1], by rw [q1]⟩ ⟨q2 11 (by decide), q2 12 (by decide), q2 13 (by decide)⟩
  have a4 := c_t_cg (s' := s') g4 ⟨q2 23 (by decide), q2 25 (by decide)⟩
  have a5 : c_z E k' s' (X_z x) := ⟨by rw [q1]; exact z1, z2, by rw [ek.1]; exact z3⟩
  have a6 : c_h k' s' (X_z x) (X_l x) := by
    unfold c_h c_q
    rw [q1, q2 26 (by decide), q2 27 (by decide), q2 20 (by decide), ek.1]; exact ⟨y1, y2⟩
  have a7 := c_p_cg (s' := s') g7 (q2 22 (by decide))
  rcases e1 with rfl | rfl | rfl
  · exact ⟨a1, hf, ii, a4, a5, a6, a7⟩
  · exact ⟨a1, hf, ii, a4, a5, a6, a7⟩
  · exact ⟨a1, hf, ii, a4, a5, a6, a7⟩
theorem c_pf2 (h : rcg E k s x) (q : y_pfp s s' 2) : rcg E k s' (X_s2 x) := by
  obtain ⟨f1, f4, f2, f3⟩ := h.2.1
  obtain ⟨q1, q2, q3, q4⟩ := q
  refine pf_rcg h ⟨q1, q2, q3, q4⟩ (Or.inl rfl) ⟨rfl, rfl⟩ ⟨by rw [q3 1 (by decide)]; exact f1, by rw [q3 4 (by decide)]; exact f4, ⟨fun z => absurd z q4, fun z => absurd z.1 (by show ¬ true = false; decide)⟩, fun z => absurd z (by show ¬ true = false; decide)⟩
theorem c_pf2p {p2 p3 : Bool} {d : Int32} (h : rcg E (K, d, p2, p3) s x) (q : y_pfp s s' 2) : rcg E (K, d, true, p3) s' x := by
  obtain ⟨f1, f4, f2, f3⟩ := h.2.1
  obtain ⟨q1, q2, q3, q4⟩ := q
  refine pf_rcg h ⟨q1, q2, q3, q4⟩ (Or.inr (Or.inr rfl)) ⟨rfl, rfl⟩ ⟨by rw [q3 1 (by decide)]; exact f1, by rw [q3 4 (by decide)]; exact f4, ⟨fun z => absurd z q4, fun z => absurd z.2 (by show ¬ true = false; decide)⟩, fun z => by rw [q3 3 (by decide)]; exact f3 z⟩
theorem c_pf3 (h : rcg E k s x) (q : y_pfp s s' 3) : rcg E k s' (X_s3 x) := by
  obtain ⟨f1, f4, f2, f3⟩ := h.2.1
  obtain ⟨q1, q2, q3, q4⟩ := q
  refine pf_rcg h ⟨q1, q2, q3, q4⟩ (Or.inr (Or.inl rfl)) ⟨rfl, rfl⟩ ⟨by rw [q3 1 (by decide)]; exact f1, by rw [q3 4 (by decide)]; exact f4, by rw [q3 2 (by decide)]; exact f2, fun z => ⟨fun z => absurd z q4, fun z => absurd z.1 (by show ¬ true = false; decide)⟩⟩
theorem c_pf3p {p2 p3 : Bool} {d : Int32} (h : rcg E (K, d, p2, p3) s x) (q : y_pfp s s' 3) : rcg E (K, d, p2, true) s' x := by
  obtain ⟨f1, f4, f2, f3⟩ := h.2.1
  obtain ⟨q1, q2, q3, q4⟩ := q
  refine pf_rcg h ⟨q1, q2, q3, q4⟩ (Or.inr (Or.inr rfl)) ⟨rfl, rfl⟩ ⟨by rw [q3 1 (by decide)]; exact f1, by rw [q3 4 (by decide)]; exact f4, by rw [q3 2 (by decide)]; exact f2, fun z => ⟨fun z => absurd z q4, fun z => absurd z.2 (by show ¬ true = false; decide)⟩⟩
theorem E_wN (hE : E_ok E) {w : Nat} (hw : w < E_L E) : 33 + w < E_N E 23 ∧ E_N E 24 = E_N E 23 ∧ E_N E 25 = E_N E 23 ∧ E_N E 23 < 1000000 := by
  obtain ⟨-, a, -, ⟨-, -, b, c, d⟩, e, -⟩ := hE
  exact ⟨by omega, b, c, d⟩
theorem y_told (hE : E_ok E) {w : Nat} (hw : w < E_L E) (h : rcg E k s x) {Q : Int32 → f_S3 → Nat × Nat → Prop} (h1 : X_u x w = X_i x 1 → Q 1 s O) (h0 : ¬ X_u x w = X_i x 1 → Q 0 s O) : wF_X7_isTold (E_N E) (nI (33 + w)) s O Q := by
  obtain ⟨a1, a2, a3, a4⟩ := E_wN hE hw
  obtain ⟨-, -, g3, g4, -⟩ := h
  unfold wF_X7_isTold
  rw [y_cl (by omega), (g4 w hw).1, g3.1, y_le (by omega) (by omega)]
  exact ⟨fun q => absurd q (y_lt0 (by omega)), fun _ => ⟨fun q => absurd q (by omega), fun _ => ⟨y_in a1 (by omega), h0, h1⟩⟩⟩
theorem y_tell (hE : E_ok E) {w : Nat} (hw : w < E_L E) {v : Int32} {Q : f_S3 → Nat × Nat → Prop} (hQ : Q (ff (ff s 23 (nI (33 + w)) (s.1 64)) 24 (nI (33 + w)) v) O) : wF_X7_tell (E_N E) (nI (33 + w)) v s O Q := by
  obtain ⟨a1, a2, a3, a4⟩ := E_wN hE hw
  unfold wF_X7_tell
  rw [y_le (by omega) (by omega)]
  exact ⟨fun q => absurd q (y_lt0 (by omega)), fun _ => ⟨fun q => absurd q (by omega), fun _ => ⟨y_in a1 (by omega), by rw [a2]; exact y_in a1 (by omega), hQ⟩⟩⟩
/-- a word told: the class's row -/
theorem c_su (hE : E_ok E) {w : Nat} (hw : w < E_L E) {v : Int32} (h : rcg E k s x) : rcg E k (ff (ff s 23 (nI (33 + w)) (s.1 64)) 24 (nI (33 + w)) v) (X_su w x) := by
  obtain ⟨a1, a2, a3, a4⟩ := E_wN hE hw
  obtain ⟨g1, g2, g3, g4, g5, g6, g7⟩ := h
  refine ⟨c_k_cg g1 ⟨rfl, rfl, rfl, rfl, rfl⟩ ⟨rfl, rfl, rfl⟩, c_f_cg g2 rfl, c_i_cg g3 ⟨rfl, rfl, rfl⟩, fun i hi => ⟨?_, (g4 i hi).2⟩, c_z_cg g5 rfl, c_h_cg g6 rfl ⟨rfl, rfl, rfl⟩, c_p_cg g7 rfl⟩
  show uf s.2.1 23 (nI (33 + w)) (s.1 64) 23 (33 + i) = fu (X_u x) w (X_i x 1) i
  unfold fu
  rw [uf_at2, y_cl (by omega), g3.1]
  by_cases q : i = w
  · rw [if_pos ⟨rfl, by omega⟩, if_pos q]
  · rw [if_neg (fun z => q (by omega)), if_neg q]; exact (g4 i hi).1
/-- the name that stands here: told or not -/
def X_nm (E : x_E) (x : x_X) : x_X := if X_ty E x = 130 then X_ad (if X_u x (E_w E (X_t x)) = X_i x 1 then x else X_s2 x) else X_bd x
theorem E_word (hE : E_ok E) {t : Nat} (ht : t ≤ E_m E) (ha : E_A E t = 130 ∨ E_A E t = 131) : t < E_m E ∧ E_V E t = nI (33 + E_w E t) ∧ E_w E t < E_L E ∧ E_w E t < (E_f E (t + 1)).length := by
  have h1 : t < E_m E := by
    rcases ha with a | a
    · exact E_lt hE ht a (by decide)
    · exact E_lt hE ht a (by decide)
  obtain ⟨b, c⟩ := E_wd hE h1 ha
  exact ⟨h1, b, Nat.lt_of_lt_of_le c (E_fL hE h1), c⟩
def X_o3 (y : x_X) : x_X := if X_i y 3 ≤ 8 then y else X_s3 y
def X_ot (w : Nat) (x : x_X) : x_X := if X_u x w = X_i x 1 then x else X_o3 (X_si 3 (X_i x 3 + 1) (X_su w x))
def X_ob (E : x_E) (x : x_X) : x_X := if X_ty E x = 131 then X_ad (X_ot (E_w E (X_t x)) x) else X_bd x
theorem c_o3 (hE : E_ok E) {w : Nat} (hw : w < E_L E) {s1 : f_S3} {v : Int32} (h : rcg E k s x) (hs : (s1 = s ∧ s.1 10 < 8) ∨ (¬ s.1 10 < 8 ∧ y_pfp s s1 3)) : rcg E k (fm (ff (ff s1 23 (nI (33 + w)) (s1.1 64)) 24 (nI (33 + w)) v) 10 (s1.1 10 + 1)) (X_o3 (X_si 3 (X_i x 3 + 1) (X_su w x))) := by
  have l1 : (1 : Int32).toInt = 1 := by decide
  have l8 : (8 : Int32).toInt = 8 := by decide
  -- with fault 3 put or not
  have key : ∀ (b : Bool) (y : x_X), y = (bif b then X_s3 x else x) → rcg E k s1 y → (X_2 x = false → X_3 x = false → (s1.1 10 = X_i x 3 ∧ 0 ≤ (X_i x 3).toInt) ∧ ((b = true ∧ ¬ X_i x 3 + 1 ≤ 8) ∨ (b = false ∧ (X_i x 3 + 1).toInt ≤ 8 ∧ (X_i x 3 + 1).toInt = (X_i x 3).toInt + 1))) → rcg E k (fm (ff (ff s1 23 (nI (33 + w)) (s1.1 64)) 24 (nI (33 + w)) v) 10 (s1.1 10 + 1)) (X_o3 (X_si 3 (X_i x 3 + 1) (X_su w x))) := by
    intro b y hy g hh
    have g' := c_su hE hw (v := v) g
    obtain ⟨g1, ⟨f1, f4, f2, f3⟩, ⟨i1, i2⟩, g4, g5, g6, g7⟩ := g'
    have hx : ∀ y', (y' = X_si 3 (X_i x 3 + 1) (X_su w x) ∧ X_i x 3 + 1 ≤ 8) ∨ (y' = X_s3 (X_si 3 (X_i x 3 + 1) (X_su w x)) ∧ ¬ X_i x 3 + 1 ≤ 8) → rcg E k (fm (ff (ff s1 23 (nI (33 + w)) (s1.1 64)) 24 (nI (33 + w)) v) 10 (s1.1 10 + 1)) y' := by
      intro y' hy'
      have ex : X_t y' = X_t x ∧ X_z y' = X_z x ∧ X_2 y' = X_2 x ∧ X_i y' 1 = X_i x 1 ∧ X_u y' = X_u (X_su w x) ∧ X_v y' = X_v x ∧ X_r y' = X_r x ∧ X_l y' = X_l x := by
        rcases hy' with ⟨rfl, -⟩ | ⟨rfl, -⟩ <;> exact ⟨rfl, rfl, rfl, rfl, rfl, rfl, rfl, rfl⟩
      have ey : X_t (X_su w y) = X_t x ∧ X_z (X_su w y) = X_z x ∧ X_2 (X_su w y) = X_2 x ∧ X_i (X_su w y) = X_i x ∧ X_u (X_su w y) = X_u (X_su w x) ∧ X_v (X_su w y) = X_v x ∧ X_r (X_su w y) = X_r x ∧ X_l (X_su w y) = X_l x ∧ X_3 (X_su w y) = (b || X_3 x) := by
        rw [hy]; cases b <;> exact ⟨rfl, rfl, rfl, rfl, rfl, rfl, rfl, rfl, rfl⟩
      obtain ⟨e1, e2, e3, e4, e5, e6, e7, e8⟩ := ex
      obtain ⟨d1, d2, d3, d4, d5, d6, d7, d8, d9⟩ := ey
      rw [d1] at g1
      rw [d3, d9] at f3
      rw [d3] at f2
      rw [d4] at i1
      rw [d5, d6] at g4
      rw [d2] at g5
      rw [d2, d8] at g6
      rw [d4, d1, d7] at g7
      unfold rcg
      rw [e1, e2, e3, e4, e5, e6, e7, e8]
      refine ⟨c_k_cg g1 ⟨rfl, rfl, rfl, rfl, rfl⟩ ⟨rfl, rfl, rfl⟩, ⟨f1, f4, f2, fun z => ?_⟩, ⟨i1.trans e4.symm, fun z z3 => ?_⟩, c_t_cg g4 ⟨rfl, rfl⟩, c_z_cg g5 rfl, c_h_cg g6 rfl ⟨rfl, rfl, rfl⟩, c_p_cg g7 rfl⟩
      · cases h3 : X_3 x with
        | true =>
          have c3 : X_3 y' = true := by
            rcases hy' with ⟨rfl, -⟩ | ⟨rfl, -⟩
            · exact h3
            · rfl
          have f3 := f3 z
          rw [h3, Bool.or_true] at f3
          rw [c3]; exact f3
        | false =>
          have f3 := f3 z
          rw [h3, Bool.or_false] at f3
          have c3 : X_3 y' = b := by
            rcases (hh z h3).2 with ⟨rfl, q⟩ | ⟨rfl, q, q'⟩ <;> rcases hy' with ⟨rfl, r⟩ | ⟨rfl, r⟩
            · exact absurd r q
            · rfl
            · exact h3
            · exact absurd (Int32.le_iff_toInt_le.mpr (by rw [l8]; exact q)) r
          rw [c3]; exact f3
      · have h3 : X_3 x = false := by
          rcases hy' with ⟨rfl, -⟩ | ⟨rfl, -⟩
          · exact z3
          · exact absurd z3 (by show ¬ true = false; decide)
        obtain ⟨⟨m1, m2⟩, m3⟩ := hh z h3
        have hI : X_i y' = um (X_i x) 3 (X_i x 3 + 1) := by rcases hy' with ⟨rfl, -⟩ | ⟨rfl, -⟩ <;> rfl
        have hyF : X_3 (X_su w y) = false := by
          rw [d9, h3, Bool.or_false]
          rcases m3 with ⟨hb, q⟩ | ⟨hb, q⟩
          · rcases hy' with ⟨-, r⟩ | ⟨rfl, -⟩
            · exact absurd r q
            · exact absurd z3 (by show ¬ true = false; decide)
          · exact hb
        have i2 := i2 (by rw [d3]; exact z) hyF
        rw [d4] at i2
        rcases m3 with ⟨hb, q⟩ | ⟨hb, q, q'⟩
        · rw [hb] at d9; rw [d9] at hyF; exact absurd hyF (by show ¬ true = false; decide)
        · rw [hI]
          refine ⟨⟨i2.1.1, ?_⟩, i2.2.1, ?_, ?_⟩
          · show s1.1 10 + 1 = X_i x 3 + 1
            rw [m1]
          · show 0 ≤ (X_i x 3 + 1).toInt; omega
          · show (X_i x 3 + 1).toInt ≤ 8; exact q
    unfold X_o3
    by_cases q : X_i x 3 + 1 ≤ 8
    · have : X_i (X_si 3 (X_i x 3 + 1) (X_su w x)) 3 ≤ 8 := q
      rw [if_pos this]; exact hx _ (Or.inl ⟨rfl, q⟩)
    · have : ¬ X_i (X_si 3 (X_i x 3 + 1) (X_su w x)) 3 ≤ 8 := q
      rw [if_neg this]; exact hx _ (Or.inr ⟨rfl, q⟩)
  have hr : X_2 x = false → X_3 x = false → s.1 10 = X_i x 3 ∧ (0 ≤ (X_i x 3).toInt ∧ (X_i x 3).toInt ≤ 8) ∧ (X_i x 3 + 1).toInt = (X_i x 3).toInt + 1 := fun a b => by
    obtain ⟨c1, c2, c3⟩ := h.2.2.1.2 a b
    exact ⟨c1.2, c3, by rw [ti_addx _ _ (by rw [l1]; omega), l1]⟩
  rcases hs with ⟨rfl, hlt⟩ | ⟨hlt, hp⟩
  · refine key false x rfl h (fun a b => ?_)
    obtain ⟨c1, c2, c3⟩ := hr a b
    rw [c1, Int32.lt_iff_toInt_lt, l8] at hlt
    exact ⟨⟨c1, c2.1⟩, Or.inr ⟨rfl, by omega, c3⟩⟩
  · refine key true (X_s3 x) rfl (c_pf3 h hp) (fun a b => ?_)
    obtain ⟨c1, c2, c3⟩ := hr a b
    rw [c1, Int32.lt_iff_toInt_lt, l8] at hlt
    refine ⟨⟨by rw [hp.1]; exact c1, c2.1⟩, Or.inl ⟨rfl, fun q => ?_⟩⟩
    rw [Int32.le_iff_toInt_le, l8] at q
    omega
end XC2
