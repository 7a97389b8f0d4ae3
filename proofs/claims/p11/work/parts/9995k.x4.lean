/-! THE CLASS'S READER: a name about to be told, told; kinds, questions. -/
section XC3
variable {E : x_E} {k : x_Kt} {s s' : f_S3} {x : x_X} {O : Nat × Nat} {K : List Nat}
def X_t3 (y : x_X) : x_X := if X_i y 2 ≤ 12 then y else X_s3 y
def X_te (w : Nat) (x : x_X) : x_X := if X_u x w = X_i x 1 then X_s2 x else X_t3 (X_si 2 (X_i x 2 + 1) (X_su w x))
/-- what newName put ahead -/
def X_ah (w : Nat) (x : x_X) (p2 p3 : Bool) : Prop := p2 = decide (X_u x w = X_i x 1) ∧ (X_2 x = false → X_3 x = false → p3 = decide (¬ X_u x w = X_i x 1 ∧ ¬ X_i x 2 < 12))
theorem c_n9 {p2 p3 : Bool} (h : rcg E (K, 0, p2, p3) s x) : rcg E (K, 1, p2, p3) (fm s 9 (s.1 9 + 1)) x := by
  obtain ⟨g1, g2, ⟨i1, i2⟩, g4, g5, g6, g7⟩ := h
  refine ⟨c_k_cg g1 ⟨rfl, rfl, rfl, rfl, rfl⟩ ⟨rfl, rfl, rfl⟩, c_f_cg (k := (K, 1, p2, p3)) g2 rfl, ⟨i1, fun a b => ?_⟩, c_t_cg g4 ⟨rfl, rfl⟩, c_z_cg (k := (K, 1, p2, p3)) g5 rfl, c_h_cg (k := (K, 1, p2, p3)) g6 rfl ⟨rfl, rfl, rfl⟩, c_p_cg g7 rfl⟩
  obtain ⟨⟨c1, c2⟩, c3⟩ := i2 a b
  refine ⟨⟨?_, c2⟩, c3⟩
  show s.1 9 + 1 = X_i x 2 + 1
  rw [c1]
  show X_i x 2 + 0 + 1 = X_i x 2 + 1
  rw [Int32.add_zero]
theorem c_newName (hE : E_ok E) (h : rc E (K, 0, false, false) s x) {Q : Int32 → f_S3 → Nat × Nat → Prop} (hQ : ∀ r s' p2 p3, (X_ty E x = 130 → X_ah (E_w E (X_t x)) x p2 p3) → rc E (K, 1, p2, p3) s' x → Q r s' O) : wF_X7_newName (E_N E) s O Q := by
  cases hb : x.1 with
  | true => exact bd_newName (h.1 hb) (fun r s' h' => hQ r s' false false (fun q => absurd ((X_tyb hb).symm.trans q) (by decide)) (rc_bd h' hb))
  | false =>
    have g := h.2 hb
    have fin : ∀ (s1 : f_S3) (p2 p3 : Bool), (X_ty E x = 130 → X_ah (E_w E (X_t x)) x p2 p3) → rcg E (K, 0, p2, p3) s1 x → wF_X7_newName_51 (E_N E) Q s1 O := fun s1 p2 p3 a g1 => hQ _ _ p2 p3 a (rc_g (c_n9 g1) hb)
    refine ⟨fun q => fin s false false (fun z => absurd ((c_ty h).trans z) q) g, fun q => ?_⟩
    rw [c_ty h] at q
    have ha : E_A E (X_t x) = 130 := by rw [← X_tyg hb]; exact q
    obtain ⟨w1, w2, w3, -⟩ := E_word hE g.1.2.2 (Or.inl ha)
    have hv : s.1 13 = nI (33 + E_w E (X_t x)) := g.1.2.1.2.2.1.trans w2
    have hp : ¬ s.1 14 = -1 := by rw [g.1.2.1.2.2.2]; exact E_Pn hE g.1.2.2
    rw [hv]
    refine y_told hE w3 g (fun z => ⟨fun q => absurd q (by decide), fun _ => y_pf hE.2.2.2.1.1 (Or.inl ⟨rfl, rfl⟩) hp (fun s' q' => fin s' true false (fun _ => ⟨(decide_eq_true z).symm, fun _ _ => (decide_eq_false (fun y => y.1 z)).symm⟩) (c_pf2p g q'))⟩) (fun z => ⟨fun _ => ⟨fun l => fin s false false (fun _ => ⟨(decide_eq_false z).symm, fun a b => ?_⟩) g, fun l => y_pf hE.2.2.2.1.1 (Or.inr (Or.inl ⟨rfl, rfl⟩)) hp (fun s' q' => fin s' false true (fun _ => ⟨(decide_eq_false z).symm, fun a b => ?_⟩) (c_pf3p g q'))⟩, fun q => absurd rfl q⟩)
    · have e := (g.2.2.1.2 a b).1.1
      have e : s.1 9 = X_i x 2 := by rw [e]; show X_i x 2 + 0 = X_i x 2; rw [Int32.add_zero]
      rw [e] at l
      exact (decide_eq_false (fun y => y.2 l)).symm
    · have e := (g.2.2.1.2 a b).1.1
      have e : s.1 9 = X_i x 2 := by rw [e]; show X_i x 2 + 0 = X_i x 2; rw [Int32.add_zero]
      rw [e] at l
      exact (decide_eq_true ⟨z, l⟩).symm
/-- told: what was put ahead counts now -/
theorem c_te (hE : E_ok E) {w : Nat} (hw : w < E_L E) {p2 p3 : Bool} {v : Int32} (ha : X_ah w x p2 p3) (h : rcg E (K, 1, p2, p3) s x) : rcg E (K, 0, false, false) (ff (ff s 23 (nI (33 + w)) (s.1 64)) 24 (nI (33 + w)) v) (X_te w x) := by
  have l1 : (1 : Int32).toInt = 1 := by decide
  have l12 : (12 : Int32).toInt = 12 := by decide
  obtain ⟨g1, ⟨f1, f4, f2, f3⟩, ⟨i1, i2⟩, g4, g5, g6, g7⟩ := c_su hE hw (v := v) h
  obtain ⟨a2, a3⟩ := ha
  unfold X_te
  by_cases z : X_u x w = X_i x 1
  · rw [if_pos z]
    have a2 : p2 = true := a2.trans (decide_eq_true z)
    refine ⟨g1, ⟨f1, f4, ⟨fun q => absurd (f2.mp q).2 (by rw [a2]; show ¬ true = false; decide), fun q => absurd q.1 (by show ¬ true = false; decide)⟩, fun q => absurd q (by show ¬ true = false; decide)⟩, ⟨i1, fun q => absurd q (by show ¬ true = false; decide)⟩, fun i hi => ⟨?_, (g4 i hi).2⟩, g5, g6, g7⟩
    have := (g4 i hi).1
    rw [this]
    show fu (X_u x) w (X_i x 1) i = X_u x i
    unfold fu
    split
    · next q => rw [q, z]
    · rfl
  · rw [if_neg z]
    have a2 : p2 = false := a2.trans (decide_eq_false z)
    have f2' : (ff (ff s 23 (nI (33 + w)) (s.1 64)) 24 (nI (33 + w)) v).2.1 28 2 = -1 ↔ X_2 x = false ∧ false = false := by
      have f2 : _ ↔ X_2 x = false ∧ p2 = false := f2
      rw [a2] at f2; exact f2
    have rng : X_2 x = false → X_3 x = false → p3 = decide (¬ X_i x 2 < 12) ∧ (0 ≤ (X_i x 2).toInt ∧ (X_i x 2).toInt ≤ 12) ∧ (X_i x 2 + 1).toInt = (X_i x 2).toInt + 1 ∧ s.1 9 = X_i x 2 + 1 ∧ (s.1 10 = X_i x 3 ∧ 0 ≤ (X_i x 3).toInt ∧ (X_i x 3).toInt ≤ 8) := fun a b => by
      obtain ⟨⟨c1, c2⟩, c3, c4⟩ := i2 a b
      have c3 : 0 ≤ (X_i x 2).toInt ∧ (X_i x 2).toInt ≤ 12 := c3
      refine ⟨(a3 a b).trans ?_, c3, by rw [ti_addx _ _ (by rw [l1]; omega), l1], c1, c2, c4⟩
      by_cases y : X_i x 2 < 12
      · rw [decide_eq_false (fun q => q.2 y), decide_eq_false (fun q => q y)]
      · rw [decide_eq_true ⟨z, y⟩, decide_eq_true y]
    unfold X_t3
    by_cases y : X_i x 2 + 1 ≤ 12
    · have e : X_i (X_si 2 (X_i x 2 + 1) (X_su w x)) 2 ≤ 12 := y
      rw [if_pos e]
      refine ⟨g1, ⟨f1, f4, f2', fun q => ?_⟩, ⟨i1, fun a b => ?_⟩, g4, g5, g6, g7⟩
      · have f3 := f3 q
        show _ ↔ X_3 x = false ∧ false = false
        cases h3 : X_3 x with
        | true =>
          have f3 : _ ↔ X_3 x = false ∧ p3 = false := f3
          rw [h3] at f3
          exact ⟨fun z => absurd (f3.mp z).1 (by decide), fun z => absurd z.1 (by decide)⟩
        | false =>
          obtain ⟨r1, r2, r3, -⟩ := rng q h3
          have f3 : _ ↔ X_3 x = false ∧ p3 = false := f3
          rw [h3] at f3
          have e3 : p3 = false := by
            rw [r1]
            refine decide_eq_false (fun c => c ?_)
            rw [Int32.le_iff_toInt_le, l12] at y
            rw [Int32.lt_iff_toInt_lt, l12]; omega
          rw [e3] at f3
          exact f3
      · obtain ⟨r1, r2, r3, r4, r5, r6⟩ := rng a b
        refine ⟨⟨?_, r5⟩, ⟨?_, ?_⟩, r6⟩
        · show s.1 9 = X_i x 2 + 1 + 0
          rw [Int32.add_zero]; exact r4
        · show 0 ≤ (X_i x 2 + 1).toInt; omega
        · show (X_i x 2 + 1).toInt ≤ 12
          rw [Int32.le_iff_toInt_le, l12] at y; exact y
    · have e : ¬ X_i (X_si 2 (X_i x 2 + 1) (X_su w x)) 2 ≤ 12 := y
      rw [if_neg e]
      refine ⟨g1, ⟨f1, f4, f2', fun q => ?_⟩, ⟨i1, fun _ b => absurd b (by show ¬ true = false; decide)⟩, g4, g5, g6, g7⟩
      have f3 := f3 q
      refine ⟨fun c => ?_, fun c => absurd c.1 (by show ¬ true = false; decide)⟩
      obtain ⟨c1, c2⟩ := f3.mp c
      have c1 : X_3 x = false := c1
      obtain ⟨r1, r2, r3, -⟩ := rng q c1
      have c2 : p3 = false := c2
      rw [r1] at c2
      have c2 := of_decide_eq_false c2
      refine absurd ?_ c2
      intro c2
      rw [Int32.lt_iff_toInt_lt, l12] at c2
      rw [Int32.le_iff_toInt_le, l12] at y
      omega
/-- kinds, questions, properties -/
abbrev X_ik (c : Int32) : Prop := ¬ c < 226 ∧ ¬ 233 ≤ c
theorem y_isKind {N : Nat → Nat} {c : Int32} {Q : Int32 → f_S3 → Nat × Nat → Prop} (h1 : X_ik c → Q 1 s O) (h0 : ¬ X_ik c → Q 0 s O) : wF_X9_isKind N c s O Q := ⟨fun q => h0 (fun z => z.1 q), fun q => ⟨fun r => h0 (fun z => z.2 r), fun r => h1 ⟨q, r⟩⟩⟩
def X_kd (E : x_E) (x : x_X) : x_X := if X_ik (X_ty E x) then X_ad x else X_bd x
abbrev X_iq (c : Int32) : Prop := c = 224 ∨ c = 225
def X_qu (E : x_E) (x : x_X) : x_X := if X_iq (X_ty E x) then X_ad x else X_bd x
abbrev X_ip (c : Int32) : Prop := c = 219 ∨ c = 220 ∨ c = 221 ∨ c = 222 ∨ c = 223
def X_pp (E : x_E) (x : x_X) : x_X := if X_ip (X_ty E x) then X_ad x else X_bd x
end XC3
