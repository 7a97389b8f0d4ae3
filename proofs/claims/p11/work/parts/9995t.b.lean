/-! THE CALLS THAT ONLY TELL: both answer alike. -/
section ZB1
variable {K : k_K} {s : f_S3} {O : Nat × Nat} {M : e_M} {F : e_F} {N : Nat → Nat}
theorem ab_both (R : R_o K s O M F) (p1 : Int32) : ∃ r : Int32, (∀ Q : Int32 → e_M → e_F → Prop, w_about p1 M F Q → Q r M F) ∧ ∀ Q : Int32 → f_S3 → Nat × Nat → Prop, Q r s O → wY_X11_about N p1 s O Q := by
  obtain ⟨hD, hM, hP, hT⟩ := R
  by_cases q0 : p1 = 0
  · refine ⟨M 75, fun Q h => h.1 q0, fun Q hQ => ?_⟩
    subst q0
    rw [← hM.1.1] at hQ
    exact ⟨fun z => absurd z (by decide), fun z => absurd z (by decide), fun z => absurd z (by decide), fun _ _ _ => ⟨fun _ => hQ, fun z => absurd z (by decide), fun z => absurd z (by decide), fun z => absurd z (by decide), fun z => absurd z (by decide), fun z => absurd z (by decide), fun z => absurd z (by decide), fun z0 z1 z2 z3 z4 z5 z6 => absurd rfl z0⟩⟩
  by_cases q1 : p1 = 1
  · refine ⟨M 76, fun Q h => h.2.1 q1, fun Q hQ => ?_⟩
    subst q1
    rw [← hM.1.2.1] at hQ
    exact ⟨fun z => absurd z (by decide), fun z => absurd z (by decide), fun z => absurd z (by decide), fun _ _ _ => ⟨fun z => absurd z (by decide), fun _ => hQ, fun z => absurd z (by decide), fun z => absurd z (by decide), fun z => absurd z (by decide), fun z => absurd z (by decide), fun z => absurd z (by decide), fun z0 z1 z2 z3 z4 z5 z6 => absurd rfl z1⟩⟩
  by_cases q2 : p1 = 2
  · refine ⟨M 77, fun Q h => h.2.2.1 q2, fun Q hQ => ?_⟩
    subst q2
    rw [← hM.1.2.2.1] at hQ
    exact ⟨fun z => absurd z (by decide), fun z => absurd z (by decide), fun z => absurd z (by decide), fun _ _ _ => ⟨fun z => absurd z (by decide), fun z => absurd z (by decide), fun _ => hQ, fun z => absurd z (by decide), fun z => absurd z (by decide), fun z => absurd z (by decide), fun z => absurd z (by decide), fun z0 z1 z2 z3 z4 z5 z6 => absurd rfl z2⟩⟩
  by_cases q3 : p1 = 3
  · refine ⟨M 78, fun Q h => h.2.2.2.1 q3, fun Q hQ => ?_⟩
    subst q3
    rw [← hM.2.1.1] at hQ
    exact ⟨fun z => absurd z (by decide), fun z => absurd z (by decide), fun z => absurd z (by decide), fun _ _ _ => ⟨fun z => absurd z (by decide), fun z => absurd z (by decide), fun z => absurd z (by decide), fun _ => hQ, fun z => absurd z (by decide), fun z => absurd z (by decide), fun z => absurd z (by decide), fun z0 z1 z2 z3 z4 z5 z6 => absurd rfl z3⟩⟩
  by_cases q4 : p1 = 4
  · refine ⟨M 80, fun Q h => h.2.2.2.2.1 q4, fun Q hQ => ?_⟩
    subst q4
    rw [← hM.2.1.2.1] at hQ
    exact ⟨fun z => absurd z (by decide), fun z => absurd z (by decide), fun z => absurd z (by decide), fun _ _ _ => ⟨fun z => absurd z (by decide), fun z => absurd z (by decide), fun z => absurd z (by decide), fun z => absurd z (by decide), fun _ => hQ, fun z => absurd z (by decide), fun z => absurd z (by decide), fun z0 z1 z2 z3 z4 z5 z6 => absurd rfl z4⟩⟩
  by_cases q5 : p1 = 5
  · refine ⟨M 81, fun Q h => h.2.2.2.2.2.1 q5, fun Q hQ => ?_⟩
    subst q5
    rw [← hM.2.1.2.2.1] at hQ
    exact ⟨fun z => absurd z (by decide), fun z => absurd z (by decide), fun z => absurd z (by decide), fun _ _ _ => ⟨fun z => absurd z (by decide), fun z => absurd z (by decide), fun z => absurd z (by decide), fun z => absurd z (by decide), fun z => absurd z (by decide), fun _ => hQ, fun z => absurd z (by decide), fun z0 z1 z2 z3 z4 z5 z6 => absurd rfl z5⟩⟩
  by_cases q6 : p1 = 6
  · refine ⟨M 82, fun Q h => h.2.2.2.2.2.2.1 q6, fun Q hQ => ?_⟩
    subst q6
    rw [← hM.2.1.2.2.2] at hQ
    exact ⟨fun z => absurd z (by decide), fun z => absurd z (by decide), fun z => absurd z (by decide), fun _ _ _ => ⟨fun z => absurd z (by decide), fun z => absurd z (by decide), fun z => absurd z (by decide), fun z => absurd z (by decide), fun z => absurd z (by decide), fun z => absurd z (by decide), fun _ => hQ, fun z0 z1 z2 z3 z4 z5 z6 => absurd rfl z6⟩⟩
  by_cases q7 : p1 = 7
  · refine ⟨M 54, fun Q h => h.2.2.2.2.2.2.2.1 q7, fun Q hQ => ?_⟩
    subst q7
    rw [← hD.1.1] at hQ
    exact ⟨fun _ => hQ, fun z => absurd z (by decide), fun z => absurd z (by decide), fun z7 z8 z9 => absurd rfl z7⟩
  by_cases q8 : p1 = 8
  · refine ⟨M 56, fun Q h => h.2.2.2.2.2.2.2.2.1 q8, fun Q hQ => ?_⟩
    subst q8
    rw [← hD.1.2] at hQ
    exact ⟨fun z => absurd z (by decide), fun _ => hQ, fun z => absurd z (by decide), fun z7 z8 z9 => absurd rfl z8⟩
  by_cases q9 : p1 = 9
  · refine ⟨M 28, fun Q h => h.2.2.2.2.2.2.2.2.2.1 q9, fun Q hQ => ?_⟩
    subst q9
    rw [← hT.1.1] at hQ
    exact ⟨fun z => absurd z (by decide), fun z => absurd z (by decide), fun _ => hQ, fun z7 z8 z9 => absurd rfl z9⟩
  exact ⟨-1, fun Q h => h.2.2.2.2.2.2.2.2.2.2 q0 q1 q2 q3 q4 q5 q6 q7 q8 q9, fun Q hQ => ⟨fun z => absurd z q7, fun z => absurd z q8, fun z => absurd z q9, fun _ _ _ => ⟨fun z => absurd z q0, fun z => absurd z q1, fun z => absurd z q2, fun z => absurd z q3, fun z => absurd z q4, fun z => absurd z q5, fun z => absurd z q6, fun _ _ _ _ _ _ _ => hQ⟩⟩⟩
theorem no_both (hN : tN N) (hO : e_OB M F) (R : R_o K s O M F) (p1 : Int32) : ∃ r : Int32, (∀ Q : Int32 → e_M → e_F → Prop, w_note_ p1 M F Q → Q r M F) ∧ ∀ Q : Int32 → f_S3 → Nat × Nat → Prop, Q r s O → wY_X11_note N p1 s O Q := by
  obtain ⟨hD, hM, hP, hT⟩ := R
  have e31 : s.1 31 = M 80 := hM.2.1.2.1
  have b80 := hO.2.2.2.2.2.2.1
  by_cases q1 : p1 < 0
  · exact ⟨0, fun Q h => h.1 q1, fun Q hQ => ⟨fun _ => hQ, fun z => absurd q1 z⟩⟩
  by_cases q2 : M 80 ≤ p1
  · exact ⟨0, fun Q h => (h.2 q1).1 q2, fun Q hQ => ⟨fun z => absurd z q1, fun _ => ⟨fun _ => hQ, fun z => absurd (by rw [e31]; exact q2) z⟩⟩⟩
  have g1 := ti_nlt q1
  have g2 := ti_nle q2
  rw [show (0 : Int32).toInt = 0 by decide] at g1
  obtain ⟨a, ha, ea, ea2, ea3⟩ := t_nat (x := p1) (n := 200) (by omega)
  refine ⟨F 84 p1.toNatClampNeg, fun Q h => ((h.2 q1).2 q2).2, fun Q hQ => ⟨fun z => absurd z q1, fun _ => ⟨fun z => absurd (by rw [e31] at z; exact z) q2, fun _ => ⟨fun z => ?_, fun _ => ⟨?_, ?_⟩⟩⟩⟩⟩
  · rw [hN.2.2.2.2.1, ea, y_le (by omega) (by omega)] at z; omega
  · rw [hN.2.2.2.2.1, ea]; exact y_in ha (by omega)
  · rw [hM.2.2 p1.toNatClampNeg (by omega)]; exact hQ
/-- along the causes -/
def t_ic (F : e_F) : Nat → Int32 → Int32
  | 0, o => o
  | m + 1, o => if o = 0 then 0 else t_ic F m (F 52 o.toNatClampNeg)
theorem t_ic0 : ∀ m, t_ic F m 0 = 0 := fun m => by cases m <;> rfl
theorem t_0 {o : Int32} (h : 0 ≤ o.toInt) : o ≤ 0 ↔ o = 0 := by
  rw [Int32.le_iff_toInt_le, show (0 : Int32).toInt = 0 by decide]
  refine ⟨fun q => Int32.toInt_inj.mp (by rw [show (0 : Int32).toInt = 0 by decide]; omega), fun q => by rw [q]; decide⟩
theorem t_icr (hO : e_OB M F) : ∀ (m : Nat) (o : Int32), (0 ≤ o.toInt ∧ o.toInt ≤ (M 54).toInt) → 0 ≤ (t_ic F m o).toInt ∧ (t_ic F m o).toInt ≤ (M 54).toInt := by
  intro m
  induction m with
  | zero => exact fun o h => h
  | succ m ih =>
    intro o h
    unfold t_ic
    by_cases q : o = 0
    · rw [if_pos q, show (0 : Int32).toInt = 0 by decide]; omega
    · rw [if_neg q]
      have h1 : ¬ o.toInt = 0 := fun z => q (Int32.toInt_inj.mp (by rw [z]; decide))
      have e : o.toNatClampNeg = o.toInt.toNat := rfl
      have := hO.2.1 o.toNatClampNeg (by omega) (by omega)
      exact ih _ this.2
theorem m_ic (hO : e_OB M F) (hD : S_D s O M F) {Q : Int32 → f_S3 → Nat × Nat → Prop} : ∀ (m j : Nat) (o : Int32), j + m < 1000 → (0 ≤ o.toInt ∧ o.toInt ≤ (M 54).toInt) → Q (t_ic F m o) s O → wY_X2_inChain_17 N Q (m + 1) (nI (j + m)) o (nI j) s O := by
  intro m
  induction m with
  | zero =>
    intro j o hj ho hQ
    exact ⟨fun _ => hQ, fun z => absurd ((y_le (by omega) (by omega)).mpr (by omega)) z⟩
  | succ m ih =>
    intro j o hj ho hQ
    refine ⟨fun z => ?_, fun _ => ⟨fun z => ?_, fun z => ?_⟩⟩
    · rw [y_le (by omega) (by omega)] at z; omega
    · rw [z] at hQ ⊢
      rw [t_ic0] at hQ; exact hQ
    · unfold t_ic at hQ
      rw [if_neg z] at hQ
      have h1 : ¬ o.toInt = 0 := fun w => z (Int32.toInt_inj.mp (by rw [w]; decide))
      have e : o.toNatClampNeg = o.toInt.toNat := rfl
      refine m_causeOf hD (by omega) ?_
      rw [y_1, show j + (m + 1) = (j + 1) + m by omega]
      exact ih (j + 1) _ (by omega) (hO.2.1 o.toNatClampNeg (by omega) (by omega)).2 hQ
theorem r_ic (hO : e_OB M F) {Q : Int32 → e_M → e_F → Prop} {a3 a4 : Int32} : ∀ (n m j : Nat) (o : Int32), j + m < 1000 → (0 ≤ o.toInt ∧ o.toInt ≤ (M 54).toInt) → w_told__19 Q n (nI (j + m)) a3 a4 o (nI j) M F → w_told__45 Q a3 a4 (t_ic F m o) M F := by
  intro n
  induction n with
  | zero => intro m j o _ _ w; exact absurd w (fun q => q)
  | succ n ih =>
    intro m j o hj ho w
    dsimp only [w_told__19] at w
    cases m with
    | zero => exact w.1 ((y_le (by omega) (by omega)).mpr (by omega))
    | succ m =>
      have w := w.2 (fun z => by rw [y_le (by omega) (by omega)] at z; omega)
      unfold t_ic
      by_cases q : o = 0
      · have w := w.1 ((t_0 ho.1).mpr q)
        rw [if_pos q]
        rw [q] at w; exact w
      · rw [if_neg q]
        have h1 : ¬ o.toInt = 0 := fun w => q (Int32.toInt_inj.mp (by rw [w]; decide))
        have e : o.toNatClampNeg = o.toInt.toNat := rfl
        have w := (w.2 (fun z => q ((t_0 ho.1).mp z))).2
        rw [y_1, show j + (m + 1) = (j + 1) + m by omega] at w
        exact ih m (j + 1) _ (by omega) (hO.2.1 o.toNatClampNeg (by omega) (by omega)).2 w
/-- what is told of an objection -/
def t_td (F : e_F) (a o : Int32) : Int32 := if o = 0 then (if a = 0 then -1 else 0) else if a = 0 then F 48 o.toNatClampNeg else if a = 1 then F 49 o.toNatClampNeg else if a = 2 then F 50 o.toNatClampNeg else if a = 3 then o else if a = 4 then F 51 o.toNatClampNeg else if a = 5 then F 53 o.toNatClampNeg else if a = 6 then t_wt F o else 0
theorem r_45 (hD : S_D s O M F) {Q : Int32 → e_M → e_F → Prop} {a o : Int32} (ho : 0 ≤ o.toInt ∧ o.toInt ≤ (M 54).toInt) (w : w_told__45 Q a 0 o M F) : Q (t_td F a o) M F := by
  unfold t_td
  by_cases q : o = 0
  · rw [if_pos q]
    have w := w.2 q
    by_cases z : a = 0
    · rw [if_pos z]; exact w.2 z
    · rw [if_neg z]; exact w.1 z
  · rw [if_neg q]
    have w := w.1 q
    have h1 : ¬ o.toInt = 0 := fun w => q (Int32.toInt_inj.mp (by rw [w]; decide))
    obtain ⟨i, hi, e1, e2, e3⟩ := t_ser (M := M) (o := o) (by omega)
    by_cases z0 : a = 0
    · rw [if_pos z0]; exact (w.1 z0).2
    rw [if_neg z0]
    by_cases z1 : a = 1
    · rw [if_pos z1]; exact (w.2.1 z1).2
    rw [if_neg z1]
    by_cases z2 : a = 2
    · rw [if_pos z2]; exact (w.2.2.1 z2).2
    rw [if_neg z2]
    by_cases z3 : a = 3
    · rw [if_pos z3]; exact w.2.2.2.1 z3
    rw [if_neg z3]
    by_cases z4 : a = 4
    · rw [if_pos z4]; exact (w.2.2.2.2.1 z4).2
    rw [if_neg z4]
    by_cases z5 : a = 5
    · rw [if_pos z5]
      have w := (w.2.2.2.2.2.1 z5).2
      rcases (hD.2.2.1 i hi).2 with y | y
      · rw [e2] at w ⊢
        rw [y]; exact w.1 y
      · rw [e2] at w ⊢
        rw [y]; exact w.2 (by rw [y]; decide)
    rw [if_neg z5]
    by_cases z6 : a = 6
    · rw [if_pos z6]; exact r_weight (w.2.2.2.2.2.2.1 z6)
    rw [if_neg z6]
    exact w.2.2.2.2.2.2.2 z0 z1 z2 z3 z4 z5 z6
theorem m_td (hO : e_OB M F) (hD : S_D s O M F) {Q : Int32 → f_S3 → Nat × Nat → Prop} {a o : Int32} (ho : 0 ≤ o.toInt ∧ o.toInt ≤ (M 54).toInt) (hQ : Q (t_td F a o) s O) : wY_X2_exists N o s O (fun r3 M4 O4 => ((¬ r3 = 0 → ((a < 0 → (Q 0 M4 O4)) ∧ (¬ a < 0 → ((6 < a → (Q 0 M4 O4)) ∧ (¬ 6 < a → (wY_X2_tell N o a M4 O4 (fun r5 M6 O6 => (Q r5 M6 O6)))))))) ∧ (r3 = 0 → ((¬ a = 0 → (Q 0 M4 O4)) ∧ (a = 0 → (Q (-1) M4 O4)))))) := by
  unfold t_td at hQ
  by_cases q : o = 0
  · rw [if_pos q] at hQ
    rw [q]
    refine m_exists0 ⟨fun z => absurd rfl z, fun _ => ⟨fun z => ?_, fun z => ?_⟩⟩
    · rw [if_neg z] at hQ; exact hQ
    · rw [if_pos z] at hQ; exact hQ
  · rw [if_neg q] at hQ
    have h1 : ¬ o.toInt = 0 := fun w => q (Int32.toInt_inj.mp (by rw [w]; decide))
    have ho1 : 1 ≤ o.toInt ∧ o.toInt ≤ (M 54).toInt := by omega
    refine m_exists hD ho1 ⟨fun _ => ⟨fun z => ?_, fun z => ⟨fun w => ?_, fun w => ?_⟩⟩, fun z => absurd z (by decide)⟩
    · have n : ∀ c : Int32, 0 ≤ c.toInt → ¬ a = c := fun c hc e => by
        rw [Int32.lt_iff_toInt_lt, e, show (0 : Int32).toInt = 0 by decide] at z; omega
      rw [if_neg (n 0 (by decide)), if_neg (n 1 (by decide)), if_neg (n 2 (by decide)), if_neg (n 3 (by decide)), if_neg (n 4 (by decide)), if_neg (n 5 (by decide)), if_neg (n 6 (by decide))] at hQ
      exact hQ
    · have n : ∀ c : Int32, c.toInt ≤ 6 → ¬ a = c := fun c hc e => by
        rw [Int32.lt_iff_toInt_lt, e, show (6 : Int32).toInt = 6 by decide] at w; omega
      rw [if_neg (n 0 (by decide)), if_neg (n 1 (by decide)), if_neg (n 2 (by decide)), if_neg (n 3 (by decide)), if_neg (n 4 (by decide)), if_neg (n 5 (by decide)), if_neg (n 6 (by decide))] at hQ
      exact hQ
    · have g1 := ti_nlt z
      have g2 := ti_nlt w
      rw [show (0 : Int32).toInt = 0 by decide] at g1
      rw [show (6 : Int32).toInt = 6 by decide] at g2
      obtain ⟨b, hb, eb, -⟩ := t_nat (x := a) (n := 7) (by omega)
      subst eb
      have cs : b = 0 ∨ b = 1 ∨ b = 2 ∨ b = 3 ∨ b = 4 ∨ b = 5 ∨ b = 6 := by omega
      rcases cs with rfl | rfl | rfl | rfl | rfl | rfl | rfl
      · exact ⟨fun y => absurd y (by decide), fun y => absurd y (by decide), fun _ _ => ⟨fun y => absurd y (by decide), fun _ => ⟨fun y => absurd y (by decide), fun _ => m_kindOf hD ho1 hQ⟩⟩⟩
      · exact ⟨fun y => absurd y (by decide), fun y => absurd y (by decide), fun _ _ => ⟨fun y => absurd y (by decide), fun _ => ⟨fun y => absurd y (by decide), fun _ => m_groundOf hD ho1 hQ⟩⟩⟩
      · exact ⟨fun y => absurd y (by decide), fun y => absurd y (by decide), fun _ _ => ⟨fun y => absurd y (by decide), fun _ => ⟨fun y => absurd y (by decide), fun _ => m_daysOf hD ho1 hQ⟩⟩⟩
      · exact ⟨fun y => absurd y (by decide), fun y => absurd y (by decide), fun _ _ => ⟨fun y => absurd y (by decide), fun _ => ⟨fun y => absurd y (by decide), fun _ => m_serOf hD ho1 hQ⟩⟩⟩
      · exact ⟨fun y => absurd y (by decide), fun y => absurd y (by decide), fun _ _ => ⟨fun y => absurd y (by decide), fun _ => ⟨fun y => absurd y (by decide), fun _ => m_placeOf hD ho1 hQ⟩⟩⟩
      · exact ⟨fun y => absurd y (by decide), fun y => absurd y (by decide), fun _ _ => ⟨fun y => absurd y (by decide), fun _ => ⟨fun y => absurd y (by decide), fun _ => m_setOf hD ho1 hQ⟩⟩⟩
      · exact ⟨fun _ => m_weight hO hD ho1 hQ, fun y => absurd y (by decide), fun y => absurd rfl y⟩
/-- told of a chain -/
theorem to_both (hO : e_OB M F) (hD : S_D s O M F) {o : Int32} (ho : 0 ≤ o.toInt ∧ o.toInt ≤ (M 54).toInt) (p2 p3 : Int32) : ∃ r : Int32, (∀ Q : Int32 → e_M → e_F → Prop, w_told_ o p2 p3 0 M F Q → Q r M F) ∧ ∀ Q : Int32 → f_S3 → Nat × Nat → Prop, Q r s O → wY_X2_tellOfChain N o p2 p3 s O Q := by
  have l0 : (0 : Int32).toInt = 0 := by decide
  have h0 : 0 ≤ (0 : Int32).toInt ∧ (0 : Int32).toInt ≤ (M 54).toInt := ⟨by decide, by rw [l0]; exact hO.1.1⟩
  have r13 : ∀ Q : Int32 → e_M → e_F → Prop, (p2 < 0 ∨ ¬ p2 < 50) → w_told__13 Q p2 p3 0 M F → Q (t_td F p3 0) M F := fun Q hp w => by
    obtain ⟨e, w⟩ := w
    cases e with
    | zero => exact absurd w (fun q => q)
    | succ e =>
      dsimp only [w_told__19] at w
      by_cases q : p2 ≤ 0
      · exact r_45 hD h0 (w.1 q)
      · exact r_45 hD h0 ((w.2 q).1 (by decide))
  by_cases q1 : p2 < 0
  · exact ⟨_, fun Q h => r13 Q (Or.inl q1) (h.1 q1), fun Q hQ => ⟨fun _ => m_td hO hD h0 hQ, fun z => absurd q1 z⟩⟩
  by_cases q2 : p2 < 50
  · have g1 := ti_nlt q1
    rw [l0] at g1
    have g2 := Int32.lt_iff_toInt_lt.mp q2
    rw [show (50 : Int32).toInt = 50 by decide] at g2
    obtain ⟨m, hm, em, -⟩ := t_nat (x := p2) (n := 50) (by omega)
    subst em
    have tr := t_icr hO m o ho
    refine ⟨t_td F p3 (t_ic F m o), fun Q h => ?_, fun Q hQ => ⟨fun z => absurd z q1, fun _ => ⟨fun _ => ⟨m + 1, ?_⟩, fun z => absurd q2 z⟩⟩⟩
    · obtain ⟨e, w⟩ := (h.2 q1).1 q2
      refine r_45 hD tr (r_ic (j := 0) hO e m o (by omega) ho ?_)
      rw [Nat.zero_add]; exact w
    · have := m_ic (N := N) (Q := fun r1 M2 O2 => wY_X2_exists N r1 M2 O2 (fun r3 M4 O4 => ((¬ r3 = 0 → ((p3 < 0 → (Q 0 M4 O4)) ∧ (¬ p3 < 0 → ((6 < p3 → (Q 0 M4 O4)) ∧ (¬ 6 < p3 → (wY_X2_tell N r1 p3 M4 O4 (fun r5 M6 O6 => (Q r5 M6 O6)))))))) ∧ (r3 = 0 → ((¬ p3 = 0 → (Q 0 M4 O4)) ∧ (p3 = 0 → (Q (-1) M4 O4))))))) hO hD m 0 o (by omega) ho (m_td hO hD tr hQ)
      rw [Nat.zero_add] at this
      exact this
  · exact ⟨_, fun Q h => r13 Q (Or.inr q2) ((h.2 q1).2 q2), fun Q hQ => ⟨fun z => absurd z q1, fun _ => ⟨fun z => absurd z q2, fun _ => m_td hO hD h0 hQ⟩⟩⟩
theorem ch_both (hO : e_OB M F) (R : R_o K s O M F) (p1 p2 : Int32) : ∃ r : Int32, (∀ Q : Int32 → e_M → e_F → Prop, w_chain p1 p2 M F Q → Q r M F) ∧ ∀ Q : Int32 → f_S3 → Nat × Nat → Prop, Q r s O → wY_X11_chain N p1 p2 s O Q := by
  obtain ⟨r, a, b⟩ := to_both (N := N) hO R.1 (o := M 83) hO.2.2.2.2.2.2.2.1 p1 p2
  refine ⟨r, fun Q h => a Q h, fun Q hQ => ?_⟩
  unfold wY_X11_chain
  rw [R.2.1.1.2.2.2]
  exact b Q hQ
theorem ct_both (hN : tN N) (hO : e_OB M F) (R : R_o K s O M F) (p1 p2 p3 : Int32) : ∃ r : Int32, (∀ Q : Int32 → e_M → e_F → Prop, w_complaint p1 p2 p3 M F Q → Q r M F) ∧ ∀ Q : Int32 → f_S3 → Nat × Nat → Prop, Q r s O → wY_X11_complaint N p1 p2 p3 s O Q := by
  have l0 : (0 : Int32).toInt = 0 := by decide
  have h0 : 0 ≤ (0 : Int32).toInt ∧ (0 : Int32).toInt ≤ (M 54).toInt := ⟨by decide, by rw [l0]; exact hO.1.1⟩
  by_cases q1 : p1 < 0
  · obtain ⟨r, a, b⟩ := to_both (N := N) hO R.1 h0 p2 p3
    refine ⟨r, fun Q h => a Q (h.1 q1), fun Q hQ => ?_⟩
    unfold wY_X11_complaint wY_X0_complaintOf
    exact za_i (fun _ => ⟨fun _ => b Q hQ, fun z => absurd rfl z⟩) (fun z _ => absurd q1 z)
  by_cases q2 : p1 ≤ 2
  · have g1 := ti_nlt q1
    rw [l0] at g1
    have g2 := Int32.le_iff_toInt_le.mp q2
    rw [show (2 : Int32).toInt = 2 by decide] at g2
    obtain ⟨m, hm, em, -, em3⟩ := t_nat (x := p1) (n := 3) (by omega)
    have hb := hO.2.2.2.2.2.1 m hm
    obtain ⟨r, a, b⟩ := to_both (N := N) hO R.1 hb p2 p3
    refine ⟨r, fun Q h => ?_, fun Q hQ => ?_⟩
    · have w := ((h.2 q1).1 q2).2
      rw [em3] at w
      exact a Q w
    · unfold wY_X11_complaint wY_X0_complaintOf
      refine za_i (fun z => absurd z (fun z => z.elim q1 (fun w => za_2.mp q2 (za_3.mpr w)))) (fun _ _ => ⟨fun z => absurd z (by decide), fun _ => ⟨by rw [hN.2.2.2.1, em]; exact y_in hm (by omega), ?_⟩⟩)
      rw [em3, R.2.2.1.2 m hm]
      exact b Q hQ
  · obtain ⟨r, a, b⟩ := to_both (N := N) hO R.1 h0 p2 p3
    refine ⟨r, fun Q h => a Q ((h.2 q1).2 q2), fun Q hQ => ?_⟩
    unfold wY_X11_complaint wY_X0_complaintOf
    exact za_i (fun _ => ⟨fun _ => b Q hQ, fun z => absurd rfl z⟩) (fun _ z => absurd (za_2.mpr (fun u => z (za_3.mp u))) q2)
end ZB1
