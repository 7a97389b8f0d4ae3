/-! OBJECTIONS IN BOTH: what they are asked, pure. -/
section TQ3
variable {K : k_K} {N : Nat → Nat} {s s' : f_S3} {O : Nat × Nat} {M M' : e_M} {F F' : e_F} {p : Nat} {st ra : Int32}
theorem t_g0 : ∀ r : Nat, r < 7 → ((0 : Int32) - 1) * 7 + nI r < 0 := by decide
theorem m_get (hD : S_D s O M F) {i r : Nat} (hi : (i : Int) < (M 54).toInt) (hr : r < 7) {Q : Int32 → f_S3 → Nat × Nat → Prop} (hQ : Q (s.2.1 99 (7 * i + r)) s O) : wY_X2_get N (nI (i + 1)) (nI r) s O Q := by
  obtain ⟨⟨d1, d2⟩, ⟨⟨d4, d5⟩, d6, d7⟩, -⟩ := hD
  obtain ⟨m, hm, em, em2, -⟩ := t_nat (x := M 54) (n := 8001) (by omega)
  have e1 : nI (i + 1) - 1 = nI i := y_sub (a := i + 1) (b := 1) (by omega) (by omega)
  have e2 : (nI (i + 1) - 1) * 7 + nI r = nI (7 * i + r) := by
    rw [e1, show (7 : Int32) = nI 7 from rfl, pk_mul, nI_add, Nat.mul_comm]
  have e3 : s.1 22 * 7 = nI (m * 7) := by rw [d1, em]; exact pk_mul m 7
  unfold wY_X2_get
  rw [e2, e3]
  refine ⟨fun q => absurd q (y_lt0 (by omega)), fun _ => ⟨fun q => ?_, fun _ => ⟨vp_in_iff.mpr ?_, fun v hv => ?_⟩⟩⟩
  · rw [y_le (by omega) (by omega)] at q; omega
  · rw [fs_nI (by omega)]; omega
  · rw [hv, y_cl (by omega)]; exact hQ
theorem m_get0 {r : Nat} (hr : r < 7) {Q : Int32 → f_S3 → Nat × Nat → Prop} (hQ : Q 0 s O) : wY_X2_get N 0 (nI r) s O Q := ⟨fun _ => hQ, fun q => absurd (t_g0 r hr) q⟩
/-- an objection by its number -/
theorem t_ser {o : Int32} (ho : 1 ≤ o.toInt ∧ o.toInt ≤ (M 54).toInt) : ∃ i : Nat, (i : Int) < (M 54).toInt ∧ o = nI (i + 1) ∧ o.toNatClampNeg = i + 1 ∧ o.toInt = i + 1 := by
  have hx := Int32.toInt_lt o
  obtain ⟨j, h1, h2, h3, h4⟩ := t_nat (x := o) (n := 2147483648) (by omega)
  exact ⟨j - 1, by omega, by rw [h2]; congr 1; omega, by omega, by omega⟩
theorem m_kindOf (hD : S_D s O M F) {o : Int32} (ho : 1 ≤ o.toInt ∧ o.toInt ≤ (M 54).toInt) {Q : Int32 → f_S3 → Nat × Nat → Prop} (hQ : Q (F 48 o.toNatClampNeg) s O) : wY_X2_kindOf N o s O Q := by
  obtain ⟨i, h1, h2, h3, -⟩ := t_ser ho
  subst h2
  rw [h3] at hQ
  exact m_get (r := 0) hD h1 (by decide) (by rw [Nat.add_zero, (hD.2.2.1 i h1).1.1]; exact hQ)
theorem m_groundOf (hD : S_D s O M F) {o : Int32} (ho : 1 ≤ o.toInt ∧ o.toInt ≤ (M 54).toInt) {Q : Int32 → f_S3 → Nat × Nat → Prop} (hQ : Q (F 49 o.toNatClampNeg) s O) : wY_X2_get N o 1 s O Q := by
  obtain ⟨i, h1, h2, h3, -⟩ := t_ser ho
  subst h2
  rw [h3] at hQ
  exact m_get (r := 1) hD h1 (by decide) (by rw [(hD.2.2.1 i h1).1.2.1]; exact hQ)
theorem m_daysOf (hD : S_D s O M F) {o : Int32} (ho : 1 ≤ o.toInt ∧ o.toInt ≤ (M 54).toInt) {Q : Int32 → f_S3 → Nat × Nat → Prop} (hQ : Q (F 50 o.toNatClampNeg) s O) : wY_X2_get N o 2 s O Q := by
  obtain ⟨i, h1, h2, h3, -⟩ := t_ser ho
  subst h2
  rw [h3] at hQ
  exact m_get (r := 2) hD h1 (by decide) (by rw [(hD.2.2.1 i h1).1.2.2.1]; exact hQ)
theorem m_serOf (hD : S_D s O M F) {o : Int32} (ho : 1 ≤ o.toInt ∧ o.toInt ≤ (M 54).toInt) {Q : Int32 → f_S3 → Nat × Nat → Prop} (hQ : Q o s O) : wY_X2_get N o 3 s O Q := by
  obtain ⟨i, h1, h2, h3, -⟩ := t_ser ho
  subst h2
  exact m_get (r := 3) hD h1 (by decide) (by rw [(hD.2.2.1 i h1).1.2.2.2.1]; exact hQ)
theorem m_placeOf (hD : S_D s O M F) {o : Int32} (ho : 1 ≤ o.toInt ∧ o.toInt ≤ (M 54).toInt) {Q : Int32 → f_S3 → Nat × Nat → Prop} (hQ : Q (F 51 o.toNatClampNeg) s O) : wY_X2_get N o 4 s O Q := by
  obtain ⟨i, h1, h2, h3, -⟩ := t_ser ho
  subst h2
  rw [h3] at hQ
  exact m_get (r := 4) hD h1 (by decide) (by rw [(hD.2.2.1 i h1).1.2.2.2.2.1]; exact hQ)
theorem m_setOf (hD : S_D s O M F) {o : Int32} (ho : 1 ≤ o.toInt ∧ o.toInt ≤ (M 54).toInt) {Q : Int32 → f_S3 → Nat × Nat → Prop} (hQ : Q (F 53 o.toNatClampNeg) s O) : wY_X2_get N o 5 s O Q := by
  obtain ⟨i, h1, h2, h3, -⟩ := t_ser ho
  subst h2
  rw [h3] at hQ
  exact m_get (r := 5) hD h1 (by decide) (by rw [(hD.2.2.1 i h1).1.2.2.2.2.2.1]; exact hQ)
theorem m_causeOf (hD : S_D s O M F) {o : Int32} (ho : 1 ≤ o.toInt ∧ o.toInt ≤ (M 54).toInt) {Q : Int32 → f_S3 → Nat × Nat → Prop} (hQ : Q (F 52 o.toNatClampNeg) s O) : wY_X2_get N o 6 s O Q := by
  obtain ⟨i, h1, h2, h3, -⟩ := t_ser ho
  subst h2
  rw [h3] at hQ
  exact m_get (r := 6) hD h1 (by decide) (by rw [(hD.2.2.1 i h1).1.2.2.2.2.2.2]; exact hQ)
/-- the weight -/
def t_wt (F : e_F) (o : Int32) : Int32 := if F 48 o.toNatClampNeg = 0 then F 49 o.toNatClampNeg else if F 48 o.toNatClampNeg = 1 then F 49 o.toNatClampNeg + 10 else if F 48 o.toNatClampNeg = 2 then F 49 o.toNatClampNeg + 10 + F 50 o.toNatClampNeg else if F 48 o.toNatClampNeg = 3 then 2 * (F 49 o.toNatClampNeg + 10) else if F 48 o.toNatClampNeg = 4 then 3 * F 49 o.toNatClampNeg else if F 48 o.toNatClampNeg = 5 then 3 * F 49 o.toNatClampNeg - 5 else 3 * F 49 o.toNatClampNeg + (if F 52 o.toNatClampNeg ≤ 0 then 0 else F 49 (F 52 o.toNatClampNeg).toNatClampNeg)
theorem r_weight {o : Int32} {Q : Int32 → e_M → e_F → Prop} (h : w_weight o M F Q) : Q (t_wt F o) M F := by
  obtain ⟨-, -, h0, h1, h2, h3, h4, h5, h6⟩ := h
  unfold t_wt
  by_cases q0 : F 48 o.toNatClampNeg = 0
  · rw [if_pos q0]; exact h0 q0
  rw [if_neg q0]
  by_cases q1 : F 48 o.toNatClampNeg = 1
  · rw [if_pos q1]; exact h1 q1
  rw [if_neg q1]
  by_cases q2 : F 48 o.toNatClampNeg = 2
  · rw [if_pos q2]; exact (h2 q2).2 _ rfl
  rw [if_neg q2]
  by_cases q3 : F 48 o.toNatClampNeg = 3
  · rw [if_pos q3]; exact h3 q3
  rw [if_neg q3]
  by_cases q4 : F 48 o.toNatClampNeg = 4
  · rw [if_pos q4]; exact h4 q4
  rw [if_neg q4]
  by_cases q5 : F 48 o.toNatClampNeg = 5
  · rw [if_pos q5]; exact h5 q5
  rw [if_neg q5]
  obtain ⟨-, h7, h8⟩ := h6 q0 q1 q2 q3 q4 q5
  by_cases q : F 52 o.toNatClampNeg ≤ 0
  · rw [if_pos q]; exact h7 q
  · rw [if_neg q]; exact (h8 q).2.2 _ rfl
theorem m_weight (hO : e_OB M F) (hD : S_D s O M F) {o : Int32} (ho : 1 ≤ o.toInt ∧ o.toInt ≤ (M 54).toInt) {Q : Int32 → f_S3 → Nat × Nat → Prop} (hQ : Q (t_wt F o) s O) : wY_X2_weightOf N o s O Q := by
  have hk := (hO.2.1 o.toInt.toNat (by omega) (by omega)).1
  have hc := e_cause hO ho
  have hk : 0 ≤ (F 48 o.toNatClampNeg).toInt ∧ (F 48 o.toNatClampNeg).toInt ≤ 6 := hk
  unfold t_wt at hQ
  refine m_groundOf hD ho (m_kindOf hD ho ⟨fun q => ?_, fun q => m_daysOf hD ho ?_, fun q => ?_, fun q => ?_, fun q => ?_, fun q => m_causeOf hD ho ?_, fun q1 q2 q3 q4 q5 q6 => ?_⟩)
  · rw [q, if_neg (by decide), if_pos rfl] at hQ; exact hQ
  · rw [q, if_neg (by decide), if_neg (by decide), if_pos rfl] at hQ; exact hQ
  · rw [q, if_neg (by decide), if_neg (by decide), if_neg (by decide), if_pos rfl] at hQ; exact hQ
  · rw [q, if_neg (by decide), if_neg (by decide), if_neg (by decide), if_neg (by decide), if_pos rfl] at hQ; exact hQ
  · rw [q, if_neg (by decide), if_neg (by decide), if_neg (by decide), if_neg (by decide), if_neg (by decide), if_pos rfl] at hQ; exact hQ
  · rw [q, if_neg (by decide), if_neg (by decide), if_neg (by decide), if_neg (by decide), if_neg (by decide), if_neg (by decide)] at hQ
    by_cases z : F 52 o.toNatClampNeg ≤ 0
    · have z0 : F 52 o.toNatClampNeg = 0 := Int32.toInt_inj.mp (by rw [Int32.le_iff_toInt_le, e_z0] at z; rw [e_z0]; omega)
      rw [if_pos z] at hQ
      rw [z0]
      exact m_get0 (r := 1) (by decide) hQ
    · rw [if_neg z] at hQ
      have z' := ti_nle z
      rw [e_z0] at z'
      exact m_groundOf hD (by omega) hQ
  · have a1 := ti_ne q1
    have a2 := ti_ne q2
    have a3 := ti_ne q3
    have a4 := ti_ne q4
    have a5 := ti_ne q5
    have a6 := ti_ne q6
    have b1 : (1 : Int32).toInt = 1 := by decide
    have b2 : (2 : Int32).toInt = 2 := by decide
    have b3 : (3 : Int32).toInt = 3 := by decide
    have b4 : (4 : Int32).toInt = 4 := by decide
    have b5 : (5 : Int32).toInt = 5 := by decide
    have b6 : (6 : Int32).toInt = 6 := by decide
    have z0 : F 48 o.toNatClampNeg = 0 := Int32.toInt_inj.mp (by rw [e_z0]; omega)
    rw [if_pos z0] at hQ; exact hQ
/-- how many in a chain -/
def t_mn (F : e_F) : Nat → Int32 → Int32 → Int32
  | 0 => fun l _ => l
  | n + 1 => fun l o => if o = 0 then l else t_mn F n (l + 1) (F 52 o.toNatClampNeg)
theorem r_many4 {Q : Int32 → e_M → e_F → Prop} (hO : e_OB M F) : ∀ (n m j : Nat) (o : Int32), j + m = 50 → (0 ≤ o.toInt ∧ o.toInt ≤ (M 54).toInt) → w_many_4 Q n (nI j) o M F → Q (t_mn F m (nI j) o) M F := by
  intro n
  induction n with
  | zero => intro m j o _ _ h; exact h.elim
  | succ n ih =>
    intro m j o hj ho h
    obtain ⟨h1, h2⟩ := h
    match m with
    | 0 =>
      show Q (nI j) M F
      by_cases q : o ≤ 0
      · exact h1 q
      · exact (h2 q).1 (by rw [show (50 : Int32) = nI 50 from rfl, y_le (by omega) (by omega)]; omega)
    | m + 1 =>
      show Q (if o = 0 then nI j else t_mn F m (nI j + 1) (F 52 o.toNatClampNeg)) M F
      by_cases q : o = 0
      · rw [if_pos q]; exact h1 (by rw [q]; exact Int32.le_refl _)
      · rw [if_neg q]
        have q' := ti_ne q
        rw [e_z0] at q'
        have qn : ¬ o ≤ 0 := fun z => by rw [Int32.le_iff_toInt_le, e_z0] at z; omega
        obtain ⟨-, h3⟩ := (h2 qn).2 (fun z => by rw [show (50 : Int32) = nI 50 from rfl, y_le (by omega) (by omega)] at z; omega)
        rw [y_1] at h3 ⊢
        exact ih m (j + 1) _ (by omega) (e_cause hO (by omega)) h3
theorem r_many {o : Int32} {Q : Int32 → e_M → e_F → Prop} (hO : e_OB M F) (ho : 0 ≤ o.toInt ∧ o.toInt ≤ (M 54).toInt) (h : w_many o M F Q) : Q (t_mn F 50 0 o) M F := by
  obtain ⟨n, h⟩ := h
  exact r_many4 hO n 50 0 o rfl ho h
theorem m_many4 {Q : Int32 → f_S3 → Nat × Nat → Prop} (hO : e_OB M F) (hD : S_D s O M F) : ∀ (m j : Nat) (o : Int32), j + m = 50 → (0 ≤ o.toInt ∧ o.toInt ≤ (M 54).toInt) → Q (t_mn F m (nI j) o) s O → wY_X2_chainLength_4 N Q (m + 1) (nI j) o s O := by
  intro m
  induction m with
  | zero =>
    intro j o hj ho hQ
    exact ⟨fun _ => hQ, fun q => absurd (by rw [show (50 : Int32) = nI 50 from rfl, y_le (by omega) (by omega)]; omega) q⟩
  | succ m ih =>
    intro j o hj ho hQ
    have hQ : Q (if o = 0 then nI j else t_mn F m (nI j + 1) (F 52 o.toNatClampNeg)) s O := hQ
    refine ⟨fun q => ?_, fun _ => ⟨fun q => ?_, fun q => ?_⟩⟩
    · rw [show (50 : Int32) = nI 50 from rfl, y_le (by omega) (by omega)] at q; omega
    · rw [if_pos q] at hQ; exact hQ
    · rw [if_neg q] at hQ
      have q' := ti_ne q
      rw [e_z0] at q'
      refine m_causeOf hD (by omega) ?_
      rw [y_1] at hQ ⊢
      exact ih (j + 1) _ (by omega) (e_cause hO (by omega)) hQ
theorem m_many {o : Int32} {Q : Int32 → f_S3 → Nat × Nat → Prop} (hO : e_OB M F) (hD : S_D s O M F) (ho : 0 ≤ o.toInt ∧ o.toInt ≤ (M 54).toInt) (hQ : Q (t_mn F 50 0 o) s O) : wY_X2_chainLength N o s O Q := ⟨51, m_many4 hO hD 50 0 o rfl ho hQ⟩
/-- whether a kind is one of another -/
def t_is : Nat → Int32 → Int32 → Int32
  | 0 => fun _ _ => 0
  | n + 1 => fun k o => if k = -1 then 0 else if k = o then 1 else t_is n (k_one k.toNatClampNeg) o
theorem t_one : ∀ j : Nat, j < 7 → (-1 ≤ (k_one j).toInt ∧ (k_one j).toInt ≤ 6) ∧ e_rk (k_one j).toInt < e_rk j := by decide
theorem r_above {k : Int32} {Q : Int32 → e_M → e_F → Prop} (hk : 0 ≤ k.toInt ∧ k.toInt ≤ 6) (h : w_above k M F Q) : Q (k_one k.toNatClampNeg) M F := by
  obtain ⟨j, hj, rfl, -, e⟩ := t_nat (x := k) (n := 7) (by omega)
  rw [e]
  obtain ⟨h1, h0⟩ := h
  match j, hj with
  | 0, _ => exact h0 rfl
  | 1, _ => exact ((((h1 (by decide)).2 (by decide)).1 (by decide)).2 (by decide)).1 (by decide)
  | 2, _ => exact (h1 (by decide)).1 rfl
  | 3, _ => exact ((h1 (by decide)).2 (by decide)).2 rfl
  | 4, _ => exact ((((h1 (by decide)).2 (by decide)).1 (by decide)).2 (by decide)).1 (by decide)
  | 5, _ => exact (((h1 (by decide)).2 (by decide)).1 (by decide)).1 rfl
  | 6, _ => exact ((((h1 (by decide)).2 (by decide)).1 (by decide)).2 (by decide)).2 rfl
theorem r_isKind2 {o : Int32} {Q : Int32 → e_M → e_F → Prop} (ho : ¬ o = -1) : ∀ (n m : Nat) (k : Int32), (-1 ≤ k.toInt ∧ k.toInt ≤ 6) → e_rk k.toInt < m → w_isKind_2 Q n o k M F → Q (t_is m k o) M F := by
  intro n
  induction n with
  | zero => intro m k _ _ h; exact h.elim
  | succ n ih =>
    intro m k hk hm h
    obtain ⟨h1, h2⟩ := h
    match m, hm with
    | m + 1, hm =>
    show Q (if k = -1 then 0 else if k = o then 1 else t_is m (k_one k.toNatClampNeg) o) M F
    by_cases q : k = -1
    · rw [if_pos q]; exact (h1 q).1 (fun z => ho (z.symm.trans q))
    · rw [if_neg q]
      obtain ⟨h3, h4⟩ := h2 q
      by_cases z : k = o
      · rw [if_pos z]; exact (h3 z).2 z
      · rw [if_neg z]
        have q' := ti_ne q
        rw [show (-1 : Int32).toInt = -1 by decide] at q'
        have hk2 : 0 ≤ k.toInt ∧ k.toInt ≤ 6 := by omega
        obtain ⟨j, hj, ej, ej2, ej3⟩ := t_nat (x := k) (n := 7) (by omega)
        obtain ⟨g1, g2⟩ := t_one j hj
        have h5 := r_above hk2 (h4 z)
        rw [ej3] at h5 ⊢
        rw [ej2] at hm
        exact ih m _ g1 (by omega) h5
theorem r_isKind {k o : Int32} {Q : Int32 → e_M → e_F → Prop} (hk : 0 ≤ k.toInt ∧ k.toInt ≤ 6) (ho : ¬ o = -1) (h : w_isKind k o M F Q) : Q (t_is 7 k o) M F := by
  obtain ⟨n, h⟩ := h
  refine r_isKind2 ho n 7 k (by omega) ?_ h
  unfold e_rk
  split
  · omega
  · split
    · omega
    · split <;> omega
theorem m_is4 {o : Int32} {Q : Int32 → f_S3 → Nat × Nat → Prop} : ∀ (m j : Nat) (k : Int32), j + m = 7 → (-1 ≤ k.toInt ∧ k.toInt ≤ 6) → Q (t_is m k o) s O → wY_X3_is_4 N Q (m + 1) o k (nI j) s O := by
  intro m
  induction m with
  | zero =>
    intro j k hj hk hQ
    exact ⟨fun _ => hQ, fun q => absurd (by rw [show (7 : Int32) = nI 7 from rfl, y_le (by omega) (by omega)]; omega) q⟩
  | succ m ih =>
    intro j k hj hk hQ
    have hQ9 : Q (if k = -1 then 0 else if k = o then 1 else t_is m (k_one k.toNatClampNeg) o) s O := hQ
    refine ⟨fun q => ?_, fun _ => ⟨fun q => ?_, fun q => ⟨fun z => ?_, fun z => ?_⟩⟩⟩
    · rw [show (7 : Int32) = nI 7 from rfl, y_le (by omega) (by omega)] at q; omega
    · rw [if_pos q] at hQ9; exact hQ9
    · rw [if_neg q, if_neg z] at hQ9
      have q' := ti_ne q
      rw [show (-1 : Int32).toInt = -1 by decide] at q'
      obtain ⟨i, hi, ei, ei2, ei3⟩ := t_nat (x := k) (n := 7) (by omega)
      rw [ei3] at hQ9
      subst ei
      have ec : (nI i).toNatClampNeg = i := ei3
      refine ⟨fun w => absurd w (y_lt0 (by omega)), fun _ => ⟨fun w => ?_, fun _ => ⟨y_in hi (by omega), ?_⟩⟩⟩
      · rw [show (7 : Int32) = nI 7 from rfl, y_le (by omega) (by omega)] at w; omega
      · rw [ec, y_1]
        exact ih (j + 1) _ (by omega) (t_one i hi).1 hQ9
    · rw [if_neg q, if_pos z] at hQ9; exact hQ9
theorem m_is {k o : Int32} (hk : -1 ≤ k.toInt ∧ k.toInt ≤ 6) {Q : Int32 → f_S3 → Nat × Nat → Prop} (hQ : Q (t_is 7 k o) s O) : wY_X3_is N k o s O Q := ⟨8, m_is4 7 0 k rfl hk hQ⟩
end TQ3
