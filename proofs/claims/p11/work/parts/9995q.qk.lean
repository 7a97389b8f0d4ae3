/-! WHAT DEALING WITH AN OBJECTION NEEDS: made, settled, joined; the policy found; which instances have remanded. -/
section TQK
variable {K : k_K} {N : Nat → Nat} {s s' : f_S3} {O : Nat × Nat} {M M' M1 : e_M} {F F' F1 : e_F} {p : Nat} {st ra : Int32} {G : e_G} {B Nn E T V : Int} {f ot k j : Nat}
theorem m_make_a {k g d a : Int32} (h : S_a K s O M F) {Q : Int32 → f_S3 → Nat × Nat → Prop} (hQ0 : (M 55 = 100 ∨ M 54 = 8000) → Q 0 s O) (hQ : ¬ (M 55 = 100 ∨ M 54 = 8000) → ∀ s' O', S_a K s' O' (mk_M M) (mk_F (M 54 + 1) F k g d a 0 0) → Q (M 54 + 1) s' O') : wY_X2_makeInTrial N k g d a s O Q := by
  obtain ⟨hD, ⟨⟨m1, m2, m3, m4, m5⟩, m6, m7, m8, m9⟩, hC⟩ := h
  have hD2 := hD
  obtain ⟨⟨d1, d2⟩, ⟨d3, d4, d5⟩, d6, d7⟩ := hD2
  obtain ⟨m, hm, em, em2, -⟩ := t_nat (x := M 54) (n := 8001) (by omega)
  obtain ⟨b, hb, eb, eb2, -⟩ := t_nat (x := M 55) (n := 101) (by omega)
  have q8 : M 54 = 8000 ↔ m = 8000 := by rw [em]; exact nI_eq (b := 8000) (by omega) (by omega)
  have q1 : M 55 = 100 ↔ b = 100 := by rw [eb]; exact nI_eq (b := 100) (by omega) (by omega)
  have l1 : s.1 22 - s.1 21 < 100 ↔ b < 100 := by rw [m7, eb]; exact y_lt (b := 100) (by omega) (by omega)
  have l8 : s.1 22 < 8000 ↔ m < 8000 := by rw [d1, em]; exact y_lt (b := 8000) (by omega) (by omega)
  unfold wY_X2_makeInTrial wY_X2_make
  refine ⟨fun q => ⟨by rw [d1]; exact d3.1, by rw [d1]; exact d3.2, by rw [d1]; exact d4, fun z => hQ0 (Or.inr (q8.mpr ?_)), fun z M1 O' ho h7 hl => ?_⟩, fun q => hQ0 (Or.inl (q1.mpr ?_))⟩
  · rw [l8] at z; omega
  · rw [l1] at q
    rw [l8] at z
    rw [d1] at hl ⊢
    have r99 : M1.2.1 99 = s.2.1 99 := by
      rcases ho with ⟨-, rfl⟩ | ⟨-, rfl⟩
      · rfl
      · exact fg_row hD
    have rn : ∀ r, r ≠ 99 → M1.2.1 r = s.2.1 r := fun r hr => by
      rcases ho with ⟨-, rfl⟩ | ⟨-, rfl⟩
      · rfl
      · exact fg_ne hr
    have e1 : M1.1 = s.1 := by rcases ho with ⟨-, rfl⟩ | ⟨-, rfl⟩ <;> rfl
    have nr : ∀ r, r ≠ 99 → (fmk k g d a M1 (M 54)).2.1 r = s.2.1 r := fun r hr => by
      rw [← rn r hr]
      show uf (uf (uf (uf (uf M1.2.1 99 _ k) 99 _ g) 99 _ d) 99 _ _) 99 _ a r = _
      rw [e_uf_ne hr, e_uf_ne hr, e_uf_ne hr, e_uf_ne hr, e_uf_ne hr]
    have ne : ∀ r, r ≠ 22 → (fmk k g d a M1 (M 54)).1 r = s.1 r := fun r hr => by
      rw [← e1]
      exact e_um_ne hr
    have fF : ∀ r, r ∉ [48, 49, 50, 51, 52, 53] → mk_F (M 54 + 1) F k g d a 0 0 r = F r := fun r hr => by
      simp only [List.mem_cons, List.not_mem_nil, or_false, not_or] at hr
      unfold mk_F
      rw [e_uf_ne hr.2.2.2.2.2, e_uf_ne hr.2.2.2.2.1, e_uf_ne hr.2.2.2.1, e_uf_ne hr.2.2.1, e_uf_ne hr.2.1, e_uf_ne hr.1]
    refine hQ (fun w => ?_) _ O' ⟨?_, ⟨⟨(ne 36 (by decide)).trans m1, (ne 48 (by decide)).trans m2, (ne 31 (by decide)).trans m3, (ne 38 (by decide)).trans m4, (ne 37 (by decide)).trans m5⟩, fun j hj => ?_, ?_, ?_⟩, S_C_cg hC (ne 63 (by decide)) ⟨nr 20 (by decide), nr 21 (by decide), nr 22 (by decide)⟩ ⟨fF 18 (by decide), fF 19 (by decide)⟩ ⟨⟨ne 1 (by decide), ne 3 (by decide), ne 4 (by decide), ne 32 (by decide), ne 33 (by decide), ne 34 (by decide), ne 35 (by decide), ne 64 (by decide)⟩, nr 10 (by decide), nr 11 (by decide), nr 12 (by decide), nr 13 (by decide)⟩⟩
    · rcases w with w | w
      · rw [q1] at w; omega
      · rw [q8] at w; omega
    · have := S_D_mk (k := k) (g := g) (d := d) (a := a) hD em z (by rw [e1]) r99 h7 hl
      rw [← em] at this
      exact this
    · rw [nr 14 (by decide), fF 84 (by decide)]; exact m6 j hj
    · show M 54 + 1 - M1.1 21 = M 55 + 1
      rw [e1, ← m7, d1, Int32.sub_eq_add_neg, Int32.sub_eq_add_neg, Int32.add_assoc, Int32.add_assoc, Int32.add_comm 1]
    · show 0 ≤ (M 55 + 1).toInt ∧ (M 55 + 1).toInt ≤ 100
      rw [eb, y_1, fs_nI (by omega)]; omega
  · rw [l1] at q; omega
theorem m_settle_a (h : S_a K s O M F) {o c : Int32} (ho : 1 ≤ o.toInt ∧ o.toInt ≤ (M 54).toInt) {Q : f_S3 → Nat × Nat → Prop} (hQ : ∀ s', S_a K s' O M (uf (uf F 52 o c) 53 o (vp_nar .boolean 1)) → Q s' O) : wY_X2_settle N o c s O Q := by
  obtain ⟨hD, hM, hC⟩ := h
  obtain ⟨i, hi, e, e2, e3⟩ := t_ser ho
  have hb := hD.2.1
  have e1 : nI (i + 1) - 1 = nI i := y_sub (a := i + 1) (b := 1) (by omega) (by omega)
  have ix : ∀ r : Nat, (o - 1) * 7 + nI r = nI (7 * i + r) := fun r => by
    rw [e, e1, show (7 : Int32) = nI 7 from rfl, pk_mul, nI_add, Nat.mul_comm]
  have i5 : (o - 1) * 7 + 5 = nI (7 * i + 5) := ix 5
  have i6 : (o - 1) * 7 + 6 = nI (7 * i + 6) := ix 6
  refine m_exists hD ho ⟨fun q => absurd q (by decide), fun _ => ?_⟩
  rw [i5, i6]
  subst e
  refine ⟨vp_in_iff.mpr (by rw [fs_nI (by omega)]; omega), vp_in_iff.mpr (by rw [fs_nI (by omega)]; omega), hQ _ ⟨S_D_set hD hi, S_M_cg hM ⟨rfl, rfl, rfl, rfl, rfl, rfl, rfl⟩ rfl ⟨rfl, rfl, rfl, rfl, rfl, rfl⟩ rfl, S_C_cg hC rfl ⟨rfl, rfl, rfl⟩ ⟨rfl, rfl⟩⟩⟩
theorem S_a_23 (h : S_a K s O M F) : S_a K (fm s 23 (s.1 23 + 1)) O (um M 56 (M 56 + 1)) F := by
  obtain ⟨⟨⟨d1, d2⟩, d3, d4, d5⟩, hM, hC⟩ := h
  refine ⟨⟨⟨d1, ?_⟩, d3, d4, d5⟩, S_M_cg hM ⟨rfl, rfl, rfl, rfl, rfl, rfl, rfl⟩ rfl ⟨rfl, rfl, rfl, rfl, rfl, rfl⟩ rfl, S_C_cg hC rfl ⟨rfl, rfl, rfl⟩ ⟨rfl, rfl⟩⟩
  show s.1 23 + 1 = M 56 + 1
  rw [d2]
theorem S_a_37 (h : S_a K s O M F) : S_a K (fm s 37 (s.1 37 + 1)) O (um M 81 (M 81 + 1)) F := by
  obtain ⟨hD, ⟨⟨m1, m2, m3, m4, m5⟩, m6⟩, hC⟩ := h
  refine ⟨S_D_cg hD ⟨rfl, rfl⟩ rfl ⟨rfl, rfl⟩ ⟨rfl, rfl, rfl, rfl, rfl, rfl⟩, ⟨⟨m1, m2, m3, m4, ?_⟩, m6⟩, S_C_cg hC rfl ⟨rfl, rfl, rfl⟩ ⟨rfl, rfl⟩⟩
  show s.1 37 + 1 = M 81 + 1
  rw [m5]
theorem nI_nez {p : Nat} (h : p < 2 ^ 31) (h0 : 1 ≤ p) : ¬ nI p = 0 := fun q => by
  have := (nI_eq (b := 0) (by omega) (by omega)).mp q
  omega
/-- the policy for a kind -/
def t_pl (F : e_F) (i : Nat) : Nat → Int32 → Int32
  | 0 => fun _ => -1
  | n + 1 => fun k => if k = -1 then -1 else if F 85 (7 * nI i + k).toNatClampNeg = 0 then t_pl F i n (k_one k.toNatClampNeg) else k
theorem t_rk7 {k : Int32} : e_rk k.toInt < 7 := by
  unfold e_rk
  split
  · omega
  · split
    · omega
    · split <;> omega
theorem t_pl_r {i : Nat} : ∀ (m : Nat) (k : Int32), (-1 ≤ k.toInt ∧ k.toInt ≤ 6) → t_pl F i m k = -1 ∨ ((0 ≤ (t_pl F i m k).toInt ∧ (t_pl F i m k).toInt ≤ 6) ∧ ¬ F 85 (7 * nI i + t_pl F i m k).toNatClampNeg = 0) := by
  intro m
  induction m with
  | zero => intro k _; exact Or.inl rfl
  | succ m ih =>
    intro k hk
    show (if k = -1 then -1 else if F 85 (7 * nI i + k).toNatClampNeg = 0 then t_pl F i m (k_one k.toNatClampNeg) else k) = -1 ∨ ((0 ≤ (if k = -1 then -1 else if F 85 (7 * nI i + k).toNatClampNeg = 0 then t_pl F i m (k_one k.toNatClampNeg) else k).toInt ∧ (if k = -1 then -1 else if F 85 (7 * nI i + k).toNatClampNeg = 0 then t_pl F i m (k_one k.toNatClampNeg) else k).toInt ≤ 6) ∧ ¬ F 85 (7 * nI i + (if k = -1 then -1 else if F 85 (7 * nI i + k).toNatClampNeg = 0 then t_pl F i m (k_one k.toNatClampNeg) else k)).toNatClampNeg = 0)
    by_cases q : k = -1
    · rw [if_pos q]; exact Or.inl rfl
    · rw [if_neg q]
      have q' := ti_ne q
      rw [show (-1 : Int32).toInt = -1 by decide] at q'
      by_cases z : F 85 (7 * nI i + k).toNatClampNeg = 0
      · rw [if_pos z]
        obtain ⟨j, hj, ej, ej2, ej3⟩ := t_nat (x := k) (n := 7) (by omega)
        rw [ej3]
        exact ih _ (t_one j hj).1
      · rw [if_neg z]
        exact Or.inr ⟨by omega, z⟩
theorem r_pl {WD : Int32 → Int32 → Int32 → Int32 → e_M → e_F → (e_M → e_F → Prop) → Prop} {Q : e_M → e_F → Prop} {i : Nat} {h a b : Int32} : ∀ (n m : Nat) (k : Int32), (-1 ≤ k.toInt ∧ k.toInt ≤ 6) → e_rk k.toInt < m → w_deals_43 WD Q n (nI i) h a b k M F → w_deals_74 WD Q (nI i) h a b (t_pl F i m k) M F := by
  intro n
  induction n with
  | zero => intro m k _ _ h; exact h.elim
  | succ n ih =>
    intro m k hk hm h
    obtain ⟨h1, h2⟩ := h
    match m, hm with
    | m + 1, hm =>
    show w_deals_74 WD Q (nI i) _ a b (if k = -1 then -1 else if F 85 (7 * nI i + k).toNatClampNeg = 0 then t_pl F i m (k_one k.toNatClampNeg) else k) M F
    by_cases q : k = -1
    · rw [if_pos q]
      have := h1 q
      rw [q] at this
      exact this
    · rw [if_neg q]
      obtain ⟨-, h3, h4⟩ := h2 q
      by_cases z : F 85 (7 * nI i + k).toNatClampNeg = 0
      · rw [if_pos z]
        have q' := ti_ne q
        rw [show (-1 : Int32).toInt = -1 by decide] at q'
        obtain ⟨j, hj, ej, ej2, ej3⟩ := t_nat (x := k) (n := 7) (by omega)
        obtain ⟨g1, g2⟩ := t_one j hj
        have h5 := r_above (by omega) (h4 z)
        rw [ej3] at h5 ⊢
        rw [ej2] at hm
        exact ih m _ g1 (by omega) h5
      · rw [if_neg z]; exact h3 z
/-- the class's rows of policies and complaints are the reference's -/
def S_P (K : k_K) (F : e_F) : Prop := (∀ j : Nat, j < 21 → (K_P K).2 11 j = F 85 j - 1 ∧ (K_P K).2 12 j = F 86 j) ∧ ∀ j : Nat, j < 3 → (K_P K).2 13 j = F 87 j
theorem t_ix7 {i : Nat} (hi : i < 3) {k : Int32} (hk : 0 ≤ k.toInt ∧ k.toInt ≤ 6) : ∃ j : Nat, j < 21 ∧ 7 * nI i + k = nI j ∧ nI i * 7 + k = nI j := by
  obtain ⟨x, hx, ex, ex2, ex3⟩ := t_nat (x := k) (n := 7) (by omega)
  refine ⟨7 * i + x, by omega, ?_, ?_⟩
  · rw [ex, show (7 : Int32) = nI 7 from rfl, pk_mul, nI_add]
  · rw [ex, show (7 : Int32) = nI 7 from rfl, pk_mul, nI_add, Nat.mul_comm]
theorem t_sb {x : Int32} : x - 1 = -1 ↔ x = 0 := by
  constructor
  · intro h
    have e : x = x - 1 + 1 := by rw [Int32.sub_add_cancel]
    rw [e, h]; decide
  · intro h; rw [h]; decide
theorem m_pl5 (hN : tN N) (hP : S_P K F) (hC : S_C K s F1) {i : Nat} (hi : i < 3) {Q : Int32 → f_S3 → Nat × Nat → Prop} : ∀ (m j : Nat) (k : Int32), j + m = 7 → (-1 ≤ k.toInt ∧ k.toInt ≤ 6) → Q (if t_pl F i m k = -1 then -1 else nI i * 7 + t_pl F i m k) s O → wY_X0_policyIndex_5 N Q (m + 1) (nI i) k (nI j) s O := by
  have l11 : N 11 = 21 := hN.2.1
  intro m
  induction m with
  | zero =>
    intro j k hj hk hQ
    exact ⟨fun _ => hQ, fun q => absurd (by rw [show (7 : Int32) = nI 7 from rfl, y_le (by omega) (by omega)]; omega) q⟩
  | succ m ih =>
    intro j k hj hk hQ
    have hQ9 : Q (if (if k = -1 then -1 else if F 85 (7 * nI i + k).toNatClampNeg = 0 then t_pl F i m (k_one k.toNatClampNeg) else k) = -1 then -1 else nI i * 7 + (if k = -1 then -1 else if F 85 (7 * nI i + k).toNatClampNeg = 0 then t_pl F i m (k_one k.toNatClampNeg) else k)) s O := hQ
    refine ⟨fun q => ?_, fun _ => ⟨fun q => ?_, fun q => ?_⟩⟩
    · rw [show (7 : Int32) = nI 7 from rfl, y_le (by omega) (by omega)] at q; omega
    · rw [if_pos q, if_pos rfl] at hQ9; exact hQ9
    · rw [if_neg q] at hQ9
      have q' := ti_ne q
      rw [show (-1 : Int32).toInt = -1 by decide] at q'
      obtain ⟨x, hx, ex, ex2⟩ := t_ix7 hi (k := k) (by omega)
      rw [ex, y_cl (by omega)] at hQ9
      rw [ex2, l11]
      refine ⟨fun g => absurd g (y_lt0 (by omega)), fun _ => ⟨fun g => ?_, fun _ => ⟨y_in hx (by omega), fun g => ?_, fun g => ?_⟩⟩⟩
      · rw [y_le (by omega) (by omega)] at g; omega
      · rw [y_cl (by omega), hC.1.2.2.2.1, (hP.1 x hx).1, t_sb] at g
        rw [if_pos g] at hQ9
        obtain ⟨y, hy, ey, ey2, ey3⟩ := t_nat (x := k) (n := 7) (by omega)
        rw [ey3] at hQ9
        subst ey
        have ec : (nI y).toNatClampNeg = y := ey3
        refine ⟨fun w => absurd w (y_lt0 (by omega)), fun _ => ⟨fun w => ?_, fun _ => ⟨y_in hy (by omega), ?_⟩⟩⟩
        · rw [show (7 : Int32) = nI 7 from rfl, y_le (by omega) (by omega)] at w; omega
        · rw [ec, y_1]
          exact ih (j + 1) _ (by omega) (t_one y hy).1 hQ9
      · rw [y_cl (by omega), hC.1.2.2.2.1, (hP.1 x hx).1, t_sb] at g
        rw [if_neg g, if_neg q, ex2] at hQ9
        exact hQ9
theorem m_pl (hN : tN N) (hP : S_P K F) (hC : S_C K s F1) {i : Nat} (hi : i < 3) {k : Int32} (hk : -1 ≤ k.toInt ∧ k.toInt ≤ 6) {Q : Int32 → f_S3 → Nat × Nat → Prop} (hQ : Q (if t_pl F i 7 k = -1 then -1 else nI i * 7 + t_pl F i 7 k) s O) : wY_X0_policyIndex N (nI i) k s O Q := ⟨8, m_pl5 hN hP hC hi 7 0 k rfl hk hQ⟩
/-- which instances have remanded: three bits -/
theorem t_bit : ∀ r : Nat, r < 8 → ∀ i : Nat, i < 3 → ((((nI r >>> (nI i &&& 31)) &&& 1) = 1) ↔ r / 2 ^ i % 2 = 1) := by decide
theorem t_bit2 : ∀ r : Nat, r < 8 → ∀ i : Nat, i < 3 → (((nI r >>> (nI i &&& 31)) ||| 1) <<< (nI i &&& 31)) = nI ((r / 2 ^ i / 2 * 2 + 1) * 2 ^ i) := by decide
theorem t_bit3 : ∀ r : Nat, r < 8 → ∀ i : Nat, i < 3 → (r / 2 ^ i / 2 * 2 + 1) * 2 ^ i < 8 ∧ (r / 2 ^ i / 2 * 2 + 1) * 2 ^ i % 2 ^ i = 0 ∧ (r / 2 ^ i / 2 * 2 + 1) * 2 ^ i / 2 ^ i % 2 = 1 ∧ (r / 2 ^ i / 2 * 2 + 1) * 2 ^ i / 2 ^ (i + 1) = r / 2 ^ (i + 1) := by decide
end TQK
