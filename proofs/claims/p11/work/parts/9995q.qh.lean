/-! A HEARING BEGUN, in both. -/
section TQH
variable {K : k_K} {N : Nat → Nat} {s s' : f_S3} {O : Nat × Nat} {M M' M1 : e_M} {F F' F1 : e_F} {p : Nat} {st ra : Int32} {G : e_G} {B Nn E T V : Int} {f ot k j : Nat}
/-- rows made 0 -/
def z_F (r : Nat) (c : Int32) : Nat → Nat → e_F → e_F
  | 0 => fun _ F => F
  | m + 1 => fun i F => z_F r c m (i + 1) (uf F r (c + nI i) 0)
theorem z_F_ne {r : Nat} {c : Int32} {x : Nat} (hx : x ≠ r) : ∀ (m i : Nat) (F : e_F), z_F r c m i F x = F x := by
  intro m
  induction m with
  | zero => intro i F; rfl
  | succ m ih => intro i F; exact (ih (i + 1) _).trans (e_uf_ne hx)
theorem z_F_at {r c0 : Nat} : ∀ (m i : Nat) (F : e_F) (j : Nat), c0 + i + m < 1000 → z_F r (nI c0) m i F r j = if c0 + i ≤ j ∧ j < c0 + i + m then 0 else F r j := by
  intro m
  induction m with
  | zero => intro i F j h; rw [if_neg (by omega)]; rfl
  | succ m ih =>
    intro i F j h
    show z_F r (nI c0) m (i + 1) (uf F r (nI c0 + nI i) 0) r j = _
    rw [ih (i + 1) _ j (by omega), nI_add, uf_at2, y_cl (by omega)]
    by_cases q : c0 + i = j
    · rw [if_neg (by omega), if_pos ⟨rfl, q.symm⟩, if_pos (by omega)]
    · by_cases q2 : c0 + (i + 1) ≤ j ∧ j < c0 + (i + 1) + m
      · rw [if_pos q2, if_pos (by omega)]
      · rw [if_neg q2, if_neg (fun w => q w.2.symm), if_neg (by omega)]
theorem r_z33 {Q : e_M → e_F → Prop} {h : Int32} : ∀ (n m i : Nat) (F : e_F), i + m = 8 → w_begins_33 Q n h (nI i) M F → Q (um (um (um M 62 (M 62 + 1)) 82 (M 82 + 1)) 70 (z_F 58 (8 * M 62) m i F 18 h.toNatClampNeg)) (uf (z_F 58 (8 * M 62) m i F) 61 (M 62) (M 67)) := by
  intro n
  induction n with
  | zero => intro m i F _ h; exact h.elim
  | succ n ih =>
    intro m i F hm hw
    match m, hm with
    | 0, hm => exact (hw.1 (by rw [show (8 : Int32) = nI 8 from rfl, y_le (by omega) (by omega)]; omega)).2.2
    | m + 1, hm =>
      have h2 := (hw.2 (fun g => by rw [show (8 : Int32) = nI 8 from rfl, y_le (by omega) (by omega)] at g; omega)).2
      rw [y_1] at h2
      exact ih m (i + 1) _ (by omega) h2
theorem r_z10 {Q : e_M → e_F → Prop} {h c : Int32} : ∀ (n m i : Nat) (F : e_F), i + m = 12 → w_begins_10 Q n h c (nI i) M F → ∃ e, w_begins_33 Q e h 0 M (z_F 57 c m i F) := by
  intro n
  induction n with
  | zero => intro m i F _ h; exact h.elim
  | succ n ih =>
    intro m i F hm hw
    match m, hm with
    | 0, hm => exact hw.1 (by rw [show (12 : Int32) = nI 12 from rfl, y_le (by omega) (by omega)]; omega)
    | m + 1, hm =>
      have h2 := (hw.2 (fun g => by rw [show (12 : Int32) = nI 12 from rfl, y_le (by omega) (by omega)] at g; omega)).2
      rw [y_1] at h2
      exact ih m (i + 1) _ (by omega) h2
/-- what a hearing begun leaves -/
def n_M (M : e_M) (v : Int32) : e_M := um (um (um M 62 (M 62 + 1)) 82 (M 82 + 1)) 70 v
def n_F (M : e_M) (F : e_F) : e_F := uf (z_F 58 (8 * M 62) 8 0 (z_F 57 (12 * M 62) 12 0 F)) 61 (M 62) (M 67)
theorem r_begins {Q : e_M → e_F → Prop} {h : Int32} (hw : w_begins h M F Q) : Q (n_M M (F 18 h.toNatClampNeg)) (n_F M F) := by
  obtain ⟨n, hw⟩ := hw
  obtain ⟨e, h2⟩ := r_z10 n 12 0 F rfl hw
  have h3 := r_z33 e 8 0 _ rfl h2
  rw [z_F_ne (by decide), z_F_ne (by decide)] at h3
  exact h3
theorem n_F_ne {r : Nat} (hr : r ≠ 57 ∧ r ≠ 58 ∧ r ≠ 61) : n_F M F r = F r := by
  unfold n_F
  rw [e_uf_ne hr.2.2, z_F_ne hr.2.1, z_F_ne hr.1]
theorem n_F_at (h62 : (M 62).toInt = f) (hf : f < 12) (j : Nat) : n_F M F 57 j = (if 12 * f ≤ j ∧ j < 12 * f + 12 then 0 else F 57 j) ∧ n_F M F 58 j = (if 8 * f ≤ j ∧ j < 8 * f + 8 then 0 else F 58 j) ∧ n_F M F 61 j = (if j = f then M 67 else F 61 j) := by
  obtain ⟨x, h1, h2, h3, -⟩ := t_nat (x := M 62) (n := 12) (by omega)
  have ex : x = f := by omega
  subst ex
  have e12 : 12 * M 62 = nI (12 * x) := by rw [h2]; exact pk_mul 12 x
  have e8 : 8 * M 62 = nI (8 * x) := by rw [h2]; exact pk_mul 8 x
  unfold n_F
  refine ⟨?_, ?_, ?_⟩
  · rw [e_uf_ne (by decide), z_F_ne (by decide), e12, z_F_at 12 0 F j (by omega), Nat.add_zero]
  · rw [e_uf_ne (by decide), e8, z_F_at 8 0 _ j (by omega), Nat.add_zero, z_F_ne (by decide)]
  · rw [uf_at2, h2, y_cl (by omega), z_F_ne (by decide), z_F_ne (by decide)]
    by_cases q : j = x
    · rw [if_pos ⟨rfl, q⟩, if_pos q]
    · rw [if_neg (fun w => q w.2), if_neg q]
/-- the class's rows made 0 -/
theorem m_z62 (hN : tN N) {Q : f_S3 → Nat × Nat → Prop} {h : Int32} (hf : f < 12) : ∀ (m i : Nat) (s : f_S3), i + m = 8 → s.1 50 = nI (f + 1) → (∀ s', s'.1 = s.1 → (∀ r, r ≠ 16 → s'.2.1 r = s.2.1 r) → (∀ j, s'.2.1 16 j = if 8 * f + i ≤ j ∧ j < 8 * f + 8 then 0 else s.2.1 16 j) → wY_X6_startOf N h s' O (fun r2 M3 O3 => Q (fm (fm M3 49 r2) 38 (M3.1 38 + 1)) O3)) → wY_X8_begin_62 N Q (m + 1) h (nI i) s O := by
  have l := tN_16 hN
  intro m
  induction m with
  | zero =>
    intro i s hm h50 hQ
    refine ⟨fun _ => hQ s rfl (fun _ _ => rfl) (fun j => by rw [if_neg (by omega)]), fun g => absurd (by rw [show (8 : Int32) = nI 8 from rfl, y_le (by omega) (by omega)]; omega) g⟩
  | succ m ih =>
    intro i s hm h50 hQ
    refine ⟨fun g => ?_, fun _ => ?_⟩
    · rw [show (8 : Int32) = nI 8 from rfl, y_le (by omega) (by omega)] at g; omega
    · have ix : (nI (f + 1) - 1) * 8 + nI i = nI (8 * f + i) := by
        rw [show nI (f + 1) - 1 = nI f from y_sub (a := f + 1) (b := 1) (by omega) (by omega), show (8 : Int32) = nI 8 from rfl, pk_mul, nI_add, Nat.mul_comm]
      unfold wY_X8_setObject
      rw [h50, ix, l]
      refine ⟨fun g => absurd g (nI_ne (by omega)), fun _ => ⟨fun g => absurd g (y_lt0 (by omega)), fun _ => ⟨fun g => absurd g (by rw [y_le (by omega) (by omega)]; omega), fun _ => ⟨y_in (by omega) (by omega), ?_⟩⟩⟩⟩
      rw [y_1]
      refine ih (i + 1) _ (by omega) h50 (fun s' e1 e2 e3 => hQ s' e1 (fun r hr => (e2 r hr).trans (e_uf_ne hr)) (fun j => ?_))
      rw [e3]
      have e4 : (ff s 16 (nI (8 * f + i)) 0).2.1 16 j = if j = 8 * f + i then 0 else s.2.1 16 j := by
        show uf s.2.1 16 (nI (8 * f + i)) 0 16 j = _
        simp only [uf_at2, y_cl (show 8 * f + i < 2 ^ 31 by omega), true_and]
      rw [e4]
      by_cases q : j = 8 * f + i
      · rw [if_neg (by omega), if_pos q, if_pos (by omega)]
      · by_cases q2 : 8 * f + (i + 1) ≤ j ∧ j < 8 * f + 8
        · rw [if_pos q2, if_pos (by omega)]
        · rw [if_neg q2, if_neg q, if_neg (by omega)]
theorem m_z42 (hN : tN N) {Q : f_S3 → Nat × Nat → Prop} {h : Int32} (hf : f < 12) : ∀ (m i : Nat) (s : f_S3), i + m = 12 → s.1 50 = nI (f + 1) → (∀ s', s'.1 = s.1 → (∀ r, r ≠ 15 → s'.2.1 r = s.2.1 r) → (∀ j, s'.2.1 15 j = if 12 * f + i ≤ j ∧ j < 12 * f + 12 then 0 else s.2.1 15 j) → ∃ e, wY_X8_begin_62 N Q e h 0 s' O) → wY_X8_begin_42 N Q (m + 1) h (nI i) s O := by
  have l := tN_15 hN
  intro m
  induction m with
  | zero =>
    intro i s hm h50 hQ
    refine ⟨fun _ => hQ s rfl (fun _ _ => rfl) (fun j => by rw [if_neg (by omega)]), fun g => absurd (by rw [show (12 : Int32) = nI 12 from rfl, y_le (by omega) (by omega)]; omega) g⟩
  | succ m ih =>
    intro i s hm h50 hQ
    refine ⟨fun g => ?_, fun _ => ?_⟩
    · rw [show (12 : Int32) = nI 12 from rfl, y_le (by omega) (by omega)] at g; omega
    · have ix : (nI (f + 1) - 1) * 12 + nI i = nI (12 * f + i) := by
        rw [show nI (f + 1) - 1 = nI f from y_sub (a := f + 1) (b := 1) (by omega) (by omega), show (12 : Int32) = nI 12 from rfl, pk_mul, nI_add, Nat.mul_comm]
      unfold wY_X8_setNumber
      rw [h50, ix, l]
      refine ⟨fun g => absurd g (y_lt0 (by omega)), fun _ => ⟨fun g => absurd g (by rw [y_le (by omega) (by omega)]; omega), fun _ => ⟨y_in (by omega) (by omega), ?_⟩⟩⟩
      rw [y_1]
      refine ih (i + 1) _ (by omega) h50 (fun s' e1 e2 e3 => hQ s' e1 (fun r hr => (e2 r hr).trans (e_uf_ne hr)) (fun j => ?_))
      rw [e3]
      have e4 : (ff s 15 (nI (12 * f + i)) 0).2.1 15 j = if j = 12 * f + i then 0 else s.2.1 15 j := by
        show uf s.2.1 15 (nI (12 * f + i)) 0 15 j = _
        simp only [uf_at2, y_cl (show 12 * f + i < 2 ^ 31 by omega), true_and]
      rw [e4]
      by_cases q : j = 12 * f + i
      · rw [if_neg (by omega), if_pos q, if_pos (by omega)]
      · by_cases q2 : 12 * f + (i + 1) ≤ j ∧ j < 12 * f + 12
        · rw [if_pos q2, if_pos (by omega)]
        · rw [if_neg q2, if_neg q, if_neg (by omega)]
theorem m_begin (hN : tN N) {hh : Nat} (hA : S_a K s O M F) (hB : S_b K s M F) (h53 : s.1 53 = st) (h54 : s.1 54 = ra) (h50 : s.1 50 = M 62) (hV : S_V s M F) (h62 : (M 62).toInt = f) (hf : f < 12) (h67 : (M 67).toInt = ot) (hbm : ∀ i, i < f → e_b F i ≤ ot) (hh1 : hh < K_N K) (hh2 : K_N K ≤ 16) (hR : f = 0 ∨ ∃ k : Nat, (9000 * K_B K ≤ k ∧ k < K_E K) ∧ F 59 f = nI (k + 1) ∧ F 13 k = 18 ∧ F 60 f = F 16 k ∧ s.1 49 = nI (K_A K k + 3)) {Q : f_S3 → Nat × Nat → Prop} (hQ : ∀ s', S_s K (K_A K (F 18 (400 * K_B K + hh)).toNatClampNeg) st ra s' O (n_M M (F 18 (400 * K_B K + hh))) (n_F M F) → Q s' O) : wY_X8_begin N (nI hh) s O Q := by
  have l17 := tN_17 hN
  have l21 : N 21 = 16 := hN.2.2.2.2.2.2.2.2.2.2.2.1
  obtain ⟨x, x1, x2, x3, -⟩ := t_nat (x := M 62) (n := 12) (by omega)
  have ex : x = f := by omega
  subst ex
  have e50 : s.1 50 = nI x := h50.trans x2
  obtain ⟨hD, hM, hC⟩ := hA
  obtain ⟨⟨hN1, hN2⟩, hR0, hT1, hT2, hT3⟩ := hB
  unfold wY_X8_begin
  rw [e50]
  refine ⟨fun g => absurd g (y_lt0 (by omega)), fun _ => ⟨fun _ => ⟨by rw [l17]; exact y_in hf (by omega), ⟨13, ?_⟩⟩, fun g => absurd (by rw [show (12 : Int32) = nI 12 from rfl, y_lt (by omega) (by omega)]; exact hf) g⟩⟩
  refine m_z42 hN hf 12 0 _ rfl (by show nI x + 1 = nI (x + 1); exact y_1) (fun s1 a1 a2 a3 => ⟨9, m_z62 hN hf 8 0 s1 rfl (by rw [a1]; show nI x + 1 = nI (x + 1); exact y_1) (fun s2 b1 b2 b3 => ?_)⟩)
  rw [Nat.add_zero] at a3 b3
  have h21 : s2.2.1 21 = s.2.1 21 := (b2 21 (by decide)).trans ((a2 21 (by decide)).trans rfl)
  refine ⟨fun g => absurd g (y_lt0 (by omega)), fun _ => ⟨fun g => ?_, fun _ => ⟨by rw [l21]; exact y_in (by omega) (by omega), ?_⟩⟩⟩
  · rw [show (16 : Int32) = nI 16 from rfl, y_le (by omega) (by omega)] at g; omega
  have rw1 : ∀ r, r ≠ 15 → r ≠ 16 → r ≠ 17 → s2.2.1 r = s.2.1 r := fun r h1 h2 h3 => (b2 r h2).trans ((a2 r h1).trans (e_uf_ne h3))
  have fld : ∀ i, i ≠ 50 → s2.1 i = s.1 i := fun i hi => by rw [b1, a1]; exact e_um_ne hi
  have f50 : s2.1 50 = nI x + 1 := by rw [b1, a1]; rfl
  have r17 : ∀ j, s2.2.1 17 j = if j = x then s.1 49 else s.2.1 17 j := fun j => by
    rw [b2 17 (by decide), a2 17 (by decide)]
    show uf s.2.1 17 (nI x) (s.1 49) 17 j = _
    simp only [uf_at2, y_cl (show x < 2 ^ 31 by omega), true_and]
  have r15 : ∀ j, s2.2.1 15 j = if 12 * x ≤ j ∧ j < 12 * x + 12 then 0 else s.2.1 15 j := fun j => by
    rw [b2 15 (by decide), a3]; rfl
  have r16 : ∀ j, s2.2.1 16 j = if 8 * x ≤ j ∧ j < 8 * x + 8 then 0 else s.2.1 16 j := fun j => by
    rw [b3, a2 16 (by decide)]; rfl
  rw [h21, y_cl (by omega), (hC.2.2 hh hh1).1]
  have n62 : (n_M M (F 18 (400 * K_B K + hh)) 62).toInt = (x : Int) + 1 := by
    show (M 62 + 1).toInt = _
    rw [x2, y_1, fs_nI (by omega)]; omega
  have eb : ∀ i, e_b (n_F M F) i = if i = x then (ot : Int) else e_b F i := fun i => by
    unfold e_b
    rw [(n_F_at h62 hf i).2.2]
    by_cases q : i = x
    · rw [if_pos q, if_pos q, h67]
    · rw [if_neg q, if_neg q]
  refine hQ _ ⟨⟨rfl, (fld 53 (by decide)).trans h53, (fld 54 (by decide)).trans h54⟩, ⟨S_D_cg hD ⟨fld 22 (by decide), fld 23 (by decide)⟩ (rw1 99 (by decide) (by decide) (by decide)) ⟨rfl, rfl⟩ ⟨n_F_ne (by decide), n_F_ne (by decide), n_F_ne (by decide), n_F_ne (by decide), n_F_ne (by decide), n_F_ne (by decide)⟩, ?_, S_C_cg hC (fld 63 (by decide)) ⟨rw1 20 (by decide) (by decide) (by decide), rw1 21 (by decide) (by decide) (by decide), rw1 22 (by decide) (by decide) (by decide)⟩ ⟨n_F_ne (by decide), n_F_ne (by decide)⟩ ⟨⟨fld 1 (by decide), fld 3 (by decide), fld 4 (by decide), fld 32 (by decide), fld 33 (by decide), fld 34 (by decide), fld 35 (by decide), fld 64 (by decide)⟩, rw1 10 (by decide) (by decide) (by decide), rw1 11 (by decide) (by decide) (by decide), rw1 12 (by decide) (by decide) (by decide), rw1 13 (by decide) (by decide) (by decide)⟩⟩, ⟨⟨fun j hj => ?_, fun j hj => ?_⟩, fun i i1 i2 => ?_, ?_, fun t ht => ?_, fun i t hi hb1 hb2 ht => ?_⟩, ?_, S_V_cg hV (fld 52 (by decide)) (rw1 19 (by decide) (by decide) (by decide)) rfl (n_F_ne (by decide))⟩
  · obtain ⟨⟨m1, m2, m3, m4, m5⟩, m6, m7⟩ := hM
    refine ⟨⟨(fld 36 (by decide)).trans m1, (fld 48 (by decide)).trans m2, (fld 31 (by decide)).trans m3, ?_, (fld 37 (by decide)).trans m5⟩, fun j hj => ?_, ?_, m7.2⟩
    · show s2.1 38 + 1 = M 82 + 1
      rw [fld 38 (by decide), m4]
    · have e : (fm (fm s2 49 (nI (K_A K (F 18 (400 * K_B K + hh)).toNatClampNeg))) 38 (s2.1 38 + 1)).2.1 14 = s.2.1 14 := rw1 14 (by decide) (by decide) (by decide)
      rw [e, n_F_ne (by decide)]; exact m6 j hj
    · show s2.1 22 - s2.1 21 = M 55
      rw [fld 22 (by decide), fld 21 (by decide)]; exact m7.1
  · rw [n62] at hj
    show s2.2.1 15 j = _
    rw [r15, (n_F_at h62 hf j).1]
    by_cases q : 12 * x ≤ j ∧ j < 12 * x + 12
    · rw [if_pos q, if_pos q]
    · rw [if_neg q, if_neg q]; exact hN1 j (by omega)
  · rw [n62] at hj
    show s2.2.1 16 j = _
    rw [r16, (n_F_at h62 hf j).2.1]
    by_cases q : 8 * x ≤ j ∧ j < 8 * x + 8
    · rw [if_pos q, if_pos q]
    · rw [if_neg q, if_neg q]; exact hN2 j (by omega)
  · rw [n62] at i2
    rw [n_F_ne (r := 59) (by decide), n_F_ne (r := 13) (by decide), n_F_ne (r := 60) (by decide), n_F_ne (r := 16) (by decide)]
    show ∃ k : Nat, _ ∧ _ ∧ _ ∧ _ ∧ s2.2.1 17 i = _
    rw [r17]
    by_cases q : i = x
    · rw [if_pos q]
      rcases hR with g | g
      · omega
      · rw [q]; exact g
    · rw [if_neg q]; exact hR0 i i1 (by omega)
  · show s2.1 51 = M 67
    rw [fld 51 (by decide)]; exact hT1
  · have ht : (t : Int) < (M 67).toInt := ht
    rw [n_F_ne (r := 64) (by decide), n_F_ne (r := 63) (by decide), n_F_ne (r := 20) (by decide), n_F_ne (r := 65) (by decide), n_F_ne (r := 66) (by decide)]
    show s2.2.1 18 _ = _ ∧ s2.2.1 18 _ = _ ∧ (_ → s2.2.1 18 _ = _ ∧ s2.2.1 18 _ = _)
    rw [rw1 18 (by decide) (by decide) (by decide)]
    exact hT2 t ht
  · have ht : (t : Int) < (M 67).toInt := ht
    rw [n62] at hi
    rw [eb] at hb1
    rw [n62, eb] at hb2
    show s2.2.1 18 _ = _
    rw [rw1 18 (by decide) (by decide) (by decide)]
    by_cases q : i = x
    · rw [if_pos q] at hb1; omega
    · rw [if_neg q] at hb1
      refine hT3 i t (by omega) hb1 (fun w => ?_) ht
      have := hb2 (by omega)
      by_cases q2 : i + 1 = x
      · omega
      · rw [if_neg q2] at this; exact this
  · show s2.1 50 = M 62 + 1
    rw [f50, x2]
end TQH
