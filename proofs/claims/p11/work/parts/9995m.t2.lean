/-! HEARINGS AND THE TEXT. -/
section XT2
variable {E : x_E} {x y : x_X} {w : Nat}
def bw (N : Nat → Nat) (s : f_S3) : Prop := s.1 12 = 137 ∧ ¬ s.2.1 28 1 = -1 ∧ (0 ≤ (s.1 63).toInt ∧ (s.1 63).toInt ≤ N 20)
def rcw (E : x_E) (s : f_S3) (x : x_X) : Prop := (x.1 = true → bw (E_N E) s) ∧ (x.1 = false → rcg E ([], 0, false, false) s x)
theorem rcw_ty {s : f_S3} (h : rcw E s x) : s.1 12 = X_ty E x := by
  cases hb : x.1 with
  | true => rw [(h.1 hb).1, X_tyb hb]
  | false => exact c_ty (rc_g (h.2 hb) hb)
/-- the next hearing -/
def X_nx (x : x_X) : x_X := X_si 1 (X_i x 1 + 1) x
theorem Int32_nn {a : Int32} {j : Nat} (h : 0 ≤ a.toInt) (hj : (j : Int) = a.toInt) : a.toNatClampNeg = j := by
  have : a.toInt.toNat = j := by omega
  exact this
theorem bw_add {N : Nat → Nat} {s : f_S3} {O : Nat × Nat} (h21 : N 21 = 16 ∧ N 22 = 16) (h : bd N s) {p r : Int32} {Q : f_S3 → Nat × Nat → Prop} (hQ : ∀ s', bw N s' → Q s' O) : wF_X6_addHearing N p r s O Q := by
  have h64 := h.2.2.2.2
  have l16 : (16 : Int32).toInt = 16 := by decide
  refine ⟨fun _ => hQ _ ⟨h.1, h.2.1, h.2.2.1⟩, fun q => ?_⟩
  have q := ti_nle q
  rw [l16] at q
  obtain ⟨b1, b2, b3, b4⟩ := bd_ff (c := 22) (i := s.1 64) (v := r) (bd_ff (c := 21) (i := s.1 64) (v := p) h (by decide)) (by decide)
  exact ⟨by rw [h21.1]; exact vp_in_iff.mpr ⟨h64, q⟩, by rw [h21.2]; exact vp_in_iff.mpr ⟨h64, q⟩, hQ _ ⟨b1, b2, b3⟩⟩
theorem c_add (hE : E_ok E) {k : x_Kt} {s : f_S3} {O : Nat × Nat} {p r : Int32} (h : rcg E k s x) (ht : (X_i x 1).toInt + 1 ≤ X_t x) (hr : r = X_r x (X_i x 1).toNatClampNeg) {Q : f_S3 → Nat × Nat → Prop} (hQ : ∀ s', rcg E k s' (X_nx x) → Q s' O) : wF_X6_addHearing (E_N E) p r s O Q := by
  have l1 : (1 : Int32).toInt = 1 := by decide
  have l16 : (16 : Int32).toInt = 16 := by decide
  obtain ⟨-, -, -, -, n21, n22⟩ := hE.2.2.2.2
  have hn := E_n4 hE
  obtain ⟨g1, g2, ⟨i1, i2⟩, g4, g5, g6, ⟨p1, p2⟩⟩ := h
  have hmm := g1.2.2
  have e1 : (X_i x 1 + 1).toInt = (X_i x 1).toInt + 1 := by rw [ti_addx _ _ (by rw [l1]; omega), l1]
  have fin : ∀ s1 : f_S3, s1.1 = s.1 → (∀ c, c ≠ 21 → c ≠ 22 → s1.2.1 c = s.2.1 c) → (∀ j : Nat, (j : Int) < (X_i x 1).toInt + 1 → j < 16 → s1.2.1 22 j = X_r x j) → rcg E k (fm s1 64 ((s1.1 64) + 1)) (X_nx x) := by
    intro s1 e er e22
    have em : ∀ j, j ≠ 64 → (fm s1 64 ((s1.1 64) + 1)).1 j = s.1 j := fun j hj => by
      have : (fm s1 64 ((s1.1 64) + 1)).1 j = s1.1 j := (um_ne hj : um s1.1 64 _ j = s1.1 j)
      rw [this, e]
    have e64 : (fm s1 64 ((s1.1 64) + 1)).1 64 = X_i x 1 + 1 := by
      have : (fm s1 64 ((s1.1 64) + 1)).1 64 = s1.1 64 + 1 := (um_eq : um s1.1 64 _ 64 = _)
      rw [this, e, i1]
    refine ⟨c_k_cg g1 ⟨em 26 (by decide), em 11 (by decide), em 12 (by decide), em 13 (by decide), em 14 (by decide)⟩ ⟨er 11 (by decide) (by decide), er 12 (by decide) (by decide), er 13 (by decide) (by decide)⟩, c_f_cg g2 (er 28 (by decide) (by decide)), ⟨e64, fun a b => ?_⟩, c_t_cg g4 ⟨er 23 (by decide) (by decide), er 25 (by decide) (by decide)⟩, c_z_cg g5 (em 63 (by decide)), c_h_cg g6 (em 8 (by decide)) ⟨er 26 (by decide) (by decide), er 20 (by decide) (by decide), er 27 (by decide) (by decide)⟩, ⟨?_, fun j hj hj' => ?_⟩⟩
    · rw [em 9 (by decide), em 10 (by decide)]; exact i2 a b
    · show 0 ≤ (X_i x 1 + 1).toInt ∧ (X_i x 1 + 1).toInt ≤ X_t x
      omega
    · have hj : (j : Int) < (X_i x 1 + 1).toInt := hj
      exact e22 j (by omega) hj'
  refine ⟨fun q => ?_, fun q => ?_⟩
  · rw [i1, Int32.le_iff_toInt_le, l16] at q
    exact hQ _ (fin s rfl (fun _ _ _ => rfl) (fun j _ hj' => p2 j (by omega) hj'))
  · rw [i1, Int32.le_iff_toInt_le, l16] at q
    have hq : (X_i x 1).toInt < 16 := by omega
    rw [n21, n22, i1]
    refine ⟨vp_in_iff.mpr ⟨p1.1, hq⟩, vp_in_iff.mpr ⟨p1.1, hq⟩, hQ _ (fin (ff (ff s 21 (X_i x 1) p) 22 (X_i x 1) r) rfl (fun c h1 h2 => ?_) (fun j hj hj' => ?_))⟩
    · show uf (uf s.2.1 21 (X_i x 1) p) 22 (X_i x 1) r c = s.2.1 c
      rw [uf_row h2, uf_row h1]
    · show uf (uf s.2.1 21 (X_i x 1) p) 22 (X_i x 1) r 22 j = X_r x j
      rw [uf_at2]
      by_cases z : j = (X_i x 1).toNatClampNeg
      · rw [if_pos ⟨rfl, z⟩, z]; exact hr
      · rw [if_neg (fun y => z y.2), uf_at2, if_neg (fun y => absurd y.1 (by decide))]
        have : (j : Int) ≠ (X_i x 1).toInt := fun y => z (Int32_nn p1.1 y).symm
        exact p2 j (by omega) hj'
theorem re_sr (hE : E_ok E) {b : Nat} {M : Nat → Int32} {F : Nat → Nat → Int32} {a c : Int32} (h : rxg E (b, false) M F x) (ha : a = 400 * nI b + X_i x 1) : rxg E (b, true) M (uf F 19 a c) (X_sr c x) := by
  obtain ⟨g1, g2, g3, g4, ⟨h1, h2⟩, ⟨⟨p1, p2, p3, p4⟩, p5⟩⟩ := h
  have hn := E_n4 hE
  have hmm := g1.2
  have p2 : b ≤ 1 := p2
  have e4 : (400 * nI b : Int32).toInt = 400 * (b : Int) := by
    have : b = 0 ∨ b = 1 := by omega
    rcases this with rfl | rfl <;> decide
  have ea : a.toInt = 400 * (b : Int) + (X_i x 1).toInt := by rw [ha, ti_addx _ _ (by rw [e4]; omega), e4]
  have en : a.toNatClampNeg = 400 * b + (X_i x 1).toNatClampNeg := by
    have e1 : a.toNatClampNeg = a.toInt.toNat := rfl
    have e2 : (X_i x 1).toNatClampNeg = (X_i x 1).toInt.toNat := rfl
    rw [e1, e2, ea]; omega
  refine ⟨rz_q_cg g1 rfl rfl rfl rfl rfl rfl rfl rfl rfl, g2, g3, g4, ⟨h1, h2⟩, ⟨⟨p1, p2, p3, p4⟩, fun j hj => ?_⟩⟩
  show uf F 19 a c 19 (400 * b + j) = fu (X_r x) (X_i x 1).toNatClampNeg c j
  have e2 : (X_i x 1).toNatClampNeg = (X_i x 1).toInt.toNat := rfl
  unfold fu
  rw [uf_at2, en]
  by_cases z : j = (X_i x 1).toNatClampNeg
  · rw [if_pos ⟨rfl, by rw [z]⟩, if_pos z]
  · rw [if_neg (fun y => z (by omega)), if_neg z]
    refine p5 j (Or.inl ?_)
    rcases hj with hj | ⟨-, hj⟩
    · exact hj
    · have hj : (j : Int) = (X_i x 1).toInt := hj
      exact absurd (Int32_nn p3 hj).symm z
theorem re_nx (hE : E_ok E) {b : Nat} {M : Nat → Int32} {F : Nat → Nat → Int32} (h : rxg E (b, true) M F x) (ht : (X_i x 1).toInt + 1 ≤ X_t x) : rxg E (b, false) (um M 30 (M 30 + 1)) F (X_nx x) := by
  have l1 : (1 : Int32).toInt = 1 := by decide
  obtain ⟨g1, g2, ⟨i0, i1, i2⟩, g4, ⟨h1, h2⟩, ⟨⟨p1, p2, p3, p4⟩, p5⟩⟩ := h
  have hn := E_n4 hE
  have hmm := g1.2
  have e1 : (X_i x 1 + 1).toInt = (X_i x 1).toInt + 1 := by rw [ti_addx _ _ (by rw [l1]; omega), l1]
  refine ⟨rz_q_cg g1 rfl rfl rfl rfl rfl rfl rfl rfl rfl, g2, ⟨i0, ?_, i2⟩, g4, ⟨h1, h2⟩, ⟨⟨p1, p2, ?_, ?_⟩, fun j hj => ?_⟩⟩
  · show um M 30 (M 30 + 1) 30 = X_i x 1 + 1
    rw [um_eq, i1]
  · show 0 ≤ (X_i x 1 + 1).toInt; omega
  · show (X_i x 1 + 1).toInt ≤ X_t x; omega
  · refine p5 j ?_
    rcases hj with hj | ⟨hj, -⟩
    · have hj : (j : Int) < (X_i x 1 + 1).toInt := hj
      by_cases z : (j : Int) < (X_i x 1).toInt
      · exact Or.inl z
      · exact Or.inr ⟨rfl, by show (j : Int) = (X_i x 1).toInt; omega⟩
    · exact absurd hj (by show ¬ false = true; decide)
theorem re_sv (hE : E_ok E) {k : x_B} {M : Nat → Int32} {F : Nat → Nat → Int32} (wl : w < E_l E (X_t x)) (wL : w < E_L E) (h : rxg E k M F x) : rxg E k M (uf F 11 (nI w) (M 30)) (X_sv w x) := by
  have hL : E_L E ≤ 2005 := hE.1.2.2.2.2.1
  obtain ⟨g1, g2, ⟨i0, i1, i2⟩, ⟨t1, t2⟩, g5, g6⟩ := h
  refine ⟨rz_q_cg g1 rfl rfl rfl rfl rfl rfl rfl rfl rfl, g2, ⟨i0, i1, i2⟩, ⟨fun v hv => ⟨(t1 v hv).1, ?_⟩, fun v hv => ⟨(t2 v hv).1, ?_⟩⟩, g5, g6⟩
  · show uf F 11 (nI w) (M 30) 11 v = fu (X_v x) w (X_i x 1) v
    unfold fu
    rw [uf_at2, y_cl (by omega), i1]
    by_cases q : v = w
    · rw [if_pos ⟨rfl, q⟩, if_pos q]
    · rw [if_neg (fun z => q z.2), if_neg q]; exact (t1 v hv).2
  · show fu (X_v x) w (X_i x 1) v = -1
    unfold fu
    have hv : E_l E (X_t x) ≤ v := hv
    rw [if_neg (by omega)]; exact (t2 v hv).2
theorem re_h0 {k : x_B} {M : Nat → Int32} {F : Nat → Nat → Int32} (h : rxg E k M F x) : rxg E k (um (um M 34 0) 35 0) F (X_h0 x) := re_i (re_i h (Or.inl ⟨rfl, rfl⟩) (a := 0) (b := 0) (fun _ _ => rfl)) (Or.inr ⟨rfl, rfl⟩) (a := 0) (b := 0) (fun _ _ => rfl)
/-- the reference's text: from the word hearing to the next one -/
def tbb (WB : x_RW) (K0 Q : (Nat → Int32) → (Nat → Nat → Int32) → Prop) (M : Nat → Int32) (F : Nat → Nat → Int32) : Prop := w_needWord 0 M F (fun M3 F3 => (w_taken 1 M3 F3 (fun r4 M5 F5 => (w_bad M5 F5 (fun r6 M7 F7 => ((r6 = 0 → (vp_in r4 2100 ∧ ((((F7 11) (r4).toNatClampNeg) = (-1) → (vp_in r4 2100 ∧ (w_text_71 WB K0 Q M7 (uf F7 11 r4 (M7 30))))) ∧ (¬ ((F7 11) (r4).toNatClampNeg) = (-1) → (w_least (M7 37) (M7 47) M7 F7 (fun r13 M14 F14 => (w_text_71 WB K0 Q (um M14 37 r13) F14))))))) ∧ (¬ r6 = 0 → (Q M7 F7))))))))
end XT2
