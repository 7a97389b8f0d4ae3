/-! THE TEXT'S END: the codes of both sides against each other. -/
section YTa
variable {E : x_E} {y : y_X}
/-- the class's ints, the reference's row of first numbers, the first n hears found -/
def fdC (y : y_X) : Nat → Nat → Int32
  | 0 => Y_C y
  | i + 1 => f1 (fdC y i) (nI (Y_a y 6 i)).toNatClampNeg (Y_v y ((Y_l y).getD i (0, 0)).1)
def fdR (y : y_X) : Nat → Nat → Int32
  | 0 => Y_R y 14
  | i + 1 => f1 (fdR y i) (nI (Y_a y 5 i)).toNatClampNeg (400 * nI (Y_B y) + Y_v y ((Y_l y).getD i (0, 0)).1)
theorem fd_C {p : Nat} : ∀ n, (∀ i, i < n → ¬ (nI (Y_a y 6 i)).toNatClampNeg = p) → fdC y n p = Y_C y p := by
  intro n
  induction n with
  | zero => exact fun _ => rfl
  | succ n ih =>
    intro h
    show f1 (fdC y n) (nI (Y_a y 6 n)).toNatClampNeg _ p = Y_C y p
    rw [f1_ne (fun q => h n (Nat.lt_succ_self _) q.symm)]
    exact ih (fun i hi => h i (by omega))
theorem fd_R {k : Nat} : ∀ n, (∀ i, i < n → ¬ (nI (Y_a y 5 i)).toNatClampNeg = k) → fdR y n k = Y_R y 14 k := by
  intro n
  induction n with
  | zero => exact fun _ => rfl
  | succ n ih =>
    intro h
    show f1 (fdR y n) (nI (Y_a y 5 n)).toNatClampNeg _ k = Y_R y 14 k
    rw [f1_ne (fun q => h n (Nat.lt_succ_self _) q.symm)]
    exact ih (fun i hi => h i (by omega))
theorem fd_P {k p : Nat} : ∀ n, (∀ i, i < n → ((nI (Y_a y 5 i)).toNatClampNeg = k ↔ (nI (Y_a y 6 i)).toNatClampNeg = p)) → (∃ i, i < n ∧ (nI (Y_a y 5 i)).toNatClampNeg = k) → ∃ i, i < n ∧ fdC y n p = Y_v y ((Y_l y).getD i (0, 0)).1 ∧ fdR y n k = 400 * nI (Y_B y) + Y_v y ((Y_l y).getD i (0, 0)).1 := by
  intro n
  induction n with
  | zero => exact fun _ ⟨i, hi, _⟩ => absurd hi (by omega)
  | succ n ih =>
    intro h hx
    by_cases q : (nI (Y_a y 5 n)).toNatClampNeg = k
    · have q' := (h n (Nat.lt_succ_self _)).mp q
      refine ⟨n, Nat.lt_succ_self _, ?_, ?_⟩
      · show f1 (fdC y n) (nI (Y_a y 6 n)).toNatClampNeg _ p = _
        rw [q', f1_eq]
      · show f1 (fdR y n) (nI (Y_a y 5 n)).toNatClampNeg _ k = _
        rw [q, f1_eq]
    · have q' : ¬ (nI (Y_a y 6 n)).toNatClampNeg = p := fun z => q ((h n (Nat.lt_succ_self _)).mpr z)
      obtain ⟨i, hi, e⟩ := hx
      have hin : i < n := by
        by_cases z : i = n
        · rw [z] at e; exact absurd e q
        · omega
      obtain ⟨j, hj, a, b⟩ := ih (fun i hi => h i (by omega)) ⟨i, hin, e⟩
      refine ⟨j, by omega, ?_, ?_⟩
      · show f1 (fdC y n) (nI (Y_a y 6 n)).toNatClampNeg _ p = _
        rw [f1_ne (fun z => q' z.symm)]; exact a
      · show f1 (fdR y n) (nI (Y_a y 5 n)).toNatClampNeg _ k = _
        rw [f1_ne (fun z => q z.symm)]; exact b
theorem A_lt (h : mon y) {k : Nat} (h1 : 9000 * Y_B y ≤ k) : ∀ k', k < k' → k' ≤ Y_n y → Y_a y 0 k < Y_a y 0 k' := by
  intro k'
  induction k' with
  | zero => exact fun q => absurd q (by omega)
  | succ n ih =>
    intro h2 h3
    by_cases q : k = n
    · rw [q]; exact h.1 n (by omega) (by omega)
    · exact Nat.lt_trans (ih (by omega) (by omega)) (h.1 n (by omega) (by omega))
theorem A_bt (h : mon y) {k e : Nat} (h1 : 9000 * Y_B y ≤ k) (h2 : k < Y_n y) (h3 : 9000 * Y_B y ≤ e) (h4 : e ≤ Y_n y) : Y_a y 0 e ≤ Y_a y 0 k ∨ Y_a y 0 (k + 1) ≤ Y_a y 0 e := by
  by_cases q : e ≤ k
  · by_cases z : e = k
    · rw [z]; exact Or.inl (Nat.le_refl _)
    · exact Or.inl (Nat.le_of_lt (A_lt h h3 k (by omega) (by omega)))
  · by_cases z : e = k + 1
    · rw [z]; exact Or.inr (Nat.le_refl _)
    · exact Or.inr (Nat.le_of_lt (A_lt h (by omega) e (by omega) h4))
theorem k_e_t {n a b c w j t t' l h : Int32} (q : ¬ n = 22) : k_e n a b c w j t l h = k_e n a b c w j t' l h := by
  unfold k_e
  simp only [if_neg q]
theorem k_e_18 {a b c w j t l h : Int32} : k_e 18 a b c w j t l h = if c = -1 then [2, h, b, 10] else [2, h, b, 9, c] := by
  unfold k_e
  rw [if_neg (by decide), if_neg (by decide), if_neg (by decide), if_neg (by decide), if_neg (by decide), if_neg (by decide), if_neg (by decide), if_neg (by decide), if_neg (by decide), if_neg (by decide), if_neg (by decide), if_neg (by decide), if_neg (by decide), if_neg (by decide), if_neg (by decide), if_neg (by decide), if_neg (by decide), if_pos rfl]
/-- a code held against another Program and other rows -/
theorem k_at_g {K K' : k_K} {F F' : e_F} {k : Nat} (hz : K_z K' = K_z K) (hA : K_A K' = K_A K) (hL : K_L K' = K_L K) (hH : K_H K' = K_H K) (hx : K_x K' = K_x K) (ho : K_o K' = K_o K) (hB : K_B K' = K_B K) (hE : K_E K' = K_E K) (hT : K_T K' = K_T K) (hN : K_N K' = K_N K) (h13 : F' 13 k = F 13 k) (h14 : F' 14 k = F 14 k) (h15 : F' 15 k = F 15 k) (h16 : F' 16 k = F 16 k) (h17 : F' 17 k = F 17 k) (h20 : F 13 k = 22 → F' 20 (F 14 k).toNatClampNeg = F 20 (F 14 k).toNatClampNeg) (hC : ∀ i, i < (k_en K F k).length → K_C K' (K_A K k + i) = K_C K (K_A K k + i)) (h : k_at K F k) : k_at K' F' k := by
  have en : k_en K' F' k = k_en K F k := by
    unfold k_en k_hx
    rw [h13, h14, h15, h16, h17, hA, hL, hB, hH]
    by_cases q : F 13 k = 22
    · rw [h20 q]
    · exact k_e_t q
  have wf : ∀ l, k_wf K l → k_wf K' l := k_wfc (fun a => by rw [ho]) hB (by rw [hT]; exact Nat.le_refl _)
  obtain ⟨⟨a1, a2⟩, a3, a4, a5, a6, a7, a8, a9, a10, a11⟩ := h
  unfold k_at
  rw [en, h13, h14, h15, h16, hz, hA, hx, ho, hB, hE, hT, hN]
  refine ⟨⟨a1, fun i hi => (hC i hi).trans (a2 i hi)⟩, a3, a4, fun q => ?_, a6, a7, a8, a9, a10, wf _ a11⟩
  obtain ⟨t, t1, t2, t3, t4⟩ := a5 q
  exact ⟨t, t1, by rw [hB]; exact t2, by rw [hE]; exact t3, by rw [hx]; exact t4⟩
/-- the Program and the maps at the text's end -/
def gF (y : y_X) (P : (Nat → Int32) × (Nat → Nat → Int32)) : k_K := (fdC y (Y_l y).length, Y_z y, Y_a y 0, Y_a y 1, Y_a y 2, Y_k y 0, Y_k y 1, Y_a y 3, Y_B y, Y_n y, Y_T y, Y_V y, (Y_i y 1).toNatClampNeg, P)
theorem fin_cor {KP : (Nat → Int32) × (Nat → Nat → Int32)} {F : e_F} (h : H_in y) (hz : Y_z y ≤ 8000) (hl : ∀ p, p ∈ Y_l y → p.1 < 2005) (hv : ∀ w, Y_v y w = -1 ∨ (0 ≤ (Y_v y w).toInt ∧ (Y_v y w).toInt < (Y_i y 1).toInt)) (hi : 0 ≤ (Y_i y 1).toInt ∧ (Y_i y 1).toInt ≤ 16) (ha : ∀ j, j < (Y_l y).length → ¬ Y_v y ((Y_l y).getD j (0, 0)).1 = -1) (hT : Y_T y ≤ 800) (r13 : ∀ r k, r = 13 ∨ r = 15 ∨ r = 16 ∨ r = 17 → 9000 * Y_B y ≤ k → k < Y_n y → F r k = Y_R y r k) (r14 : ∀ k, 9000 * Y_B y ≤ k → k < Y_n y → F 14 k = fdR y (Y_l y).length k) (r20 : ∀ r t, 20 ≤ r → r ≤ 22 → 400 * Y_B y ≤ t → t < Y_T y → F r t = Y_R y r t) (r23 : ∀ r u, 23 ≤ r → r ≤ 26 → 400 * Y_B y ≤ u → u < Y_V y → F r u = Y_R y r u) (r18 : ∀ h : Nat, (h : Int) < (Y_i y 1).toInt → F 18 (400 * Y_B y + h) = Y_r y (100000 + h)) : k_cor (gF y KP) F := by
  obtain ⟨⟨i, hc⟩, hu, ⟨⟨d1, d2, d3⟩, dm, dl⟩, dh⟩ := h
  obtain ⟨⟨i1, i2⟩, i3, ⟨i4, im⟩, i5, i6, i7⟩ := id i
  have eN : (Y_i y 1).toNatClampNeg = (Y_i y 1).toInt.toNat := rfl
  have bn : Y_n y = 9000 * Y_B y + Y_m y 0 := rfl
  have bT : Y_T y = 400 * Y_B y + Y_m y 1 := rfl
  have bV : Y_V y = 400 * Y_B y + Y_m y 2 := rfl
  have i6 : 4 * Y_m y 2 ≤ Y_z y := i6
  have hhead : (K_z (gF y KP) < 1000000 ∧ K_B (gF y KP) ≤ 1 ∧ K_E (gF y KP) ≤ 9000 * K_B (gF y KP) + 9000 ∧ K_T (gF y KP) ≤ 800 ∧ K_V (gF y KP) ≤ 2500 ∧ K_N (gF y KP) ≤ 16) := by
    refine ⟨?_, ?_, ?_, ?_, ?_, ?_⟩
    · show Y_z y < 1000000; omega
    · show Y_B y ≤ 1; omega
    · show Y_n y ≤ 9000 * Y_B y + 9000; omega
    · show Y_T y ≤ 800; omega
    · show Y_V y ≤ 2500; omega
    · show (Y_i y 1).toNatClampNeg ≤ 16; omega
  by_cases hm : Y_m y 0 = 0
  · obtain ⟨m1, m2, m3⟩ := dm hm
    refine ⟨hhead, fun k h1 h2 => ?_, fun t h1 h2 => ?_, fun u h1 h2 => ?_, fun hh h1 => ?_⟩
    · have h1 : 9000 * Y_B y ≤ k := h1
      have h2 : k < Y_n y := h2
      omega
    · have h1 : 400 * Y_B y ≤ t := h1
      have h2 : t < Y_T y := h2
      omega
    · have h1 : 400 * Y_B y ≤ u := h1
      have h2 : u < Y_V y := h2
      omega
    · have h1 : hh < (Y_i y 1).toNatClampNeg := h1
      omega
  have dn := dn_n (y := y) (by omega)
  obtain ⟨l1, l2, l3, l4⟩ := dl hm
  -- the hears
  have hr18 : ∀ k, 9000 * Y_B y ≤ k → k < Y_n y → Y_R y 13 k = 18 → k + 1 < Y_n y ∧ G_hr (Y_dn y) k := fun k h1 h2 h3 => by
    have hk : k + 1 < Y_n y := by
      by_cases q : k + 1 < Y_n y
      · exact q
      · have ek : Y_n y - 1 = k := by omega
        rw [ek, h3] at l1
        exact absurd l1 (by decide)
    exact ⟨hk, (d1 k h1 hk).2.1 h3⟩
  have hgap : ∀ k, 9000 * Y_B y ≤ k → k < Y_n y → Y_R y 13 k = 18 → Y_a y 0 k + 4 ≤ Y_a y 0 (k + 1) ∧ 33 ≤ (Y_C y (Y_a y 0 k + 1)).toInt := fun k h1 h2 h3 => by
    obtain ⟨hk, j, ⟨g1, g2, g3, g4⟩, ⟨g5, g6, g7⟩, g8, g9, -⟩ := hr18 k h1 h2 h3
    have g6 : Y_C y (Y_a y 0 k + 1) = nI (33 + ((Y_l y).getD j (0, 0)).1) := g6
    have g1 : j < (Y_l y).length := g1
    have hw : ((Y_l y).getD j (0, 0)).1 < 2005 := by
      refine hl _ ?_
      rw [List.getD_eq_getElem?_getD, List.getElem?_eq_getElem g1]
      exact List.getElem_mem g1
    refine ⟨?_, by rw [g6, fs_nI (by omega)]; omega⟩
    by_cases q : Y_R y 16 k = -1
    · have := (g8 q).2
      have : Y_a y 0 (k + 1) = Y_a y 0 k + 4 := this
      omega
    · have := (g9 q).2.2
      have : Y_a y 0 (k + 1) = Y_a y 0 k + 5 := this
      omega
  have hAz : ∀ k, 9000 * Y_B y ≤ k → k < Y_n y → Y_a y 0 k < Y_z y := fun k h1 h2 => by
    have := A_lt im h1 (Y_n y) h2 (Nat.le_refl _)
    rw [i1] at this; exact this
  have c5 : ∀ j, j < (Y_l y).length → (nI (Y_a y 5 j)).toNatClampNeg = Y_a y 5 j := fun j hj => y_cl (by have := (im.2 j hj).1.2; omega)
  have c6 : ∀ j, j < (Y_l y).length → (nI (Y_a y 6 j)).toNatClampNeg = Y_a y 0 (Y_a y 5 j) + 1 := fun j hj => by
    obtain ⟨⟨a1, a2⟩, a3, a4⟩ := im.2 j hj
    have := hAz _ a1 a2
    rw [a3]; exact y_cl (by omega)
  have vC : ∀ p, (Y_C y p).toInt < 33 → fdC y (Y_l y).length p = Y_C y p := fun p hp => fd_C _ (fun j hj q => by
    obtain ⟨⟨a1, a2⟩, a3, a4⟩ := im.2 j hj
    rw [c6 j hj] at q
    have := (hgap _ a1 a2 a4).2
    rw [q] at this; omega)
  have hat : ∀ k, 9000 * Y_B y ≤ k → k < Y_n y → ¬ Y_R y 13 k = 18 → k_at (gK (Y_dn y)) (Y_R y) k := fun k h1 h2 h3 => by
    by_cases q : k + 1 < Y_n y
    · exact (d1 k h1 q).1 h3
    · have ek : k = Y_n y - 1 := by omega
      rw [← ek] at l1 l2 l3 l4
      exact (G_19 (y := Y_dn y) l1 l3 l2 l4).1 h3
  refine ⟨hhead, fun k h1 h2 => ?_, fun t h1 h2 => ?_, fun u h1 h2 => ?_, fun hh h1 => ?_⟩
  · have h1 : 9000 * Y_B y ≤ k := h1
    have h2 : k < Y_n y := h2
    have e13 := r13 13 k (Or.inl rfl) h1 h2
    have e15 := r13 15 k (Or.inr (Or.inl rfl)) h1 h2
    have e16 := r13 16 k (Or.inr (Or.inr (Or.inl rfl))) h1 h2
    have e17 := r13 17 k (Or.inr (Or.inr (Or.inr rfl))) h1 h2
    by_cases h3 : Y_R y 13 k = 18
    · obtain ⟨hk, j, ⟨g1, g2, g3, g4⟩, ⟨g5, g6, g7⟩, g8, g9, g10, g11, g12⟩ := hr18 k h1 h2 h3
      have g1 : j < (Y_l y).length := g1
      have g2 : Y_a y 5 j = k := g2
      have g5 : Y_C y (Y_a y 0 k) = 2 := g5
      have g7 : Y_C y (Y_a y 0 k + 2) = Y_R y 15 k := g7
      have g10 : Y_a y 0 (k + 1) ≤ Y_z y := g10
      have hgk := (hgap k h1 h2 h3).1
      obtain ⟨n, hn, v1, v2⟩ := fd_P (y := y) (k := k) (p := Y_a y 0 k + 1) (Y_l y).length (fun m hm => by
        obtain ⟨⟨a1, a2⟩, a3, a4⟩ := im.2 m hm
        rw [c5 m hm, c6 m hm]
        refine ⟨fun q => by rw [q], fun q => ?_⟩
        have q : Y_a y 0 (Y_a y 5 m) = Y_a y 0 k := by omega
        by_cases z : Y_a y 5 m = k
        · exact z
        · by_cases z2 : Y_a y 5 m < k
          · have := A_lt im a1 k z2 (by omega); omega
          · have := A_lt im h1 (Y_a y 5 m) (by omega) (by omega); omega) ⟨j, g1, by rw [c5 j g1]; exact g2⟩
      have hvv := (hv ((Y_l y).getD n (0, 0)).1).resolve_left (ha n hn)
      generalize Y_v y ((Y_l y).getD n (0, 0)).1 = v at *
      have ev : v = nI v.toInt.toNat := by
        apply Int32.toInt_inj.mp
        rw [fs_nI (by omega)]; omega
      have e14 : F 14 k = nI (400 * Y_B y + v.toInt.toNat) := by
        rw [r14 k h1 h2, v2, ev, show (400 : Int32) = nI 400 from rfl, pk_mul, nI_add, ← ev]
      have eh : F 14 k - nI (400 * Y_B y) = v := by
        rw [e14, y_sub (by omega) (by omega), Nat.add_sub_cancel_left]; exact ev.symm
      -- the other ints stay
      have st : ∀ d, ¬ d = 1 → (d < 4 ∨ (d < 5 ∧ Y_a y 0 (k + 1) = Y_a y 0 k + 5)) → fdC y (Y_l y).length (Y_a y 0 k + d) = Y_C y (Y_a y 0 k + d) := fun d hd1 hd2 => fd_C _ (fun m hm q => by
        obtain ⟨⟨a1, a2⟩, a3, a4⟩ := im.2 m hm
        rw [c6 m hm] at q
        by_cases z : Y_a y 5 m = k
        · rw [z] at q; omega
        · have g := (hgap _ a1 a2 a4).1
          by_cases z2 : Y_a y 5 m < k
          · rcases A_bt im a1 a2 h1 (by omega : k ≤ Y_n y) with w | w
            · have := A_lt im a1 k z2 (by omega); omega
            · omega
          · rcases A_bt im h1 h2 a1 (by omega : Y_a y 5 m ≤ Y_n y) with w | w
            · have := A_lt im h1 (Y_a y 5 m) (by omega) (by omega); omega
            · omega)
      have en : k_en (gF y KP) F k = if Y_R y 16 k = -1 then [2, v, Y_R y 15 k, 10] else [2, v, Y_R y 15 k, 9, Y_R y 16 k] := by
        unfold k_en
        rw [e13, h3, e15, e16, k_e_18]
        have eh' : F 14 k - nI (400 * K_B (gF y KP)) = v := eh
        rw [eh']
      unfold k_at
      rw [en, e13, h3]
      have hx : Y_k y 0 (k + 1) = Y_k y 0 k := g11
      refine ⟨?_, fun _ _ _ => ⟨?_, hk⟩, fun _ _ _ _ _ => hx, fun q => absurd q (by decide), fun q => absurd q (by decide), fun q => absurd q (by decide), fun q => absurd q (by decide), ⟨fun q => absurd q (by decide), fun q => absurd q (by decide)⟩, fun _ => ⟨v.toInt.toNat, ?_, e14⟩, ?_⟩
      · by_cases q : Y_R y 16 k = -1
        · obtain ⟨g13, g14⟩ := g8 q
          have g13 : Y_C y (Y_a y 0 k + 3) = 10 := g13
          have g14 : Y_a y 0 (k + 1) = Y_a y 0 k + 4 := g14
          rw [if_pos q]
          refine ⟨by show Y_a y 0 k + 4 ≤ Y_z y; omega, fun d hd => ?_⟩
          have hd : d < 4 := hd
          show fdC y (Y_l y).length (Y_a y 0 k + d) = _
          have cs : d = 0 ∨ d = 1 ∨ d = 2 ∨ d = 3 := by omega
          rcases cs with rfl | rfl | rfl | rfl
          · rw [st 0 (by decide) (Or.inl (by decide))]; exact g5
          · exact v1
          · rw [st 2 (by decide) (Or.inl (by decide))]; exact g7
          · rw [st 3 (by decide) (Or.inl (by decide))]; exact g13
        · obtain ⟨g13, g14, g15⟩ := g9 q
          have g13 : Y_C y (Y_a y 0 k + 3) = 9 := g13
          have g14 : Y_C y (Y_a y 0 k + 4) = Y_R y 16 k := g14
          have g15 : Y_a y 0 (k + 1) = Y_a y 0 k + 5 := g15
          rw [if_neg q]
          refine ⟨by show Y_a y 0 k + 5 ≤ Y_z y; omega, fun d hd => ?_⟩
          have hd : d < 5 := hd
          show fdC y (Y_l y).length (Y_a y 0 k + d) = _
          have cs : d = 0 ∨ d = 1 ∨ d = 2 ∨ d = 3 ∨ d = 4 := by omega
          rcases cs with rfl | rfl | rfl | rfl | rfl
          · rw [st 0 (by decide) (Or.inl (by decide))]; exact g5
          · exact v1
          · rw [st 2 (by decide) (Or.inl (by decide))]; exact g7
          · rw [st 3 (by decide) (Or.inl (by decide))]; exact g13
          · rw [st 4 (by decide) (Or.inr ⟨by decide, g15⟩)]; exact g14
      · show Y_a y 0 (k + 1) = Y_a y 0 k + _
        by_cases q : Y_R y 16 k = -1
        · rw [if_pos q]; exact (g8 q).2
        · rw [if_neg q]; exact (g9 q).2.2
      · show v.toInt.toNat < (Y_i y 1).toNatClampNeg
        omega
      · exact k_wfc (K := gK (Y_dn y)) (K' := gF y KP) (fun _ => rfl) dn_B.symm (Nat.le_of_eq dn_T) _ g12
    · have hk := hat k h1 h2 h3
      have nk : ∀ j, j < (Y_l y).length → ¬ Y_a y 5 j = k := fun j hj q => by
        have := (im.2 j hj).2.2
        rw [q] at this; exact h3 this
      refine k_at_g (K := gK (Y_dn y)) (K' := gF y KP) (F := Y_R y) rfl rfl rfl rfl rfl rfl dn_B.symm dn.symm dn_T.symm rfl e13 ?_ e15 e16 e17 (fun q => ?_) (fun d hd => ?_) hk
      · rw [r14 k h1 h2]; exact fd_R _ (fun j hj q => nk j hj (by rw [c5 j hj] at q; exact q))
      · obtain ⟨a, a1, ⟨a2, a3⟩, -⟩ := hk.2.2.2.2.1 q
        have a2 : 400 * Y_B (Y_dn y) ≤ a := a2
        have a3 : a < Y_T (Y_dn y) := a3
        rw [dn_B] at a2
        rw [dn_T] at a3
        rw [a1, y_cl (by omega)]
        exact r20 20 a (by decide) (by decide) a2 a3
      · show fdC y (Y_l y).length (Y_a y 0 k + d) = Y_C y (Y_a y 0 k + d)
        refine fd_C _ (fun m hm q => ?_)
        obtain ⟨⟨a1, a2⟩, a3, a4⟩ := im.2 m hm
        have nm := nk m hm
        rw [c6 m hm] at q
        have g := (hgap _ a1 a2 a4).1
        by_cases z2 : Y_a y 5 m < k
        · rcases A_bt im a1 a2 h1 (by omega : k ≤ Y_n y) with w | w
          · have := A_lt im a1 k z2 (by omega); omega
          · omega
        · have w : Y_a y 0 (k + 1) ≤ Y_a y 0 (Y_a y 5 m) := by
            rcases A_bt im h1 h2 a1 (by omega : Y_a y 5 m ≤ Y_n y) with w | w
            · have := A_lt im h1 (Y_a y 5 m) (by omega) (by omega); omega
            · exact w
          have sk := im.1 k h1 h2
          have hlen : (k_en (gK (Y_dn y)) (Y_R y) k).length ≤ 2 ∨ Y_a y 0 (k + 1) = Y_a y 0 k + (k_en (gK (Y_dn y)) (Y_R y) k).length := by
            by_cases t19 : Y_R y 13 k = 19
            · left; unfold k_en; rw [t19, k_e_19]; decide
            · by_cases t20 : Y_R y 13 k = 20
              · left; unfold k_en; rw [t20, k_e_20]; exact Nat.le_refl _
              · by_cases t23 : Y_R y 13 k = 23
                · left; unfold k_en; rw [t23, k_e_23]; decide
                · right; exact (hk.2.1 t19 t20 t23).1
          rcases hlen with z | z <;> omega
  · have h1 : 400 * Y_B y ≤ t := h1
    have h2 : t < Y_T y := h2
    obtain ⟨⟨t1, t2, t3, t4⟩, -⟩ := d2 t h1 h2
    have e20 := r20 20 t (by decide) (by decide) h1 h2
    have e21 := r20 21 t (by decide) (by decide) h1 h2
    have e22 := r20 22 t (by decide) (by decide) h1 h2
    refine ⟨fun q => ?_, fun q => ?_, ?_, t4⟩
    · rw [e21] at q
      obtain ⟨a, e, b1, ⟨b2, b3⟩, b4, b5⟩ := t1 q
      have a : Y_C y (Y_a y 1 t) = 6 := a
      have b2 : 9000 * Y_B (Y_dn y) ≤ e := b2
      rw [dn_B] at b2
      refine ⟨?_, e, by rw [e22]; exact b1, ⟨b2, ?_⟩, b4, b5⟩
      · show fdC y (Y_l y).length (Y_a y 1 t) = 6
        rw [vC _ (by rw [a]; decide)]; exact a
      · show e < Y_n y
        have b3 : e < Y_n (Y_dn y) + 1 := b3
        omega
    · rw [e21] at q
      obtain ⟨e, b1, ⟨b2, b3⟩, b4, b5⟩ := t2 q
      have b2 : 9000 * Y_B (Y_dn y) ≤ e := b2
      rw [dn_B] at b2
      refine ⟨e, by rw [e21]; exact b1, ⟨b2, ?_⟩, b4, b5⟩
      show e < Y_n y
      have b3 : e < Y_n (Y_dn y) + 1 := b3
      omega
    · rw [e20]
      rcases t3 with z | ⟨u, z1, ⟨z2, z3⟩, z4⟩
      · exact Or.inl z
      · have z2 : 400 * Y_B (Y_dn y) ≤ u := z2
        rw [dn_B] at z2
        have z3 : u < Y_V (Y_dn y) := z3
        rw [dn_V] at z3
        exact Or.inr ⟨u, z1, ⟨z2, z3⟩, z4⟩
  · have h1 : 400 * Y_B y ≤ u := h1
    have h2 : u < Y_V y := h2
    obtain ⟨⟨u1, u2, u3, u4, ⟨a, a1, ⟨a2, a3⟩, a4, a5⟩, u6, ⟨u7, u8, u9⟩⟩, -, -, -, -, -, u33⟩ := d3 u h1 h2
    have u33 : (Y_R y 23 u).toInt < 33 := u33
    have u9 : (Y_R y 24 u).toInt < 8 := u9
    have e23 := r23 23 u (by decide) (by decide) h1 h2
    have e24 := r23 24 u (by decide) (by decide) h1 h2
    have e25 := r23 25 u (by decide) (by decide) h1 h2
    have e26 := r23 26 u (by decide) (by decide) h1 h2
    have u2 : Y_C y (Y_a y 2 u) = Y_R y 23 u := u2
    have u3 : Y_C y (Y_a y 2 u + 1) = Y_R y 24 u := u3
    have u4 : Y_C y (Y_a y 2 u + 2) = k_hx (gF y KP) (Y_R y 26 u) := u4
    have a2 : 9000 * Y_B (Y_dn y) ≤ a := a2
    rw [dn_B] at a2
    have a3 : a < Y_n (Y_dn y) + 1 := a3
    have a4 : Y_a y 0 a = Y_a y 2 u + 3 := a4
    refine ⟨u1, ?_, ?_, ?_, ⟨a, by rw [e25]; exact a1, ⟨a2, ?_⟩, a4, a5⟩, ?_, by rw [e23, e24]; exact ⟨u7, u8, u9⟩⟩
    · show fdC y (Y_l y).length (Y_a y 2 u) = _
      rw [e23, vC _ (by rw [u2]; exact u33)]; exact u2
    · show fdC y (Y_l y).length (Y_a y 2 u + 1) = _
      rw [e24, vC _ (by rw [u3]; omega)]; exact u3
    · show fdC y (Y_l y).length (Y_a y 2 u + 2) = _
      rw [e26, fd_C _ (fun m hm q => ?_)]
      · exact u4
      · obtain ⟨⟨b1, b2⟩, b3, b4⟩ := im.2 m hm
        rw [c6 m hm] at q
        have g := (hgap _ b1 b2 b4).1
        rcases A_bt im b1 b2 a2 (by omega : a ≤ Y_n y) with w | w <;> omega
    · show a < Y_n y
      omega
    · rw [e26]
      rcases u6 with z | ⟨v, z1, ⟨z2, z3⟩, z4⟩
      · exact Or.inl z
      · have z3 : v < Y_V (Y_dn y) := z3
        rw [dn_V] at z3
        exact Or.inr ⟨v, z1, ⟨z2, z3⟩, z4⟩
  · have h1 : hh < (Y_i y 1).toNatClampNeg := h1
    obtain ⟨a, a1, ⟨a2, a3⟩, a4, a5, a6⟩ := dh hh (by omega)
    refine ⟨a, (r18 hh (by omega)).trans a1, ⟨a2, a3⟩, a4, ?_⟩
    rcases a6 with z | ⟨z1, z2, z3⟩
    · exact Or.inl ((r13 13 a (Or.inl rfl) a2 a3).trans z)
    · exact Or.inr ⟨(r13 13 a (Or.inl rfl) a2 a3).trans z1, (r13 13 (a + 1) (Or.inl rfl) (by omega) z2).trans z3⟩
end YTa
