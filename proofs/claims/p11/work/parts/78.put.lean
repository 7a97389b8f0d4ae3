def e_ug (G : e_G) (k : Nat) (hv dv : Int) : e_G := fun r j => if j = k ∧ r = 0 then hv else if j = k ∧ r = 1 then dv else G r j
theorem e_ug0 (G : e_G) (k : Nat) (hv dv : Int) : e_ug G k hv dv 0 k = hv := if_pos ⟨rfl, rfl⟩
theorem e_ug1 (G : e_G) (k : Nat) (hv dv : Int) : e_ug G k hv dv 1 k = dv := by
  unfold e_ug
  rw [if_neg (by omega), if_pos ⟨rfl, rfl⟩]
theorem e_ug_ne {G : e_G} {k : Nat} {hv dv : Int} {r j : Nat} (h : j ≠ k ∨ 1 < r) : e_ug G k hv dv r j = G r j := by
  unfold e_ug
  rw [if_neg (by omega), if_neg (by omega)]
theorem p_put (o a b c : Int32) (hv dv : Int) {M : e_M} {F : e_F} (G : e_G) {Q : Int32 → e_M → e_F → Prop} (hI : e_PI M F) (hc : (M 29).toInt ≤ 8990) (hQ : ∀ (r : Int32) (M' : e_M) (F' : e_F) (G' : e_G), r.toInt = e_en M → e_PI M' F' → e_PR M F G M' F' G' → (∀ k, k ≠ 29 → M' k = M k) → (M' 29).toInt = (M 29).toInt + 1 → (∀ x, x < 13 ∨ 17 < x → F' x = F x) → (F' 13 (e_en M).toNat = o ∧ F' 14 (e_en M).toNat = a ∧ F' 15 (e_en M).toNat = b ∧ F' 16 (e_en M).toNat = c) → (G' 0 ((e_en M).toNat + 1) = hv ∧ G' 1 ((e_en M).toNat + 1) = dv ∧ (∀ x j, 1 < x → G' x j = G x j)) → Q r M' F') : w_put o a b c M F Q := by
  have l1 : (1 : Int32).toInt = 1 := by decide
  have l9 : (9000 : Int32).toInt = 9000 := by decide
  obtain ⟨iL, iT, iS, iA, iN, iH⟩ := hI
  obtain ⟨⟨a1, a2⟩, a3, a4, a5, a6, a7, a8⟩ := iA
  have e1 : (9000 * M 27).toInt = 9000 * (M 27).toInt := by
    obtain ⟨k, h1, h2, h3⟩ := ti_mulc2 9000 (M 27) 9000 l9
    omega
  have e2 := ti_addx (9000 * M 27) (M 29) (by omega)
  rw [e1] at e2
  have e3 := ti_addx (M 29) 1 (by omega)
  have hv' : vp_in (9000 * M 27 + M 29) 18000 := vp_in_iff.mpr (by omega)
  have ek : (9000 * M 27 + M 29).toInt.toNat = (e_en M).toNat := by unfold e_en; rw [e2]
  have k0 : ((e_en M).toNat : Int) = 9000 * (M 27).toInt + (M 29).toInt := by unfold e_en; omega
  refine ⟨hv', hv', hv', hv', hv', hQ _ _ _ (e_ug G ((e_en M).toNat + 1) hv dv) e2 ⟨iL, iT, iS, ⟨⟨a1, a2⟩, (show 0 ≤ (M 29 + 1).toInt from by omega), a4, a5, a6, a7, a8⟩, iN, ?_⟩ ⟨⟨⟨rfl, rfl, rfl, rfl, rfl, fun k hk => e_um_ne (by omega)⟩, ⟨(show (M 29).toInt ≤ (M 29 + 1).toInt from by omega), Int.le_refl _, Int.le_refl _, Int.le_refl _, Int.le_refl _, Int.le_refl _⟩, fun h => h, fun h => h⟩, ⟨fun j hj => ?_, fun j hj => ⟨rfl, rfl, rfl⟩, fun j hj => ⟨rfl, rfl, rfl, rfl⟩, ⟨rfl, rfl, rfl, fun r hr => ?_, fun j hj => ?_⟩, fun j hj => ⟨rfl, rfl, rfl⟩, fun j hj => ⟨rfl, rfl⟩⟩, ⟨fun j hj => ?_, fun j hj => e_ug_ne (by omega), fun j hj => e_ug_ne (by omega)⟩⟩ (fun k hk => e_um_ne hk) (show (M 29 + 1).toInt = _ from by omega) ?_ ?_ ⟨e_ug0 _ _ _ _, e_ug1 _ _ _ _, fun x j hx => e_ug_ne (Or.inr hx)⟩⟩
  · intro j hj
    have := iH j hj
    refine ⟨this.1, ?_, ?_, this.2.2.2⟩
    · show 9000 * (M 27).toInt ≤ (F 42 j).toInt ∧ (F 42 j).toInt < 9000 * (M 27).toInt + (M 29 + 1).toInt
      omega
    · have hne : (F 42 j).toInt.toNat ≠ (9000 * M 27 + M 29).toInt.toNat := by omega
      exact (e_upd_ne hne).trans this.2.2.1
  · have hne : j ≠ (9000 * M 27 + M 29).toInt.toNat := by omega
    exact ⟨e_upd_ne hne, e_upd_ne hne, e_upd_ne hne, e_upd_ne hne⟩
  · rw [e_uf_ne (by omega), e_uf_ne (by omega), e_uf_ne (by omega), e_uf_ne (by omega), e_uf_ne (by omega)]
  · have hne : j ≠ (9000 * M 27 + M 29).toInt.toNat := by omega
    exact e_upd_ne hne
  · exact ⟨e_ug_ne (Or.inl (by omega)), e_ug_ne (Or.inl (by omega))⟩
  · intro x hx
    rw [e_uf_ne (by omega), e_uf_ne (by omega), e_uf_ne (by omega), e_uf_ne (by omega), e_uf_ne (by omega)]
  · rw [← ek]
    exact ⟨e_upd_eq, e_upd_eq, e_upd_eq, e_upd_eq⟩
/-- one code more -/
theorem e_SG_one {M M' : e_M} {F' : e_F} {G' : e_G} {L : Int} (hb : 0 ≤ (M 27).toInt) (hc : 0 ≤ (M 29).toInt) (h27 : M' 27 = M 27) (h29 : (M' 29).toInt = (M 29).toInt + 1) (h31 : M' 31 = M 31) (h32 : M' 32 = M 32) (ho : e_ok M' F' G' L (e_en M).toNat) : e_SG M M' F' G' L := by
  refine ⟨fun k h1 h2 => ?_, fun k h1 h2 => absurd h2 (by rw [h31]; omega), fun k h1 h2 => absurd h2 (by rw [h32]; omega)⟩
  rw [h27] at h1 h2
  have e : k = (e_en M).toNat := by unfold e_en; omega
  rw [e]; exact ho
theorem p_putS (n : Nat) (hn : n < 18 ∧ n ≠ 0 ∧ n ≠ 5) {o a b c : Int32} (ho : o.toInt = n) {M : e_M} {F : e_F} (G : e_G) {Q : Int32 → e_M → e_F → Prop} (hI : e_PI M F) (hc : (M 29).toInt ≤ 8990) (hr : e_gd M F → (e_al n ≤ a.toInt ∧ a.toInt < e_ah n) ∧ (e_bl n ≤ b.toInt ∧ b.toInt < e_bh n) ∧ c.toInt < e_ch n) (hQ : ∀ (r : Int32) (M' : e_M) (F' : e_F) (G' : e_G), e_Z 1 (e_lo n) (e_hi n) (e_dl n) M F G M' F' G' → (∀ k, k ≠ 29 → M' k = M k) → (M' 29).toInt = (M 29).toInt + 1 → (∀ x, x < 13 ∨ 17 < x → F' x = F x) → r.toInt = e_en M → Q r M' F') : w_put o a b c M F Q := by
  refine p_put o a b c (G 0 (e_en M).toNat + e_dl n) (G 1 (e_en M).toNat) G hI hc (fun r M' F' G' h1 h2 h3 h4 h5 h6 h7 h8 => hQ r M' F' G' ⟨h2, ⟨h3, fun g q1 q2 q3 q4 => ?_⟩, fun _ => ?_⟩ h4 h5 h6 h1)
  · have hb := e_PI_b hI
    have hk : 0 ≤ (M 29).toInt := hI.2.2.2.1.2.1
    have k0 : ((e_en M).toNat : Int) = 9000 * (M 27).toInt + (M 29).toInt := by unfold e_en; omega
    have ee : e_en M' = e_en M + 1 := by unfold e_en; rw [h4 27 (by decide), h5]; omega
    have k1 : 0 ≤ e_en M := by unfold e_en; omega
    have en : (e_en M').toNat = (e_en M).toNat + 1 := by rw [ee]; omega
    obtain ⟨r1, r2, r3⟩ := hr (e_PR_gd h3 g)
    obtain ⟨g0, g1⟩ := h3.2.2.1 (e_en M).toNat (by omega)
    refine ⟨e_SG_one hb.1 hk (h4 27 (by decide)) h5 (h4 31 (by decide)) (h4 32 (by decide)) ⟨n, by rw [h7.1]; exact ho, by rw [g1]; exact ⟨q3, q4⟩, Or.inl ⟨hn, ?_⟩⟩, by rw [en]; exact h8.1, by rw [en]; exact h8.2.1⟩
    rw [h7.2.1, h7.2.2.1, h7.2.2.2, g0, g1, h8.1, h8.2.1]
    refine ⟨⟨q1, q2⟩, rfl, rfl, by omega, r1, r2, r3⟩
  · rw [h4 6 (by decide), h4 31 (by decide), h4 32 (by decide), h4 46 (by decide), h5]
    omega
def e_CB (M : e_M) (e : Int) : Prop := ((M 36).toInt = -1 → (M 29).toInt ≤ 2 * (M 6).toInt + 5) ∧ ((M 36).toInt ≠ -1 → (M 29).toInt ≤ 2 * (M 6).toInt + 300 - 12 * (M 33).toInt + e)
def e_fu (M : e_M) (n : Nat) : Prop := (M 36).toInt ≠ -1 ∧ 1 ≤ n ∨ (M 33).toInt ≤ 20 ∧ 22 - (M 33).toInt ≤ n
/-- what a part of an expression does: β heights less than a factor may use, ex codes at most after a fault -/
def e_SX (W : e_M → e_F → (e_M → e_F → Prop) → Prop) (n : Nat) (β ex : Int) : Prop := ∀ (M : e_M) (F : e_F) (G : e_G) (e : Int) (Q : e_M → e_F → Prop), e_PI M F → e_CB M e → 0 ≤ e → e ≤ 60 → e_fu M n → (∀ (M' : e_M) (F' : e_F) (G' : e_G), e_Z 0 0 (61 - 3 * (20 - (M 33).toInt) - β) 1 M F G M' F' G' → M' 33 = M 33 → (∀ f, ((M 36).toInt = -1 → ex ≤ f) → ((M 36).toInt ≠ -1 → e ≤ f) → e_CB M' f) → Q M' F') → W M F Q
/-- the same of what follows a first part -/
def e_SY (W : e_M → e_F → (e_M → e_F → Prop) → Prop) (n : Nat) (β ex : Int) : Prop := ∀ (M : e_M) (F : e_F) (G : e_G) (e : Int) (Q : e_M → e_F → Prop), e_PI M F → e_CB M e → 0 ≤ e → e ≤ 60 → e_fu M n → (∀ (M' : e_M) (F' : e_F) (G' : e_G), e_Z 0 1 (61 - 3 * (20 - (M 33).toInt) - β) 0 M F G M' F' G' → M' 33 = M 33 → (∀ f, ((M 36).toInt = -1 → ex ≤ f) → ((M 36).toInt ≠ -1 → e ≤ f) → e_CB M' f) → Q M' F') → W M F Q
theorem e_PI_e {M : e_M} {F : e_F} (h : e_PI M F) : 0 ≤ (M 6).toInt ∧ (M 6).toInt ≤ (M 3).toInt ∧ (M 3).toInt ≤ 4000 := by
  obtain ⟨⟨i1, ⟨i2, i3, i4⟩, -⟩, -⟩ := h
  omega
theorem e_fu_go {M M' : e_M} {n : Nat} (h : e_fu M n) (ho : M' 33 = M 33) (hb : (M 36).toInt ≠ -1 → (M' 36).toInt ≠ -1) : e_fu M' n := by
  rcases h with ⟨a, b⟩ | ⟨a, b⟩
  · exact Or.inl ⟨hb a, b⟩
  · right; rw [ho]; exact ⟨a, b⟩
theorem e_CB_mo {M : e_M} {e f : Int} (h : e_CB M e) (hf : e ≤ f) : e_CB M f := ⟨h.1, fun q => by have := h.2 q; omega⟩
theorem e_CB_P {c : Int} {M M1 : e_M} {F F1 : e_F} {G : e_G} {e : Int} (h : e_P c M F G M1 F1) (ho : M1 33 = M 33) (hc : 0 ≤ c) (hb : e_CB M e) (he : 0 ≤ e) (hI : e_PI M F) : e_CB M1 e := by
  have hn := e_P_nb h
  obtain ⟨h1, h2, ⟨h3, -⟩, h7⟩ := h
  have m6 : (M 6).toInt ≤ (M1 6).toInt := h2.1.2.1.2.2.2.2.2
  have o := e_PI_o hI
  refine ⟨fun g => ?_, fun g => ?_⟩
  · have := hb.1 (hn g)
    rw [h3]; omega
  · rw [h3, ho]
    by_cases q : (M 36).toInt = -1
    · have := hb.1 q
      omega
    · have := hb.2 q
      omega
theorem p_bin {W : e_M → e_F → (e_M → e_F → Prop) → Prop} {n : Nat} {β ex : Int} (hX : e_SX W n β ex) (h0 : (0 ≤ ex ∧ ex ≤ 20) ∧ 0 ≤ β) {M : e_M} {F : e_F} (G : e_G) {Q : e_M → e_F → Prop} (hI : e_PI M F) (hb : (M 36).toInt = -1) (h4 : (M 4).toInt ≠ 0) (hC : (M 29).toInt ≤ 2 * (M 6).toInt + 5) (hf : e_fu M n) (hQ : ∀ (M' : e_M) (F' : e_F) (G' : e_G), e_Z (-1) 1 (61 - 3 * (20 - (M 33).toInt) - β) 0 M F G M' F' G' → M' 33 = M 33 → e_CB M' (ex + 1) → Q M' F') : w_pass M F (fun M3 F3 => W M3 F3 (fun M4 F4 => w_put 6 (M 5) 0 0 M4 F4 (fun _ M6 F6 => Q M6 F6))) := by
  have hs := hI.2.2.1 h4
  have ho : (M 33).toInt ≤ 20 := by
    rcases hf with q | q
    · exact absurd hb q.1
    · exact q.1
  refine p_passN (G := G) hI hb (fun M1 F1 a b c d => ?_)
  obtain ⟨x, y⟩ := e_P_pass (c := 1) a b c d (by omega)
  have zP := e_P_Z x (by decide) 1 (61 - 3 * (20 - (M 33).toInt) - β)
  have hb1 : (M1 36).toInt = -1 := by rw [c 36 (by decide) (by decide) (by decide) (by decide) (by decide)]; exact hb
  refine hX M1 F1 G 0 _ a (e_CB_P x y (by decide) ⟨fun _ => hC, fun q => absurd hb q⟩ (by decide) hI) (by decide) (by decide) (e_fu_go hf y (fun q => absurd hb q)) (fun M2 F2 G2 z2 y2 c2 => ?_)
  have c2 := c2 ex (fun _ => Int.le_refl _) (fun q => absurd hb1 q)
  rw [y] at z2 y2
  have z12 := e_Z_tr (c3 := -2) (δ3 := 1) zP z2 (by omega) (by omega) (by omega) (by omega)
  have hI2 := z2.1
  have s2 := e_PI_e hI2
  have o2 := e_PI_o hI2
  refine p_putS 6 (by decide) (by decide) G2 hI2 ?_ (fun _ => ?_) (fun r M3 F3 G3 z3 k3 c3 r3 _ => ?_)
  · by_cases q : (M2 36).toInt = -1
    · have := c2.1 q; omega
    · have := c2.2 q; omega
  · have := ti_rng (M 5)
    refine ⟨⟨this.1, ?_⟩, ⟨by decide, by decide⟩, by decide⟩
    show (M 5).toInt < 2147483648
    omega
  · have z := e_Z_tr (c3 := -1) (δ3 := 0) z12 z3 (show (2 : Int) ≤ 1 + 1 from by omega) (show _ ≤ (62 : Int) from by omega) (by omega) (show (0 : Int) = 1 + (-1) from by omega)
    refine hQ M3 F3 G3 z ((k3 33 (by decide)).trans y2) ⟨fun g => ?_, fun g => ?_⟩
    · have := (z.2.2 g).1
      omega
    · rw [k3 36 (by decide)] at g
      have := c2.2 g
      rw [k3 6 (by decide), k3 33 (by decide), c3]
      omega
