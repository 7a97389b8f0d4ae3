def e_S (A B δ : Int) (M : e_M) (F : e_F) (G : e_G) (M' : e_M) (F' : e_F) (G' : e_G) : Prop := e_PR M F G M' F' G' ∧ (e_gd M' F' → A ≤ G 0 (e_en M).toNat → G 0 (e_en M).toNat ≤ B → 0 ≤ G 1 (e_en M).toNat → G 1 (e_en M).toNat ≤ 20 → e_SG M M' F' G' (e_en M' + 1) ∧ G' 0 (e_en M').toNat = G 0 (e_en M).toNat + δ ∧ G' 1 (e_en M').toNat = G 1 (e_en M).toNat)
def e_N (c : Int) (M M' : e_M) : Prop := (M' 36).toInt = -1 → (M' 29).toInt - (M 29).toInt ≤ 2 * ((M' 6).toInt - (M 6).toInt) + c ∧ 13 * ((M' 31).toInt - (M 31).toInt) ≤ (M' 6).toInt - (M 6).toInt ∧ 11 * ((M' 32).toInt - (M 32).toInt) ≤ (M' 6).toInt - (M 6).toInt ∧ 8 * ((M' 46).toInt - (M 46).toInt) ≤ (M' 6).toInt - (M 6).toInt
def e_Z (c A B δ : Int) (M : e_M) (F : e_F) (G : e_G) (M' : e_M) (F' : e_F) (G' : e_G) : Prop := e_PI M' F' ∧ e_S A B δ M F G M' F' G' ∧ e_N c M M'
theorem e_S_tr {A B δ A2 B2 δ2 : Int} {M M1 M2 : e_M} {F F1 F2 : e_F} {G G1 G2 : e_G} (hb : 0 ≤ (M 27).toInt) (h : e_S A B δ M F G M1 F1 G1) (q : e_S A2 B2 δ2 M1 F1 G1 M2 F2 G2) (hA : A2 ≤ A + δ) (hB : B + δ ≤ B2) : e_S A B (δ + δ2) M F G M2 F2 G2 := by
  refine ⟨e_PR_tr h.1 q.1, fun g a b c d => ?_⟩
  obtain ⟨s1, s2, s3⟩ := h.2 (e_PR_gd q.1 g) a b c d
  obtain ⟨t1, t2, t3⟩ := q.2 g (by rw [s2]; omega) (by rw [s2]; omega) (by rw [s3]; exact c) (by rw [s3]; exact d)
  have e : M1 27 = M 27 := h.1.1.1.1
  have e2 : M2 27 = M1 27 := q.1.1.1.1
  have m : (M1 29).toInt ≤ (M2 29).toInt := q.1.1.2.1.1
  refine ⟨e_SG_tr q.1 (by rw [e]; exact hb) (by unfold e_en; rw [e2]; omega) (by unfold e_en; omega) s1 t1, by rw [t2, s2]; omega, by rw [t3, s3]⟩
theorem e_N_tr {c c2 : Int} {M M1 M2 : e_M} (h : e_N c M M1) (q : e_N c2 M1 M2) (hb : (M1 36).toInt ≠ -1 → (M2 36).toInt ≠ -1) : e_N (c + c2) M M2 := by
  intro g
  have g1 : (M1 36).toInt = -1 := by
    by_cases q : (M1 36).toInt = -1
    · exact q
    · exact absurd g (hb q)
  have := h g1
  have := q g
  omega
theorem e_PI_b {M : e_M} {F : e_F} (h : e_PI M F) : 0 ≤ (M 27).toInt ∧ (M 27).toInt ≤ 1 := h.2.2.2.1.1
theorem e_Z_tr {c A B δ c2 A2 B2 δ2 c3 δ3 : Int} {M M1 M2 : e_M} {F F1 F2 : e_F} {G G1 G2 : e_G} (h : e_Z c A B δ M F G M1 F1 G1) (q : e_Z c2 A2 B2 δ2 M1 F1 G1 M2 F2 G2) (hA : A2 ≤ A + δ) (hB : B + δ ≤ B2) (hc : c + c2 ≤ c3) (hd : δ3 = δ + δ2) : e_Z c3 A B δ3 M F G M2 F2 G2 := by
  subst hd
  have e : M1 27 = M 27 := h.2.1.1.1.1.1
  refine ⟨q.1, e_S_tr (by rw [← e]; exact (e_PI_b h.1).1) h.2.1 q.2.1 hA hB, ?_⟩
  have := e_N_tr h.2.2 q.2.2 q.2.1.1.1.2.2.1
  intro g
  have := this g
  omega
theorem e_Z_nb {c A B δ : Int} {M M1 : e_M} {F F1 : e_F} {G G1 : e_G} (h : e_Z c A B δ M F G M1 F1 G1) (g : (M1 36).toInt = -1) : (M 36).toInt = -1 := by
  by_cases q : (M 36).toInt = -1
  · exact q
  · exact absurd g (h.2.1.1.1.2.2.1 q)
/-- a step that leaves no code -/
def e_P (c : Int) (M : e_M) (F : e_F) (G : e_G) (M' : e_M) (F' : e_F) : Prop := e_PI M' F' ∧ e_PR M F G M' F' G ∧ (M' 29 = M 29 ∧ M' 31 = M 31 ∧ M' 32 = M 32 ∧ M' 46 = M 46) ∧ ((M' 36).toInt = -1 → (M 6).toInt + c ≤ (M' 6).toInt)
theorem e_P_Z {c : Int} {M M' : e_M} {F F' : e_F} {G : e_G} (h : e_P c M F G M' F') (hc : 0 ≤ c) (A B : Int) : e_Z (-2 * c) A B 0 M F G M' F' G := by
  obtain ⟨h1, h2, ⟨h3, h4, h5, h6⟩, h7⟩ := h
  refine ⟨h1, ⟨h2, fun g a b c d => ⟨e_SG_rf h3 h4 h5, ?_, ?_⟩⟩, fun g => ?_⟩
  · unfold e_en; rw [h3, h2.1.1.1]; omega
  · unfold e_en; rw [h3, h2.1.1.1]
  · have := h7 g
    rw [h3, h4, h5, h6]; omega
theorem e_P_tr {c c2 c3 : Int} {M M1 M2 : e_M} {F F1 F2 : e_F} {G : e_G} (h : e_P c M F G M1 F1) (q : e_P c2 M1 F1 G M2 F2) (hc : c3 ≤ c + c2) : e_P c3 M F G M2 F2 := by
  obtain ⟨h1, h2, ⟨h3, h4, h5, h6⟩, h7⟩ := h
  obtain ⟨q1, q2, ⟨q3, q4, q5, q6⟩, q7⟩ := q
  refine ⟨q1, e_PR_tr h2 q2, ⟨q3.trans h3, q4.trans h4, q5.trans h5, q6.trans h6⟩, fun g => ?_⟩
  have := q7 g
  have := h7 (by
    by_cases z : (M1 36).toInt = -1
    · exact z
    · exact absurd g (q2.1.2.2.1 z))
  omega
theorem e_P_nb {c : Int} {M M1 : e_M} {F F1 : e_F} {G : e_G} (h : e_P c M F G M1 F1) (g : (M1 36).toInt = -1) : (M 36).toInt = -1 := by
  by_cases q : (M 36).toInt = -1
  · exact q
  · exact absurd g (h.2.1.1.2.2.1 q)
theorem p_isSign {c : Int32} {M : e_M} {F : e_F} {Q : Int32 → e_M → e_F → Prop} (h0 : ¬ ((M 36).toInt = -1 ∧ (M 4).toInt = 6 ∧ M 5 = c) → Q 0 M F) (h1 : (M 36).toInt = -1 → (M 4).toInt = 6 → M 5 = c → Q 1 M F) : w_isSign c M F Q := by
  refine ⟨fun hb => ⟨fun q => absurd rfl q, fun _ => ⟨fun h4 => h0 (fun q => ?_), fun h4 => ⟨fun h5 => h0 (fun q => h5 q.2.2), fun h5 => h1 (by rw [hb]; decide) (by rw [h4]; decide) h5⟩⟩⟩, fun hb => ⟨fun _ => h0 (fun q => ?_), fun q => absurd q (by decide)⟩⟩
  · exact ti_ne h4 (by rw [q.2.1]; decide)
  · exact ti_ne hb (by rw [q.1]; decide)
theorem p_isWord {c : Int32} {M : e_M} {F : e_F} {Q : Int32 → e_M → e_F → Prop} (h0 : ¬ ((M 36).toInt = -1 ∧ (M 4).toInt = 4 ∧ M 5 = c) → Q 0 M F) (h1 : (M 36).toInt = -1 → (M 4).toInt = 4 → M 5 = c → Q 1 M F) : w_isWord c M F Q := by
  refine ⟨fun hb => ⟨fun q => absurd rfl q, fun _ => ⟨fun h4 => h0 (fun q => ?_), fun h4 => ⟨fun h5 => h0 (fun q => h5 q.2.2), fun h5 => h1 (by rw [hb]; decide) (by rw [h4]; decide) h5⟩⟩⟩, fun hb => ⟨fun _ => h0 (fun q => ?_), fun q => absurd q (by decide)⟩⟩
  · exact ti_ne h4 (by rw [q.2.1]; decide)
  · exact ti_ne hb (by rw [q.1]; decide)
theorem e_len {M : e_M} {F : e_F} (hI : e_PI M F) (h4 : (M 4).toInt = 4) (j : Nat) (hj : (M 5).toInt = j) : (M 3).toInt - (M 6).toInt = (e_w2.getD j 0 : Nat) := by
  obtain ⟨i, h1, h2, h3⟩ := hI.2.1.2.2.1 h4
  have e : i = j := by omega
  rw [← e]; exact h3
theorem e_P_pass {M M' : e_M} {F F' : e_F} {G : e_G} {c : Int} (h1 : e_PI M' F') (h2 : e_PR M F G M' F' G) (h3 : e_SM M M') (h4 : (M 3).toInt ≤ (M' 6).toInt) (hc : (M 6).toInt + c ≤ (M 3).toInt) : e_P c M F G M' F' ∧ M' 33 = M 33 := ⟨⟨h1, h2, ⟨h3 29 (by decide) (by decide) (by decide) (by decide) (by decide), h3 31 (by decide) (by decide) (by decide) (by decide) (by decide), h3 32 (by decide) (by decide) (by decide) (by decide) (by decide), h3 46 (by decide) (by decide) (by decide) (by decide) (by decide)⟩, fun _ => by omega⟩, h3 33 (by decide) (by decide) (by decide) (by decide) (by decide)⟩
theorem e_P_fail {M M' : e_M} {F : e_F} (G : e_G) (c : Int) (hI : e_PI M F) (h : ∀ k, k ≠ 36 → M' k = M k) (hb : (M' 36).toInt ≠ -1) : e_P c M F G M' F ∧ M' 33 = M 33 := ⟨⟨e_PI_go (fun k a _ _ => h k a) hI, e_PR_go (fun k a _ _ _ => h k a) (fun _ => hb), ⟨h 29 (by decide), h 31 (by decide), h 32 (by decide), h 46 (by decide)⟩, fun q => absurd q hb⟩, h 33 (by decide)⟩
theorem e_PI_s {M : e_M} {F : e_F} (h : e_PI M F) : 0 ≤ (M 6).toInt := h.1.2.1.1
theorem p_need {c : Int32} {M : e_M} {F : e_F} (G : e_G) {Q : e_M → e_F → Prop} (hI : e_PI M F) (hQ : ∀ (M' : e_M) (F' : e_F), e_P 1 M F G M' F' → M' 33 = M 33 → Q M' F') : w_need c M F Q := by
  refine p_isSign (fun _ => ⟨fun _ => p_fail (fun M' h hb => ?_) (e_PI_s hI), fun q => absurd rfl q⟩) (fun hb h4 _ => ⟨fun q => absurd q (by decide), fun _ => p_passN (G := G) hI hb (fun M' F' a b c d => ?_)⟩)
  · obtain ⟨x, y⟩ := e_P_fail G 1 hI h hb
    exact hQ _ _ x y
  · have := hI.2.2.1 (by omega)
    obtain ⟨x, y⟩ := e_P_pass (c := 1) a b c d (by omega)
    exact hQ _ _ x y
theorem p_needWord {c : Int32} (j : Nat) (hj : c.toInt = j) {M : e_M} {F : e_F} (G : e_G) {Q : e_M → e_F → Prop} (hI : e_PI M F) (hQ : ∀ (M' : e_M) (F' : e_F), e_P (e_w2.getD j 0 : Nat) M F G M' F' → M' 33 = M 33 → Q M' F') : w_needWord c M F Q := by
  refine p_isWord (fun _ => ⟨fun _ => p_fail (fun M' h hb => ?_) (e_PI_s hI), fun q => absurd rfl q⟩) (fun hb h4 h5 => ⟨fun q => absurd q (by decide), fun _ => p_passN (G := G) hI hb (fun M' F' a b c d => ?_)⟩)
  · obtain ⟨x, y⟩ := e_P_fail G (e_w2.getD j 0 : Nat) hI h hb
    exact hQ _ _ x y
  · have := e_len hI h4 j (by rw [h5]; exact hj)
    obtain ⟨x, y⟩ := e_P_pass (c := (e_w2.getD j 0 : Nat)) a b c d (by omega)
    exact hQ _ _ x y
/-- the field 'open' alone is another -/
theorem e_P_open {c : Int} {M M1 : e_M} {F F1 : e_F} {G : e_G} (v : Int32) (hv : 0 ≤ v.toInt ∧ v.toInt ≤ 21) (h : e_P c M F G M1 F1) : e_P c M F G (um M1 33 v) F1 := by
  obtain ⟨⟨iL, iT, iS, ⟨a1, a2, a3, a4, a5, a6, a7⟩, iN, iH⟩, h2, h3, h4⟩ := h
  refine ⟨⟨iL, iT, iS, ⟨a1, a2, a3, a4, a5, hv, a7⟩, iN, iH⟩, e_PR_tr h2 (e_PR_go (fun k _ _ _ h => e_um_ne h) (fun h => h)), h3, h4⟩
theorem e_PI_o {M : e_M} {F : e_F} (h : e_PI M F) : 0 ≤ (M 33).toInt ∧ (M 33).toInt ≤ 21 := h.2.2.2.1.2.2.2.2.2.1
theorem p_opens {c : Int32} {M : e_M} {F : e_F} (G : e_G) {Q : e_M → e_F → Prop} (hI : e_PI M F) (ho : (M 33).toInt ≤ 20) (hQ : ∀ (M' : e_M) (F' : e_F), e_P 1 M F G M' F' → (M' 33).toInt = (M 33).toInt + 1 → ((M' 36).toInt = -1 → (M 33).toInt ≤ 19) → Q M' F') : w_opens c M F Q := by
  have l1 : (1 : Int32).toInt = 1 := by decide
  have o1 := e_PI_o hI
  have e1 := ti_addx (M 33) 1 (by omega)
  have h17 : w_opens_17 Q M F := by
    refine p_fail (fun M' h hb => ?_) (e_PI_s hI)
    obtain ⟨x, y⟩ := e_P_fail G 1 hI h hb
    have z := e_P_open (M' 33 + 1) (by rw [y]; omega) x
    exact p_pass (G := G) z.1 (fun _ => hQ _ _ z (show (M' 33 + 1).toInt = _ from by rw [y]; omega) (fun q => absurd q hb)) (fun q => absurd q hb)
  refine p_isSign (fun _ => ⟨fun _ => h17, fun q => absurd rfl q⟩) (fun hb h4 _ => ⟨fun q => absurd q (by decide), fun _ => ⟨fun h20 => ?_, fun _ => h17⟩⟩)
  have hP : e_P 0 M F G M F := ⟨hI, e_PR_rf M F G, ⟨rfl, rfl, rfl, rfl⟩, fun _ => by omega⟩
  have z := e_P_open (M 33 + 1) (by omega) hP
  have h19 : (M 33).toInt ≤ 19 := by
    have := ti_ne h20
    have l20 : (20 : Int32).toInt = 20 := by decide
    omega
  refine p_passN (G := G) z.1 hb (fun M' F' a b c d => ?_)
  have := hI.2.2.1 (by omega)
  obtain ⟨x, y⟩ := e_P_pass (c := 1) a b c d (show (M 6).toInt + 1 ≤ (M 3).toInt from by omega)
  exact hQ _ _ (e_P_tr z x (by omega)) (by rw [y]; exact (show (M 33 + 1).toInt = _ from by omega)) (fun _ => h19)
theorem p_closes {c : Int32} {M : e_M} {F : e_F} (G : e_G) {Q : e_M → e_F → Prop} (hI : e_PI M F) (ho : 1 ≤ (M 33).toInt) (hQ : ∀ (M' : e_M) (F' : e_F), e_P 1 M F G M' F' → (M' 33).toInt = (M 33).toInt - 1 → Q M' F') : w_closes c M F Q := by
  have l1 : (1 : Int32).toInt = 1 := by decide
  have o1 := e_PI_o hI
  refine p_need G hI (fun M' F' x y => ?_)
  have e1 := ti_subx (M' 33) 1 (by rw [y]; omega)
  rw [y] at e1
  exact hQ _ _ (e_P_open (M' 33 - 1) (by rw [y]; omega) x) (show (M' 33 - 1).toInt = _ from by rw [y]; omega)
theorem p_taken {t : Int32} {M : e_M} {F : e_F} (G : e_G) {Q : Int32 → e_M → e_F → Prop} (hI : e_PI M F) (ht : t.toInt ≠ 0) (hQ : ∀ (r : Int32) (M' : e_M) (F' : e_F), e_P 1 M F G M' F' → M' 33 = M 33 → M' 47 = M 6 → ((M' 36).toInt = -1 → M 4 = t ∧ r = M 5 ∧ (M 3).toInt ≤ (M' 6).toInt) → Q r M' F') : w_taken t M F Q := by
  have hI2 : e_PI (um M 47 (M 6)) F := e_PI_go (fun k _ a _ => e_um_ne a) hI
  have hR2 : e_PR M F G (um M 47 (M 6)) F G := e_PR_go (fun k _ a _ _ => e_um_ne a) (fun h => h)
  have h23 : w_taken_23 Q (um M 47 (M 6)) F := by
    refine p_fail (fun M' h hb => ?_) (e_PI_s hI)
    obtain ⟨x, y⟩ := e_P_fail G 1 hI2 h hb
    exact hQ 0 _ _ ⟨x.1, e_PR_tr hR2 x.2.1, x.2.2.1, fun q => absurd q hb⟩ y (h 47 (by decide)) (fun q => absurd q hb)
  refine ⟨fun hb => ⟨fun q => absurd rfl q, fun _ => ⟨fun h4 => p_passN (G := G) hI2 (show (M 36).toInt = -1 from by rw [show M 36 = -1 from hb]; decide) (fun M' F' a b c d => ?_), fun _ => h23⟩⟩, fun hb => ⟨fun _ => h23, fun q => absurd q (by decide)⟩⟩
  have h4' : M 4 = t := h4
  have h9 := hI.2.2.1 (by rw [h4']; exact ht)
  obtain ⟨x, y⟩ := e_P_pass (c := 1) a b c d (show (M 6).toInt + 1 ≤ (M 3).toInt from by omega)
  exact hQ _ _ _ ⟨x.1, e_PR_tr hR2 x.2.1, x.2.2.1, x.2.2.2⟩ y (c 47 (by decide) (by decide) (by decide) (by decide) (by decide)) (fun _ => ⟨h4', rfl, d⟩)
