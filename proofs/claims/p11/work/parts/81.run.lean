/-! A STATEMENT'S RUN: from where it began to here, with codes, tries and upholds that are not yet filled in (U). -/
abbrev e_U : Type := Nat → Nat → Prop
def e_U0 : e_U := fun _ _ => False
def e_okh (d : Int) (F : e_F) (G : e_G) (L : Int) (k : Nat) : Prop := G 1 k = d ∧ (((F 13 k).toInt = 21 ∧ G 0 k = 1 ∧ G 0 (k + 1) = 0 ∧ G 1 (k + 1) = d ∧ (k : Int) + 1 < L) ∨ ((F 13 k).toInt = 20 ∧ G 0 k = 0))
def e_tkh (d : Int) (M : e_M) (F : e_F) (G : e_G) (L : Int) (t : Nat) : Prop := G 2 t = d ∧ (F 21 t = -1 ∨ e_tg G (9000 * (M 27).toInt) L (F 21 t).toInt (G 2 t + 1)) ∧ (F 20 t = -1 ∨ ((400 * (M 27).toInt ≤ (F 20 t).toInt ∧ (F 20 t).toInt < 400 * (M 27).toInt + (M 32).toInt) ∧ G 3 (F 20 t).toInt.toNat = t))
def e_ukh (M : e_M) (G : e_G) (u : Nat) : Prop := 400 * (M 27).toInt ≤ G 3 u ∧ G 3 u < 400 * (M 27).toInt + (M 31).toInt
def e_SU (U : e_U) (d : Int) (M0 M : e_M) (F : e_F) (G : e_G) (L : Int) : Prop := (∀ k : Nat, 9000 * (M 27).toInt + (M0 29).toInt ≤ k → (k : Int) < 9000 * (M 27).toInt + (M 29).toInt → (U 0 k → e_okh d F G L k) ∧ (¬ U 0 k → e_ok M F G L k)) ∧ (∀ t : Nat, 400 * (M 27).toInt + (M0 31).toInt ≤ t → (t : Int) < 400 * (M 27).toInt + (M 31).toInt → (U 1 t → e_tkh d M F G L t) ∧ (¬ U 1 t → e_tok M F G L t)) ∧ (∀ u : Nat, 400 * (M 27).toInt + (M0 32).toInt ≤ u → (u : Int) < 400 * (M 27).toInt + (M 32).toInt → (U 2 u → e_ukh M G u) ∧ (¬ U 2 u → e_uok M F G L u))
def e_UB (U : e_U) (M : e_M) : Prop := (∀ k : Nat, U 0 k → (k : Int) < 9000 * (M 27).toInt + (M 29).toInt) ∧ (∀ k : Nat, U 1 k → (k : Int) < 400 * (M 27).toInt + (M 31).toInt) ∧ (∀ k : Nat, U 2 k → (k : Int) < 400 * (M 27).toInt + (M 32).toInt)
theorem e_UB_mo {U : e_U} {M M' : e_M} {F F' : e_F} {G G' : e_G} (h : e_PR M F G M' F' G') (b : e_UB U M) : e_UB U M' := by
  obtain ⟨⟨⟨a1, -⟩, ⟨b1, b2, b3, -⟩, -⟩, -⟩ := h
  obtain ⟨c1, c2, c3⟩ := b
  refine ⟨fun k q => ?_, fun k q => ?_, fun k q => ?_⟩
  · have := c1 k q; rw [a1]; omega
  · have := c2 k q; rw [a1]; omega
  · have := c3 k q; rw [a1]; omega
theorem e_okh_mo {M M' : e_M} {F F' : e_F} {G G' : e_G} (h : e_PR M F G M' F' G') {L L' d : Int} {k : Nat} (hL : L ≤ L') (hk : (k : Int) < 9000 * (M 27).toInt + (M 29).toInt) (o : e_okh d F G L k) : e_okh d F' G' L' k := by
  obtain ⟨-, ⟨d1, -⟩, f1, -⟩ := h
  obtain ⟨p1, -⟩ := d1 k (Or.inl hk)
  obtain ⟨r1, r2⟩ := f1 k (by omega)
  obtain ⟨s1, s2⟩ := f1 (k + 1) (by omega)
  unfold e_okh at o ⊢
  rw [p1, r1, r2, s1, s2]
  refine ⟨o.1, ?_⟩
  rcases o.2 with q | q
  · left; exact ⟨q.1, q.2.1, q.2.2.1, q.2.2.2.1, by omega⟩
  · right; exact q
theorem e_tkh_mo {M M' : e_M} {F F' : e_F} {G G' : e_G} (h : e_PR M F G M' F' G') {L L' d : Int} {t : Nat} (hb : 0 ≤ (M 27).toInt) (hL : L ≤ L') (hl : L ≤ 9000 * (M 27).toInt + (M 29).toInt + 1) (hk : (t : Int) < 400 * (M 27).toInt + (M 31).toInt) (o : e_tkh d M F G L t) : e_tkh d M' F' G' L' t := by
  have hT := fun x d => e_tg_mo (x := x) (d := d) h hb hL hl
  obtain ⟨⟨⟨a1, -⟩, ⟨b1, b2, b3, -⟩, -⟩, ⟨-, d2, -⟩, -, f2, f3⟩ := h
  obtain ⟨o1, o2, o3⟩ := o
  obtain ⟨p1, p2, p3⟩ := d2 t (Or.inl hk)
  have g2 := f2 t hk
  unfold e_tkh
  rw [p1, p2, g2]
  refine ⟨o1, ?_, ?_⟩
  · rcases o2 with q | q
    · exact Or.inl q
    · exact Or.inr (hT _ _ q)
  · rcases o3 with q | ⟨q1, q2⟩
    · exact Or.inl q
    · right
      exact ⟨by rw [a1]; omega, (f3 _ (by omega)).trans q2⟩
theorem e_ukh_mo {M M' : e_M} {F F' : e_F} {G G' : e_G} (h : e_PR M F G M' F' G') {u : Nat} (hk : (u : Int) < 400 * (M 27).toInt + (M 32).toInt) (o : e_ukh M G u) : e_ukh M' G' u := by
  obtain ⟨⟨⟨a1, -⟩, ⟨b1, b2, b3, -⟩, -⟩, -, -, f2, f3⟩ := h
  unfold e_ukh at o ⊢
  rw [f3 u hk, a1]; omega
theorem e_SU_tr {U : e_U} {d : Int} {M0 M M' : e_M} {F F' : e_F} {G G' : e_G} (h : e_PR M F G M' F' G') {L L' : Int} (hb : 0 ≤ (M 27).toInt) (hL : L ≤ L') (hl : L ≤ 9000 * (M 27).toInt + (M 29).toInt + 1) (s : e_SU U d M0 M F G L) (u : e_UB U M) (q : e_SG M M' F' G' L') : e_SU U d M0 M' F' G' L' := by
  have e : M' 27 = M 27 := h.1.1.1
  obtain ⟨s1, s2, s3⟩ := s
  obtain ⟨q1, q2, q3⟩ := q
  obtain ⟨u1, u2, u3⟩ := u
  rw [e] at q1 q2 q3
  refine ⟨fun k h1 h2 => ?_, fun t h1 h2 => ?_, fun u h1 h2 => ?_⟩ <;> rw [e] at h1 h2
  · by_cases g : (k : Int) < 9000 * (M 27).toInt + (M 29).toInt
    · exact ⟨fun x => e_okh_mo h hL g ((s1 k h1 g).1 x), fun x => e_ok_mo h hb hL hl g ((s1 k h1 g).2 x)⟩
    · exact ⟨fun x => absurd (u1 k x) g, fun _ => q1 k (by omega) h2⟩
  · by_cases g : (t : Int) < 400 * (M 27).toInt + (M 31).toInt
    · exact ⟨fun x => e_tkh_mo h hb hL hl g ((s2 t h1 g).1 x), fun x => e_tok_mo h hb hL hl g ((s2 t h1 g).2 x)⟩
    · exact ⟨fun x => absurd (u2 t x) g, fun _ => q2 t (by omega) h2⟩
  · by_cases g : (u : Int) < 400 * (M 27).toInt + (M 32).toInt
    · exact ⟨fun x => e_ukh_mo h g ((s3 u h1 g).1 x), fun x => e_uok_mo h hb hL hl g ((s3 u h1 g).2 x)⟩
    · exact ⟨fun x => absurd (u3 u x) g, fun _ => q3 u (by omega) h2⟩
theorem e_SU_SG {d : Int} {M0 M : e_M} {F : e_F} {G : e_G} {L : Int} (s : e_SU e_U0 d M0 M F G L) : e_SG M0 M F G L := ⟨fun k a b => (s.1 k a b).2 (fun q => q), fun k a b => (s.2.1 k a b).2 (fun q => q), fun k a b => (s.2.2 k a b).2 (fun q => q)⟩
def e_V (c s t u : Int) (M M' : e_M) : Prop := (M' 36).toInt = -1 → (M' 29).toInt - (M 29).toInt ≤ 2 * ((M' 6).toInt - (M 6).toInt) + c ∧ 13 * ((M' 31).toInt - (M 31).toInt) ≤ (M' 6).toInt - (M 6).toInt + s ∧ 11 * ((M' 32).toInt - (M 32).toInt) ≤ (M' 6).toInt - (M 6).toInt + t ∧ 8 * ((M' 46).toInt - (M 46).toInt) ≤ (M' 6).toInt - (M 6).toInt + u
def e_X (U : e_U) (P : Prop) (c s t u A D H y : Int) (M : e_M) (F : e_F) (G : e_G) (M' : e_M) (F' : e_F) (G' : e_G) : Prop := e_PI M' F' ∧ e_PR M F G M' F' G' ∧ e_UB U M' ∧ (e_gd M' F' → P → G 0 (e_en M).toNat = A → 0 ≤ G 1 (e_en M).toNat → G 1 (e_en M).toNat ≤ D → e_SU U (G 1 (e_en M).toNat) M M' F' G' (e_en M' + 1) ∧ G' 0 (e_en M').toNat = H ∧ G' 1 (e_en M').toNat = G 1 (e_en M).toNat + y) ∧ e_V c s t u M M'
theorem e_PR_nb {M M' : e_M} {F F' : e_F} {G G' : e_G} (h : e_PR M F G M' F' G') (g : (M' 36).toInt = -1) : (M 36).toInt = -1 := by
  by_cases q : (M 36).toInt = -1
  · exact q
  · exact absurd g (h.1.2.2.1 q)
/-- a run, and a part without holes behind it -/
theorem e_X_tr {U : e_U} {P : Prop} {c s t u A D H y c2 s2 t2 u2 D2 H2 : Int} {M M1 M2 : e_M} {F F1 F2 : e_F} {G G1 G2 : e_G} (h : e_X U P c s t u A D H y M F G M1 F1 G1) (hI : e_PI M2 F2) (hp : e_PR M1 F1 G1 M2 F2 G2) (hv : e_V c2 s2 t2 u2 M1 M2) (hD : D + y ≤ D2) (hy : 0 ≤ y) (q : e_gd M2 F2 → P → G1 0 (e_en M1).toNat = H → 0 ≤ G1 1 (e_en M1).toNat → G1 1 (e_en M1).toNat ≤ D2 → e_SG M1 M2 F2 G2 (e_en M2 + 1) ∧ G2 0 (e_en M2).toNat = H2 ∧ G2 1 (e_en M2).toNat = G1 1 (e_en M1).toNat) : e_X U P (c + c2) (s + s2) (t + t2) (u + u2) A D H2 y M F G M2 F2 G2 := by
  obtain ⟨h1, h2, h3, h4, h5⟩ := h
  have e : M1 27 = M 27 := h2.1.1.1
  have e2 : M2 27 = M1 27 := hp.1.1.1
  have m : (M1 29).toInt ≤ (M2 29).toInt := hp.1.2.1.1
  refine ⟨hI, e_PR_tr h2 hp, e_UB_mo hp h3, fun g p a b d => ?_, fun g => ?_⟩
  · obtain ⟨s1, s2, s3⟩ := h4 (e_PR_gd hp g) p a b d
    obtain ⟨t1, t2, t3⟩ := q g p s2 (by rw [s3]; omega) (by rw [s3]; omega)
    exact ⟨e_SU_tr hp (e_PI_b h1).1 (by unfold e_en; rw [e2]; omega) (by unfold e_en; omega) s1 h3 t1, t2, by rw [t3, s3]⟩
  · have := h5 (e_PR_nb hp g)
    have := hv g
    omega
def e_R (U : e_U) (P : Prop) (c s t u A D H y e o : Int) (M : e_M) (F : e_F) (G : e_G) (M' : e_M) (F' : e_F) (G' : e_G) : Prop := ((M 29).toInt ≤ 2 * (M 6).toInt + 1 ∧ (0 ≤ e ∧ e ≤ 40) ∧ D + y ≤ 20 ∧ 0 ≤ y) ∧ e_X U P c s t u A D H y M F G M' F' G' ∧ (M' 33).toInt = (M 33).toInt + o ∧ e_CB M' e
theorem R_I {U : e_U} {P : Prop} {c s t u A D H y e o : Int} {M M1 : e_M} {F F1 : e_F} {G G1 : e_G} (r : e_R U P c s t u A D H y e o M F G M1 F1 G1) : e_PI M1 F1 := r.2.1.1
theorem R_rf {M : e_M} {F : e_F} (G : e_G) (A D : Int) (hI : e_PI M F) (hb : (M 36).toInt = -1) (hc : (M 29).toInt ≤ 2 * (M 6).toInt + 1) (hD : D ≤ 20) : e_R e_U0 True 0 0 0 0 A D A 0 0 0 M F G M F G := by
  refine ⟨⟨hc, by omega, by omega, by omega⟩, ⟨hI, e_PR_rf M F G, ⟨fun _ q => absurd q (fun q => q), fun _ q => absurd q (fun q => q), fun _ q => absurd q (fun q => q)⟩, fun _ _ a b d => ⟨⟨fun k a b => absurd b (by omega), fun k a b => absurd b (by omega), fun k a b => absurd b (by omega)⟩, a, by omega⟩, fun _ => by omega⟩, by omega, ⟨fun _ => by omega, fun q => absurd hb q⟩⟩
theorem R_O {U : e_U} {P : Prop} {c s t u A D H y e o : Int} {M M1 M2 : e_M} {F F1 F2 : e_F} {G G1 : e_G} (r : e_R U P c s t u A D H y e o M F G M1 F1 G1) {k : Int} (x : e_P k M1 F1 G1 M2 F2) (i e' : Int) (ho : (M2 33).toInt = (M1 33).toInt + i) (hk : 0 ≤ k) (he : ((M1 36).toInt ≠ -1 → e + 12 * i ≤ e') ∧ 0 ≤ e' ∧ e' ≤ 40) : e_R U P (c - 2 * k) (s - k) (t - k) (u - k) A D H y e' (o + i) M F G M2 F2 G1 := by
  obtain ⟨⟨r1, r2, r3, r4⟩, r5, r6, r7⟩ := r
  obtain ⟨x1, x2, ⟨x3, x4, x5, x6⟩, x7⟩ := x
  have hv : e_V (-2 * k) (-k) (-k) (-k) M1 M2 := fun g => by have := x7 g; rw [x3, x4, x5, x6]; omega
  have hx := e_X_tr (H2 := H) r5 x1 x2 hv r3 r4 (fun g p a b d => ⟨e_SG_rf x3 x4 x5, by unfold e_en; rw [x3, x2.1.1.1]; exact a, by unfold e_en; rw [x3, x2.1.1.1]⟩)
  have m6 : (M1 6).toInt ≤ (M2 6).toInt := x2.1.2.1.2.2.2.2.2
  have o2 := e_PI_o x1
  refine ⟨⟨r1, by omega, r3, r4⟩, ?_, by omega, ⟨fun g => ?_, fun g => ?_⟩⟩
  · have e1 : c + -2 * k = c - 2 * k := by omega
    have e2 : s + -k = s - k := by omega
    have e3 : t + -k = t - k := by omega
    have e4 : u + -k = u - k := by omega
    rw [e1, e2, e3, e4] at hx
    exact hx
  · have := r7.1 (e_PR_nb x2 g)
    rw [x3]; omega
  · rw [x3]
    by_cases q : (M1 36).toInt = -1
    · have := r7.1 q; omega
    · have := r7.2 q; have := he.1 q; omega
theorem R_P {U : e_U} {P : Prop} {c s t u A D H y e o : Int} {M M1 M2 : e_M} {F F1 F2 : e_F} {G G1 : e_G} (r : e_R U P c s t u A D H y e o M F G M1 F1 G1) {k : Int} (x : e_P k M1 F1 G1 M2 F2) (ho : M2 33 = M1 33) (hk : 0 ≤ k) : e_R U P (c - 2 * k) (s - k) (t - k) (u - k) A D H y e o M F G M2 F2 G1 := by
  have h := R_O r x 0 e (by rw [ho]; omega) hk ⟨fun _ => by omega, r.1.2.1⟩
  have e1 : o + 0 = o := by omega
  rw [e1] at h; exact h
theorem R_nb {U : e_U} {P : Prop} {c s t u A D H y e o : Int} {M M1 : e_M} {F F1 : e_F} {G G1 : e_G} (r : e_R U P c s t u A D H y e o M F G M1 F1 G1) (hb : (M1 36).toInt = -1) : e_R U P c s t u A D H y 0 o M F G M1 F1 G1 := ⟨⟨r.1.1, by omega, r.1.2.2⟩, r.2.1, r.2.2.1, ⟨r.2.2.2.1, fun q => absurd hb q⟩⟩
theorem R_wk {U : e_U} {P : Prop} {c s t u A D H y e o c' s' t' u' H' y' e' o' : Int} {M M1 : e_M} {F F1 : e_F} {G G1 : e_G} (r : e_R U P c s t u A D H y e o M F G M1 F1 G1) (h : c ≤ c' ∧ s ≤ s' ∧ t ≤ t' ∧ u ≤ u') (hH : H = H' ∧ y = y') (he : e ≤ e' ∧ e' ≤ 40) (ho : o = o') : e_R U P c' s' t' u' A D H' y' e' o' M F G M1 F1 G1 := by
  obtain ⟨rfl, rfl⟩ := hH
  subst ho
  obtain ⟨⟨r1, r2, r3, r4⟩, ⟨a1, a2, a3, a4, a5⟩, r6, r7⟩ := r
  exact ⟨⟨r1, by omega, r3, r4⟩, ⟨a1, a2, a3, a4, fun g => by have := a5 g; omega⟩, r6, e_CB_mo r7 he.1⟩
theorem R_bad {U U' : e_U} {P P' : Prop} {c s t u A D H y e o : Int} {M M1 : e_M} {F F1 : e_F} {G G1 : e_G} (r : e_R U P c s t u A D H y e o M F G M1 F1 G1) (hb : (M1 36).toInt ≠ -1) (hU : e_UB U' M1) (c' s' t' u' A' H' y' e' : Int) (hy : D + y' ≤ 20 ∧ 0 ≤ y') (he : e ≤ e' ∧ e' ≤ 40) : e_R U' P' c' s' t' u' A' D H' y' e' o M F G M1 F1 G1 := by
  obtain ⟨⟨r1, r2, r3, r4⟩, ⟨a1, a2, a3, a4, a5⟩, r6, r7⟩ := r
  exact ⟨⟨r1, by omega, hy.1, hy.2⟩, ⟨a1, a2, hU, fun g => absurd g.1 hb, fun g => absurd g hb⟩, r6, e_CB_mo r7 he.1⟩
theorem e_UB0 (M : e_M) : e_UB e_U0 M := ⟨fun _ q => absurd q (fun q => q), fun _ q => absurd q (fun q => q), fun _ q => absurd q (fun q => q)⟩
theorem R_Z {U : e_U} {P : Prop} {c s t u A D H y e o : Int} {M M1 M2 : e_M} {F F1 F2 : e_F} {G G1 G2 : e_G} (r : e_R U P c s t u A D H y e o M F G M1 F1 G1) {c2 A2 B2 δ2 : Int} (z : e_Z c2 A2 B2 δ2 M1 F1 G1 M2 F2 G2) (ho : M2 33 = M1 33) (hH : P → A2 ≤ H ∧ H ≤ B2) (e' : Int) (he : 0 ≤ e' ∧ e' ≤ 40) (hC : e_CB M2 e') : e_R U P (c + c2) s t u A D (H + δ2) y e' o M F G M2 F2 G2 := by
  obtain ⟨⟨r1, r2, r3, r4⟩, r5, r6, r7⟩ := r
  obtain ⟨z1, z2, z3⟩ := z
  have hv : e_V c2 0 0 0 M1 M2 := fun g => by have := z3 g; omega
  have hx := e_X_tr (H2 := H + δ2) r5 z1 z2.1 hv r3 r4 (fun g p a b d => by
    obtain ⟨w1, w2, w3⟩ := z2.2 g (by have := hH p; omega) (by have := hH p; omega) b d
    exact ⟨w1, by omega, w3⟩)
  have e2 : s + 0 = s := by omega
  have e3 : t + 0 = t := by omega
  have e4 : u + 0 = u := by omega
  rw [e2, e3, e4] at hx
  exact ⟨⟨r1, he, r3, r4⟩, hx, by rw [ho]; exact r6, hC⟩
theorem rn_put (n : Nat) (hn : n < 18 ∧ n ≠ 0 ∧ n ≠ 5) {o' a b c' : Int32} (hop : o'.toInt = n) {U : e_U} {P : Prop} {c s t u A D H y e o : Int} {M M1 : e_M} {F F1 : e_F} {G G1 : e_G} {Q : Int32 → e_M → e_F → Prop} (r : e_R U P c s t u A D H y e o M F G M1 F1 G1) (hc : c ≤ 3 ∧ e ≤ 39) (hH : P → e_lo n ≤ H ∧ H ≤ e_hi n) (hr : e_gd M1 F1 → (e_al n ≤ a.toInt ∧ a.toInt < e_ah n) ∧ (e_bl n ≤ b.toInt ∧ b.toInt < e_bh n) ∧ c'.toInt < e_ch n) (hQ : ∀ (w : Int32) (M' : e_M) (F' : e_F) (G' : e_G), e_R U P (c + 1) s t u A D (H + e_dl n) y (e + 1) o M F G M' F' G' → (∀ k, k ≠ 29 → M' k = M1 k) → e_PR M1 F1 G1 M' F' G' → w.toInt = e_en M1 → Q w M' F') : w_put o' a b c' M1 F1 Q := by
  have he := r.1.2.1
  refine p_putS n hn hop G1 (R_I r) (e_CB_9 (R_I r) r.2.2.2 (by omega)) hr (fun w M' F' G' z k kc kf kw => hQ w M' F' G' (R_Z r z (k 33 (by decide)) hH (e + 1) (by omega) ⟨fun g => ?_, fun g => ?_⟩) k z.2.1.1 kw)
  · have h1 := z.2.2 g
    have h2 := r.2.1.2.2.2.2 (e_Z_nb z g)
    have h3 := r.1.1
    rw [k 6 (by decide)] at h1 ⊢
    omega
  · rw [k 36 (by decide)] at g
    have h1 := r.2.2.2.2 g
    rw [kc, k 6 (by decide), k 33 (by decide)]
    omega
theorem rn_X {W : e_M → e_F → (e_M → e_F → Prop) → Prop} {n : Nat} {β ex : Int} (hX : e_SX W n β ex) (hn : 22 ≤ n) (hex : 0 ≤ ex) {U : e_U} {P : Prop} {c s t u A D H y e o : Int} {M M1 : e_M} {F F1 : e_F} {G G1 : e_G} {Q : e_M → e_F → Prop} (r : e_R U P c s t u A D H y e o M F G M1 F1 G1) (he' : e + ex ≤ 40) (hb : (M1 36).toInt = -1 → (M1 33).toInt ≤ 20) (hH : P → 0 ≤ H ∧ H ≤ 61 - 3 * (20 - (M1 33).toInt) - β) (hQ : ∀ (M' : e_M) (F' : e_F) (G' : e_G), e_R U P c s t u A D (H + 1) y (e + ex) o M F G M' F' G' → M' 33 = M1 33 → e_PR M1 F1 G1 M' F' G' → Q M' F') : W M1 F1 Q := by
  have he := r.1.2.1
  have ho := e_PI_o (R_I r)
  refine hX M1 F1 G1 e Q (R_I r) r.2.2.2 (by omega) (by omega) ?_ (fun M' F' G' z y' cb => ?_)
  · by_cases q : (M1 36).toInt = -1
    · right; have := hb q; omega
    · exact Or.inl ⟨q, by omega⟩
  · have h := R_Z r z y' hH (e + ex) (by omega) (cb (e + ex) (fun _ => by omega) (fun _ => by omega))
    have e1 : c + 0 = c := by omega
    rw [e1] at h
    exact hQ M' F' G' h y' z.2.1.1
theorem p_takenN {M : e_M} {F : e_F} (G : e_G) {Q : Int32 → e_M → e_F → Prop} (hI : e_PI M F) (hQ : ∀ (r : Int32) (M' : e_M) (F' : e_F), e_P 1 M F G M' F' → M' 33 = M 33 → M' 47 = M 6 → ((M' 36).toInt = -1 → (0 ≤ r.toInt ∧ r.toInt < (M' 12).toInt) ∧ e_sm F' r.toInt.toNat) → Q r M' F') : w_taken 1 M F Q := by
  refine p_taken G hI (by decide) (fun r M1 F1 x1 y1 y47 hx => hQ r M1 F1 x1 y1 y47 (fun g => ?_))
  obtain ⟨t4, tw, tn⟩ := hx g
  obtain ⟨w1, w2⟩ := hI.2.1.1 (by rw [t4]; decide)
  rw [← tw] at w1 w2
  have hm : (M 12).toInt ≤ (M1 12).toInt := x1.2.1.1.2.1.2.2.2.2.1
  exact ⟨by omega, by rw [e_PR_sm x1.2.1 (by omega)]; exact w2⟩
theorem e_nw_mo {M M1 : e_M} {F F1 : e_F} {G G1 : e_G} {w : Int32} (h : e_PR M F G M1 F1 G1) (q : (M 36).toInt = -1 → (0 ≤ w.toInt ∧ w.toInt < (M 12).toInt) ∧ e_sm F w.toInt.toNat) (g : (M1 36).toInt = -1) : (0 ≤ w.toInt ∧ w.toInt < (M1 12).toInt) ∧ e_sm F1 w.toInt.toNat := by
  obtain ⟨w1, w2⟩ := q (e_PR_nb h g)
  have hm : (M 12).toInt ≤ (M1 12).toInt := h.1.2.1.2.2.2.2.1
  exact ⟨by omega, by rw [e_PR_sm h (by omega)]; exact w2⟩
/-- a statement's beginning: its word is passed -/
theorem rn_word {L : Int} (j : Nat) (hL : L = ((e_w2.getD j 0 : Nat) : Int)) {M : e_M} {F : e_F} (G : e_G) (A D : Int) {Q : e_M → e_F → Prop} (hI : e_PI M F) (hb : (M 36).toInt = -1) (h4 : (M 4).toInt = 4) (h5 : (M 5).toInt = j) (hc : (M 29).toInt ≤ 2 * (M 6).toInt + 1) (hD : D ≤ 20) (hQ : ∀ (M' : e_M) (F' : e_F), e_R e_U0 True (0 - 2 * L) (0 - L) (0 - L) (0 - L) A D A 0 0 0 M F G M' F' G → (M' 36).toInt = -1 → M' 33 = M 33 → e_SM M M' → Q M' F') : w_pass M F Q := by
  refine p_passN (G := G) hI hb (fun M1 F1 a b c d => ?_)
  have hl := e_len hI h4 j h5
  obtain ⟨x1, y1⟩ := e_P_pass (c := L) a b c d (by omega)
  exact hQ M1 F1 (R_P (R_rf G A D hI hb hc hD) x1 y1 (by omega)) (by rw [c 36 (by decide) (by decide) (by decide) (by decide) (by decide)]; exact hb) y1 c
def e_nm (M : e_M) : Prop := (M 29).toInt ≤ 2 * (M 6).toInt + 1 ∧ 13 * (M 31).toInt ≤ (M 6).toInt + 13 * ((M 33).toInt - 1) ∧ 11 * (M 32).toInt ≤ (M 6).toInt + 11 * ((M 33).toInt - 1) ∧ 8 * (M 46).toInt ≤ (M 6).toInt
/-- what the method of a statement does that begins with the word j, at height A -/
def e_ST (W : e_M → e_F → (e_M → e_F → Prop) → Prop) (A c : Int) (j : Nat) : Prop := ∀ (M : e_M) (F : e_F) (G : e_G) (Q : e_M → e_F → Prop), e_PI M F → (M 36).toInt = -1 → (M 4).toInt = 4 → (M 5).toInt = j → (1 ≤ (M 33).toInt ∧ (M 33).toInt ≤ 20) → e_nm M → (∀ (M' : e_M) (F' : e_F) (G' : e_G), e_R e_U0 True c 0 (-1) 0 A ((M 33).toInt - 1) 0 0 11 0 M F G M' F' G' → Q M' F') → W M F Q
theorem p_let {WF : e_M → e_F → (e_M → e_F → Prop) → Prop} (hX : e_SX WF 22 0 2) : e_ST (w_let WF) 0 (-1) 1 := by
  intro M F G Q hI hb h4 h5 ho hn hQ
  have z0 : ¬ (1 : Int32) = 0 := by decide
  refine rn_word (L := 3) 1 (by decide) G 0 ((M 33).toInt - 1) hI hb h4 h5 hn.1 (by omega) (fun M1 F1 r1 hb1 y1 _ => p_takenN G (R_I r1) (fun w M3 F3 x3 y3 s3 hw => ?_))
  have r3 := R_P r1 x3 y3 (by decide)
  refine p_need G (R_I r3) (fun M4 F4 x4 y4 => ?_)
  have r4 := R_P r3 x4 y4 (by decide)
  have o4 : M4 33 = M 33 := y4.trans (y3.trans y1)
  refine rn_X (p_whole hX) (by decide) (by decide) r4 (by decide) (fun _ => by rw [o4]; omega) (fun _ => by rw [o4]; omega) (fun M5 F5 G5 r5 y5 p5 => p_need G5 (R_I r5) (fun M6 F6 x6 y6 => ?_))
  have r6 := R_P r5 x6 y6 (by decide)
  have pr : e_PR M3 F3 G M6 F6 G5 := e_PR_tr x4.2.1 (e_PR_tr p5 x6.2.1)
  refine p_tell G5 (R_I r6) (fun g => e_nw_mo pr hw g) (by rw [s3]; exact e_PI_s (R_I r1)) (fun M7 F7 x7 k7 t7 => ?_)
  have r7 := R_P r6 x7 (k7 33 (by decide) (by decide) (by decide)) (by decide)
  refine ⟨fun hb7 => ⟨fun _ => ?_, fun q => absurd rfl q⟩, fun hb7 => ⟨fun q => absurd q z0, fun _ => hQ M7 F7 G5 (R_bad r7 (fun q => ti_ne hb7 (by rw [q]; decide)) (e_UB0 _) _ _ _ _ _ _ _ _ (by omega) (by omega))⟩⟩
  have hb7' : (M7 36).toInt = -1 := by rw [hb7]; decide
  have hw6 := e_nw_mo pr hw (e_PR_nb x7.2.1 hb7')
  have n6 := e_PI_n (R_I r6)
  refine ⟨vp_in_iff.mpr (by omega), rn_put 3 (by decide) (by decide) r7 (by omega) (fun _ => by decide) (fun g => ⟨t7 (e_PR_nb x7.2.1 hb7') g.2.1, ⟨by decide, by decide⟩, by decide⟩) (fun w' M8 F8 G8 r8 _ _ _ => hQ M8 F8 G8 (R_wk r8 (by omega) (by decide) (by omega) rfl))⟩
