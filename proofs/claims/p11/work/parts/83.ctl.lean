theorem rn_putC (n : Nat) {o' a b c' : Int32} (hop : o'.toInt = n) (hv y' : Int) {U : e_U} {P : Prop} {c s t u A D H y e o : Int} {M M1 : e_M} {F F1 : e_F} {G G1 : e_G} {Q : Int32 → e_M → e_F → Prop} (r : e_R U P c s t u A D H y e o M F G M1 F1 G1) (hc : c ≤ 3 ∧ e ≤ 39) (hy : D + y' ≤ 20 ∧ 0 ≤ y') (hok : e_gd M1 F1 → P → ∀ (d : Int) (M' : e_M) (F' : e_F) (G' : e_G), G 0 (e_en M).toNat = A → G 1 (e_en M).toNat = d → 0 ≤ d → d ≤ D → e_SU U d M M1 F1 G1 (e_en M1 + 1) → (∀ k, k ≠ 29 → M' k = M1 k) → (∀ x j, 1 < x → G' x j = G1 x j) → e_PR M1 F1 G1 M' F' G' → e_PI M' F' → ((e_en M1).toNat : Int) = e_en M1 → e_en M' = e_en M1 + 1 → e_okc M' F' G' (e_en M' + 1) (e_en M1).toNat a.toInt b.toInt c'.toInt H hv (d + y) (d + y') n) (hQ : ∀ (w : Int32) (M' : e_M) (F' : e_F) (G' : e_G), e_R U P (c + 1) s t u A D hv y' (e + 1) o M F G M' F' G' → (∀ k, k ≠ 29 → M' k = M1 k) → e_PR M1 F1 G1 M' F' G' → w.toInt = e_en M1 → (∀ x j, 1 < x → G' x j = G1 x j) → F' 13 (e_en M1).toNat = o' → e_en M' = e_en M1 + 1 → Q w M' F') : w_put o' a b c' M1 F1 Q := by
  have he := r.1.2.1
  have hI := R_I r
  refine p_put o' a b c' hv (G1 1 (e_en M1).toNat - y + y') G1 hI (e_CB_9 hI r.2.2.2 (by omega)) (fun w M' F' G' h1 h2 h3 h4 h5 h6 h7 h8 => hQ w M' F' G' ⟨⟨r.1.1, by omega, hy.1, hy.2⟩, ⟨h2, e_PR_tr r.2.1.2.1 h3, e_UB_mo h3 r.2.1.2.2.1, fun g p q1 q2 q3 => ?_, fun g => ?_⟩, by rw [h4 33 (by decide)]; exact r.2.2.1, ⟨fun g => ?_, fun g => ?_⟩⟩ h4 h3 h1 h8.2.2 h7.1 (by unfold e_en; rw [h4 27 (by decide), h5]; omega))
  · have hb := e_PI_b hI
    have hk : 0 ≤ (M1 29).toInt := hI.2.2.2.1.2.1
    have k0 : ((e_en M1).toNat : Int) = 9000 * (M1 27).toInt + (M1 29).toInt := by unfold e_en; omega
    have ee : e_en M' = e_en M1 + 1 := by unfold e_en; rw [h4 27 (by decide), h5]; omega
    have k1 : 0 ≤ e_en M1 := by unfold e_en; omega
    have en : (e_en M').toNat = (e_en M1).toNat + 1 := by rw [ee]; omega
    have g1 := e_PR_gd h3 g
    obtain ⟨s1, s2, s3⟩ := r.2.1.2.2.2.1 g1 p q1 q2 q3
    obtain ⟨g0, g1'⟩ := h3.2.2.1 (e_en M1).toNat (by omega)
    have e1 : G1 1 (e_en M1).toNat - y + y' = G 1 (e_en M).toNat + y' := by rw [s3]; omega
    have hh := hok g1 p (G 1 (e_en M).toNat) M' F' G' q1 rfl q2 q3 s1 h4 h8.2.2 h3 h2 (by omega) ee
    have ho : e_ok M' F' G' (e_en M' + 1) (e_en M1).toNat := by
      refine ⟨n, by rw [h7.1]; exact hop, by rw [g1', s3]; have := r.1.2.2; omega, ?_⟩
      rw [h7.2.1, h7.2.2.1, h7.2.2.2, g0, g1', s2, s3, h8.1, h8.2.1, e1]
      exact hh
    refine ⟨e_SU_tr h3 hb.1 (by omega) (by unfold e_en; omega) s1 r.2.1.2.2.1 (e_SG_one hb.1 hk (h4 27 (by decide)) h5 (h4 31 (by decide)) (h4 32 (by decide)) ho), by rw [en]; exact h8.1, by rw [en, h8.2.1, e1]⟩
  · have h9 := r.2.1.2.2.2.2 (e_PR_nb h3 g)
    rw [h4 6 (by decide), h4 31 (by decide), h4 32 (by decide), h4 46 (by decide), h5]
    omega
  · have h9 := r.2.1.2.2.2.2 (e_PR_nb h3 g)
    have h10 := r.1.1
    rw [h4 6 (by decide), h5]
    omega
  · rw [h4 36 (by decide)] at g
    have h9 := r.2.2.2.2 g
    rw [h5, h4 6 (by decide), h4 33 (by decide)]
    omega
theorem e_SU_hole {U : e_U} {d : Int} {M0 M M' : e_M} {F F' : e_F} {G G' : e_G} (h : e_PR M F G M' F' G') {L L' : Int} (hb : 0 ≤ (M 27).toInt) (hk : 0 ≤ (M 29).toInt) (hL : L ≤ L') (hl : L ≤ 9000 * (M 27).toInt + (M 29).toInt + 1) (s : e_SU U d M0 M F G L) (u : e_UB U M) (h29 : (M' 29).toInt = (M 29).toInt + 1) (h31 : M' 31 = M 31) (h32 : M' 32 = M 32) (ho : e_okh d F' G' L' (e_en M).toNat) : e_SU (fun r k => U r k ∨ (r = 0 ∧ k = (e_en M).toNat)) d M0 M' F' G' L' := by
  have e : M' 27 = M 27 := h.1.1.1
  obtain ⟨s1, s2, s3⟩ := s
  obtain ⟨u1, u2, u3⟩ := u
  have k0 : ((e_en M).toNat : Int) = 9000 * (M 27).toInt + (M 29).toInt := by unfold e_en; omega
  refine ⟨fun k h1 h2 => ?_, fun t h1 h2 => ?_, fun u h1 h2 => ?_⟩ <;> rw [e] at h1 h2
  · by_cases g : (k : Int) < 9000 * (M 27).toInt + (M 29).toInt
    · refine ⟨fun x => ?_, fun x => e_ok_mo h hb hL hl g ((s1 k h1 g).2 (fun q => x (Or.inl q)))⟩
      rcases x with x | x
      · exact e_okh_mo h hL g ((s1 k h1 g).1 x)
      · exact absurd x.2 (by omega)
    · have ek : k = (e_en M).toNat := by omega
      refine ⟨fun _ => by rw [ek]; exact ho, fun x => absurd (Or.inr ⟨rfl, ek⟩) x⟩
  · rw [h31] at h2
    refine ⟨fun x => ?_, fun x => e_tok_mo h hb hL hl h2 ((s2 t h1 h2).2 (fun q => x (Or.inl q)))⟩
    rcases x with x | x
    · exact e_tkh_mo h hb hL hl h2 ((s2 t h1 h2).1 x)
    · exact absurd x.1 (by decide)
  · rw [h32] at h2
    refine ⟨fun x => ?_, fun x => e_uok_mo h hb hL hl h2 ((s3 u h1 h2).2 (fun q => x (Or.inl q)))⟩
    rcases x with x | x
    · exact e_ukh_mo h h2 ((s3 u h1 h2).1 x)
    · exact absurd x.1 (by decide)
/-- a code whose target is not yet known -/
theorem rn_putH {o' : Int32} {U : e_U} {P : Prop} {c s t u A D H e o : Int} {M M1 : e_M} {F F1 : e_F} {G G1 : e_G} {Q : Int32 → e_M → e_F → Prop} (r : e_R U P c s t u A D H 0 e o M F G M1 F1 G1) (hc : c ≤ 3 ∧ e ≤ 39) (hop : (o'.toInt = 21 ∧ H = 1) ∨ (o'.toInt = 20 ∧ H = 0)) (hQ : ∀ (w : Int32) (M' : e_M) (F' : e_F) (G' : e_G), e_R (fun r k => U r k ∨ (r = 0 ∧ k = (e_en M1).toNat)) P (c + 1) s t u A D 0 0 (e + 1) o M F G M' F' G' → (∀ k, k ≠ 29 → M' k = M1 k) → e_PR M1 F1 G1 M' F' G' → (w.toInt = e_en M1 ∧ e_en M' = e_en M1 + 1 ∧ e_en M ≤ e_en M1) → Q w M' F') : w_put o' 0 0 0 M1 F1 Q := by
  have he := r.1.2.1
  have hI := R_I r
  have hb := e_PI_b hI
  have hk : 0 ≤ (M1 29).toInt := hI.2.2.2.1.2.1
  have k0 : ((e_en M1).toNat : Int) = 9000 * (M1 27).toInt + (M1 29).toInt := by unfold e_en; omega
  have k1 : 0 ≤ e_en M1 := by unfold e_en; omega
  have e27 : M1 27 = M 27 := r.2.1.2.1.1.1.1
  have m29 : (M 29).toInt ≤ (M1 29).toInt := r.2.1.2.1.1.2.1.1
  refine p_put o' 0 0 0 0 (G1 1 (e_en M1).toNat) G1 hI (e_CB_9 hI r.2.2.2 (by omega)) (fun w M' F' G' h1 h2 h3 h4 h5 h6 h7 h8 => ?_)
  have ee : e_en M' = e_en M1 + 1 := by unfold e_en; rw [h4 27 (by decide), h5]; omega
  refine hQ w M' F' G' ⟨⟨r.1.1, by omega, r.1.2.2⟩, ⟨h2, e_PR_tr r.2.1.2.1 h3, ?_, fun g p q1 q2 q3 => ?_, fun g => ?_⟩, by rw [h4 33 (by decide)]; exact r.2.2.1, ⟨fun g => ?_, fun g => ?_⟩⟩ h4 h3 ⟨h1, ee, by unfold e_en; rw [e27]; omega⟩
  · obtain ⟨u1, u2, u3⟩ := e_UB_mo h3 r.2.1.2.2.1
    refine ⟨fun k q => ?_, fun k q => ?_, fun k q => ?_⟩
    · rcases q with q | q
      · exact u1 k q
      · rw [h4 27 (by decide), h5]; omega
    · rcases q with q | q
      · exact u2 k q
      · exact absurd q.1 (by decide)
    · rcases q with q | q
      · exact u3 k q
      · exact absurd q.1 (by decide)
  · have en : (e_en M').toNat = (e_en M1).toNat + 1 := by rw [ee]; omega
    have g1 := e_PR_gd h3 g
    obtain ⟨s1, s2, s3⟩ := r.2.1.2.2.2.1 g1 p q1 q2 q3
    obtain ⟨g0, g1'⟩ := h3.2.2.1 (e_en M1).toNat (by omega)
    have ho : e_okh (G 1 (e_en M).toNat) F' G' (e_en M' + 1) (e_en M1).toNat := by
      refine ⟨by rw [g1', s3]; omega, ?_⟩
      rw [h7.1, g0, s2, h8.1, h8.2.1, s3]
      rcases hop with q | q
      · left; exact ⟨q.1, q.2, rfl, by omega, by omega⟩
      · right; exact q
    exact ⟨e_SU_hole h3 hb.1 hk (by omega) (by unfold e_en; omega) s1 r.2.1.2.2.1 h5 (h4 31 (by decide)) (h4 32 (by decide)) ho, by rw [en]; exact h8.1, by rw [en, h8.2.1, s3]⟩
  · have h9 := r.2.1.2.2.2.2 (e_PR_nb h3 g)
    rw [h4 6 (by decide), h4 31 (by decide), h4 32 (by decide), h4 46 (by decide), h5]
    omega
  · have h9 := r.2.1.2.2.2.2 (e_PR_nb h3 g)
    have h10 := r.1.1
    rw [h4 6 (by decide), h5]
    omega
  · rw [h4 36 (by decide)] at g
    have h9 := r.2.2.2.2 g
    rw [h5, h4 6 (by decide), h4 33 (by decide)]
    omega
theorem e_ok_14 {M : e_M} {F : e_F} {G : e_G} {L : Int} {k : Nat} {w v : Int32} (h : k ≠ w.toInt.toNat) (o : e_ok M F G L k) : e_ok M (uf F 14 w v) G L k := by
  have e : (uf F 14 w v) 14 k = F 14 k := e_upd_ne h
  unfold e_ok
  rw [e]
  exact o
theorem R_fill (w v : Int32) {U U' : e_U} {P : Prop} {c s t u A D e o : Int} {M M1 : e_M} {F F1 : e_F} {G G1 : e_G} (r : e_R U P c s t u A D 0 0 e o M F G M1 F1 G1) (k0 : Int) (hw : w.toInt = k0) (hk : e_en M ≤ k0 ∧ k0 < e_en M1 ∧ 0 ≤ k0) (hv : v.toInt = e_en M1) (hu : U 0 k0.toNat) (h1 : ∀ r k, U' r k → U r k) (h2 : ∀ r k, U r k → U' r k ∨ (r = 0 ∧ k = k0.toNat)) : e_R U' P c s t u A D 0 0 e o M F G M1 (uf F1 14 w v) G1 := by
  obtain ⟨r1, ⟨a1, ⟨b1, ⟨b2, b3, b4, ⟨b5, b6, b7, b8⟩, b9, b10⟩, b11⟩, ⟨a31, a32, a33⟩, a4, a5⟩, r3⟩ := r
  have hb := e_PI_b a1
  have e27 : M1 27 = M 27 := b1.1.1
  have e27' : (M1 27).toInt = (M 27).toInt := by rw [e27]
  have c0 : 0 ≤ (M1 29).toInt := a1.2.2.2.1.2.1
  have c9 := e_CB_9 a1 r3.2 (by omega)
  have ew : w.toInt.toNat = k0.toNat := by rw [hw]
  have m29 : (M 29).toInt ≤ (M1 29).toInt := b1.2.1.1
  have x1 : e_en M = 9000 * (M 27).toInt + (M 29).toInt := rfl
  have x2 : e_en M1 = 9000 * (M 27).toInt + (M1 29).toInt := by unfold e_en; rw [e27]
  refine ⟨r1, ⟨a1, ⟨b1, ⟨fun j hj => ?_, b3, b4, ⟨b5, b6, b7, fun r hr => (e_uf_ne (by omega)).trans (b8.1 r hr), fun j hj => b8.2 j hj⟩, b9, b10⟩, b11⟩, ⟨fun k q => a31 k (h1 _ _ q), fun k q => a32 k (h1 _ _ q), fun k q => a33 k (h1 _ _ q)⟩, fun g p q1 q2 q3 => ?_, a5⟩, r3⟩
  · obtain ⟨q1, q2, q3, q4⟩ := b2 j hj
    have e14 : (uf F1 14 w v) 14 j = F1 14 j := e_upd_ne (by rw [e_tc, ew]; omega)
    exact ⟨q1, e14.trans q2, q3, q4⟩
  · obtain ⟨⟨s1, s2, s3⟩, t2, t3⟩ := a4 g p q1 q2 q3
    refine ⟨⟨fun k i1 i2 => ⟨fun q => (s1 k i1 i2).1 (h1 _ _ q), fun q => ?_⟩, fun k i1 i2 => ⟨fun q => (s2 k i1 i2).1 (h1 _ _ q), fun q => (s2 k i1 i2).2 (fun z => ?_)⟩, fun k i1 i2 => ⟨fun q => (s3 k i1 i2).1 (h1 _ _ q), fun q => (s3 k i1 i2).2 (fun z => ?_)⟩⟩, t2, t3⟩
    · by_cases z : k = k0.toNat
      · obtain ⟨o1, o2⟩ := (s1 k i1 i2).1 (by rw [z]; exact hu)
        have e14 : (uf F1 14 w v) 14 k = v := by rw [z, ← ew]; exact e_upd_eq
        have tg : e_tg G1 (9000 * (M1 27).toInt) (e_en M1 + 1) v.toInt (G 1 (e_en M).toNat) := ⟨by rw [hv, x2, e27]; omega, by omega, by rw [hv]; exact t2, by rw [hv, t3]; omega⟩
        have kv : (k : Int) < v.toInt := by omega
        have hG : 0 ≤ G1 1 k ∧ G1 1 k ≤ 20 := by rw [o1]; omega
        rcases o2 with o2 | o2
        · refine ⟨21, o2.1, hG, Or.inr (Or.inr (Or.inr (Or.inr (Or.inr (Or.inl ⟨rfl, o2.2.1, o2.2.2.1, by rw [o1]; exact o2.2.2.2.1, o2.2.2.2.2, ?_⟩)))))⟩
          rw [e14, o1]
          exact ⟨tg, kv⟩
        · refine ⟨20, o2.1, hG, Or.inr (Or.inr (Or.inr (Or.inr (Or.inl ⟨rfl, o2.2, ?_⟩))))⟩
          rw [e14, o1]
          exact ⟨tg, Or.inl kv⟩
      · refine e_ok_14 (by rw [ew]; exact z) ((s1 k i1 i2).2 (fun y => ?_))
        rcases h2 _ _ y with y | y
        · exact q y
        · exact z y.2
    · rcases h2 _ _ z with y | y
      · exact q y
      · exact absurd y.1 (by decide)
    · rcases h2 _ _ z with y | y
      · exact q y
      · exact absurd y.1 (by decide)
theorem R_mP {U : e_U} {P P' : Prop} {c s t u A D H y e o : Int} {M M1 : e_M} {F F1 : e_F} {G G1 : e_G} (r : e_R U P c s t u A D H y e o M F G M1 F1 G1) (h : P' → P) : e_R U P' c s t u A D H y e o M F G M1 F1 G1 := ⟨r.1, ⟨r.2.1.1, r.2.1.2.1, r.2.1.2.2.1, fun g p => r.2.1.2.2.2.1 g (h p), r.2.1.2.2.2.2⟩, r.2.2⟩
