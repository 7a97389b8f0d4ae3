theorem R_usA {c s t u A D e o : Int} {M M1 : e_M} {F F1 : e_F} {G G1 : e_G} {T V : Int} (r : e_R (e_UV T V) True c s t u A D 0 1 e o M F G M1 F1 G1) (wT wV b h : Int32) (hwT : wT.toInt = T) (hwV : wV.toInt = V) (hh : h.toInt = e_en M1) (hT : ((400 * (M 27).toInt + (M 31).toInt ≤ T ∧ T < 400 * (M 27).toInt + 400) ∧ 0 ≤ T) ∧ T < 400 * (M 27).toInt + (M1 31).toInt) (hV : ((400 * (M 27).toInt + (M 32).toInt ≤ V ∧ V < 400 * (M 27).toInt + 400) ∧ 0 ≤ V) ∧ V < 400 * (M 27).toInt + (M1 32).toInt) (h0 : 0 ≤ (M 31).toInt ∧ 0 ≤ (M 32).toInt) (hG : G1 3 V.toNat = T) (hb : e_gd M1 F1 → -1 ≤ b.toInt ∧ b.toInt < 8) : e_R (e_UT T) True c s t u A D 0 1 e o M F G M1 (uf (uf (uf (uf F1 24 wV b) 26 wV (-1)) 20 wT wV) 25 wV h) G1 := by
  have v9 := R_9 r
  obtain ⟨r1, ⟨a1, ⟨b1, ⟨b2, b3, b4, ⟨b5, b6, b7, b8⟩, b9, b10⟩, b11⟩, a3, a4, a5⟩, r3, r4⟩ := r
  have eT : wT.toNatClampNeg = T.toNat := by rw [e_tc, hwT]
  have eV : wV.toNatClampNeg = V.toNat := by rw [e_tc, hwV]
  have bb := e_PI_b a1
  have e27 : M1 27 = M 27 := b1.1.1
  have e27' : (M1 27).toInt = (M 27).toInt := by rw [e27]
  have c0 : 0 ≤ (M1 29).toInt := a1.2.2.2.1.2.1
  refine ⟨r1, ⟨a1, ⟨b1, ⟨b2, fun j hj => ?_, fun j hj => ?_, ⟨b5, b6, b7, fun r hr => ?_, fun j hj => b8.2 j hj⟩, b9, b10⟩, b11⟩, ⟨fun k q => absurd q.1 (by decide), fun k q => a3.2.1 k (Or.inl q), fun k q => absurd q.1 (by decide)⟩, fun g p q1 q2 q3 => ?_, a5⟩, r3, r4⟩
  · obtain ⟨x1, x2, x3⟩ := b3 j hj
    exact ⟨(e_upd_ne (by rw [eT]; omega)).trans x1, x2, x3⟩
  · obtain ⟨x1, x2, x3, x4⟩ := b4 j hj
    exact ⟨x1, (e_upd_ne (by rw [eV]; omega)).trans x2, (e_upd_ne (by rw [eV]; omega)).trans x3, (e_upd_ne (by rw [eV]; omega)).trans x4⟩
  · rw [e_uf_ne (by omega), e_uf_ne (by omega), e_uf_ne (by omega), e_uf_ne (by omega)]
    exact b8.1 r hr
  · obtain ⟨⟨s1, s2, s3⟩, t2, t3⟩ := a4 g p q1 q2 q3
    obtain ⟨o1, o2, o3⟩ := (s2 T.toNat (by rw [e27']; omega) (by rw [e27']; omega)).1 (Or.inl ⟨rfl, rfl⟩)
    refine ⟨⟨fun k j1 j2 => ⟨fun q => absurd q.1 (by decide), fun _ => (s1 k j1 j2).2 (fun q => ?_)⟩, fun k j1 j2 => ⟨fun q => ?_, fun q => ?_⟩, fun k j1 j2 => ⟨fun q => absurd q.1 (by decide), fun _ => ?_⟩⟩, t2, t3⟩
    · rcases q with q | q
      · exact absurd q.1 (by decide)
      · exact absurd q.1 (by decide)
    · have e20 : (uf (uf (uf (uf F1 24 wV b) 26 wV (-1)) 20 wT wV) 25 wV h) 20 k = wV := by rw [q.2, ← eT]; exact e_upd_eq
      obtain ⟨p1, p2, p3⟩ := (s2 k j1 j2).1 (Or.inl q)
      refine ⟨p1, p2, Or.inr ?_⟩
      rw [e20, hwV, hG, e27']
      refine ⟨by omega, ?_⟩
      have := q.2
      omega
    · have z : k ≠ T.toNat := fun z => q ⟨rfl, z⟩
      have e20 : (uf (uf (uf (uf F1 24 wV b) 26 wV (-1)) 20 wT wV) 25 wV h) 20 k = F1 20 k := e_upd_ne (by rw [eT]; exact z)
      have o := (s2 k j1 j2).2 (fun y => by
        rcases y with y | y
        · exact q y
        · exact absurd y.1 (by decide))
      unfold e_tok
      rw [e20]
      exact o
    · by_cases z : k = V.toNat
      · have f24 : (uf (uf (uf (uf F1 24 wV b) 26 wV (-1)) 20 wT wV) 25 wV h) 24 k = b := by rw [z, ← eV]; exact e_upd_eq
        have f25 : (uf (uf (uf (uf F1 24 wV b) 26 wV (-1)) 20 wT wV) 25 wV h) 25 k = h := by rw [z, ← eV]; exact e_upd_eq
        have f26 : (uf (uf (uf (uf F1 24 wV b) 26 wV (-1)) 20 wT wV) 25 wV h) 26 k = -1 := by rw [z, ← eV]; exact e_upd_eq
        unfold e_uok
        rw [f24, f25, f26, z, hG, e27']
        refine ⟨hb g, by omega, ?_, Or.inl rfl⟩
        rw [o1, hh]
        exact ⟨by unfold e_en; omega, by omega, t2, by rw [t3]⟩
      · have f24 : (uf (uf (uf (uf F1 24 wV b) 26 wV (-1)) 20 wT wV) 25 wV h) 24 k = F1 24 k := e_upd_ne (by rw [eV]; exact z)
        have f25 : (uf (uf (uf (uf F1 24 wV b) 26 wV (-1)) 20 wT wV) 25 wV h) 25 k = F1 25 k := e_upd_ne (by rw [eV]; exact z)
        have f26 : (uf (uf (uf (uf F1 24 wV b) 26 wV (-1)) 20 wT wV) 25 wV h) 26 k = F1 26 k := e_upd_ne (by rw [eV]; exact z)
        have o := (s3 k j1 j2).2 (fun y => by
          rcases y with y | y
          · exact absurd y.1 (by decide)
          · exact z y.2)
        unfold e_uok
        rw [f24, f25, f26]
        exact o
theorem R_usB {c s t u A D e o : Int} {M M1 : e_M} {F F1 : e_F} {G G1 : e_G} {T V X : Int} (r : e_R (e_UV T V) True c s t u A D 0 1 e o M F G M1 F1 G1) (wX wV b h : Int32) (hwX : wX.toInt = X) (hwV : wV.toInt = V) (hh : h.toInt = e_en M1) (hT : ((400 * (M 27).toInt + (M 31).toInt ≤ T ∧ T < 400 * (M 27).toInt + 400) ∧ 0 ≤ T) ∧ T < 400 * (M 27).toInt + (M1 31).toInt) (hV : ((400 * (M 27).toInt + (M 32).toInt ≤ V ∧ V < 400 * (M 27).toInt + 400) ∧ 0 ≤ V) ∧ V < 400 * (M 27).toInt + (M1 32).toInt) (hX : (400 * (M 27).toInt + (M 32).toInt ≤ X ∧ X < V) ∧ 0 ≤ X) (h0 : 0 ≤ (M 31).toInt ∧ 0 ≤ (M 32).toInt) (hG : G1 3 V.toNat = T) (hGX : G1 3 X.toNat = T) (hb : e_gd M1 F1 → -1 ≤ b.toInt ∧ b.toInt < 8) : e_R (e_UT T) True c s t u A D 0 1 e o M F G M1 (uf (uf (uf (uf F1 24 wV b) 26 wV (-1)) 26 wX wV) 25 wV h) G1 := by
  have v9 := R_9 r
  obtain ⟨r1, ⟨a1, ⟨b1, ⟨b2, b3, b4, ⟨b5, b6, b7, b8⟩, b9, b10⟩, b11⟩, a3, a4, a5⟩, r3, r4⟩ := r
  have eX : wX.toNatClampNeg = X.toNat := by rw [e_tc, hwX]
  have eV : wV.toNatClampNeg = V.toNat := by rw [e_tc, hwV]
  have bb := e_PI_b a1
  have e27 : M1 27 = M 27 := b1.1.1
  have e27' : (M1 27).toInt = (M 27).toInt := by rw [e27]
  have c0 : 0 ≤ (M1 29).toInt := a1.2.2.2.1.2.1
  have g26 : ∀ k, k ≠ X.toNat → (uf (uf (uf (uf F1 24 wV b) 26 wV (-1)) 26 wX wV) 25 wV h) 26 k = upd (F1 26) wV.toNatClampNeg (-1) k := fun k hk => e_upd_ne (by rw [eX]; exact hk)
  refine ⟨r1, ⟨a1, ⟨b1, ⟨b2, b3, fun j hj => ?_, ⟨b5, b6, b7, fun r hr => ?_, fun j hj => b8.2 j hj⟩, b9, b10⟩, b11⟩, ⟨fun k q => absurd q.1 (by decide), fun k q => a3.2.1 k (Or.inl q), fun k q => absurd q.1 (by decide)⟩, fun g p q1 q2 q3 => ?_, a5⟩, r3, r4⟩
  · obtain ⟨x1, x2, x3, x4⟩ := b4 j hj
    exact ⟨x1, (e_upd_ne (by rw [eV]; omega)).trans x2, (e_upd_ne (by rw [eV]; omega)).trans x3, (g26 j (by omega)).trans ((e_upd_ne (by rw [eV]; omega)).trans x4)⟩
  · rw [e_uf_ne (by omega), e_uf_ne (by omega), e_uf_ne (by omega), e_uf_ne (by omega)]
    exact b8.1 r hr
  · obtain ⟨⟨s1, s2, s3⟩, t2, t3⟩ := a4 g p q1 q2 q3
    obtain ⟨o1, o2, o3⟩ := (s2 T.toNat (by rw [e27']; omega) (by rw [e27']; omega)).1 (Or.inl ⟨rfl, rfl⟩)
    refine ⟨⟨fun k j1 j2 => ⟨fun q => absurd q.1 (by decide), fun _ => (s1 k j1 j2).2 (fun q => ?_)⟩, fun k j1 j2 => ⟨fun q => (s2 k j1 j2).1 (Or.inl q), fun q => (s2 k j1 j2).2 (fun y => ?_)⟩, fun k j1 j2 => ⟨fun q => absurd q.1 (by decide), fun _ => ?_⟩⟩, t2, t3⟩
    · rcases q with q | q
      · exact absurd q.1 (by decide)
      · exact absurd q.1 (by decide)
    · rcases y with y | y
      · exact q y
      · exact absurd y.1 (by decide)
    · by_cases z : k = V.toNat
      · have f24 : (uf (uf (uf (uf F1 24 wV b) 26 wV (-1)) 26 wX wV) 25 wV h) 24 k = b := by rw [z, ← eV]; exact e_upd_eq
        have f25 : (uf (uf (uf (uf F1 24 wV b) 26 wV (-1)) 26 wX wV) 25 wV h) 25 k = h := by rw [z, ← eV]; exact e_upd_eq
        have f26 : (uf (uf (uf (uf F1 24 wV b) 26 wV (-1)) 26 wX wV) 25 wV h) 26 k = -1 := by rw [g26 k (by omega), z, ← eV]; exact e_upd_eq
        unfold e_uok
        rw [f24, f25, f26, z, hG, e27']
        refine ⟨hb g, by omega, ?_, Or.inl rfl⟩
        rw [o1, hh]
        exact ⟨by unfold e_en; omega, by omega, t2, by rw [t3]⟩
      · have f24 : (uf (uf (uf (uf F1 24 wV b) 26 wV (-1)) 26 wX wV) 25 wV h) 24 k = F1 24 k := e_upd_ne (by rw [eV]; exact z)
        have f25 : (uf (uf (uf (uf F1 24 wV b) 26 wV (-1)) 26 wX wV) 25 wV h) 25 k = F1 25 k := e_upd_ne (by rw [eV]; exact z)
        have o := (s3 k j1 j2).2 (fun y => by
          rcases y with y | y
          · exact absurd y.1 (by decide)
          · exact z y.2)
        unfold e_uok
        rw [f24, f25]
        by_cases zx : k = X.toNat
        · have f26 : (uf (uf (uf (uf F1 24 wV b) 26 wV (-1)) 26 wX wV) 25 wV h) 26 k = wV := by rw [zx, ← eX]; exact e_upd_eq
          rw [f26]
          refine ⟨o.1, o.2.1, o.2.2.1, Or.inr ?_⟩
          rw [hwV, hG, zx, hGX, e27']
          omega
        · have f26 : (uf (uf (uf (uf F1 24 wV b) 26 wV (-1)) 26 wX wV) 25 wV h) 26 k = F1 26 k := (g26 k zx).trans (e_upd_ne (by rw [eV]; exact z))
          rw [f26]
          exact o
theorem p_takenK {M : e_M} {F : e_F} (G : e_G) {Q : Int32 → e_M → e_F → Prop} (hI : e_PI M F) (hQ : ∀ (r : Int32) (M' : e_M) (F' : e_F), e_P 3 M F G M' F' → M' 33 = M 33 → Q r M' F') : w_taken 5 M F Q := by
  refine p_taken G hI (by decide) (fun r M1 F1 x1 y1 y47 hx => hQ r M1 F1 ⟨x1.1, x1.2.1, x1.2.2.1, fun g => ?_⟩ y1)
  obtain ⟨t4, tw, tn⟩ := hx g
  obtain ⟨j, j1, j2, j3⟩ := hI.2.1.2.2.2 (by rw [t4]; decide)
  have : 3 ≤ e_w3.getD j 0 := by
    have : ∀ j, j < 7 → 3 ≤ e_w3.getD j 0 := by decide
    exact this j j1
  omega
