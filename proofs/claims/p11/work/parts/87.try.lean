theorem e_row4 {a b : Int32} (ha : 0 ≤ a.toInt ∧ a.toInt ≤ 1) (hb : 0 ≤ b.toInt ∧ b.toInt ≤ 5000) : (400 * a + b).toInt = 400 * a.toInt + b.toInt := by
  have e1 : (400 * a).toInt = 400 * a.toInt := by
    obtain ⟨k, h1, h2, h3⟩ := ti_mulc2 400 a 400 (by decide)
    omega
  have e2 := ti_addx (400 * a) b (by omega)
  omega
def e_UT (T : Int) : e_U := fun r k => r = 1 ∧ k = T.toNat
def e_UV (T V : Int) : e_U := fun r k => (r = 1 ∧ k = T.toNat) ∨ (r = 2 ∧ k = V.toNat)
/-- a try more -/
theorem R_try {c s t u A D H e o : Int} {M M1 : e_M} {F F1 : e_F} {G G1 : e_G} (r : e_R e_U0 True c s t u A D H 0 e o M F G M1 F1 G1) (w : Int32) (T : Int) (hw : w.toInt = T) (hT : T = 400 * (M1 27).toInt + (M1 31).toInt) (h4 : (M1 31).toInt < 400) : e_R (e_UT T) True c (s + 13) t u A D H 0 e o M F G (um M1 31 (M1 31 + 1)) (uf (uf F1 20 w (-1)) 21 w (-1)) (fun r j => if r = 2 ∧ j = T.toNat then G 1 (e_en M).toNat else G1 r j) := by
  have l1 : (1 : Int32).toInt = 1 := by decide
  obtain ⟨r1, ⟨a1, a2, a3, a4, a5⟩, r3, r4⟩ := r
  obtain ⟨i1, i2, i3, ⟨ia, ib, ic, id, ie, ig, ih⟩, i5, i6⟩ := a1
  have e31 := ti_addx (M1 31) 1 (by omega)
  rw [l1] at e31
  have ew : w.toNatClampNeg = T.toNat := by rw [e_tc, hw]
  have pr : e_PR M1 F1 G1 (um M1 31 (M1 31 + 1)) (uf (uf F1 20 w (-1)) 21 w (-1)) (fun r j => if r = 2 ∧ j = T.toNat then G 1 (e_en M).toNat else G1 r j) := by
    refine ⟨⟨⟨rfl, rfl, rfl, rfl, rfl, fun k hk => e_um_ne (by omega)⟩, ⟨Int.le_refl _, (show (M1 31).toInt ≤ (M1 31 + 1).toInt from by omega), Int.le_refl _, Int.le_refl _, Int.le_refl _, Int.le_refl _⟩, fun h => h, fun h => h⟩, ⟨fun _ _ => ⟨rfl, rfl, rfl, rfl⟩, fun j hj => ⟨e_upd_ne (by rw [ew]; omega), e_upd_ne (by rw [ew]; omega), rfl⟩, fun _ _ => ⟨rfl, rfl, rfl, rfl⟩, ⟨rfl, rfl, rfl, fun r hr => by rw [e_uf_ne (by omega), e_uf_ne (by omega)], fun _ _ => rfl⟩, fun _ _ => ⟨rfl, rfl, rfl⟩, fun _ _ => ⟨rfl, rfl⟩⟩, ⟨fun j hj => ⟨if_neg (fun q => absurd q.1 (by decide)), if_neg (fun q => absurd q.1 (by decide))⟩, fun j hj => if_neg (fun q => absurd q.2 (by omega)), fun j hj => if_neg (fun q => absurd q.1 (by decide))⟩⟩
  refine ⟨r1, ⟨⟨i1, i2, i3, ⟨ia, ib, (show 0 ≤ (M1 31 + 1).toInt from by omega), id, ie, ig, ih⟩, i5, i6⟩, e_PR_tr a2 pr, ⟨fun k q => absurd q.1 (by decide), fun k q => ?_, fun k q => absurd q.1 (by decide)⟩, fun g p q1 q2 q3 => ?_, fun g => ?_⟩, r3, r4⟩
  · show (k : Int) < 400 * (M1 27).toInt + (M1 31 + 1).toInt
    have := q.2
    omega
  · obtain ⟨⟨s1, s2, s3⟩, t2, t3⟩ := a4 (e_PR_gd pr g) p q1 q2 q3
    have hl : e_en M1 + 1 ≤ 9000 * (M1 27).toInt + (M1 29).toInt + 1 := by unfold e_en; omega
    refine ⟨⟨fun k j1 j2 => ⟨fun q => absurd q.1 (by decide), fun _ => e_ok_mo pr ia.1 (Int.le_refl _) hl j2 ((s1 k j1 j2).2 (fun q => q))⟩, fun k j1 j2 => ?_, fun k j1 j2 => ⟨fun q => absurd q.1 (by decide), fun _ => e_uok_mo pr ia.1 (Int.le_refl _) hl j2 ((s3 k j1 j2).2 (fun q => q))⟩⟩, (if_neg (fun q => absurd q.1 (by decide))).trans t2, (if_neg (fun q => absurd q.1 (by decide))).trans t3⟩
    have j2' : (k : Int) < 400 * (M1 27).toInt + (M1 31 + 1).toInt := j2
    by_cases z : k = T.toNat
    · refine ⟨fun _ => ?_, fun q => absurd ⟨rfl, z⟩ q⟩
      rw [z]
      refine ⟨if_pos ⟨rfl, rfl⟩, Or.inl (by rw [← ew]; exact e_upd_eq), Or.inl (by rw [← ew]; exact e_upd_eq)⟩
    · have j3 : (k : Int) < 400 * (M1 27).toInt + (M1 31).toInt := by omega
      exact ⟨fun q => absurd q.2 z, fun _ => e_tok_mo pr ia.1 (Int.le_refl _) hl j3 ((s2 k j1 j3).2 (fun q => q))⟩
  · have := a5 g
    show (M1 29).toInt - (M 29).toInt ≤ 2 * ((M1 6).toInt - (M 6).toInt) + c ∧ 13 * ((M1 31 + 1).toInt - (M 31).toInt) ≤ (M1 6).toInt - (M 6).toInt + (s + 13) ∧ 11 * ((M1 32).toInt - (M 32).toInt) ≤ (M1 6).toInt - (M 6).toInt + t ∧ 8 * ((M1 46).toInt - (M 46).toInt) ≤ (M1 6).toInt - (M 6).toInt + u
    omega
/-- an uphold more -/
theorem R_uph {c s t u A D H y e o : Int} {M M1 : e_M} {F F1 : e_F} {G G1 : e_G} {T : Int} (r : e_R (e_UT T) True c s t u A D H y e o M F G M1 F1 G1) (V : Int) (hT : 400 * (M1 27).toInt ≤ T ∧ T < 400 * (M1 27).toInt + (M1 31).toInt) (hV : V = 400 * (M1 27).toInt + (M1 32).toInt) (h4 : (M1 32).toInt < 400) : e_R (e_UV T V) True c s (t + 11) u A D H y e o M F G (um M1 32 (M1 32 + 1)) F1 (fun r j => if r = 3 ∧ j = V.toNat then T else G1 r j) := by
  have l1 : (1 : Int32).toInt = 1 := by decide
  obtain ⟨r1, ⟨a1, a2, a3, a4, a5⟩, r3, r4⟩ := r
  obtain ⟨i1, i2, i3, ⟨ia, ib, ic, id, ie, ig, ih⟩, i5, i6⟩ := a1
  have e31 := ti_addx (M1 32) 1 (by omega)
  rw [l1] at e31
  have pr : e_PR M1 F1 G1 (um M1 32 (M1 32 + 1)) F1 (fun r j => if r = 3 ∧ j = V.toNat then T else G1 r j) := by
    refine ⟨⟨⟨rfl, rfl, rfl, rfl, rfl, fun k hk => e_um_ne (by omega)⟩, ⟨Int.le_refl _, Int.le_refl _, (show (M1 32).toInt ≤ (M1 32 + 1).toInt from by omega), Int.le_refl _, Int.le_refl _, Int.le_refl _⟩, fun h => h, fun h => h⟩, (e_PR_rf M1 F1 G1).2.1, ⟨fun j hj => ⟨if_neg (fun q => absurd q.1 (by decide)), if_neg (fun q => absurd q.1 (by decide))⟩, fun j hj => if_neg (fun q => absurd q.1 (by decide)), fun j hj => if_neg (fun q => absurd q.2 (by omega))⟩⟩
  refine ⟨r1, ⟨⟨i1, i2, i3, ⟨ia, ib, ic, (show 0 ≤ (M1 32 + 1).toInt from by omega), ie, ig, ih⟩, i5, i6⟩, e_PR_tr a2 pr, ⟨fun k q => ?_, fun k q => ?_, fun k q => ?_⟩, fun g p q1 q2 q3 => ?_, fun g => ?_⟩, r3, r4⟩
  · rcases q with q | q
    · exact absurd q.1 (by decide)
    · exact absurd q.1 (by decide)
  · rcases q with q | q
    · exact a3.2.1 k q
    · exact absurd q.1 (by decide)
  · rcases q with q | q
    · exact absurd q.1 (by decide)
    · show (k : Int) < 400 * (M1 27).toInt + (M1 32 + 1).toInt
      have := q.2
      omega
  · obtain ⟨⟨s1, s2, s3⟩, t2, t3⟩ := a4 (e_PR_gd pr g) p q1 q2 q3
    have hl : e_en M1 + 1 ≤ 9000 * (M1 27).toInt + (M1 29).toInt + 1 := by unfold e_en; omega
    refine ⟨⟨fun k j1 j2 => ⟨fun q => ?_, fun _ => e_ok_mo pr ia.1 (Int.le_refl _) hl j2 ((s1 k j1 j2).2 (fun q => absurd q.1 (by decide)))⟩, fun k j1 j2 => ⟨fun q => ?_, fun q => e_tok_mo pr ia.1 (Int.le_refl _) hl j2 ((s2 k j1 j2).2 (fun z => q (Or.inl z)))⟩, fun k j1 j2 => ?_⟩, (if_neg (fun q => absurd q.1 (by decide))).trans t2, (if_neg (fun q => absurd q.1 (by decide))).trans t3⟩
    · rcases q with q | q
      · exact absurd q.1 (by decide)
      · exact absurd q.1 (by decide)
    · rcases q with q | q
      · exact e_tkh_mo pr ia.1 (Int.le_refl _) hl j2 ((s2 k j1 j2).1 q)
      · exact absurd q.1 (by decide)
    · have j2' : (k : Int) < 400 * (M1 27).toInt + (M1 32 + 1).toInt := j2
      by_cases z : k = V.toNat
      · refine ⟨fun _ => ?_, fun q => absurd (Or.inr ⟨rfl, z⟩) q⟩
        have e3 : (fun r j => if r = 3 ∧ j = V.toNat then T else G1 r j : e_G) 3 k = T := if_pos ⟨rfl, z⟩
        unfold e_ukh
        rw [e3]
        exact hT
      · have j3 : (k : Int) < 400 * (M1 27).toInt + (M1 32).toInt := by omega
        refine ⟨fun q => ?_, fun _ => e_uok_mo pr ia.1 (Int.le_refl _) hl j3 ((s3 k j1 j3).2 (fun q => absurd q.1 (by decide)))⟩
        rcases q with q | q
        · exact absurd q.1 (by decide)
        · exact absurd q.2 z
  · have := a5 g
    show (M1 29).toInt - (M 29).toInt ≤ 2 * ((M1 6).toInt - (M 6).toInt) + c ∧ 13 * ((M1 31).toInt - (M 31).toInt) ≤ (M1 6).toInt - (M 6).toInt + s ∧ 11 * ((M1 32 + 1).toInt - (M 32).toInt) ≤ (M1 6).toInt - (M 6).toInt + (t + 11) ∧ 8 * ((M1 46).toInt - (M 46).toInt) ≤ (M1 6).toInt - (M 6).toInt + u
    omega
theorem R_22 {c s t u A D e o : Int} {M M1 : e_M} {F F1 : e_F} {G G1 : e_G} {T : Int} (r : e_R (e_UT T) True c s t u A D 0 0 e o M F G M1 F1 G1) (w v : Int32) (hw : w.toInt = T) (hv : v.toInt = e_en M1) (hT : (400 * (M 27).toInt + (M 31).toInt ≤ T ∧ T < 400 * (M 27).toInt + 400) ∧ 0 ≤ T) : e_R e_U0 True c s t u A D 0 0 e o M F G M1 (uf F1 22 w v) G1 := by
  have v9 := R_9 r
  obtain ⟨r1, ⟨a1, ⟨b1, ⟨b2, b3, b4, ⟨b5, b6, b7, b8⟩, b9, b10⟩, b11⟩, a3, a4, a5⟩, r3, r4⟩ := r
  have ew : w.toNatClampNeg = T.toNat := by rw [e_tc, hw]
  have b := e_PI_b a1
  have c0 : 0 ≤ (M1 29).toInt := a1.2.2.2.1.2.1
  refine ⟨r1, ⟨a1, ⟨b1, ⟨b2, fun j hj => ?_, b4, ⟨b5, b6, b7, fun r hr => (e_uf_ne (by omega)).trans (b8.1 r hr), fun j hj => b8.2 j hj⟩, b9, b10⟩, b11⟩, e_UB0 _, fun g p q1 q2 q3 => ?_, a5⟩, r3, r4⟩
  · obtain ⟨x1, x2, x3⟩ := b3 j hj
    exact ⟨x1, x2, (e_upd_ne (by rw [ew]; omega)).trans x3⟩
  · obtain ⟨⟨s1, s2, s3⟩, t2, t3⟩ := a4 g p q1 q2 q3
    refine ⟨⟨fun k j1 j2 => ⟨fun q => absurd q (fun q => q), fun _ => (s1 k j1 j2).2 (fun q => absurd q.1 (by decide))⟩, fun k j1 j2 => ⟨fun q => absurd q (fun q => q), fun _ => ?_⟩, fun k j1 j2 => ⟨fun q => absurd q (fun q => q), fun _ => (s3 k j1 j2).2 (fun q => absurd q.1 (by decide))⟩⟩, t2, t3⟩
    by_cases z : k = T.toNat
    · obtain ⟨o1, o2, o3⟩ := (s2 k j1 j2).1 ⟨rfl, z⟩
      have e22 : (uf F1 22 w v) 22 k = v := by rw [z, ← ew]; exact e_upd_eq
      refine ⟨?_, o2, o3⟩
      rw [e22]
      exact ⟨by rw [hv]; unfold e_en; omega, by rw [hv]; omega, by rw [hv]; exact t2, by rw [hv, t3, o1]; omega⟩
    · have e22 : (uf F1 22 w v) 22 k = F1 22 k := e_upd_ne (by rw [ew]; exact z)
      have o := (s2 k j1 j2).2 (fun q => z q.2)
      unfold e_tok
      rw [e22]
      exact o
theorem R_21 {c s t u A D e o : Int} {M M1 : e_M} {F F1 : e_F} {G G1 : e_G} {T : Int} (r : e_R (e_UT T) True c s t u A D 0 1 e o M F G M1 F1 G1) (w v : Int32) (hw : w.toInt = T) (hv : v.toInt = e_en M1) (hT : (400 * (M 27).toInt + (M 31).toInt ≤ T ∧ T < 400 * (M 27).toInt + 400) ∧ 0 ≤ T) : e_R (e_UT T) True c s t u A D 0 1 e o M F G M1 (uf F1 21 w v) G1 := by
  have v9 := R_9 r
  obtain ⟨r1, ⟨a1, ⟨b1, ⟨b2, b3, b4, ⟨b5, b6, b7, b8⟩, b9, b10⟩, b11⟩, a3, a4, a5⟩, r3, r4⟩ := r
  have ew : w.toNatClampNeg = T.toNat := by rw [e_tc, hw]
  have b := e_PI_b a1
  have c0 : 0 ≤ (M1 29).toInt := a1.2.2.2.1.2.1
  refine ⟨r1, ⟨a1, ⟨b1, ⟨b2, fun j hj => ?_, b4, ⟨b5, b6, b7, fun r hr => (e_uf_ne (by omega)).trans (b8.1 r hr), fun j hj => b8.2 j hj⟩, b9, b10⟩, b11⟩, a3, fun g p q1 q2 q3 => ?_, a5⟩, r3, r4⟩
  · obtain ⟨x1, x2, x3⟩ := b3 j hj
    exact ⟨x1, (e_upd_ne (by rw [ew]; omega)).trans x2, x3⟩
  · obtain ⟨⟨s1, s2, s3⟩, t2, t3⟩ := a4 g p q1 q2 q3
    refine ⟨⟨s1, fun k j1 j2 => ⟨fun q => ?_, fun q => ?_⟩, s3⟩, t2, t3⟩
    · obtain ⟨o1, o2, o3⟩ := (s2 k j1 j2).1 q
      have e22 : (uf F1 21 w v) 21 k = v := by rw [q.2, ← ew]; exact e_upd_eq
      refine ⟨o1, Or.inr ?_, o3⟩
      rw [e22]
      exact ⟨by rw [hv]; unfold e_en; omega, by rw [hv]; omega, by rw [hv]; exact t2, by rw [hv, t3, o1]⟩
    · have z : k ≠ T.toNat := fun z => q ⟨rfl, z⟩
      have e22 : (uf F1 21 w v) 21 k = F1 21 k := e_upd_ne (by rw [ew]; exact z)
      have o := (s2 k j1 j2).2 q
      unfold e_tok
      rw [e22]
      exact o
theorem R_23 {U : e_U} {P : Prop} {c s t u A D H y e o : Int} {M M1 : e_M} {F F1 : e_F} {G G1 : e_G} (r : e_R U P c s t u A D H y e o M F G M1 F1 G1) (w v : Int32) (hw : (400 * (M 27).toInt + (M 32).toInt ≤ w.toInt ∧ w.toInt < 400 * (M 27).toInt + 400) ∧ 0 ≤ w.toInt) : e_R U P c s t u A D H y e o M F G M1 (uf F1 23 w v) G1 := by
  obtain ⟨r1, ⟨a1, ⟨b1, ⟨b2, b3, b4, ⟨b5, b6, b7, b8⟩, b9, b10⟩, b11⟩, a3, a4, a5⟩, r3, r4⟩ := r
  refine ⟨r1, ⟨a1, ⟨b1, ⟨b2, b3, fun j hj => ?_, ⟨b5, b6, b7, fun r hr => (e_uf_ne (by omega)).trans (b8.1 r hr), fun j hj => b8.2 j hj⟩, b9, b10⟩, b11⟩, a3, a4, a5⟩, r3, r4⟩
  obtain ⟨x1, x2, x3, x4⟩ := b4 j hj
  exact ⟨(e_upd_ne (by rw [e_tc]; omega)).trans x1, x2, x3, x4⟩
