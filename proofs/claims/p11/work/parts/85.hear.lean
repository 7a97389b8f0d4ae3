theorem rn_hearEnd {c s t u A D e o : Int} {M M1 : e_M} {F F1 : e_F} {G G1 : e_G} {Q : e_M → e_F → Prop} {a1 a2 a3 a4 : Int32} (r : e_R e_U0 (a3.toInt ≤ 4) c s t u A D a3.toInt 0 e o M F G M1 F1 G1) (hb : (M1 36).toInt = -1) (hc : c ≤ 3 ∧ e ≤ 39) (h3 : 0 ≤ a3.toInt) (hu : u ≤ 0 ∧ 8 * (M 46).toInt ≤ (M 6).toInt) (hw : 0 ≤ a1.toInt ∧ a1.toInt < (M1 12).toInt) (ha2 : 0 ≤ a2.toInt) (h4 : e_gd M1 F1 → -1 ≤ a4.toInt ∧ a4.toInt < 12) (hQ : ∀ (M' : e_M) (F' : e_F) (G' : e_G), e_R e_U0 True (c + 1) s t (u + 8) A D 0 0 (e + 1) o M F G M' F' G' → Q M' F') : (vp_in (M1 46) 700 ∧ (vp_in (M1 46) 700 ∧ (vp_in (M1 46) 700 ∧ (w_put 18 0 a3 a4 M1 (uf (uf (uf F1 43 (M1 46) a1) 44 (M1 46) a3) 45 (M1 46) a2) (fun r16 M17 F17 => (vp_in (M1 46) 700 ∧ (Q (um M17 46 ((M17 46) + 1)) (uf F17 42 (M1 46) r16)))))))) := by
  have l1 : (1 : Int32).toInt = 1 := by decide
  have he := r.1.2.1
  obtain ⟨i1, i2, i3, i4, i5, i6⟩ := R_I r
  have s1 := e_PI_e (R_I r)
  have b1 := e_PI_b (R_I r)
  have v1 := r.2.1.2.2.2.2 hb
  have n0 : 0 ≤ (M1 46).toInt := i4.2.2.2.2.1
  have c0 : 0 ≤ (M1 29).toInt := i4.2.1
  have hv : vp_in (M1 46) 700 := vp_in_iff.mpr (by omega)
  have hI1 : e_PI M1 (uf (uf (uf F1 43 (M1 46) a1) 44 (M1 46) a3) 45 (M1 46) a2) := by
    refine ⟨i1, i2, i3, i4, i5, fun j hj => ?_⟩
    have e43 : (uf (uf (uf F1 43 (M1 46) a1) 44 (M1 46) a3) 45 (M1 46) a2) 43 j = F1 43 j := e_upd_ne (by rw [e_tc]; omega)
    have e45 : (uf (uf (uf F1 43 (M1 46) a1) 44 (M1 46) a3) 45 (M1 46) a2) 45 j = F1 45 j := e_upd_ne (by rw [e_tc]; omega)
    rw [e43, e45]
    exact i6 j hj
  have prA : e_PR M1 F1 G1 M1 (uf (uf (uf F1 43 (M1 46) a1) 44 (M1 46) a3) 45 (M1 46) a2) G1 := by
    refine ⟨(e_PR_rf M1 F1 G1).1, ⟨fun _ _ => ⟨rfl, rfl, rfl, rfl⟩, fun _ _ => ⟨rfl, rfl, rfl⟩, fun _ _ => ⟨rfl, rfl, rfl, rfl⟩, ⟨rfl, rfl, rfl, fun r hr => ?_, fun _ _ => rfl⟩, fun j hj => ⟨rfl, e_upd_ne (by rw [e_tc]; omega), e_upd_ne (by rw [e_tc]; omega)⟩, fun _ _ => ⟨rfl, rfl⟩⟩, (e_PR_rf M1 F1 G1).2.2⟩
    rw [e_uf_ne (by omega), e_uf_ne (by omega), e_uf_ne (by omega)]
  refine ⟨hv, hv, hv, p_put 18 0 a3 a4 0 (G1 1 (e_en M1).toNat) G1 hI1 (e_CB_9 (R_I r) r.2.2.2 (by omega)) (fun w M2 F2 G2 k1 k2 k3 k4 k5 k6 k7 k8 => ⟨hv, ?_⟩)⟩
  have e46 : (M2 46 + 1).toInt = (M1 46).toInt + 1 := by
    rw [k4 46 (by decide)]
    have := ti_addx (M1 46) 1 (by omega)
    omega
  have ee : e_en M2 = e_en M1 + 1 := by unfold e_en; rw [k4 27 (by decide), k5]; omega
  have k0 : ((e_en M1).toNat : Int) = 9000 * (M1 27).toInt + (M1 29).toInt := by unfold e_en; omega
  have x1 : e_en M1 = 9000 * (M1 27).toInt + (M1 29).toInt := rfl
  have f42 : (uf F2 42 (M1 46) w) 42 (M1 46).toInt.toNat = w := e_upd_eq
  have f43 : (uf F2 42 (M1 46) w) 43 (M1 46).toInt.toNat = a1 := by
    show F2 43 (M1 46).toInt.toNat = a1
    rw [k6 43 (by omega)]
    exact e_upd_eq
  have f44 : (uf F2 42 (M1 46) w) 44 (M1 46).toInt.toNat = a3 := by
    show F2 44 (M1 46).toInt.toNat = a3
    rw [k6 44 (by omega)]
    exact e_upd_eq
  have hI3 : e_PI (um M2 46 (M2 46 + 1)) (uf F2 42 (M1 46) w) := by
    obtain ⟨j1, j2, j3, ⟨ja, jb, jc, jd, je, jf, jg⟩, j5, j6⟩ := k2
    refine ⟨j1, j2, j3, ⟨ja, jb, jc, jd, (show 0 ≤ (M2 46 + 1).toInt from by omega), jf, jg⟩, j5, fun j hj => ?_⟩
    have hj' : (j : Int) < (M2 46 + 1).toInt := hj
    by_cases q : j = (M1 46).toInt.toNat
    · rw [q, f42, f43]
      have f45 : (uf F2 42 (M1 46) w) 45 (M1 46).toInt.toNat = a2 := by
        show F2 45 (M1 46).toInt.toNat = a2
        rw [k6 45 (by omega)]
        exact e_upd_eq
      rw [f45]
      show (0 ≤ a1.toInt ∧ a1.toInt < (M2 12).toInt) ∧ (9000 * (M2 27).toInt ≤ w.toInt ∧ w.toInt < 9000 * (M2 27).toInt + (M2 29).toInt) ∧ F2 13 w.toInt.toNat = 18 ∧ 0 ≤ a2.toInt
      rw [k4 12 (by decide), k4 27 (by decide), k5]
      exact ⟨by omega, by omega, by rw [k1]; exact k7.1, ha2⟩
    · have e42 : (uf F2 42 (M1 46) w) 42 j = F2 42 j := e_upd_ne q
      rw [e42]
      exact j6 j (by rw [k4 46 (by decide)]; omega)
  have prB : e_PR M2 F2 G2 (um M2 46 (M2 46 + 1)) (uf F2 42 (M1 46) w) G2 := by
    refine ⟨⟨⟨rfl, rfl, rfl, rfl, rfl, fun k hk => e_um_ne (by omega)⟩, ⟨Int.le_refl _, Int.le_refl _, Int.le_refl _, (show (M2 46).toInt ≤ (M2 46 + 1).toInt from by rw [k4 46 (by decide)] at e46 ⊢; omega), Int.le_refl _, Int.le_refl _⟩, fun h => h, fun h => h⟩, ⟨fun _ _ => ⟨rfl, rfl, rfl, rfl⟩, fun _ _ => ⟨rfl, rfl, rfl⟩, fun _ _ => ⟨rfl, rfl, rfl, rfl⟩, ⟨rfl, rfl, rfl, fun r hr => e_uf_ne (by omega), fun _ _ => rfl⟩, fun j hj => ⟨e_upd_ne (by rw [k4 46 (by decide)] at hj; rw [e_tc]; omega), rfl, rfl⟩, fun _ _ => ⟨rfl, rfl⟩⟩, (e_PR_rf M2 F2 G2).2.2⟩
  have pr := e_PR_tr prA (e_PR_tr k3 prB)
  refine hQ _ _ G2 ⟨⟨r.1.1, by omega, r.1.2.2⟩, ⟨hI3, e_PR_tr r.2.1.2.1 pr, e_UB0 _, fun g _ q1 q2 q3 => ?_, fun g => ?_⟩, (show (M2 33).toInt = _ from by rw [k4 33 (by decide)]; exact r.2.2.1), ⟨fun g => ?_, fun g => ?_⟩⟩
  · have hP : a3.toInt ≤ 4 := by
      have := g.2.2 (M1 46).toInt.toNat (show _ < (M2 46 + 1).toInt from by omega)
      rw [f44] at this
      exact this
    have g1 := e_PR_gd pr g
    obtain ⟨t1, t2, t3⟩ := r.2.1.2.2.2.1 g1 hP q1 q2 q3
    obtain ⟨g0, g1'⟩ := pr.2.2.1 (e_en M1).toNat (by omega)
    have en : (e_en M2).toNat = (e_en M1).toNat + 1 := by rw [ee]; omega
    have en3 : e_en (um M2 46 (M2 46 + 1)) = e_en M2 := rfl
    have ho : e_ok (um M2 46 (M2 46 + 1)) (uf F2 42 (M1 46) w) G2 (e_en M2 + 1) (e_en M1).toNat := by
      refine ⟨18, (show (F2 13 _).toInt = 18 from by rw [k7.1]; decide), by rw [g1', t3]; have := r.1.2.2; omega, Or.inr (Or.inr (Or.inl ?_))⟩
      show 18 = 18 ∧ (G2 0 (e_en M1).toNat = (F2 15 (e_en M1).toNat).toInt ∧ 0 ≤ (F2 15 (e_en M1).toNat).toInt) ∧ G2 0 ((e_en M1).toNat + 1) = 0 ∧ G2 1 ((e_en M1).toNat + 1) = G2 1 (e_en M1).toNat ∧ ((e_en M1).toNat : Int) + 1 < e_en M2 + 1 ∧ (-1 ≤ (F2 16 (e_en M1).toNat).toInt ∧ (F2 16 (e_en M1).toNat).toInt < 12) ∧ ∃ j : Nat, (j : Int) < (M2 46 + 1).toInt ∧ ((uf F2 42 (M1 46) w) 42 j).toInt = (e_en M1).toNat ∧ ((uf F2 42 (M1 46) w) 44 j).toInt = (F2 15 (e_en M1).toNat).toInt
      rw [k7.2.2.1, k7.2.2.2, g0, t2, g1', k8.1, k8.2.1]
      exact ⟨rfl, ⟨rfl, h3⟩, rfl, rfl, by omega, h4 g1, (M1 46).toInt.toNat, by omega, by rw [f42, k1]; omega, by rw [f44]⟩
    rw [en3]
    refine ⟨e_SU_tr pr b1.1 (by omega) (by unfold e_en; omega) t1 (e_UB0 _) (e_SG_one b1.1 c0 (show M2 27 = M1 27 from k4 27 (by decide)) k5 (show M2 31 = M1 31 from k4 31 (by decide)) (show M2 32 = M1 32 from k4 32 (by decide)) ho), by rw [en]; exact k8.1, by rw [en, k8.2.1, t3]⟩
  · show (M2 29).toInt - (M 29).toInt ≤ 2 * ((M2 6).toInt - (M 6).toInt) + (c + 1) ∧ 13 * ((M2 31).toInt - (M 31).toInt) ≤ (M2 6).toInt - (M 6).toInt + s ∧ 11 * ((M2 32).toInt - (M 32).toInt) ≤ (M2 6).toInt - (M 6).toInt + t ∧ 8 * ((M2 46 + 1).toInt - (M 46).toInt) ≤ (M2 6).toInt - (M 6).toInt + (u + 8)
    rw [k4 6 (by decide), k4 31 (by decide), k4 32 (by decide), k5]
    omega
  · show (M2 29).toInt ≤ 2 * (M2 6).toInt + 5
    have := r.1.1
    rw [k4 6 (by decide), k5]
    omega
  · have g' : (M2 36).toInt ≠ -1 := g
    rw [k4 36 (by decide)] at g'
    exact absurd hb g'
theorem p_hear {WF : e_M → e_F → (e_M → e_F → Prop) → Prop} (hX : e_SX WF 22 0 2) : e_ST (w_hear WF) 0 (-1) 10 := by
  intro M F G Q hI hb h4 h5 ho hn hQ
  have z0 : ¬ (1 : Int32) = 0 := by decide
  have l1 : (1 : Int32).toInt = 1 := by decide
  refine rn_word (L := 4) 10 (by decide) G 0 ((M 33).toInt - 1) hI hb h4 h5 hn.1 (by omega) (fun M1 F1 r1 hb1 y1 _ => p_takenN G (R_I r1) (fun w M3 F3 x3 y3 s3 hw => ?_))
  have r3 := R_P r1 x3 y3 (by decide)
  have o3 : M3 33 = M 33 := y3.trans y1
  refine p_opens G (R_I r3) (by rw [o3]; omega) (fun M4 F4 x4 o4 n4 => ?_)
  rw [o3] at o4 n4
  have r4 := R_O r3 x4 1 12 (by rw [o3]; exact o4) (by decide) ⟨fun _ => by decide, by decide, by decide⟩
  have p3 := x4.2.1
  have h102 : ∀ (a3 a4 : Int32) (c5 s5 t5 u5 : Int) (M5 : e_M) (F5 : e_F) (G5 : e_G), e_R e_U0 (a3.toInt ≤ 4) c5 s5 t5 u5 0 ((M 33).toInt - 1) a3.toInt 0 5 0 M F G M5 F5 G5 → (c5 ≤ 0 ∧ s5 ≤ -1 ∧ t5 ≤ -1 ∧ u5 ≤ -7) → 0 ≤ a3.toInt → e_PR M3 F3 G M5 F5 G5 → (e_gd M5 F5 → -1 ≤ a4.toInt ∧ a4.toInt < 12) → w_hear_102 WF Q w (M3 47) a3 a4 M5 F5 := by
    intro a3 a4 c5 s5 t5 u5 M5 F5 G5 r5 hh h3 p5 hg
    refine p_need G5 (R_I r5) (fun M6 F6 x6 y6 => ?_)
    have r6 := R_P r5 x6 y6 (by decide)
    have p6 := e_PR_tr p5 x6.2.1
    refine ⟨fun hb6 => ⟨fun _ => ?_, fun q => absurd rfl q⟩, fun hb6 => ⟨fun q => absurd q z0, fun _ => hQ M6 F6 G5 (R_bad r6 (fun q => ti_ne hb6 (by rw [q]; decide)) (e_UB0 _) _ _ _ _ _ _ _ _ (by omega) (by omega))⟩⟩
    have hb6' : (M6 36).toInt = -1 := by rw [hb6]; decide
    exact rn_hearEnd r6 hb6' (by omega) h3 (by have := hn.2.2.2; omega) (e_nw_mo p6 hw hb6').1 (by rw [s3]; exact e_PI_s (R_I r1)) (fun g => hg (e_PR_gd x6.2.1 g)) (fun M7 F7 G7 r7 => hQ M7 F7 G7 (R_wk r7 (by omega) ⟨rfl, rfl⟩ (by decide) rfl))
  have h61 : ∀ (a3 : Int32) (c5 s5 t5 u5 e5 : Int) (M5 : e_M) (F5 : e_F) (G5 : e_G), e_R e_U0 (a3.toInt ≤ 4) c5 s5 t5 u5 0 ((M 33).toInt - 1) a3.toInt 0 e5 1 M F G M5 F5 G5 → (c5 ≤ 0 ∧ s5 ≤ 0 ∧ t5 ≤ 0 ∧ u5 ≤ -6 ∧ e5 ≤ 17) → 0 ≤ a3.toInt → e_PR M3 F3 G M5 F5 G5 → w_hear_61 WF Q w (M3 47) a3 M5 F5 := by
    intro a3 c5 s5 t5 u5 e5 M5 F5 G5 r5 hh h3 p5
    have o5 := r5.2.2.1
    refine p_closes G5 (R_I r5) (by omega) (fun M6 F6 x6 o6 => ?_)
    have r6 := R_wk (o' := 0) (R_O r5 x6 (-1) 5 (by omega) (by decide) ⟨fun _ => by omega, by decide, by decide⟩) ⟨Int.le_refl _, Int.le_refl _, Int.le_refl _, Int.le_refl _⟩ ⟨rfl, rfl⟩ ⟨Int.le_refl _, by decide⟩ (by decide)
    have p6 := e_PR_tr p5 x6.2.1
    refine p_isWord (fun _ => ⟨fun _ => h102 a3 (-1) _ _ _ _ M6 F6 G5 r6 (by omega) h3 p6 (fun _ => by decide), fun q => absurd rfl q⟩) (fun hb6 h64 h65 => ⟨fun q => absurd q z0, fun _ => ?_⟩)
    refine R_pass r6 hb6 (by omega) (fun M7 F7 r7 hb7 y7 p7 _ => p_takenN G5 (R_I r7) (fun v M8 F8 x8 y8 s8 hv => ?_))
    have r8 := R_P r7 x8 y8 (by decide)
    refine p_told G5 (R_I r8) hv (by rw [s8]; exact e_PI_s (R_I r7)) (fun q M9 x9 k9 hq => ?_)
    have r9 := R_P r8 x9 (k9 33 (by decide)) (by decide)
    exact h102 a3 q _ _ _ _ M9 F8 G5 r9 (by omega) h3 (e_PR_tr p6 (e_PR_tr p7 (e_PR_tr x8.2.1 x9.2.1))) (fun g => by
      have g8 := e_PR_gd x9.2.1 g
      have := hq g8.1 g8.2.1
      omega)
  have key : ∀ (k : Nat) (a3 : Int32) (c5 s5 t5 u5 e5 : Int) (M5 : e_M) (F5 : e_F) (G5 : e_G), e_R e_U0 (a3.toInt ≤ 4) c5 s5 t5 u5 0 ((M 33).toInt - 1) a3.toInt 0 e5 1 M F G M5 F5 G5 → (c5 ≤ 0 ∧ s5 ≤ 0 ∧ t5 ≤ 0 ∧ u5 ≤ -6 ∧ e5 ≤ 17) → (1 ≤ a3.toInt ∧ a3.toInt + k ≤ 6000) → e_PR M3 F3 G M5 F5 G5 → ((M5 36).toInt = -1 → 4001 - (M5 6).toInt < k ∧ (M 33).toInt ≤ 19) → 1 ≤ k → w_hear_38 WF Q k w (M3 47) a3 M5 F5 := by
    intro k
    induction k with
    | zero => intro a3 c5 s5 t5 u5 e5 M5 F5 G5 _ _ _ _ _ q; exact absurd q (by omega)
    | succ k ih =>
      intro a3 c5 s5 t5 u5 e5 M5 F5 G5 r5 hh h3 p5 hk _
      dsimp only [w_hear_38]
      refine p_isSign (fun _ => ⟨fun _ => h61 a3 _ _ _ _ _ M5 F5 G5 r5 hh (by omega) p5, fun q => absurd rfl q⟩) (fun hb5 h54 h55 => ⟨fun q => absurd q z0, fun _ => ?_⟩)
      have hk5 := hk hb5
      have e3 := ti_addx a3 1 (by omega)
      rw [l1] at e3
      have r5' := R_mP (P' := (a3 + 1).toInt ≤ 4) (R_nb r5 hb5) (fun q => by omega)
      have o5 := r5.2.2.1
      have s5' := e_PI_e (R_I r5)
      refine R_pass r5' hb5 (by omega) (fun M6 F6 r6 hb6 y6 p6 m5 => rn_X (p_whole hX) (by decide) (by decide) r6 (by decide) (fun _ => by rw [y6]; omega) (fun q => by rw [y6]; omega) (fun M7 F7 G7 r7 y7 p7 => ?_))
      have m6 : (M6 6).toInt ≤ (M7 6).toInt := p7.1.2.1.2.2.2.2.2
      exact ih (a3 + 1) _ _ _ _ _ M7 F7 G7 (R_wk r7 ⟨Int.le_refl _, Int.le_refl _, Int.le_refl _, Int.le_refl _⟩ ⟨by omega, rfl⟩ ⟨Int.le_refl _, by decide⟩ rfl) (by omega) (by omega) (e_PR_tr p5 (e_PR_tr p6 p7)) (fun _ => by omega) (by omega)
  refine p_isSign (fun _ => ⟨fun q => absurd rfl q, fun _ => ?_⟩) (fun hb4 h44 h45 => ⟨fun _ => ?_, fun q => absurd q z0⟩)
  · refine rn_X (p_whole hX) (by decide) (by decide) r4 (by decide) (fun g => by have := n4 g; omega) (fun _ => by omega) (fun M5 F5 G5 r5 y5 p5 => ⟨5000, ?_⟩)
    have s5' := e_PI_e (R_I r5)
    exact key 5000 1 _ _ _ _ _ M5 F5 G5 (R_mP (R_wk (H' := (1 : Int32).toInt) (y' := 0) (e' := 17) (o' := 1) r5 ⟨Int.le_refl _, Int.le_refl _, Int.le_refl _, Int.le_refl _⟩ (by decide) (by decide) (by decide)) (fun _ => trivial)) (by omega) (by omega) (e_PR_tr p3 p5) (fun g => by have := n4 (e_PR_nb p5 g); omega) (by decide)
  · exact h61 0 _ _ _ _ _ M4 F4 G (R_mP (R_wk (H' := (0 : Int32).toInt) (y' := 0) (e' := 12) (o' := 1) r4 ⟨Int.le_refl _, Int.le_refl _, Int.le_refl _, Int.le_refl _⟩ (by decide) (by decide) (by decide)) (fun _ => trivial)) (by omega) (by decide) p3
