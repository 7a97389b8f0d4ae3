theorem R_passW {L : Int} (j : Nat) (hL : L = ((e_w2.getD j 0 : Nat) : Int)) {U : e_U} {P : Prop} {c s t u A D H y e o : Int} {M M1 : e_M} {F F1 : e_F} {G G1 : e_G} {Q : e_M → e_F → Prop} (r : e_R U P c s t u A D H y e o M F G M1 F1 G1) (hb : (M1 36).toInt = -1) (h4 : (M1 4).toInt = 4) (h5 : (M1 5).toInt = j) (hQ : ∀ (M' : e_M) (F' : e_F), e_R U P (c - 2 * L) (s - L) (t - L) (u - L) A D H y e o M F G M' F' G1 → (M' 36).toInt = -1 → M' 33 = M1 33 → e_PR M1 F1 G1 M' F' G1 → (M1 6).toInt + L ≤ (M' 6).toInt → e_SM M1 M' → Q M' F') : w_pass M1 F1 Q := by
  have hl := e_len (R_I r) h4 j h5
  refine p_passN (G := G1) (R_I r) hb (fun M2 F2 a b c d => ?_)
  obtain ⟨x, y⟩ := e_P_pass (c := L) a b c d (by omega)
  exact hQ M2 F2 (R_P r x y (by omega)) (by rw [c 36 (by decide) (by decide) (by decide) (by decide) (by decide)]; exact hb) y b (by omega) c
def e_cd (M : e_M) : Prop := (M 36).toInt = -1 ∧ (M 4).toInt = 4 ∧ (M 5 = 17 ∨ M 5 = 18)
theorem rn_done {c s t u A D e o : Int} {M M1 : e_M} {F F1 : e_F} {G G1 : e_G} {T : Int} {Q : Int32 → e_M → e_F → Prop} {w : Int32} (r : e_R (e_UT T) True c s t u A D 0 1 e o M F G M1 F1 G1) (hc : c ≤ 3 ∧ e ≤ 39) (hw : w.toInt = T) (hT : (400 * (M 27).toInt + (M 31).toInt ≤ T ∧ 0 ≤ T) ∧ T < 400 * (M 27).toInt + (M1 31).toInt) (h0 : 0 ≤ (M 31).toInt) (hQ : ∀ (w : Int32) (M' : e_M) (F' : e_F) (G' : e_G), (e_cd M' → e_R (e_UT T) True (c + 1) s t u A D 0 1 (e + 1) o M F G M' F' G') → (¬ e_cd M' → e_R (e_UT T) True (c + 1) s t u A D 0 0 (e + 1) o M F G M' F' G') → (∀ k, k ≠ 29 → M' k = M1 k) → e_PR M1 F1 G1 M' F' G' → (∀ x j, 1 < x → G' x j = G1 x j) → Q w M' F') : w_put 23 w 0 0 M1 F1 Q := by
  have e27 : M1 27 = M 27 := r.2.1.2.1.1.1.1
  have e27' : (M1 27).toInt = (M 27).toInt := by rw [e27]
  have key : ∀ y' : Int, (0 ≤ y' ∧ y' ≤ 1) → e_gd M1 F1 → True → ∀ (d : Int) (M' : e_M) (F' : e_F) (G' : e_G), G 0 (e_en M).toNat = A → G 1 (e_en M).toNat = d → 0 ≤ d → d ≤ D → e_SU (e_UT T) d M M1 F1 G1 (e_en M1 + 1) → (∀ k, k ≠ 29 → M' k = M1 k) → (∀ x j, 1 < x → G' x j = G1 x j) → e_PR M1 F1 G1 M' F' G' → e_PI M' F' → ((e_en M1).toNat : Int) = e_en M1 → e_en M' = e_en M1 + 1 → e_okc M' F' G' (e_en M' + 1) (e_en M1).toNat w.toInt (0 : Int32).toInt (0 : Int32).toInt 0 0 (d + 1) (d + y') 23 := by
    intro y' _ g _ d M' F' G' _ _ d0 d1 su k kg pr hI e1 e2
    obtain ⟨o1, -⟩ := (su.2.1 T.toNat (by rw [e27']; omega) (by rw [e27']; omega)).1 ⟨rfl, rfl⟩
    refine Or.inr (Or.inr (Or.inr (Or.inr (Or.inr (Or.inr (Or.inr (Or.inl ⟨rfl, rfl, ?_, ?_⟩)))))))
    · rw [hw, k 27 (by decide), k 31 (by decide), e27']; omega
    · rw [hw, kg 2 _ (by decide), o1]
  have hy := r.1.2.2
  by_cases hcd : e_cd M1
  · refine rn_putC 23 (by decide) 0 1 r hc (by omega) (key 1 (by decide)) (fun w' M2 F2 G2 r2 k2 p2 _ kg _ _ => hQ w' M2 F2 G2 (fun _ => r2) (fun q => absurd ?_ q) k2 p2 kg)
    unfold e_cd
    rw [k2 36 (by decide), k2 4 (by decide), k2 5 (by decide)]
    exact hcd
  · refine rn_putC 23 (by decide) 0 0 r hc (by omega) (key 0 (by decide)) (fun w' M2 F2 G2 r2 k2 p2 _ kg _ _ => hQ w' M2 F2 G2 (fun q => absurd ?_ hcd) (fun _ => r2) k2 p2 kg)
    unfold e_cd at q
    rw [k2 36 (by decide), k2 4 (by decide), k2 5 (by decide)] at q
    exact q
theorem p_trying {WB : e_M → e_F → (e_M → e_F → Prop) → Prop} {n : Nat} (hB : e_BK WB n) (hn1 : 1 ≤ n) : ∀ (M : e_M) (F : e_F) (G : e_G) (Q : e_M → e_F → Prop), 21 - (M 33).toInt ≤ n → e_PI M F → (M 36).toInt = -1 → (M 4).toInt = 4 → (M 5).toInt = (16 : Nat) → (1 ≤ (M 33).toInt ∧ (M 33).toInt ≤ 20) → e_nm M → (∀ (M' : e_M) (F' : e_F) (G' : e_G), e_R e_U0 True (-1) 0 (-1) 0 (-1) ((M 33).toInt - 1) 0 0 11 0 M F G M' F' G' → Q M' F') → w_trying WB M F Q := by
  intro M F G Q hf hI hb h4 h5 ho hn hQ
  have z0 : ¬ (1 : Int32) = 0 := by decide
  have l1 : (1 : Int32).toInt = 1 := by decide
  have i31 : 0 ≤ (M 31).toInt := hI.2.2.2.1.2.2.1
  have i32 : 0 ≤ (M 32).toInt := hI.2.2.2.1.2.2.2.1
  have bb := e_PI_b hI
  have s0 := e_PI_e hI
  obtain ⟨n1, n2, n3, n4⟩ := hn
  refine rn_word (L := 3) 16 (by decide) G (-1) ((M 33).toInt - 1) hI hb h4 h5 n1 (by omega) (fun M1 F1 r1 hb1 y1 sm => ?_)
  have f27 : M1 27 = M 27 := sm 27 (by decide) (by decide) (by decide) (by decide) (by decide)
  have f31 : M1 31 = M 31 := sm 31 (by decide) (by decide) (by decide) (by decide) (by decide)
  have hw : (400 * M1 27 + M1 31).toInt = 400 * (M 27).toInt + (M 31).toInt := by
    rw [f27, f31]; exact e_row4 bb (by omega)
  have r2 := R_try r1 (400 * M1 27 + M1 31) (400 * (M 27).toInt + (M 31).toInt) hw (by rw [f27, f31]) (by rw [f31]; omega)
  have hvT : vp_in (400 * M1 27 + M1 31) 800 := vp_in_iff.mpr (by omega)
  refine ⟨hvT, hvT, ?_⟩
  generalize hwe : 400 * M1 27 + M1 31 = w at *
  generalize hTe : 400 * (M 27).toInt + (M 31).toInt = T at *
  have hT0 : (400 * (M 27).toInt + (M 31).toInt ≤ T ∧ T < 400 * (M 27).toInt + 400) ∧ 0 ≤ T := by omega
  have e31 : (M1 31 + 1).toInt = (M 31).toInt + 1 := by
    rw [f31]; have := ti_addx (M 31) 1 (by omega); omega
  refine rn_putC 22 (by decide) 0 1 r2 (by omega) (by omega) (fun g _ d M' F' G' _ _ d0 d1 su k kg pr _ e1 e2 => ?_) (fun w4 M4 F4 G4 r4 k4 p4 _ _ _ _ => ?_)
  · obtain ⟨o1, -⟩ := (su.2.1 T.toNat (show 400 * (M1 27).toInt + (M 31).toInt ≤ _ from by rw [f27]; omega) (show _ < 400 * (M1 27).toInt + (M1 31 + 1).toInt from by rw [f27]; omega)).1 ⟨rfl, rfl⟩
    refine Or.inr (Or.inr (Or.inr (Or.inr (Or.inr (Or.inr (Or.inl ⟨rfl, rfl, rfl, by omega, by omega, ?_, ?_⟩))))))
    · have k27 : M' 27 = M1 27 := k 27 (by decide)
      have k31 : M' 31 = M1 31 + 1 := k 31 (by decide)
      rw [hw, k27, k31, f27]; omega
    · rw [hw, kg 2 _ (by decide)]; exact o1.trans (by omega)
  have o4 : M4 33 = M 33 := (k4 33 (by decide)).trans y1
  have h31_4 : (M4 31).toInt = (M 31).toInt + 1 := by
    have : M4 31 = M1 31 + 1 := k4 31 (by decide)
    rw [this]; exact e31
  refine rn_B hB hn1 r4 (by rw [o4]; omega) (by rw [o4]; exact hf) (by rw [o4]; omega) (R_BN ⟨n1, n2, n3, n4⟩ r4 (by omega)) (fun M5 F5 G5 r5 y5 p5 => ?_)
  have m31_5 : (M4 31).toInt ≤ (M5 31).toInt := p5.1.2.1.2.1
  -- the end
  have h270 : ∀ (c5 s5 t5 u5 e5 : Int) (M6 : e_M) (F6 : e_F) (G6 : e_G), e_R (e_UT T) True c5 s5 t5 u5 (-1) ((M 33).toInt - 1) 0 0 e5 0 M F G M6 F6 G6 → (c5 ≤ -1 ∧ s5 ≤ 0 ∧ t5 ≤ -1 ∧ u5 ≤ 0 ∧ e5 ≤ 11) → w_trying_270 WB Q w M6 F6 := by
    intro c5 s5 t5 u5 e5 M6 F6 G6 r6 hh
    have v6 := R_9 r6
    exact ⟨hvT, hQ _ _ G6 (R_wk (R_22 r6 w _ hw (e_here (R_I r6) (by omega)) hT0) (by omega) ⟨rfl, rfl⟩ (by omega) rfl)⟩
  have hloop : ∀ (k : Nat) (a2 : Int32) (M6 : e_M) (F6 : e_F) (G6 : e_G), (e_cd M6 → e_R (e_UT T) True (-2) 8 (-5) (-5) (-1) ((M 33).toInt - 1) 0 1 2 0 M F G M6 F6 G6) → (¬ e_cd M6 → e_R (e_UT T) True (-2) 0 (-5) (-5) (-1) ((M 33).toInt - 1) 0 0 2 0 M F G M6 F6 G6) → (a2 = -1 ∨ ∃ X : Int, a2.toInt = X ∧ ((400 * (M 27).toInt + (M 32).toInt ≤ X ∧ X < 400 * (M 27).toInt + (M6 32).toInt) ∧ 0 ≤ X) ∧ G6 3 X.toNat = T) → T < 400 * (M 27).toInt + (M6 31).toInt → ((M6 36).toInt = -1 → 4001 - (M6 6).toInt < k) → 1 ≤ k → w_trying_90 WB Q k w a2 M6 F6 := by
    intro k
    induction k with
    | zero => intro a2 M6 F6 G6 _ _ _ _ _ q; exact absurd q (by omega)
    | succ k ih =>
      intro a2 M6 F6 G6 hR1 hR0 ha2 hT6 hk _
      dsimp only [w_trying_90]
      refine p_isWord (fun h17 => ⟨fun _ => p_isWord (fun h18 => ⟨fun _ => ?_, fun q => absurd rfl q⟩) (fun hb6 h64 h65 => ⟨fun q => absurd q z0, fun _ => ?_⟩), fun q => absurd rfl q⟩) (fun hb6 h64 h65 => ⟨fun q => absurd q z0, fun _ => ?_⟩)
      · refine h270 _ _ _ _ _ M6 F6 G6 (hR0 (fun q => ?_)) (by omega)
        rcases q.2.2 with z | z
        · exact h17 ⟨q.1, q.2.1, z⟩
        · exact h18 ⟨q.1, q.2.1, z⟩
      · have r6 := R_nb (hR1 ⟨hb6, h64, Or.inr h65⟩) hb6
        refine R_passW (L := 6) 18 (by decide) r6 hb6 h64 (by rw [h65]; decide) (fun M7 F7 r7 hb7 y7 p7 _ sm7 => ?_)
        have v7 := R_9 r7
        have o7 := r7.2.2.1
        refine ⟨hvT, ?_⟩
        have r8 := R_21 r7 w _ hw (e_here (R_I r7) (by omega)) hT0
        refine rn_B hB hn1 r8 (by omega) (by omega) (by omega) (R_BN ⟨n1, n2, n3, n4⟩ r8 (by omega)) (fun M9 F9 G9 r9 y9 p9 => ?_)
        refine rn_putC 24 (by decide) 0 0 r9 (by omega) (by omega) (fun g _ d M' F' G' _ _ d0 d1 su k kg pr _ e1 e2 => ?_) (fun w4 M10 F10 G10 r10 k4 p4 _ _ _ _ => h270 _ _ _ _ _ M10 F10 G10 r10 (by omega))
        exact Or.inr (Or.inr (Or.inr (Or.inr (Or.inr (Or.inr (Or.inr (Or.inr ⟨rfl, rfl, rfl, by omega, by omega, by omega⟩)))))))
      · have r6 := R_nb (hR1 ⟨hb6, h64, Or.inl h65⟩) hb6
        refine R_passW (L := 6) 17 (by decide) r6 hb6 h64 (by rw [h65]; decide) (fun M7 F7 r7 hb7 y7 p7 m7 sm7 => ?_)
        have g27 : M7 27 = M 27 := r7.2.1.2.1.1.1.1
        have q31 : M7 31 = M6 31 := sm7 31 (by decide) (by decide) (by decide) (by decide) (by decide)
        have q32 : M7 32 = M6 32 := sm7 32 (by decide) (by decide) (by decide) (by decide) (by decide)
        have i7 : 0 ≤ (M7 32).toInt := (R_I r7).2.2.2.1.2.2.2.1
        have m32 : (M 32).toInt ≤ (M7 32).toInt := r7.2.1.2.1.1.2.1.2.2.1
        have vv := r7.2.1.2.2.2.2 hb7
        have s7 := e_PI_e (R_I r7)
        have o7 := r7.2.2.1
        have hwV : (400 * M7 27 + M7 32).toInt = 400 * (M 27).toInt + (M7 32).toInt := by
          rw [g27]; exact e_row4 bb (by omega)
        have r8 := R_uph r7 (400 * (M 27).toInt + (M7 32).toInt) (by rw [g27, q31]; omega) (by rw [g27]) (by omega)
        have hvV : vp_in (400 * M7 27 + M7 32) 800 := vp_in_iff.mpr (by omega)
        have e32 : (M7 32 + 1).toInt = (M7 32).toInt + 1 := by
          have := ti_addx (M7 32) 1 (by omega); omega
        generalize hwe2 : 400 * M7 27 + M7 32 = wV at *
        generalize hVe : 400 * (M 27).toInt + (M7 32).toInt = V at *
        have hG8 : (fun r j => if r = 3 ∧ j = V.toNat then T else G6 r j : e_G) 3 V.toNat = T := if_pos ⟨rfl, rfl⟩
        have hGX : ∀ X : Int, X < V → 0 ≤ X → (fun r j => if r = 3 ∧ j = V.toNat then T else G6 r j : e_G) 3 X.toNat = G6 3 X.toNat := fun X h1 h2 => if_neg (fun q => absurd q.2 (by omega))
        generalize hGe : (fun r j => if r = 3 ∧ j = V.toNat then T else G6 r j : e_G) = G8 at *
        refine p_takenK G8 (R_I r8) (fun kind M8 F8 x8 y8 => ⟨hvV, ?_⟩)
        have r9 := R_23 (R_P r8 x8 y8 (by decide)) wV kind (by omega)
        have q8_31 : M8 31 = M7 31 := x8.2.2.1.2.1
        have q8_32 : M8 32 = M7 32 + 1 := x8.2.2.1.2.2.1
        have m8 : (M7 6).toInt ≤ (M8 6).toInt := x8.2.1.1.2.1.2.2.2.2.2
        have h169 : ∀ (b : Int32) (c5 s5 t5 u5 : Int) (M9 : e_M) (F9 : e_F), e_R (e_UV T V) True c5 s5 t5 u5 (-1) ((M 33).toInt - 1) 0 1 0 0 M F G M9 F9 G8 → (c5 ≤ -2 ∧ s5 ≤ -1 ∧ t5 ≤ -3 ∧ u5 ≤ -5) → M9 31 = M7 31 → M9 32 = M7 32 + 1 → (M7 6).toInt ≤ (M9 6).toInt → (e_gd M9 F9 → -1 ≤ b.toInt ∧ b.toInt < 8) → w_trying_169 WB (w_trying_90 WB Q k) Q w a2 wV wV b M9 F9 := by
          intro b c5 s5 t5 u5 M9 F9 r9 hh q31' q32' m9 hb9
          have v9 := R_9 r9
          have o9 := r9.2.2.1
          have hT9 : ((400 * (M 27).toInt + (M 31).toInt ≤ T ∧ T < 400 * (M 27).toInt + 400) ∧ 0 ≤ T) ∧ T < 400 * (M 27).toInt + (M9 31).toInt := ⟨hT0, by rw [q31', q31]; exact hT6⟩
          have hV9 : ((400 * (M 27).toInt + (M 32).toInt ≤ V ∧ V < 400 * (M 27).toInt + 400) ∧ 0 ≤ V) ∧ V < 400 * (M 27).toInt + (M9 32).toInt := by
            rw [q32', e32]; omega
          have hend : ∀ F10 : e_F, e_R (e_UT T) True c5 s5 t5 u5 (-1) ((M 33).toInt - 1) 0 1 0 0 M F G M9 F10 G8 → WB M9 F10 (fun M37 F37 => (w_put 23 w 0 0 M37 F37 (fun r38 M39 F39 => (w_trying_90 WB Q k w wV M39 F39)))) := by
            intro F10 r10
            refine rn_B hB hn1 r10 (by omega) (by omega) (by omega) (R_BN ⟨n1, n2, n3, n4⟩ r10 (by omega)) (fun M11 F11 G11 r11 y11 p11 => ?_)
            have m31' : (M9 31).toInt ≤ (M11 31).toInt := p11.1.2.1.2.1
            have m32' : (M9 32).toInt ≤ (M11 32).toInt := p11.1.2.1.2.2.1
            have m6' : (M9 6).toInt ≤ (M11 6).toInt := p11.1.2.1.2.2.2.2.2
            have e9 : (M9 27).toInt = (M 27).toInt := by rw [r10.2.1.2.1.1.1.1]
            have g3 : G11 3 V.toNat = T := by rw [p11.2.2.2.2 V.toNat (by rw [e9]; omega)]; exact hG8
            refine rn_done r11 (by omega) hw (by omega) i31 (fun w' M12 F12 G12 k1 k2 kk p12 kg => ?_)
            refine ih wV M12 F12 G12 (fun q => R_wk (k1 q) (by omega) ⟨rfl, rfl⟩ (by omega) rfl) (fun q => R_wk (k2 q) (by omega) ⟨rfl, rfl⟩ (by omega) rfl) (Or.inr ⟨V, hwV, ⟨⟨by omega, ?_⟩, by omega⟩, ?_⟩) (by rw [kk 31 (by decide)]; omega) (fun _ => ?_) ?_
            · rw [kk 32 (by decide)]; omega
            · rw [kg 3 _ (by decide)]; exact g3
            · have := hk hb6
              rw [kk 6 (by decide)]; omega
            · have := hk hb6
              omega
          refine ⟨hvV, hvV, fun hne => ?_, fun heq => ⟨hvT, hvV, hend _ (R_usA r9 w wV b _ hw hwV (e_here (R_I r9) (by omega)) hT9 hV9 ⟨i31, i32⟩ hG8 hb9)⟩⟩
          rcases ha2 with ha2 | ⟨X, hX, ⟨hX1, hX2⟩, hX3⟩
          · exact absurd ha2 hne
          · refine ⟨vp_in_iff.mpr (by rw [← q32] at hX1; omega), hvV, hend _ (R_usB r9 a2 wV b _ hX hwV (e_here (R_I r9) (by omega)) hT9 hV9 ?_ ⟨i31, i32⟩ hG8 ?_ hb9)⟩
            · rw [← q32] at hX1; omega
            · rw [hGX X (by rw [← q32] at hX1; omega) hX2]; exact hX3
        have h168 : w_trying_169 WB (w_trying_90 WB Q k) Q w a2 wV wV (-1) M8 (uf F8 23 wV kind) := h169 (-1) _ _ _ _ M8 _ r9 (by omega) q8_31 q8_32 m8 (fun _ => by decide)
        refine ⟨fun _ => ⟨fun q => absurd rfl q, fun _ => ⟨fun _ => h168, fun h42 => p_object G8 (R_I r9) (fun x M9 F9 x9 y9 h9 => ?_)⟩⟩, fun _ => ⟨fun _ => h168, fun q => absurd q z0⟩⟩
        refine h169 x _ _ _ _ M9 F9 (R_P r9 x9 y9 (by decide)) (by omega) (x9.2.2.1.2.1.trans q8_31) (x9.2.2.1.2.2.1.trans q8_32) ?_ (fun g => by have := h9 g.1 g.2.1; omega)
        have : (M8 6).toInt ≤ (M9 6).toInt := x9.2.1.1.2.1.2.2.2.2.2
        omega
  have s5 := e_PI_e (R_I r5)
  refine rn_done r5 (by omega) hw (by omega) i31 (fun w' M6 F6 G6 k1 k2 kk p6 kg => ?_)
  have hT6 : T < 400 * (M 27).toInt + (M6 31).toInt := by rw [kk 31 (by decide)]; omega
  have hk6 : (M6 36).toInt = -1 → 4001 - (M6 6).toInt < (5000 : Nat) := fun _ => by rw [kk 6 (by decide)]; omega
  have hgo : e_cd M6 → ∃ e90, w_trying_90 WB Q e90 w (-1) M6 F6 := fun q => ⟨5000, hloop 5000 (-1) M6 F6 G6 (fun q => R_wk (k1 q) (by omega) ⟨rfl, rfl⟩ (by omega) rfl) (fun z => absurd q z) (Or.inl rfl) hT6 hk6 (by decide)⟩
  refine p_isWord (fun h17 => ⟨fun q => absurd rfl q, fun _ => p_isWord (fun h18 => ⟨fun q => absurd rfl q, fun _ => ?_⟩) (fun a b c => ⟨fun _ => hgo ⟨a, b, Or.inr c⟩, fun q => absurd q z0⟩)⟩) (fun a b c => ⟨fun _ => hgo ⟨a, b, Or.inl c⟩, fun q => absurd q z0⟩)
  have hncd : ¬ e_cd M6 := fun q => by
    rcases q.2.2 with z | z
    · exact h17 ⟨q.1, q.2.1, z⟩
    · exact h18 ⟨q.1, q.2.1, z⟩
  have r6 := k2 hncd
  refine p_fail (fun M' h hb' => ⟨5000, ?_⟩) (e_PI_s (R_I r6))
  obtain ⟨x, y⟩ := e_P_fail G6 0 (R_I r6) h hb'
  have r7 := R_P r6 x y (by decide)
  refine hloop 5000 (-1) M' F6 G6 (fun q => absurd q.1 hb') (fun _ => R_bad r7 hb' r7.2.1.2.2.1 _ _ _ _ _ _ _ _ (by omega) (by omega)) (Or.inl rfl) (by rw [h 31 (by decide)]; exact hT6) (fun q => absurd q hb') (by decide)
