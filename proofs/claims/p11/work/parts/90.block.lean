theorem R_comp {U : e_U} {P : Prop} {c s t u A D H y e o c2 s2 t2 u2 D2 H2 e2 : Int} {M M1 M2 : e_M} {F F1 F2 : e_F} {G G1 G2 : e_G} (r : e_R U P c s t u A D H y e o M F G M1 F1 G1) (r2 : e_R e_U0 True c2 s2 t2 u2 H D2 H2 0 e2 0 M1 F1 G1 M2 F2 G2) (hD : D + y ≤ D2) : e_R U P (c + c2) (s + s2) (t + t2) (u + u2) A D H2 y e2 o M F G M2 F2 G2 := by
  obtain ⟨⟨q1, q2, q3, q4⟩, ⟨x1, x2, x3, x4, x5⟩, q5, q6⟩ := r2
  have hx := e_X_tr (H2 := H2) r.2.1 x1 x2 x5 hD r.1.2.2.2 (fun g _ a b d => by
    obtain ⟨w1, w2, w3⟩ := x4 g trivial a b d
    exact ⟨e_SU_SG w1, w2, by rw [w3]; omega⟩)
  exact ⟨⟨r.1.1, q2, r.1.2.2⟩, hx, by have := r.2.2.1; omega, q6⟩
/-- what follows a statement's beginning -/
def e_K (A : Int) (M : e_M) (F : e_F) (G : e_G) (Q : e_M → e_F → Prop) : Prop := ∀ (M' : e_M) (F' : e_F) (G' : e_G), e_R e_U0 True (-1) 0 (-1) 0 A ((M 33).toInt - 1) 0 0 11 0 M F G M' F' G' → Q M' F'
theorem p_assign {WF : e_M → e_F → (e_M → e_F → Prop) → Prop} (hX : e_SX WF 22 0 2) {M : e_M} {F : e_F} {G : e_G} {Q : e_M → e_F → Prop} (hI : e_PI M F) (hb : (M 36).toInt = -1) (ho : 1 ≤ (M 33).toInt ∧ (M 33).toInt ≤ 20) (hn : e_nm M) (hQ : e_K 0 M F G Q) : w_taken 1 M F (fun r38 M39 F39 => (w_need 61 M39 F39 (fun M40 F40 => (w_told r38 (M39 47) M40 F40 (fun r41 M42 F42 => (w_whole WF M42 F42 (fun M43 F43 => (w_need 59 M43 F43 (fun M44 F44 => (w_put 3 r41 0 0 M44 F44 (fun r45 M46 F46 => (Q M46 F46)))))))))))) := by
  have r0 := R_rf G 0 ((M 33).toInt - 1) hI hb hn.1 (by omega)
  refine p_takenN G hI (fun w M3 F3 x3 y3 s3 hw => ?_)
  have r3 := R_P r0 x3 y3 (by decide)
  refine p_need G (R_I r3) (fun M4 F4 x4 y4 => ?_)
  have r4 := R_P r3 x4 y4 (by decide)
  refine p_told G (R_I r4) (fun g => e_nw_mo x4.2.1 hw g) (by rw [s3]; exact e_PI_s hI) (fun q M5 x5 k5 hq => ?_)
  have r5 := R_P r4 x5 (k5 33 (by decide)) (by decide)
  have o5 : M5 33 = M 33 := (k5 33 (by decide)).trans (y4.trans y3)
  refine rn_X (p_whole hX) (by decide) (by decide) r5 (by decide) (fun _ => by rw [o5]; omega) (fun _ => by rw [o5]; omega) (fun M6 F6 G6 r6 y6 p6 => p_need G6 (R_I r6) (fun M7 F7 x7 y7 => ?_))
  have r7 := R_P r6 x7 y7 (by decide)
  refine rn_put 3 (by decide) (by decide) r7 (by omega) (fun _ => by decide) (fun g => ⟨?_, ⟨by decide, by decide⟩, by decide⟩) (fun w' M8 F8 G8 r8 _ _ _ => hQ M8 F8 G8 (R_wk r8 (by omega) (by decide) (by omega) rfl))
  have g4 := e_PR_gd (e_PR_tr x5.2.1 (e_PR_tr p6 x7.2.1)) g
  exact hq g4.1 g4.2.1
theorem p_raiseS {M : e_M} {F : e_F} {G : e_G} {Q : e_M → e_F → Prop} (hI : e_PI M F) (hb : (M 36).toInt = -1) (h4 : (M 4).toInt = 4) (h5 : (M 5).toInt = (6 : Nat)) (ho : 1 ≤ (M 33).toInt ∧ (M 33).toInt ≤ 20) (hn : e_nm M) (hQ : e_K 0 M F G Q) : w_pass M F (fun M13 F13 => (w_object M13 F13 (fun r14 M15 F15 => (w_put 14 r14 0 0 M15 F15 (fun r16 M17 F17 => (w_need 59 M17 F17 (fun M18 F18 => (Q M18 F18)))))))) := by
  refine rn_word (L := 5) 6 (by decide) G 0 ((M 33).toInt - 1) hI hb h4 h5 hn.1 (by omega) (fun M1 F1 r1 hb1 y1 _ => p_object G (R_I r1) (fun x M3 F3 x3 y3 hx => ?_))
  have r3 := R_P r1 x3 y3 (by decide)
  refine rn_put 14 (by decide) (by decide) r3 (by omega) (fun _ => by decide) (fun g => ⟨hx g.1 g.2.1, ⟨by decide, by decide⟩, by decide⟩) (fun w' M8 F8 G8 r8 _ _ _ => p_need G8 (R_I r8) (fun M9 F9 x9 y9 => ?_))
  exact hQ M9 F9 G8 (R_wk (R_P r8 x9 y9 (by decide)) (by omega) (by decide) (by omega) rfl)
theorem p_restS {WF WB : e_M → e_F → (e_M → e_F → Prop) → Prop} (hX : e_SX WF 22 0 2) {M : e_M} {F : e_F} {G : e_G} {Q : e_M → e_F → Prop} (hI : e_PI M F) (hb : (M 36).toInt = -1) (h4 : (M 4).toInt = 4) (h5 : (M 5).toInt = (12 : Nat)) (ho : 1 ≤ (M 33).toInt ∧ (M 33).toInt ≤ 20) (hn : e_nm M) (hQ : e_K 0 M F G Q) : (w_pass M F (fun M24 F24 => (w_isSign 59 M24 F24 (fun r25 M26 F26 => ((r25 = 0 → (w_whole WF M26 F26 (fun M27 F27 => (w_statement_270 WF WB Q M27 F27)))) ∧ (¬ r25 = 0 → (w_put 1 0 0 0 M26 F26 (fun r31 M32 F32 => (w_statement_270 WF WB Q M32 F32))))))))) := by
  have z0 : ¬ (1 : Int32) = 0 := by decide
  refine rn_word (L := 4) 12 (by decide) G 0 ((M 33).toInt - 1) hI hb h4 h5 hn.1 (by omega) (fun M1 F1 r1 hb1 y1 _ => ?_)
  have h270 : ∀ (c5 s5 t5 u5 e5 : Int) (M5 : e_M) (F5 : e_F) (G5 : e_G), e_R e_U0 True c5 s5 t5 u5 0 ((M 33).toInt - 1) 1 0 e5 0 M F G M5 F5 G5 → (c5 ≤ -1 ∧ s5 ≤ 0 ∧ t5 ≤ -1 ∧ u5 ≤ 0 ∧ e5 ≤ 10) → w_statement_270 WF WB Q M5 F5 := by
    intro c5 s5 t5 u5 e5 M5 F5 G5 r5 hh
    refine p_need G5 (R_I r5) (fun M6 F6 x6 y6 => ?_)
    have r6 := R_P r5 x6 y6 (by decide)
    exact rn_putC 19 (by decide) 0 0 r6 (by omega) (by omega) (fun g _ d M' F' G' _ _ d0 d1 su k kg pr _ e1 e2 => Or.inr (Or.inr (Or.inr (Or.inl ⟨rfl, rfl⟩)))) (fun w4 M10 F10 G10 r10 k4 p4 _ _ _ _ => hQ M10 F10 G10 (R_wk r10 (by omega) ⟨rfl, rfl⟩ (by omega) rfl))
  refine p_isSign (fun _ => ⟨fun _ => ?_, fun q => absurd rfl q⟩) (fun _ _ _ => ⟨fun q => absurd q z0, fun _ => ?_⟩)
  · refine rn_X (p_whole hX) (by decide) (by decide) r1 (by decide) (fun _ => by rw [y1]; omega) (fun _ => by rw [y1]; omega) (fun M6 F6 G6 r6 y6 p6 => h270 _ _ _ _ _ M6 F6 G6 r6 (by omega))
  · refine rn_put 1 (by decide) (by decide) r1 (by omega) (fun _ => by decide) (fun _ => ⟨⟨by decide, by decide⟩, ⟨by decide, by decide⟩, by decide⟩) (fun w' M8 F8 G8 r8 _ _ _ => h270 _ _ _ _ _ M8 F8 G8 (R_wk (H' := 1) r8 ⟨Int.le_refl _, Int.le_refl _, Int.le_refl _, Int.le_refl _⟩ (by decide) ⟨Int.le_refl _, by omega⟩ rfl) (by omega))
theorem p_failS {A : Int} {M : e_M} {F : e_F} {G : e_G} {Q : e_M → e_F → Prop} (hI : e_PI M F) (hb : (M 36).toInt = -1) (ho : 1 ≤ (M 33).toInt ∧ (M 33).toInt ≤ 20) (hn : e_nm M) (hQ : e_K A M F G Q) : w_fail M F (fun M7 F7 => Q M7 F7) := by
  refine p_fail (fun M' h hb' => ?_) (e_PI_s hI)
  obtain ⟨x, y⟩ := e_P_fail G 0 hI h hb'
  exact hQ M' F G (R_bad (R_P (R_rf G 0 ((M 33).toInt - 1) hI hb hn.1 (by omega)) x y (by decide)) hb' (e_UB0 _) _ _ _ _ _ _ _ _ (by omega) (by omega))
theorem p_st79 {WF WB : e_M → e_F → (e_M → e_F → Prop) → Prop} {n : Nat} (hX : e_SX WF 22 0 2) (hB : e_BK WB n) (hn1 : 1 ≤ n) {A : Int} {M : e_M} {F : e_F} {G : e_G} {Q : e_M → e_F → Prop} (hf : 21 - (M 33).toInt ≤ n) (hI : e_PI M F) (hb : (M 36).toInt = -1) (ho : 1 ≤ (M 33).toInt ∧ (M 33).toInt ≤ 20) (hn : e_nm M) (hA : (A = 0 ∧ ¬ ((M 4).toInt = 4 ∧ (M 5).toInt = 16)) ∨ (A = -1 ∧ (M 4).toInt = 4 ∧ (M 5).toInt = 16)) (hQ : e_K A M F G Q) : w_statement_79 WF WB Q M F := by
  have z0 : ¬ (1 : Int32) = 0 := by decide
  have hF := p_failS hI hb ho hn hQ
  have h36 : M 36 = -1 := Int32.toInt_inj.mp (by rw [hb]; decide)
  refine ⟨fun _ => ⟨fun q => absurd rfl q, fun _ => ⟨fun h4 => ?_, fun _ => hF⟩⟩, fun q => absurd h36 q⟩
  have h4' : (M 4).toInt = 4 := by rw [h4]; decide
  have hz : (M 5).toInt ≠ 16 → A = 0 := fun q => by
    rcases hA with z | z
    · exact z.1
    · exact absurd z.2.2 q
  refine ⟨fun h5 => ?_, fun h5 => ?_, fun _ => hF, fun _ => hF, fun _ => hF, fun h5 => ?_, fun h5 => ?_, fun _ => hF, fun h5 => ?_, fun h5 => ?_, fun _ => hF, fun h5 => ?_, fun h5 => ?_, fun _ => hF, fun h5 => ?_, fun h5 => ?_, fun _ _ _ _ _ _ _ _ _ _ _ _ _ _ _ _ => hF⟩
  · have e5 : (M 5).toInt = (1 : Nat) := by rw [h5]; decide
    obtain rfl := hz (by omega)
    exact p_let hX M F G _ hI hb h4' e5 ho hn hQ
  · have e5 : (M 5).toInt = (2 : Nat) := by rw [h5]; decide
    obtain rfl := hz (by omega)
    exact p_hold hX M F G _ hI hb h4' e5 ho hn hQ
  · have e5 : (M 5).toInt = (6 : Nat) := by rw [h5]; decide
    obtain rfl := hz (by omega)
    exact p_raiseS hI hb h4' e5 ho hn hQ
  · have e5 : (M 5).toInt = (7 : Nat) := by rw [h5]; decide
    obtain rfl := hz (by omega)
    exact p_join M F G _ hI hb h4' e5 ho hn hQ
  · have e5 : (M 5).toInt = (9 : Nat) := by rw [h5]; decide
    obtain rfl := hz (by omega)
    exact p_note hX M F G _ hI hb h4' e5 ho hn hQ
  · have e5 : (M 5).toInt = (10 : Nat) := by rw [h5]; decide
    obtain rfl := hz (by omega)
    exact p_hear hX M F G _ hI hb h4' e5 ho hn hQ
  · have e5 : (M 5).toInt = (12 : Nat) := by rw [h5]; decide
    obtain rfl := hz (by omega)
    exact p_restS hX hI hb h4' e5 ho hn hQ
  · have e5 : (M 5).toInt = (13 : Nat) := by rw [h5]; decide
    obtain rfl := hz (by omega)
    exact p_choice hX hB hn1 M F G _ hf hI hb h4' e5 ho hn hQ
  · have e5 : (M 5).toInt = (15 : Nat) := by rw [h5]; decide
    obtain rfl := hz (by omega)
    exact p_loop hX hB hn1 M F G _ hf hI hb h4' e5 ho hn hQ
  · have e5 : (M 5).toInt = (16 : Nat) := by rw [h5]; decide
    have hA' : A = -1 := by
      rcases hA with z | z
      · exact absurd ⟨h4', by omega⟩ z.2
      · exact z.1
    subst hA'
    exact p_trying hB hn1 M F G _ hf hI hb h4' e5 ho hn hQ
theorem p_st18 {WF WB : e_M → e_F → (e_M → e_F → Prop) → Prop} {n : Nat} (hX : e_SX WF 22 0 2) (hB : e_BK WB n) (hn1 : 1 ≤ n) {A : Int} {M : e_M} {F : e_F} {G : e_G} {Q : e_M → e_F → Prop} (hf : 21 - (M 33).toInt ≤ n) (hI : e_PI M F) (hb : (M 36).toInt = -1) (ho : 1 ≤ (M 33).toInt ∧ (M 33).toInt ≤ 20) (hn : e_nm M) (hA : (A = 0 ∧ ¬ ((M 4).toInt = 4 ∧ (M 5).toInt = 16)) ∨ (A = -1 ∧ (M 4).toInt = 4 ∧ (M 5).toInt = 16)) (hQ : e_K A M F G Q) : w_statement_18 WF WB Q M F := by
  have h36 : M 36 = -1 := Int32.toInt_inj.mp (by rw [hb]; decide)
  refine ⟨fun _ => ⟨fun q => absurd rfl q, fun _ => ⟨fun _ => p_st79 hX hB hn1 hf hI hb ho hn hA hQ, fun h4 => ?_⟩⟩, fun q => absurd h36 q⟩
  have h4' : (M 4).toInt = 1 := by rw [h4]; decide
  have hA' : A = 0 := by
    rcases hA with z | z
    · exact z.1
    · exact absurd z.2.1 (by omega)
  subst hA'
  exact p_assign hX hI hb ho hn hQ
theorem p_statement {WF WB : e_M → e_F → (e_M → e_F → Prop) → Prop} {n : Nat} (hX : e_SX WF 22 0 2) (hB : e_BK WB n) (hn1 : 1 ≤ n) {M : e_M} {F : e_F} {G : e_G} {Q : e_M → e_F → Prop} (hf : 21 - (M 33).toInt ≤ n) (hI : e_PI M F) (hb : (M 36).toInt = -1) (ho : 1 ≤ (M 33).toInt ∧ (M 33).toInt ≤ 20) (hc : (M 29).toInt ≤ 2 * (M 6).toInt) (hn : e_nm M) (hQ : ∀ (M' : e_M) (F' : e_F) (G' : e_G), e_R e_U0 True 0 0 (-1) 0 0 ((M 33).toInt - 1) 0 0 11 0 M F G M' F' G' → Q M' F') : w_statement WF WB M F Q := by
  have z0 : ¬ (1 : Int32) = 0 := by decide
  have r0 := R_rf G 0 ((M 33).toInt - 1) hI hb hn.1 (by omega)
  have hgo : ∀ A : Int, ((A = 0 ∧ ¬ ((M 4).toInt = 4 ∧ (M 5).toInt = 16)) ∨ (A = -1 ∧ (M 4).toInt = 4 ∧ (M 5).toInt = 16)) → w_put 0 0 0 0 M F (fun r47 M48 F48 => w_statement_18 WF WB Q M48 F48) := by
    intro A hA
    refine rn_putC 0 (by decide) A 0 r0 (by omega) (by omega) (fun g _ d M' F' G' _ _ d0 d1 _ k _ _ _ e1 e2 => Or.inr (Or.inl ⟨rfl, rfl, by omega, rfl, by omega⟩)) (fun w0 M2 F2 G2 r2 k2 p2 hw0 _ f2 e2 => ?_)
    have q33 : M2 33 = M 33 := k2 33 (by decide)
    have q29 : (M2 29).toInt = (M 29).toInt + 1 := by
      unfold e_en at e2
      rw [k2 27 (by decide)] at e2
      omega
    refine p_st18 (A := A) (G := G2) hX hB hn1 (by rw [q33]; exact hf) (R_I r2) (by rw [k2 36 (by decide)]; exact hb) (by rw [q33]; exact ho) ?_ (by rw [k2 4 (by decide), k2 5 (by decide)]; exact hA) (fun M3 F3 G3 r3 => ?_)
    · obtain ⟨n1, n2, n3, n4⟩ := hn
      refine ⟨?_, ?_, ?_, ?_⟩
      · rw [q29, k2 6 (by decide)]; omega
      · rw [k2 31 (by decide), k2 6 (by decide), q33]; exact n2
      · rw [k2 32 (by decide), k2 6 (by decide), q33]; exact n3
      · rw [k2 46 (by decide), k2 6 (by decide)]; exact n4
    · rw [q33] at r3
      exact hQ M3 F3 G3 (R_wk (R_comp r2 r3 (by omega)) (by omega) ⟨rfl, rfl⟩ (by omega) rfl)
  refine p_isWord (fun _ => ⟨fun q => absurd rfl q, fun _ => ?_⟩) (fun _ h4 h5 => ⟨fun _ => ?_, fun q => absurd q z0⟩)
  · by_cases q : (M 4).toInt = 4 ∧ (M 5).toInt = 16
    · exact hgo (-1) (Or.inr ⟨rfl, q⟩)
    · exact hgo 0 (Or.inl ⟨rfl, q⟩)
  · exact p_st18 (A := 0) (G := G) hX hB hn1 hf hI hb ho hn (Or.inl ⟨rfl, fun q => absurd q.2 (by rw [h5]; decide)⟩) (fun M3 F3 G3 r3 => hQ M3 F3 G3 (R_wk r3 (by omega) ⟨rfl, rfl⟩ (by omega) rfl))
theorem p_block {WF WB : e_M → e_F → (e_M → e_F → Prop) → Prop} {n : Nat} (hX : e_SX WF 22 0 2) (hB : e_BK WB n) : e_BK (w_block WF WB) (n + 1) := by
  intro M F G Q hI ho hf _ hbn hQ
  have z0 : ¬ (1 : Int32) = 0 := by decide
  refine p_opens G hI (by omega) (fun M1 F1 x1 o1 n1 => ?_)
  by_cases hb : (M 36).toInt = -1
  · obtain ⟨b1, b2, b3, b4⟩ := hbn hb
    have hf' := hf hb
    have r0 := R_O (R_rf G 0 (M 33).toInt hI hb (by omega) (by omega)) x1 1 12 o1 (by decide) ⟨fun q => absurd hb q, by decide, by decide⟩
    have hend : ∀ (M2 : e_M) (F2 : e_F) (G2 : e_G), e_R e_U0 True (-2) (-1) (-1) (-1) 0 (M 33).toInt 0 0 12 1 M F G M2 F2 G2 → w_block_29 WF WB Q M2 F2 := by
      intro M2 F2 G2 r2
      have o2 := r2.2.2.1
      refine p_closes G2 (R_I r2) (by omega) (fun M3 F3 x3 o3 => ?_)
      have r3 := R_wk (c' := -4) (s' := -2) (t' := -2) (u' := -2) (H' := 0) (y' := 0) (e' := 0) (o' := 0) (R_O r2 x3 (-1) 0 (by omega) (by decide) ⟨fun _ => by decide, by decide, by decide⟩) (by decide) ⟨rfl, rfl⟩ (by decide) (by decide)
      exact hQ M3 F3 G2 r3.2.1 (Int32.toInt_inj.mp (by omega)) (fun q => absurd hb q) (fun _ g => by have := r3.2.2.2.2 g; omega)
    have key : ∀ (k : Nat) (M2 : e_M) (F2 : e_F) (G2 : e_G), e_R e_U0 True (-2) (-1) (-1) (-1) 0 (M 33).toInt 0 0 12 1 M F G M2 F2 G2 → ((M2 36).toInt = -1 → 4001 - (M2 6).toInt < k ∧ (M 33).toInt ≤ 19) → 1 ≤ k → w_block_6 WF WB Q k M2 F2 := by
      intro k
      induction k with
      | zero => intro M2 F2 G2 _ _ q; exact absurd q (by omega)
      | succ k ih =>
        intro M2 F2 G2 r2 hk _
        dsimp only [w_block_6]
        refine ⟨fun hb2 => ⟨fun q => absurd rfl q, fun _ => p_isSign (fun _ => ⟨fun q => absurd rfl q, fun _ => ?_⟩) (fun _ _ _ => ⟨fun _ => hend M2 F2 G2 r2, fun q => absurd q z0⟩)⟩, fun hb2 => ⟨fun _ => hend M2 F2 G2 r2, fun q => absurd q z0⟩⟩
        have hb2' : (M2 36).toInt = -1 := by rw [hb2]; decide
        obtain ⟨hk1, hk2⟩ := hk hb2'
        have vv := r2.2.1.2.2.2.2 hb2'
        have o2 := r2.2.2.1
        have s2 := e_PI_e (R_I r2)
        refine p_statement (G := G2) hX hB (by omega) (by omega) (R_I r2) hb2' (by omega) (by omega) ⟨by omega, by omega, by omega, by omega⟩ (fun M3 F3 G3 r3 => ?_)
        have m6 : (M2 6).toInt ≤ (M3 6).toInt := r3.2.1.2.1.1.2.1.2.2.2.2.2
        have m32 : (M2 32).toInt ≤ (M3 32).toInt := r3.2.1.2.1.1.2.1.2.2.1
        refine ih M3 F3 G3 (R_wk (R_comp r2 r3 (by omega)) (by omega) ⟨rfl, rfl⟩ (by omega) (by omega)) (fun g => ?_) (by omega)
        have v3 := r3.2.1.2.2.2.2 g
        exact ⟨by omega, hk2⟩
    have s1 := e_PI_e x1.1
    exact ⟨5000, key 5000 M1 F1 G (R_wk r0 (by omega) ⟨rfl, rfl⟩ (by decide) (by decide)) (fun g => ⟨by omega, n1 g⟩) (by decide)⟩
  · have hb1 : (M1 36).toInt ≠ -1 := x1.2.1.1.2.2.1 hb
    refine ⟨1, ⟨fun q => absurd (by rw [q]; decide) hb1, fun _ => ⟨fun _ => ?_, fun q => absurd q z0⟩⟩⟩
    refine p_closes G x1.1 (by omega) (fun M3 F3 x3 o3 => ?_)
    have x13 := e_P_tr (c3 := 2) x1 x3 (by omega)
    have hb3 : (M3 36).toInt ≠ -1 := x13.2.1.1.2.2.1 hb
    exact hQ M3 F3 G ⟨x3.1, x13.2.1, e_UB0 _, fun g => absurd g.1 hb3, fun g => absurd g hb3⟩ (Int32.toInt_inj.mp (by omega)) (fun _ => x13.2.2.1.1) (fun q => absurd q hb)
def wf_blk : Nat → e_M → e_F → (e_M → e_F → Prop) → Prop
  | 0 => fun _ _ _ => False
  | n + 1 => fun M F Q => w_block (wf_fac 22) (wf_blk n) M F Q
theorem e_BK_blk : ∀ n : Nat, e_BK (wf_blk n) n := by
  intro n
  induction n with
  | zero =>
    intro M F G Q _ _ _ q
    exact absurd q (by decide)
  | succ n ih => exact p_block (e_SX_fac 22) ih
theorem so_wf_blk {l : Launch} {g : r_S} : ∀ (d : Nat) (M : Nat → Int32) (F : Nat → Nat → Int32) (Q : (Nat → Int32) → (Nat → Nat → Int32) → Prop), wf_blk d M F Q → r_MetV l g yX12_block cX12_block 1 (16 * 22 + 30 + 14 * d) [.ref (r_h g)] M F Q := by
  intro d
  induction d with
  | zero => intro M F Q h; exact absurd h (fun h => h)
  | succ d ih => intro M F Q h; exact so_block (so_wf_fac 22) ih (by omega) M F Q h
