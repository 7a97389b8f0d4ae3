def wf_fac : Nat → e_M → e_F → (e_M → e_F → Prop) → Prop
  | 0 => fun _ _ _ => False
  | n + 1 => fun M F Q => w_factor (wf_fac n) M F Q
theorem e_SX_fac : ∀ n : Nat, e_SX (wf_fac n) n 0 2 := by
  intro n
  induction n with
  | zero =>
    intro M F G e Q hI hC he he' hf hQ
    exact absurd hf (by unfold e_fu; have := e_PI_o hI; omega)
  | succ n ih => exact p_factor ih
theorem so_wf_fac {l : Launch} {g : r_S} : ∀ (d : Nat) (M : Nat → Int32) (F : Nat → Nat → Int32) (Q : (Nat → Int32) → (Nat → Nat → Int32) → Prop), wf_fac d M F Q → r_MetV l g yX12_factor cX12_factor 3 (16 * d) [.ref (r_h g)] M F Q := by
  intro d
  induction d with
  | zero => intro M F Q h; exact absurd h (fun h => h)
  | succ d ih => intro M F Q h; exact so_factor ih M F Q h
theorem rn_Y (e' : Int) {W : e_M → e_F → (e_M → e_F → Prop) → Prop} {n : Nat} {β ex : Int} (hX : e_SY W n β ex) (hn : 22 ≤ n) (hex : 0 ≤ ex) {U : e_U} {P : Prop} {c s t u A D H y e o : Int} {M M1 : e_M} {F F1 : e_F} {G G1 : e_G} {Q : e_M → e_F → Prop} (r : e_R U P c s t u A D H y e o M F G M1 F1 G1) (he' : e ≤ e' ∧ ex ≤ e' ∧ e' ≤ 40) (hb : (M1 36).toInt = -1 → (M1 33).toInt ≤ 20) (hH : P → 1 ≤ H ∧ H ≤ 61 - 3 * (20 - (M1 33).toInt) - β) (hQ : ∀ (M' : e_M) (F' : e_F) (G' : e_G), e_R U P c s t u A D H y e' o M F G M' F' G' → M' 33 = M1 33 → e_PR M1 F1 G1 M' F' G' → Q M' F') : W M1 F1 Q := by
  have he := r.1.2.1
  have ho := e_PI_o (R_I r)
  refine hX M1 F1 G1 e Q (R_I r) r.2.2.2 (by omega) (by omega) ?_ (fun M' F' G' z y' cb => ?_)
  · by_cases q : (M1 36).toInt = -1
    · right; have := hb q; omega
    · exact Or.inl ⟨q, by omega⟩
  · have h := R_Z r z y' hH e' (by omega) (cb e' (fun _ => by omega) (fun _ => by omega))
    have e1 : c + 0 = c := by omega
    have e2 : H + 0 = H := by omega
    rw [e1, e2] at h
    exact hQ M' F' G' h y' z.2.1.1
theorem R_pass {U : e_U} {P : Prop} {c s t u A D H y e o : Int} {M M1 : e_M} {F F1 : e_F} {G G1 : e_G} {Q : e_M → e_F → Prop} (r : e_R U P c s t u A D H y e o M F G M1 F1 G1) (hb : (M1 36).toInt = -1) (h4 : (M1 4).toInt ≠ 0) (hQ : ∀ (M' : e_M) (F' : e_F), e_R U P (c - 2 * 1) (s - 1) (t - 1) (u - 1) A D H y e o M F G M' F' G1 → (M' 36).toInt = -1 → M' 33 = M1 33 → e_PR M1 F1 G1 M' F' G1 → (M1 6).toInt + 1 ≤ (M' 6).toInt → Q M' F') : w_pass M1 F1 Q := by
  have hs := (R_I r).2.2.1 h4
  refine p_passN (G := G1) (R_I r) hb (fun M2 F2 a b c d => ?_)
  obtain ⟨x, y⟩ := e_P_pass (c := 1) a b c d (by omega)
  exact hQ M2 F2 (R_P r x y (by decide)) (by rw [c 36 (by decide) (by decide) (by decide) (by decide) (by decide)]; exact hb) y b (by omega)
theorem R_17 (w v : Int32) {U : e_U} {P : Prop} {c s t u A D H y e o : Int} {M M1 : e_M} {F F1 : e_F} {G G1 : e_G} (r : e_R U P c s t u A D H y e o M F G M1 F1 G1) (hw : 9000 * (M 27).toInt ≤ w.toInt ∧ w.toInt < 9000 * (M 27).toInt + 9000 ∧ 0 ≤ w.toInt) : e_R U P c s t u A D H y e o M F G M1 (uf F1 17 w v) G1 := by
  obtain ⟨r1, ⟨a1, ⟨b1, ⟨b2, b3, b4, ⟨b5, b6, b7, b8⟩, b9, b10⟩, b11⟩, a3, a4, a5⟩, r3⟩ := r
  exact ⟨r1, ⟨a1, ⟨b1, ⟨b2, b3, b4, ⟨b5, b6, b7, fun r hr => (e_uf_ne (by omega)).trans (b8.1 r hr), fun j hj => by
    have hne : j ≠ w.toInt.toNat := by omega
    exact (e_upd_ne hne).trans (b8.2 j hj)⟩, b9, b10⟩, b11⟩, a3, a4, a5⟩, r3⟩
theorem rn_made {WF : e_M → e_F → (e_M → e_F → Prop) → Prop} (hX : e_SX WF 22 0 2) {c s t u A D e o : Int} {M M1 : e_M} {F F1 : e_F} {G G1 : e_G} {Q : e_M → e_F → Prop} {p : Int32} (r0 : e_R e_U0 True c s t u A D 0 0 e o M F G M1 F1 G1) (hb : (M1 36).toInt = -1) (h4 : (M1 4).toInt = 5) (hc : c ≤ 3) (ho : 1 ≤ (M1 33).toInt ∧ (M1 33).toInt ≤ 20) (hp : e_gd M1 F1 → 0 ≤ p.toInt ∧ p.toInt < 8) (hQ : ∀ (M' : e_M) (F' : e_F) (G' : e_G), e_R e_U0 True c s t u A D 0 0 1 o M F G M' F' G' → Q M' F') : w_made WF p M1 F1 Q := by
  have z0 : ¬ (1 : Int32) = 0 := by decide
  have r := R_nb r0 hb
  refine R_pass r hb (by omega) (fun M2 F2 r2 hb2 y2 p2 _ => ?_)
  refine p_opens G1 (R_I r2) (by rw [y2]; omega) (fun M3 F3 x3 o3 n3 => ?_)
  rw [y2] at o3 n3
  have r3 := R_O r2 x3 1 0 (by rw [y2]; exact o3) (by decide) ⟨fun q => absurd hb2 q, by decide, by decide⟩
  have p3 := e_PR_tr p2 x3.2.1
  have hk : 0 ≤ (M1 5).toInt ∧ (M1 5).toInt < 7 := by
    obtain ⟨j, j1, j2, -⟩ := (R_I r0).2.1.2.2.2 h4
    omega
  have hend : ∀ (b : Int32) (c4 e4 : Int) (M4 : e_M) (F4 : e_F) (G4 : e_G), e_R e_U0 True c4 s t u A D 2 0 0 o M F G M4 F4 G4 → c4 ≤ c - 1 → e_PR M1 F1 G1 M4 F4 G4 → (e_gd M4 F4 → b.toInt < 8) → w_made_105 WF Q p (M1 5) (M1 6) b M4 F4 := by
    intro b c4 e4 M4 F4 G4 r4 hc4 p4 hb4
    refine rn_put 13 (by decide) (by decide) r4 (by omega) (fun _ => by decide) (fun g => ⟨hp (e_PR_gd p4 g), hk, hb4 g⟩) (fun w M5 F5 G5 r5 _ _ hw => ⟨?_, ?_⟩)
    · have b4 := e_PI_b (R_I r4)
      have c9 := e_CB_9 (R_I r4) r4.2.2.2 (by omega)
      have c0 : 0 ≤ (M4 29).toInt := (R_I r4).2.2.2.1.2.1
      unfold e_en at hw
      exact vp_in_iff.mpr (by omega)
    · have r6 : e_R e_U0 True c s t u A D 0 0 1 o M F G M5 F5 G5 := R_wk r5 (by omega) (by decide) (by decide) rfl
      have b4 := e_PI_b (R_I r4)
      have c9 := e_CB_9 (R_I r4) r4.2.2.2 (by omega)
      have c0 : 0 ≤ (M4 29).toInt := (R_I r4).2.2.2.1.2.1
      have e27 : M4 27 = M 27 := r4.2.1.2.1.1.1.1
      unfold e_en at hw
      rw [e27] at hw b4
      exact hQ M5 _ G5 (R_17 _ _ r6 (by omega))
  have h59 : ∀ (c4 e4 : Int) (M4 : e_M) (F4 : e_F) (G4 : e_G), e_R e_U0 True c4 (s - 2) (t - 2) (u - 2) A D 2 0 e4 (o + 1) M F G M4 F4 G4 → c4 ≤ c - 3 → e4 ≤ 12 → M4 33 = M3 33 → e_PR M1 F1 G1 M4 F4 G4 → w_made_59 WF Q p (M1 5) (M1 6) M4 F4 := by
    intro c4 e4 M4 F4 G4 r4 hc4 he4 y4 p4
    refine p_closes G4 (R_I r4) (by rw [y4, o3]; omega) (fun M5 F5 x5 o5 => ?_)
    have r5 := R_wk (c' := c - 1) (s' := s) (t' := t) (u' := u) (H' := 2) (y' := 0) (e' := 0) (o' := o) (R_O r4 x5 (-1) 0 (by omega) (by decide) ⟨fun _ => by omega, by decide, by decide⟩) (by omega) (by decide) (by decide) (by omega)
    have p5 := e_PR_tr p4 x5.2.1
    refine p_isWord (fun _ => ⟨fun _ => hend (-1) _ 0 M5 F5 G4 r5 (by omega) p5 (fun _ => by decide), fun q => absurd rfl q⟩) (fun hb5 h54 h55 => ⟨fun q => absurd q z0, fun _ => ?_⟩)
    refine R_pass r5 hb5 (by omega) (fun M6 F6 r6 hb6 y6 p6 _ => ?_)
    refine p_isWord (fun _ => ⟨fun _ => p_object G4 (R_I r6) (fun x M7 F7 x7 y7 h7 => ?_), fun q => absurd rfl q⟩) (fun _ h64 h65 => ⟨fun q => absurd q z0, fun _ => ?_⟩)
    · have r7 := R_P r6 x7 y7 (by decide)
      exact hend x _ 0 M7 F7 G4 (R_wk (c' := c - 1) (s' := s) (t' := t) (u' := u) (H' := 2) (y' := 0) (e' := 0) (o' := o) r7 (by omega) (by decide) (by decide) rfl) (by omega) (e_PR_tr p5 (e_PR_tr p6 x7.2.1)) (fun g => (h7 g.1 g.2.1).2)
    · refine R_pass r6 hb6 (by omega) (fun M7 F7 r7 hb7 y7 p7 _ => ?_)
      exact hend (-2) _ 0 M7 F7 G4 (R_wk (c' := c - 1) (s' := s) (t' := t) (u' := u) (H' := 2) (y' := 0) (e' := 0) (o' := o) r7 (by omega) (by decide) (by decide) rfl) (by omega) (e_PR_tr p5 (e_PR_tr p6 p7)) (fun _ => by decide)
  refine rn_X (p_whole hX) (by decide) (by decide) r3 (by decide) (fun g => by have := n3 g; omega) (fun _ => by omega) (fun M4 F4 G4 r4 y4 p4 => ?_)
  have p14 := e_PR_tr p3 p4
  have h49 : w_made_49 WF Q p (M1 5) (M1 6) M4 F4 := by
    refine rn_put 1 (by decide) (by decide) r4 (by omega) (fun _ => by decide) (fun _ => ⟨⟨by decide, by decide⟩, ⟨by decide, by decide⟩, by decide⟩) (fun w M5 F5 G5 r5 k5 p5 _ => ?_)
    exact h59 _ _ M5 F5 G5 (R_wk (c' := c - 3) (s' := s - 2) (t' := t - 2) (u' := u - 2) (H' := 2) (y' := 0) (e' := 6) (o' := o + 1) r5 (by omega) (by decide) (by decide) rfl) (by omega) (by decide) ((k5 33 (by decide)).trans y4) (e_PR_tr p14 p5)
  refine ⟨fun _ => h49, fun _ => p_isSign (fun _ => ⟨fun _ => h49, fun q => absurd rfl q⟩) (fun hb4 h44 h45 => ⟨fun q => absurd q z0, fun _ => ?_⟩)⟩
  refine R_pass r4 hb4 (by omega) (fun M5 F5 r5 hb5 y5 p5 _ => ?_)
  refine rn_X (p_whole hX) (by decide) (by decide) r5 (by decide) (fun g => by rw [y5, y4]; have := n3 (e_PR_nb p4 hb4); omega) (fun _ => by rw [y5, y4]; omega) (fun M6 F6 G6 r6 y6 p6 => ?_)
  exact h59 _ _ M6 F6 G6 (R_wk (c' := c - 3) (s' := s - 2) (t' := t - 2) (u' := u - 2) (H' := 2) (y' := 0) (e' := 10) (o' := o + 1) r6 (by omega) (by decide) (by decide) rfl) (by omega) (by decide) (y6.trans (y5.trans y4)) (e_PR_tr p14 (e_PR_tr p5 p6))
