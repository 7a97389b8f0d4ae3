/-! HEARS FIND THEIR HEARINGS: what becomes of the codes. -/
section YT9
variable {E : x_E} {x : x_X}
theorem c_findJ (hE : E_ok E) {s0 : f_S3} {O : Nat × Nat} (g : rcg E ([], 0, false, false) s0 x) (hI : t_I E x) (hb : x.1 = false) {J : Nat → f_S3 → Prop} (hJ : ∀ (i : Nat) (s s1 : f_S3) (p : Nat), i < (X_l x).length → J i s → s0.2.1 26 i = nI p → (∀ c, c ≠ 28 → s1.2.1 c = s.2.1 c) → J (i + 1) (ff s1 20 (nI p) (X_v x ((X_l x).getD i (0, 0)).1))) {Q : f_S3 → Nat × Nat → Prop} (hQ : ∀ s', fI x (X_l x).length s0 s' → J (X_l x).length s' → Q s' O) : ∀ (f i : Nat) (s : f_S3), i + f = (X_l x).length → fI x i s0 s → J i s → wF_X7_findHearings_2 (E_N E) Q (f + 1) (nI i) s O := by
  obtain ⟨-, hh, hT⟩ := hI
  obtain ⟨-, tv, t16, th, tl⟩ := hT hb
  have hl := hh hb
  obtain ⟨g1, g2, g3, g4, ⟨z1, z2, -⟩, ⟨⟨y1, y1', y3, y4⟩, y2⟩, ⟨p1, p2⟩⟩ := g
  obtain ⟨n26, n27, n26'⟩ := E_26 hE
  have hpn := E_pn hE g1.2.2
  have hN := hE.2.2.2.1
  have n22 : E_N E 22 = 16 := hE.2.2.2.2.2.2.2.2.2
  have hN2 := hN.2.1
  intro f
  induction f with
  | zero =>
    intro i s hi h hj0
    have e8 : s.1 8 = nI (X_l x).length := by rw [h.1]; exact y1
    have hi : i = (X_l x).length := by omega
    subst hi
    exact ⟨fun _ => hQ s h hj0, fun q => absurd (by rw [e8]; exact (y_le (by omega) (by omega)).mpr (Nat.le_refl _)) q⟩
  | succ f ih =>
    intro i s hi h hj0
    have hil : i < (X_l x).length := by omega
    obtain ⟨h1, h2, h3, h4, h5⟩ := h
    obtain ⟨p, r26, pz, r20, r21, -⟩ := y2 i hil
    have vi : vp_in (nI i) (E_N E 26) := y_in (by omega) (by omega)
    have vj : vp_in (nI i) (E_N E 27) := by rw [n27]; exact vi
    have e8 : s.1 8 = nI (X_l x).length := by rw [h1]; exact y1
    have e63 : s.1 63 = nI (X_z x) := by rw [h1]; exact z1
    have e26 : s.2.1 26 i = nI p := by rw [h2 26 (by decide) (by decide)]; exact r26
    obtain ⟨q20, q21⟩ := h4 i (Nat.le_refl _) hil p r26 pz
    have hw : ((X_l x).getD i (0, 0)).1 < E_L E := by
      refine tl _ ?_
      rw [List.getD_eq_getElem?_getD, List.getElem?_eq_getElem hil]
      exact List.getElem_mem hil
    obtain ⟨a1, a2, a3, a4⟩ := E_wN hE hw
    have e20 : s.2.1 20 p = nI (33 + ((X_l x).getD i (0, 0)).1) := q20.trans r20
    have e21 : s.2.1 20 (p + 1) = ((X_l x).getD i (0, 0)).2 := q21.trans r21
    have ev : s.2.1 25 (33 + ((X_l x).getD i (0, 0)).1) = X_v x ((X_l x).getD i (0, 0)).1 := by rw [h2 25 (by decide) (by decide)]; exact (g4 _ hw).2
    -- the hear's place changed
    have go108 : ∀ (t0 : Int32) (s1 : f_S3), t0 = X_v x ((X_l x).getD i (0, 0)).1 → s1.1 = s0.1 → (∀ c, c ≠ 28 → s1.2.1 c = s.2.1 c) → (∀ j, j ≠ 4 → s1.2.1 28 j = s.2.1 28 j) → (X_2 x = false → X_3 x = false → (s1.2.1 28 4 = -1 ↔ all4 x (i + 1))) → wF_X7_findHearings_108 (E_N E) (wF_X7_findHearings_2 (E_N E) Q (f + 1)) Q (nI i) t0 s1 O := by
      intro t0 s1 e0 k1 k2 k3 k4
      have f26 : s1.2.1 26 (nI i).toNatClampNeg = nI p := by rw [y_cl (by omega), k2 26 (by decide)]; exact e26
      have f63 : s1.1 63 = nI (X_z x) := by rw [k1]; exact z1
      refine ⟨vi, ?_⟩
      rw [f26]
      refine ⟨fun q => absurd q (y_lt0 (by omega)), fun _ => ⟨fun q => ?_, fun _ => ⟨y_in (by omega) (by omega), ?_⟩⟩⟩
      · rw [f63, y_le (by omega) (by omega)] at q; omega
      · rw [y_1]
        refine ih (i + 1) _ (by omega) ⟨k1, fun c hc hc' => ?_, fun j hj => ?_, fun j hj hj' p' hp' hz' => ?_, k4⟩ (by rw [e0]; exact hJ i s s1 p hil hj0 r26 k2)
        · show uf s1.2.1 20 (nI p) t0 c = s0.2.1 c
          rw [uf_row hc, k2 c hc', h2 c hc hc']
        · show uf s1.2.1 20 (nI p) t0 28 j = s0.2.1 28 j
          rw [uf_row (by decide), k3 j hj, h3 j hj]
        · have m := y3 i j (by omega) hj'
          rw [r26, hp', fs_nI (by omega), fs_nI (by omega)] at m
          obtain ⟨u1, u2⟩ := h4 j (by omega) hj' p' hp' hz'
          refine ⟨?_, ?_⟩
          · show uf s1.2.1 20 (nI p) t0 20 p' = s0.2.1 20 p'
            rw [uf_at2, y_cl (by omega), if_neg (fun q => by omega), k2 20 (by decide)]; exact u1
          · show uf s1.2.1 20 (nI p) t0 20 (p' + 1) = s0.2.1 20 (p' + 1)
            rw [uf_at2, y_cl (by omega), if_neg (fun q => by omega), k2 20 (by decide)]; exact u2
    have go97 : ∀ (t0 : Int32), t0 = X_v x ((X_l x).getD i (0, 0)).1 → (X_2 x = false → X_3 x = false → ¬ ok4 x ((X_l x).getD i (0, 0))) → wF_X7_findHearings_97 (E_N E) (wF_X7_findHearings_2 (E_N E) Q (f + 1)) Q (nI i) t0 s O := by
      intro t0 e0 no
      have e27 : ¬ s.2.1 27 (nI i).toNatClampNeg = -1 := by rw [y_cl (by omega), h2 27 (by decide) (by decide)]; exact y4 i hil
      refine ⟨vj, y_pf hN.1 (Or.inr (Or.inr ⟨rfl, rfl⟩)) e27 (fun s1 q1 => go108 t0 s1 e0 (q1.1.trans h1) (fun c hc => q1.2.1 c hc) (fun j hj => q1.2.2.1 j hj) (fun u v => ⟨fun z => absurd z q1.2.2.2, fun z => absurd (all4_s.mp z).2 (no u v)⟩))⟩
    have yes : (X_2 x = false → X_3 x = false → ok4 x ((X_l x).getD i (0, 0))) → ∀ t0, t0 = X_v x ((X_l x).getD i (0, 0)).1 → wF_X7_findHearings_108 (E_N E) (wF_X7_findHearings_2 (E_N E) Q (f + 1)) Q (nI i) t0 s O := fun ok t0 e0 => go108 t0 s e0 h1 (fun _ _ => rfl) (fun _ _ => rfl) (fun u v => ⟨fun z => all4_s.mpr ⟨(h5 u v).mp z, ok u v⟩, fun z => (h5 u v).mpr (all4_s.mp z).1⟩)
    dsimp only [wF_X7_findHearings_2]
    rw [e8, y_cl (by omega), e26]
    refine ⟨fun q => ?_, fun _ => ⟨fun q => ?_, fun _ => ⟨fun q => ?_, fun _ => ⟨vi, ?_⟩⟩⟩⟩
    · rw [y_le (by omega) (by omega)] at q; omega
    · rw [y_le (by omega) (by omega)] at q; omega
    · rw [n27, y_le (by omega) (by omega)] at q; omega
    · refine ⟨fun q => absurd q (y_lt0 (by omega)), fun _ => ⟨fun q => ?_, fun _ => ⟨y_in (by omega) (by omega), ?_⟩⟩⟩
      · rw [e63, y_le (by omega) (by omega)] at q; omega
      · rw [y_cl (by omega), e20]
        refine ⟨fun q => absurd q (y_lt0 (by omega)), fun _ => ⟨fun q => ?_, fun _ => ⟨by rw [a3]; exact y_in a1 (by omega), ?_⟩⟩⟩
        · rw [y_le (by omega) (by omega)] at q; omega
        · rw [y_cl (by omega), ev]
          refine ⟨fun q => go97 _ rfl (fun _ _ o => o.1 q), fun q => ?_⟩
          have hv := (tv ((X_l x).getD i (0, 0)).1).resolve_left q
          have l16 : (16 : Int32).toInt = 16 := by decide
          have l0 : (0 : Int32).toInt = 0 := by decide
          have eget : wF_X6_get (E_N E) (s.2.1 26 (nI i).toNatClampNeg + 1) s O = wF_X6_get (E_N E) (nI (p + 1)) s O := by rw [y_cl (by omega), e26, y_1]
          -- behind the number of parameters
          have fin : ∀ r8 : Int32, (X_2 x = false → X_3 x = false → r8 = X_r x (X_v x ((X_l x).getD i (0, 0)).1).toNatClampNeg) → (vp_in (nI i) (E_N E 26) ∧ (wF_X6_get (E_N E) ((s.2.1 26 (nI i).toNatClampNeg) + 1) s O (fun r11 M12 O12 => ((r8 = r11 → (wF_X7_findHearings_108 (E_N E) (wF_X7_findHearings_2 (E_N E) Q (f + 1)) Q (nI i) (X_v x ((X_l x).getD i (0, 0)).1) M12 O12)) ∧ (¬ r8 = r11 → (wF_X7_findHearings_97 (E_N E) (wF_X7_findHearings_2 (E_N E) Q (f + 1)) Q (nI i) (X_v x ((X_l x).getD i (0, 0)).1) M12 O12)))))) := by
            intro r8 e
            refine ⟨vi, ?_⟩
            rw [eget]
            refine ⟨fun q => absurd q (y_lt0 (by omega)), fun _ => ⟨fun q => ?_, fun _ => ⟨y_in (by omega) (by omega), ?_⟩⟩⟩
            · rw [e63, y_le (by omega) (by omega)] at q; omega
            · rw [y_cl (by omega), e21]
              exact ⟨fun w => yes (fun u v => ⟨q, (e u v).symm.trans w⟩) _ rfl, fun w => go97 _ rfl (fun u v o => w ((e u v).trans o.2))⟩
          refine ⟨fun y => ?_, fun _ => ⟨fun y => ?_, fun y => ⟨?_, ?_⟩⟩⟩
          · rw [Int32.lt_iff_toInt_lt, l0] at y; omega
          · refine fin _ (fun u v => ?_)
            rw [Int32.le_iff_toInt_le, l16] at y
            have := t16 u v
            omega
          · have y := ti_nle y
            rw [n22]
            exact vp_in_iff.mpr (by omega)
          · refine fin _ (fun u v => ?_)
            have y := ti_nle y
            rw [h2 22 (by decide) (by decide)]
            have ec : (X_v x ((X_l x).getD i (0, 0)).1).toNatClampNeg = (X_v x ((X_l x).getD i (0, 0)).1).toInt.toNat := rfl
            exact p2 _ (by rw [ec]; omega) (by rw [ec]; omega)
theorem re_findJ (hE : E_ok E) {b : Nat} {M0 : Nat → Int32} {F0 : Nat → Nat → Int32} (g : rxg E (b, false) M0 F0 x) (hI : t_I E x) (hb : x.1 = false) (ht : X_t x = E_m E) {J : Nat → (Nat → Int32) → (Nat → Nat → Int32) → Prop} (hJ : ∀ (i : Nat) (M : Nat → Int32) (F : Nat → Nat → Int32), i < (X_l x).length → ok4 x ((X_l x).getD i (0, 0)) → J i M F → J (i + 1) M (uf F 14 (F 42 (nI i).toNatClampNeg) (400 * nI b + X_v x ((X_l x).getD i (0, 0)).1))) {WB : x_RW} {Q Q' : Int32 → (Nat → Int32) → (Nat → Nat → Int32) → Prop} (hQ : ∀ M F, zI x (X_l x).length M0 M F0 F → (X_2 x = false → X_3 x = false → all4 x (X_l x).length → J (X_l x).length M F) → w_read_207 WB Q M F → w_read_207 WB Q' M F) : ∀ (e i : Nat) (M : Nat → Int32) (F : Nat → Nat → Int32), i ≤ (X_l x).length → zI x i M0 M F0 F → (X_2 x = false → X_3 x = false → all4 x i → J i M F) → w_read_104 WB Q e (nI i) M F → w_read_104 WB Q' e (nI i) M F := by
  obtain ⟨-, hh, hT⟩ := hI
  obtain ⟨-, tv, t16, th, tl⟩ := hT hb
  have hl := hh hb
  have hn := E_n4 hE
  obtain ⟨g1, ⟨f36, f39, f37, f38⟩, g3, ⟨t1, t2⟩, ⟨h1, h2⟩, ⟨⟨p1, p2, p3, p4⟩, p5⟩⟩ := g
  have hpn := E_pn hE g1.2
  have hL : E_L E ≤ 2005 := hE.1.2.2.2.2.1
  have p2 : b ≤ 1 := p2
  intro e
  induction e with
  | zero => intro i M F _ _ _ w; exact absurd w (fun q => q)
  | succ e ih =>
    intro i M F hi hz hj0 w
    obtain ⟨z1, z2, z3⟩ := hz
    have e46 : M 46 = nI (X_l x).length := by rw [z1 46 (by decide) (by decide) (by decide) (by decide)]; exact h1
    have e36 : M 36 = -1 := by rw [z1 36 (by decide) (by decide) (by decide) (by decide)]; exact f36
    dsimp only [w_read_104] at w ⊢
    rw [e46] at w ⊢
    refine ⟨fun q => ?_, fun q => ?_⟩
    · have q' := (y_le (by omega) (by omega)).mp q
      have hi : i = (X_l x).length := by omega
      subst hi
      exact hQ M F ⟨z1, z2, z3⟩ hj0 (w.1 q)
    · have q' : ¬ (X_l x).length ≤ i := fun y => q ((y_le (by omega) (by omega)).mpr y)
      have hil : i < (X_l x).length := by omega
      have w := w.2 q
      unfold w_bad at w ⊢
      refine ⟨fun a => ⟨fun y => absurd rfl y, fun y => ?_⟩, fun a => absurd e36 a⟩
      have w := (w.1 a).2 y
      obtain ⟨u1, u2, u3⟩ := h2 i hil
      have r43 : F 43 (nI i).toNatClampNeg = nI ((X_l x).getD i (0, 0)).1 := by rw [y_cl (by omega), z2 43 (by decide)]; exact u1
      have r44 : F 44 (nI i).toNatClampNeg = ((X_l x).getD i (0, 0)).2 := by rw [y_cl (by omega), z2 44 (by decide)]; exact u2
      have r45 : ¬ F 45 (nI i).toNatClampNeg = -1 := by rw [y_cl (by omega), z2 45 (by decide)]; exact u3
      have hw : ((X_l x).getD i (0, 0)).1 < E_L E := by
        refine tl _ ?_
        rw [List.getD_eq_getElem?_getD, List.getElem?_eq_getElem hil]
        exact List.getElem_mem hil
      have hwl : ((X_l x).getD i (0, 0)).1 < E_l E (X_t x) := by
        rw [ht]
        unfold E_l
        rw [if_neg (by omega)]
        exact hw
      have r11 : F 11 (nI ((X_l x).getD i (0, 0)).1).toNatClampNeg = X_v x ((X_l x).getD i (0, 0)).1 := by rw [y_cl (by omega), z2 11 (by decide)]; exact (t1 _ hwl).2
      have e27 : M 27 = nI b := by rw [z1 27 (by decide) (by decide) (by decide) (by decide)]; exact p1
      -- one more
      have nxt : ∀ (M1 : Nat → Int32) (F1 : Nat → Nat → Int32), zI x (i + 1) M0 M1 F0 F1 → (X_2 x = false → X_3 x = false → all4 x (i + 1) → J (i + 1) M1 F1) → w_read_201 WB (w_read_104 WB Q e) Q (nI i) M1 F1 → w_read_201 WB (w_read_104 WB Q' e) Q' (nI i) M1 F1 := fun M1 F1 hz1 hj1 w1 => by
        have w1 : w_read_104 WB Q e (nI i + 1) M1 F1 := w1
        show w_read_104 WB Q' e (nI i + 1) M1 F1
        rw [y_1] at w1 ⊢
        exact ih (i + 1) M1 F1 hil hz1 hj1 w1
      have g160 : (X_2 x = false → X_3 x = false → ¬ ok4 x ((X_l x).getD i (0, 0))) → w_read_160 WB (w_read_104 WB Q e) Q (nI i) M F → w_read_160 WB (w_read_104 WB Q' e) Q' (nI i) M F := fun no w1 => ⟨w1.1, re_least r45 w1.2 (fun r hr w2 => nxt _ _ ⟨fun j hj hj' h34 h35 => by rw [um_ne hj']; exact z1 j hj hj' h34 h35, z2, fun u v => ⟨fun y => absurd (um_eq.symm.trans y) hr, fun y => absurd (all4_s.mp y).2 (no u v)⟩⟩ (fun u v y => absurd (all4_s.mp y).2 (no u v)) w2)⟩
      obtain ⟨w1, w2, w3⟩ := w
      rw [r43, r11] at w3
      rw [r43] at w2
      rw [r43, r11]
      refine ⟨w1, w2, fun v11 hv => ?_⟩
      have w3 := w3 v11 hv
      subst hv
      refine ⟨fun q => g160 (fun _ _ o => o.1 q) (w3.1 q), fun q => ?_⟩
      have w4 := w3.2 q
      have hv := (tv ((X_l x).getD i (0, 0)).1).resolve_left q
      have ec : (X_v x ((X_l x).getD i (0, 0)).1).toNatClampNeg = (X_v x ((X_l x).getD i (0, 0)).1).toInt.toNat := rfl
      have e4 : (400 * nI b : Int32).toInt = 400 * (b : Int) := by
        have : b = 0 ∨ b = 1 := by omega
        rcases this with rfl | rfl <;> decide
      have ea : (400 * nI b + X_v x ((X_l x).getD i (0, 0)).1).toInt = 400 * (b : Int) + (X_v x ((X_l x).getD i (0, 0)).1).toInt := by rw [ti_addx _ _ (by rw [e4]; omega), e4]
      have en : (400 * nI b + X_v x ((X_l x).getD i (0, 0)).1).toNatClampNeg = 400 * b + (X_v x ((X_l x).getD i (0, 0)).1).toNatClampNeg := by
        have e1 : (400 * nI b + X_v x ((X_l x).getD i (0, 0)).1).toNatClampNeg = (400 * nI b + X_v x ((X_l x).getD i (0, 0)).1).toInt.toNat := rfl
        rw [e1, ec, ea]; omega
      have r19 : F 19 (400 * nI b + X_v x ((X_l x).getD i (0, 0)).1).toNatClampNeg = X_r x (X_v x ((X_l x).getD i (0, 0)).1).toNatClampNeg := by
        rw [en, z2 19 (by decide)]
        exact p5 _ (Or.inl (by rw [ec]; show ((X_v x ((X_l x).getD i (0, 0)).1).toInt.toNat : Int) < (X_i x 1).toInt; omega))
      obtain ⟨v1, v2⟩ := w4
      rw [e27] at v1 v2 ⊢
      refine ⟨v1, fun v16 hv16 => ?_⟩
      obtain ⟨v3, v4, v5⟩ := v2 v16 hv16
      rw [r19] at hv16
      rw [r44] at v4 v5 ⊢
      refine ⟨v3, fun y => ⟨(v4 y).1, (v4 y).2.1, nxt M _ ⟨z1, fun j hj => ?_, fun u v => ?_⟩ (fun u v al => hJ i M F hil (all4_s.mp al).2 (hj0 u v (all4_s.mp al).1)) (v4 y).2.2⟩, fun y => g160 (fun _ _ o => y (hv16.trans o.2)) (v5 y)⟩
      · rw [uf_row (fun q => by rw [q] at hj; exact absurd hj (by decide))]; exact z2 j hj
      · exact ⟨fun o => all4_s.mpr ⟨(z3 u v).mp o, q, hv16.symm.trans y⟩, fun o => (z3 u v).mpr (all4_s.mp o).1⟩
end YT9
