/-! A TEXT READ: what both leave. -/
section YTc
/-- where both begin, the reference in bank b -/
def y_0 (b : Nat) : y_X := (false, 0, 0, fun _ => 0, false, false, fun _ => -1, fun _ => -1, fun _ => 0, [], fun _ => 0, fun _ _ => 0, fun j => if j = 3 then b else 0, fun _ _ => 0, fun _ _ => [], fun _ => (0, 0), [])
theorem y_0_I {E : x_E} {b : Nat} (hE : E_ok E) (hb : b ≤ 1) : t_IG E (y_0 b) := by
  refine ⟨x_0_I hE, fun _ => ?_⟩
  have l0 : (0 : Int32).toInt = 0 := by decide
  have l1 : (-1 : Int32).toInt = -1 := by decide
  have n0 : Y_n (y_0 b) = 9000 * b + 0 := rfl
  have nT : Y_T (y_0 b) = 400 * b + 0 := rfl
  have nV : Y_V (y_0 b) = 400 * b + 0 := rfl
  have nB : Y_B (y_0 b) = b := rfl
  refine ⟨⟨⟨⟨rfl, rfl⟩, True.intro, ⟨Nat.le_refl _, fun k h1 h2 => ?_, fun i hi => absurd hi (by show ¬ i < 0; omega)⟩, Nat.le_refl _, Nat.le_refl _, hb⟩, rfl⟩, fun w => ?_, ⟨⟨fun k h1 h2 => ?_, fun t h1 h2 => ?_, fun u h1 h2 => ?_⟩, fun _ => ⟨rfl, rfl, l0⟩, fun q => absurd rfl q⟩, fun h hh => ?_⟩
  · rw [nB] at h1
    rw [n0] at h2
    omega
  · show (-1 : Int32).toInt < (0 : Int32).toInt
    rw [l0, l1]; omega
  · rw [nB] at h1
    rw [n0] at h2
    omega
  · rw [nB] at h1
    rw [nT] at h2
    omega
  · rw [nB] at h1
    rw [nV] at h2
    omega
  · have hh : (h : Int) < (0 : Int32).toInt := hh
    rw [l0] at hh; omega
/-- what fin_cor asks of the end -/
def e_fin (y : y_X) : Prop := nf y → H_in y ∧ Y_z y ≤ 8000 ∧ (∀ p, p ∈ Y_l y → p.1 < 2005) ∧ (∀ w, Y_v y w = -1 ∨ (0 ≤ (Y_v y w).toInt ∧ (Y_v y w).toInt < (Y_i y 1).toInt)) ∧ (0 ≤ (Y_i y 1).toInt ∧ (Y_i y 1).toInt ≤ 16)
theorem e_fin_of {E : x_E} {y : y_X} (hE : E_ok E) (hI : t_IG E y) : e_fin y := fun n => by
  obtain ⟨⟨hx, hh, hT⟩, hH⟩ := hI
  obtain ⟨t0, tv', t16, th, tl⟩ := hT n.1
  obtain ⟨d1, d2, d3⟩ := hx n.1
  have d3 : (Y_z y : Int) ≤ 2 * (E_p E (Y_t y) : Int) + 0 := d3
  have h2 := E_pn hE (t := Y_t y) d1
  have hn := E_n4 hE
  have hL : E_L E ≤ 2005 := hE.1.2.2.2.2.1
  exact ⟨hH n, by omega, fun p hp => by have := tl p hp; omega, tv', th.1, t16 n.2.1 n.2.2⟩
/-- what the reference answers to a text, and leaves of it -/
def RDG (T : Nat → Int32) (n b : Nat) (r : Int32) (y : y_X) : Prop := ∀ (k : Nat) (M : Nat → Int32) (F : Nat → Nat → Int32) (Q : Int32 → (Nat → Int32) → (Nat → Nat → Int32) → Prop), (∀ i, i < n → F 0 i = T i) → 1 - M 27 = nI b → nI n ≤ M 1 → w_read (wf_blk k) (nI n) M F Q → w_read (wf_blk k) (nI n) M F (fun r' M' F' => Q r' M' F' ∧ r' = r ∧ (r = 0 → nf y ∧ all4 (yx y) (Y_l y).length ∧ finR b y M' F'))
theorem re_readG {E : x_E} (hE : E_ok E) {b : Nat} (hb1 : b ≤ 1) {x' : y_X} (hT : ∀ (n b' e : Nat) (M : Nat → Int32) (F : Nat → Nat → Int32) (Q Q' : (Nat → Int32) → (Nat → Nat → Int32) → Prop), rxoG E b' M F (y_0 b) → (∀ M' F', rxoG E b' M' F' x' → Q M' F' → Q' M' F') → w_text_0 (wf_blk n) Q e M F → w_text_0 (wf_blk n) Q' e M F) (hI : t_IG E x') (ht : x'.1 = false → Y_ty E x' = 135) {r : Int32} (ha : is_a (yx x') r) : RDG (E_T E) (E_n E) b r x' := by
  intro k M F Q hF hb2 hle w
  have hn := E_n4 hE
  refine ⟨fun q => absurd q (y_lt0 (by omega)), fun a => ⟨fun c => ?_, fun q => absurd hle q⟩⟩
  have w := (w.2 a).1 c
  have hX := hE.1
  have e0 : E_k E 0 = 0 := hX.1.1
  have f0 : E_f E 0 = [] := hX.1.2.1
  have w2 := z_adv0 (M := um (um (um (um (um (um (um (um (um (um (um (um (um (um (um M 2 (nI (E_n E))) 1 0) 27 (1 - (M 27))) 29 0) 30 0) 31 0) 32 0) 33 0) 46 0) 12 0) 36 (-1)) 37 (-1)) 38 (-1)) 39 (-1)) 3 0) (F := F) hX (t := 0) (k := 0) (tb := []) (Nat.zero_le _) e0.symm f0.symm ⟨rfl, hn.1, hF⟩ rfl ⟨rfl, by decide, fun w hw => absurd hw (by simp)⟩ (Q := fun M' F' => q_r (E_T E) (E_A E) (E_V E) (E_P E) (E_n E) (E_m E) (E_k E) (E_f E) M' F' 0 ∧ z_fr (um (um (um (um (um (um (um (um (um (um (um (um (um (um (um M 2 (nI (E_n E))) 1 0) 27 (1 - (M 27))) 29 0) 30 0) 31 0) 32 0) 33 0) 46 0) 12 0) 36 (-1)) 37 (-1)) 38 (-1)) 39 (-1)) 3 0) M' F F' (E_f E 0)) (fun M' F' p q => ⟨p, q⟩)
  refine cj_next w w2 (fun M1 F1 w1 z => ?_)
  obtain ⟨q1, z2, z3, z4, z5⟩ := z
  rw [f0] at z4 z5
  have em : ∀ j, j ≠ 3 → j ≠ 4 → j ≠ 5 → j ≠ 6 → j ≠ 12 → M1 j = um (um (um (um (um (um (um (um (um (um (um (um (um (um (um M 2 (nI (E_n E))) 1 0) 27 (1 - (M 27))) 29 0) 30 0) 31 0) 32 0) 33 0) 46 0) 12 0) 36 (-1)) 37 (-1)) 38 (-1)) 39 (-1)) 3 0 j := z2
  have l0 : (0 : Int32).toInt = 0 := by decide
  have hr0 : rxx E (b, false) M1 F1 (X_si 3 (M1 35) (X_si 2 (M1 34) x_0)) := by
    refine rx_g ⟨⟨q1, Nat.zero_le _⟩, ⟨?_, ?_, ?_, fun _ => ?_⟩, ⟨⟨?_, ?_, ?_⟩, ?_, fun _ _ => ⟨rfl, rfl⟩⟩, ⟨fun v hv => ?_, fun _ _ => ⟨rfl, rfl⟩⟩, ⟨?_, fun i hi => absurd hi (by show ¬ i < 0; omega)⟩, ⟨⟨?_, hb1, ?_, ?_⟩, fun j hj => ?_⟩⟩ rfl
    · exact em 36 (by decide) (by decide) (by decide) (by decide) (by decide)
    · exact em 39 (by decide) (by decide) (by decide) (by decide) (by decide)
    · exact ⟨fun _ => rfl, fun _ => em 37 (by decide) (by decide) (by decide) (by decide) (by decide)⟩
    · exact ⟨fun _ => rfl, fun _ => em 38 (by decide) (by decide) (by decide) (by decide) (by decide)⟩
    · exact em 33 (by decide) (by decide) (by decide) (by decide) (by decide)
    · show 0 ≤ (0 : Int32).toInt; decide
    · show (0 : Int32).toInt ≤ 20; decide
    · exact em 30 (by decide) (by decide) (by decide) (by decide) (by decide)
    · -- at most the first word: a new row
      have hv : v < E_l E 0 := hv
      have lv : v = 0 ∧ ¬ M1 12 = 0 := by
        unfold E_l at hv
        by_cases q : 0 < E_m E
        · rw [if_pos q] at hv
          rcases x_step_len (hX.1.2.2 0 q).2.2.1 with y | y
          · rw [show E_f E (0 + 1) = E_f E 0 from y, f0] at hv; exact absurd hv (by simp)
          · have y' : E_f E (0 + 1) = E_f E 0 ++ _ := y
            have hlen : (E_f E (0 + 1)).length = 1 := by rw [y', f0]; rfl
            rw [hlen] at hv
            refine ⟨by omega, ?_⟩
            rcases q1.2.2 with ⟨-, -, -, u⟩ | ⟨u, -⟩
            · rw [u.1, hlen]; decide
            · omega
        · have qm : E_m E = 0 := by omega
          rw [if_neg q, qm, f0] at hv; exact absurd hv (by simp)
      obtain ⟨rfl, hne⟩ := lv
      rcases z5 with ⟨-, y⟩ | y
      · exact absurd y hne
      · exact y
    · exact em 46 (by decide) (by decide) (by decide) (by decide) (by decide)
    · exact (em 27 (by decide) (by decide) (by decide) (by decide) (by decide)).trans hb2
    · show 0 ≤ (0 : Int32).toInt; decide
    · show (0 : Int32).toInt ≤ ((0 : Nat) : Int); decide
    · rcases hj with hj | ⟨hj, -⟩
      · have hj : (j : Int) < (0 : Int32).toInt := hj
        rw [l0] at hj; omega
      · exact absurd hj (by show ¬ false = true; decide)
  have hr : rxoG E b M1 F1 (y_0 b) := by
    refine ⟨M1 34, M1 35, hr0, fun _ => ⟨rfl, ⟨?_, ?_, ?_⟩, ⟨?_, ?_, ?_⟩, fun r i x1 x2 x3 x4 => ?_, fun r i x1 x2 x3 x4 => ?_, fun r i x1 x2 x3 x4 => ?_, fun j hj => ?_, fun w hw => ?_, fun i hi => ?_⟩⟩
    · exact em 29 (by decide) (by decide) (by decide) (by decide) (by decide)
    · exact em 31 (by decide) (by decide) (by decide) (by decide) (by decide)
    · exact em 32 (by decide) (by decide) (by decide) (by decide) (by decide)
    · show 9000 * b + 0 ≤ 18000; omega
    · show 400 * b + 0 ≤ 800; omega
    · show 400 * b + 0 ≤ 100000; omega
    · have x3 : 9000 * b ≤ i := x3
      have x4 : i < 9000 * b + 0 := x4
      omega
    · have x3 : 400 * b ≤ i := x3
      have x4 : i < 400 * b + 0 := x4
      omega
    · have x3 : 400 * b ≤ i := x3
      have x4 : i < 400 * b + 0 := x4
      omega
    · rcases hj with hj | ⟨hj, -⟩
      · have hj : (j : Int) < (0 : Int32).toInt := hj
        rw [l0] at hj; omega
      · exact absurd hj (by show ¬ false = true; decide)
    · have hw : (-1 : Int32) = 0 := hw
      exact absurd hw (by decide)
    · exact absurd hi (by show ¬ i < 0; omega)
  obtain ⟨e, w1⟩ := w1
  refine ⟨e, hT k b e M1 F1 _ _ hr (fun M2 F2 r2 w2' => ?_) w1⟩
  obtain ⟨e', w2'⟩ := w2'
  exact ⟨e', re_findG hE r2 hI.1 ht (fun r' M' F' ha' hz w' => ⟨w', is_a_u ha' ha, fun q => hz ((is_a_u ha' ha).trans q)⟩) w2'⟩
theorem c_rtG {E : x_E} (hE : E_ok E) {b : Nat} (hb1 : b ≤ 1) {s : f_S3} {O : Nat × Nat} (hA : q_A s (E_A E) (E_V E) (E_P E) (E_m E)) (h11 : s.1 11 = 0) (h12 : ¬ s.1 12 = 137) (h8 : s.1 8 = 0) (h9 : s.1 9 = 0) (h10 : s.1 10 = 0) (h63 : s.1 63 = 0) (h64 : s.1 64 = 0) (r23 : ∀ i, s.2.1 23 i = -1) (r25 : ∀ i, s.2.1 25 i = -1) (r28 : ∀ i, s.2.1 28 i = -1) {Q : f_S3 → Nat × Nat → Prop} (hQ : ∀ s' y', c_fin (E_N E) s' (yx y') → finC s' y' → e_fin y' → (∀ r, is_a (yx y') r → RDG (E_T E) (E_n E) b r y') → Q s' O) : wF_X7_advance (E_N E) s O (fun M2 O2 => (∃ e13, wF_X7_readText_13 (E_N E) (cb (E_N E) 22) Q e13 0 M2 O2)) := by
  obtain ⟨N1, N2, N3, -⟩ := hE.2.2.1
  have hn := E_n4 hE
  obtain ⟨a1, a2⟩ := hA
  obtain ⟨b1, b2, b3⟩ := a2 0 (Nat.zero_le _)
  have l0 : (0 : Int32).toInt = 0 := by decide
  have z0 : (0 : Int32) = nI 0 := by decide
  have c0 : (0 : Int32).toNatClampNeg = 0 := by decide
  unfold wF_X7_advance
  rw [h11, a1, c0, b1, b2, b3, N1, N2, N3]
  refine ⟨fun q => absurd q h12, fun _ => ⟨fun q => ?_, fun _ => ⟨by rw [z0]; exact y_in (by omega) (by omega), by rw [z0]; exact y_in (by omega) (by omega), by rw [z0]; exact y_in (by omega) (by omega), ?_⟩⟩⟩
  · rw [z0, y_le (by omega) (by omega)] at q; omega
  · obtain ⟨x', a, bb, hI', ht'⟩ := txt_LG hE (E_m E + 1) (y_0 b) (y_0_I hE hb1) (fun _ => by show E_m E < 0 + (E_m E + 1); omega)
    refine ⟨E_m E + 2, a 0 (E_m E + 2) _ O Q jaG_0 (by omega) ⟨⟨fun q => absurd q (by show ¬ false = true; decide), fun _ => ?_⟩, fun _ => ?_⟩ (fun s3 h3 => c_findG hE h3 hI'.1 (fun s4 h4 h5 => hQ s4 x' h4 h5 (e_fin_of hE hI') (fun r ha => re_readG hE hb1 bb hI' ht' ha)))⟩
    have hZ := hE.2.2.2.2
    refine ⟨⟨⟨a1, a2⟩, ⟨?_, rfl, rfl, rfl⟩, Nat.zero_le _⟩, ⟨r28 1, r28 4, ⟨fun _ => ⟨rfl, rfl⟩, fun _ => r28 2⟩, fun _ => ⟨fun _ => ⟨rfl, rfl⟩, fun _ => r28 3⟩⟩, ⟨h64, fun _ _ => ⟨⟨?_, h10⟩, ⟨?_, ?_⟩, ?_, ?_⟩⟩, fun w hw => ⟨r23 _, r25 _⟩, ⟨?_, Nat.zero_le _, fun q hq => absurd hq (by intro y; cases y)⟩, ⟨⟨?_, by show 0 < 1000000; omega, fun i j _ hj => absurd hj (by show ¬ j < 0; omega), fun i hi => absurd hi (by show ¬ i < 0; omega)⟩, fun i hi => absurd hi (by show ¬ i < 0; omega)⟩, ⟨⟨?_, ?_⟩, fun j hj _ => ?_⟩⟩
    · show (0 : Int32) + 1 = nI (0 + 1); decide
    · show s.1 9 = 0 + 0
      rw [h9]; decide
    · show 0 ≤ (0 : Int32).toInt; decide
    · show (0 : Int32).toInt ≤ 12; decide
    · show 0 ≤ (0 : Int32).toInt; decide
    · show (0 : Int32).toInt ≤ 8; decide
    · show s.1 63 = nI 0
      rw [h63]; decide
    · show s.1 8 = nI 0
      rw [h8]; decide
    · show 0 ≤ (0 : Int32).toInt; decide
    · show (0 : Int32).toInt ≤ ((0 : Nat) : Int); decide
    · have hj : (j : Int) < (0 : Int32).toInt := hj
      rw [l0] at hj; omega
    · refine ⟨fun p hp => absurd hp (by show ¬ p < 0; omega), fun w _ hw => ?_, fun j hj _ => ?_, fun i hi => absurd hi (by show ¬ i < 0; omega)⟩
      · have hw : (-1 : Int32) = 0 := hw
        exact absurd hw (by decide)
      · have hj : (j : Int) < (0 : Int32).toInt := hj
        rw [l0] at hj; omega
theorem c_readTextG {N : Nat → Nat} {b : Nat} (hb1 : b ≤ 1) {T : Nat → Int32} {n : Nat} {s : f_S3} {O : Nat × Nat} (hc : y_T N s T n) (hT : ∀ i, 0 ≤ (T i).toInt ∧ (T i).toInt ≤ 255) (hN : y_N N n) (hB : bd_N N) (hZ : E_Z N n) (hL : y_L N s []) (h26 : s.1 26 = 0) (h11 : s.1 11 = 0) (h12 : ¬ s.1 12 = 137) (h8 : s.1 8 = 0) (h9 : s.1 9 = 0) (h10 : s.1 10 = 0) (h63 : s.1 63 = 0) (h64 : s.1 64 = 0) (r23 : ∀ i, s.2.1 23 i = -1) (r25 : ∀ i, s.2.1 25 i = -1) (r28 : ∀ i, s.2.1 28 i = -1) {Q : f_S3 → Nat × Nat → Prop} (hQ : ∀ s' y', c_fin N s' (yx y') → finC s' y' → e_fin y' → (∀ r, is_a (yx y') r → RDG T n b r y') → Q s' O) : wF_X7_readText N (cb N 22) s O Q := by
  refine y_split hc hT hN hL h26 (fun s1 h1 => ?_)
  obtain ⟨m, k, tb', htr, hk, hmk, hsk, htl, htb, h26', h135, hP, hf1, hf2⟩ := h1
  obtain ⟨kf, tf, ek, et, htrf⟩ := x_tr_fun htr
  have hE : E_ok (T, s1.2.1 11, s1.2.1 12, s1.2.1 13, n, m, kf, tf, N) := by
    have hn4 := hc.2.1
    have hX : q_TX T (s1.2.1 11) (s1.2.1 12) (s1.2.1 13) n m kf tf := ⟨htrf, by rw [ek]; exact hsk, hn4, by omega, by rw [et]; omega, h135, hP⟩
    refine ⟨hX, ?_, hN, hB, hZ⟩
    show 2 * (tf m).length ≤ n + 1
    rw [et]; omega
  exact c_rtG hE hb1 ⟨h26', fun i _ => ⟨rfl, rfl, rfl⟩⟩ ((hf1 11 (by decide) (by decide)).trans h11) (by rw [hf1 12 (by decide) (by decide)]; exact h12) ((hf1 8 (by decide) (by decide)).trans h8) ((hf1 9 (by decide) (by decide)).trans h9) ((hf1 10 (by decide) (by decide)).trans h10) ((hf1 63 (by decide) (by decide)).trans h63) ((hf1 64 (by decide) (by decide)).trans h64) (fun i => (hf2 23 i (by decide) (by decide) (by decide) (by decide) (by decide)).trans (r23 i)) (fun i => (hf2 25 i (by decide) (by decide) (by decide) (by decide) (by decide)).trans (r25 i)) (fun i => (hf2 28 i (by decide) (by decide) (by decide) (by decide) (by decide)).trans (r28 i)) hQ
end YTc
