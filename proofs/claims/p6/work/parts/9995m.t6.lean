/-! THE CLASS'S READER ON A TEXT: what it leaves, against what the reference answers. -/
section XT6
theorem c_rt {E : x_E} (hE : E_ok E) {s : f_S3} {O : Nat × Nat} (hA : q_A s (E_A E) (E_V E) (E_P E) (E_m E)) (h11 : s.1 11 = 0) (h12 : ¬ s.1 12 = 137) (h8 : s.1 8 = 0) (h9 : s.1 9 = 0) (h10 : s.1 10 = 0) (h63 : s.1 63 = 0) (h64 : s.1 64 = 0) (r23 : ∀ i, s.2.1 23 i = -1) (r25 : ∀ i, s.2.1 25 i = -1) (r28 : ∀ i, s.2.1 28 i = -1) {Q : f_S3 → Nat × Nat → Prop} (hQ : ∀ s' x', c_fin (E_N E) s' x' → (∀ r, is_a x' r → RD (E_T E) (E_n E) r) → Q s' O) : wF_X7_advance (E_N E) s O (fun M2 O2 => (∃ e13, wF_X7_readText_13 (E_N E) (cb (E_N E) 22) Q e13 0 M2 O2)) := by
  obtain ⟨N1, N2, N3, -⟩ := hE.2.2.1
  have hn := E_n4 hE
  obtain ⟨a1, a2⟩ := hA
  obtain ⟨b1, b2, b3⟩ := a2 0 (Nat.zero_le _)
  have l0 : (0 : Int32).toInt = 0 := by decide
  have z0 : (0 : Int32) = nI 0 := by decide
  have c0 : (0 : Int32).toNatClampNeg = 0 := by decide
  unfold wF_X7_advance
  rw [h11, a1, c0, b1, b2, b3, N1, N2, N3]
  refine ⟨fun q => absurd q h12, fun _ => ⟨fun q => ?_, fun _ => ⟨by rw [z0]; exact y_in (by omega) (by omega), by rw [z0]; exact y_in (by omega) (by omega), by rw [z0]; exact y_in (by omega) (by omega), ?_⟩⟩⟩
  · rw [z0, y_le (by omega) (by omega)] at q; omega
  · obtain ⟨x', a, b, hI', ht'⟩ := txt_L hE (E_no_ok hE) (E_m E + 1) x_0 (x_0_I hE) (fun _ => by show E_m E < 0 + (E_m E + 1); omega)
    refine ⟨E_m E + 2, a 0 (E_m E + 2) _ O Q ja_0 (by omega) ⟨fun q => absurd q (by show ¬ false = true; decide), fun _ => ?_⟩ (fun s3 h3 => c_find hE h3 hI' (fun s4 h4 => hQ s4 x' h4 (fun r ha => re_read hE b hI' ht' ha)))⟩
    have hZ := hE.2.2.2.2
    refine ⟨⟨⟨a1, a2⟩, ⟨?_, rfl, rfl, rfl⟩, Nat.zero_le _⟩, ⟨r28 1, r28 4, ⟨fun _ => ⟨rfl, rfl⟩, fun _ => r28 2⟩, fun _ => ⟨fun _ => ⟨rfl, rfl⟩, fun _ => r28 3⟩⟩, ⟨h64, fun _ _ => ⟨⟨?_, h10⟩, ⟨?_, ?_⟩, ?_, ?_⟩⟩, fun w hw => ⟨r23 _, r25 _⟩, ⟨?_, Nat.zero_le _, fun q hq => absurd hq (by intro y; cases y)⟩, ⟨⟨?_, by show 0 < 1000000; omega, fun i j _ hj => absurd hj (by show ¬ j < 0; omega), fun i hi => absurd hi (by show ¬ i < 0; omega)⟩, fun i hi => absurd hi (by show ¬ i < 0; omega)⟩, ⟨⟨?_, ?_⟩, fun j hj _ => ?_⟩⟩
    · show (0 : Int32) + 1 = nI (0 + 1); decide
    · show s.1 9 = 0 + 0
      rw [h9]; decide
    · show 0 ≤ (0 : Int32).toInt; decide
    · show (0 : Int32).toInt ≤ 12; decide
    · show 0 ≤ (0 : Int32).toInt; decide
    · show (0 : Int32).toInt ≤ 8; decide
    · show s.1 63 = nI 0
      rw [h63]; decide
    · show s.1 8 = nI 0
      rw [h8]; decide
    · show 0 ≤ (0 : Int32).toInt; decide
    · show (0 : Int32).toInt ≤ ((0 : Nat) : Int); decide
    · have hj : (j : Int) < (0 : Int32).toInt := hj
      rw [l0] at hj; omega
theorem c_readText {N : Nat → Nat} {T : Nat → Int32} {n : Nat} {s : f_S3} {O : Nat × Nat} (hc : y_T N s T n) (hT : ∀ i, 0 ≤ (T i).toInt ∧ (T i).toInt ≤ 255) (hN : y_N N n) (hB : bd_N N) (hZ : E_Z N n) (hL : y_L N s []) (h26 : s.1 26 = 0) (h11 : s.1 11 = 0) (h12 : ¬ s.1 12 = 137) (h8 : s.1 8 = 0) (h9 : s.1 9 = 0) (h10 : s.1 10 = 0) (h63 : s.1 63 = 0) (h64 : s.1 64 = 0) (r23 : ∀ i, s.2.1 23 i = -1) (r25 : ∀ i, s.2.1 25 i = -1) (r28 : ∀ i, s.2.1 28 i = -1) {Q : f_S3 → Nat × Nat → Prop} (hQ : ∀ s' x', c_fin N s' x' → (∀ r, is_a x' r → RD T n r) → Q s' O) : wF_X7_readText N (cb N 22) s O Q := by
  refine y_split hc hT hN hL h26 (fun s1 h1 => ?_)
  obtain ⟨m, k, tb', htr, hk, hmk, hsk, htl, htb, h26', h135, hP, hf1, hf2⟩ := h1
  obtain ⟨kf, tf, ek, et, htrf⟩ := x_tr_fun htr
  have hE : E_ok (T, s1.2.1 11, s1.2.1 12, s1.2.1 13, n, m, kf, tf, N) := by
    have hn4 := hc.2.1
    have hX : q_TX T (s1.2.1 11) (s1.2.1 12) (s1.2.1 13) n m kf tf := ⟨htrf, by rw [ek]; exact hsk, hn4, by omega, by rw [et]; omega, h135, hP⟩
    refine ⟨hX, ?_, hN, hB, hZ⟩
    show 2 * (tf m).length ≤ n + 1
    rw [et]; omega
  exact c_rt hE ⟨h26', fun i _ => ⟨rfl, rfl, rfl⟩⟩ ((hf1 11 (by decide) (by decide)).trans h11) (by rw [hf1 12 (by decide) (by decide)]; exact h12) ((hf1 8 (by decide) (by decide)).trans h8) ((hf1 9 (by decide) (by decide)).trans h9) ((hf1 10 (by decide) (by decide)).trans h10) ((hf1 63 (by decide) (by decide)).trans h63) ((hf1 64 (by decide) (by decide)).trans h64) (fun i => (hf2 23 i (by decide) (by decide) (by decide) (by decide) (by decide)).trans (r23 i)) (fun i => (hf2 25 i (by decide) (by decide) (by decide) (by decide) (by decide)).trans (r25 i)) (fun i => (hf2 28 i (by decide) (by decide) (by decide) (by decide) (by decide)).trans (r28 i)) hQ
theorem so_cff {l : Launch} {g : b_S} (hg : g.1 = tb_R) : ∀ (d : Nat) (p0 : Int32) (M : f_S3) (O : Nat × Nat) (Q : f_S3 → Nat × Nat → Prop), cff (b_N g) d p0 M O Q → f_MetV l g yX7_factor cX7_factor 5 (6 * d) [.ref (b_o g 0), .int p0] M O Q := by
  intro d
  induction d with
  | zero => intro p0 M O Q h; exact absurd h (fun h => h)
  | succ d ih => intro p0 M O Q h; exact soF_X7_factor hg ih p0 M O Q h
theorem so_cb {l : Launch} {g : b_S} (hg : g.1 = tb_R) : ∀ (d : Nat) (p0 : Int32) (M : f_S3) (O : Nat × Nat) (Q : f_S3 → Nat × Nat → Prop), cb (b_N g) d p0 M O Q → f_MetV l g yX7_block cX7_block 3 (6 * 22 + 60 + 5 * d) [.ref (b_o g 0), .int p0] M O Q := by
  intro d
  induction d with
  | zero => intro p0 M O Q h; exact absurd h (fun h => h)
  | succ d ih => intro p0 M O Q h; exact soF_X7_block hg (so_cff hg 22) ih (by omega) p0 M O Q h
end XT6
