section LX9
variable {N : Nat → Nat} {s : f_S3} {T : Nat → Int32} {n : Nat} {O : Nat × Nat}
/-- what the class keeps while it splits: s0 the state before -/
def y_fr (s0 s : f_S3) : Prop := (∀ j, j ≠ 26 → j ≠ 33 → s.1 j = s0.1 j) ∧ ∀ c i, c ≠ 11 → c ≠ 12 → c ≠ 13 → c ≠ 15 → c ≠ 16 → s.2.1 c i = s0.2.1 c i
theorem y_fr_ext {s0 s s' : f_S3} {m k : Nat} {ty v : Int32} (h : y_fr s0 s) (he : y_ext s s' m ty v k) : y_fr s0 s' := ⟨fun j a b => by rw [he.2.1 j a b, h.1 j a b], fun c i a b d e f => by rw [he.2.2.2.2.2 c i a b d e f, h.2 c i a b d e f]⟩
theorem y_T_fr {s0 s : f_S3} (h : y_fr s0 s) (hc : y_T N s0 T n) : y_T N s T n := ⟨by rw [h.1 21 (by decide) (by decide)]; exact hc.1, hc.2.1, hc.2.2.1, fun i hi => by rw [h.2 10 i (by decide) (by decide) (by decide) (by decide) (by decide)]; exact hc.2.2.2 i hi⟩
/-- rows that are long enough for a text of n bytes -/
def y_N (N : Nat → Nat) (n : Nat) : Prop := N 11 = n + 1 ∧ N 12 = n + 1 ∧ N 13 = n + 1 ∧ N 14 = 34 + n / 2
def y_sp (T : Nat → Int32) (n : Nat) (s0 s : f_S3) : Prop := ∃ (m k : Nat) (tb : List (Nat × Nat)), x_tr T n (s.2.1 11) (s.2.1 12) (s.2.1 13) m k tb ∧ k ≤ n ∧ m ≤ k ∧ x_sk T n n k = n ∧ 2 * tb.length ≤ k + 1 ∧ x_tb T tb ∧ s.1 26 = nI (m + 1) ∧ s.2.1 11 m = 135 ∧ s.2.1 13 m = nI n ∧ y_fr s0 s
theorem x_tr_ext {s s' : f_S3} {m k b k' : Nat} {ty v : Int32} {tb tb' : List (Nat × Nat)} (h : x_tr T n (s.2.1 11) (s.2.1 12) (s.2.1 13) m k tb) (hk : k ≤ n) (hb : b = x_sk T n n k) (hbn : b < n) (hs : x_step T n tb b ty v k' tb') (he : y_ext s s' m ty v b) : x_tr T n (s'.2.1 11) (s'.2.1 12) (s'.2.1 13) (m + 1) k' tb' := by
  subst hb
  refine ⟨k, tb, x_tr_cg (fun i hi => ?_) h, hk, hbn, ?_, ?_⟩
  · rw [he.2.2.1 i, he.2.2.2.1 i, he.2.2.2.2.1 i, if_neg (by omega), if_neg (by omega), if_neg (by omega)]
    exact ⟨rfl, rfl, rfl⟩
  · rw [he.2.2.1 m, he.2.2.2.1 m, if_pos rfl, if_pos rfl]; exact hs
  · rw [he.2.2.2.2.1 m, if_pos rfl]
theorem y_split {s0 : f_S3} (hc0 : y_T N s0 T n) (hT : ∀ i, 0 ≤ (T i).toInt ∧ (T i).toInt ≤ 255) (hN : y_N N n) (hL0 : y_L N s0 []) (h26 : s0.1 26 = 0) {Q : f_S3 → Nat × Nat → Prop} (hQ : ∀ s : f_S3, y_sp T n s0 s → Q s O) : wF_X10_split N s0 O Q := by
  obtain ⟨N1, N2, N3, N4⟩ := hN
  have hn := hc0.2.1
  have fin : ∀ (s : f_S3) (m k : Nat) (tb : List (Nat × Nat)), y_fr s0 s → s.1 26 = nI m → x_tr T n (s.2.1 11) (s.2.1 12) (s.2.1 13) m k tb → k ≤ n → m ≤ k → x_sk T n n k = n → 2 * tb.length ≤ k + 1 → x_tb T tb → wF_X10_split_92 N Q s O := by
    intro s m k tb hfr hm htr hk hmk hsk htl htb
    have hc := y_T_fr hfr hc0
    unfold wF_X10_split_92
    rw [hc.1]
    have he := y_ext_tk (s := s) (m := m) (ty := 135) (v := 0) (k := n) (by omega)
    refine y_put hm (by omega) (by omega) (by omega) (by omega) (hQ _ ⟨m, k, tb, x_tr_cg (fun i hi => ?_) htr, hk, hmk, hsk, htl, htb, he.1, by rw [he.2.2.1 m, if_pos rfl], by rw [he.2.2.2.2.1 m, if_pos rfl], y_fr_ext hfr he⟩)
    rw [he.2.2.1 i, he.2.2.2.1 i, he.2.2.2.2.1 i, if_neg (by omega), if_neg (by omega), if_neg (by omega)]
    exact ⟨rfl, rfl, rfl⟩
  have skn : x_sk T n n n = n := by have := x_sk_le T n n n (Nat.le_refl _); omega
  have key : ∀ (f k i m : Nat) (tb : List (Nat × Nat)) (s : f_S3), n ≤ k + f → k ≤ n → i ≤ k → m ≤ k → y_fr s0 s → y_L N s (x_K T tb) → x_tb T tb → s.1 26 = nI m → x_tr T n (s.2.1 11) (s.2.1 12) (s.2.1 13) m k tb → 2 * tb.length ≤ k + 1 → (k < n → x_wd (T k) = true → 2 * tb.length ≤ k) → wF_X10_split_11 N Q (f + 1) (nI k) (nI i) s O := by
    intro f
    induction f with
    | zero =>
      intro k i m tb s hf hk hik hmk hfr hL htb hm htr htl htw
      have hkn : k = n := by omega
      subst hkn
      have hc := y_T_fr hfr hc0
      have := fin s m k tb hfr hm htr hk hmk skn htl htb
      refine ⟨fun _ => this, fun _ => ⟨fun _ => this, fun h => absurd ?_ h⟩⟩
      rw [hc.1]; exact (y_le (by omega) (by omega)).mpr (Nat.le_refl _)
    | succ f ih =>
      intro k i m tb s hf hk hik hmk hfr hL htb hm htr htl htw
      have hc := y_T_fr hfr hc0
      by_cases hkn : k = n
      · subst hkn
        have := fin s m k tb hfr hm htr hk hmk skn htl htb
        refine ⟨fun _ => this, fun _ => ⟨fun _ => this, fun h => absurd ?_ h⟩⟩
        rw [hc.1]; exact (y_le (by omega) (by omega)).mpr (Nat.le_refl _)
      have hk' : k < n := by omega
      refine ⟨fun h => ?_, fun _ => ⟨fun h => ?_, fun _ => ?_⟩⟩
      · rw [hc.1, y_le (by omega) (by omega)] at h; omega
      · rw [hc.1, y_le (by omega) (by omega)] at h; omega
      refine y_behindBlanks hc hk ?_
      have hb := x_sk_le T n n k hk
      have hbl := x_sk_out T n n k hk (by omega)
      generalize hbe : x_sk T n n k = b at hb hbl ⊢
      refine y_byteAt hc (by omega) ?_
      have e1 : (0 : Int32).toInt = 0 := by decide
      by_cases hbn : b = n
      · -- nothing but blanks
        rw [show x_at T n b = 0 from if_neg (by omega)]
        refine y_isDigit (fun h => absurd h (by decide)) (fun _ => ⟨fun _ => ?_, fun q => absurd rfl q⟩)
        refine y_isLetter (fun h => absurd h (by decide)) (fun _ => ⟨fun _ => ⟨fun _ => ?_, fun h => absurd ?_ h⟩, fun q => absurd rfl q⟩)
        · show wF_X10_split_11 N Q (f + 1) (nI b) (nI i + 1) s O
          rw [y_1, hbn]
          have hend : wF_X10_split_92 N Q s O := fin s m k tb hfr hm htr hk hmk (by omega) htl htb
          refine ⟨fun _ => hend, fun _ => ⟨fun _ => hend, fun h => absurd ?_ h⟩⟩
          rw [hc.1]; exact (y_le (by omega) (by omega)).mpr (Nat.le_refl _)
        · rw [hc.1]; exact (y_le (by omega) (by omega)).mpr (by omega)
      have hbn' : b < n := by omega
      rw [show x_at T n b = T b from if_pos hbn']
      have hbw : x_wd (T b) = true → 2 * tb.length ≤ b := fun hw => by
        by_cases q : b = k
        · rw [q] at hw ⊢; exact htw hk' hw
        · omega
      -- the next round, behind a token
      have next : ∀ (s' : f_S3) (e : Nat) (ty v : Int32) (tb' : List (Nat × Nat)), x_step T n tb b ty v e tb' → y_ext s s' m ty v b → y_L N s' (x_K T tb') → x_tb T tb' → 2 * tb'.length ≤ e + 1 → (e < n → x_wd (T e) = true → 2 * tb'.length ≤ e) → wF_X10_split_11 N Q (f + 1) (nI e) (nI (i + 1)) s' O := by
        intro s' e ty v tb' hst hex hL' htb' htl' htw'
        have he := x_step_e hbn' hst
        exact ih e (i + 1) (m + 1) tb' s' (by omega) (by omega) (by omega) (by omega) (y_fr_ext hfr hex) hL' htb' hex.1 (x_tr_ext htr hk hbe.symm hbn' hst hex) htl' htw'
      have hwe := x_we_le T n n b (by omega)
      have hwo := x_we_out T n n b (by omega) (by omega)
      refine y_isDigit (fun hd => ⟨fun q => absurd q (by decide), fun _ => ?_⟩) (fun hd => ⟨fun _ => ?_, fun q => absurd rfl q⟩)
      · refine y_putNumber hc hbn' hd hm (by omega) (by omega) (by omega) (by omega) (fun ty v hty => ?_)
        show wF_X10_split_11 N Q (f + 1) (nI (x_we T n n b)) (nI i + 1) _ O
        rw [y_1]
        have h1 := x_we_1 T hbn' (show x_wd (T b) = true by unfold x_wd; rw [hd]; exact Bool.or_true _)
        refine next _ _ ty v tb (Or.inl ⟨hd, rfl, rfl, hty⟩) (y_ext_tk (by omega)) (y_L_tk hL) htb (by omega) (fun q1 q2 => ?_)
        rw [hwo q1] at q2; exact absurd q2 (by decide)
      have hd' : x_dg (T b) = false := Bool.eq_false_iff.mpr hd
      refine y_isLetter (fun hl => ⟨fun q => absurd q (by decide), fun _ => ?_⟩) (fun hl => ⟨fun _ => ⟨fun h => ?_, fun _ => ?_⟩, fun q => absurd rfl q⟩)
      · have hw : x_wd (T b) = true := by unfold x_wd; rw [hl]; rfl
        have h1 := x_we_1 T hbn' hw
        have h2 := hbw hw
        refine y_putWord hc hL htb hbn' hl hm (by omega) (by omega) (by omega) (by omega) (by omega) (fun ty v tb' s' hx hL' hex => ?_)
        show wF_X10_split_11 N Q (f + 1) (nI (x_we T n n b)) (nI i + 1) s' O
        rw [y_1]
        have hws : x_ws T b (x_we T n n b - b) := fun j hj => x_we_in T n n b _ (by omega) (by omega)
        have ht2 : x_tb T tb' ∧ tb'.length ≤ tb.length + 1 := by
          rcases hx with ⟨-, -, rfl⟩ | ⟨he, hx⟩
          · exact ⟨htb, by omega⟩
          · exact x_tb_word htb hws he hx
        refine next s' _ ty v tb' (Or.inr (Or.inl ⟨hl, hd', rfl, hx⟩)) hex hL' ht2.1 (by have := ht2.2; omega) (fun q1 q2 => ?_)
        rw [hwo q1] at q2; exact absurd q2 (by decide)
      · rw [hc.1, y_le (by omega) (by omega)] at h; omega
      · refine y_putSign hc hT hbn' hm (by omega) (by omega) (by omega) (by omega) (fun ty e hx => ?_)
        show wF_X10_split_11 N Q (f + 1) (nI e) (nI i + 1) _ O
        rw [y_1]
        have hw : x_wd (T b) = false := by unfold x_wd; rw [Bool.eq_false_iff.mpr hl, hd']; rfl
        have hst : x_step T n tb b ty 0 e tb := Or.inr (Or.inr ⟨hw, rfl, hx⟩)
        have he := x_step_e hbn' hst
        exact next _ e ty 0 tb hst (y_ext_tk (by omega)) (y_L_tk hL) htb (by omega) (fun _ _ => by omega)
  refine y_learn hL0 (by omega) (fun s' hL' g1 g2 => ⟨n + 1, ?_⟩)
  have hK : x_K T [] = x_K0 33 := by simp [x_K]
  exact key n 0 0 0 [] s' (by omega) (by omega) (by omega) (by omega) ⟨fun j _ h => g1 j h, fun c i _ _ _ h h' => g2 c i h h'⟩ (by rw [hK]; exact hL') ⟨fun w hw => absurd hw (Nat.not_lt_zero _), fun w w' hw => absurd hw (Nat.not_lt_zero _)⟩ (by rw [g1 26 (by decide)]; exact h26) ⟨rfl, rfl⟩ (by show 2 * 0 ≤ 0 + 1; omega) (fun _ _ => by show 2 * 0 ≤ 0; omega)
end LX9
