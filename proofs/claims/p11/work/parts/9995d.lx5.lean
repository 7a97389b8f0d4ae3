section LX5
theorem x_q1 : ∀ i, i < 178 → x_T0 i = 32 → (x_ln i).1 = x_qk (x_ln i).2 ∧ (x_ln i).2 < 33 := by decide +kernel
theorem x_q2 : ∀ i, i < 178 → ¬ x_T0 i = 32 → (x_ln i).1 < 2 ^ 54 ∧ x_wd (x_T0 i) = true := by decide +kernel
theorem x_q3 : x_ln 178 = (0, 33) := by decide +kernel
theorem x_q4 : ∀ p, p < 33 → ∀ q, q < 33 → x_qk p = x_qk q → p = q := by decide +kernel
theorem x_q5 : ∀ p, p < 33 → x_qk p < 2 ^ 60 ∧ x_ql.getD p 0 ≤ 10 := by decide +kernel
theorem x_q6 : ∀ p, p < 33 → ∀ i, i < x_ql.getD p 0 → x_wd (x_T0 (x_qs.getD p 0 + i)) = true := by decide +kernel
def x_K0 (m : Nat) : List Int64 := (List.range m).map (fun q => Int64.ofNat (x_qk q))
theorem x_K0_len (m : Nat) : (x_K0 m).length = m := by simp [x_K0]
theorem x_K0_at {m q : Nat} (h : q < m) : (x_K0 m).getD q 0 = Int64.ofNat (x_qk q) := by
  simp [x_K0, List.getD_eq_getElem?_getD, h]
theorem x_K0_app (m : Nat) : x_K0 m ++ [Int64.ofNat (x_qk m)] = x_K0 (m + 1) := by
  simp [x_K0, List.range_succ]
theorem y_learn {N : Nat → Nat} {s : f_S3} {O : Nat × Nat} (hL : y_L N s []) (hN : 33 < N 14) {Q : f_S3 → Nat × Nat → Prop} (hQ : ∀ s' : f_S3, y_L N s' (x_K0 33) → (∀ k, k ≠ 33 → s'.1 k = s.1 k) → (∀ c i, c ≠ 15 → c ≠ 16 → s'.2.1 c i = s.2.1 c i) → Q s' O) : wF_X4_learnQuotedWords N s O Q := by
  have s0 : s_len.getD 0 0 = 178 := by decide
  have key : ∀ (f i : Nat) (s' : f_S3), i + f = 178 → y_L N s' (x_K0 (x_ln i).2) → (∀ k, k ≠ 33 → s'.1 k = s.1 k) → (∀ c i, c ≠ 15 → c ≠ 16 → s'.2.1 c i = s.2.1 c i) → wF_X4_learnQuotedWords_4 N Q (f + 1) (Int64.ofNat (x_ln i).1) (nI i) s' O := by
    intro f
    induction f with
    | zero =>
      intro i s' hi hL' h1 h2
      have : i = 178 := by omega
      subst this
      rw [x_q3] at hL'
      exact ⟨fun _ => hQ s' hL' h1 h2, fun h => absurd ((y_le (by omega) (by omega)).mpr (by omega)) h⟩
    | succ f ih =>
      intro i s' hi hL' h1 h2
      have ec : s_ch 0 (nI i) = x_T0 i := by unfold s_ch x_T0; rw [y_cl (by omega)]
      refine ⟨fun h => ?_, fun _ => ⟨y_in (by omega) (by omega), fun h => ?_, fun h => ?_⟩⟩
      · rw [y_le (by omega) (by omega)] at h; omega
      · rw [ec] at h ⊢
        obtain ⟨g1, g2⟩ := x_q2 i (by omega) h
        refine y_longer g2 g1 ?_
        show wF_X4_learnQuotedWords_4 N Q (f + 1) _ (nI i + 1) s' O
        rw [y_1]
        have e : x_ln (i + 1) = (64 * (x_ln i).1 + x_sg (x_T0 i), (x_ln i).2) := if_neg h
        have := ih (i + 1) s' (by omega) (by rw [e]; exact hL') h1 h2
        rw [e] at this
        exact this
      · rw [ec] at h
        obtain ⟨g1, g2⟩ := x_q1 i (by omega) h
        have e : x_ln (i + 1) = (0, (x_ln i).2 + 1) := if_pos h
        have hlen := x_K0_len (x_ln i).2
        refine y_numberOf hL' _ (fun j hj he => ?_) (fun hn => ⟨by omega, ?_⟩)
        · rw [hlen] at hj
          rw [x_K0_at hj, g1] at he
          have := x_of_inj (x_q5 j (by omega)).1 (x_q5 _ g2).1 he
          have := x_q4 j (by omega) _ g2 this
          omega
        · show wF_X4_learnQuotedWords_4 N Q (f + 1) 0 (nI i + 1) _ O
          rw [y_1]
          have hL2 := y_L_new (k := Int64.ofNat (x_ln i).1) hL' (by omega)
          rw [g1, x_K0_app, ← g1] at hL2
          have := ih (i + 1) _ (by omega) (by rw [e]; exact hL2) (fun k hk => by
            rw [← h1 k hk]; show um s'.1 33 _ k = _; rw [um_at, if_neg hk]) (fun c j c1 c2 => by
            rw [← h2 c j c1 c2]; show uf (uf s'.2.1 15 _ _) 16 _ _ c j = _; rw [uf_at2, if_neg (fun z => c2 z.1), uf_at2, if_neg (fun z => c1 z.1)])
          rw [e] at this
          exact this
  exact ⟨179, key 178 0 s (by omega) hL (fun _ _ => rfl) (fun _ _ _ _ => rfl)⟩
end LX5
