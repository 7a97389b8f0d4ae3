/-! THE REFERENCE'S next. -/
section LZ4
variable {M : Nat → Int32} {F : Nat → Nat → Int32} {T : Nat → Int32} {n : Nat}
theorem z_fr_up {M0 M1 M' : Nat → Int32} {F' : Nat → Nat → Int32} {tb : List (Nat × Nat)} (h : ∀ j, j ≠ 3 → j ≠ 4 → j ≠ 5 → j ≠ 6 → M1 j = M0 j) (hf : z_fr M1 M' F F' tb) : z_fr M0 M' F F' tb := ⟨fun j a b c d e => by rw [hf.1 j a b c d e, h j a b c d], hf.2.1, hf.2.2.1, hf.2.2.2.imp (fun q => ⟨q.1, by rw [q.2, h 12 (by decide) (by decide) (by decide) (by decide)]⟩) id⟩
theorem z_fr_1 {M0 M' : Nat → Int32} {tb : List (Nat × Nat)} (h : ∀ j, j ≠ 3 → j ≠ 4 → j ≠ 5 → j ≠ 6 → M' j = M0 j) : z_fr M0 M' F F tb := ⟨fun j a b c d _ => h j a b c d, fun _ _ _ _ _ _ => rfl, fun _ _ => ⟨rfl, rfl⟩, Or.inl ⟨rfl, h 12 (by decide) (by decide) (by decide) (by decide)⟩⟩
theorem x_sn_iff {c : Int32} : x_sn c = true ↔ c = 123 ∨ c = 125 ∨ c = 40 ∨ c = 41 ∨ c = 44 ∨ c = 59 ∨ c = 61 ∨ c = 43 ∨ c = 45 ∨ c = 42 ∨ c = 47 ∨ c = 37 ∨ c = 60 := by simp [x_sn]
theorem z_229 {c : Int32} {Q : (Nat → Int32) → (Nat → Nat → Int32) → Prop} (h1 : x_sn c = true → Q M F) (h0 : x_sn c = false → Q (um M 4 7) F) : w_next_229 Q c M F := by
  rw [x_sn_iff] at h1
  have h0 : ¬ (c = 123 ∨ c = 125 ∨ c = 40 ∨ c = 41 ∨ c = 44 ∨ c = 59 ∨ c = 61 ∨ c = 43 ∨ c = 45 ∨ c = 42 ∨ c = 47 ∨ c = 37 ∨ c = 60) → Q (um M 4 7) F := fun h => h0 (Bool.eq_false_iff.mpr (fun q => h (x_sn_iff.mp q)))
  unfold w_next_229
  refine ⟨fun h => h1 (by simp [h]), fun a1 => ⟨fun h => h1 (by simp [h]), fun a2 => ⟨fun h => h1 (by simp [h]), fun a3 => ⟨fun h => h1 (by simp [h]), fun a4 => ⟨fun h => h1 (by simp [h]), fun a5 => ⟨fun h => h1 (by simp [h]), fun a6 => ⟨fun h => h1 (by simp [h]), fun a7 => ⟨fun h => h1 (by simp [h]), fun a8 => ⟨fun h => h1 (by simp [h]), fun a9 => ⟨fun h => h1 (by simp [h]), fun a10 => ⟨fun h => h1 (by simp [h]), fun a11 => ⟨fun h => h1 (by simp [h]), fun a12 => ⟨fun h => h1 (by simp [h]), fun a13 => h0 (by simp [a1, a2, a3, a4, a5, a6, a7, a8, a9, a10, a11, a12, a13])⟩⟩⟩⟩⟩⟩⟩⟩⟩⟩⟩⟩⟩
/-- next: from the end k of the token before; b: the next token's first byte -/
theorem z_next (hc : z_T M F T n) {tb : List (Nat × Nat)} (ht : z_tb M F tb) (hn : x_tn tb n) (htb : x_tb T tb) (h2k : tb.length ≤ 2005) {k : Nat} (h3 : M 3 = nI k) (hk : k ≤ n) {Q : (Nat → Int32) → (Nat → Nat → Int32) → Prop} (hE : x_sk T n n k = n → ∀ M' : Nat → Int32, M' 3 = nI n → M' 6 = nI n → M' 4 = 0 → z_tb M' F tb → z_fr M M' F F tb → Q M' F) (hQ : ∀ b, b = x_sk T n n k → b < n → ∃ (ty v : Int32) (e : Nat) (tb' : List (Nat × Nat)), x_step T n tb b ty v e tb' ∧ ∀ (M' : Nat → Int32) (F' : Nat → Nat → Int32), M' 3 = nI e → M' 6 = nI b → z_tk ty v M' → z_tb M' F' tb' → z_fr M M' F F' tb → Q M' F') : w_next M F Q := by
  have c2 := hc.2.1
  have hb := x_sk_le T n n k hk
  -- at the token
  have at63 : w_next_63 Q (nI (x_sk T n n k)) M F := by
    generalize hbe : x_sk T n n k = b at hb hE hQ ⊢
    unfold w_next_63
    have hc1 : z_T (um M 6 (nI b)) F T n := z_T_cg (um_ne (by decide)) hc
    refine z_byteAt hc1 (by omega) ?_
    rw [um_ne (by decide), hc.1, y_lt (by omega) (by omega), y_1]
    refine ⟨fun hbn => ?_, fun hbn => ?_⟩
    · obtain ⟨ty, v, e, tb', hst, hq⟩ := hQ b rfl hbn
      have he := x_step_e hbn hst
      rw [show x_at T n b = T b from if_pos hbn]
      refine z_isOfWord (fun hw => ⟨fun q => absurd q (by decide), fun _ => ?_⟩) (fun hw => ⟨fun _ => ?_, fun q => absurd rfl q⟩)
      · -- a word or a number
        have hwe : e = x_we T n n b := by
          rcases hst with ⟨-, a, -⟩ | ⟨-, -, a, -⟩ | ⟨a, -⟩
          · exact a
          · exact a
          · rw [hw] at a; exact absurd a (by decide)
        have hin := x_we_in T n n b
        have hout := x_we_out T n n b (by omega) (by omega)
        rw [← hwe] at hin hout
        have loop : ∀ (g i : Nat) (M1 : Nat → Int32), i + g = e → b < i → M1 3 = nI i → (∀ j, j ≠ 3 → M1 j = um M 6 (nI b) j) → w_next_107 Q (g + 1) (T b) M1 F := by
          intro g
          induction g with
          | zero =>
            intro i M1 hi hbi m3 hf
            have hie : i = e := by omega
            subst hie
            have hcM : z_T M1 F T n := z_T_cg (by rw [hf 2 (by decide), um_ne (by decide)]) hc
            unfold w_next_107
            rw [m3]
            refine z_byteAt hcM (by omega) ?_
            have hnw : ¬ x_wd (x_at T n i) = true := by
              by_cases z : i < n
              · rw [show x_at T n i = T i from if_pos z, hout z]; decide
              · rw [show x_at T n i = 0 from if_neg z]; decide
            refine z_isOfWord (fun h => absurd h hnw) (fun _ => ⟨fun _ => ?_, fun q => absurd rfl q⟩)
            refine z_wordToken hcM (z_tb_cg (by rw [hf 12 (by decide), um_ne (by decide)]) ht) hn htb h2k (by rw [hf 6 (by decide), um_eq]) m3 hbi (by omega) hwe hw hst (fun M' F' a1 a2 a3 a4 a5 => hq M' F' a1 a2 a3 a4 (z_fr_up (fun j j3 j4 j5 j6 => by rw [hf j j3, um_ne j6]) a5))
          | succ g ih =>
            intro i M1 hi hbi m3 hf
            have hcM : z_T M1 F T n := z_T_cg (by rw [hf 2 (by decide), um_ne (by decide)]) hc
            unfold w_next_107
            rw [m3]
            refine z_byteAt hcM (by omega) ?_
            rw [show x_at T n i = T i from if_pos (by omega)]
            refine z_isOfWord (fun _ => ⟨fun q => absurd q (by decide), fun _ => ?_⟩) (fun h => absurd (hin i (by omega) (by omega)) h)
            exact ih (i + 1) _ (by omega) (by omega) (by rw [um_eq, m3, y_1]) (fun j j3 => by rw [um_ne j3]; exact hf j j3)
        exact ⟨e - (b + 1) + 1, loop (e - (b + 1)) (b + 1) _ (by omega) (by omega) um_eq (fun j j3 => um_ne j3)⟩
      · -- a sign
        have hw' : x_wd (T b) = false := Bool.eq_false_iff.mpr hw
        have hsg : tb' = tb ∧ x_sign T n b e ty := by
          rcases hst with ⟨a, -⟩ | ⟨a, -⟩ | ⟨-, a, c⟩
          · unfold x_wd at hw'; rw [a] at hw'; rw [Bool.or_true] at hw'; exact absurd hw' (by decide)
          · unfold x_wd at hw'; rw [a, Bool.true_or] at hw'; exact absurd hw' (by decide)
          · exact ⟨a, c⟩
        obtain ⟨rfl, hsg⟩ := hsg
        have m3 : um (um M 6 (nI b)) 3 (nI (b + 1)) 3 = nI (b + 1) := um_eq
        -- the state with the sign
        have hM : ∀ j, j ≠ 3 → j ≠ 4 → j ≠ 5 → j ≠ 6 → um (um (um (um M 6 (nI b)) 3 (nI (b + 1))) 4 6) 5 (T b) j = M j := fun j j3 j4 j5 j6 => by rw [um_ne j5, um_ne j4, um_ne j3, um_ne j6]
        generalize hS : um (um (um (um M 6 (nI b)) 3 (nI (b + 1))) 4 6) 5 (T b) = S at hM ⊢
        have s3 : S 3 = nI (b + 1) := by rw [← hS, um_ne (by decide), um_ne (by decide), um_eq]
        have s4 : S 4 = 6 := by rw [← hS, um_ne (by decide), um_eq]
        have s5 : S 5 = T b := by rw [← hS, um_eq]
        have s6 : S 6 = nI b := by rw [← hS, um_ne (by decide), um_ne (by decide), um_ne (by decide), um_eq]
        have hcS : z_T S F T n := z_T_cg (hM 2 (by decide) (by decide) (by decide) (by decide)) hc
        have htS : z_tb S F tb' := z_tb_cg (hM 12 (by decide) (by decide) (by decide) (by decide)) ht
        have two : ∀ (w : Int32), (ty = 133 ∧ w = 300 ∨ ty = 134 ∧ w = 301) → e = b + 2 → Q (um (um S 5 w) 3 (S 3 + 1)) F := fun w hw2 he2 => by
          rw [s3, y_1]
          refine hq _ F (by rw [um_eq, he2]) (by rw [um_ne (by decide), um_ne (by decide)]; exact s6) ?_ (z_tb_cg (by rw [um_ne (by decide), um_ne (by decide)]) htS) (z_fr_1 (fun j j3 j4 j5 j6 => by rw [um_ne j3, um_ne j5]; exact hM j j3 j4 j5 j6))
          have u4 : um (um S 5 w) 3 (nI (b + 1 + 1)) 4 = 6 := by rw [um_ne (by decide), um_ne (by decide)]; exact s4
          have u5 : um (um S 5 w) 3 (nI (b + 1 + 1)) 5 = w := by rw [um_ne (by decide), um_eq]
          rcases hw2 with ⟨a, rfl⟩ | ⟨a, rfl⟩
          · exact Or.inr (Or.inr (Or.inr (Or.inr (Or.inr (Or.inr (Or.inl ⟨a, u4, u5⟩))))))
          · exact Or.inr (Or.inr (Or.inr (Or.inr (Or.inr (Or.inr (Or.inr (Or.inl ⟨a, u4, u5⟩)))))))
        have one : ¬ ((T b = 61 ∨ T b = 33) ∧ x_at T n (b + 1) = 61) → w_next_229 Q (T b) S F := fun hno => by
          have hs : e = b + 1 ∧ ((x_sn (T b) = true ∧ ty = T b) ∨ (x_sn (T b) = false ∧ ty = 136)) := by
            rcases hsg with ⟨a, c, -⟩ | ⟨a, c, -⟩ | ⟨-, a, c⟩
            · exact absurd ⟨Or.inl a, c⟩ hno
            · exact absurd ⟨Or.inr a, c⟩ hno
            · exact ⟨a, c⟩
          obtain ⟨rfl, hs⟩ := hs
          refine z_229 (fun h => ?_) (fun h => ?_)
          · rcases hs with ⟨-, a⟩ | ⟨a, -⟩
            · exact hq S F s3 s6 (Or.inr (Or.inr (Or.inr (Or.inr (Or.inr (Or.inr (Or.inr (Or.inr ⟨by rw [a]; exact h, s4, by rw [s5, a]⟩)))))))) htS (z_fr_1 (fun j j3 j4 j5 j6 => hM j j3 j4 j5 j6))
            · rw [h] at a; exact absurd a (by decide)
          · rcases hs with ⟨a, -⟩ | ⟨-, a⟩
            · rw [h] at a; exact absurd a (by decide)
            · exact hq _ F (by rw [um_ne (by decide)]; exact s3) (by rw [um_ne (by decide)]; exact s6) (Or.inr (Or.inl ⟨a, um_eq⟩)) (z_tb_cg (um_ne (by decide)) htS) (z_fr_1 (fun j j3 j4 j5 j6 => by rw [um_ne j4]; exact hM j j3 j4 j5 j6))
        have m190 : ¬ (T b = 61 ∧ x_at T n (b + 1) = 61) → w_next_190 Q (T b) S F := fun hno => by
          unfold w_next_190
          rw [s3]
          refine ⟨fun h => one (fun q => q.1.elim (fun z => hno ⟨z, q.2⟩) h), fun h => ?_⟩
          refine z_byteAt hcS (by omega) ?_
          refine ⟨fun g => one (fun q => g q.2), fun g => ?_⟩
          rcases hsg with ⟨a, c, -⟩ | ⟨a, c, d, d2⟩ | ⟨a, -⟩
          · exact absurd ⟨a, c⟩ hno
          · exact two 301 (Or.inr ⟨d, rfl⟩) d2
          · exact absurd ⟨Or.inr h, g⟩ a
        refine ⟨fun h => m190 (fun q => h q.1), fun h => ?_⟩
        rw [m3]
        refine z_byteAt hcS (by omega) ?_
        refine ⟨fun g => m190 (fun q => g q.2), fun g => ?_⟩
        rcases hsg with ⟨a, c, d, d2⟩ | ⟨a, c, -⟩ | ⟨a, -⟩
        · exact two 300 (Or.inl ⟨d, rfl⟩) d2
        · rw [h] at a; exact absurd a (by decide)
        · exact absurd ⟨Or.inl h, g⟩ a
    · have hbn' : b = n := by omega
      subst hbn'
      exact hE rfl _ um_eq (by rw [um_ne (by decide), um_ne (by decide), um_ne (by decide), um_eq]) (by rw [um_ne (by decide), um_eq]) (z_tb_cg (by rw [um_ne (by decide), um_ne (by decide), um_ne (by decide), um_ne (by decide)]) ht) (z_fr_1 (fun j j3 j4 j5 j6 => by rw [um_ne j3, um_ne j4, um_ne j3, um_ne j6]))
  have loop : ∀ (f k' : Nat), k' ≤ n → n ≤ k' + f → x_sk T n f k' = x_sk T n n k → w_next_5 Q (f + 1) (nI k') M F := by
    intro f
    induction f with
    | zero =>
      intro k' h1 h2 h4
      have e : x_sk T n 0 k' = k' := rfl
      rw [e] at h4
      rw [← h4] at at63
      refine ⟨fun _ => at63, fun h => absurd ?_ h⟩
      rw [hc.1]; exact (y_le (by omega) (by omega)).mpr (by omega)
    | succ f ih =>
      intro k' h1 h2 h4
      have e : x_sk T n (f + 1) k' = (if k' < n then (if x_bl (T k') = true then x_sk T n f (k' + 1) else k') else k') := rfl
      rw [e] at h4
      refine ⟨fun h => ?_, fun h => ?_⟩
      · rw [hc.1, y_le (by omega) (by omega)] at h
        rw [if_neg (by omega)] at h4
        rw [← h4] at at63; exact at63
      · rw [hc.1, y_le (by omega) (by omega)] at h
        rw [if_pos (by omega)] at h4
        rw [y_cl (by omega), hc.2.2 k' (by omega)]
        have hv : vp_in (nI k') 4020 := y_in (by omega) (by omega)
        have go : x_bl (T k') = true → w_next_57 (w_next_5 Q (f + 1)) Q (nI k') M F := fun hbl => by
          rw [if_pos hbl] at h4
          show w_next_5 Q (f + 1) (nI k' + 1) M F
          rw [y_1]; exact ih (k' + 1) (by omega) (by omega) h4
        refine ⟨hv, fun a => go (x_bl_iff.mpr (Or.inl a)), fun a1 => ⟨hv, fun a => go (x_bl_iff.mpr (Or.inr (Or.inl a))), fun a2 => ⟨hv, fun a => go (x_bl_iff.mpr (Or.inr (Or.inr (Or.inl a)))), fun a3 => ⟨hv, fun a => ?_, fun a => go (x_bl_iff.mpr (Or.inr (Or.inr (Or.inr a))))⟩⟩⟩⟩
        have hnb : ¬ x_bl (T k') = true := fun q => by rcases x_bl_iff.mp q with q | q | q | q <;> contradiction
        rw [if_neg hnb] at h4
        rw [← h4] at at63; exact at63
  unfold w_next
  rw [h3]
  exact ⟨n + 1, loop n k hk (by omega) rfl⟩
end LZ4
