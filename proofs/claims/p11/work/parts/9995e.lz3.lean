/-! THE REFERENCE'S TOKENS. -/
section LZ3
variable {M : Nat → Int32} {F : Nat → Nat → Int32} {T : Nat → Int32} {n : Nat}
def z_tk (ty v : Int32) (M : Nat → Int32) : Prop := (ty = 132 ∧ M 4 = 3 ∧ M 5 = v) ∨ (ty = 136 ∧ M 4 = 7) ∨ (∃ q, q < 26 ∧ ty = nI (200 + q) ∧ M 4 = 4 ∧ M 5 = nI q) ∨ (∃ q, 26 ≤ q ∧ q < 33 ∧ ty = nI (200 + q) ∧ M 4 = 5 ∧ M 5 = nI (q - 26)) ∨ (∃ w, w < 2010 ∧ ty = 130 ∧ v = nI (33 + w) ∧ M 4 = 1 ∧ M 5 = nI w) ∨ (∃ w, w < 2010 ∧ ty = 131 ∧ v = nI (33 + w) ∧ M 4 = 2 ∧ M 5 = nI w) ∨ (ty = 133 ∧ M 4 = 6 ∧ M 5 = 300) ∨ (ty = 134 ∧ M 4 = 6 ∧ M 5 = 301) ∨ (x_sn ty = true ∧ M 4 = 6 ∧ M 5 = ty)
theorem z_T_cg {M' : Nat → Int32} (h : M' 2 = M 2) (hc : z_T M F T n) : z_T M' F T n := ⟨by rw [h]; exact hc.1, hc.2⟩
theorem z_tb_cg {M' : Nat → Int32} {tb : List (Nat × Nat)} (h : M' 12 = M 12) (hc : z_tb M F tb) : z_tb M' F tb := ⟨by rw [h]; exact hc.1, hc.2⟩
theorem um_ne {k j : Nat} {v : Int32} (h : j ≠ k) : um M k v j = M j := by rw [um_at, if_neg h]
theorem um_eq {k : Nat} {v : Int32} : um M k v k = v := by rw [um_at, if_pos rfl]
theorem z_num (hc : z_T M F T n) {k e : Nat} (h3 : M 3 = nI e) (hen : e ≤ n) {Q : (Nat → Int32) → (Nat → Nat → Int32) → Prop} (hQ : ∀ M' : Nat → Int32, (∀ j, j ≠ 4 → j ≠ 5 → M' j = M j) → ((x_num T k e ∧ M' 4 = 3 ∧ M' 5 = x_val T k (e - k)) ∨ (¬ x_num T k e ∧ M' 4 = 7)) → Q M' F) : ∀ (g i : Nat) (M' : Nat → Int32), i + g = e → k ≤ i → (∀ j, j ≠ 4 → j ≠ 5 → M' j = M j) → ((M' 4 = 3 ∧ e ≤ k + 9 ∧ (∀ j, k ≤ j → j < i → x_dg (T j) = true) ∧ M' 5 = x_val T k (i - k)) ∨ (M' 4 = 7 ∧ ¬ x_num T k e)) → w_wordToken_43 Q (g + 1) (nI i) M' F := by
  have c2 := hc.2.1
  intro g
  induction g with
  | zero =>
    intro i M' hi hk hfr ht
    have hie : i = e := by omega
    subst hie
    have e3 : M' 3 = nI i := by rw [hfr 3 (by decide) (by decide)]; exact h3
    refine ⟨fun _ => hQ M' hfr ?_, fun h => absurd (by rw [e3]; exact (y_le (by omega) (by omega)).mpr (Nat.le_refl _)) h⟩
    rcases ht with ⟨a, b, c, d⟩ | ⟨a, b⟩
    · exact Or.inl ⟨⟨b, c⟩, a, d⟩
    · exact Or.inr ⟨b, a⟩
  | succ g ih =>
    intro i M' hi hk hfr ht
    have e3 : M' 3 = nI e := by rw [hfr 3 (by decide) (by decide)]; exact h3
    refine ⟨fun h => ?_, fun _ => ⟨fun h => ?_, fun h => ?_⟩⟩
    · rw [e3, y_le (by omega) (by omega)] at h; omega
    · rcases ht with ⟨a, b, c, d⟩ | ⟨a, b⟩
      · exact absurd a h
      · exact hQ M' hfr (Or.inr ⟨b, a⟩)
    · rcases ht with ⟨a, b, c, d⟩ | ⟨a, b⟩
      · rw [y_cl (by omega), hc.2.2 i (by omega)]
        have hi4 : vp_in (nI i) 4020 := y_in (by omega) (by omega)
        have go : ∀ M2 : Nat → Int32, (∀ j, j ≠ 4 → j ≠ 5 → M2 j = M j) → ((M2 4 = 3 ∧ e ≤ k + 9 ∧ (∀ j, k ≤ j → j < i + 1 → x_dg (T j) = true) ∧ M2 5 = x_val T k (i - k)) ∨ (M2 4 = 7 ∧ ¬ x_num T k e)) → w_wordToken_77 (w_wordToken_43 Q (g + 1)) Q (nI i) M2 F := fun M2 hf2 ht2 => by
          refine ⟨hi4, fun v hv => ?_⟩
          rw [y_1]
          exact ih (i + 1) _ (by omega) (by omega) (fun j j4 j5 => by rw [um_ne j5]; exact hf2 j j4 j5) (by
            rw [um_ne (show 4 ≠ 5 by decide), um_eq]
            rcases ht2 with ⟨a2, b2, c3, d2⟩ | ⟨a2, b2⟩
            · refine Or.inl ⟨a2, b2, c3, ?_⟩
              rw [hv, d2, y_cl (by omega), hc.2.2 i (by omega), show i + 1 - k = (i - k) + 1 by omega]
              show _ = x_val T k (i - k) * 10 + T (k + (i - k)) - 48
              rw [show k + (i - k) = i by omega, Int32.mul_comm]
            · exact Or.inr ⟨a2, b2⟩)
        refine ⟨hi4, z_isDigit (fun hd => ⟨fun _ => go M' hfr (Or.inl ⟨a, b, fun j j1 j2 => ?_, d⟩), fun q => absurd q (by decide)⟩) (fun hd => ⟨fun q => absurd rfl q, fun _ => go _ (fun j j4 j5 => by rw [um_ne j4]; exact hfr j j4 j5) (Or.inr ⟨um_eq, fun q => hd (q.2 i hk (by omega))⟩)⟩)⟩
        by_cases q : j = i
        · rw [q]; exact hd
        · exact c j j1 (by omega)
      · rw [a] at h; exact absurd h (by decide)
/-- what a token leaves: F' is F but for a new name -/
def z_fr (M M' : Nat → Int32) (F F' : Nat → Nat → Int32) (tb : List (Nat × Nat)) : Prop := (∀ j, j ≠ 3 → j ≠ 4 → j ≠ 5 → j ≠ 6 → j ≠ 12 → M' j = M j) ∧ (∀ c i, c ≠ 7 → c ≠ 8 → c ≠ 9 → c ≠ 11 → F' c i = F c i) ∧ (∀ i, i ≠ tb.length → F' 9 i = F 9 i ∧ F' 11 i = F 11 i) ∧ ((F' = F ∧ M' 12 = M 12) ∨ (F' 9 tb.length = -1 ∧ F' 11 tb.length = -1))
theorem z_wordToken (hc : z_T M F T n) {tb tb' : List (Nat × Nat)} (ht : z_tb M F tb) (hn : x_tn tb n) (htb : x_tb T tb) (h2k : tb.length ≤ 2005) {k e : Nat} (h6 : M 6 = nI k) (h3 : M 3 = nI e) (hke : k < e) (hen : e ≤ n) (hwe : e = x_we T n n k) {ty v : Int32} (hw : x_wd (T k) = true) (hst : x_step T n tb k ty v e tb') {Q : (Nat → Int32) → (Nat → Nat → Int32) → Prop} (hQ : ∀ (M' : Nat → Int32) (F' : Nat → Nat → Int32), M' 3 = nI e → M' 6 = nI k → z_tk ty v M' → z_tb M' F' tb' → z_fr M M' F F' tb → Q M' F') : w_wordToken (T k) M F Q := by
  have c2 := hc.2.1
  have e9 : (9 : Int32) = nI 9 := by decide
  have e10 : (10 : Int32) = nI 10 := by decide
  have frF : ∀ M' : Nat → Int32, (∀ j, j ≠ 4 → j ≠ 5 → M' j = M j) → z_fr M M' F F tb := fun M' h => ⟨fun j _ a b _ _ => h j a b, fun _ _ _ _ _ _ => rfl, fun _ _ => ⟨rfl, rfl⟩, Or.inl ⟨rfl, h 12 (by decide) (by decide)⟩⟩
  unfold w_wordToken
  refine z_isDigit (fun hd => ⟨fun q => absurd q (by decide), fun _ => ?_⟩) (fun hd => ⟨fun _ => ?_, fun q => absurd rfl q⟩)
  · rcases hst with ⟨-, -, rfl, hx⟩ | ⟨-, hd', -⟩ | ⟨hd', -⟩
    · rw [h3, h6, y_sub (by omega) (by omega), e9, y_lt (by omega) (by omega)]
      have fin : ∀ M' : Nat → Int32, (∀ j, j ≠ 4 → j ≠ 5 → M' j = M j) → ((x_num T k e ∧ M' 4 = 3 ∧ M' 5 = x_val T k (e - k)) ∨ (¬ x_num T k e ∧ M' 4 = 7)) → Q M' F := fun M' hf hq => by
        refine hQ M' F (by rw [hf 3 (by decide) (by decide)]; exact h3) (by rw [hf 6 (by decide) (by decide)]; exact h6) ?_ (z_tb_cg (hf 12 (by decide) (by decide)) ht) (frF M' hf)
        rcases hx with ⟨rfl, a, av⟩ | ⟨rfl, a⟩ <;> rcases hq with ⟨b, c, cv⟩ | ⟨b, c⟩
        · exact Or.inl ⟨rfl, c, cv.trans av.symm⟩
        · exact absurd a b
        · exact absurd b a
        · exact Or.inr (Or.inl ⟨rfl, c⟩)
      have run := z_num (k := k) hc h3 hen fin
      have st : ∀ t : Int32, ((t = 3 ∧ e ≤ k + 9) ∨ (t = 7 ∧ ¬ x_num T k e)) → w_wordToken_30 Q t M F := fun t h => by
        unfold w_wordToken_30
        rw [h6]
        refine ⟨e - k + 1, run (e - k) k _ (by omega) (Nat.le_refl _) (fun j j4 j5 => by rw [um_ne j5, um_ne j4]) ?_⟩
        rw [um_ne (show 4 ≠ 5 by decide), um_eq]
        rcases h with ⟨a, b⟩ | ⟨a, b⟩
        · exact Or.inl ⟨a, b, fun j j1 j2 => by omega, by rw [um_eq, Nat.sub_self]; rfl⟩
        · exact Or.inr ⟨a, b⟩
      exact ⟨fun h => st 7 (Or.inr ⟨rfl, fun q => by have := q.1; omega⟩), fun h => st 3 (Or.inl ⟨rfl, by omega⟩)⟩
    · rw [hd] at hd'; exact absurd hd' (by decide)
    · rw [hw] at hd'; exact absurd hd' (by decide)
  · rcases hst with ⟨hd', -⟩ | ⟨hl, -, -, hx⟩ | ⟨hd', -⟩
    · exact absurd hd' hd
    · rw [h3, h6, y_sub (by omega) (by omega), e10, y_le (by omega) (by omega)]
      rcases hx with ⟨hx1, rfl, rfl⟩ | ⟨hx1, hx2⟩
      · refine ⟨fun h => by omega, fun _ => ⟨fun h => absurd rfl h, fun _ => ?_⟩⟩
        exact hQ _ F (by rw [um_ne (by decide)]; exact h3) (by rw [um_ne (by decide)]; exact h6) (Or.inr (Or.inl ⟨rfl, um_eq⟩)) (z_tb_cg (um_ne (by decide)) ht) (frF _ (fun j j4 _ => um_ne j4))
      refine ⟨fun _ => ?_, fun h => by omega⟩
      -- a word: t is the token without a quoted word, si its row
      have word : ∀ (t : Int32) (si B q0 c : Nat), z_row si B q0 c → ((t = 1 ∧ q0 = 0 ∧ c = 26 ∧ x_sm (T k) = true) ∨ (t = 2 ∧ q0 = 26 ∧ c = 7 ∧ ¬ x_sm (T k) = true)) → w_wordToken_159 Q si (um M 4 t) F := fun t si B q0 c hr hc9 => by
        have hc1 : z_T (um M 4 t) F T n := z_T_cg (um_ne (by decide)) hc
        have fsm : ∀ q, x_wq T k (e - k) q → (x_sm (T k) = true ↔ q < 26) := fun q hq => by
          have f1 : ∀ q, q < 33 → 1 ≤ x_ql.getD q 0 ∧ (x_sm (x_T0 (x_qs.getD q 0)) = true ↔ q < 26) := by decide +kernel
          obtain ⟨a, b⟩ := f1 q hq.1
          have h0 := hq.2.2 0 (by have := hq.2.1; omega)
          rw [Nat.add_zero, Nat.add_zero] at h0
          rw [← b, ← h0]
        refine z_among hr hc1 (by rw [um_ne (by decide)]; exact h6) (by rw [um_ne (by decide)]; exact h3) (by omega) hen (fun q a b hq => ⟨fun h => absurd h (y_lt0 (by omega)), fun _ => ?_⟩) (fun hno => ⟨fun _ => ?_, fun h => absurd (by decide) h⟩)
        · have q33 : q < 33 := hq.1
          have huq : ∀ q', x_wq T k (e - k) q' → q' = q := fun q' hq' => by
            have hws : x_ws T k (e - k) := fun i hi => x_we_in T n n k _ (by omega) (by omega)
            refine x_q4 q' hq'.1 q q33 ?_
            show x_kt x_T0 _ _ = x_kt x_T0 _ _
            rw [← hq'.2.1, ← hq.2.1]
            exact x_kt_cg (fun i hi => by rw [← hq'.2.2 i hi, ← hq.2.2 i hi])
          rcases hx2 with ⟨q', hq', rfl, rfl, rfl⟩ | ⟨hn', -⟩
          · have := huq q' hq'
            subst this
            have fin2 : ∀ t2 : Int32, ((q' < 26 ∧ t2 = 4 ∧ q0 = 0) ∨ (26 ≤ q' ∧ t2 = 5 ∧ q0 = 26)) → w_wordToken_186 Q t2 (um (um M 4 t) 5 (nI (q' - q0))) F := fun t2 h2 => by
              refine hQ _ F (by rw [um_ne (by decide), um_ne (by decide), um_ne (by decide)]; exact h3) (by rw [um_ne (by decide), um_ne (by decide), um_ne (by decide)]; exact h6) ?_ (z_tb_cg (by rw [um_ne (by decide), um_ne (by decide), um_ne (by decide)]) ht) (frF _ (fun j j4 j5 => by rw [um_ne j4, um_ne j5, um_ne j4]))
              rcases h2 with ⟨a1, rfl, rfl⟩ | ⟨a1, rfl, rfl⟩
              · exact Or.inr (Or.inr (Or.inl ⟨q', a1, rfl, um_eq, by rw [um_ne (by decide), um_eq]; rfl⟩))
              · exact Or.inr (Or.inr (Or.inr (Or.inl ⟨q', a1, q33, rfl, um_eq, by rw [um_ne (by decide), um_eq]⟩)))
            have e4 : um M 4 t 4 = t := um_eq
            rw [e4]
            rcases hc9 with ⟨rfl, rfl, rfl, hs⟩ | ⟨rfl, rfl, rfl, hs⟩
            · exact ⟨fun h => absurd rfl h, fun _ => fin2 4 (Or.inl ⟨(fsm q' hq').mp hs, rfl, rfl⟩)⟩
            · exact ⟨fun _ => fin2 5 (Or.inr ⟨by omega, rfl, rfl⟩), fun h => absurd h (by decide)⟩
          · exact absurd hq (hn' q)
        · have hnq : ∀ q, ¬ x_wq T k (e - k) q := fun q hq => by
            have := fsm q hq
            have := hq.1
            rcases hc9 with ⟨-, rfl, rfl, hs⟩ | ⟨-, rfl, rfl, hs⟩
            · exact hno q (by omega) (by have := (fsm q hq).mp hs; omega) hq
            · refine hno q ?_ (by omega) hq
              exact Nat.not_lt.mp fun z => hs ((fsm q hq).mpr z)
          rcases hx2 with ⟨q, hq, -⟩ | ⟨-, hty, hx3⟩
          · exact absurd hq (hnq q)
          have hty2 : (t = 1 ∧ ty = 130) ∨ (t = 2 ∧ ty = 131) := by
            rcases hc9 with ⟨a, -, -, hs⟩ | ⟨a, -, -, hs⟩
            · rw [if_pos hs] at hty; exact Or.inl ⟨a, hty⟩
            · rw [if_neg hs] at hty; exact Or.inr ⟨a, hty⟩
          have tk : ∀ (w : Nat) (M' : Nat → Int32), w < 2010 → v = nI (33 + w) → M' 4 = t → M' 5 = nI w → z_tk ty v M' := fun w M' hw1 hv m4 m5 => by
            rcases hty2 with ⟨a, b⟩ | ⟨a, b⟩
            · exact Or.inr (Or.inr (Or.inr (Or.inr (Or.inl ⟨w, hw1, b, hv, by rw [m4, a], m5⟩))))
            · exact Or.inr (Or.inr (Or.inr (Or.inr (Or.inr (Or.inl ⟨w, hw1, b, hv, by rw [m4, a], m5⟩)))))
          have hc2 : z_T (um (um M 4 t) 5 (-1)) F T n := z_T_cg (um_ne (by decide)) hc1
          have ht2 : z_tb (um (um M 4 t) 5 (-1)) F tb := z_tb_cg (by rw [um_ne (by decide), um_ne (by decide)]) ht
          refine z_name hc2 ht2 hn (by rw [um_ne (by decide), um_ne (by decide)]; exact h6) (by rw [um_ne (by decide), um_ne (by decide)]; exact h3) (by omega) hen (fun w hw1 hs hfirst => ?_) (fun hnw => ⟨h2k, ?_⟩)
          · rcases hx3 with ⟨w', hw', hs', rfl, rfl⟩ | ⟨hno', -⟩
            · have : w = w' := htb.2 w w' hw1 hw' ⟨by rw [hs'.1, hs.1], fun i hi => by rw [hs'.2 i (by rw [← hs.1]; exact hi), hs.2 i (by rw [← hs.1]; exact hi)]⟩
              subst this
              refine hQ _ F (by rw [um_ne (by decide), um_ne (by decide), um_ne (by decide)]; exact h3) (by rw [um_ne (by decide), um_ne (by decide), um_ne (by decide)]; exact h6) (tk w _ (by omega) rfl (by rw [um_ne (by decide), um_ne (by decide), um_eq]) um_eq) (z_tb_cg (by rw [um_ne (by decide), um_ne (by decide), um_ne (by decide)]) ht) (frF _ (fun j j4 j5 => by rw [um_ne j5, um_ne j5, um_ne j4]))
            · exact absurd hs (hno' w hw1)
          · rcases hx3 with ⟨w', hw', hs', -⟩ | ⟨-, hv, rfl⟩
            · exact absurd hs' (hnw w' hw')
            · have cm : (nI tb.length).toNatClampNeg = tb.length := y_cl (by omega)
              have hl : (tb ++ [(k, e - k)]).length = tb.length + 1 := by simp
              refine hQ _ _ (by unfold z_new; rw [um_ne (by decide), um_ne (by decide), um_ne (by decide), um_ne (by decide)]; exact h3) (by unfold z_new; rw [um_ne (by decide), um_ne (by decide), um_ne (by decide), um_ne (by decide)]; exact h6) (tk tb.length _ (by omega) hv (by unfold z_new; rw [um_ne (by decide), um_ne (by decide), um_ne (by decide), um_eq]) um_eq) ⟨?_, by omega, fun w hw1 => ?_⟩ ⟨fun j j3 j4 j5 j6 j12 => ?_, fun c i c7 c8 c9' c11 => ?_, fun i hi => ⟨?_, ?_⟩, Or.inr ⟨?_, ?_⟩⟩
              · unfold z_new; rw [um_ne (by decide), um_eq, hl]
              · have f7 : z_newF F tb.length k (e - k) 7 w = if w = tb.length then nI k else F 7 w := by
                  unfold z_newF
                  rw [uf_at2, if_neg (fun z => by omega), uf_at2, if_neg (fun z => by omega), uf_at2, if_neg (fun z => by omega), uf_at2, cm]
                  by_cases q : w = tb.length
                  · rw [if_pos ⟨rfl, q⟩, if_pos q]
                  · rw [if_neg (fun z => q z.2), if_neg q]
                have f8 : z_newF F tb.length k (e - k) 8 w = if w = tb.length then nI (e - k) else F 8 w := by
                  unfold z_newF
                  rw [uf_at2, if_neg (fun z => by omega), uf_at2, if_neg (fun z => by omega), uf_at2, cm]
                  by_cases q : w = tb.length
                  · rw [if_pos ⟨rfl, q⟩, if_pos q]
                  · rw [if_neg (fun z => q z.2), if_neg q, uf_at2, if_neg (fun z => by omega)]
                rw [f7, f8]
                by_cases q : w = tb.length
                · rw [if_pos q, if_pos q, q, x_getD_pp]; exact ⟨rfl, rfl⟩
                · rw [if_neg q, if_neg q, x_getD_pp' tb _ (by omega)]; exact ht.2.2 w (by omega)
              · unfold z_new; rw [um_ne j5, um_ne j12, um_ne j5, um_ne j4]
              · unfold z_newF
                rw [uf_at2, if_neg (fun z => c11 z.1), uf_at2, if_neg (fun z => c9' z.1), uf_at2, if_neg (fun z => c8 z.1), uf_at2, if_neg (fun z => c7 z.1)]
              · unfold z_newF
                rw [uf_at2, if_neg (fun z => by omega), uf_at2, cm, if_neg (fun z => hi z.2), uf_at2, if_neg (fun z => by omega), uf_at2, if_neg (fun z => by omega)]
              · unfold z_newF
                rw [uf_at2, cm, if_neg (fun z => hi z.2), uf_at2, if_neg (fun z => by omega), uf_at2, if_neg (fun z => by omega), uf_at2, if_neg (fun z => by omega)]
              · unfold z_newF
                rw [uf_at2, if_neg (fun z => by omega), uf_at2, cm, if_pos ⟨rfl, rfl⟩]
              · unfold z_newF
                rw [uf_at2, cm, if_pos ⟨rfl, rfl⟩]
      refine z_isSmall (fun hs => ⟨fun q => absurd q (by decide), fun _ => ⟨fun _ => ⟨fun q => absurd rfl q, fun _ => word 1 2 0 0 26 z_row2 (Or.inl ⟨rfl, rfl, rfl, hs⟩)⟩, fun q => absurd q (by decide)⟩⟩) (fun hs => ⟨fun _ => ⟨fun _ => ⟨fun _ => word 2 3 141 26 7 z_row3 (Or.inr ⟨rfl, rfl, rfl, hs⟩), fun q => absurd q (by decide)⟩, fun q => absurd q (by decide)⟩, fun q => absurd rfl q⟩)
    · rw [hw] at hd'; exact absurd hd' (by decide)
end LZ3
