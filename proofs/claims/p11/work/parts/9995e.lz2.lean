/-! THE REFERENCE'S WORDS: among. -/
section LZ2
variable {M : Nat → Int32} {F : Nat → Nat → Int32} {T : Nat → Int32} {n : Nat}
def x_qe : List Nat := x_qs ++ [178]
/-- a row of quoted words: the text si, where its words begin among all (B), the first one's number (q0), how many (c) -/
def z_row (si B q0 c : Nat) : Prop := (∀ q, q < q0 + c → q0 ≤ q → (q < 33 ∧ x_qe.getD q 0 = x_qs.getD q 0 ∧ B ≤ x_qs.getD q 0 ∧ x_qs.getD q 0 - B + 1 + x_ql.getD q 0 < s_len.getD si 0 ∧ x_qe.getD (q + 1) 0 = x_qs.getD q 0 + x_ql.getD q 0 + 1) ∧ (∀ i, i < x_ql.getD q 0 + 1 → (s_byt.getD si []).getD (x_qs.getD q 0 - B + 1 + i) 0 = x_T0 (x_qs.getD q 0 + i)) ∧ x_T0 (x_qs.getD q 0 + x_ql.getD q 0) = 32 ∧ ∀ i, i < x_ql.getD q 0 → ¬ x_T0 (x_qs.getD q 0 + i) = 32) ∧ (x_qe.getD (q0 + c) 0 - B + 1 = s_len.getD si 0 ∧ s_len.getD si 0 ≤ 200 ∧ x_qe.getD q0 0 - B = 0)
set_option maxRecDepth 10000 in
theorem z_row2 : z_row 2 0 0 26 := by unfold z_row; exact ⟨by decide +kernel, by decide +kernel⟩
set_option maxRecDepth 10000 in
theorem z_row3 : z_row 3 141 26 7 := by unfold z_row; exact ⟨by decide +kernel, by decide +kernel⟩
theorem z_ne {a b : Nat} (ha : a < 2 ^ 31) (hb : b < 2 ^ 31) (h : a ≠ b) : ¬ nI a = nI b := fun q => h (by
  have := congrArg Int32.toInt q
  rw [fs_nI ha, fs_nI hb] at this
  omega)
theorem z_among {si B q0 c : Nat} (hr : z_row si B q0 c) (hc : z_T M F T n) {k e : Nat} (h6 : M 6 = nI k) (h3 : M 3 = nI e) (hke : k ≤ e) (hen : e ≤ n) {Q : Int32 → (Nat → Int32) → (Nat → Nat → Int32) → Prop} (h1 : ∀ q, q0 ≤ q → q < q0 + c → x_wq T k (e - k) q → Q (nI (q - q0)) M F) (h0 : (∀ q, q0 ≤ q → q < q0 + c → ¬ x_wq T k (e - k) q) → Q (-1) M F) : w_among si M F Q := by
  obtain ⟨hr1, hr2, hr3, hr4⟩ := hr
  have c2 := hc.2.1
  have outer : ∀ (f q : Nat), q + f = q0 + c → q0 ≤ q → (∀ q', q0 ≤ q' → q' < q → ¬ x_wq T k (e - k) q') → w_among_15 Q (f + 1) si (nI (e - k)) (nI (q - q0)) (nI (x_qe.getD q 0 - B + 1)) M F := by
    intro f
    induction f with
    | zero =>
      intro q hq hq0 hno
      have hqe : q = q0 + c := by omega
      subst hqe
      rw [hr2]
      exact ⟨fun _ => h0 (fun q' a b => hno q' a b), fun h => absurd ((y_le (by omega) (by omega)).mpr (Nat.le_refl _)) h⟩
    | succ f ih =>
      intro q hq hq0 hno
      obtain ⟨⟨g1, g2, g3, g4, g5⟩, g6, g7, g8⟩ := hr1 q (by omega) hq0
      rw [g2]
      have chr : ∀ i, i ≤ x_ql.getD q 0 → s_ch si (nI (x_qs.getD q 0 - B + 1 + i)) = x_T0 (x_qs.getD q 0 + i) := fun i hi => by
        unfold s_ch; rw [y_cl (by omega)]; exact g6 i (by omega)
      have skip : ¬ x_wq T k (e - k) q → ∃ e99, w_among_99 (w_among_15 Q (f + 1)) Q e99 si (nI (e - k)) (nI (q - q0)) (nI (x_qs.getD q 0 - B + 1)) M F := fun hw => by
        have loop : ∀ (g j : Nat), j + g = x_ql.getD q 0 → w_among_99 (w_among_15 Q (f + 1)) Q (g + 1) si (nI (e - k)) (nI (q - q0)) (nI (x_qs.getD q 0 - B + 1 + j)) M F := by
          intro g
          induction g with
          | zero =>
            intro j hj
            have hjq : j = x_ql.getD q 0 := by omega
            subst hjq
            refine ⟨y_in (by omega) (by omega), fun _ => ?_, fun h => absurd (by rw [chr _ (Nat.le_refl _)]; exact g7) h⟩
            rw [y_1, y_1]
            have := ih (q + 1) (by omega) (by omega) (fun q' a b => by
              by_cases z : q' = q
              · rw [z]; exact hw
              · exact hno q' a (by omega))
            rw [g5, show x_qs.getD q 0 + x_ql.getD q 0 + 1 - B + 1 = x_qs.getD q 0 - B + 1 + x_ql.getD q 0 + 1 by omega, show q + 1 - q0 = q - q0 + 1 by omega] at this
            exact this
          | succ g ih2 =>
            intro j hj
            refine ⟨y_in (by omega) (by omega), fun h => ?_, fun _ => ?_⟩
            · rw [chr j (by omega)] at h; exact absurd h (g8 j (by omega))
            · rw [y_1]; exact ih2 (j + 1) (by omega)
        exact ⟨x_ql.getD q 0 + 1, loop (x_ql.getD q 0) 0 (by omega)⟩
      have inner : ∀ (g i : Nat), i + g = e - k → i ≤ x_ql.getD q 0 → (∀ j, j < i → T (k + j) = x_T0 (x_qs.getD q 0 + j)) → w_among_27 (w_among_15 Q (f + 1)) Q (g + 1) si (nI (e - k)) (nI (q - q0)) (nI (x_qs.getD q 0 - B + 1)) (nI i) M F := by
        intro g
        induction g with
        | zero =>
          intro i hi hil hj
          have hie : i = e - k := by omega
          refine ⟨fun _ => ⟨fun h => absurd (by rw [hie]) h, fun _ => ?_⟩, fun h => absurd ((y_le (by omega) (by omega)).mpr (by omega)) h⟩
          rw [ni_add, chr i hil]
          refine ⟨y_in (by omega) (by omega), fun h => skip (fun hw => h ?_), fun h => ?_⟩
          · rw [hie, hw.2.1]; exact g7
          · have hiq : i = x_ql.getD q 0 := Nat.le_antisymm hil (Nat.not_lt.mp fun z => g8 i z h)
            exact h1 q hq0 (by omega) ⟨g1, by omega, fun j hj' => hj j (by omega)⟩
        | succ g ih2 =>
          intro i hi hil hj
          refine ⟨fun h => ?_, fun _ => ?_⟩
          · rw [y_le (by omega) (by omega)] at h; omega
          rw [ni_add, chr i hil, h6, ni_add, y_cl (by omega), hc.2.2 _ (by omega)]
          have hne : ¬ nI i = nI (e - k) := z_ne (by omega) (by omega) (by omega)
          refine ⟨y_in (by omega) (by omega), fun h => ⟨fun _ => skip (fun hw => ?_), fun z => absurd z hne⟩, fun h => ⟨y_in (by omega) (by omega), y_in (by omega) (by omega), fun z => ⟨fun _ => skip (fun hw => z (hw.2.2 i (by omega)).symm), fun z2 => absurd z2 hne⟩, fun z => ?_⟩⟩
          · have := hw.2.1
            exact g8 i (by omega) h
          · have hlt : i < x_ql.getD q 0 := Nat.lt_of_le_of_ne hil (fun y => h (by rw [y]; exact g7))
            rw [y_1]
            exact ih2 (i + 1) (by omega) (by omega) (fun j hj' => by
              by_cases y : j = i
              · rw [y]; exact z.symm
              · exact hj j (by omega))
      refine ⟨fun h => ?_, fun _ => ⟨e - k + 1, inner (e - k) 0 (by omega) (by omega) (fun j hj => by omega)⟩⟩
      rw [y_le (by omega) (by omega)] at h; omega
  unfold w_among
  rw [h3, h6, y_sub hke (by omega)]
  have := outer c q0 (by omega) (Nat.le_refl _) (fun q' a b => by omega)
  rw [hr4, Nat.sub_self] at this
  exact ⟨c + 1, this⟩
end LZ2
