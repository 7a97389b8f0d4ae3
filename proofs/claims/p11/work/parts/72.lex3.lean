theorem p_wt43 {Q : e_M → e_F → Prop} {M : e_M} {F : e_F} (hs : 0 ≤ (M 6).toInt) (he : (M 3).toInt ≤ 4000) (hQ : ∀ M' : e_M, (∀ k, k ≠ 4 → k ≠ 5 → M' k = M k) → ((M' 4).toInt = 3 ∨ (M' 4).toInt = 7) → Q M' F) : ∀ (n : Nat) (a3 : Int32) (M1 : e_M), (∀ k, k ≠ 4 → k ≠ 5 → M1 k = M k) → ((M1 4).toInt = 3 ∨ (M1 4).toInt = 7) → (M 6).toInt ≤ a3.toInt → a3.toInt ≤ (M 3).toInt → (M 3).toInt - a3.toInt < n → w_wordToken_43 Q n a3 M1 F := by
  have l1 : (1 : Int32).toInt = 1 := by decide
  intro n
  induction n with
  | zero => intro a3 M1 q0 q1 q2 q3 q4; exact absurd q4 (by omega)
  | succ n ih =>
    intro a3 M1 q0 q1 q2 q3 q4
    have e3 : M1 3 = M 3 := q0 3 (by decide) (by decide)
    have h77 : ∀ M2 : e_M, (∀ k, k ≠ 4 → k ≠ 5 → M2 k = M k) → ((M2 4).toInt = 3 ∨ (M2 4).toInt = 7) → a3.toInt < (M 3).toInt → w_wordToken_77 (w_wordToken_43 Q n) Q a3 M2 F := by
      intro M2 g0 g1 g2
      refine ⟨vp_in_iff.mpr (by omega), fun v _ => ?_⟩
      have e := ti_addx a3 1 (by omega)
      exact ih (a3 + 1) (um M2 5 v) (fun k h4 h5 => (e_um_ne h5).trans (g0 k h4 h5)) g1 (by omega) (by omega) (by omega)
    refine ⟨fun _ => hQ M1 q0 q1, fun h => ⟨fun _ => hQ M1 q0 q1, fun h4 => ⟨vp_in_iff.mpr ?_, ?_⟩⟩⟩
    · have := ti_nle h
      rw [e3] at this
      omega
    · have h9 := ti_nle h
      rw [e3] at h9
      refine p_isDigit (fun _ => ⟨fun q => absurd rfl q, fun _ => ?_⟩) (fun _ => ⟨fun _ => h77 M1 q0 q1 h9, fun q => absurd q (by decide)⟩)
      exact h77 (um M1 4 7) (fun k h4 h5 => (e_um_ne h4).trans (q0 k h4 h5)) (Or.inr (show (7 : Int32).toInt = 7 from by decide)) h9
theorem p_wordToken {Q : e_M → e_F → Prop} {M : e_M} {F : e_F} {c : Int32} (hc : c = F 0 (M 6).toInt.toNat) (hN : 0 ≤ (M 12).toInt ∧ (M 12).toInt < 2100) (hR : e_NR M F) (hs : 0 ≤ (M 6).toInt) (hn : (M 6).toInt < (M 3).toInt) (he : (M 3).toInt ≤ 4000) (hQ : ∀ (M' : e_M) (F' : e_F), (∀ k, k ≠ 4 → k ≠ 5 → k ≠ 12 → M' k = M k) → e_NX M F M' F' → e_TK M' F' → (M' 4).toInt ≠ 0 → Q M' F') : w_wordToken c M F Q := by
  have z0 : ¬ (1 : Int32) = 0 := by decide
  have hB : ∀ t : Int32, t.toInt = 3 ∨ t.toInt = 7 → w_wordToken_30 Q t M F := by
    intro t ht
    refine ⟨5000, p_wt43 hs he (fun M' g0 g1 => hQ M' F (fun k h4 h5 _ => g0 k h4 h5) (e_NX_rf (g0 12 (by decide) (by decide))) ⟨fun q => ?_, fun q => ?_, fun q => ?_, fun q => ?_⟩ ?_) 5000 (M 6) _ (fun k h4 h5 => (e_um_ne h5).trans (e_um_ne h4)) ?_ (by omega) (by omega) (by omega)⟩
    · omega
    · omega
    · omega
    · omega
    · omega
    · exact ht
  have hA7 : w_wordToken_129 Q 7 M F := by
    refine ⟨fun q => absurd rfl q, fun _ => hQ _ _ (fun k h4 _ _ => e_um_ne h4) (e_NX_rf rfl) ⟨fun q => ?_, fun q => ?_, fun q => ?_, fun q => ?_⟩ ?_⟩
    · exact absurd (show (7 : Int32).toInt = 1 from q) (by decide)
    · exact absurd (show (7 : Int32).toInt = 2 from q) (by decide)
    · exact absurd (show (7 : Int32).toInt = 4 from q) (by decide)
    · exact absurd (show (7 : Int32).toInt = 5 from q) (by decide)
    · show (7 : Int32).toInt ≠ 0; decide
  have hnm : ∀ t : Int32, (t.toInt = 1 ∧ 97 ≤ c.toInt ∧ c.toInt ≤ 122 ∨ t.toInt = 2 ∧ ¬ (97 ≤ c.toInt ∧ c.toInt ≤ 122)) → w_name (um (um M 4 t) 5 (-1)) F (fun r7 M8 F8 => Q (um M8 5 r7) F8) := by
    intro t ht
    refine p_name (M := um (um M 4 t) 5 (-1)) hN hR hs hn he (fun r M' F' g0 g1 g2 g3 g4 => ?_)
    have e6 : M' 6 = M 6 := g0 6 (by decide)
    have e3 : M' 3 = M 3 := g0 3 (by decide)
    have e4 : (um M' 5 r) 4 = t := g0 4 (by decide)
    have g5 : F' 0 (F' 7 r.toInt.toNat).toInt.toNat = c := g4.trans hc.symm
    refine hQ _ _ (fun k h4 h5 h12 => (e_um_ne h5).trans ((g0 k h12).trans ((e_um_ne h5).trans (e_um_ne h4)))) g1 ⟨fun q => ?_, fun q => ?_, fun q => ?_, fun q => ?_⟩ ?_
    · rw [e4] at q
      refine ⟨⟨g2, g3⟩, ?_⟩
      show 97 ≤ (F' 0 (F' 7 r.toInt.toNat).toInt.toNat).toInt ∧ (F' 0 (F' 7 r.toInt.toNat).toInt.toNat).toInt ≤ 122
      rw [g5]; omega
    · rw [e4] at q
      refine ⟨⟨g2, g3⟩, ?_⟩
      show ¬ (97 ≤ (F' 0 (F' 7 r.toInt.toNat).toInt.toNat).toInt ∧ (F' 0 (F' 7 r.toInt.toNat).toInt.toNat).toInt ≤ 122)
      rw [g5]; omega
    · rw [e4] at q; omega
    · rw [e4] at q; omega
    · rw [e4]; omega
  refine p_isDigit (fun hnd => ⟨fun _ => ⟨fun hle => p_isSmall (fun hns => ⟨fun _ => ?_, fun q => absurd rfl q⟩) (fun hsm => ⟨fun q => absurd q z0, fun _ => ?_⟩), fun _ => hA7⟩, fun q => absurd rfl q⟩) (fun hd => ⟨fun q => absurd q z0, fun _ => ⟨fun _ => hB 7 (Or.inr (by decide)), fun _ => hB 3 (Or.inl (by decide))⟩⟩)
  · refine ⟨fun _ => ⟨fun _ => ?_, fun q => absurd q (by decide)⟩, fun q => absurd q (by decide)⟩
    refine p_among (M := um M 4 2) e_wT3 hs (Int.le_of_lt hn) he ⟨fun _ => hnm 2 (Or.inr ⟨by decide, hns⟩), fun q => absurd (show (-1 : Int32) < 0 from by decide) q⟩ (fun r j h1 h2 h3 => ⟨fun q => ?_, fun _ => ⟨fun _ => ?_, fun q => absurd q (by show ¬ (2 : Int32) = 1; decide)⟩⟩)
    · exact absurd (Int32.lt_iff_toInt_lt.mp q) (by have := e_z0; omega)
    · refine hQ _ _ (fun k h4 h5 _ => (e_um_ne h4).trans ((e_um_ne h5).trans (e_um_ne h4))) (e_NX_rf rfl) ⟨fun q => ?_, fun q => ?_, fun q => ?_, fun q => ?_⟩ ?_
      · exact absurd (show (5 : Int32).toInt = 1 from q) (by decide)
      · exact absurd (show (5 : Int32).toInt = 2 from q) (by decide)
      · exact absurd (show (5 : Int32).toInt = 4 from q) (by decide)
      · exact ⟨j, h2, h1, h3⟩
      · show (5 : Int32).toInt ≠ 0; decide
  · refine ⟨fun _ => ⟨fun q => absurd rfl q, fun _ => ?_⟩, fun q => absurd q (by decide)⟩
    refine p_among (M := um M 4 1) e_wT2 hs (Int.le_of_lt hn) he ⟨fun _ => hnm 1 (Or.inl ⟨by decide, hsm⟩), fun q => absurd (show (-1 : Int32) < 0 from by decide) q⟩ (fun r j h1 h2 h3 => ⟨fun q => ?_, fun _ => ⟨fun q => absurd (show (1 : Int32) = 1 from rfl) q, fun _ => ?_⟩⟩)
    · exact absurd (Int32.lt_iff_toInt_lt.mp q) (by have := e_z0; omega)
    · refine hQ _ _ (fun k h4 h5 _ => (e_um_ne h4).trans ((e_um_ne h5).trans (e_um_ne h4))) (e_NX_rf rfl) ⟨fun q => ?_, fun q => ?_, fun q => ?_, fun q => ?_⟩ ?_
      · exact absurd (show (4 : Int32).toInt = 1 from q) (by decide)
      · exact absurd (show (4 : Int32).toInt = 2 from q) (by decide)
      · exact ⟨j, h2, h1, h3⟩
      · exact absurd (show (4 : Int32).toInt = 5 from q) (by decide)
      · show (4 : Int32).toInt ≠ 0; decide
/-- the lexer's invariant -/
def e_LI (M : e_M) (F : e_F) : Prop := (0 ≤ (M 2).toInt ∧ (M 2).toInt ≤ 4000) ∧ (0 ≤ (M 6).toInt ∧ (M 6).toInt ≤ (M 3).toInt ∧ (M 3).toInt ≤ (M 2).toInt) ∧ (0 ≤ (M 12).toInt ∧ (2 * (M 12).toInt ≤ (M 3).toInt ∨ (2 * (M 12).toInt ≤ (M 3).toInt + 1 ∧ ((M 2).toInt ≤ (M 3).toInt ∨ ¬ e_ofW (F 0 (M 3).toInt.toNat))))) ∧ e_NR M F
/-- what next() leaves -/
def e_LX (M : e_M) (F : e_F) (M' : e_M) (F' : e_F) : Prop := (∀ k, k ≠ 3 → k ≠ 4 → k ≠ 5 → k ≠ 6 → k ≠ 12 → M' k = M k) ∧ (M 3).toInt ≤ (M' 6).toInt ∧ ((M' 4).toInt ≠ 0 → (M' 6).toInt < (M' 3).toInt) ∧ e_NX M F M' F'
theorem e_NR_go {M M' : e_M} {F F' : e_F} (h : e_NR M F) (hx : e_NX M F M' F') (h0 : 0 ≤ (M' 6).toInt) (h1 : (M' 12).toInt = (M 12).toInt ∨ (M' 6).toInt < (M' 3).toInt) (h2 : (M' 3).toInt ≤ 4000) : e_NR M' F' := by
  intro w hw
  obtain ⟨x1, x2, x3, x4, x5⟩ := hx
  by_cases q : (w : Int) < (M 12).toInt
  · obtain ⟨a, b, c, d⟩ := x4 w q
    rw [a, b]; exact h w q
  · obtain ⟨a, b, c, d⟩ := x5 w (by omega) hw
    rw [a]
    refine ⟨h0, ?_, ?_⟩ <;> omega
