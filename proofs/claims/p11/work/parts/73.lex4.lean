theorem p_next_229 {Q : e_M → e_F → Prop} {M : e_M} {F : e_F} (a2 : Int32) (h : Q M F) (h7 : Q (um M 4 7) F) : w_next_229 Q a2 M F := ⟨fun _ => h, fun _ => ⟨fun _ => h, fun _ => ⟨fun _ => h, fun _ => ⟨fun _ => h, fun _ => ⟨fun _ => h, fun _ => ⟨fun _ => h, fun _ => ⟨fun _ => h, fun _ => ⟨fun _ => h, fun _ => ⟨fun _ => h, fun _ => ⟨fun _ => h, fun _ => ⟨fun _ => h, fun _ => ⟨fun _ => h, fun _ => ⟨fun _ => h, fun _ => h7⟩⟩⟩⟩⟩⟩⟩⟩⟩⟩⟩⟩⟩
/-- next() -/
theorem p_next_63 {Q : e_M → e_F → Prop} {M : e_M} {F : e_F} (hI : e_LI M F) (hQ : ∀ (M' : e_M) (F' : e_F), e_LX M F M' F' → e_LI M' F' → e_TK M' F' → Q M' F') (a1 : Int32) (h1 : (M 3).toInt ≤ a1.toInt) (h2 : a1.toInt ≤ (M 2).toInt) : w_next_63 Q a1 M F := by
  obtain ⟨⟨i1, i2⟩, ⟨i3, i4, i5⟩, ⟨i6, i7⟩, i8⟩ := hI
  have l1 : (1 : Int32).toInt = 1 := by decide
  have z0 : ¬ (1 : Int32) = 0 := by decide
  have e1 := ti_addx a1 1 (by omega)
  have hS : ∀ M' : e_M, (∀ k, k ≠ 3 → k ≠ 4 → k ≠ 5 → k ≠ 6 → M' k = M k) → M' 6 = a1 → a1.toInt + 1 ≤ (M' 3).toInt → (M' 3).toInt ≤ (M 2).toInt → ((M' 4).toInt = 6 ∨ (M' 4).toInt = 7) → Q M' F := by
    intro M' g0 g6 g3 g3' g4
    have e12 : M' 12 = M 12 := g0 12 (by decide) (by decide) (by decide) (by decide)
    have e2 : M' 2 = M 2 := g0 2 (by decide) (by decide) (by decide) (by decide)
    refine hQ M' F ⟨fun k h3 h4 h5 h6 _ => g0 k h3 h4 h5 h6, by rw [g6]; exact h1, fun _ => by rw [g6]; omega, e_NX_rf e12⟩ ⟨by rw [e2]; exact ⟨i1, i2⟩, by rw [g6, e2]; omega, by rw [e12]; omega, by intro w hw; rw [e12] at hw; exact i8 w hw⟩ ⟨?_, ?_, ?_, ?_⟩
    · intro q; omega
    · intro q; omega
    · intro q; omega
    · intro q; omega
  have h190 : ∀ (a2 : Int32) (M' : e_M), (∀ k, k ≠ 3 → k ≠ 4 → k ≠ 5 → k ≠ 6 → M' k = M k) → M' 6 = a1 → M' 3 = a1 + 1 → M' 4 = 6 → a1.toInt < (M 2).toInt → w_next_190 Q a2 M' F := by
    intro a2 M' g0 g6 g3 g4 g9
    have l6 : (6 : Int32).toInt = 6 := by decide
    have h229 : w_next_229 Q a2 M' F := p_next_229 a2 (hS M' g0 g6 (by rw [g3]; omega) (by rw [g3]; omega) (by rw [g4]; omega)) (hS (um M' 4 7) (fun k a b c d => (e_um_ne b).trans (g0 k a b c d)) g6 (by show _ ≤ (M' 3).toInt; rw [g3]; omega) (by show (M' 3).toInt ≤ _; rw [g3]; omega) (Or.inr (show (7 : Int32).toInt = 7 from by decide)))
    have e2 : M' 2 = M 2 := g0 2 (by decide) (by decide) (by decide) (by decide)
    refine ⟨fun _ => h229, fun _ => p_byteAt (by rw [g3]; omega) (by rw [e2]; exact i2) (fun _ => ⟨fun _ => h229, fun q => absurd q (by decide)⟩) (fun hl => ⟨fun _ => h229, fun _ => ?_⟩)⟩
    rw [g3, e2] at hl
    have e9 := ti_addx (a1 + 1) 1 (by omega)
    refine hS _ (fun k a b c d => (e_um_ne a).trans ((e_um_ne c).trans (g0 k a b c d))) g6 ?_ ?_ ?_
    · show _ ≤ (M' 3 + 1).toInt; rw [g3]; omega
    · show (M' 3 + 1).toInt ≤ _; rw [g3]; omega
    · show (M' 4).toInt = 6 ∨ (M' 4).toInt = 7; rw [g4]; omega
  have hW : e_ofW (F 0 a1.toInt.toNat) → a1.toInt < (M 2).toInt → ∀ (n : Nat) (M' : e_M), (∀ k, k ≠ 3 → k ≠ 6 → M' k = M k) → M' 6 = a1 → a1.toInt + 1 ≤ (M' 3).toInt → (M' 3).toInt ≤ (M 2).toInt → (M 2).toInt - (M' 3).toInt < n → w_next_107 Q n (F 0 a1.toInt.toNat) M' F := by
    intro hw hl n
    have hnm : 2 * (M 12).toInt ≤ a1.toInt := by
      rcases i7 with q | ⟨q, q2⟩
      · omega
      · by_cases qe : (M 3).toInt = a1.toInt
        · rcases q2 with q3 | q3
          · omega
          · rw [qe] at q3; exact absurd hw q3
        · omega
    induction n with
    | zero => intro M' g0 g6 g3 g3' g9; exact absurd g9 (by omega)
    | succ n ih =>
      intro M' g0 g6 g3 g3' g9
      have e2 : M' 2 = M 2 := g0 2 (by decide) (by decide)
      have e12 : M' 12 = M 12 := g0 12 (by decide) (by decide)
      have hend : ((M 2).toInt ≤ (M' 3).toInt ∨ ¬ e_ofW (F 0 (M' 3).toInt.toNat)) → w_wordToken (F 0 a1.toInt.toNat) M' F (fun M13 F13 => Q M13 F13) := by
        intro hstop
        refine p_wordToken (by rw [g6]) (by rw [e12]; omega) (by intro w hw; rw [e12] at hw; exact i8 w hw) (by rw [g6]; omega) (by rw [g6]; omega) (by omega) (fun M2 F2 k0 k1 k2 k3 => ?_)
        have x6 : M2 6 = a1 := (k0 6 (by decide) (by decide) (by decide)).trans g6
        have x3 : M2 3 = M' 3 := k0 3 (by decide) (by decide) (by decide)
        have x2 : M2 2 = M 2 := (k0 2 (by decide) (by decide) (by decide)).trans e2
        have nx : e_NX M F M2 F2 := by
          obtain ⟨y1, y2, y3, y4, y5⟩ := k1
          rw [e12] at y1 y2
          refine ⟨y1, y2, y3, fun w hw => y4 w (by rw [e12]; exact hw), fun w hw => y5 w (by rw [e12]; exact hw)⟩
        refine hQ M2 F2 ⟨fun k a b c d e => (k0 k b c e).trans (g0 k a d), by rw [x6]; exact h1, fun _ => by rw [x6, x3]; omega, nx⟩ ⟨by rw [x2]; exact ⟨i1, i2⟩, by rw [x6, x3, x2]; omega, ?_, e_NR_go i8 nx (by rw [x6]; omega) (Or.inr (by rw [x6, x3]; omega)) (by rw [x3]; omega)⟩ k2
        obtain ⟨y1, y2, y3, y4, y5⟩ := nx
        rw [x3, x2, y3 0 (by decide) (by decide) (by decide) (by decide)]
        refine ⟨by omega, Or.inr ⟨by omega, hstop⟩⟩
      dsimp only [w_next_107]
      refine p_byteAt (by omega) (by rw [e2]; exact i2) (fun hl2 => p_isOfWord (fun _ => ⟨fun _ => hend (Or.inl (by rw [e2] at hl2; exact hl2)), fun q => absurd rfl q⟩) (fun q => absurd q ?_)) (fun hl2 => p_isOfWord (fun q => ⟨fun _ => hend (Or.inr q), fun q => absurd rfl q⟩) (fun _ => ⟨fun q => absurd q z0, fun _ => ?_⟩))
      · unfold e_ofW; decide
      · rw [e2] at hl2
        have e9 := ti_addx (M' 3) 1 (by omega)
        exact ih (um M' 3 (M' 3 + 1)) (fun k a b => (e_um_ne a).trans (g0 k a b)) g6 (by show _ ≤ (M' 3 + 1).toInt; omega) (by show (M' 3 + 1).toInt ≤ _; omega) (by show _ - (M' 3 + 1).toInt < _; omega)
  refine p_byteAt (M := um M 6 a1) (by omega) i2 (fun hl => ⟨fun q => ?_, fun _ => ?_⟩) (fun hl => ⟨fun _ => ?_, fun q => ?_⟩)
  · have hl' : (M 2).toInt ≤ a1.toInt := hl
    have : a1.toInt < (M 2).toInt := Int32.lt_iff_toInt_lt.mp q
    omega
  · have hl' : (M 2).toInt ≤ a1.toInt := hl
    refine hQ _ _ ⟨fun k a b c d e => (e_um_ne a).trans ((e_um_ne b).trans ((e_um_ne a).trans (e_um_ne d))), h1, fun q => absurd (show (0 : Int32).toInt = 0 from by decide) q, e_NX_rf rfl⟩ ⟨⟨i1, i2⟩, ⟨show 0 ≤ a1.toInt from by omega, show a1.toInt ≤ a1.toInt from by omega, h2⟩, ⟨i6, Or.inr ⟨show 2 * (M 12).toInt ≤ a1.toInt + 1 from by omega, Or.inl hl'⟩⟩, i8⟩ ⟨?_, ?_, ?_, ?_⟩
    · intro q; exact absurd (show (0 : Int32).toInt = 1 from q) (by decide)
    · intro q; exact absurd (show (0 : Int32).toInt = 2 from q) (by decide)
    · intro q; exact absurd (show (0 : Int32).toInt = 4 from q) (by decide)
    · intro q; exact absurd (show (0 : Int32).toInt = 5 from q) (by decide)
  · have hl' : a1.toInt < (M 2).toInt := hl
    refine p_isOfWord (fun _ => ⟨fun _ => ⟨fun _ => ?_, fun _ => ?_⟩, fun q => absurd rfl q⟩) (fun hw => ⟨fun q => absurd q z0, fun _ => ⟨5000, ?_⟩⟩)
    · exact h190 _ _ (fun k a b c d => (e_um_ne c).trans ((e_um_ne b).trans ((e_um_ne a).trans (e_um_ne d)))) rfl rfl rfl hl'
    · have hz := h190 (F 0 a1.toInt.toNat) (um (um (um (um M 6 a1) 3 (a1 + 1)) 4 6) 5 (F 0 a1.toInt.toNat)) (fun k a b c d => (e_um_ne c).trans ((e_um_ne b).trans ((e_um_ne a).trans (e_um_ne d)))) rfl rfl rfl hl'
      refine p_byteAt (show 0 ≤ (a1 + 1).toInt from by omega) i2 (fun _ => ⟨fun _ => hz, fun q => absurd q (by decide)⟩) (fun hl3 => ⟨fun _ => hz, fun _ => ?_⟩)
      have hl3' : (a1 + 1).toInt < (M 2).toInt := hl3
      have e9 := ti_addx (a1 + 1) 1 (by omega)
      refine hS _ (fun k a b c d => (e_um_ne a).trans ((e_um_ne c).trans ((e_um_ne c).trans ((e_um_ne b).trans ((e_um_ne a).trans (e_um_ne d)))))) rfl ?_ ?_ ?_
      · show _ ≤ (a1 + 1 + 1).toInt; omega
      · show (a1 + 1 + 1).toInt ≤ _; omega
      · show (6 : Int32).toInt = 6 ∨ (6 : Int32).toInt = 7; decide
    · exact hW hw hl' 5000 _ (fun k a d => (e_um_ne a).trans (e_um_ne d)) rfl (show a1.toInt + 1 ≤ (a1 + 1).toInt from by omega) (show (a1 + 1).toInt ≤ _ from by omega) (show _ - (a1 + 1).toInt < _ from by omega)
  · have hl' : a1.toInt < (M 2).toInt := hl
    exact absurd (Int32.lt_iff_toInt_lt.mpr hl') q
theorem p_next {Q : e_M → e_F → Prop} {M : e_M} {F : e_F} (hI : e_LI M F) (hQ : ∀ (M' : e_M) (F' : e_F), e_LX M F M' F' → e_LI M' F' → e_TK M' F' → Q M' F') : w_next M F Q := by
  have hI' := hI
  obtain ⟨⟨i1, i2⟩, ⟨i3, i4, i5⟩, ⟨i6, i7⟩, i8⟩ := hI'
  have l1 : (1 : Int32).toInt = 1 := by decide
  have hL : ∀ (n : Nat) (a1 : Int32), (M 3).toInt ≤ a1.toInt → a1.toInt ≤ (M 2).toInt → (M 2).toInt - a1.toInt < n → w_next_5 Q n a1 M F := by
    intro n
    induction n with
    | zero => intro a1 h1 h2 h3; exact absurd h3 (by omega)
    | succ n ih =>
      intro a1 h1 h2 h3
      have h63 := p_next_63 hI hQ a1 h1 h2
      refine ⟨fun _ => h63, fun h => ?_⟩
      have h9 := ti_nle h
      have e := ti_addx a1 1 (by omega)
      have h57 : w_next_57 (w_next_5 Q n) Q a1 M F := ih (a1 + 1) (by omega) (by omega) (by omega)
      have hv : vp_in a1 4020 := vp_in_iff.mpr (by omega)
      exact ⟨hv, fun _ => h57, fun _ => ⟨hv, fun _ => h57, fun _ => ⟨hv, fun _ => h57, fun _ => ⟨hv, fun _ => h63, fun _ => h57⟩⟩⟩⟩
  exact ⟨5000, hL 5000 (M 3) (by omega) (by omega) (by omega)⟩
