def e_PA (M : e_M) : Prop := (0 ≤ (M 27).toInt ∧ (M 27).toInt ≤ 1) ∧ 0 ≤ (M 29).toInt ∧ 0 ≤ (M 31).toInt ∧ 0 ≤ (M 32).toInt ∧ 0 ≤ (M 46).toInt ∧ (0 ≤ (M 33).toInt ∧ (M 33).toInt ≤ 21) ∧ 0 ≤ (M 30).toInt
def e_PN (M : e_M) (F : e_F) : Prop := (∀ w : Nat, (w : Int) < (M 12).toInt → (F 9 w).toInt ≤ (M 30).toInt ∧ -1 ≤ (F 11 w).toInt ∧ (F 11 w).toInt ≤ (M 30).toInt) ∧ ((M 38).toInt = -1 → (0 ≤ (M 34).toInt ∧ (M 34).toInt ≤ 12) ∧ (0 ≤ (M 35).toInt ∧ (M 35).toInt ≤ 8) ∧ ∀ w : Nat, (w : Int) < (M 12).toInt → F 9 w = M 30 → (e_sm F w → 0 ≤ (F 10 w).toInt ∧ (F 10 w).toInt < (M 34).toInt) ∧ (¬ e_sm F w → 0 ≤ (F 10 w).toInt ∧ (F 10 w).toInt < (M 35).toInt))
def e_PH (M : e_M) (F : e_F) : Prop := ∀ j : Nat, (j : Int) < (M 46).toInt → (0 ≤ (F 43 j).toInt ∧ (F 43 j).toInt < (M 12).toInt) ∧ (9000 * (M 27).toInt ≤ (F 42 j).toInt ∧ (F 42 j).toInt < 9000 * (M 27).toInt + (M 29).toInt) ∧ F 13 (F 42 j).toInt.toNat = 18 ∧ 0 ≤ (F 45 j).toInt
def e_PI (M : e_M) (F : e_F) : Prop := e_LI M F ∧ e_TK M F ∧ ((M 4).toInt ≠ 0 → (M 6).toInt < (M 3).toInt) ∧ e_PA M ∧ e_PN M F ∧ e_PH M F
/-- all but the lexer's fields are the same -/
def e_SM (M M' : e_M) : Prop := ∀ k, k ≠ 3 → k ≠ 4 → k ≠ 5 → k ≠ 6 → k ≠ 12 → M' k = M k
theorem e_sm_go {M M' : e_M} {F F' : e_F} (hx : e_NX M F M' F') {w : Nat} (hw : (w : Int) < (M 12).toInt) : e_sm F' w ↔ e_sm F w := by
  obtain ⟨x1, x2, x3, x4, x5⟩ := hx
  unfold e_sm
  rw [x3 0 (by decide) (by decide) (by decide) (by decide), (x4 w hw).1]
theorem e_passX {M M' : e_M} {F F' : e_F} {G : e_G} {Q : Prop} (hI : e_PI M F) (hx : e_LX M F M' F') (hl : e_LI M' F') (ht : e_TK M' F') (hQ : e_PI M' F' → e_PR M F G M' F' G → e_SM M M' → (M 3).toInt ≤ (M' 6).toInt → Q) : Q := by
  obtain ⟨iL, iT, iS, iA, ⟨n1, n2⟩, iH⟩ := hI
  obtain ⟨x0, x1, x2, nx⟩ := hx
  have nx' := nx
  obtain ⟨y1, y2, y3, y4, y5⟩ := nx
  have e := fun k (a : k ≠ 3) (b : k ≠ 4) (c : k ≠ 5) (d : k ≠ 6) (f : k ≠ 12) => x0 k a b c d f
  have h27 := e 27 (by decide) (by decide) (by decide) (by decide) (by decide)
  have h29 := e 29 (by decide) (by decide) (by decide) (by decide) (by decide)
  have h30 := e 30 (by decide) (by decide) (by decide) (by decide) (by decide)
  have h31 := e 31 (by decide) (by decide) (by decide) (by decide) (by decide)
  have h32 := e 32 (by decide) (by decide) (by decide) (by decide) (by decide)
  have h33 := e 33 (by decide) (by decide) (by decide) (by decide) (by decide)
  have h34 := e 34 (by decide) (by decide) (by decide) (by decide) (by decide)
  have h35 := e 35 (by decide) (by decide) (by decide) (by decide) (by decide)
  have h36 := e 36 (by decide) (by decide) (by decide) (by decide) (by decide)
  have h38 := e 38 (by decide) (by decide) (by decide) (by decide) (by decide)
  have h46 := e 46 (by decide) (by decide) (by decide) (by decide) (by decide)
  have h2 := e 2 (by decide) (by decide) (by decide) (by decide) (by decide)
  have h1 := e 1 (by decide) (by decide) (by decide) (by decide) (by decide)
  have h28 := e 28 (by decide) (by decide) (by decide) (by decide) (by decide)
  have r : ∀ r, r ≠ 7 → r ≠ 8 → r ≠ 9 → r ≠ 11 → F' r = F r := y3
  have r43 := r 43 (by decide) (by decide) (by decide) (by decide)
  have r42 := r 42 (by decide) (by decide) (by decide) (by decide)
  have hl' := hl
  obtain ⟨l1, ⟨l2, l3, l4⟩, l5, l6⟩ := hl'
  obtain ⟨l1', ⟨l2', l3', l4'⟩, l5', l6'⟩ := iL
  refine hQ ⟨hl, ht, x2, ?_, ⟨?_, ?_⟩, ?_⟩ ⟨⟨⟨h27, h2, h30, h1, h28, fun k hk => e k (by omega) (by omega) (by omega) (by omega) (by omega)⟩, ⟨by rw [h29]; omega, by rw [h31]; omega, by rw [h32]; omega, by rw [h46]; omega, y1, by omega⟩, by rw [h36]; exact fun h => h, by rw [h38]; exact fun h => h⟩, ⟨fun j _ => ?_, fun j _ => ?_, fun j _ => ?_, ?_, fun j _ => ?_, fun j hj => ?_⟩, ⟨fun _ _ => ⟨rfl, rfl⟩, fun _ _ => rfl, fun _ _ => rfl⟩⟩ x0 x1
  · unfold e_PA; rw [h27, h29, h30, h31, h32, h33, h46]; exact iA
  · intro w hw
    rw [h30]
    by_cases q : (w : Int) < (M 12).toInt
    · obtain ⟨a, b, c, d⟩ := y4 w q
      rw [c, d]; exact n1 w q
    · obtain ⟨a, b, c, d⟩ := y5 w (by omega) hw
      rw [c, d, e_m1]
      have := iA.2.2.2.2.2.2
      omega
  · intro q
    rw [h38] at q
    obtain ⟨m1, m2, m3⟩ := n2 q
    rw [h34, h35, h30]
    refine ⟨m1, m2, fun w hw hh => ?_⟩
    by_cases q : (w : Int) < (M 12).toInt
    · obtain ⟨a, b, c, d⟩ := y4 w q
      rw [e_sm_go nx' q, r 10 (by decide) (by decide) (by decide) (by decide)]
      exact m3 w q (by rw [← c]; exact hh)
    · obtain ⟨a, b, c, d⟩ := y5 w (by omega) hw
      exfalso
      rw [c] at hh
      have := iA.2.2.2.2.2.2
      rw [← hh, e_m1] at this
      omega
  · intro j hj
    rw [h46] at hj
    rw [r43, r42, h27, h29, r 13 (by decide) (by decide) (by decide) (by decide), r 45 (by decide) (by decide) (by decide) (by decide)]
    have := iH j hj
    exact ⟨by omega, by omega, this.2.2⟩
  · rw [r 13 (by decide) (by decide) (by decide) (by decide), r 14 (by decide) (by decide) (by decide) (by decide), r 15 (by decide) (by decide) (by decide) (by decide), r 16 (by decide) (by decide) (by decide) (by decide)]
    exact ⟨rfl, rfl, rfl, rfl⟩
  · rw [r 20 (by decide) (by decide) (by decide) (by decide), r 21 (by decide) (by decide) (by decide) (by decide), r 22 (by decide) (by decide) (by decide) (by decide)]
    exact ⟨rfl, rfl, rfl⟩
  · rw [r 23 (by decide) (by decide) (by decide) (by decide), r 24 (by decide) (by decide) (by decide) (by decide), r 25 (by decide) (by decide) (by decide) (by decide), r 26 (by decide) (by decide) (by decide) (by decide)]
    exact ⟨rfl, rfl, rfl, rfl⟩
  · exact ⟨r 18 (by decide) (by decide) (by decide) (by decide), r 19 (by decide) (by decide) (by decide) (by decide), r 0 (by decide) (by decide) (by decide) (by decide), fun k hk => r k (by omega) (by omega) (by omega) (by omega), fun j _ => congrFun (r 17 (by decide) (by decide) (by decide) (by decide)) j⟩
  · rw [r42, r43, r 44 (by decide) (by decide) (by decide) (by decide)]
    exact ⟨rfl, rfl, rfl⟩
  · obtain ⟨a, b, c, d⟩ := y4 j hj
    exact ⟨a, d⟩
theorem p_passN {M : e_M} {F : e_F} {G : e_G} {Q : e_M → e_F → Prop} (hI : e_PI M F) (hb : (M 36).toInt = -1) (hQ : ∀ (M' : e_M) (F' : e_F), e_PI M' F' → e_PR M F G M' F' G → e_SM M M' → (M 3).toInt ≤ (M' 6).toInt → Q M' F') : w_pass M F Q := by
  have hm : M 36 = -1 := Int32.toInt_inj.mp (by rw [hb]; decide)
  exact ⟨fun _ => ⟨fun q => absurd rfl q, fun _ => p_next hI.1 (fun M' F' hx hl ht => e_passX (G := G) hI hx hl ht (hQ M' F'))⟩, fun q => absurd hm q⟩
theorem p_pass {M : e_M} {F : e_F} {G : e_G} {Q : e_M → e_F → Prop} (hI : e_PI M F) (hb : (M 36).toInt ≠ -1 → Q M F) (hQ : (M 36).toInt = -1 → ∀ (M' : e_M) (F' : e_F), e_PI M' F' → e_PR M F G M' F' G → e_SM M M' → (M 3).toInt ≤ (M' 6).toInt → Q M' F') : w_pass M F Q := by
  by_cases q : (M 36).toInt = -1
  · exact p_passN hI q (hQ q)
  · refine ⟨fun h => absurd (by rw [h]; decide) q, fun _ => ⟨fun _ => hb q, fun h => absurd h (by decide)⟩⟩
/-- fail(): bad from now on -/
theorem p_fail {M : e_M} {F : e_F} {Q : e_M → e_F → Prop} (hQ : ∀ M' : e_M, (∀ k, k ≠ 36 → M' k = M k) → (M' 36).toInt ≠ -1 → Q M' F) (hs : 0 ≤ (M 6).toInt) : w_fail M F Q := by
  refine ⟨fun h => hQ M (fun _ _ => rfl) (fun q => ti_ne h (by rw [q]; decide)), fun _ => hQ (um M 36 (M 6)) (fun k hk => e_um_ne hk) (show (M 6).toInt ≠ -1 from by omega)⟩
/-- all fields but one that the reader's invariant doesn't hold are the same -/
theorem e_PI_go {M M' : e_M} {F : e_F} (h : ∀ k, k ≠ 36 → k ≠ 47 → k ≠ 37 → M' k = M k) (hI : e_PI M F) : e_PI M' F := by
  have e := fun k (a : k ≠ 36) (b : k ≠ 47) (c : k ≠ 37) => h k a b c
  obtain ⟨iL, iT, iS, iA, iN, iH⟩ := hI
  unfold e_PI e_LI e_TK e_PA e_PN e_PH e_NR at *
  rw [e 2 (by decide) (by decide) (by decide), e 3 (by decide) (by decide) (by decide), e 4 (by decide) (by decide) (by decide), e 5 (by decide) (by decide) (by decide), e 6 (by decide) (by decide) (by decide), e 12 (by decide) (by decide) (by decide), e 27 (by decide) (by decide) (by decide), e 29 (by decide) (by decide) (by decide), e 30 (by decide) (by decide) (by decide), e 31 (by decide) (by decide) (by decide), e 32 (by decide) (by decide) (by decide), e 33 (by decide) (by decide) (by decide), e 34 (by decide) (by decide) (by decide), e 35 (by decide) (by decide) (by decide), e 38 (by decide) (by decide) (by decide), e 46 (by decide) (by decide) (by decide)]
  exact ⟨iL, iT, iS, iA, iN, iH⟩
theorem e_PR_go {M M' : e_M} {F : e_F} {G : e_G} (h : ∀ k, k ≠ 36 → k ≠ 47 → k ≠ 37 → k ≠ 33 → M' k = M k) (hb : (M 36).toInt ≠ -1 → (M' 36).toInt ≠ -1) : e_PR M F G M' F G := by
  have e := fun k (a : k ≠ 36) (b : k ≠ 47) (c : k ≠ 37) (d : k ≠ 33) => h k a b c d
  refine ⟨⟨⟨e 27 (by decide) (by decide) (by decide) (by decide), e 2 (by decide) (by decide) (by decide) (by decide), e 30 (by decide) (by decide) (by decide) (by decide), e 1 (by decide) (by decide) (by decide) (by decide), e 28 (by decide) (by decide) (by decide) (by decide), fun k hk => e k (by omega) (by omega) (by omega) (by omega)⟩, ⟨?_, ?_, ?_, ?_, ?_, ?_⟩, hb, by rw [e 38 (by decide) (by decide) (by decide) (by decide)]; exact fun h => h⟩, (e_PR_rf M F G).2⟩
  · rw [e 29 (by decide) (by decide) (by decide) (by decide)]; exact Int.le_refl _
  · rw [e 31 (by decide) (by decide) (by decide) (by decide)]; exact Int.le_refl _
  · rw [e 32 (by decide) (by decide) (by decide) (by decide)]; exact Int.le_refl _
  · rw [e 46 (by decide) (by decide) (by decide) (by decide)]; exact Int.le_refl _
  · rw [e 12 (by decide) (by decide) (by decide) (by decide)]; exact Int.le_refl _
  · rw [e 6 (by decide) (by decide) (by decide) (by decide)]; exact Int.le_refl _
