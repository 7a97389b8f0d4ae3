/-! THE TOLD CODE: what a good reading leaves, in the words that a trial needs. -/
def e_opc (F : e_F) (G : e_G) (B N E T : Int) (k : Nat) (a b c h h' d d' : Int) (n : Nat) : Prop :=
  ((n < 18 ∧ n ≠ 0 ∧ n ≠ 5) ∧ (e_lo n ≤ h ∧ h ≤ e_hi n) ∧ h' = h + e_dl n ∧ d' = d ∧ (k : Int) + 1 < E ∧ (e_al n ≤ a ∧ a < e_ah n) ∧ (e_bl n ≤ b ∧ b < e_bh n) ∧ c < e_ch n)
  ∨ (n = 0 ∧ h = 0 ∧ (h' = 0 ∨ h' = -1) ∧ d' = d ∧ (k : Int) + 1 < E)
  ∨ (n = 18 ∧ (h = b ∧ 0 ≤ b ∧ b ≤ 4) ∧ h' = 0 ∧ d' = d ∧ (k : Int) + 1 < E ∧ (-1 ≤ c ∧ c < 12) ∧ (400 * B ≤ a ∧ a < 400 * B + N))
  ∨ (n = 19 ∧ h = 1)
  ∨ (n = 20 ∧ h = 0 ∧ e_tg G (9000 * B) E a d ∧ ((k : Int) < a ∨ F 13 a.toNat = 0))
  ∨ (n = 21 ∧ h = 1 ∧ h' = 0 ∧ d' = d ∧ (k : Int) + 1 < E ∧ e_tg G (9000 * B) E a d ∧ (k : Int) < a)
  ∨ (n = 22 ∧ h = -1 ∧ h' = 0 ∧ d' = d + 1 ∧ (k : Int) + 1 < E ∧ (400 * B ≤ a ∧ a < 400 * B + T) ∧ G 2 a.toNat = d)
  ∨ (n = 23 ∧ h = 0 ∧ (400 * B ≤ a ∧ a < 400 * B + T) ∧ G 2 a.toNat + 1 = d)
  ∨ (n = 24 ∧ h = 0 ∧ h' = 0 ∧ d' = d - 1 ∧ (k : Int) + 1 < E ∧ 1 ≤ d)
def e_op (F : e_F) (G : e_G) (B N E T : Int) (k : Nat) : Prop := ∃ n : Nat, (F 13 k).toInt = n ∧ (0 ≤ G 1 k ∧ G 1 k ≤ 20) ∧ e_opc F G B N E T k (F 14 k).toInt (F 15 k).toInt (F 16 k).toInt (G 0 k) (G 0 (k + 1)) (G 1 k) (G 1 (k + 1)) n
def e_top (F : e_F) (G : e_G) (B E V : Int) (t : Nat) : Prop := e_tg G (9000 * B) E (F 22 t).toInt (G 2 t) ∧ (F 21 t = -1 ∨ e_tg G (9000 * B) E (F 21 t).toInt (G 2 t + 1)) ∧ (F 20 t = -1 ∨ ((400 * B ≤ (F 20 t).toInt ∧ (F 20 t).toInt < 400 * B + V) ∧ G 3 (F 20 t).toInt.toNat = t))
def e_uop (F : e_F) (G : e_G) (B E T V : Int) (u : Nat) : Prop := (-1 ≤ (F 24 u).toInt ∧ (F 24 u).toInt < 8) ∧ (400 * B ≤ G 3 u ∧ G 3 u < 400 * B + T) ∧ e_tg G (9000 * B) E (F 25 u).toInt (G 2 (G 3 u).toNat + 1) ∧ (F 26 u = -1 ∨ (((u : Int) < (F 26 u).toInt ∧ (F 26 u).toInt < 400 * B + V) ∧ G 3 (F 26 u).toInt.toNat = G 3 u))
def e_SC (G : e_G) (B N E T V : Int) (F : e_F) : Prop := ((0 ≤ B ∧ B ≤ 1) ∧ (0 ≤ N ∧ N ≤ 400) ∧ (9000 * B ≤ E ∧ E ≤ 9000 * B + 9000) ∧ (0 ≤ T ∧ T ≤ 400) ∧ (0 ≤ V ∧ V ≤ 400)) ∧ (∀ k : Nat, 9000 * B ≤ k → (k : Int) < E → e_op F G B N E T k) ∧ (∀ t : Nat, 400 * B ≤ t → (t : Int) < 400 * B + T → e_top F G B E V t) ∧ (∀ u : Nat, 400 * B ≤ u → (u : Int) < 400 * B + V → e_uop F G B E T V u) ∧ (∀ r : Nat, 400 * B ≤ r → (r : Int) < 400 * B + N → e_tg G (9000 * B) E (F 18 r).toInt 0)
def e_CODE (B N : Int) (F : e_F) : Prop := ∃ (G : e_G) (E T V : Int), e_SC G B N E T V F
theorem e_SC_cg {G : e_G} {B N E T V : Int} {F F' : e_F} (h1 : ∀ j : Nat, 9000 * B ≤ j → (j : Int) < 9000 * B + 9000 → F' 13 j = F 13 j ∧ F' 14 j = F 14 j ∧ F' 15 j = F 15 j ∧ F' 16 j = F 16 j) (h2 : ∀ j : Nat, 400 * B ≤ j → (j : Int) < 400 * B + 400 → F' 18 j = F 18 j ∧ (F' 20 j = F 20 j ∧ F' 21 j = F 21 j ∧ F' 22 j = F 22 j) ∧ (F' 24 j = F 24 j ∧ F' 25 j = F 25 j ∧ F' 26 j = F 26 j)) (h : e_SC G B N E T V F) : e_SC G B N E T V F' := by
  obtain ⟨hb, c1, c2, c3, c4⟩ := h
  refine ⟨hb, fun k a b => ?_, fun t a b => ?_, fun u a b => ?_, fun r a b => ?_⟩
  · obtain ⟨n, o1, o2, o3⟩ := c1 k a b
    obtain ⟨p1, p2, p3, p4⟩ := h1 k a (by omega)
    refine ⟨n, by rw [p1]; exact o1, o2, ?_⟩
    rw [p2, p3, p4]
    rcases o3 with q | q | q | q | ⟨q0, q1, q2, q3⟩ | q | q | q | q
    · exact Or.inl q
    · exact Or.inr (Or.inl q)
    · exact Or.inr (Or.inr (Or.inl q))
    · exact Or.inr (Or.inr (Or.inr (Or.inl q)))
    · refine Or.inr (Or.inr (Or.inr (Or.inr (Or.inl ⟨q0, q1, q2, ?_⟩))))
      rcases q3 with q3 | q3
      · exact Or.inl q3
      · right
        obtain ⟨t1, t2, -⟩ := q2
        rw [(h1 (F 14 k).toInt.toNat (by omega) (by omega)).1]; exact q3
    · exact Or.inr (Or.inr (Or.inr (Or.inr (Or.inr (Or.inl q)))))
    · exact Or.inr (Or.inr (Or.inr (Or.inr (Or.inr (Or.inr (Or.inl q))))))
    · exact Or.inr (Or.inr (Or.inr (Or.inr (Or.inr (Or.inr (Or.inr (Or.inl q)))))))
    · exact Or.inr (Or.inr (Or.inr (Or.inr (Or.inr (Or.inr (Or.inr (Or.inr q)))))))
  · obtain ⟨-, ⟨p1, p2, p3⟩, -⟩ := h2 t a (by omega)
    have := c2 t a b
    unfold e_top at this ⊢
    rw [p1, p2, p3]; exact this
  · obtain ⟨-, -, p1, p2, p3⟩ := h2 u a (by omega)
    have := c3 u a b
    unfold e_uop at this ⊢
    rw [p1, p2, p3]; exact this
  · rw [(h2 r a (by omega)).1]; exact c4 r a b
/-- a code of a good reading, once its hearing is known -/
theorem e_op_of {M : e_M} {F : e_F} {G : e_G} {E : Int} {k : Nat} (o : e_ok M F G E k) (h4 : ∀ j : Nat, (j : Int) < (M 46).toInt → (F 44 j).toInt ≤ 4) (ha : ∀ j : Nat, (j : Int) < (M 46).toInt → 400 * (M 27).toInt ≤ (F 14 (F 42 j).toInt.toNat).toInt ∧ (F 14 (F 42 j).toInt.toNat).toInt < 400 * (M 27).toInt + (M 30).toInt) : e_op F G (M 27).toInt (M 30).toInt E (M 31).toInt k := by
  obtain ⟨n, o1, o2, o3⟩ := o
  refine ⟨n, o1, o2, ?_⟩
  rcases o3 with q | q | ⟨q0, q1, q2, q3, q4, q5, j, j1, j2, j3⟩ | q | q | q | q | q | q
  · exact Or.inl q
  · exact Or.inr (Or.inl q)
  · have a1 := ha j j1
    have a2 := h4 j j1
    have e : (F 42 j).toInt.toNat = k := by omega
    rw [e] at a1
    exact Or.inr (Or.inr (Or.inl ⟨q0, ⟨q1.1, q1.2, by omega⟩, q2, q3, q4, q5, a1⟩))
  · exact Or.inr (Or.inr (Or.inr (Or.inl q)))
  · exact Or.inr (Or.inr (Or.inr (Or.inr (Or.inl q))))
  · exact Or.inr (Or.inr (Or.inr (Or.inr (Or.inr (Or.inl q)))))
  · exact Or.inr (Or.inr (Or.inr (Or.inr (Or.inr (Or.inr (Or.inl q))))))
  · exact Or.inr (Or.inr (Or.inr (Or.inr (Or.inr (Or.inr (Or.inr (Or.inl q)))))))
  · exact Or.inr (Or.inr (Or.inr (Or.inr (Or.inr (Or.inr (Or.inr (Or.inr q)))))))
theorem e_ok_18 {M : e_M} {F : e_F} {G : e_G} {L : Int} {k : Nat} {w v : Int32} (h : F 13 w.toInt.toNat = 18) (o : e_ok M F G L k) : e_ok M (uf F 14 w v) G L k := by
  by_cases q : k = w.toInt.toNat
  · have h18 : (F 13 k).toInt = 18 := by rw [q, h]; decide
    obtain ⟨n, o1, o2, o3⟩ := o
    have hn : n = 18 := by omega
    subst hn
    refine ⟨18, h18, o2, Or.inr (Or.inr (Or.inl ?_))⟩
    rcases o3 with q | q | q | q | q | q | q | q | q
    · exact absurd q.1.1 (by decide)
    · exact absurd q.1 (by decide)
    · exact q
    · exact absurd q.1 (by decide)
    · exact absurd q.1 (by decide)
    · exact absurd q.1 (by decide)
    · exact absurd q.1 (by decide)
    · exact absurd q.1 (by decide)
    · exact absurd q.1 (by decide)
  · exact e_ok_14 q o
theorem p_nextZ {Q : e_M → e_F → Prop} {M : e_M} {F : e_F} (hI : e_LI (um M 6 0) F) (hQ : ∀ (M' : e_M) (F' : e_F), e_LX (um M 6 0) F M' F' → e_LI M' F' → e_TK M' F' → Q M' F') : w_next M F Q := by
  have hI' := hI
  obtain ⟨⟨i1, i2⟩, ⟨i3, i4, i5⟩, ⟨i6, i7⟩, i8⟩ := hI'
  have i2' : (M 2).toInt ≤ 4000 := i2
  have i4' : 0 ≤ (M 3).toInt := by
    have a : (um M 6 0 6).toInt ≤ (M 3).toInt := i4
    have b : 0 ≤ (um M 6 0 6).toInt := i3
    omega
  have i5' : (M 3).toInt ≤ (M 2).toInt := i5
  have l1 : (1 : Int32).toInt = 1 := by decide
  have hL : ∀ (n : Nat) (a1 : Int32), (M 3).toInt ≤ a1.toInt → a1.toInt ≤ (M 2).toInt → (M 2).toInt - a1.toInt < n → w_next_5 Q n a1 M F := by
    intro n
    induction n with
    | zero => intro a1 h1 h2 h3; exact absurd h3 (by omega)
    | succ n ih =>
      intro a1 h1 h2 h3
      have h63 : w_next_63 Q a1 M F := by
        have h := p_next_63 (M := um M 6 0) hI hQ a1 h1 h2
        have e : um (um M 6 0) 6 a1 = um M 6 a1 := by
          funext k
          rw [um_at, um_at, um_at]
          by_cases q : k = 6
          · rw [if_pos q, if_pos q]
          · rw [if_neg q, if_neg q, if_neg q]
        unfold w_next_63 at h ⊢
        rw [e] at h
        exact h
      refine ⟨fun _ => h63, fun h => ?_⟩
      have h9 := ti_nle h
      have e := ti_addx a1 1 (by omega)
      have h57 : w_next_57 (w_next_5 Q n) Q a1 M F := ih (a1 + 1) (by omega) (by omega) (by omega)
      have hv : vp_in a1 4020 := vp_in_iff.mpr (by omega)
      exact ⟨hv, fun _ => h57, fun _ => ⟨hv, fun _ => h57, fun _ => ⟨hv, fun _ => h57, fun _ => ⟨hv, fun _ => h63, fun _ => h57⟩⟩⟩⟩
  exact ⟨5000, hL 5000 (M 3) (by omega) (by omega) (by omega)⟩
