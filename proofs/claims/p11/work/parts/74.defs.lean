/-! THE REFERENCE'S READER: what its rows hold, how they grow. G: ghosts: 0 height of the stack before a code (-1: before a TRY), 1 how many tries are open before it, 2 how many are open before a try, 3 whose an uphold is. -/
abbrev e_G : Type := Nat → Nat → Int
def e_tg (G : e_G) (B L x d : Int) : Prop := B ≤ x ∧ x < L ∧ G 0 x.toNat = 0 ∧ G 1 x.toNat = d
def e_lo (n : Nat) : Int := ([0, 0, 0, 1, 1, 0, 2, 0, 0, 0, 0, 0, 0, 2, 0, 0, 1, 0] : List Int).getD n 0
def e_hi (n : Nat) : Int := ([0, 61, 61, 1, 62, 0, 62, 61, 61, 61, 0, 0, 0, 2, 0, 0, 1, 0] : List Int).getD n 0
def e_dl (n : Nat) : Int := ([0, 1, 1, -1, 0, 0, -1, 1, 1, 1, 0, 0, 0, -2, 0, 0, -1, 0] : List Int).getD n 0
def e_al (n : Nat) : Int := ([0, -2147483648, 0, 0, -2147483648, 0, -2147483648, 0, 0, 0, 0, 0, 0, 0, 0, 0, -2147483648, 0] : List Int).getD n 0
def e_ah (n : Nat) : Int := ([0, 2147483648, 12, 12, 2147483648, 0, 2147483648, 8, 8, 8, 8, 8, 8, 8, 8, 8, 2147483648, 8] : List Int).getD n 0
def e_bl (n : Nat) : Int := ([0, -2147483648, -2147483648, -2147483648, -2147483648, 0, -2147483648, -2147483648, -2147483648, 0, 0, -2147483648, 0, 0, -2147483648, -1, -2147483648, -2147483648] : List Int).getD n 0
def e_bh (n : Nat) : Int := ([0, 2147483648, 2147483648, 2147483648, 2147483648, 0, 2147483648, 2147483648, 2147483648, 8, 8, 2147483648, 8, 7, 2147483648, 8, 2147483648, 2147483648] : List Int).getD n 0
def e_ch (n : Nat) : Int := ([0, 2147483648, 2147483648, 2147483648, 2147483648, 0, 2147483648, 2147483648, 2147483648, 2147483648, 2147483648, 2147483648, 2147483648, 8, 2147483648, 2147483648, 2147483648, 2147483648] : List Int).getD n 0
def e_okc (M : e_M) (F : e_F) (G : e_G) (L : Int) (k : Nat) (a b c h h' d d' : Int) (n : Nat) : Prop :=
  ((n < 18 ∧ n ≠ 0 ∧ n ≠ 5) ∧ (e_lo n ≤ h ∧ h ≤ e_hi n) ∧ h' = h + e_dl n ∧ d' = d ∧ (k : Int) + 1 < L ∧ (e_al n ≤ a ∧ a < e_ah n) ∧ (e_bl n ≤ b ∧ b < e_bh n) ∧ c < e_ch n)
  ∨ (n = 0 ∧ h = 0 ∧ (h' = 0 ∨ h' = -1) ∧ d' = d ∧ (k : Int) + 1 < L)
  ∨ (n = 18 ∧ (h = b ∧ 0 ≤ b) ∧ h' = 0 ∧ d' = d ∧ (k : Int) + 1 < L ∧ (-1 ≤ c ∧ c < 12) ∧ ∃ j : Nat, (j : Int) < (M 46).toInt ∧ (F 42 j).toInt = k ∧ (F 44 j).toInt = b)
  ∨ (n = 19 ∧ h = 1)
  ∨ (n = 20 ∧ h = 0 ∧ e_tg G (9000 * (M 27).toInt) L a d ∧ ((k : Int) < a ∨ F 13 a.toNat = 0))
  ∨ (n = 21 ∧ h = 1 ∧ h' = 0 ∧ d' = d ∧ (k : Int) + 1 < L ∧ e_tg G (9000 * (M 27).toInt) L a d ∧ (k : Int) < a)
  ∨ (n = 22 ∧ h = -1 ∧ h' = 0 ∧ d' = d + 1 ∧ (k : Int) + 1 < L ∧ (400 * (M 27).toInt ≤ a ∧ a < 400 * (M 27).toInt + (M 31).toInt) ∧ G 2 a.toNat = d)
  ∨ (n = 23 ∧ h = 0 ∧ (400 * (M 27).toInt ≤ a ∧ a < 400 * (M 27).toInt + (M 31).toInt) ∧ G 2 a.toNat + 1 = d)
  ∨ (n = 24 ∧ h = 0 ∧ h' = 0 ∧ d' = d - 1 ∧ (k : Int) + 1 < L ∧ 1 ≤ d)
def e_ok (M : e_M) (F : e_F) (G : e_G) (L : Int) (k : Nat) : Prop := ∃ n : Nat, (F 13 k).toInt = n ∧ (0 ≤ G 1 k ∧ G 1 k ≤ 20) ∧ e_okc M F G L k (F 14 k).toInt (F 15 k).toInt (F 16 k).toInt (G 0 k) (G 0 (k + 1)) (G 1 k) (G 1 (k + 1)) n
def e_tok (M : e_M) (F : e_F) (G : e_G) (L : Int) (t : Nat) : Prop := e_tg G (9000 * (M 27).toInt) L (F 22 t).toInt (G 2 t) ∧ (F 21 t = -1 ∨ e_tg G (9000 * (M 27).toInt) L (F 21 t).toInt (G 2 t + 1)) ∧ (F 20 t = -1 ∨ ((400 * (M 27).toInt ≤ (F 20 t).toInt ∧ (F 20 t).toInt < 400 * (M 27).toInt + (M 32).toInt) ∧ G 3 (F 20 t).toInt.toNat = t))
def e_uok (M : e_M) (F : e_F) (G : e_G) (L : Int) (u : Nat) : Prop := (-1 ≤ (F 24 u).toInt ∧ (F 24 u).toInt < 8) ∧ (400 * (M 27).toInt ≤ G 3 u ∧ G 3 u < 400 * (M 27).toInt + (M 31).toInt) ∧ e_tg G (9000 * (M 27).toInt) L (F 25 u).toInt (G 2 (G 3 u).toNat + 1) ∧ (F 26 u = -1 ∨ (((u : Int) < (F 26 u).toInt ∧ (F 26 u).toInt < 400 * (M 27).toInt + (M 32).toInt) ∧ G 3 (F 26 u).toInt.toNat = G 3 u))
def e_SG (M0 M : e_M) (F : e_F) (G : e_G) (L : Int) : Prop := (∀ k : Nat, 9000 * (M 27).toInt + (M0 29).toInt ≤ k → (k : Int) < 9000 * (M 27).toInt + (M 29).toInt → e_ok M F G L k) ∧ (∀ t : Nat, 400 * (M 27).toInt + (M0 31).toInt ≤ t → (t : Int) < 400 * (M 27).toInt + (M 31).toInt → e_tok M F G L t) ∧ (∀ u : Nat, 400 * (M 27).toInt + (M0 32).toInt ≤ u → (u : Int) < 400 * (M 27).toInt + (M 32).toInt → e_uok M F G L u)
def e_en (M : e_M) : Int := 9000 * (M 27).toInt + (M 29).toInt
def e_gd (M : e_M) (F : e_F) : Prop := (M 36).toInt = -1 ∧ (M 38).toInt = -1 ∧ ∀ j : Nat, (j : Int) < (M 46).toInt → (F 44 j).toInt ≤ 4
def e_R1 (M M' : e_M) : Prop := (M' 27 = M 27 ∧ M' 2 = M 2 ∧ M' 30 = M 30 ∧ M' 1 = M 1 ∧ M' 28 = M 28 ∧ ∀ k, 47 < k → M' k = M k) ∧ ((M 29).toInt ≤ (M' 29).toInt ∧ (M 31).toInt ≤ (M' 31).toInt ∧ (M 32).toInt ≤ (M' 32).toInt ∧ (M 46).toInt ≤ (M' 46).toInt ∧ (M 12).toInt ≤ (M' 12).toInt ∧ (M 6).toInt ≤ (M' 6).toInt) ∧ ((M 36).toInt ≠ -1 → (M' 36).toInt ≠ -1) ∧ ((M 38).toInt ≠ -1 → (M' 38).toInt ≠ -1)
/-- the other bank's spots stay -/
def e17 (M : e_M) (F F' : e_F) : Prop := ∀ j : Nat, (j : Int) < 9000 * (M 27).toInt ∨ 9000 * (M 27).toInt + 9000 ≤ j → F' 17 j = F 17 j
def e_R2 (M : e_M) (F F' : e_F) : Prop := (∀ j : Nat, (j : Int) < 9000 * (M 27).toInt + (M 29).toInt ∨ 9000 * (M 27).toInt + 9000 ≤ j → F' 13 j = F 13 j ∧ F' 14 j = F 14 j ∧ F' 15 j = F 15 j ∧ F' 16 j = F 16 j) ∧ (∀ j : Nat, (j : Int) < 400 * (M 27).toInt + (M 31).toInt ∨ 400 * (M 27).toInt + 400 ≤ j → F' 20 j = F 20 j ∧ F' 21 j = F 21 j ∧ F' 22 j = F 22 j) ∧ (∀ j : Nat, (j : Int) < 400 * (M 27).toInt + (M 32).toInt ∨ 400 * (M 27).toInt + 400 ≤ j → F' 23 j = F 23 j ∧ F' 24 j = F 24 j ∧ F' 25 j = F 25 j ∧ F' 26 j = F 26 j) ∧ (F' 18 = F 18 ∧ F' 19 = F 19 ∧ F' 0 = F 0 ∧ (∀ r, 45 < r → F' r = F r) ∧ e17 M F F') ∧ (∀ j : Nat, (j : Int) < (M 46).toInt → F' 42 j = F 42 j ∧ F' 43 j = F 43 j ∧ F' 44 j = F 44 j) ∧ (∀ w : Nat, (w : Int) < (M 12).toInt → F' 7 w = F 7 w ∧ F' 11 w = F 11 w)
def e_R3 (M : e_M) (G G' : e_G) : Prop := (∀ j : Nat, (j : Int) ≤ 9000 * (M 27).toInt + (M 29).toInt → G' 0 j = G 0 j ∧ G' 1 j = G 1 j) ∧ (∀ j : Nat, (j : Int) < 400 * (M 27).toInt + (M 31).toInt → G' 2 j = G 2 j) ∧ ∀ j : Nat, (j : Int) < 400 * (M 27).toInt + (M 32).toInt → G' 3 j = G 3 j
def e_PR (M : e_M) (F : e_F) (G : e_G) (M' : e_M) (F' : e_F) (G' : e_G) : Prop := e_R1 M M' ∧ e_R2 M F F' ∧ e_R3 M G G'
theorem e_PR_rf (M : e_M) (F : e_F) (G : e_G) : e_PR M F G M F G := ⟨⟨⟨rfl, rfl, rfl, rfl, rfl, fun _ _ => rfl⟩, ⟨Int.le_refl _, Int.le_refl _, Int.le_refl _, Int.le_refl _, Int.le_refl _, Int.le_refl _⟩, fun h => h, fun h => h⟩, ⟨fun _ _ => ⟨rfl, rfl, rfl, rfl⟩, fun _ _ => ⟨rfl, rfl, rfl⟩, fun _ _ => ⟨rfl, rfl, rfl, rfl⟩, ⟨rfl, rfl, rfl, fun _ _ => rfl, fun _ _ => rfl⟩, fun _ _ => ⟨rfl, rfl, rfl⟩, fun _ _ => ⟨rfl, rfl⟩⟩, ⟨fun _ _ => ⟨rfl, rfl⟩, fun _ _ => rfl, fun _ _ => rfl⟩⟩
theorem e_PR_tr {M M1 M2 : e_M} {F F1 F2 : e_F} {G G1 G2 : e_G} (h : e_PR M F G M1 F1 G1) (q : e_PR M1 F1 G1 M2 F2 G2) : e_PR M F G M2 F2 G2 := by
  obtain ⟨⟨⟨a1, a2, a3, a4, a5, a6⟩, ⟨b1, b2, b3, b4, b5, b6⟩, c1, c2⟩, ⟨d1, d2, d3, ⟨d4, d5, d6, d7⟩, d8, d9⟩, f1, f2, f3⟩ := h
  obtain ⟨⟨⟨x1, x2, x3, x4, x5, x6⟩, ⟨y1, y2, y3, y4, y5, y6⟩, z1, z2⟩, ⟨w1, w2, w3, ⟨w4, w5, w6, w7⟩, w8, w9⟩, v1, v2, v3⟩ := q
  rw [a1] at w1 w2 w3 v1 v2 v3
  refine ⟨⟨⟨x1.trans a1, x2.trans a2, x3.trans a3, x4.trans a4, x5.trans a5, fun k hk => (x6 k hk).trans (a6 k hk)⟩, ⟨by omega, by omega, by omega, by omega, by omega, by omega⟩, fun g => z1 (c1 g), fun g => z2 (c2 g)⟩, ⟨fun j hj => ?_, fun j hj => ?_, fun j hj => ?_, ⟨w4.trans d4, w5.trans d5, w6.trans d6, fun r hr => (w7.1 r hr).trans (d7.1 r hr), fun j hj => (w7.2 j (by rw [a1]; exact hj)).trans (d7.2 j hj)⟩, fun j hj => ?_, fun j hj => ?_⟩, ⟨fun j hj => ?_, fun j hj => ?_, fun j hj => ?_⟩⟩
  · obtain ⟨p1, p2, p3, p4⟩ := w1 j (by omega)
    obtain ⟨q1, q2, q3, q4⟩ := d1 j hj
    exact ⟨p1.trans q1, p2.trans q2, p3.trans q3, p4.trans q4⟩
  · obtain ⟨p1, p2, p3⟩ := w2 j (by omega)
    obtain ⟨q1, q2, q3⟩ := d2 j hj
    exact ⟨p1.trans q1, p2.trans q2, p3.trans q3⟩
  · obtain ⟨p1, p2, p3, p4⟩ := w3 j (by omega)
    obtain ⟨q1, q2, q3, q4⟩ := d3 j hj
    exact ⟨p1.trans q1, p2.trans q2, p3.trans q3, p4.trans q4⟩
  · obtain ⟨p1, p2, p3⟩ := w8 j (by omega)
    obtain ⟨q1, q2, q3⟩ := d8 j hj
    exact ⟨p1.trans q1, p2.trans q2, p3.trans q3⟩
  · obtain ⟨p1, p2⟩ := w9 j (by omega)
    obtain ⟨q1, q2⟩ := d9 j hj
    exact ⟨p1.trans q1, p2.trans q2⟩
  · obtain ⟨p1, p2⟩ := v1 j (by omega)
    obtain ⟨q1, q2⟩ := f1 j hj
    exact ⟨p1.trans q1, p2.trans q2⟩
  · exact (v2 j (by omega)).trans (f2 j hj)
  · exact (v3 j (by omega)).trans (f3 j hj)
theorem e_PR_gd {M M' : e_M} {F F' : e_F} {G G' : e_G} (h : e_PR M F G M' F' G') (g : e_gd M' F') : e_gd M F := by
  obtain ⟨⟨-, ⟨b1, b2, b3, b4, b5, b6⟩, c1, c2⟩, ⟨d1, d2, d3, -, d8, d9⟩, -⟩ := h
  obtain ⟨g1, g2, g3⟩ := g
  refine ⟨?_, ?_, fun j hj => ?_⟩
  · by_cases q : (M 36).toInt = -1
    · exact q
    · exact absurd g1 (c1 q)
  · by_cases q : (M 38).toInt = -1
    · exact q
    · exact absurd g2 (c2 q)
  · rw [← (d8 j hj).2.2]; exact g3 j (by omega)
theorem e_tg_mo {M M' : e_M} {F F' : e_F} {G G' : e_G} (h : e_PR M F G M' F' G') {L L' x d : Int} (hb : 0 ≤ (M 27).toInt) (hL : L ≤ L') (hl : L ≤ 9000 * (M 27).toInt + (M 29).toInt + 1) (t : e_tg G (9000 * (M 27).toInt) L x d) : e_tg G' (9000 * (M' 27).toInt) L' x d := by
  obtain ⟨⟨⟨a1, -⟩, -⟩, -, f1, -⟩ := h
  obtain ⟨t1, t2, t3, t4⟩ := t
  obtain ⟨q1, q2⟩ := f1 x.toNat (by omega)
  refine ⟨by rw [a1]; exact t1, by omega, q1.trans t3, q2.trans t4⟩
theorem e_ok_mo {M M' : e_M} {F F' : e_F} {G G' : e_G} (h : e_PR M F G M' F' G') {L L' : Int} {k : Nat} (hb : 0 ≤ (M 27).toInt) (hL : L ≤ L') (hl : L ≤ 9000 * (M 27).toInt + (M 29).toInt + 1) (hk : (k : Int) < 9000 * (M 27).toInt + (M 29).toInt) (o : e_ok M F G L k) : e_ok M' F' G' L' k := by
  have hT := fun x d => e_tg_mo (x := x) (d := d) h hb hL hl
  obtain ⟨⟨⟨a1, a2, a3, a4, a5, a6⟩, ⟨b1, b2, b3, b4, b5, b6⟩, c1, c2⟩, ⟨d1, d2, d3, ⟨d4, d5, d6, d7⟩, d8, d9⟩, f1, f2, f3⟩ := h
  obtain ⟨n, o1, o2, o3⟩ := o
  obtain ⟨p1, p2, p3, p4⟩ := d1 k (Or.inl hk)
  obtain ⟨r1, r2⟩ := f1 k (by omega)
  obtain ⟨s1, s2⟩ := f1 (k + 1) (by omega)
  refine ⟨n, by rw [p1]; exact o1, by rw [r2]; exact o2, ?_⟩
  rw [p2, p3, p4, r1, r2, s1, s2]
  rcases o3 with ⟨q0, q1, q2, q3, q4, q5⟩ | ⟨q0, q1, q2, q3, q4⟩ | ⟨q0, q1, q2, q3, q4, q5, j, j1, j2, j3⟩ | q | ⟨q0, q1, q2, q3⟩ | ⟨q0, q1, q2, q3, q4, q5, q6⟩ | ⟨q0, q1, q2, q3, q4, q5, q6⟩ | ⟨q0, q1, q2, q3⟩ | ⟨q0, q1, q2, q3, q4, q5⟩
  · exact Or.inl ⟨q0, q1, q2, q3, by omega, q5⟩
  · exact Or.inr (Or.inl ⟨q0, q1, q2, q3, by omega⟩)
  · obtain ⟨u1, u2, u3⟩ := d8 j j1
    exact Or.inr (Or.inr (Or.inl ⟨q0, q1, q2, q3, by omega, q5, j, by omega, by rw [u1]; exact j2, by rw [u3]; exact j3⟩))
  · exact Or.inr (Or.inr (Or.inr (Or.inl q)))
  · refine Or.inr (Or.inr (Or.inr (Or.inr (Or.inl ⟨q0, q1, hT _ _ q2, ?_⟩))))
    obtain ⟨t1, t2, t3, t4⟩ := q2
    rcases q3 with q | q
    · exact Or.inl q
    · by_cases q2 : (k : Int) < (F 14 k).toInt
      · exact Or.inl q2
      · right
        rw [(d1 _ (Or.inl (by omega))).1]; exact q
  · exact Or.inr (Or.inr (Or.inr (Or.inr (Or.inr (Or.inl ⟨q0, q1, q2, q3, by omega, hT _ _ q5, q6⟩)))))
  · exact Or.inr (Or.inr (Or.inr (Or.inr (Or.inr (Or.inr (Or.inl ⟨q0, q1, q2, q3, by omega, by rw [a1]; omega, (f2 _ (by omega)).trans q6⟩))))))
  · exact Or.inr (Or.inr (Or.inr (Or.inr (Or.inr (Or.inr (Or.inr (Or.inl ⟨q0, q1, by rw [a1]; omega, by rw [f2 _ (by omega)]; exact q3⟩)))))))
  · exact Or.inr (Or.inr (Or.inr (Or.inr (Or.inr (Or.inr (Or.inr (Or.inr ⟨q0, q1, q2, q3, by omega, q5⟩)))))))
theorem e_tok_mo {M M' : e_M} {F F' : e_F} {G G' : e_G} (h : e_PR M F G M' F' G') {L L' : Int} {t : Nat} (hb : 0 ≤ (M 27).toInt) (hL : L ≤ L') (hl : L ≤ 9000 * (M 27).toInt + (M 29).toInt + 1) (hk : (t : Int) < 400 * (M 27).toInt + (M 31).toInt) (o : e_tok M F G L t) : e_tok M' F' G' L' t := by
  have hT := fun x d => e_tg_mo (x := x) (d := d) h hb hL hl
  obtain ⟨⟨⟨a1, a2, a3, a4, a5, a6⟩, ⟨b1, b2, b3, b4, b5, b6⟩, c1, c2⟩, ⟨d1, d2, d3, ⟨d4, d5, d6, d7⟩, d8, d9⟩, f1, f2, f3⟩ := h
  obtain ⟨o1, o2, o3⟩ := o
  obtain ⟨p1, p2, p3⟩ := d2 t (Or.inl hk)
  have g2 := f2 t hk
  unfold e_tok
  rw [p1, p2, p3, g2]
  refine ⟨hT _ _ o1, ?_, ?_⟩
  · rcases o2 with q | q
    · exact Or.inl q
    · exact Or.inr (hT _ _ q)
  · rcases o3 with q | ⟨q1, q2⟩
    · exact Or.inl q
    · right
      exact ⟨by rw [a1]; omega, (f3 _ (by omega)).trans q2⟩
theorem e_uok_mo {M M' : e_M} {F F' : e_F} {G G' : e_G} (h : e_PR M F G M' F' G') {L L' : Int} {u : Nat} (hb : 0 ≤ (M 27).toInt) (hL : L ≤ L') (hl : L ≤ 9000 * (M 27).toInt + (M 29).toInt + 1) (hk : (u : Int) < 400 * (M 27).toInt + (M 32).toInt) (o : e_uok M F G L u) : e_uok M' F' G' L' u := by
  have hT := fun x d => e_tg_mo (x := x) (d := d) h hb hL hl
  obtain ⟨⟨⟨a1, a2, a3, a4, a5, a6⟩, ⟨b1, b2, b3, b4, b5, b6⟩, c1, c2⟩, ⟨d1, d2, d3, ⟨d4, d5, d6, d7⟩, d8, d9⟩, f1, f2, f3⟩ := h
  obtain ⟨o1, o2, o3, o4⟩ := o
  obtain ⟨p0, p1, p2, p3⟩ := d3 u (Or.inl hk)
  have g3 := f3 u hk
  have g2 := f2 (G 3 u).toNat (by omega)
  unfold e_uok
  rw [p1, p2, p3, g3, g2]
  refine ⟨o1, by rw [a1]; omega, hT _ _ o3, ?_⟩
  rcases o4 with q | ⟨q1, q2⟩
  · exact Or.inl q
  · right
    exact ⟨by rw [a1]; omega, (f3 _ (by omega)).trans q2⟩
theorem e_SG_tr {M0 M M' : e_M} {F F' : e_F} {G G' : e_G} (h : e_PR M F G M' F' G') {L L' : Int} (hb : 0 ≤ (M 27).toInt) (hL : L ≤ L') (hl : L ≤ 9000 * (M 27).toInt + (M 29).toInt + 1) (s : e_SG M0 M F G L) (q : e_SG M M' F' G' L') : e_SG M0 M' F' G' L' := by
  have e : M' 27 = M 27 := h.1.1.1
  obtain ⟨s1, s2, s3⟩ := s
  obtain ⟨q1, q2, q3⟩ := q
  rw [e] at q1 q2 q3
  refine ⟨fun k h1 h2 => ?_, fun t h1 h2 => ?_, fun u h1 h2 => ?_⟩ <;> rw [e] at h1 h2
  · by_cases g : (k : Int) < 9000 * (M 27).toInt + (M 29).toInt
    · exact e_ok_mo h hb hL hl g (s1 k h1 g)
    · exact q1 k (by omega) h2
  · by_cases g : (t : Int) < 400 * (M 27).toInt + (M 31).toInt
    · exact e_tok_mo h hb hL hl g (s2 t h1 g)
    · exact q2 t (by omega) h2
  · by_cases g : (u : Int) < 400 * (M 27).toInt + (M 32).toInt
    · exact e_uok_mo h hb hL hl g (s3 u h1 g)
    · exact q3 u (by omega) h2
theorem e_SG_rf {M M' : e_M} {F : e_F} {G : e_G} {L : Int} (h1 : M' 29 = M 29) (h2 : M' 31 = M 31) (h3 : M' 32 = M 32) : e_SG M M' F G L := ⟨fun k a b => absurd b (by rw [h1]; omega), fun k a b => absurd b (by rw [h2]; omega), fun k a b => absurd b (by rw [h3]; omega)⟩
