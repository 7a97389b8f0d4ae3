/-! THE PARSERS' TOKENS: both stand at token t of a text. -/
section PR1
variable {T A V P : Nat → Int32} {n m : Nat} {kf : Nat → Nat} {tf : Nat → List (Nat × Nat)} {N : Nat → Nat} {s : f_S3} {O : Nat × Nat} {M : Nat → Int32} {F : Nat → Nat → Int32}
def q_TX (T A V P : Nat → Int32) (n m : Nat) (kf : Nat → Nat) (tf : Nat → List (Nat × Nat)) : Prop := x_trf T n A V P m kf tf ∧ x_sk T n n (kf m) = n ∧ n ≤ 4000 ∧ m ≤ n ∧ (tf m).length ≤ 2005 ∧ A m = 135 ∧ P m = nI n
theorem x_ty {tb tb' : List (Nat × Nat)} {k e : Nat} {ty v : Int32} (h : x_step T n tb k ty v e tb') : ty ≠ 137 ∧ ty ≠ 135 := by
  have hq : ∀ q, q < 33 → nI (200 + q) ≠ 137 ∧ nI (200 + q) ≠ 135 := by decide +kernel
  rcases h with ⟨-, -, -, ⟨rfl, -⟩ | ⟨rfl, -⟩⟩ | ⟨-, -, -, ⟨-, rfl, -⟩ | ⟨-, ⟨q, h, rfl, -⟩ | ⟨-, rfl, -⟩⟩⟩ | ⟨-, -, ⟨-, -, rfl, -⟩ | ⟨-, -, rfl, -⟩ | ⟨-, -, ⟨h, rfl⟩ | ⟨-, rfl⟩⟩⟩
  · decide
  · decide
  · decide
  · exact hq q h.1
  · split <;> decide
  · decide
  · decide
  · constructor
    · intro q; rw [q] at h; exact absurd h (by decide)
    · intro q; rw [q] at h; exact absurd h (by decide)
  · decide
theorem q_ty (h : q_TX T A V P n m kf tf) {t : Nat} (ht : t ≤ m) : A t ≠ 137 := by
  by_cases q : t = m
  · rw [q, h.2.2.2.2.2.1]; decide
  · exact (x_ty (h.1.2.2 t (by omega)).2.2.1).1
/-- the class's rows of tokens; the class at token t -/
def q_A (s : f_S3) (A V P : Nat → Int32) (m : Nat) : Prop := s.1 26 = nI (m + 1) ∧ ∀ i, i ≤ m → s.2.1 11 i = A i ∧ s.2.1 12 i = V i ∧ s.2.1 13 i = P i
def q_c (s : f_S3) (A V P : Nat → Int32) (t : Nat) : Prop := s.1 11 = nI (t + 1) ∧ s.1 12 = A t ∧ s.1 13 = V t ∧ s.1 14 = P t
def y_adv (s : f_S3) (A V P : Nat → Int32) (t : Nat) : f_S3 := fm (fm (fm (fm s 12 (A (t + 1))) 13 (V (t + 1))) 14 (P (t + 1))) 11 (nI (t + 2))
theorem q_c_adv {t : Nat} : q_c (y_adv s A V P t) A V P (t + 1) := by
  refine ⟨?_, ?_, ?_, ?_⟩
  · show um (um (um (um s.1 12 (A (t + 1))) 13 (V (t + 1))) 14 (P (t + 1))) 11 (nI (t + 2)) 11 = _
    rw [um_eq]
  · show um (um (um (um s.1 12 (A (t + 1))) 13 (V (t + 1))) 14 (P (t + 1))) 11 (nI (t + 2)) 12 = _
    rw [um_ne (by decide), um_ne (by decide), um_ne (by decide), um_eq]
  · show um (um (um (um s.1 12 (A (t + 1))) 13 (V (t + 1))) 14 (P (t + 1))) 11 (nI (t + 2)) 13 = _
    rw [um_ne (by decide), um_ne (by decide), um_eq]
  · show um (um (um (um s.1 12 (A (t + 1))) 13 (V (t + 1))) 14 (P (t + 1))) 11 (nI (t + 2)) 14 = _
    rw [um_ne (by decide), um_eq]
theorem y_advance (hX : q_TX T A V P n m kf tf) (hN : y_N N n) (hA : q_A s A V P m) {t : Nat} (hc : q_c s A V P t) (ht : t < m) {Q : f_S3 → Nat × Nat → Prop} (hQ : Q (y_adv s A V P t) O) : wF_X7_advance N s O Q := by
  obtain ⟨N1, N2, N3, -⟩ := hN
  have hn := hX.2.2.1
  have hm := hX.2.2.2.1
  obtain ⟨a1, a2, a3⟩ := hA.2 (t + 1) (by omega)
  unfold wF_X7_advance
  rw [hc.2.1, hc.1, hA.1, y_le (by omega) (by omega), y_cl (by omega), a1, a2, a3, y_1, N1, N2, N3]
  exact ⟨fun h => absurd h (q_ty hX (by omega)), fun _ => ⟨fun h => by omega, fun _ => ⟨y_in (by omega) (by omega), y_in (by omega) (by omega), y_in (by omega) (by omega), hQ⟩⟩⟩
/-- the reference at token t -/
def q_r (T A V P : Nat → Int32) (n m : Nat) (kf : Nat → Nat) (tf : Nat → List (Nat × Nat)) (M : Nat → Int32) (F : Nat → Nat → Int32) (t : Nat) : Prop := z_T M F T n ∧ M 6 = P t ∧ ((t < m ∧ M 3 = nI (kf (t + 1)) ∧ z_tk (A t) (V t) M ∧ z_tb M F (tf (t + 1))) ∨ (t = m ∧ M 3 = nI n ∧ M 4 = 0 ∧ z_tb M F (tf m)))
theorem z_fr_T {M' : Nat → Int32} {F' : Nat → Nat → Int32} {tb : List (Nat × Nat)} (hf : z_fr M M' F F' tb) (h : z_T M F T n) : z_T M' F' T n := ⟨by rw [hf.1 2 (by decide) (by decide) (by decide) (by decide) (by decide)]; exact h.1, h.2.1, fun i hi => by rw [hf.2.1 0 i (by decide) (by decide) (by decide) (by decide)]; exact h.2.2 i hi⟩
theorem z_adv0 (hX : q_TX T A V P n m kf tf) {k t : Nat} {tb : List (Nat × Nat)} (ht : t ≤ m) (hk : k = kf t) (htb : tb = tf t) (hT : z_T M F T n) (h3 : M 3 = nI k) (hz : z_tb M F tb) {Q : (Nat → Int32) → (Nat → Nat → Int32) → Prop} (hQ : ∀ (M' : Nat → Int32) (F' : Nat → Nat → Int32), q_r T A V P n m kf tf M' F' t → z_fr M M' F F' (tf t) → Q M' F') : w_next M F Q := by
  subst hk htb
  obtain ⟨b1, b2, b3, b4⟩ := x_trf_tb hX.1 t ht
  have h5 := hX.2.2.2.2.1
  refine z_next hT hz b2 b1 (by omega) h3 b4 (fun he M' m3 m6 m4 mz mf => ?_) (fun b hb hbn => ?_)
  · have htm : t = m := by
      by_cases q : t = m
      · exact q
      · have := (hX.1.2.2 t (by omega)).2.1; omega
    subst htm
    exact hQ M' F ⟨z_fr_T mf hT, by rw [m6, hX.2.2.2.2.2.2], Or.inr ⟨rfl, m3, m4, mz⟩⟩ mf
  · have htm : t < m := by
      by_cases q : t = m
      · rw [q, hX.2.1] at hb; omega
      · omega
    obtain ⟨c1, c2, c3, c4⟩ := hX.1.2.2 t htm
    rw [← hb] at c3 c4
    exact ⟨A t, V t, kf (t + 1), tf (t + 1), c3, fun M' F' m3 m6 mk mz mf => hQ M' F' ⟨z_fr_T mf hT, by rw [m6, c4], Or.inl ⟨htm, m3, mk, mz⟩⟩ mf⟩
theorem z_adv (hX : q_TX T A V P n m kf tf) {t : Nat} (hr : q_r T A V P n m kf tf M F t) (ht : t < m) {Q : (Nat → Int32) → (Nat → Nat → Int32) → Prop} (hQ : ∀ (M' : Nat → Int32) (F' : Nat → Nat → Int32), q_r T A V P n m kf tf M' F' (t + 1) → z_fr M M' F F' (tf (t + 1)) → Q M' F') : w_next M F Q := by
  obtain ⟨h1, h2, ⟨h3, h4, h5, h6⟩ | ⟨h3, -⟩⟩ := hr
  · exact z_adv0 hX (t := t + 1) (by omega) rfl rfl h1 h4 h6 hQ
  · omega
end PR1
