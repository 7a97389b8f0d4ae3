/-! BOTH TRIALS, HELD AGAINST EACH OTHER. K: the class's ints, how many; the class's place of a reference's code, of a try's lastly, of an uphold's head; the tries (with their phases) that are open before a code, around a try; whose an uphold is; bank; ends of codes, tries, upholds; hearings. -/
section TQ1
abbrev k_K : Type := (Nat → Int32) × Nat × (Nat → Nat) × (Nat → Nat) × (Nat → Nat) × (Nat → List (Nat × Nat)) × (Nat → List (Nat × Nat)) × (Nat → Nat) × Nat × Nat × Nat × Nat × Nat × (Nat → Int32) × (Nat → Nat → Int32)
abbrev K_C (K : k_K) : Nat → Int32 := K.1
abbrev K_z (K : k_K) : Nat := K.2.1
abbrev K_A (K : k_K) : Nat → Nat := K.2.2.1
abbrev K_L (K : k_K) : Nat → Nat := K.2.2.2.1
abbrev K_H (K : k_K) : Nat → Nat := K.2.2.2.2.1
abbrev K_x (K : k_K) : Nat → List (Nat × Nat) := K.2.2.2.2.2.1
abbrev K_o (K : k_K) : Nat → List (Nat × Nat) := K.2.2.2.2.2.2.1
abbrev K_w (K : k_K) : Nat → Nat := K.2.2.2.2.2.2.2.1
abbrev K_B (K : k_K) : Nat := K.2.2.2.2.2.2.2.2.1
abbrev K_E (K : k_K) : Nat := K.2.2.2.2.2.2.2.2.2.1
abbrev K_T (K : k_K) : Nat := K.2.2.2.2.2.2.2.2.2.2.1
abbrev K_V (K : k_K) : Nat := K.2.2.2.2.2.2.2.2.2.2.2.1
abbrev K_N (K : k_K) : Nat := K.2.2.2.2.2.2.2.2.2.2.2.2.1
abbrev K_P (K : k_K) : (Nat → Int32) × (Nat → Nat → Int32) := K.2.2.2.2.2.2.2.2.2.2.2.2.2
def k_hx (K : k_K) (v : Int32) : Int32 := if v = -1 then -1 else nI (K_H K v.toNatClampNeg)
def k_sg (a : Int32) : Int32 := if a = 43 then 14 else if a = 45 then 15 else if a = 42 then 16 else if a = 47 then 17 else if a = 37 then 18 else if a = 60 then 19 else if a = 300 then 20 else 21
def k_wh (b : Int32) : Int32 := if b = 0 then 1 else if b = 1 then 2 else if b = 2 then 6 else if b = 3 then 7 else 3
def k_bc (c : Int32) : Int32 := if c = -1 then -2 else if c = -2 then -1 else c
/-- what stands in the class's Program for a code: op n, its three numbers, its spot; j: where it jumps; t, l: a try's upholds and lastly; h: a hearing -/
def k_e (n a b c w j t l h : Int32) : List Int32 :=
  if n = 0 then [0] else if n = 1 then [7, a] else if n = 2 then [8, a] else if n = 3 then [9, a] else if n = 4 then [11] else if n = 6 then [k_sg a] else if n = 7 then [22, a, k_wh b] else if n = 8 then [23, a, b] else if n = 9 then [24, a, b] else if n = 10 then [25, a, b] else if n = 11 then [25, a, -1] else if n = 12 then [26, a, b] else if n = 13 then [27, a, b, w, k_bc c] else if n = 14 then [28, a] else if n = 15 then [29, a, b] else if n = 16 then [1] else if n = 17 then [30, a] else if n = 18 then (if c = -1 then [2, h, b, 10] else [2, h, b, 9, c]) else if n = 19 then [3] else if n = 20 then [12, j] else if n = 21 then [13, j] else if n = 22 then [4, t, l] else if n = 23 then [5] else [6]
def k_en (K : k_K) (F : e_F) (k : Nat) : List Int32 := k_e (F 13 k) (F 14 k) (F 15 k) (F 16 k) (F 17 k) (nI (K_A K (F 14 k).toNatClampNeg)) (k_hx K (F 20 (F 14 k).toNatClampNeg)) (nI (K_L K (F 14 k).toNatClampNeg)) (F 14 k - nI (400 * K_B K))
def k_tg (K : k_K) (v : Int32) (c : List (Nat × Nat)) : Prop := ∃ t : Nat, v = nI t ∧ 9000 * K_B K ≤ t ∧ t < K_E K ∧ K_x K t = c
/-- tries in one another: each with what is around it -/
def k_wf (K : k_K) : List (Nat × Nat) → Prop
  | [] => True
  | (a, ph) :: c => K_o K a = c ∧ (400 * K_B K ≤ a ∧ a < K_T K) ∧ ph ≤ 2 ∧ k_wf K c
/-- a code is right in the class's Program -/
def k_at (K : k_K) (F : e_F) (k : Nat) : Prop :=
  (K_A K k + (k_en K F k).length ≤ K_z K ∧ ∀ i, i < (k_en K F k).length → K_C K (K_A K k + i) = (k_en K F k).getD i 0)
  ∧ (¬ F 13 k = 19 → ¬ F 13 k = 20 → ¬ F 13 k = 23 → K_A K (k + 1) = K_A K k + (k_en K F k).length ∧ k + 1 < K_E K)
  ∧ (¬ F 13 k = 19 → ¬ F 13 k = 20 → ¬ F 13 k = 23 → ¬ F 13 k = 22 → ¬ F 13 k = 24 → K_x K (k + 1) = K_x K k)
  ∧ (F 13 k = 20 ∨ F 13 k = 21 → k_tg K (F 14 k) (K_x K k))
  ∧ (F 13 k = 22 → ∃ a : Nat, F 14 k = nI a ∧ (400 * K_B K ≤ a ∧ a < K_T K) ∧ K_x K (k + 1) = (a, 0) :: K_x K k ∧ K_o K a = K_x K k)
  ∧ (F 13 k = 23 → ∃ a ph : Nat, F 14 k = nI a ∧ (400 * K_B K ≤ a ∧ a < K_T K) ∧ ph < 2 ∧ K_x K k = (a, ph) :: K_o K a)
  ∧ (F 13 k = 24 → ∃ a : Nat, K_x K k = (a, 2) :: K_o K a ∧ K_x K (k + 1) = K_o K a)
  ∧ ((F 13 k = 8 → ¬ F 15 k = -1) ∧ (F 13 k = 13 → -2 ≤ (F 16 k).toInt))
  ∧ (F 13 k = 18 → ∃ h : Nat, h < K_N K ∧ F 14 k = nI (400 * K_B K + h))
  ∧ k_wf K (K_x K k)
def k_t (K : k_K) (F : e_F) (t : Nat) : Prop :=
  (F 21 t = -1 → K_C K (K_L K t) = 6 ∧ ∃ e : Nat, F 22 t = nI e ∧ (9000 * K_B K ≤ e ∧ e < K_E K) ∧ K_A K e = K_L K t + 1 ∧ K_x K e = K_o K t)
  ∧ (¬ F 21 t = -1 → ∃ l : Nat, F 21 t = nI l ∧ (9000 * K_B K ≤ l ∧ l < K_E K) ∧ K_A K l = K_L K t ∧ K_x K l = (t, 2) :: K_o K t)
  ∧ (F 20 t = -1 ∨ ∃ u : Nat, F 20 t = nI u ∧ (400 * K_B K ≤ u ∧ u < K_V K) ∧ K_w K u = t)
  ∧ K_L K t < K_z K
def k_u (K : k_K) (F : e_F) (u : Nat) : Prop :=
  K_H K u + 3 ≤ K_z K ∧ K_C K (K_H K u) = F 23 u ∧ K_C K (K_H K u + 1) = F 24 u ∧ K_C K (K_H K u + 2) = k_hx K (F 26 u)
  ∧ (∃ a : Nat, F 25 u = nI a ∧ (9000 * K_B K ≤ a ∧ a < K_E K) ∧ K_A K a = K_H K u + 3 ∧ K_x K a = (K_w K u, 1) :: K_o K (K_w K u))
  ∧ (F 26 u = -1 ∨ ∃ v : Nat, F 26 u = nI v ∧ (u < v ∧ v < K_V K) ∧ K_w K v = K_w K u)
  ∧ (¬ F 23 u = -1 ∧ -1 ≤ (F 24 u).toInt ∧ (F 24 u).toInt < 8)
def k_h (K : k_K) (F : e_F) (h : Nat) : Prop := ∃ a : Nat, F 18 (400 * K_B K + h) = nI a ∧ (9000 * K_B K ≤ a ∧ a < K_E K) ∧ K_x K a = [] ∧ (F 13 a = 0 ∨ (F 13 a = 1 ∧ F 13 (a + 1) = 19))
def k_cor (K : k_K) (F : e_F) : Prop := (K_z K < 1000000 ∧ K_B K ≤ 1 ∧ K_E K ≤ 9000 * K_B K + 9000 ∧ K_T K ≤ 800 ∧ K_V K ≤ 2500 ∧ K_N K ≤ 16) ∧ (∀ k, 9000 * K_B K ≤ k → k < K_E K → k_at K F k) ∧ (∀ t, 400 * K_B K ≤ t → t < K_T K → k_t K F t) ∧ (∀ u, 400 * K_B K ≤ u → u < K_V K → k_u K F u) ∧ ∀ h, h < K_N K → k_h K F h
/-- the class's state against the reference's: where it is; objections; minutes; code; names; hearings; tries; numbers that wait -/
def S_1 (p : Nat) (st ra : Int32) (s : f_S3) : Prop := s.1 49 = nI p ∧ s.1 53 = st ∧ s.1 54 = ra
def S_D (s : f_S3) (O : Nat × Nat) (M : e_M) (F : e_F) : Prop := (s.1 22 = M 54 ∧ s.1 23 = M 56) ∧ ((0 ≤ (M 54).toInt ∧ (M 54).toInt ≤ 8000) ∧ 7 * (M 54).toInt ≤ ((448 * 2 ^ O.2 : Nat) : Int) ∧ O.2 ≤ 7) ∧ (∀ i : Nat, (i : Int) < (M 54).toInt → (s.2.1 99 (7 * i) = F 48 (i + 1) ∧ s.2.1 99 (7 * i + 1) = F 49 (i + 1) ∧ s.2.1 99 (7 * i + 2) = F 50 (i + 1) ∧ s.2.1 99 (7 * i + 3) = nI (i + 1) ∧ s.2.1 99 (7 * i + 4) = F 51 (i + 1) ∧ s.2.1 99 (7 * i + 5) = F 53 (i + 1) ∧ s.2.1 99 (7 * i + 6) = F 52 (i + 1)) ∧ (F 53 (i + 1) = 0 ∨ F 53 (i + 1) = 1)) ∧ ∀ j : Nat, 7 * (M 54).toInt ≤ (j : Int) → s.2.1 99 j = 0
def S_M (s : f_S3) (M : e_M) (F : e_F) : Prop := (s.1 36 = M 78 ∧ s.1 48 = M 79 ∧ s.1 31 = M 80 ∧ s.1 38 = M 82 ∧ s.1 37 = M 81) ∧ (∀ j : Nat, (j : Int) < (M 80).toInt → s.2.1 14 j = F 84 j) ∧ s.1 22 - s.1 21 = M 55 ∧ 0 ≤ (M 55).toInt ∧ (M 55).toInt ≤ 100
/-- what a hearing leaves alone -/
def k_fr (P : (Nat → Int32) × (Nat → Nat → Int32)) (s : f_S3) : Prop := (s.1 1 = P.1 1 ∧ s.1 3 = P.1 3 ∧ s.1 4 = P.1 4 ∧ s.1 32 = P.1 32 ∧ s.1 33 = P.1 33 ∧ s.1 34 = P.1 34 ∧ s.1 35 = P.1 35 ∧ s.1 64 = P.1 64) ∧ s.2.1 10 = P.2 10 ∧ s.2.1 11 = P.2 11 ∧ s.2.1 12 = P.2 12 ∧ s.2.1 13 = P.2 13
def k_e2 (s s' : f_S3) : Prop := (s'.1 1 = s.1 1 ∧ s'.1 3 = s.1 3 ∧ s'.1 4 = s.1 4 ∧ s'.1 32 = s.1 32 ∧ s'.1 33 = s.1 33 ∧ s'.1 34 = s.1 34 ∧ s'.1 35 = s.1 35 ∧ s'.1 64 = s.1 64) ∧ s'.2.1 10 = s.2.1 10 ∧ s'.2.1 11 = s.2.1 11 ∧ s'.2.1 12 = s.2.1 12 ∧ s'.2.1 13 = s.2.1 13
def S_C (K : k_K) (s : f_S3) (F : e_F) : Prop := (s.1 63 = nI (K_z K) ∧ k_fr (K_P K) s) ∧ (∀ i, i < K_z K → s.2.1 20 i = K_C K i) ∧ ∀ h, h < K_N K → s.2.1 21 h = nI (K_A K (F 18 (400 * K_B K + h)).toNatClampNeg) ∧ s.2.1 22 h = F 19 (400 * K_B K + h)
def S_N (s : f_S3) (M : e_M) (F : e_F) : Prop := (∀ j : Nat, (j : Int) < 12 * (M 62).toInt → s.2.1 15 j = F 57 j) ∧ ∀ j : Nat, (j : Int) < 8 * (M 62).toInt → s.2.1 16 j = F 58 j
def S_R (K : k_K) (s : f_S3) (M : e_M) (F : e_F) : Prop := ∀ i : Nat, 1 ≤ i → (i : Int) < (M 62).toInt → ∃ k : Nat, (9000 * K_B K ≤ k ∧ k < K_E K) ∧ F 59 i = nI (k + 1) ∧ F 13 k = 18 ∧ F 60 i = F 16 k ∧ s.2.1 17 i = nI (K_A K k + 3)
def S_T (K : k_K) (s : f_S3) (M : e_M) (F : e_F) : Prop := s.1 51 = M 67 ∧ (∀ t : Nat, (t : Int) < (M 67).toInt → s.2.1 18 (5 * t + 1) = (if F 64 t = 0 then k_hx K (F 20 (F 63 t).toNatClampNeg) else -1) ∧ s.2.1 18 (5 * t + 2) = (if F 64 t = 2 then -1 else nI (K_L K (F 63 t).toNatClampNeg)) ∧ (F 64 t = 2 → s.2.1 18 (5 * t + 3) = F 65 t ∧ s.2.1 18 (5 * t + 4) = F 66 t)) ∧ ∀ i t : Nat, (i : Int) < (M 62).toInt → e_b F i ≤ t → ((i : Int) + 1 < (M 62).toInt → (t : Int) < e_b F (i + 1)) → (t : Int) < (M 67).toInt → s.2.1 18 (5 * t) = nI (i + 1)
def S_V (s : f_S3) (M : e_M) (F : e_F) : Prop := s.1 52 = M 69 ∧ ∀ j : Nat, (j : Int) < (M 69).toInt → s.2.1 19 j = F 68 j
def S_a (K : k_K) (s : f_S3) (O : Nat × Nat) (M : e_M) (F : e_F) : Prop := S_D s O M F ∧ S_M s M F ∧ S_C K s F
def S_b (K : k_K) (s : f_S3) (M : e_M) (F : e_F) : Prop := S_N s M F ∧ S_R K s M F ∧ S_T K s M F
def S_s (K : k_K) (p : Nat) (st ra : Int32) (s : f_S3) (O : Nat × Nat) (M : e_M) (F : e_F) : Prop := S_1 p st ra s ∧ S_a K s O M F ∧ S_b K s M F ∧ s.1 50 = M 62 ∧ S_V s M F
variable {K : k_K} {N : Nat → Nat} {s s' : f_S3} {O : Nat × Nat} {M M' : e_M} {F F' : e_F} {p : Nat} {st ra : Int32}
theorem S_D_cg (h : S_D s O M F) (e : s'.1 22 = s.1 22 ∧ s'.1 23 = s.1 23) (r : s'.2.1 99 = s.2.1 99) (m : M' 54 = M 54 ∧ M' 56 = M 56) (f : F' 48 = F 48 ∧ F' 49 = F 49 ∧ F' 50 = F 50 ∧ F' 51 = F 51 ∧ F' 52 = F 52 ∧ F' 53 = F 53) : S_D s' O M' F' := by
  obtain ⟨e1, e2⟩ := e
  obtain ⟨m1, m2⟩ := m
  obtain ⟨f1, f2, f3, f4, f5, f6⟩ := f
  unfold S_D
  rw [e1, e2, r, m1, m2, f1, f2, f3, f4, f5, f6]
  exact h
theorem S_M_cg (h : S_M s M F) (e : s'.1 36 = s.1 36 ∧ s'.1 48 = s.1 48 ∧ s'.1 31 = s.1 31 ∧ s'.1 38 = s.1 38 ∧ s'.1 37 = s.1 37 ∧ s'.1 22 = s.1 22 ∧ s'.1 21 = s.1 21) (r : s'.2.1 14 = s.2.1 14) (m : M' 78 = M 78 ∧ M' 79 = M 79 ∧ M' 80 = M 80 ∧ M' 82 = M 82 ∧ M' 81 = M 81 ∧ M' 55 = M 55) (f : F' 84 = F 84) : S_M s' M' F' := by
  obtain ⟨e1, e2, e3, e4, e5, e6, e7⟩ := e
  obtain ⟨m1, m2, m3, m4, m5, m6⟩ := m
  unfold S_M
  rw [e1, e2, e3, e4, e5, e6, e7, r, m1, m2, m3, m4, m5, m6, f]
  exact h
theorem S_C_cg (h : S_C K s F) (e : s'.1 63 = s.1 63) (r : s'.2.1 20 = s.2.1 20 ∧ s'.2.1 21 = s.2.1 21 ∧ s'.2.1 22 = s.2.1 22) (f : F' 18 = F 18 ∧ F' 19 = F 19) (x : k_e2 s s' := by exact ⟨⟨rfl, rfl, rfl, rfl, rfl, rfl, rfl, rfl⟩, rfl, rfl, rfl, rfl⟩) : S_C K s' F' := by
  obtain ⟨⟨x1, x2, x3, x4, x5, x6, x7, x8⟩, x9, x10, x11, x12⟩ := x
  unfold S_C k_fr
  rw [e, r.1, r.2.1, r.2.2, f.1, f.2, x1, x2, x3, x4, x5, x6, x7, x8, x9, x10, x11, x12]
  exact h
theorem S_N_cg (h : S_N s M F) (r : s'.2.1 15 = s.2.1 15 ∧ s'.2.1 16 = s.2.1 16) (m : M' 62 = M 62) (f : F' 57 = F 57 ∧ F' 58 = F 58) : S_N s' M' F' := by
  unfold S_N
  rw [r.1, r.2, m, f.1, f.2]
  exact h
theorem S_R_cg (h : S_R K s M F) (r : s'.2.1 17 = s.2.1 17) (m : M' 62 = M 62) (f : F' 59 = F 59 ∧ F' 60 = F 60 ∧ F' 13 = F 13 ∧ F' 16 = F 16) : S_R K s' M' F' := by
  unfold S_R
  rw [r, m, f.1, f.2.1, f.2.2.1, f.2.2.2]
  exact h
theorem S_T_cg (h : S_T K s M F) (e : s'.1 51 = s.1 51) (r : s'.2.1 18 = s.2.1 18) (m : M' 62 = M 62 ∧ M' 67 = M 67) (f : F' 20 = F 20 ∧ F' 61 = F 61 ∧ F' 63 = F 63 ∧ F' 64 = F 64 ∧ F' 65 = F 65 ∧ F' 66 = F 66) : S_T K s' M' F' := by
  obtain ⟨f1, f2, f3, f4, f5, f6⟩ := f
  unfold S_T e_b
  rw [e, r, m.1, m.2, f1, f2, f3, f4, f5, f6]
  exact h
theorem S_V_cg (h : S_V s M F) (e : s'.1 52 = s.1 52) (r : s'.2.1 19 = s.2.1 19) (m : M' 69 = M 69) (f : F' 68 = F 68) : S_V s' M' F' := by
  unfold S_V
  rw [e, r, m, f]
  exact h
theorem t_nat {x : Int32} {n : Nat} (h : 0 ≤ x.toInt ∧ x.toInt < n) : ∃ j : Nat, j < n ∧ x = nI j ∧ x.toInt = j ∧ x.toNatClampNeg = j := by
  refine ⟨x.toInt.toNat, by omega, Int32.toInt_inj.mp ?_, by omega, rfl⟩
  have hx := Int32.toInt_lt x
  rw [fs_nI (by omega)]
  omega
end TQ1
