def tb_c (c : Nat) : Nat := bif Nat.beq c 99 then 98 else c
def tb_T_r (c : Nat) (I : Nat) : Option Nat := match I with
  | 0 => some 10
  | 2 => some 5
  | 5 => some 2
  | 6 => some 3
  | 7 => some 4
  | 8 => some 1
  | 10 => some 2
  | 11 => some 3
  | 12 => some 4
  | 13 => some 11
  | 14 => some 12
  | 15 => some 13
  | 20 => some 99
  | 30 => some 14
  | 40 => some 2
  | 41 => some 3
  | 42 => some 15
  | 43 => some 16
  | 44 => some 17
  | 45 => some 18
  | 46 => some 19
  | 47 => some (tb_c c)
  | 60 => some 20
  | 61 => some 21
  | 62 => some 22
  | _ => none
def tb_T (c : Nat) : b_T := ([(0, 11, 0, 9), (1, 0, 10, 6), (2, 2, 20, 4), (3, 5, 30, 9), (4, 8, 40, 16), (5, 6, 60, 5)], [(10, 2), (11, 0), (12, 0), (13, 0), (99, 0), (14, 0), (15, 0), (16, 0), (17, 0), (18, 0), (19, 0), (20, 0), (21, 0), (22, 0)], tb_T_r c)
theorem oT_0 {g : b_S} {c : Nat} (hg : g.1 = tb_T c) : g.1.1[0]? = some (0, 11, 0, 9) := by rw [hg]; rfl
theorem fT_0 {g : b_S} {c : Nat} (hg : g.1 = tb_T c) : g.1.2.2 (0 + 0) = some 10 := by rw [hg]; rfl
theorem fT_1 {g : b_S} {c : Nat} (hg : g.1 = tb_T c) : g.1.2.2 (0 + 1) = none := by rw [hg]; rfl
theorem fT_2 {g : b_S} {c : Nat} (hg : g.1 = tb_T c) : g.1.2.2 (0 + 2) = some 5 := by rw [hg]; rfl
theorem fT_3 {g : b_S} {c : Nat} (hg : g.1 = tb_T c) : g.1.2.2 (0 + 3) = none := by rw [hg]; rfl
theorem fT_4 {g : b_S} {c : Nat} (hg : g.1 = tb_T c) : g.1.2.2 (0 + 4) = none := by rw [hg]; rfl
theorem fT_5 {g : b_S} {c : Nat} (hg : g.1 = tb_T c) : g.1.2.2 (0 + 5) = some 2 := by rw [hg]; rfl
theorem fT_6 {g : b_S} {c : Nat} (hg : g.1 = tb_T c) : g.1.2.2 (0 + 6) = some 3 := by rw [hg]; rfl
theorem fT_7 {g : b_S} {c : Nat} (hg : g.1 = tb_T c) : g.1.2.2 (0 + 7) = some 4 := by rw [hg]; rfl
theorem fT_8 {g : b_S} {c : Nat} (hg : g.1 = tb_T c) : g.1.2.2 (0 + 8) = some 1 := by rw [hg]; rfl
theorem oT_1 {g : b_S} {c : Nat} (hg : g.1 = tb_T c) : g.1.1[1]? = some (1, 0, 10, 6) := by rw [hg]; rfl
theorem fT_10 {g : b_S} {c : Nat} (hg : g.1 = tb_T c) : g.1.2.2 (10 + 0) = some 2 := by rw [hg]; rfl
theorem fT_11 {g : b_S} {c : Nat} (hg : g.1 = tb_T c) : g.1.2.2 (10 + 1) = some 3 := by rw [hg]; rfl
theorem fT_12 {g : b_S} {c : Nat} (hg : g.1 = tb_T c) : g.1.2.2 (10 + 2) = some 4 := by rw [hg]; rfl
theorem fT_13 {g : b_S} {c : Nat} (hg : g.1 = tb_T c) : g.1.2.2 (10 + 3) = some 11 := by rw [hg]; rfl
theorem fT_14 {g : b_S} {c : Nat} (hg : g.1 = tb_T c) : g.1.2.2 (10 + 4) = some 12 := by rw [hg]; rfl
theorem fT_15 {g : b_S} {c : Nat} (hg : g.1 = tb_T c) : g.1.2.2 (10 + 5) = some 13 := by rw [hg]; rfl
theorem oT_2 {g : b_S} {c : Nat} (hg : g.1 = tb_T c) : g.1.1[2]? = some (2, 2, 20, 4) := by rw [hg]; rfl
theorem fT_20 {g : b_S} {c : Nat} (hg : g.1 = tb_T c) : g.1.2.2 (20 + 0) = some 99 := by rw [hg]; rfl
theorem fT_21 {g : b_S} {c : Nat} (hg : g.1 = tb_T c) : g.1.2.2 (20 + 1) = none := by rw [hg]; rfl
theorem fT_22 {g : b_S} {c : Nat} (hg : g.1 = tb_T c) : g.1.2.2 (20 + 2) = none := by rw [hg]; rfl
theorem fT_23 {g : b_S} {c : Nat} (hg : g.1 = tb_T c) : g.1.2.2 (20 + 3) = none := by rw [hg]; rfl
theorem oT_3 {g : b_S} {c : Nat} (hg : g.1 = tb_T c) : g.1.1[3]? = some (3, 5, 30, 9) := by rw [hg]; rfl
theorem fT_30 {g : b_S} {c : Nat} (hg : g.1 = tb_T c) : g.1.2.2 (30 + 0) = some 14 := by rw [hg]; rfl
theorem fT_31 {g : b_S} {c : Nat} (hg : g.1 = tb_T c) : g.1.2.2 (30 + 1) = none := by rw [hg]; rfl
theorem fT_32 {g : b_S} {c : Nat} (hg : g.1 = tb_T c) : g.1.2.2 (30 + 2) = none := by rw [hg]; rfl
theorem fT_33 {g : b_S} {c : Nat} (hg : g.1 = tb_T c) : g.1.2.2 (30 + 3) = none := by rw [hg]; rfl
theorem fT_34 {g : b_S} {c : Nat} (hg : g.1 = tb_T c) : g.1.2.2 (30 + 4) = none := by rw [hg]; rfl
theorem fT_35 {g : b_S} {c : Nat} (hg : g.1 = tb_T c) : g.1.2.2 (30 + 5) = none := by rw [hg]; rfl
theorem fT_36 {g : b_S} {c : Nat} (hg : g.1 = tb_T c) : g.1.2.2 (30 + 6) = none := by rw [hg]; rfl
theorem fT_37 {g : b_S} {c : Nat} (hg : g.1 = tb_T c) : g.1.2.2 (30 + 7) = none := by rw [hg]; rfl
theorem fT_38 {g : b_S} {c : Nat} (hg : g.1 = tb_T c) : g.1.2.2 (30 + 8) = none := by rw [hg]; rfl
theorem oT_4 {g : b_S} {c : Nat} (hg : g.1 = tb_T c) : g.1.1[4]? = some (4, 8, 40, 16) := by rw [hg]; rfl
theorem fT_40 {g : b_S} {c : Nat} (hg : g.1 = tb_T c) : g.1.2.2 (40 + 0) = some 2 := by rw [hg]; rfl
theorem fT_41 {g : b_S} {c : Nat} (hg : g.1 = tb_T c) : g.1.2.2 (40 + 1) = some 3 := by rw [hg]; rfl
theorem fT_42 {g : b_S} {c : Nat} (hg : g.1 = tb_T c) : g.1.2.2 (40 + 2) = some 15 := by rw [hg]; rfl
theorem fT_43 {g : b_S} {c : Nat} (hg : g.1 = tb_T c) : g.1.2.2 (40 + 3) = some 16 := by rw [hg]; rfl
theorem fT_44 {g : b_S} {c : Nat} (hg : g.1 = tb_T c) : g.1.2.2 (40 + 4) = some 17 := by rw [hg]; rfl
theorem fT_45 {g : b_S} {c : Nat} (hg : g.1 = tb_T c) : g.1.2.2 (40 + 5) = some 18 := by rw [hg]; rfl
theorem fT_46 {g : b_S} {c : Nat} (hg : g.1 = tb_T c) : g.1.2.2 (40 + 6) = some 19 := by rw [hg]; rfl
theorem fT_47 {g : b_S} (hg : g.1 = tb_T 5) : g.1.2.2 (40 + 7) = some 5 := by rw [hg]; rfl
theorem fT_48 {g : b_S} {c : Nat} (hg : g.1 = tb_T c) : g.1.2.2 (40 + 8) = none := by rw [hg]; rfl
theorem fT_49 {g : b_S} {c : Nat} (hg : g.1 = tb_T c) : g.1.2.2 (40 + 9) = none := by rw [hg]; rfl
theorem fT_50 {g : b_S} {c : Nat} (hg : g.1 = tb_T c) : g.1.2.2 (40 + 10) = none := by rw [hg]; rfl
theorem fT_51 {g : b_S} {c : Nat} (hg : g.1 = tb_T c) : g.1.2.2 (40 + 11) = none := by rw [hg]; rfl
theorem fT_52 {g : b_S} {c : Nat} (hg : g.1 = tb_T c) : g.1.2.2 (40 + 12) = none := by rw [hg]; rfl
theorem fT_53 {g : b_S} {c : Nat} (hg : g.1 = tb_T c) : g.1.2.2 (40 + 13) = none := by rw [hg]; rfl
theorem fT_54 {g : b_S} {c : Nat} (hg : g.1 = tb_T c) : g.1.2.2 (40 + 14) = none := by rw [hg]; rfl
theorem fT_55 {g : b_S} {c : Nat} (hg : g.1 = tb_T c) : g.1.2.2 (40 + 15) = none := by rw [hg]; rfl
theorem oT_5 {g : b_S} {c : Nat} (hg : g.1 = tb_T c) : g.1.1[5]? = some (5, 6, 60, 5) := by rw [hg]; rfl
theorem fT_60 {g : b_S} {c : Nat} (hg : g.1 = tb_T c) : g.1.2.2 (60 + 0) = some 20 := by rw [hg]; rfl
theorem fT_61 {g : b_S} {c : Nat} (hg : g.1 = tb_T c) : g.1.2.2 (60 + 1) = some 21 := by rw [hg]; rfl
theorem fT_62 {g : b_S} {c : Nat} (hg : g.1 = tb_T c) : g.1.2.2 (60 + 2) = some 22 := by rw [hg]; rfl
theorem fT_63 {g : b_S} {c : Nat} (hg : g.1 = tb_T c) : g.1.2.2 (60 + 3) = none := by rw [hg]; rfl
theorem fT_64 {g : b_S} {c : Nat} (hg : g.1 = tb_T c) : g.1.2.2 (60 + 4) = none := by rw [hg]; rfl
theorem aT_10 {g : b_S} {c : Nat} (hg : g.1 = tb_T c) : g.1.2.1[0]? = some (10, 2) := by rw [hg]; rfl
theorem aT_11 {g : b_S} {c : Nat} (hg : g.1 = tb_T c) : g.1.2.1[1]? = some (11, 0) := by rw [hg]; rfl
theorem aT_12 {g : b_S} {c : Nat} (hg : g.1 = tb_T c) : g.1.2.1[2]? = some (12, 0) := by rw [hg]; rfl
theorem aT_13 {g : b_S} {c : Nat} (hg : g.1 = tb_T c) : g.1.2.1[3]? = some (13, 0) := by rw [hg]; rfl
theorem aT_99 {g : b_S} {c : Nat} (hg : g.1 = tb_T c) : g.1.2.1[4]? = some (99, 0) := by rw [hg]; rfl
theorem aT_14 {g : b_S} {c : Nat} (hg : g.1 = tb_T c) : g.1.2.1[5]? = some (14, 0) := by rw [hg]; rfl
theorem aT_15 {g : b_S} {c : Nat} (hg : g.1 = tb_T c) : g.1.2.1[6]? = some (15, 0) := by rw [hg]; rfl
theorem aT_16 {g : b_S} {c : Nat} (hg : g.1 = tb_T c) : g.1.2.1[7]? = some (16, 0) := by rw [hg]; rfl
theorem aT_17 {g : b_S} {c : Nat} (hg : g.1 = tb_T c) : g.1.2.1[8]? = some (17, 0) := by rw [hg]; rfl
theorem aT_18 {g : b_S} {c : Nat} (hg : g.1 = tb_T c) : g.1.2.1[9]? = some (18, 0) := by rw [hg]; rfl
theorem aT_19 {g : b_S} {c : Nat} (hg : g.1 = tb_T c) : g.1.2.1[10]? = some (19, 0) := by rw [hg]; rfl
theorem aT_20 {g : b_S} {c : Nat} (hg : g.1 = tb_T c) : g.1.2.1[11]? = some (20, 0) := by rw [hg]; rfl
theorem aT_21 {g : b_S} {c : Nat} (hg : g.1 = tb_T c) : g.1.2.1[12]? = some (21, 0) := by rw [hg]; rfl
theorem aT_22 {g : b_S} {c : Nat} (hg : g.1 = tb_T c) : g.1.2.1[13]? = some (22, 0) := by rw [hg]; rfl
theorem okT (c : Nat) : b_ok (tb_T c) := by
  refine ⟨?_, ?_⟩
  · intro i j p q hi hj hij I hI
    have hi' : i < 6 := (List.getElem?_eq_some_iff.mp hi).1
    have hj' : j < 6 := (List.getElem?_eq_some_iff.mp hj).1
    revert hI hij
    match i, hi' with
    | 0, _ =>
      match j, hj' with
      | 0, _ => cases hi; cases hj; intro hij hI; exact hij rfl
      | 1, _ => cases hi; cases hj; intro hij hI; simp only at hI; omega
      | 2, _ => cases hi; cases hj; intro hij hI; simp only at hI; omega
      | 3, _ => cases hi; cases hj; intro hij hI; simp only at hI; omega
      | 4, _ => cases hi; cases hj; intro hij hI; simp only at hI; omega
      | 5, _ => cases hi; cases hj; intro hij hI; simp only at hI; omega
    | 1, _ =>
      match j, hj' with
      | 0, _ => cases hi; cases hj; intro hij hI; simp only at hI; omega
      | 1, _ => cases hi; cases hj; intro hij hI; exact hij rfl
      | 2, _ => cases hi; cases hj; intro hij hI; simp only at hI; omega
      | 3, _ => cases hi; cases hj; intro hij hI; simp only at hI; omega
      | 4, _ => cases hi; cases hj; intro hij hI; simp only at hI; omega
      | 5, _ => cases hi; cases hj; intro hij hI; simp only at hI; omega
    | 2, _ =>
      match j, hj' with
      | 0, _ => cases hi; cases hj; intro hij hI; simp only at hI; omega
      | 1, _ => cases hi; cases hj; intro hij hI; simp only at hI; omega
      | 2, _ => cases hi; cases hj; intro hij hI; exact hij rfl
      | 3, _ => cases hi; cases hj; intro hij hI; simp only at hI; omega
      | 4, _ => cases hi; cases hj; intro hij hI; simp only at hI; omega
      | 5, _ => cases hi; cases hj; intro hij hI; simp only at hI; omega
    | 3, _ =>
      match j, hj' with
      | 0, _ => cases hi; cases hj; intro hij hI; simp only at hI; omega
      | 1, _ => cases hi; cases hj; intro hij hI; simp only at hI; omega
      | 2, _ => cases hi; cases hj; intro hij hI; simp only at hI; omega
      | 3, _ => cases hi; cases hj; intro hij hI; exact hij rfl
      | 4, _ => cases hi; cases hj; intro hij hI; simp only at hI; omega
      | 5, _ => cases hi; cases hj; intro hij hI; simp only at hI; omega
    | 4, _ =>
      match j, hj' with
      | 0, _ => cases hi; cases hj; intro hij hI; simp only at hI; omega
      | 1, _ => cases hi; cases hj; intro hij hI; simp only at hI; omega
      | 2, _ => cases hi; cases hj; intro hij hI; simp only at hI; omega
      | 3, _ => cases hi; cases hj; intro hij hI; simp only at hI; omega
      | 4, _ => cases hi; cases hj; intro hij hI; exact hij rfl
      | 5, _ => cases hi; cases hj; intro hij hI; simp only at hI; omega
    | 5, _ =>
      match j, hj' with
      | 0, _ => cases hi; cases hj; intro hij hI; simp only at hI; omega
      | 1, _ => cases hi; cases hj; intro hij hI; simp only at hI; omega
      | 2, _ => cases hi; cases hj; intro hij hI; simp only at hI; omega
      | 3, _ => cases hi; cases hj; intro hij hI; simp only at hI; omega
      | 4, _ => cases hi; cases hj; intro hij hI; simp only at hI; omega
      | 5, _ => cases hi; cases hj; intro hij hI; exact hij rfl
  · intro i j p q hi hj hpq
    have key : ∀ i, i < 14 → ∀ j, j < 14 → ((tb_T c).2.1[i]?).map (·.1) = ((tb_T c).2.1[j]?).map (·.1) → i = j := by
      show ∀ i, i < 14 → ∀ j, j < 14 → (([(10, 2), (11, 0), (12, 0), (13, 0), (99, 0), (14, 0), (15, 0), (16, 0), (17, 0), (18, 0), (19, 0), (20, 0), (21, 0), (22, 0)] : List (Nat × Nat))[i]?).map (·.1) = (([(10, 2), (11, 0), (12, 0), (13, 0), (99, 0), (14, 0), (15, 0), (16, 0), (17, 0), (18, 0), (19, 0), (20, 0), (21, 0), (22, 0)] : List (Nat × Nat))[j]?).map (·.1) → i = j
      decide +kernel
    exact key i (List.getElem?_eq_some_iff.mp hi).1 j (List.getElem?_eq_some_iff.mp hj).1 (by rw [hi, hj]; simp [hpq])
def tb_R_r (I : Nat) : Option Nat := match I with
  | 0 => some 1
  | 1 => some 3
  | 2 => some 23
  | 3 => some 24
  | 4 => some 25
  | 5 => some 26
  | 6 => some 27
  | 7 => some 28
  | 20 => some 10
  | 22 => some 2
  | 23 => some 11
  | 24 => some 12
  | 25 => some 13
  | 30 => some 14
  | 31 => some 15
  | 32 => some 16
  | 60 => some 20
  | 61 => some 21
  | 62 => some 22
  | _ => none
def tb_R : b_T := ([(0, 7, 0, 15), (1, 10, 20, 7), (2, 4, 30, 4), (3, 6, 60, 5)], [(10, 2), (11, 0), (12, 0), (13, 0), (14, 3), (15, 0), (16, 0), (20, 0), (21, 0), (22, 0), (23, 0), (24, 0), (25, 0), (26, 0), (27, 0), (28, 0)], tb_R_r)
theorem oR_0 {g : b_S} (hg : g.1 = tb_R) : g.1.1[0]? = some (0, 7, 0, 15) := by rw [hg]; rfl
theorem fR_0 {g : b_S} (hg : g.1 = tb_R) : g.1.2.2 (0 + 0) = some 1 := by rw [hg]; rfl
theorem fR_1 {g : b_S} (hg : g.1 = tb_R) : g.1.2.2 (0 + 1) = some 3 := by rw [hg]; rfl
theorem fR_2 {g : b_S} (hg : g.1 = tb_R) : g.1.2.2 (0 + 2) = some 23 := by rw [hg]; rfl
theorem fR_3 {g : b_S} (hg : g.1 = tb_R) : g.1.2.2 (0 + 3) = some 24 := by rw [hg]; rfl
theorem fR_4 {g : b_S} (hg : g.1 = tb_R) : g.1.2.2 (0 + 4) = some 25 := by rw [hg]; rfl
theorem fR_5 {g : b_S} (hg : g.1 = tb_R) : g.1.2.2 (0 + 5) = some 26 := by rw [hg]; rfl
theorem fR_6 {g : b_S} (hg : g.1 = tb_R) : g.1.2.2 (0 + 6) = some 27 := by rw [hg]; rfl
theorem fR_7 {g : b_S} (hg : g.1 = tb_R) : g.1.2.2 (0 + 7) = some 28 := by rw [hg]; rfl
theorem fR_8 {g : b_S} (hg : g.1 = tb_R) : g.1.2.2 (0 + 8) = none := by rw [hg]; rfl
theorem fR_9 {g : b_S} (hg : g.1 = tb_R) : g.1.2.2 (0 + 9) = none := by rw [hg]; rfl
theorem fR_10 {g : b_S} (hg : g.1 = tb_R) : g.1.2.2 (0 + 10) = none := by rw [hg]; rfl
theorem fR_11 {g : b_S} (hg : g.1 = tb_R) : g.1.2.2 (0 + 11) = none := by rw [hg]; rfl
theorem fR_12 {g : b_S} (hg : g.1 = tb_R) : g.1.2.2 (0 + 12) = none := by rw [hg]; rfl
theorem fR_13 {g : b_S} (hg : g.1 = tb_R) : g.1.2.2 (0 + 13) = none := by rw [hg]; rfl
theorem fR_14 {g : b_S} (hg : g.1 = tb_R) : g.1.2.2 (0 + 14) = none := by rw [hg]; rfl
theorem oR_1 {g : b_S} (hg : g.1 = tb_R) : g.1.1[1]? = some (1, 10, 20, 7) := by rw [hg]; rfl
theorem fR_20 {g : b_S} (hg : g.1 = tb_R) : g.1.2.2 (20 + 0) = some 10 := by rw [hg]; rfl
theorem fR_21 {g : b_S} (hg : g.1 = tb_R) : g.1.2.2 (20 + 1) = none := by rw [hg]; rfl
theorem fR_22 {g : b_S} (hg : g.1 = tb_R) : g.1.2.2 (20 + 2) = some 2 := by rw [hg]; rfl
theorem fR_23 {g : b_S} (hg : g.1 = tb_R) : g.1.2.2 (20 + 3) = some 11 := by rw [hg]; rfl
theorem fR_24 {g : b_S} (hg : g.1 = tb_R) : g.1.2.2 (20 + 4) = some 12 := by rw [hg]; rfl
theorem fR_25 {g : b_S} (hg : g.1 = tb_R) : g.1.2.2 (20 + 5) = some 13 := by rw [hg]; rfl
theorem fR_26 {g : b_S} (hg : g.1 = tb_R) : g.1.2.2 (20 + 6) = none := by rw [hg]; rfl
theorem oR_2 {g : b_S} (hg : g.1 = tb_R) : g.1.1[2]? = some (2, 4, 30, 4) := by rw [hg]; rfl
theorem fR_30 {g : b_S} (hg : g.1 = tb_R) : g.1.2.2 (30 + 0) = some 14 := by rw [hg]; rfl
theorem fR_31 {g : b_S} (hg : g.1 = tb_R) : g.1.2.2 (30 + 1) = some 15 := by rw [hg]; rfl
theorem fR_32 {g : b_S} (hg : g.1 = tb_R) : g.1.2.2 (30 + 2) = some 16 := by rw [hg]; rfl
theorem fR_33 {g : b_S} (hg : g.1 = tb_R) : g.1.2.2 (30 + 3) = none := by rw [hg]; rfl
theorem oR_3 {g : b_S} (hg : g.1 = tb_R) : g.1.1[3]? = some (3, 6, 60, 5) := by rw [hg]; rfl
theorem fR_60 {g : b_S} (hg : g.1 = tb_R) : g.1.2.2 (60 + 0) = some 20 := by rw [hg]; rfl
theorem fR_61 {g : b_S} (hg : g.1 = tb_R) : g.1.2.2 (60 + 1) = some 21 := by rw [hg]; rfl
theorem fR_62 {g : b_S} (hg : g.1 = tb_R) : g.1.2.2 (60 + 2) = some 22 := by rw [hg]; rfl
theorem fR_63 {g : b_S} (hg : g.1 = tb_R) : g.1.2.2 (60 + 3) = none := by rw [hg]; rfl
theorem fR_64 {g : b_S} (hg : g.1 = tb_R) : g.1.2.2 (60 + 4) = none := by rw [hg]; rfl
theorem aR_10 {g : b_S} (hg : g.1 = tb_R) : g.1.2.1[0]? = some (10, 2) := by rw [hg]; rfl
theorem aR_11 {g : b_S} (hg : g.1 = tb_R) : g.1.2.1[1]? = some (11, 0) := by rw [hg]; rfl
theorem aR_12 {g : b_S} (hg : g.1 = tb_R) : g.1.2.1[2]? = some (12, 0) := by rw [hg]; rfl
theorem aR_13 {g : b_S} (hg : g.1 = tb_R) : g.1.2.1[3]? = some (13, 0) := by rw [hg]; rfl
theorem aR_14 {g : b_S} (hg : g.1 = tb_R) : g.1.2.1[4]? = some (14, 3) := by rw [hg]; rfl
theorem aR_15 {g : b_S} (hg : g.1 = tb_R) : g.1.2.1[5]? = some (15, 0) := by rw [hg]; rfl
theorem aR_16 {g : b_S} (hg : g.1 = tb_R) : g.1.2.1[6]? = some (16, 0) := by rw [hg]; rfl
theorem aR_20 {g : b_S} (hg : g.1 = tb_R) : g.1.2.1[7]? = some (20, 0) := by rw [hg]; rfl
theorem aR_21 {g : b_S} (hg : g.1 = tb_R) : g.1.2.1[8]? = some (21, 0) := by rw [hg]; rfl
theorem aR_22 {g : b_S} (hg : g.1 = tb_R) : g.1.2.1[9]? = some (22, 0) := by rw [hg]; rfl
theorem aR_23 {g : b_S} (hg : g.1 = tb_R) : g.1.2.1[10]? = some (23, 0) := by rw [hg]; rfl
theorem aR_24 {g : b_S} (hg : g.1 = tb_R) : g.1.2.1[11]? = some (24, 0) := by rw [hg]; rfl
theorem aR_25 {g : b_S} (hg : g.1 = tb_R) : g.1.2.1[12]? = some (25, 0) := by rw [hg]; rfl
theorem aR_26 {g : b_S} (hg : g.1 = tb_R) : g.1.2.1[13]? = some (26, 0) := by rw [hg]; rfl
theorem aR_27 {g : b_S} (hg : g.1 = tb_R) : g.1.2.1[14]? = some (27, 0) := by rw [hg]; rfl
theorem aR_28 {g : b_S} (hg : g.1 = tb_R) : g.1.2.1[15]? = some (28, 0) := by rw [hg]; rfl
theorem okR : b_ok (tb_R) := by
  refine ⟨?_, ?_⟩
  · intro i j p q hi hj hij I hI
    have hi' : i < 4 := (List.getElem?_eq_some_iff.mp hi).1
    have hj' : j < 4 := (List.getElem?_eq_some_iff.mp hj).1
    revert hI hij
    match i, hi' with
    | 0, _ =>
      match j, hj' with
      | 0, _ => cases hi; cases hj; intro hij hI; exact hij rfl
      | 1, _ => cases hi; cases hj; intro hij hI; simp only at hI; omega
      | 2, _ => cases hi; cases hj; intro hij hI; simp only at hI; omega
      | 3, _ => cases hi; cases hj; intro hij hI; simp only at hI; omega
    | 1, _ =>
      match j, hj' with
      | 0, _ => cases hi; cases hj; intro hij hI; simp only at hI; omega
      | 1, _ => cases hi; cases hj; intro hij hI; exact hij rfl
      | 2, _ => cases hi; cases hj; intro hij hI; simp only at hI; omega
      | 3, _ => cases hi; cases hj; intro hij hI; simp only at hI; omega
    | 2, _ =>
      match j, hj' with
      | 0, _ => cases hi; cases hj; intro hij hI; simp only at hI; omega
      | 1, _ => cases hi; cases hj; intro hij hI; simp only at hI; omega
      | 2, _ => cases hi; cases hj; intro hij hI; exact hij rfl
      | 3, _ => cases hi; cases hj; intro hij hI; simp only at hI; omega
    | 3, _ =>
      match j, hj' with
      | 0, _ => cases hi; cases hj; intro hij hI; simp only at hI; omega
      | 1, _ => cases hi; cases hj; intro hij hI; simp only at hI; omega
      | 2, _ => cases hi; cases hj; intro hij hI; simp only at hI; omega
      | 3, _ => cases hi; cases hj; intro hij hI; exact hij rfl
  · intro i j p q hi hj hpq
    have key : ∀ i, i < 16 → ∀ j, j < 16 → ((tb_R).2.1[i]?).map (·.1) = ((tb_R).2.1[j]?).map (·.1) → i = j := by
      show ∀ i, i < 16 → ∀ j, j < 16 → (([(10, 2), (11, 0), (12, 0), (13, 0), (14, 3), (15, 0), (16, 0), (20, 0), (21, 0), (22, 0), (23, 0), (24, 0), (25, 0), (26, 0), (27, 0), (28, 0)] : List (Nat × Nat))[i]?).map (·.1) = (([(10, 2), (11, 0), (12, 0), (13, 0), (14, 3), (15, 0), (16, 0), (20, 0), (21, 0), (22, 0), (23, 0), (24, 0), (25, 0), (26, 0), (27, 0), (28, 0)] : List (Nat × Nat))[j]?).map (·.1) → i = j
      decide +kernel
    exact key i (List.getElem?_eq_some_iff.mp hi).1 j (List.getElem?_eq_some_iff.mp hj).1 (by rw [hi, hj]; simp [hpq])
set_option maxRecDepth 20000 in
theorem b_X0_0 : u_ws RX0 TX0 6 = [349, 351, 353, 355, 357, 359].filterMap (fun i => lw_tbl[i]?) := by decide +kernel
theorem b_X0_1 : (u_ws RX0 TX0 6).all goodWord = true := by decide +kernel
theorem b_X0 : b_cls 0 RX0 TX0 6 tyX0 := by
  refine ⟨rfl, ?_, tyX0_ok, nmX0, by decide +kernel⟩
  intro w hw
  have hg := List.all_eq_true.mp b_X0_1 w hw
  rw [b_X0_0] at hw
  obtain ⟨i, -, hi⟩ := List.mem_filterMap.mp hw
  exact ac_in i hi hg
set_option maxRecDepth 20000 in
theorem b_X2_0 : u_ws RX2 TX2 4 = [229, 231, 233, 235].filterMap (fun i => lw_tbl[i]?) := by decide +kernel
theorem b_X2_1 : (u_ws RX2 TX2 4).all goodWord = true := by decide +kernel
theorem b_X2 : b_cls 2 RX2 TX2 4 tyX2 := by
  refine ⟨rfl, ?_, tyX2_ok, nmX2, by decide +kernel⟩
  intro w hw
  have hg := List.all_eq_true.mp b_X2_1 w hw
  rw [b_X2_0] at hw
  obtain ⟨i, -, hi⟩ := List.mem_filterMap.mp hw
  exact ac_in i hi hg
set_option maxRecDepth 20000 in
theorem b_X4_0 : u_ws RX4 TX4 4 = [425, 427, 429, 431].filterMap (fun i => lw_tbl[i]?) := by decide +kernel
theorem b_X4_1 : (u_ws RX4 TX4 4).all goodWord = true := by decide +kernel
theorem b_X4 : b_cls 4 RX4 TX4 4 tyX4 := by
  refine ⟨rfl, ?_, tyX4_ok, nmX4, by decide +kernel⟩
  intro w hw
  have hg := List.all_eq_true.mp b_X4_1 w hw
  rw [b_X4_0] at hw
  obtain ⟨i, -, hi⟩ := List.mem_filterMap.mp hw
  exact ac_in i hi hg
set_option maxRecDepth 20000 in
theorem b_X5_0 : u_ws RX5 TX5 9 = [258, 260, 262, 264, 266, 268, 270, 272, 274].filterMap (fun i => lw_tbl[i]?) := by decide +kernel
theorem b_X5_1 : (u_ws RX5 TX5 9).all goodWord = true := by decide +kernel
theorem b_X5 : b_cls 5 RX5 TX5 9 tyX5 := by
  refine ⟨rfl, ?_, tyX5_ok, nmX5, by decide +kernel⟩
  intro w hw
  have hg := List.all_eq_true.mp b_X5_1 w hw
  rw [b_X5_0] at hw
  obtain ⟨i, -, hi⟩ := List.mem_filterMap.mp hw
  exact ac_in i hi hg
set_option maxRecDepth 20000 in
theorem b_X6_0 : u_ws RX6 TX6 5 = [204, 206, 208, 210, 212].filterMap (fun i => lw_tbl[i]?) := by decide +kernel
theorem b_X6_1 : (u_ws RX6 TX6 5).all goodWord = true := by decide +kernel
theorem b_X6 : b_cls 6 RX6 TX6 5 tyX6 := by
  refine ⟨rfl, ?_, tyX6_ok, nmX6, by decide +kernel⟩
  intro w hw
  have hg := List.all_eq_true.mp b_X6_1 w hw
  rw [b_X6_0] at hw
  obtain ⟨i, -, hi⟩ := List.mem_filterMap.mp hw
  exact ac_in i hi hg
set_option maxRecDepth 20000 in
theorem b_X7_0 : u_ws RX7 TX7 15 = [479, 481, 483, 485, 487, 489, 491, 493, 495, 497, 499, 501, 503, 505, 507].filterMap (fun i => lw_tbl[i]?) := by decide +kernel
theorem b_X7_1 : (u_ws RX7 TX7 15).all goodWord = true := by decide +kernel
theorem b_X7 : b_cls 7 RX7 TX7 15 tyX7 := by
  refine ⟨rfl, ?_, tyX7_ok, nmX7, by decide +kernel⟩
  intro w hw
  have hg := List.all_eq_true.mp b_X7_1 w hw
  rw [b_X7_0] at hw
  obtain ⟨i, -, hi⟩ := List.mem_filterMap.mp hw
  exact ac_in i hi hg
set_option maxRecDepth 20000 in
theorem b_X8_0 : u_ws RX8 TX8 16 = [301, 303, 305, 307, 309, 311, 313, 315, 317, 319, 321, 323, 325, 327, 329, 331].filterMap (fun i => lw_tbl[i]?) := by decide +kernel
theorem b_X8_1 : (u_ws RX8 TX8 16).all goodWord = true := by decide +kernel
theorem b_X8 : b_cls 8 RX8 TX8 16 tyX8 := by
  refine ⟨rfl, ?_, tyX8_ok, nmX8, by decide +kernel⟩
  intro w hw
  have hg := List.all_eq_true.mp b_X8_1 w hw
  rw [b_X8_0] at hw
  obtain ⟨i, -, hi⟩ := List.mem_filterMap.mp hw
  exact ac_in i hi hg
set_option maxRecDepth 20000 in
theorem b_X10_0 : u_ws RX10 TX10 7 = [446, 448, 450, 452, 454, 456, 458].filterMap (fun i => lw_tbl[i]?) := by decide +kernel
theorem b_X10_1 : (u_ws RX10 TX10 7).all goodWord = true := by decide +kernel
theorem b_X10 : b_cls 10 RX10 TX10 7 tyX10 := by
  refine ⟨rfl, ?_, tyX10_ok, nmX10, by decide +kernel⟩
  intro w hw
  have hg := List.all_eq_true.mp b_X10_1 w hw
  rw [b_X10_0] at hw
  obtain ⟨i, -, hi⟩ := List.mem_filterMap.mp hw
  exact ac_in i hi hg
set_option maxRecDepth 20000 in
theorem b_X11_0 : u_ws RX11 TX11 9 = [371, 373, 375, 377, 379, 381, 383, 385, 387].filterMap (fun i => lw_tbl[i]?) := by decide +kernel
theorem b_X11_1 : (u_ws RX11 TX11 9).all goodWord = true := by decide +kernel
theorem b_X11 : b_cls 11 RX11 TX11 9 tyX11 := by
  refine ⟨rfl, ?_, tyX11_ok, nmX11, by decide +kernel⟩
  intro w hw
  have hg := List.all_eq_true.mp b_X11_1 w hw
  rw [b_X11_0] at hw
  obtain ⟨i, -, hi⟩ := List.mem_filterMap.mp hw
  exact ac_in i hi hg
