/-! THE LEXER: what a text's tokens are. T: its bytes, n: how many. -/
section LX1
def x_bl (c : Int32) : Bool := c == 9 || (c == 10 || (c == 13 || c == 32))
def x_dg (c : Int32) : Bool := decide (48 ≤ c.toInt) && decide (c.toInt ≤ 57)
def x_sm (c : Int32) : Bool := decide (97 ≤ c.toInt) && decide (c.toInt ≤ 122)
def x_gr (c : Int32) : Bool := decide (65 ≤ c.toInt) && decide (c.toInt ≤ 90)
def x_lt (c : Int32) : Bool := x_sm c || x_gr c
def x_wd (c : Int32) : Bool := x_lt c || x_dg c
def x_at (T : Nat → Int32) (n i : Nat) : Int32 := if i < n then T i else 0
/-- behind the blanks, behind the letters and digits -/
def x_sk (T : Nat → Int32) (n : Nat) : Nat → Nat → Nat
  | 0, k => k
  | f + 1, k => if k < n then (if x_bl (T k) = true then x_sk T n f (k + 1) else k) else k
def x_we (T : Nat → Int32) (n : Nat) : Nat → Nat → Nat
  | 0, k => k
  | f + 1, k => if k < n then (if x_wd (T k) = true then x_we T n f (k + 1) else k) else k
theorem x_dg_iff {c : Int32} : x_dg c = true ↔ 48 ≤ c.toInt ∧ c.toInt ≤ 57 := by simp [x_dg]
theorem x_sm_iff {c : Int32} : x_sm c = true ↔ 97 ≤ c.toInt ∧ c.toInt ≤ 122 := by simp [x_sm]
theorem x_gr_iff {c : Int32} : x_gr c = true ↔ 65 ≤ c.toInt ∧ c.toInt ≤ 90 := by simp [x_gr]
theorem x_lt_iff {c : Int32} : x_lt c = true ↔ (97 ≤ c.toInt ∧ c.toInt ≤ 122) ∨ (65 ≤ c.toInt ∧ c.toInt ≤ 90) := by simp [x_lt, x_sm, x_gr]
theorem x_wd_iff {c : Int32} : x_wd c = true ↔ ((97 ≤ c.toInt ∧ c.toInt ≤ 122) ∨ (65 ≤ c.toInt ∧ c.toInt ≤ 90)) ∨ (48 ≤ c.toInt ∧ c.toInt ≤ 57) := by simp [x_wd, x_lt, x_sm, x_gr, x_dg]
theorem x_bl_iff {c : Int32} : x_bl c = true ↔ c = 9 ∨ c = 10 ∨ c = 13 ∨ c = 32 := by simp [x_bl]
theorem y_le {a b : Nat} (ha : a < 2 ^ 31) (hb : b < 2 ^ 31) : nI a ≤ nI b ↔ a ≤ b := by
  rw [Int32.le_iff_toInt_le, fs_nI ha, fs_nI hb]; omega
theorem y_lt {a b : Nat} (ha : a < 2 ^ 31) (hb : b < 2 ^ 31) : nI a < nI b ↔ a < b := by
  rw [Int32.lt_iff_toInt_lt, fs_nI ha, fs_nI hb]; omega
theorem y_lt0 {a : Nat} (ha : a < 2 ^ 31) : ¬ nI a < 0 := nI_pos (by omega)
theorem y_cl {a : Nat} (ha : a < 2 ^ 31) : (nI a).toNatClampNeg = a := nI_clamp (by omega)
theorem y_1 {a : Nat} : nI a + 1 = nI (a + 1) := nI_1 a
theorem y_in {a b : Nat} (h : a < b) (hb : b < 2 ^ 31) : vp_in (nI a) b := vp_in_nI h (by omega)
theorem x_sk_le (T : Nat → Int32) (n : Nat) : ∀ (f k : Nat), k ≤ n → k ≤ x_sk T n f k ∧ x_sk T n f k ≤ n := by
  intro f
  induction f with
  | zero => intro k hk; exact ⟨Nat.le_refl _, hk⟩
  | succ f ih =>
    intro k hk
    show k ≤ (if k < n then (if x_bl (T k) = true then x_sk T n f (k + 1) else k) else k) ∧ (if k < n then (if x_bl (T k) = true then x_sk T n f (k + 1) else k) else k) ≤ n
    split
    · split
      · have := ih (k + 1) (by omega); omega
      · omega
    · omega
theorem x_we_le (T : Nat → Int32) (n : Nat) : ∀ (f k : Nat), k ≤ n → k ≤ x_we T n f k ∧ x_we T n f k ≤ n := by
  intro f
  induction f with
  | zero => intro k hk; exact ⟨Nat.le_refl _, hk⟩
  | succ f ih =>
    intro k hk
    show k ≤ (if k < n then (if x_wd (T k) = true then x_we T n f (k + 1) else k) else k) ∧ (if k < n then (if x_wd (T k) = true then x_we T n f (k + 1) else k) else k) ≤ n
    split
    · split
      · have := ih (k + 1) (by omega); omega
      · omega
    · omega
end LX1
/-! THE CLASS'S LEXER. -/
section LX2
/-- the class's text -/
def y_T (N : Nat → Nat) (s : f_S3) (T : Nat → Int32) (n : Nat) : Prop := s.1 21 = nI n ∧ n ≤ 4000 ∧ N 10 = 4000 ∧ (∀ i, i < n → s.2.1 10 i &&& 255 = T i)
variable {N : Nat → Nat} {s : f_S3} {T : Nat → Int32} {n : Nat} {O : Nat × Nat}
theorem y_byteAt (hc : y_T N s T n) {i : Nat} (hi : i < 2 ^ 31) {Q : Int32 → f_S3 → Nat × Nat → Prop} (hQ : Q (x_at T n i) s O) : wF_X10_byteAt N (nI i) s O Q := by
  obtain ⟨h1, h2, h3, h4⟩ := hc
  unfold wF_X10_byteAt
  rw [h1, h3, y_le (by omega) hi, y_le (by omega) hi]
  refine ⟨fun h => absurd h (y_lt0 hi), fun _ => ⟨fun h => ?_, fun h => ⟨fun h' => by omega, fun h' => ⟨y_in (by omega) (by omega), ?_⟩⟩⟩⟩
  · have e : x_at T n i = 0 := if_neg (by omega)
    rw [e] at hQ; exact hQ
  · have e : x_at T n i = T i := if_pos (by omega)
    rw [y_cl hi, h4 i (by omega), ← e]; exact hQ
theorem y_isBlank {c : Int32} {Q : Int32 → f_S3 → Nat × Nat → Prop} (h1 : x_bl c = true → Q 1 s O) (h0 : ¬ x_bl c = true → Q 0 s O) : wF_X10_isBlank N c s O Q := by
  unfold wF_X10_isBlank
  rw [x_bl_iff] at h1 h0
  exact ⟨fun h => h1 (Or.inl h), fun a => ⟨fun h => h1 (Or.inr (Or.inl h)), fun b => ⟨fun h => h1 (Or.inr (Or.inr (Or.inl h))), fun c => ⟨fun h => h0 (fun q => by rcases q with q | q | q | q <;> contradiction), fun h => h1 (Or.inr (Or.inr (Or.inr h)))⟩⟩⟩⟩
theorem y_isDigit {c : Int32} {Q : Int32 → f_S3 → Nat × Nat → Prop} (h1 : x_dg c = true → Q 1 s O) (h0 : ¬ x_dg c = true → Q 0 s O) : wF_X10_isDigit N c s O Q := by
  unfold wF_X10_isDigit
  rw [x_dg_iff] at h1 h0
  have e1 : (48 : Int32).toInt = 48 := by decide
  have e2 : (57 : Int32).toInt = 57 := by decide
  refine ⟨fun h => h0 ?_, fun a => ⟨fun h => h0 ?_, fun b => h1 ?_⟩⟩
  · have := Int32.lt_iff_toInt_lt.mp h; omega
  · have := Int32.lt_iff_toInt_lt.mp h; omega
  · have q1 : ¬ c.toInt < (48 : Int32).toInt := fun q => a (Int32.lt_iff_toInt_lt.mpr q)
    have q2 : ¬ (57 : Int32).toInt < c.toInt := fun q => b (Int32.lt_iff_toInt_lt.mpr q)
    omega
theorem y_isLetter {c : Int32} {Q : Int32 → f_S3 → Nat × Nat → Prop} (h1 : x_lt c = true → Q 1 s O) (h0 : ¬ x_lt c = true → Q 0 s O) : wF_X10_isLetter N c s O Q := by
  rw [x_lt_iff] at h1 h0
  have e1 : (97 : Int32).toInt = 97 := by decide
  have e2 : (122 : Int32).toInt = 122 := by decide
  have e3 : (65 : Int32).toInt = 65 := by decide
  have e4 : (90 : Int32).toInt = 90 := by decide
  have g : ¬ (97 ≤ c.toInt ∧ c.toInt ≤ 122) → wF_X10_isLetter_12 N Q c s O := fun hn => by
    refine ⟨fun h => h0 ?_, fun a => ⟨fun h => h0 ?_, fun b => h1 ?_⟩⟩
    · have := Int32.lt_iff_toInt_lt.mp h; omega
    · have := Int32.lt_iff_toInt_lt.mp h; omega
    · have q1 : ¬ c.toInt < (65 : Int32).toInt := fun q => a (Int32.lt_iff_toInt_lt.mpr q)
      have q2 : ¬ (90 : Int32).toInt < c.toInt := fun q => b (Int32.lt_iff_toInt_lt.mpr q)
      omega
  unfold wF_X10_isLetter
  refine ⟨fun h => g ?_, fun a => ⟨fun h => h1 ?_, fun b => g ?_⟩⟩
  · have := Int32.lt_iff_toInt_lt.mp h; omega
  · have q1 : ¬ c.toInt < (97 : Int32).toInt := fun q => a (Int32.lt_iff_toInt_lt.mpr q)
    have := Int32.le_iff_toInt_le.mp h; omega
  · have q1 : ¬ c.toInt ≤ (122 : Int32).toInt := fun q => b (Int32.le_iff_toInt_le.mpr q)
    omega
theorem y_behindBlanks (hc : y_T N s T n) {k : Nat} (hk : k ≤ n) {Q : Int32 → f_S3 → Nat × Nat → Prop} (hQ : Q (nI (x_sk T n n k)) s O) : wF_X10_behindBlanks N (nI k) s O Q := by
  have h2 := hc.2.1
  have key : ∀ (f k : Nat), k ≤ n → Q (nI (x_sk T n f k)) s O → n ≤ k + f → wF_X10_behindBlanks_2 N Q (f + 1) (nI k) s O := by
    intro f
    induction f with
    | zero =>
      intro k hk hQ hf
      refine ⟨fun _ => hQ, fun h => absurd ?_ h⟩
      rw [hc.1]; exact (y_le (by omega) (by omega)).mpr (by omega)
    | succ f ih =>
      intro k hk hQ hf
      have e : x_sk T n (f + 1) k = (if k < n then (if x_bl (T k) = true then x_sk T n f (k + 1) else k) else k) := rfl
      refine ⟨fun h => ?_, fun h => ?_⟩
      · rw [hc.1, y_le (by omega) (by omega)] at h
        rw [e, if_neg (by omega)] at hQ; exact hQ
      · rw [hc.1, y_le (by omega) (by omega)] at h
        rw [e, if_pos (by omega)] at hQ
        refine y_byteAt hc (by omega) ?_
        rw [show x_at T n k = T k from if_pos (by omega)]
        refine y_isBlank (fun hb => ⟨fun q => absurd q (by decide), fun _ => ?_⟩) (fun hb => ⟨fun _ => ?_, fun q => absurd rfl q⟩)
        · rw [if_pos hb] at hQ
          rw [y_1]; exact ih (k + 1) (by omega) hQ (by omega)
        · rw [if_neg hb] at hQ; exact hQ
  exact ⟨n + 1, key n k hk hQ (by omega)⟩
theorem y_behindWord (hc : y_T N s T n) {k : Nat} (hk : k ≤ n) {Q : Int32 → f_S3 → Nat × Nat → Prop} (hQ : Q (nI (x_we T n n k)) s O) : wF_X10_behindLettersAndDigits N (nI k) s O Q := by
  have h2 := hc.2.1
  have key : ∀ (f k : Nat), k ≤ n → Q (nI (x_we T n f k)) s O → n ≤ k + f → wF_X10_behindLettersAndDigits_2 N Q (f + 1) (nI k) s O := by
    intro f
    induction f with
    | zero =>
      intro k hk hQ hf
      refine ⟨fun _ => hQ, fun h => absurd ?_ h⟩
      rw [hc.1]; exact (y_le (by omega) (by omega)).mpr (by omega)
    | succ f ih =>
      intro k hk hQ hf
      have e : x_we T n (f + 1) k = (if k < n then (if x_wd (T k) = true then x_we T n f (k + 1) else k) else k) := rfl
      refine ⟨fun h => ?_, fun h => ?_⟩
      · rw [hc.1, y_le (by omega) (by omega)] at h
        rw [e, if_neg (by omega)] at hQ; exact hQ
      · rw [hc.1, y_le (by omega) (by omega)] at h
        rw [e, if_pos (by omega)] at hQ
        refine y_byteAt hc (by omega) ?_
        rw [show x_at T n k = T k from if_pos (by omega)]
        have go : x_wd (T k) = true → wF_X10_behindLettersAndDigits_32 N (wF_X10_behindLettersAndDigits_2 N Q (f + 1)) Q (nI k) s O := fun hb => by
          rw [if_pos hb] at hQ
          show wF_X10_behindLettersAndDigits_2 N Q (f + 1) (nI k + 1) s O
          rw [y_1]; exact ih (k + 1) (by omega) hQ (by omega)
        refine y_isLetter (fun hb => ⟨fun _ => go (by unfold x_wd; rw [hb]; rfl), fun q => absurd q (by decide)⟩) (fun hb => ⟨fun q => absurd rfl q, fun _ => ?_⟩)
        refine y_byteAt hc (by omega) ?_
        rw [show x_at T n k = T k from if_pos (by omega)]
        refine y_isDigit (fun hd => ⟨fun q => absurd q (by decide), fun _ => go (by unfold x_wd; rw [hd]; exact Bool.or_true _)⟩) (fun hd => ⟨fun _ => ?_, fun q => absurd rfl q⟩)
        have hw : ¬ x_wd (T k) = true := by
          unfold x_wd
          intro q
          rcases Bool.or_eq_true_iff.mp q with q | q
          · exact hb q
          · exact hd q
        rw [if_neg hw] at hQ; exact hQ
  exact ⟨n + 1, key n k hk hQ (by omega)⟩
end LX2
