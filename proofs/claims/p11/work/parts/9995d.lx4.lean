/-! KEYS OF WORDS. -/
section LX4
def x_sg (c : Int32) : Nat := if c.toInt < 65 then (c.toInt - 47).toNat else if c.toInt < 97 then (c.toInt - 54).toNat else (c.toInt - 60).toNat
theorem x_sg_lt {c : Int32} (h : x_wd c = true) : 1 ≤ x_sg c ∧ x_sg c < 64 := by
  rw [x_wd_iff] at h
  unfold x_sg
  split
  · omega
  · split <;> omega
theorem x_sg_inj {c d : Int32} (hc : x_wd c = true) (hd : x_wd d = true) (h : x_sg c = x_sg d) : c = d := by
  rw [x_wd_iff] at hc hd
  apply Int32.toInt_inj.mp
  unfold x_sg at h
  split at h <;> split at h <;> (try split at h) <;> (try split at h) <;> omega
theorem y_longer {N : Nat → Nat} {s : f_S3} {O : Nat × Nat} {c : Int32} (hc : x_wd c = true) {k : Nat} (hk : k < 2 ^ 54) {Q : Int64 → f_S3 → Nat × Nat → Prop} (hQ : Q (Int64.ofNat (64 * k + x_sg c)) s O) : wF_X4_longer N (Int64.ofNat k) c s O Q := by
  have hg := x_sg_lt hc
  rw [x_wd_iff] at hc
  have e1 : (1 : Int32).toInt = 1 := by decide
  have e48 : (48 : Int32).toInt = 48 := by decide
  have e65 : (65 : Int32).toInt = 65 := by decide
  have e11 : (11 : Int32).toInt = 11 := by decide
  have e97 : (97 : Int32).toInt = 97 := by decide
  have e37 : (37 : Int32).toInt = 37 := by decide
  have go : ∀ t : Int32, t = nI (x_sg c) → wF_X4_longer_38 N Q (Int64.ofNat k) t s O := fun t ht => by
    show Q (f_lshl (Int64.ofNat k) 6 ||| t.toInt64) s O
    rw [ht, x_pack hk (by omega)]; exact hQ
  have un : x_sg c = if c.toInt < 65 then (c.toInt - 47).toNat else if c.toInt < 97 then (c.toInt - 54).toNat else (c.toInt - 60).toNat := rfl
  refine ⟨fun h => ⟨fun h2 => go _ ?_, fun h2 => go _ ?_⟩, fun h => go _ ?_⟩
  · have h2 := Int32.lt_iff_toInt_lt.mp h2
    apply Int32.toInt_inj.mp
    have a1 := ti_subx c 48 (by omega)
    have a2 := ti_addx (c - 48) 1 (by omega)
    rw [fs_nI (by omega), a2, a1]
    rw [if_pos (by omega)] at un
    omega
  · have h := Int32.lt_iff_toInt_lt.mp h
    have h2 := ti_nlt h2
    apply Int32.toInt_inj.mp
    have a1 := ti_subx c 65 (by omega)
    have a2 := ti_addx (c - 65) 11 (by omega)
    rw [fs_nI (by omega), a2, a1]
    rw [if_neg (by omega), if_pos (by omega)] at un
    omega
  · have h := ti_nlt h
    apply Int32.toInt_inj.mp
    have a1 := ti_subx c 97 (by omega)
    have a2 := ti_addx (c - 97) 37 (by omega)
    rw [fs_nI (by omega), a2, a1]
    rw [if_neg (by omega), if_neg (by omega)] at un
    omega
/-- the key of m letters and digits of a text, from a on -/
def x_kt (T : Nat → Int32) (a : Nat) : Nat → Nat
  | 0 => 0
  | m + 1 => 64 * x_kt T a m + x_sg (T (a + m))
def x_ws (T : Nat → Int32) (a m : Nat) : Prop := ∀ i, i < m → x_wd (T (a + i)) = true
theorem x_kt_lt {T : Nat → Int32} {a : Nat} : ∀ {m : Nat}, x_ws T a m → x_kt T a m < 64 ^ m := by
  intro m
  induction m with
  | zero => intro _; show 0 < 1; omega
  | succ m ih =>
    intro h
    have h1 := ih (fun i hi => h i (by omega))
    have h2 := (x_sg_lt (h m (by omega))).2
    show 64 * x_kt T a m + x_sg (T (a + m)) < 64 ^ (m + 1)
    rw [Nat.pow_succ]; omega
theorem x_kt_inj {T T' : Nat → Int32} {a b : Nat} : ∀ {m m' : Nat}, x_ws T a m → x_ws T' b m' → x_kt T a m = x_kt T' b m' → m = m' ∧ ∀ i, i < m → T (a + i) = T' (b + i) := by
  intro m
  induction m with
  | zero =>
    intro m' h h' e
    cases m' with
    | zero => exact ⟨rfl, fun i hi => by omega⟩
    | succ m' =>
      have h2 := (x_sg_lt (h' m' (by omega))).1
      have e : 0 = 64 * x_kt T' b m' + x_sg (T' (b + m')) := e
      omega
  | succ m ih =>
    intro m' h h' e
    cases m' with
    | zero =>
      have h2 := (x_sg_lt (h m (by omega))).1
      have e : 64 * x_kt T a m + x_sg (T (a + m)) = 0 := e
      omega
    | succ m' =>
      have e : 64 * x_kt T a m + x_sg (T (a + m)) = 64 * x_kt T' b m' + x_sg (T' (b + m')) := e
      have h2 := x_sg_lt (h m (by omega))
      have h3 := x_sg_lt (h' m' (by omega))
      have e1 : x_sg (T (a + m)) = x_sg (T' (b + m')) := by omega
      have e2 : x_kt T a m = x_kt T' b m' := by omega
      obtain ⟨g1, g2⟩ := ih (fun i hi => h i (by omega)) (fun i hi => h' i (by omega)) e2
      subst g1
      refine ⟨rfl, fun i hi => ?_⟩
      by_cases q : i = m
      · rw [q]; exact x_sg_inj (h m (by omega)) (h' m (by omega)) e1
      · exact g2 i (by omega)
theorem x_kt_cg {T T' : Nat → Int32} {a b : Nat} : ∀ {m : Nat}, (∀ i, i < m → T (a + i) = T' (b + i)) → x_kt T a m = x_kt T' b m := by
  intro m
  induction m with
  | zero => intro _; rfl
  | succ m ih =>
    intro h
    show 64 * x_kt T a m + x_sg (T (a + m)) = 64 * x_kt T' b m + x_sg (T' (b + m))
    rw [ih (fun i hi => h i (by omega)), h m (by omega)]
theorem x_of_inj {a b : Nat} (ha : a < 2 ^ 60) (hb : b < 2 ^ 60) (h : Int64.ofNat a = Int64.ofNat b) : a = b := by
  have h1 := congrArg Int64.toInt h
  rw [Int64.toInt_ofNat_of_lt (by omega), Int64.toInt_ofNat_of_lt (by omega)] at h1
  omega
/-- the quoted words: where each begins in the text that holds them, and how long it is -/
def x_T0 : Nat → Int32 := fun i => (s_byt.getD 0 []).getD i 0
def x_qs : List Nat := [0, 8, 12, 17, 22, 28, 36, 42, 47, 50, 55, 60, 65, 70, 73, 78, 84, 88, 95, 102, 109, 114, 121, 126, 133, 136, 141, 145, 150, 155, 161, 167, 172]
def x_ql : List Nat := [7, 3, 4, 4, 5, 7, 5, 4, 2, 4, 4, 4, 4, 2, 4, 5, 3, 6, 6, 6, 4, 6, 4, 6, 2, 4, 3, 4, 4, 5, 5, 4, 5]
def x_qk (q : Nat) : Nat := x_kt x_T0 (x_qs.getD q 0) (x_ql.getD q 0)
/-- of the first i letters of that text: the key under way, and how many words are done -/
def x_ln1 (p : Nat × Nat) (c : Int32) : Nat × Nat := if c = 32 then (0, p.2 + 1) else (64 * p.1 + x_sg c, p.2)
def x_ln : Nat → Nat × Nat
  | 0 => (0, 0)
  | i + 1 => x_ln1 (x_ln i) (x_T0 i)
end LX4
