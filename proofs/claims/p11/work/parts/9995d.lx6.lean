/-! TOKENS: one step of the lexer, from the first byte of a token. -/
section LX6
def x_sn (c : Int32) : Bool := ([123, 125, 40, 41, 44, 59, 61, 43, 45, 42, 47, 37, 60] : List Int32).contains c
def x_wq (T : Nat → Int32) (k m q : Nat) : Prop := q < 33 ∧ m = x_ql.getD q 0 ∧ ∀ i, i < m → T (k + i) = x_T0 (x_qs.getD q 0 + i)
def x_same (T : Nat → Int32) (k m : Nat) (p : Nat × Nat) : Prop := p.2 = m ∧ ∀ i, i < m → T (p.1 + i) = T (k + i)
def x_num (T : Nat → Int32) (k e : Nat) : Prop := e ≤ k + 9 ∧ ∀ i, k ≤ i → i < e → x_dg (T i) = true
/-- the number that digits tell -/
def x_val (T : Nat → Int32) (k : Nat) : Nat → Int32
  | 0 => 0
  | i + 1 => x_val T k i * 10 + T (k + i) - 48
def x_word (T : Nat → Int32) (tb : List (Nat × Nat)) (k e : Nat) (ty v : Int32) (tb' : List (Nat × Nat)) : Prop :=
  (∃ q, x_wq T k (e - k) q ∧ ty = nI (200 + q) ∧ v = nI q ∧ tb' = tb) ∨
  ((∀ q, ¬ x_wq T k (e - k) q) ∧ ty = (if x_sm (T k) = true then 130 else 131) ∧ ((∃ w, w < tb.length ∧ x_same T k (e - k) (tb.getD w (0, 0)) ∧ v = nI (33 + w) ∧ tb' = tb) ∨ ((∀ w, w < tb.length → ¬ x_same T k (e - k) (tb.getD w (0, 0))) ∧ v = nI (33 + tb.length) ∧ tb' = tb ++ [(k, e - k)])))
def x_sign (T : Nat → Int32) (n k e : Nat) (ty : Int32) : Prop :=
  (T k = 61 ∧ x_at T n (k + 1) = 61 ∧ ty = 133 ∧ e = k + 2) ∨ (T k = 33 ∧ x_at T n (k + 1) = 61 ∧ ty = 134 ∧ e = k + 2) ∨ (¬ ((T k = 61 ∨ T k = 33) ∧ x_at T n (k + 1) = 61) ∧ e = k + 1 ∧ ((x_sn (T k) = true ∧ ty = T k) ∨ (x_sn (T k) = false ∧ ty = 136)))
def x_step (T : Nat → Int32) (n : Nat) (tb : List (Nat × Nat)) (k : Nat) (ty v : Int32) (e : Nat) (tb' : List (Nat × Nat)) : Prop :=
  (x_dg (T k) = true ∧ e = x_we T n n k ∧ tb' = tb ∧ ((ty = 132 ∧ x_num T k e ∧ v = x_val T k (e - k)) ∨ (ty = 136 ∧ ¬ x_num T k e))) ∨
  (x_lt (T k) = true ∧ x_dg (T k) = false ∧ e = x_we T n n k ∧ ((k + 10 < e ∧ ty = 136 ∧ tb' = tb) ∨ (e ≤ k + 10 ∧ x_word T tb k e ty v tb'))) ∨
  (x_wd (T k) = false ∧ tb' = tb ∧ x_sign T n k e ty)
variable {N : Nat → Nat} {s : f_S3} {T : Nat → Int32} {n : Nat} {O : Nat × Nat}
/-- the state behind one more token -/
def y_tk (s : f_S3) (m : Nat) (ty v : Int32) (k : Nat) : f_S3 := fm (ff (ff (ff s 11 (nI m) ty) 12 (nI m) v) 13 (nI m) (nI k)) 26 (nI (m + 1))
theorem y_put {ty v : Int32} {k m : Nat} (hm : s.1 26 = nI m) (hN : m < N 11) (h1 : N 12 = N 11) (h2 : N 13 = N 11) (h3 : N 11 < 10000) {Q : f_S3 → Nat × Nat → Prop} (hQ : Q (y_tk s m ty v k) O) : wF_X10_put N ty v (nI k) s O Q := by
  unfold wF_X10_put
  rw [hm, y_le (by omega) (by omega), y_1, h1, h2]
  exact ⟨fun h => by omega, fun _ => ⟨y_in hN (by omega), y_in hN (by omega), y_in hN (by omega), hQ⟩⟩
theorem x_we_in (T : Nat → Int32) (n : Nat) : ∀ (f k : Nat), ∀ i, k ≤ i → i < x_we T n f k → x_wd (T i) = true := by
  intro f
  induction f with
  | zero => intro k i h1 h2; exact absurd h2 (by show ¬ i < k; omega)
  | succ f ih =>
    intro k i h1 h2
    have e : x_we T n (f + 1) k = (if k < n then (if x_wd (T k) = true then x_we T n f (k + 1) else k) else k) := rfl
    rw [e] at h2
    split at h2
    · split at h2
      · by_cases q : i = k
        · rw [q]; assumption
        · exact ih (k + 1) i (by omega) h2
      · omega
    · omega
theorem x_we_out (T : Nat → Int32) (n : Nat) : ∀ (f k : Nat), k ≤ n → n ≤ k + f → x_we T n f k < n → x_wd (T (x_we T n f k)) = false := by
  intro f
  induction f with
  | zero => intro k h1 h2 h3; exact absurd h3 (by show ¬ k < n; omega)
  | succ f ih =>
    intro k h1 h2 h3
    have e : x_we T n (f + 1) k = (if k < n then (if x_wd (T k) = true then x_we T n f (k + 1) else k) else k) := rfl
    by_cases q1 : k < n
    · by_cases q2 : x_wd (T k) = true
      · rw [e, if_pos q1, if_pos q2] at h3 ⊢
        exact ih (k + 1) (by omega) (by omega) h3
      · rw [e, if_pos q1, if_neg q2]; exact Bool.eq_false_iff.mpr q2
    · rw [e, if_neg q1] at h3; omega
theorem x_sk_out (T : Nat → Int32) (n : Nat) : ∀ (f k : Nat), k ≤ n → n ≤ k + f → x_sk T n f k < n → x_bl (T (x_sk T n f k)) = false := by
  intro f
  induction f with
  | zero => intro k h1 h2 h3; exact absurd h3 (by show ¬ k < n; omega)
  | succ f ih =>
    intro k h1 h2 h3
    have e : x_sk T n (f + 1) k = (if k < n then (if x_bl (T k) = true then x_sk T n f (k + 1) else k) else k) := rfl
    by_cases q1 : k < n
    · by_cases q2 : x_bl (T k) = true
      · rw [e, if_pos q1, if_pos q2] at h3 ⊢
        exact ih (k + 1) (by omega) (by omega) h3
      · rw [e, if_pos q1, if_neg q2]; exact Bool.eq_false_iff.mpr q2
    · rw [e, if_neg q1] at h3; omega
theorem x_we_1 (T : Nat → Int32) {n k : Nat} (hk : k < n) (hw : x_wd (T k) = true) : k + 1 ≤ x_we T n n k := by
  cases n with
  | zero => omega
  | succ n =>
    have e : x_we T (n + 1) (n + 1) k = (if k < n + 1 then (if x_wd (T k) = true then x_we T (n + 1) n (k + 1) else k) else k) := rfl
    rw [e, if_pos hk, if_pos hw]
    exact (x_we_le T (n + 1) n (k + 1) (by omega)).1
theorem y_sub {a b : Nat} (h : b ≤ a) (ha : a < 2 ^ 31) : nI a - nI b = nI (a - b) := by
  apply Int32.toInt_inj.mp
  have a1 := fs_nI (n := a) ha
  have a2 := fs_nI (n := b) (by omega)
  have a3 := fs_nI (n := a - b) (by omega)
  have := ti_subx (nI a) (nI b) (by omega)
  omega
theorem y_putNumber (hc : y_T N s T n) {k m : Nat} (hk : k < n) (hd : x_dg (T k) = true) (hm : s.1 26 = nI m) (hN : m < N 11) (h1 : N 12 = N 11) (h2 : N 13 = N 11) (h3 : N 11 < 10000) {Q : Int32 → f_S3 → Nat × Nat → Prop} (hQ : ∀ ty v : Int32, ((ty = 132 ∧ x_num T k (x_we T n n k) ∧ v = x_val T k (x_we T n n k - k)) ∨ (ty = 136 ∧ ¬ x_num T k (x_we T n n k))) → Q (nI (x_we T n n k)) (y_tk s m ty v k) O) : wF_X10_putNumber N (nI k) s O Q := by
  have hle := x_we_le T n n k (by omega)
  have hn := hc.2.1
  refine y_behindWord hc (by omega) ?_
  generalize he : x_we T n n k = e at hQ hle ⊢
  have key : ∀ (f i : Nat) (a v : Int32), i + f = e → k ≤ i → v = x_val T k (i - k) → ((a = 0 ∧ e ≤ k + 9 ∧ ∀ j, k ≤ j → j < i → x_dg (T j) = true) ∨ (a = 1 ∧ ¬ x_num T k e)) → wF_X10_putNumber_26 N Q (f + 1) (nI k) (nI e) v a (nI i) s O := by
    intro f
    induction f with
    | zero =>
      intro i a v hi hki hv ha
      have hie : i = e := by omega
      subst hie
      refine ⟨fun _ => ⟨fun hz => ?_, fun hz => ?_⟩, fun h => absurd ((y_le (by omega) (by omega)).mpr (Nat.le_refl _)) h⟩
      · rcases ha with ⟨-, q1, q2⟩ | ⟨q1, -⟩
        · exact y_put hm hN h1 h2 h3 (hQ 132 v (Or.inl ⟨rfl, ⟨q1, q2⟩, hv⟩))
        · rw [q1] at hz; exact absurd hz (by decide)
      · rcases ha with ⟨q0, -⟩ | ⟨-, q2⟩
        · exact absurd q0 hz
        · exact y_put hm hN h1 h2 h3 (hQ 136 v (Or.inr ⟨rfl, q2⟩))
    | succ f ih =>
      intro i a v hi hki hv ha
      have next : ∀ t : Int32, ((t = 0 ∧ e ≤ k + 9 ∧ ∀ j, k ≤ j → j < i + 1 → x_dg (T j) = true) ∨ (t = 1 ∧ ¬ x_num T k e)) → wF_X10_putNumber_54 N (wF_X10_putNumber_26 N Q (f + 1)) Q (nI k) (nI e) v (nI i) t s O := fun t ht => by
        refine y_byteAt hc (by omega) ?_
        rw [y_1]
        refine ih (i + 1) t _ (by omega) (by omega) ?_ ht
        rw [show i + 1 - k = (i - k) + 1 by omega]
        show _ = x_val T k (i - k) * 10 + T (k + (i - k)) - 48
        rw [← hv, show k + (i - k) = i by omega, show x_at T n i = T i from if_pos (by omega)]
      have bad : ¬ x_num T k e → wF_X10_putNumber_49 N (wF_X10_putNumber_26 N Q (f + 1)) Q (nI k) (nI e) v (nI i) s O := fun h => next 1 (Or.inr ⟨rfl, h⟩)
      refine ⟨fun h => ?_, fun _ => ⟨fun hz => ?_, fun hz => ?_⟩⟩
      · rw [y_le (by omega) (by omega)] at h; omega
      · rcases ha with ⟨q0, -⟩ | ⟨-, q2⟩
        · exact absurd q0 hz
        · exact bad q2
      · rcases ha with ⟨-, q1, q2⟩ | ⟨q1, -⟩
        · refine y_byteAt hc (by omega) ?_
          rw [show x_at T n i = T i from if_pos (by omega)]
          refine y_isDigit (fun hb => ⟨fun _ => next 0 (Or.inl ⟨rfl, q1, fun j j1 j2 => ?_⟩), fun q => absurd q (by decide)⟩) (fun hb => ⟨fun q => absurd rfl q, fun _ => bad (fun q => hb (q.2 i hki (by omega)))⟩)
          by_cases q : j = i
          · rw [q]; exact hb
          · exact q2 j j1 (by omega)
        · rw [q1] at hz; exact absurd hz (by decide)
  have e9 : (9 : Int32) = nI 9 := by decide
  rw [y_sub hle.1 (by omega), e9, y_le (by omega) (by omega)]
  refine ⟨fun h => ⟨e - k + 1, key (e - k) k 0 0 (by omega) (Nat.le_refl _) (by rw [Nat.sub_self]; rfl) (Or.inl ⟨rfl, by omega, fun j j1 j2 => by omega⟩)⟩, fun h => ⟨e - k + 1, key (e - k) k 1 0 (by omega) (Nat.le_refl _) (by rw [Nat.sub_self]; rfl) (Or.inr ⟨rfl, fun q => by have := q.1; omega⟩)⟩⟩
end LX6
