/-! SIGNS; THE WHOLE TEXT SPLIT INTO TOKENS. -/
section LX8
variable {N : Nat → Nat} {s : f_S3} {T : Nat → Int32} {n : Nat} {O : Nat × Nat}
theorem x_ix : ∀ k, k < 256 → (f_ixOf 1 (f_i2c (nI k)) < 0 ↔ x_sn (nI k) = false) := by decide +kernel
theorem x_ix2 {c : Int32} (h : 0 ≤ c.toInt ∧ c.toInt ≤ 255) : f_ixOf 1 (f_i2c c) < 0 ↔ x_sn c = false := by
  have e : c = nI c.toInt.toNat := Int32.toInt_inj.mp (by rw [fs_nI (by omega)]; omega)
  rw [e]; exact x_ix _ (by omega)
theorem y_putSign (hc : y_T N s T n) (hT : ∀ i, 0 ≤ (T i).toInt ∧ (T i).toInt ≤ 255) {k m : Nat} (hk : k < n) (hm : s.1 26 = nI m) (hN : m < N 11) (h1 : N 12 = N 11) (h2 : N 13 = N 11) (h3 : N 11 < 10000) {Q : Int32 → f_S3 → Nat × Nat → Prop} (hQ : ∀ (ty : Int32) (e : Nat), x_sign T n k e ty → Q (nI e) (y_tk s m ty 0 k) O) : wF_X10_putSign N (nI k) (T k) s O Q := by
  have hn := hc.2.1
  unfold wF_X10_putSign
  rw [y_1]
  refine y_byteAt hc (by omega) ?_
  have one : ¬ ((T k = 61 ∨ T k = 33) ∧ x_at T n (k + 1) = 61) → wF_X10_putSign_49 N Q (nI k) (T k) s O := fun hno => by
    have put : ∀ ty : Int32, ((x_sn (T k) = true ∧ ty = T k) ∨ (x_sn (T k) = false ∧ ty = 136)) → wF_X10_putSign_67 N Q (nI k) ty s O := fun ty hty => by
      unfold wF_X10_putSign_67
      rw [y_1]
      exact y_put hm hN h1 h2 h3 (hQ ty (k + 1) (Or.inr (Or.inr ⟨hno, rfl, hty⟩)))
    unfold wF_X10_putSign_49
    rw [x_ix2 (hT k)]
    refine ⟨fun h => put 136 (Or.inr ⟨h, rfl⟩), fun h => put _ (Or.inl ⟨by rw [← Bool.not_eq_false]; exact h, rfl⟩)⟩
  have two : ∀ ty : Int32, x_sign T n k (k + 2) ty → wF_X10_putSign_40 N Q (nI k) ty s O := fun ty hty => by
    unfold wF_X10_putSign_40
    have e2 : (2 : Int32) = nI 2 := by decide
    rw [e2, ni_add]
    exact y_put hm hN h1 h2 h3 (hQ ty (k + 2) hty)
  refine ⟨fun h => one (fun q => h q.2), fun h => ⟨fun g => ⟨fun q => absurd g q, fun _ => two 133 (Or.inl ⟨g, h, rfl, rfl⟩)⟩, fun g => ⟨fun q => one (fun z => z.1.elim g q), fun q => ⟨fun _ => two 134 (Or.inr (Or.inl ⟨q, h, rfl, rfl⟩)), fun z => absurd z g⟩⟩⟩⟩
/-- m tokens, in the rows A (types), V (values), P (places); behind them the lexer stands at k with the table tb -/
def x_tr (T : Nat → Int32) (n : Nat) (A V P : Nat → Int32) : Nat → Nat → List (Nat × Nat) → Prop
  | 0, k, tb => k = 0 ∧ tb = []
  | m + 1, k, tb => ∃ (k' : Nat) (tb' : List (Nat × Nat)), x_tr T n A V P m k' tb' ∧ k' ≤ n ∧ x_sk T n n k' < n ∧ x_step T n tb' (x_sk T n n k') (A m) (V m) k tb ∧ P m = nI (x_sk T n n k')
theorem x_tr_cg {A V P A' V' P' : Nat → Int32} : ∀ {m k : Nat} {tb : List (Nat × Nat)}, (∀ i, i < m → A' i = A i ∧ V' i = V i ∧ P' i = P i) → x_tr T n A V P m k tb → x_tr T n A' V' P' m k tb := by
  intro m
  induction m with
  | zero => intro k tb _ h; exact h
  | succ m ih =>
    intro k tb hq h
    obtain ⟨k', tb', a1, a0, a2, a3, a4⟩ := h
    obtain ⟨b1, b2, b3⟩ := hq m (by omega)
    exact ⟨k', tb', ih (fun i hi => hq i (by omega)) a1, a0, a2, by rw [b1, b2]; exact a3, by rw [b3]; exact a4⟩
theorem x_getD_pp (tb : List (Nat × Nat)) (p : Nat × Nat) : (tb ++ [p]).getD tb.length (0, 0) = p := by simp [List.getD_eq_getElem?_getD]
theorem x_getD_pp' (tb : List (Nat × Nat)) (p : Nat × Nat) {i : Nat} (h : i < tb.length) : (tb ++ [p]).getD i (0, 0) = tb.getD i (0, 0) := by
  simp only [List.getD_eq_getElem?_getD]
  rw [List.getElem?_append_left h]
theorem x_tb_word {tb tb' : List (Nat × Nat)} {k e : Nat} {ty v : Int32} (h : x_tb T tb) (hw : x_ws T k (e - k)) (he : e ≤ k + 10) (hx : x_word T tb k e ty v tb') : x_tb T tb' ∧ tb'.length ≤ tb.length + 1 := by
  rcases hx with ⟨q, -, -, -, rfl⟩ | ⟨hq, -, ⟨w, -, -, -, rfl⟩ | ⟨hn, -, rfl⟩⟩
  · exact ⟨h, by omega⟩
  · exact ⟨h, by omega⟩
  · have hl : (tb ++ [(k, e - k)]).length = tb.length + 1 := by simp
    refine ⟨⟨fun w hw' => ?_, fun w w' a b hs => ?_⟩, by omega⟩
    · by_cases q : w = tb.length
      · rw [q, x_getD_pp]; exact ⟨hw, by show e - k ≤ 10; omega, hq⟩
      · rw [x_getD_pp' tb _ (by omega)]; exact h.1 w (by omega)
    · by_cases q : w = tb.length
      · by_cases q' : w' = tb.length
        · omega
        · rw [q, x_getD_pp, x_getD_pp' tb _ (by omega)] at hs
          exact absurd hs (hn w' (by omega))
      · by_cases q' : w' = tb.length
        · rw [q', x_getD_pp, x_getD_pp' tb _ (by omega)] at hs
          exact absurd ⟨hs.1.symm, fun i hi => (hs.2 i (by have := hs.1; omega)).symm⟩ (hn w (by omega))
        · rw [x_getD_pp' tb _ (by omega), x_getD_pp' tb _ (by omega)] at hs
          exact h.2 w w' (by omega) (by omega) hs
/-- a token takes a byte at least -/
theorem x_step_e {tb tb' : List (Nat × Nat)} {k e : Nat} {ty v : Int32} (hk : k < n) (h : x_step T n tb k ty v e tb') : k + 1 ≤ e ∧ e ≤ n := by
  have hle := x_we_le T n n k (by omega)
  rcases h with ⟨h1, rfl, -⟩ | ⟨h1, -, rfl, -⟩ | ⟨-, -, h⟩
  · exact ⟨x_we_1 T hk (by unfold x_wd; rw [h1]; exact Bool.or_true _), by omega⟩
  · exact ⟨x_we_1 T hk (by unfold x_wd; rw [h1]; rfl), by omega⟩
  · have hat : x_at T n (k + 1) = 61 → k + 1 < n := fun q => Nat.not_le.mp fun z => by
      rw [show x_at T n (k + 1) = 0 from if_neg (by omega)] at q
      exact absurd q (by decide)
    rcases h with ⟨-, h, -, rfl⟩ | ⟨-, h, -, rfl⟩ | ⟨-, rfl, -⟩
    · have := hat h; omega
    · have := hat h; omega
    · omega
end LX8
