/-! THE CLASS'S LEXICON: K, the keys in the order of their numbers. -/
section LX3
theorem fs_m127 (a : Int64) : 0 ≤ (f_m127 a).toInt ∧ (f_m127 a).toInt < 127 := by
  have h1 := s_fm a
  have h2 := s_xor a
  have h127 : (127 : Int64).toInt = 127 := by decide
  have h0 : (0 : Int64).toInt = 0 := by decide
  unfold f_m127
  generalize a - a / 127 * 127 = r at h1 ⊢
  by_cases hc : (0 : Int64) ≤ a ^^^ 127
  · rw [if_pos hc]
    have hc := Int64.le_iff_toInt_le.mp hc
    rw [h0] at hc
    omega
  · rw [if_neg hc]
    have hc : ¬ (0 : Int64).toInt ≤ (a ^^^ 127).toInt := fun q => hc (Int64.le_iff_toInt_le.mpr q)
    rw [h0] at hc
    by_cases hr : r = 0
    · rw [if_pos hr, hr, h0]; omega
    · rw [if_neg hr]
      have hc3 : ¬ r.toInt = 0 := fun q => hr (Int64.toInt_inj.mp (by rw [q, h0]))
      have e : (r + 127).toInt = r.toInt + 127 := by
        rw [Int64.toInt_add, h127]
        apply Int.bmod_eq_of_le <;> omega
      omega
def x_bk (k : Int64) : Nat := (f_m127 k).toInt.toNat
theorem x_bk_lt (k : Int64) : x_bk k < 127 := by have := fs_m127 k; unfold x_bk; omega
theorem x_bk_nI (k : Int64) : (f_m127 k).toInt32 = nI (x_bk k) := by
  have h := fs_m127 k
  apply Int32.toInt_inj.mp
  have := x_bk_lt k
  rw [fs_nI (by omega), Int64.toInt_toInt32]
  unfold x_bk
  have e : ((f_m127 k).toInt).bmod (2 ^ 32) = (f_m127 k).toInt := by apply Int.bmod_eq_of_le <;> omega
  rw [e]; omega
/-- the last one below m in a bucket -/
def x_la (K : List Int64) (b : Nat) : Nat → Int32
  | 0 => -1
  | m + 1 => if x_bk (K.getD m 0) = b then nI m else x_la K b m
def y_L (N : Nat → Nat) (s : f_S3) (K : List Int64) : Prop := s.1 33 = nI K.length ∧ K.length ≤ N 14 ∧ N 15 = N 14 ∧ N 16 = 127 ∧ N 14 < 1000000 ∧ (∀ i, i < K.length → s.2.2 14 i = K.getD i 0) ∧ (∀ b, b < 127 → s.2.1 16 b = x_la K b K.length) ∧ (∀ i, i < K.length → s.2.1 15 i = x_la K (x_bk (K.getD i 0)) i)
theorem x_la_spec (K : List Int64) (b : Nat) : ∀ m : Nat, (x_la K b m = -1 ∧ ∀ i, i < m → ¬ x_bk (K.getD i 0) = b) ∨ ∃ j, j < m ∧ x_la K b m = nI j ∧ x_bk (K.getD j 0) = b ∧ ∀ i, j < i → i < m → ¬ x_bk (K.getD i 0) = b := by
  intro m
  induction m with
  | zero => exact Or.inl ⟨rfl, fun i hi => by omega⟩
  | succ m ih =>
    by_cases h : x_bk (K.getD m 0) = b
    · exact Or.inr ⟨m, by omega, if_pos h, h, fun i h1 h2 => by omega⟩
    · have e : x_la K b (m + 1) = x_la K b m := if_neg h
      rw [e]
      rcases ih with ⟨h1, h2⟩ | ⟨j, h1, h2, h3, h4⟩
      · exact Or.inl ⟨h1, fun i hi => by
          by_cases q : i = m
          · rw [q]; exact h
          · exact h2 i (by omega)⟩
      · exact Or.inr ⟨j, by omega, h2, h3, fun i g1 g2 => by
          by_cases q : i = m
          · rw [q]; exact h
          · exact h4 i g1 (by omega)⟩
theorem x_la_app (K : List Int64) (k : Int64) (b : Nat) : ∀ m, m ≤ K.length → x_la (K ++ [k]) b m = x_la K b m := by
  intro m
  induction m with
  | zero => intro _; rfl
  | succ m ih =>
    intro h
    have e : (K ++ [k]).getD m 0 = K.getD m 0 := by
      simp only [List.getD_eq_getElem?_getD]
      rw [List.getElem?_append_left (by omega)]
    show (if x_bk ((K ++ [k]).getD m 0) = b then nI m else x_la (K ++ [k]) b m) = (if x_bk (K.getD m 0) = b then nI m else x_la K b m)
    rw [e, ih (by omega)]
theorem x_getD_app (K : List Int64) (k : Int64) : (K ++ [k]).getD K.length 0 = k := by
  simp [List.getD_eq_getElem?_getD]
theorem x_getD_app' (K : List Int64) (k : Int64) {i : Nat} (h : i < K.length) : (K ++ [k]).getD i 0 = K.getD i 0 := by
  simp only [List.getD_eq_getElem?_getD]
  rw [List.getElem?_append_left h]
/-- the state behind a new word -/
def y_new (s : f_S3) (k : Int64) (m : Nat) : f_S3 := fm (ff (ff (fj s 14 (nI m) k) 15 (nI m) (s.2.1 16 (x_bk k))) 16 (nI (x_bk k)) (nI m)) 33 (nI (m + 1))
theorem uj_at (J : Nat → Nat → Int64) (c : Nat) (i : Int32) (v : Int64) (j x : Nat) : uj J c i v j x = if j = c ∧ x = i.toNatClampNeg then v else J j x := by
  rw [fj_e]
  unfold b_uJ
  by_cases h : j = c
  · subst h
    rw [if_pos rfl]
    unfold vp_updL
    by_cases hx : x = i.toNatClampNeg
    · subst hx; simp
    · simp [hx]
  · rw [if_neg h, if_neg (fun q => h q.1)]
theorem uf_at2 (F : Nat → Nat → Int32) (c : Nat) (i v : Int32) (j x : Nat) : uf F c i v j x = if j = c ∧ x = i.toNatClampNeg then v else F j x := by
  rw [uf_at]
  by_cases h : j = c
  · subst h
    rw [if_pos rfl]
    unfold upd
    by_cases hx : x = i.toNatClampNeg
    · subst hx; simp
    · simp [hx]
  · rw [if_neg h, if_neg (fun q => h q.1)]
theorem y_L_new {N : Nat → Nat} {s : f_S3} {K : List Int64} {k : Int64} (hL : y_L N s K) (hc : K.length < N 14) : y_L N (y_new s k K.length) (K ++ [k]) := by
  obtain ⟨h1, h2, h3, h4, h5, h6, h7, h8⟩ := hL
  have hb := x_bk_lt k
  have hl : (K ++ [k]).length = K.length + 1 := by simp
  have cm : (nI K.length).toNatClampNeg = K.length := y_cl (by omega)
  have cb : (nI (x_bk k)).toNatClampNeg = x_bk k := y_cl (by omega)
  refine ⟨?_, by omega, h3, h4, h5, fun i hi => ?_, fun b hbb => ?_, fun i hi => ?_⟩
  · rw [hl]; show um s.1 33 (nI (K.length + 1)) 33 = _; rw [um_at, if_pos rfl]
  · show uj s.2.2 14 (nI K.length) k 14 i = _
    rw [uj_at, cm]
    by_cases q : i = K.length
    · rw [if_pos ⟨rfl, q⟩, q, x_getD_app]
    · rw [if_neg (fun z => q z.2), x_getD_app' K k (by omega)]
      exact h6 i (by omega)
  · show uf (uf s.2.1 15 (nI K.length) (s.2.1 16 (x_bk k))) 16 (nI (x_bk k)) (nI K.length) 16 b = _
    rw [uf_at2, cb, hl]
    show _ = if x_bk ((K ++ [k]).getD K.length 0) = b then nI K.length else x_la (K ++ [k]) b K.length
    rw [x_getD_app, x_la_app K k b _ (Nat.le_refl _)]
    by_cases q : b = x_bk k
    · rw [if_pos ⟨rfl, q⟩, if_pos q.symm]
    · rw [if_neg (fun z => q z.2), if_neg (fun z => q z.symm), uf_at2, if_neg (fun z => by omega)]
      exact h7 b hbb
  · show uf (uf s.2.1 15 (nI K.length) (s.2.1 16 (x_bk k))) 16 (nI (x_bk k)) (nI K.length) 15 i = _
    rw [uf_at2, if_neg (fun z => by omega), uf_at2, cm, x_la_app K k _ i (by omega)]
    by_cases q : i = K.length
    · rw [if_pos ⟨rfl, q⟩, q, x_getD_app]
      exact h7 _ hb
    · rw [if_neg (fun z => q z.2), x_getD_app' K k (by omega)]
      exact h8 i (by omega)
theorem y_numberOf {N : Nat → Nat} {s : f_S3} {K : List Int64} {O : Nat × Nat} (hL : y_L N s K) (k : Int64) {Q : Int32 → f_S3 → Nat × Nat → Prop} (h1 : ∀ j, j < K.length → K.getD j 0 = k → Q (nI j) s O) (h0 : (∀ j, j < K.length → ¬ K.getD j 0 = k) → K.length < N 14 ∧ Q (nI K.length) (y_new s k K.length) O) : wF_X4_numberOf N k s O Q := by
  have hL0 := hL
  obtain ⟨g1, g2, g3, g4, g5, g6, g7, g8⟩ := hL
  have hb := x_bk_lt k
  have e1 : (1 : Int32) = nI 1 := by decide
  have hend : (∀ j, j < K.length → ¬ K.getD j 0 = k) → wF_X4_numberOf_75 N Q k (nI (x_bk k)) s O := fun hn => by
    obtain ⟨hc, hq⟩ := h0 hn
    unfold wF_X4_numberOf_75
    rw [g1, y_cl (show x_bk k < 2 ^ 31 by omega), y_1, g3, g4]
    have e : nI (K.length + 1) - 1 = nI K.length := by
      apply Int32.toInt_inj.mp
      have l1 : (1 : Int32).toInt = 1 := by decide
      have a1 := fs_nI (n := K.length + 1) (by omega)
      have a2 := fs_nI (n := K.length) (by omega)
      have := ti_subx (nI (K.length + 1)) 1 (by omega)
      omega
    rw [e]
    refine ⟨fun _ => ⟨y_in hc (by omega), y_in hb (by omega), y_in hc (by omega), y_in hb (by omega), hq⟩, fun h => absurd ((y_lt (by omega) (by omega)).mpr hc) h⟩
  have key : ∀ (f m a : Nat), m ≤ f → m ≤ K.length → a + m ≤ K.length → (∀ j, m ≤ j → j < K.length → ¬ K.getD j 0 = k) → wF_X4_numberOf_20 N Q (f + 1) k (nI (x_bk k)) (x_la K (x_bk k) m) (nI a) s O := by
    intro f
    induction f with
    | zero =>
      intro m a hf hm ha hn
      have hm0 : m = 0 := by omega
      subst hm0
      refine ⟨fun _ => hend (fun j hj => hn j (by omega) hj), fun _ => ⟨fun _ => hend (fun j hj => hn j (by omega) hj), fun h => absurd (show (-1 : Int32) < 0 by decide) h⟩⟩
    | succ f ih =>
      intro m a hf hm ha hn
      rcases x_la_spec K (x_bk k) m with ⟨q1, q2⟩ | ⟨j, q1, q2, q3, q4⟩
      · have hall : ∀ j, j < K.length → ¬ K.getD j 0 = k := fun j hj he => by
          by_cases hjm : j < m
          · exact q2 j hjm (by rw [he])
          · exact hn j (by omega) hj he
        rw [q1]
        exact ⟨fun _ => hend hall, fun _ => ⟨fun _ => hend hall, fun h => absurd (show (-1 : Int32) < 0 by decide) h⟩⟩
      · rw [q2]
        refine ⟨fun h => ?_, fun _ => ⟨fun h => absurd h (y_lt0 (by omega)), fun _ => ⟨fun h => ?_, fun _ => ⟨y_in (by omega) (by omega), fun h => ⟨by rw [g3]; exact y_in (by omega) (by omega), ?_⟩, fun h => ?_⟩⟩⟩⟩
        · rw [y_le (by omega) (by omega)] at h; omega
        · rw [y_le (by omega) (by omega)] at h; omega
        · rw [y_cl (by omega), g6 j (by omega), lg_cmp_eq] at h
          rw [y_cl (by omega), g8 j (by omega), q3, y_1]
          refine ih j (a + 1) (by omega) (by omega) (by omega) (fun i i1 i2 he => ?_)
          by_cases hij : i = j
          · rw [hij] at he; exact h he
          · by_cases him : i < m
            · exact q4 i (by omega) him (by rw [he])
            · exact hn i (by omega) i2 he
        · rw [y_cl (by omega), g6 j (by omega), lg_cmp_eq] at h
          exact h1 j (by omega) h
  unfold wF_X4_numberOf
  rw [x_bk_nI, g4]
  refine ⟨y_in hb (by omega), fun v hv => ⟨K.length + 1, ?_⟩⟩
  rw [y_cl (by omega), g7 _ hb] at hv
  rw [hv]
  exact key K.length K.length 0 (Nat.le_refl _) (Nat.le_refl _) (by omega) (fun j h1 h2 => by omega)
end LX3
