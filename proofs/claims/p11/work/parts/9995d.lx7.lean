/-! WORDS AND SIGNS. -/
section LX7
variable {N : Nat → Nat} {s : f_S3} {T : Nat → Int32} {n : Nat} {O : Nat × Nat}
def x_K (T : Nat → Int32) (tb : List (Nat × Nat)) : List Int64 := x_K0 33 ++ tb.map (fun p => Int64.ofNat (x_kt T p.1 p.2))
def x_tb (T : Nat → Int32) (tb : List (Nat × Nat)) : Prop := (∀ w, w < tb.length → x_ws T (tb.getD w (0, 0)).1 (tb.getD w (0, 0)).2 ∧ (tb.getD w (0, 0)).2 ≤ 10 ∧ ∀ q, ¬ x_wq T (tb.getD w (0, 0)).1 (tb.getD w (0, 0)).2 q) ∧ ∀ w w', w < tb.length → w' < tb.length → x_same T (tb.getD w (0, 0)).1 (tb.getD w (0, 0)).2 (tb.getD w' (0, 0)) → w = w'
/-- s' is s with one more token, and perhaps a new word in the lexicon -/
def y_ext (s s' : f_S3) (m : Nat) (ty v : Int32) (k : Nat) : Prop := s'.1 26 = nI (m + 1) ∧ (∀ j, j ≠ 26 → j ≠ 33 → s'.1 j = s.1 j) ∧ (∀ i, s'.2.1 11 i = if i = m then ty else s.2.1 11 i) ∧ (∀ i, s'.2.1 12 i = if i = m then v else s.2.1 12 i) ∧ (∀ i, s'.2.1 13 i = if i = m then nI k else s.2.1 13 i) ∧ (∀ c i, c ≠ 11 → c ≠ 12 → c ≠ 13 → c ≠ 15 → c ≠ 16 → s'.2.1 c i = s.2.1 c i)
theorem y_ext_tk {m : Nat} {ty v : Int32} {k : Nat} (hm : m < 2 ^ 31) : y_ext s (y_tk s m ty v k) m ty v k := by
  have cm : (nI m).toNatClampNeg = m := y_cl hm
  refine ⟨?_, fun j h1 _ => ?_, fun i => ?_, fun i => ?_, fun i => ?_, fun c i c1 c2 c3 _ _ => ?_⟩
  · show um s.1 26 (nI (m + 1)) 26 = _; rw [um_at, if_pos rfl]
  · show um s.1 26 (nI (m + 1)) j = _; rw [um_at, if_neg h1]
  · show uf (uf (uf s.2.1 11 (nI m) ty) 12 (nI m) v) 13 (nI m) (nI k) 11 i = _
    rw [uf_at2, if_neg (fun z => by omega), uf_at2, if_neg (fun z => by omega), uf_at2, cm]
    by_cases q : i = m
    · rw [if_pos ⟨rfl, q⟩, if_pos q]
    · rw [if_neg (fun z => q z.2), if_neg q]
  · show uf (uf (uf s.2.1 11 (nI m) ty) 12 (nI m) v) 13 (nI m) (nI k) 12 i = _
    rw [uf_at2, if_neg (fun z => by omega), uf_at2, cm]
    by_cases q : i = m
    · rw [if_pos ⟨rfl, q⟩, if_pos q]
    · rw [if_neg (fun z => q z.2), if_neg q, uf_at2, if_neg (fun z => by omega)]
  · show uf (uf (uf s.2.1 11 (nI m) ty) 12 (nI m) v) 13 (nI m) (nI k) 13 i = _
    rw [uf_at2, cm]
    by_cases q : i = m
    · rw [if_pos ⟨rfl, q⟩, if_pos q]
    · rw [if_neg (fun z => q z.2), if_neg q, uf_at2, if_neg (fun z => by omega), uf_at2, if_neg (fun z => by omega)]
  · show uf (uf (uf s.2.1 11 (nI m) ty) 12 (nI m) v) 13 (nI m) (nI k) c i = _
    rw [uf_at2, if_neg (fun z => c3 z.1), uf_at2, if_neg (fun z => c2 z.1), uf_at2, if_neg (fun z => c1 z.1)]
theorem y_L_tk {K : List Int64} {m : Nat} {ty v : Int32} {k : Nat} (h : y_L N s K) : y_L N (y_tk s m ty v k) K := by
  obtain ⟨h1, h2, h3, h4, h5, h6, h7, h8⟩ := h
  refine ⟨?_, h2, h3, h4, h5, h6, fun b hb => ?_, fun i hi => ?_⟩
  · rw [← h1]; show um s.1 26 (nI (m + 1)) 33 = _; rw [um_at, if_neg (by decide)]
  · rw [← h7 b hb]; show uf (uf (uf s.2.1 11 (nI m) ty) 12 (nI m) v) 13 (nI m) (nI k) 16 b = _
    rw [uf_at2, if_neg (fun z => by omega), uf_at2, if_neg (fun z => by omega), uf_at2, if_neg (fun z => by omega)]
  · rw [← h8 i hi]; show uf (uf (uf s.2.1 11 (nI m) ty) 12 (nI m) v) 13 (nI m) (nI k) 15 i = _
    rw [uf_at2, if_neg (fun z => by omega), uf_at2, if_neg (fun z => by omega), uf_at2, if_neg (fun z => by omega)]
theorem y_new_1 {k : Int64} {m j : Nat} (h : j ≠ 33) : (y_new s k m).1 j = s.1 j := by
  show um s.1 33 (nI (m + 1)) j = _; rw [um_at, if_neg h]
theorem y_new_2 {k : Int64} {m c i : Nat} (h1 : c ≠ 15) (h2 : c ≠ 16) : (y_new s k m).2.1 c i = s.2.1 c i := by
  show uf (uf s.2.1 15 (nI m) (s.2.1 16 (x_bk k))) 16 (nI (x_bk k)) (nI m) c i = _
  rw [uf_at2, if_neg (fun z => h2 z.1), uf_at2, if_neg (fun z => h1 z.1)]
theorem y_ext_new {m : Nat} {ty v : Int32} {k l : Nat} {key : Int64} (hm : m < 2 ^ 31) : y_ext s (y_tk (y_new s key l) m ty v k) m ty v k := by
  obtain ⟨h1, h2, h3, h4, h5, h6⟩ := y_ext_tk (s := y_new s key l) (ty := ty) (v := v) (k := k) hm
  refine ⟨h1, fun j a b => by rw [h2 j a b, y_new_1 b], fun i => by rw [h3, y_new_2 (by decide) (by decide)], fun i => by rw [h4, y_new_2 (by decide) (by decide)], fun i => by rw [h5, y_new_2 (by decide) (by decide)], fun c i a b d e f => by rw [h6 c i a b d e f, y_new_2 e f]⟩
theorem x_K_len (T : Nat → Int32) (tb : List (Nat × Nat)) : (x_K T tb).length = 33 + tb.length := by simp [x_K, x_K0_len]
theorem x_K_lo (T : Nat → Int32) (tb : List (Nat × Nat)) {j : Nat} (h : j < 33) : (x_K T tb).getD j 0 = Int64.ofNat (x_qk j) := by
  rw [← x_K0_at h]
  unfold x_K
  simp only [List.getD_eq_getElem?_getD]
  rw [List.getElem?_append_left (by rw [x_K0_len]; exact h)]
theorem x_K_hi (T : Nat → Int32) (tb : List (Nat × Nat)) {w : Nat} (h : w < tb.length) : (x_K T tb).getD (33 + w) 0 = Int64.ofNat (x_kt T (tb.getD w (0, 0)).1 (tb.getD w (0, 0)).2) := by
  unfold x_K
  simp only [List.getD_eq_getElem?_getD]
  rw [List.getElem?_append_right (by rw [x_K0_len]; omega), x_K0_len, Nat.add_sub_cancel_left, List.getElem?_map, List.getElem?_eq_getElem h]
  rfl
theorem x_K_app (T : Nat → Int32) (tb : List (Nat × Nat)) (k m : Nat) : x_K T tb ++ [Int64.ofNat (x_kt T k m)] = x_K T (tb ++ [(k, m)]) := by simp [x_K]
theorem x_pw {m : Nat} (h : m ≤ 10) {x : Nat} (hx : x < 64 ^ m) : x < 2 ^ 60 := by
  have : (64 : Nat) ^ m ≤ 64 ^ 10 := Nat.pow_le_pow_right (by decide) h
  have : (64 : Nat) ^ 10 = 2 ^ 60 := by decide
  omega
theorem x_pw9 {m : Nat} (h : m ≤ 9) {x : Nat} (hx : x < 64 ^ m) : x < 2 ^ 54 := by
  have : (64 : Nat) ^ m ≤ 64 ^ 9 := Nat.pow_le_pow_right (by decide) h
  have : (64 : Nat) ^ 9 = 2 ^ 54 := by decide
  omega
theorem y_putWord (hc : y_T N s T n) {tb : List (Nat × Nat)} (hL : y_L N s (x_K T tb)) (htb : x_tb T tb) {k m : Nat} (hk : k < n) (hd : x_lt (T k) = true) (hm : s.1 26 = nI m) (hN : m < N 11) (h1 : N 12 = N 11) (h2 : N 13 = N 11) (h3 : N 11 < 10000) (hcap : 33 + tb.length < N 14) {Q : Int32 → f_S3 → Nat × Nat → Prop} (hQ : ∀ (ty v : Int32) (tb' : List (Nat × Nat)) (s' : f_S3), ((k + 10 < x_we T n n k ∧ ty = 136 ∧ tb' = tb) ∨ (x_we T n n k ≤ k + 10 ∧ x_word T tb k (x_we T n n k) ty v tb')) → y_L N s' (x_K T tb') → y_ext s s' m ty v k → Q (nI (x_we T n n k)) s' O) : wF_X10_putWord N (nI k) s O Q := by
  have hle := x_we_le T n n k (by omega)
  have hn := hc.2.1
  have h14 := hL.2.2.2.2.1
  have hwe : ∀ i, k ≤ i → i < x_we T n n k → x_wd (T i) = true := x_we_in T n n k
  have hge : k + 1 ≤ x_we T n n k := x_we_1 T hk (by unfold x_wd; rw [hd]; rfl)
  refine y_behindWord hc (by omega) ?_
  generalize he : x_we T n n k = e at hQ hle hwe hge ⊢
  have e10 : (10 : Int32) = nI 10 := by decide
  rw [y_sub hle.1 (by omega), e10, y_le (by omega) (by omega)]
  refine ⟨fun h10 => ?_, fun h10 => y_put hm hN h1 h2 h3 (hQ 136 0 tb _ (Or.inl ⟨by omega, rfl, rfl⟩) (y_L_tk hL) (y_ext_tk (by omega)))⟩
  have hws : x_ws T k (e - k) := fun i hi => hwe _ (by omega) (by omega)
  have key : ∀ (f j : Nat), j + f = e - k → wF_X10_putWord_30 N Q (f + 1) (nI k) (nI e) (Int64.ofNat (x_kt T k j)) (nI (k + j)) s O := by
    intro f
    induction f with
    | succ f ih =>
      intro j hj
      refine ⟨fun h => ?_, fun _ => ?_⟩
      · rw [y_le (by omega) (by omega)] at h; omega
      · refine y_byteAt hc (by omega) ?_
        rw [show x_at T n (k + j) = T (k + j) from if_pos (by omega)]
        refine y_longer (hws j (by omega)) (x_pw9 (m := j) (by omega) (x_kt_lt (fun i hi => hws i (by omega)))) ?_
        rw [y_1]
        exact ih (j + 1) (by omega)
    | zero =>
      intro j hj
      have hje : j = e - k := by omega
      subst hje
      refine ⟨fun _ => ?_, fun h => absurd ((y_le (by omega) (by omega)).mpr (by omega)) h⟩
      have hkb : x_kt T k (e - k) < 2 ^ 60 := x_pw h10 (x_kt_lt hws)
      have hsm : x_sm (T k) = true ↔ 97 ≤ (T k).toInt := by rw [x_sm_iff]; rw [x_lt_iff] at hd; omega
      have e97 : (97 : Int32).toInt = 97 := by decide
      have byt : ∀ (s1 : f_S3) (v : Int32), y_T N s1 T n → (∀ ty : Int32, ty = (if x_sm (T k) = true then 130 else 131) → wF_X10_putWord_106 N Q (nI k) (nI e) v ty s1 O) → wF_X10_byteAt N (nI k) s1 O (fun r5 M6 O6 => ((r5 < 97 → (wF_X10_putWord_106 N Q (nI k) (nI e) v 131 M6 O6)) ∧ (¬ r5 < 97 → (wF_X10_putWord_106 N Q (nI k) (nI e) v 130 M6 O6)))) := fun s1 v hc1 g => by
        refine y_byteAt hc1 (by omega) ?_
        rw [show x_at T n k = T k from if_pos hk]
        refine ⟨fun h => g 131 ?_, fun h => g 130 ?_⟩
        · have h := Int32.lt_iff_toInt_lt.mp h
          rw [if_neg (fun q => by have := hsm.mp q; omega)]
        · have h := ti_nlt h
          rw [if_pos (hsm.mpr (by omega))]
      refine y_numberOf hL _ (fun j hj he9 => ?_) (fun hno => ⟨by rw [x_K_len]; exact hcap, ?_⟩)
      · rw [x_K_len] at hj
        by_cases h33 : j < 33
        · rw [x_K_lo T tb h33] at he9
          have q1 := x_of_inj (x_q5 j h33).1 hkb he9
          obtain ⟨q2, q3⟩ := x_kt_inj (fun i hi => x_q6 j h33 i hi) hws q1
          have e33 : (33 : Int32) = nI 33 := by decide
          have e200 : (200 : Int32) = nI 200 := by decide
          rw [e33, y_le (by omega) (by omega)]
          refine ⟨fun h => by omega, fun _ => ?_⟩
          rw [e200, ni_add]
          exact y_put hm hN h1 h2 h3 (hQ _ _ tb _ (Or.inr ⟨by omega, Or.inl ⟨j, ⟨h33, q2.symm, fun i hi => (q3 i (by omega)).symm⟩, rfl, rfl, rfl⟩⟩) (y_L_tk hL) (y_ext_tk (by omega)))
        · obtain ⟨w, rfl⟩ : ∃ w, j = 33 + w := ⟨j - 33, by omega⟩
          have hw : w < tb.length := by omega
          obtain ⟨t1, t2, t3⟩ := htb.1 w hw
          rw [x_K_hi T tb hw] at he9
          have q1 := x_of_inj (x_pw t2 (x_kt_lt t1)) hkb he9
          obtain ⟨q2, q3⟩ := x_kt_inj t1 hws q1
          have e33 : (33 : Int32) = nI 33 := by decide
          rw [e33, y_le (by omega) (by omega)]
          refine ⟨fun _ => byt s _ hc (fun ty hty => ?_), fun h => by omega⟩
          refine y_put hm hN h1 h2 h3 (hQ _ _ tb _ (Or.inr ⟨by omega, Or.inr ⟨fun q hq => ?_, hty, Or.inl ⟨w, hw, ⟨q2, fun i hi => q3 i (by omega)⟩, rfl, rfl⟩⟩⟩) (y_L_tk hL) (y_ext_tk (by omega)))
          refine t3 q ⟨hq.1, by rw [q2]; exact hq.2.1, fun i hi => ?_⟩
          rw [q3 i hi]; exact hq.2.2 i (by omega)
      · have hlen := x_K_len T tb
        have e33 : (33 : Int32) = nI 33 := by decide
        have hL2 := y_L_new (k := Int64.ofNat (x_kt T k (e - k))) hL (by omega)
        rw [x_K_app] at hL2
        rw [e33, y_le (by omega) (by omega)]
        refine ⟨fun _ => byt _ _ ⟨by rw [y_new_1 (by decide)]; exact hc.1, hc.2.1, hc.2.2.1, fun i hi => by rw [y_new_2 (by decide) (by decide)]; exact hc.2.2.2 i hi⟩ (fun ty hty => ?_), fun h => by omega⟩
        refine y_put (by rw [y_new_1 (by decide)]; exact hm) hN h1 h2 h3 (hQ _ _ (tb ++ [(k, e - k)]) _ (Or.inr ⟨by omega, Or.inr ⟨fun q hq => ?_, hty, Or.inr ⟨fun w hw hs => ?_, by rw [hlen], rfl⟩⟩⟩) (y_L_tk hL2) (y_ext_new (by omega)))
        · refine hno q (by have := hq.1; omega) ?_
          rw [x_K_lo T tb hq.1]
          congr 1
          show x_kt x_T0 _ _ = _
          rw [← hq.2.1]
          exact x_kt_cg (fun i hi => (hq.2.2 i hi).symm)
        · refine hno (33 + w) (by omega) ?_
          rw [x_K_hi T tb hw]
          congr 1
          rw [hs.1]
          exact x_kt_cg hs.2
  exact ⟨e - k + 1, key (e - k) 0 (by omega)⟩
end LX7
