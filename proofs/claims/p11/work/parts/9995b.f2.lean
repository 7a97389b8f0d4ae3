/-! JAVA'S OWN, WITH THEIR ANSWERS. -/
def f_i2c (a : Int32) : Int32 := (a.toUInt32 % 65536).toInt32
def f_ushr (a b : Int32) : Int32 := (a.toUInt32 >>> (b.toUInt32 &&& Int32.toUInt32 31)).toInt32
def f_lshl (a : Int64) (b : Int32) : Int64 := a <<< (b.toInt64 &&& 63)
def f_m127 (a : Int64) : Int64 := if (0 : Int64) ≤ a ^^^ 127 then a - a / 127 * 127 else if a - a / 127 * 127 = 0 then a - a / 127 * 127 else a - a / 127 * 127 + 127
def f_enc (c : Int32) : Int32 := if c < 0 then 0 else if 255 < c then 0 else 1
def f_ixc (i : Nat) (v : Int32) : Nat → Nat → Int32
  | 0, _ => -1
  | n + 1, k => if (s_byt.getD i []).getD k 0 = v then nI k else f_ixc i v n (k + 1)
def f_ixOf (i : Nat) (c : Int32) : Int32 := if f_enc c = 0 then -1 else f_ixc i c.toInt8.toInt32 (s_len.getD i 0) 0
section FV
variable {x : ac_X} {A : Nat → Prop} {nL : Nat} {P : Heap → Prop} {cs ss pc : Nat} {lv : List (Nat × Value)} {st : List Value} {cc : ByteArray} {own : String}
theorem fv_i2c (C : ac_C x cc nL own) {a : Int32} (hd : decode cc pc = .ok (.i2c, 1)) (k : ac_G x A nL P cs ss (pc + 1) lv (.int (f_i2c a) :: st)) : ac_G x A nL P cs ss pc lv (.int a :: st) := by
  obtain ⟨p, l, e, R, s, m, args, below, meth, c, Q⟩ := x
  exact fun H locs ls hP hS h => lv_i2c C.1 C.2.1 hd rfl (k H locs ls hP hS h)
theorem fv_iushr (C : ac_C x cc nL own) {a b : Int32} (hd : decode cc pc = .ok (.iushr, 1)) (k : ac_G x A nL P cs ss (pc + 1) lv (.int (f_ushr a b) :: st)) : ac_G x A nL P cs ss pc lv (.int b :: .int a :: st) := by
  obtain ⟨p, l, e, R, s, m, args, below, meth, c, Q⟩ := x
  exact fun H locs ls hP hS h => lv_iushr C.1 C.2.1 hd rfl (k H locs ls hP hS h)
theorem fv_i2b (C : ac_C x cc nL own) {a : Int32} (hd : decode cc pc = .ok (.i2b, 1)) (k : ac_G x A nL P cs ss (pc + 1) lv (.int (a.toInt8.toInt32) :: st)) : ac_G x A nL P cs ss pc lv (.int a :: st) := by
  obtain ⟨p, l, e, R, s, m, args, below, meth, c, Q⟩ := x
  exact fun H locs ls hP hS h => lv_i2b C.1 C.2.1 hd rfl (k H locs ls hP hS h)
theorem fv_i2l (C : ac_C x cc nL own) {a : Int32} (hd : decode cc pc = .ok (.i2l, 1)) (k : ac_G x A nL P cs ss (pc + 1) lv (.long (a.toInt64) :: st)) : ac_G x A nL P cs ss pc lv (.int a :: st) := by
  obtain ⟨p, l, e, R, s, m, args, below, meth, c, Q⟩ := x
  exact fun H locs ls hP hS h => lv_i2l C.1 C.2.1 hd rfl (k H locs ls hP hS h)
theorem fv_lshl (C : ac_C x cc nL own) {a : Int64} {b : Int32} (hd : decode cc pc = .ok (.lshl, 1)) (k : ac_G x A nL P cs ss (pc + 1) lv (.long (f_lshl a b) :: st)) : ac_G x A nL P cs ss pc lv (.int b :: .long a :: st) := by
  obtain ⟨p, l, e, R, s, m, args, below, meth, c, Q⟩ := x
  exact fun H locs ls hP hS h => lv_lshl C.1 C.2.1 hd rfl (k H locs ls hP hS h)
theorem fv_lor (C : ac_C x cc nL own) {a b : Int64} (hd : decode cc pc = .ok (.lor, 1)) (k : ac_G x A nL P cs ss (pc + 1) lv (.long (a ||| b) :: st)) : ac_G x A nL P cs ss pc lv (.long b :: .long a :: st) := by
  obtain ⟨p, l, e, R, s, m, args, below, meth, c, Q⟩ := x
  exact fun H locs ls hP hS h => lv_lor C.1 C.2.1 hd (k H locs ls hP hS h)
end FV
theorem fs_enc_m {l : Launch} {g : s_S} {c : Int32} : s_MetI l g yJ1_canEncode_9a6ad cJ1_canEncode_9a6ad 1 .boolean 0 [.int c] (f_enc c) := by
  refine s_MetI.of (by decide) (Nat.le_of_ble_eq_true rfl) (fun x Z hret => ?_)
  show ac_G x s_no 1 (s_P x) 0 0 0 [(0, .int c)] []
  have h15 : 0 = f_enc c → ac_G x s_no 1 (s_P x) 0 0 15 [(0, .int c)] [] := fun h => by
    refine ac_iconst (v := 0) Z.1 dJ1_canEncode_9a6ad_15 (by decide) ?_
    exact hret _ _ _ dJ1_canEncode_9a6ad_16 rfl h
  refine ac_iload_n Z.1 0 dJ1_canEncode_9a6ad_0 rfl ?_
  refine ac_if_lt (tgt := 15) Z.1 dJ1_canEncode_9a6ad_1 (by decide) (fun hc => h15 (by unfold f_enc; rw [if_pos hc])) (fun hc => ?_)
  refine ac_iload_n Z.1 0 dJ1_canEncode_9a6ad_4 rfl ?_
  refine ac_sipush (v := 255) Z.1 dJ1_canEncode_9a6ad_5 (by decide) ?_
  refine ac_icmp_gt (tgt := 15) Z.1 dJ1_canEncode_9a6ad_8 (by decide) (fun hc2 => h15 (by unfold f_enc; rw [if_neg hc, if_pos hc2])) (fun hc2 => ?_)
  refine ac_iconst (v := 1) Z.1 dJ1_canEncode_9a6ad_11 (by decide) ?_
  refine ac_goto (tgt := 16) Z.1 dJ1_canEncode_9a6ad_12 (by decide) ?_
  exact hret _ _ _ dJ1_canEncode_9a6ad_16 rfl (by unfold f_enc; rw [if_neg hc, if_neg hc2])
theorem fs_nI {n : Nat} (h : n < 2 ^ 31) : (nI n).toInt = (n : Int) := by
  have h1 : ¬ nI n < 0 := nI_pos (by omega)
  have h2 : (nI n).toNatClampNeg = n := nI_clamp (by omega)
  have h3 : ¬ (nI n).toInt < 0 := fun q => h1 (Int32.lt_iff_toInt_lt.mpr q)
  have h4 : (nI n).toInt.toNat = n := h2
  omega
theorem fs_ixc_m {l : Launch} {g : s_S} {i : Nat} (hi : i < 4) {c a b : Int32} (ha : a = nI 0) (hb : b = nI (s_len.getD i 0)) : s_MetI l g yJ1_indexOfChar_4cfef cJ1_indexOfChar_4cfef 6 .int 0 [.ref (g.2 i), .int c, .int a, .int b] (f_ixc i c.toInt8.toInt32 (s_len.getD i 0) 0) := by
  have hL := (s_lens i hi).2
  refine s_MetI.of (by decide) (Nat.le_of_ble_eq_true rfl) (fun x Z hret => ?_)
  show ac_G x s_no 6 (s_P x) 0 0 0 [(0, .ref (g.2 i)), (1, .int c), (2, .int a), (3, .int b)] []
  refine ac_iload_n Z.1 1 dJ1_indexOfChar_4cfef_0 rfl ?_
  refine fv_i2b Z.1 dJ1_indexOfChar_4cfef_1 ?_
  generalize hv9 : c.toInt8.toInt32 = v at hret ⊢
  refine ac_istore (lv' := [(4, .int v), (0, .ref (g.2 i)), (1, .int c), (2, .int a), (3, .int b)]) Z.1 dJ1_indexOfChar_4cfef_2 (by decide) rfl ?_
  refine ac_iload_n Z.1 3 dJ1_indexOfChar_4cfef_4 rfl ?_
  refine ac_istore (lv' := [(5, .int a), (4, .int v), (0, .ref (g.2 i)), (1, .int c), (2, .int a), (3, .int b)]) Z.1 dJ1_indexOfChar_4cfef_5 (by decide) rfl ?_
  subst hb
  have loop : ∀ (n k : Nat), s_len.getD i 0 = k + n → f_ixc i v n k = f_ixc i v (s_len.getD i 0) 0 → ∀ j : Int32, j = nI k → ac_G x s_no 6 (s_P x) 0 0 7 [(5, .int j), (4, .int v), (0, .ref (g.2 i)), (1, .int c), (2, .int a), (3, .int (nI (s_len.getD i 0)))] [] := by
    intro n
    induction n with
    | zero =>
      intro k h1 h2 j hj
      refine ac_iload Z.1 0 dJ1_indexOfChar_4cfef_7 rfl ?_
      refine ac_iload_n Z.1 5 dJ1_indexOfChar_4cfef_9 rfl ?_
      refine ac_icmp_ge (tgt := 31) Z.1 dJ1_indexOfChar_4cfef_10 (by decide) (fun hc => ?_) (fun hc => ?_)
      · refine ac_iconst (v := (-1)) Z.1 dJ1_indexOfChar_4cfef_31 (by decide) ?_
        exact hret _ _ _ dJ1_indexOfChar_4cfef_32 rfl h2
      · exact absurd (by rw [hj]; exact nI_le (by omega) (by omega)) hc
    | succ n ih =>
      intro k h1 h2 j hj
      refine ac_iload Z.1 0 dJ1_indexOfChar_4cfef_7 rfl ?_
      refine ac_iload_n Z.1 5 dJ1_indexOfChar_4cfef_9 rfl ?_
      refine ac_icmp_ge (tgt := 31) Z.1 dJ1_indexOfChar_4cfef_10 (by decide) (fun hc => ?_) (fun hc => ?_)
      · exfalso
        rw [hj] at hc
        have q1 := Int32.le_iff_toInt_le.mp hc
        have q2 : (nI k).toInt = k := fs_nI (by omega)
        have q3 : (nI (s_len.getD i 0)).toInt = (s_len.getD i 0 : Nat) := fs_nI (by omega)
        omega
      · have hk : k < s_len.getD i 0 := by omega
        refine ac_aload_n Z.1 2 dJ1_indexOfChar_4cfef_13 rfl ?_
        refine ac_iload Z.1 0 dJ1_indexOfChar_4cfef_14 rfl ?_
        refine s_bald Z hi (by rw [hj]; exact vp_in_nI hk (by omega)) dJ1_indexOfChar_4cfef_16 ?_
        refine ac_iload Z.1 1 dJ1_indexOfChar_4cfef_17 rfl ?_
        refine ac_icmp_ne (tgt := 25) Z.1 dJ1_indexOfChar_4cfef_19 (by decide) (fun hc => ?_) (fun hc => ?_)
        · have hc : ¬ (s_byt.getD i []).getD k 0 = v := by rw [hj, nI_clamp (by omega)] at hc; exact hc
          have h2' : f_ixc i v n (k + 1) = f_ixc i v (s_len.getD i 0) 0 := by rw [← h2]; show _ = if _ then _ else _; rw [if_neg hc]
          refine ac_iinc (w := j + 1) (lv' := [(5, .int (j + 1)), (4, .int v), (0, .ref (g.2 i)), (1, .int c), (2, .int a), (3, .int (nI (s_len.getD i 0)))]) Z.1 0 dJ1_indexOfChar_4cfef_25 rfl rfl (by decide) rfl ?_
          refine ac_goto (tgt := 7) Z.1 dJ1_indexOfChar_4cfef_28 (by decide) ?_
          exact ih (k + 1) (by omega) h2' _ (by rw [hj]; exact nI_1 k)
        · refine ac_iload Z.1 0 dJ1_indexOfChar_4cfef_22 rfl ?_
          exact hret _ _ _ dJ1_indexOfChar_4cfef_24 rfl (by rw [← h2, hj]; show _ = if _ then _ else _; rw [if_pos (by rw [hj, nI_clamp (by omega)] at hc; exact hc)])
  exact loop (s_len.getD i 0) 0 (by omega) rfl a ha
theorem fs_pos : ∀ i, i < 4 → nI 0 < nI (s_len.getD i 0) := by decide +kernel
theorem fs_lix_m {l : Launch} {g : s_S} {i : Nat} (hi : i < 4) {c : Int32} : s_MetI l g yJ1_indexOf_4cfef cJ1_indexOf_4cfef 4 .int 1 [.ref (g.2 i), .int c, .int 0, .int (nI (s_len.getD i 0))] (f_ixOf i c) := by
  refine s_MetI.of (by decide) (Nat.le_of_ble_eq_true rfl) (fun x Z hret => ?_)
  show ac_G x s_no 4 (s_P x) 0 0 0 [(0, .ref (g.2 i)), (1, .int c), (2, .int 0), (3, .int (nI (s_len.getD i 0)))] []
  refine ac_iload_n Z.1 1 dJ1_indexOf_4cfef_0 rfl ?_
  refine s_calls (As := [.int c]) (st := []) Z kJ1_canEncode_9a6ad lkJ_88 (by omega) fs_enc_m rfl rfl (Nat.le_of_ble_eq_true rfl) dJ1_indexOf_4cfef_1 ?_
  refine ac_if_ne (tgt := 9) Z.1 dJ1_indexOf_4cfef_4 (by decide) (fun hc => ?_) (fun hc => ?_)
  · refine ac_iload_n Z.1 2 dJ1_indexOf_4cfef_9 rfl ?_
    refine ac_iconst (v := 0) Z.1 dJ1_indexOf_4cfef_10 (by decide) ?_
    refine s_max (st := []) Z (by omega) (Nat.le_of_ble_eq_true rfl) dJ1_indexOf_4cfef_11 ?_
    refine ac_topi (fun a9 ha9 => ?_)
    have ha9 : a9 = nI 0 := by rw [ha9]; decide
    refine ac_istore_n (lv' := [(2, .int a9), (0, .ref (g.2 i)), (1, .int c), (3, .int (nI (s_len.getD i 0)))]) Z.1 dJ1_indexOf_4cfef_14 (by decide) rfl ?_
    refine ac_iload_n Z.1 3 dJ1_indexOf_4cfef_15 rfl ?_
    refine ac_aload_n Z.1 1 dJ1_indexOf_4cfef_16 rfl ?_
    refine s_alen Z hi dJ1_indexOf_4cfef_17 ?_
    refine s_min (st := []) Z (by omega) (Nat.le_of_ble_eq_true rfl) dJ1_indexOf_4cfef_18 ?_
    refine ac_topi (fun b9 hb9 => ?_)
    have hb9 : b9 = nI (s_len.getD i 0) := by rw [hb9]; split <;> rfl
    refine ac_istore_n (lv' := [(3, .int b9), (2, .int a9), (0, .ref (g.2 i)), (1, .int c)]) Z.1 dJ1_indexOf_4cfef_21 (by decide) rfl ?_
    refine ac_iload_n Z.1 1 dJ1_indexOf_4cfef_22 rfl ?_
    refine ac_iload_n Z.1 0 dJ1_indexOf_4cfef_23 rfl ?_
    refine ac_icmp_lt (tgt := 29) Z.1 dJ1_indexOf_4cfef_24 (by decide) (fun hc2 => ?_) (fun hc2 => ?_)
    · refine ac_aload_n Z.1 2 dJ1_indexOf_4cfef_29 rfl ?_
      refine ac_iload_n Z.1 3 dJ1_indexOf_4cfef_30 rfl ?_
      refine ac_iload_n Z.1 1 dJ1_indexOf_4cfef_31 rfl ?_
      refine ac_iload_n Z.1 0 dJ1_indexOf_4cfef_32 rfl ?_
      refine s_calls (As := [.ref (g.2 i), .int c, .int a9, .int b9]) (st := []) Z kJ1_indexOfChar_4cfef lkJ_95 (by omega) (fs_ixc_m hi ha9 hb9) rfl rfl (Nat.le_of_ble_eq_true rfl) dJ1_indexOf_4cfef_33 ?_
      exact hret _ _ _ dJ1_indexOf_4cfef_36 rfl (by unfold f_ixOf; rw [if_neg hc])
    · exact absurd (by rw [ha9, hb9]; exact fs_pos i hi) hc2
  · refine ac_iconst (v := (-1)) Z.1 dJ1_indexOf_4cfef_7 (by decide) ?_
    exact hret _ _ _ dJ1_indexOf_4cfef_8 rfl (by unfold f_ixOf; rw [if_pos (hc)])
theorem fs_ix2_m {l : Launch} {g : s_S} {i : Nat} (hi : i < 4) {c : Int32} : s_MetI l g yJ0_indexOf_7cf53 cJ0_indexOf_7cf53 3 .int 2 [.ref (g.1 i), .int c, .int 0] (f_ixOf i c) := by
  refine s_MetI.of (by decide) (Nat.le_of_ble_eq_true rfl) (fun x Z hret => ?_)
  show ac_G x s_no 3 (s_P x) 0 0 0 [(0, .ref (g.1 i)), (1, .int c), (2, .int 0)] []
  refine ac_aload_n Z.1 0 dJ0_indexOf_7cf53_0 rfl ?_
  refine s_calli (As := []) (st := []) Z hi kJ0_isLatin1_aae02 lkJ_isLatin1 (by omega) (s_isLatin1_m hi) rfl rfl (Nat.le_of_ble_eq_true rfl) dJ0_indexOf_7cf53_1 ?_
  refine ac_if_eq (tgt := 23) Z.1 dJ0_indexOf_7cf53_4 (by decide) (fun hc => absurd hc (by decide)) (fun hc => ?_)
  refine ac_aload_n Z.1 0 dJ0_indexOf_7cf53_7 rfl ?_
  refine s_value Z hi dJ0_indexOf_7cf53_8 ?_
  refine ac_iload_n Z.1 1 dJ0_indexOf_7cf53_11 rfl ?_
  refine ac_iload_n Z.1 2 dJ0_indexOf_7cf53_12 rfl ?_
  refine ac_aload_n Z.1 0 dJ0_indexOf_7cf53_13 rfl ?_
  refine s_calli (As := []) (st := [.int 0, .int c, .ref (g.2 i)]) Z hi kJ0_length_8abf5 lkJ_505 (by omega) (s_length_m hi) rfl rfl (Nat.le_of_ble_eq_true rfl) dJ0_indexOf_7cf53_14 ?_
  refine s_calls (As := [.ref (g.2 i), .int c, .int 0, .int (nI (s_len.getD i 0))]) (st := []) Z kJ1_indexOf_4cfef lkJ_637 (by omega) (fs_lix_m hi) rfl rfl (Nat.le_of_ble_eq_true rfl) dJ0_indexOf_7cf53_17 ?_
  refine ac_goto (tgt := 36) Z.1 dJ0_indexOf_7cf53_20 (by decide) ?_
  exact hret _ _ _ dJ0_indexOf_7cf53_36 rfl rfl
theorem fs_ix1_m {l : Launch} {g : s_S} {i : Nat} (hi : i < 4) {c : Int32} : s_MetI l g yJ0_indexOf_0f7a4 cJ0_indexOf_0f7a4 2 .int 3 [.ref (g.1 i), .int c] (f_ixOf i c) := by
  refine s_MetI.of (by decide) (Nat.le_of_ble_eq_true rfl) (fun x Z hret => ?_)
  show ac_G x s_no 2 (s_P x) 0 0 0 [(0, .ref (g.1 i)), (1, .int c)] []
  refine ac_aload_n Z.1 0 dJ0_indexOf_0f7a4_0 rfl ?_
  refine ac_iload_n Z.1 1 dJ0_indexOf_0f7a4_1 rfl ?_
  refine ac_iconst (v := 0) Z.1 dJ0_indexOf_0f7a4_2 (by decide) ?_
  refine s_calli (As := [.int c, .int 0]) (st := []) Z hi kJ0_indexOf_7cf53 lkJ_633 (by omega) (fs_ix2_m hi) rfl rfl (Nat.le_of_ble_eq_true rfl) dJ0_indexOf_0f7a4_3 ?_
  exact hret _ _ _ dJ0_indexOf_0f7a4_6 rfl rfl
theorem fs_fmod_m {l : Launch} {g : s_S} {a : Int64} : s_MetLq l g yJ9_floorMod_f86c9 cJ9_floorMod_f86c9 6 0 [.long a, .long 127] (fun r => r = f_m127 a ∧ 0 ≤ r.toInt ∧ r.toInt < 127) := by
  have h1 := s_fm a
  have h2 := s_xor a
  have h127 : (127 : Int64).toInt = 127 := by decide
  have h0 : (0 : Int64).toInt = 0 := by decide
  refine s_MetLq.of (by decide +kernel) (Nat.le_of_ble_eq_true rfl) (fun x Z hret => ?_)
  show ac_G x s_no 6 (s_P x) 0 0 0 [(0, .long a), (2, .long 127)] []
  refine ac_lload_n Z.1 0 dJ9_floorMod_f86c9_0 rfl ?_
  refine ac_lload_n Z.1 1 dJ9_floorMod_f86c9_1 rfl ?_
  refine ac_lrem Z.1 dJ9_floorMod_f86c9_2 (by decide) ?_
  generalize hr : a - a / 127 * 127 = r at h1 ⊢
  refine ac_lstore (lv' := [(4, .long r), (0, .long a), (2, .long 127)]) Z.1 dJ9_floorMod_f86c9_3 (by decide) rfl ?_
  refine ac_lload_n Z.1 1 dJ9_floorMod_f86c9_5 rfl ?_
  refine ac_lload_n Z.1 2 dJ9_floorMod_f86c9_6 rfl ?_
  refine ac_lxor Z.1 dJ9_floorMod_f86c9_7 ?_
  refine ac_lconst (v := 0) Z.1 dJ9_floorMod_f86c9_8 (by decide) ?_
  refine ac_lcmp Z.1 dJ9_floorMod_f86c9_9 ?_
  refine ac_if_ge (tgt := 25) Z.1 dJ9_floorMod_f86c9_10 (by decide) (fun hc => ?_) (fun hc => ?_)
  · have hc := (lg_cmp_ge _ _).mp hc
    have hcc := hc
    have hc := Int64.le_iff_toInt_le.mp hc
    rw [h0] at hc
    refine ac_lload Z.1 0 dJ9_floorMod_f86c9_25 rfl ?_
    exact hret _ _ _ dJ9_floorMod_f86c9_27 ⟨by unfold f_m127; rw [if_pos hcc, hr], by omega, by omega⟩
  · have hc : ¬ (0 : Int64) ≤ a ^^^ 127 := fun q => hc ((lg_cmp_ge _ _).mpr q)
    have hcc := hc
    have hc : ¬ (0 : Int64).toInt ≤ (a ^^^ 127).toInt := fun q => hc (Int64.le_iff_toInt_le.mpr q)
    rw [h0] at hc
    refine ac_lload Z.1 0 dJ9_floorMod_f86c9_13 rfl ?_
    refine ac_lconst (v := 0) Z.1 dJ9_floorMod_f86c9_15 (by decide) ?_
    refine ac_lcmp Z.1 dJ9_floorMod_f86c9_16 ?_
    refine ac_if_eq (tgt := 25) Z.1 dJ9_floorMod_f86c9_17 (by decide) (fun hc2 => ?_) (fun hc2 => ?_)
    · have hc2 := (lg_cmp_eq _ _).mp hc2
      refine ac_lload Z.1 0 dJ9_floorMod_f86c9_25 rfl ?_
      exact hret _ _ _ dJ9_floorMod_f86c9_27 ⟨by unfold f_m127; rw [if_neg hcc, hr, if_pos hc2], by rw [hc2, h0]; omega, by rw [hc2, h0]; omega⟩
    · have hc2 : ¬ r = 0 := fun q => hc2 ((lg_cmp_eq _ _).mpr q)
      have hc3 : ¬ r.toInt = 0 := fun q => hc2 (Int64.toInt_inj.mp (by rw [q, h0]))
      refine ac_lload Z.1 0 dJ9_floorMod_f86c9_20 rfl ?_
      refine ac_lload_n Z.1 2 dJ9_floorMod_f86c9_22 rfl ?_
      refine ac_ladd Z.1 dJ9_floorMod_f86c9_23 ?_
      have e : (r + 127).toInt = r.toInt + 127 := by
        rw [Int64.toInt_add, h127]
        apply Int.bmod_eq_of_le <;> omega
      exact hret _ _ _ dJ9_floorMod_f86c9_24 ⟨by unfold f_m127; rw [if_neg hcc, hr, if_neg hc2], by rw [e]; omega, by rw [e]; omega⟩
section FST
variable {x : ac_X} {g : b_S} {l : Launch} {own : String} {cc0 : ByteArray} {nL0 rk0 : Nat} {O0 O : Nat × Nat} {M : f_S3} {pc : Nat} {lv : List (Nat × Value)} {st : List Value} {index : Nat}
theorem f_ldcS (Z : b_Cx x g l own cc0 nL0 rk0 O0) (si : Nat) (hi : si < 4) (ho : s_own si = own) (hx : s_ix si = index) (hd : decode cc0 pc = .ok (.ldc index, 2))
    (kk : f_G x g nL0 O0 M O (pc + 2) lv (.ref (b_sK g si) :: st)) : f_G x g nL0 O0 M O pc lv st := by
  obtain ⟨p, l', e, R, s, m, args, below, meth, c, Q0⟩ := x
  obtain ⟨C, K, hR, rfl⟩ := Z
  obtain ⟨t, D, ad, NN, cT, adK, adV, A, up⟩ := g
  have hz := K.2.2.2.1.2.1 si hi
  rw [ho, hx] at hz
  exact fun H locs ls hP hS hlv => va_ldcS C.1 C.2.1 C.2.2.2.1 hz hd (kk H locs ls hP hS hlv)
theorem f_slen (Z : b_Cx x g l own cc0 nL0 rk0 O0) {si : Nat} (hi : si < 4) (hk : 2 ≤ rk0) (hl : Cond.methodLink own index yJ0_length_8abf5 ∈ ac_tbl) (hd : decode cc0 pc = .ok (.invokevirtual index, 3)) (hr : (st.map fun v => v.category).sum ≤ 8)
    (kk : f_G x g nL0 O0 M O (pc + 3) lv (.int (nI (s_len.getD si 0)) :: st)) : f_G x g nL0 O0 M O pc lv (.ref (b_sK g si) :: st) := by
  obtain ⟨p, l', e, R, s, m, args, below, meth, c, Q0⟩ := x
  obtain ⟨C, K, hR, rfl⟩ := Z
  obtain ⟨w1, w2, w3, w4, w5, w6, w7, w8, w9⟩ := kJ0_length_8abf5
  have hb := b_callB0 (own := own) (index := index) (rk := 1) C.2.2.2.2 hR hk (by rw [w1]; exact w2) (by rw [w1]; exact w3) w4 w5 (by rw [w1]; exact w8) w9 hl
  intro H locs ls hP hS hlv
  refine s_ci (va_runV (C := RJ0) (As := []) (rest := st) C (s_length_m (g := (g.2.2.2.2.2.1, g.2.2.2.2.2.2.1)) hi) ⟨hb, C.2.2.2.2 _ w6, C.2.2.2.2 _ w7⟩ ⟨s_blind, b_sRecv K hS hi, fun U hU hW => ⟨rfl, b_sPre K hS hU hW⟩⟩ rfl rfl hlv.1 rfl (lv_room hr) hd (f_room0 hP hR)) (fun v hv => ?_)
  subst hv
  exact kk H locs ls hP hS hlv
theorem f_schar (Z : b_Cx x g l own cc0 nL0 rk0 O0) {si : Nat} (hi : si < 4) (hk : 4 ≤ rk0) (hl : Cond.methodLink own index yJ0_charAt_5068e ∈ ac_tbl) {j : Int32} (hj : vp_in j (s_len.getD si 0)) (hd : decode cc0 pc = .ok (.invokevirtual index, 3)) (hr : (st.map fun v => v.category).sum ≤ 8)
    (kk : f_G x g nL0 O0 M O (pc + 3) lv (.int (s_ch si j) :: st)) : f_G x g nL0 O0 M O pc lv (.int j :: .ref (b_sK g si) :: st) := by
  obtain ⟨p, l', e, R, s, m, args, below, meth, c, Q0⟩ := x
  obtain ⟨C, K, hR, rfl⟩ := Z
  obtain ⟨w1, w2, w3, w4, w5, w6, w7, w8, w9⟩ := kJ0_charAt_5068e
  have hb := b_callB0 (own := own) (index := index) (rk := 3) C.2.2.2.2 hR hk (by rw [w1]; exact w2) (by rw [w1]; exact w3) w4 w5 (by rw [w1]; exact w8) w9 hl
  intro H locs ls hP hS hlv
  refine s_ci (va_runV (C := RJ0) (As := [.int j]) (rest := st) C (s_charAt_m (g := (g.2.2.2.2.2.1, g.2.2.2.2.2.2.1)) hi hj) ⟨hb, C.2.2.2.2 _ w6, C.2.2.2.2 _ w7⟩ ⟨s_blind, b_sRecv K hS hi, fun U hU hW => ⟨rfl, b_sPre K hS hU hW⟩⟩ rfl rfl hlv.1 rfl (lv_room hr) hd (f_room0 hP hR)) (fun v hv => ?_)
  subst hv
  exact kk H locs ls hP hS hlv
theorem f_sidx (Z : b_Cx x g l own cc0 nL0 rk0 O0) {si : Nat} (hi : si < 4) (hk : 4 ≤ rk0) (hl : Cond.methodLink own index yJ0_indexOf_0f7a4 ∈ ac_tbl) {j : Int32} (hd : decode cc0 pc = .ok (.invokevirtual index, 3)) (hr : (st.map fun v => v.category).sum ≤ 8)
    (kk : f_G x g nL0 O0 M O (pc + 3) lv (.int (f_ixOf si j) :: st)) : f_G x g nL0 O0 M O pc lv (.int j :: .ref (b_sK g si) :: st) := by
  obtain ⟨p, l', e, R, s, m, args, below, meth, c, Q0⟩ := x
  obtain ⟨C, K, hR, rfl⟩ := Z
  obtain ⟨w1, w2, w3, w4, w5, w6, w7, w8, w9⟩ := kJ0_indexOf_0f7a4
  have hb := b_callB0 (own := own) (index := index) (rk := 3) C.2.2.2.2 hR hk (by rw [w1]; exact w2) (by rw [w1]; exact w3) w4 w5 (by rw [w1]; exact w8) w9 hl
  intro H locs ls hP hS hlv
  exact s_ci (va_runV (C := RJ0) (As := [.int j]) (rest := st) C (fs_ix1_m (g := (g.2.2.2.2.2.1, g.2.2.2.2.2.2.1)) (c := j) hi) ⟨hb, C.2.2.2.2 _ w6, C.2.2.2.2 _ w7⟩ ⟨s_blind, b_sRecv K hS hi, fun U hU hW => ⟨rfl, b_sPre K hS hU hW⟩⟩ rfl rfl hlv.1 rfl (lv_room hr) hd (f_room0 hP hR)) (fun v hv => by subst hv; exact kk H locs ls hP hS hlv)
theorem f_fmod (Z : b_Cx x g l RX4 cc0 nL0 rk0 O0) (hk : 1 ≤ rk0) {a : Int64} (hd : decode cc0 pc = .ok (.invokestatic 52, 3)) (hr : (st.map fun v => v.category).sum ≤ 8)
    (kk : f_G x g nL0 O0 M O (pc + 3) lv (.long (f_m127 a) :: st)) : f_G x g nL0 O0 M O pc lv (.long 127 :: .long a :: st) := by
  obtain ⟨p, l', e, R, s, m, args, below, meth, c, Q0⟩ := x
  obtain ⟨C, K, hR, rfl⟩ := Z
  obtain ⟨w1, w2, w3, w4, w5, w6, w8, w9⟩ := kJ9_floorMod_f86c9
  have hb := b_callB0 (own := RX4) (index := 52) (rk := 0) C.2.2.2.2 hR hk (by rw [w1]; exact w2) (by rw [w1]; exact w3) w4 w5 (by rw [w1]; exact w8) w9 lkX4_52
  intro H locs ls hP hS hlv
  exact s_cl (va_runS (As := [.long a, .long 127]) (rest := st) C (fs_fmod_m (g := (g.2.2.2.2.2.1, g.2.2.2.2.2.2.1)) (a := a)) ⟨hb, C.2.2.2.2 _ w6⟩ ⟨s_blind, fun U hU hW => ⟨rfl, b_sPre K hS hU hW⟩⟩ rfl rfl hlv.1 rfl (lv_room hr) hd (f_room0 hP hR)) (fun v hv => by rw [hv.1]; exact kk H locs ls hP hS hlv)
end FST
