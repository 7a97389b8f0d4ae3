theorem dJ7_copyOf_59c91_0 : decode cJ7_copyOf_59c91 0 = .ok (.iload_n 1, 1) := by decide +kernel
theorem dJ7_copyOf_59c91_1 : decode cJ7_copyOf_59c91 1 = .ok (.aload_n 0, 1) := by decide +kernel
theorem dJ7_copyOf_59c91_2 : decode cJ7_copyOf_59c91 2 = .ok (.arraylength, 1) := by decide +kernel
theorem dJ7_copyOf_59c91_3 : decode cJ7_copyOf_59c91 3 = .ok (.if_icmp .ne 11, 3) := by decide +kernel
theorem dJ7_copyOf_59c91_14 : decode cJ7_copyOf_59c91 14 = .ok (.iload_n 1, 1) := by decide +kernel
theorem dJ7_copyOf_59c91_15 : decode cJ7_copyOf_59c91 15 = .ok (.newarray .int, 2) := by decide +kernel
theorem dJ7_copyOf_59c91_17 : decode cJ7_copyOf_59c91 17 = .ok (.astore_n 2, 1) := by decide +kernel
theorem dJ7_copyOf_59c91_18 : decode cJ7_copyOf_59c91 18 = .ok (.aload_n 0, 1) := by decide +kernel
theorem dJ7_copyOf_59c91_19 : decode cJ7_copyOf_59c91 19 = .ok (.iconst 0, 1) := by decide +kernel
theorem dJ7_copyOf_59c91_20 : decode cJ7_copyOf_59c91 20 = .ok (.aload_n 2, 1) := by decide +kernel
theorem dJ7_copyOf_59c91_21 : decode cJ7_copyOf_59c91 21 = .ok (.iconst 0, 1) := by decide +kernel
theorem dJ7_copyOf_59c91_22 : decode cJ7_copyOf_59c91 22 = .ok (.aload_n 0, 1) := by decide +kernel
theorem dJ7_copyOf_59c91_23 : decode cJ7_copyOf_59c91 23 = .ok (.arraylength, 1) := by decide +kernel
theorem dJ7_copyOf_59c91_24 : decode cJ7_copyOf_59c91 24 = .ok (.iload_n 1, 1) := by decide +kernel
theorem dJ7_copyOf_59c91_25 : decode cJ7_copyOf_59c91 25 = .ok (.invokestatic 304, 3) := by decide +kernel
theorem dJ7_copyOf_59c91_28 : decode cJ7_copyOf_59c91 28 = .ok (.invokestatic 150, 3) := by decide +kernel
theorem dJ7_copyOf_59c91_31 : decode cJ7_copyOf_59c91 31 = .ok (.aload_n 2, 1) := by decide +kernel
theorem dJ7_copyOf_59c91_32 : decode cJ7_copyOf_59c91 32 = .ok (.areturn, 1) := by decide +kernel
theorem kJ7_copyOf : ac_sw RJ7 yJ7_copyOf_59c91 cJ7_copyOf_59c91 3 (some (.array .int)) 2 := ⟨rfl, by decide, by decide, by decide +kernel, by decide, ac_in 915 (by decide +kernel) (by decide +kernel), ac_in 168 (by decide +kernel) (by decide +kernel), ac_in 916 (by decide +kernel) (by decide +kernel)⟩
theorem lkX2_22 : Cond.methodLink RX2 22 yJ7_copyOf_59c91 ∈ ac_tbl := ac_in 914 (by decide +kernel) (by decide +kernel)
theorem lkJ7_304 : Cond.methodLink RJ7 304 Lib.Math.min.name ∈ ac_tbl := ac_in 924 (by decide +kernel) (by decide +kernel)
theorem lkJ7_150 : Cond.methodLink RJ7 150 arraycopyName ∈ ac_tbl := ac_in 925 (by decide +kernel) (by decide +kernel)
theorem stJ_ac : Cond.static arraycopyName ∈ ac_tbl := ac_in 926 (by decide +kernel) (by decide +kernel)
theorem ntJ_ac : Cond.native arraycopyName ∈ ac_tbl := ac_in 927 (by decide +kernel) (by decide +kernel)
theorem inJ_sys : Cond.initialized "java/lang/System" ∈ ac_tbl := ac_in 181 (by decide +kernel) (by decide +kernel)
theorem arJ_int : Cond.arrayClass .int ∈ ac_tbl := ac_in 216 (by decide +kernel) (by decide +kernel)
def cp_room (m : Nat) : Room := { frames := 3, cells := 1, slots := m, locals := 120 }
def cp_A (a sz : Nat) : Nat → Prop := fun q => q = a ∨ sz ≤ q
def ac_cellN (a : Nat) (cA : ClassId) (n : Nat) (f : Nat → Int32) : Nat × va_E := (a, .inl (cA, n, .inl f))
theorem tb_c_ne (c : Nat) : Nat.beq (tb_c c) 99 = false := by
  unfold tb_c
  cases h : Nat.beq c 99
  · exact h
  · rfl
theorem b_ad_ne (ad : Nat → Nat) (O : Nat × Nat) {c : Nat} (h : Nat.beq c 99 = false) : b_ad ad O c = ad c := by
  unfold b_ad
  rw [h]
  rfl
/-- the world behind a doubling: the row's cell is another one -/
theorem b_grown {c : Nat} {D : va_G} {ad N : Nat → Nat} {cT : Nat → ClassId} {M : Nat → Int32} {F : Nat → Nat → Int32} {J : Nat → Nat → Int64} {O : Nat × Nat} {a' : Nat} {f' : Nat → Int32} {H : Heap}
    (hP : va_P D ac_cl ((b_W (tb_T c) (b_ad ad O) (b_ln N O) cT M F J ++ [ac_cellN a' (cT 0) (448 * 2 ^ (O.2 + 1)) f']).set 2 (ad 2, .inr (2, (b_fs (tb_T c) (b_ad ad O) M 20 4).set 0 (.ref a')))) H) : va_P D ac_cl (b_W (tb_T c) (b_ad ad (a', O.2 + 1)) (b_ln N (a', O.2 + 1)) cT M (b_uF F 99 f') J) H := by
  intro k q hk
  have hlen : k < 20 := (List.getElem?_eq_some_iff.mp hk).1
  match k, hlen with
  | 0, _ =>
    have e : q = b_obj (tb_T c) (b_ad ad (a', O.2 + 1)) M (0, 11, 0, 9) := (Option.some.inj (show some (b_obj (tb_T c) (b_ad ad (a', O.2 + 1)) M (0, 11, 0, 9)) = some q from hk)).symm
    subst e
    exact hP 0 (b_obj (tb_T c) (b_ad ad O) M (0, 11, 0, 9)) rfl
  | 1, _ =>
    have e : q = b_obj (tb_T c) (b_ad ad (a', O.2 + 1)) M (1, 0, 10, 6) := (Option.some.inj (show some (b_obj (tb_T c) (b_ad ad (a', O.2 + 1)) M (1, 0, 10, 6)) = some q from hk)).symm
    subst e
    exact hP 1 (b_obj (tb_T c) (b_ad ad O) M (1, 0, 10, 6)) rfl
  | 2, _ =>
    have e : q = b_obj (tb_T c) (b_ad ad (a', O.2 + 1)) M (2, 2, 20, 4) := (Option.some.inj (show some (b_obj (tb_T c) (b_ad ad (a', O.2 + 1)) M (2, 2, 20, 4)) = some q from hk)).symm
    subst e
    exact hP 2 _ rfl
  | 3, _ =>
    have e : q = b_obj (tb_T c) (b_ad ad (a', O.2 + 1)) M (3, 5, 30, 9) := (Option.some.inj (show some (b_obj (tb_T c) (b_ad ad (a', O.2 + 1)) M (3, 5, 30, 9)) = some q from hk)).symm
    subst e
    exact hP 3 (b_obj (tb_T c) (b_ad ad O) M (3, 5, 30, 9)) rfl
  | 4, _ =>
    have e : q = b_obj (tb_T c) (b_ad ad (a', O.2 + 1)) M (4, 8, 40, 16) := (Option.some.inj (show some (b_obj (tb_T c) (b_ad ad (a', O.2 + 1)) M (4, 8, 40, 16)) = some q from hk)).symm
    subst e
    have h9 := hP 4 (b_obj (tb_T c) (b_ad ad O) M (4, 8, 40, 16)) rfl
    have e2 : b_obj (tb_T c) (b_ad ad (a', O.2 + 1)) M (4, 8, 40, 16) = b_obj (tb_T c) (b_ad ad O) M (4, 8, 40, 16) := by
      have e3 : b_ad ad (a', O.2 + 1) (tb_c c) = b_ad ad O (tb_c c) := by rw [b_ad_ne _ _ (tb_c_ne c), b_ad_ne _ _ (tb_c_ne c)]
      show ((ad 4, .inr (8, [.ref (ad 2), .ref (ad 3), .ref (ad 15), .ref (ad 16), .ref (ad 17), .ref (ad 18), .ref (ad 19), .ref (b_ad ad (a', O.2 + 1) (tb_c c)), .int (M 48), .int (M 49), .int (M 50), .int (M 51), .int (M 52), .int (M 53), .int (M 54), .int (M 55)])) : Nat × va_E) = _
      rw [e3]
      rfl
    rw [e2]
    exact h9
  | 5, _ =>
    have e : q = b_obj (tb_T c) (b_ad ad (a', O.2 + 1)) M (5, 6, 60, 5) := (Option.some.inj (show some (b_obj (tb_T c) (b_ad ad (a', O.2 + 1)) M (5, 6, 60, 5)) = some q from hk)).symm
    subst e
    exact hP 5 (b_obj (tb_T c) (b_ad ad O) M (5, 6, 60, 5)) rfl
  | 6, _ =>
    have e : q = b_arr (b_ad ad (a', O.2 + 1)) (b_ln N (a', O.2 + 1)) cT (b_uF F 99 f') J (10, 2) := (Option.some.inj (show some (b_arr (b_ad ad (a', O.2 + 1)) (b_ln N (a', O.2 + 1)) cT (b_uF F 99 f') J (10, 2)) = some q from hk)).symm
    subst e
    exact hP 6 _ rfl
  | 7, _ =>
    have e : q = b_arr (b_ad ad (a', O.2 + 1)) (b_ln N (a', O.2 + 1)) cT (b_uF F 99 f') J (11, 0) := (Option.some.inj (show some (b_arr (b_ad ad (a', O.2 + 1)) (b_ln N (a', O.2 + 1)) cT (b_uF F 99 f') J (11, 0)) = some q from hk)).symm
    subst e
    exact hP 7 _ rfl
  | 8, _ =>
    have e : q = b_arr (b_ad ad (a', O.2 + 1)) (b_ln N (a', O.2 + 1)) cT (b_uF F 99 f') J (12, 0) := (Option.some.inj (show some (b_arr (b_ad ad (a', O.2 + 1)) (b_ln N (a', O.2 + 1)) cT (b_uF F 99 f') J (12, 0)) = some q from hk)).symm
    subst e
    exact hP 8 _ rfl
  | 9, _ =>
    have e : q = b_arr (b_ad ad (a', O.2 + 1)) (b_ln N (a', O.2 + 1)) cT (b_uF F 99 f') J (13, 0) := (Option.some.inj (show some (b_arr (b_ad ad (a', O.2 + 1)) (b_ln N (a', O.2 + 1)) cT (b_uF F 99 f') J (13, 0)) = some q from hk)).symm
    subst e
    exact hP 9 _ rfl
  | 10, _ =>
    have e : q = b_arr (b_ad ad (a', O.2 + 1)) (b_ln N (a', O.2 + 1)) cT (b_uF F 99 f') J (99, 0) := (Option.some.inj (show some (b_arr (b_ad ad (a', O.2 + 1)) (b_ln N (a', O.2 + 1)) cT (b_uF F 99 f') J (99, 0)) = some q from hk)).symm
    subst e
    exact hP 20 _ rfl
  | 11, _ =>
    have e : q = b_arr (b_ad ad (a', O.2 + 1)) (b_ln N (a', O.2 + 1)) cT (b_uF F 99 f') J (14, 0) := (Option.some.inj (show some (b_arr (b_ad ad (a', O.2 + 1)) (b_ln N (a', O.2 + 1)) cT (b_uF F 99 f') J (14, 0)) = some q from hk)).symm
    subst e
    exact hP 11 _ rfl
  | 12, _ =>
    have e : q = b_arr (b_ad ad (a', O.2 + 1)) (b_ln N (a', O.2 + 1)) cT (b_uF F 99 f') J (15, 0) := (Option.some.inj (show some (b_arr (b_ad ad (a', O.2 + 1)) (b_ln N (a', O.2 + 1)) cT (b_uF F 99 f') J (15, 0)) = some q from hk)).symm
    subst e
    exact hP 12 _ rfl
  | 13, _ =>
    have e : q = b_arr (b_ad ad (a', O.2 + 1)) (b_ln N (a', O.2 + 1)) cT (b_uF F 99 f') J (16, 0) := (Option.some.inj (show some (b_arr (b_ad ad (a', O.2 + 1)) (b_ln N (a', O.2 + 1)) cT (b_uF F 99 f') J (16, 0)) = some q from hk)).symm
    subst e
    exact hP 13 _ rfl
  | 14, _ =>
    have e : q = b_arr (b_ad ad (a', O.2 + 1)) (b_ln N (a', O.2 + 1)) cT (b_uF F 99 f') J (17, 0) := (Option.some.inj (show some (b_arr (b_ad ad (a', O.2 + 1)) (b_ln N (a', O.2 + 1)) cT (b_uF F 99 f') J (17, 0)) = some q from hk)).symm
    subst e
    exact hP 14 _ rfl
  | 15, _ =>
    have e : q = b_arr (b_ad ad (a', O.2 + 1)) (b_ln N (a', O.2 + 1)) cT (b_uF F 99 f') J (18, 0) := (Option.some.inj (show some (b_arr (b_ad ad (a', O.2 + 1)) (b_ln N (a', O.2 + 1)) cT (b_uF F 99 f') J (18, 0)) = some q from hk)).symm
    subst e
    exact hP 15 _ rfl
  | 16, _ =>
    have e : q = b_arr (b_ad ad (a', O.2 + 1)) (b_ln N (a', O.2 + 1)) cT (b_uF F 99 f') J (19, 0) := (Option.some.inj (show some (b_arr (b_ad ad (a', O.2 + 1)) (b_ln N (a', O.2 + 1)) cT (b_uF F 99 f') J (19, 0)) = some q from hk)).symm
    subst e
    exact hP 16 _ rfl
  | 17, _ =>
    have e : q = b_arr (b_ad ad (a', O.2 + 1)) (b_ln N (a', O.2 + 1)) cT (b_uF F 99 f') J (20, 0) := (Option.some.inj (show some (b_arr (b_ad ad (a', O.2 + 1)) (b_ln N (a', O.2 + 1)) cT (b_uF F 99 f') J (20, 0)) = some q from hk)).symm
    subst e
    exact hP 17 _ rfl
  | 18, _ =>
    have e : q = b_arr (b_ad ad (a', O.2 + 1)) (b_ln N (a', O.2 + 1)) cT (b_uF F 99 f') J (21, 0) := (Option.some.inj (show some (b_arr (b_ad ad (a', O.2 + 1)) (b_ln N (a', O.2 + 1)) cT (b_uF F 99 f') J (21, 0)) = some q from hk)).symm
    subst e
    exact hP 18 _ rfl
  | 19, _ =>
    have e : q = b_arr (b_ad ad (a', O.2 + 1)) (b_ln N (a', O.2 + 1)) cT (b_uF F 99 f') J (22, 0) := (Option.some.inj (show some (b_arr (b_ad ad (a', O.2 + 1)) (b_ln N (a', O.2 + 1)) cT (b_uF F 99 f') J (22, 0)) = some q from hk)).symm
    subst e
    exact hP 19 _ rfl
theorem b_grownD {A : Nat → Prop} {c : Nat} {ad N : Nat → Nat} {cT : Nat → ClassId} {M : Nat → Int32} {F : Nat → Nat → Int32} {J : Nat → Nat → Int64} {O : Nat × Nat} {a' : Nat} {f' : Nat → Int32}
    (hD : va_D A (b_W (tb_T c) (b_ad ad O) (b_ln N O) cT M F J ++ [ac_cellN a' (cT 0) (448 * 2 ^ (O.2 + 1)) f'])) : va_D A (b_W (tb_T c) (b_ad ad (a', O.2 + 1)) (b_ln N (a', O.2 + 1)) cT (fun _ => 0) (fun _ _ => 0) (fun _ _ => 0)) := by
  have key : ∀ (k : Nat) (q : Nat × va_E), (b_W (tb_T c) (b_ad ad (a', O.2 + 1)) (b_ln N (a', O.2 + 1)) cT (fun _ => 0) (fun _ _ => 0) (fun _ _ => 0))[k]? = some q → ∃ q0, (b_W (tb_T c) (b_ad ad O) (b_ln N O) cT M F J ++ [ac_cellN a' (cT 0) (448 * 2 ^ (O.2 + 1)) f'])[if k = 10 then 20 else k]? = some q0 ∧ q0.1 = q.1 := by
    intro k q hk
    have hlen : k < 20 := (List.getElem?_eq_some_iff.mp hk).1
    match k, hlen with
    | 0, _ => have e9 : _ = q := Option.some.inj hk; rw [← e9]; exact ⟨_, rfl, rfl⟩
    | 1, _ => have e9 : _ = q := Option.some.inj hk; rw [← e9]; exact ⟨_, rfl, rfl⟩
    | 2, _ => have e9 : _ = q := Option.some.inj hk; rw [← e9]; exact ⟨_, rfl, rfl⟩
    | 3, _ => have e9 : _ = q := Option.some.inj hk; rw [← e9]; exact ⟨_, rfl, rfl⟩
    | 4, _ => have e9 : _ = q := Option.some.inj hk; rw [← e9]; exact ⟨_, rfl, rfl⟩
    | 5, _ => have e9 : _ = q := Option.some.inj hk; rw [← e9]; exact ⟨_, rfl, rfl⟩
    | 6, _ => have e9 : _ = q := Option.some.inj hk; rw [← e9]; exact ⟨_, rfl, rfl⟩
    | 7, _ => have e9 : _ = q := Option.some.inj hk; rw [← e9]; exact ⟨_, rfl, rfl⟩
    | 8, _ => have e9 : _ = q := Option.some.inj hk; rw [← e9]; exact ⟨_, rfl, rfl⟩
    | 9, _ => have e9 : _ = q := Option.some.inj hk; rw [← e9]; exact ⟨_, rfl, rfl⟩
    | 10, _ => have e9 : _ = q := Option.some.inj hk; rw [← e9]; exact ⟨_, rfl, rfl⟩
    | 11, _ => have e9 : _ = q := Option.some.inj hk; rw [← e9]; exact ⟨_, rfl, rfl⟩
    | 12, _ => have e9 : _ = q := Option.some.inj hk; rw [← e9]; exact ⟨_, rfl, rfl⟩
    | 13, _ => have e9 : _ = q := Option.some.inj hk; rw [← e9]; exact ⟨_, rfl, rfl⟩
    | 14, _ => have e9 : _ = q := Option.some.inj hk; rw [← e9]; exact ⟨_, rfl, rfl⟩
    | 15, _ => have e9 : _ = q := Option.some.inj hk; rw [← e9]; exact ⟨_, rfl, rfl⟩
    | 16, _ => have e9 : _ = q := Option.some.inj hk; rw [← e9]; exact ⟨_, rfl, rfl⟩
    | 17, _ => have e9 : _ = q := Option.some.inj hk; rw [← e9]; exact ⟨_, rfl, rfl⟩
    | 18, _ => have e9 : _ = q := Option.some.inj hk; rw [← e9]; exact ⟨_, rfl, rfl⟩
    | 19, _ => have e9 : _ = q := Option.some.inj hk; rw [← e9]; exact ⟨_, rfl, rfl⟩
  refine ⟨fun i j p q hi hj hpq => ?_, fun k q hk => ?_⟩
  · obtain ⟨p0, a1, a2⟩ := key i p hi
    obtain ⟨q0, b1, b2⟩ := key j q hj
    have h9 := hD.1 _ _ p0 q0 a1 b1 (by rw [a2, b2, hpq])
    have hi1 : i < 20 := (List.getElem?_eq_some_iff.mp hi).1
    have hj1 : j < 20 := (List.getElem?_eq_some_iff.mp hj).1
    split at h9 <;> split at h9 <;> omega
  · obtain ⟨q0, a1, a2⟩ := key k q hk
    rw [← a2]
    exact hD.2 _ q0 a1
