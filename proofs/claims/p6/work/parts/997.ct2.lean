theorem nmX4_3 : Cond.methodLink RX4 3 Lib.objectInit ∈ ac_tbl := ac_in 419 (by decide +kernel) (by decide +kernel)
theorem nfX4_11 : Cond.fieldLink RX4 11 RX4 (TX4 2).2.1 (TX4 2).2.2.1 ∈ ac_tbl := ac_in 423 (by decide +kernel) (by decide +kernel)
theorem nar_long : Cond.arrayClass (newarray.typeOf .long) ∈ ac_tbl := ac_in 434 (by decide +kernel) (by decide +kernel)
theorem nfX4_15 : Cond.fieldLink RX4 15 RX4 (TX4 0).2.1 (TX4 0).2.2.1 ∈ ac_tbl := ac_in 421 (by decide +kernel) (by decide +kernel)
theorem nfX4_19 : Cond.fieldLink RX4 19 RX4 (TX4 1).2.1 (TX4 1).2.2.1 ∈ ac_tbl := ac_in 422 (by decide +kernel) (by decide +kernel)
theorem nmX4_22 : Cond.methodLink RX4 22 yJ7_fill_53178 ∈ ac_tbl := ac_in 420 (by decide +kernel) (by decide +kernel)
theorem dX4_init_0 : decode cX4_init 0 = .ok (.aload_n 0, 1) := by decide +kernel
theorem dX4_init_1 : decode cX4_init 1 = .ok (.invokespecial 3, 3) := by decide +kernel
theorem dX4_init_4 : decode cX4_init 4 = .ok (.aload_n 0, 1) := by decide +kernel
theorem dX4_init_5 : decode cX4_init 5 = .ok (.bipush 127, 2) := by decide +kernel
theorem dX4_init_7 : decode cX4_init 7 = .ok (.newarray .int, 2) := by decide +kernel
theorem dX4_init_9 : decode cX4_init 9 = .ok (.putfield 11, 3) := by decide +kernel
theorem dX4_init_12 : decode cX4_init 12 = .ok (.aload_n 0, 1) := by decide +kernel
theorem dX4_init_13 : decode cX4_init 13 = .ok (.iload_n 1, 1) := by decide +kernel
theorem dX4_init_14 : decode cX4_init 14 = .ok (.ifCond .ge 7, 3) := by decide +kernel
theorem dX4_init_21 : decode cX4_init 21 = .ok (.iload_n 1, 1) := by decide +kernel
theorem dX4_init_22 : decode cX4_init 22 = .ok (.newarray .long, 2) := by decide +kernel
theorem dX4_init_24 : decode cX4_init 24 = .ok (.putfield 15, 3) := by decide +kernel
theorem dX4_init_27 : decode cX4_init 27 = .ok (.aload_n 0, 1) := by decide +kernel
theorem dX4_init_28 : decode cX4_init 28 = .ok (.iload_n 1, 1) := by decide +kernel
theorem dX4_init_29 : decode cX4_init 29 = .ok (.ifCond .ge 7, 3) := by decide +kernel
theorem dX4_init_36 : decode cX4_init 36 = .ok (.iload_n 1, 1) := by decide +kernel
theorem dX4_init_37 : decode cX4_init 37 = .ok (.newarray .int, 2) := by decide +kernel
theorem dX4_init_39 : decode cX4_init 39 = .ok (.putfield 19, 3) := by decide +kernel
theorem dX4_init_42 : decode cX4_init 42 = .ok (.aload_n 0, 1) := by decide +kernel
theorem dX4_init_43 : decode cX4_init 43 = .ok (.getfield 11, 3) := by decide +kernel
theorem dX4_init_46 : decode cX4_init 46 = .ok (.iconst (-1), 1) := by decide +kernel
theorem dX4_init_47 : decode cX4_init 47 = .ok (.invokestatic 22, 3) := by decide +kernel
theorem dX4_init_50 : decode cX4_init 50 = .ok (.return_, 1) := by decide +kernel
set_option maxRecDepth 20000 in
theorem ck_X4_init (l : Launch) (D : va_G) (cT : Nat → ClassId) (h : Nat) (K : Nat) (hK : K < 100000) : nw_Met l D cT yX4_init cX4_init 2 1 3 (127 + K + K) [.ref h, .int (nI K)] (h, .inr (4, [.null, .null, .null, .int 0])) (fun u => [(h, .inr (4, [.ref (u.1 1), .ref (u.1 2), .ref (u.1 0), .int 0])), ((u.1 0), .inl (cT 0, 127, .inl (u.2 0))), ((u.1 1), .inl (cT 3, K, .inr (.inl (fun _ => 0)))), ((u.1 2), .inl (cT 0, K, .inl (fun _ => 0)))]) := by
  refine nw_Met.of (C := RX4) (by decide) rfl rfl (Nat.le_of_ble_eq_true rfl) (fun x A Z hI hret => ?_)
  refine ac_aload_n Z.1 0 dX4_init_0 rfl ?_
  refine nw_obj0 Z nmX4_3 nin_obj nco_obj (Nat.le_of_ble_eq_true rfl) (Nat.le_of_ble_eq_true rfl) (Nat.zero_le _) dX4_init_1 ?_
  refine ac_aload_n Z.1 0 dX4_init_4 rfl ?_
  refine ac_bipush (v := 127) Z.1 dX4_init_5 (by decide) ?_
  refine nw_newa (N := 127) (a0 := (127, .inl (fun _ => 0))) Z 0 rfl rfl nar_int (fun _ => rfl) (by decide) (by decide) (by decide) (by show _ ≤ 3; omega) (by show _ ≤ 127 + K + K; omega) dX4_init_7 (fun q0 => ?_)
  refine nw_cnt (cs' := 1) (ss' := 127) rfl (by omega) ?_
  refine nw_eq (ws' := [(h, .inr (4, [.null, .null, .null, .int 0])), (q0, .inl (cT 0, 127, .inl (fun _ => 0)))]) rfl ?_
  refine nw_putF Z hI b_X4 0 rfl 2 (by decide) nfX4_11 rfl rfl rfl (Nat.le_of_ble_eq_true rfl) dX4_init_9 (ws' := [(h, .inr (4, [.null, .null, .ref q0, .int 0])), (q0, .inl (cT 0, 127, .inl (fun _ => 0)))]) rfl ?_
  refine ac_aload_n Z.1 0 dX4_init_12 rfl ?_
  refine ac_iload_n Z.1 1 dX4_init_13 rfl ?_
  refine ac_if_ge (tgt := 21) Z.1 dX4_init_14 (by decide) (fun _ => ?_) (fun hc => absurd (nI_pos' (by omega)) hc)
  refine ac_iload_n Z.1 1 dX4_init_21 rfl ?_
  refine nw_newa (N := K) (a0 := (K, .inr (.inl (fun _ => 0)))) Z 3 rfl rfl nar_long (fun _ => rfl) (nI_pos (by omega)) (nI_clamp (by omega)) (by show (K) * 8 ≤ 536870912; omega) (by show _ ≤ 3; omega) (by show _ ≤ 127 + K + K; omega) dX4_init_22 (fun q1 => ?_)
  refine nw_cnt (cs' := 2) (ss' := 127 + K) rfl (by omega) ?_
  refine nw_eq (ws' := [(h, .inr (4, [.null, .null, .ref q0, .int 0])), (q0, .inl (cT 0, 127, .inl (fun _ => 0))), (q1, .inl (cT 3, K, .inr (.inl (fun _ => 0))))]) rfl ?_
  refine nw_putF Z hI b_X4 0 rfl 0 (by decide) nfX4_15 rfl rfl rfl (Nat.le_of_ble_eq_true rfl) dX4_init_24 (ws' := [(h, .inr (4, [.ref q1, .null, .ref q0, .int 0])), (q0, .inl (cT 0, 127, .inl (fun _ => 0))), (q1, .inl (cT 3, K, .inr (.inl (fun _ => 0))))]) rfl ?_
  refine ac_aload_n Z.1 0 dX4_init_27 rfl ?_
  refine ac_iload_n Z.1 1 dX4_init_28 rfl ?_
  refine ac_if_ge (tgt := 36) Z.1 dX4_init_29 (by decide) (fun _ => ?_) (fun hc => absurd (nI_pos' (by omega)) hc)
  refine ac_iload_n Z.1 1 dX4_init_36 rfl ?_
  refine nw_newa (N := K) (a0 := (K, .inl (fun _ => 0))) Z 0 rfl rfl nar_int (fun _ => rfl) (nI_pos (by omega)) (nI_clamp (by omega)) (by show (K) * 4 ≤ 536870912; omega) (by show _ ≤ 3; omega) (by show _ ≤ 127 + K + K; omega) dX4_init_37 (fun q2 => ?_)
  refine nw_cnt (cs' := 3) (ss' := 127 + K + K) rfl (by omega) ?_
  refine nw_eq (ws' := [(h, .inr (4, [.ref q1, .null, .ref q0, .int 0])), (q0, .inl (cT 0, 127, .inl (fun _ => 0))), (q1, .inl (cT 3, K, .inr (.inl (fun _ => 0)))), (q2, .inl (cT 0, K, .inl (fun _ => 0)))]) rfl ?_
  refine nw_putF Z hI b_X4 0 rfl 1 (by decide) nfX4_19 rfl rfl rfl (Nat.le_of_ble_eq_true rfl) dX4_init_39 (ws' := [(h, .inr (4, [.ref q1, .ref q2, .ref q0, .int 0])), (q0, .inl (cT 0, 127, .inl (fun _ => 0))), (q1, .inl (cT 3, K, .inr (.inl (fun _ => 0)))), (q2, .inl (cT 0, K, .inl (fun _ => 0)))]) rfl ?_
  refine ac_aload_n Z.1 0 dX4_init_42 rfl ?_
  refine nw_get Z b_X4 0 rfl 2 (by decide) nfX4_11 rfl dX4_init_43 ?_
  refine ac_iconst (v := (-1)) Z.1 dX4_init_46 (by decide) ?_
  refine nw_fill Z 1 rfl (by omega) nmX4_22 (Nat.le_of_ble_eq_true rfl) (Nat.le_of_ble_eq_true rfl) (by show _ ≤ 3; omega) (by show _ ≤ 127 + K + K; omega) (Nat.zero_le _) dX4_init_47 (fun f0 => ?_)
  refine nw_eq (ws' := [(h, .inr (4, [.ref q1, .ref q2, .ref q0, .int 0])), (q0, .inl (cT 0, 127, .inl f0)), (q1, .inl (cT 3, K, .inr (.inl (fun _ => 0)))), (q2, .inl (cT 0, K, .inl (fun _ => 0)))]) rfl ?_
  exact hret 50 _ (fun j => ([q0, q1, q2] : List Nat).getD j 0, fun j => ([f0] : List (Nat → Int32)).getD j (fun _ => 0)) dX4_init_50
theorem nmX10_1 : Cond.methodLink RX10 1 Lib.objectInit ∈ ac_tbl := ac_in 413 (by decide +kernel) (by decide +kernel)
theorem nfX10_7 : Cond.fieldLink RX10 7 RX10 (TX10 0).2.1 (TX10 0).2.2.1 ∈ ac_tbl := ac_in 435 (by decide +kernel) (by decide +kernel)
theorem nfX10_13 : Cond.fieldLink RX10 13 RX10 (TX10 1).2.1 (TX10 1).2.2.1 ∈ ac_tbl := ac_in 436 (by decide +kernel) (by decide +kernel)
theorem nfX10_17 : Cond.fieldLink RX10 17 RX10 (TX10 3).2.1 (TX10 3).2.2.1 ∈ ac_tbl := ac_in 438 (by decide +kernel) (by decide +kernel)
theorem nfX10_21 : Cond.fieldLink RX10 21 RX10 (TX10 4).2.1 (TX10 4).2.2.1 ∈ ac_tbl := ac_in 440 (by decide +kernel) (by decide +kernel)
theorem nfX10_24 : Cond.fieldLink RX10 24 RX10 (TX10 5).2.1 (TX10 5).2.2.1 ∈ ac_tbl := ac_in 442 (by decide +kernel) (by decide +kernel)
theorem ncX10_27 : Cond.classLink RX10 27 RX4 ∈ ac_tbl := ac_in 414 (by decide +kernel) (by decide +kernel)
theorem niX4 : Cond.instantiable RX4 4 ∈ ac_tbl := ac_in 415 (by decide +kernel) (by decide +kernel)
theorem nzX4 : Cond.initialized RX4 ∈ ac_tbl := ac_in 172 (by decide +kernel) (by decide +kernel)
theorem ndfX4 : ∀ j, j < 4 → defaultValue (tyX4 j) = vp_V [.null, .null, .null, .int 0] j := by
  intro j hj
  match j, hj with
  | 0, _ => rfl
  | 1, _ => rfl
  | 2, _ => rfl
  | 3, _ => rfl
  | z + 4, h => exact absurd h (by omega)
theorem nkX4 : nw_cw yX4_init cX4_init 2 1 := ⟨rfl, by decide, by decide, by decide +kernel, by decide, ac_in 417 (by decide +kernel) (by decide +kernel), ac_in 172 (by decide +kernel) (by decide +kernel), ac_in 418 (by decide +kernel) (by decide +kernel)⟩
theorem nmX10_29 : Cond.methodLink RX10 29 yX4_init ∈ ac_tbl := ac_in 416 (by decide +kernel) (by decide +kernel)
theorem nfX10_32 : Cond.fieldLink RX10 32 RX10 (TX10 2).2.1 (TX10 2).2.2.1 ∈ ac_tbl := ac_in 437 (by decide +kernel) (by decide +kernel)
theorem dX10_init_0 : decode cX10_init 0 = .ok (.aload_n 0, 1) := by decide +kernel
theorem dX10_init_1 : decode cX10_init 1 = .ok (.invokespecial 1, 3) := by decide +kernel
theorem dX10_init_4 : decode cX10_init 4 = .ok (.aload_n 0, 1) := by decide +kernel
theorem dX10_init_5 : decode cX10_init 5 = .ok (.aload_n 1, 1) := by decide +kernel
theorem dX10_init_6 : decode cX10_init 6 = .ok (.putfield 7, 3) := by decide +kernel
theorem dX10_init_9 : decode cX10_init 9 = .ok (.aload_n 0, 1) := by decide +kernel
theorem dX10_init_10 : decode cX10_init 10 = .ok (.iload_n 2, 1) := by decide +kernel
theorem dX10_init_11 : decode cX10_init 11 = .ok (.putfield 13, 3) := by decide +kernel
theorem dX10_init_14 : decode cX10_init 14 = .ok (.iload_n 2, 1) := by decide +kernel
theorem dX10_init_15 : decode cX10_init 15 = .ok (.ifCond .ge 7, 3) := by decide +kernel
theorem dX10_init_22 : decode cX10_init 22 = .ok (.iload_n 2, 1) := by decide +kernel
theorem dX10_init_23 : decode cX10_init 23 = .ok (.iconst 1, 1) := by decide +kernel
theorem dX10_init_24 : decode cX10_init 24 = .ok (.iadd, 1) := by decide +kernel
theorem dX10_init_25 : decode cX10_init 25 = .ok (.istore 4, 2) := by decide +kernel
theorem dX10_init_27 : decode cX10_init 27 = .ok (.aload_n 0, 1) := by decide +kernel
theorem dX10_init_28 : decode cX10_init 28 = .ok (.iload 4, 2) := by decide +kernel
theorem dX10_init_30 : decode cX10_init 30 = .ok (.newarray .int, 2) := by decide +kernel
theorem dX10_init_32 : decode cX10_init 32 = .ok (.putfield 17, 3) := by decide +kernel
theorem dX10_init_35 : decode cX10_init 35 = .ok (.aload_n 0, 1) := by decide +kernel
theorem dX10_init_36 : decode cX10_init 36 = .ok (.iload 4, 2) := by decide +kernel
theorem dX10_init_38 : decode cX10_init 38 = .ok (.newarray .int, 2) := by decide +kernel
theorem dX10_init_40 : decode cX10_init 40 = .ok (.putfield 21, 3) := by decide +kernel
theorem dX10_init_43 : decode cX10_init 43 = .ok (.aload_n 0, 1) := by decide +kernel
theorem dX10_init_44 : decode cX10_init 44 = .ok (.iload 4, 2) := by decide +kernel
theorem dX10_init_46 : decode cX10_init 46 = .ok (.newarray .int, 2) := by decide +kernel
theorem dX10_init_48 : decode cX10_init 48 = .ok (.putfield 24, 3) := by decide +kernel
theorem dX10_init_51 : decode cX10_init 51 = .ok (.aload_n 0, 1) := by decide +kernel
theorem dX10_init_52 : decode cX10_init 52 = .ok (.new 27, 3) := by decide +kernel
theorem dX10_init_55 : decode cX10_init 55 = .ok (.dup, 1) := by decide +kernel
theorem dX10_init_56 : decode cX10_init 56 = .ok (.iload_n 3, 1) := by decide +kernel
theorem dX10_init_57 : decode cX10_init 57 = .ok (.invokespecial 29, 3) := by decide +kernel
theorem dX10_init_60 : decode cX10_init 60 = .ok (.putfield 32, 3) := by decide +kernel
theorem dX10_init_63 : decode cX10_init 63 = .ok (.return_, 1) := by decide +kernel
set_option maxRecDepth 20000 in
theorem ck_X10_init (l : Launch) (D : va_G) (cT : Nat → ClassId) (h : Nat) (b N K : Nat) (hN : N < 90000) (hK : K < 100000) : nw_Met l D cT yX10_init cX10_init 5 2 7 (131 + N + 1 + N + 1 + N + 1 + (K) + (K)) [.ref h, .ref b, .int (nI N), .int (nI K)] (h, .inr (10, [.null, .int 0, .null, .null, .null, .null, .int 0])) (fun u => [(h, .inr (10, [.ref b, .int (nI N), .ref (u.1 3), .ref (u.1 0), .ref (u.1 1), .ref (u.1 2), .int 0])), ((u.1 0), .inl (cT 0, N + 1, .inl (fun _ => 0))), ((u.1 1), .inl (cT 0, N + 1, .inl (fun _ => 0))), ((u.1 2), .inl (cT 0, N + 1, .inl (fun _ => 0))), ((u.1 3), .inr (4, [.ref (u.1 5), .ref (u.1 6), .ref (u.1 4), .int 0])), ((u.1 4), .inl (cT 0, 127, .inl (u.2 0))), ((u.1 5), .inl (cT 3, (K), .inr (.inl (fun _ => 0)))), ((u.1 6), .inl (cT 0, (K), .inl (fun _ => 0)))]) := by
  refine nw_Met.of (C := RX10) (by decide) rfl rfl (Nat.le_of_ble_eq_true rfl) (fun x A Z hI hret => ?_)
  refine ac_aload_n Z.1 0 dX10_init_0 rfl ?_
  refine nw_obj0 Z nmX10_1 nin_obj nco_obj (Nat.le_of_ble_eq_true rfl) (Nat.le_of_ble_eq_true rfl) (Nat.zero_le _) dX10_init_1 ?_
  refine ac_aload_n Z.1 0 dX10_init_4 rfl ?_
  refine ac_aload_n Z.1 1 dX10_init_5 rfl ?_
  refine nw_putF Z hI b_X10 0 rfl 0 (by decide) nfX10_7 rfl rfl rfl (Nat.le_of_ble_eq_true rfl) dX10_init_6 (ws' := [(h, .inr (10, [.ref b, .int 0, .null, .null, .null, .null, .int 0]))]) rfl ?_
  refine ac_aload_n Z.1 0 dX10_init_9 rfl ?_
  refine ac_iload_n Z.1 2 dX10_init_10 rfl ?_
  refine nw_putF Z hI b_X10 0 rfl 1 (by decide) nfX10_13 rfl rfl rfl (Nat.le_of_ble_eq_true rfl) dX10_init_11 (ws' := [(h, .inr (10, [.ref b, .int (nI N), .null, .null, .null, .null, .int 0]))]) rfl ?_
  refine ac_iload_n Z.1 2 dX10_init_14 rfl ?_
  refine ac_if_ge (tgt := 22) Z.1 dX10_init_15 (by decide) (fun _ => ?_) (fun hc => absurd (nI_pos' (by omega)) hc)
  refine ac_iload_n Z.1 2 dX10_init_22 rfl ?_
  refine ac_iconst (v := 1) Z.1 dX10_init_23 (by decide) ?_
  refine ac_iadd Z.1 dX10_init_24 ?_
  refine ac_top (v' := (nI (N + 1))) (nI_add _ 1) ?_
  refine ac_istore (lv' := [(4, .int (nI (N + 1))), (0, .ref h), (1, .ref b), (2, .int (nI N)), (3, .int (nI K))]) Z.1 dX10_init_25 (by decide) rfl ?_
  refine ac_aload_n Z.1 1 dX10_init_27 rfl ?_
  refine ac_iload Z.1 0 dX10_init_28 rfl ?_
  refine nw_newa (N := N + 1) (a0 := (N + 1, .inl (fun _ => 0))) Z 0 rfl rfl nar_int (fun _ => rfl) (nI_pos (by omega)) (nI_clamp (by omega)) (by show (N + 1) * 4 ≤ 536870912; omega) (by show _ ≤ 7; omega) (by show _ ≤ 131 + N + 1 + N + 1 + N + 1 + (K) + (K); omega) dX10_init_30 (fun q0 => ?_)
  refine nw_cnt (cs' := 1) (ss' := 0 + N + 1) rfl (by omega) ?_
  refine nw_eq (ws' := [(h, .inr (10, [.ref b, .int (nI N), .null, .null, .null, .null, .int 0])), (q0, .inl (cT 0, N + 1, .inl (fun _ => 0)))]) rfl ?_
  refine nw_putF Z hI b_X10 0 rfl 3 (by decide) nfX10_17 rfl rfl rfl (Nat.le_of_ble_eq_true rfl) dX10_init_32 (ws' := [(h, .inr (10, [.ref b, .int (nI N), .null, .ref q0, .null, .null, .int 0])), (q0, .inl (cT 0, N + 1, .inl (fun _ => 0)))]) rfl ?_
  refine ac_aload_n Z.1 1 dX10_init_35 rfl ?_
  refine ac_iload Z.1 0 dX10_init_36 rfl ?_
  refine nw_newa (N := N + 1) (a0 := (N + 1, .inl (fun _ => 0))) Z 0 rfl rfl nar_int (fun _ => rfl) (nI_pos (by omega)) (nI_clamp (by omega)) (by show (N + 1) * 4 ≤ 536870912; omega) (by show _ ≤ 7; omega) (by show _ ≤ 131 + N + 1 + N + 1 + N + 1 + (K) + (K); omega) dX10_init_38 (fun q1 => ?_)
  refine nw_cnt (cs' := 2) (ss' := 0 + N + 1 + N + 1) rfl (by omega) ?_
  refine nw_eq (ws' := [(h, .inr (10, [.ref b, .int (nI N), .null, .ref q0, .null, .null, .int 0])), (q0, .inl (cT 0, N + 1, .inl (fun _ => 0))), (q1, .inl (cT 0, N + 1, .inl (fun _ => 0)))]) rfl ?_
  refine nw_putF Z hI b_X10 0 rfl 4 (by decide) nfX10_21 rfl rfl rfl (Nat.le_of_ble_eq_true rfl) dX10_init_40 (ws' := [(h, .inr (10, [.ref b, .int (nI N), .null, .ref q0, .ref q1, .null, .int 0])), (q0, .inl (cT 0, N + 1, .inl (fun _ => 0))), (q1, .inl (cT 0, N + 1, .inl (fun _ => 0)))]) rfl ?_
  refine ac_aload_n Z.1 1 dX10_init_43 rfl ?_
  refine ac_iload Z.1 0 dX10_init_44 rfl ?_
  refine nw_newa (N := N + 1) (a0 := (N + 1, .inl (fun _ => 0))) Z 0 rfl rfl nar_int (fun _ => rfl) (nI_pos (by omega)) (nI_clamp (by omega)) (by show (N + 1) * 4 ≤ 536870912; omega) (by show _ ≤ 7; omega) (by show _ ≤ 131 + N + 1 + N + 1 + N + 1 + (K) + (K); omega) dX10_init_46 (fun q2 => ?_)
  refine nw_cnt (cs' := 3) (ss' := 0 + N + 1 + N + 1 + N + 1) rfl (by omega) ?_
  refine nw_eq (ws' := [(h, .inr (10, [.ref b, .int (nI N), .null, .ref q0, .ref q1, .null, .int 0])), (q0, .inl (cT 0, N + 1, .inl (fun _ => 0))), (q1, .inl (cT 0, N + 1, .inl (fun _ => 0))), (q2, .inl (cT 0, N + 1, .inl (fun _ => 0)))]) rfl ?_
  refine nw_putF Z hI b_X10 0 rfl 5 (by decide) nfX10_24 rfl rfl rfl (Nat.le_of_ble_eq_true rfl) dX10_init_48 (ws' := [(h, .inr (10, [.ref b, .int (nI N), .null, .ref q0, .ref q1, .ref q2, .int 0])), (q0, .inl (cT 0, N + 1, .inl (fun _ => 0))), (q1, .inl (cT 0, N + 1, .inl (fun _ => 0))), (q2, .inl (cT 0, N + 1, .inl (fun _ => 0)))]) rfl ?_
  refine ac_aload_n Z.1 1 dX10_init_51 rfl ?_
  refine nw_new (fs := [.null, .null, .null, .int 0]) Z b_X4 ncX10_27 niX4 nzX4 ndfX4 (by show _ ≤ 7; omega) (by show _ ≤ 131 + N + 1 + N + 1 + N + 1 + (K) + (K); omega) dX10_init_52 (fun q3 => ?_)
  refine nw_cnt (cs' := 4) (ss' := 4 + N + 1 + N + 1 + N + 1) rfl (by omega) ?_
  refine nw_eq (ws' := [(h, .inr (10, [.ref b, .int (nI N), .null, .ref q0, .ref q1, .ref q2, .int 0])), (q0, .inl (cT 0, N + 1, .inl (fun _ => 0))), (q1, .inl (cT 0, N + 1, .inl (fun _ => 0))), (q2, .inl (cT 0, N + 1, .inl (fun _ => 0))), (q3, .inr (4, [.null, .null, .null, .int 0]))]) rfl ?_
  refine ac_dup Z.1 dX10_init_55 rfl ?_
  refine ac_iload_n Z.1 4 dX10_init_56 rfl ?_
  refine nw_ctor (wr := [(h, .inr (10, [.ref b, .int (nI N), .null, .ref q0, .ref q1, .ref q2, .int 0])), (q0, .inl (cT 0, N + 1, .inl (fun _ => 0))), (q1, .inl (cT 0, N + 1, .inl (fun _ => 0))), (q2, .inl (cT 0, N + 1, .inl (fun _ => 0)))]) Z (ck_X4_init l D cT q3 (K) (by omega)) nkX4 nmX10_29 (Nat.le_of_ble_eq_true rfl) (Nat.le_of_ble_eq_true rfl) (by show _ ≤ 7; omega) (by show _ ≤ 131 + N + 1 + N + 1 + N + 1 + (K) + (K); omega) rfl rfl (Nat.le_of_ble_eq_true rfl) dX10_init_57 (fun u0 => ?_)
  refine nw_cnt (cs' := 7) (ss' := 131 + N + 1 + N + 1 + N + 1 + (K) + (K)) rfl (by omega) ?_
  refine nw_eq (ws' := [(h, .inr (10, [.ref b, .int (nI N), .null, .ref q0, .ref q1, .ref q2, .int 0])), (q0, .inl (cT 0, N + 1, .inl (fun _ => 0))), (q1, .inl (cT 0, N + 1, .inl (fun _ => 0))), (q2, .inl (cT 0, N + 1, .inl (fun _ => 0))), (q3, .inr (4, [.ref (u0.1 1), .ref (u0.1 2), .ref (u0.1 0), .int 0])), ((u0.1 0), .inl (cT 0, 127, .inl (u0.2 0))), ((u0.1 1), .inl (cT 3, (K), .inr (.inl (fun _ => 0)))), ((u0.1 2), .inl (cT 0, (K), .inl (fun _ => 0)))]) rfl ?_
  refine nw_putF Z hI b_X10 0 rfl 2 (by decide) nfX10_32 rfl rfl rfl (Nat.le_of_ble_eq_true rfl) dX10_init_60 (ws' := [(h, .inr (10, [.ref b, .int (nI N), .ref q3, .ref q0, .ref q1, .ref q2, .int 0])), (q0, .inl (cT 0, N + 1, .inl (fun _ => 0))), (q1, .inl (cT 0, N + 1, .inl (fun _ => 0))), (q2, .inl (cT 0, N + 1, .inl (fun _ => 0))), (q3, .inr (4, [.ref (u0.1 1), .ref (u0.1 2), .ref (u0.1 0), .int 0])), ((u0.1 0), .inl (cT 0, 127, .inl (u0.2 0))), ((u0.1 1), .inl (cT 3, (K), .inr (.inl (fun _ => 0)))), ((u0.1 2), .inl (cT 0, (K), .inl (fun _ => 0)))]) rfl ?_
  exact hret 63 _ (fun j => ([q0, q1, q2, q3, (u0.1 0), (u0.1 1), (u0.1 2)] : List Nat).getD j 0, fun j => ([(u0.2 0)] : List (Nat → Int32)).getD j (fun _ => 0)) dX10_init_63
theorem nmX7_3 : Cond.methodLink RX7 3 Lib.objectInit ∈ ac_tbl := ac_in 407 (by decide +kernel) (by decide +kernel)
theorem nfX7_11 : Cond.fieldLink RX7 11 RX7 (TX7 7).2.1 (TX7 7).2.2.1 ∈ ac_tbl := ac_in 471 (by decide +kernel) (by decide +kernel)
theorem ncX7_17 : Cond.classLink RX7 17 RX10 ∈ ac_tbl := ac_in 408 (by decide +kernel) (by decide +kernel)
theorem niX10 : Cond.instantiable RX10 7 ∈ ac_tbl := ac_in 409 (by decide +kernel) (by decide +kernel)
theorem nzX10 : Cond.initialized RX10 ∈ ac_tbl := ac_in 171 (by decide +kernel) (by decide +kernel)
theorem ndfX10 : ∀ j, j < 7 → defaultValue (tyX10 j) = vp_V [.null, .int 0, .null, .null, .null, .null, .int 0] j := by
  intro j hj
  match j, hj with
  | 0, _ => rfl
  | 1, _ => rfl
  | 2, _ => rfl
  | 3, _ => rfl
  | 4, _ => rfl
  | 5, _ => rfl
  | 6, _ => rfl
  | z + 7, h => exact absurd h (by omega)
theorem nkX10 : nw_cw yX10_init cX10_init 5 3 := ⟨rfl, by decide, by decide, by decide +kernel, by decide, ac_in 411 (by decide +kernel) (by decide +kernel), ac_in 171 (by decide +kernel) (by decide +kernel), ac_in 412 (by decide +kernel) (by decide +kernel)⟩
theorem nmX7_19 : Cond.methodLink RX7 19 yX10_init ∈ ac_tbl := ac_in 410 (by decide +kernel) (by decide +kernel)
theorem nfX7_22 : Cond.fieldLink RX7 22 RX7 (TX7 0).2.1 (TX7 0).2.2.1 ∈ ac_tbl := ac_in 464 (by decide +kernel) (by decide +kernel)
theorem ncX7_26 : Cond.classLink RX7 26 RX6 ∈ ac_tbl := ac_in 461 (by decide +kernel) (by decide +kernel)
theorem nmX7_28 : Cond.methodLink RX7 28 yX6_init ∈ ac_tbl := ac_in 462 (by decide +kernel) (by decide +kernel)
theorem nfX7_31 : Cond.fieldLink RX7 31 RX7 (TX7 1).2.1 (TX7 1).2.2.1 ∈ ac_tbl := ac_in 465 (by decide +kernel) (by decide +kernel)
theorem nfX7_35 : Cond.fieldLink RX7 35 RX7 (TX7 2).2.1 (TX7 2).2.2.1 ∈ ac_tbl := ac_in 466 (by decide +kernel) (by decide +kernel)
theorem nfX7_38 : Cond.fieldLink RX7 38 RX7 (TX7 3).2.1 (TX7 3).2.2.1 ∈ ac_tbl := ac_in 467 (by decide +kernel) (by decide +kernel)
theorem nfX7_41 : Cond.fieldLink RX7 41 RX7 (TX7 4).2.1 (TX7 4).2.2.1 ∈ ac_tbl := ac_in 468 (by decide +kernel) (by decide +kernel)
theorem nfX7_44 : Cond.fieldLink RX7 44 RX7 (TX7 5).2.1 (TX7 5).2.2.1 ∈ ac_tbl := ac_in 469 (by decide +kernel) (by decide +kernel)
theorem nfX7_47 : Cond.fieldLink RX7 47 RX7 (TX7 6).2.1 (TX7 6).2.2.1 ∈ ac_tbl := ac_in 470 (by decide +kernel) (by decide +kernel)
theorem nmX7_50 : Cond.methodLink RX7 50 yJ7_fill_53178 ∈ ac_tbl := ac_in 463 (by decide +kernel) (by decide +kernel)
theorem dX7_init_0 : decode cX7_init 0 = .ok (.aload_n 0, 1) := by decide +kernel
theorem dX7_init_1 : decode cX7_init 1 = .ok (.invokespecial 3, 3) := by decide +kernel
theorem dX7_init_4 : decode cX7_init 4 = .ok (.aload_n 0, 1) := by decide +kernel
theorem dX7_init_5 : decode cX7_init 5 = .ok (.iconst 5, 1) := by decide +kernel
theorem dX7_init_6 : decode cX7_init 6 = .ok (.newarray .int, 2) := by decide +kernel
theorem dX7_init_8 : decode cX7_init 8 = .ok (.putfield 11, 3) := by decide +kernel
theorem dX7_init_11 : decode cX7_init 11 = .ok (.iload_n 2, 1) := by decide +kernel
theorem dX7_init_12 : decode cX7_init 12 = .ok (.ifCond .ge 7, 3) := by decide +kernel
theorem dX7_init_19 : decode cX7_init 19 = .ok (.iload_n 2, 1) := by decide +kernel
theorem dX7_init_20 : decode cX7_init 20 = .ok (.istore_n 3, 1) := by decide +kernel
theorem dX7_init_21 : decode cX7_init 21 = .ok (.bipush 33, 2) := by decide +kernel
theorem dX7_init_23 : decode cX7_init 23 = .ok (.iload_n 3, 1) := by decide +kernel
theorem dX7_init_24 : decode cX7_init 24 = .ok (.iconst 2, 1) := by decide +kernel
theorem dX7_init_25 : decode cX7_init 25 = .ok (.idiv, 1) := by decide +kernel
theorem dX7_init_26 : decode cX7_init 26 = .ok (.iadd, 1) := by decide +kernel
theorem dX7_init_27 : decode cX7_init 27 = .ok (.iconst 1, 1) := by decide +kernel
theorem dX7_init_28 : decode cX7_init 28 = .ok (.iadd, 1) := by decide +kernel
theorem dX7_init_29 : decode cX7_init 29 = .ok (.istore 4, 2) := by decide +kernel
theorem dX7_init_31 : decode cX7_init 31 = .ok (.aload_n 0, 1) := by decide +kernel
theorem dX7_init_32 : decode cX7_init 32 = .ok (.new 17, 3) := by decide +kernel
theorem dX7_init_35 : decode cX7_init 35 = .ok (.dup, 1) := by decide +kernel
theorem dX7_init_36 : decode cX7_init 36 = .ok (.aload_n 1, 1) := by decide +kernel
theorem dX7_init_37 : decode cX7_init 37 = .ok (.iload_n 3, 1) := by decide +kernel
theorem dX7_init_38 : decode cX7_init 38 = .ok (.iload 4, 2) := by decide +kernel
theorem dX7_init_40 : decode cX7_init 40 = .ok (.invokespecial 19, 3) := by decide +kernel
theorem dX7_init_43 : decode cX7_init 43 = .ok (.putfield 22, 3) := by decide +kernel
theorem dX7_init_46 : decode cX7_init 46 = .ok (.aload_n 0, 1) := by decide +kernel
theorem dX7_init_47 : decode cX7_init 47 = .ok (.new 26, 3) := by decide +kernel
theorem dX7_init_50 : decode cX7_init 50 = .ok (.dup, 1) := by decide +kernel
theorem dX7_init_51 : decode cX7_init 51 = .ok (.iconst 2, 1) := by decide +kernel
theorem dX7_init_52 : decode cX7_init 52 = .ok (.iload_n 3, 1) := by decide +kernel
theorem dX7_init_53 : decode cX7_init 53 = .ok (.imul, 1) := by decide +kernel
theorem dX7_init_54 : decode cX7_init 54 = .ok (.bipush 16, 2) := by decide +kernel
theorem dX7_init_56 : decode cX7_init 56 = .ok (.iadd, 1) := by decide +kernel
theorem dX7_init_57 : decode cX7_init 57 = .ok (.invokespecial 28, 3) := by decide +kernel
theorem dX7_init_60 : decode cX7_init 60 = .ok (.putfield 31, 3) := by decide +kernel
theorem dX7_init_63 : decode cX7_init 63 = .ok (.aload_n 0, 1) := by decide +kernel
theorem dX7_init_64 : decode cX7_init 64 = .ok (.iload 4, 2) := by decide +kernel
theorem dX7_init_66 : decode cX7_init 66 = .ok (.newarray .int, 2) := by decide +kernel
theorem dX7_init_68 : decode cX7_init 68 = .ok (.putfield 35, 3) := by decide +kernel
theorem dX7_init_71 : decode cX7_init 71 = .ok (.aload_n 0, 1) := by decide +kernel
theorem dX7_init_72 : decode cX7_init 72 = .ok (.iload 4, 2) := by decide +kernel
theorem dX7_init_74 : decode cX7_init 74 = .ok (.newarray .int, 2) := by decide +kernel
theorem dX7_init_76 : decode cX7_init 76 = .ok (.putfield 38, 3) := by decide +kernel
theorem dX7_init_79 : decode cX7_init 79 = .ok (.aload_n 0, 1) := by decide +kernel
theorem dX7_init_80 : decode cX7_init 80 = .ok (.iload 4, 2) := by decide +kernel
theorem dX7_init_82 : decode cX7_init 82 = .ok (.newarray .int, 2) := by decide +kernel
theorem dX7_init_84 : decode cX7_init 84 = .ok (.putfield 41, 3) := by decide +kernel
theorem dX7_init_87 : decode cX7_init 87 = .ok (.aload_n 0, 1) := by decide +kernel
theorem dX7_init_88 : decode cX7_init 88 = .ok (.iload_n 3, 1) := by decide +kernel
theorem dX7_init_89 : decode cX7_init 89 = .ok (.bipush 9, 2) := by decide +kernel
theorem dX7_init_91 : decode cX7_init 91 = .ok (.idiv, 1) := by decide +kernel
theorem dX7_init_92 : decode cX7_init 92 = .ok (.iconst 1, 1) := by decide +kernel
theorem dX7_init_93 : decode cX7_init 93 = .ok (.iadd, 1) := by decide +kernel
theorem dX7_init_94 : decode cX7_init 94 = .ok (.newarray .int, 2) := by decide +kernel
theorem dX7_init_96 : decode cX7_init 96 = .ok (.putfield 44, 3) := by decide +kernel
theorem dX7_init_99 : decode cX7_init 99 = .ok (.aload_n 0, 1) := by decide +kernel
theorem dX7_init_100 : decode cX7_init 100 = .ok (.iload_n 3, 1) := by decide +kernel
theorem dX7_init_101 : decode cX7_init 101 = .ok (.bipush 9, 2) := by decide +kernel
theorem dX7_init_103 : decode cX7_init 103 = .ok (.idiv, 1) := by decide +kernel
theorem dX7_init_104 : decode cX7_init 104 = .ok (.iconst 1, 1) := by decide +kernel
theorem dX7_init_105 : decode cX7_init 105 = .ok (.iadd, 1) := by decide +kernel
theorem dX7_init_106 : decode cX7_init 106 = .ok (.newarray .int, 2) := by decide +kernel
theorem dX7_init_108 : decode cX7_init 108 = .ok (.putfield 47, 3) := by decide +kernel
theorem dX7_init_111 : decode cX7_init 111 = .ok (.aload_n 0, 1) := by decide +kernel
theorem dX7_init_112 : decode cX7_init 112 = .ok (.getfield 35, 3) := by decide +kernel
theorem dX7_init_115 : decode cX7_init 115 = .ok (.iconst (-1), 1) := by decide +kernel
theorem dX7_init_116 : decode cX7_init 116 = .ok (.invokestatic 50, 3) := by decide +kernel
theorem dX7_init_119 : decode cX7_init 119 = .ok (.aload_n 0, 1) := by decide +kernel
theorem dX7_init_120 : decode cX7_init 120 = .ok (.getfield 41, 3) := by decide +kernel
theorem dX7_init_123 : decode cX7_init 123 = .ok (.iconst (-1), 1) := by decide +kernel
theorem dX7_init_124 : decode cX7_init 124 = .ok (.invokestatic 50, 3) := by decide +kernel
theorem dX7_init_127 : decode cX7_init 127 = .ok (.aload_n 0, 1) := by decide +kernel
theorem dX7_init_128 : decode cX7_init 128 = .ok (.getfield 11, 3) := by decide +kernel
theorem dX7_init_131 : decode cX7_init 131 = .ok (.iconst (-1), 1) := by decide +kernel
theorem dX7_init_132 : decode cX7_init 132 = .ok (.invokestatic 50, 3) := by decide +kernel
theorem dX7_init_135 : decode cX7_init 135 = .ok (.return_, 1) := by decide +kernel
set_option maxRecDepth 20000 in
theorem ck_X7_init (l : Launch) (D : va_G) (cT : Nat → ClassId) (h : Nat) (b N : Nat) (hN : N < 30000) : nw_Met l D cT yX7_init cX7_init 5 3 18 (180 + N + 1 + N + 1 + N + 1 + ((33 + N / 2 + 1)) + ((33 + N / 2 + 1)) + (2 * N + 16) + 33 + N / 2 + 1 + 33 + N / 2 + 1 + 33 + N / 2 + 1 + N / 9 + 1 + N / 9 + 1) [.ref h, .ref b, .int (nI N)] (h, .inr (7, [.null, .null, .null, .null, .null, .null, .null, .null, .int 0, .int 0, .int 0, .int 0, .int 0, .int 0, .int 0])) (fun u => [(h, .inr (7, [.ref (u.1 1), .ref (u.1 9), .ref (u.1 13), .ref (u.1 14), .ref (u.1 15), .ref (u.1 16), .ref (u.1 17), .ref (u.1 0), .int 0, .int 0, .int 0, .int 0, .int 0, .int 0, .int 0])), ((u.1 0), .inl (cT 0, 5, .inl (u.2 0))), ((u.1 1), .inr (10, [.ref b, .int (nI N), .ref (u.1 5), .ref (u.1 2), .ref (u.1 3), .ref (u.1 4), .int 0])), ((u.1 2), .inl (cT 0, N + 1, .inl (fun _ => 0))), ((u.1 3), .inl (cT 0, N + 1, .inl (fun _ => 0))), ((u.1 4), .inl (cT 0, N + 1, .inl (fun _ => 0))), ((u.1 5), .inr (4, [.ref (u.1 7), .ref (u.1 8), .ref (u.1 6), .int 0])), ((u.1 6), .inl (cT 0, 127, .inl (u.2 1))), ((u.1 7), .inl (cT 3, ((33 + N / 2 + 1)), .inr (.inl (fun _ => 0)))), ((u.1 8), .inl (cT 0, ((33 + N / 2 + 1)), .inl (fun _ => 0))), ((u.1 9), .inr (6, [.ref (u.1 12), .ref (u.1 10), .ref (u.1 11), .int 0, .int 0])), ((u.1 10), .inl (cT 0, 16, .inl (fun _ => 0))), ((u.1 11), .inl (cT 0, 16, .inl (fun _ => 0))), ((u.1 12), .inl (cT 0, (2 * N + 16), .inl (fun _ => 0))), ((u.1 13), .inl (cT 0, 33 + N / 2 + 1, .inl (u.2 2))), ((u.1 14), .inl (cT 0, 33 + N / 2 + 1, .inl (fun _ => 0))), ((u.1 15), .inl (cT 0, 33 + N / 2 + 1, .inl (u.2 3))), ((u.1 16), .inl (cT 0, N / 9 + 1, .inl (fun _ => 0))), ((u.1 17), .inl (cT 0, N / 9 + 1, .inl (fun _ => 0)))]) := by
  refine nw_Met.of (C := RX7) (by decide) rfl rfl (Nat.le_of_ble_eq_true rfl) (fun x A Z hI hret => ?_)
  refine ac_aload_n Z.1 0 dX7_init_0 rfl ?_
  refine nw_obj0 Z nmX7_3 nin_obj nco_obj (Nat.le_of_ble_eq_true rfl) (Nat.le_of_ble_eq_true rfl) (Nat.zero_le _) dX7_init_1 ?_
  refine ac_aload_n Z.1 0 dX7_init_4 rfl ?_
  refine ac_iconst (v := 5) Z.1 dX7_init_5 (by decide) ?_
  refine nw_newa (N := 5) (a0 := (5, .inl (fun _ => 0))) Z 0 rfl rfl nar_int (fun _ => rfl) (by decide) (by decide) (by decide) (by show _ ≤ 18; omega) (by show _ ≤ 180 + N + 1 + N + 1 + N + 1 + ((33 + N / 2 + 1)) + ((33 + N / 2 + 1)) + (2 * N + 16) + 33 + N / 2 + 1 + 33 + N / 2 + 1 + 33 + N / 2 + 1 + N / 9 + 1 + N / 9 + 1; omega) dX7_init_6 (fun q0 => ?_)
  refine nw_cnt (cs' := 1) (ss' := 5) rfl (by omega) ?_
  refine nw_eq (ws' := [(h, .inr (7, [.null, .null, .null, .null, .null, .null, .null, .null, .int 0, .int 0, .int 0, .int 0, .int 0, .int 0, .int 0])), (q0, .inl (cT 0, 5, .inl (fun _ => 0)))]) rfl ?_
  refine nw_putF Z hI b_X7 0 rfl 7 (by decide) nfX7_11 rfl rfl rfl (Nat.le_of_ble_eq_true rfl) dX7_init_8 (ws' := [(h, .inr (7, [.null, .null, .null, .null, .null, .null, .null, .ref q0, .int 0, .int 0, .int 0, .int 0, .int 0, .int 0, .int 0])), (q0, .inl (cT 0, 5, .inl (fun _ => 0)))]) rfl ?_
  refine ac_iload_n Z.1 2 dX7_init_11 rfl ?_
  refine ac_if_ge (tgt := 19) Z.1 dX7_init_12 (by decide) (fun _ => ?_) (fun hc => absurd (nI_pos' (by omega)) hc)
  refine ac_iload_n Z.1 2 dX7_init_19 rfl ?_
  refine ac_istore_n (lv' := [(3, .int (nI N)), (0, .ref h), (1, .ref b), (2, .int (nI N))]) Z.1 dX7_init_20 (by decide) rfl ?_
  refine ac_bipush (v := 33) Z.1 dX7_init_21 (by decide) ?_
  refine ac_iload_n Z.1 0 dX7_init_23 rfl ?_
  refine ac_iconst (v := 2) Z.1 dX7_init_24 (by decide) ?_
  refine ac_idiv Z.1 dX7_init_25 (by decide) ?_
  refine ac_top (v' := (nI (N / 2))) (ni_div (b := 2) (by omega) (by decide) (by decide)) ?_
  refine ac_iadd Z.1 dX7_init_26 ?_
  refine ac_top (v' := (nI (33 + N / 2))) (nI_add 33 _) ?_
  refine ac_iconst (v := 1) Z.1 dX7_init_27 (by decide) ?_
  refine ac_iadd Z.1 dX7_init_28 ?_
  refine ac_top (v' := (nI (33 + N / 2 + 1))) (nI_add _ 1) ?_
  refine ac_istore (lv' := [(4, .int (nI (33 + N / 2 + 1))), (3, .int (nI N)), (0, .ref h), (1, .ref b), (2, .int (nI N))]) Z.1 dX7_init_29 (by decide) rfl ?_
  refine ac_aload_n Z.1 2 dX7_init_31 rfl ?_
  refine nw_new (fs := [.null, .int 0, .null, .null, .null, .null, .int 0]) Z b_X10 ncX7_17 niX10 nzX10 ndfX10 (by show _ ≤ 18; omega) (by show _ ≤ 180 + N + 1 + N + 1 + N + 1 + ((33 + N / 2 + 1)) + ((33 + N / 2 + 1)) + (2 * N + 16) + 33 + N / 2 + 1 + 33 + N / 2 + 1 + 33 + N / 2 + 1 + N / 9 + 1 + N / 9 + 1; omega) dX7_init_32 (fun q1 => ?_)
  refine nw_cnt (cs' := 2) (ss' := 12) rfl (by omega) ?_
  refine nw_eq (ws' := [(h, .inr (7, [.null, .null, .null, .null, .null, .null, .null, .ref q0, .int 0, .int 0, .int 0, .int 0, .int 0, .int 0, .int 0])), (q0, .inl (cT 0, 5, .inl (fun _ => 0))), (q1, .inr (10, [.null, .int 0, .null, .null, .null, .null, .int 0]))]) rfl ?_
  refine ac_dup Z.1 dX7_init_35 rfl ?_
  refine ac_aload_n Z.1 3 dX7_init_36 rfl ?_
  refine ac_iload_n Z.1 1 dX7_init_37 rfl ?_
  refine ac_iload Z.1 0 dX7_init_38 rfl ?_
  refine nw_ctor (wr := [(h, .inr (7, [.null, .null, .null, .null, .null, .null, .null, .ref q0, .int 0, .int 0, .int 0, .int 0, .int 0, .int 0, .int 0])), (q0, .inl (cT 0, 5, .inl (fun _ => 0)))]) Z (ck_X10_init l D cT q1 b (N) (33 + N / 2 + 1) (by omega) (by omega)) nkX10 nmX7_19 (Nat.le_of_ble_eq_true rfl) (Nat.le_of_ble_eq_true rfl) (by show _ ≤ 18; omega) (by show _ ≤ 180 + N + 1 + N + 1 + N + 1 + ((33 + N / 2 + 1)) + ((33 + N / 2 + 1)) + (2 * N + 16) + 33 + N / 2 + 1 + 33 + N / 2 + 1 + 33 + N / 2 + 1 + N / 9 + 1 + N / 9 + 1; omega) rfl rfl (Nat.le_of_ble_eq_true rfl) dX7_init_40 (fun u0 => ?_)
  refine nw_cnt (cs' := 9) (ss' := 143 + N + 1 + N + 1 + N + 1 + ((33 + N / 2 + 1)) + ((33 + N / 2 + 1))) rfl (by omega) ?_
  refine nw_eq (ws' := [(h, .inr (7, [.null, .null, .null, .null, .null, .null, .null, .ref q0, .int 0, .int 0, .int 0, .int 0, .int 0, .int 0, .int 0])), (q0, .inl (cT 0, 5, .inl (fun _ => 0))), (q1, .inr (10, [.ref b, .int (nI N), .ref (u0.1 3), .ref (u0.1 0), .ref (u0.1 1), .ref (u0.1 2), .int 0])), ((u0.1 0), .inl (cT 0, N + 1, .inl (fun _ => 0))), ((u0.1 1), .inl (cT 0, N + 1, .inl (fun _ => 0))), ((u0.1 2), .inl (cT 0, N + 1, .inl (fun _ => 0))), ((u0.1 3), .inr (4, [.ref (u0.1 5), .ref (u0.1 6), .ref (u0.1 4), .int 0])), ((u0.1 4), .inl (cT 0, 127, .inl (u0.2 0))), ((u0.1 5), .inl (cT 3, ((33 + N / 2 + 1)), .inr (.inl (fun _ => 0)))), ((u0.1 6), .inl (cT 0, ((33 + N / 2 + 1)), .inl (fun _ => 0)))]) rfl ?_
  refine nw_putF Z hI b_X7 0 rfl 0 (by decide) nfX7_22 rfl rfl rfl (Nat.le_of_ble_eq_true rfl) dX7_init_43 (ws' := [(h, .inr (7, [.ref q1, .null, .null, .null, .null, .null, .null, .ref q0, .int 0, .int 0, .int 0, .int 0, .int 0, .int 0, .int 0])), (q0, .inl (cT 0, 5, .inl (fun _ => 0))), (q1, .inr (10, [.ref b, .int (nI N), .ref (u0.1 3), .ref (u0.1 0), .ref (u0.1 1), .ref (u0.1 2), .int 0])), ((u0.1 0), .inl (cT 0, N + 1, .inl (fun _ => 0))), ((u0.1 1), .inl (cT 0, N + 1, .inl (fun _ => 0))), ((u0.1 2), .inl (cT 0, N + 1, .inl (fun _ => 0))), ((u0.1 3), .inr (4, [.ref (u0.1 5), .ref (u0.1 6), .ref (u0.1 4), .int 0])), ((u0.1 4), .inl (cT 0, 127, .inl (u0.2 0))), ((u0.1 5), .inl (cT 3, ((33 + N / 2 + 1)), .inr (.inl (fun _ => 0)))), ((u0.1 6), .inl (cT 0, ((33 + N / 2 + 1)), .inl (fun _ => 0)))]) rfl ?_
  refine ac_aload_n Z.1 2 dX7_init_46 rfl ?_
  refine nw_new (fs := [.null, .null, .null, .int 0, .int 0]) Z b_X6 ncX7_26 niX6 nzX6 ndfX6 (by show _ ≤ 18; omega) (by show _ ≤ 180 + N + 1 + N + 1 + N + 1 + ((33 + N / 2 + 1)) + ((33 + N / 2 + 1)) + (2 * N + 16) + 33 + N / 2 + 1 + 33 + N / 2 + 1 + 33 + N / 2 + 1 + N / 9 + 1 + N / 9 + 1; omega) dX7_init_47 (fun q2 => ?_)
  refine nw_cnt (cs' := 10) (ss' := 148 + N + 1 + N + 1 + N + 1 + ((33 + N / 2 + 1)) + ((33 + N / 2 + 1))) rfl (by omega) ?_
  refine nw_eq (ws' := [(h, .inr (7, [.ref q1, .null, .null, .null, .null, .null, .null, .ref q0, .int 0, .int 0, .int 0, .int 0, .int 0, .int 0, .int 0])), (q0, .inl (cT 0, 5, .inl (fun _ => 0))), (q1, .inr (10, [.ref b, .int (nI N), .ref (u0.1 3), .ref (u0.1 0), .ref (u0.1 1), .ref (u0.1 2), .int 0])), ((u0.1 0), .inl (cT 0, N + 1, .inl (fun _ => 0))), ((u0.1 1), .inl (cT 0, N + 1, .inl (fun _ => 0))), ((u0.1 2), .inl (cT 0, N + 1, .inl (fun _ => 0))), ((u0.1 3), .inr (4, [.ref (u0.1 5), .ref (u0.1 6), .ref (u0.1 4), .int 0])), ((u0.1 4), .inl (cT 0, 127, .inl (u0.2 0))), ((u0.1 5), .inl (cT 3, ((33 + N / 2 + 1)), .inr (.inl (fun _ => 0)))), ((u0.1 6), .inl (cT 0, ((33 + N / 2 + 1)), .inl (fun _ => 0))), (q2, .inr (6, [.null, .null, .null, .int 0, .int 0]))]) rfl ?_
  refine ac_dup Z.1 dX7_init_50 rfl ?_
  refine ac_iconst (v := 2) Z.1 dX7_init_51 (by decide) ?_
  refine ac_iload_n Z.1 1 dX7_init_52 rfl ?_
  refine ac_imul Z.1 dX7_init_53 ?_
  refine ac_top (v' := (nI (2 * N))) (ni_mul (a := 2)) ?_
  refine ac_bipush (v := 16) Z.1 dX7_init_54 (by decide) ?_
  refine ac_iadd Z.1 dX7_init_56 ?_
  refine ac_top (v' := (nI (2 * N + 16))) (nI_add _ 16) ?_
  refine nw_ctor (wr := [(h, .inr (7, [.ref q1, .null, .null, .null, .null, .null, .null, .ref q0, .int 0, .int 0, .int 0, .int 0, .int 0, .int 0, .int 0])), (q0, .inl (cT 0, 5, .inl (fun _ => 0))), (q1, .inr (10, [.ref b, .int (nI N), .ref (u0.1 3), .ref (u0.1 0), .ref (u0.1 1), .ref (u0.1 2), .int 0])), ((u0.1 0), .inl (cT 0, N + 1, .inl (fun _ => 0))), ((u0.1 1), .inl (cT 0, N + 1, .inl (fun _ => 0))), ((u0.1 2), .inl (cT 0, N + 1, .inl (fun _ => 0))), ((u0.1 3), .inr (4, [.ref (u0.1 5), .ref (u0.1 6), .ref (u0.1 4), .int 0])), ((u0.1 4), .inl (cT 0, 127, .inl (u0.2 0))), ((u0.1 5), .inl (cT 3, ((33 + N / 2 + 1)), .inr (.inl (fun _ => 0)))), ((u0.1 6), .inl (cT 0, ((33 + N / 2 + 1)), .inl (fun _ => 0)))]) Z (ck_X6_init l D cT q2 (2 * N + 16) (by omega)) nkX6 nmX7_28 (Nat.le_of_ble_eq_true rfl) (Nat.le_of_ble_eq_true rfl) (by show _ ≤ 18; omega) (by show _ ≤ 180 + N + 1 + N + 1 + N + 1 + ((33 + N / 2 + 1)) + ((33 + N / 2 + 1)) + (2 * N + 16) + 33 + N / 2 + 1 + 33 + N / 2 + 1 + 33 + N / 2 + 1 + N / 9 + 1 + N / 9 + 1; omega) rfl rfl (Nat.le_of_ble_eq_true rfl) dX7_init_57 (fun u1 => ?_)
  refine nw_cnt (cs' := 13) (ss' := 180 + N + 1 + N + 1 + N + 1 + ((33 + N / 2 + 1)) + ((33 + N / 2 + 1)) + (2 * N + 16)) rfl (by omega) ?_
  refine nw_eq (ws' := [(h, .inr (7, [.ref q1, .null, .null, .null, .null, .null, .null, .ref q0, .int 0, .int 0, .int 0, .int 0, .int 0, .int 0, .int 0])), (q0, .inl (cT 0, 5, .inl (fun _ => 0))), (q1, .inr (10, [.ref b, .int (nI N), .ref (u0.1 3), .ref (u0.1 0), .ref (u0.1 1), .ref (u0.1 2), .int 0])), ((u0.1 0), .inl (cT 0, N + 1, .inl (fun _ => 0))), ((u0.1 1), .inl (cT 0, N + 1, .inl (fun _ => 0))), ((u0.1 2), .inl (cT 0, N + 1, .inl (fun _ => 0))), ((u0.1 3), .inr (4, [.ref (u0.1 5), .ref (u0.1 6), .ref (u0.1 4), .int 0])), ((u0.1 4), .inl (cT 0, 127, .inl (u0.2 0))), ((u0.1 5), .inl (cT 3, ((33 + N / 2 + 1)), .inr (.inl (fun _ => 0)))), ((u0.1 6), .inl (cT 0, ((33 + N / 2 + 1)), .inl (fun _ => 0))), (q2, .inr (6, [.ref (u1.1 2), .ref (u1.1 0), .ref (u1.1 1), .int 0, .int 0])), ((u1.1 0), .inl (cT 0, 16, .inl (fun _ => 0))), ((u1.1 1), .inl (cT 0, 16, .inl (fun _ => 0))), ((u1.1 2), .inl (cT 0, (2 * N + 16), .inl (fun _ => 0)))]) rfl ?_
  refine nw_putF Z hI b_X7 0 rfl 1 (by decide) nfX7_31 rfl rfl rfl (Nat.le_of_ble_eq_true rfl) dX7_init_60 (ws' := [(h, .inr (7, [.ref q1, .ref q2, .null, .null, .null, .null, .null, .ref q0, .int 0, .int 0, .int 0, .int 0, .int 0, .int 0, .int 0])), (q0, .inl (cT 0, 5, .inl (fun _ => 0))), (q1, .inr (10, [.ref b, .int (nI N), .ref (u0.1 3), .ref (u0.1 0), .ref (u0.1 1), .ref (u0.1 2), .int 0])), ((u0.1 0), .inl (cT 0, N + 1, .inl (fun _ => 0))), ((u0.1 1), .inl (cT 0, N + 1, .inl (fun _ => 0))), ((u0.1 2), .inl (cT 0, N + 1, .inl (fun _ => 0))), ((u0.1 3), .inr (4, [.ref (u0.1 5), .ref (u0.1 6), .ref (u0.1 4), .int 0])), ((u0.1 4), .inl (cT 0, 127, .inl (u0.2 0))), ((u0.1 5), .inl (cT 3, ((33 + N / 2 + 1)), .inr (.inl (fun _ => 0)))), ((u0.1 6), .inl (cT 0, ((33 + N / 2 + 1)), .inl (fun _ => 0))), (q2, .inr (6, [.ref (u1.1 2), .ref (u1.1 0), .ref (u1.1 1), .int 0, .int 0])), ((u1.1 0), .inl (cT 0, 16, .inl (fun _ => 0))), ((u1.1 1), .inl (cT 0, 16, .inl (fun _ => 0))), ((u1.1 2), .inl (cT 0, (2 * N + 16), .inl (fun _ => 0)))]) rfl ?_
  refine ac_aload_n Z.1 2 dX7_init_63 rfl ?_
  refine ac_iload Z.1 0 dX7_init_64 rfl ?_
  refine nw_newa (N := 33 + N / 2 + 1) (a0 := (33 + N / 2 + 1, .inl (fun _ => 0))) Z 0 rfl rfl nar_int (fun _ => rfl) (nI_pos (by omega)) (nI_clamp (by omega)) (by show (33 + N / 2 + 1) * 4 ≤ 536870912; omega) (by show _ ≤ 18; omega) (by show _ ≤ 180 + N + 1 + N + 1 + N + 1 + ((33 + N / 2 + 1)) + ((33 + N / 2 + 1)) + (2 * N + 16) + 33 + N / 2 + 1 + 33 + N / 2 + 1 + 33 + N / 2 + 1 + N / 9 + 1 + N / 9 + 1; omega) dX7_init_66 (fun q3 => ?_)
  refine nw_cnt (cs' := 14) (ss' := 180 + N + 1 + N + 1 + N + 1 + ((33 + N / 2 + 1)) + ((33 + N / 2 + 1)) + (2 * N + 16) + 33 + N / 2 + 1) rfl (by omega) ?_
  refine nw_eq (ws' := [(h, .inr (7, [.ref q1, .ref q2, .null, .null, .null, .null, .null, .ref q0, .int 0, .int 0, .int 0, .int 0, .int 0, .int 0, .int 0])), (q0, .inl (cT 0, 5, .inl (fun _ => 0))), (q1, .inr (10, [.ref b, .int (nI N), .ref (u0.1 3), .ref (u0.1 0), .ref (u0.1 1), .ref (u0.1 2), .int 0])), ((u0.1 0), .inl (cT 0, N + 1, .inl (fun _ => 0))), ((u0.1 1), .inl (cT 0, N + 1, .inl (fun _ => 0))), ((u0.1 2), .inl (cT 0, N + 1, .inl (fun _ => 0))), ((u0.1 3), .inr (4, [.ref (u0.1 5), .ref (u0.1 6), .ref (u0.1 4), .int 0])), ((u0.1 4), .inl (cT 0, 127, .inl (u0.2 0))), ((u0.1 5), .inl (cT 3, ((33 + N / 2 + 1)), .inr (.inl (fun _ => 0)))), ((u0.1 6), .inl (cT 0, ((33 + N / 2 + 1)), .inl (fun _ => 0))), (q2, .inr (6, [.ref (u1.1 2), .ref (u1.1 0), .ref (u1.1 1), .int 0, .int 0])), ((u1.1 0), .inl (cT 0, 16, .inl (fun _ => 0))), ((u1.1 1), .inl (cT 0, 16, .inl (fun _ => 0))), ((u1.1 2), .inl (cT 0, (2 * N + 16), .inl (fun _ => 0))), (q3, .inl (cT 0, 33 + N / 2 + 1, .inl (fun _ => 0)))]) rfl ?_
  refine nw_putF Z hI b_X7 0 rfl 2 (by decide) nfX7_35 rfl rfl rfl (Nat.le_of_ble_eq_true rfl) dX7_init_68 (ws' := [(h, .inr (7, [.ref q1, .ref q2, .ref q3, .null, .null, .null, .null, .ref q0, .int 0, .int 0, .int 0, .int 0, .int 0, .int 0, .int 0])), (q0, .inl (cT 0, 5, .inl (fun _ => 0))), (q1, .inr (10, [.ref b, .int (nI N), .ref (u0.1 3), .ref (u0.1 0), .ref (u0.1 1), .ref (u0.1 2), .int 0])), ((u0.1 0), .inl (cT 0, N + 1, .inl (fun _ => 0))), ((u0.1 1), .inl (cT 0, N + 1, .inl (fun _ => 0))), ((u0.1 2), .inl (cT 0, N + 1, .inl (fun _ => 0))), ((u0.1 3), .inr (4, [.ref (u0.1 5), .ref (u0.1 6), .ref (u0.1 4), .int 0])), ((u0.1 4), .inl (cT 0, 127, .inl (u0.2 0))), ((u0.1 5), .inl (cT 3, ((33 + N / 2 + 1)), .inr (.inl (fun _ => 0)))), ((u0.1 6), .inl (cT 0, ((33 + N / 2 + 1)), .inl (fun _ => 0))), (q2, .inr (6, [.ref (u1.1 2), .ref (u1.1 0), .ref (u1.1 1), .int 0, .int 0])), ((u1.1 0), .inl (cT 0, 16, .inl (fun _ => 0))), ((u1.1 1), .inl (cT 0, 16, .inl (fun _ => 0))), ((u1.1 2), .inl (cT 0, (2 * N + 16), .inl (fun _ => 0))), (q3, .inl (cT 0, 33 + N / 2 + 1, .inl (fun _ => 0)))]) rfl ?_
  refine ac_aload_n Z.1 2 dX7_init_71 rfl ?_
  refine ac_iload Z.1 0 dX7_init_72 rfl ?_
  refine nw_newa (N := 33 + N / 2 + 1) (a0 := (33 + N / 2 + 1, .inl (fun _ => 0))) Z 0 rfl rfl nar_int (fun _ => rfl) (nI_pos (by omega)) (nI_clamp (by omega)) (by show (33 + N / 2 + 1) * 4 ≤ 536870912; omega) (by show _ ≤ 18; omega) (by show _ ≤ 180 + N + 1 + N + 1 + N + 1 + ((33 + N / 2 + 1)) + ((33 + N / 2 + 1)) + (2 * N + 16) + 33 + N / 2 + 1 + 33 + N / 2 + 1 + 33 + N / 2 + 1 + N / 9 + 1 + N / 9 + 1; omega) dX7_init_74 (fun q4 => ?_)
  refine nw_cnt (cs' := 15) (ss' := 180 + N + 1 + N + 1 + N + 1 + ((33 + N / 2 + 1)) + ((33 + N / 2 + 1)) + (2 * N + 16) + 33 + N / 2 + 1 + 33 + N / 2 + 1) rfl (by omega) ?_
  refine nw_eq (ws' := [(h, .inr (7, [.ref q1, .ref q2, .ref q3, .null, .null, .null, .null, .ref q0, .int 0, .int 0, .int 0, .int 0, .int 0, .int 0, .int 0])), (q0, .inl (cT 0, 5, .inl (fun _ => 0))), (q1, .inr (10, [.ref b, .int (nI N), .ref (u0.1 3), .ref (u0.1 0), .ref (u0.1 1), .ref (u0.1 2), .int 0])), ((u0.1 0), .inl (cT 0, N + 1, .inl (fun _ => 0))), ((u0.1 1), .inl (cT 0, N + 1, .inl (fun _ => 0))), ((u0.1 2), .inl (cT 0, N + 1, .inl (fun _ => 0))), ((u0.1 3), .inr (4, [.ref (u0.1 5), .ref (u0.1 6), .ref (u0.1 4), .int 0])), ((u0.1 4), .inl (cT 0, 127, .inl (u0.2 0))), ((u0.1 5), .inl (cT 3, ((33 + N / 2 + 1)), .inr (.inl (fun _ => 0)))), ((u0.1 6), .inl (cT 0, ((33 + N / 2 + 1)), .inl (fun _ => 0))), (q2, .inr (6, [.ref (u1.1 2), .ref (u1.1 0), .ref (u1.1 1), .int 0, .int 0])), ((u1.1 0), .inl (cT 0, 16, .inl (fun _ => 0))), ((u1.1 1), .inl (cT 0, 16, .inl (fun _ => 0))), ((u1.1 2), .inl (cT 0, (2 * N + 16), .inl (fun _ => 0))), (q3, .inl (cT 0, 33 + N / 2 + 1, .inl (fun _ => 0))), (q4, .inl (cT 0, 33 + N / 2 + 1, .inl (fun _ => 0)))]) rfl ?_
  refine nw_putF Z hI b_X7 0 rfl 3 (by decide) nfX7_38 rfl rfl rfl (Nat.le_of_ble_eq_true rfl) dX7_init_76 (ws' := [(h, .inr (7, [.ref q1, .ref q2, .ref q3, .ref q4, .null, .null, .null, .ref q0, .int 0, .int 0, .int 0, .int 0, .int 0, .int 0, .int 0])), (q0, .inl (cT 0, 5, .inl (fun _ => 0))), (q1, .inr (10, [.ref b, .int (nI N), .ref (u0.1 3), .ref (u0.1 0), .ref (u0.1 1), .ref (u0.1 2), .int 0])), ((u0.1 0), .inl (cT 0, N + 1, .inl (fun _ => 0))), ((u0.1 1), .inl (cT 0, N + 1, .inl (fun _ => 0))), ((u0.1 2), .inl (cT 0, N + 1, .inl (fun _ => 0))), ((u0.1 3), .inr (4, [.ref (u0.1 5), .ref (u0.1 6), .ref (u0.1 4), .int 0])), ((u0.1 4), .inl (cT 0, 127, .inl (u0.2 0))), ((u0.1 5), .inl (cT 3, ((33 + N / 2 + 1)), .inr (.inl (fun _ => 0)))), ((u0.1 6), .inl (cT 0, ((33 + N / 2 + 1)), .inl (fun _ => 0))), (q2, .inr (6, [.ref (u1.1 2), .ref (u1.1 0), .ref (u1.1 1), .int 0, .int 0])), ((u1.1 0), .inl (cT 0, 16, .inl (fun _ => 0))), ((u1.1 1), .inl (cT 0, 16, .inl (fun _ => 0))), ((u1.1 2), .inl (cT 0, (2 * N + 16), .inl (fun _ => 0))), (q3, .inl (cT 0, 33 + N / 2 + 1, .inl (fun _ => 0))), (q4, .inl (cT 0, 33 + N / 2 + 1, .inl (fun _ => 0)))]) rfl ?_
  refine ac_aload_n Z.1 2 dX7_init_79 rfl ?_
  refine ac_iload Z.1 0 dX7_init_80 rfl ?_
  refine nw_newa (N := 33 + N / 2 + 1) (a0 := (33 + N / 2 + 1, .inl (fun _ => 0))) Z 0 rfl rfl nar_int (fun _ => rfl) (nI_pos (by omega)) (nI_clamp (by omega)) (by show (33 + N / 2 + 1) * 4 ≤ 536870912; omega) (by show _ ≤ 18; omega) (by show _ ≤ 180 + N + 1 + N + 1 + N + 1 + ((33 + N / 2 + 1)) + ((33 + N / 2 + 1)) + (2 * N + 16) + 33 + N / 2 + 1 + 33 + N / 2 + 1 + 33 + N / 2 + 1 + N / 9 + 1 + N / 9 + 1; omega) dX7_init_82 (fun q5 => ?_)
  refine nw_cnt (cs' := 16) (ss' := 180 + N + 1 + N + 1 + N + 1 + ((33 + N / 2 + 1)) + ((33 + N / 2 + 1)) + (2 * N + 16) + 33 + N / 2 + 1 + 33 + N / 2 + 1 + 33 + N / 2 + 1) rfl (by omega) ?_
  refine nw_eq (ws' := [(h, .inr (7, [.ref q1, .ref q2, .ref q3, .ref q4, .null, .null, .null, .ref q0, .int 0, .int 0, .int 0, .int 0, .int 0, .int 0, .int 0])), (q0, .inl (cT 0, 5, .inl (fun _ => 0))), (q1, .inr (10, [.ref b, .int (nI N), .ref (u0.1 3), .ref (u0.1 0), .ref (u0.1 1), .ref (u0.1 2), .int 0])), ((u0.1 0), .inl (cT 0, N + 1, .inl (fun _ => 0))), ((u0.1 1), .inl (cT 0, N + 1, .inl (fun _ => 0))), ((u0.1 2), .inl (cT 0, N + 1, .inl (fun _ => 0))), ((u0.1 3), .inr (4, [.ref (u0.1 5), .ref (u0.1 6), .ref (u0.1 4), .int 0])), ((u0.1 4), .inl (cT 0, 127, .inl (u0.2 0))), ((u0.1 5), .inl (cT 3, ((33 + N / 2 + 1)), .inr (.inl (fun _ => 0)))), ((u0.1 6), .inl (cT 0, ((33 + N / 2 + 1)), .inl (fun _ => 0))), (q2, .inr (6, [.ref (u1.1 2), .ref (u1.1 0), .ref (u1.1 1), .int 0, .int 0])), ((u1.1 0), .inl (cT 0, 16, .inl (fun _ => 0))), ((u1.1 1), .inl (cT 0, 16, .inl (fun _ => 0))), ((u1.1 2), .inl (cT 0, (2 * N + 16), .inl (fun _ => 0))), (q3, .inl (cT 0, 33 + N / 2 + 1, .inl (fun _ => 0))), (q4, .inl (cT 0, 33 + N / 2 + 1, .inl (fun _ => 0))), (q5, .inl (cT 0, 33 + N / 2 + 1, .inl (fun _ => 0)))]) rfl ?_
  refine nw_putF Z hI b_X7 0 rfl 4 (by decide) nfX7_41 rfl rfl rfl (Nat.le_of_ble_eq_true rfl) dX7_init_84 (ws' := [(h, .inr (7, [.ref q1, .ref q2, .ref q3, .ref q4, .ref q5, .null, .null, .ref q0, .int 0, .int 0, .int 0, .int 0, .int 0, .int 0, .int 0])), (q0, .inl (cT 0, 5, .inl (fun _ => 0))), (q1, .inr (10, [.ref b, .int (nI N), .ref (u0.1 3), .ref (u0.1 0), .ref (u0.1 1), .ref (u0.1 2), .int 0])), ((u0.1 0), .inl (cT 0, N + 1, .inl (fun _ => 0))), ((u0.1 1), .inl (cT 0, N + 1, .inl (fun _ => 0))), ((u0.1 2), .inl (cT 0, N + 1, .inl (fun _ => 0))), ((u0.1 3), .inr (4, [.ref (u0.1 5), .ref (u0.1 6), .ref (u0.1 4), .int 0])), ((u0.1 4), .inl (cT 0, 127, .inl (u0.2 0))), ((u0.1 5), .inl (cT 3, ((33 + N / 2 + 1)), .inr (.inl (fun _ => 0)))), ((u0.1 6), .inl (cT 0, ((33 + N / 2 + 1)), .inl (fun _ => 0))), (q2, .inr (6, [.ref (u1.1 2), .ref (u1.1 0), .ref (u1.1 1), .int 0, .int 0])), ((u1.1 0), .inl (cT 0, 16, .inl (fun _ => 0))), ((u1.1 1), .inl (cT 0, 16, .inl (fun _ => 0))), ((u1.1 2), .inl (cT 0, (2 * N + 16), .inl (fun _ => 0))), (q3, .inl (cT 0, 33 + N / 2 + 1, .inl (fun _ => 0))), (q4, .inl (cT 0, 33 + N / 2 + 1, .inl (fun _ => 0))), (q5, .inl (cT 0, 33 + N / 2 + 1, .inl (fun _ => 0)))]) rfl ?_
  refine ac_aload_n Z.1 2 dX7_init_87 rfl ?_
  refine ac_iload_n Z.1 1 dX7_init_88 rfl ?_
  refine ac_bipush (v := 9) Z.1 dX7_init_89 (by decide) ?_
  refine ac_idiv Z.1 dX7_init_91 (by decide) ?_
  refine ac_top (v' := (nI (N / 9))) (ni_div (b := 9) (by omega) (by decide) (by decide)) ?_
  refine ac_iconst (v := 1) Z.1 dX7_init_92 (by decide) ?_
  refine ac_iadd Z.1 dX7_init_93 ?_
  refine ac_top (v' := (nI (N / 9 + 1))) (nI_add _ 1) ?_
  refine nw_newa (N := N / 9 + 1) (a0 := (N / 9 + 1, .inl (fun _ => 0))) Z 0 rfl rfl nar_int (fun _ => rfl) (nI_pos (by omega)) (nI_clamp (by omega)) (by show (N / 9 + 1) * 4 ≤ 536870912; omega) (by show _ ≤ 18; omega) (by show _ ≤ 180 + N + 1 + N + 1 + N + 1 + ((33 + N / 2 + 1)) + ((33 + N / 2 + 1)) + (2 * N + 16) + 33 + N / 2 + 1 + 33 + N / 2 + 1 + 33 + N / 2 + 1 + N / 9 + 1 + N / 9 + 1; omega) dX7_init_94 (fun q6 => ?_)
  refine nw_cnt (cs' := 17) (ss' := 180 + N + 1 + N + 1 + N + 1 + ((33 + N / 2 + 1)) + ((33 + N / 2 + 1)) + (2 * N + 16) + 33 + N / 2 + 1 + 33 + N / 2 + 1 + 33 + N / 2 + 1 + N / 9 + 1) rfl (by omega) ?_
  refine nw_eq (ws' := [(h, .inr (7, [.ref q1, .ref q2, .ref q3, .ref q4, .ref q5, .null, .null, .ref q0, .int 0, .int 0, .int 0, .int 0, .int 0, .int 0, .int 0])), (q0, .inl (cT 0, 5, .inl (fun _ => 0))), (q1, .inr (10, [.ref b, .int (nI N), .ref (u0.1 3), .ref (u0.1 0), .ref (u0.1 1), .ref (u0.1 2), .int 0])), ((u0.1 0), .inl (cT 0, N + 1, .inl (fun _ => 0))), ((u0.1 1), .inl (cT 0, N + 1, .inl (fun _ => 0))), ((u0.1 2), .inl (cT 0, N + 1, .inl (fun _ => 0))), ((u0.1 3), .inr (4, [.ref (u0.1 5), .ref (u0.1 6), .ref (u0.1 4), .int 0])), ((u0.1 4), .inl (cT 0, 127, .inl (u0.2 0))), ((u0.1 5), .inl (cT 3, ((33 + N / 2 + 1)), .inr (.inl (fun _ => 0)))), ((u0.1 6), .inl (cT 0, ((33 + N / 2 + 1)), .inl (fun _ => 0))), (q2, .inr (6, [.ref (u1.1 2), .ref (u1.1 0), .ref (u1.1 1), .int 0, .int 0])), ((u1.1 0), .inl (cT 0, 16, .inl (fun _ => 0))), ((u1.1 1), .inl (cT 0, 16, .inl (fun _ => 0))), ((u1.1 2), .inl (cT 0, (2 * N + 16), .inl (fun _ => 0))), (q3, .inl (cT 0, 33 + N / 2 + 1, .inl (fun _ => 0))), (q4, .inl (cT 0, 33 + N / 2 + 1, .inl (fun _ => 0))), (q5, .inl (cT 0, 33 + N / 2 + 1, .inl (fun _ => 0))), (q6, .inl (cT 0, N / 9 + 1, .inl (fun _ => 0)))]) rfl ?_
  refine nw_putF Z hI b_X7 0 rfl 5 (by decide) nfX7_44 rfl rfl rfl (Nat.le_of_ble_eq_true rfl) dX7_init_96 (ws' := [(h, .inr (7, [.ref q1, .ref q2, .ref q3, .ref q4, .ref q5, .ref q6, .null, .ref q0, .int 0, .int 0, .int 0, .int 0, .int 0, .int 0, .int 0])), (q0, .inl (cT 0, 5, .inl (fun _ => 0))), (q1, .inr (10, [.ref b, .int (nI N), .ref (u0.1 3), .ref (u0.1 0), .ref (u0.1 1), .ref (u0.1 2), .int 0])), ((u0.1 0), .inl (cT 0, N + 1, .inl (fun _ => 0))), ((u0.1 1), .inl (cT 0, N + 1, .inl (fun _ => 0))), ((u0.1 2), .inl (cT 0, N + 1, .inl (fun _ => 0))), ((u0.1 3), .inr (4, [.ref (u0.1 5), .ref (u0.1 6), .ref (u0.1 4), .int 0])), ((u0.1 4), .inl (cT 0, 127, .inl (u0.2 0))), ((u0.1 5), .inl (cT 3, ((33 + N / 2 + 1)), .inr (.inl (fun _ => 0)))), ((u0.1 6), .inl (cT 0, ((33 + N / 2 + 1)), .inl (fun _ => 0))), (q2, .inr (6, [.ref (u1.1 2), .ref (u1.1 0), .ref (u1.1 1), .int 0, .int 0])), ((u1.1 0), .inl (cT 0, 16, .inl (fun _ => 0))), ((u1.1 1), .inl (cT 0, 16, .inl (fun _ => 0))), ((u1.1 2), .inl (cT 0, (2 * N + 16), .inl (fun _ => 0))), (q3, .inl (cT 0, 33 + N / 2 + 1, .inl (fun _ => 0))), (q4, .inl (cT 0, 33 + N / 2 + 1, .inl (fun _ => 0))), (q5, .inl (cT 0, 33 + N / 2 + 1, .inl (fun _ => 0))), (q6, .inl (cT 0, N / 9 + 1, .inl (fun _ => 0)))]) rfl ?_
  refine ac_aload_n Z.1 2 dX7_init_99 rfl ?_
  refine ac_iload_n Z.1 1 dX7_init_100 rfl ?_
  refine ac_bipush (v := 9) Z.1 dX7_init_101 (by decide) ?_
  refine ac_idiv Z.1 dX7_init_103 (by decide) ?_
  refine ac_top (v' := (nI (N / 9))) (ni_div (b := 9) (by omega) (by decide) (by decide)) ?_
  refine ac_iconst (v := 1) Z.1 dX7_init_104 (by decide) ?_
  refine ac_iadd Z.1 dX7_init_105 ?_
  refine ac_top (v' := (nI (N / 9 + 1))) (nI_add _ 1) ?_
  refine nw_newa (N := N / 9 + 1) (a0 := (N / 9 + 1, .inl (fun _ => 0))) Z 0 rfl rfl nar_int (fun _ => rfl) (nI_pos (by omega)) (nI_clamp (by omega)) (by show (N / 9 + 1) * 4 ≤ 536870912; omega) (by show _ ≤ 18; omega) (by show _ ≤ 180 + N + 1 + N + 1 + N + 1 + ((33 + N / 2 + 1)) + ((33 + N / 2 + 1)) + (2 * N + 16) + 33 + N / 2 + 1 + 33 + N / 2 + 1 + 33 + N / 2 + 1 + N / 9 + 1 + N / 9 + 1; omega) dX7_init_106 (fun q7 => ?_)
  refine nw_cnt (cs' := 18) (ss' := 180 + N + 1 + N + 1 + N + 1 + ((33 + N / 2 + 1)) + ((33 + N / 2 + 1)) + (2 * N + 16) + 33 + N / 2 + 1 + 33 + N / 2 + 1 + 33 + N / 2 + 1 + N / 9 + 1 + N / 9 + 1) rfl (by omega) ?_
  refine nw_eq (ws' := [(h, .inr (7, [.ref q1, .ref q2, .ref q3, .ref q4, .ref q5, .ref q6, .null, .ref q0, .int 0, .int 0, .int 0, .int 0, .int 0, .int 0, .int 0])), (q0, .inl (cT 0, 5, .inl (fun _ => 0))), (q1, .inr (10, [.ref b, .int (nI N), .ref (u0.1 3), .ref (u0.1 0), .ref (u0.1 1), .ref (u0.1 2), .int 0])), ((u0.1 0), .inl (cT 0, N + 1, .inl (fun _ => 0))), ((u0.1 1), .inl (cT 0, N + 1, .inl (fun _ => 0))), ((u0.1 2), .inl (cT 0, N + 1, .inl (fun _ => 0))), ((u0.1 3), .inr (4, [.ref (u0.1 5), .ref (u0.1 6), .ref (u0.1 4), .int 0])), ((u0.1 4), .inl (cT 0, 127, .inl (u0.2 0))), ((u0.1 5), .inl (cT 3, ((33 + N / 2 + 1)), .inr (.inl (fun _ => 0)))), ((u0.1 6), .inl (cT 0, ((33 + N / 2 + 1)), .inl (fun _ => 0))), (q2, .inr (6, [.ref (u1.1 2), .ref (u1.1 0), .ref (u1.1 1), .int 0, .int 0])), ((u1.1 0), .inl (cT 0, 16, .inl (fun _ => 0))), ((u1.1 1), .inl (cT 0, 16, .inl (fun _ => 0))), ((u1.1 2), .inl (cT 0, (2 * N + 16), .inl (fun _ => 0))), (q3, .inl (cT 0, 33 + N / 2 + 1, .inl (fun _ => 0))), (q4, .inl (cT 0, 33 + N / 2 + 1, .inl (fun _ => 0))), (q5, .inl (cT 0, 33 + N / 2 + 1, .inl (fun _ => 0))), (q6, .inl (cT 0, N / 9 + 1, .inl (fun _ => 0))), (q7, .inl (cT 0, N / 9 + 1, .inl (fun _ => 0)))]) rfl ?_
  refine nw_putF Z hI b_X7 0 rfl 6 (by decide) nfX7_47 rfl rfl rfl (Nat.le_of_ble_eq_true rfl) dX7_init_108 (ws' := [(h, .inr (7, [.ref q1, .ref q2, .ref q3, .ref q4, .ref q5, .ref q6, .ref q7, .ref q0, .int 0, .int 0, .int 0, .int 0, .int 0, .int 0, .int 0])), (q0, .inl (cT 0, 5, .inl (fun _ => 0))), (q1, .inr (10, [.ref b, .int (nI N), .ref (u0.1 3), .ref (u0.1 0), .ref (u0.1 1), .ref (u0.1 2), .int 0])), ((u0.1 0), .inl (cT 0, N + 1, .inl (fun _ => 0))), ((u0.1 1), .inl (cT 0, N + 1, .inl (fun _ => 0))), ((u0.1 2), .inl (cT 0, N + 1, .inl (fun _ => 0))), ((u0.1 3), .inr (4, [.ref (u0.1 5), .ref (u0.1 6), .ref (u0.1 4), .int 0])), ((u0.1 4), .inl (cT 0, 127, .inl (u0.2 0))), ((u0.1 5), .inl (cT 3, ((33 + N / 2 + 1)), .inr (.inl (fun _ => 0)))), ((u0.1 6), .inl (cT 0, ((33 + N / 2 + 1)), .inl (fun _ => 0))), (q2, .inr (6, [.ref (u1.1 2), .ref (u1.1 0), .ref (u1.1 1), .int 0, .int 0])), ((u1.1 0), .inl (cT 0, 16, .inl (fun _ => 0))), ((u1.1 1), .inl (cT 0, 16, .inl (fun _ => 0))), ((u1.1 2), .inl (cT 0, (2 * N + 16), .inl (fun _ => 0))), (q3, .inl (cT 0, 33 + N / 2 + 1, .inl (fun _ => 0))), (q4, .inl (cT 0, 33 + N / 2 + 1, .inl (fun _ => 0))), (q5, .inl (cT 0, 33 + N / 2 + 1, .inl (fun _ => 0))), (q6, .inl (cT 0, N / 9 + 1, .inl (fun _ => 0))), (q7, .inl (cT 0, N / 9 + 1, .inl (fun _ => 0)))]) rfl ?_
  refine ac_aload_n Z.1 2 dX7_init_111 rfl ?_
  refine nw_get Z b_X7 0 rfl 2 (by decide) nfX7_35 rfl dX7_init_112 ?_
  refine ac_iconst (v := (-1)) Z.1 dX7_init_115 (by decide) ?_
  refine nw_fill Z 14 rfl (by omega) nmX7_50 (Nat.le_of_ble_eq_true rfl) (Nat.le_of_ble_eq_true rfl) (by show _ ≤ 18; omega) (by show _ ≤ 180 + N + 1 + N + 1 + N + 1 + ((33 + N / 2 + 1)) + ((33 + N / 2 + 1)) + (2 * N + 16) + 33 + N / 2 + 1 + 33 + N / 2 + 1 + 33 + N / 2 + 1 + N / 9 + 1 + N / 9 + 1; omega) (Nat.zero_le _) dX7_init_116 (fun f2 => ?_)
  refine nw_eq (ws' := [(h, .inr (7, [.ref q1, .ref q2, .ref q3, .ref q4, .ref q5, .ref q6, .ref q7, .ref q0, .int 0, .int 0, .int 0, .int 0, .int 0, .int 0, .int 0])), (q0, .inl (cT 0, 5, .inl (fun _ => 0))), (q1, .inr (10, [.ref b, .int (nI N), .ref (u0.1 3), .ref (u0.1 0), .ref (u0.1 1), .ref (u0.1 2), .int 0])), ((u0.1 0), .inl (cT 0, N + 1, .inl (fun _ => 0))), ((u0.1 1), .inl (cT 0, N + 1, .inl (fun _ => 0))), ((u0.1 2), .inl (cT 0, N + 1, .inl (fun _ => 0))), ((u0.1 3), .inr (4, [.ref (u0.1 5), .ref (u0.1 6), .ref (u0.1 4), .int 0])), ((u0.1 4), .inl (cT 0, 127, .inl (u0.2 0))), ((u0.1 5), .inl (cT 3, ((33 + N / 2 + 1)), .inr (.inl (fun _ => 0)))), ((u0.1 6), .inl (cT 0, ((33 + N / 2 + 1)), .inl (fun _ => 0))), (q2, .inr (6, [.ref (u1.1 2), .ref (u1.1 0), .ref (u1.1 1), .int 0, .int 0])), ((u1.1 0), .inl (cT 0, 16, .inl (fun _ => 0))), ((u1.1 1), .inl (cT 0, 16, .inl (fun _ => 0))), ((u1.1 2), .inl (cT 0, (2 * N + 16), .inl (fun _ => 0))), (q3, .inl (cT 0, 33 + N / 2 + 1, .inl f2)), (q4, .inl (cT 0, 33 + N / 2 + 1, .inl (fun _ => 0))), (q5, .inl (cT 0, 33 + N / 2 + 1, .inl (fun _ => 0))), (q6, .inl (cT 0, N / 9 + 1, .inl (fun _ => 0))), (q7, .inl (cT 0, N / 9 + 1, .inl (fun _ => 0)))]) rfl ?_
  refine ac_aload_n Z.1 2 dX7_init_119 rfl ?_
  refine nw_get Z b_X7 0 rfl 4 (by decide) nfX7_41 rfl dX7_init_120 ?_
  refine ac_iconst (v := (-1)) Z.1 dX7_init_123 (by decide) ?_
  refine nw_fill Z 16 rfl (by omega) nmX7_50 (Nat.le_of_ble_eq_true rfl) (Nat.le_of_ble_eq_true rfl) (by show _ ≤ 18; omega) (by show _ ≤ 180 + N + 1 + N + 1 + N + 1 + ((33 + N / 2 + 1)) + ((33 + N / 2 + 1)) + (2 * N + 16) + 33 + N / 2 + 1 + 33 + N / 2 + 1 + 33 + N / 2 + 1 + N / 9 + 1 + N / 9 + 1; omega) (Nat.zero_le _) dX7_init_124 (fun f3 => ?_)
  refine nw_eq (ws' := [(h, .inr (7, [.ref q1, .ref q2, .ref q3, .ref q4, .ref q5, .ref q6, .ref q7, .ref q0, .int 0, .int 0, .int 0, .int 0, .int 0, .int 0, .int 0])), (q0, .inl (cT 0, 5, .inl (fun _ => 0))), (q1, .inr (10, [.ref b, .int (nI N), .ref (u0.1 3), .ref (u0.1 0), .ref (u0.1 1), .ref (u0.1 2), .int 0])), ((u0.1 0), .inl (cT 0, N + 1, .inl (fun _ => 0))), ((u0.1 1), .inl (cT 0, N + 1, .inl (fun _ => 0))), ((u0.1 2), .inl (cT 0, N + 1, .inl (fun _ => 0))), ((u0.1 3), .inr (4, [.ref (u0.1 5), .ref (u0.1 6), .ref (u0.1 4), .int 0])), ((u0.1 4), .inl (cT 0, 127, .inl (u0.2 0))), ((u0.1 5), .inl (cT 3, ((33 + N / 2 + 1)), .inr (.inl (fun _ => 0)))), ((u0.1 6), .inl (cT 0, ((33 + N / 2 + 1)), .inl (fun _ => 0))), (q2, .inr (6, [.ref (u1.1 2), .ref (u1.1 0), .ref (u1.1 1), .int 0, .int 0])), ((u1.1 0), .inl (cT 0, 16, .inl (fun _ => 0))), ((u1.1 1), .inl (cT 0, 16, .inl (fun _ => 0))), ((u1.1 2), .inl (cT 0, (2 * N + 16), .inl (fun _ => 0))), (q3, .inl (cT 0, 33 + N / 2 + 1, .inl f2)), (q4, .inl (cT 0, 33 + N / 2 + 1, .inl (fun _ => 0))), (q5, .inl (cT 0, 33 + N / 2 + 1, .inl f3)), (q6, .inl (cT 0, N / 9 + 1, .inl (fun _ => 0))), (q7, .inl (cT 0, N / 9 + 1, .inl (fun _ => 0)))]) rfl ?_
  refine ac_aload_n Z.1 2 dX7_init_127 rfl ?_
  refine nw_get Z b_X7 0 rfl 7 (by decide) nfX7_11 rfl dX7_init_128 ?_
  refine ac_iconst (v := (-1)) Z.1 dX7_init_131 (by decide) ?_
  refine nw_fill Z 1 rfl (by omega) nmX7_50 (Nat.le_of_ble_eq_true rfl) (Nat.le_of_ble_eq_true rfl) (by show _ ≤ 18; omega) (by show _ ≤ 180 + N + 1 + N + 1 + N + 1 + ((33 + N / 2 + 1)) + ((33 + N / 2 + 1)) + (2 * N + 16) + 33 + N / 2 + 1 + 33 + N / 2 + 1 + 33 + N / 2 + 1 + N / 9 + 1 + N / 9 + 1; omega) (Nat.zero_le _) dX7_init_132 (fun f4 => ?_)
  refine nw_eq (ws' := [(h, .inr (7, [.ref q1, .ref q2, .ref q3, .ref q4, .ref q5, .ref q6, .ref q7, .ref q0, .int 0, .int 0, .int 0, .int 0, .int 0, .int 0, .int 0])), (q0, .inl (cT 0, 5, .inl f4)), (q1, .inr (10, [.ref b, .int (nI N), .ref (u0.1 3), .ref (u0.1 0), .ref (u0.1 1), .ref (u0.1 2), .int 0])), ((u0.1 0), .inl (cT 0, N + 1, .inl (fun _ => 0))), ((u0.1 1), .inl (cT 0, N + 1, .inl (fun _ => 0))), ((u0.1 2), .inl (cT 0, N + 1, .inl (fun _ => 0))), ((u0.1 3), .inr (4, [.ref (u0.1 5), .ref (u0.1 6), .ref (u0.1 4), .int 0])), ((u0.1 4), .inl (cT 0, 127, .inl (u0.2 0))), ((u0.1 5), .inl (cT 3, ((33 + N / 2 + 1)), .inr (.inl (fun _ => 0)))), ((u0.1 6), .inl (cT 0, ((33 + N / 2 + 1)), .inl (fun _ => 0))), (q2, .inr (6, [.ref (u1.1 2), .ref (u1.1 0), .ref (u1.1 1), .int 0, .int 0])), ((u1.1 0), .inl (cT 0, 16, .inl (fun _ => 0))), ((u1.1 1), .inl (cT 0, 16, .inl (fun _ => 0))), ((u1.1 2), .inl (cT 0, (2 * N + 16), .inl (fun _ => 0))), (q3, .inl (cT 0, 33 + N / 2 + 1, .inl f2)), (q4, .inl (cT 0, 33 + N / 2 + 1, .inl (fun _ => 0))), (q5, .inl (cT 0, 33 + N / 2 + 1, .inl f3)), (q6, .inl (cT 0, N / 9 + 1, .inl (fun _ => 0))), (q7, .inl (cT 0, N / 9 + 1, .inl (fun _ => 0)))]) rfl ?_
  exact hret 135 _ (fun j => ([q0, q1, (u0.1 0), (u0.1 1), (u0.1 2), (u0.1 3), (u0.1 4), (u0.1 5), (u0.1 6), q2, (u1.1 0), (u1.1 1), (u1.1 2), q3, q4, q5, q6, q7] : List Nat).getD j 0, fun j => ([f4, (u0.2 0), f2, f3] : List (Nat → Int32)).getD j (fun _ => 0)) dX7_init_135
