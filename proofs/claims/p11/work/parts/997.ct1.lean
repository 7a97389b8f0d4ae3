/-! THE CONSTRUCTORS of the class. -/
theorem nmX6_3 : Cond.methodLink RX6 3 Lib.objectInit ∈ ac_tbl := ac_in 195 (by decide +kernel) (by decide +kernel)
theorem nin_obj : Cond.instanceMethod Lib.objectInit ∈ ac_tbl := ac_in 188 (by decide +kernel) (by decide +kernel)
theorem nco_obj : Cond.code Lib.objectInit ⟨#[0xb1]⟩ 1 none ∈ ac_tbl := ac_in 189 (by decide +kernel) (by decide +kernel)
theorem nar_int : Cond.arrayClass (newarray.typeOf .int) ∈ ac_tbl := ac_in 216 (by decide +kernel) (by decide +kernel)
theorem nfX6_11 : Cond.fieldLink RX6 11 RX6 (TX6 1).2.1 (TX6 1).2.2.1 ∈ ac_tbl := ac_in 197 (by decide +kernel) (by decide +kernel)
theorem nfX6_15 : Cond.fieldLink RX6 15 RX6 (TX6 2).2.1 (TX6 2).2.2.1 ∈ ac_tbl := ac_in 198 (by decide +kernel) (by decide +kernel)
theorem nfX6_18 : Cond.fieldLink RX6 18 RX6 (TX6 0).2.1 (TX6 0).2.2.1 ∈ ac_tbl := ac_in 196 (by decide +kernel) (by decide +kernel)
theorem dX6_init_0 : decode cX6_init 0 = .ok (.aload_n 0, 1) := by decide +kernel
theorem dX6_init_1 : decode cX6_init 1 = .ok (.invokespecial 3, 3) := by decide +kernel
theorem dX6_init_4 : decode cX6_init 4 = .ok (.aload_n 0, 1) := by decide +kernel
theorem dX6_init_5 : decode cX6_init 5 = .ok (.bipush 16, 2) := by decide +kernel
theorem dX6_init_7 : decode cX6_init 7 = .ok (.newarray .int, 2) := by decide +kernel
theorem dX6_init_9 : decode cX6_init 9 = .ok (.putfield 11, 3) := by decide +kernel
theorem dX6_init_12 : decode cX6_init 12 = .ok (.aload_n 0, 1) := by decide +kernel
theorem dX6_init_13 : decode cX6_init 13 = .ok (.bipush 16, 2) := by decide +kernel
theorem dX6_init_15 : decode cX6_init 15 = .ok (.newarray .int, 2) := by decide +kernel
theorem dX6_init_17 : decode cX6_init 17 = .ok (.putfield 15, 3) := by decide +kernel
theorem dX6_init_20 : decode cX6_init 20 = .ok (.aload_n 0, 1) := by decide +kernel
theorem dX6_init_21 : decode cX6_init 21 = .ok (.iload_n 1, 1) := by decide +kernel
theorem dX6_init_22 : decode cX6_init 22 = .ok (.ifCond .ge 7, 3) := by decide +kernel
theorem dX6_init_29 : decode cX6_init 29 = .ok (.iload_n 1, 1) := by decide +kernel
theorem dX6_init_30 : decode cX6_init 30 = .ok (.newarray .int, 2) := by decide +kernel
theorem dX6_init_32 : decode cX6_init 32 = .ok (.putfield 18, 3) := by decide +kernel
theorem dX6_init_35 : decode cX6_init 35 = .ok (.return_, 1) := by decide +kernel
set_option maxRecDepth 20000 in
theorem ck_X6_init (l : Launch) (D : va_G) (cT : Nat → ClassId) (h : Nat) (N : Nat) (hN : N < 100000) : nw_Met l D cT yX6_init cX6_init 2 1 3 (32 + N) [.ref h, .int (nI N)] (h, .inr (6, [.null, .null, .null, .int 0, .int 0])) (fun u => [(h, .inr (6, [.ref (u.1 2), .ref (u.1 0), .ref (u.1 1), .int 0, .int 0])), ((u.1 0), .inl (cT 0, 16, .inl (fun _ => 0))), ((u.1 1), .inl (cT 0, 16, .inl (fun _ => 0))), ((u.1 2), .inl (cT 0, N, .inl (fun _ => 0)))]) := by
  refine nw_Met.of (C := RX6) (by decide) rfl rfl (Nat.le_of_ble_eq_true rfl) (fun x A Z hI hret => ?_)
  refine ac_aload_n Z.1 0 dX6_init_0 rfl ?_
  refine nw_obj0 Z nmX6_3 nin_obj nco_obj (Nat.le_of_ble_eq_true rfl) (Nat.le_of_ble_eq_true rfl) (Nat.zero_le _) dX6_init_1 ?_
  refine ac_aload_n Z.1 0 dX6_init_4 rfl ?_
  refine ac_bipush (v := 16) Z.1 dX6_init_5 (by decide) ?_
  refine nw_newa (N := 16) (a0 := (16, .inl (fun _ => 0))) Z 0 rfl rfl nar_int (fun _ => rfl) (by decide) (by decide) (by decide) (by show _ ≤ 3; omega) (by show _ ≤ 32 + N; omega) dX6_init_7 (fun q0 => ?_)
  refine nw_cnt (cs' := 1) (ss' := 16) rfl (by omega) ?_
  refine nw_eq (ws' := [(h, .inr (6, [.null, .null, .null, .int 0, .int 0])), (q0, .inl (cT 0, 16, .inl (fun _ => 0)))]) rfl ?_
  refine nw_putF Z hI b_X6 0 rfl 1 (by decide) nfX6_11 rfl rfl rfl (Nat.le_of_ble_eq_true rfl) dX6_init_9 (ws' := [(h, .inr (6, [.null, .ref q0, .null, .int 0, .int 0])), (q0, .inl (cT 0, 16, .inl (fun _ => 0)))]) rfl ?_
  refine ac_aload_n Z.1 0 dX6_init_12 rfl ?_
  refine ac_bipush (v := 16) Z.1 dX6_init_13 (by decide) ?_
  refine nw_newa (N := 16) (a0 := (16, .inl (fun _ => 0))) Z 0 rfl rfl nar_int (fun _ => rfl) (by decide) (by decide) (by decide) (by show _ ≤ 3; omega) (by show _ ≤ 32 + N; omega) dX6_init_15 (fun q1 => ?_)
  refine nw_cnt (cs' := 2) (ss' := 32) rfl (by omega) ?_
  refine nw_eq (ws' := [(h, .inr (6, [.null, .ref q0, .null, .int 0, .int 0])), (q0, .inl (cT 0, 16, .inl (fun _ => 0))), (q1, .inl (cT 0, 16, .inl (fun _ => 0)))]) rfl ?_
  refine nw_putF Z hI b_X6 0 rfl 2 (by decide) nfX6_15 rfl rfl rfl (Nat.le_of_ble_eq_true rfl) dX6_init_17 (ws' := [(h, .inr (6, [.null, .ref q0, .ref q1, .int 0, .int 0])), (q0, .inl (cT 0, 16, .inl (fun _ => 0))), (q1, .inl (cT 0, 16, .inl (fun _ => 0)))]) rfl ?_
  refine ac_aload_n Z.1 0 dX6_init_20 rfl ?_
  refine ac_iload_n Z.1 1 dX6_init_21 rfl ?_
  refine ac_if_ge (tgt := 29) Z.1 dX6_init_22 (by decide) (fun _ => ?_) (fun hc => absurd (nI_pos' (by omega)) hc)
  refine ac_iload_n Z.1 1 dX6_init_29 rfl ?_
  refine nw_newa (N := N) (a0 := (N, .inl (fun _ => 0))) Z 0 rfl rfl nar_int (fun _ => rfl) (nI_pos (by omega)) (nI_clamp (by omega)) (by show (N) * 4 ≤ 536870912; omega) (by show _ ≤ 3; omega) (by show _ ≤ 32 + N; omega) dX6_init_30 (fun q2 => ?_)
  refine nw_cnt (cs' := 3) (ss' := 32 + N) rfl (by omega) ?_
  refine nw_eq (ws' := [(h, .inr (6, [.null, .ref q0, .ref q1, .int 0, .int 0])), (q0, .inl (cT 0, 16, .inl (fun _ => 0))), (q1, .inl (cT 0, 16, .inl (fun _ => 0))), (q2, .inl (cT 0, N, .inl (fun _ => 0)))]) rfl ?_
  refine nw_putF Z hI b_X6 0 rfl 0 (by decide) nfX6_18 rfl rfl rfl (Nat.le_of_ble_eq_true rfl) dX6_init_32 (ws' := [(h, .inr (6, [.ref q2, .ref q0, .ref q1, .int 0, .int 0])), (q0, .inl (cT 0, 16, .inl (fun _ => 0))), (q1, .inl (cT 0, 16, .inl (fun _ => 0))), (q2, .inl (cT 0, N, .inl (fun _ => 0)))]) rfl ?_
  exact hret 35 _ (fun j => ([q0, q1, q2] : List Nat).getD j 0, fun j => ([] : List (Nat → Int32)).getD j (fun _ => 0)) dX6_init_35
theorem nmX2_3 : Cond.methodLink RX2 3 Lib.objectInit ∈ ac_tbl := ac_in 222 (by decide +kernel) (by decide +kernel)
theorem nfX2_11 : Cond.fieldLink RX2 11 RX2 (TX2 0).2.1 (TX2 0).2.2.1 ∈ ac_tbl := ac_in 223 (by decide +kernel) (by decide +kernel)
theorem dX2_init_0 : decode cX2_init 0 = .ok (.aload_n 0, 1) := by decide +kernel
theorem dX2_init_1 : decode cX2_init 1 = .ok (.invokespecial 3, 3) := by decide +kernel
theorem dX2_init_4 : decode cX2_init 4 = .ok (.aload_n 0, 1) := by decide +kernel
theorem dX2_init_5 : decode cX2_init 5 = .ok (.sipush 448, 3) := by decide +kernel
theorem dX2_init_8 : decode cX2_init 8 = .ok (.newarray .int, 2) := by decide +kernel
theorem dX2_init_10 : decode cX2_init 10 = .ok (.putfield 11, 3) := by decide +kernel
theorem dX2_init_13 : decode cX2_init 13 = .ok (.return_, 1) := by decide +kernel
set_option maxRecDepth 20000 in
theorem ck_X2_init (l : Launch) (D : va_G) (cT : Nat → ClassId) (h : Nat) : nw_Met l D cT yX2_init cX2_init 1 1 1 (448) [.ref h] (h, .inr (2, [.null, .int 0, .int 0, .int 0])) (fun u => [(h, .inr (2, [.ref (u.1 0), .int 0, .int 0, .int 0])), ((u.1 0), .inl (cT 0, 448, .inl (fun _ => 0)))]) := by
  refine nw_Met.of (C := RX2) (by decide) rfl rfl (Nat.le_of_ble_eq_true rfl) (fun x A Z hI hret => ?_)
  refine ac_aload_n Z.1 0 dX2_init_0 rfl ?_
  refine nw_obj0 Z nmX2_3 nin_obj nco_obj (Nat.le_of_ble_eq_true rfl) (Nat.le_of_ble_eq_true rfl) (Nat.zero_le _) dX2_init_1 ?_
  refine ac_aload_n Z.1 0 dX2_init_4 rfl ?_
  refine ac_sipush (v := 448) Z.1 dX2_init_5 (by decide) ?_
  refine nw_newa (N := 448) (a0 := (448, .inl (fun _ => 0))) Z 0 rfl rfl nar_int (fun _ => rfl) (by decide) (by decide) (by decide) (by show _ ≤ 1; omega) (by show _ ≤ 448; omega) dX2_init_8 (fun q0 => ?_)
  refine nw_cnt (cs' := 1) (ss' := 448) rfl (by omega) ?_
  refine nw_eq (ws' := [(h, .inr (2, [.null, .int 0, .int 0, .int 0])), (q0, .inl (cT 0, 448, .inl (fun _ => 0)))]) rfl ?_
  refine nw_put Z b_X2 0 rfl 0 (by decide) nfX2_11 rfl rfl rfl (Nat.le_of_ble_eq_true rfl) dX2_init_10 (ws' := [(h, .inr (2, [.ref q0, .int 0, .int 0, .int 0])), (q0, .inl (cT 0, 448, .inl (fun _ => 0)))]) rfl ?_
  exact hret 13 _ (fun j => ([q0] : List Nat).getD j 0, fun j => ([] : List (Nat → Int32)).getD j (fun _ => 0)) dX2_init_13
theorem nmX5_3 : Cond.methodLink RX5 3 Lib.objectInit ∈ ac_tbl := ac_in 243 (by decide +kernel) (by decide +kernel)
theorem nfX5_11 : Cond.fieldLink RX5 11 RX5 (TX5 0).2.1 (TX5 0).2.2.1 ∈ ac_tbl := ac_in 244 (by decide +kernel) (by decide +kernel)
theorem nfX5_15 : Cond.fieldLink RX5 15 RX5 (TX5 2).2.1 (TX5 2).2.2.1 ∈ ac_tbl := ac_in 246 (by decide +kernel) (by decide +kernel)
theorem nfX5_19 : Cond.fieldLink RX5 19 RX5 (TX5 4).2.1 (TX5 4).2.2.1 ∈ ac_tbl := ac_in 249 (by decide +kernel) (by decide +kernel)
theorem dX5_init_0 : decode cX5_init 0 = .ok (.aload_n 0, 1) := by decide +kernel
theorem dX5_init_1 : decode cX5_init 1 = .ok (.invokespecial 3, 3) := by decide +kernel
theorem dX5_init_4 : decode cX5_init 4 = .ok (.aload_n 0, 1) := by decide +kernel
theorem dX5_init_5 : decode cX5_init 5 = .ok (.sipush 200, 3) := by decide +kernel
theorem dX5_init_8 : decode cX5_init 8 = .ok (.newarray .int, 2) := by decide +kernel
theorem dX5_init_10 : decode cX5_init 10 = .ok (.putfield 11, 3) := by decide +kernel
theorem dX5_init_13 : decode cX5_init 13 = .ok (.aload_n 0, 1) := by decide +kernel
theorem dX5_init_14 : decode cX5_init 14 = .ok (.iconst (-1), 1) := by decide +kernel
theorem dX5_init_15 : decode cX5_init 15 = .ok (.putfield 15, 3) := by decide +kernel
theorem dX5_init_18 : decode cX5_init 18 = .ok (.aload_n 0, 1) := by decide +kernel
theorem dX5_init_19 : decode cX5_init 19 = .ok (.iconst (-1), 1) := by decide +kernel
theorem dX5_init_20 : decode cX5_init 20 = .ok (.putfield 19, 3) := by decide +kernel
theorem dX5_init_23 : decode cX5_init 23 = .ok (.return_, 1) := by decide +kernel
set_option maxRecDepth 20000 in
theorem ck_X5_init (l : Launch) (D : va_G) (cT : Nat → ClassId) (h : Nat) : nw_Met l D cT yX5_init cX5_init 1 1 1 (200) [.ref h] (h, .inr (5, [.null, .int 0, .int 0, .int 0, .int 0, .int 0, .int 0, .int 0, .int 0])) (fun u => [(h, .inr (5, [.ref (u.1 0), .int 0, .int (-1), .int 0, .int (-1), .int 0, .int 0, .int 0, .int 0])), ((u.1 0), .inl (cT 0, 200, .inl (fun _ => 0)))]) := by
  refine nw_Met.of (C := RX5) (by decide) rfl rfl (Nat.le_of_ble_eq_true rfl) (fun x A Z hI hret => ?_)
  refine ac_aload_n Z.1 0 dX5_init_0 rfl ?_
  refine nw_obj0 Z nmX5_3 nin_obj nco_obj (Nat.le_of_ble_eq_true rfl) (Nat.le_of_ble_eq_true rfl) (Nat.zero_le _) dX5_init_1 ?_
  refine ac_aload_n Z.1 0 dX5_init_4 rfl ?_
  refine ac_sipush (v := 200) Z.1 dX5_init_5 (by decide) ?_
  refine nw_newa (N := 200) (a0 := (200, .inl (fun _ => 0))) Z 0 rfl rfl nar_int (fun _ => rfl) (by decide) (by decide) (by decide) (by show _ ≤ 1; omega) (by show _ ≤ 200; omega) dX5_init_8 (fun q0 => ?_)
  refine nw_cnt (cs' := 1) (ss' := 200) rfl (by omega) ?_
  refine nw_eq (ws' := [(h, .inr (5, [.null, .int 0, .int 0, .int 0, .int 0, .int 0, .int 0, .int 0, .int 0])), (q0, .inl (cT 0, 200, .inl (fun _ => 0)))]) rfl ?_
  refine nw_putF Z hI b_X5 0 rfl 0 (by decide) nfX5_11 rfl rfl rfl (Nat.le_of_ble_eq_true rfl) dX5_init_10 (ws' := [(h, .inr (5, [.ref q0, .int 0, .int 0, .int 0, .int 0, .int 0, .int 0, .int 0, .int 0])), (q0, .inl (cT 0, 200, .inl (fun _ => 0)))]) rfl ?_
  refine ac_aload_n Z.1 0 dX5_init_13 rfl ?_
  refine ac_iconst (v := (-1)) Z.1 dX5_init_14 (by decide) ?_
  refine nw_put Z b_X5 0 rfl 2 (by decide) nfX5_15 rfl rfl rfl (Nat.le_of_ble_eq_true rfl) dX5_init_15 (ws' := [(h, .inr (5, [.ref q0, .int 0, .int (-1), .int 0, .int 0, .int 0, .int 0, .int 0, .int 0])), (q0, .inl (cT 0, 200, .inl (fun _ => 0)))]) rfl ?_
  refine ac_aload_n Z.1 0 dX5_init_18 rfl ?_
  refine ac_iconst (v := (-1)) Z.1 dX5_init_19 (by decide) ?_
  refine nw_put Z b_X5 0 rfl 4 (by decide) nfX5_19 rfl rfl rfl (Nat.le_of_ble_eq_true rfl) dX5_init_20 (ws' := [(h, .inr (5, [.ref q0, .int 0, .int (-1), .int 0, .int (-1), .int 0, .int 0, .int 0, .int 0])), (q0, .inl (cT 0, 200, .inl (fun _ => 0)))]) rfl ?_
  exact hret 23 _ (fun j => ([q0] : List Nat).getD j 0, fun j => ([] : List (Nat → Int32)).getD j (fun _ => 0)) dX5_init_23
theorem nmX8_3 : Cond.methodLink RX8 3 Lib.objectInit ∈ ac_tbl := ac_in 282 (by decide +kernel) (by decide +kernel)
theorem nfX8_11 : Cond.fieldLink RX8 11 RX8 (TX8 2).2.1 (TX8 2).2.2.1 ∈ ac_tbl := ac_in 287 (by decide +kernel) (by decide +kernel)
theorem nfX8_15 : Cond.fieldLink RX8 15 RX8 (TX8 3).2.1 (TX8 3).2.2.1 ∈ ac_tbl := ac_in 288 (by decide +kernel) (by decide +kernel)
theorem nfX8_18 : Cond.fieldLink RX8 18 RX8 (TX8 4).2.1 (TX8 4).2.2.1 ∈ ac_tbl := ac_in 289 (by decide +kernel) (by decide +kernel)
theorem nfX8_21 : Cond.fieldLink RX8 21 RX8 (TX8 5).2.1 (TX8 5).2.2.1 ∈ ac_tbl := ac_in 290 (by decide +kernel) (by decide +kernel)
theorem nfX8_24 : Cond.fieldLink RX8 24 RX8 (TX8 6).2.1 (TX8 6).2.2.1 ∈ ac_tbl := ac_in 291 (by decide +kernel) (by decide +kernel)
theorem ncX8_27 : Cond.classLink RX8 27 RX6 ∈ ac_tbl := ac_in 283 (by decide +kernel) (by decide +kernel)
theorem niX6 : Cond.instantiable RX6 5 ∈ ac_tbl := ac_in 191 (by decide +kernel) (by decide +kernel)
theorem nzX6 : Cond.initialized RX6 ∈ ac_tbl := ac_in 163 (by decide +kernel) (by decide +kernel)
theorem ndfX6 : ∀ j, j < 5 → defaultValue (tyX6 j) = vp_V [.null, .null, .null, .int 0, .int 0] j := by
  intro j hj
  match j, hj with
  | 0, _ => rfl
  | 1, _ => rfl
  | 2, _ => rfl
  | 3, _ => rfl
  | 4, _ => rfl
  | z + 5, h => exact absurd h (by omega)
theorem nkX6 : nw_cw yX6_init cX6_init 2 1 := ⟨rfl, by decide, by decide, by decide +kernel, by decide, ac_in 193 (by decide +kernel) (by decide +kernel), ac_in 163 (by decide +kernel) (by decide +kernel), ac_in 194 (by decide +kernel) (by decide +kernel)⟩
theorem nmX8_29 : Cond.methodLink RX8 29 yX6_init ∈ ac_tbl := ac_in 284 (by decide +kernel) (by decide +kernel)
theorem nfX8_32 : Cond.fieldLink RX8 32 RX8 (TX8 7).2.1 (TX8 7).2.2.1 ∈ ac_tbl := ac_in 292 (by decide +kernel) (by decide +kernel)
theorem nfX8_36 : Cond.fieldLink RX8 36 RX8 (TX8 0).2.1 (TX8 0).2.2.1 ∈ ac_tbl := ac_in 285 (by decide +kernel) (by decide +kernel)
theorem nfX8_40 : Cond.fieldLink RX8 40 RX8 (TX8 1).2.1 (TX8 1).2.2.1 ∈ ac_tbl := ac_in 286 (by decide +kernel) (by decide +kernel)
theorem dX8_init_0 : decode cX8_init 0 = .ok (.aload_n 0, 1) := by decide +kernel
theorem dX8_init_1 : decode cX8_init 1 = .ok (.invokespecial 3, 3) := by decide +kernel
theorem dX8_init_4 : decode cX8_init 4 = .ok (.aload_n 0, 1) := by decide +kernel
theorem dX8_init_5 : decode cX8_init 5 = .ok (.sipush 144, 3) := by decide +kernel
theorem dX8_init_8 : decode cX8_init 8 = .ok (.newarray .int, 2) := by decide +kernel
theorem dX8_init_10 : decode cX8_init 10 = .ok (.putfield 11, 3) := by decide +kernel
theorem dX8_init_13 : decode cX8_init 13 = .ok (.aload_n 0, 1) := by decide +kernel
theorem dX8_init_14 : decode cX8_init 14 = .ok (.bipush 96, 2) := by decide +kernel
theorem dX8_init_16 : decode cX8_init 16 = .ok (.newarray .int, 2) := by decide +kernel
theorem dX8_init_18 : decode cX8_init 18 = .ok (.putfield 15, 3) := by decide +kernel
theorem dX8_init_21 : decode cX8_init 21 = .ok (.aload_n 0, 1) := by decide +kernel
theorem dX8_init_22 : decode cX8_init 22 = .ok (.bipush 12, 2) := by decide +kernel
theorem dX8_init_24 : decode cX8_init 24 = .ok (.newarray .int, 2) := by decide +kernel
theorem dX8_init_26 : decode cX8_init 26 = .ok (.putfield 18, 3) := by decide +kernel
theorem dX8_init_29 : decode cX8_init 29 = .ok (.aload_n 0, 1) := by decide +kernel
theorem dX8_init_30 : decode cX8_init 30 = .ok (.sipush 1200, 3) := by decide +kernel
theorem dX8_init_33 : decode cX8_init 33 = .ok (.newarray .int, 2) := by decide +kernel
theorem dX8_init_35 : decode cX8_init 35 = .ok (.putfield 21, 3) := by decide +kernel
theorem dX8_init_38 : decode cX8_init 38 = .ok (.aload_n 0, 1) := by decide +kernel
theorem dX8_init_39 : decode cX8_init 39 = .ok (.sipush 128, 3) := by decide +kernel
theorem dX8_init_42 : decode cX8_init 42 = .ok (.newarray .int, 2) := by decide +kernel
theorem dX8_init_44 : decode cX8_init 44 = .ok (.putfield 24, 3) := by decide +kernel
theorem dX8_init_47 : decode cX8_init 47 = .ok (.aload_n 0, 1) := by decide +kernel
theorem dX8_init_48 : decode cX8_init 48 = .ok (.new 27, 3) := by decide +kernel
theorem dX8_init_51 : decode cX8_init 51 = .ok (.dup, 1) := by decide +kernel
theorem dX8_init_52 : decode cX8_init 52 = .ok (.iconst 0, 1) := by decide +kernel
theorem dX8_init_53 : decode cX8_init 53 = .ok (.invokespecial 29, 3) := by decide +kernel
theorem dX8_init_56 : decode cX8_init 56 = .ok (.putfield 32, 3) := by decide +kernel
theorem dX8_init_59 : decode cX8_init 59 = .ok (.aload_n 0, 1) := by decide +kernel
theorem dX8_init_60 : decode cX8_init 60 = .ok (.aload_n 1, 1) := by decide +kernel
theorem dX8_init_61 : decode cX8_init 61 = .ok (.putfield 36, 3) := by decide +kernel
theorem dX8_init_64 : decode cX8_init 64 = .ok (.aload_n 0, 1) := by decide +kernel
theorem dX8_init_65 : decode cX8_init 65 = .ok (.aload_n 2, 1) := by decide +kernel
theorem dX8_init_66 : decode cX8_init 66 = .ok (.putfield 40, 3) := by decide +kernel
theorem dX8_init_69 : decode cX8_init 69 = .ok (.return_, 1) := by decide +kernel
set_option maxRecDepth 20000 in
theorem ck_X8_init (l : Launch) (D : va_G) (cT : Nat → ClassId) (h : Nat) (d mi : Nat) : nw_Met l D cT yX8_init cX8_init 3 2 9 (1617 + (0)) [.ref h, .ref d, .ref mi] (h, .inr (8, [.null, .null, .null, .null, .null, .null, .null, .null, .int 0, .int 0, .int 0, .int 0, .int 0, .int 0, .int 0, .int 0])) (fun u => [(h, .inr (8, [.ref d, .ref mi, .ref (u.1 0), .ref (u.1 1), .ref (u.1 2), .ref (u.1 3), .ref (u.1 4), .ref (u.1 5), .int 0, .int 0, .int 0, .int 0, .int 0, .int 0, .int 0, .int 0])), ((u.1 0), .inl (cT 0, 144, .inl (fun _ => 0))), ((u.1 1), .inl (cT 0, 96, .inl (fun _ => 0))), ((u.1 2), .inl (cT 0, 12, .inl (fun _ => 0))), ((u.1 3), .inl (cT 0, 1200, .inl (fun _ => 0))), ((u.1 4), .inl (cT 0, 128, .inl (fun _ => 0))), ((u.1 5), .inr (6, [.ref (u.1 8), .ref (u.1 6), .ref (u.1 7), .int 0, .int 0])), ((u.1 6), .inl (cT 0, 16, .inl (fun _ => 0))), ((u.1 7), .inl (cT 0, 16, .inl (fun _ => 0))), ((u.1 8), .inl (cT 0, (0), .inl (fun _ => 0)))]) := by
  refine nw_Met.of (C := RX8) (by decide) rfl rfl (Nat.le_of_ble_eq_true rfl) (fun x A Z hI hret => ?_)
  refine ac_aload_n Z.1 0 dX8_init_0 rfl ?_
  refine nw_obj0 Z nmX8_3 nin_obj nco_obj (Nat.le_of_ble_eq_true rfl) (Nat.le_of_ble_eq_true rfl) (Nat.zero_le _) dX8_init_1 ?_
  refine ac_aload_n Z.1 0 dX8_init_4 rfl ?_
  refine ac_sipush (v := 144) Z.1 dX8_init_5 (by decide) ?_
  refine nw_newa (N := 144) (a0 := (144, .inl (fun _ => 0))) Z 0 rfl rfl nar_int (fun _ => rfl) (by decide) (by decide) (by decide) (by show _ ≤ 9; omega) (by show _ ≤ 1617 + (0); omega) dX8_init_8 (fun q0 => ?_)
  refine nw_cnt (cs' := 1) (ss' := 144) rfl (by omega) ?_
  refine nw_eq (ws' := [(h, .inr (8, [.null, .null, .null, .null, .null, .null, .null, .null, .int 0, .int 0, .int 0, .int 0, .int 0, .int 0, .int 0, .int 0])), (q0, .inl (cT 0, 144, .inl (fun _ => 0)))]) rfl ?_
  refine nw_putF Z hI b_X8 0 rfl 2 (by decide) nfX8_11 rfl rfl rfl (Nat.le_of_ble_eq_true rfl) dX8_init_10 (ws' := [(h, .inr (8, [.null, .null, .ref q0, .null, .null, .null, .null, .null, .int 0, .int 0, .int 0, .int 0, .int 0, .int 0, .int 0, .int 0])), (q0, .inl (cT 0, 144, .inl (fun _ => 0)))]) rfl ?_
  refine ac_aload_n Z.1 0 dX8_init_13 rfl ?_
  refine ac_bipush (v := 96) Z.1 dX8_init_14 (by decide) ?_
  refine nw_newa (N := 96) (a0 := (96, .inl (fun _ => 0))) Z 0 rfl rfl nar_int (fun _ => rfl) (by decide) (by decide) (by decide) (by show _ ≤ 9; omega) (by show _ ≤ 1617 + (0); omega) dX8_init_16 (fun q1 => ?_)
  refine nw_cnt (cs' := 2) (ss' := 240) rfl (by omega) ?_
  refine nw_eq (ws' := [(h, .inr (8, [.null, .null, .ref q0, .null, .null, .null, .null, .null, .int 0, .int 0, .int 0, .int 0, .int 0, .int 0, .int 0, .int 0])), (q0, .inl (cT 0, 144, .inl (fun _ => 0))), (q1, .inl (cT 0, 96, .inl (fun _ => 0)))]) rfl ?_
  refine nw_putF Z hI b_X8 0 rfl 3 (by decide) nfX8_15 rfl rfl rfl (Nat.le_of_ble_eq_true rfl) dX8_init_18 (ws' := [(h, .inr (8, [.null, .null, .ref q0, .ref q1, .null, .null, .null, .null, .int 0, .int 0, .int 0, .int 0, .int 0, .int 0, .int 0, .int 0])), (q0, .inl (cT 0, 144, .inl (fun _ => 0))), (q1, .inl (cT 0, 96, .inl (fun _ => 0)))]) rfl ?_
  refine ac_aload_n Z.1 0 dX8_init_21 rfl ?_
  refine ac_bipush (v := 12) Z.1 dX8_init_22 (by decide) ?_
  refine nw_newa (N := 12) (a0 := (12, .inl (fun _ => 0))) Z 0 rfl rfl nar_int (fun _ => rfl) (by decide) (by decide) (by decide) (by show _ ≤ 9; omega) (by show _ ≤ 1617 + (0); omega) dX8_init_24 (fun q2 => ?_)
  refine nw_cnt (cs' := 3) (ss' := 252) rfl (by omega) ?_
  refine nw_eq (ws' := [(h, .inr (8, [.null, .null, .ref q0, .ref q1, .null, .null, .null, .null, .int 0, .int 0, .int 0, .int 0, .int 0, .int 0, .int 0, .int 0])), (q0, .inl (cT 0, 144, .inl (fun _ => 0))), (q1, .inl (cT 0, 96, .inl (fun _ => 0))), (q2, .inl (cT 0, 12, .inl (fun _ => 0)))]) rfl ?_
  refine nw_putF Z hI b_X8 0 rfl 4 (by decide) nfX8_18 rfl rfl rfl (Nat.le_of_ble_eq_true rfl) dX8_init_26 (ws' := [(h, .inr (8, [.null, .null, .ref q0, .ref q1, .ref q2, .null, .null, .null, .int 0, .int 0, .int 0, .int 0, .int 0, .int 0, .int 0, .int 0])), (q0, .inl (cT 0, 144, .inl (fun _ => 0))), (q1, .inl (cT 0, 96, .inl (fun _ => 0))), (q2, .inl (cT 0, 12, .inl (fun _ => 0)))]) rfl ?_
  refine ac_aload_n Z.1 0 dX8_init_29 rfl ?_
  refine ac_sipush (v := 1200) Z.1 dX8_init_30 (by decide) ?_
  refine nw_newa (N := 1200) (a0 := (1200, .inl (fun _ => 0))) Z 0 rfl rfl nar_int (fun _ => rfl) (by decide) (by decide) (by decide) (by show _ ≤ 9; omega) (by show _ ≤ 1617 + (0); omega) dX8_init_33 (fun q3 => ?_)
  refine nw_cnt (cs' := 4) (ss' := 1452) rfl (by omega) ?_
  refine nw_eq (ws' := [(h, .inr (8, [.null, .null, .ref q0, .ref q1, .ref q2, .null, .null, .null, .int 0, .int 0, .int 0, .int 0, .int 0, .int 0, .int 0, .int 0])), (q0, .inl (cT 0, 144, .inl (fun _ => 0))), (q1, .inl (cT 0, 96, .inl (fun _ => 0))), (q2, .inl (cT 0, 12, .inl (fun _ => 0))), (q3, .inl (cT 0, 1200, .inl (fun _ => 0)))]) rfl ?_
  refine nw_putF Z hI b_X8 0 rfl 5 (by decide) nfX8_21 rfl rfl rfl (Nat.le_of_ble_eq_true rfl) dX8_init_35 (ws' := [(h, .inr (8, [.null, .null, .ref q0, .ref q1, .ref q2, .ref q3, .null, .null, .int 0, .int 0, .int 0, .int 0, .int 0, .int 0, .int 0, .int 0])), (q0, .inl (cT 0, 144, .inl (fun _ => 0))), (q1, .inl (cT 0, 96, .inl (fun _ => 0))), (q2, .inl (cT 0, 12, .inl (fun _ => 0))), (q3, .inl (cT 0, 1200, .inl (fun _ => 0)))]) rfl ?_
  refine ac_aload_n Z.1 0 dX8_init_38 rfl ?_
  refine ac_sipush (v := 128) Z.1 dX8_init_39 (by decide) ?_
  refine nw_newa (N := 128) (a0 := (128, .inl (fun _ => 0))) Z 0 rfl rfl nar_int (fun _ => rfl) (by decide) (by decide) (by decide) (by show _ ≤ 9; omega) (by show _ ≤ 1617 + (0); omega) dX8_init_42 (fun q4 => ?_)
  refine nw_cnt (cs' := 5) (ss' := 1580) rfl (by omega) ?_
  refine nw_eq (ws' := [(h, .inr (8, [.null, .null, .ref q0, .ref q1, .ref q2, .ref q3, .null, .null, .int 0, .int 0, .int 0, .int 0, .int 0, .int 0, .int 0, .int 0])), (q0, .inl (cT 0, 144, .inl (fun _ => 0))), (q1, .inl (cT 0, 96, .inl (fun _ => 0))), (q2, .inl (cT 0, 12, .inl (fun _ => 0))), (q3, .inl (cT 0, 1200, .inl (fun _ => 0))), (q4, .inl (cT 0, 128, .inl (fun _ => 0)))]) rfl ?_
  refine nw_putF Z hI b_X8 0 rfl 6 (by decide) nfX8_24 rfl rfl rfl (Nat.le_of_ble_eq_true rfl) dX8_init_44 (ws' := [(h, .inr (8, [.null, .null, .ref q0, .ref q1, .ref q2, .ref q3, .ref q4, .null, .int 0, .int 0, .int 0, .int 0, .int 0, .int 0, .int 0, .int 0])), (q0, .inl (cT 0, 144, .inl (fun _ => 0))), (q1, .inl (cT 0, 96, .inl (fun _ => 0))), (q2, .inl (cT 0, 12, .inl (fun _ => 0))), (q3, .inl (cT 0, 1200, .inl (fun _ => 0))), (q4, .inl (cT 0, 128, .inl (fun _ => 0)))]) rfl ?_
  refine ac_aload_n Z.1 0 dX8_init_47 rfl ?_
  refine nw_new (fs := [.null, .null, .null, .int 0, .int 0]) Z b_X6 ncX8_27 niX6 nzX6 ndfX6 (by show _ ≤ 9; omega) (by show _ ≤ 1617 + (0); omega) dX8_init_48 (fun q5 => ?_)
  refine nw_cnt (cs' := 6) (ss' := 1585) rfl (by omega) ?_
  refine nw_eq (ws' := [(h, .inr (8, [.null, .null, .ref q0, .ref q1, .ref q2, .ref q3, .ref q4, .null, .int 0, .int 0, .int 0, .int 0, .int 0, .int 0, .int 0, .int 0])), (q0, .inl (cT 0, 144, .inl (fun _ => 0))), (q1, .inl (cT 0, 96, .inl (fun _ => 0))), (q2, .inl (cT 0, 12, .inl (fun _ => 0))), (q3, .inl (cT 0, 1200, .inl (fun _ => 0))), (q4, .inl (cT 0, 128, .inl (fun _ => 0))), (q5, .inr (6, [.null, .null, .null, .int 0, .int 0]))]) rfl ?_
  refine ac_dup Z.1 dX8_init_51 rfl ?_
  refine ac_iconst (v := 0) Z.1 dX8_init_52 (by decide) ?_
  refine nw_ctor (wr := [(h, .inr (8, [.null, .null, .ref q0, .ref q1, .ref q2, .ref q3, .ref q4, .null, .int 0, .int 0, .int 0, .int 0, .int 0, .int 0, .int 0, .int 0])), (q0, .inl (cT 0, 144, .inl (fun _ => 0))), (q1, .inl (cT 0, 96, .inl (fun _ => 0))), (q2, .inl (cT 0, 12, .inl (fun _ => 0))), (q3, .inl (cT 0, 1200, .inl (fun _ => 0))), (q4, .inl (cT 0, 128, .inl (fun _ => 0)))]) Z (ck_X6_init l D cT q5 (0) (by omega)) nkX6 nmX8_29 (Nat.le_of_ble_eq_true rfl) (Nat.le_of_ble_eq_true rfl) (by show _ ≤ 9; omega) (by show _ ≤ 1617 + (0); omega) rfl rfl (Nat.le_of_ble_eq_true rfl) dX8_init_53 (fun u0 => ?_)
  refine nw_cnt (cs' := 9) (ss' := 1617 + (0)) rfl (by omega) ?_
  refine nw_eq (ws' := [(h, .inr (8, [.null, .null, .ref q0, .ref q1, .ref q2, .ref q3, .ref q4, .null, .int 0, .int 0, .int 0, .int 0, .int 0, .int 0, .int 0, .int 0])), (q0, .inl (cT 0, 144, .inl (fun _ => 0))), (q1, .inl (cT 0, 96, .inl (fun _ => 0))), (q2, .inl (cT 0, 12, .inl (fun _ => 0))), (q3, .inl (cT 0, 1200, .inl (fun _ => 0))), (q4, .inl (cT 0, 128, .inl (fun _ => 0))), (q5, .inr (6, [.ref (u0.1 2), .ref (u0.1 0), .ref (u0.1 1), .int 0, .int 0])), ((u0.1 0), .inl (cT 0, 16, .inl (fun _ => 0))), ((u0.1 1), .inl (cT 0, 16, .inl (fun _ => 0))), ((u0.1 2), .inl (cT 0, (0), .inl (fun _ => 0)))]) rfl ?_
  refine nw_put Z b_X8 0 rfl 7 (by decide) nfX8_32 rfl rfl rfl (Nat.le_of_ble_eq_true rfl) dX8_init_56 (ws' := [(h, .inr (8, [.null, .null, .ref q0, .ref q1, .ref q2, .ref q3, .ref q4, .ref q5, .int 0, .int 0, .int 0, .int 0, .int 0, .int 0, .int 0, .int 0])), (q0, .inl (cT 0, 144, .inl (fun _ => 0))), (q1, .inl (cT 0, 96, .inl (fun _ => 0))), (q2, .inl (cT 0, 12, .inl (fun _ => 0))), (q3, .inl (cT 0, 1200, .inl (fun _ => 0))), (q4, .inl (cT 0, 128, .inl (fun _ => 0))), (q5, .inr (6, [.ref (u0.1 2), .ref (u0.1 0), .ref (u0.1 1), .int 0, .int 0])), ((u0.1 0), .inl (cT 0, 16, .inl (fun _ => 0))), ((u0.1 1), .inl (cT 0, 16, .inl (fun _ => 0))), ((u0.1 2), .inl (cT 0, (0), .inl (fun _ => 0)))]) rfl ?_
  refine ac_aload_n Z.1 0 dX8_init_59 rfl ?_
  refine ac_aload_n Z.1 1 dX8_init_60 rfl ?_
  refine nw_putF Z hI b_X8 0 rfl 0 (by decide) nfX8_36 rfl rfl rfl (Nat.le_of_ble_eq_true rfl) dX8_init_61 (ws' := [(h, .inr (8, [.ref d, .null, .ref q0, .ref q1, .ref q2, .ref q3, .ref q4, .ref q5, .int 0, .int 0, .int 0, .int 0, .int 0, .int 0, .int 0, .int 0])), (q0, .inl (cT 0, 144, .inl (fun _ => 0))), (q1, .inl (cT 0, 96, .inl (fun _ => 0))), (q2, .inl (cT 0, 12, .inl (fun _ => 0))), (q3, .inl (cT 0, 1200, .inl (fun _ => 0))), (q4, .inl (cT 0, 128, .inl (fun _ => 0))), (q5, .inr (6, [.ref (u0.1 2), .ref (u0.1 0), .ref (u0.1 1), .int 0, .int 0])), ((u0.1 0), .inl (cT 0, 16, .inl (fun _ => 0))), ((u0.1 1), .inl (cT 0, 16, .inl (fun _ => 0))), ((u0.1 2), .inl (cT 0, (0), .inl (fun _ => 0)))]) rfl ?_
  refine ac_aload_n Z.1 0 dX8_init_64 rfl ?_
  refine ac_aload_n Z.1 2 dX8_init_65 rfl ?_
  refine nw_putF Z hI b_X8 0 rfl 1 (by decide) nfX8_40 rfl rfl rfl (Nat.le_of_ble_eq_true rfl) dX8_init_66 (ws' := [(h, .inr (8, [.ref d, .ref mi, .ref q0, .ref q1, .ref q2, .ref q3, .ref q4, .ref q5, .int 0, .int 0, .int 0, .int 0, .int 0, .int 0, .int 0, .int 0])), (q0, .inl (cT 0, 144, .inl (fun _ => 0))), (q1, .inl (cT 0, 96, .inl (fun _ => 0))), (q2, .inl (cT 0, 12, .inl (fun _ => 0))), (q3, .inl (cT 0, 1200, .inl (fun _ => 0))), (q4, .inl (cT 0, 128, .inl (fun _ => 0))), (q5, .inr (6, [.ref (u0.1 2), .ref (u0.1 0), .ref (u0.1 1), .int 0, .int 0])), ((u0.1 0), .inl (cT 0, 16, .inl (fun _ => 0))), ((u0.1 1), .inl (cT 0, 16, .inl (fun _ => 0))), ((u0.1 2), .inl (cT 0, (0), .inl (fun _ => 0)))]) rfl ?_
  exact hret 69 _ (fun j => ([q0, q1, q2, q3, q4, q5, (u0.1 0), (u0.1 1), (u0.1 2)] : List Nat).getD j 0, fun j => ([] : List (Nat → Int32)).getD j (fun _ => 0)) dX8_init_69
theorem nmX0_3 : Cond.methodLink RX0 3 Lib.objectInit ∈ ac_tbl := ac_in 339 (by decide +kernel) (by decide +kernel)
theorem nfX0_13 : Cond.fieldLink RX0 13 RX0 (TX0 3).2.1 (TX0 3).2.2.1 ∈ ac_tbl := ac_in 346 (by decide +kernel) (by decide +kernel)
theorem nfX0_17 : Cond.fieldLink RX0 17 RX0 (TX0 4).2.1 (TX0 4).2.2.1 ∈ ac_tbl := ac_in 347 (by decide +kernel) (by decide +kernel)
theorem nfX0_20 : Cond.fieldLink RX0 20 RX0 (TX0 5).2.1 (TX0 5).2.2.1 ∈ ac_tbl := ac_in 348 (by decide +kernel) (by decide +kernel)
theorem nfX0_23 : Cond.fieldLink RX0 23 RX0 (TX0 0).2.1 (TX0 0).2.2.1 ∈ ac_tbl := ac_in 343 (by decide +kernel) (by decide +kernel)
theorem nfX0_27 : Cond.fieldLink RX0 27 RX0 (TX0 1).2.1 (TX0 1).2.2.1 ∈ ac_tbl := ac_in 344 (by decide +kernel) (by decide +kernel)
theorem nfX0_31 : Cond.fieldLink RX0 31 RX0 (TX0 2).2.1 (TX0 2).2.2.1 ∈ ac_tbl := ac_in 345 (by decide +kernel) (by decide +kernel)
theorem nmX0_35 : Cond.methodLink RX0 35 yJ7_fill_53178 ∈ ac_tbl := ac_in 340 (by decide +kernel) (by decide +kernel)
theorem dX0_init_0 : decode cX0_init 0 = .ok (.aload_n 0, 1) := by decide +kernel
theorem dX0_init_1 : decode cX0_init 1 = .ok (.invokespecial 3, 3) := by decide +kernel
theorem dX0_init_4 : decode cX0_init 4 = .ok (.aload_n 0, 1) := by decide +kernel
theorem dX0_init_5 : decode cX0_init 5 = .ok (.bipush 21, 2) := by decide +kernel
theorem dX0_init_7 : decode cX0_init 7 = .ok (.newarray .int, 2) := by decide +kernel
theorem dX0_init_9 : decode cX0_init 9 = .ok (.putfield 13, 3) := by decide +kernel
theorem dX0_init_12 : decode cX0_init 12 = .ok (.aload_n 0, 1) := by decide +kernel
theorem dX0_init_13 : decode cX0_init 13 = .ok (.bipush 21, 2) := by decide +kernel
theorem dX0_init_15 : decode cX0_init 15 = .ok (.newarray .int, 2) := by decide +kernel
theorem dX0_init_17 : decode cX0_init 17 = .ok (.putfield 17, 3) := by decide +kernel
theorem dX0_init_20 : decode cX0_init 20 = .ok (.aload_n 0, 1) := by decide +kernel
theorem dX0_init_21 : decode cX0_init 21 = .ok (.iconst 3, 1) := by decide +kernel
theorem dX0_init_22 : decode cX0_init 22 = .ok (.newarray .int, 2) := by decide +kernel
theorem dX0_init_24 : decode cX0_init 24 = .ok (.putfield 20, 3) := by decide +kernel
theorem dX0_init_27 : decode cX0_init 27 = .ok (.aload_n 0, 1) := by decide +kernel
theorem dX0_init_28 : decode cX0_init 28 = .ok (.aload_n 1, 1) := by decide +kernel
theorem dX0_init_29 : decode cX0_init 29 = .ok (.putfield 23, 3) := by decide +kernel
theorem dX0_init_32 : decode cX0_init 32 = .ok (.aload_n 0, 1) := by decide +kernel
theorem dX0_init_33 : decode cX0_init 33 = .ok (.aload_n 2, 1) := by decide +kernel
theorem dX0_init_34 : decode cX0_init 34 = .ok (.putfield 27, 3) := by decide +kernel
theorem dX0_init_37 : decode cX0_init 37 = .ok (.aload_n 0, 1) := by decide +kernel
theorem dX0_init_38 : decode cX0_init 38 = .ok (.aload_n 3, 1) := by decide +kernel
theorem dX0_init_39 : decode cX0_init 39 = .ok (.putfield 31, 3) := by decide +kernel
theorem dX0_init_42 : decode cX0_init 42 = .ok (.aload_n 0, 1) := by decide +kernel
theorem dX0_init_43 : decode cX0_init 43 = .ok (.getfield 13, 3) := by decide +kernel
theorem dX0_init_46 : decode cX0_init 46 = .ok (.iconst (-1), 1) := by decide +kernel
theorem dX0_init_47 : decode cX0_init 47 = .ok (.invokestatic 35, 3) := by decide +kernel
theorem dX0_init_50 : decode cX0_init 50 = .ok (.return_, 1) := by decide +kernel
theorem nmX11_1 : Cond.methodLink RX11 1 Lib.objectInit ∈ ac_tbl := ac_in 187 (by decide +kernel) (by decide +kernel)
theorem nar_byte : Cond.arrayClass (newarray.typeOf .byte) ∈ ac_tbl := ac_in 215 (by decide +kernel) (by decide +kernel)
theorem nfX11_9 : Cond.fieldLink RX11 9 RX11 (TX11 0).2.1 (TX11 0).2.2.1 ∈ ac_tbl := ac_in 362 (by decide +kernel) (by decide +kernel)
theorem ncX11_13 : Cond.classLink RX11 13 RX6 ∈ ac_tbl := ac_in 190 (by decide +kernel) (by decide +kernel)
theorem nmX11_15 : Cond.methodLink RX11 15 yX6_init ∈ ac_tbl := ac_in 192 (by decide +kernel) (by decide +kernel)
theorem nfX11_18 : Cond.fieldLink RX11 18 RX11 (TX11 2).2.1 (TX11 2).2.2.1 ∈ ac_tbl := ac_in 364 (by decide +kernel) (by decide +kernel)
theorem nfX11_22 : Cond.fieldLink RX11 22 RX11 (TX11 3).2.1 (TX11 3).2.2.1 ∈ ac_tbl := ac_in 365 (by decide +kernel) (by decide +kernel)
theorem nfX11_26 : Cond.fieldLink RX11 26 RX11 (TX11 4).2.1 (TX11 4).2.2.1 ∈ ac_tbl := ac_in 366 (by decide +kernel) (by decide +kernel)
theorem ncX11_29 : Cond.classLink RX11 29 RX2 ∈ ac_tbl := ac_in 217 (by decide +kernel) (by decide +kernel)
theorem niX2 : Cond.instantiable RX2 4 ∈ ac_tbl := ac_in 218 (by decide +kernel) (by decide +kernel)
theorem nzX2 : Cond.initialized RX2 ∈ ac_tbl := ac_in 164 (by decide +kernel) (by decide +kernel)
theorem ndfX2 : ∀ j, j < 4 → defaultValue (tyX2 j) = vp_V [.null, .int 0, .int 0, .int 0] j := by
  intro j hj
  match j, hj with
  | 0, _ => rfl
  | 1, _ => rfl
  | 2, _ => rfl
  | 3, _ => rfl
  | z + 4, h => exact absurd h (by omega)
theorem nkX2 : nw_cw yX2_init cX2_init 1 0 := ⟨rfl, by decide, by decide, by decide +kernel, by decide, ac_in 220 (by decide +kernel) (by decide +kernel), ac_in 164 (by decide +kernel) (by decide +kernel), ac_in 221 (by decide +kernel) (by decide +kernel)⟩
theorem nfX11_32 : Cond.fieldLink RX11 32 RX11 (TX11 5).2.1 (TX11 5).2.2.1 ∈ ac_tbl := ac_in 367 (by decide +kernel) (by decide +kernel)
theorem ncX11_36 : Cond.classLink RX11 36 RX5 ∈ ac_tbl := ac_in 238 (by decide +kernel) (by decide +kernel)
theorem niX5 : Cond.instantiable RX5 9 ∈ ac_tbl := ac_in 239 (by decide +kernel) (by decide +kernel)
theorem nzX5 : Cond.initialized RX5 ∈ ac_tbl := ac_in 165 (by decide +kernel) (by decide +kernel)
theorem ndfX5 : ∀ j, j < 9 → defaultValue (tyX5 j) = vp_V [.null, .int 0, .int 0, .int 0, .int 0, .int 0, .int 0, .int 0, .int 0] j := by
  intro j hj
  match j, hj with
  | 0, _ => rfl
  | 1, _ => rfl
  | 2, _ => rfl
  | 3, _ => rfl
  | 4, _ => rfl
  | 5, _ => rfl
  | 6, _ => rfl
  | 7, _ => rfl
  | 8, _ => rfl
  | z + 9, h => exact absurd h (by omega)
theorem nkX5 : nw_cw yX5_init cX5_init 1 0 := ⟨rfl, by decide, by decide, by decide +kernel, by decide, ac_in 241 (by decide +kernel) (by decide +kernel), ac_in 165 (by decide +kernel) (by decide +kernel), ac_in 242 (by decide +kernel) (by decide +kernel)⟩
theorem nfX11_39 : Cond.fieldLink RX11 39 RX11 (TX11 6).2.1 (TX11 6).2.2.1 ∈ ac_tbl := ac_in 368 (by decide +kernel) (by decide +kernel)
theorem ncX11_43 : Cond.classLink RX11 43 RX8 ∈ ac_tbl := ac_in 277 (by decide +kernel) (by decide +kernel)
theorem niX8 : Cond.instantiable RX8 16 ∈ ac_tbl := ac_in 278 (by decide +kernel) (by decide +kernel)
theorem nzX8 : Cond.initialized RX8 ∈ ac_tbl := ac_in 166 (by decide +kernel) (by decide +kernel)
theorem ndfX8 : ∀ j, j < 16 → defaultValue (tyX8 j) = vp_V [.null, .null, .null, .null, .null, .null, .null, .null, .int 0, .int 0, .int 0, .int 0, .int 0, .int 0, .int 0, .int 0] j := by
  intro j hj
  match j, hj with
  | 0, _ => rfl
  | 1, _ => rfl
  | 2, _ => rfl
  | 3, _ => rfl
  | 4, _ => rfl
  | 5, _ => rfl
  | 6, _ => rfl
  | 7, _ => rfl
  | 8, _ => rfl
  | 9, _ => rfl
  | 10, _ => rfl
  | 11, _ => rfl
  | 12, _ => rfl
  | 13, _ => rfl
  | 14, _ => rfl
  | 15, _ => rfl
  | z + 16, h => exact absurd h (by omega)
theorem nkX8 : nw_cw yX8_init cX8_init 3 2 := ⟨rfl, by decide, by decide, by decide +kernel, by decide, ac_in 280 (by decide +kernel) (by decide +kernel), ac_in 166 (by decide +kernel) (by decide +kernel), ac_in 281 (by decide +kernel) (by decide +kernel)⟩
theorem nmX11_45 : Cond.methodLink RX11 45 yX8_init ∈ ac_tbl := ac_in 279 (by decide +kernel) (by decide +kernel)
theorem nfX11_48 : Cond.fieldLink RX11 48 RX11 (TX11 7).2.1 (TX11 7).2.2.1 ∈ ac_tbl := ac_in 369 (by decide +kernel) (by decide +kernel)
theorem ncX11_52 : Cond.classLink RX11 52 RX0 ∈ ac_tbl := ac_in 334 (by decide +kernel) (by decide +kernel)
theorem niX0 : Cond.instantiable RX0 6 ∈ ac_tbl := ac_in 335 (by decide +kernel) (by decide +kernel)
theorem nzX0 : Cond.initialized RX0 ∈ ac_tbl := ac_in 167 (by decide +kernel) (by decide +kernel)
theorem ndfX0 : ∀ j, j < 6 → defaultValue (tyX0 j) = vp_V [.null, .null, .null, .null, .null, .null] j := by
  intro j hj
  match j, hj with
  | 0, _ => rfl
  | 1, _ => rfl
  | 2, _ => rfl
  | 3, _ => rfl
  | 4, _ => rfl
  | 5, _ => rfl
  | z + 6, h => exact absurd h (by omega)
theorem nkX0 : nw_cw yX0_init cX0_init 4 3 := ⟨rfl, by decide, by decide, by decide +kernel, by decide, ac_in 337 (by decide +kernel) (by decide +kernel), ac_in 167 (by decide +kernel) (by decide +kernel), ac_in 338 (by decide +kernel) (by decide +kernel)⟩
theorem nmX11_54 : Cond.methodLink RX11 54 yX0_init ∈ ac_tbl := ac_in 336 (by decide +kernel) (by decide +kernel)
theorem nfX11_57 : Cond.fieldLink RX11 57 RX11 (TX11 8).2.1 (TX11 8).2.2.1 ∈ ac_tbl := ac_in 370 (by decide +kernel) (by decide +kernel)
theorem dX11_init_0 : decode cX11_init 0 = .ok (.aload_n 0, 1) := by decide +kernel
theorem dX11_init_1 : decode cX11_init 1 = .ok (.invokespecial 1, 3) := by decide +kernel
theorem dX11_init_4 : decode cX11_init 4 = .ok (.aload_n 0, 1) := by decide +kernel
theorem dX11_init_5 : decode cX11_init 5 = .ok (.sipush 4000, 3) := by decide +kernel
theorem dX11_init_8 : decode cX11_init 8 = .ok (.newarray .byte, 2) := by decide +kernel
theorem dX11_init_10 : decode cX11_init 10 = .ok (.putfield 9, 3) := by decide +kernel
theorem dX11_init_13 : decode cX11_init 13 = .ok (.aload_n 0, 1) := by decide +kernel
theorem dX11_init_14 : decode cX11_init 14 = .ok (.new 13, 3) := by decide +kernel
theorem dX11_init_17 : decode cX11_init 17 = .ok (.dup, 1) := by decide +kernel
theorem dX11_init_18 : decode cX11_init 18 = .ok (.iconst 0, 1) := by decide +kernel
theorem dX11_init_19 : decode cX11_init 19 = .ok (.invokespecial 15, 3) := by decide +kernel
theorem dX11_init_22 : decode cX11_init 22 = .ok (.putfield 18, 3) := by decide +kernel
theorem dX11_init_25 : decode cX11_init 25 = .ok (.aload_n 0, 1) := by decide +kernel
theorem dX11_init_26 : decode cX11_init 26 = .ok (.iconst (-1), 1) := by decide +kernel
theorem dX11_init_27 : decode cX11_init 27 = .ok (.putfield 22, 3) := by decide +kernel
theorem dX11_init_30 : decode cX11_init 30 = .ok (.aload_n 0, 1) := by decide +kernel
theorem dX11_init_31 : decode cX11_init 31 = .ok (.iconst (-1), 1) := by decide +kernel
theorem dX11_init_32 : decode cX11_init 32 = .ok (.putfield 26, 3) := by decide +kernel
theorem dX11_init_35 : decode cX11_init 35 = .ok (.aload_n 0, 1) := by decide +kernel
theorem dX11_init_36 : decode cX11_init 36 = .ok (.new 29, 3) := by decide +kernel
theorem dX11_init_39 : decode cX11_init 39 = .ok (.dup, 1) := by decide +kernel
theorem dX11_init_40 : decode cX11_init 40 = .ok (.invokespecial 31, 3) := by decide +kernel
theorem dX11_init_43 : decode cX11_init 43 = .ok (.putfield 32, 3) := by decide +kernel
theorem dX11_init_46 : decode cX11_init 46 = .ok (.aload_n 0, 1) := by decide +kernel
theorem dX11_init_47 : decode cX11_init 47 = .ok (.new 36, 3) := by decide +kernel
theorem dX11_init_50 : decode cX11_init 50 = .ok (.dup, 1) := by decide +kernel
theorem dX11_init_51 : decode cX11_init 51 = .ok (.invokespecial 38, 3) := by decide +kernel
theorem dX11_init_54 : decode cX11_init 54 = .ok (.putfield 39, 3) := by decide +kernel
theorem dX11_init_57 : decode cX11_init 57 = .ok (.aload_n 0, 1) := by decide +kernel
theorem dX11_init_58 : decode cX11_init 58 = .ok (.new 43, 3) := by decide +kernel
theorem dX11_init_61 : decode cX11_init 61 = .ok (.dup, 1) := by decide +kernel
theorem dX11_init_62 : decode cX11_init 62 = .ok (.aload_n 0, 1) := by decide +kernel
theorem dX11_init_63 : decode cX11_init 63 = .ok (.getfield 32, 3) := by decide +kernel
theorem dX11_init_66 : decode cX11_init 66 = .ok (.aload_n 0, 1) := by decide +kernel
theorem dX11_init_67 : decode cX11_init 67 = .ok (.getfield 39, 3) := by decide +kernel
theorem dX11_init_70 : decode cX11_init 70 = .ok (.invokespecial 45, 3) := by decide +kernel
theorem dX11_init_73 : decode cX11_init 73 = .ok (.putfield 48, 3) := by decide +kernel
theorem dX11_init_76 : decode cX11_init 76 = .ok (.aload_n 0, 1) := by decide +kernel
theorem dX11_init_77 : decode cX11_init 77 = .ok (.new 52, 3) := by decide +kernel
theorem dX11_init_80 : decode cX11_init 80 = .ok (.dup, 1) := by decide +kernel
theorem dX11_init_81 : decode cX11_init 81 = .ok (.aload_n 0, 1) := by decide +kernel
theorem dX11_init_82 : decode cX11_init 82 = .ok (.getfield 32, 3) := by decide +kernel
theorem dX11_init_85 : decode cX11_init 85 = .ok (.aload_n 0, 1) := by decide +kernel
theorem dX11_init_86 : decode cX11_init 86 = .ok (.getfield 39, 3) := by decide +kernel
theorem dX11_init_89 : decode cX11_init 89 = .ok (.aload_n 0, 1) := by decide +kernel
theorem dX11_init_90 : decode cX11_init 90 = .ok (.getfield 48, 3) := by decide +kernel
theorem dX11_init_93 : decode cX11_init 93 = .ok (.invokespecial 54, 3) := by decide +kernel
theorem dX11_init_96 : decode cX11_init 96 = .ok (.putfield 57, 3) := by decide +kernel
theorem dX11_init_99 : decode cX11_init 99 = .ok (.return_, 1) := by decide +kernel
