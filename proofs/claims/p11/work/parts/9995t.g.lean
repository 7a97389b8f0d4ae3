/-! BOTH COURTS BETWEEN CALLS: what the law keeps, and what each call does to it. -/
set_option maxRecDepth 20000 in
theorem ckV_X0_init (l : Launch) (D : va_G) (cT : Nat → ClassId) (h : Nat) (d mi se : Nat) : nw_Met l D cT yX0_init cX0_init 4 1 3 (45) [.ref h, .ref d, .ref mi, .ref se] (h, .inr (0, [.null, .null, .null, .null, .null, .null])) (fun u => [(h, .inr (0, [.ref d, .ref mi, .ref se, .ref (u.1 0), .ref (u.1 1), .ref (u.1 2)])), ((u.1 0), .inl (cT 0, 21, .inl (fun _ => (-1)))), ((u.1 1), .inl (cT 0, 21, .inl (fun _ => 0))), ((u.1 2), .inl (cT 0, 3, .inl (fun _ => 0)))]) := by
  refine nw_Met.of (C := RX0) (by decide) rfl rfl (Nat.le_of_ble_eq_true rfl) (fun x A Z hI hret => ?_)
  refine ac_aload_n Z.1 0 dX0_init_0 rfl ?_
  refine nw_obj0 Z nmX0_3 nin_obj nco_obj (Nat.le_of_ble_eq_true rfl) (Nat.le_of_ble_eq_true rfl) (Nat.zero_le _) dX0_init_1 ?_
  refine ac_aload_n Z.1 0 dX0_init_4 rfl ?_
  refine ac_bipush (v := 21) Z.1 dX0_init_5 (by decide) ?_
  refine nw_newa (N := 21) (a0 := (21, .inl (fun _ => 0))) Z 0 rfl rfl nar_int (fun _ => rfl) (by decide) (by decide) (by decide) (by show _ ≤ 3; omega) (by show _ ≤ 45; omega) dX0_init_7 (fun q0 => ?_)
  refine nw_cnt (cs' := 1) (ss' := 21) rfl (by omega) ?_
  refine nw_eq (ws' := [(h, .inr (0, [.null, .null, .null, .null, .null, .null])), (q0, .inl (cT 0, 21, .inl (fun _ => 0)))]) rfl ?_
  refine nw_putF Z hI b_X0 0 rfl 3 (by decide) nfX0_13 rfl rfl rfl (Nat.le_of_ble_eq_true rfl) dX0_init_9 (ws' := [(h, .inr (0, [.null, .null, .null, .ref q0, .null, .null])), (q0, .inl (cT 0, 21, .inl (fun _ => 0)))]) rfl ?_
  refine ac_aload_n Z.1 0 dX0_init_12 rfl ?_
  refine ac_bipush (v := 21) Z.1 dX0_init_13 (by decide) ?_
  refine nw_newa (N := 21) (a0 := (21, .inl (fun _ => 0))) Z 0 rfl rfl nar_int (fun _ => rfl) (by decide) (by decide) (by decide) (by show _ ≤ 3; omega) (by show _ ≤ 45; omega) dX0_init_15 (fun q1 => ?_)
  refine nw_cnt (cs' := 2) (ss' := 42) rfl (by omega) ?_
  refine nw_eq (ws' := [(h, .inr (0, [.null, .null, .null, .ref q0, .null, .null])), (q0, .inl (cT 0, 21, .inl (fun _ => 0))), (q1, .inl (cT 0, 21, .inl (fun _ => 0)))]) rfl ?_
  refine nw_putF Z hI b_X0 0 rfl 4 (by decide) nfX0_17 rfl rfl rfl (Nat.le_of_ble_eq_true rfl) dX0_init_17 (ws' := [(h, .inr (0, [.null, .null, .null, .ref q0, .ref q1, .null])), (q0, .inl (cT 0, 21, .inl (fun _ => 0))), (q1, .inl (cT 0, 21, .inl (fun _ => 0)))]) rfl ?_
  refine ac_aload_n Z.1 0 dX0_init_20 rfl ?_
  refine ac_iconst (v := 3) Z.1 dX0_init_21 (by decide) ?_
  refine nw_newa (N := 3) (a0 := (3, .inl (fun _ => 0))) Z 0 rfl rfl nar_int (fun _ => rfl) (by decide) (by decide) (by decide) (by show _ ≤ 3; omega) (by show _ ≤ 45; omega) dX0_init_22 (fun q2 => ?_)
  refine nw_cnt (cs' := 3) (ss' := 45) rfl (by omega) ?_
  refine nw_eq (ws' := [(h, .inr (0, [.null, .null, .null, .ref q0, .ref q1, .null])), (q0, .inl (cT 0, 21, .inl (fun _ => 0))), (q1, .inl (cT 0, 21, .inl (fun _ => 0))), (q2, .inl (cT 0, 3, .inl (fun _ => 0)))]) rfl ?_
  refine nw_putF Z hI b_X0 0 rfl 5 (by decide) nfX0_20 rfl rfl rfl (Nat.le_of_ble_eq_true rfl) dX0_init_24 (ws' := [(h, .inr (0, [.null, .null, .null, .ref q0, .ref q1, .ref q2])), (q0, .inl (cT 0, 21, .inl (fun _ => 0))), (q1, .inl (cT 0, 21, .inl (fun _ => 0))), (q2, .inl (cT 0, 3, .inl (fun _ => 0)))]) rfl ?_
  refine ac_aload_n Z.1 0 dX0_init_27 rfl ?_
  refine ac_aload_n Z.1 1 dX0_init_28 rfl ?_
  refine nw_putF Z hI b_X0 0 rfl 0 (by decide) nfX0_23 rfl rfl rfl (Nat.le_of_ble_eq_true rfl) dX0_init_29 (ws' := [(h, .inr (0, [.ref d, .null, .null, .ref q0, .ref q1, .ref q2])), (q0, .inl (cT 0, 21, .inl (fun _ => 0))), (q1, .inl (cT 0, 21, .inl (fun _ => 0))), (q2, .inl (cT 0, 3, .inl (fun _ => 0)))]) rfl ?_
  refine ac_aload_n Z.1 0 dX0_init_32 rfl ?_
  refine ac_aload_n Z.1 2 dX0_init_33 rfl ?_
  refine nw_putF Z hI b_X0 0 rfl 1 (by decide) nfX0_27 rfl rfl rfl (Nat.le_of_ble_eq_true rfl) dX0_init_34 (ws' := [(h, .inr (0, [.ref d, .ref mi, .null, .ref q0, .ref q1, .ref q2])), (q0, .inl (cT 0, 21, .inl (fun _ => 0))), (q1, .inl (cT 0, 21, .inl (fun _ => 0))), (q2, .inl (cT 0, 3, .inl (fun _ => 0)))]) rfl ?_
  refine ac_aload_n Z.1 0 dX0_init_37 rfl ?_
  refine ac_aload_n Z.1 3 dX0_init_38 rfl ?_
  refine nw_putF Z hI b_X0 0 rfl 2 (by decide) nfX0_31 rfl rfl rfl (Nat.le_of_ble_eq_true rfl) dX0_init_39 (ws' := [(h, .inr (0, [.ref d, .ref mi, .ref se, .ref q0, .ref q1, .ref q2])), (q0, .inl (cT 0, 21, .inl (fun _ => 0))), (q1, .inl (cT 0, 21, .inl (fun _ => 0))), (q2, .inl (cT 0, 3, .inl (fun _ => 0)))]) rfl ?_
  refine ac_aload_n Z.1 0 dX0_init_42 rfl ?_
  refine nw_get Z b_X0 0 rfl 3 (by decide) nfX0_13 rfl dX0_init_43 ?_
  refine ac_iconst (v := (-1)) Z.1 dX0_init_46 (by decide) ?_
  refine nw_fillC Z 1 rfl (by omega) nmX0_35 (Nat.le_of_ble_eq_true rfl) (Nat.le_of_ble_eq_true rfl) (by show _ ≤ 3; omega) (by show _ ≤ 45; omega) (Nat.zero_le _) dX0_init_47 ?_
  refine nw_eq (ws' := [(h, .inr (0, [.ref d, .ref mi, .ref se, .ref q0, .ref q1, .ref q2])), (q0, .inl (cT 0, 21, .inl (fun _ => (-1)))), (q1, .inl (cT 0, 21, .inl (fun _ => 0))), (q2, .inl (cT 0, 3, .inl (fun _ => 0)))]) rfl ?_
  exact hret 50 _ (fun j => ([q0, q1, q2] : List Nat).getD j 0, fun j => ([] : List (Nat → Int32)).getD j (fun _ => 0)) dX0_init_50
set_option maxRecDepth 20000 in
theorem ckV_X11_init (l : Launch) (D : va_G) (cT : Nat → ClassId) (h : Nat) : nw_Met l D cT yX11_init cX11_init 1 3 23 (6382 + (0) + (0)) [.ref h] (h, .inr (11, [.null, .int 0, .null, .int 0, .int 0, .null, .null, .null, .null])) (fun u => [(h, .inr (11, [.ref (u.1 0), .int 0, .ref (u.1 1), .int (-1), .int (-1), .ref (u.1 5), .ref (u.1 7), .ref (u.1 9), .ref (u.1 19)])), ((u.1 0), .inl (cT 2, 4000, .inl (fun _ => 0))), ((u.1 1), .inr (6, [.ref (u.1 4), .ref (u.1 2), .ref (u.1 3), .int 0, .int 0])), ((u.1 2), .inl (cT 0, 16, .inl (fun _ => 0))), ((u.1 3), .inl (cT 0, 16, .inl (fun _ => 0))), ((u.1 4), .inl (cT 0, (0), .inl (fun _ => 0))), ((u.1 5), .inr (2, [.ref (u.1 6), .int 0, .int 0, .int 0])), ((u.1 6), .inl (cT 0, 448, .inl (fun _ => 0))), ((u.1 7), .inr (5, [.ref (u.1 8), .int 0, .int (-1), .int 0, .int (-1), .int 0, .int 0, .int 0, .int 0])), ((u.1 8), .inl (cT 0, 200, .inl (fun _ => 0))), ((u.1 9), .inr (8, [.ref (u.1 5), .ref (u.1 7), .ref (u.1 10), .ref (u.1 11), .ref (u.1 12), .ref (u.1 13), .ref (u.1 14), .ref (u.1 15), .int 0, .int 0, .int 0, .int 0, .int 0, .int 0, .int 0, .int 0])), ((u.1 10), .inl (cT 0, 144, .inl (fun _ => 0))), ((u.1 11), .inl (cT 0, 96, .inl (fun _ => 0))), ((u.1 12), .inl (cT 0, 12, .inl (fun _ => 0))), ((u.1 13), .inl (cT 0, 1200, .inl (fun _ => 0))), ((u.1 14), .inl (cT 0, 128, .inl (fun _ => 0))), ((u.1 15), .inr (6, [.ref (u.1 18), .ref (u.1 16), .ref (u.1 17), .int 0, .int 0])), ((u.1 16), .inl (cT 0, 16, .inl (fun _ => 0))), ((u.1 17), .inl (cT 0, 16, .inl (fun _ => 0))), ((u.1 18), .inl (cT 0, (0), .inl (fun _ => 0))), ((u.1 19), .inr (0, [.ref (u.1 5), .ref (u.1 7), .ref (u.1 9), .ref (u.1 20), .ref (u.1 21), .ref (u.1 22)])), ((u.1 20), .inl (cT 0, 21, .inl (fun _ => (-1)))), ((u.1 21), .inl (cT 0, 21, .inl (fun _ => 0))), ((u.1 22), .inl (cT 0, 3, .inl (fun _ => 0)))]) := by
  refine nw_Met.of (C := RX11) (by decide) rfl rfl (Nat.le_of_ble_eq_true rfl) (fun x A Z hI hret => ?_)
  refine ac_aload_n Z.1 0 dX11_init_0 rfl ?_
  refine nw_obj0 Z nmX11_1 nin_obj nco_obj (Nat.le_of_ble_eq_true rfl) (Nat.le_of_ble_eq_true rfl) (Nat.zero_le _) dX11_init_1 ?_
  refine ac_aload_n Z.1 0 dX11_init_4 rfl ?_
  refine ac_sipush (v := 4000) Z.1 dX11_init_5 (by decide) ?_
  refine nw_newa (N := 4000) (a0 := (4000, .inl (fun _ => 0))) Z 2 rfl rfl nar_byte (fun _ => rfl) (by decide) (by decide) (by decide) (by show _ ≤ 23; omega) (by show _ ≤ 6382 + (0) + (0); omega) dX11_init_8 (fun q0 => ?_)
  refine nw_cnt (cs' := 1) (ss' := 4000) rfl (by omega) ?_
  refine nw_eq (ws' := [(h, .inr (11, [.null, .int 0, .null, .int 0, .int 0, .null, .null, .null, .null])), (q0, .inl (cT 2, 4000, .inl (fun _ => 0)))]) rfl ?_
  refine nw_putF Z hI b_X11 0 rfl 0 (by decide) nfX11_9 rfl rfl rfl (Nat.le_of_ble_eq_true rfl) dX11_init_10 (ws' := [(h, .inr (11, [.ref q0, .int 0, .null, .int 0, .int 0, .null, .null, .null, .null])), (q0, .inl (cT 2, 4000, .inl (fun _ => 0)))]) rfl ?_
  refine ac_aload_n Z.1 0 dX11_init_13 rfl ?_
  refine nw_new (fs := [.null, .null, .null, .int 0, .int 0]) Z b_X6 ncX11_13 niX6 nzX6 ndfX6 (by show _ ≤ 23; omega) (by show _ ≤ 6382 + (0) + (0); omega) dX11_init_14 (fun q1 => ?_)
  refine nw_cnt (cs' := 2) (ss' := 4005) rfl (by omega) ?_
  refine nw_eq (ws' := [(h, .inr (11, [.ref q0, .int 0, .null, .int 0, .int 0, .null, .null, .null, .null])), (q0, .inl (cT 2, 4000, .inl (fun _ => 0))), (q1, .inr (6, [.null, .null, .null, .int 0, .int 0]))]) rfl ?_
  refine ac_dup Z.1 dX11_init_17 rfl ?_
  refine ac_iconst (v := 0) Z.1 dX11_init_18 (by decide) ?_
  refine nw_ctor (wr := [(h, .inr (11, [.ref q0, .int 0, .null, .int 0, .int 0, .null, .null, .null, .null])), (q0, .inl (cT 2, 4000, .inl (fun _ => 0)))]) Z (ck_X6_init l D cT q1 (0) (by omega)) nkX6 nmX11_15 (Nat.le_of_ble_eq_true rfl) (Nat.le_of_ble_eq_true rfl) (by show _ ≤ 23; omega) (by show _ ≤ 6382 + (0) + (0); omega) rfl rfl (Nat.le_of_ble_eq_true rfl) dX11_init_19 (fun u0 => ?_)
  refine nw_cnt (cs' := 5) (ss' := 4037 + (0)) rfl (by omega) ?_
  refine nw_eq (ws' := [(h, .inr (11, [.ref q0, .int 0, .null, .int 0, .int 0, .null, .null, .null, .null])), (q0, .inl (cT 2, 4000, .inl (fun _ => 0))), (q1, .inr (6, [.ref (u0.1 2), .ref (u0.1 0), .ref (u0.1 1), .int 0, .int 0])), ((u0.1 0), .inl (cT 0, 16, .inl (fun _ => 0))), ((u0.1 1), .inl (cT 0, 16, .inl (fun _ => 0))), ((u0.1 2), .inl (cT 0, (0), .inl (fun _ => 0)))]) rfl ?_
  refine nw_put Z b_X11 0 rfl 2 (by decide) nfX11_18 rfl rfl rfl (Nat.le_of_ble_eq_true rfl) dX11_init_22 (ws' := [(h, .inr (11, [.ref q0, .int 0, .ref q1, .int 0, .int 0, .null, .null, .null, .null])), (q0, .inl (cT 2, 4000, .inl (fun _ => 0))), (q1, .inr (6, [.ref (u0.1 2), .ref (u0.1 0), .ref (u0.1 1), .int 0, .int 0])), ((u0.1 0), .inl (cT 0, 16, .inl (fun _ => 0))), ((u0.1 1), .inl (cT 0, 16, .inl (fun _ => 0))), ((u0.1 2), .inl (cT 0, (0), .inl (fun _ => 0)))]) rfl ?_
  refine ac_aload_n Z.1 0 dX11_init_25 rfl ?_
  refine ac_iconst (v := (-1)) Z.1 dX11_init_26 (by decide) ?_
  refine nw_put Z b_X11 0 rfl 3 (by decide) nfX11_22 rfl rfl rfl (Nat.le_of_ble_eq_true rfl) dX11_init_27 (ws' := [(h, .inr (11, [.ref q0, .int 0, .ref q1, .int (-1), .int 0, .null, .null, .null, .null])), (q0, .inl (cT 2, 4000, .inl (fun _ => 0))), (q1, .inr (6, [.ref (u0.1 2), .ref (u0.1 0), .ref (u0.1 1), .int 0, .int 0])), ((u0.1 0), .inl (cT 0, 16, .inl (fun _ => 0))), ((u0.1 1), .inl (cT 0, 16, .inl (fun _ => 0))), ((u0.1 2), .inl (cT 0, (0), .inl (fun _ => 0)))]) rfl ?_
  refine ac_aload_n Z.1 0 dX11_init_30 rfl ?_
  refine ac_iconst (v := (-1)) Z.1 dX11_init_31 (by decide) ?_
  refine nw_put Z b_X11 0 rfl 4 (by decide) nfX11_26 rfl rfl rfl (Nat.le_of_ble_eq_true rfl) dX11_init_32 (ws' := [(h, .inr (11, [.ref q0, .int 0, .ref q1, .int (-1), .int (-1), .null, .null, .null, .null])), (q0, .inl (cT 2, 4000, .inl (fun _ => 0))), (q1, .inr (6, [.ref (u0.1 2), .ref (u0.1 0), .ref (u0.1 1), .int 0, .int 0])), ((u0.1 0), .inl (cT 0, 16, .inl (fun _ => 0))), ((u0.1 1), .inl (cT 0, 16, .inl (fun _ => 0))), ((u0.1 2), .inl (cT 0, (0), .inl (fun _ => 0)))]) rfl ?_
  refine ac_aload_n Z.1 0 dX11_init_35 rfl ?_
  refine nw_new (fs := [.null, .int 0, .int 0, .int 0]) Z b_X2 ncX11_29 niX2 nzX2 ndfX2 (by show _ ≤ 23; omega) (by show _ ≤ 6382 + (0) + (0); omega) dX11_init_36 (fun q2 => ?_)
  refine nw_cnt (cs' := 6) (ss' := 4041 + (0)) rfl (by omega) ?_
  refine nw_eq (ws' := [(h, .inr (11, [.ref q0, .int 0, .ref q1, .int (-1), .int (-1), .null, .null, .null, .null])), (q0, .inl (cT 2, 4000, .inl (fun _ => 0))), (q1, .inr (6, [.ref (u0.1 2), .ref (u0.1 0), .ref (u0.1 1), .int 0, .int 0])), ((u0.1 0), .inl (cT 0, 16, .inl (fun _ => 0))), ((u0.1 1), .inl (cT 0, 16, .inl (fun _ => 0))), ((u0.1 2), .inl (cT 0, (0), .inl (fun _ => 0))), (q2, .inr (2, [.null, .int 0, .int 0, .int 0]))]) rfl ?_
  refine ac_dup Z.1 dX11_init_39 rfl ?_
  refine nw_ctorN (wr := [(h, .inr (11, [.ref q0, .int 0, .ref q1, .int (-1), .int (-1), .null, .null, .null, .null])), (q0, .inl (cT 2, 4000, .inl (fun _ => 0))), (q1, .inr (6, [.ref (u0.1 2), .ref (u0.1 0), .ref (u0.1 1), .int 0, .int 0])), ((u0.1 0), .inl (cT 0, 16, .inl (fun _ => 0))), ((u0.1 1), .inl (cT 0, 16, .inl (fun _ => 0))), ((u0.1 2), .inl (cT 0, (0), .inl (fun _ => 0)))]) Z (ck_X2_init l D cT q2) nkX2 (fun _ h => h.1) (Nat.le_of_ble_eq_true rfl) (Nat.le_of_ble_eq_true rfl) (by show _ ≤ 23; omega) (by show _ ≤ 6382 + (0) + (0); omega) rfl rfl (Nat.le_of_ble_eq_true rfl) dX11_init_40 (fun u1 => ?_)
  refine nw_cnt (cs' := 7) (ss' := 4489 + (0)) rfl (by omega) ?_
  refine nw_eq (ws' := [(h, .inr (11, [.ref q0, .int 0, .ref q1, .int (-1), .int (-1), .null, .null, .null, .null])), (q0, .inl (cT 2, 4000, .inl (fun _ => 0))), (q1, .inr (6, [.ref (u0.1 2), .ref (u0.1 0), .ref (u0.1 1), .int 0, .int 0])), ((u0.1 0), .inl (cT 0, 16, .inl (fun _ => 0))), ((u0.1 1), .inl (cT 0, 16, .inl (fun _ => 0))), ((u0.1 2), .inl (cT 0, (0), .inl (fun _ => 0))), (q2, .inr (2, [.ref (u1.1 0), .int 0, .int 0, .int 0])), ((u1.1 0), .inl (cT 0, 448, .inl (fun _ => 0)))]) rfl ?_
  refine nw_putF Z hI b_X11 0 rfl 5 (by decide) nfX11_32 rfl rfl rfl (Nat.le_of_ble_eq_true rfl) dX11_init_43 (ws' := [(h, .inr (11, [.ref q0, .int 0, .ref q1, .int (-1), .int (-1), .ref q2, .null, .null, .null])), (q0, .inl (cT 2, 4000, .inl (fun _ => 0))), (q1, .inr (6, [.ref (u0.1 2), .ref (u0.1 0), .ref (u0.1 1), .int 0, .int 0])), ((u0.1 0), .inl (cT 0, 16, .inl (fun _ => 0))), ((u0.1 1), .inl (cT 0, 16, .inl (fun _ => 0))), ((u0.1 2), .inl (cT 0, (0), .inl (fun _ => 0))), (q2, .inr (2, [.ref (u1.1 0), .int 0, .int 0, .int 0])), ((u1.1 0), .inl (cT 0, 448, .inl (fun _ => 0)))]) rfl ?_
  refine ac_aload_n Z.1 0 dX11_init_46 rfl ?_
  refine nw_new (fs := [.null, .int 0, .int 0, .int 0, .int 0, .int 0, .int 0, .int 0, .int 0]) Z b_X5 ncX11_36 niX5 nzX5 ndfX5 (by show _ ≤ 23; omega) (by show _ ≤ 6382 + (0) + (0); omega) dX11_init_47 (fun q3 => ?_)
  refine nw_cnt (cs' := 8) (ss' := 4498 + (0)) rfl (by omega) ?_
  refine nw_eq (ws' := [(h, .inr (11, [.ref q0, .int 0, .ref q1, .int (-1), .int (-1), .ref q2, .null, .null, .null])), (q0, .inl (cT 2, 4000, .inl (fun _ => 0))), (q1, .inr (6, [.ref (u0.1 2), .ref (u0.1 0), .ref (u0.1 1), .int 0, .int 0])), ((u0.1 0), .inl (cT 0, 16, .inl (fun _ => 0))), ((u0.1 1), .inl (cT 0, 16, .inl (fun _ => 0))), ((u0.1 2), .inl (cT 0, (0), .inl (fun _ => 0))), (q2, .inr (2, [.ref (u1.1 0), .int 0, .int 0, .int 0])), ((u1.1 0), .inl (cT 0, 448, .inl (fun _ => 0))), (q3, .inr (5, [.null, .int 0, .int 0, .int 0, .int 0, .int 0, .int 0, .int 0, .int 0]))]) rfl ?_
  refine ac_dup Z.1 dX11_init_50 rfl ?_
  refine nw_ctorN (wr := [(h, .inr (11, [.ref q0, .int 0, .ref q1, .int (-1), .int (-1), .ref q2, .null, .null, .null])), (q0, .inl (cT 2, 4000, .inl (fun _ => 0))), (q1, .inr (6, [.ref (u0.1 2), .ref (u0.1 0), .ref (u0.1 1), .int 0, .int 0])), ((u0.1 0), .inl (cT 0, 16, .inl (fun _ => 0))), ((u0.1 1), .inl (cT 0, 16, .inl (fun _ => 0))), ((u0.1 2), .inl (cT 0, (0), .inl (fun _ => 0))), (q2, .inr (2, [.ref (u1.1 0), .int 0, .int 0, .int 0])), ((u1.1 0), .inl (cT 0, 448, .inl (fun _ => 0)))]) Z (ck_X5_init l D cT q3) nkX5 (fun _ h => h.2) (Nat.le_of_ble_eq_true rfl) (Nat.le_of_ble_eq_true rfl) (by show _ ≤ 23; omega) (by show _ ≤ 6382 + (0) + (0); omega) rfl rfl (Nat.le_of_ble_eq_true rfl) dX11_init_51 (fun u2 => ?_)
  refine nw_cnt (cs' := 9) (ss' := 4698 + (0)) rfl (by omega) ?_
  refine nw_eq (ws' := [(h, .inr (11, [.ref q0, .int 0, .ref q1, .int (-1), .int (-1), .ref q2, .null, .null, .null])), (q0, .inl (cT 2, 4000, .inl (fun _ => 0))), (q1, .inr (6, [.ref (u0.1 2), .ref (u0.1 0), .ref (u0.1 1), .int 0, .int 0])), ((u0.1 0), .inl (cT 0, 16, .inl (fun _ => 0))), ((u0.1 1), .inl (cT 0, 16, .inl (fun _ => 0))), ((u0.1 2), .inl (cT 0, (0), .inl (fun _ => 0))), (q2, .inr (2, [.ref (u1.1 0), .int 0, .int 0, .int 0])), ((u1.1 0), .inl (cT 0, 448, .inl (fun _ => 0))), (q3, .inr (5, [.ref (u2.1 0), .int 0, .int (-1), .int 0, .int (-1), .int 0, .int 0, .int 0, .int 0])), ((u2.1 0), .inl (cT 0, 200, .inl (fun _ => 0)))]) rfl ?_
  refine nw_putF Z hI b_X11 0 rfl 6 (by decide) nfX11_39 rfl rfl rfl (Nat.le_of_ble_eq_true rfl) dX11_init_54 (ws' := [(h, .inr (11, [.ref q0, .int 0, .ref q1, .int (-1), .int (-1), .ref q2, .ref q3, .null, .null])), (q0, .inl (cT 2, 4000, .inl (fun _ => 0))), (q1, .inr (6, [.ref (u0.1 2), .ref (u0.1 0), .ref (u0.1 1), .int 0, .int 0])), ((u0.1 0), .inl (cT 0, 16, .inl (fun _ => 0))), ((u0.1 1), .inl (cT 0, 16, .inl (fun _ => 0))), ((u0.1 2), .inl (cT 0, (0), .inl (fun _ => 0))), (q2, .inr (2, [.ref (u1.1 0), .int 0, .int 0, .int 0])), ((u1.1 0), .inl (cT 0, 448, .inl (fun _ => 0))), (q3, .inr (5, [.ref (u2.1 0), .int 0, .int (-1), .int 0, .int (-1), .int 0, .int 0, .int 0, .int 0])), ((u2.1 0), .inl (cT 0, 200, .inl (fun _ => 0)))]) rfl ?_
  refine ac_aload_n Z.1 0 dX11_init_57 rfl ?_
  refine nw_new (fs := [.null, .null, .null, .null, .null, .null, .null, .null, .int 0, .int 0, .int 0, .int 0, .int 0, .int 0, .int 0, .int 0]) Z b_X8 ncX11_43 niX8 nzX8 ndfX8 (by show _ ≤ 23; omega) (by show _ ≤ 6382 + (0) + (0); omega) dX11_init_58 (fun q4 => ?_)
  refine nw_cnt (cs' := 10) (ss' := 4714 + (0)) rfl (by omega) ?_
  refine nw_eq (ws' := [(h, .inr (11, [.ref q0, .int 0, .ref q1, .int (-1), .int (-1), .ref q2, .ref q3, .null, .null])), (q0, .inl (cT 2, 4000, .inl (fun _ => 0))), (q1, .inr (6, [.ref (u0.1 2), .ref (u0.1 0), .ref (u0.1 1), .int 0, .int 0])), ((u0.1 0), .inl (cT 0, 16, .inl (fun _ => 0))), ((u0.1 1), .inl (cT 0, 16, .inl (fun _ => 0))), ((u0.1 2), .inl (cT 0, (0), .inl (fun _ => 0))), (q2, .inr (2, [.ref (u1.1 0), .int 0, .int 0, .int 0])), ((u1.1 0), .inl (cT 0, 448, .inl (fun _ => 0))), (q3, .inr (5, [.ref (u2.1 0), .int 0, .int (-1), .int 0, .int (-1), .int 0, .int 0, .int 0, .int 0])), ((u2.1 0), .inl (cT 0, 200, .inl (fun _ => 0))), (q4, .inr (8, [.null, .null, .null, .null, .null, .null, .null, .null, .int 0, .int 0, .int 0, .int 0, .int 0, .int 0, .int 0, .int 0]))]) rfl ?_
  refine ac_dup Z.1 dX11_init_61 rfl ?_
  refine ac_aload_n Z.1 0 dX11_init_62 rfl ?_
  refine nw_get Z b_X11 0 rfl 5 (by decide) nfX11_32 rfl dX11_init_63 ?_
  refine ac_aload_n Z.1 0 dX11_init_66 rfl ?_
  refine nw_get Z b_X11 0 rfl 6 (by decide) nfX11_39 rfl dX11_init_67 ?_
  refine nw_ctor (wr := [(h, .inr (11, [.ref q0, .int 0, .ref q1, .int (-1), .int (-1), .ref q2, .ref q3, .null, .null])), (q0, .inl (cT 2, 4000, .inl (fun _ => 0))), (q1, .inr (6, [.ref (u0.1 2), .ref (u0.1 0), .ref (u0.1 1), .int 0, .int 0])), ((u0.1 0), .inl (cT 0, 16, .inl (fun _ => 0))), ((u0.1 1), .inl (cT 0, 16, .inl (fun _ => 0))), ((u0.1 2), .inl (cT 0, (0), .inl (fun _ => 0))), (q2, .inr (2, [.ref (u1.1 0), .int 0, .int 0, .int 0])), ((u1.1 0), .inl (cT 0, 448, .inl (fun _ => 0))), (q3, .inr (5, [.ref (u2.1 0), .int 0, .int (-1), .int 0, .int (-1), .int 0, .int 0, .int 0, .int 0])), ((u2.1 0), .inl (cT 0, 200, .inl (fun _ => 0)))]) Z (ck_X8_init l D cT q4 q2 q3) nkX8 nmX11_45 (Nat.le_of_ble_eq_true rfl) (Nat.le_of_ble_eq_true rfl) (by show _ ≤ 23; omega) (by show _ ≤ 6382 + (0) + (0); omega) rfl rfl (Nat.le_of_ble_eq_true rfl) dX11_init_70 (fun u3 => ?_)
  refine nw_cnt (cs' := 19) (ss' := 6331 + (0) + (0)) rfl (by omega) ?_
  refine nw_eq (ws' := [(h, .inr (11, [.ref q0, .int 0, .ref q1, .int (-1), .int (-1), .ref q2, .ref q3, .null, .null])), (q0, .inl (cT 2, 4000, .inl (fun _ => 0))), (q1, .inr (6, [.ref (u0.1 2), .ref (u0.1 0), .ref (u0.1 1), .int 0, .int 0])), ((u0.1 0), .inl (cT 0, 16, .inl (fun _ => 0))), ((u0.1 1), .inl (cT 0, 16, .inl (fun _ => 0))), ((u0.1 2), .inl (cT 0, (0), .inl (fun _ => 0))), (q2, .inr (2, [.ref (u1.1 0), .int 0, .int 0, .int 0])), ((u1.1 0), .inl (cT 0, 448, .inl (fun _ => 0))), (q3, .inr (5, [.ref (u2.1 0), .int 0, .int (-1), .int 0, .int (-1), .int 0, .int 0, .int 0, .int 0])), ((u2.1 0), .inl (cT 0, 200, .inl (fun _ => 0))), (q4, .inr (8, [.ref q2, .ref q3, .ref (u3.1 0), .ref (u3.1 1), .ref (u3.1 2), .ref (u3.1 3), .ref (u3.1 4), .ref (u3.1 5), .int 0, .int 0, .int 0, .int 0, .int 0, .int 0, .int 0, .int 0])), ((u3.1 0), .inl (cT 0, 144, .inl (fun _ => 0))), ((u3.1 1), .inl (cT 0, 96, .inl (fun _ => 0))), ((u3.1 2), .inl (cT 0, 12, .inl (fun _ => 0))), ((u3.1 3), .inl (cT 0, 1200, .inl (fun _ => 0))), ((u3.1 4), .inl (cT 0, 128, .inl (fun _ => 0))), ((u3.1 5), .inr (6, [.ref (u3.1 8), .ref (u3.1 6), .ref (u3.1 7), .int 0, .int 0])), ((u3.1 6), .inl (cT 0, 16, .inl (fun _ => 0))), ((u3.1 7), .inl (cT 0, 16, .inl (fun _ => 0))), ((u3.1 8), .inl (cT 0, (0), .inl (fun _ => 0)))]) rfl ?_
  refine nw_putF Z hI b_X11 0 rfl 7 (by decide) nfX11_48 rfl rfl rfl (Nat.le_of_ble_eq_true rfl) dX11_init_73 (ws' := [(h, .inr (11, [.ref q0, .int 0, .ref q1, .int (-1), .int (-1), .ref q2, .ref q3, .ref q4, .null])), (q0, .inl (cT 2, 4000, .inl (fun _ => 0))), (q1, .inr (6, [.ref (u0.1 2), .ref (u0.1 0), .ref (u0.1 1), .int 0, .int 0])), ((u0.1 0), .inl (cT 0, 16, .inl (fun _ => 0))), ((u0.1 1), .inl (cT 0, 16, .inl (fun _ => 0))), ((u0.1 2), .inl (cT 0, (0), .inl (fun _ => 0))), (q2, .inr (2, [.ref (u1.1 0), .int 0, .int 0, .int 0])), ((u1.1 0), .inl (cT 0, 448, .inl (fun _ => 0))), (q3, .inr (5, [.ref (u2.1 0), .int 0, .int (-1), .int 0, .int (-1), .int 0, .int 0, .int 0, .int 0])), ((u2.1 0), .inl (cT 0, 200, .inl (fun _ => 0))), (q4, .inr (8, [.ref q2, .ref q3, .ref (u3.1 0), .ref (u3.1 1), .ref (u3.1 2), .ref (u3.1 3), .ref (u3.1 4), .ref (u3.1 5), .int 0, .int 0, .int 0, .int 0, .int 0, .int 0, .int 0, .int 0])), ((u3.1 0), .inl (cT 0, 144, .inl (fun _ => 0))), ((u3.1 1), .inl (cT 0, 96, .inl (fun _ => 0))), ((u3.1 2), .inl (cT 0, 12, .inl (fun _ => 0))), ((u3.1 3), .inl (cT 0, 1200, .inl (fun _ => 0))), ((u3.1 4), .inl (cT 0, 128, .inl (fun _ => 0))), ((u3.1 5), .inr (6, [.ref (u3.1 8), .ref (u3.1 6), .ref (u3.1 7), .int 0, .int 0])), ((u3.1 6), .inl (cT 0, 16, .inl (fun _ => 0))), ((u3.1 7), .inl (cT 0, 16, .inl (fun _ => 0))), ((u3.1 8), .inl (cT 0, (0), .inl (fun _ => 0)))]) rfl ?_
  refine ac_aload_n Z.1 0 dX11_init_76 rfl ?_
  refine nw_new (fs := [.null, .null, .null, .null, .null, .null]) Z b_X0 ncX11_52 niX0 nzX0 ndfX0 (by show _ ≤ 23; omega) (by show _ ≤ 6382 + (0) + (0); omega) dX11_init_77 (fun q5 => ?_)
  refine nw_cnt (cs' := 20) (ss' := 6337 + (0) + (0)) rfl (by omega) ?_
  refine nw_eq (ws' := [(h, .inr (11, [.ref q0, .int 0, .ref q1, .int (-1), .int (-1), .ref q2, .ref q3, .ref q4, .null])), (q0, .inl (cT 2, 4000, .inl (fun _ => 0))), (q1, .inr (6, [.ref (u0.1 2), .ref (u0.1 0), .ref (u0.1 1), .int 0, .int 0])), ((u0.1 0), .inl (cT 0, 16, .inl (fun _ => 0))), ((u0.1 1), .inl (cT 0, 16, .inl (fun _ => 0))), ((u0.1 2), .inl (cT 0, (0), .inl (fun _ => 0))), (q2, .inr (2, [.ref (u1.1 0), .int 0, .int 0, .int 0])), ((u1.1 0), .inl (cT 0, 448, .inl (fun _ => 0))), (q3, .inr (5, [.ref (u2.1 0), .int 0, .int (-1), .int 0, .int (-1), .int 0, .int 0, .int 0, .int 0])), ((u2.1 0), .inl (cT 0, 200, .inl (fun _ => 0))), (q4, .inr (8, [.ref q2, .ref q3, .ref (u3.1 0), .ref (u3.1 1), .ref (u3.1 2), .ref (u3.1 3), .ref (u3.1 4), .ref (u3.1 5), .int 0, .int 0, .int 0, .int 0, .int 0, .int 0, .int 0, .int 0])), ((u3.1 0), .inl (cT 0, 144, .inl (fun _ => 0))), ((u3.1 1), .inl (cT 0, 96, .inl (fun _ => 0))), ((u3.1 2), .inl (cT 0, 12, .inl (fun _ => 0))), ((u3.1 3), .inl (cT 0, 1200, .inl (fun _ => 0))), ((u3.1 4), .inl (cT 0, 128, .inl (fun _ => 0))), ((u3.1 5), .inr (6, [.ref (u3.1 8), .ref (u3.1 6), .ref (u3.1 7), .int 0, .int 0])), ((u3.1 6), .inl (cT 0, 16, .inl (fun _ => 0))), ((u3.1 7), .inl (cT 0, 16, .inl (fun _ => 0))), ((u3.1 8), .inl (cT 0, (0), .inl (fun _ => 0))), (q5, .inr (0, [.null, .null, .null, .null, .null, .null]))]) rfl ?_
  refine ac_dup Z.1 dX11_init_80 rfl ?_
  refine ac_aload_n Z.1 0 dX11_init_81 rfl ?_
  refine nw_get Z b_X11 0 rfl 5 (by decide) nfX11_32 rfl dX11_init_82 ?_
  refine ac_aload_n Z.1 0 dX11_init_85 rfl ?_
  refine nw_get Z b_X11 0 rfl 6 (by decide) nfX11_39 rfl dX11_init_86 ?_
  refine ac_aload_n Z.1 0 dX11_init_89 rfl ?_
  refine nw_get Z b_X11 0 rfl 7 (by decide) nfX11_48 rfl dX11_init_90 ?_
  refine nw_ctor (wr := [(h, .inr (11, [.ref q0, .int 0, .ref q1, .int (-1), .int (-1), .ref q2, .ref q3, .ref q4, .null])), (q0, .inl (cT 2, 4000, .inl (fun _ => 0))), (q1, .inr (6, [.ref (u0.1 2), .ref (u0.1 0), .ref (u0.1 1), .int 0, .int 0])), ((u0.1 0), .inl (cT 0, 16, .inl (fun _ => 0))), ((u0.1 1), .inl (cT 0, 16, .inl (fun _ => 0))), ((u0.1 2), .inl (cT 0, (0), .inl (fun _ => 0))), (q2, .inr (2, [.ref (u1.1 0), .int 0, .int 0, .int 0])), ((u1.1 0), .inl (cT 0, 448, .inl (fun _ => 0))), (q3, .inr (5, [.ref (u2.1 0), .int 0, .int (-1), .int 0, .int (-1), .int 0, .int 0, .int 0, .int 0])), ((u2.1 0), .inl (cT 0, 200, .inl (fun _ => 0))), (q4, .inr (8, [.ref q2, .ref q3, .ref (u3.1 0), .ref (u3.1 1), .ref (u3.1 2), .ref (u3.1 3), .ref (u3.1 4), .ref (u3.1 5), .int 0, .int 0, .int 0, .int 0, .int 0, .int 0, .int 0, .int 0])), ((u3.1 0), .inl (cT 0, 144, .inl (fun _ => 0))), ((u3.1 1), .inl (cT 0, 96, .inl (fun _ => 0))), ((u3.1 2), .inl (cT 0, 12, .inl (fun _ => 0))), ((u3.1 3), .inl (cT 0, 1200, .inl (fun _ => 0))), ((u3.1 4), .inl (cT 0, 128, .inl (fun _ => 0))), ((u3.1 5), .inr (6, [.ref (u3.1 8), .ref (u3.1 6), .ref (u3.1 7), .int 0, .int 0])), ((u3.1 6), .inl (cT 0, 16, .inl (fun _ => 0))), ((u3.1 7), .inl (cT 0, 16, .inl (fun _ => 0))), ((u3.1 8), .inl (cT 0, (0), .inl (fun _ => 0)))]) Z (ckV_X0_init l D cT q5 q2 q3 q4) nkX0 nmX11_54 (Nat.le_of_ble_eq_true rfl) (Nat.le_of_ble_eq_true rfl) (by show _ ≤ 23; omega) (by show _ ≤ 6382 + (0) + (0); omega) rfl rfl (Nat.le_of_ble_eq_true rfl) dX11_init_93 (fun u4 => ?_)
  refine nw_cnt (cs' := 23) (ss' := 6382 + (0) + (0)) rfl (by omega) ?_
  refine nw_eq (ws' := [(h, .inr (11, [.ref q0, .int 0, .ref q1, .int (-1), .int (-1), .ref q2, .ref q3, .ref q4, .null])), (q0, .inl (cT 2, 4000, .inl (fun _ => 0))), (q1, .inr (6, [.ref (u0.1 2), .ref (u0.1 0), .ref (u0.1 1), .int 0, .int 0])), ((u0.1 0), .inl (cT 0, 16, .inl (fun _ => 0))), ((u0.1 1), .inl (cT 0, 16, .inl (fun _ => 0))), ((u0.1 2), .inl (cT 0, (0), .inl (fun _ => 0))), (q2, .inr (2, [.ref (u1.1 0), .int 0, .int 0, .int 0])), ((u1.1 0), .inl (cT 0, 448, .inl (fun _ => 0))), (q3, .inr (5, [.ref (u2.1 0), .int 0, .int (-1), .int 0, .int (-1), .int 0, .int 0, .int 0, .int 0])), ((u2.1 0), .inl (cT 0, 200, .inl (fun _ => 0))), (q4, .inr (8, [.ref q2, .ref q3, .ref (u3.1 0), .ref (u3.1 1), .ref (u3.1 2), .ref (u3.1 3), .ref (u3.1 4), .ref (u3.1 5), .int 0, .int 0, .int 0, .int 0, .int 0, .int 0, .int 0, .int 0])), ((u3.1 0), .inl (cT 0, 144, .inl (fun _ => 0))), ((u3.1 1), .inl (cT 0, 96, .inl (fun _ => 0))), ((u3.1 2), .inl (cT 0, 12, .inl (fun _ => 0))), ((u3.1 3), .inl (cT 0, 1200, .inl (fun _ => 0))), ((u3.1 4), .inl (cT 0, 128, .inl (fun _ => 0))), ((u3.1 5), .inr (6, [.ref (u3.1 8), .ref (u3.1 6), .ref (u3.1 7), .int 0, .int 0])), ((u3.1 6), .inl (cT 0, 16, .inl (fun _ => 0))), ((u3.1 7), .inl (cT 0, 16, .inl (fun _ => 0))), ((u3.1 8), .inl (cT 0, (0), .inl (fun _ => 0))), (q5, .inr (0, [.ref q2, .ref q3, .ref q4, .ref (u4.1 0), .ref (u4.1 1), .ref (u4.1 2)])), ((u4.1 0), .inl (cT 0, 21, .inl (fun _ => (-1)))), ((u4.1 1), .inl (cT 0, 21, .inl (fun _ => 0))), ((u4.1 2), .inl (cT 0, 3, .inl (fun _ => 0)))]) rfl ?_
  refine nw_putF Z hI b_X11 0 rfl 8 (by decide) nfX11_57 rfl rfl rfl (Nat.le_of_ble_eq_true rfl) dX11_init_96 (ws' := [(h, .inr (11, [.ref q0, .int 0, .ref q1, .int (-1), .int (-1), .ref q2, .ref q3, .ref q4, .ref q5])), (q0, .inl (cT 2, 4000, .inl (fun _ => 0))), (q1, .inr (6, [.ref (u0.1 2), .ref (u0.1 0), .ref (u0.1 1), .int 0, .int 0])), ((u0.1 0), .inl (cT 0, 16, .inl (fun _ => 0))), ((u0.1 1), .inl (cT 0, 16, .inl (fun _ => 0))), ((u0.1 2), .inl (cT 0, (0), .inl (fun _ => 0))), (q2, .inr (2, [.ref (u1.1 0), .int 0, .int 0, .int 0])), ((u1.1 0), .inl (cT 0, 448, .inl (fun _ => 0))), (q3, .inr (5, [.ref (u2.1 0), .int 0, .int (-1), .int 0, .int (-1), .int 0, .int 0, .int 0, .int 0])), ((u2.1 0), .inl (cT 0, 200, .inl (fun _ => 0))), (q4, .inr (8, [.ref q2, .ref q3, .ref (u3.1 0), .ref (u3.1 1), .ref (u3.1 2), .ref (u3.1 3), .ref (u3.1 4), .ref (u3.1 5), .int 0, .int 0, .int 0, .int 0, .int 0, .int 0, .int 0, .int 0])), ((u3.1 0), .inl (cT 0, 144, .inl (fun _ => 0))), ((u3.1 1), .inl (cT 0, 96, .inl (fun _ => 0))), ((u3.1 2), .inl (cT 0, 12, .inl (fun _ => 0))), ((u3.1 3), .inl (cT 0, 1200, .inl (fun _ => 0))), ((u3.1 4), .inl (cT 0, 128, .inl (fun _ => 0))), ((u3.1 5), .inr (6, [.ref (u3.1 8), .ref (u3.1 6), .ref (u3.1 7), .int 0, .int 0])), ((u3.1 6), .inl (cT 0, 16, .inl (fun _ => 0))), ((u3.1 7), .inl (cT 0, 16, .inl (fun _ => 0))), ((u3.1 8), .inl (cT 0, (0), .inl (fun _ => 0))), (q5, .inr (0, [.ref q2, .ref q3, .ref q4, .ref (u4.1 0), .ref (u4.1 1), .ref (u4.1 2)])), ((u4.1 0), .inl (cT 0, 21, .inl (fun _ => (-1)))), ((u4.1 1), .inl (cT 0, 21, .inl (fun _ => 0))), ((u4.1 2), .inl (cT 0, 3, .inl (fun _ => 0)))]) rfl ?_
  exact hret 99 _ (fun j => ([q0, q1, (u0.1 0), (u0.1 1), (u0.1 2), q2, (u1.1 0), q3, (u2.1 0), q4, (u3.1 0), (u3.1 1), (u3.1 2), (u3.1 3), (u3.1 4), (u3.1 5), (u3.1 6), (u3.1 7), (u3.1 8), q5, (u4.1 0), (u4.1 1), (u4.1 2)] : List Nat).getD j 0, fun j => ([] : List (Nat → Int32)).getD j (fun _ => 0)) dX11_init_99
section ZG1
/-- the same bytes are fed on both sides -/
def lw_B (u : cl_S) (M : Nat → Int32) (F : Nat → Nat → Int32) : Prop := ∃ (B : Nat → Int32) (c : Nat), c ≤ 4000 ∧ y_B (cl_s u) B c ∧ z_B M F B c
theorem lw_B_eq {u u' : cl_S} {M M' : Nat → Int32} {F F' : Nat → Nat → Int32} (h : lw_B u M F) (h1 : cl_f u' = cl_f u) (h2 : u'.2.2.2.2.1 10 = u.2.2.2.2.1 10) (h3 : M' 1 = M 1) (h4 : F' 0 = F 0) : lw_B u' M' F' := by
  obtain ⟨B, c, hc, ⟨y1, y2⟩, ⟨z1, z2⟩⟩ := h
  refine ⟨B, c, hc, ⟨h1.trans y1, fun i hi => ?_⟩, ⟨h3.trans z1, fun i hi => by rw [h4]; exact z2 i hi⟩⟩
  show u'.2.2.2.2.1 10 i &&& 255 = B i
  rw [h2]; exact y2 i hi
theorem lw_B_f {u : cl_S} {M : Nat → Int32} {F : Nat → Nat → Int32} (h : lw_B u M F) : cl_f u = M 1 := by
  obtain ⟨B, c, hc, y, z⟩ := h
  exact y.1.trans z.1.symm
theorem lw_B_0 {u : cl_S} {M : Nat → Int32} {F : Nat → Nat → Int32} (h1 : cl_f u = 0) (h2 : M 1 = 0) : lw_B u M F := ⟨fun _ => 0, 0, by omega, ⟨h1, fun i hi => absurd hi (by omega)⟩, ⟨h2, fun i hi => absurd hi (by omega)⟩⟩
theorem fr_dl {A : Int32} {T : Nat → Int32} : ∀ (n : Nat) (q0 q1 q2 q3 : Int32) (M : Nat → Int32) (F : Nat → Nat → Int32) (Q Q' : (Nat → Int32) → (Nat → Nat → Int32) → Prop), fi A T M F → wf_dl n q0 q1 q2 q3 M F Q → (∀ M' F', fi A T M' F' → Q M' F' → Q' M' F') → wf_dl n q0 q1 q2 q3 M F Q' := by
  intro n
  induction n with
  | zero => intro _ _ _ _ _ _ _ _ _ h _; exact absurd h (fun q => q)
  | succ n ih => intro q0 q1 q2 q3 M F Q Q' hi h hq; exact fr_deals ih hi h hq
theorem zo_INV {M M' : Nat → Int32} {F F' : Nat → Nat → Int32} (h : e_INV M F) (z : z_only M M' F F') (h1 : 0 ≤ (M' 1).toInt ∧ (M' 1).toInt ≤ 4000) : e_INV M' F' := e_INV_hc (ks := [1]) (rs := [0]) ⟨fun k hk => z.1 k (fun q => hk (by rw [q]; exact List.mem_cons_self ..)), fun r hr => funext (fun i => z.2 r i (fun q => hr (by rw [q]; exact List.mem_cons_self ..)))⟩ (by decide) (by decide) h1 h
theorem re_rej {WB : e_M → e_F → (e_M → e_F → Prop) → Prop} {p : Int32} {M : e_M} {F : e_F} {Q : Int32 → e_M → e_F → Prop} (h : p.toInt < 0 ∨ (M 1).toInt < p.toInt) (hQ : Q (-1) M F) : w_read WB p M F Q := by
  have e0 : (0 : Int32).toInt = 0 := by decide
  refine ⟨fun _ => hQ, fun a => ⟨fun c => ?_, fun _ => hQ⟩⟩
  have a := ti_nlt a
  have c := Int32.le_iff_toInt_le.mp c
  omega
/-- both courts with their texts -/
def lw_R (u : cl_S) (M : e_M) (F : e_F) : Prop := ∃ K : k_K, R_o K (cl_s u) (cl_O u) M F ∧ k_bd K ∧ K_z K ≤ cl_N u 20
def lw_V (u : cl_S) (M : e_M) (F : e_F) : Prop := e_INV M F ∧ lw_B u M F ∧ lw_R u M F
variable {l : Launch} {D : va_G} {cT : Nat → ClassId} {adK adV : Nat → Nat} {h : Nat} {u : cl_S} {M M' : e_M} {F F' : e_F} {K : k_K} {s s' : f_S3} {O : Nat × Nat} {N : Nat → Nat}
theorem cl_monoJ {y : MethodName} {cc : ByteArray} {nL : Nat} {ret : FieldType} {rk mc ms kc ks : Nat} {As : List Value} {Post Post' : Int32 → cl_S → Prop} (hm : cl_MetJ l D cT adK adV y cc nL ret rk mc ms kc ks h As u Post) (hp : ∀ r u', cl_okJ h u' → Post r u' → Post' r u') : cl_MetJ l D cT adK adV y cc nL ret rk mc ms kc ks h As u Post' := by
  intro sz sm
  refine Met.mono (hm sz sm) (fun a s q => q) (fun a st o t _ hq => ?_)
  obtain ⟨⟨r, u', e1, ⟨q1, q2⟩, hB⟩, hF⟩ := hq
  exact ⟨⟨r, u', e1, ⟨q1, hp r u' q1 q2⟩, hB⟩, hF⟩
theorem R_o_feed (R : R_o K s O M F) (y : y_only s s') (z : z_only M M' F F') : R_o K s' O M' F' := by
  obtain ⟨hD, hM, hP, ⟨a1, a2, a3⟩, a4, b1, b2, b3⟩ := R
  have er : ∀ r, r ≠ 10 → s'.2.1 r = s.2.1 r := fun r hr => funext (fun i => y.2.1 r i hr)
  have ef : ∀ r, r ≠ 0 → F' r = F r := fun r hr => funext (fun i => z.2 r i hr)
  refine ⟨S_D_cg hD ⟨y.1 22 (by decide), y.1 23 (by decide)⟩ (er 99 (by decide)) ⟨z.1 54 (by decide), z.1 56 (by decide)⟩ ⟨ef 48 (by decide), ef 49 (by decide), ef 50 (by decide), ef 51 (by decide), ef 52 (by decide), ef 53 (by decide)⟩, R_m_cg hM (fun j a b => y.1 j (by omega)) (er 14 (by decide)) (fun j a b => z.1 j (by omega)) (ef 84 (by decide)), ⟨fun j hj => ?_, fun j hj => ?_⟩, ⟨?_, ?_, ?_⟩, k_cor_b a4 (fun r k _ _ _ _ => z.2 r k (by omega)) (fun r k _ _ _ _ => z.2 r k (by omega)) (fun r k _ _ _ _ => z.2 r k (by omega)) (fun h _ => z.2 18 _ (by decide)), ?_, fun i hi => ?_, fun h hh => ?_⟩
  · rw [er 11 (by decide), er 12 (by decide), ef 85 (by decide), ef 86 (by decide)]; exact hP.1 j hj
  · rw [er 13 (by decide), ef 87 (by decide)]; exact hP.2 j hj
  · rw [y.1 64 (by decide), z.1 28 (by decide)]; exact a1
  · rw [z.1 28 (by decide)]; exact a2
  · rw [z.1 27 (by decide)]; exact a3
  · rw [y.1 63 (by decide)]; exact b1
  · rw [er 20 (by decide)]; exact b2 i hi
  · rw [er 21 (by decide), er 22 (by decide), ef 18 (by decide), ef 19 (by decide)]; exact b3 h hh
theorem R_o_rd (hD : S_D s O M F) (hM : R_m s M F) (hP : R_p s F) (e : ∀ j, j ≠ 1 → j ≠ 3 → j ≠ 4 → j ≠ 63 → j ≠ 64 → s'.1 j = s.1 j) (er : ∀ k, k ≠ 10 → k ≠ 20 → k ≠ 21 → k ≠ 22 → s'.2.1 k = s.2.1 k) (em : ∀ k, 47 < k → M' k = M k) (ef : ∀ q, 45 < q → F' q = F q) : S_D s' O M' F' ∧ R_m s' M' F' ∧ R_p s' F' := by
  refine ⟨S_D_cg hD ⟨e 22 (by decide) (by decide) (by decide) (by decide) (by decide), e 23 (by decide) (by decide) (by decide) (by decide) (by decide)⟩ (er 99 (by decide) (by decide) (by decide) (by decide)) ⟨em 54 (by decide), em 56 (by decide)⟩ ⟨ef 48 (by decide), ef 49 (by decide), ef 50 (by decide), ef 51 (by decide), ef 52 (by decide), ef 53 (by decide)⟩, R_m_cg hM (fun j a b => e j (by omega) (by omega) (by omega) (by omega) (by omega)) (er 14 (by decide) (by decide) (by decide) (by decide)) (fun j a b => em j (by omega)) (ef 84 (by decide)), fun j hj => ?_, fun j hj => ?_⟩
  · rw [er 11 (by decide) (by decide) (by decide) (by decide), er 12 (by decide) (by decide) (by decide) (by decide), ef 85 (by decide), ef 86 (by decide)]; exact hP.1 j hj
  · rw [er 13 (by decide) (by decide) (by decide) (by decide), ef 87 (by decide)]; exact hP.2 j hj
theorem lw_policy (ok : cl_okJ h u) (V : lw_V u M F) (a b c d : Int32) : ∃ (r : Int32) (M1 : e_M) (F1 : e_F), w_policy a b c d M F (z_ex r M1 F1) ∧ cl_MetJ l D cT adK adV yX11_policy cX11_policy 5 .boolean 2 (b_mc (cl_O u)) (b_ms (cl_O u)) 0 0 h [.int a, .int b, .int c, .int d] u (fun r' u' => r' = r ∧ cl_f u' = cl_f u ∧ lw_V u' M1 F1) := by
  obtain ⟨hV, hB, K, R, hbd, hz⟩ := V
  obtain ⟨r, M1, F1, p1, p2⟩ := po_both (N := cl_N u) ok.2.1 R a b c d
  have w0 : w_policy a b c d M F (fun _ M' F' => e_INV M' F' ∧ M' 1 = M 1 ∧ F' 0 = F 0) := fr_policy (A := M 1) (T := F 0) (Q := fun _ M' F' => e_INV M' F') ⟨rfl, rfl⟩ (p_policy hV (fun _ _ _ a _ _ => a)) (fun _ M' F' i q => ⟨q, i.1, i.2⟩)
  obtain ⟨v1, v2, v3⟩ := p1 _ w0
  refine ⟨r, M1, F1, one_policy w0 p1, ?_⟩
  refine cl_monoJ (cl_ofJ (l := l) (D := D) (cT := cT) (adK := adK) (adV := adV) (y := yX11_policy) (cc := cX11_policy) (nL := 5) (ret := .boolean) (rk := 2) (As := [.int a, .int b, .int c, .int d]) ok (Q := fun r' s' O' => r' = r ∧ R_o K s' O' M1 F1 ∧ R_fr (cl_s u) s') (fun sz => ?_)) (fun r' u' ok' hp => ?_)
  · have e0 := ok.1
    subst e0
    exact soY_X11_policy (l := l) (g := cl_g D cT adK adV u sz) rfl a b c d (cl_s u) (cl_O u) _ (p2 _ (fun s' O' R' fr => ⟨tJ_Ro ok.2.1 v1 R' hz (by rw [fr.1]; exact ok.2.2.1), rfl, R', fr⟩))
  · obtain ⟨hN, e, R', fr⟩ := hp
    exact ⟨e, fr.1, v1, lw_B_eq hB fr.1 fr.2.2.2 v2 v3, K, R', hbd, by rw [hN]; exact hz⟩
theorem lw_complain (ok : cl_okJ h u) (V : lw_V u M F) (a b c : Int32) : ∃ (r : Int32) (M1 : e_M) (F1 : e_F), w_complain a b c M F (z_ex r M1 F1) ∧ cl_MetJ l D cT adK adV yX11_complain cX11_complain 4 .int 10 (b_mc (cl_O u)) (b_ms (cl_O u)) 0 0 h [.int a, .int b, .int c] u (fun r' u' => r' = r ∧ cl_f u' = cl_f u ∧ lw_V u' M1 F1) := by
  obtain ⟨hV, hB, K, R, hbd, hz⟩ := V
  obtain ⟨r, M1, F1, p1, p2⟩ := co_both (N := cl_N u) ok.2.1 R a b c
  have w0 : w_complain a b c M F (fun _ M' F' => e_INV M' F' ∧ M' 1 = M 1 ∧ F' 0 = F 0) := fr_complain (A := M 1) (T := F 0) (Q := fun _ M' F' => e_INV M' F') ⟨rfl, rfl⟩ (p_complain hV (fun _ _ _ a _ => a)) (fun _ M' F' i q => ⟨q, i.1, i.2⟩)
  obtain ⟨v1, v2, v3⟩ := p1 _ w0
  refine ⟨r, M1, F1, one_complain w0 p1, ?_⟩
  refine cl_monoJ (cl_ofJ (l := l) (D := D) (cT := cT) (adK := adK) (adV := adV) (y := yX11_complain) (cc := cX11_complain) (nL := 4) (ret := .int) (rk := 10) (As := [.int a, .int b, .int c]) ok (Q := fun r' s' O' => r' = r ∧ R_o K s' O' M1 F1 ∧ R_fr (cl_s u) s') (fun sz => ?_)) (fun r' u' ok' hp => ?_)
  · have e0 := ok.1
    subst e0
    exact soY_X11_complain (l := l) (g := cl_g D cT adK adV u sz) rfl a b c (cl_s u) (cl_O u) _ (p2 _ (fun s' O' R' fr => ⟨tJ_Ro ok.2.1 v1 R' hz (by rw [fr.1]; exact ok.2.2.1), rfl, R', fr⟩))
  · obtain ⟨hN, e, R', fr⟩ := hp
    exact ⟨e, fr.1, v1, lw_B_eq hB fr.1 fr.2.2.2 v2 v3, K, R', hbd, by rw [hN]; exact hz⟩
theorem lw_trial (ok : cl_okJ h u) (V : lw_V u M F) (a b c d : Int32) : ∃ (r : Int32) (M1 : e_M) (F1 : e_F), w_trial (wf_dl 3) a b c d M F (z_ex r M1 F1) ∧ cl_MetJ l D cT adK adV yX11_trial cX11_trial 5 .int 16 (b_mc (cl_O u)) (b_ms (cl_O u)) 0 0 h [.int a, .int b, .int c, .int d] u (fun r' u' => r' = r ∧ cl_f u' = cl_f u ∧ lw_V u' M1 F1) := by
  obtain ⟨hV, hB, K, R, hbd, hz⟩ := V
  obtain ⟨r, M1, F1, p1, p2⟩ := tr_both (N := cl_N u) ok.2.1 hz hV R a b c d
  have p1 : ∀ Q : Int32 → e_M → e_F → Prop, w_trial (wf_dl 3) a b c d M F Q → Q r M1 F1 := fun Q q => p1 Q 3 (Nat.le_refl _) q
  have w0 : w_trial (wf_dl 3) a b c d M F (fun _ M' F' => e_INV M' F' ∧ M' 1 = M 1 ∧ F' 0 = F 0) := fr_trial (A := M 1) (T := F 0) (Q := fun _ M' F' => e_INV M' F') (fr_dl 3) ⟨rfl, rfl⟩ (p_trial (by decide) hV (fun _ _ _ a _ => a)) (fun _ M' F' i q => ⟨q, i.1, i.2⟩)
  obtain ⟨v1, v2, v3⟩ := p1 _ w0
  refine ⟨r, M1, F1, one_trial w0 p1, ?_⟩
  refine cl_monoJ (cl_trialJ ok a b c d (Q := fun r' s' O' => r' = r ∧ R_o K s' O' M1 F1 ∧ R_fr (cl_s u) s') (p2 _ (fun s' O' R' fr => ⟨tJ_Ro ok.2.1 v1 R' hz (by rw [fr.1]; exact ok.2.2.1), rfl, R', fr⟩))) (fun r' u' ok' hp => ?_)
  obtain ⟨hN, e, R', fr⟩ := hp
  exact ⟨e, fr.1, v1, lw_B_eq hB fr.1 fr.2.2.2 v2 v3, K, R', hbd, by rw [hN]; exact hz⟩
theorem lw_about (ok : cl_okJ h u) (V : lw_V u M F) (a : Int32) : ∃ (r : Int32) (M1 : e_M) (F1 : e_F), w_about a M F (z_ex r M1 F1) ∧ cl_MetJ l D cT adK adV yX11_about cX11_about 2 .int 1 (b_mc (cl_O u)) (b_ms (cl_O u)) 0 0 h [.int a] u (fun r' u' => r' = r ∧ cl_f u' = cl_f u ∧ lw_V u' M1 F1) := by
  obtain ⟨hV, hB, K, R, hbd, hz⟩ := V
  obtain ⟨r, p1, p2⟩ := ab_both (N := cl_N u) R a
  have w0 : w_about a M F (fun _ _ _ => True) := p_about (fun _ => trivial)
  refine ⟨r, M, F, one_about w0 p1, ?_⟩
  refine cl_monoJ (cl_ofJ (l := l) (D := D) (cT := cT) (adK := adK) (adV := adV) (y := yX11_about) (cc := cX11_about) (nL := 2) (ret := .int) (rk := 1) (As := [.int a]) ok (Q := fun r' s' O' => r' = r ∧ s' = cl_s u ∧ O' = cl_O u) (fun sz => ?_)) (fun r' u' ok' hp => ?_)
  · have e0 := ok.1
    subst e0
    exact soY_X11_about (l := l) (g := cl_g D cT adK adV u sz) rfl a (cl_s u) (cl_O u) _ (p2 _ ⟨ok.2.2, rfl, rfl, rfl⟩)
  · obtain ⟨hN, e, es, eO⟩ := hp
    have e1 : cl_f u' = cl_f u := congrFun (congrArg (fun q : f_S3 => q.1) es) 1
    have e2 : u'.2.2.2.2.1 10 = u.2.2.2.2.1 10 := congrFun (congrArg (fun q : f_S3 => q.2.1) es) 10
    exact ⟨e, e1, hV, lw_B_eq hB e1 e2 rfl rfl, K, by rw [es, eO]; exact R, hbd, by rw [hN]; exact hz⟩
theorem lw_note (ok : cl_okJ h u) (V : lw_V u M F) (a : Int32) : ∃ (r : Int32) (M1 : e_M) (F1 : e_F), w_note_ a M F (z_ex r M1 F1) ∧ cl_MetJ l D cT adK adV yX11_note cX11_note 2 .int 1 (b_mc (cl_O u)) (b_ms (cl_O u)) 0 0 h [.int a] u (fun r' u' => r' = r ∧ cl_f u' = cl_f u ∧ lw_V u' M1 F1) := by
  obtain ⟨hV, hB, K, R, hbd, hz⟩ := V
  obtain ⟨r, p1, p2⟩ := no_both (N := cl_N u) ok.2.1 hV.2.2 R a
  have w0 : w_note_ a M F (fun _ _ _ => True) := p_note_ hV.2.2 (fun _ => trivial)
  refine ⟨r, M, F, one_note_ w0 p1, ?_⟩
  refine cl_monoJ (cl_ofJ (l := l) (D := D) (cT := cT) (adK := adK) (adV := adV) (y := yX11_note) (cc := cX11_note) (nL := 2) (ret := .int) (rk := 1) (As := [.int a]) ok (Q := fun r' s' O' => r' = r ∧ s' = cl_s u ∧ O' = cl_O u) (fun sz => ?_)) (fun r' u' ok' hp => ?_)
  · have e0 := ok.1
    subst e0
    exact soY_X11_note (l := l) (g := cl_g D cT adK adV u sz) rfl a (cl_s u) (cl_O u) _ (p2 _ ⟨ok.2.2, rfl, rfl, rfl⟩)
  · obtain ⟨hN, e, es, eO⟩ := hp
    have e1 : cl_f u' = cl_f u := congrFun (congrArg (fun q : f_S3 => q.1) es) 1
    have e2 : u'.2.2.2.2.1 10 = u.2.2.2.2.1 10 := congrFun (congrArg (fun q : f_S3 => q.2.1) es) 10
    exact ⟨e, e1, hV, lw_B_eq hB e1 e2 rfl rfl, K, by rw [es, eO]; exact R, hbd, by rw [hN]; exact hz⟩
theorem lw_chain (ok : cl_okJ h u) (V : lw_V u M F) (a b : Int32) : ∃ (r : Int32) (M1 : e_M) (F1 : e_F), w_chain a b M F (z_ex r M1 F1) ∧ cl_MetJ l D cT adK adV yX11_chain cX11_chain 3 .int 4 (b_mc (cl_O u)) (b_ms (cl_O u)) 0 0 h [.int a, .int b] u (fun r' u' => r' = r ∧ cl_f u' = cl_f u ∧ lw_V u' M1 F1) := by
  obtain ⟨hV, hB, K, R, hbd, hz⟩ := V
  obtain ⟨r, p1, p2⟩ := ch_both (N := cl_N u) hV.2.2 R a b
  have w0 : w_chain a b M F (fun _ _ _ => True) := p_chain hV.2.2 (fun _ => trivial)
  refine ⟨r, M, F, one_chain w0 p1, ?_⟩
  refine cl_monoJ (cl_ofJ (l := l) (D := D) (cT := cT) (adK := adK) (adV := adV) (y := yX11_chain) (cc := cX11_chain) (nL := 3) (ret := .int) (rk := 4) (As := [.int a, .int b]) ok (Q := fun r' s' O' => r' = r ∧ s' = cl_s u ∧ O' = cl_O u) (fun sz => ?_)) (fun r' u' ok' hp => ?_)
  · have e0 := ok.1
    subst e0
    exact soY_X11_chain (l := l) (g := cl_g D cT adK adV u sz) rfl a b (cl_s u) (cl_O u) _ (p2 _ ⟨ok.2.2, rfl, rfl, rfl⟩)
  · obtain ⟨hN, e, es, eO⟩ := hp
    have e1 : cl_f u' = cl_f u := congrFun (congrArg (fun q : f_S3 => q.1) es) 1
    have e2 : u'.2.2.2.2.1 10 = u.2.2.2.2.1 10 := congrFun (congrArg (fun q : f_S3 => q.2.1) es) 10
    exact ⟨e, e1, hV, lw_B_eq hB e1 e2 rfl rfl, K, by rw [es, eO]; exact R, hbd, by rw [hN]; exact hz⟩
theorem lw_complaint (ok : cl_okJ h u) (V : lw_V u M F) (a b c : Int32) : ∃ (r : Int32) (M1 : e_M) (F1 : e_F), w_complaint a b c M F (z_ex r M1 F1) ∧ cl_MetJ l D cT adK adV yX11_complaint cX11_complaint 4 .int 4 (b_mc (cl_O u)) (b_ms (cl_O u)) 0 0 h [.int a, .int b, .int c] u (fun r' u' => r' = r ∧ cl_f u' = cl_f u ∧ lw_V u' M1 F1) := by
  obtain ⟨hV, hB, K, R, hbd, hz⟩ := V
  obtain ⟨r, p1, p2⟩ := ct_both (N := cl_N u) ok.2.1 hV.2.2 R a b c
  have w0 : w_complaint a b c M F (fun _ _ _ => True) := p_complaint hV.2.2 (fun _ => trivial)
  refine ⟨r, M, F, one_complaint w0 p1, ?_⟩
  refine cl_monoJ (cl_ofJ (l := l) (D := D) (cT := cT) (adK := adK) (adV := adV) (y := yX11_complaint) (cc := cX11_complaint) (nL := 4) (ret := .int) (rk := 4) (As := [.int a, .int b, .int c]) ok (Q := fun r' s' O' => r' = r ∧ s' = cl_s u ∧ O' = cl_O u) (fun sz => ?_)) (fun r' u' ok' hp => ?_)
  · have e0 := ok.1
    subst e0
    exact soY_X11_complaint (l := l) (g := cl_g D cT adK adV u sz) rfl a b c (cl_s u) (cl_O u) _ (p2 _ ⟨ok.2.2, rfl, rfl, rfl⟩)
  · obtain ⟨hN, e, es, eO⟩ := hp
    have e1 : cl_f u' = cl_f u := congrFun (congrArg (fun q : f_S3 => q.1) es) 1
    have e2 : u'.2.2.2.2.1 10 = u.2.2.2.2.1 10 := congrFun (congrArg (fun q : f_S3 => q.2.1) es) 10
    exact ⟨e, e1, hV, lw_B_eq hB e1 e2 rfl rfl, K, by rw [es, eO]; exact R, hbd, by rw [hN]; exact hz⟩
theorem lw_fault (ok : cl_okJ h u) (V : lw_V u M F) (a : Int32) : cl_MetJ l D cT adK adV yX11_fault cX11_fault 2 .int 0 (b_mc (cl_O u)) (b_ms (cl_O u)) 0 0 h [.int a] u (fun _ u' => cl_f u' = cl_f u ∧ lw_V u' M F) := by
  obtain ⟨hV, hB, K, R, hbd, hz⟩ := V
  refine cl_monoJ (cl_ofJ (l := l) (D := D) (cT := cT) (adK := adK) (adV := adV) (y := yX11_fault) (cc := cX11_fault) (nL := 2) (ret := .int) (rk := 0) (As := [.int a]) ok (Q := fun _ s' O' => s' = cl_s u ∧ O' = cl_O u) (fun sz => ?_)) (fun r' u' ok' hp => ?_)
  · have e0 := ok.1
    subst e0
    exact soY_X11_fault (l := l) (g := cl_g D cT adK adV u sz) rfl a (cl_s u) (cl_O u) _ ⟨fun _ => ⟨fun _ => ⟨ok.2.2, rfl, rfl⟩, fun _ => ⟨ok.2.2, rfl, rfl⟩⟩, fun _ => ⟨ok.2.2, rfl, rfl⟩⟩
  · obtain ⟨hN, es, eO⟩ := hp
    have e1 : cl_f u' = cl_f u := congrFun (congrArg (fun q : f_S3 => q.1) es) 1
    have e2 : u'.2.2.2.2.1 10 = u.2.2.2.2.1 10 := congrFun (congrArg (fun q : f_S3 => q.2.1) es) 10
    exact ⟨e1, hV, lw_B_eq hB e1 e2 rfl rfl, K, by rw [es, eO]; exact R, hbd, by rw [hN]; exact hz⟩
theorem lw_feed (ok : cl_okJ h u) (V : lw_V u M F) (a b c d e : Int32) : ∃ W : Int32 → e_M → e_F → Prop, w_feed a b c d e M F W ∧ cl_MetJ l D cT adK adV yX11_feed cX11_feed 6 .int 1 (b_mc (cl_O u)) (b_ms (cl_O u)) 0 0 h [.int a, .int b, .int c, .int d, .int e] u (fun r u' => (cl_f u').toInt ≤ (cl_f u).toInt + 20 ∧ ∀ r2 M' F', W r2 M' F' → lw_V u' M' F') := by
  obtain ⟨hV, ⟨B, cc, hcc, hyB, hzB⟩, K, R, hbd, hz⟩ := V
  have ef : (cl_f u).toInt = (cc : Int) := by rw [show cl_f u = nI cc from hyB.1, fs_nI (by omega)]
  refine ⟨fun _ M' F' => (e_INV M' F' ∧ z_only M M' F F') ∧ ((cc + 20 ≤ 4000 ∧ z_B M' F' (x_fd B cc a b c d e) (cc + 20)) ∨ (4000 < cc + 20 ∧ z_B M' F' B cc)), z_feed hzB hcc a b c d e (fun g M' F' z1 z2 => ⟨⟨zo_INV hV z2 (by rw [z1.1, fs_nI (by omega)]; omega), z2⟩, Or.inl ⟨g, z1⟩⟩) (fun g => ⟨⟨hV, fun _ _ => rfl, fun _ _ _ => rfl⟩, Or.inr ⟨g, hzB⟩⟩), ?_⟩
  refine cl_monoJ (cl_feedJ ok a b c d e hyB hcc) (fun r u' ok' hp => ?_)
  obtain ⟨hN, ⟨hO, hy⟩, hp⟩ := hp
  refine ⟨?_, fun r2 M' F' hq => ?_⟩
  · rcases hp with ⟨a1, a2, a3⟩ | ⟨a1, a2, a3⟩
    · rw [show cl_f u' = nI (cc + 20) from a3.1, fs_nI (by omega), ef]; omega
    · rw [show cl_f u' = nI cc from a3.1, fs_nI (by omega), ef]; omega
  · obtain ⟨⟨q1, q2⟩, q3⟩ := hq
    refine ⟨q1, ?_, K, by rw [hO]; exact R_o_feed R hy q2, hbd, by rw [hN]; exact hz⟩
    rcases hp with ⟨a1, a2, a3⟩ | ⟨a1, a2, a3⟩ <;> rcases q3 with ⟨c1, c2⟩ | ⟨c1, c2⟩
    · exact ⟨_, _, a1, a3, c2⟩
    · omega
    · omega
    · exact ⟨_, _, hcc, a3, c2⟩
theorem lw_read (ok : cl_okJ h u) (V : lw_V u M F) (n : Nat) (hnl : (n : Int) ≤ (cl_f u).toInt) : cl_MetJ l D cT adK adV yX11_read cX11_read 4 .int 320 19 (15 + rd_ms n) 19 (15 + rd_ms n) h [.int (nI n)] u (fun r u' => cl_f u' = 0 ∧ ∃ W : Int32 → e_M → e_F → Prop, w_read (wf_blk 22) (nI n) M F W ∧ ∀ r2 M' F', W r2 M' F' → r2 = r ∧ lw_V u' M' F') := by
  have hfb := ok.2.2.1
  obtain ⟨hV, hB, K, R, hbd, hz⟩ := V
  have hf := lw_B_f hB
  have f1 : (cl_f u).toInt ≤ 4000 := hfb.2
  obtain ⟨hD, hM, hP, hT⟩ := R
  have hK := hT.2.1.1
  have t3 := hT.1.2.2
  have e27 : 1 - M 27 = nI (1 - K_B K) := by
    have : K_B K = 0 ∨ K_B K = 1 := by omega
    rcases this with q | q <;> rw [t3, q] <;> decide
  refine cl_monoJ (cl_read1J (bk := 1 - K_B K) (by omega) ok n hnl) (fun r u' ok' hp => ?_)
  obtain ⟨hp0, hO, y, he, hRD, ⟨fm1, fr1⟩, hk, hn0⟩ := hp
  obtain ⟨B, cc, hcc, hyB, hzB⟩ := hB
  have ef : (cl_f u).toInt = (cc : Int) := by rw [show cl_f u = nI cc from hyB.1, fs_nI (by omega)]
  have hF : ∀ i, i < n → F 0 i = u.2.2.2.2.1 10 i &&& 255 := fun i hi => (hzB.2 i (by omega)).trans (hyB.2 i (by omega)).symm
  have hle : nI n ≤ M 1 := Int32.le_iff_toInt_le.mpr (by rw [fs_nI (by omega), ← hf]; exact hnl)
  have hw : w_read (wf_blk 22) (nI n) M F (fun r2 M' F' => e_INV M' F' ∧ M' 1 = 0 ∧ e_FX M F r2 M' F') := p_readX (e_BK_blk 22) (by decide) hV (fun r2 M' F' a c => by
    rcases c with ⟨c1, -⟩ | ⟨-, c2, c3⟩
    · have := fs_nI (n := n) (by omega)
      rw [← hf] at c1
      omega
    · exact ⟨a, c2, c3⟩)
  refine ⟨hp0, _, hRD 22 M F _ hF e27 hle hw, fun r2 M' F' hq => ?_⟩
  obtain ⟨⟨v1, v2, fx⟩, er, h0⟩ := hq
  subst er
  have sdp := R_o_rd (s' := cl_s u') hD hM hP fm1 fr1 fx.1.1 fx.1.2
  refine ⟨rfl, v1, lw_B_0 hp0 v2, ?_⟩
  by_cases r0 : r2 = 0
  · obtain ⟨n1, al, fR⟩ := h0 r0
    obtain ⟨fc, z63⟩ := hn0 r0
    obtain ⟨q1, q2⟩ := R_t_new (KP := ((fun _ => 0), fun _ _ => 0)) fc he n1 al fR (fx.2.2 r0)
    have hz8 := (he n1).2.1
    have e63 : cl_M u' 63 = nI (Y_z y) := q1.2.2.1
    refine ⟨gF y ((fun _ => 0), fun _ _ => 0), ⟨by rw [hO]; exact sdp.1, sdp.2.1, sdp.2.2, q1⟩, q2, ?_⟩
    have z2 := z63.2
    rw [e63, fs_nI (by omega)] at z2
    show Y_z y ≤ cl_N u' 20
    omega
  · obtain ⟨k63, k64, rows, hNN⟩ := hk r0
    exact ⟨K, ⟨by rw [hO]; exact sdp.1, sdp.2.1, sdp.2.2, R_t_old (s' := cl_s u') hT hbd fx r0 ⟨k64, k63⟩ rows⟩, hbd, by rw [hNN]; exact hz⟩
/-- the class's cells behind its constructor -/
def lw_u0 (h : Nat) (v : nw_U) : cl_S := (6, (fun k => ([h, v.1 19, v.1 5, v.1 7, v.1 9, v.1 1, v.1 15, 0, 0, 0, v.1 0, v.1 20, v.1 21, v.1 22, v.1 8, v.1 10, v.1 11, v.1 12, v.1 13, v.1 14, v.1 4, v.1 2, v.1 3] : List Nat).getD k 0), (fun k => ([0, 0, 0, 0, 0, 0, 0, 0, 0, 0, 4000, 21, 21, 3, 200, 144, 96, 12, 1200, 128, 0, 16, 16] : List Nat).getD k 0), (fun k => bif Nat.beq k 3 then -1 else bif Nat.beq k 4 then -1 else bif Nat.beq k 32 then -1 else bif Nat.beq k 34 then -1 else 0), (fun k => bif Nat.beq k 11 then fun _ => -1 else fun _ => 0), (fun _ _ => 0), (v.1 6, 0))
theorem lw_u0ok (h : Nat) (v : nw_U) : cl_okJ h (lw_u0 h v) := ⟨rfl, ⟨rfl, rfl, rfl, rfl, rfl, rfl, rfl, rfl, rfl, rfl, (by decide : (0 : Nat) < 1000000), rfl, rfl⟩, ⟨(by decide : 0 ≤ (0 : Int32).toInt ∧ (0 : Int32).toInt ≤ 4000), (by decide : 0 ≤ (0 : Int32).toInt ∧ (0 : Int32).toInt ≤ 8000), (by decide : 7 * (0 : Int32).toInt ≤ ((448 * 2 ^ 0 : Nat) : Int)), (by decide : 0 ≤ (0 : Int32).toInt ∧ (0 : Int32).toInt ≤ 200), (by decide : 0 ≤ (0 : Int32).toInt ∧ (0 : Int32).toInt ≤ 128), (by decide : 0 ≤ (0 : Int32).toInt ∧ (0 : Int32).toInt ≤ ((0 : Nat) : Int)), (by decide : (0 : Nat) ≤ 7)⟩⟩
def lw_M0 : Nat → Int32 := fun k => bif Nat.beq k 27 then 1 else bif Nat.beq k 40 then -1 else bif Nat.beq k 41 then -1 else bif Nat.beq k 75 then -1 else bif Nat.beq k 77 then -1 else 0
theorem lw_inv0 : e_INV lw_M0 (fun _ _ => 0) := by
  have z : (0 : Int32).toInt = 0 := by decide
  have o : (1 : Int32).toInt = 1 := by decide
  refine ⟨(by decide : 0 ≤ (0 : Int32).toInt ∧ (0 : Int32).toInt ≤ 4000), ⟨fun _ _ => 0, 9000, 0, 0, ?_⟩, ?_⟩
  · show e_SC _ (1 : Int32).toInt (0 : Int32).toInt 9000 0 0 _
    rw [z, o]
    refine ⟨by omega, fun k h1 h2 => by omega, fun k h1 h2 => by omega, fun k h1 h2 => by omega, fun k h1 h2 => by omega⟩
  · have a : 0 ≤ (0 : Int32).toInt ∧ (0 : Int32).toInt ≤ 6 := by decide
    have c : 0 ≤ (0 : Int32).toInt ∧ (0 : Int32).toInt ≤ (0 : Int32).toInt := by decide
    exact ⟨(by decide : 0 ≤ (0 : Int32).toInt ∧ (0 : Int32).toInt ≤ 8000), fun _ _ _ => ⟨a, c⟩, fun _ _ => c, fun _ _ h => absurd (show (0 : Int32) = 1 from h) (by decide), fun _ _ => ⟨a, fun h => absurd (show (0 : Int32) = 3 from h) (by decide)⟩, fun _ _ => c, (by decide : 0 ≤ (0 : Int32).toInt ∧ (0 : Int32).toInt ≤ 200), c, c⟩
/-- both courts at their start: no text -/
def lw_K0 : k_K := ((fun _ => 0), 0, (fun _ => 0), (fun _ => 0), (fun _ => 0), (fun _ => []), (fun _ => []), (fun _ => 0), 1, 9000, 400, 400, 0, (fun _ => 0), fun _ _ => 0)
theorem lw_R0 (h : Nat) (v : nw_U) : lw_R (lw_u0 h v) lw_M0 (fun _ _ => 0) := by
  have z : (0 : Int32).toInt = 0 := by decide
  refine ⟨lw_K0, ⟨⟨⟨rfl, rfl⟩, ⟨(by decide : 0 ≤ (0 : Int32).toInt ∧ (0 : Int32).toInt ≤ 8000), (by decide : 7 * (0 : Int32).toInt ≤ ((448 * 2 ^ 0 : Nat) : Int)), (by decide : (0 : Nat) ≤ 7)⟩, fun i hi => ?_, fun j _ => rfl⟩, ⟨⟨rfl, rfl, rfl, rfl⟩, ⟨rfl, rfl, rfl, rfl⟩, fun j hj => ?_⟩, ⟨fun j _ => ⟨(by decide : (-1 : Int32) = 0 - 1), rfl⟩, fun j _ => rfl⟩, ⟨rfl, (by decide : (0 : Int32) = nI 0), (by decide : (1 : Int32) = nI 1)⟩, ⟨⟨(by decide : (0 : Nat) < 1000000), (by decide : (1 : Nat) ≤ 1), (by decide : (9000 : Nat) ≤ 9000 * 1 + 9000), (by decide : (400 : Nat) ≤ 800), (by decide : (400 : Nat) ≤ 2500), (by decide : (0 : Nat) ≤ 16)⟩, fun k a b => ?_, fun t a b => ?_, fun u a b => ?_, fun h a => ?_⟩, (by decide : (0 : Int32) = nI 0), fun i hi => ?_, fun h a => ?_⟩, ⟨(by decide : (400 : Nat) ≤ 400 * 1 + 400), (by decide : (400 : Nat) ≤ 400 * 1 + 400)⟩, Nat.zero_le _⟩
  · have hi : (i : Int) < (0 : Int32).toInt := hi
    omega
  · have hj : (j : Int) < (0 : Int32).toInt := hj
    omega
  · have a : 9000 * 1 ≤ k := a
    have b : k < 9000 := b
    omega
  · have a : 400 * 1 ≤ t := a
    have b : t < 400 := b
    omega
  · have a : 400 * 1 ≤ u := a
    have b : u < 400 := b
    omega
  · exact absurd (show h < 0 from a) (by omega)
  · exact absurd (show i < 0 from hi) (by omega)
  · exact absurd (show h < 0 from a) (by omega)
theorem lw_V0 (h : Nat) (v : nw_U) : lw_V (lw_u0 h v) lw_M0 (fun _ _ => 0) := ⟨lw_inv0, lw_B_0 rfl rfl, lw_R0 h v⟩
end ZG1
