def wY_X5_strike (N : Nat → Nat) (p1 : Int32) (p2 : Int32) (M : f_S3) (O : Nat × Nat) (Q : f_S3 → Nat × Nat → Prop) : Prop := Q (fm (fm (fm M 32 1) 34 p1) 35 p2) O
set_option maxRecDepth 20000 in
theorem soY_X5_strike {l : Launch} {g : b_S} {c : Nat} (hg : g.1 = tb_T c) (p1 : Int32) (p2 : Int32) (M : f_S3) (O : Nat × Nat) (Q : f_S3 → Nat × Nat → Prop) (hw : wY_X5_strike (b_N g) p1 p2 M O Q) : f_MetV l g yX5_strike cX5_strike 3 (0) [.ref (b_o g 3), .int p1, .int p2] M O Q := by
  refine f_MetV.of (C := RX5) (by decide) rfl (Nat.le_of_ble_eq_true rfl) (fun x Z hret => ?_)
  show f_G x g 3 O M O 0 [(0, .ref (b_o g 3)), (1, .int p1), (2, .int p2)] []
  refine ac_aload_n Z.1 0 dX5_strike_0 rfl ?_
  refine ac_iconst (v := 1) Z.1 dX5_strike_1 (by decide) ?_
  refine f_put Z b_X5 3 (oT_3 hg) 2 (by decide) (by decide) (fT_32 hg) rfl rfl fX5_15 rfl (I := 32) rfl dX5_strike_2 ?_
  refine ac_aload_n Z.1 0 dX5_strike_5 rfl ?_
  refine ac_iload_n Z.1 1 dX5_strike_6 rfl ?_
  refine f_put Z b_X5 3 (oT_3 hg) 4 (by decide) (by decide) (fT_34 hg) rfl rfl fX5_19 rfl (I := 34) rfl dX5_strike_7 ?_
  refine ac_aload_n Z.1 0 dX5_strike_10 rfl ?_
  refine ac_iload_n Z.1 2 dX5_strike_11 rfl ?_
  refine f_put Z b_X5 3 (oT_3 hg) 5 (by decide) (by decide) (fT_35 hg) rfl rfl fX5_28 rfl (I := 35) rfl dX5_strike_12 ?_
  exact hret _ _ _ _ dX5_strike_15 hw
def wY_X0_struck (N : Nat → Nat) (p1 : Int32) (p2 : Int32) (M : f_S3) (O : Nat × Nat) (Q : Int32 → f_S3 → Nat × Nat → Prop) : Prop := wY_X5_strike N p1 p2 M O (fun M1 O1 => (Q 0 M1 O1))
set_option maxRecDepth 20000 in
theorem soY_X0_struck {l : Launch} {g : b_S} {c : Nat} (hg : g.1 = tb_T c) (p1 : Int32) (p2 : Int32) (M : f_S3) (O : Nat × Nat) (Q : Int32 → f_S3 → Nat × Nat → Prop) (hw : wY_X0_struck (b_N g) p1 p2 M O Q) : f_MetI l g yX0_struck cX0_struck 3 .int (1) [.ref (b_o g 1), .int p1, .int p2] M O Q := by
  refine f_MetI.of (C := RX0) (by decide) rfl (Nat.le_of_ble_eq_true rfl) (fun x Z hret => ?_)
  show f_G x g 3 O M O 0 [(0, .ref (b_o g 1)), (1, .int p1), (2, .int p2)] []
  refine ac_aload_n Z.1 0 dX0_struck_0 rfl ?_
  refine f_getr Z b_X0 1 (oT_1 hg) 1 (by decide) (by decide) (fT_11 hg) fX0_27 rfl (h2 := (b_o g 3)) rfl dX0_struck_1 ?_
  refine ac_iload_n Z.1 1 dX0_struck_4 rfl ?_
  refine ac_iload_n Z.1 2 dX0_struck_5 rfl ?_
  refine f_callv (As := [.int p1, .int p2]) (st := []) Z b_X5.1 3 (oT_3 hg) rfl kX5_strike lkX0_96 (by omega) (soY_X5_strike hg  _ _ _ _ _ hw) rfl rfl (Nat.le_of_ble_eq_true rfl) dX0_struck_6 (fun M1 O1 hw => ?_)
  refine ac_iconst (v := 0) Z.1 dX0_struck_9 (by decide) ?_
  exact hret _ _ _ _ _ dX0_struck_10 rfl hw
def wY_X2_groundOf (N : Nat → Nat) (p1 : Int32) (M : f_S3) (O : Nat × Nat) (Q : Int32 → f_S3 → Nat × Nat → Prop) : Prop := wY_X2_get N p1 1 M O (fun r1 M2 O2 => (Q r1 M2 O2))
set_option maxRecDepth 20000 in
theorem soY_X2_groundOf {l : Launch} {g : b_S} {c : Nat} (hg : g.1 = tb_T c) (p1 : Int32) (M : f_S3) (O : Nat × Nat) (Q : Int32 → f_S3 → Nat × Nat → Prop) (hw : wY_X2_groundOf (b_N g) p1 M O Q) : f_MetI l g yX2_groundOf cX2_groundOf 2 .int (1) [.ref (b_o g 2), .int p1] M O Q := by
  refine f_MetI.of (C := RX2) (by decide) rfl (Nat.le_of_ble_eq_true rfl) (fun x Z hret => ?_)
  show f_G x g 2 O M O 0 [(0, .ref (b_o g 2)), (1, .int p1)] []
  refine ac_aload_n Z.1 0 dX2_groundOf_0 rfl ?_
  refine ac_iload_n Z.1 1 dX2_groundOf_1 rfl ?_
  refine ac_iconst (v := 1) Z.1 dX2_groundOf_2 (by decide) ?_
  refine f_calli (As := [.int p1, .int 1]) (st := []) Z b_X2.1 2 (oT_2 hg) rfl kX2_get lkX2_32 (by omega) (soY_X2_get hg  _ _ _ _ _ hw) rfl rfl (Nat.le_of_ble_eq_true rfl) dX2_groundOf_3 (fun r1 M2 O2 hw => ?_)
  exact hret _ _ _ _ _ dX2_groundOf_6 rfl hw
def wY_X0_wrapped (N : Nat → Nat) (p1 : Int32) (p2 : Int32) (M : f_S3) (O : Nat × Nat) (Q : Int32 → f_S3 → Nat × Nat → Prop) : Prop := wY_X2_groundOf N p1 M O (fun r1 M2 O2 => (wY_X2_makeInTrial N p2 r1 0 (-1) M2 O2 (fun r3 M4 O4 => ((¬ r3 = 0 → (wY_X2_settle N r3 p1 M4 O4 (fun M5 O5 => (Q r3 M5 O5)))) ∧ (r3 = 0 → (wY_X5_adjourn N M4 O4 (fun M6 O6 => (Q 0 M6 O6))))))))
set_option maxRecDepth 20000 in
theorem soY_X0_wrapped {l : Launch} {g : b_S} {c : Nat} (hg : g.1 = tb_T c) (p1 : Int32) (p2 : Int32) (M : f_S3) (O : Nat × Nat) (Q : Int32 → f_S3 → Nat × Nat → Prop) (hw : wY_X0_wrapped (b_N g) p1 p2 M O Q) : f_MetI l g yX0_wrapped cX0_wrapped 4 .int (10) [.ref (b_o g 1), .int p1, .int p2] M O Q := by
  refine f_MetI.of (C := RX0) (by decide) rfl (Nat.le_of_ble_eq_true rfl) (fun x Z hret => ?_)
  show f_G x g 4 O M O 0 [(0, .ref (b_o g 1)), (1, .int p1), (2, .int p2)] []
  refine ac_aload_n Z.1 0 dX0_wrapped_0 rfl ?_
  refine f_getr Z b_X0 1 (oT_1 hg) 0 (by decide) (by decide) (fT_10 hg) fX0_23 rfl (h2 := (b_o g 2)) rfl dX0_wrapped_1 ?_
  refine ac_iload_n Z.1 2 dX0_wrapped_4 rfl ?_
  refine ac_aload_n Z.1 0 dX0_wrapped_5 rfl ?_
  refine f_getr Z b_X0 1 (oT_1 hg) 0 (by decide) (by decide) (fT_10 hg) fX0_23 rfl (h2 := (b_o g 2)) rfl dX0_wrapped_6 ?_
  refine ac_iload_n Z.1 1 dX0_wrapped_9 rfl ?_
  refine f_calli (As := [.int p1]) (st := [.int p2, .ref (b_o g 2)]) Z b_X2.1 2 (oT_2 hg) rfl kX2_groundOf lkX0_100 (by omega) (soY_X2_groundOf hg  _ _ _ _ hw) rfl rfl (Nat.le_of_ble_eq_true rfl) dX0_wrapped_10 (fun r1 M2 O2 hw => ?_)
  refine ac_iconst (v := 0) Z.1 dX0_wrapped_13 (by decide) ?_
  refine ac_iconst (v := (-1)) Z.1 dX0_wrapped_14 (by decide) ?_
  refine f_calli (As := [.int p2, .int r1, .int 0, .int (-1)]) (st := []) Z b_X2.1 2 (oT_2 hg) rfl kX2_makeInTrial lkX0_103 (by omega) (soY_X2_makeInTrial hg  _ _ _ _ _ _ _ hw) rfl rfl (Nat.le_of_ble_eq_true rfl) dX0_wrapped_15 (fun r3 M4 O4 hw => ?_)
  refine ac_istore_n (lv' := [(3, .int r3), (0, .ref (b_o g 1)), (1, .int p1), (2, .int p2)]) Z.1 dX0_wrapped_18 (by decide) rfl ?_
  refine ac_iload_n Z.1 0 dX0_wrapped_19 rfl ?_
  obtain ⟨hwt, hwf⟩ := hw
  refine ac_if_ne (tgt := 32) Z.1 dX0_wrapped_20 (by decide) (fun hc => ?_) (fun hc => ?_)
  · have hw := hwt hc
    refine ac_aload_n Z.1 1 dX0_wrapped_32 rfl ?_
    refine f_getr Z b_X0 1 (oT_1 hg) 0 (by decide) (by decide) (fT_10 hg) fX0_23 rfl (h2 := (b_o g 2)) rfl dX0_wrapped_33 ?_
    refine ac_iload_n Z.1 0 dX0_wrapped_36 rfl ?_
    refine ac_iload_n Z.1 2 dX0_wrapped_37 rfl ?_
    refine f_callv (As := [.int r3, .int p1]) (st := []) Z b_X2.1 2 (oT_2 hg) rfl kX2_settle lkX0_109 (by omega) (soY_X2_settle hg  _ _ _ _ _ hw) rfl rfl (Nat.le_of_ble_eq_true rfl) dX0_wrapped_38 (fun M5 O5 hw => ?_)
    refine ac_iload_n Z.1 0 dX0_wrapped_41 rfl ?_
    exact hret _ _ _ _ _ dX0_wrapped_42 rfl hw
  · have hw := hwf hc
    refine ac_aload_n Z.1 1 dX0_wrapped_23 rfl ?_
    refine f_getr Z b_X0 1 (oT_1 hg) 1 (by decide) (by decide) (fT_11 hg) fX0_27 rfl (h2 := (b_o g 3)) rfl dX0_wrapped_24 ?_
    refine f_callv (As := []) (st := []) Z b_X5.1 3 (oT_3 hg) rfl kX5_adjourn lkX0_106 (by omega) (soY_X5_adjourn hg   _ _ _ hw) rfl rfl (Nat.le_of_ble_eq_true rfl) dX0_wrapped_27 (fun M6 O6 hw => ?_)
    refine ac_iconst (v := 0) Z.1 dX0_wrapped_30 (by decide) ?_
    exact hret _ _ _ _ _ dX0_wrapped_31 rfl hw
def wY_X0_entered (N : Nat → Nat) (p1 : Int32) (p2 : Int32) (M : f_S3) (O : Nat × Nat) (Q : Int32 → f_S3 → Nat × Nat → Prop) : Prop := wY_X0_complaintOf N p1 M O (fun r1 M2 O2 => ((¬ r1 = 0 → (wY_X2_join N r1 p2 M2 O2 (fun r3 M4 O4 => ((¬ r3 = (-1) → (Q p2 M4 O4)) ∧ (r3 = (-1) → (Q r1 M4 O4)))))) ∧ (r1 = 0 → (Q p2 M2 O2))))
set_option maxRecDepth 20000 in
theorem soY_X0_entered {l : Launch} {g : b_S} {c : Nat} (hg : g.1 = tb_T c) (p1 : Int32) (p2 : Int32) (M : f_S3) (O : Nat × Nat) (Q : Int32 → f_S3 → Nat × Nat → Prop) (hw : wY_X0_entered (b_N g) p1 p2 M O Q) : f_MetI l g yX0_entered cX0_entered 4 .int (3) [.ref (b_o g 1), .int p1, .int p2] M O Q := by
  refine f_MetI.of (C := RX0) (by decide) rfl (Nat.le_of_ble_eq_true rfl) (fun x Z hret => ?_)
  show f_G x g 4 O M O 0 [(0, .ref (b_o g 1)), (1, .int p1), (2, .int p2)] []
  refine ac_aload_n Z.1 0 dX0_entered_0 rfl ?_
  refine ac_iload_n Z.1 1 dX0_entered_1 rfl ?_
  refine f_calli (As := [.int p1]) (st := []) Z b_X0.1 1 (oT_1 hg) rfl kX0_complaintOf lkX0_112 (by omega) (soY_X0_complaintOf hg  _ _ _ _ hw) rfl rfl (Nat.le_of_ble_eq_true rfl) dX0_entered_2 (fun r1 M2 O2 hw => ?_)
  refine ac_istore_n (lv' := [(3, .int r1), (0, .ref (b_o g 1)), (1, .int p1), (2, .int p2)]) Z.1 dX0_entered_5 (by decide) rfl ?_
  refine ac_iload_n Z.1 0 dX0_entered_6 rfl ?_
  obtain ⟨hwt, hwf⟩ := hw
  refine ac_if_ne (tgt := 12) Z.1 dX0_entered_7 (by decide) (fun hc => ?_) (fun hc => ?_)
  · have hw := hwt hc
    refine ac_aload_n Z.1 1 dX0_entered_12 rfl ?_
    refine f_getr Z b_X0 1 (oT_1 hg) 0 (by decide) (by decide) (fT_10 hg) fX0_23 rfl (h2 := (b_o g 2)) rfl dX0_entered_13 ?_
    refine ac_iload_n Z.1 0 dX0_entered_16 rfl ?_
    refine ac_iload_n Z.1 3 dX0_entered_17 rfl ?_
    refine f_calli (As := [.int r1, .int p2]) (st := []) Z b_X2.1 2 (oT_2 hg) rfl kX2_join lkX0_115 (by omega) (soY_X2_join hg  _ _ _ _ _ hw) rfl rfl (Nat.le_of_ble_eq_true rfl) dX0_entered_18 (fun r3 M4 O4 hw => ?_)
    refine ac_iconst (v := (-1)) Z.1 dX0_entered_21 (by decide) ?_
    obtain ⟨hwt, hwf⟩ := hw
    refine ac_icmp_ne (tgt := 29) Z.1 dX0_entered_22 (by decide) (fun hc => ?_) (fun hc => ?_)
    · have hw := hwt hc
      refine ac_iload_n Z.1 3 dX0_entered_29 rfl ?_
      exact hret _ _ _ _ _ dX0_entered_30 rfl hw
    · have hw := hwf hc
      refine ac_iload_n Z.1 0 dX0_entered_25 rfl ?_
      refine ac_goto (tgt := 30) Z.1 dX0_entered_26 (by decide) ?_
      exact hret _ _ _ _ _ dX0_entered_30 rfl hw
  · have hw := hwf hc
    refine ac_iload_n Z.1 3 dX0_entered_10 rfl ?_
    exact hret _ _ _ _ _ dX0_entered_11 rfl hw
def wY_X0_dealtWith (N : Nat → Nat) (p1 : Int32) (p2 : Int32) (p3 : Int32) (p4 : Int32) (M : f_S3) (O : Nat × Nat) (Q : Int32 → f_S3 → Nat × Nat → Prop) : Prop := (p3 = 1 → (wY_X0_struck N p1 p2 M O (fun r1 M2 O2 => (Q r1 M2 O2)))) ∧ (p3 = 2 → (wY_X0_wrapped N p2 p4 M O (fun r3 M4 O4 => (Q r3 M4 O4)))) ∧ (p3 = 3 → (Q p2 M O)) ∧ (p3 = 4 → (wY_X0_entered N p1 p2 M O (fun r5 M6 O6 => (Q r5 M6 O6)))) ∧ (p3 = 5 → (wY_X2_weightOf N p2 M O (fun r7 M8 O8 => ((p4 ≤ r7 → (Q p2 M8 O8)) ∧ (¬ p4 ≤ r7 → (wY_X0_struck N p1 p2 M8 O8 (fun r9 M10 O10 => (Q r9 M10 O10)))))))) ∧ (¬ p3 = 1 → ¬ p3 = 2 → ¬ p3 = 3 → ¬ p3 = 4 → ¬ p3 = 5 → (Q p2 M O))
set_option maxRecDepth 20000 in
theorem soY_X0_dealtWith {l : Launch} {g : b_S} {c : Nat} (hg : g.1 = tb_T c) (p1 : Int32) (p2 : Int32) (p3 : Int32) (p4 : Int32) (M : f_S3) (O : Nat × Nat) (Q : Int32 → f_S3 → Nat × Nat → Prop) (hw : wY_X0_dealtWith (b_N g) p1 p2 p3 p4 M O Q) : f_MetI l g yX0_dealtWith cX0_dealtWith 5 .int (11) [.ref (b_o g 1), .int p1, .int p2, .int p3, .int p4] M O Q := by
  refine f_MetI.of (C := RX0) (by decide) rfl (Nat.le_of_ble_eq_true rfl) (fun x Z hret => ?_)
  show f_G x g 5 O M O 0 [(0, .ref (b_o g 1)), (1, .int p1), (2, .int p2), (3, .int p3), (4, .int p4)] []
  refine ac_iload_n Z.1 3 dX0_dealtWith_0 rfl ?_
  obtain ⟨hwk, hw⟩ := hw
  by_cases hk0 : p3 = 1
  · have hw := hwk hk0
    refine ac_tableIn (off := 35) (tgt := 36) Z.1 dX0_dealtWith_1 (by rw [hk0]; decide) (by rw [hk0]; decide) (by rw [hk0]; rfl) (by decide) ?_
    refine ac_aload_n Z.1 0 dX0_dealtWith_36 rfl ?_
    refine ac_iload_n Z.1 1 dX0_dealtWith_37 rfl ?_
    refine ac_iload_n Z.1 2 dX0_dealtWith_38 rfl ?_
    refine f_calli (As := [.int p1, .int p2]) (st := []) Z b_X0.1 1 (oT_1 hg) rfl kX0_struck lkX0_84 (by omega) (soY_X0_struck hg  _ _ _ _ _ hw) rfl rfl (Nat.le_of_ble_eq_true rfl) dX0_dealtWith_39 (fun r1 M2 O2 hw => ?_)
    exact hret _ _ _ _ _ dX0_dealtWith_42 rfl hw
  obtain ⟨hwk, hw⟩ := hw
  by_cases hk1 : p3 = 2
  · have hw := hwk hk1
    refine ac_tableIn (off := 42) (tgt := 43) Z.1 dX0_dealtWith_1 (by rw [hk1]; decide) (by rw [hk1]; decide) (by rw [hk1]; rfl) (by decide) ?_
    refine ac_aload_n Z.1 0 dX0_dealtWith_43 rfl ?_
    refine ac_iload_n Z.1 2 dX0_dealtWith_44 rfl ?_
    refine ac_iload Z.1 4 dX0_dealtWith_45 rfl ?_
    refine f_calli (As := [.int p2, .int p4]) (st := []) Z b_X0.1 1 (oT_1 hg) rfl kX0_wrapped lkX0_87 (by omega) (soY_X0_wrapped hg  _ _ _ _ _ hw) rfl rfl (Nat.le_of_ble_eq_true rfl) dX0_dealtWith_47 (fun r3 M4 O4 hw => ?_)
    exact hret _ _ _ _ _ dX0_dealtWith_50 rfl hw
  obtain ⟨hwk, hw⟩ := hw
  by_cases hk2 : p3 = 3
  · have hw := hwk hk2
    refine ac_tableIn (off := 81) (tgt := 82) Z.1 dX0_dealtWith_1 (by rw [hk2]; decide) (by rw [hk2]; decide) (by rw [hk2]; rfl) (by decide) ?_
    refine ac_iload_n Z.1 2 dX0_dealtWith_82 rfl ?_
    exact hret _ _ _ _ _ dX0_dealtWith_83 rfl hw
  obtain ⟨hwk, hw⟩ := hw
  by_cases hk3 : p3 = 4
  · have hw := hwk hk3
    refine ac_tableIn (off := 50) (tgt := 51) Z.1 dX0_dealtWith_1 (by rw [hk3]; decide) (by rw [hk3]; decide) (by rw [hk3]; rfl) (by decide) ?_
    refine ac_aload_n Z.1 0 dX0_dealtWith_51 rfl ?_
    refine ac_iload_n Z.1 1 dX0_dealtWith_52 rfl ?_
    refine ac_iload_n Z.1 2 dX0_dealtWith_53 rfl ?_
    refine f_calli (As := [.int p1, .int p2]) (st := []) Z b_X0.1 1 (oT_1 hg) rfl kX0_entered lkX0_90 (by omega) (soY_X0_entered hg  _ _ _ _ _ hw) rfl rfl (Nat.le_of_ble_eq_true rfl) dX0_dealtWith_54 (fun r5 M6 O6 hw => ?_)
    exact hret _ _ _ _ _ dX0_dealtWith_57 rfl hw
  obtain ⟨hwk, hw⟩ := hw
  by_cases hk4 : p3 = 5
  · have hw := hwk hk4
    refine ac_tableIn (off := 57) (tgt := 58) Z.1 dX0_dealtWith_1 (by rw [hk4]; decide) (by rw [hk4]; decide) (by rw [hk4]; rfl) (by decide) ?_
    refine ac_aload_n Z.1 0 dX0_dealtWith_58 rfl ?_
    refine f_getr Z b_X0 1 (oT_1 hg) 0 (by decide) (by decide) (fT_10 hg) fX0_23 rfl (h2 := (b_o g 2)) rfl dX0_dealtWith_59 ?_
    refine ac_iload_n Z.1 2 dX0_dealtWith_62 rfl ?_
    refine f_calli (As := [.int p2]) (st := []) Z b_X2.1 2 (oT_2 hg) rfl kX2_weightOf lkX0_93 (by omega) (soY_X2_weightOf hg  _ _ _ _ hw) rfl rfl (Nat.le_of_ble_eq_true rfl) dX0_dealtWith_63 (fun r7 M8 O8 hw => ?_)
    refine ac_iload Z.1 4 dX0_dealtWith_66 rfl ?_
    obtain ⟨hwt, hwf⟩ := hw
    refine ac_icmp_ge (tgt := 80) Z.1 dX0_dealtWith_68 (by decide) (fun hc => ?_) (fun hc => ?_)
    · have hw := hwt hc
      refine ac_iload_n Z.1 2 dX0_dealtWith_80 rfl ?_
      exact hret _ _ _ _ _ dX0_dealtWith_81 rfl hw
    · have hw := hwf hc
      refine ac_aload_n Z.1 0 dX0_dealtWith_71 rfl ?_
      refine ac_iload_n Z.1 1 dX0_dealtWith_72 rfl ?_
      refine ac_iload_n Z.1 2 dX0_dealtWith_73 rfl ?_
      refine f_calli (As := [.int p1, .int p2]) (st := []) Z b_X0.1 1 (oT_1 hg) rfl kX0_struck lkX0_84 (by omega) (soY_X0_struck hg  _ _ _ _ _ hw) rfl rfl (Nat.le_of_ble_eq_true rfl) dX0_dealtWith_74 (fun r9 M10 O10 hw => ?_)
      refine ac_goto (tgt := 81) Z.1 dX0_dealtWith_77 (by decide) ?_
      exact hret _ _ _ _ _ dX0_dealtWith_81 rfl hw
  have hw := hw hk0 hk1 hk2 hk3 hk4
  refine ac_tableOut (tgt := 82) Z.1 dX0_dealtWith_1 (by have q0 := lv_neT hk0 (show (1 : Int32).toInt = 1 by decide); have q1 := lv_neT hk1 (show (2 : Int32).toInt = 2 by decide); have q2 := lv_neT hk2 (show (3 : Int32).toInt = 3 by decide); have q3 := lv_neT hk3 (show (4 : Int32).toInt = 4 by decide); have q4 := lv_neT hk4 (show (5 : Int32).toInt = 5 by decide); omega) (by decide) ?_
  refine ac_iload_n Z.1 2 dX0_dealtWith_82 rfl ?_
  exact hret _ _ _ _ _ dX0_dealtWith_83 rfl hw
def wY_X5_uphold (N : Nat → Nat) (p1 : Int32) (M : f_S3) (O : Nat × Nat) (Q : f_S3 → Nat × Nat → Prop) : Prop := Q (fm (fm M 32 2) 35 p1) O
set_option maxRecDepth 20000 in
theorem soY_X5_uphold {l : Launch} {g : b_S} {c : Nat} (hg : g.1 = tb_T c) (p1 : Int32) (M : f_S3) (O : Nat × Nat) (Q : f_S3 → Nat × Nat → Prop) (hw : wY_X5_uphold (b_N g) p1 M O Q) : f_MetV l g yX5_uphold cX5_uphold 2 (0) [.ref (b_o g 3), .int p1] M O Q := by
  refine f_MetV.of (C := RX5) (by decide) rfl (Nat.le_of_ble_eq_true rfl) (fun x Z hret => ?_)
  show f_G x g 2 O M O 0 [(0, .ref (b_o g 3)), (1, .int p1)] []
  refine ac_aload_n Z.1 0 dX5_uphold_0 rfl ?_
  refine ac_iconst (v := 2) Z.1 dX5_uphold_1 (by decide) ?_
  refine f_put Z b_X5 3 (oT_3 hg) 2 (by decide) (by decide) (fT_32 hg) rfl rfl fX5_15 rfl (I := 32) rfl dX5_uphold_2 ?_
  refine ac_aload_n Z.1 0 dX5_uphold_5 rfl ?_
  refine ac_iload_n Z.1 1 dX5_uphold_6 rfl ?_
  refine f_put Z b_X5 3 (oT_3 hg) 5 (by decide) (by decide) (fT_35 hg) rfl rfl fX5_28 rfl (I := 35) rfl dX5_uphold_7 ?_
  exact hret _ _ _ _ dX5_uphold_10 hw
def wY_X0_conduct_211 (N : Nat → Nat) (Q : f_S3 → Nat × Nat → Prop) (a6 : Int32) (M : f_S3) (O : Nat × Nat) : Prop := (a6 = 0 → (Q M O)) ∧ (¬ a6 = 0 → (wY_X5_uphold N a6 M O (fun M3 O3 => (Q M3 O3))))
set_option maxRecDepth 20000 in
theorem sY_X0_conduct_211 {x : ac_X} {g : b_S} (hg : g.1 = tb_T 5) {l : Launch} {O0 : Nat × Nat} {Q : f_S3 → Nat × Nat → Prop} (Z : b_Cx x g l RX0 cX0_conduct 12 (14) O0) (hret : f_RV x g 12 cX0_conduct O0 Q) (a6 : Int32) (M : f_S3) (O : Nat × Nat) (hw : wY_X0_conduct_211 (b_N g) Q a6 M O) : f_G x g 12 O0 M O 211 [(0, .ref (b_o g 1)), (6, .int a6)] [] := by
  refine ac_iload Z.1 1 dX0_conduct_211 rfl ?_
  obtain ⟨hwt, hwf⟩ := hw
  refine ac_if_eq (tgt := 225) Z.1 dX0_conduct_213 (by decide) (fun hc => ?_) (fun hc => ?_)
  · have hw := hwt hc
    exact hret _ _ _ _ dX0_conduct_225 hw
  · have hw := hwf hc
    refine ac_aload_n Z.1 0 dX0_conduct_216 rfl ?_
    refine f_getr Z b_X0 1 (oT_1 hg) 1 (by decide) (by decide) (fT_11 hg) fX0_27 rfl (h2 := (b_o g 3)) rfl dX0_conduct_217 ?_
    refine ac_iload Z.1 1 dX0_conduct_220 rfl ?_
    refine f_callv (As := [.int a6]) (st := []) Z b_X5.1 3 (oT_3 hg) rfl kX5_uphold lkX0_80 (by omega) (soY_X5_uphold hg  _ _ _ _ hw) rfl rfl (Nat.le_of_ble_eq_true rfl) dX0_conduct_222 (fun M3 O3 hw => ?_)
    exact hret _ _ _ _ dX0_conduct_225 hw
def wY_X0_conduct_205 (N : Nat → Nat) (K21 : (Int32 → Int32 → Int32 → Int32 → Int32 → Int32 → Int32 → f_S3 → (Nat × Nat) → Prop)) (Q : f_S3 → Nat × Nat → Prop) (a1 : Int32) (a2 : Int32) (a3 : Int32) (a4 : Int32) (a5 : Int32) (a6 : Int32) (a7 : Int32) (M : f_S3) (O : Nat × Nat) : Prop := K21 a1 a2 a3 a4 a5 a6 (a7 + 1) M O
set_option maxRecDepth 20000 in
theorem sY_X0_conduct_205 {x : ac_X} {g : b_S} (hg : g.1 = tb_T 5) {l : Launch} {O0 : Nat × Nat} {K21 : (Int32 → Int32 → Int32 → Int32 → Int32 → Int32 → Int32 → f_S3 → (Nat × Nat) → Prop)} {Q : f_S3 → Nat × Nat → Prop} (Z : b_Cx x g l RX0 cX0_conduct 12 (14) O0) (hret : f_RV x g 12 cX0_conduct O0 Q) (hK21 : ∀ (a1 : Int32) (a2 : Int32) (a3 : Int32) (a4 : Int32) (a5 : Int32) (a6 : Int32) (a7 : Int32) (M : f_S3) (O : Nat × Nat), K21 a1 a2 a3 a4 a5 a6 a7 M O → f_G x g 12 O0 M O 21 [(0, .ref (b_o g 1)), (1, .int a1), (2, .int a2), (3, .int a3), (4, .int a4), (5, .int a5), (6, .int a6), (7, .int a7)] []) (a1 : Int32) (a2 : Int32) (a3 : Int32) (a4 : Int32) (a5 : Int32) (a6 : Int32) (a7 : Int32) (M : f_S3) (O : Nat × Nat) (hw : wY_X0_conduct_205 (b_N g) K21 Q a1 a2 a3 a4 a5 a6 a7 M O) : f_G x g 12 O0 M O 205 [(0, .ref (b_o g 1)), (1, .int a1), (2, .int a2), (3, .int a3), (4, .int a4), (5, .int a5), (6, .int a6), (7, .int a7)] [] := by
  refine ac_iinc (w := (a7 + 1)) (lv' := [(7, .int (a7 + 1)), (0, .ref (b_o g 1)), (1, .int a1), (2, .int a2), (3, .int a3), (4, .int a4), (5, .int a5), (6, .int a6)]) Z.1 7 dX0_conduct_205 rfl rfl (by decide) rfl ?_
  refine ac_goto (tgt := 21) Z.1 dX0_conduct_208 (by decide) ?_
  refine ac_lv [1, 2, 3, 4, 5, 6, 7, 0] rfl ?_
  exact hK21 _ _ _ _ _ _ _ _ _ hw
def wY_X0_conduct_186 (N : Nat → Nat) (K21 : (Int32 → Int32 → Int32 → Int32 → Int32 → Int32 → Int32 → f_S3 → (Nat × Nat) → Prop)) (Q : f_S3 → Nat × Nat → Prop) (a1 : Int32) (a2 : Int32) (a3 : Int32) (a4 : Int32) (a5 : Int32) (a6 : Int32) (a7 : Int32) (a10 : Int32) (t0 : Int32) (M : f_S3) (O : Nat × Nat) : Prop := wY_X0_dealtWith N a5 a6 a10 t0 M O (fun r8 M9 O9 => (wY_X0_conduct_205 N K21 Q a1 a2 a3 a4 (a5 + 1) r8 a7 M9 O9))
set_option maxRecDepth 20000 in
theorem sY_X0_conduct_186 {x : ac_X} {g : b_S} (hg : g.1 = tb_T 5) {l : Launch} {O0 : Nat × Nat} {K21 : (Int32 → Int32 → Int32 → Int32 → Int32 → Int32 → Int32 → f_S3 → (Nat × Nat) → Prop)} {Q : f_S3 → Nat × Nat → Prop} (Z : b_Cx x g l RX0 cX0_conduct 12 (14) O0) (hret : f_RV x g 12 cX0_conduct O0 Q) (hK21 : ∀ (a1 : Int32) (a2 : Int32) (a3 : Int32) (a4 : Int32) (a5 : Int32) (a6 : Int32) (a7 : Int32) (M : f_S3) (O : Nat × Nat), K21 a1 a2 a3 a4 a5 a6 a7 M O → f_G x g 12 O0 M O 21 [(0, .ref (b_o g 1)), (1, .int a1), (2, .int a2), (3, .int a3), (4, .int a4), (5, .int a5), (6, .int a6), (7, .int a7)] []) (a1 : Int32) (a2 : Int32) (a3 : Int32) (a4 : Int32) (a5 : Int32) (a6 : Int32) (a7 : Int32) (a10 : Int32) (t0 : Int32) (M : f_S3) (O : Nat × Nat) (hw : wY_X0_conduct_186 (b_N g) K21 Q a1 a2 a3 a4 a5 a6 a7 a10 t0 M O) : f_G x g 12 O0 M O 186 [(0, .ref (b_o g 1)), (1, .int a1), (2, .int a2), (3, .int a3), (4, .int a4), (5, .int a5), (6, .int a6), (7, .int a7), (10, .int a10)] [.int t0] := by
  refine ac_istore (lv' := [(11, .int t0), (0, .ref (b_o g 1)), (1, .int a1), (2, .int a2), (3, .int a3), (4, .int a4), (5, .int a5), (6, .int a6), (7, .int a7), (10, .int a10)]) Z.1 dX0_conduct_186 (by decide) rfl ?_
  refine ac_aload_n Z.1 1 dX0_conduct_188 rfl ?_
  refine ac_iload Z.1 6 dX0_conduct_189 rfl ?_
  refine ac_iload Z.1 7 dX0_conduct_191 rfl ?_
  refine ac_iload Z.1 9 dX0_conduct_193 rfl ?_
  refine ac_iload Z.1 0 dX0_conduct_195 rfl ?_
  refine f_calli (As := [.int a5, .int a6, .int a10, .int t0]) (st := []) Z b_X0.1 1 (oT_1 hg) rfl kX0_dealtWith lkX0_77 (by omega) (soY_X0_dealtWith hg  _ _ _ _ _ _ _ hw) rfl rfl (Nat.le_of_ble_eq_true rfl) dX0_conduct_197 (fun r8 M9 O9 hw => ?_)
  refine ac_istore (lv' := [(6, .int r8), (11, .int t0), (0, .ref (b_o g 1)), (1, .int a1), (2, .int a2), (3, .int a3), (4, .int a4), (5, .int a5), (7, .int a7), (10, .int a10)]) Z.1 dX0_conduct_200 (by decide) rfl ?_
  refine ac_iinc (w := (a5 + 1)) (lv' := [(5, .int (a5 + 1)), (6, .int r8), (11, .int t0), (0, .ref (b_o g 1)), (1, .int a1), (2, .int a2), (3, .int a3), (4, .int a4), (7, .int a7), (10, .int a10)]) Z.1 7 dX0_conduct_202 rfl rfl (by decide) rfl ?_
  refine ac_lv [3, 4, 5, 6, 7, 0, 1, 8] rfl ?_
  exact sY_X0_conduct_205 hg Z hret hK21 _ _ _ _ _ _ _ _ _ hw
def wY_X0_conduct_185 (N : Nat → Nat) (K21 : (Int32 → Int32 → Int32 → Int32 → Int32 → Int32 → Int32 → f_S3 → (Nat × Nat) → Prop)) (Q : f_S3 → Nat × Nat → Prop) (a1 : Int32) (a2 : Int32) (a3 : Int32) (a4 : Int32) (a5 : Int32) (a6 : Int32) (a7 : Int32) (a10 : Int32) (M : f_S3) (O : Nat × Nat) : Prop := wY_X0_conduct_186 N K21 Q a1 a2 a3 a4 a5 a6 a7 a10 0 M O
set_option maxRecDepth 20000 in
theorem sY_X0_conduct_185 {x : ac_X} {g : b_S} (hg : g.1 = tb_T 5) {l : Launch} {O0 : Nat × Nat} {K21 : (Int32 → Int32 → Int32 → Int32 → Int32 → Int32 → Int32 → f_S3 → (Nat × Nat) → Prop)} {Q : f_S3 → Nat × Nat → Prop} (Z : b_Cx x g l RX0 cX0_conduct 12 (14) O0) (hret : f_RV x g 12 cX0_conduct O0 Q) (hK21 : ∀ (a1 : Int32) (a2 : Int32) (a3 : Int32) (a4 : Int32) (a5 : Int32) (a6 : Int32) (a7 : Int32) (M : f_S3) (O : Nat × Nat), K21 a1 a2 a3 a4 a5 a6 a7 M O → f_G x g 12 O0 M O 21 [(0, .ref (b_o g 1)), (1, .int a1), (2, .int a2), (3, .int a3), (4, .int a4), (5, .int a5), (6, .int a6), (7, .int a7)] []) (a1 : Int32) (a2 : Int32) (a3 : Int32) (a4 : Int32) (a5 : Int32) (a6 : Int32) (a7 : Int32) (a10 : Int32) (M : f_S3) (O : Nat × Nat) (hw : wY_X0_conduct_185 (b_N g) K21 Q a1 a2 a3 a4 a5 a6 a7 a10 M O) : f_G x g 12 O0 M O 185 [(0, .ref (b_o g 1)), (1, .int a1), (2, .int a2), (3, .int a3), (4, .int a4), (5, .int a5), (6, .int a6), (7, .int a7), (10, .int a10)] [] := by
  refine ac_iconst (v := 0) Z.1 dX0_conduct_185 (by decide) ?_
  exact sY_X0_conduct_186 hg Z hret hK21 _ _ _ _ _ _ _ _ _ _ _ hw
def wY_X0_conduct_109 (N : Nat → Nat) (K21 : (Int32 → Int32 → Int32 → Int32 → Int32 → Int32 → Int32 → f_S3 → (Nat × Nat) → Prop)) (Q : f_S3 → Nat × Nat → Prop) (a1 : Int32) (a2 : Int32) (a3 : Int32) (a4 : Int32) (a5 : Int32) (a6 : Int32) (a7 : Int32) (a9 : Int32) (t0 : Int32) (M : f_S3) (O : Nat × Nat) : Prop := (¬ t0 = 3 → ((a9 < 0 → (wY_X0_conduct_185 N K21 Q a1 a2 a3 a4 a5 a6 a7 t0 M O)) ∧ (¬ a9 < 0 → (((nI (N 12)) ≤ a9 → (wY_X0_conduct_185 N K21 Q a1 a2 a3 a4 a5 a6 a7 t0 M O)) ∧ (¬ (nI (N 12)) ≤ a9 → (vp_in a9 (N 12) ∧ (wY_X0_conduct_186 N K21 Q a1 a2 a3 a4 a5 a6 a7 t0 (M.2.1 12 a9.toNatClampNeg) M O))))))) ∧ (t0 = 3 → (∀ v11, v11 = (((a4 >>> (a5 &&& 31)) ||| 1) <<< (a5 &&& 31)) → (wY_X8_hold N a1 a2 a3 (fm M 37 ((M.1 37) + 1)) O (fun r12 M13 O13 => (wY_X0_conduct_205 N K21 Q a1 a2 a3 v11 0 r12 a7 M13 O13)))))
set_option maxRecDepth 20000 in
theorem sY_X0_conduct_109 {x : ac_X} {g : b_S} (hg : g.1 = tb_T 5) {l : Launch} {O0 : Nat × Nat} {K21 : (Int32 → Int32 → Int32 → Int32 → Int32 → Int32 → Int32 → f_S3 → (Nat × Nat) → Prop)} {Q : f_S3 → Nat × Nat → Prop} (Z : b_Cx x g l RX0 cX0_conduct 12 (14) O0) (hret : f_RV x g 12 cX0_conduct O0 Q) (hK21 : ∀ (a1 : Int32) (a2 : Int32) (a3 : Int32) (a4 : Int32) (a5 : Int32) (a6 : Int32) (a7 : Int32) (M : f_S3) (O : Nat × Nat), K21 a1 a2 a3 a4 a5 a6 a7 M O → f_G x g 12 O0 M O 21 [(0, .ref (b_o g 1)), (1, .int a1), (2, .int a2), (3, .int a3), (4, .int a4), (5, .int a5), (6, .int a6), (7, .int a7)] []) (a1 : Int32) (a2 : Int32) (a3 : Int32) (a4 : Int32) (a5 : Int32) (a6 : Int32) (a7 : Int32) (a9 : Int32) (t0 : Int32) (M : f_S3) (O : Nat × Nat) (hw : wY_X0_conduct_109 (b_N g) K21 Q a1 a2 a3 a4 a5 a6 a7 a9 t0 M O) : f_G x g 12 O0 M O 109 [(0, .ref (b_o g 1)), (1, .int a1), (2, .int a2), (3, .int a3), (4, .int a4), (5, .int a5), (6, .int a6), (7, .int a7), (9, .int a9)] [.int t0] := by
  refine ac_istore (lv' := [(10, .int t0), (0, .ref (b_o g 1)), (1, .int a1), (2, .int a2), (3, .int a3), (4, .int a4), (5, .int a5), (6, .int a6), (7, .int a7), (9, .int a9)]) Z.1 dX0_conduct_109 (by decide) rfl ?_
  refine ac_iload Z.1 0 dX0_conduct_111 rfl ?_
  refine ac_iconst (v := 3) Z.1 dX0_conduct_113 (by decide) ?_
  obtain ⟨hwt, hwf⟩ := hw
  refine ac_icmp_ne (tgt := 160) Z.1 dX0_conduct_114 (by decide) (fun hc => ?_) (fun hc => ?_)
  · have hw := hwt hc
    refine ac_iload Z.1 9 dX0_conduct_160 rfl ?_
    obtain ⟨hwt, hwf⟩ := hw
    refine ac_if_lt (tgt := 185) Z.1 dX0_conduct_162 (by decide) (fun hc => ?_) (fun hc => ?_)
    · have hw := hwt hc
      refine ac_lv [1, 2, 3, 4, 5, 6, 7, 8, 0] rfl ?_
      exact sY_X0_conduct_185 hg Z hret hK21 _ _ _ _ _ _ _ _ _ _ hw
    · have hw := hwf hc
      refine ac_iload Z.1 9 dX0_conduct_165 rfl ?_
      refine ac_aload_n Z.1 1 dX0_conduct_167 rfl ?_
      refine f_getr Z b_X0 1 (oT_1 hg) 4 (by decide) (by decide) (fT_14 hg) fX0_17 rfl (h2 := (b_o g 12)) rfl dX0_conduct_168 ?_
      refine f_alen Z 2 (aT_12 hg) rfl (v := (nI (b_N g 12))) rfl dX0_conduct_171 (by decide) ?_
      obtain ⟨hwt, hwf⟩ := hw
      refine ac_icmp_ge (tgt := 185) Z.1 dX0_conduct_172 (by decide) (fun hc => ?_) (fun hc => ?_)
      · have hw := hwt hc
        refine ac_lv [1, 2, 3, 4, 5, 6, 7, 8, 0] rfl ?_
        exact sY_X0_conduct_185 hg Z hret hK21 _ _ _ _ _ _ _ _ _ _ hw
      · have hw := hwf hc
        refine ac_aload_n Z.1 1 dX0_conduct_175 rfl ?_
        refine f_getr Z b_X0 1 (oT_1 hg) 4 (by decide) (by decide) (fT_14 hg) fX0_17 rfl (h2 := (b_o g 12)) rfl dX0_conduct_176 ?_
        refine ac_iload Z.1 9 dX0_conduct_179 rfl ?_
        obtain ⟨hb10, hw⟩ := hw
        refine f_ald Z 2 (aT_12 hg) rfl hb10 (v := (M.2.1 12 a9.toNatClampNeg)) rfl dX0_conduct_181 ?_
        refine ac_goto (tgt := 186) Z.1 dX0_conduct_182 (by decide) ?_
        refine ac_lv [1, 2, 3, 4, 5, 6, 7, 8, 0] rfl ?_
        exact sY_X0_conduct_186 hg Z hret hK21 _ _ _ _ _ _ _ _ _ _ _ hw
  · have hw := hwf hc
    refine ac_aload_n Z.1 1 dX0_conduct_117 rfl ?_
    refine f_getr Z b_X0 1 (oT_1 hg) 1 (by decide) (by decide) (fT_11 hg) fX0_27 rfl (h2 := (b_o g 3)) rfl dX0_conduct_118 ?_
    refine ac_dup Z.1 dX0_conduct_121 rfl ?_
    refine f_geti Z b_X5 3 (oT_3 hg) 7 (by decide) (by decide) (fT_37 hg) fX0_71 rfl (v := (M.1 37)) rfl dX0_conduct_122 ?_
    refine ac_iconst (v := 1) Z.1 dX0_conduct_125 (by decide) ?_
    refine ac_iadd Z.1 dX0_conduct_126 ?_
    refine f_put Z b_X5 3 (oT_3 hg) 7 (by decide) (by decide) (fT_37 hg) rfl rfl fX0_71 rfl (I := 37) rfl dX0_conduct_127 ?_
    refine ac_iload Z.1 5 dX0_conduct_130 rfl ?_
    refine ac_iload Z.1 6 dX0_conduct_132 rfl ?_
    refine ac_ishr Z.1 dX0_conduct_134 rfl ?_
    refine ac_iconst (v := 1) Z.1 dX0_conduct_135 (by decide) ?_
    refine ac_ior Z.1 dX0_conduct_136 ?_
    refine ac_iload Z.1 6 dX0_conduct_137 rfl ?_
    refine ac_ishl Z.1 dX0_conduct_139 rfl ?_
    refine ac_topi (fun v11 hv11 => ?_)
    have hw := hw v11 hv11
    refine ac_istore (lv' := [(4, .int v11), (10, .int t0), (0, .ref (b_o g 1)), (1, .int a1), (2, .int a2), (3, .int a3), (5, .int a5), (6, .int a6), (7, .int a7), (9, .int a9)]) Z.1 dX0_conduct_140 (by decide) rfl ?_
    refine ac_iconst (v := 0) Z.1 dX0_conduct_142 (by decide) ?_
    refine ac_istore (lv' := [(5, .int 0), (4, .int v11), (10, .int t0), (0, .ref (b_o g 1)), (1, .int a1), (2, .int a2), (3, .int a3), (6, .int a6), (7, .int a7), (9, .int a9)]) Z.1 dX0_conduct_143 (by decide) rfl ?_
    refine ac_aload_n Z.1 3 dX0_conduct_145 rfl ?_
    refine f_getr Z b_X0 1 (oT_1 hg) 2 (by decide) (by decide) (fT_12 hg) fX0_31 rfl (h2 := (b_o g 4)) rfl dX0_conduct_146 ?_
    refine ac_iload_n Z.1 4 dX0_conduct_149 rfl ?_
    refine ac_iload_n Z.1 5 dX0_conduct_150 rfl ?_
    refine ac_iload_n Z.1 6 dX0_conduct_151 rfl ?_
    refine f_calli (As := [.int a1, .int a2, .int a3]) (st := []) Z b_X8.1 4 (oT_4 hg) rfl kX8_hold lkX0_58 (by omega) (soY_X8_hold hg  _ _ _ _ _ _ hw) rfl rfl (Nat.le_of_ble_eq_true rfl) dX0_conduct_152 (fun r12 M13 O13 hw => ?_)
    refine ac_istore (lv' := [(6, .int r12), (5, .int 0), (4, .int v11), (10, .int t0), (0, .ref (b_o g 1)), (1, .int a1), (2, .int a2), (3, .int a3), (7, .int a7), (9, .int a9)]) Z.1 dX0_conduct_155 (by decide) rfl ?_
    refine ac_goto (tgt := 205) Z.1 dX0_conduct_157 (by decide) ?_
    refine ac_lv [4, 5, 6, 7, 2, 1, 0, 8] rfl ?_
    exact sY_X0_conduct_205 hg Z hret hK21 _ _ _ _ _ _ _ _ _ hw
def wY_X0_conduct_108 (N : Nat → Nat) (K21 : (Int32 → Int32 → Int32 → Int32 → Int32 → Int32 → Int32 → f_S3 → (Nat × Nat) → Prop)) (Q : f_S3 → Nat × Nat → Prop) (a1 : Int32) (a2 : Int32) (a3 : Int32) (a4 : Int32) (a5 : Int32) (a6 : Int32) (a7 : Int32) (a9 : Int32) (M : f_S3) (O : Nat × Nat) : Prop := wY_X0_conduct_109 N K21 Q a1 a2 a3 a4 a5 a6 a7 a9 0 M O
set_option maxRecDepth 20000 in
theorem sY_X0_conduct_108 {x : ac_X} {g : b_S} (hg : g.1 = tb_T 5) {l : Launch} {O0 : Nat × Nat} {K21 : (Int32 → Int32 → Int32 → Int32 → Int32 → Int32 → Int32 → f_S3 → (Nat × Nat) → Prop)} {Q : f_S3 → Nat × Nat → Prop} (Z : b_Cx x g l RX0 cX0_conduct 12 (14) O0) (hret : f_RV x g 12 cX0_conduct O0 Q) (hK21 : ∀ (a1 : Int32) (a2 : Int32) (a3 : Int32) (a4 : Int32) (a5 : Int32) (a6 : Int32) (a7 : Int32) (M : f_S3) (O : Nat × Nat), K21 a1 a2 a3 a4 a5 a6 a7 M O → f_G x g 12 O0 M O 21 [(0, .ref (b_o g 1)), (1, .int a1), (2, .int a2), (3, .int a3), (4, .int a4), (5, .int a5), (6, .int a6), (7, .int a7)] []) (a1 : Int32) (a2 : Int32) (a3 : Int32) (a4 : Int32) (a5 : Int32) (a6 : Int32) (a7 : Int32) (a9 : Int32) (M : f_S3) (O : Nat × Nat) (hw : wY_X0_conduct_108 (b_N g) K21 Q a1 a2 a3 a4 a5 a6 a7 a9 M O) : f_G x g 12 O0 M O 108 [(0, .ref (b_o g 1)), (1, .int a1), (2, .int a2), (3, .int a3), (4, .int a4), (5, .int a5), (6, .int a6), (7, .int a7), (9, .int a9)] [] := by
  refine ac_iconst (v := 0) Z.1 dX0_conduct_108 (by decide) ?_
  exact sY_X0_conduct_109 hg Z hret hK21 _ _ _ _ _ _ _ _ _ _ _ hw
def wY_X0_conduct_81 (N : Nat → Nat) (K21 : (Int32 → Int32 → Int32 → Int32 → Int32 → Int32 → Int32 → f_S3 → (Nat × Nat) → Prop)) (Q : f_S3 → Nat × Nat → Prop) (a1 : Int32) (a2 : Int32) (a3 : Int32) (a4 : Int32) (a5 : Int32) (a6 : Int32) (a7 : Int32) (t0 : Int32) (M : f_S3) (O : Nat × Nat) : Prop := (t0 < 0 → (wY_X0_conduct_108 N K21 Q a1 a2 a3 a4 a5 a6 a7 t0 M O)) ∧ (¬ t0 < 0 → (((nI (N 11)) ≤ t0 → (wY_X0_conduct_108 N K21 Q a1 a2 a3 a4 a5 a6 a7 t0 M O)) ∧ (¬ (nI (N 11)) ≤ t0 → (vp_in t0 (N 11) ∧ (wY_X0_conduct_109 N K21 Q a1 a2 a3 a4 a5 a6 a7 t0 (M.2.1 11 t0.toNatClampNeg) M O)))))
set_option maxRecDepth 20000 in
theorem sY_X0_conduct_81 {x : ac_X} {g : b_S} (hg : g.1 = tb_T 5) {l : Launch} {O0 : Nat × Nat} {K21 : (Int32 → Int32 → Int32 → Int32 → Int32 → Int32 → Int32 → f_S3 → (Nat × Nat) → Prop)} {Q : f_S3 → Nat × Nat → Prop} (Z : b_Cx x g l RX0 cX0_conduct 12 (14) O0) (hret : f_RV x g 12 cX0_conduct O0 Q) (hK21 : ∀ (a1 : Int32) (a2 : Int32) (a3 : Int32) (a4 : Int32) (a5 : Int32) (a6 : Int32) (a7 : Int32) (M : f_S3) (O : Nat × Nat), K21 a1 a2 a3 a4 a5 a6 a7 M O → f_G x g 12 O0 M O 21 [(0, .ref (b_o g 1)), (1, .int a1), (2, .int a2), (3, .int a3), (4, .int a4), (5, .int a5), (6, .int a6), (7, .int a7)] []) (a1 : Int32) (a2 : Int32) (a3 : Int32) (a4 : Int32) (a5 : Int32) (a6 : Int32) (a7 : Int32) (t0 : Int32) (M : f_S3) (O : Nat × Nat) (hw : wY_X0_conduct_81 (b_N g) K21 Q a1 a2 a3 a4 a5 a6 a7 t0 M O) : f_G x g 12 O0 M O 81 [(0, .ref (b_o g 1)), (1, .int a1), (2, .int a2), (3, .int a3), (4, .int a4), (5, .int a5), (6, .int a6), (7, .int a7)] [.int t0] := by
  refine ac_istore (lv' := [(9, .int t0), (0, .ref (b_o g 1)), (1, .int a1), (2, .int a2), (3, .int a3), (4, .int a4), (5, .int a5), (6, .int a6), (7, .int a7)]) Z.1 dX0_conduct_81 (by decide) rfl ?_
  refine ac_iload Z.1 0 dX0_conduct_83 rfl ?_
  obtain ⟨hwt, hwf⟩ := hw
  refine ac_if_lt (tgt := 108) Z.1 dX0_conduct_85 (by decide) (fun hc => ?_) (fun hc => ?_)
  · have hw := hwt hc
    refine ac_lv [1, 2, 3, 4, 5, 6, 7, 8, 0] rfl ?_
    exact sY_X0_conduct_108 hg Z hret hK21 _ _ _ _ _ _ _ _ _ _ hw
  · have hw := hwf hc
    refine ac_iload Z.1 0 dX0_conduct_88 rfl ?_
    refine ac_aload_n Z.1 1 dX0_conduct_90 rfl ?_
    refine f_getr Z b_X0 1 (oT_1 hg) 3 (by decide) (by decide) (fT_13 hg) fX0_13 rfl (h2 := (b_o g 11)) rfl dX0_conduct_91 ?_
    refine f_alen Z 1 (aT_11 hg) rfl (v := (nI (b_N g 11))) rfl dX0_conduct_94 (by decide) ?_
    obtain ⟨hwt, hwf⟩ := hw
    refine ac_icmp_ge (tgt := 108) Z.1 dX0_conduct_95 (by decide) (fun hc => ?_) (fun hc => ?_)
    · have hw := hwt hc
      refine ac_lv [1, 2, 3, 4, 5, 6, 7, 8, 0] rfl ?_
      exact sY_X0_conduct_108 hg Z hret hK21 _ _ _ _ _ _ _ _ _ _ hw
    · have hw := hwf hc
      refine ac_aload_n Z.1 1 dX0_conduct_98 rfl ?_
      refine f_getr Z b_X0 1 (oT_1 hg) 3 (by decide) (by decide) (fT_13 hg) fX0_13 rfl (h2 := (b_o g 11)) rfl dX0_conduct_99 ?_
      refine ac_iload Z.1 0 dX0_conduct_102 rfl ?_
      obtain ⟨hb14, hw⟩ := hw
      refine f_ald Z 1 (aT_11 hg) rfl hb14 (v := (M.2.1 11 t0.toNatClampNeg)) rfl dX0_conduct_104 ?_
      refine ac_goto (tgt := 109) Z.1 dX0_conduct_105 (by decide) ?_
      refine ac_lv [1, 2, 3, 4, 5, 6, 7, 8, 0] rfl ?_
      exact sY_X0_conduct_109 hg Z hret hK21 _ _ _ _ _ _ _ _ _ _ _ hw
def wY_X0_conduct_55 (N : Nat → Nat) (K21 : (Int32 → Int32 → Int32 → Int32 → Int32 → Int32 → Int32 → f_S3 → (Nat × Nat) → Prop)) (Q : f_S3 → Nat × Nat → Prop) (a1 : Int32) (a2 : Int32) (a3 : Int32) (a4 : Int32) (a5 : Int32) (a6 : Int32) (a7 : Int32) (t0 : Int32) (M : f_S3) (O : Nat × Nat) : Prop := (t0 = 0 → (wY_X2_kindOf N a6 M O (fun r4 M5 O5 => (wY_X0_policyIndex N a5 r4 M5 O5 (fun r6 M7 O7 => (wY_X0_conduct_81 N K21 Q a1 a2 a3 a4 a5 a6 a7 r6 M7 O7)))))) ∧ (¬ t0 = 0 → (wY_X0_conduct_81 N K21 Q a1 a2 a3 a4 a5 a6 a7 (-1) M O))
set_option maxRecDepth 20000 in
theorem sY_X0_conduct_55 {x : ac_X} {g : b_S} (hg : g.1 = tb_T 5) {l : Launch} {O0 : Nat × Nat} {K21 : (Int32 → Int32 → Int32 → Int32 → Int32 → Int32 → Int32 → f_S3 → (Nat × Nat) → Prop)} {Q : f_S3 → Nat × Nat → Prop} (Z : b_Cx x g l RX0 cX0_conduct 12 (14) O0) (hret : f_RV x g 12 cX0_conduct O0 Q) (hK21 : ∀ (a1 : Int32) (a2 : Int32) (a3 : Int32) (a4 : Int32) (a5 : Int32) (a6 : Int32) (a7 : Int32) (M : f_S3) (O : Nat × Nat), K21 a1 a2 a3 a4 a5 a6 a7 M O → f_G x g 12 O0 M O 21 [(0, .ref (b_o g 1)), (1, .int a1), (2, .int a2), (3, .int a3), (4, .int a4), (5, .int a5), (6, .int a6), (7, .int a7)] []) (a1 : Int32) (a2 : Int32) (a3 : Int32) (a4 : Int32) (a5 : Int32) (a6 : Int32) (a7 : Int32) (t0 : Int32) (M : f_S3) (O : Nat × Nat) (hw : wY_X0_conduct_55 (b_N g) K21 Q a1 a2 a3 a4 a5 a6 a7 t0 M O) : f_G x g 12 O0 M O 55 [(0, .ref (b_o g 1)), (1, .int a1), (2, .int a2), (3, .int a3), (4, .int a4), (5, .int a5), (6, .int a6), (7, .int a7)] [.int t0] := by
  refine ac_istore (lv' := [(8, .int t0), (0, .ref (b_o g 1)), (1, .int a1), (2, .int a2), (3, .int a3), (4, .int a4), (5, .int a5), (6, .int a6), (7, .int a7)]) Z.1 dX0_conduct_55 (by decide) rfl ?_
  refine ac_iload Z.1 0 dX0_conduct_57 rfl ?_
  obtain ⟨hwt, hwf⟩ := hw
  refine ac_if_eq (tgt := 66) Z.1 dX0_conduct_59 (by decide) (fun hc => ?_) (fun hc => ?_)
  · have hw := hwt hc
    refine ac_aload_n Z.1 1 dX0_conduct_66 rfl ?_
    refine ac_iload Z.1 6 dX0_conduct_67 rfl ?_
    refine ac_aload_n Z.1 1 dX0_conduct_69 rfl ?_
    refine f_getr Z b_X0 1 (oT_1 hg) 0 (by decide) (by decide) (fT_10 hg) fX0_23 rfl (h2 := (b_o g 2)) rfl dX0_conduct_70 ?_
    refine ac_iload Z.1 7 dX0_conduct_73 rfl ?_
    refine f_calli (As := [.int a6]) (st := [.int a5, .ref (b_o g 1)]) Z b_X2.1 2 (oT_2 hg) rfl kX2_kindOf lkX0_64 (by omega) (soY_X2_kindOf hg  _ _ _ _ hw) rfl rfl (Nat.le_of_ble_eq_true rfl) dX0_conduct_75 (fun r4 M5 O5 hw => ?_)
    refine f_calli (As := [.int a5, .int r4]) (st := []) Z b_X0.1 1 (oT_1 hg) rfl kX0_policyIndex lkX0_67 (by omega) (soY_X0_policyIndex hg  _ _ _ _ _ hw) rfl rfl (Nat.le_of_ble_eq_true rfl) dX0_conduct_78 (fun r6 M7 O7 hw => ?_)
    refine ac_lv [1, 2, 3, 4, 5, 6, 7, 8] rfl ?_
    exact sY_X0_conduct_81 hg Z hret hK21 _ _ _ _ _ _ _ _ _ _ hw
  · have hw := hwf hc
    refine ac_iconst (v := (-1)) Z.1 dX0_conduct_62 (by decide) ?_
    refine ac_goto (tgt := 81) Z.1 dX0_conduct_63 (by decide) ?_
    refine ac_lv [1, 2, 3, 4, 5, 6, 7, 8] rfl ?_
    exact sY_X0_conduct_81 hg Z hret hK21 _ _ _ _ _ _ _ _ _ _ hw
def wY_X0_conduct_21 (N : Nat → Nat) (Q : f_S3 → Nat × Nat → Prop) : Nat → Int32 → Int32 → Int32 → Int32 → Int32 → Int32 → Int32 → f_S3 → Nat × Nat → Prop
  | 0 => fun _ _ _ _ _ _ _ _ _ => False
  | n + 1 => fun a1 a2 a3 a4 a5 a6 a7 M O => ((100 ≤ a7 → (wY_X0_conduct_211 N Q a6 M O)) ∧ (¬ 100 ≤ a7 → ((a6 = 0 → (wY_X0_conduct_211 N Q a6 M O)) ∧ (¬ a6 = 0 → ((3 ≤ a5 → (wY_X0_conduct_211 N Q a6 M O)) ∧ (¬ 3 ≤ a5 → ((¬ ((a4 >>> (a5 &&& 31)) &&& 1) = 1 → (wY_X0_conduct_55 N (wY_X0_conduct_21 N Q n) Q a1 a2 a3 a4 a5 a6 a7 0 M O)) ∧ (((a4 >>> (a5 &&& 31)) &&& 1) = 1 → (wY_X0_conduct_55 N (wY_X0_conduct_21 N Q n) Q a1 a2 a3 a4 a5 a6 a7 1 M O)))))))))
set_option maxRecDepth 20000 in
theorem sY_X0_conduct_21 {x : ac_X} {g : b_S} (hg : g.1 = tb_T 5) {l : Launch} {O0 : Nat × Nat} {Q : f_S3 → Nat × Nat → Prop} (Z : b_Cx x g l RX0 cX0_conduct 12 (14) O0) (hret : f_RV x g 12 cX0_conduct O0 Q) : ∀ (n : Nat) (a1 : Int32) (a2 : Int32) (a3 : Int32) (a4 : Int32) (a5 : Int32) (a6 : Int32) (a7 : Int32) (M : f_S3) (O : Nat × Nat), wY_X0_conduct_21 (b_N g) Q n a1 a2 a3 a4 a5 a6 a7 M O → f_G x g 12 O0 M O 21 [(0, .ref (b_o g 1)), (1, .int a1), (2, .int a2), (3, .int a3), (4, .int a4), (5, .int a5), (6, .int a6), (7, .int a7)] [] := by
  intro n
  induction n with
  | zero => intro _ _ _ _ _ _ _ _ _ hw; exact hw.elim
  | succ n ih =>
    intro a1 a2 a3 a4 a5 a6 a7 M O hw
    dsimp only [wY_X0_conduct_21] at hw
    refine ac_iload Z.1 7 dX0_conduct_21 rfl ?_
    refine ac_bipush (v := 100) Z.1 dX0_conduct_23 (by decide) ?_
    obtain ⟨hwt, hwf⟩ := hw
    refine ac_icmp_ge (tgt := 211) Z.1 dX0_conduct_25 (by decide) (fun hc => ?_) (fun hc => ?_)
    · have hw := hwt hc
      refine ac_lv [0, 6] rfl ?_
      exact sY_X0_conduct_211 hg Z hret _ _ _ hw
    · have hw := hwf hc
      refine ac_iload Z.1 6 dX0_conduct_28 rfl ?_
      obtain ⟨hwt, hwf⟩ := hw
      refine ac_if_eq (tgt := 211) Z.1 dX0_conduct_30 (by decide) (fun hc => ?_) (fun hc => ?_)
      · have hw := hwt hc
        refine ac_lv [0, 6] rfl ?_
        exact sY_X0_conduct_211 hg Z hret _ _ _ hw
      · have hw := hwf hc
        refine ac_iload Z.1 5 dX0_conduct_33 rfl ?_
        refine ac_iconst (v := 3) Z.1 dX0_conduct_35 (by decide) ?_
        obtain ⟨hwt, hwf⟩ := hw
        refine ac_icmp_ge (tgt := 211) Z.1 dX0_conduct_36 (by decide) (fun hc => ?_) (fun hc => ?_)
        · have hw := hwt hc
          refine ac_lv [0, 6] rfl ?_
          exact sY_X0_conduct_211 hg Z hret _ _ _ hw
        · have hw := hwf hc
          refine ac_iload Z.1 4 dX0_conduct_39 rfl ?_
          refine ac_iload Z.1 5 dX0_conduct_41 rfl ?_
          refine ac_ishr Z.1 dX0_conduct_43 rfl ?_
          refine ac_iconst (v := 1) Z.1 dX0_conduct_44 (by decide) ?_
          refine ac_iand Z.1 dX0_conduct_45 ?_
          refine ac_iconst (v := 1) Z.1 dX0_conduct_46 (by decide) ?_
          obtain ⟨hwt, hwf⟩ := hw
          refine ac_icmp_ne (tgt := 54) Z.1 dX0_conduct_47 (by decide) (fun hc => ?_) (fun hc => ?_)
          · have hw := hwt hc
            refine ac_iconst (v := 0) Z.1 dX0_conduct_54 (by decide) ?_
            exact sY_X0_conduct_55 hg Z hret ih _ _ _ _ _ _ _ _ _ _ hw
          · have hw := hwf hc
            refine ac_iconst (v := 1) Z.1 dX0_conduct_50 (by decide) ?_
            refine ac_goto (tgt := 55) Z.1 dX0_conduct_51 (by decide) ?_
            exact sY_X0_conduct_55 hg Z hret ih _ _ _ _ _ _ _ _ _ _ hw
def wY_X0_conduct (N : Nat → Nat) (p1 : Int32) (p2 : Int32) (p3 : Int32) (M : f_S3) (O : Nat × Nat) (Q : f_S3 → Nat × Nat → Prop) : Prop := wY_X8_hold N p1 p2 p3 M O (fun r1 M2 O2 => (∃ e21, wY_X0_conduct_21 N Q e21 p1 p2 p3 0 0 r1 0 M2 O2))
set_option maxRecDepth 20000 in
theorem soY_X0_conduct {l : Launch} {g : b_S} (hg : g.1 = tb_T 5) (p1 : Int32) (p2 : Int32) (p3 : Int32) (M : f_S3) (O : Nat × Nat) (Q : f_S3 → Nat × Nat → Prop) (hw : wY_X0_conduct (b_N g) p1 p2 p3 M O Q) : f_MetV l g yX0_conduct cX0_conduct 12 (14) [.ref (b_o g 1), .int p1, .int p2, .int p3] M O Q := by
  refine f_MetV.of (C := RX0) (by decide) rfl (Nat.le_of_ble_eq_true rfl) (fun x Z hret => ?_)
  show f_G x g 12 O M O 0 [(0, .ref (b_o g 1)), (1, .int p1), (2, .int p2), (3, .int p3)] []
  refine ac_iconst (v := 0) Z.1 dX0_conduct_0 (by decide) ?_
  refine ac_istore (lv' := [(4, .int 0), (0, .ref (b_o g 1)), (1, .int p1), (2, .int p2), (3, .int p3)]) Z.1 dX0_conduct_1 (by decide) rfl ?_
  refine ac_iconst (v := 0) Z.1 dX0_conduct_3 (by decide) ?_
  refine ac_istore (lv' := [(5, .int 0), (4, .int 0), (0, .ref (b_o g 1)), (1, .int p1), (2, .int p2), (3, .int p3)]) Z.1 dX0_conduct_4 (by decide) rfl ?_
  refine ac_aload_n Z.1 2 dX0_conduct_6 rfl ?_
  refine f_getr Z b_X0 1 (oT_1 hg) 2 (by decide) (by decide) (fT_12 hg) fX0_31 rfl (h2 := (b_o g 4)) rfl dX0_conduct_7 ?_
  refine ac_iload_n Z.1 3 dX0_conduct_10 rfl ?_
  refine ac_iload_n Z.1 4 dX0_conduct_11 rfl ?_
  refine ac_iload_n Z.1 5 dX0_conduct_12 rfl ?_
  refine f_calli (As := [.int p1, .int p2, .int p3]) (st := []) Z b_X8.1 4 (oT_4 hg) rfl kX8_hold lkX0_58 (by omega) (soY_X8_hold hg  _ _ _ _ _ _ hw) rfl rfl (Nat.le_of_ble_eq_true rfl) dX0_conduct_13 (fun r1 M2 O2 hw => ?_)
  refine ac_istore (lv' := [(6, .int r1), (5, .int 0), (4, .int 0), (0, .ref (b_o g 1)), (1, .int p1), (2, .int p2), (3, .int p3)]) Z.1 dX0_conduct_16 (by decide) rfl ?_
  refine ac_iconst (v := 0) Z.1 dX0_conduct_18 (by decide) ?_
  refine ac_istore (lv' := [(7, .int 0), (6, .int r1), (5, .int 0), (4, .int 0), (0, .ref (b_o g 1)), (1, .int p1), (2, .int p2), (3, .int p3)]) Z.1 dX0_conduct_19 (by decide) rfl ?_
  obtain ⟨n, hw⟩ := hw
  refine ac_lv [4, 5, 6, 7, 3, 2, 1, 0] rfl ?_
  exact sY_X0_conduct_21 hg Z hret n _ _ _ _ _ _ _ _ _ hw
def wY_X2_openTrial (N : Nat → Nat) (M : f_S3) (O : Nat × Nat) (Q : f_S3 → Nat × Nat → Prop) : Prop := Q (fm M 21 (M.1 22)) O
set_option maxRecDepth 20000 in
theorem soY_X2_openTrial {l : Launch} {g : b_S} {c : Nat} (hg : g.1 = tb_T c) (M : f_S3) (O : Nat × Nat) (Q : f_S3 → Nat × Nat → Prop) (hw : wY_X2_openTrial (b_N g)  M O Q) : f_MetV l g yX2_openTrial cX2_openTrial 1 (0) [.ref (b_o g 2)] M O Q := by
  refine f_MetV.of (C := RX2) (by decide) rfl (Nat.le_of_ble_eq_true rfl) (fun x Z hret => ?_)
  show f_G x g 1 O M O 0 [(0, .ref (b_o g 2))] []
  refine ac_aload_n Z.1 0 dX2_openTrial_0 rfl ?_
  refine ac_aload_n Z.1 0 dX2_openTrial_1 rfl ?_
  refine f_geti Z b_X2 2 (oT_2 hg) 2 (by decide) (by decide) (fT_22 hg) fX2_15 rfl (v := (M.1 22)) rfl dX2_openTrial_2 ?_
  refine f_put Z b_X2 2 (oT_2 hg) 1 (by decide) (by decide) (fT_21 hg) rfl rfl fX2_19 rfl (I := 21) rfl dX2_openTrial_5 ?_
  exact hret _ _ _ _ dX2_openTrial_8 hw
def wY_X2_inChain_41 (N : Nat → Nat) (Q : Int32 → f_S3 → Nat × Nat → Prop) (a3 : Int32) (M : f_S3) (O : Nat × Nat) : Prop := Q a3 M O
set_option maxRecDepth 20000 in
theorem sY_X2_inChain_41 {x : ac_X} {g : b_S} {c : Nat} (hg : g.1 = tb_T c) {l : Launch} {O0 : Nat × Nat} {Q : Int32 → f_S3 → Nat × Nat → Prop} (Z : b_Cx x g l RX2 cX2_inChain 5 (1) O0) (hret : f_RI x g 5 cX2_inChain .int O0 Q) (a3 : Int32) (M : f_S3) (O : Nat × Nat) (hw : wY_X2_inChain_41 (b_N g) Q a3 M O) : f_G x g 5 O0 M O 41 [(0, .ref (b_o g 2)), (3, .int a3)] [] := by
  refine ac_iload_n Z.1 1 dX2_inChain_41 rfl ?_
  exact hret _ _ _ _ _ dX2_inChain_42 rfl hw
def wY_X2_inChain_17 (N : Nat → Nat) (Q : Int32 → f_S3 → Nat × Nat → Prop) : Nat → Int32 → Int32 → Int32 → f_S3 → Nat × Nat → Prop
  | 0 => fun _ _ _ _ _ => False
  | n + 1 => fun a2 a3 a4 M O => ((a2 ≤ a4 → (wY_X2_inChain_41 N Q a3 M O)) ∧ (¬ a2 ≤ a4 → ((a3 = 0 → (wY_X2_inChain_41 N Q a3 M O)) ∧ (¬ a3 = 0 → (wY_X2_get N a3 6 M O (fun r1 M2 O2 => (wY_X2_inChain_17 N Q n a2 r1 (a4 + 1) M2 O2)))))))
set_option maxRecDepth 20000 in
theorem sY_X2_inChain_17 {x : ac_X} {g : b_S} {c : Nat} (hg : g.1 = tb_T c) {l : Launch} {O0 : Nat × Nat} {Q : Int32 → f_S3 → Nat × Nat → Prop} (Z : b_Cx x g l RX2 cX2_inChain 5 (1) O0) (hret : f_RI x g 5 cX2_inChain .int O0 Q) : ∀ (n : Nat) (a2 : Int32) (a3 : Int32) (a4 : Int32) (M : f_S3) (O : Nat × Nat), wY_X2_inChain_17 (b_N g) Q n a2 a3 a4 M O → f_G x g 5 O0 M O 17 [(0, .ref (b_o g 2)), (2, .int a2), (3, .int a3), (4, .int a4)] [] := by
  intro n
  induction n with
  | zero => intro _ _ _ _ _ hw; exact hw.elim
  | succ n ih =>
    intro a2 a3 a4 M O hw
    dsimp only [wY_X2_inChain_17] at hw
    refine ac_iload Z.1 3 dX2_inChain_17 rfl ?_
    refine ac_iload_n Z.1 1 dX2_inChain_19 rfl ?_
    obtain ⟨hwt, hwf⟩ := hw
    refine ac_icmp_ge (tgt := 41) Z.1 dX2_inChain_20 (by decide) (fun hc => ?_) (fun hc => ?_)
    · have hw := hwt hc
      refine ac_lv [0, 2] rfl ?_
      exact sY_X2_inChain_41 hg Z hret _ _ _ hw
    · have hw := hwf hc
      refine ac_iload_n Z.1 2 dX2_inChain_23 rfl ?_
      obtain ⟨hwt, hwf⟩ := hw
      refine ac_if_eq (tgt := 41) Z.1 dX2_inChain_24 (by decide) (fun hc => ?_) (fun hc => ?_)
      · have hw := hwt hc
        refine ac_lv [0, 2] rfl ?_
        exact sY_X2_inChain_41 hg Z hret _ _ _ hw
      · have hw := hwf hc
        refine ac_aload_n Z.1 0 dX2_inChain_27 rfl ?_
        refine ac_iload_n Z.1 2 dX2_inChain_28 rfl ?_
        refine ac_bipush (v := 6) Z.1 dX2_inChain_29 (by decide) ?_
        refine f_calli (As := [.int a3, .int 6]) (st := []) Z b_X2.1 2 (oT_2 hg) rfl kX2_get lkX2_32 (by omega) (soY_X2_get hg  _ _ _ _ _ hw) rfl rfl (Nat.le_of_ble_eq_true rfl) dX2_inChain_31 (fun r1 M2 O2 hw => ?_)
        refine ac_istore_n (lv' := [(3, .int r1), (0, .ref (b_o g 2)), (2, .int a2), (4, .int a4)]) Z.1 dX2_inChain_34 (by decide) rfl ?_
        refine ac_iinc (w := (a4 + 1)) (lv' := [(4, .int (a4 + 1)), (3, .int r1), (0, .ref (b_o g 2)), (2, .int a2)]) Z.1 3 dX2_inChain_35 rfl rfl (by decide) rfl ?_
        refine ac_goto (tgt := 17) Z.1 dX2_inChain_38 (by decide) ?_
        refine ac_lv [2, 3, 1, 0] rfl ?_
        exact ih _ _ _ _ _ hw
def wY_X2_inChain (N : Nat → Nat) (p1 : Int32) (p2 : Int32) (M : f_S3) (O : Nat × Nat) (Q : Int32 → f_S3 → Nat × Nat → Prop) : Prop := (p2 < 0 → (Q 0 M O)) ∧ (¬ p2 < 0 → ((p2 < 50 → (∃ e17, wY_X2_inChain_17 N Q e17 p2 p1 0 M O)) ∧ (¬ p2 < 50 → (Q 0 M O))))
set_option maxRecDepth 20000 in
theorem soY_X2_inChain {l : Launch} {g : b_S} {c : Nat} (hg : g.1 = tb_T c) (p1 : Int32) (p2 : Int32) (M : f_S3) (O : Nat × Nat) (Q : Int32 → f_S3 → Nat × Nat → Prop) (hw : wY_X2_inChain (b_N g) p1 p2 M O Q) : f_MetI l g yX2_inChain cX2_inChain 5 .int (1) [.ref (b_o g 2), .int p1, .int p2] M O Q := by
  refine f_MetI.of (C := RX2) (by decide) rfl (Nat.le_of_ble_eq_true rfl) (fun x Z hret => ?_)
  show f_G x g 5 O M O 0 [(0, .ref (b_o g 2)), (1, .int p1), (2, .int p2)] []
  refine ac_iload_n Z.1 2 dX2_inChain_0 rfl ?_
  obtain ⟨hwt, hwf⟩ := hw
  refine ac_if_lt (tgt := 10) Z.1 dX2_inChain_1 (by decide) (fun hc => ?_) (fun hc => ?_)
  · have hw := hwt hc
    refine ac_iconst (v := 0) Z.1 dX2_inChain_10 (by decide) ?_
    exact hret _ _ _ _ _ dX2_inChain_11 rfl hw
  · have hw := hwf hc
    refine ac_iload_n Z.1 2 dX2_inChain_4 rfl ?_
    refine ac_bipush (v := 50) Z.1 dX2_inChain_5 (by decide) ?_
    obtain ⟨hwt, hwf⟩ := hw
    refine ac_icmp_lt (tgt := 12) Z.1 dX2_inChain_7 (by decide) (fun hc => ?_) (fun hc => ?_)
    · have hw := hwt hc
      refine ac_iload_n Z.1 1 dX2_inChain_12 rfl ?_
      refine ac_istore_n (lv' := [(3, .int p1), (0, .ref (b_o g 2)), (1, .int p1), (2, .int p2)]) Z.1 dX2_inChain_13 (by decide) rfl ?_
      refine ac_iconst (v := 0) Z.1 dX2_inChain_14 (by decide) ?_
      refine ac_istore (lv' := [(4, .int 0), (3, .int p1), (0, .ref (b_o g 2)), (1, .int p1), (2, .int p2)]) Z.1 dX2_inChain_15 (by decide) rfl ?_
      obtain ⟨n, hw⟩ := hw
      refine ac_lv [2, 4, 1, 0] rfl ?_
      exact sY_X2_inChain_17 hg Z hret n _ _ _ _ _ hw
    · have hw := hwf hc
      refine ac_iconst (v := 0) Z.1 dX2_inChain_10 (by decide) ?_
      exact hret _ _ _ _ _ dX2_inChain_11 rfl hw
def wY_X2_tellOfChain (N : Nat → Nat) (p1 : Int32) (p2 : Int32) (p3 : Int32) (M : f_S3) (O : Nat × Nat) (Q : Int32 → f_S3 → Nat × Nat → Prop) : Prop := wY_X2_inChain N p1 p2 M O (fun r1 M2 O2 => (wY_X2_exists N r1 M2 O2 (fun r3 M4 O4 => ((¬ r3 = 0 → ((p3 < 0 → (Q 0 M4 O4)) ∧ (¬ p3 < 0 → ((6 < p3 → (Q 0 M4 O4)) ∧ (¬ 6 < p3 → (wY_X2_tell N r1 p3 M4 O4 (fun r5 M6 O6 => (Q r5 M6 O6)))))))) ∧ (r3 = 0 → ((¬ p3 = 0 → (Q 0 M4 O4)) ∧ (p3 = 0 → (Q (-1) M4 O4))))))))
set_option maxRecDepth 20000 in
theorem soY_X2_tellOfChain {l : Launch} {g : b_S} {c : Nat} (hg : g.1 = tb_T c) (p1 : Int32) (p2 : Int32) (p3 : Int32) (M : f_S3) (O : Nat × Nat) (Q : Int32 → f_S3 → Nat × Nat → Prop) (hw : wY_X2_tellOfChain (b_N g) p1 p2 p3 M O Q) : f_MetI l g yX2_tellOfChain cX2_tellOfChain 5 .int (3) [.ref (b_o g 2), .int p1, .int p2, .int p3] M O Q := by
  refine f_MetI.of (C := RX2) (by decide) rfl (Nat.le_of_ble_eq_true rfl) (fun x Z hret => ?_)
  show f_G x g 5 O M O 0 [(0, .ref (b_o g 2)), (1, .int p1), (2, .int p2), (3, .int p3)] []
  refine ac_aload_n Z.1 0 dX2_tellOfChain_0 rfl ?_
  refine ac_iload_n Z.1 1 dX2_tellOfChain_1 rfl ?_
  refine ac_iload_n Z.1 2 dX2_tellOfChain_2 rfl ?_
  refine f_calli (As := [.int p1, .int p2]) (st := []) Z b_X2.1 2 (oT_2 hg) rfl kX2_inChain lkX2_56 (by omega) (soY_X2_inChain hg  _ _ _ _ _ hw) rfl rfl (Nat.le_of_ble_eq_true rfl) dX2_tellOfChain_3 (fun r1 M2 O2 hw => ?_)
  refine ac_istore (lv' := [(4, .int r1), (0, .ref (b_o g 2)), (1, .int p1), (2, .int p2), (3, .int p3)]) Z.1 dX2_tellOfChain_6 (by decide) rfl ?_
  refine ac_aload_n Z.1 1 dX2_tellOfChain_8 rfl ?_
  refine ac_iload Z.1 0 dX2_tellOfChain_9 rfl ?_
  refine f_calli (As := [.int r1]) (st := []) Z b_X2.1 2 (oT_2 hg) rfl kX2_exists lkX2_36 (by omega) (soY_X2_exists hg  _ _ _ _ hw) rfl rfl (Nat.le_of_ble_eq_true rfl) dX2_tellOfChain_11 (fun r3 M4 O4 hw => ?_)
  obtain ⟨hwt, hwf⟩ := hw
  refine ac_if_ne (tgt := 27) Z.1 dX2_tellOfChain_14 (by decide) (fun hc => ?_) (fun hc => ?_)
  · have hw := hwt hc
    refine ac_iload_n Z.1 4 dX2_tellOfChain_27 rfl ?_
    obtain ⟨hwt, hwf⟩ := hw
    refine ac_if_lt (tgt := 47) Z.1 dX2_tellOfChain_28 (by decide) (fun hc => ?_) (fun hc => ?_)
    · have hw := hwt hc
      refine ac_iconst (v := 0) Z.1 dX2_tellOfChain_47 (by decide) ?_
      exact hret _ _ _ _ _ dX2_tellOfChain_48 rfl hw
    · have hw := hwf hc
      refine ac_iload_n Z.1 4 dX2_tellOfChain_31 rfl ?_
      refine ac_bipush (v := 6) Z.1 dX2_tellOfChain_32 (by decide) ?_
      obtain ⟨hwt, hwf⟩ := hw
      refine ac_icmp_gt (tgt := 47) Z.1 dX2_tellOfChain_34 (by decide) (fun hc => ?_) (fun hc => ?_)
      · have hw := hwt hc
        refine ac_iconst (v := 0) Z.1 dX2_tellOfChain_47 (by decide) ?_
        exact hret _ _ _ _ _ dX2_tellOfChain_48 rfl hw
      · have hw := hwf hc
        refine ac_aload_n Z.1 1 dX2_tellOfChain_37 rfl ?_
        refine ac_iload Z.1 0 dX2_tellOfChain_38 rfl ?_
        refine ac_iload_n Z.1 4 dX2_tellOfChain_40 rfl ?_
        refine f_calli (As := [.int r1, .int p3]) (st := []) Z b_X2.1 2 (oT_2 hg) rfl kX2_tell lkX2_59 (by omega) (soY_X2_tell hg  _ _ _ _ _ hw) rfl rfl (Nat.le_of_ble_eq_true rfl) dX2_tellOfChain_41 (fun r5 M6 O6 hw => ?_)
        refine ac_goto (tgt := 48) Z.1 dX2_tellOfChain_44 (by decide) ?_
        exact hret _ _ _ _ _ dX2_tellOfChain_48 rfl hw
  · have hw := hwf hc
    refine ac_iload_n Z.1 4 dX2_tellOfChain_17 rfl ?_
    obtain ⟨hwt, hwf⟩ := hw
    refine ac_if_ne (tgt := 25) Z.1 dX2_tellOfChain_18 (by decide) (fun hc => ?_) (fun hc => ?_)
    · have hw := hwt hc
      refine ac_iconst (v := 0) Z.1 dX2_tellOfChain_25 (by decide) ?_
      exact hret _ _ _ _ _ dX2_tellOfChain_26 rfl hw
    · have hw := hwf hc
      refine ac_iconst (v := (-1)) Z.1 dX2_tellOfChain_21 (by decide) ?_
      refine ac_goto (tgt := 26) Z.1 dX2_tellOfChain_22 (by decide) ?_
      exact hret _ _ _ _ _ dX2_tellOfChain_26 rfl hw
def wY_X5_open (N : Nat → Nat) (M : f_S3) (O : Nat × Nat) (Q : f_S3 → Nat × Nat → Prop) : Prop := Q (fm (fm (fm (fm (fm (fm (fm (fm M 31 0) 32 (-1)) 33 0) 34 (-1)) 35 0) 36 0) 37 0) 38 0) O
set_option maxRecDepth 20000 in
theorem soY_X5_open {l : Launch} {g : b_S} {c : Nat} (hg : g.1 = tb_T c) (M : f_S3) (O : Nat × Nat) (Q : f_S3 → Nat × Nat → Prop) (hw : wY_X5_open (b_N g)  M O Q) : f_MetV l g yX5_open cX5_open 1 (0) [.ref (b_o g 3)] M O Q := by
  refine f_MetV.of (C := RX5) (by decide) rfl (Nat.le_of_ble_eq_true rfl) (fun x Z hret => ?_)
  show f_G x g 1 O M O 0 [(0, .ref (b_o g 3))] []
  refine ac_aload_n Z.1 0 dX5_open_0 rfl ?_
  refine ac_iconst (v := 0) Z.1 dX5_open_1 (by decide) ?_
  refine f_put Z b_X5 3 (oT_3 hg) 1 (by decide) (by decide) (fT_31 hg) rfl rfl fX5_22 rfl (I := 31) rfl dX5_open_2 ?_
  refine ac_aload_n Z.1 0 dX5_open_5 rfl ?_
  refine ac_iconst (v := (-1)) Z.1 dX5_open_6 (by decide) ?_
  refine f_put Z b_X5 3 (oT_3 hg) 2 (by decide) (by decide) (fT_32 hg) rfl rfl fX5_15 rfl (I := 32) rfl dX5_open_7 ?_
  refine ac_aload_n Z.1 0 dX5_open_10 rfl ?_
  refine ac_iconst (v := 0) Z.1 dX5_open_11 (by decide) ?_
  refine f_put Z b_X5 3 (oT_3 hg) 3 (by decide) (by decide) (fT_33 hg) rfl rfl fX5_25 rfl (I := 33) rfl dX5_open_12 ?_
  refine ac_aload_n Z.1 0 dX5_open_15 rfl ?_
  refine ac_iconst (v := (-1)) Z.1 dX5_open_16 (by decide) ?_
  refine f_put Z b_X5 3 (oT_3 hg) 4 (by decide) (by decide) (fT_34 hg) rfl rfl fX5_19 rfl (I := 34) rfl dX5_open_17 ?_
  refine ac_aload_n Z.1 0 dX5_open_20 rfl ?_
  refine ac_iconst (v := 0) Z.1 dX5_open_21 (by decide) ?_
  refine f_put Z b_X5 3 (oT_3 hg) 5 (by decide) (by decide) (fT_35 hg) rfl rfl fX5_28 rfl (I := 35) rfl dX5_open_22 ?_
  refine ac_aload_n Z.1 0 dX5_open_25 rfl ?_
  refine ac_iconst (v := 0) Z.1 dX5_open_26 (by decide) ?_
  refine f_put Z b_X5 3 (oT_3 hg) 6 (by decide) (by decide) (fT_36 hg) rfl rfl fX5_31 rfl (I := 36) rfl dX5_open_27 ?_
  refine ac_aload_n Z.1 0 dX5_open_30 rfl ?_
  refine ac_iconst (v := 0) Z.1 dX5_open_31 (by decide) ?_
  refine f_put Z b_X5 3 (oT_3 hg) 7 (by decide) (by decide) (fT_37 hg) rfl rfl fX5_34 rfl (I := 37) rfl dX5_open_32 ?_
  refine ac_aload_n Z.1 0 dX5_open_35 rfl ?_
  refine ac_iconst (v := 0) Z.1 dX5_open_36 (by decide) ?_
  refine f_put Z b_X5 3 (oT_3 hg) 8 (by decide) (by decide) (fT_38 hg) rfl rfl fX5_37 rfl (I := 38) rfl dX5_open_37 ?_
  exact hret _ _ _ _ dX5_open_40 hw
def wY_X5_noteAt (N : Nat → Nat) (p1 : Int32) (M : f_S3) (O : Nat × Nat) (Q : Int32 → f_S3 → Nat × Nat → Prop) : Prop := (p1 < 0 → (Q 0 M O)) ∧ (¬ p1 < 0 → (((M.1 31) ≤ p1 → (Q 0 M O)) ∧ (¬ (M.1 31) ≤ p1 → (((nI (N 14)) ≤ p1 → (Q 0 M O)) ∧ (¬ (nI (N 14)) ≤ p1 → (vp_in p1 (N 14) ∧ (Q (M.2.1 14 p1.toNatClampNeg) M O)))))))
set_option maxRecDepth 20000 in
theorem soY_X5_noteAt {l : Launch} {g : b_S} {c : Nat} (hg : g.1 = tb_T c) (p1 : Int32) (M : f_S3) (O : Nat × Nat) (Q : Int32 → f_S3 → Nat × Nat → Prop) (hw : wY_X5_noteAt (b_N g) p1 M O Q) : f_MetI l g yX5_noteAt cX5_noteAt 2 .int (0) [.ref (b_o g 3), .int p1] M O Q := by
  refine f_MetI.of (C := RX5) (by decide) rfl (Nat.le_of_ble_eq_true rfl) (fun x Z hret => ?_)
  show f_G x g 2 O M O 0 [(0, .ref (b_o g 3)), (1, .int p1)] []
  refine ac_iload_n Z.1 1 dX5_noteAt_0 rfl ?_
  obtain ⟨hwt, hwf⟩ := hw
  refine ac_if_lt (tgt := 30) Z.1 dX5_noteAt_1 (by decide) (fun hc => ?_) (fun hc => ?_)
  · have hw := hwt hc
    refine ac_iconst (v := 0) Z.1 dX5_noteAt_30 (by decide) ?_
    exact hret _ _ _ _ _ dX5_noteAt_31 rfl hw
  · have hw := hwf hc
    refine ac_iload_n Z.1 1 dX5_noteAt_4 rfl ?_
    refine ac_aload_n Z.1 0 dX5_noteAt_5 rfl ?_
    refine f_geti Z b_X5 3 (oT_3 hg) 1 (by decide) (by decide) (fT_31 hg) fX5_22 rfl (v := (M.1 31)) rfl dX5_noteAt_6 ?_
    obtain ⟨hwt, hwf⟩ := hw
    refine ac_icmp_ge (tgt := 30) Z.1 dX5_noteAt_9 (by decide) (fun hc => ?_) (fun hc => ?_)
    · have hw := hwt hc
      refine ac_iconst (v := 0) Z.1 dX5_noteAt_30 (by decide) ?_
      exact hret _ _ _ _ _ dX5_noteAt_31 rfl hw
    · have hw := hwf hc
      refine ac_iload_n Z.1 1 dX5_noteAt_12 rfl ?_
      refine ac_aload_n Z.1 0 dX5_noteAt_13 rfl ?_
      refine f_getr Z b_X5 3 (oT_3 hg) 0 (by decide) (by decide) (fT_30 hg) fX5_11 rfl (h2 := (b_o g 14)) rfl dX5_noteAt_14 ?_
      refine f_alen Z 5 (aT_14 hg) rfl (v := (nI (b_N g 14))) rfl dX5_noteAt_17 (by decide) ?_
      obtain ⟨hwt, hwf⟩ := hw
      refine ac_icmp_ge (tgt := 30) Z.1 dX5_noteAt_18 (by decide) (fun hc => ?_) (fun hc => ?_)
      · have hw := hwt hc
        refine ac_iconst (v := 0) Z.1 dX5_noteAt_30 (by decide) ?_
        exact hret _ _ _ _ _ dX5_noteAt_31 rfl hw
      · have hw := hwf hc
        refine ac_aload_n Z.1 0 dX5_noteAt_21 rfl ?_
        refine f_getr Z b_X5 3 (oT_3 hg) 0 (by decide) (by decide) (fT_30 hg) fX5_11 rfl (h2 := (b_o g 14)) rfl dX5_noteAt_22 ?_
        refine ac_iload_n Z.1 1 dX5_noteAt_25 rfl ?_
        obtain ⟨hb1, hw⟩ := hw
        refine f_ald Z 5 (aT_14 hg) rfl hb1 (v := (M.2.1 14 p1.toNatClampNeg)) rfl dX5_noteAt_26 ?_
        refine ac_goto (tgt := 31) Z.1 dX5_noteAt_27 (by decide) ?_
        exact hret _ _ _ _ _ dX5_noteAt_31 rfl hw
def wY_X5_tell (N : Nat → Nat) (p1 : Int32) (M : f_S3) (O : Nat × Nat) (Q : Int32 → f_S3 → Nat × Nat → Prop) : Prop := (p1 = 0 → (Q (M.1 32) M O)) ∧ (p1 = 1 → (Q (M.1 33) M O)) ∧ (p1 = 2 → (Q (M.1 34) M O)) ∧ (p1 = 3 → (Q (M.1 36) M O)) ∧ (p1 = 4 → (Q (M.1 31) M O)) ∧ (p1 = 5 → (Q (M.1 37) M O)) ∧ (p1 = 6 → (Q (M.1 38) M O)) ∧ (¬ p1 = 0 → ¬ p1 = 1 → ¬ p1 = 2 → ¬ p1 = 3 → ¬ p1 = 4 → ¬ p1 = 5 → ¬ p1 = 6 → (Q (-1) M O))
set_option maxRecDepth 20000 in
theorem soY_X5_tell {l : Launch} {g : b_S} {c : Nat} (hg : g.1 = tb_T c) (p1 : Int32) (M : f_S3) (O : Nat × Nat) (Q : Int32 → f_S3 → Nat × Nat → Prop) (hw : wY_X5_tell (b_N g) p1 M O Q) : f_MetI l g yX5_tell cX5_tell 2 .int (0) [.ref (b_o g 3), .int p1] M O Q := by
  refine f_MetI.of (C := RX5) (by decide) rfl (Nat.le_of_ble_eq_true rfl) (fun x Z hret => ?_)
  show f_G x g 2 O M O 0 [(0, .ref (b_o g 3)), (1, .int p1)] []
  refine ac_iload_n Z.1 1 dX5_tell_0 rfl ?_
  obtain ⟨hwk, hw⟩ := hw
  by_cases hk0 : p1 = 0
  · have hw := hwk hk0
    refine ac_tableIn (off := 43) (tgt := 44) Z.1 dX5_tell_1 (by rw [hk0]; decide) (by rw [hk0]; decide) (by rw [hk0]; rfl) (by decide) ?_
    refine ac_aload_n Z.1 0 dX5_tell_44 rfl ?_
    refine f_geti Z b_X5 3 (oT_3 hg) 2 (by decide) (by decide) (fT_32 hg) fX5_15 rfl (v := (M.1 32)) rfl dX5_tell_45 ?_
    exact hret _ _ _ _ _ dX5_tell_48 rfl hw
  obtain ⟨hwk, hw⟩ := hw
  by_cases hk1 : p1 = 1
  · have hw := hwk hk1
    refine ac_tableIn (off := 48) (tgt := 49) Z.1 dX5_tell_1 (by rw [hk1]; decide) (by rw [hk1]; decide) (by rw [hk1]; rfl) (by decide) ?_
    refine ac_aload_n Z.1 0 dX5_tell_49 rfl ?_
    refine f_geti Z b_X5 3 (oT_3 hg) 3 (by decide) (by decide) (fT_33 hg) fX5_25 rfl (v := (M.1 33)) rfl dX5_tell_50 ?_
    exact hret _ _ _ _ _ dX5_tell_53 rfl hw
  obtain ⟨hwk, hw⟩ := hw
  by_cases hk2 : p1 = 2
  · have hw := hwk hk2
    refine ac_tableIn (off := 53) (tgt := 54) Z.1 dX5_tell_1 (by rw [hk2]; decide) (by rw [hk2]; decide) (by rw [hk2]; rfl) (by decide) ?_
    refine ac_aload_n Z.1 0 dX5_tell_54 rfl ?_
    refine f_geti Z b_X5 3 (oT_3 hg) 4 (by decide) (by decide) (fT_34 hg) fX5_19 rfl (v := (M.1 34)) rfl dX5_tell_55 ?_
    exact hret _ _ _ _ _ dX5_tell_58 rfl hw
  obtain ⟨hwk, hw⟩ := hw
  by_cases hk3 : p1 = 3
  · have hw := hwk hk3
    refine ac_tableIn (off := 58) (tgt := 59) Z.1 dX5_tell_1 (by rw [hk3]; decide) (by rw [hk3]; decide) (by rw [hk3]; rfl) (by decide) ?_
    refine ac_aload_n Z.1 0 dX5_tell_59 rfl ?_
    refine f_geti Z b_X5 3 (oT_3 hg) 6 (by decide) (by decide) (fT_36 hg) fX5_31 rfl (v := (M.1 36)) rfl dX5_tell_60 ?_
    exact hret _ _ _ _ _ dX5_tell_63 rfl hw
  obtain ⟨hwk, hw⟩ := hw
  by_cases hk4 : p1 = 4
  · have hw := hwk hk4
    refine ac_tableIn (off := 63) (tgt := 64) Z.1 dX5_tell_1 (by rw [hk4]; decide) (by rw [hk4]; decide) (by rw [hk4]; rfl) (by decide) ?_
    refine ac_aload_n Z.1 0 dX5_tell_64 rfl ?_
    refine f_geti Z b_X5 3 (oT_3 hg) 1 (by decide) (by decide) (fT_31 hg) fX5_22 rfl (v := (M.1 31)) rfl dX5_tell_65 ?_
    exact hret _ _ _ _ _ dX5_tell_68 rfl hw
  obtain ⟨hwk, hw⟩ := hw
  by_cases hk5 : p1 = 5
  · have hw := hwk hk5
    refine ac_tableIn (off := 68) (tgt := 69) Z.1 dX5_tell_1 (by rw [hk5]; decide) (by rw [hk5]; decide) (by rw [hk5]; rfl) (by decide) ?_
    refine ac_aload_n Z.1 0 dX5_tell_69 rfl ?_
    refine f_geti Z b_X5 3 (oT_3 hg) 7 (by decide) (by decide) (fT_37 hg) fX5_34 rfl (v := (M.1 37)) rfl dX5_tell_70 ?_
    exact hret _ _ _ _ _ dX5_tell_73 rfl hw
  obtain ⟨hwk, hw⟩ := hw
  by_cases hk6 : p1 = 6
  · have hw := hwk hk6
    refine ac_tableIn (off := 73) (tgt := 74) Z.1 dX5_tell_1 (by rw [hk6]; decide) (by rw [hk6]; decide) (by rw [hk6]; rfl) (by decide) ?_
    refine ac_aload_n Z.1 0 dX5_tell_74 rfl ?_
    refine f_geti Z b_X5 3 (oT_3 hg) 8 (by decide) (by decide) (fT_38 hg) fX5_37 rfl (v := (M.1 38)) rfl dX5_tell_75 ?_
    exact hret _ _ _ _ _ dX5_tell_78 rfl hw
  have hw := hw hk0 hk1 hk2 hk3 hk4 hk5 hk6
  refine ac_tableOut (tgt := 79) Z.1 dX5_tell_1 (by have q0 := lv_neT hk0 (show (0 : Int32).toInt = 0 by decide); have q1 := lv_neT hk1 (show (1 : Int32).toInt = 1 by decide); have q2 := lv_neT hk2 (show (2 : Int32).toInt = 2 by decide); have q3 := lv_neT hk3 (show (3 : Int32).toInt = 3 by decide); have q4 := lv_neT hk4 (show (4 : Int32).toInt = 4 by decide); have q5 := lv_neT hk5 (show (5 : Int32).toInt = 5 by decide); have q6 := lv_neT hk6 (show (6 : Int32).toInt = 6 by decide); omega) (by decide) ?_
  refine ac_iconst (v := (-1)) Z.1 dX5_tell_79 (by decide) ?_
  exact hret _ _ _ _ _ dX5_tell_80 rfl hw
def wY_X11_fault (N : Nat → Nat) (p1 : Int32) (M : f_S3) (O : Nat × Nat) (Q : Int32 → f_S3 → Nat × Nat → Prop) : Prop := (¬ p1 = 0 → ((¬ p1 = 1 → (Q (-1) M O)) ∧ (p1 = 1 → (Q (M.1 4) M O)))) ∧ (p1 = 0 → (Q (M.1 3) M O))
set_option maxRecDepth 20000 in
theorem soY_X11_fault {l : Launch} {g : b_S} {c : Nat} (hg : g.1 = tb_T c) (p1 : Int32) (M : f_S3) (O : Nat × Nat) (Q : Int32 → f_S3 → Nat × Nat → Prop) (hw : wY_X11_fault (b_N g) p1 M O Q) : f_MetI l g yX11_fault cX11_fault 2 .int (0) [.ref (b_o g 0), .int p1] M O Q := by
  refine f_MetI.of (C := RX11) (by decide) rfl (Nat.le_of_ble_eq_true rfl) (fun x Z hret => ?_)
  show f_G x g 2 O M O 0 [(0, .ref (b_o g 0)), (1, .int p1)] []
  refine ac_iload_n Z.1 1 dX11_fault_0 rfl ?_
  obtain ⟨hwt, hwf⟩ := hw
  refine ac_if_ne (tgt := 9) Z.1 dX11_fault_1 (by decide) (fun hc => ?_) (fun hc => ?_)
  · have hw := hwt hc
    refine ac_iload_n Z.1 1 dX11_fault_9 rfl ?_
    refine ac_iconst (v := 1) Z.1 dX11_fault_10 (by decide) ?_
    obtain ⟨hwt, hwf⟩ := hw
    refine ac_icmp_ne (tgt := 21) Z.1 dX11_fault_11 (by decide) (fun hc => ?_) (fun hc => ?_)
    · have hw := hwt hc
      refine ac_iconst (v := (-1)) Z.1 dX11_fault_21 (by decide) ?_
      exact hret _ _ _ _ _ dX11_fault_22 rfl hw
    · have hw := hwf hc
      refine ac_aload_n Z.1 0 dX11_fault_14 rfl ?_
      refine f_geti Z b_X11 0 (oT_0 hg) 4 (by decide) (by decide) (fT_4 hg) fX11_26 rfl (v := (M.1 4)) rfl dX11_fault_15 ?_
      refine ac_goto (tgt := 22) Z.1 dX11_fault_18 (by decide) ?_
      exact hret _ _ _ _ _ dX11_fault_22 rfl hw
  · have hw := hwf hc
    refine ac_aload_n Z.1 0 dX11_fault_4 rfl ?_
    refine f_geti Z b_X11 0 (oT_0 hg) 3 (by decide) (by decide) (fT_3 hg) fX11_22 rfl (v := (M.1 3)) rfl dX11_fault_5 ?_
    exact hret _ _ _ _ _ dX11_fault_8 rfl hw
def wY_X11_policy (N : Nat → Nat) (p1 : Int32) (p2 : Int32) (p3 : Int32) (p4 : Int32) (M : f_S3) (O : Nat × Nat) (Q : Int32 → f_S3 → Nat × Nat → Prop) : Prop := wY_X0_setPolicy N p1 p2 p3 p4 M O (fun r1 M2 O2 => ((r1 = 0 ∨ r1 = 1) ∧ (Q r1 M2 O2)))
set_option maxRecDepth 20000 in
theorem soY_X11_policy {l : Launch} {g : b_S} {c : Nat} (hg : g.1 = tb_T c) (p1 : Int32) (p2 : Int32) (p3 : Int32) (p4 : Int32) (M : f_S3) (O : Nat × Nat) (Q : Int32 → f_S3 → Nat × Nat → Prop) (hw : wY_X11_policy (b_N g) p1 p2 p3 p4 M O Q) : f_MetI l g yX11_policy cX11_policy 5 .boolean (2) [.ref (b_o g 0), .int p1, .int p2, .int p3, .int p4] M O Q := by
  refine f_MetI.of (C := RX11) (by decide) rfl (Nat.le_of_ble_eq_true rfl) (fun x Z hret => ?_)
  show f_G x g 5 O M O 0 [(0, .ref (b_o g 0)), (1, .int p1), (2, .int p2), (3, .int p3), (4, .int p4)] []
  refine ac_aload_n Z.1 0 dX11_policy_0 rfl ?_
  refine f_getr Z b_X11 0 (oT_0 hg) 8 (by decide) (by decide) (fT_8 hg) fX11_57 rfl (h2 := (b_o g 1)) rfl dX11_policy_1 ?_
  refine ac_iload_n Z.1 1 dX11_policy_4 rfl ?_
  refine ac_iload_n Z.1 2 dX11_policy_5 rfl ?_
  refine ac_iload_n Z.1 3 dX11_policy_6 rfl ?_
  refine ac_iload Z.1 4 dX11_policy_7 rfl ?_
  refine f_calli (As := [.int p1, .int p2, .int p3, .int p4]) (st := []) Z b_X0.1 1 (oT_1 hg) rfl kX0_setPolicy lkX11_84 (by omega) (soY_X0_setPolicy hg  _ _ _ _ _ _ _ hw) rfl rfl (Nat.le_of_ble_eq_true rfl) dX11_policy_9 (fun r1 M2 O2 hw => ?_)
  obtain ⟨hbz, hw⟩ := hw
  exact hret _ _ _ _ _ dX11_policy_12 (by rcases hbz with q | q <;> rw [q] <;> rfl) hw
def wY_X11_complain (N : Nat → Nat) (p1 : Int32) (p2 : Int32) (p3 : Int32) (M : f_S3) (O : Nat × Nat) (Q : Int32 → f_S3 → Nat × Nat → Prop) : Prop := wY_X0_enterComplaint N p1 p2 p3 M O (fun r1 M2 O2 => (Q r1 M2 O2))
set_option maxRecDepth 20000 in
theorem soY_X11_complain {l : Launch} {g : b_S} {c : Nat} (hg : g.1 = tb_T c) (p1 : Int32) (p2 : Int32) (p3 : Int32) (M : f_S3) (O : Nat × Nat) (Q : Int32 → f_S3 → Nat × Nat → Prop) (hw : wY_X11_complain (b_N g) p1 p2 p3 M O Q) : f_MetI l g yX11_complain cX11_complain 4 .int (10) [.ref (b_o g 0), .int p1, .int p2, .int p3] M O Q := by
  refine f_MetI.of (C := RX11) (by decide) rfl (Nat.le_of_ble_eq_true rfl) (fun x Z hret => ?_)
  show f_G x g 4 O M O 0 [(0, .ref (b_o g 0)), (1, .int p1), (2, .int p2), (3, .int p3)] []
  refine ac_aload_n Z.1 0 dX11_complain_0 rfl ?_
  refine f_getr Z b_X11 0 (oT_0 hg) 8 (by decide) (by decide) (fT_8 hg) fX11_57 rfl (h2 := (b_o g 1)) rfl dX11_complain_1 ?_
  refine ac_iload_n Z.1 1 dX11_complain_4 rfl ?_
  refine ac_iload_n Z.1 2 dX11_complain_5 rfl ?_
  refine ac_iload_n Z.1 3 dX11_complain_6 rfl ?_
  refine f_calli (As := [.int p1, .int p2, .int p3]) (st := []) Z b_X0.1 1 (oT_1 hg) rfl kX0_enterComplaint lkX11_88 (by omega) (soY_X0_enterComplaint hg  _ _ _ _ _ _ hw) rfl rfl (Nat.le_of_ble_eq_true rfl) dX11_complain_7 (fun r1 M2 O2 hw => ?_)
  exact hret _ _ _ _ _ dX11_complain_10 rfl hw
def wY_X11_about (N : Nat → Nat) (p1 : Int32) (M : f_S3) (O : Nat × Nat) (Q : Int32 → f_S3 → Nat × Nat → Prop) : Prop := (p1 = 7 → (Q (M.1 22) M O)) ∧ (p1 = 8 → (Q (M.1 23) M O)) ∧ (p1 = 9 → (Q (M.1 64) M O)) ∧ (¬ p1 = 7 → ¬ p1 = 8 → ¬ p1 = 9 → (wY_X5_tell N p1 M O (fun r1 M2 O2 => (Q r1 M2 O2))))
set_option maxRecDepth 20000 in
theorem soY_X11_about {l : Launch} {g : b_S} {c : Nat} (hg : g.1 = tb_T c) (p1 : Int32) (M : f_S3) (O : Nat × Nat) (Q : Int32 → f_S3 → Nat × Nat → Prop) (hw : wY_X11_about (b_N g) p1 M O Q) : f_MetI l g yX11_about cX11_about 2 .int (1) [.ref (b_o g 0), .int p1] M O Q := by
  refine f_MetI.of (C := RX11) (by decide) rfl (Nat.le_of_ble_eq_true rfl) (fun x Z hret => ?_)
  show f_G x g 2 O M O 0 [(0, .ref (b_o g 0)), (1, .int p1)] []
  refine ac_iload_n Z.1 1 dX11_about_0 rfl ?_
  obtain ⟨hwk, hw⟩ := hw
  by_cases hk0 : p1 = 7
  · have hw := hwk hk0
    refine ac_tableIn (off := 27) (tgt := 28) Z.1 dX11_about_1 (by rw [hk0]; decide) (by rw [hk0]; decide) (by rw [hk0]; rfl) (by decide) ?_
    refine ac_aload_n Z.1 0 dX11_about_28 rfl ?_
    refine f_getr Z b_X11 0 (oT_0 hg) 5 (by decide) (by decide) (fT_5 hg) fX11_32 rfl (h2 := (b_o g 2)) rfl dX11_about_29 ?_
    refine f_geti Z b_X2 2 (oT_2 hg) 2 (by decide) (by decide) (fT_22 hg) fX11_111 rfl (v := (M.1 22)) rfl dX11_about_32 ?_
    exact hret _ _ _ _ _ dX11_about_35 rfl hw
  obtain ⟨hwk, hw⟩ := hw
  by_cases hk1 : p1 = 8
  · have hw := hwk hk1
    refine ac_tableIn (off := 35) (tgt := 36) Z.1 dX11_about_1 (by rw [hk1]; decide) (by rw [hk1]; decide) (by rw [hk1]; rfl) (by decide) ?_
    refine ac_aload_n Z.1 0 dX11_about_36 rfl ?_
    refine f_getr Z b_X11 0 (oT_0 hg) 5 (by decide) (by decide) (fT_5 hg) fX11_32 rfl (h2 := (b_o g 2)) rfl dX11_about_37 ?_
    refine f_geti Z b_X2 2 (oT_2 hg) 3 (by decide) (by decide) (fT_23 hg) fX11_114 rfl (v := (M.1 23)) rfl dX11_about_40 ?_
    exact hret _ _ _ _ _ dX11_about_43 rfl hw
  obtain ⟨hwk, hw⟩ := hw
  by_cases hk2 : p1 = 9
  · have hw := hwk hk2
    refine ac_tableIn (off := 43) (tgt := 44) Z.1 dX11_about_1 (by rw [hk2]; decide) (by rw [hk2]; decide) (by rw [hk2]; rfl) (by decide) ?_
    refine ac_aload_n Z.1 0 dX11_about_44 rfl ?_
    refine f_getr Z b_X11 0 (oT_0 hg) 2 (by decide) (by decide) (fT_2 hg) fX11_18 rfl (h2 := (b_o g 5)) rfl dX11_about_45 ?_
    refine f_geti Z b_X6 5 (oT_5 hg) 4 (by decide) (by decide) (fT_64 hg) fX11_92 rfl (v := (M.1 64)) rfl dX11_about_48 ?_
    exact hret _ _ _ _ _ dX11_about_51 rfl hw
  have hw := hw hk0 hk1 hk2
  refine ac_tableOut (tgt := 52) Z.1 dX11_about_1 (by have q0 := lv_neT hk0 (show (7 : Int32).toInt = 7 by decide); have q1 := lv_neT hk1 (show (8 : Int32).toInt = 8 by decide); have q2 := lv_neT hk2 (show (9 : Int32).toInt = 9 by decide); omega) (by decide) ?_
  refine ac_aload_n Z.1 0 dX11_about_52 rfl ?_
  refine f_getr Z b_X11 0 (oT_0 hg) 6 (by decide) (by decide) (fT_6 hg) fX11_39 rfl (h2 := (b_o g 3)) rfl dX11_about_53 ?_
  refine ac_iload_n Z.1 1 dX11_about_56 rfl ?_
  refine f_calli (As := [.int p1]) (st := []) Z b_X5.1 3 (oT_3 hg) rfl kX5_tell lkX11_117 (by omega) (soY_X5_tell hg  _ _ _ _ hw) rfl rfl (Nat.le_of_ble_eq_true rfl) dX11_about_57 (fun r1 M2 O2 hw => ?_)
  exact hret _ _ _ _ _ dX11_about_60 rfl hw
def wY_X11_note (N : Nat → Nat) (p1 : Int32) (M : f_S3) (O : Nat × Nat) (Q : Int32 → f_S3 → Nat × Nat → Prop) : Prop := wY_X5_noteAt N p1 M O (fun r1 M2 O2 => (Q r1 M2 O2))
set_option maxRecDepth 20000 in
theorem soY_X11_note {l : Launch} {g : b_S} {c : Nat} (hg : g.1 = tb_T c) (p1 : Int32) (M : f_S3) (O : Nat × Nat) (Q : Int32 → f_S3 → Nat × Nat → Prop) (hw : wY_X11_note (b_N g) p1 M O Q) : f_MetI l g yX11_note cX11_note 2 .int (1) [.ref (b_o g 0), .int p1] M O Q := by
  refine f_MetI.of (C := RX11) (by decide) rfl (Nat.le_of_ble_eq_true rfl) (fun x Z hret => ?_)
  show f_G x g 2 O M O 0 [(0, .ref (b_o g 0)), (1, .int p1)] []
  refine ac_aload_n Z.1 0 dX11_note_0 rfl ?_
  refine f_getr Z b_X11 0 (oT_0 hg) 6 (by decide) (by decide) (fT_6 hg) fX11_39 rfl (h2 := (b_o g 3)) rfl dX11_note_1 ?_
  refine ac_iload_n Z.1 1 dX11_note_4 rfl ?_
  refine f_calli (As := [.int p1]) (st := []) Z b_X5.1 3 (oT_3 hg) rfl kX5_noteAt lkX11_120 (by omega) (soY_X5_noteAt hg  _ _ _ _ hw) rfl rfl (Nat.le_of_ble_eq_true rfl) dX11_note_5 (fun r1 M2 O2 hw => ?_)
  exact hret _ _ _ _ _ dX11_note_8 rfl hw
def wY_X11_chain (N : Nat → Nat) (p1 : Int32) (p2 : Int32) (M : f_S3) (O : Nat × Nat) (Q : Int32 → f_S3 → Nat × Nat → Prop) : Prop := wY_X2_tellOfChain N (M.1 35) p1 p2 M O (fun r1 M2 O2 => (Q r1 M2 O2))
set_option maxRecDepth 20000 in
theorem soY_X11_chain {l : Launch} {g : b_S} {c : Nat} (hg : g.1 = tb_T c) (p1 : Int32) (p2 : Int32) (M : f_S3) (O : Nat × Nat) (Q : Int32 → f_S3 → Nat × Nat → Prop) (hw : wY_X11_chain (b_N g) p1 p2 M O Q) : f_MetI l g yX11_chain cX11_chain 3 .int (4) [.ref (b_o g 0), .int p1, .int p2] M O Q := by
  refine f_MetI.of (C := RX11) (by decide) rfl (Nat.le_of_ble_eq_true rfl) (fun x Z hret => ?_)
  show f_G x g 3 O M O 0 [(0, .ref (b_o g 0)), (1, .int p1), (2, .int p2)] []
  refine ac_aload_n Z.1 0 dX11_chain_0 rfl ?_
  refine f_getr Z b_X11 0 (oT_0 hg) 5 (by decide) (by decide) (fT_5 hg) fX11_32 rfl (h2 := (b_o g 2)) rfl dX11_chain_1 ?_
  refine ac_aload_n Z.1 0 dX11_chain_4 rfl ?_
  refine f_getr Z b_X11 0 (oT_0 hg) 6 (by decide) (by decide) (fT_6 hg) fX11_39 rfl (h2 := (b_o g 3)) rfl dX11_chain_5 ?_
  refine f_geti Z b_X5 3 (oT_3 hg) 5 (by decide) (by decide) (fT_35 hg) fX11_123 rfl (v := (M.1 35)) rfl dX11_chain_8 ?_
  refine ac_iload_n Z.1 1 dX11_chain_11 rfl ?_
  refine ac_iload_n Z.1 2 dX11_chain_12 rfl ?_
  refine f_calli (As := [.int (M.1 35), .int p1, .int p2]) (st := []) Z b_X2.1 2 (oT_2 hg) rfl kX2_tellOfChain lkX11_126 (by omega) (soY_X2_tellOfChain hg  _ _ _ _ _ _ hw) rfl rfl (Nat.le_of_ble_eq_true rfl) dX11_chain_13 (fun r1 M2 O2 hw => ?_)
  exact hret _ _ _ _ _ dX11_chain_16 rfl hw
def wY_X11_complaint (N : Nat → Nat) (p1 : Int32) (p2 : Int32) (p3 : Int32) (M : f_S3) (O : Nat × Nat) (Q : Int32 → f_S3 → Nat × Nat → Prop) : Prop := wY_X0_complaintOf N p1 M O (fun r1 M2 O2 => (wY_X2_tellOfChain N r1 p2 p3 M2 O2 (fun r3 M4 O4 => (Q r3 M4 O4))))
set_option maxRecDepth 20000 in
theorem soY_X11_complaint {l : Launch} {g : b_S} {c : Nat} (hg : g.1 = tb_T c) (p1 : Int32) (p2 : Int32) (p3 : Int32) (M : f_S3) (O : Nat × Nat) (Q : Int32 → f_S3 → Nat × Nat → Prop) (hw : wY_X11_complaint (b_N g) p1 p2 p3 M O Q) : f_MetI l g yX11_complaint cX11_complaint 4 .int (4) [.ref (b_o g 0), .int p1, .int p2, .int p3] M O Q := by
  refine f_MetI.of (C := RX11) (by decide) rfl (Nat.le_of_ble_eq_true rfl) (fun x Z hret => ?_)
  show f_G x g 4 O M O 0 [(0, .ref (b_o g 0)), (1, .int p1), (2, .int p2), (3, .int p3)] []
  refine ac_aload_n Z.1 0 dX11_complaint_0 rfl ?_
  refine f_getr Z b_X11 0 (oT_0 hg) 5 (by decide) (by decide) (fT_5 hg) fX11_32 rfl (h2 := (b_o g 2)) rfl dX11_complaint_1 ?_
  refine ac_aload_n Z.1 0 dX11_complaint_4 rfl ?_
  refine f_getr Z b_X11 0 (oT_0 hg) 8 (by decide) (by decide) (fT_8 hg) fX11_57 rfl (h2 := (b_o g 1)) rfl dX11_complaint_5 ?_
  refine ac_iload_n Z.1 1 dX11_complaint_8 rfl ?_
  refine f_calli (As := [.int p1]) (st := [.ref (b_o g 2)]) Z b_X0.1 1 (oT_1 hg) rfl kX0_complaintOf lkX11_129 (by omega) (soY_X0_complaintOf hg  _ _ _ _ hw) rfl rfl (Nat.le_of_ble_eq_true rfl) dX11_complaint_9 (fun r1 M2 O2 hw => ?_)
  refine ac_iload_n Z.1 2 dX11_complaint_12 rfl ?_
  refine ac_iload_n Z.1 3 dX11_complaint_13 rfl ?_
  refine f_calli (As := [.int r1, .int p2, .int p3]) (st := []) Z b_X2.1 2 (oT_2 hg) rfl kX2_tellOfChain lkX11_126 (by omega) (soY_X2_tellOfChain hg  _ _ _ _ _ _ hw) rfl rfl (Nat.le_of_ble_eq_true rfl) dX11_complaint_14 (fun r3 M4 O4 hw => ?_)
  exact hret _ _ _ _ _ dX11_complaint_17 rfl hw
