def wY_X2_makeInTrial (N : Nat → Nat) (p1 : Int32) (p2 : Int32) (p3 : Int32) (p4 : Int32) (M : f_S3) (O : Nat × Nat) (Q : Int32 → f_S3 → Nat × Nat → Prop) : Prop := (((M.1 22) - (M.1 21)) < 100 → (wY_X2_make N p1 p2 p3 p4 M O (fun r1 M2 O2 => (Q r1 M2 O2)))) ∧ (¬ ((M.1 22) - (M.1 21)) < 100 → (Q 0 M O))
set_option maxRecDepth 20000 in
theorem soY_X2_makeInTrial {l : Launch} {g : b_S} {c : Nat} (hg : g.1 = tb_T c) (p1 : Int32) (p2 : Int32) (p3 : Int32) (p4 : Int32) (M : f_S3) (O : Nat × Nat) (Q : Int32 → f_S3 → Nat × Nat → Prop) (hw : wY_X2_makeInTrial (b_N g) p1 p2 p3 p4 M O Q) : f_MetI l g yX2_makeInTrial cX2_makeInTrial 5 .int (9) [.ref (b_o g 2), .int p1, .int p2, .int p3, .int p4] M O Q := by
  refine f_MetI.of (C := RX2) (by decide) rfl (Nat.le_of_ble_eq_true rfl) (fun x Z hret => ?_)
  show f_G x g 5 O M O 0 [(0, .ref (b_o g 2)), (1, .int p1), (2, .int p2), (3, .int p3), (4, .int p4)] []
  refine ac_aload_n Z.1 0 dX2_makeInTrial_0 rfl ?_
  refine f_geti Z b_X2 2 (oT_2 hg) 2 (by decide) (by decide) (fT_22 hg) fX2_15 rfl (v := (M.1 22)) rfl dX2_makeInTrial_1 ?_
  refine ac_aload_n Z.1 0 dX2_makeInTrial_4 rfl ?_
  refine f_geti Z b_X2 2 (oT_2 hg) 1 (by decide) (by decide) (fT_21 hg) fX2_19 rfl (v := (M.1 21)) rfl dX2_makeInTrial_5 ?_
  refine ac_isub Z.1 dX2_makeInTrial_8 ?_
  refine ac_bipush (v := 100) Z.1 dX2_makeInTrial_9 (by decide) ?_
  obtain ⟨hwt, hwf⟩ := hw
  refine ac_icmp_lt (tgt := 18) Z.1 dX2_makeInTrial_11 (by decide) (fun hc => ?_) (fun hc => ?_)
  · have hw := hwt hc
    refine ac_aload_n Z.1 0 dX2_makeInTrial_18 rfl ?_
    refine ac_iload_n Z.1 1 dX2_makeInTrial_19 rfl ?_
    refine ac_iload_n Z.1 2 dX2_makeInTrial_20 rfl ?_
    refine ac_iload_n Z.1 3 dX2_makeInTrial_21 rfl ?_
    refine ac_iload Z.1 4 dX2_makeInTrial_22 rfl ?_
    refine f_calli (As := [.int p1, .int p2, .int p3, .int p4]) (st := []) Z b_X2.1 2 (oT_2 hg) rfl kX2_make lkX2_28 (by omega) (soY_X2_make hg  _ _ _ _ _ _ _ hw) rfl rfl (Nat.le_of_ble_eq_true rfl) dX2_makeInTrial_24 (fun r1 M2 O2 hw => ?_)
    exact hret _ _ _ _ _ dX2_makeInTrial_27 rfl hw
  · have hw := hwf hc
    refine ac_iconst (v := 0) Z.1 dX2_makeInTrial_14 (by decide) ?_
    refine ac_goto (tgt := 27) Z.1 dX2_makeInTrial_15 (by decide) ?_
    exact hret _ _ _ _ _ dX2_makeInTrial_27 rfl hw
def wY_X8_raiseNew (N : Nat → Nat) (p1 : Int32) (p2 : Int32) (M : f_S3) (O : Nat × Nat) (Q : f_S3 → Nat × Nat → Prop) : Prop := wY_X2_makeInTrial N p1 p2 0 (-1) M O (fun r1 M2 O2 => ((¬ r1 = 0 → (Q (fm M2 54 r1) O2)) ∧ (r1 = 0 → (Q (fm (fm M2 54 r1) 53 3) O2))))
set_option maxRecDepth 20000 in
theorem soY_X8_raiseNew {l : Launch} {g : b_S} (hg : g.1 = tb_T 5) (p1 : Int32) (p2 : Int32) (M : f_S3) (O : Nat × Nat) (Q : f_S3 → Nat × Nat → Prop) (hw : wY_X8_raiseNew (b_N g) p1 p2 M O Q) : f_MetV l g yX8_raiseNew cX8_raiseNew 3 (10) [.ref (b_o g 4), .int p1, .int p2] M O Q := by
  refine f_MetV.of (C := RX8) (by decide) rfl (Nat.le_of_ble_eq_true rfl) (fun x Z hret => ?_)
  show f_G x g 3 O M O 0 [(0, .ref (b_o g 4)), (1, .int p1), (2, .int p2)] []
  refine ac_aload_n Z.1 0 dX8_raiseNew_0 rfl ?_
  refine ac_aload_n Z.1 0 dX8_raiseNew_1 rfl ?_
  refine f_getr Z b_X8 4 (oT_4 hg) 0 (by decide) (by decide) (fT_40 hg) fX8_36 rfl (h2 := (b_o g 2)) rfl dX8_raiseNew_2 ?_
  refine ac_iload_n Z.1 1 dX8_raiseNew_5 rfl ?_
  refine ac_iload_n Z.1 2 dX8_raiseNew_6 rfl ?_
  refine ac_iconst (v := 0) Z.1 dX8_raiseNew_7 (by decide) ?_
  refine ac_iconst (v := (-1)) Z.1 dX8_raiseNew_8 (by decide) ?_
  refine f_calli (As := [.int p1, .int p2, .int 0, .int (-1)]) (st := [.ref (b_o g 4)]) Z b_X2.1 2 (oT_2 hg) rfl kX2_makeInTrial lkX8_178 (by omega) (soY_X2_makeInTrial hg  _ _ _ _ _ _ _ hw) rfl rfl (Nat.le_of_ble_eq_true rfl) dX8_raiseNew_9 (fun r1 M2 O2 hw => ?_)
  refine f_put Z b_X8 4 (oT_4 hg) 14 (by decide) (by decide) (fT_54 hg) rfl rfl fX8_74 rfl (I := 54) rfl dX8_raiseNew_12 ?_
  refine ac_aload_n Z.1 0 dX8_raiseNew_15 rfl ?_
  refine f_geti Z b_X8 4 (oT_4 hg) 14 (by decide) (by decide) (fT_54 hg) fX8_74 rfl (v := r1) rfl dX8_raiseNew_16 ?_
  obtain ⟨hwt, hwf⟩ := hw
  refine ac_if_ne (tgt := 27) Z.1 dX8_raiseNew_19 (by decide) (fun hc => ?_) (fun hc => ?_)
  · have hw := hwt hc
    exact hret _ _ _ _ dX8_raiseNew_27 hw
  · have hw := hwf hc
    refine ac_aload_n Z.1 0 dX8_raiseNew_22 rfl ?_
    refine ac_iconst (v := 3) Z.1 dX8_raiseNew_23 (by decide) ?_
    refine f_put Z b_X8 4 (oT_4 hg) 13 (by decide) (by decide) (fT_53 hg) rfl rfl fX8_53 rfl (I := 53) rfl dX8_raiseNew_24 ?_
    exact hret _ _ _ _ dX8_raiseNew_27 hw
def wY_X8_ofTwoNumbers (N : Nat → Nat) (p0 : Int32) (p1 : Int32) (p2 : Int32) (M : f_S3) (O : Nat × Nat) (Q : Int32 → f_S3 → Nat × Nat → Prop) : Prop := (p0 = 14 → (Q (p1 + p2) M O)) ∧ (p0 = 15 → (Q (p1 - p2) M O)) ∧ (p0 = 16 → (Q (p1 * p2) M O)) ∧ (p0 = 17 → ((¬ p2 = 0 → (¬ p2 = 0 ∧ (Q (p1 / p2) M O))) ∧ (p2 = 0 → (Q 0 M O)))) ∧ (p0 = 18 → ((¬ p2 = 0 → (¬ p2 = 0 ∧ (Q (p1 - p1 / p2 * p2) M O))) ∧ (p2 = 0 → (Q 0 M O)))) ∧ (p0 = 19 → ((p2 ≤ p1 → (Q 0 M O)) ∧ (¬ p2 ≤ p1 → (Q 1 M O)))) ∧ (p0 = 20 → ((¬ p1 = p2 → (Q 0 M O)) ∧ (p1 = p2 → (Q 1 M O)))) ∧ (¬ p0 = 14 → ¬ p0 = 15 → ¬ p0 = 16 → ¬ p0 = 17 → ¬ p0 = 18 → ¬ p0 = 19 → ¬ p0 = 20 → ((p1 = p2 → (Q 0 M O)) ∧ (¬ p1 = p2 → (Q 1 M O))))
set_option maxRecDepth 20000 in
theorem soY_X8_ofTwoNumbers {l : Launch} {g : b_S} (hg : g.1 = tb_T 5) (p0 : Int32) (p1 : Int32) (p2 : Int32) (M : f_S3) (O : Nat × Nat) (Q : Int32 → f_S3 → Nat × Nat → Prop) (hw : wY_X8_ofTwoNumbers (b_N g) p0 p1 p2 M O Q) : f_MetI l g yX8_ofTwoNumbers cX8_ofTwoNumbers 3 .int (0) [.int p0, .int p1, .int p2] M O Q := by
  refine f_MetI.of (C := RX8) (by decide) rfl (Nat.le_of_ble_eq_true rfl) (fun x Z hret => ?_)
  show f_G x g 3 O M O 0 [(0, .int p0), (1, .int p1), (2, .int p2)] []
  refine ac_iload_n Z.1 0 dX8_ofTwoNumbers_0 rfl ?_
  obtain ⟨hwk, hw⟩ := hw
  by_cases hk0 : p0 = 14
  · have hw := hwk hk0
    refine ac_tableIn (off := 43) (tgt := 44) Z.1 dX8_ofTwoNumbers_1 (by rw [hk0]; decide) (by rw [hk0]; decide) (by rw [hk0]; rfl) (by decide) ?_
    refine ac_iload_n Z.1 1 dX8_ofTwoNumbers_44 rfl ?_
    refine ac_iload_n Z.1 2 dX8_ofTwoNumbers_45 rfl ?_
    refine ac_iadd Z.1 dX8_ofTwoNumbers_46 ?_
    exact hret _ _ _ _ _ dX8_ofTwoNumbers_47 rfl hw
  obtain ⟨hwk, hw⟩ := hw
  by_cases hk1 : p0 = 15
  · have hw := hwk hk1
    refine ac_tableIn (off := 47) (tgt := 48) Z.1 dX8_ofTwoNumbers_1 (by rw [hk1]; decide) (by rw [hk1]; decide) (by rw [hk1]; rfl) (by decide) ?_
    refine ac_iload_n Z.1 1 dX8_ofTwoNumbers_48 rfl ?_
    refine ac_iload_n Z.1 2 dX8_ofTwoNumbers_49 rfl ?_
    refine ac_isub Z.1 dX8_ofTwoNumbers_50 ?_
    exact hret _ _ _ _ _ dX8_ofTwoNumbers_51 rfl hw
  obtain ⟨hwk, hw⟩ := hw
  by_cases hk2 : p0 = 16
  · have hw := hwk hk2
    refine ac_tableIn (off := 51) (tgt := 52) Z.1 dX8_ofTwoNumbers_1 (by rw [hk2]; decide) (by rw [hk2]; decide) (by rw [hk2]; rfl) (by decide) ?_
    refine ac_iload_n Z.1 1 dX8_ofTwoNumbers_52 rfl ?_
    refine ac_iload_n Z.1 2 dX8_ofTwoNumbers_53 rfl ?_
    refine ac_imul Z.1 dX8_ofTwoNumbers_54 ?_
    exact hret _ _ _ _ _ dX8_ofTwoNumbers_55 rfl hw
  obtain ⟨hwk, hw⟩ := hw
  by_cases hk3 : p0 = 17
  · have hw := hwk hk3
    refine ac_tableIn (off := 55) (tgt := 56) Z.1 dX8_ofTwoNumbers_1 (by rw [hk3]; decide) (by rw [hk3]; decide) (by rw [hk3]; rfl) (by decide) ?_
    refine ac_iload_n Z.1 2 dX8_ofTwoNumbers_56 rfl ?_
    obtain ⟨hwt, hwf⟩ := hw
    refine ac_if_ne (tgt := 64) Z.1 dX8_ofTwoNumbers_57 (by decide) (fun hc => ?_) (fun hc => ?_)
    · have hw := hwt hc
      refine ac_iload_n Z.1 1 dX8_ofTwoNumbers_64 rfl ?_
      refine ac_iload_n Z.1 2 dX8_ofTwoNumbers_65 rfl ?_
      obtain ⟨hb1, hw⟩ := hw
      refine ac_idiv Z.1 dX8_ofTwoNumbers_66 hb1 ?_
      exact hret _ _ _ _ _ dX8_ofTwoNumbers_67 rfl hw
    · have hw := hwf hc
      refine ac_iconst (v := 0) Z.1 dX8_ofTwoNumbers_60 (by decide) ?_
      refine ac_goto (tgt := 67) Z.1 dX8_ofTwoNumbers_61 (by decide) ?_
      exact hret _ _ _ _ _ dX8_ofTwoNumbers_67 rfl hw
  obtain ⟨hwk, hw⟩ := hw
  by_cases hk4 : p0 = 18
  · have hw := hwk hk4
    refine ac_tableIn (off := 67) (tgt := 68) Z.1 dX8_ofTwoNumbers_1 (by rw [hk4]; decide) (by rw [hk4]; decide) (by rw [hk4]; rfl) (by decide) ?_
    refine ac_iload_n Z.1 2 dX8_ofTwoNumbers_68 rfl ?_
    obtain ⟨hwt, hwf⟩ := hw
    refine ac_if_ne (tgt := 76) Z.1 dX8_ofTwoNumbers_69 (by decide) (fun hc => ?_) (fun hc => ?_)
    · have hw := hwt hc
      refine ac_iload_n Z.1 1 dX8_ofTwoNumbers_76 rfl ?_
      refine ac_iload_n Z.1 2 dX8_ofTwoNumbers_77 rfl ?_
      obtain ⟨hb2, hw⟩ := hw
      refine ac_irem Z.1 dX8_ofTwoNumbers_78 hb2 ?_
      exact hret _ _ _ _ _ dX8_ofTwoNumbers_79 rfl hw
    · have hw := hwf hc
      refine ac_iconst (v := 0) Z.1 dX8_ofTwoNumbers_72 (by decide) ?_
      refine ac_goto (tgt := 79) Z.1 dX8_ofTwoNumbers_73 (by decide) ?_
      exact hret _ _ _ _ _ dX8_ofTwoNumbers_79 rfl hw
  obtain ⟨hwk, hw⟩ := hw
  by_cases hk5 : p0 = 19
  · have hw := hwk hk5
    refine ac_tableIn (off := 79) (tgt := 80) Z.1 dX8_ofTwoNumbers_1 (by rw [hk5]; decide) (by rw [hk5]; decide) (by rw [hk5]; rfl) (by decide) ?_
    refine ac_iload_n Z.1 1 dX8_ofTwoNumbers_80 rfl ?_
    refine ac_iload_n Z.1 2 dX8_ofTwoNumbers_81 rfl ?_
    obtain ⟨hwt, hwf⟩ := hw
    refine ac_icmp_ge (tgt := 89) Z.1 dX8_ofTwoNumbers_82 (by decide) (fun hc => ?_) (fun hc => ?_)
    · have hw := hwt hc
      refine ac_iconst (v := 0) Z.1 dX8_ofTwoNumbers_89 (by decide) ?_
      exact hret _ _ _ _ _ dX8_ofTwoNumbers_90 rfl hw
    · have hw := hwf hc
      refine ac_iconst (v := 1) Z.1 dX8_ofTwoNumbers_85 (by decide) ?_
      refine ac_goto (tgt := 90) Z.1 dX8_ofTwoNumbers_86 (by decide) ?_
      exact hret _ _ _ _ _ dX8_ofTwoNumbers_90 rfl hw
  obtain ⟨hwk, hw⟩ := hw
  by_cases hk6 : p0 = 20
  · have hw := hwk hk6
    refine ac_tableIn (off := 90) (tgt := 91) Z.1 dX8_ofTwoNumbers_1 (by rw [hk6]; decide) (by rw [hk6]; decide) (by rw [hk6]; rfl) (by decide) ?_
    refine ac_iload_n Z.1 1 dX8_ofTwoNumbers_91 rfl ?_
    refine ac_iload_n Z.1 2 dX8_ofTwoNumbers_92 rfl ?_
    obtain ⟨hwt, hwf⟩ := hw
    refine ac_icmp_ne (tgt := 100) Z.1 dX8_ofTwoNumbers_93 (by decide) (fun hc => ?_) (fun hc => ?_)
    · have hw := hwt hc
      refine ac_iconst (v := 0) Z.1 dX8_ofTwoNumbers_100 (by decide) ?_
      exact hret _ _ _ _ _ dX8_ofTwoNumbers_101 rfl hw
    · have hw := hwf hc
      refine ac_iconst (v := 1) Z.1 dX8_ofTwoNumbers_96 (by decide) ?_
      refine ac_goto (tgt := 101) Z.1 dX8_ofTwoNumbers_97 (by decide) ?_
      exact hret _ _ _ _ _ dX8_ofTwoNumbers_101 rfl hw
  have hw := hw hk0 hk1 hk2 hk3 hk4 hk5 hk6
  refine ac_tableOut (tgt := 102) Z.1 dX8_ofTwoNumbers_1 (by have q0 := lv_neT hk0 (show (14 : Int32).toInt = 14 by decide); have q1 := lv_neT hk1 (show (15 : Int32).toInt = 15 by decide); have q2 := lv_neT hk2 (show (16 : Int32).toInt = 16 by decide); have q3 := lv_neT hk3 (show (17 : Int32).toInt = 17 by decide); have q4 := lv_neT hk4 (show (18 : Int32).toInt = 18 by decide); have q5 := lv_neT hk5 (show (19 : Int32).toInt = 19 by decide); have q6 := lv_neT hk6 (show (20 : Int32).toInt = 20 by decide); omega) (by decide) ?_
  refine ac_iload_n Z.1 1 dX8_ofTwoNumbers_102 rfl ?_
  refine ac_iload_n Z.1 2 dX8_ofTwoNumbers_103 rfl ?_
  obtain ⟨hwt, hwf⟩ := hw
  refine ac_icmp_eq (tgt := 111) Z.1 dX8_ofTwoNumbers_104 (by decide) (fun hc => ?_) (fun hc => ?_)
  · have hw := hwt hc
    refine ac_iconst (v := 0) Z.1 dX8_ofTwoNumbers_111 (by decide) ?_
    exact hret _ _ _ _ _ dX8_ofTwoNumbers_112 rfl hw
  · have hw := hwf hc
    refine ac_iconst (v := 1) Z.1 dX8_ofTwoNumbers_107 (by decide) ?_
    refine ac_goto (tgt := 112) Z.1 dX8_ofTwoNumbers_108 (by decide) ?_
    exact hret _ _ _ _ _ dX8_ofTwoNumbers_112 rfl hw
def wY_X8_doTwoNumbers_34 (N : Nat → Nat) (Q : f_S3 → Nat × Nat → Prop) (a1 : Int32) (a2 : Int32) (a3 : Int32) (M : f_S3) (O : Nat × Nat) : Prop := wY_X8_ofTwoNumbers N a1 a3 a2 M O (fun r5 M6 O6 => (wY_X8_push N r5 M6 O6 (fun M7 O7 => (Q M7 O7))))
set_option maxRecDepth 20000 in
theorem sY_X8_doTwoNumbers_34 {x : ac_X} {g : b_S} (hg : g.1 = tb_T 5) {l : Launch} {O0 : Nat × Nat} {Q : f_S3 → Nat × Nat → Prop} (Z : b_Cx x g l RX8 cX8_doTwoNumbers 4 (11) O0) (hret : f_RV x g 4 cX8_doTwoNumbers O0 Q) (a1 : Int32) (a2 : Int32) (a3 : Int32) (M : f_S3) (O : Nat × Nat) (hw : wY_X8_doTwoNumbers_34 (b_N g) Q a1 a2 a3 M O) : f_G x g 4 O0 M O 34 [(0, .ref (b_o g 4)), (1, .int a1), (2, .int a2), (3, .int a3)] [] := by
  refine ac_aload_n Z.1 0 dX8_doTwoNumbers_34 rfl ?_
  refine ac_iload_n Z.1 1 dX8_doTwoNumbers_35 rfl ?_
  refine ac_iload_n Z.1 3 dX8_doTwoNumbers_36 rfl ?_
  refine ac_iload_n Z.1 2 dX8_doTwoNumbers_37 rfl ?_
  refine f_calliS (As := [.int a1, .int a3, .int a2]) (st := [.ref (b_o g 4)]) Z kX8_ofTwoNumbers lkX8_125 (by omega) (soY_X8_ofTwoNumbers hg  _ _ _ _ _ _ hw) rfl rfl (Nat.le_of_ble_eq_true rfl) dX8_doTwoNumbers_38 (fun r5 M6 O6 hw => ?_)
  refine f_callv (As := [.int r5]) (st := []) Z b_X8.1 4 (oT_4 hg) rfl kX8_push lkX8_129 (by omega) (soY_X8_push hg  _ _ _ _ hw) rfl rfl (Nat.le_of_ble_eq_true rfl) dX8_doTwoNumbers_41 (fun M7 O7 hw => ?_)
  exact hret _ _ _ _ dX8_doTwoNumbers_44 hw
def wY_X8_doTwoNumbers_26 (N : Nat → Nat) (Q : f_S3 → Nat × Nat → Prop) (M : f_S3) (O : Nat × Nat) : Prop := wY_X8_raiseNew N 6 3 M O (fun M8 O8 => (Q M8 O8))
set_option maxRecDepth 20000 in
theorem sY_X8_doTwoNumbers_26 {x : ac_X} {g : b_S} (hg : g.1 = tb_T 5) {l : Launch} {O0 : Nat × Nat} {Q : f_S3 → Nat × Nat → Prop} (Z : b_Cx x g l RX8 cX8_doTwoNumbers 4 (11) O0) (hret : f_RV x g 4 cX8_doTwoNumbers O0 Q) (M : f_S3) (O : Nat × Nat) (hw : wY_X8_doTwoNumbers_26 (b_N g) Q M O) : f_G x g 4 O0 M O 26 [(0, .ref (b_o g 4))] [] := by
  refine ac_aload_n Z.1 0 dX8_doTwoNumbers_26 rfl ?_
  refine ac_bipush (v := 6) Z.1 dX8_doTwoNumbers_27 (by decide) ?_
  refine ac_iconst (v := 3) Z.1 dX8_doTwoNumbers_29 (by decide) ?_
  refine f_callv (As := [.int 6, .int 3]) (st := []) Z b_X8.1 4 (oT_4 hg) rfl kX8_raiseNew lkX8_122 (by omega) (soY_X8_raiseNew hg  _ _ _ _ _ hw) rfl rfl (Nat.le_of_ble_eq_true rfl) dX8_doTwoNumbers_30 (fun M8 O8 hw => ?_)
  exact hret _ _ _ _ dX8_doTwoNumbers_33 hw
def wY_X8_doTwoNumbers (N : Nat → Nat) (p1 : Int32) (M : f_S3) (O : Nat × Nat) (Q : f_S3 → Nat × Nat → Prop) : Prop := wY_X8_pop N M O (fun r1 M2 O2 => (wY_X8_pop N M2 O2 (fun r3 M4 O4 => ((¬ r1 = 0 → (wY_X8_doTwoNumbers_34 N Q p1 r1 r3 M4 O4)) ∧ (r1 = 0 → ((p1 = 17 → (wY_X8_doTwoNumbers_26 N Q M4 O4)) ∧ (¬ p1 = 17 → ((¬ p1 = 18 → (wY_X8_doTwoNumbers_34 N Q p1 r1 r3 M4 O4)) ∧ (p1 = 18 → (wY_X8_doTwoNumbers_26 N Q M4 O4))))))))))
set_option maxRecDepth 20000 in
theorem soY_X8_doTwoNumbers {l : Launch} {g : b_S} (hg : g.1 = tb_T 5) (p1 : Int32) (M : f_S3) (O : Nat × Nat) (Q : f_S3 → Nat × Nat → Prop) (hw : wY_X8_doTwoNumbers (b_N g) p1 M O Q) : f_MetV l g yX8_doTwoNumbers cX8_doTwoNumbers 4 (11) [.ref (b_o g 4), .int p1] M O Q := by
  refine f_MetV.of (C := RX8) (by decide) rfl (Nat.le_of_ble_eq_true rfl) (fun x Z hret => ?_)
  show f_G x g 4 O M O 0 [(0, .ref (b_o g 4)), (1, .int p1)] []
  refine ac_aload_n Z.1 0 dX8_doTwoNumbers_0 rfl ?_
  refine f_calli (As := []) (st := []) Z b_X8.1 4 (oT_4 hg) rfl kX8_pop lkX8_117 (by omega) (soY_X8_pop hg   _ _ _ hw) rfl rfl (Nat.le_of_ble_eq_true rfl) dX8_doTwoNumbers_1 (fun r1 M2 O2 hw => ?_)
  refine ac_istore_n (lv' := [(2, .int r1), (0, .ref (b_o g 4)), (1, .int p1)]) Z.1 dX8_doTwoNumbers_4 (by decide) rfl ?_
  refine ac_aload_n Z.1 1 dX8_doTwoNumbers_5 rfl ?_
  refine f_calli (As := []) (st := []) Z b_X8.1 4 (oT_4 hg) rfl kX8_pop lkX8_117 (by omega) (soY_X8_pop hg   _ _ _ hw) rfl rfl (Nat.le_of_ble_eq_true rfl) dX8_doTwoNumbers_6 (fun r3 M4 O4 hw => ?_)
  refine ac_istore_n (lv' := [(3, .int r3), (2, .int r1), (0, .ref (b_o g 4)), (1, .int p1)]) Z.1 dX8_doTwoNumbers_9 (by decide) rfl ?_
  refine ac_iload_n Z.1 1 dX8_doTwoNumbers_10 rfl ?_
  obtain ⟨hwt, hwf⟩ := hw
  refine ac_if_ne (tgt := 34) Z.1 dX8_doTwoNumbers_11 (by decide) (fun hc => ?_) (fun hc => ?_)
  · have hw := hwt hc
    refine ac_lv [2, 3, 1, 0] rfl ?_
    exact sY_X8_doTwoNumbers_34 hg Z hret _ _ _ _ _ hw
  · have hw := hwf hc
    refine ac_iload_n Z.1 3 dX8_doTwoNumbers_14 rfl ?_
    refine ac_bipush (v := 17) Z.1 dX8_doTwoNumbers_15 (by decide) ?_
    obtain ⟨hwt, hwf⟩ := hw
    refine ac_icmp_eq (tgt := 26) Z.1 dX8_doTwoNumbers_17 (by decide) (fun hc => ?_) (fun hc => ?_)
    · have hw := hwt hc
      refine ac_lv [2] rfl ?_
      exact sY_X8_doTwoNumbers_26 hg Z hret _ _ hw
    · have hw := hwf hc
      refine ac_iload_n Z.1 3 dX8_doTwoNumbers_20 rfl ?_
      refine ac_bipush (v := 18) Z.1 dX8_doTwoNumbers_21 (by decide) ?_
      obtain ⟨hwt, hwf⟩ := hw
      refine ac_icmp_ne (tgt := 34) Z.1 dX8_doTwoNumbers_23 (by decide) (fun hc => ?_) (fun hc => ?_)
      · have hw := hwt hc
        refine ac_lv [2, 3, 1, 0] rfl ?_
        exact sY_X8_doTwoNumbers_34 hg Z hret _ _ _ _ _ hw
      · have hw := hwf hc
        refine ac_lv [2] rfl ?_
        exact sY_X8_doTwoNumbers_26 hg Z hret _ _ hw
def wY_X8_objectAt (N : Nat → Nat) (p1 : Int32) (M : f_S3) (O : Nat × Nat) (Q : Int32 → f_S3 → Nat × Nat → Prop) : Prop := (p1 = (-1) → (Q 0 M O)) ∧ (¬ p1 = (-1) → ((((((M.1 50) - 1) * 8) + p1) < 0 → (Q 0 M O)) ∧ (¬ ((((M.1 50) - 1) * 8) + p1) < 0 → (((nI (N 16)) ≤ ((((M.1 50) - 1) * 8) + p1) → (Q 0 M O)) ∧ (¬ (nI (N 16)) ≤ ((((M.1 50) - 1) * 8) + p1) → (vp_in ((((M.1 50) - 1) * 8) + p1) (N 16) ∧ (∀ v2, v2 = (M.2.1 16 ((((M.1 50) - 1) * 8) + p1).toNatClampNeg) → (Q v2 M O))))))))
set_option maxRecDepth 20000 in
theorem soY_X8_objectAt {l : Launch} {g : b_S} (hg : g.1 = tb_T 5) (p1 : Int32) (M : f_S3) (O : Nat × Nat) (Q : Int32 → f_S3 → Nat × Nat → Prop) (hw : wY_X8_objectAt (b_N g) p1 M O Q) : f_MetI l g yX8_objectAt cX8_objectAt 3 .int (0) [.ref (b_o g 4), .int p1] M O Q := by
  refine f_MetI.of (C := RX8) (by decide) rfl (Nat.le_of_ble_eq_true rfl) (fun x Z hret => ?_)
  show f_G x g 3 O M O 0 [(0, .ref (b_o g 4)), (1, .int p1)] []
  refine ac_aload_n Z.1 0 dX8_objectAt_0 rfl ?_
  refine f_geti Z b_X8 4 (oT_4 hg) 10 (by decide) (by decide) (fT_50 hg) fX8_91 rfl (v := (M.1 50)) rfl dX8_objectAt_1 ?_
  refine ac_iconst (v := 1) Z.1 dX8_objectAt_4 (by decide) ?_
  refine ac_isub Z.1 dX8_objectAt_5 ?_
  refine ac_bipush (v := 8) Z.1 dX8_objectAt_6 (by decide) ?_
  refine ac_imul Z.1 dX8_objectAt_8 ?_
  refine ac_iload_n Z.1 1 dX8_objectAt_9 rfl ?_
  refine ac_iadd Z.1 dX8_objectAt_10 ?_
  refine ac_istore_n (lv' := [(2, .int ((((M.1 50) - 1) * 8) + p1)), (0, .ref (b_o g 4)), (1, .int p1)]) Z.1 dX8_objectAt_11 (by decide) rfl ?_
  refine ac_iload_n Z.1 2 dX8_objectAt_12 rfl ?_
  refine ac_iconst (v := (-1)) Z.1 dX8_objectAt_13 (by decide) ?_
  obtain ⟨hwt, hwf⟩ := hw
  refine ac_icmp_eq (tgt := 39) Z.1 dX8_objectAt_14 (by decide) (fun hc => ?_) (fun hc => ?_)
  · have hw := hwt hc
    refine ac_iconst (v := 0) Z.1 dX8_objectAt_39 (by decide) ?_
    exact hret _ _ _ _ _ dX8_objectAt_40 rfl hw
  · have hw := hwf hc
    refine ac_iload_n Z.1 0 dX8_objectAt_17 rfl ?_
    obtain ⟨hwt, hwf⟩ := hw
    refine ac_if_lt (tgt := 39) Z.1 dX8_objectAt_18 (by decide) (fun hc => ?_) (fun hc => ?_)
    · have hw := hwt hc
      refine ac_iconst (v := 0) Z.1 dX8_objectAt_39 (by decide) ?_
      exact hret _ _ _ _ _ dX8_objectAt_40 rfl hw
    · have hw := hwf hc
      refine ac_iload_n Z.1 0 dX8_objectAt_21 rfl ?_
      refine ac_aload_n Z.1 1 dX8_objectAt_22 rfl ?_
      refine f_getr Z b_X8 4 (oT_4 hg) 3 (by decide) (by decide) (fT_43 hg) fX8_15 rfl (h2 := (b_o g 16)) rfl dX8_objectAt_23 ?_
      refine f_alen Z 7 (aT_16 hg) rfl (v := (nI (b_N g 16))) rfl dX8_objectAt_26 (by decide) ?_
      obtain ⟨hwt, hwf⟩ := hw
      refine ac_icmp_ge (tgt := 39) Z.1 dX8_objectAt_27 (by decide) (fun hc => ?_) (fun hc => ?_)
      · have hw := hwt hc
        refine ac_iconst (v := 0) Z.1 dX8_objectAt_39 (by decide) ?_
        exact hret _ _ _ _ _ dX8_objectAt_40 rfl hw
      · have hw := hwf hc
        refine ac_aload_n Z.1 1 dX8_objectAt_30 rfl ?_
        refine f_getr Z b_X8 4 (oT_4 hg) 3 (by decide) (by decide) (fT_43 hg) fX8_15 rfl (h2 := (b_o g 16)) rfl dX8_objectAt_31 ?_
        refine ac_iload_n Z.1 0 dX8_objectAt_34 rfl ?_
        obtain ⟨hb1, hw⟩ := hw
        refine f_ald Z 7 (aT_16 hg) rfl hb1 (v := (M.2.1 16 ((((M.1 50) - 1) * 8) + p1).toNatClampNeg)) rfl dX8_objectAt_35 ?_
        refine ac_topi (fun v2 hv2 => ?_)
        have hw := hw v2 hv2
        refine ac_goto (tgt := 40) Z.1 dX8_objectAt_36 (by decide) ?_
        exact hret _ _ _ _ _ dX8_objectAt_40 rfl hw
def wY_X2_get (N : Nat → Nat) (p1 : Int32) (p2 : Int32) (M : f_S3) (O : Nat × Nat) (Q : Int32 → f_S3 → Nat × Nat → Prop) : Prop := ((((p1 - 1) * 7) + p2) < 0 → (Q 0 M O)) ∧ (¬ (((p1 - 1) * 7) + p2) < 0 → ((((M.1 22) * 7) ≤ (((p1 - 1) * 7) + p2) → (Q 0 M O)) ∧ (¬ ((M.1 22) * 7) ≤ (((p1 - 1) * 7) + p2) → (vp_in (((p1 - 1) * 7) + p2) (448 * 2 ^ O.2) ∧ (∀ v2, v2 = (M.2.1 99 (((p1 - 1) * 7) + p2).toNatClampNeg) → (Q v2 M O))))))
set_option maxRecDepth 20000 in
theorem soY_X2_get {l : Launch} {g : b_S} {c : Nat} (hg : g.1 = tb_T c) (p1 : Int32) (p2 : Int32) (M : f_S3) (O : Nat × Nat) (Q : Int32 → f_S3 → Nat × Nat → Prop) (hw : wY_X2_get (b_N g) p1 p2 M O Q) : f_MetI l g yX2_get cX2_get 4 .int (0) [.ref (b_o g 2), .int p1, .int p2] M O Q := by
  refine f_MetI.of (C := RX2) (by decide) rfl (Nat.le_of_ble_eq_true rfl) (fun x Z hret => ?_)
  show f_G x g 4 O M O 0 [(0, .ref (b_o g 2)), (1, .int p1), (2, .int p2)] []
  refine ac_iload_n Z.1 1 dX2_get_0 rfl ?_
  refine ac_iconst (v := 1) Z.1 dX2_get_1 (by decide) ?_
  refine ac_isub Z.1 dX2_get_2 ?_
  refine ac_bipush (v := 7) Z.1 dX2_get_3 (by decide) ?_
  refine ac_imul Z.1 dX2_get_5 ?_
  refine ac_iload_n Z.1 2 dX2_get_6 rfl ?_
  refine ac_iadd Z.1 dX2_get_7 ?_
  refine ac_istore_n (lv' := [(3, .int (((p1 - 1) * 7) + p2)), (0, .ref (b_o g 2)), (1, .int p1), (2, .int p2)]) Z.1 dX2_get_8 (by decide) rfl ?_
  refine ac_iload_n Z.1 0 dX2_get_9 rfl ?_
  obtain ⟨hwt, hwf⟩ := hw
  refine ac_if_lt (tgt := 33) Z.1 dX2_get_10 (by decide) (fun hc => ?_) (fun hc => ?_)
  · have hw := hwt hc
    refine ac_iconst (v := 0) Z.1 dX2_get_33 (by decide) ?_
    exact hret _ _ _ _ _ dX2_get_34 rfl hw
  · have hw := hwf hc
    refine ac_iload_n Z.1 0 dX2_get_13 rfl ?_
    refine ac_aload_n Z.1 1 dX2_get_14 rfl ?_
    refine f_geti Z b_X2 2 (oT_2 hg) 2 (by decide) (by decide) (fT_22 hg) fX2_15 rfl (v := (M.1 22)) rfl dX2_get_15 ?_
    refine ac_bipush (v := 7) Z.1 dX2_get_18 (by decide) ?_
    refine ac_imul Z.1 dX2_get_20 ?_
    obtain ⟨hwt, hwf⟩ := hw
    refine ac_icmp_ge (tgt := 33) Z.1 dX2_get_21 (by decide) (fun hc => ?_) (fun hc => ?_)
    · have hw := hwt hc
      refine ac_iconst (v := 0) Z.1 dX2_get_33 (by decide) ?_
      exact hret _ _ _ _ _ dX2_get_34 rfl hw
    · have hw := hwf hc
      refine ac_aload_n Z.1 1 dX2_get_24 rfl ?_
      refine f_getr Z b_X2 2 (oT_2 hg) 0 (by decide) (by decide) (fT_20 hg) fX2_11 rfl (h2 := O.1) rfl dX2_get_25 ?_
      refine ac_iload_n Z.1 0 dX2_get_28 rfl ?_
      obtain ⟨hb1, hw⟩ := hw
      refine f_ald Z 4 (aT_99 hg) rfl hb1 (v := (M.2.1 99 (((p1 - 1) * 7) + p2).toNatClampNeg)) rfl dX2_get_29 ?_
      refine ac_topi (fun v2 hv2 => ?_)
      have hw := hw v2 hv2
      refine ac_goto (tgt := 34) Z.1 dX2_get_30 (by decide) ?_
      exact hret _ _ _ _ _ dX2_get_34 rfl hw
def wY_X2_kindOf (N : Nat → Nat) (p1 : Int32) (M : f_S3) (O : Nat × Nat) (Q : Int32 → f_S3 → Nat × Nat → Prop) : Prop := wY_X2_get N p1 0 M O (fun r1 M2 O2 => (Q r1 M2 O2))
set_option maxRecDepth 20000 in
theorem soY_X2_kindOf {l : Launch} {g : b_S} {c : Nat} (hg : g.1 = tb_T c) (p1 : Int32) (M : f_S3) (O : Nat × Nat) (Q : Int32 → f_S3 → Nat × Nat → Prop) (hw : wY_X2_kindOf (b_N g) p1 M O Q) : f_MetI l g yX2_kindOf cX2_kindOf 2 .int (1) [.ref (b_o g 2), .int p1] M O Q := by
  refine f_MetI.of (C := RX2) (by decide) rfl (Nat.le_of_ble_eq_true rfl) (fun x Z hret => ?_)
  show f_G x g 2 O M O 0 [(0, .ref (b_o g 2)), (1, .int p1)] []
  refine ac_aload_n Z.1 0 dX2_kindOf_0 rfl ?_
  refine ac_iload_n Z.1 1 dX2_kindOf_1 rfl ?_
  refine ac_iconst (v := 0) Z.1 dX2_kindOf_2 (by decide) ?_
  refine f_calli (As := [.int p1, .int 0]) (st := []) Z b_X2.1 2 (oT_2 hg) rfl kX2_get lkX2_32 (by omega) (soY_X2_get hg  _ _ _ _ _ hw) rfl rfl (Nat.le_of_ble_eq_true rfl) dX2_kindOf_3 (fun r1 M2 O2 hw => ?_)
  exact hret _ _ _ _ _ dX2_kindOf_6 rfl hw
def wY_X2_weightOf (N : Nat → Nat) (p1 : Int32) (M : f_S3) (O : Nat × Nat) (Q : Int32 → f_S3 → Nat × Nat → Prop) : Prop := wY_X2_get N p1 1 M O (fun r1 M2 O2 => (wY_X2_get N p1 0 M2 O2 (fun r3 M4 O4 => ((r3 = 1 → (Q (r1 + 10) M4 O4)) ∧ (r3 = 2 → (wY_X2_get N p1 2 M4 O4 (fun r5 M6 O6 => (Q ((r1 + 10) + r5) M6 O6)))) ∧ (r3 = 3 → (Q (2 * (r1 + 10)) M4 O4)) ∧ (r3 = 4 → (Q (3 * r1) M4 O4)) ∧ (r3 = 5 → (Q ((3 * r1) - 5) M4 O4)) ∧ (r3 = 6 → (wY_X2_get N p1 6 M4 O4 (fun r7 M8 O8 => (wY_X2_get N r7 1 M8 O8 (fun r9 M10 O10 => (Q ((3 * r1) + r9) M10 O10)))))) ∧ (¬ r3 = 1 → ¬ r3 = 2 → ¬ r3 = 3 → ¬ r3 = 4 → ¬ r3 = 5 → ¬ r3 = 6 → (Q r1 M4 O4))))))
set_option maxRecDepth 20000 in
theorem soY_X2_weightOf {l : Launch} {g : b_S} {c : Nat} (hg : g.1 = tb_T c) (p1 : Int32) (M : f_S3) (O : Nat × Nat) (Q : Int32 → f_S3 → Nat × Nat → Prop) (hw : wY_X2_weightOf (b_N g) p1 M O Q) : f_MetI l g yX2_weightOf cX2_weightOf 3 .int (1) [.ref (b_o g 2), .int p1] M O Q := by
  refine f_MetI.of (C := RX2) (by decide) rfl (Nat.le_of_ble_eq_true rfl) (fun x Z hret => ?_)
  show f_G x g 3 O M O 0 [(0, .ref (b_o g 2)), (1, .int p1)] []
  refine ac_aload_n Z.1 0 dX2_weightOf_0 rfl ?_
  refine ac_iload_n Z.1 1 dX2_weightOf_1 rfl ?_
  refine ac_iconst (v := 1) Z.1 dX2_weightOf_2 (by decide) ?_
  refine f_calli (As := [.int p1, .int 1]) (st := []) Z b_X2.1 2 (oT_2 hg) rfl kX2_get lkX2_32 (by omega) (soY_X2_get hg  _ _ _ _ _ hw) rfl rfl (Nat.le_of_ble_eq_true rfl) dX2_weightOf_3 (fun r1 M2 O2 hw => ?_)
  refine ac_istore_n (lv' := [(2, .int r1), (0, .ref (b_o g 2)), (1, .int p1)]) Z.1 dX2_weightOf_6 (by decide) rfl ?_
  refine ac_aload_n Z.1 1 dX2_weightOf_7 rfl ?_
  refine ac_iload_n Z.1 2 dX2_weightOf_8 rfl ?_
  refine ac_iconst (v := 0) Z.1 dX2_weightOf_9 (by decide) ?_
  refine f_calli (As := [.int p1, .int 0]) (st := []) Z b_X2.1 2 (oT_2 hg) rfl kX2_get lkX2_32 (by omega) (soY_X2_get hg  _ _ _ _ _ hw) rfl rfl (Nat.le_of_ble_eq_true rfl) dX2_weightOf_10 (fun r3 M4 O4 hw => ?_)
  obtain ⟨hwk, hw⟩ := hw
  by_cases hk0 : r3 = 1
  · have hw := hwk hk0
    refine ac_tableIn (off := 39) (tgt := 52) Z.1 dX2_weightOf_13 (by rw [hk0]; decide) (by rw [hk0]; decide) (by rw [hk0]; rfl) (by decide) ?_
    refine ac_iload_n Z.1 0 dX2_weightOf_52 rfl ?_
    refine ac_bipush (v := 10) Z.1 dX2_weightOf_53 (by decide) ?_
    refine ac_iadd Z.1 dX2_weightOf_55 ?_
    exact hret _ _ _ _ _ dX2_weightOf_56 rfl hw
  obtain ⟨hwk, hw⟩ := hw
  by_cases hk1 : r3 = 2
  · have hw := hwk hk1
    refine ac_tableIn (off := 44) (tgt := 57) Z.1 dX2_weightOf_13 (by rw [hk1]; decide) (by rw [hk1]; decide) (by rw [hk1]; rfl) (by decide) ?_
    refine ac_iload_n Z.1 0 dX2_weightOf_57 rfl ?_
    refine ac_bipush (v := 10) Z.1 dX2_weightOf_58 (by decide) ?_
    refine ac_iadd Z.1 dX2_weightOf_60 ?_
    refine ac_aload_n Z.1 1 dX2_weightOf_61 rfl ?_
    refine ac_iload_n Z.1 2 dX2_weightOf_62 rfl ?_
    refine ac_iconst (v := 2) Z.1 dX2_weightOf_63 (by decide) ?_
    refine f_calli (As := [.int p1, .int 2]) (st := [.int (r1 + 10)]) Z b_X2.1 2 (oT_2 hg) rfl kX2_get lkX2_32 (by omega) (soY_X2_get hg  _ _ _ _ _ hw) rfl rfl (Nat.le_of_ble_eq_true rfl) dX2_weightOf_64 (fun r5 M6 O6 hw => ?_)
    refine ac_iadd Z.1 dX2_weightOf_67 ?_
    exact hret _ _ _ _ _ dX2_weightOf_68 rfl hw
  obtain ⟨hwk, hw⟩ := hw
  by_cases hk2 : r3 = 3
  · have hw := hwk hk2
    refine ac_tableIn (off := 56) (tgt := 69) Z.1 dX2_weightOf_13 (by rw [hk2]; decide) (by rw [hk2]; decide) (by rw [hk2]; rfl) (by decide) ?_
    refine ac_iconst (v := 2) Z.1 dX2_weightOf_69 (by decide) ?_
    refine ac_iload_n Z.1 0 dX2_weightOf_70 rfl ?_
    refine ac_bipush (v := 10) Z.1 dX2_weightOf_71 (by decide) ?_
    refine ac_iadd Z.1 dX2_weightOf_73 ?_
    refine ac_imul Z.1 dX2_weightOf_74 ?_
    exact hret _ _ _ _ _ dX2_weightOf_75 rfl hw
  obtain ⟨hwk, hw⟩ := hw
  by_cases hk3 : r3 = 4
  · have hw := hwk hk3
    refine ac_tableIn (off := 63) (tgt := 76) Z.1 dX2_weightOf_13 (by rw [hk3]; decide) (by rw [hk3]; decide) (by rw [hk3]; rfl) (by decide) ?_
    refine ac_iconst (v := 3) Z.1 dX2_weightOf_76 (by decide) ?_
    refine ac_iload_n Z.1 0 dX2_weightOf_77 rfl ?_
    refine ac_imul Z.1 dX2_weightOf_78 ?_
    exact hret _ _ _ _ _ dX2_weightOf_79 rfl hw
  obtain ⟨hwk, hw⟩ := hw
  by_cases hk4 : r3 = 5
  · have hw := hwk hk4
    refine ac_tableIn (off := 67) (tgt := 80) Z.1 dX2_weightOf_13 (by rw [hk4]; decide) (by rw [hk4]; decide) (by rw [hk4]; rfl) (by decide) ?_
    refine ac_iconst (v := 3) Z.1 dX2_weightOf_80 (by decide) ?_
    refine ac_iload_n Z.1 0 dX2_weightOf_81 rfl ?_
    refine ac_imul Z.1 dX2_weightOf_82 ?_
    refine ac_iconst (v := 5) Z.1 dX2_weightOf_83 (by decide) ?_
    refine ac_isub Z.1 dX2_weightOf_84 ?_
    exact hret _ _ _ _ _ dX2_weightOf_85 rfl hw
  obtain ⟨hwk, hw⟩ := hw
  by_cases hk5 : r3 = 6
  · have hw := hwk hk5
    refine ac_tableIn (off := 73) (tgt := 86) Z.1 dX2_weightOf_13 (by rw [hk5]; decide) (by rw [hk5]; decide) (by rw [hk5]; rfl) (by decide) ?_
    refine ac_iconst (v := 3) Z.1 dX2_weightOf_86 (by decide) ?_
    refine ac_iload_n Z.1 0 dX2_weightOf_87 rfl ?_
    refine ac_imul Z.1 dX2_weightOf_88 ?_
    refine ac_aload_n Z.1 1 dX2_weightOf_89 rfl ?_
    refine ac_aload_n Z.1 1 dX2_weightOf_90 rfl ?_
    refine ac_iload_n Z.1 2 dX2_weightOf_91 rfl ?_
    refine ac_bipush (v := 6) Z.1 dX2_weightOf_92 (by decide) ?_
    refine f_calli (As := [.int p1, .int 6]) (st := [.ref (b_o g 2), .int (3 * r1)]) Z b_X2.1 2 (oT_2 hg) rfl kX2_get lkX2_32 (by omega) (soY_X2_get hg  _ _ _ _ _ hw) rfl rfl (Nat.le_of_ble_eq_true rfl) dX2_weightOf_94 (fun r7 M8 O8 hw => ?_)
    refine ac_iconst (v := 1) Z.1 dX2_weightOf_97 (by decide) ?_
    refine f_calli (As := [.int r7, .int 1]) (st := [.int (3 * r1)]) Z b_X2.1 2 (oT_2 hg) rfl kX2_get lkX2_32 (by omega) (soY_X2_get hg  _ _ _ _ _ hw) rfl rfl (Nat.le_of_ble_eq_true rfl) dX2_weightOf_98 (fun r9 M10 O10 hw => ?_)
    refine ac_iadd Z.1 dX2_weightOf_101 ?_
    exact hret _ _ _ _ _ dX2_weightOf_102 rfl hw
  have hw := hw hk0 hk1 hk2 hk3 hk4 hk5
  refine ac_tableOut (tgt := 103) Z.1 dX2_weightOf_13 (by have q0 := lv_neT hk0 (show (1 : Int32).toInt = 1 by decide); have q1 := lv_neT hk1 (show (2 : Int32).toInt = 2 by decide); have q2 := lv_neT hk2 (show (3 : Int32).toInt = 3 by decide); have q3 := lv_neT hk3 (show (4 : Int32).toInt = 4 by decide); have q4 := lv_neT hk4 (show (5 : Int32).toInt = 5 by decide); have q5 := lv_neT hk5 (show (6 : Int32).toInt = 6 by decide); omega) (by decide) ?_
  refine ac_iload_n Z.1 0 dX2_weightOf_103 rfl ?_
  exact hret _ _ _ _ _ dX2_weightOf_104 rfl hw
def wY_X2_chainLength_28 (N : Nat → Nat) (Q : Int32 → f_S3 → Nat × Nat → Prop) (a2 : Int32) (M : f_S3) (O : Nat × Nat) : Prop := Q a2 M O
set_option maxRecDepth 20000 in
theorem sY_X2_chainLength_28 {x : ac_X} {g : b_S} {c : Nat} (hg : g.1 = tb_T c) {l : Launch} {O0 : Nat × Nat} {Q : Int32 → f_S3 → Nat × Nat → Prop} (Z : b_Cx x g l RX2 cX2_chainLength 4 (1) O0) (hret : f_RI x g 4 cX2_chainLength .int O0 Q) (a2 : Int32) (M : f_S3) (O : Nat × Nat) (hw : wY_X2_chainLength_28 (b_N g) Q a2 M O) : f_G x g 4 O0 M O 28 [(0, .ref (b_o g 2)), (2, .int a2)] [] := by
  refine ac_iload_n Z.1 1 dX2_chainLength_28 rfl ?_
  exact hret _ _ _ _ _ dX2_chainLength_29 rfl hw
def wY_X2_chainLength_4 (N : Nat → Nat) (Q : Int32 → f_S3 → Nat × Nat → Prop) : Nat → Int32 → Int32 → f_S3 → Nat × Nat → Prop
  | 0 => fun _ _ _ _ => False
  | n + 1 => fun a2 a3 M O => ((50 ≤ a2 → (wY_X2_chainLength_28 N Q a2 M O)) ∧ (¬ 50 ≤ a2 → ((a3 = 0 → (wY_X2_chainLength_28 N Q a2 M O)) ∧ (¬ a3 = 0 → (wY_X2_get N a3 6 M O (fun r1 M2 O2 => (wY_X2_chainLength_4 N Q n (a2 + 1) r1 M2 O2)))))))
set_option maxRecDepth 20000 in
theorem sY_X2_chainLength_4 {x : ac_X} {g : b_S} {c : Nat} (hg : g.1 = tb_T c) {l : Launch} {O0 : Nat × Nat} {Q : Int32 → f_S3 → Nat × Nat → Prop} (Z : b_Cx x g l RX2 cX2_chainLength 4 (1) O0) (hret : f_RI x g 4 cX2_chainLength .int O0 Q) : ∀ (n : Nat) (a2 : Int32) (a3 : Int32) (M : f_S3) (O : Nat × Nat), wY_X2_chainLength_4 (b_N g) Q n a2 a3 M O → f_G x g 4 O0 M O 4 [(0, .ref (b_o g 2)), (2, .int a2), (3, .int a3)] [] := by
  intro n
  induction n with
  | zero => intro _ _ _ _ hw; exact hw.elim
  | succ n ih =>
    intro a2 a3 M O hw
    dsimp only [wY_X2_chainLength_4] at hw
    refine ac_iload_n Z.1 1 dX2_chainLength_4 rfl ?_
    refine ac_bipush (v := 50) Z.1 dX2_chainLength_5 (by decide) ?_
    obtain ⟨hwt, hwf⟩ := hw
    refine ac_icmp_ge (tgt := 28) Z.1 dX2_chainLength_7 (by decide) (fun hc => ?_) (fun hc => ?_)
    · have hw := hwt hc
      refine ac_lv [0, 1] rfl ?_
      exact sY_X2_chainLength_28 hg Z hret _ _ _ hw
    · have hw := hwf hc
      refine ac_iload_n Z.1 2 dX2_chainLength_10 rfl ?_
      obtain ⟨hwt, hwf⟩ := hw
      refine ac_if_eq (tgt := 28) Z.1 dX2_chainLength_11 (by decide) (fun hc => ?_) (fun hc => ?_)
      · have hw := hwt hc
        refine ac_lv [0, 1] rfl ?_
        exact sY_X2_chainLength_28 hg Z hret _ _ _ hw
      · have hw := hwf hc
        refine ac_aload_n Z.1 0 dX2_chainLength_14 rfl ?_
        refine ac_iload_n Z.1 2 dX2_chainLength_15 rfl ?_
        refine ac_bipush (v := 6) Z.1 dX2_chainLength_16 (by decide) ?_
        refine f_calli (As := [.int a3, .int 6]) (st := []) Z b_X2.1 2 (oT_2 hg) rfl kX2_get lkX2_32 (by omega) (soY_X2_get hg  _ _ _ _ _ hw) rfl rfl (Nat.le_of_ble_eq_true rfl) dX2_chainLength_18 (fun r1 M2 O2 hw => ?_)
        refine ac_istore_n (lv' := [(3, .int r1), (0, .ref (b_o g 2)), (2, .int a2)]) Z.1 dX2_chainLength_21 (by decide) rfl ?_
        refine ac_iinc (w := (a2 + 1)) (lv' := [(2, .int (a2 + 1)), (3, .int r1), (0, .ref (b_o g 2))]) Z.1 2 dX2_chainLength_22 rfl rfl (by decide) rfl ?_
        refine ac_goto (tgt := 4) Z.1 dX2_chainLength_25 (by decide) ?_
        refine ac_lv [2, 0, 1] rfl ?_
        exact ih _ _ _ _ hw
def wY_X2_chainLength (N : Nat → Nat) (p1 : Int32) (M : f_S3) (O : Nat × Nat) (Q : Int32 → f_S3 → Nat × Nat → Prop) : Prop := ∃ e4, wY_X2_chainLength_4 N Q e4 0 p1 M O
set_option maxRecDepth 20000 in
theorem soY_X2_chainLength {l : Launch} {g : b_S} {c : Nat} (hg : g.1 = tb_T c) (p1 : Int32) (M : f_S3) (O : Nat × Nat) (Q : Int32 → f_S3 → Nat × Nat → Prop) (hw : wY_X2_chainLength (b_N g) p1 M O Q) : f_MetI l g yX2_chainLength cX2_chainLength 4 .int (1) [.ref (b_o g 2), .int p1] M O Q := by
  refine f_MetI.of (C := RX2) (by decide) rfl (Nat.le_of_ble_eq_true rfl) (fun x Z hret => ?_)
  show f_G x g 4 O M O 0 [(0, .ref (b_o g 2)), (1, .int p1)] []
  refine ac_iconst (v := 0) Z.1 dX2_chainLength_0 (by decide) ?_
  refine ac_istore_n (lv' := [(2, .int 0), (0, .ref (b_o g 2)), (1, .int p1)]) Z.1 dX2_chainLength_1 (by decide) rfl ?_
  refine ac_iload_n Z.1 2 dX2_chainLength_2 rfl ?_
  refine ac_istore_n (lv' := [(3, .int p1), (2, .int 0), (0, .ref (b_o g 2)), (1, .int p1)]) Z.1 dX2_chainLength_3 (by decide) rfl ?_
  obtain ⟨n, hw⟩ := hw
  refine ac_lv [2, 1, 0] rfl ?_
  exact sY_X2_chainLength_4 hg Z hret n _ _ _ _ hw
def wY_X2_tell (N : Nat → Nat) (p1 : Int32) (p2 : Int32) (M : f_S3) (O : Nat × Nat) (Q : Int32 → f_S3 → Nat × Nat → Prop) : Prop := (p2 = 6 → (wY_X2_weightOf N p1 M O (fun r1 M2 O2 => (Q r1 M2 O2)))) ∧ (p2 = 7 → (wY_X2_chainLength N p1 M O (fun r3 M4 O4 => (Q r3 M4 O4)))) ∧ (¬ p2 = 6 → ¬ p2 = 7 → ((p2 < 0 → (Q 0 M O)) ∧ (¬ p2 < 0 → ((5 < p2 → (Q 0 M O)) ∧ (¬ 5 < p2 → (wY_X2_get N p1 p2 M O (fun r5 M6 O6 => (Q r5 M6 O6))))))))
set_option maxRecDepth 20000 in
theorem soY_X2_tell {l : Launch} {g : b_S} {c : Nat} (hg : g.1 = tb_T c) (p1 : Int32) (p2 : Int32) (M : f_S3) (O : Nat × Nat) (Q : Int32 → f_S3 → Nat × Nat → Prop) (hw : wY_X2_tell (b_N g) p1 p2 M O Q) : f_MetI l g yX2_tell cX2_tell 3 .int (2) [.ref (b_o g 2), .int p1, .int p2] M O Q := by
  refine f_MetI.of (C := RX2) (by decide) rfl (Nat.le_of_ble_eq_true rfl) (fun x Z hret => ?_)
  show f_G x g 3 O M O 0 [(0, .ref (b_o g 2)), (1, .int p1), (2, .int p2)] []
  refine ac_iload_n Z.1 2 dX2_tell_0 rfl ?_
  obtain ⟨hwk, hw⟩ := hw
  by_cases hk0 : p2 = 6
  · have hw := hwk hk0
    refine ac_lookup (off := 27) (tgt := 28) Z.1 dX2_tell_1 (by decide) (by rw [hk0]; rfl) (by decide) ?_
    refine ac_aload_n Z.1 0 dX2_tell_28 rfl ?_
    refine ac_iload_n Z.1 1 dX2_tell_29 rfl ?_
    refine f_calli (As := [.int p1]) (st := []) Z b_X2.1 2 (oT_2 hg) rfl kX2_weightOf lkX2_49 (by omega) (soY_X2_weightOf hg  _ _ _ _ hw) rfl rfl (Nat.le_of_ble_eq_true rfl) dX2_tell_30 (fun r1 M2 O2 hw => ?_)
    exact hret _ _ _ _ _ dX2_tell_33 rfl hw
  obtain ⟨hwk, hw⟩ := hw
  by_cases hk1 : p2 = 7
  · have hw := hwk hk1
    refine ac_lookup (off := 33) (tgt := 34) Z.1 dX2_tell_1 (by decide) (by rw [hk1]; rfl) (by decide) ?_
    refine ac_aload_n Z.1 0 dX2_tell_34 rfl ?_
    refine ac_iload_n Z.1 1 dX2_tell_35 rfl ?_
    refine f_calli (As := [.int p1]) (st := []) Z b_X2.1 2 (oT_2 hg) rfl kX2_chainLength lkX2_53 (by omega) (soY_X2_chainLength hg  _ _ _ _ hw) rfl rfl (Nat.le_of_ble_eq_true rfl) dX2_tell_36 (fun r3 M4 O4 hw => ?_)
    exact hret _ _ _ _ _ dX2_tell_39 rfl hw
  have hw := hw hk0 hk1
  refine ac_lookup (off := 39) (tgt := 40) Z.1 dX2_tell_1 (by decide) ((lv_osw hk0 (show (6 : Int32).toInt = 6 by decide)).trans ((lv_osw hk1 (show (7 : Int32).toInt = 7 by decide)).trans rfl)) (by decide) ?_
  refine ac_iload_n Z.1 2 dX2_tell_40 rfl ?_
  obtain ⟨hwt, hwf⟩ := hw
  refine ac_if_lt (tgt := 58) Z.1 dX2_tell_41 (by decide) (fun hc => ?_) (fun hc => ?_)
  · have hw := hwt hc
    refine ac_iconst (v := 0) Z.1 dX2_tell_58 (by decide) ?_
    exact hret _ _ _ _ _ dX2_tell_59 rfl hw
  · have hw := hwf hc
    refine ac_iload_n Z.1 2 dX2_tell_44 rfl ?_
    refine ac_iconst (v := 5) Z.1 dX2_tell_45 (by decide) ?_
    obtain ⟨hwt, hwf⟩ := hw
    refine ac_icmp_gt (tgt := 58) Z.1 dX2_tell_46 (by decide) (fun hc => ?_) (fun hc => ?_)
    · have hw := hwt hc
      refine ac_iconst (v := 0) Z.1 dX2_tell_58 (by decide) ?_
      exact hret _ _ _ _ _ dX2_tell_59 rfl hw
    · have hw := hwf hc
      refine ac_aload_n Z.1 0 dX2_tell_49 rfl ?_
      refine ac_iload_n Z.1 1 dX2_tell_50 rfl ?_
      refine ac_iload_n Z.1 2 dX2_tell_51 rfl ?_
      refine f_calli (As := [.int p1, .int p2]) (st := []) Z b_X2.1 2 (oT_2 hg) rfl kX2_get lkX2_32 (by omega) (soY_X2_get hg  _ _ _ _ _ hw) rfl rfl (Nat.le_of_ble_eq_true rfl) dX2_tell_52 (fun r5 M6 O6 hw => ?_)
      refine ac_goto (tgt := 59) Z.1 dX2_tell_55 (by decide) ?_
      exact hret _ _ _ _ _ dX2_tell_59 rfl hw
def wY_X8_tellOf_45 (N : Nat → Nat) (Q : f_S3 → Nat × Nat → Prop) (a2 : Int32) (a3 : Int32) (M : f_S3) (O : Nat × Nat) : Prop := wY_X2_tell N a3 a2 M O (fun r3 M4 O4 => (wY_X8_push N r3 M4 O4 (fun M5 O5 => (Q M5 O5))))
set_option maxRecDepth 20000 in
theorem sY_X8_tellOf_45 {x : ac_X} {g : b_S} (hg : g.1 = tb_T 5) {l : Launch} {O0 : Nat × Nat} {Q : f_S3 → Nat × Nat → Prop} (Z : b_Cx x g l RX8 cX8_tellOf 4 (11) O0) (hret : f_RV x g 4 cX8_tellOf O0 Q) (a2 : Int32) (a3 : Int32) (M : f_S3) (O : Nat × Nat) (hw : wY_X8_tellOf_45 (b_N g) Q a2 a3 M O) : f_G x g 4 O0 M O 45 [(0, .ref (b_o g 4)), (2, .int a2), (3, .int a3)] [] := by
  refine ac_aload_n Z.1 0 dX8_tellOf_45 rfl ?_
  refine ac_aload_n Z.1 0 dX8_tellOf_46 rfl ?_
  refine f_getr Z b_X8 4 (oT_4 hg) 0 (by decide) (by decide) (fT_40 hg) fX8_36 rfl (h2 := (b_o g 2)) rfl dX8_tellOf_47 ?_
  refine ac_iload_n Z.1 2 dX8_tellOf_50 rfl ?_
  refine ac_iload_n Z.1 1 dX8_tellOf_51 rfl ?_
  refine f_calli (As := [.int a3, .int a2]) (st := [.ref (b_o g 4)]) Z b_X2.1 2 (oT_2 hg) rfl kX2_tell lkX8_167 (by omega) (soY_X2_tell hg  _ _ _ _ _ hw) rfl rfl (Nat.le_of_ble_eq_true rfl) dX8_tellOf_52 (fun r3 M4 O4 hw => ?_)
  refine f_callv (As := [.int r3]) (st := []) Z b_X8.1 4 (oT_4 hg) rfl kX8_push lkX8_129 (by omega) (soY_X8_push hg  _ _ _ _ hw) rfl rfl (Nat.le_of_ble_eq_true rfl) dX8_tellOf_55 (fun M5 O5 hw => ?_)
  exact hret _ _ _ _ dX8_tellOf_58 hw
def wY_X8_tellOf (N : Nat → Nat) (p1 : Int32) (p2 : Int32) (M : f_S3) (O : Nat × Nat) (Q : f_S3 → Nat × Nat → Prop) : Prop := wY_X8_objectAt N p1 M O (fun r1 M2 O2 => ((¬ r1 = 0 → ((¬ p2 = 2 → (wY_X8_tellOf_45 N Q p2 r1 M2 O2)) ∧ (p2 = 2 → (wY_X2_kindOf N r1 M2 O2 (fun r6 M7 O7 => ((r6 = 2 → (wY_X8_tellOf_45 N Q p2 r1 M7 O7)) ∧ (¬ r6 = 2 → (wY_X8_raiseNew N 1 2 M7 O7 (fun M8 O8 => (Q M8 O8)))))))))) ∧ (r1 = 0 → (wY_X8_raiseNew N 3 1 M2 O2 (fun M9 O9 => (Q M9 O9))))))
set_option maxRecDepth 20000 in
theorem soY_X8_tellOf {l : Launch} {g : b_S} (hg : g.1 = tb_T 5) (p1 : Int32) (p2 : Int32) (M : f_S3) (O : Nat × Nat) (Q : f_S3 → Nat × Nat → Prop) (hw : wY_X8_tellOf (b_N g) p1 p2 M O Q) : f_MetV l g yX8_tellOf cX8_tellOf 4 (11) [.ref (b_o g 4), .int p1, .int p2] M O Q := by
  refine f_MetV.of (C := RX8) (by decide) rfl (Nat.le_of_ble_eq_true rfl) (fun x Z hret => ?_)
  show f_G x g 4 O M O 0 [(0, .ref (b_o g 4)), (1, .int p1), (2, .int p2)] []
  refine ac_aload_n Z.1 0 dX8_tellOf_0 rfl ?_
  refine ac_iload_n Z.1 1 dX8_tellOf_1 rfl ?_
  refine f_calli (As := [.int p1]) (st := []) Z b_X8.1 4 (oT_4 hg) rfl kX8_objectAt lkX8_138 (by omega) (soY_X8_objectAt hg  _ _ _ _ hw) rfl rfl (Nat.le_of_ble_eq_true rfl) dX8_tellOf_2 (fun r1 M2 O2 hw => ?_)
  refine ac_istore_n (lv' := [(3, .int r1), (0, .ref (b_o g 4)), (1, .int p1), (2, .int p2)]) Z.1 dX8_tellOf_5 (by decide) rfl ?_
  refine ac_iload_n Z.1 0 dX8_tellOf_6 rfl ?_
  obtain ⟨hwt, hwf⟩ := hw
  refine ac_if_ne (tgt := 19) Z.1 dX8_tellOf_7 (by decide) (fun hc => ?_) (fun hc => ?_)
  · have hw := hwt hc
    refine ac_iload_n Z.1 3 dX8_tellOf_19 rfl ?_
    refine ac_iconst (v := 2) Z.1 dX8_tellOf_20 (by decide) ?_
    obtain ⟨hwt, hwf⟩ := hw
    refine ac_icmp_ne (tgt := 45) Z.1 dX8_tellOf_21 (by decide) (fun hc => ?_) (fun hc => ?_)
    · have hw := hwt hc
      refine ac_lv [1, 3, 0] rfl ?_
      exact sY_X8_tellOf_45 hg Z hret _ _ _ _ hw
    · have hw := hwf hc
      refine ac_aload_n Z.1 1 dX8_tellOf_24 rfl ?_
      refine f_getr Z b_X8 4 (oT_4 hg) 0 (by decide) (by decide) (fT_40 hg) fX8_36 rfl (h2 := (b_o g 2)) rfl dX8_tellOf_25 ?_
      refine ac_iload_n Z.1 0 dX8_tellOf_28 rfl ?_
      refine f_calli (As := [.int r1]) (st := []) Z b_X2.1 2 (oT_2 hg) rfl kX2_kindOf lkX8_164 (by omega) (soY_X2_kindOf hg  _ _ _ _ hw) rfl rfl (Nat.le_of_ble_eq_true rfl) dX8_tellOf_29 (fun r6 M7 O7 hw => ?_)
      refine ac_iconst (v := 2) Z.1 dX8_tellOf_32 (by decide) ?_
      obtain ⟨hwt, hwf⟩ := hw
      refine ac_icmp_eq (tgt := 45) Z.1 dX8_tellOf_33 (by decide) (fun hc => ?_) (fun hc => ?_)
      · have hw := hwt hc
        refine ac_lv [1, 3, 0] rfl ?_
        exact sY_X8_tellOf_45 hg Z hret _ _ _ _ hw
      · have hw := hwf hc
        refine ac_aload_n Z.1 1 dX8_tellOf_36 rfl ?_
        refine ac_iconst (v := 1) Z.1 dX8_tellOf_37 (by decide) ?_
        refine ac_iconst (v := 2) Z.1 dX8_tellOf_38 (by decide) ?_
        refine f_callv (As := [.int 1, .int 2]) (st := []) Z b_X8.1 4 (oT_4 hg) rfl kX8_raiseNew lkX8_122 (by omega) (soY_X8_raiseNew hg  _ _ _ _ _ hw) rfl rfl (Nat.le_of_ble_eq_true rfl) dX8_tellOf_39 (fun M8 O8 hw => ?_)
        refine ac_goto (tgt := 58) Z.1 dX8_tellOf_42 (by decide) ?_
        exact hret _ _ _ _ dX8_tellOf_58 hw
  · have hw := hwf hc
    refine ac_aload_n Z.1 1 dX8_tellOf_10 rfl ?_
    refine ac_iconst (v := 3) Z.1 dX8_tellOf_11 (by decide) ?_
    refine ac_iconst (v := 1) Z.1 dX8_tellOf_12 (by decide) ?_
    refine f_callv (As := [.int 3, .int 1]) (st := []) Z b_X8.1 4 (oT_4 hg) rfl kX8_raiseNew lkX8_122 (by omega) (soY_X8_raiseNew hg  _ _ _ _ _ hw) rfl rfl (Nat.le_of_ble_eq_true rfl) dX8_tellOf_13 (fun M9 O9 hw => ?_)
    refine ac_goto (tgt := 58) Z.1 dX8_tellOf_16 (by decide) ?_
    exact hret _ _ _ _ dX8_tellOf_58 hw
def wY_X3_is_4 (N : Nat → Nat) (Q : Int32 → f_S3 → Nat × Nat → Prop) : Nat → Int32 → Int32 → Int32 → f_S3 → Nat × Nat → Prop
  | 0 => fun _ _ _ _ _ => False
  | n + 1 => fun a1 a2 a3 M O => ((7 ≤ a3 → (Q 0 M O)) ∧ (¬ 7 ≤ a3 → ((a2 = (-1) → (Q 0 M O)) ∧ (¬ a2 = (-1) → ((¬ a2 = a1 → (wY_X3_oneOf N a2 M O (fun r1 M2 O2 => (wY_X3_is_4 N Q n a1 r1 (a3 + 1) M2 O2)))) ∧ (a2 = a1 → (Q 1 M O)))))))
set_option maxRecDepth 20000 in
theorem sY_X3_is_4 {x : ac_X} {g : b_S} {c : Nat} (hg : g.1 = tb_T c) {l : Launch} {O0 : Nat × Nat} {Q : Int32 → f_S3 → Nat × Nat → Prop} (Z : b_Cx x g l RX3 cX3_is 4 (1) O0) (hret : f_RI x g 4 cX3_is .boolean O0 Q) : ∀ (n : Nat) (a1 : Int32) (a2 : Int32) (a3 : Int32) (M : f_S3) (O : Nat × Nat), wY_X3_is_4 (b_N g) Q n a1 a2 a3 M O → f_G x g 4 O0 M O 4 [(1, .int a1), (2, .int a2), (3, .int a3)] [] := by
  intro n
  induction n with
  | zero => intro _ _ _ _ _ hw; exact hw.elim
  | succ n ih =>
    intro a1 a2 a3 M O hw
    dsimp only [wY_X3_is_4] at hw
    refine ac_iload_n Z.1 2 dX3_is_4 rfl ?_
    refine ac_bipush (v := 7) Z.1 dX3_is_5 (by decide) ?_
    obtain ⟨hwt, hwf⟩ := hw
    refine ac_icmp_ge (tgt := 33) Z.1 dX3_is_7 (by decide) (fun hc => ?_) (fun hc => ?_)
    · have hw := hwt hc
      refine ac_iconst (v := 0) Z.1 dX3_is_33 (by decide) ?_
      exact hret _ _ _ _ _ dX3_is_34 rfl hw
    · have hw := hwf hc
      refine ac_iload_n Z.1 1 dX3_is_10 rfl ?_
      refine ac_iconst (v := (-1)) Z.1 dX3_is_11 (by decide) ?_
      obtain ⟨hwt, hwf⟩ := hw
      refine ac_icmp_eq (tgt := 33) Z.1 dX3_is_12 (by decide) (fun hc => ?_) (fun hc => ?_)
      · have hw := hwt hc
        refine ac_iconst (v := 0) Z.1 dX3_is_33 (by decide) ?_
        exact hret _ _ _ _ _ dX3_is_34 rfl hw
      · have hw := hwf hc
        refine ac_iload_n Z.1 1 dX3_is_15 rfl ?_
        refine ac_iload_n Z.1 0 dX3_is_16 rfl ?_
        obtain ⟨hwt, hwf⟩ := hw
        refine ac_icmp_ne (tgt := 22) Z.1 dX3_is_17 (by decide) (fun hc => ?_) (fun hc => ?_)
        · have hw := hwt hc
          refine ac_iload_n Z.1 1 dX3_is_22 rfl ?_
          refine f_calliS (As := [.int a2]) (st := []) Z kX3_oneOf lkX3_15 (by omega) (soY_X3_oneOf hg  _ _ _ _ hw) rfl rfl (Nat.le_of_ble_eq_true rfl) dX3_is_23 (fun r1 M2 O2 hw => ?_)
          refine ac_istore_n (lv' := [(2, .int r1), (1, .int a1), (3, .int a3)]) Z.1 dX3_is_26 (by decide) rfl ?_
          refine ac_iinc (w := (a3 + 1)) (lv' := [(3, .int (a3 + 1)), (2, .int r1), (1, .int a1)]) Z.1 2 dX3_is_27 rfl rfl (by decide) rfl ?_
          refine ac_goto (tgt := 4) Z.1 dX3_is_30 (by decide) ?_
          refine ac_lv [2, 1, 0] rfl ?_
          exact ih _ _ _ _ _ hw
        · have hw := hwf hc
          refine ac_iconst (v := 1) Z.1 dX3_is_20 (by decide) ?_
          exact hret _ _ _ _ _ dX3_is_21 rfl hw
def wY_X3_is (N : Nat → Nat) (p0 : Int32) (p1 : Int32) (M : f_S3) (O : Nat × Nat) (Q : Int32 → f_S3 → Nat × Nat → Prop) : Prop := ∃ e4, wY_X3_is_4 N Q e4 p1 p0 0 M O
set_option maxRecDepth 20000 in
theorem soY_X3_is {l : Launch} {g : b_S} {c : Nat} (hg : g.1 = tb_T c) (p0 : Int32) (p1 : Int32) (M : f_S3) (O : Nat × Nat) (Q : Int32 → f_S3 → Nat × Nat → Prop) (hw : wY_X3_is (b_N g) p0 p1 M O Q) : f_MetI l g yX3_is cX3_is 4 .boolean (1) [.int p0, .int p1] M O Q := by
  refine f_MetI.of (C := RX3) (by decide) rfl (Nat.le_of_ble_eq_true rfl) (fun x Z hret => ?_)
  show f_G x g 4 O M O 0 [(0, .int p0), (1, .int p1)] []
  refine ac_iload_n Z.1 0 dX3_is_0 rfl ?_
  refine ac_istore_n (lv' := [(2, .int p0), (0, .int p0), (1, .int p1)]) Z.1 dX3_is_1 (by decide) rfl ?_
  refine ac_iconst (v := 0) Z.1 dX3_is_2 (by decide) ?_
  refine ac_istore_n (lv' := [(3, .int 0), (2, .int p0), (0, .int p0), (1, .int p1)]) Z.1 dX3_is_3 (by decide) rfl ?_
  obtain ⟨n, hw⟩ := hw
  refine ac_lv [3, 1, 0] rfl ?_
  exact sY_X3_is_4 hg Z hret n _ _ _ _ _ hw
def wY_X8_pushIs_25 (N : Nat → Nat) (Q : f_S3 → Nat × Nat → Prop) (t1 : Int32) (M : f_S3) (O : Nat × Nat) : Prop := wY_X8_push N t1 M O (fun M1 O1 => (Q M1 O1))
set_option maxRecDepth 20000 in
theorem sY_X8_pushIs_25 {x : ac_X} {g : b_S} (hg : g.1 = tb_T 5) {l : Launch} {O0 : Nat × Nat} {Q : f_S3 → Nat × Nat → Prop} (Z : b_Cx x g l RX8 cX8_pushIs 3 (2) O0) (hret : f_RV x g 3 cX8_pushIs O0 Q) (t1 : Int32) (M : f_S3) (O : Nat × Nat) (hw : wY_X8_pushIs_25 (b_N g) Q t1 M O) : f_G x g 3 O0 M O 25 [(0, .ref (b_o g 4))] [.int t1, .ref (b_o g 4)] := by
  refine f_callv (As := [.int t1]) (st := []) Z b_X8.1 4 (oT_4 hg) rfl kX8_push lkX8_129 (by omega) (soY_X8_push hg  _ _ _ _ hw) rfl rfl (Nat.le_of_ble_eq_true rfl) dX8_pushIs_25 (fun M1 O1 hw => ?_)
  exact hret _ _ _ _ dX8_pushIs_28 hw
def wY_X8_pushIs_24 (N : Nat → Nat) (Q : f_S3 → Nat × Nat → Prop) (M : f_S3) (O : Nat × Nat) : Prop := wY_X8_pushIs_25 N Q 0 M O
set_option maxRecDepth 20000 in
theorem sY_X8_pushIs_24 {x : ac_X} {g : b_S} (hg : g.1 = tb_T 5) {l : Launch} {O0 : Nat × Nat} {Q : f_S3 → Nat × Nat → Prop} (Z : b_Cx x g l RX8 cX8_pushIs 3 (2) O0) (hret : f_RV x g 3 cX8_pushIs O0 Q) (M : f_S3) (O : Nat × Nat) (hw : wY_X8_pushIs_24 (b_N g) Q M O) : f_G x g 3 O0 M O 24 [(0, .ref (b_o g 4))] [.ref (b_o g 4)] := by
  refine ac_iconst (v := 0) Z.1 dX8_pushIs_24 (by decide) ?_
  exact sY_X8_pushIs_25 hg Z hret _ _ _ hw
def wY_X8_pushIs (N : Nat → Nat) (p1 : Int32) (p2 : Int32) (M : f_S3) (O : Nat × Nat) (Q : f_S3 → Nat × Nat → Prop) : Prop := (p1 = 0 → (wY_X8_pushIs_24 N Q M O)) ∧ (¬ p1 = 0 → (wY_X2_kindOf N p1 M O (fun r2 M3 O3 => (wY_X3_is N r2 p2 M3 O3 (fun r4 M5 O5 => ((r4 = 0 → (wY_X8_pushIs_24 N Q M5 O5)) ∧ (¬ r4 = 0 → (wY_X8_pushIs_25 N Q 1 M5 O5))))))))
set_option maxRecDepth 20000 in
theorem soY_X8_pushIs {l : Launch} {g : b_S} (hg : g.1 = tb_T 5) (p1 : Int32) (p2 : Int32) (M : f_S3) (O : Nat × Nat) (Q : f_S3 → Nat × Nat → Prop) (hw : wY_X8_pushIs (b_N g) p1 p2 M O Q) : f_MetV l g yX8_pushIs cX8_pushIs 3 (2) [.ref (b_o g 4), .int p1, .int p2] M O Q := by
  refine f_MetV.of (C := RX8) (by decide) rfl (Nat.le_of_ble_eq_true rfl) (fun x Z hret => ?_)
  show f_G x g 3 O M O 0 [(0, .ref (b_o g 4)), (1, .int p1), (2, .int p2)] []
  refine ac_aload_n Z.1 0 dX8_pushIs_0 rfl ?_
  refine ac_iload_n Z.1 1 dX8_pushIs_1 rfl ?_
  obtain ⟨hwt, hwf⟩ := hw
  refine ac_if_eq (tgt := 24) Z.1 dX8_pushIs_2 (by decide) (fun hc => ?_) (fun hc => ?_)
  · have hw := hwt hc
    refine ac_lv [0] rfl ?_
    exact sY_X8_pushIs_24 hg Z hret _ _ hw
  · have hw := hwf hc
    refine ac_aload_n Z.1 0 dX8_pushIs_5 rfl ?_
    refine f_getr Z b_X8 4 (oT_4 hg) 0 (by decide) (by decide) (fT_40 hg) fX8_36 rfl (h2 := (b_o g 2)) rfl dX8_pushIs_6 ?_
    refine ac_iload_n Z.1 1 dX8_pushIs_9 rfl ?_
    refine f_calli (As := [.int p1]) (st := [.ref (b_o g 4)]) Z b_X2.1 2 (oT_2 hg) rfl kX2_kindOf lkX8_164 (by omega) (soY_X2_kindOf hg  _ _ _ _ hw) rfl rfl (Nat.le_of_ble_eq_true rfl) dX8_pushIs_10 (fun r2 M3 O3 hw => ?_)
    refine ac_iload_n Z.1 2 dX8_pushIs_13 rfl ?_
    refine f_calliS (As := [.int r2, .int p2]) (st := [.ref (b_o g 4)]) Z kX3_is lkX8_171 (by omega) (soY_X3_is hg  _ _ _ _ _ hw) rfl rfl (Nat.le_of_ble_eq_true rfl) dX8_pushIs_14 (fun r4 M5 O5 hw => ?_)
    obtain ⟨hwt, hwf⟩ := hw
    refine ac_if_eq (tgt := 24) Z.1 dX8_pushIs_17 (by decide) (fun hc => ?_) (fun hc => ?_)
    · have hw := hwt hc
      refine ac_lv [0] rfl ?_
      exact sY_X8_pushIs_24 hg Z hret _ _ hw
    · have hw := hwf hc
      refine ac_iconst (v := 1) Z.1 dX8_pushIs_20 (by decide) ?_
      refine ac_goto (tgt := 25) Z.1 dX8_pushIs_21 (by decide) ?_
      refine ac_lv [0] rfl ?_
      exact sY_X8_pushIs_25 hg Z hret _ _ _ hw
def wY_X2_causeOf (N : Nat → Nat) (p1 : Int32) (M : f_S3) (O : Nat × Nat) (Q : Int32 → f_S3 → Nat × Nat → Prop) : Prop := wY_X2_get N p1 6 M O (fun r1 M2 O2 => (Q r1 M2 O2))
set_option maxRecDepth 20000 in
theorem soY_X2_causeOf {l : Launch} {g : b_S} {c : Nat} (hg : g.1 = tb_T c) (p1 : Int32) (M : f_S3) (O : Nat × Nat) (Q : Int32 → f_S3 → Nat × Nat → Prop) (hw : wY_X2_causeOf (b_N g) p1 M O Q) : f_MetI l g yX2_causeOf cX2_causeOf 2 .int (1) [.ref (b_o g 2), .int p1] M O Q := by
  refine f_MetI.of (C := RX2) (by decide) rfl (Nat.le_of_ble_eq_true rfl) (fun x Z hret => ?_)
  show f_G x g 2 O M O 0 [(0, .ref (b_o g 2)), (1, .int p1)] []
  refine ac_aload_n Z.1 0 dX2_causeOf_0 rfl ?_
  refine ac_iload_n Z.1 1 dX2_causeOf_1 rfl ?_
  refine ac_bipush (v := 6) Z.1 dX2_causeOf_2 (by decide) ?_
  refine f_calli (As := [.int p1, .int 6]) (st := []) Z b_X2.1 2 (oT_2 hg) rfl kX2_get lkX2_32 (by omega) (soY_X2_get hg  _ _ _ _ _ hw) rfl rfl (Nat.le_of_ble_eq_true rfl) dX2_causeOf_4 (fun r1 M2 O2 hw => ?_)
  exact hret _ _ _ _ _ dX2_causeOf_7 rfl hw
def wY_X8_holdCause (N : Nat → Nat) (p1 : Int32) (p2 : Int32) (M : f_S3) (O : Nat × Nat) (Q : f_S3 → Nat × Nat → Prop) : Prop := (¬ p2 = 0 → (wY_X2_causeOf N p2 M O (fun r1 M2 O2 => (wY_X8_setObject N p1 r1 M2 O2 (fun M3 O3 => (Q M3 O3)))))) ∧ (p2 = 0 → (wY_X8_raiseNew N 3 1 M O (fun M4 O4 => (Q M4 O4))))
set_option maxRecDepth 20000 in
theorem soY_X8_holdCause {l : Launch} {g : b_S} (hg : g.1 = tb_T 5) (p1 : Int32) (p2 : Int32) (M : f_S3) (O : Nat × Nat) (Q : f_S3 → Nat × Nat → Prop) (hw : wY_X8_holdCause (b_N g) p1 p2 M O Q) : f_MetV l g yX8_holdCause cX8_holdCause 3 (11) [.ref (b_o g 4), .int p1, .int p2] M O Q := by
  refine f_MetV.of (C := RX8) (by decide) rfl (Nat.le_of_ble_eq_true rfl) (fun x Z hret => ?_)
  show f_G x g 3 O M O 0 [(0, .ref (b_o g 4)), (1, .int p1), (2, .int p2)] []
  refine ac_iload_n Z.1 2 dX8_holdCause_0 rfl ?_
  obtain ⟨hwt, hwf⟩ := hw
  refine ac_if_ne (tgt := 13) Z.1 dX8_holdCause_1 (by decide) (fun hc => ?_) (fun hc => ?_)
  · have hw := hwt hc
    refine ac_aload_n Z.1 0 dX8_holdCause_13 rfl ?_
    refine ac_iload_n Z.1 1 dX8_holdCause_14 rfl ?_
    refine ac_aload_n Z.1 0 dX8_holdCause_15 rfl ?_
    refine f_getr Z b_X8 4 (oT_4 hg) 0 (by decide) (by decide) (fT_40 hg) fX8_36 rfl (h2 := (b_o g 2)) rfl dX8_holdCause_16 ?_
    refine ac_iload_n Z.1 2 dX8_holdCause_19 rfl ?_
    refine f_calli (As := [.int p2]) (st := [.int p1, .ref (b_o g 4)]) Z b_X2.1 2 (oT_2 hg) rfl kX2_causeOf lkX8_175 (by omega) (soY_X2_causeOf hg  _ _ _ _ hw) rfl rfl (Nat.le_of_ble_eq_true rfl) dX8_holdCause_20 (fun r1 M2 O2 hw => ?_)
    refine f_callv (As := [.int p1, .int r1]) (st := []) Z b_X8.1 4 (oT_4 hg) rfl kX8_setObject lkX8_144 (by omega) (soY_X8_setObject hg  _ _ _ _ _ hw) rfl rfl (Nat.le_of_ble_eq_true rfl) dX8_holdCause_23 (fun M3 O3 hw => ?_)
    exact hret _ _ _ _ dX8_holdCause_26 hw
  · have hw := hwf hc
    refine ac_aload_n Z.1 0 dX8_holdCause_4 rfl ?_
    refine ac_iconst (v := 3) Z.1 dX8_holdCause_5 (by decide) ?_
    refine ac_iconst (v := 1) Z.1 dX8_holdCause_6 (by decide) ?_
    refine f_callv (As := [.int 3, .int 1]) (st := []) Z b_X8.1 4 (oT_4 hg) rfl kX8_raiseNew lkX8_122 (by omega) (soY_X8_raiseNew hg  _ _ _ _ _ hw) rfl rfl (Nat.le_of_ble_eq_true rfl) dX8_holdCause_7 (fun M4 O4 hw => ?_)
    refine ac_goto (tgt := 26) Z.1 dX8_holdCause_10 (by decide) ?_
    exact hret _ _ _ _ dX8_holdCause_26 hw
def wY_X2_exists (N : Nat → Nat) (p1 : Int32) (M : f_S3) (O : Nat × Nat) (Q : Int32 → f_S3 → Nat × Nat → Prop) : Prop := (p1 < 1 → (Q 0 M O)) ∧ (¬ p1 < 1 → (((M.1 22) < p1 → (Q 0 M O)) ∧ (¬ (M.1 22) < p1 → (Q 1 M O))))
set_option maxRecDepth 20000 in
theorem soY_X2_exists {l : Launch} {g : b_S} {c : Nat} (hg : g.1 = tb_T c) (p1 : Int32) (M : f_S3) (O : Nat × Nat) (Q : Int32 → f_S3 → Nat × Nat → Prop) (hw : wY_X2_exists (b_N g) p1 M O Q) : f_MetI l g yX2_exists cX2_exists 2 .boolean (0) [.ref (b_o g 2), .int p1] M O Q := by
  refine f_MetI.of (C := RX2) (by decide) rfl (Nat.le_of_ble_eq_true rfl) (fun x Z hret => ?_)
  show f_G x g 2 O M O 0 [(0, .ref (b_o g 2)), (1, .int p1)] []
  refine ac_iload_n Z.1 1 dX2_exists_0 rfl ?_
  refine ac_iconst (v := 1) Z.1 dX2_exists_1 (by decide) ?_
  obtain ⟨hwt, hwf⟩ := hw
  refine ac_icmp_lt (tgt := 17) Z.1 dX2_exists_2 (by decide) (fun hc => ?_) (fun hc => ?_)
  · have hw := hwt hc
    refine ac_iconst (v := 0) Z.1 dX2_exists_17 (by decide) ?_
    exact hret _ _ _ _ _ dX2_exists_18 rfl hw
  · have hw := hwf hc
    refine ac_iload_n Z.1 1 dX2_exists_5 rfl ?_
    refine ac_aload_n Z.1 0 dX2_exists_6 rfl ?_
    refine f_geti Z b_X2 2 (oT_2 hg) 2 (by decide) (by decide) (fT_22 hg) fX2_15 rfl (v := (M.1 22)) rfl dX2_exists_7 ?_
    obtain ⟨hwt, hwf⟩ := hw
    refine ac_icmp_gt (tgt := 17) Z.1 dX2_exists_10 (by decide) (fun hc => ?_) (fun hc => ?_)
    · have hw := hwt hc
      refine ac_iconst (v := 0) Z.1 dX2_exists_17 (by decide) ?_
      exact hret _ _ _ _ _ dX2_exists_18 rfl hw
    · have hw := hwf hc
      refine ac_iconst (v := 1) Z.1 dX2_exists_13 (by decide) ?_
      refine ac_goto (tgt := 18) Z.1 dX2_exists_14 (by decide) ?_
      exact hret _ _ _ _ _ dX2_exists_18 rfl hw
def wY_X2_settle (N : Nat → Nat) (p1 : Int32) (p2 : Int32) (M : f_S3) (O : Nat × Nat) (Q : f_S3 → Nat × Nat → Prop) : Prop := wY_X2_exists N p1 M O (fun r1 M2 O2 => ((r1 = 0 → (Q M2 O2)) ∧ (¬ r1 = 0 → (vp_in (((p1 - 1) * 7) + 6) (448 * 2 ^ O2.2) ∧ (vp_in (((p1 - 1) * 7) + 5) (448 * 2 ^ O2.2) ∧ (Q (ff (ff M2 99 (((p1 - 1) * 7) + 6) p2) 99 (((p1 - 1) * 7) + 5) 1) O2))))))
set_option maxRecDepth 20000 in
theorem soY_X2_settle {l : Launch} {g : b_S} {c : Nat} (hg : g.1 = tb_T c) (p1 : Int32) (p2 : Int32) (M : f_S3) (O : Nat × Nat) (Q : f_S3 → Nat × Nat → Prop) (hw : wY_X2_settle (b_N g) p1 p2 M O Q) : f_MetV l g yX2_settle cX2_settle 4 (1) [.ref (b_o g 2), .int p1, .int p2] M O Q := by
  refine f_MetV.of (C := RX2) (by decide) rfl (Nat.le_of_ble_eq_true rfl) (fun x Z hret => ?_)
  show f_G x g 4 O M O 0 [(0, .ref (b_o g 2)), (1, .int p1), (2, .int p2)] []
  refine ac_aload_n Z.1 0 dX2_settle_0 rfl ?_
  refine ac_iload_n Z.1 1 dX2_settle_1 rfl ?_
  refine f_calli (As := [.int p1]) (st := []) Z b_X2.1 2 (oT_2 hg) rfl kX2_exists lkX2_36 (by omega) (soY_X2_exists hg  _ _ _ _ hw) rfl rfl (Nat.le_of_ble_eq_true rfl) dX2_settle_2 (fun r1 M2 O2 hw => ?_)
  obtain ⟨hwt, hwf⟩ := hw
  refine ac_if_eq (tgt := 34) Z.1 dX2_settle_5 (by decide) (fun hc => ?_) (fun hc => ?_)
  · have hw := hwt hc
    exact hret _ _ _ _ dX2_settle_34 hw
  · have hw := hwf hc
    refine ac_iload_n Z.1 1 dX2_settle_8 rfl ?_
    refine ac_iconst (v := 1) Z.1 dX2_settle_9 (by decide) ?_
    refine ac_isub Z.1 dX2_settle_10 ?_
    refine ac_bipush (v := 7) Z.1 dX2_settle_11 (by decide) ?_
    refine ac_imul Z.1 dX2_settle_13 ?_
    refine ac_istore_n (lv' := [(3, .int ((p1 - 1) * 7)), (0, .ref (b_o g 2)), (1, .int p1), (2, .int p2)]) Z.1 dX2_settle_14 (by decide) rfl ?_
    refine ac_aload_n Z.1 1 dX2_settle_15 rfl ?_
    refine f_getr Z b_X2 2 (oT_2 hg) 0 (by decide) (by decide) (fT_20 hg) fX2_11 rfl (h2 := O2.1) rfl dX2_settle_16 ?_
    refine ac_iload_n Z.1 0 dX2_settle_19 rfl ?_
    refine ac_bipush (v := 6) Z.1 dX2_settle_20 (by decide) ?_
    refine ac_iadd Z.1 dX2_settle_22 ?_
    refine ac_iload_n Z.1 3 dX2_settle_23 rfl ?_
    obtain ⟨hb3, hw⟩ := hw
    refine f_ast Z 4 (aT_99 hg) rfl hb3 dX2_settle_24 ?_
    refine ac_aload_n Z.1 1 dX2_settle_25 rfl ?_
    refine f_getr Z b_X2 2 (oT_2 hg) 0 (by decide) (by decide) (fT_20 hg) fX2_11 rfl (h2 := O2.1) rfl dX2_settle_26 ?_
    refine ac_iload_n Z.1 0 dX2_settle_29 rfl ?_
    refine ac_iconst (v := 5) Z.1 dX2_settle_30 (by decide) ?_
    refine ac_iadd Z.1 dX2_settle_31 ?_
    refine ac_iconst (v := 1) Z.1 dX2_settle_32 (by decide) ?_
    obtain ⟨hb4, hw⟩ := hw
    refine f_ast Z 4 (aT_99 hg) rfl hb4 dX2_settle_33 ?_
    exact hret _ _ _ _ dX2_settle_34 hw
def wY_X8_holdNew_76 (N : Nat → Nat) (Q : f_S3 → Nat × Nat → Prop) (a1 : Int32) (a7 : Int32) (M : f_S3) (O : Nat × Nat) : Prop := wY_X8_setObject N a1 a7 M O (fun M13 O13 => (Q M13 O13))
set_option maxRecDepth 20000 in
theorem sY_X8_holdNew_76 {x : ac_X} {g : b_S} (hg : g.1 = tb_T 5) {l : Launch} {O0 : Nat × Nat} {Q : f_S3 → Nat × Nat → Prop} (Z : b_Cx x g l RX8 cX8_holdNew 8 (10) O0) (hret : f_RV x g 8 cX8_holdNew O0 Q) (a1 : Int32) (a7 : Int32) (M : f_S3) (O : Nat × Nat) (hw : wY_X8_holdNew_76 (b_N g) Q a1 a7 M O) : f_G x g 8 O0 M O 76 [(0, .ref (b_o g 4)), (1, .int a1), (7, .int a7)] [] := by
  refine ac_aload_n Z.1 0 dX8_holdNew_76 rfl ?_
  refine ac_iload_n Z.1 1 dX8_holdNew_77 rfl ?_
  refine ac_iload Z.1 2 dX8_holdNew_78 rfl ?_
  refine f_callv (As := [.int a1, .int a7]) (st := []) Z b_X8.1 4 (oT_4 hg) rfl kX8_setObject lkX8_144 (by omega) (soY_X8_setObject hg  _ _ _ _ _ hw) rfl rfl (Nat.le_of_ble_eq_true rfl) dX8_holdNew_80 (fun M13 O13 hw => ?_)
  exact hret _ _ _ _ dX8_holdNew_83 hw
def wY_X8_holdNew (N : Nat → Nat) (p1 : Int32) (M : f_S3) (O : Nat × Nat) (Q : f_S3 → Nat × Nat → Prop) : Prop := wY_X8_fetch N M O (fun r1 M2 O2 => (wY_X8_fetch N M2 O2 (fun r3 M4 O4 => (wY_X8_fetch N M4 O4 (fun r5 M6 O6 => (wY_X8_pop N M6 O6 (fun r7 M8 O8 => (wY_X8_pop N M8 O8 (fun r9 M10 O10 => (wY_X2_makeInTrial N r1 r9 r7 r3 M10 O10 (fun r11 M12 O12 => ((¬ r11 = 0 → ((r5 = (-2) → (wY_X8_holdNew_76 N Q p1 r11 M12 O12)) ∧ (¬ r5 = (-2) → (wY_X8_objectAt N r5 M12 O12 (fun r14 M15 O15 => (wY_X2_settle N r11 r14 M15 O15 (fun M16 O16 => (wY_X8_holdNew_76 N Q p1 r11 M16 O16)))))))) ∧ (r11 = 0 → (Q (fm M12 53 3) O12))))))))))))))
set_option maxRecDepth 20000 in
theorem soY_X8_holdNew {l : Launch} {g : b_S} (hg : g.1 = tb_T 5) (p1 : Int32) (M : f_S3) (O : Nat × Nat) (Q : f_S3 → Nat × Nat → Prop) (hw : wY_X8_holdNew (b_N g) p1 M O Q) : f_MetV l g yX8_holdNew cX8_holdNew 8 (10) [.ref (b_o g 4), .int p1] M O Q := by
  refine f_MetV.of (C := RX8) (by decide) rfl (Nat.le_of_ble_eq_true rfl) (fun x Z hret => ?_)
  show f_G x g 8 O M O 0 [(0, .ref (b_o g 4)), (1, .int p1)] []
  refine ac_aload_n Z.1 0 dX8_holdNew_0 rfl ?_
  refine f_calli (As := []) (st := []) Z b_X8.1 4 (oT_4 hg) rfl kX8_fetch lkX8_56 (by omega) (soY_X8_fetch hg   _ _ _ hw) rfl rfl (Nat.le_of_ble_eq_true rfl) dX8_holdNew_1 (fun r1 M2 O2 hw => ?_)
  refine ac_istore_n (lv' := [(2, .int r1), (0, .ref (b_o g 4)), (1, .int p1)]) Z.1 dX8_holdNew_4 (by decide) rfl ?_
  refine ac_aload_n Z.1 1 dX8_holdNew_5 rfl ?_
  refine f_calli (As := []) (st := []) Z b_X8.1 4 (oT_4 hg) rfl kX8_fetch lkX8_56 (by omega) (soY_X8_fetch hg   _ _ _ hw) rfl rfl (Nat.le_of_ble_eq_true rfl) dX8_holdNew_6 (fun r3 M4 O4 hw => ?_)
  refine ac_istore_n (lv' := [(3, .int r3), (2, .int r1), (0, .ref (b_o g 4)), (1, .int p1)]) Z.1 dX8_holdNew_9 (by decide) rfl ?_
  refine ac_aload_n Z.1 2 dX8_holdNew_10 rfl ?_
  refine f_calli (As := []) (st := []) Z b_X8.1 4 (oT_4 hg) rfl kX8_fetch lkX8_56 (by omega) (soY_X8_fetch hg   _ _ _ hw) rfl rfl (Nat.le_of_ble_eq_true rfl) dX8_holdNew_11 (fun r5 M6 O6 hw => ?_)
  refine ac_istore (lv' := [(4, .int r5), (3, .int r3), (2, .int r1), (0, .ref (b_o g 4)), (1, .int p1)]) Z.1 dX8_holdNew_14 (by decide) rfl ?_
  refine ac_aload_n Z.1 3 dX8_holdNew_16 rfl ?_
  refine f_calli (As := []) (st := []) Z b_X8.1 4 (oT_4 hg) rfl kX8_pop lkX8_117 (by omega) (soY_X8_pop hg   _ _ _ hw) rfl rfl (Nat.le_of_ble_eq_true rfl) dX8_holdNew_17 (fun r7 M8 O8 hw => ?_)
  refine ac_istore (lv' := [(5, .int r7), (4, .int r5), (3, .int r3), (2, .int r1), (0, .ref (b_o g 4)), (1, .int p1)]) Z.1 dX8_holdNew_20 (by decide) rfl ?_
  refine ac_aload_n Z.1 4 dX8_holdNew_22 rfl ?_
  refine f_calli (As := []) (st := []) Z b_X8.1 4 (oT_4 hg) rfl kX8_pop lkX8_117 (by omega) (soY_X8_pop hg   _ _ _ hw) rfl rfl (Nat.le_of_ble_eq_true rfl) dX8_holdNew_23 (fun r9 M10 O10 hw => ?_)
  refine ac_istore (lv' := [(6, .int r9), (5, .int r7), (4, .int r5), (3, .int r3), (2, .int r1), (0, .ref (b_o g 4)), (1, .int p1)]) Z.1 dX8_holdNew_26 (by decide) rfl ?_
  refine ac_aload_n Z.1 5 dX8_holdNew_28 rfl ?_
  refine f_getr Z b_X8 4 (oT_4 hg) 0 (by decide) (by decide) (fT_40 hg) fX8_36 rfl (h2 := (b_o g 2)) rfl dX8_holdNew_29 ?_
  refine ac_iload_n Z.1 4 dX8_holdNew_32 rfl ?_
  refine ac_iload Z.1 0 dX8_holdNew_33 rfl ?_
  refine ac_iload Z.1 1 dX8_holdNew_35 rfl ?_
  refine ac_iload_n Z.1 3 dX8_holdNew_37 rfl ?_
  refine f_calli (As := [.int r1, .int r9, .int r7, .int r3]) (st := []) Z b_X2.1 2 (oT_2 hg) rfl kX2_makeInTrial lkX8_178 (by omega) (soY_X2_makeInTrial hg  _ _ _ _ _ _ _ hw) rfl rfl (Nat.le_of_ble_eq_true rfl) dX8_holdNew_38 (fun r11 M12 O12 hw => ?_)
  refine ac_istore (lv' := [(7, .int r11), (6, .int r9), (5, .int r7), (4, .int r5), (3, .int r3), (2, .int r1), (0, .ref (b_o g 4)), (1, .int p1)]) Z.1 dX8_holdNew_41 (by decide) rfl ?_
  refine ac_iload Z.1 0 dX8_holdNew_43 rfl ?_
  obtain ⟨hwt, hwf⟩ := hw
  refine ac_if_ne (tgt := 54) Z.1 dX8_holdNew_45 (by decide) (fun hc => ?_) (fun hc => ?_)
  · have hw := hwt hc
    refine ac_iload Z.1 3 dX8_holdNew_54 rfl ?_
    refine ac_bipush (v := (-2)) Z.1 dX8_holdNew_56 (by decide) ?_
    obtain ⟨hwt, hwf⟩ := hw
    refine ac_icmp_eq (tgt := 76) Z.1 dX8_holdNew_58 (by decide) (fun hc => ?_) (fun hc => ?_)
    · have hw := hwt hc
      refine ac_lv [6, 7, 0] rfl ?_
      exact sY_X8_holdNew_76 hg Z hret _ _ _ _ hw
    · have hw := hwf hc
      refine ac_aload_n Z.1 6 dX8_holdNew_61 rfl ?_
      refine f_getr Z b_X8 4 (oT_4 hg) 0 (by decide) (by decide) (fT_40 hg) fX8_36 rfl (h2 := (b_o g 2)) rfl dX8_holdNew_62 ?_
      refine ac_iload Z.1 0 dX8_holdNew_65 rfl ?_
      refine ac_aload_n Z.1 6 dX8_holdNew_67 rfl ?_
      refine ac_iload Z.1 3 dX8_holdNew_68 rfl ?_
      refine f_calli (As := [.int r5]) (st := [.int r11, .ref (b_o g 2)]) Z b_X8.1 4 (oT_4 hg) rfl kX8_objectAt lkX8_138 (by omega) (soY_X8_objectAt hg  _ _ _ _ hw) rfl rfl (Nat.le_of_ble_eq_true rfl) dX8_holdNew_70 (fun r14 M15 O15 hw => ?_)
      refine f_callv (As := [.int r11, .int r14]) (st := []) Z b_X2.1 2 (oT_2 hg) rfl kX2_settle lkX8_182 (by omega) (soY_X2_settle hg  _ _ _ _ _ hw) rfl rfl (Nat.le_of_ble_eq_true rfl) dX8_holdNew_73 (fun M16 O16 hw => ?_)
      refine ac_lv [6, 7, 0] rfl ?_
      exact sY_X8_holdNew_76 hg Z hret _ _ _ _ hw
  · have hw := hwf hc
    refine ac_aload_n Z.1 6 dX8_holdNew_48 rfl ?_
    refine ac_iconst (v := 3) Z.1 dX8_holdNew_49 (by decide) ?_
    refine f_put Z b_X8 4 (oT_4 hg) 13 (by decide) (by decide) (fT_53 hg) rfl rfl fX8_53 rfl (I := 53) rfl dX8_holdNew_50 ?_
    exact hret _ _ _ _ dX8_holdNew_53 hw
def wY_X8_raiseHeld (N : Nat → Nat) (p1 : Int32) (M : f_S3) (O : Nat × Nat) (Q : f_S3 → Nat × Nat → Prop) : Prop := (¬ p1 = 0 → (Q (fm M 54 p1) O)) ∧ (p1 = 0 → (wY_X8_raiseNew N 3 1 M O (fun M1 O1 => (Q M1 O1))))
set_option maxRecDepth 20000 in
theorem soY_X8_raiseHeld {l : Launch} {g : b_S} (hg : g.1 = tb_T 5) (p1 : Int32) (M : f_S3) (O : Nat × Nat) (Q : f_S3 → Nat × Nat → Prop) (hw : wY_X8_raiseHeld (b_N g) p1 M O Q) : f_MetV l g yX8_raiseHeld cX8_raiseHeld 2 (11) [.ref (b_o g 4), .int p1] M O Q := by
  refine f_MetV.of (C := RX8) (by decide) rfl (Nat.le_of_ble_eq_true rfl) (fun x Z hret => ?_)
  show f_G x g 2 O M O 0 [(0, .ref (b_o g 4)), (1, .int p1)] []
  refine ac_iload_n Z.1 1 dX8_raiseHeld_0 rfl ?_
  obtain ⟨hwt, hwf⟩ := hw
  refine ac_if_ne (tgt := 13) Z.1 dX8_raiseHeld_1 (by decide) (fun hc => ?_) (fun hc => ?_)
  · have hw := hwt hc
    refine ac_aload_n Z.1 0 dX8_raiseHeld_13 rfl ?_
    refine ac_iload_n Z.1 1 dX8_raiseHeld_14 rfl ?_
    refine f_put Z b_X8 4 (oT_4 hg) 14 (by decide) (by decide) (fT_54 hg) rfl rfl fX8_74 rfl (I := 54) rfl dX8_raiseHeld_15 ?_
    exact hret _ _ _ _ dX8_raiseHeld_18 hw
  · have hw := hwf hc
    refine ac_aload_n Z.1 0 dX8_raiseHeld_4 rfl ?_
    refine ac_iconst (v := 3) Z.1 dX8_raiseHeld_5 (by decide) ?_
    refine ac_iconst (v := 1) Z.1 dX8_raiseHeld_6 (by decide) ?_
    refine f_callv (As := [.int 3, .int 1]) (st := []) Z b_X8.1 4 (oT_4 hg) rfl kX8_raiseNew lkX8_122 (by omega) (soY_X8_raiseNew hg  _ _ _ _ _ hw) rfl rfl (Nat.le_of_ble_eq_true rfl) dX8_raiseHeld_7 (fun M1 O1 hw => ?_)
    refine ac_goto (tgt := 18) Z.1 dX8_raiseHeld_10 (by decide) ?_
    exact hret _ _ _ _ dX8_raiseHeld_18 hw
def wY_X2_join_49 (N : Nat → Nat) (Q : Int32 → f_S3 → Nat × Nat → Prop) (a3 : Int32) (M : f_S3) (O : Nat × Nat) : Prop := Q a3 M O
set_option maxRecDepth 20000 in
theorem sY_X2_join_49 {x : ac_X} {g : b_S} {c : Nat} (hg : g.1 = tb_T c) {l : Launch} {O0 : Nat × Nat} {Q : Int32 → f_S3 → Nat × Nat → Prop} (Z : b_Cx x g l RX2 cX2_join 4 (2) O0) (hret : f_RI x g 4 cX2_join .int O0 Q) (a3 : Int32) (M : f_S3) (O : Nat × Nat) (hw : wY_X2_join_49 (b_N g) Q a3 M O) : f_G x g 4 O0 M O 49 [(0, .ref (b_o g 2)), (3, .int a3)] [] := by
  refine ac_iload_n Z.1 1 dX2_join_49 rfl ?_
  exact hret _ _ _ _ _ dX2_join_50 rfl hw
def wY_X2_join_24 (N : Nat → Nat) (Q : Int32 → f_S3 → Nat × Nat → Prop) (a1 : Int32) (a2 : Int32) (t0 : Int32) (M : f_S3) (O : Nat × Nat) : Prop := (¬ t0 = (-1) → (wY_X2_join_49 N Q t0 (fm M 23 ((M.1 23) + 1)) O)) ∧ (t0 = (-1) → (wY_X2_settle N a1 a2 M O (fun M3 O3 => (wY_X2_join_49 N Q t0 M3 O3))))
set_option maxRecDepth 20000 in
theorem sY_X2_join_24 {x : ac_X} {g : b_S} {c : Nat} (hg : g.1 = tb_T c) {l : Launch} {O0 : Nat × Nat} {Q : Int32 → f_S3 → Nat × Nat → Prop} (Z : b_Cx x g l RX2 cX2_join 4 (2) O0) (hret : f_RI x g 4 cX2_join .int O0 Q) (a1 : Int32) (a2 : Int32) (t0 : Int32) (M : f_S3) (O : Nat × Nat) (hw : wY_X2_join_24 (b_N g) Q a1 a2 t0 M O) : f_G x g 4 O0 M O 24 [(0, .ref (b_o g 2)), (1, .int a1), (2, .int a2)] [.int t0] := by
  refine ac_istore_n (lv' := [(3, .int t0), (0, .ref (b_o g 2)), (1, .int a1), (2, .int a2)]) Z.1 dX2_join_24 (by decide) rfl ?_
  refine ac_iload_n Z.1 0 dX2_join_25 rfl ?_
  refine ac_iconst (v := (-1)) Z.1 dX2_join_26 (by decide) ?_
  obtain ⟨hwt, hwf⟩ := hw
  refine ac_icmp_ne (tgt := 39) Z.1 dX2_join_27 (by decide) (fun hc => ?_) (fun hc => ?_)
  · have hw := hwt hc
    refine ac_aload_n Z.1 1 dX2_join_39 rfl ?_
    refine ac_dup Z.1 dX2_join_40 rfl ?_
    refine f_geti Z b_X2 2 (oT_2 hg) 3 (by decide) (by decide) (fT_23 hg) fX2_46 rfl (v := (M.1 23)) rfl dX2_join_41 ?_
    refine ac_iconst (v := 1) Z.1 dX2_join_44 (by decide) ?_
    refine ac_iadd Z.1 dX2_join_45 ?_
    refine f_put Z b_X2 2 (oT_2 hg) 3 (by decide) (by decide) (fT_23 hg) rfl rfl fX2_46 rfl (I := 23) rfl dX2_join_46 ?_
    refine ac_lv [1, 0] rfl ?_
    exact sY_X2_join_49 hg Z hret _ _ _ hw
  · have hw := hwf hc
    refine ac_aload_n Z.1 1 dX2_join_30 rfl ?_
    refine ac_iload_n Z.1 2 dX2_join_31 rfl ?_
    refine ac_iload_n Z.1 3 dX2_join_32 rfl ?_
    refine f_callv (As := [.int a1, .int a2]) (st := []) Z b_X2.1 2 (oT_2 hg) rfl kX2_settle lkX2_42 (by omega) (soY_X2_settle hg  _ _ _ _ _ hw) rfl rfl (Nat.le_of_ble_eq_true rfl) dX2_join_33 (fun M3 O3 hw => ?_)
    refine ac_goto (tgt := 49) Z.1 dX2_join_36 (by decide) ?_
    refine ac_lv [1, 0] rfl ?_
    exact sY_X2_join_49 hg Z hret _ _ _ hw
def wY_X2_join (N : Nat → Nat) (p1 : Int32) (p2 : Int32) (M : f_S3) (O : Nat × Nat) (Q : Int32 → f_S3 → Nat × Nat → Prop) : Prop := wY_X2_get N p1 5 M O (fun r1 M2 O2 => ((¬ r1 = 1 → ((¬ p1 = p2 → (wY_X2_join_24 N Q p1 p2 (-1) M2 O2)) ∧ (p1 = p2 → (wY_X2_join_24 N Q p1 p2 5 M2 O2)))) ∧ (r1 = 1 → (wY_X2_join_24 N Q p1 p2 2 M2 O2))))
set_option maxRecDepth 20000 in
theorem soY_X2_join {l : Launch} {g : b_S} {c : Nat} (hg : g.1 = tb_T c) (p1 : Int32) (p2 : Int32) (M : f_S3) (O : Nat × Nat) (Q : Int32 → f_S3 → Nat × Nat → Prop) (hw : wY_X2_join (b_N g) p1 p2 M O Q) : f_MetI l g yX2_join cX2_join 4 .int (2) [.ref (b_o g 2), .int p1, .int p2] M O Q := by
  refine f_MetI.of (C := RX2) (by decide) rfl (Nat.le_of_ble_eq_true rfl) (fun x Z hret => ?_)
  show f_G x g 4 O M O 0 [(0, .ref (b_o g 2)), (1, .int p1), (2, .int p2)] []
  refine ac_aload_n Z.1 0 dX2_join_0 rfl ?_
  refine ac_iload_n Z.1 1 dX2_join_1 rfl ?_
  refine ac_iconst (v := 5) Z.1 dX2_join_2 (by decide) ?_
  refine f_calli (As := [.int p1, .int 5]) (st := []) Z b_X2.1 2 (oT_2 hg) rfl kX2_get lkX2_32 (by omega) (soY_X2_get hg  _ _ _ _ _ hw) rfl rfl (Nat.le_of_ble_eq_true rfl) dX2_join_3 (fun r1 M2 O2 hw => ?_)
  refine ac_iconst (v := 1) Z.1 dX2_join_6 (by decide) ?_
  obtain ⟨hwt, hwf⟩ := hw
  refine ac_icmp_ne (tgt := 14) Z.1 dX2_join_7 (by decide) (fun hc => ?_) (fun hc => ?_)
  · have hw := hwt hc
    refine ac_iload_n Z.1 1 dX2_join_14 rfl ?_
    refine ac_iload_n Z.1 2 dX2_join_15 rfl ?_
    obtain ⟨hwt, hwf⟩ := hw
    refine ac_icmp_ne (tgt := 23) Z.1 dX2_join_16 (by decide) (fun hc => ?_) (fun hc => ?_)
    · have hw := hwt hc
      refine ac_iconst (v := (-1)) Z.1 dX2_join_23 (by decide) ?_
      exact sY_X2_join_24 hg Z hret _ _ _ _ _ hw
    · have hw := hwf hc
      refine ac_iconst (v := 5) Z.1 dX2_join_19 (by decide) ?_
      refine ac_goto (tgt := 24) Z.1 dX2_join_20 (by decide) ?_
      exact sY_X2_join_24 hg Z hret _ _ _ _ _ hw
  · have hw := hwf hc
    refine ac_iconst (v := 2) Z.1 dX2_join_10 (by decide) ?_
    refine ac_goto (tgt := 24) Z.1 dX2_join_11 (by decide) ?_
    exact sY_X2_join_24 hg Z hret _ _ _ _ _ hw
def wY_X8_joinHeld_38 (N : Nat → Nat) (Q : f_S3 → Nat × Nat → Prop) (a1 : Int32) (t1 : Int32) (t2 : Int32) (M : f_S3) (O : Nat × Nat) : Prop := wY_X8_raiseNew N t1 t2 M O (fun M3 O3 => (wY_X2_settle N (M3.1 54) a1 M3 O3 (fun M4 O4 => (Q M4 O4))))
set_option maxRecDepth 20000 in
theorem sY_X8_joinHeld_38 {x : ac_X} {g : b_S} (hg : g.1 = tb_T 5) {l : Launch} {O0 : Nat × Nat} {Q : f_S3 → Nat × Nat → Prop} (Z : b_Cx x g l RX8 cX8_joinHeld 4 (11) O0) (hret : f_RV x g 4 cX8_joinHeld O0 Q) (a1 : Int32) (t1 : Int32) (t2 : Int32) (M : f_S3) (O : Nat × Nat) (hw : wY_X8_joinHeld_38 (b_N g) Q a1 t1 t2 M O) : f_G x g 4 O0 M O 38 [(0, .ref (b_o g 4)), (1, .int a1)] [.int t2, .int t1, .ref (b_o g 4)] := by
  refine f_callv (As := [.int t1, .int t2]) (st := []) Z b_X8.1 4 (oT_4 hg) rfl kX8_raiseNew lkX8_122 (by omega) (soY_X8_raiseNew hg  _ _ _ _ _ hw) rfl rfl (Nat.le_of_ble_eq_true rfl) dX8_joinHeld_38 (fun M3 O3 hw => ?_)
  refine ac_aload_n Z.1 0 dX8_joinHeld_41 rfl ?_
  refine f_getr Z b_X8 4 (oT_4 hg) 0 (by decide) (by decide) (fT_40 hg) fX8_36 rfl (h2 := (b_o g 2)) rfl dX8_joinHeld_42 ?_
  refine ac_aload_n Z.1 0 dX8_joinHeld_45 rfl ?_
  refine f_geti Z b_X8 4 (oT_4 hg) 14 (by decide) (by decide) (fT_54 hg) fX8_74 rfl (v := (M3.1 54)) rfl dX8_joinHeld_46 ?_
  refine ac_iload_n Z.1 1 dX8_joinHeld_49 rfl ?_
  refine f_callv (As := [.int (M3.1 54), .int a1]) (st := []) Z b_X2.1 2 (oT_2 hg) rfl kX2_settle lkX8_182 (by omega) (soY_X2_settle hg  _ _ _ _ _ hw) rfl rfl (Nat.le_of_ble_eq_true rfl) dX8_joinHeld_50 (fun M4 O4 hw => ?_)
  exact hret _ _ _ _ dX8_joinHeld_53 hw
def wY_X8_joinHeld (N : Nat → Nat) (p1 : Int32) (p2 : Int32) (M : f_S3) (O : Nat × Nat) (Q : f_S3 → Nat × Nat → Prop) : Prop := (¬ p1 = 0 → (wY_X2_join N p1 p2 M O (fun r1 M2 O2 => ((r1 = (-1) → (Q M2 O2)) ∧ (¬ r1 = (-1) → ((¬ r1 = 2 → (wY_X8_joinHeld_38 N Q p1 r1 5 M2 O2)) ∧ (r1 = 2 → (wY_X8_joinHeld_38 N Q p1 r1 4 M2 O2)))))))) ∧ (p1 = 0 → (wY_X8_raiseNew N 3 1 M O (fun M5 O5 => (Q M5 O5))))
set_option maxRecDepth 20000 in
theorem soY_X8_joinHeld {l : Launch} {g : b_S} (hg : g.1 = tb_T 5) (p1 : Int32) (p2 : Int32) (M : f_S3) (O : Nat × Nat) (Q : f_S3 → Nat × Nat → Prop) (hw : wY_X8_joinHeld (b_N g) p1 p2 M O Q) : f_MetV l g yX8_joinHeld cX8_joinHeld 4 (11) [.ref (b_o g 4), .int p1, .int p2] M O Q := by
  refine f_MetV.of (C := RX8) (by decide) rfl (Nat.le_of_ble_eq_true rfl) (fun x Z hret => ?_)
  show f_G x g 4 O M O 0 [(0, .ref (b_o g 4)), (1, .int p1), (2, .int p2)] []
  refine ac_iload_n Z.1 1 dX8_joinHeld_0 rfl ?_
  obtain ⟨hwt, hwf⟩ := hw
  refine ac_if_ne (tgt := 11) Z.1 dX8_joinHeld_1 (by decide) (fun hc => ?_) (fun hc => ?_)
  · have hw := hwt hc
    refine ac_aload_n Z.1 0 dX8_joinHeld_11 rfl ?_
    refine f_getr Z b_X8 4 (oT_4 hg) 0 (by decide) (by decide) (fT_40 hg) fX8_36 rfl (h2 := (b_o g 2)) rfl dX8_joinHeld_12 ?_
    refine ac_iload_n Z.1 1 dX8_joinHeld_15 rfl ?_
    refine ac_iload_n Z.1 2 dX8_joinHeld_16 rfl ?_
    refine f_calli (As := [.int p1, .int p2]) (st := []) Z b_X2.1 2 (oT_2 hg) rfl kX2_join lkX8_185 (by omega) (soY_X2_join hg  _ _ _ _ _ hw) rfl rfl (Nat.le_of_ble_eq_true rfl) dX8_joinHeld_17 (fun r1 M2 O2 hw => ?_)
    refine ac_istore_n (lv' := [(3, .int r1), (0, .ref (b_o g 4)), (1, .int p1), (2, .int p2)]) Z.1 dX8_joinHeld_20 (by decide) rfl ?_
    refine ac_iload_n Z.1 0 dX8_joinHeld_21 rfl ?_
    refine ac_iconst (v := (-1)) Z.1 dX8_joinHeld_22 (by decide) ?_
    obtain ⟨hwt, hwf⟩ := hw
    refine ac_icmp_eq (tgt := 53) Z.1 dX8_joinHeld_23 (by decide) (fun hc => ?_) (fun hc => ?_)
    · have hw := hwt hc
      exact hret _ _ _ _ dX8_joinHeld_53 hw
    · have hw := hwf hc
      refine ac_aload_n Z.1 1 dX8_joinHeld_26 rfl ?_
      refine ac_iload_n Z.1 0 dX8_joinHeld_27 rfl ?_
      refine ac_iload_n Z.1 0 dX8_joinHeld_28 rfl ?_
      refine ac_iconst (v := 2) Z.1 dX8_joinHeld_29 (by decide) ?_
      obtain ⟨hwt, hwf⟩ := hw
      refine ac_icmp_ne (tgt := 37) Z.1 dX8_joinHeld_30 (by decide) (fun hc => ?_) (fun hc => ?_)
      · have hw := hwt hc
        refine ac_iconst (v := 5) Z.1 dX8_joinHeld_37 (by decide) ?_
        refine ac_lv [1, 2] rfl ?_
        exact sY_X8_joinHeld_38 hg Z hret _ _ _ _ _ hw
      · have hw := hwf hc
        refine ac_iconst (v := 4) Z.1 dX8_joinHeld_33 (by decide) ?_
        refine ac_goto (tgt := 38) Z.1 dX8_joinHeld_34 (by decide) ?_
        refine ac_lv [1, 2] rfl ?_
        exact sY_X8_joinHeld_38 hg Z hret _ _ _ _ _ hw
  · have hw := hwf hc
    refine ac_aload_n Z.1 0 dX8_joinHeld_4 rfl ?_
    refine ac_iconst (v := 3) Z.1 dX8_joinHeld_5 (by decide) ?_
    refine ac_iconst (v := 1) Z.1 dX8_joinHeld_6 (by decide) ?_
    refine f_callv (As := [.int 3, .int 1]) (st := []) Z b_X8.1 4 (oT_4 hg) rfl kX8_raiseNew lkX8_122 (by omega) (soY_X8_raiseNew hg  _ _ _ _ _ hw) rfl rfl (Nat.le_of_ble_eq_true rfl) dX8_joinHeld_7 (fun M5 O5 hw => ?_)
    exact hret _ _ _ _ dX8_joinHeld_10 hw
def wY_X8_doObjection_102 (N : Nat → Nat) (Q : f_S3 → Nat × Nat → Prop) (t1 : Int32) (M : f_S3) (O : Nat × Nat) : Prop := wY_X8_push N t1 M O (fun M17 O17 => (Q M17 O17))
set_option maxRecDepth 20000 in
theorem sY_X8_doObjection_102 {x : ac_X} {g : b_S} (hg : g.1 = tb_T 5) {l : Launch} {O0 : Nat × Nat} {Q : f_S3 → Nat × Nat → Prop} (Z : b_Cx x g l RX8 cX8_doObjection 3 (12) O0) (hret : f_RV x g 3 cX8_doObjection O0 Q) (t1 : Int32) (M : f_S3) (O : Nat × Nat) (hw : wY_X8_doObjection_102 (b_N g) Q t1 M O) : f_G x g 3 O0 M O 102 [(0, .ref (b_o g 4))] [.int t1, .ref (b_o g 4)] := by
  refine f_callv (As := [.int t1]) (st := []) Z b_X8.1 4 (oT_4 hg) rfl kX8_push lkX8_129 (by omega) (soY_X8_push hg  _ _ _ _ hw) rfl rfl (Nat.le_of_ble_eq_true rfl) dX8_doObjection_102 (fun M17 O17 hw => ?_)
  refine ac_goto (tgt := 189) Z.1 dX8_doObjection_105 (by decide) ?_
  exact hret _ _ _ _ dX8_doObjection_189 hw
def wY_X8_doObjection (N : Nat → Nat) (p1 : Int32) (M : f_S3) (O : Nat × Nat) (Q : f_S3 → Nat × Nat → Prop) : Prop := wY_X8_fetch N M O (fun r1 M2 O2 => ((p1 = 22 → (wY_X8_fetch N M2 O2 (fun r3 M4 O4 => (wY_X8_tellOf N r1 r3 M4 O4 (fun M5 O5 => (Q M5 O5)))))) ∧ (p1 = 23 → (wY_X8_objectAt N r1 M2 O2 (fun r6 M7 O7 => (wY_X8_fetch N M7 O7 (fun r8 M9 O9 => (wY_X8_pushIs N r6 r8 M9 O9 (fun M10 O10 => (Q M10 O10)))))))) ∧ (p1 = 24 → (wY_X8_objectAt N r1 M2 O2 (fun r11 M12 O12 => (wY_X8_fetch N M12 O12 (fun r13 M14 O14 => (wY_X8_objectAt N r13 M14 O14 (fun r15 M16 O16 => ((¬ r11 = r15 → (wY_X8_doObjection_102 N Q 0 M16 O16)) ∧ (r11 = r15 → (wY_X8_doObjection_102 N Q 1 M16 O16)))))))))) ∧ (p1 = 25 → (wY_X8_fetch N M2 O2 (fun r18 M19 O19 => (wY_X8_objectAt N r18 M19 O19 (fun r20 M21 O21 => (wY_X8_setObject N r1 r20 M21 O21 (fun M22 O22 => (Q M22 O22)))))))) ∧ (p1 = 26 → (wY_X8_fetch N M2 O2 (fun r23 M24 O24 => (wY_X8_objectAt N r23 M24 O24 (fun r25 M26 O26 => (wY_X8_holdCause N r1 r25 M26 O26 (fun M27 O27 => (Q M27 O27)))))))) ∧ (p1 = 27 → (wY_X8_holdNew N r1 M2 O2 (fun M28 O28 => (Q M28 O28)))) ∧ (p1 = 28 → (wY_X8_objectAt N r1 M2 O2 (fun r29 M30 O30 => (wY_X8_raiseHeld N r29 M30 O30 (fun M31 O31 => (Q M31 O31)))))) ∧ (p1 = 29 → (wY_X8_objectAt N r1 M2 O2 (fun r32 M33 O33 => (wY_X8_fetch N M33 O33 (fun r34 M35 O35 => (wY_X8_objectAt N r34 M35 O35 (fun r36 M37 O37 => (wY_X8_joinHeld N r32 r36 M37 O37 (fun M38 O38 => (Q M38 O38)))))))))) ∧ (¬ p1 = 22 → ¬ p1 = 23 → ¬ p1 = 24 → ¬ p1 = 25 → ¬ p1 = 26 → ¬ p1 = 27 → ¬ p1 = 28 → ¬ p1 = 29 → (wY_X8_objectAt N r1 M2 O2 (fun r39 M40 O40 => (wY_X8_putNote N r39 M40 O40 (fun M41 O41 => (Q M41 O41))))))))
set_option maxRecDepth 20000 in
theorem soY_X8_doObjection {l : Launch} {g : b_S} (hg : g.1 = tb_T 5) (p1 : Int32) (M : f_S3) (O : Nat × Nat) (Q : f_S3 → Nat × Nat → Prop) (hw : wY_X8_doObjection (b_N g) p1 M O Q) : f_MetV l g yX8_doObjection cX8_doObjection 3 (12) [.ref (b_o g 4), .int p1] M O Q := by
  refine f_MetV.of (C := RX8) (by decide) rfl (Nat.le_of_ble_eq_true rfl) (fun x Z hret => ?_)
  show f_G x g 3 O M O 0 [(0, .ref (b_o g 4)), (1, .int p1)] []
  refine ac_aload_n Z.1 0 dX8_doObjection_0 rfl ?_
  refine f_calli (As := []) (st := []) Z b_X8.1 4 (oT_4 hg) rfl kX8_fetch lkX8_56 (by omega) (soY_X8_fetch hg   _ _ _ hw) rfl rfl (Nat.le_of_ble_eq_true rfl) dX8_doObjection_1 (fun r1 M2 O2 hw => ?_)
  refine ac_istore_n (lv' := [(2, .int r1), (0, .ref (b_o g 4)), (1, .int p1)]) Z.1 dX8_doObjection_4 (by decide) rfl ?_
  refine ac_iload_n Z.1 2 dX8_doObjection_5 rfl ?_
  obtain ⟨hwk, hw⟩ := hw
  by_cases hk0 : p1 = 22
  · have hw := hwk hk0
    refine ac_tableIn (off := 46) (tgt := 52) Z.1 dX8_doObjection_6 (by rw [hk0]; decide) (by rw [hk0]; decide) (by rw [hk0]; rfl) (by decide) ?_
    refine ac_aload_n Z.1 1 dX8_doObjection_52 rfl ?_
    refine ac_iload_n Z.1 0 dX8_doObjection_53 rfl ?_
    refine ac_aload_n Z.1 1 dX8_doObjection_54 rfl ?_
    refine f_calli (As := []) (st := [.int r1, .ref (b_o g 4)]) Z b_X8.1 4 (oT_4 hg) rfl kX8_fetch lkX8_56 (by omega) (soY_X8_fetch hg   _ _ _ hw) rfl rfl (Nat.le_of_ble_eq_true rfl) dX8_doObjection_55 (fun r3 M4 O4 hw => ?_)
    refine f_callv (As := [.int r1, .int r3]) (st := []) Z b_X8.1 4 (oT_4 hg) rfl kX8_tellOf lkX8_135 (by omega) (soY_X8_tellOf hg  _ _ _ _ _ hw) rfl rfl (Nat.le_of_ble_eq_true rfl) dX8_doObjection_58 (fun M5 O5 hw => ?_)
    refine ac_goto (tgt := 189) Z.1 dX8_doObjection_61 (by decide) ?_
    exact hret _ _ _ _ dX8_doObjection_189 hw
  obtain ⟨hwk, hw⟩ := hw
  by_cases hk1 : p1 = 23
  · have hw := hwk hk1
    refine ac_tableIn (off := 58) (tgt := 64) Z.1 dX8_doObjection_6 (by rw [hk1]; decide) (by rw [hk1]; decide) (by rw [hk1]; rfl) (by decide) ?_
    refine ac_aload_n Z.1 1 dX8_doObjection_64 rfl ?_
    refine ac_aload_n Z.1 1 dX8_doObjection_65 rfl ?_
    refine ac_iload_n Z.1 0 dX8_doObjection_66 rfl ?_
    refine f_calli (As := [.int r1]) (st := [.ref (b_o g 4)]) Z b_X8.1 4 (oT_4 hg) rfl kX8_objectAt lkX8_138 (by omega) (soY_X8_objectAt hg  _ _ _ _ hw) rfl rfl (Nat.le_of_ble_eq_true rfl) dX8_doObjection_67 (fun r6 M7 O7 hw => ?_)
    refine ac_aload_n Z.1 1 dX8_doObjection_70 rfl ?_
    refine f_calli (As := []) (st := [.int r6, .ref (b_o g 4)]) Z b_X8.1 4 (oT_4 hg) rfl kX8_fetch lkX8_56 (by omega) (soY_X8_fetch hg   _ _ _ hw) rfl rfl (Nat.le_of_ble_eq_true rfl) dX8_doObjection_71 (fun r8 M9 O9 hw => ?_)
    refine f_callv (As := [.int r6, .int r8]) (st := []) Z b_X8.1 4 (oT_4 hg) rfl kX8_pushIs lkX8_141 (by omega) (soY_X8_pushIs hg  _ _ _ _ _ hw) rfl rfl (Nat.le_of_ble_eq_true rfl) dX8_doObjection_74 (fun M10 O10 hw => ?_)
    refine ac_goto (tgt := 189) Z.1 dX8_doObjection_77 (by decide) ?_
    exact hret _ _ _ _ dX8_doObjection_189 hw
  obtain ⟨hwk, hw⟩ := hw
  by_cases hk2 : p1 = 24
  · have hw := hwk hk2
    refine ac_tableIn (off := 74) (tgt := 80) Z.1 dX8_doObjection_6 (by rw [hk2]; decide) (by rw [hk2]; decide) (by rw [hk2]; rfl) (by decide) ?_
    refine ac_aload_n Z.1 1 dX8_doObjection_80 rfl ?_
    refine ac_aload_n Z.1 1 dX8_doObjection_81 rfl ?_
    refine ac_iload_n Z.1 0 dX8_doObjection_82 rfl ?_
    refine f_calli (As := [.int r1]) (st := [.ref (b_o g 4)]) Z b_X8.1 4 (oT_4 hg) rfl kX8_objectAt lkX8_138 (by omega) (soY_X8_objectAt hg  _ _ _ _ hw) rfl rfl (Nat.le_of_ble_eq_true rfl) dX8_doObjection_83 (fun r11 M12 O12 hw => ?_)
    refine ac_aload_n Z.1 1 dX8_doObjection_86 rfl ?_
    refine ac_aload_n Z.1 1 dX8_doObjection_87 rfl ?_
    refine f_calli (As := []) (st := [.ref (b_o g 4), .int r11, .ref (b_o g 4)]) Z b_X8.1 4 (oT_4 hg) rfl kX8_fetch lkX8_56 (by omega) (soY_X8_fetch hg   _ _ _ hw) rfl rfl (Nat.le_of_ble_eq_true rfl) dX8_doObjection_88 (fun r13 M14 O14 hw => ?_)
    refine f_calli (As := [.int r13]) (st := [.int r11, .ref (b_o g 4)]) Z b_X8.1 4 (oT_4 hg) rfl kX8_objectAt lkX8_138 (by omega) (soY_X8_objectAt hg  _ _ _ _ hw) rfl rfl (Nat.le_of_ble_eq_true rfl) dX8_doObjection_91 (fun r15 M16 O16 hw => ?_)
    obtain ⟨hwt, hwf⟩ := hw
    refine ac_icmp_ne (tgt := 101) Z.1 dX8_doObjection_94 (by decide) (fun hc => ?_) (fun hc => ?_)
    · have hw := hwt hc
      refine ac_iconst (v := 0) Z.1 dX8_doObjection_101 (by decide) ?_
      refine ac_lv [1] rfl ?_
      exact sY_X8_doObjection_102 hg Z hret _ _ _ hw
    · have hw := hwf hc
      refine ac_iconst (v := 1) Z.1 dX8_doObjection_97 (by decide) ?_
      refine ac_goto (tgt := 102) Z.1 dX8_doObjection_98 (by decide) ?_
      refine ac_lv [1] rfl ?_
      exact sY_X8_doObjection_102 hg Z hret _ _ _ hw
  obtain ⟨hwk, hw⟩ := hw
  by_cases hk3 : p1 = 25
  · have hw := hwk hk3
    refine ac_tableIn (off := 102) (tgt := 108) Z.1 dX8_doObjection_6 (by rw [hk3]; decide) (by rw [hk3]; decide) (by rw [hk3]; rfl) (by decide) ?_
    refine ac_aload_n Z.1 1 dX8_doObjection_108 rfl ?_
    refine ac_iload_n Z.1 0 dX8_doObjection_109 rfl ?_
    refine ac_aload_n Z.1 1 dX8_doObjection_110 rfl ?_
    refine ac_aload_n Z.1 1 dX8_doObjection_111 rfl ?_
    refine f_calli (As := []) (st := [.ref (b_o g 4), .int r1, .ref (b_o g 4)]) Z b_X8.1 4 (oT_4 hg) rfl kX8_fetch lkX8_56 (by omega) (soY_X8_fetch hg   _ _ _ hw) rfl rfl (Nat.le_of_ble_eq_true rfl) dX8_doObjection_112 (fun r18 M19 O19 hw => ?_)
    refine f_calli (As := [.int r18]) (st := [.int r1, .ref (b_o g 4)]) Z b_X8.1 4 (oT_4 hg) rfl kX8_objectAt lkX8_138 (by omega) (soY_X8_objectAt hg  _ _ _ _ hw) rfl rfl (Nat.le_of_ble_eq_true rfl) dX8_doObjection_115 (fun r20 M21 O21 hw => ?_)
    refine f_callv (As := [.int r1, .int r20]) (st := []) Z b_X8.1 4 (oT_4 hg) rfl kX8_setObject lkX8_144 (by omega) (soY_X8_setObject hg  _ _ _ _ _ hw) rfl rfl (Nat.le_of_ble_eq_true rfl) dX8_doObjection_118 (fun M22 O22 hw => ?_)
    refine ac_goto (tgt := 189) Z.1 dX8_doObjection_121 (by decide) ?_
    exact hret _ _ _ _ dX8_doObjection_189 hw
  obtain ⟨hwk, hw⟩ := hw
  by_cases hk4 : p1 = 26
  · have hw := hwk hk4
    refine ac_tableIn (off := 118) (tgt := 124) Z.1 dX8_doObjection_6 (by rw [hk4]; decide) (by rw [hk4]; decide) (by rw [hk4]; rfl) (by decide) ?_
    refine ac_aload_n Z.1 1 dX8_doObjection_124 rfl ?_
    refine ac_iload_n Z.1 0 dX8_doObjection_125 rfl ?_
    refine ac_aload_n Z.1 1 dX8_doObjection_126 rfl ?_
    refine ac_aload_n Z.1 1 dX8_doObjection_127 rfl ?_
    refine f_calli (As := []) (st := [.ref (b_o g 4), .int r1, .ref (b_o g 4)]) Z b_X8.1 4 (oT_4 hg) rfl kX8_fetch lkX8_56 (by omega) (soY_X8_fetch hg   _ _ _ hw) rfl rfl (Nat.le_of_ble_eq_true rfl) dX8_doObjection_128 (fun r23 M24 O24 hw => ?_)
    refine f_calli (As := [.int r23]) (st := [.int r1, .ref (b_o g 4)]) Z b_X8.1 4 (oT_4 hg) rfl kX8_objectAt lkX8_138 (by omega) (soY_X8_objectAt hg  _ _ _ _ hw) rfl rfl (Nat.le_of_ble_eq_true rfl) dX8_doObjection_131 (fun r25 M26 O26 hw => ?_)
    refine f_callv (As := [.int r1, .int r25]) (st := []) Z b_X8.1 4 (oT_4 hg) rfl kX8_holdCause lkX8_147 (by omega) (soY_X8_holdCause hg  _ _ _ _ _ hw) rfl rfl (Nat.le_of_ble_eq_true rfl) dX8_doObjection_134 (fun M27 O27 hw => ?_)
    refine ac_goto (tgt := 189) Z.1 dX8_doObjection_137 (by decide) ?_
    exact hret _ _ _ _ dX8_doObjection_189 hw
  obtain ⟨hwk, hw⟩ := hw
  by_cases hk5 : p1 = 27
  · have hw := hwk hk5
    refine ac_tableIn (off := 134) (tgt := 140) Z.1 dX8_doObjection_6 (by rw [hk5]; decide) (by rw [hk5]; decide) (by rw [hk5]; rfl) (by decide) ?_
    refine ac_aload_n Z.1 1 dX8_doObjection_140 rfl ?_
    refine ac_iload_n Z.1 0 dX8_doObjection_141 rfl ?_
    refine f_callv (As := [.int r1]) (st := []) Z b_X8.1 4 (oT_4 hg) rfl kX8_holdNew lkX8_150 (by omega) (soY_X8_holdNew hg  _ _ _ _ hw) rfl rfl (Nat.le_of_ble_eq_true rfl) dX8_doObjection_142 (fun M28 O28 hw => ?_)
    refine ac_goto (tgt := 189) Z.1 dX8_doObjection_145 (by decide) ?_
    exact hret _ _ _ _ dX8_doObjection_189 hw
  obtain ⟨hwk, hw⟩ := hw
  by_cases hk6 : p1 = 28
  · have hw := hwk hk6
    refine ac_tableIn (off := 142) (tgt := 148) Z.1 dX8_doObjection_6 (by rw [hk6]; decide) (by rw [hk6]; decide) (by rw [hk6]; rfl) (by decide) ?_
    refine ac_aload_n Z.1 1 dX8_doObjection_148 rfl ?_
    refine ac_aload_n Z.1 1 dX8_doObjection_149 rfl ?_
    refine ac_iload_n Z.1 0 dX8_doObjection_150 rfl ?_
    refine f_calli (As := [.int r1]) (st := [.ref (b_o g 4)]) Z b_X8.1 4 (oT_4 hg) rfl kX8_objectAt lkX8_138 (by omega) (soY_X8_objectAt hg  _ _ _ _ hw) rfl rfl (Nat.le_of_ble_eq_true rfl) dX8_doObjection_151 (fun r29 M30 O30 hw => ?_)
    refine f_callv (As := [.int r29]) (st := []) Z b_X8.1 4 (oT_4 hg) rfl kX8_raiseHeld lkX8_153 (by omega) (soY_X8_raiseHeld hg  _ _ _ _ hw) rfl rfl (Nat.le_of_ble_eq_true rfl) dX8_doObjection_154 (fun M31 O31 hw => ?_)
    refine ac_goto (tgt := 189) Z.1 dX8_doObjection_157 (by decide) ?_
    exact hret _ _ _ _ dX8_doObjection_189 hw
  obtain ⟨hwk, hw⟩ := hw
  by_cases hk7 : p1 = 29
  · have hw := hwk hk7
    refine ac_tableIn (off := 154) (tgt := 160) Z.1 dX8_doObjection_6 (by rw [hk7]; decide) (by rw [hk7]; decide) (by rw [hk7]; rfl) (by decide) ?_
    refine ac_aload_n Z.1 1 dX8_doObjection_160 rfl ?_
    refine ac_aload_n Z.1 1 dX8_doObjection_161 rfl ?_
    refine ac_iload_n Z.1 0 dX8_doObjection_162 rfl ?_
    refine f_calli (As := [.int r1]) (st := [.ref (b_o g 4)]) Z b_X8.1 4 (oT_4 hg) rfl kX8_objectAt lkX8_138 (by omega) (soY_X8_objectAt hg  _ _ _ _ hw) rfl rfl (Nat.le_of_ble_eq_true rfl) dX8_doObjection_163 (fun r32 M33 O33 hw => ?_)
    refine ac_aload_n Z.1 1 dX8_doObjection_166 rfl ?_
    refine ac_aload_n Z.1 1 dX8_doObjection_167 rfl ?_
    refine f_calli (As := []) (st := [.ref (b_o g 4), .int r32, .ref (b_o g 4)]) Z b_X8.1 4 (oT_4 hg) rfl kX8_fetch lkX8_56 (by omega) (soY_X8_fetch hg   _ _ _ hw) rfl rfl (Nat.le_of_ble_eq_true rfl) dX8_doObjection_168 (fun r34 M35 O35 hw => ?_)
    refine f_calli (As := [.int r34]) (st := [.int r32, .ref (b_o g 4)]) Z b_X8.1 4 (oT_4 hg) rfl kX8_objectAt lkX8_138 (by omega) (soY_X8_objectAt hg  _ _ _ _ hw) rfl rfl (Nat.le_of_ble_eq_true rfl) dX8_doObjection_171 (fun r36 M37 O37 hw => ?_)
    refine f_callv (As := [.int r32, .int r36]) (st := []) Z b_X8.1 4 (oT_4 hg) rfl kX8_joinHeld lkX8_156 (by omega) (soY_X8_joinHeld hg  _ _ _ _ _ hw) rfl rfl (Nat.le_of_ble_eq_true rfl) dX8_doObjection_174 (fun M38 O38 hw => ?_)
    refine ac_goto (tgt := 189) Z.1 dX8_doObjection_177 (by decide) ?_
    exact hret _ _ _ _ dX8_doObjection_189 hw
  have hw := hw hk0 hk1 hk2 hk3 hk4 hk5 hk6 hk7
  refine ac_tableOut (tgt := 180) Z.1 dX8_doObjection_6 (by have q0 := lv_neT hk0 (show (22 : Int32).toInt = 22 by decide); have q1 := lv_neT hk1 (show (23 : Int32).toInt = 23 by decide); have q2 := lv_neT hk2 (show (24 : Int32).toInt = 24 by decide); have q3 := lv_neT hk3 (show (25 : Int32).toInt = 25 by decide); have q4 := lv_neT hk4 (show (26 : Int32).toInt = 26 by decide); have q5 := lv_neT hk5 (show (27 : Int32).toInt = 27 by decide); have q6 := lv_neT hk6 (show (28 : Int32).toInt = 28 by decide); have q7 := lv_neT hk7 (show (29 : Int32).toInt = 29 by decide); omega) (by decide) ?_
  refine ac_aload_n Z.1 1 dX8_doObjection_180 rfl ?_
  refine ac_aload_n Z.1 1 dX8_doObjection_181 rfl ?_
  refine ac_iload_n Z.1 0 dX8_doObjection_182 rfl ?_
  refine f_calli (As := [.int r1]) (st := [.ref (b_o g 4)]) Z b_X8.1 4 (oT_4 hg) rfl kX8_objectAt lkX8_138 (by omega) (soY_X8_objectAt hg  _ _ _ _ hw) rfl rfl (Nat.le_of_ble_eq_true rfl) dX8_doObjection_183 (fun r39 M40 O40 hw => ?_)
  refine f_callv (As := [.int r39]) (st := []) Z b_X8.1 4 (oT_4 hg) rfl kX8_putNote lkX8_159 (by omega) (soY_X8_putNote hg  _ _ _ _ hw) rfl rfl (Nat.le_of_ble_eq_true rfl) dX8_doObjection_186 (fun M41 O41 hw => ?_)
  exact hret _ _ _ _ dX8_doObjection_189 hw
def wY_X8_upholdFor_17 (N : Nat → Nat) (Q : Int32 → f_S3 → Nat × Nat → Prop) : Nat → Int32 → Int32 → Int32 → f_S3 → Nat × Nat → Prop
  | 0 => fun _ _ _ _ _ => False
  | n + 1 => fun a2 a3 a4 M O => ((4000 ≤ a4 → (Q (-1) M O)) ∧ (¬ 4000 ≤ a4 → ((a3 = (-1) → (Q (-1) M O)) ∧ (¬ a3 = (-1) → (wY_X6_get N a3 M O (fun r3 M4 O4 => (wY_X3_is N a2 r3 M4 O4 (fun r5 M6 O6 => ((r5 = 0 → (wY_X6_get N (a3 + 2) M6 O6 (fun r7 M8 O8 => (wY_X8_upholdFor_17 N Q n a2 r7 (a4 + 1) M8 O8)))) ∧ (¬ r5 = 0 → (Q a3 M6 O6)))))))))))
set_option maxRecDepth 20000 in
theorem sY_X8_upholdFor_17 {x : ac_X} {g : b_S} (hg : g.1 = tb_T 5) {l : Launch} {O0 : Nat × Nat} {Q : Int32 → f_S3 → Nat × Nat → Prop} (Z : b_Cx x g l RX8 cX8_upholdFor 5 (2) O0) (hret : f_RI x g 5 cX8_upholdFor .int O0 Q) : ∀ (n : Nat) (a2 : Int32) (a3 : Int32) (a4 : Int32) (M : f_S3) (O : Nat × Nat), wY_X8_upholdFor_17 (b_N g) Q n a2 a3 a4 M O → f_G x g 5 O0 M O 17 [(0, .ref (b_o g 4)), (2, .int a2), (3, .int a3), (4, .int a4)] [] := by
  intro n
  induction n with
  | zero => intro _ _ _ _ _ hw; exact hw.elim
  | succ n ih =>
    intro a2 a3 a4 M O hw
    dsimp only [wY_X8_upholdFor_17] at hw
    refine ac_iload Z.1 3 dX8_upholdFor_17 rfl ?_
    refine ac_sipush (v := 4000) Z.1 dX8_upholdFor_19 (by decide) ?_
    obtain ⟨hwt, hwf⟩ := hw
    refine ac_icmp_ge (tgt := 64) Z.1 dX8_upholdFor_22 (by decide) (fun hc => ?_) (fun hc => ?_)
    · have hw := hwt hc
      refine ac_iconst (v := (-1)) Z.1 dX8_upholdFor_64 (by decide) ?_
      exact hret _ _ _ _ _ dX8_upholdFor_65 rfl hw
    · have hw := hwf hc
      refine ac_iload_n Z.1 2 dX8_upholdFor_25 rfl ?_
      refine ac_iconst (v := (-1)) Z.1 dX8_upholdFor_26 (by decide) ?_
      obtain ⟨hwt, hwf⟩ := hw
      refine ac_icmp_eq (tgt := 64) Z.1 dX8_upholdFor_27 (by decide) (fun hc => ?_) (fun hc => ?_)
      · have hw := hwt hc
        refine ac_iconst (v := (-1)) Z.1 dX8_upholdFor_64 (by decide) ?_
        exact hret _ _ _ _ _ dX8_upholdFor_65 rfl hw
      · have hw := hwf hc
        refine ac_iload_n Z.1 1 dX8_upholdFor_30 rfl ?_
        refine ac_aload_n Z.1 0 dX8_upholdFor_31 rfl ?_
        refine f_getr Z b_X8 4 (oT_4 hg) 7 (by decide) (by decide) (fT_47 hg) fX8_32 rfl (h2 := (b_o g 5)) rfl dX8_upholdFor_32 ?_
        refine ac_iload_n Z.1 2 dX8_upholdFor_35 rfl ?_
        refine f_calli (As := [.int a3]) (st := [.int a2]) Z b_X6.1 5 (oT_5 hg) rfl kX6_get lkX8_114 (by omega) (soY_X6_get hg  _ _ _ _ hw) rfl rfl (Nat.le_of_ble_eq_true rfl) dX8_upholdFor_36 (fun r3 M4 O4 hw => ?_)
        refine f_calliS (As := [.int a2, .int r3]) (st := []) Z kX3_is lkX8_171 (by omega) (soY_X3_is hg  _ _ _ _ _ hw) rfl rfl (Nat.le_of_ble_eq_true rfl) dX8_upholdFor_39 (fun r5 M6 O6 hw => ?_)
        obtain ⟨hwt, hwf⟩ := hw
        refine ac_if_eq (tgt := 47) Z.1 dX8_upholdFor_42 (by decide) (fun hc => ?_) (fun hc => ?_)
        · have hw := hwt hc
          refine ac_aload_n Z.1 0 dX8_upholdFor_47 rfl ?_
          refine f_getr Z b_X8 4 (oT_4 hg) 7 (by decide) (by decide) (fT_47 hg) fX8_32 rfl (h2 := (b_o g 5)) rfl dX8_upholdFor_48 ?_
          refine ac_iload_n Z.1 2 dX8_upholdFor_51 rfl ?_
          refine ac_iconst (v := 2) Z.1 dX8_upholdFor_52 (by decide) ?_
          refine ac_iadd Z.1 dX8_upholdFor_53 ?_
          refine f_calli (As := [.int (a3 + 2)]) (st := []) Z b_X6.1 5 (oT_5 hg) rfl kX6_get lkX8_114 (by omega) (soY_X6_get hg  _ _ _ _ hw) rfl rfl (Nat.le_of_ble_eq_true rfl) dX8_upholdFor_54 (fun r7 M8 O8 hw => ?_)
          refine ac_istore_n (lv' := [(3, .int r7), (0, .ref (b_o g 4)), (2, .int a2), (4, .int a4)]) Z.1 dX8_upholdFor_57 (by decide) rfl ?_
          refine ac_iinc (w := (a4 + 1)) (lv' := [(4, .int (a4 + 1)), (3, .int r7), (0, .ref (b_o g 4)), (2, .int a2)]) Z.1 3 dX8_upholdFor_58 rfl rfl (by decide) rfl ?_
          refine ac_goto (tgt := 17) Z.1 dX8_upholdFor_61 (by decide) ?_
          refine ac_lv [2, 3, 1, 0] rfl ?_
          exact ih _ _ _ _ _ hw
        · have hw := hwf hc
          refine ac_iload_n Z.1 2 dX8_upholdFor_45 rfl ?_
          exact hret _ _ _ _ _ dX8_upholdFor_46 rfl hw
def wY_X8_upholdFor (N : Nat → Nat) (p1 : Int32) (M : f_S3) (O : Nat × Nat) (Q : Int32 → f_S3 → Nat × Nat → Prop) : Prop := wY_X2_kindOf N (M.1 54) M O (fun r1 M2 O2 => (∃ e17, wY_X8_upholdFor_17 N Q e17 r1 p1 0 M2 O2))
set_option maxRecDepth 20000 in
theorem soY_X8_upholdFor {l : Launch} {g : b_S} (hg : g.1 = tb_T 5) (p1 : Int32) (M : f_S3) (O : Nat × Nat) (Q : Int32 → f_S3 → Nat × Nat → Prop) (hw : wY_X8_upholdFor (b_N g) p1 M O Q) : f_MetI l g yX8_upholdFor cX8_upholdFor 5 .int (2) [.ref (b_o g 4), .int p1] M O Q := by
  refine f_MetI.of (C := RX8) (by decide) rfl (Nat.le_of_ble_eq_true rfl) (fun x Z hret => ?_)
  show f_G x g 5 O M O 0 [(0, .ref (b_o g 4)), (1, .int p1)] []
  refine ac_aload_n Z.1 0 dX8_upholdFor_0 rfl ?_
  refine f_getr Z b_X8 4 (oT_4 hg) 0 (by decide) (by decide) (fT_40 hg) fX8_36 rfl (h2 := (b_o g 2)) rfl dX8_upholdFor_1 ?_
  refine ac_aload_n Z.1 0 dX8_upholdFor_4 rfl ?_
  refine f_geti Z b_X8 4 (oT_4 hg) 14 (by decide) (by decide) (fT_54 hg) fX8_74 rfl (v := (M.1 54)) rfl dX8_upholdFor_5 ?_
  refine f_calli (As := [.int (M.1 54)]) (st := []) Z b_X2.1 2 (oT_2 hg) rfl kX2_kindOf lkX8_164 (by omega) (soY_X2_kindOf hg  _ _ _ _ hw) rfl rfl (Nat.le_of_ble_eq_true rfl) dX8_upholdFor_8 (fun r1 M2 O2 hw => ?_)
  refine ac_istore_n (lv' := [(2, .int r1), (0, .ref (b_o g 4)), (1, .int p1)]) Z.1 dX8_upholdFor_11 (by decide) rfl ?_
  refine ac_iload_n Z.1 2 dX8_upholdFor_12 rfl ?_
  refine ac_istore_n (lv' := [(3, .int p1), (2, .int r1), (0, .ref (b_o g 4)), (1, .int p1)]) Z.1 dX8_upholdFor_13 (by decide) rfl ?_
  refine ac_iconst (v := 0) Z.1 dX8_upholdFor_14 (by decide) ?_
  refine ac_istore (lv' := [(4, .int 0), (3, .int p1), (2, .int r1), (0, .ref (b_o g 4)), (1, .int p1)]) Z.1 dX8_upholdFor_15 (by decide) rfl ?_
  obtain ⟨n, hw⟩ := hw
  refine ac_lv [3, 2, 1, 0] rfl ?_
  exact sY_X8_upholdFor_17 hg Z hret n _ _ _ _ _ hw
def wY_X8_doUphold (N : Nat → Nat) (p1 : Int32) (M : f_S3) (O : Nat × Nat) (Q : f_S3 → Nat × Nat → Prop) : Prop := wY_X8_tryField N ((M.1 51) - 1) 0 M O (fun r1 M2 O2 => (wY_X8_setTryField N ((M.1 51) - 1) 1 (-1) (fm (fm M2 50 r1) 52 0) O2 (fun M3 O3 => (wY_X6_get N (p1 + 1) M3 O3 (fun r4 M5 O5 => (wY_X8_setObject N r4 (M5.1 54) M5 O5 (fun M6 O6 => (Q (fm (fm M6 54 0) 49 (p1 + 3)) O6))))))))
set_option maxRecDepth 20000 in
theorem soY_X8_doUphold {l : Launch} {g : b_S} (hg : g.1 = tb_T 5) (p1 : Int32) (M : f_S3) (O : Nat × Nat) (Q : f_S3 → Nat × Nat → Prop) (hw : wY_X8_doUphold (b_N g) p1 M O Q) : f_MetV l g yX8_doUphold cX8_doUphold 3 (1) [.ref (b_o g 4), .int p1] M O Q := by
  refine f_MetV.of (C := RX8) (by decide) rfl (Nat.le_of_ble_eq_true rfl) (fun x Z hret => ?_)
  show f_G x g 3 O M O 0 [(0, .ref (b_o g 4)), (1, .int p1)] []
  refine ac_aload_n Z.1 0 dX8_doUphold_0 rfl ?_
  refine f_geti Z b_X8 4 (oT_4 hg) 11 (by decide) (by decide) (fT_51 hg) fX8_94 rfl (v := (M.1 51)) rfl dX8_doUphold_1 ?_
  refine ac_iconst (v := 1) Z.1 dX8_doUphold_4 (by decide) ?_
  refine ac_isub Z.1 dX8_doUphold_5 ?_
  refine ac_istore_n (lv' := [(2, .int ((M.1 51) - 1)), (0, .ref (b_o g 4)), (1, .int p1)]) Z.1 dX8_doUphold_6 (by decide) rfl ?_
  refine ac_aload_n Z.1 1 dX8_doUphold_7 rfl ?_
  refine ac_aload_n Z.1 1 dX8_doUphold_8 rfl ?_
  refine ac_iload_n Z.1 0 dX8_doUphold_9 rfl ?_
  refine ac_iconst (v := 0) Z.1 dX8_doUphold_10 (by decide) ?_
  refine f_calli (As := [.int ((M.1 51) - 1), .int 0]) (st := [.ref (b_o g 4)]) Z b_X8.1 4 (oT_4 hg) rfl kX8_tryField lkX8_219 (by omega) (soY_X8_tryField hg  _ _ _ _ _ hw) rfl rfl (Nat.le_of_ble_eq_true rfl) dX8_doUphold_11 (fun r1 M2 O2 hw => ?_)
  refine f_put Z b_X8 4 (oT_4 hg) 10 (by decide) (by decide) (fT_50 hg) rfl rfl fX8_91 rfl (I := 50) rfl dX8_doUphold_14 ?_
  refine ac_aload_n Z.1 1 dX8_doUphold_17 rfl ?_
  refine ac_iconst (v := 0) Z.1 dX8_doUphold_18 (by decide) ?_
  refine f_put Z b_X8 4 (oT_4 hg) 12 (by decide) (by decide) (fT_52 hg) rfl rfl fX8_97 rfl (I := 52) rfl dX8_doUphold_19 ?_
  refine ac_aload_n Z.1 1 dX8_doUphold_22 rfl ?_
  refine ac_iload_n Z.1 0 dX8_doUphold_23 rfl ?_
  refine ac_iconst (v := 1) Z.1 dX8_doUphold_24 (by decide) ?_
  refine ac_iconst (v := (-1)) Z.1 dX8_doUphold_25 (by decide) ?_
  refine f_callv (As := [.int ((M.1 51) - 1), .int 1, .int (-1)]) (st := []) Z b_X8.1 4 (oT_4 hg) rfl kX8_setTryField lkX8_216 (by omega) (soY_X8_setTryField hg  _ _ _ _ _ _ hw) rfl rfl (Nat.le_of_ble_eq_true rfl) dX8_doUphold_26 (fun M3 O3 hw => ?_)
  refine ac_aload_n Z.1 1 dX8_doUphold_29 rfl ?_
  refine ac_aload_n Z.1 1 dX8_doUphold_30 rfl ?_
  refine f_getr Z b_X8 4 (oT_4 hg) 7 (by decide) (by decide) (fT_47 hg) fX8_32 rfl (h2 := (b_o g 5)) rfl dX8_doUphold_31 ?_
  refine ac_iload_n Z.1 2 dX8_doUphold_34 rfl ?_
  refine ac_iconst (v := 1) Z.1 dX8_doUphold_35 (by decide) ?_
  refine ac_iadd Z.1 dX8_doUphold_36 ?_
  refine f_calli (As := [.int (p1 + 1)]) (st := [.ref (b_o g 4)]) Z b_X6.1 5 (oT_5 hg) rfl kX6_get lkX8_114 (by omega) (soY_X6_get hg  _ _ _ _ hw) rfl rfl (Nat.le_of_ble_eq_true rfl) dX8_doUphold_37 (fun r4 M5 O5 hw => ?_)
  refine ac_aload_n Z.1 1 dX8_doUphold_40 rfl ?_
  refine f_geti Z b_X8 4 (oT_4 hg) 14 (by decide) (by decide) (fT_54 hg) fX8_74 rfl (v := (M5.1 54)) rfl dX8_doUphold_41 ?_
  refine f_callv (As := [.int r4, .int (M5.1 54)]) (st := []) Z b_X8.1 4 (oT_4 hg) rfl kX8_setObject lkX8_144 (by omega) (soY_X8_setObject hg  _ _ _ _ _ hw) rfl rfl (Nat.le_of_ble_eq_true rfl) dX8_doUphold_44 (fun M6 O6 hw => ?_)
  refine ac_aload_n Z.1 1 dX8_doUphold_47 rfl ?_
  refine ac_iconst (v := 0) Z.1 dX8_doUphold_48 (by decide) ?_
  refine f_put Z b_X8 4 (oT_4 hg) 14 (by decide) (by decide) (fT_54 hg) rfl rfl fX8_74 rfl (I := 54) rfl dX8_doUphold_49 ?_
  refine ac_aload_n Z.1 1 dX8_doUphold_52 rfl ?_
  refine ac_iload_n Z.1 2 dX8_doUphold_53 rfl ?_
  refine ac_iconst (v := 3) Z.1 dX8_doUphold_54 (by decide) ?_
  refine ac_iadd Z.1 dX8_doUphold_55 ?_
  refine f_put Z b_X8 4 (oT_4 hg) 9 (by decide) (by decide) (fT_49 hg) rfl rfl fX8_111 rfl (I := 49) rfl dX8_doUphold_56 ?_
  exact hret _ _ _ _ dX8_doUphold_59 hw
def wY_X8_goOut_0 (N : Nat → Nat) (Q : f_S3 → Nat × Nat → Prop) : Nat → f_S3 → Nat × Nat → Prop
  | 0 => fun _ _ => False
  | n + 1 => fun M O => (((M.1 51) ≤ 0 → (Q (fm M 53 2) O)) ∧ (¬ (M.1 51) ≤ 0 → (wY_X8_tryField N ((M.1 51) - 1) 1 M O (fun r1 M2 O2 => (wY_X8_upholdFor N r1 M2 O2 (fun r3 M4 O4 => ((r3 = (-1) → (wY_X8_tryField N ((M4.1 51) - 1) 2 M4 O4 (fun r5 M6 O6 => ((r5 = (-1) → (wY_X8_goOut_0 N Q n (fm M6 51 ((M6.1 51) - 1)) O6)) ∧ (¬ r5 = (-1) → (wY_X8_doLastly N 1 (M6.1 54) M6 O6 (fun M7 O7 => (Q (fm M7 54 0) O7)))))))) ∧ (¬ r3 = (-1) → (wY_X8_doUphold N r3 M4 O4 (fun M8 O8 => (Q M8 O8)))))))))))
set_option maxRecDepth 20000 in
theorem sY_X8_goOut_0 {x : ac_X} {g : b_S} (hg : g.1 = tb_T 5) {l : Launch} {O0 : Nat × Nat} {Q : f_S3 → Nat × Nat → Prop} (Z : b_Cx x g l RX8 cX8_goOut 2 (3) O0) (hret : f_RV x g 2 cX8_goOut O0 Q) : ∀ (n : Nat) (M : f_S3) (O : Nat × Nat), wY_X8_goOut_0 (b_N g) Q n M O → f_G x g 2 O0 M O 0 [(0, .ref (b_o g 4))] [] := by
  intro n
  induction n with
  | zero => intro _ _ hw; exact hw.elim
  | succ n ih =>
    intro M O hw
    dsimp only [wY_X8_goOut_0] at hw
    refine ac_aload_n Z.1 0 dX8_goOut_0 rfl ?_
    refine f_geti Z b_X8 4 (oT_4 hg) 11 (by decide) (by decide) (fT_51 hg) fX8_94 rfl (v := (M.1 51)) rfl dX8_goOut_1 ?_
    obtain ⟨hwt, hwf⟩ := hw
    refine ac_if_le (tgt := 77) Z.1 dX8_goOut_4 (by decide) (fun hc => ?_) (fun hc => ?_)
    · have hw := hwt hc
      refine ac_aload_n Z.1 0 dX8_goOut_77 rfl ?_
      refine ac_iconst (v := 2) Z.1 dX8_goOut_78 (by decide) ?_
      refine f_put Z b_X8 4 (oT_4 hg) 13 (by decide) (by decide) (fT_53 hg) rfl rfl fX8_53 rfl (I := 53) rfl dX8_goOut_79 ?_
      exact hret _ _ _ _ dX8_goOut_82 hw
    · have hw := hwf hc
      refine ac_aload_n Z.1 0 dX8_goOut_7 rfl ?_
      refine ac_aload_n Z.1 0 dX8_goOut_8 rfl ?_
      refine ac_aload_n Z.1 0 dX8_goOut_9 rfl ?_
      refine f_geti Z b_X8 4 (oT_4 hg) 11 (by decide) (by decide) (fT_51 hg) fX8_94 rfl (v := (M.1 51)) rfl dX8_goOut_10 ?_
      refine ac_iconst (v := 1) Z.1 dX8_goOut_13 (by decide) ?_
      refine ac_isub Z.1 dX8_goOut_14 ?_
      refine ac_iconst (v := 1) Z.1 dX8_goOut_15 (by decide) ?_
      refine f_calli (As := [.int ((M.1 51) - 1), .int 1]) (st := [.ref (b_o g 4)]) Z b_X8.1 4 (oT_4 hg) rfl kX8_tryField lkX8_219 (by omega) (soY_X8_tryField hg  _ _ _ _ _ hw) rfl rfl (Nat.le_of_ble_eq_true rfl) dX8_goOut_16 (fun r1 M2 O2 hw => ?_)
      refine f_calli (As := [.int r1]) (st := []) Z b_X8.1 4 (oT_4 hg) rfl kX8_upholdFor lkX8_222 (by omega) (soY_X8_upholdFor hg  _ _ _ _ hw) rfl rfl (Nat.le_of_ble_eq_true rfl) dX8_goOut_19 (fun r3 M4 O4 hw => ?_)
      refine ac_istore_n (lv' := [(1, .int r3), (0, .ref (b_o g 4))]) Z.1 dX8_goOut_22 (by decide) rfl ?_
      refine ac_iload_n Z.1 0 dX8_goOut_23 rfl ?_
      refine ac_iconst (v := (-1)) Z.1 dX8_goOut_24 (by decide) ?_
      obtain ⟨hwt, hwf⟩ := hw
      refine ac_icmp_eq (tgt := 34) Z.1 dX8_goOut_25 (by decide) (fun hc => ?_) (fun hc => ?_)
      · have hw := hwt hc
        refine ac_aload_n Z.1 1 dX8_goOut_34 rfl ?_
        refine ac_aload_n Z.1 1 dX8_goOut_35 rfl ?_
        refine f_geti Z b_X8 4 (oT_4 hg) 11 (by decide) (by decide) (fT_51 hg) fX8_94 rfl (v := (M4.1 51)) rfl dX8_goOut_36 ?_
        refine ac_iconst (v := 1) Z.1 dX8_goOut_39 (by decide) ?_
        refine ac_isub Z.1 dX8_goOut_40 ?_
        refine ac_iconst (v := 2) Z.1 dX8_goOut_41 (by decide) ?_
        refine f_calli (As := [.int ((M4.1 51) - 1), .int 2]) (st := []) Z b_X8.1 4 (oT_4 hg) rfl kX8_tryField lkX8_219 (by omega) (soY_X8_tryField hg  _ _ _ _ _ hw) rfl rfl (Nat.le_of_ble_eq_true rfl) dX8_goOut_42 (fun r5 M6 O6 hw => ?_)
        refine ac_iconst (v := (-1)) Z.1 dX8_goOut_45 (by decide) ?_
        obtain ⟨hwt, hwf⟩ := hw
        refine ac_icmp_eq (tgt := 64) Z.1 dX8_goOut_46 (by decide) (fun hc => ?_) (fun hc => ?_)
        · have hw := hwt hc
          refine ac_aload_n Z.1 1 dX8_goOut_64 rfl ?_
          refine ac_dup Z.1 dX8_goOut_65 rfl ?_
          refine f_geti Z b_X8 4 (oT_4 hg) 11 (by decide) (by decide) (fT_51 hg) fX8_94 rfl (v := (M6.1 51)) rfl dX8_goOut_66 ?_
          refine ac_iconst (v := 1) Z.1 dX8_goOut_69 (by decide) ?_
          refine ac_isub Z.1 dX8_goOut_70 ?_
          refine f_put Z b_X8 4 (oT_4 hg) 11 (by decide) (by decide) (fT_51 hg) rfl rfl fX8_94 rfl (I := 51) rfl dX8_goOut_71 ?_
          refine ac_goto (tgt := 0) Z.1 dX8_goOut_74 (by decide) ?_
          refine ac_lv [1] rfl ?_
          exact ih _ _ hw
        · have hw := hwf hc
          refine ac_aload_n Z.1 1 dX8_goOut_49 rfl ?_
          refine ac_iconst (v := 1) Z.1 dX8_goOut_50 (by decide) ?_
          refine ac_aload_n Z.1 1 dX8_goOut_51 rfl ?_
          refine f_geti Z b_X8 4 (oT_4 hg) 14 (by decide) (by decide) (fT_54 hg) fX8_74 rfl (v := (M6.1 54)) rfl dX8_goOut_52 ?_
          refine f_callv (As := [.int 1, .int (M6.1 54)]) (st := []) Z b_X8.1 4 (oT_4 hg) rfl kX8_doLastly lkX8_201 (by omega) (soY_X8_doLastly hg  _ _ _ _ _ hw) rfl rfl (Nat.le_of_ble_eq_true rfl) dX8_goOut_55 (fun M7 O7 hw => ?_)
          refine ac_aload_n Z.1 1 dX8_goOut_58 rfl ?_
          refine ac_iconst (v := 0) Z.1 dX8_goOut_59 (by decide) ?_
          refine f_put Z b_X8 4 (oT_4 hg) 14 (by decide) (by decide) (fT_54 hg) rfl rfl fX8_74 rfl (I := 54) rfl dX8_goOut_60 ?_
          exact hret _ _ _ _ dX8_goOut_63 hw
      · have hw := hwf hc
        refine ac_aload_n Z.1 1 dX8_goOut_28 rfl ?_
        refine ac_iload_n Z.1 0 dX8_goOut_29 rfl ?_
        refine f_callv (As := [.int r3]) (st := []) Z b_X8.1 4 (oT_4 hg) rfl kX8_doUphold lkX8_225 (by omega) (soY_X8_doUphold hg  _ _ _ _ hw) rfl rfl (Nat.le_of_ble_eq_true rfl) dX8_goOut_30 (fun M8 O8 hw => ?_)
        exact hret _ _ _ _ dX8_goOut_33 hw
def wY_X8_goOut (N : Nat → Nat) (M : f_S3) (O : Nat × Nat) (Q : f_S3 → Nat × Nat → Prop) : Prop := ∃ e0, wY_X8_goOut_0 N Q e0 M O
set_option maxRecDepth 20000 in
theorem soY_X8_goOut {l : Launch} {g : b_S} (hg : g.1 = tb_T 5) (M : f_S3) (O : Nat × Nat) (Q : f_S3 → Nat × Nat → Prop) (hw : wY_X8_goOut (b_N g)  M O Q) : f_MetV l g yX8_goOut cX8_goOut 2 (3) [.ref (b_o g 4)] M O Q := by
  refine f_MetV.of (C := RX8) (by decide) rfl (Nat.le_of_ble_eq_true rfl) (fun x Z hret => ?_)
  show f_G x g 2 O M O 0 [(0, .ref (b_o g 4))] []
  obtain ⟨n, hw⟩ := hw
  exact sY_X8_goOut_0 hg Z hret n _ _ hw
def wY_X5_rest (N : Nat → Nat) (p1 : Int32) (M : f_S3) (O : Nat × Nat) (Q : f_S3 → Nat × Nat → Prop) : Prop := Q (fm (fm M 32 0) 33 p1) O
set_option maxRecDepth 20000 in
theorem soY_X5_rest {l : Launch} {g : b_S} {c : Nat} (hg : g.1 = tb_T c) (p1 : Int32) (M : f_S3) (O : Nat × Nat) (Q : f_S3 → Nat × Nat → Prop) (hw : wY_X5_rest (b_N g) p1 M O Q) : f_MetV l g yX5_rest cX5_rest 2 (0) [.ref (b_o g 3), .int p1] M O Q := by
  refine f_MetV.of (C := RX5) (by decide) rfl (Nat.le_of_ble_eq_true rfl) (fun x Z hret => ?_)
  show f_G x g 2 O M O 0 [(0, .ref (b_o g 3)), (1, .int p1)] []
  refine ac_aload_n Z.1 0 dX5_rest_0 rfl ?_
  refine ac_iconst (v := 0) Z.1 dX5_rest_1 (by decide) ?_
  refine f_put Z b_X5 3 (oT_3 hg) 2 (by decide) (by decide) (fT_32 hg) rfl rfl fX5_15 rfl (I := 32) rfl dX5_rest_2 ?_
  refine ac_aload_n Z.1 0 dX5_rest_5 rfl ?_
  refine ac_iload_n Z.1 1 dX5_rest_6 rfl ?_
  refine f_put Z b_X5 3 (oT_3 hg) 3 (by decide) (by decide) (fT_33 hg) rfl rfl fX5_25 rfl (I := 33) rfl dX5_rest_7 ?_
  exact hret _ _ _ _ dX5_rest_10 hw
def wY_X5_adjourn (N : Nat → Nat) (M : f_S3) (O : Nat × Nat) (Q : f_S3 → Nat × Nat → Prop) : Prop := Q (fm M 32 3) O
set_option maxRecDepth 20000 in
theorem soY_X5_adjourn {l : Launch} {g : b_S} {c : Nat} (hg : g.1 = tb_T c) (M : f_S3) (O : Nat × Nat) (Q : f_S3 → Nat × Nat → Prop) (hw : wY_X5_adjourn (b_N g)  M O Q) : f_MetV l g yX5_adjourn cX5_adjourn 1 (0) [.ref (b_o g 3)] M O Q := by
  refine f_MetV.of (C := RX5) (by decide) rfl (Nat.le_of_ble_eq_true rfl) (fun x Z hret => ?_)
  show f_G x g 1 O M O 0 [(0, .ref (b_o g 3))] []
  refine ac_aload_n Z.1 0 dX5_adjourn_0 rfl ?_
  refine ac_iconst (v := 3) Z.1 dX5_adjourn_1 (by decide) ?_
  refine f_put Z b_X5 3 (oT_3 hg) 2 (by decide) (by decide) (fT_32 hg) rfl rfl fX5_15 rfl (I := 32) rfl dX5_adjourn_2 ?_
  exact hret _ _ _ _ dX5_adjourn_5 hw
def wY_X8_hold_101 (N : Nat → Nat) (Q : Int32 → f_S3 → Nat × Nat → Prop) (M : f_S3) (O : Nat × Nat) : Prop := (¬ (M.1 53) = 2 → ((¬ (M.1 53) = 1 → (wY_X5_adjourn N M O (fun M2 O2 => (Q 0 M2 O2)))) ∧ ((M.1 53) = 1 → (wY_X5_rest N (M.1 55) M O (fun M3 O3 => (Q 0 M3 O3)))))) ∧ ((M.1 53) = 2 → (Q (M.1 54) M O))
set_option maxRecDepth 20000 in
theorem sY_X8_hold_101 {x : ac_X} {g : b_S} (hg : g.1 = tb_T 5) {l : Launch} {O0 : Nat × Nat} {Q : Int32 → f_S3 → Nat × Nat → Prop} (Z : b_Cx x g l RX8 cX8_hold 6 (13) O0) (hret : f_RI x g 6 cX8_hold .int O0 Q) (M : f_S3) (O : Nat × Nat) (hw : wY_X8_hold_101 (b_N g) Q M O) : f_G x g 6 O0 M O 101 [(0, .ref (b_o g 4))] [] := by
  refine ac_aload_n Z.1 0 dX8_hold_101 rfl ?_
  refine f_geti Z b_X8 4 (oT_4 hg) 13 (by decide) (by decide) (fT_53 hg) fX8_53 rfl (v := (M.1 53)) rfl dX8_hold_102 ?_
  refine ac_iconst (v := 2) Z.1 dX8_hold_105 (by decide) ?_
  obtain ⟨hwt, hwf⟩ := hw
  refine ac_icmp_ne (tgt := 114) Z.1 dX8_hold_106 (by decide) (fun hc => ?_) (fun hc => ?_)
  · have hw := hwt hc
    refine ac_aload_n Z.1 0 dX8_hold_114 rfl ?_
    refine f_geti Z b_X8 4 (oT_4 hg) 13 (by decide) (by decide) (fT_53 hg) fX8_53 rfl (v := (M.1 53)) rfl dX8_hold_115 ?_
    refine ac_iconst (v := 1) Z.1 dX8_hold_118 (by decide) ?_
    obtain ⟨hwt, hwf⟩ := hw
    refine ac_icmp_ne (tgt := 136) Z.1 dX8_hold_119 (by decide) (fun hc => ?_) (fun hc => ?_)
    · have hw := hwt hc
      refine ac_aload_n Z.1 0 dX8_hold_136 rfl ?_
      refine f_getr Z b_X8 4 (oT_4 hg) 1 (by decide) (by decide) (fT_41 hg) fX8_40 rfl (h2 := (b_o g 3)) rfl dX8_hold_137 ?_
      refine f_callv (As := []) (st := []) Z b_X5.1 3 (oT_3 hg) rfl kX5_adjourn lkX8_88 (by omega) (soY_X5_adjourn hg   _ _ _ hw) rfl rfl (Nat.le_of_ble_eq_true rfl) dX8_hold_140 (fun M2 O2 hw => ?_)
      refine ac_iconst (v := 0) Z.1 dX8_hold_143 (by decide) ?_
      exact hret _ _ _ _ _ dX8_hold_144 rfl hw
    · have hw := hwf hc
      refine ac_aload_n Z.1 0 dX8_hold_122 rfl ?_
      refine f_getr Z b_X8 4 (oT_4 hg) 1 (by decide) (by decide) (fT_41 hg) fX8_40 rfl (h2 := (b_o g 3)) rfl dX8_hold_123 ?_
      refine ac_aload_n Z.1 0 dX8_hold_126 rfl ?_
      refine f_geti Z b_X8 4 (oT_4 hg) 15 (by decide) (by decide) (fT_55 hg) fX8_80 rfl (v := (M.1 55)) rfl dX8_hold_127 ?_
      refine f_callv (As := [.int (M.1 55)]) (st := []) Z b_X5.1 3 (oT_3 hg) rfl kX5_rest lkX8_83 (by omega) (soY_X5_rest hg  _ _ _ _ hw) rfl rfl (Nat.le_of_ble_eq_true rfl) dX8_hold_130 (fun M3 O3 hw => ?_)
      refine ac_goto (tgt := 143) Z.1 dX8_hold_133 (by decide) ?_
      refine ac_iconst (v := 0) Z.1 dX8_hold_143 (by decide) ?_
      exact hret _ _ _ _ _ dX8_hold_144 rfl hw
  · have hw := hwf hc
    refine ac_aload_n Z.1 0 dX8_hold_109 rfl ?_
    refine f_geti Z b_X8 4 (oT_4 hg) 14 (by decide) (by decide) (fT_54 hg) fX8_74 rfl (v := (M.1 54)) rfl dX8_hold_110 ?_
    exact hret _ _ _ _ _ dX8_hold_113 rfl hw
def wY_X8_hold_95 (N : Nat → Nat) (K10 : (Int32 → f_S3 → (Nat × Nat) → Prop)) (Q : Int32 → f_S3 → Nat × Nat → Prop) (a4 : Int32) (M : f_S3) (O : Nat × Nat) : Prop := K10 (a4 + 1) M O
set_option maxRecDepth 20000 in
theorem sY_X8_hold_95 {x : ac_X} {g : b_S} (hg : g.1 = tb_T 5) {l : Launch} {O0 : Nat × Nat} {K10 : (Int32 → f_S3 → (Nat × Nat) → Prop)} {Q : Int32 → f_S3 → Nat × Nat → Prop} (Z : b_Cx x g l RX8 cX8_hold 6 (13) O0) (hret : f_RI x g 6 cX8_hold .int O0 Q) (hK10 : ∀ (a4 : Int32) (M : f_S3) (O : Nat × Nat), K10 a4 M O → f_G x g 6 O0 M O 10 [(0, .ref (b_o g 4)), (4, .int a4)] []) (a4 : Int32) (M : f_S3) (O : Nat × Nat) (hw : wY_X8_hold_95 (b_N g) K10 Q a4 M O) : f_G x g 6 O0 M O 95 [(0, .ref (b_o g 4)), (4, .int a4)] [] := by
  refine ac_iinc (w := (a4 + 1)) (lv' := [(4, .int (a4 + 1)), (0, .ref (b_o g 4))]) Z.1 1 dX8_hold_95 rfl rfl (by decide) rfl ?_
  refine ac_goto (tgt := 10) Z.1 dX8_hold_98 (by decide) ?_
  refine ac_lv [1, 0] rfl ?_
  exact hK10 _ _ _ hw
def wY_X8_hold_84 (N : Nat → Nat) (K10 : (Int32 → f_S3 → (Nat × Nat) → Prop)) (Q : Int32 → f_S3 → Nat × Nat → Prop) (a4 : Int32) (M : f_S3) (O : Nat × Nat) : Prop := ((M.1 54) = 0 → (wY_X8_hold_95 N K10 Q a4 M O)) ∧ (¬ (M.1 54) = 0 → (wY_X8_goOut N M O (fun M7 O7 => (wY_X8_hold_95 N K10 Q a4 M7 O7))))
set_option maxRecDepth 20000 in
theorem sY_X8_hold_84 {x : ac_X} {g : b_S} (hg : g.1 = tb_T 5) {l : Launch} {O0 : Nat × Nat} {K10 : (Int32 → f_S3 → (Nat × Nat) → Prop)} {Q : Int32 → f_S3 → Nat × Nat → Prop} (Z : b_Cx x g l RX8 cX8_hold 6 (13) O0) (hret : f_RI x g 6 cX8_hold .int O0 Q) (hK10 : ∀ (a4 : Int32) (M : f_S3) (O : Nat × Nat), K10 a4 M O → f_G x g 6 O0 M O 10 [(0, .ref (b_o g 4)), (4, .int a4)] []) (a4 : Int32) (M : f_S3) (O : Nat × Nat) (hw : wY_X8_hold_84 (b_N g) K10 Q a4 M O) : f_G x g 6 O0 M O 84 [(0, .ref (b_o g 4)), (4, .int a4)] [] := by
  refine ac_aload_n Z.1 0 dX8_hold_84 rfl ?_
  refine f_geti Z b_X8 4 (oT_4 hg) 14 (by decide) (by decide) (fT_54 hg) fX8_74 rfl (v := (M.1 54)) rfl dX8_hold_85 ?_
  obtain ⟨hwt, hwf⟩ := hw
  refine ac_if_eq (tgt := 95) Z.1 dX8_hold_88 (by decide) (fun hc => ?_) (fun hc => ?_)
  · have hw := hwt hc
    exact sY_X8_hold_95 hg Z hret hK10 _ _ _ hw
  · have hw := hwf hc
    refine ac_aload_n Z.1 0 dX8_hold_91 rfl ?_
    refine f_callv (As := []) (st := []) Z b_X8.1 4 (oT_4 hg) rfl kX8_goOut lkX8_77 (by omega) (soY_X8_goOut hg   _ _ _ hw) rfl rfl (Nat.le_of_ble_eq_true rfl) dX8_hold_92 (fun M7 O7 hw => ?_)
    exact sY_X8_hold_95 hg Z hret hK10 _ _ _ hw
def wY_X8_hold_10 (N : Nat → Nat) (Q : Int32 → f_S3 → Nat × Nat → Prop) : Nat → Int32 → f_S3 → Nat × Nat → Prop
  | 0 => fun _ _ _ => False
  | n + 1 => fun a4 M O => ((1000000000 ≤ a4 → (wY_X8_hold_101 N Q M O)) ∧ (¬ 1000000000 ≤ a4 → ((¬ (M.1 53) = 0 → (wY_X8_hold_101 N Q M O)) ∧ ((M.1 53) = 0 → (wY_X8_fetch N M O (fun r4 M5 O5 => ((6 < r4 → ((13 < r4 → ((21 < r4 → (wY_X8_doObjection N r4 M5 O5 (fun M6 O6 => (wY_X8_hold_84 N (wY_X8_hold_10 N Q n) Q a4 M6 O6)))) ∧ (¬ 21 < r4 → (wY_X8_doTwoNumbers N r4 M5 O5 (fun M8 O8 => (wY_X8_hold_84 N (wY_X8_hold_10 N Q n) Q a4 M8 O8)))))) ∧ (¬ 13 < r4 → (wY_X8_doNumber N r4 M5 O5 (fun M9 O9 => (wY_X8_hold_84 N (wY_X8_hold_10 N Q n) Q a4 M9 O9)))))) ∧ (¬ 6 < r4 → (wY_X8_doCourse N r4 M5 O5 (fun M10 O10 => (wY_X8_hold_84 N (wY_X8_hold_10 N Q n) Q a4 M10 O10)))))))))))
set_option maxRecDepth 20000 in
theorem sY_X8_hold_10 {x : ac_X} {g : b_S} (hg : g.1 = tb_T 5) {l : Launch} {O0 : Nat × Nat} {Q : Int32 → f_S3 → Nat × Nat → Prop} (Z : b_Cx x g l RX8 cX8_hold 6 (13) O0) (hret : f_RI x g 6 cX8_hold .int O0 Q) : ∀ (n : Nat) (a4 : Int32) (M : f_S3) (O : Nat × Nat), wY_X8_hold_10 (b_N g) Q n a4 M O → f_G x g 6 O0 M O 10 [(0, .ref (b_o g 4)), (4, .int a4)] [] := by
  intro n
  induction n with
  | zero => intro _ _ _ hw; exact hw.elim
  | succ n ih =>
    intro a4 M O hw
    dsimp only [wY_X8_hold_10] at hw
    refine ac_iload Z.1 1 dX8_hold_10 rfl ?_
    refine ac_ldc (v := 1000000000) Z.1 ckX8_52 dX8_hold_12 ?_
    obtain ⟨hwt, hwf⟩ := hw
    refine ac_icmp_ge (tgt := 101) Z.1 dX8_hold_14 (by decide) (fun hc => ?_) (fun hc => ?_)
    · have hw := hwt hc
      refine ac_lv [0] rfl ?_
      exact sY_X8_hold_101 hg Z hret _ _ hw
    · have hw := hwf hc
      refine ac_aload_n Z.1 0 dX8_hold_17 rfl ?_
      refine f_geti Z b_X8 4 (oT_4 hg) 13 (by decide) (by decide) (fT_53 hg) fX8_53 rfl (v := (M.1 53)) rfl dX8_hold_18 ?_
      obtain ⟨hwt, hwf⟩ := hw
      refine ac_if_ne (tgt := 101) Z.1 dX8_hold_21 (by decide) (fun hc => ?_) (fun hc => ?_)
      · have hw := hwt hc
        refine ac_lv [0] rfl ?_
        exact sY_X8_hold_101 hg Z hret _ _ hw
      · have hw := hwf hc
        refine ac_aload_n Z.1 0 dX8_hold_24 rfl ?_
        refine f_calli (As := []) (st := []) Z b_X8.1 4 (oT_4 hg) rfl kX8_fetch lkX8_56 (by omega) (soY_X8_fetch hg   _ _ _ hw) rfl rfl (Nat.le_of_ble_eq_true rfl) dX8_hold_25 (fun r4 M5 O5 hw => ?_)
        refine ac_istore (lv' := [(5, .int r4), (0, .ref (b_o g 4)), (4, .int a4)]) Z.1 dX8_hold_28 (by decide) rfl ?_
        refine ac_iload Z.1 0 dX8_hold_30 rfl ?_
        refine ac_bipush (v := 6) Z.1 dX8_hold_32 (by decide) ?_
        obtain ⟨hwt, hwf⟩ := hw
        refine ac_icmp_gt (tgt := 46) Z.1 dX8_hold_34 (by decide) (fun hc => ?_) (fun hc => ?_)
        · have hw := hwt hc
          refine ac_iload Z.1 0 dX8_hold_46 rfl ?_
          refine ac_bipush (v := 13) Z.1 dX8_hold_48 (by decide) ?_
          obtain ⟨hwt, hwf⟩ := hw
          refine ac_icmp_gt (tgt := 62) Z.1 dX8_hold_50 (by decide) (fun hc => ?_) (fun hc => ?_)
          · have hw := hwt hc
            refine ac_iload Z.1 0 dX8_hold_62 rfl ?_
            refine ac_bipush (v := 21) Z.1 dX8_hold_64 (by decide) ?_
            obtain ⟨hwt, hwf⟩ := hw
            refine ac_icmp_gt (tgt := 78) Z.1 dX8_hold_66 (by decide) (fun hc => ?_) (fun hc => ?_)
            · have hw := hwt hc
              refine ac_aload_n Z.1 1 dX8_hold_78 rfl ?_
              refine ac_iload Z.1 0 dX8_hold_79 rfl ?_
              refine f_callv (As := [.int r4]) (st := []) Z b_X8.1 4 (oT_4 hg) rfl kX8_doObjection lkX8_71 (by omega) (soY_X8_doObjection hg  _ _ _ _ hw) rfl rfl (Nat.le_of_ble_eq_true rfl) dX8_hold_81 (fun M6 O6 hw => ?_)
              refine ac_lv [1, 2] rfl ?_
              exact sY_X8_hold_84 hg Z hret ih _ _ _ hw
            · have hw := hwf hc
              refine ac_aload_n Z.1 1 dX8_hold_69 rfl ?_
              refine ac_iload Z.1 0 dX8_hold_70 rfl ?_
              refine f_callv (As := [.int r4]) (st := []) Z b_X8.1 4 (oT_4 hg) rfl kX8_doTwoNumbers lkX8_68 (by omega) (soY_X8_doTwoNumbers hg  _ _ _ _ hw) rfl rfl (Nat.le_of_ble_eq_true rfl) dX8_hold_72 (fun M8 O8 hw => ?_)
              refine ac_goto (tgt := 84) Z.1 dX8_hold_75 (by decide) ?_
              refine ac_lv [1, 2] rfl ?_
              exact sY_X8_hold_84 hg Z hret ih _ _ _ hw
          · have hw := hwf hc
            refine ac_aload_n Z.1 1 dX8_hold_53 rfl ?_
            refine ac_iload Z.1 0 dX8_hold_54 rfl ?_
            refine f_callv (As := [.int r4]) (st := []) Z b_X8.1 4 (oT_4 hg) rfl kX8_doNumber lkX8_65 (by omega) (soY_X8_doNumber hg  _ _ _ _ hw) rfl rfl (Nat.le_of_ble_eq_true rfl) dX8_hold_56 (fun M9 O9 hw => ?_)
            refine ac_goto (tgt := 84) Z.1 dX8_hold_59 (by decide) ?_
            refine ac_lv [1, 2] rfl ?_
            exact sY_X8_hold_84 hg Z hret ih _ _ _ hw
        · have hw := hwf hc
          refine ac_aload_n Z.1 1 dX8_hold_37 rfl ?_
          refine ac_iload Z.1 0 dX8_hold_38 rfl ?_
          refine f_callv (As := [.int r4]) (st := []) Z b_X8.1 4 (oT_4 hg) rfl kX8_doCourse lkX8_62 (by omega) (soY_X8_doCourse hg  _ _ _ _ hw) rfl rfl (Nat.le_of_ble_eq_true rfl) dX8_hold_40 (fun M10 O10 hw => ?_)
          refine ac_goto (tgt := 84) Z.1 dX8_hold_43 (by decide) ?_
          refine ac_lv [1, 2] rfl ?_
          exact sY_X8_hold_84 hg Z hret ih _ _ _ hw
def wY_X8_hold (N : Nat → Nat) (p1 : Int32) (p2 : Int32) (p3 : Int32) (M : f_S3) (O : Nat × Nat) (Q : Int32 → f_S3 → Nat × Nat → Prop) : Prop := wY_X8_start N p1 p2 p3 M O (fun M1 O1 => (∃ e10, wY_X8_hold_10 N Q e10 0 M1 O1))
set_option maxRecDepth 20000 in
theorem soY_X8_hold {l : Launch} {g : b_S} (hg : g.1 = tb_T 5) (p1 : Int32) (p2 : Int32) (p3 : Int32) (M : f_S3) (O : Nat × Nat) (Q : Int32 → f_S3 → Nat × Nat → Prop) (hw : wY_X8_hold (b_N g) p1 p2 p3 M O Q) : f_MetI l g yX8_hold cX8_hold 6 .int (13) [.ref (b_o g 4), .int p1, .int p2, .int p3] M O Q := by
  refine f_MetI.of (C := RX8) (by decide) rfl (Nat.le_of_ble_eq_true rfl) (fun x Z hret => ?_)
  show f_G x g 6 O M O 0 [(0, .ref (b_o g 4)), (1, .int p1), (2, .int p2), (3, .int p3)] []
  refine ac_aload_n Z.1 0 dX8_hold_0 rfl ?_
  refine ac_iload_n Z.1 1 dX8_hold_1 rfl ?_
  refine ac_iload_n Z.1 2 dX8_hold_2 rfl ?_
  refine ac_iload_n Z.1 3 dX8_hold_3 rfl ?_
  refine f_callv (As := [.int p1, .int p2, .int p3]) (st := []) Z b_X8.1 4 (oT_4 hg) rfl kX8_start lkX8_48 (by omega) (soY_X8_start hg  _ _ _ _ _ _ hw) rfl rfl (Nat.le_of_ble_eq_true rfl) dX8_hold_4 (fun M1 O1 hw => ?_)
  refine ac_iconst (v := 0) Z.1 dX8_hold_7 (by decide) ?_
  refine ac_istore (lv' := [(4, .int 0), (0, .ref (b_o g 4)), (1, .int p1), (2, .int p2), (3, .int p3)]) Z.1 dX8_hold_8 (by decide) rfl ?_
  obtain ⟨n, hw⟩ := hw
  refine ac_lv [1, 0] rfl ?_
  exact sY_X8_hold_10 hg Z hret n _ _ _ hw
