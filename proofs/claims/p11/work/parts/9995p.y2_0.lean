def wY_X0_isInstance (N : Nat → Nat) (p0 : Int32) (M : f_S3) (O : Nat × Nat) (Q : Int32 → f_S3 → Nat × Nat → Prop) : Prop := (p0 < 0 → (Q 0 M O)) ∧ (¬ p0 < 0 → ((3 ≤ p0 → (Q 0 M O)) ∧ (¬ 3 ≤ p0 → (Q 1 M O))))
set_option maxRecDepth 20000 in
theorem soY_X0_isInstance {l : Launch} {g : b_S} {c : Nat} (hg : g.1 = tb_T c) (p0 : Int32) (M : f_S3) (O : Nat × Nat) (Q : Int32 → f_S3 → Nat × Nat → Prop) (hw : wY_X0_isInstance (b_N g) p0 M O Q) : f_MetI l g yX0_isInstance cX0_isInstance 1 .boolean (0) [.int p0] M O Q := by
  refine f_MetI.of (C := RX0) (by decide) rfl (Nat.le_of_ble_eq_true rfl) (fun x Z hret => ?_)
  show f_G x g 1 O M O 0 [(0, .int p0)] []
  refine ac_iload_n Z.1 0 dX0_isInstance_0 rfl ?_
  obtain ⟨hwt, hwf⟩ := hw
  refine ac_if_lt (tgt := 13) Z.1 dX0_isInstance_1 (by decide) (fun hc => ?_) (fun hc => ?_)
  · have hw := hwt hc
    refine ac_iconst (v := 0) Z.1 dX0_isInstance_13 (by decide) ?_
    exact hret _ _ _ _ _ dX0_isInstance_14 rfl hw
  · have hw := hwf hc
    refine ac_iload_n Z.1 0 dX0_isInstance_4 rfl ?_
    refine ac_iconst (v := 3) Z.1 dX0_isInstance_5 (by decide) ?_
    obtain ⟨hwt, hwf⟩ := hw
    refine ac_icmp_ge (tgt := 13) Z.1 dX0_isInstance_6 (by decide) (fun hc => ?_) (fun hc => ?_)
    · have hw := hwt hc
      refine ac_iconst (v := 0) Z.1 dX0_isInstance_13 (by decide) ?_
      exact hret _ _ _ _ _ dX0_isInstance_14 rfl hw
    · have hw := hwf hc
      refine ac_iconst (v := 1) Z.1 dX0_isInstance_9 (by decide) ?_
      refine ac_goto (tgt := 14) Z.1 dX0_isInstance_10 (by decide) ?_
      exact hret _ _ _ _ _ dX0_isInstance_14 rfl hw
def wY_X3_exists (N : Nat → Nat) (p0 : Int32) (M : f_S3) (O : Nat × Nat) (Q : Int32 → f_S3 → Nat × Nat → Prop) : Prop := (p0 < 0 → (Q 0 M O)) ∧ (¬ p0 < 0 → ((7 ≤ p0 → (Q 0 M O)) ∧ (¬ 7 ≤ p0 → (Q 1 M O))))
set_option maxRecDepth 20000 in
theorem soY_X3_exists {l : Launch} {g : b_S} {c : Nat} (hg : g.1 = tb_T c) (p0 : Int32) (M : f_S3) (O : Nat × Nat) (Q : Int32 → f_S3 → Nat × Nat → Prop) (hw : wY_X3_exists (b_N g) p0 M O Q) : f_MetI l g yX3_exists cX3_exists 1 .boolean (0) [.int p0] M O Q := by
  refine f_MetI.of (C := RX3) (by decide) rfl (Nat.le_of_ble_eq_true rfl) (fun x Z hret => ?_)
  show f_G x g 1 O M O 0 [(0, .int p0)] []
  refine ac_iload_n Z.1 0 dX3_exists_0 rfl ?_
  obtain ⟨hwt, hwf⟩ := hw
  refine ac_if_lt (tgt := 14) Z.1 dX3_exists_1 (by decide) (fun hc => ?_) (fun hc => ?_)
  · have hw := hwt hc
    refine ac_iconst (v := 0) Z.1 dX3_exists_14 (by decide) ?_
    exact hret _ _ _ _ _ dX3_exists_15 rfl hw
  · have hw := hwf hc
    refine ac_iload_n Z.1 0 dX3_exists_4 rfl ?_
    refine ac_bipush (v := 7) Z.1 dX3_exists_5 (by decide) ?_
    obtain ⟨hwt, hwf⟩ := hw
    refine ac_icmp_ge (tgt := 14) Z.1 dX3_exists_7 (by decide) (fun hc => ?_) (fun hc => ?_)
    · have hw := hwt hc
      refine ac_iconst (v := 0) Z.1 dX3_exists_14 (by decide) ?_
      exact hret _ _ _ _ _ dX3_exists_15 rfl hw
    · have hw := hwf hc
      refine ac_iconst (v := 1) Z.1 dX3_exists_10 (by decide) ?_
      refine ac_goto (tgt := 15) Z.1 dX3_exists_11 (by decide) ?_
      exact hret _ _ _ _ _ dX3_exists_15 rfl hw
def wY_X0_setPolicy_41 (N : Nat → Nat) (Q : Int32 → f_S3 → Nat × Nat → Prop) (a1 : Int32) (a2 : Int32) (a3 : Int32) (a4 : Int32) (M : f_S3) (O : Nat × Nat) : Prop := vp_in ((a1 * 7) + a2) (N 11) ∧ (vp_in ((a1 * 7) + a2) (N 12) ∧ (Q 1 (ff (ff M 11 ((a1 * 7) + a2) a3) 12 ((a1 * 7) + a2) a4) O))
set_option maxRecDepth 20000 in
theorem sY_X0_setPolicy_41 {x : ac_X} {g : b_S} {c : Nat} (hg : g.1 = tb_T c) {l : Launch} {O0 : Nat × Nat} {Q : Int32 → f_S3 → Nat × Nat → Prop} (Z : b_Cx x g l RX0 cX0_setPolicy 5 (1) O0) (hret : f_RI x g 5 cX0_setPolicy .boolean O0 Q) (a1 : Int32) (a2 : Int32) (a3 : Int32) (a4 : Int32) (M : f_S3) (O : Nat × Nat) (hw : wY_X0_setPolicy_41 (b_N g) Q a1 a2 a3 a4 M O) : f_G x g 5 O0 M O 41 [(0, .ref (b_o g 1)), (1, .int a1), (2, .int a2), (3, .int a3), (4, .int a4)] [] := by
  refine ac_aload_n Z.1 0 dX0_setPolicy_41 rfl ?_
  refine f_getr Z b_X0 1 (oT_1 hg) 3 (by decide) (by decide) (fT_13 hg) fX0_13 rfl (h2 := (b_o g 11)) rfl dX0_setPolicy_42 ?_
  refine ac_iload_n Z.1 1 dX0_setPolicy_45 rfl ?_
  refine ac_bipush (v := 7) Z.1 dX0_setPolicy_46 (by decide) ?_
  refine ac_imul Z.1 dX0_setPolicy_48 ?_
  refine ac_iload_n Z.1 2 dX0_setPolicy_49 rfl ?_
  refine ac_iadd Z.1 dX0_setPolicy_50 ?_
  refine ac_iload_n Z.1 3 dX0_setPolicy_51 rfl ?_
  obtain ⟨hb5, hw⟩ := hw
  refine f_ast Z 1 (aT_11 hg) rfl hb5 dX0_setPolicy_52 ?_
  refine ac_aload_n Z.1 0 dX0_setPolicy_53 rfl ?_
  refine f_getr Z b_X0 1 (oT_1 hg) 4 (by decide) (by decide) (fT_14 hg) fX0_17 rfl (h2 := (b_o g 12)) rfl dX0_setPolicy_54 ?_
  refine ac_iload_n Z.1 1 dX0_setPolicy_57 rfl ?_
  refine ac_bipush (v := 7) Z.1 dX0_setPolicy_58 (by decide) ?_
  refine ac_imul Z.1 dX0_setPolicy_60 ?_
  refine ac_iload_n Z.1 2 dX0_setPolicy_61 rfl ?_
  refine ac_iadd Z.1 dX0_setPolicy_62 ?_
  refine ac_iload Z.1 4 dX0_setPolicy_63 rfl ?_
  obtain ⟨hb6, hw⟩ := hw
  refine f_ast Z 2 (aT_12 hg) rfl hb6 dX0_setPolicy_65 ?_
  refine ac_iconst (v := 1) Z.1 dX0_setPolicy_66 (by decide) ?_
  exact hret _ _ _ _ _ dX0_setPolicy_67 rfl hw
def wY_X0_setPolicy (N : Nat → Nat) (p1 : Int32) (p2 : Int32) (p3 : Int32) (p4 : Int32) (M : f_S3) (O : Nat × Nat) (Q : Int32 → f_S3 → Nat × Nat → Prop) : Prop := wY_X0_isInstance N p1 M O (fun r1 M2 O2 => ((r1 = 0 → (Q 0 M2 O2)) ∧ (¬ r1 = 0 → (wY_X3_exists N p2 M2 O2 (fun r3 M4 O4 => ((r3 = 0 → (Q 0 M4 O4)) ∧ (¬ r3 = 0 → ((p3 < (-1) → (Q 0 M4 O4)) ∧ (¬ p3 < (-1) → ((p3 ≤ 5 → ((¬ p3 = 2 → (wY_X0_setPolicy_41 N Q p1 p2 p3 p4 M4 O4)) ∧ (p3 = 2 → (wY_X3_exists N p4 M4 O4 (fun r7 M8 O8 => ((¬ r7 = 0 → (wY_X0_setPolicy_41 N Q p1 p2 p3 p4 M8 O8)) ∧ (r7 = 0 → (Q 0 M8 O8)))))))) ∧ (¬ p3 ≤ 5 → (Q 0 M4 O4))))))))))))
set_option maxRecDepth 20000 in
theorem soY_X0_setPolicy {l : Launch} {g : b_S} {c : Nat} (hg : g.1 = tb_T c) (p1 : Int32) (p2 : Int32) (p3 : Int32) (p4 : Int32) (M : f_S3) (O : Nat × Nat) (Q : Int32 → f_S3 → Nat × Nat → Prop) (hw : wY_X0_setPolicy (b_N g) p1 p2 p3 p4 M O Q) : f_MetI l g yX0_setPolicy cX0_setPolicy 5 .boolean (1) [.ref (b_o g 1), .int p1, .int p2, .int p3, .int p4] M O Q := by
  refine f_MetI.of (C := RX0) (by decide) rfl (Nat.le_of_ble_eq_true rfl) (fun x Z hret => ?_)
  show f_G x g 5 O M O 0 [(0, .ref (b_o g 1)), (1, .int p1), (2, .int p2), (3, .int p3), (4, .int p4)] []
  refine ac_iload_n Z.1 1 dX0_setPolicy_0 rfl ?_
  refine f_calliS (As := [.int p1]) (st := []) Z kX0_isInstance lkX0_41 (by omega) (soY_X0_isInstance hg  _ _ _ _ hw) rfl rfl (Nat.le_of_ble_eq_true rfl) dX0_setPolicy_1 (fun r1 M2 O2 hw => ?_)
  obtain ⟨hwt, hwf⟩ := hw
  refine ac_if_eq (tgt := 24) Z.1 dX0_setPolicy_4 (by decide) (fun hc => ?_) (fun hc => ?_)
  · have hw := hwt hc
    refine ac_iconst (v := 0) Z.1 dX0_setPolicy_24 (by decide) ?_
    exact hret _ _ _ _ _ dX0_setPolicy_25 rfl hw
  · have hw := hwf hc
    refine ac_iload_n Z.1 2 dX0_setPolicy_7 rfl ?_
    refine f_calliS (As := [.int p2]) (st := []) Z kX3_exists lkX0_45 (by omega) (soY_X3_exists hg  _ _ _ _ hw) rfl rfl (Nat.le_of_ble_eq_true rfl) dX0_setPolicy_8 (fun r3 M4 O4 hw => ?_)
    obtain ⟨hwt, hwf⟩ := hw
    refine ac_if_eq (tgt := 24) Z.1 dX0_setPolicy_11 (by decide) (fun hc => ?_) (fun hc => ?_)
    · have hw := hwt hc
      refine ac_iconst (v := 0) Z.1 dX0_setPolicy_24 (by decide) ?_
      exact hret _ _ _ _ _ dX0_setPolicy_25 rfl hw
    · have hw := hwf hc
      refine ac_iload_n Z.1 3 dX0_setPolicy_14 rfl ?_
      refine ac_iconst (v := (-1)) Z.1 dX0_setPolicy_15 (by decide) ?_
      obtain ⟨hwt, hwf⟩ := hw
      refine ac_icmp_lt (tgt := 24) Z.1 dX0_setPolicy_16 (by decide) (fun hc => ?_) (fun hc => ?_)
      · have hw := hwt hc
        refine ac_iconst (v := 0) Z.1 dX0_setPolicy_24 (by decide) ?_
        exact hret _ _ _ _ _ dX0_setPolicy_25 rfl hw
      · have hw := hwf hc
        refine ac_iload_n Z.1 3 dX0_setPolicy_19 rfl ?_
        refine ac_iconst (v := 5) Z.1 dX0_setPolicy_20 (by decide) ?_
        obtain ⟨hwt, hwf⟩ := hw
        refine ac_icmp_le (tgt := 26) Z.1 dX0_setPolicy_21 (by decide) (fun hc => ?_) (fun hc => ?_)
        · have hw := hwt hc
          refine ac_iload_n Z.1 3 dX0_setPolicy_26 rfl ?_
          refine ac_iconst (v := 2) Z.1 dX0_setPolicy_27 (by decide) ?_
          obtain ⟨hwt, hwf⟩ := hw
          refine ac_icmp_ne (tgt := 41) Z.1 dX0_setPolicy_28 (by decide) (fun hc => ?_) (fun hc => ?_)
          · have hw := hwt hc
            exact sY_X0_setPolicy_41 hg Z hret _ _ _ _ _ _ hw
          · have hw := hwf hc
            refine ac_iload Z.1 4 dX0_setPolicy_31 rfl ?_
            refine f_calliS (As := [.int p4]) (st := []) Z kX3_exists lkX0_45 (by omega) (soY_X3_exists hg  _ _ _ _ hw) rfl rfl (Nat.le_of_ble_eq_true rfl) dX0_setPolicy_33 (fun r7 M8 O8 hw => ?_)
            obtain ⟨hwt, hwf⟩ := hw
            refine ac_if_ne (tgt := 41) Z.1 dX0_setPolicy_36 (by decide) (fun hc => ?_) (fun hc => ?_)
            · have hw := hwt hc
              exact sY_X0_setPolicy_41 hg Z hret _ _ _ _ _ _ hw
            · have hw := hwf hc
              refine ac_iconst (v := 0) Z.1 dX0_setPolicy_39 (by decide) ?_
              exact hret _ _ _ _ _ dX0_setPolicy_40 rfl hw
        · have hw := hwf hc
          refine ac_iconst (v := 0) Z.1 dX0_setPolicy_24 (by decide) ?_
          exact hret _ _ _ _ _ dX0_setPolicy_25 rfl hw
def wY_X0_enterComplaint (N : Nat → Nat) (p1 : Int32) (p2 : Int32) (p3 : Int32) (M : f_S3) (O : Nat × Nat) (Q : Int32 → f_S3 → Nat × Nat → Prop) : Prop := wY_X0_isInstance N p1 M O (fun r1 M2 O2 => ((r1 = 0 → (Q (-1) M2 O2)) ∧ (¬ r1 = 0 → (wY_X3_exists N p2 M2 O2 (fun r3 M4 O4 => ((¬ r3 = 0 → (wY_X2_make N p2 p3 0 (-1) M4 O4 (fun r5 M6 O6 => ((¬ r5 = 0 → (vp_in p1 (N 13) ∧ (Q r5 (ff M6 13 p1 r5) O6))) ∧ (r5 = 0 → (Q (-1) M6 O6)))))) ∧ (r3 = 0 → (Q (-1) M4 O4))))))))
set_option maxRecDepth 20000 in
theorem soY_X0_enterComplaint {l : Launch} {g : b_S} {c : Nat} (hg : g.1 = tb_T c) (p1 : Int32) (p2 : Int32) (p3 : Int32) (M : f_S3) (O : Nat × Nat) (Q : Int32 → f_S3 → Nat × Nat → Prop) (hw : wY_X0_enterComplaint (b_N g) p1 p2 p3 M O Q) : f_MetI l g yX0_enterComplaint cX0_enterComplaint 5 .int (9) [.ref (b_o g 1), .int p1, .int p2, .int p3] M O Q := by
  refine f_MetI.of (C := RX0) (by decide) rfl (Nat.le_of_ble_eq_true rfl) (fun x Z hret => ?_)
  show f_G x g 5 O M O 0 [(0, .ref (b_o g 1)), (1, .int p1), (2, .int p2), (3, .int p3)] []
  refine ac_iload_n Z.1 1 dX0_enterComplaint_0 rfl ?_
  refine f_calliS (As := [.int p1]) (st := []) Z kX0_isInstance lkX0_41 (by omega) (soY_X0_isInstance hg  _ _ _ _ hw) rfl rfl (Nat.le_of_ble_eq_true rfl) dX0_enterComplaint_1 (fun r1 M2 O2 hw => ?_)
  obtain ⟨hwt, hwf⟩ := hw
  refine ac_if_eq (tgt := 14) Z.1 dX0_enterComplaint_4 (by decide) (fun hc => ?_) (fun hc => ?_)
  · have hw := hwt hc
    refine ac_iconst (v := (-1)) Z.1 dX0_enterComplaint_14 (by decide) ?_
    exact hret _ _ _ _ _ dX0_enterComplaint_15 rfl hw
  · have hw := hwf hc
    refine ac_iload_n Z.1 2 dX0_enterComplaint_7 rfl ?_
    refine f_calliS (As := [.int p2]) (st := []) Z kX3_exists lkX0_45 (by omega) (soY_X3_exists hg  _ _ _ _ hw) rfl rfl (Nat.le_of_ble_eq_true rfl) dX0_enterComplaint_8 (fun r3 M4 O4 hw => ?_)
    obtain ⟨hwt, hwf⟩ := hw
    refine ac_if_ne (tgt := 16) Z.1 dX0_enterComplaint_11 (by decide) (fun hc => ?_) (fun hc => ?_)
    · have hw := hwt hc
      refine ac_aload_n Z.1 0 dX0_enterComplaint_16 rfl ?_
      refine f_getr Z b_X0 1 (oT_1 hg) 0 (by decide) (by decide) (fT_10 hg) fX0_23 rfl (h2 := (b_o g 2)) rfl dX0_enterComplaint_17 ?_
      refine ac_iload_n Z.1 2 dX0_enterComplaint_20 rfl ?_
      refine ac_iload_n Z.1 3 dX0_enterComplaint_21 rfl ?_
      refine ac_iconst (v := 0) Z.1 dX0_enterComplaint_22 (by decide) ?_
      refine ac_iconst (v := (-1)) Z.1 dX0_enterComplaint_23 (by decide) ?_
      refine f_calli (As := [.int p2, .int p3, .int 0, .int (-1)]) (st := []) Z b_X2.1 2 (oT_2 hg) rfl kX2_make lkX0_48 (by omega) (soY_X2_make hg  _ _ _ _ _ _ _ hw) rfl rfl (Nat.le_of_ble_eq_true rfl) dX0_enterComplaint_24 (fun r5 M6 O6 hw => ?_)
      refine ac_istore (lv' := [(4, .int r5), (0, .ref (b_o g 1)), (1, .int p1), (2, .int p2), (3, .int p3)]) Z.1 dX0_enterComplaint_27 (by decide) rfl ?_
      refine ac_iload Z.1 0 dX0_enterComplaint_29 rfl ?_
      obtain ⟨hwt, hwf⟩ := hw
      refine ac_if_ne (tgt := 36) Z.1 dX0_enterComplaint_31 (by decide) (fun hc => ?_) (fun hc => ?_)
      · have hw := hwt hc
        refine ac_aload_n Z.1 1 dX0_enterComplaint_36 rfl ?_
        refine f_getr Z b_X0 1 (oT_1 hg) 5 (by decide) (by decide) (fT_15 hg) fX0_20 rfl (h2 := (b_o g 13)) rfl dX0_enterComplaint_37 ?_
        refine ac_iload_n Z.1 2 dX0_enterComplaint_40 rfl ?_
        refine ac_iload Z.1 0 dX0_enterComplaint_41 rfl ?_
        obtain ⟨hb7, hw⟩ := hw
        refine f_ast Z 3 (aT_13 hg) rfl hb7 dX0_enterComplaint_43 ?_
        refine ac_iload Z.1 0 dX0_enterComplaint_44 rfl ?_
        exact hret _ _ _ _ _ dX0_enterComplaint_46 rfl hw
      · have hw := hwf hc
        refine ac_iconst (v := (-1)) Z.1 dX0_enterComplaint_34 (by decide) ?_
        exact hret _ _ _ _ _ dX0_enterComplaint_35 rfl hw
    · have hw := hwf hc
      refine ac_iconst (v := (-1)) Z.1 dX0_enterComplaint_14 (by decide) ?_
      exact hret _ _ _ _ _ dX0_enterComplaint_15 rfl hw
def wY_X0_complaintOf (N : Nat → Nat) (p1 : Int32) (M : f_S3) (O : Nat × Nat) (Q : Int32 → f_S3 → Nat × Nat → Prop) : Prop := wY_X0_isInstance N p1 M O (fun r1 M2 O2 => ((r1 = 0 → (Q 0 M2 O2)) ∧ (¬ r1 = 0 → (vp_in p1 (N 13) ∧ (Q (M2.2.1 13 p1.toNatClampNeg) M2 O2)))))
set_option maxRecDepth 20000 in
theorem soY_X0_complaintOf {l : Launch} {g : b_S} {c : Nat} (hg : g.1 = tb_T c) (p1 : Int32) (M : f_S3) (O : Nat × Nat) (Q : Int32 → f_S3 → Nat × Nat → Prop) (hw : wY_X0_complaintOf (b_N g) p1 M O Q) : f_MetI l g yX0_complaintOf cX0_complaintOf 2 .int (1) [.ref (b_o g 1), .int p1] M O Q := by
  refine f_MetI.of (C := RX0) (by decide) rfl (Nat.le_of_ble_eq_true rfl) (fun x Z hret => ?_)
  show f_G x g 2 O M O 0 [(0, .ref (b_o g 1)), (1, .int p1)] []
  refine ac_iload_n Z.1 1 dX0_complaintOf_0 rfl ?_
  refine f_calliS (As := [.int p1]) (st := []) Z kX0_isInstance lkX0_41 (by omega) (soY_X0_isInstance hg  _ _ _ _ hw) rfl rfl (Nat.le_of_ble_eq_true rfl) dX0_complaintOf_1 (fun r1 M2 O2 hw => ?_)
  obtain ⟨hwt, hwf⟩ := hw
  refine ac_if_eq (tgt := 16) Z.1 dX0_complaintOf_4 (by decide) (fun hc => ?_) (fun hc => ?_)
  · have hw := hwt hc
    refine ac_iconst (v := 0) Z.1 dX0_complaintOf_16 (by decide) ?_
    exact hret _ _ _ _ _ dX0_complaintOf_17 rfl hw
  · have hw := hwf hc
    refine ac_aload_n Z.1 0 dX0_complaintOf_7 rfl ?_
    refine f_getr Z b_X0 1 (oT_1 hg) 5 (by decide) (by decide) (fT_15 hg) fX0_20 rfl (h2 := (b_o g 13)) rfl dX0_complaintOf_8 ?_
    refine ac_iload_n Z.1 1 dX0_complaintOf_11 rfl ?_
    obtain ⟨hb3, hw⟩ := hw
    refine f_ald Z 3 (aT_13 hg) rfl hb3 (v := (M2.2.1 13 p1.toNatClampNeg)) rfl dX0_complaintOf_12 ?_
    refine ac_goto (tgt := 17) Z.1 dX0_complaintOf_13 (by decide) ?_
    exact hret _ _ _ _ _ dX0_complaintOf_17 rfl hw
def wY_X3_oneOf (N : Nat → Nat) (p0 : Int32) (M : f_S3) (O : Nat × Nat) (Q : Int32 → f_S3 → Nat × Nat → Prop) : Prop := (p0 < 0 → (Q (-1) M O)) ∧ (¬ p0 < 0 → ((7 ≤ p0 → (Q (-1) M O)) ∧ (¬ 7 ≤ p0 → (vp_in p0 7 ∧ (Q (k_one (p0).toNatClampNeg) M O)))))
set_option maxRecDepth 20000 in
theorem soY_X3_oneOf {l : Launch} {g : b_S} {c : Nat} (hg : g.1 = tb_T c) (p0 : Int32) (M : f_S3) (O : Nat × Nat) (Q : Int32 → f_S3 → Nat × Nat → Prop) (hw : wY_X3_oneOf (b_N g) p0 M O Q) : f_MetI l g yX3_oneOf cX3_oneOf 1 .int (0) [.int p0] M O Q := by
  refine f_MetI.of (C := RX3) (by decide) rfl (Nat.le_of_ble_eq_true rfl) (fun x Z hret => ?_)
  show f_G x g 1 O M O 0 [(0, .int p0)] []
  refine ac_iload_n Z.1 0 dX3_oneOf_0 rfl ?_
  obtain ⟨hwt, hwf⟩ := hw
  refine ac_if_lt (tgt := 20) Z.1 dX3_oneOf_1 (by decide) (fun hc => ?_) (fun hc => ?_)
  · have hw := hwt hc
    refine ac_iconst (v := (-1)) Z.1 dX3_oneOf_20 (by decide) ?_
    exact hret _ _ _ _ _ dX3_oneOf_21 rfl hw
  · have hw := hwf hc
    refine ac_iload_n Z.1 0 dX3_oneOf_4 rfl ?_
    refine f_kind Z fX3_11 dX3_oneOf_5 (fun ka1 kal kln => ?_)
    refine kln _ _ dX3_oneOf_8 ?_
    obtain ⟨hwt, hwf⟩ := hw
    refine ac_icmp_ge (tgt := 20) Z.1 dX3_oneOf_9 (by decide) (fun hc => ?_) (fun hc => ?_)
    · have hw := hwt hc
      refine ac_iconst (v := (-1)) Z.1 dX3_oneOf_20 (by decide) ?_
      exact hret _ _ _ _ _ dX3_oneOf_21 rfl hw
    · have hw := hwf hc
      refine f_kind Z fX3_11 dX3_oneOf_12 (fun ka2 kal kln => ?_)
      refine ac_iload_n Z.1 0 dX3_oneOf_15 rfl ?_
      obtain ⟨hb3, hw⟩ := hw
      refine kal _ _ _ hb3 dX3_oneOf_16 ?_
      refine ac_goto (tgt := 21) Z.1 dX3_oneOf_17 (by decide) ?_
      exact hret _ _ _ _ _ dX3_oneOf_21 rfl hw
def wY_X0_policyIndex_54 (N : Nat → Nat) (K5 : (Int32 → Int32 → Int32 → f_S3 → (Nat × Nat) → Prop)) (Q : Int32 → f_S3 → Nat × Nat → Prop) (a1 : Int32) (a3 : Int32) (a4 : Int32) (M : f_S3) (O : Nat × Nat) : Prop := wY_X3_oneOf N a3 M O (fun r1 M2 O2 => (K5 a1 r1 (a4 + 1) M2 O2))
set_option maxRecDepth 20000 in
theorem sY_X0_policyIndex_54 {x : ac_X} {g : b_S} {c : Nat} (hg : g.1 = tb_T c) {l : Launch} {O0 : Nat × Nat} {K5 : (Int32 → Int32 → Int32 → f_S3 → (Nat × Nat) → Prop)} {Q : Int32 → f_S3 → Nat × Nat → Prop} (Z : b_Cx x g l RX0 cX0_policyIndex 6 (1) O0) (hret : f_RI x g 6 cX0_policyIndex .int O0 Q) (hK5 : ∀ (a1 : Int32) (a3 : Int32) (a4 : Int32) (M : f_S3) (O : Nat × Nat), K5 a1 a3 a4 M O → f_G x g 6 O0 M O 5 [(0, .ref (b_o g 1)), (1, .int a1), (3, .int a3), (4, .int a4)] []) (a1 : Int32) (a3 : Int32) (a4 : Int32) (M : f_S3) (O : Nat × Nat) (hw : wY_X0_policyIndex_54 (b_N g) K5 Q a1 a3 a4 M O) : f_G x g 6 O0 M O 54 [(0, .ref (b_o g 1)), (1, .int a1), (3, .int a3), (4, .int a4)] [] := by
  refine ac_iload_n Z.1 2 dX0_policyIndex_54 rfl ?_
  refine f_calliS (As := [.int a3]) (st := []) Z kX3_oneOf lkX0_54 (by omega) (soY_X3_oneOf hg  _ _ _ _ hw) rfl rfl (Nat.le_of_ble_eq_true rfl) dX0_policyIndex_55 (fun r1 M2 O2 hw => ?_)
  refine ac_istore_n (lv' := [(3, .int r1), (0, .ref (b_o g 1)), (1, .int a1), (4, .int a4)]) Z.1 dX0_policyIndex_58 (by decide) rfl ?_
  refine ac_iinc (w := (a4 + 1)) (lv' := [(4, .int (a4 + 1)), (3, .int r1), (0, .ref (b_o g 1)), (1, .int a1)]) Z.1 3 dX0_policyIndex_59 rfl rfl (by decide) rfl ?_
  refine ac_goto (tgt := 5) Z.1 dX0_policyIndex_62 (by decide) ?_
  refine ac_lv [2, 3, 1, 0] rfl ?_
  exact hK5 _ _ _ _ _ hw
def wY_X0_policyIndex_5 (N : Nat → Nat) (Q : Int32 → f_S3 → Nat × Nat → Prop) : Nat → Int32 → Int32 → Int32 → f_S3 → Nat × Nat → Prop
  | 0 => fun _ _ _ _ _ => False
  | n + 1 => fun a1 a3 a4 M O => ((7 ≤ a4 → (Q (-1) M O)) ∧ (¬ 7 ≤ a4 → ((a3 = (-1) → (Q (-1) M O)) ∧ (¬ a3 = (-1) → ((((a1 * 7) + a3) < 0 → (wY_X0_policyIndex_54 N (wY_X0_policyIndex_5 N Q n) Q a1 a3 a4 M O)) ∧ (¬ ((a1 * 7) + a3) < 0 → (((nI (N 11)) ≤ ((a1 * 7) + a3) → (wY_X0_policyIndex_54 N (wY_X0_policyIndex_5 N Q n) Q a1 a3 a4 M O)) ∧ (¬ (nI (N 11)) ≤ ((a1 * 7) + a3) → (vp_in ((a1 * 7) + a3) (N 11) ∧ (((M.2.1 11 ((a1 * 7) + a3).toNatClampNeg) = (-1) → (wY_X0_policyIndex_54 N (wY_X0_policyIndex_5 N Q n) Q a1 a3 a4 M O)) ∧ (¬ (M.2.1 11 ((a1 * 7) + a3).toNatClampNeg) = (-1) → (Q ((a1 * 7) + a3) M O))))))))))))
set_option maxRecDepth 20000 in
theorem sY_X0_policyIndex_5 {x : ac_X} {g : b_S} {c : Nat} (hg : g.1 = tb_T c) {l : Launch} {O0 : Nat × Nat} {Q : Int32 → f_S3 → Nat × Nat → Prop} (Z : b_Cx x g l RX0 cX0_policyIndex 6 (1) O0) (hret : f_RI x g 6 cX0_policyIndex .int O0 Q) : ∀ (n : Nat) (a1 : Int32) (a3 : Int32) (a4 : Int32) (M : f_S3) (O : Nat × Nat), wY_X0_policyIndex_5 (b_N g) Q n a1 a3 a4 M O → f_G x g 6 O0 M O 5 [(0, .ref (b_o g 1)), (1, .int a1), (3, .int a3), (4, .int a4)] [] := by
  intro n
  induction n with
  | zero => intro _ _ _ _ _ hw; exact hw.elim
  | succ n ih =>
    intro a1 a3 a4 M O hw
    dsimp only [wY_X0_policyIndex_5] at hw
    refine ac_iload Z.1 3 dX0_policyIndex_5 rfl ?_
    refine ac_bipush (v := 7) Z.1 dX0_policyIndex_7 (by decide) ?_
    obtain ⟨hwt, hwf⟩ := hw
    refine ac_icmp_ge (tgt := 65) Z.1 dX0_policyIndex_9 (by decide) (fun hc => ?_) (fun hc => ?_)
    · have hw := hwt hc
      refine ac_iconst (v := (-1)) Z.1 dX0_policyIndex_65 (by decide) ?_
      exact hret _ _ _ _ _ dX0_policyIndex_66 rfl hw
    · have hw := hwf hc
      refine ac_iload_n Z.1 2 dX0_policyIndex_12 rfl ?_
      refine ac_iconst (v := (-1)) Z.1 dX0_policyIndex_13 (by decide) ?_
      obtain ⟨hwt, hwf⟩ := hw
      refine ac_icmp_eq (tgt := 65) Z.1 dX0_policyIndex_14 (by decide) (fun hc => ?_) (fun hc => ?_)
      · have hw := hwt hc
        refine ac_iconst (v := (-1)) Z.1 dX0_policyIndex_65 (by decide) ?_
        exact hret _ _ _ _ _ dX0_policyIndex_66 rfl hw
      · have hw := hwf hc
        refine ac_iload_n Z.1 1 dX0_policyIndex_17 rfl ?_
        refine ac_bipush (v := 7) Z.1 dX0_policyIndex_18 (by decide) ?_
        refine ac_imul Z.1 dX0_policyIndex_20 ?_
        refine ac_iload_n Z.1 2 dX0_policyIndex_21 rfl ?_
        refine ac_iadd Z.1 dX0_policyIndex_22 ?_
        refine ac_istore (lv' := [(5, .int ((a1 * 7) + a3)), (0, .ref (b_o g 1)), (1, .int a1), (3, .int a3), (4, .int a4)]) Z.1 dX0_policyIndex_23 (by decide) rfl ?_
        refine ac_iload Z.1 0 dX0_policyIndex_25 rfl ?_
        obtain ⟨hwt, hwf⟩ := hw
        refine ac_if_lt (tgt := 54) Z.1 dX0_policyIndex_27 (by decide) (fun hc => ?_) (fun hc => ?_)
        · have hw := hwt hc
          refine ac_lv [1, 2, 3, 4] rfl ?_
          exact sY_X0_policyIndex_54 hg Z hret ih _ _ _ _ _ hw
        · have hw := hwf hc
          refine ac_iload Z.1 0 dX0_policyIndex_30 rfl ?_
          refine ac_aload_n Z.1 1 dX0_policyIndex_32 rfl ?_
          refine f_getr Z b_X0 1 (oT_1 hg) 3 (by decide) (by decide) (fT_13 hg) fX0_13 rfl (h2 := (b_o g 11)) rfl dX0_policyIndex_33 ?_
          refine f_alen Z 1 (aT_11 hg) rfl (v := (nI (b_N g 11))) rfl dX0_policyIndex_36 (by decide) ?_
          obtain ⟨hwt, hwf⟩ := hw
          refine ac_icmp_ge (tgt := 54) Z.1 dX0_policyIndex_37 (by decide) (fun hc => ?_) (fun hc => ?_)
          · have hw := hwt hc
            refine ac_lv [1, 2, 3, 4] rfl ?_
            exact sY_X0_policyIndex_54 hg Z hret ih _ _ _ _ _ hw
          · have hw := hwf hc
            refine ac_aload_n Z.1 1 dX0_policyIndex_40 rfl ?_
            refine f_getr Z b_X0 1 (oT_1 hg) 3 (by decide) (by decide) (fT_13 hg) fX0_13 rfl (h2 := (b_o g 11)) rfl dX0_policyIndex_41 ?_
            refine ac_iload Z.1 0 dX0_policyIndex_44 rfl ?_
            obtain ⟨hb3, hw⟩ := hw
            refine f_ald Z 1 (aT_11 hg) rfl hb3 (v := (M.2.1 11 ((a1 * 7) + a3).toNatClampNeg)) rfl dX0_policyIndex_46 ?_
            refine ac_iconst (v := (-1)) Z.1 dX0_policyIndex_47 (by decide) ?_
            obtain ⟨hwt, hwf⟩ := hw
            refine ac_icmp_eq (tgt := 54) Z.1 dX0_policyIndex_48 (by decide) (fun hc => ?_) (fun hc => ?_)
            · have hw := hwt hc
              refine ac_lv [1, 2, 3, 4] rfl ?_
              exact sY_X0_policyIndex_54 hg Z hret ih _ _ _ _ _ hw
            · have hw := hwf hc
              refine ac_iload Z.1 0 dX0_policyIndex_51 rfl ?_
              exact hret _ _ _ _ _ dX0_policyIndex_53 rfl hw
def wY_X0_policyIndex (N : Nat → Nat) (p1 : Int32) (p2 : Int32) (M : f_S3) (O : Nat × Nat) (Q : Int32 → f_S3 → Nat × Nat → Prop) : Prop := ∃ e5, wY_X0_policyIndex_5 N Q e5 p1 p2 0 M O
set_option maxRecDepth 20000 in
theorem soY_X0_policyIndex {l : Launch} {g : b_S} {c : Nat} (hg : g.1 = tb_T c) (p1 : Int32) (p2 : Int32) (M : f_S3) (O : Nat × Nat) (Q : Int32 → f_S3 → Nat × Nat → Prop) (hw : wY_X0_policyIndex (b_N g) p1 p2 M O Q) : f_MetI l g yX0_policyIndex cX0_policyIndex 6 .int (1) [.ref (b_o g 1), .int p1, .int p2] M O Q := by
  refine f_MetI.of (C := RX0) (by decide) rfl (Nat.le_of_ble_eq_true rfl) (fun x Z hret => ?_)
  show f_G x g 6 O M O 0 [(0, .ref (b_o g 1)), (1, .int p1), (2, .int p2)] []
  refine ac_iload_n Z.1 2 dX0_policyIndex_0 rfl ?_
  refine ac_istore_n (lv' := [(3, .int p2), (0, .ref (b_o g 1)), (1, .int p1), (2, .int p2)]) Z.1 dX0_policyIndex_1 (by decide) rfl ?_
  refine ac_iconst (v := 0) Z.1 dX0_policyIndex_2 (by decide) ?_
  refine ac_istore (lv' := [(4, .int 0), (3, .int p2), (0, .ref (b_o g 1)), (1, .int p1), (2, .int p2)]) Z.1 dX0_policyIndex_3 (by decide) rfl ?_
  obtain ⟨n, hw⟩ := hw
  refine ac_lv [2, 3, 1, 0] rfl ?_
  exact sY_X0_policyIndex_5 hg Z hret n _ _ _ _ _ hw
def wY_X8_setNumber (N : Nat → Nat) (p1 : Int32) (p2 : Int32) (M : f_S3) (O : Nat × Nat) (Q : f_S3 → Nat × Nat → Prop) : Prop := (((((M.1 50) - 1) * 12) + p1) < 0 → (Q M O)) ∧ (¬ ((((M.1 50) - 1) * 12) + p1) < 0 → (((nI (N 15)) ≤ ((((M.1 50) - 1) * 12) + p1) → (Q M O)) ∧ (¬ (nI (N 15)) ≤ ((((M.1 50) - 1) * 12) + p1) → (vp_in ((((M.1 50) - 1) * 12) + p1) (N 15) ∧ (Q (ff M 15 ((((M.1 50) - 1) * 12) + p1) p2) O)))))
set_option maxRecDepth 20000 in
theorem soY_X8_setNumber {l : Launch} {g : b_S} (hg : g.1 = tb_T 5) (p1 : Int32) (p2 : Int32) (M : f_S3) (O : Nat × Nat) (Q : f_S3 → Nat × Nat → Prop) (hw : wY_X8_setNumber (b_N g) p1 p2 M O Q) : f_MetV l g yX8_setNumber cX8_setNumber 4 (0) [.ref (b_o g 4), .int p1, .int p2] M O Q := by
  refine f_MetV.of (C := RX8) (by decide) rfl (Nat.le_of_ble_eq_true rfl) (fun x Z hret => ?_)
  show f_G x g 4 O M O 0 [(0, .ref (b_o g 4)), (1, .int p1), (2, .int p2)] []
  refine ac_aload_n Z.1 0 dX8_setNumber_0 rfl ?_
  refine f_geti Z b_X8 4 (oT_4 hg) 10 (by decide) (by decide) (fT_50 hg) fX8_91 rfl (v := (M.1 50)) rfl dX8_setNumber_1 ?_
  refine ac_iconst (v := 1) Z.1 dX8_setNumber_4 (by decide) ?_
  refine ac_isub Z.1 dX8_setNumber_5 ?_
  refine ac_bipush (v := 12) Z.1 dX8_setNumber_6 (by decide) ?_
  refine ac_imul Z.1 dX8_setNumber_8 ?_
  refine ac_iload_n Z.1 1 dX8_setNumber_9 rfl ?_
  refine ac_iadd Z.1 dX8_setNumber_10 ?_
  refine ac_istore_n (lv' := [(3, .int ((((M.1 50) - 1) * 12) + p1)), (0, .ref (b_o g 4)), (1, .int p1), (2, .int p2)]) Z.1 dX8_setNumber_11 (by decide) rfl ?_
  refine ac_iload_n Z.1 0 dX8_setNumber_12 rfl ?_
  obtain ⟨hwt, hwf⟩ := hw
  refine ac_if_lt (tgt := 32) Z.1 dX8_setNumber_13 (by decide) (fun hc => ?_) (fun hc => ?_)
  · have hw := hwt hc
    exact hret _ _ _ _ dX8_setNumber_32 hw
  · have hw := hwf hc
    refine ac_iload_n Z.1 0 dX8_setNumber_16 rfl ?_
    refine ac_aload_n Z.1 1 dX8_setNumber_17 rfl ?_
    refine f_getr Z b_X8 4 (oT_4 hg) 2 (by decide) (by decide) (fT_42 hg) fX8_11 rfl (h2 := (b_o g 15)) rfl dX8_setNumber_18 ?_
    refine f_alen Z 6 (aT_15 hg) rfl (v := (nI (b_N g 15))) rfl dX8_setNumber_21 (by decide) ?_
    obtain ⟨hwt, hwf⟩ := hw
    refine ac_icmp_ge (tgt := 32) Z.1 dX8_setNumber_22 (by decide) (fun hc => ?_) (fun hc => ?_)
    · have hw := hwt hc
      exact hret _ _ _ _ dX8_setNumber_32 hw
    · have hw := hwf hc
      refine ac_aload_n Z.1 1 dX8_setNumber_25 rfl ?_
      refine f_getr Z b_X8 4 (oT_4 hg) 2 (by decide) (by decide) (fT_42 hg) fX8_11 rfl (h2 := (b_o g 15)) rfl dX8_setNumber_26 ?_
      refine ac_iload_n Z.1 0 dX8_setNumber_29 rfl ?_
      refine ac_iload_n Z.1 3 dX8_setNumber_30 rfl ?_
      obtain ⟨hb1, hw⟩ := hw
      refine f_ast Z 6 (aT_15 hg) rfl hb1 dX8_setNumber_31 ?_
      exact hret _ _ _ _ dX8_setNumber_32 hw
def wY_X8_setObject (N : Nat → Nat) (p1 : Int32) (p2 : Int32) (M : f_S3) (O : Nat × Nat) (Q : f_S3 → Nat × Nat → Prop) : Prop := (p1 = (-1) → (Q M O)) ∧ (¬ p1 = (-1) → ((((((M.1 50) - 1) * 8) + p1) < 0 → (Q M O)) ∧ (¬ ((((M.1 50) - 1) * 8) + p1) < 0 → (((nI (N 16)) ≤ ((((M.1 50) - 1) * 8) + p1) → (Q M O)) ∧ (¬ (nI (N 16)) ≤ ((((M.1 50) - 1) * 8) + p1) → (vp_in ((((M.1 50) - 1) * 8) + p1) (N 16) ∧ (Q (ff M 16 ((((M.1 50) - 1) * 8) + p1) p2) O)))))))
set_option maxRecDepth 20000 in
theorem soY_X8_setObject {l : Launch} {g : b_S} (hg : g.1 = tb_T 5) (p1 : Int32) (p2 : Int32) (M : f_S3) (O : Nat × Nat) (Q : f_S3 → Nat × Nat → Prop) (hw : wY_X8_setObject (b_N g) p1 p2 M O Q) : f_MetV l g yX8_setObject cX8_setObject 4 (0) [.ref (b_o g 4), .int p1, .int p2] M O Q := by
  refine f_MetV.of (C := RX8) (by decide) rfl (Nat.le_of_ble_eq_true rfl) (fun x Z hret => ?_)
  show f_G x g 4 O M O 0 [(0, .ref (b_o g 4)), (1, .int p1), (2, .int p2)] []
  refine ac_aload_n Z.1 0 dX8_setObject_0 rfl ?_
  refine f_geti Z b_X8 4 (oT_4 hg) 10 (by decide) (by decide) (fT_50 hg) fX8_91 rfl (v := (M.1 50)) rfl dX8_setObject_1 ?_
  refine ac_iconst (v := 1) Z.1 dX8_setObject_4 (by decide) ?_
  refine ac_isub Z.1 dX8_setObject_5 ?_
  refine ac_bipush (v := 8) Z.1 dX8_setObject_6 (by decide) ?_
  refine ac_imul Z.1 dX8_setObject_8 ?_
  refine ac_iload_n Z.1 1 dX8_setObject_9 rfl ?_
  refine ac_iadd Z.1 dX8_setObject_10 ?_
  refine ac_istore_n (lv' := [(3, .int ((((M.1 50) - 1) * 8) + p1)), (0, .ref (b_o g 4)), (1, .int p1), (2, .int p2)]) Z.1 dX8_setObject_11 (by decide) rfl ?_
  refine ac_iload_n Z.1 2 dX8_setObject_12 rfl ?_
  refine ac_iconst (v := (-1)) Z.1 dX8_setObject_13 (by decide) ?_
  obtain ⟨hwt, hwf⟩ := hw
  refine ac_icmp_eq (tgt := 37) Z.1 dX8_setObject_14 (by decide) (fun hc => ?_) (fun hc => ?_)
  · have hw := hwt hc
    exact hret _ _ _ _ dX8_setObject_37 hw
  · have hw := hwf hc
    refine ac_iload_n Z.1 0 dX8_setObject_17 rfl ?_
    obtain ⟨hwt, hwf⟩ := hw
    refine ac_if_lt (tgt := 37) Z.1 dX8_setObject_18 (by decide) (fun hc => ?_) (fun hc => ?_)
    · have hw := hwt hc
      exact hret _ _ _ _ dX8_setObject_37 hw
    · have hw := hwf hc
      refine ac_iload_n Z.1 0 dX8_setObject_21 rfl ?_
      refine ac_aload_n Z.1 1 dX8_setObject_22 rfl ?_
      refine f_getr Z b_X8 4 (oT_4 hg) 3 (by decide) (by decide) (fT_43 hg) fX8_15 rfl (h2 := (b_o g 16)) rfl dX8_setObject_23 ?_
      refine f_alen Z 7 (aT_16 hg) rfl (v := (nI (b_N g 16))) rfl dX8_setObject_26 (by decide) ?_
      obtain ⟨hwt, hwf⟩ := hw
      refine ac_icmp_ge (tgt := 37) Z.1 dX8_setObject_27 (by decide) (fun hc => ?_) (fun hc => ?_)
      · have hw := hwt hc
        exact hret _ _ _ _ dX8_setObject_37 hw
      · have hw := hwf hc
        refine ac_aload_n Z.1 1 dX8_setObject_30 rfl ?_
        refine f_getr Z b_X8 4 (oT_4 hg) 3 (by decide) (by decide) (fT_43 hg) fX8_15 rfl (h2 := (b_o g 16)) rfl dX8_setObject_31 ?_
        refine ac_iload_n Z.1 0 dX8_setObject_34 rfl ?_
        refine ac_iload_n Z.1 3 dX8_setObject_35 rfl ?_
        obtain ⟨hb1, hw⟩ := hw
        refine f_ast Z 7 (aT_16 hg) rfl hb1 dX8_setObject_36 ?_
        exact hret _ _ _ _ dX8_setObject_37 hw
def wY_X6_startOf (N : Nat → Nat) (p1 : Int32) (M : f_S3) (O : Nat × Nat) (Q : Int32 → f_S3 → Nat × Nat → Prop) : Prop := (p1 < 0 → (Q (-1) M O)) ∧ (¬ p1 < 0 → ((16 ≤ p1 → (Q (-1) M O)) ∧ (¬ 16 ≤ p1 → (vp_in p1 (N 21) ∧ (Q (M.2.1 21 p1.toNatClampNeg) M O)))))
set_option maxRecDepth 20000 in
theorem soY_X6_startOf {l : Launch} {g : b_S} {c : Nat} (hg : g.1 = tb_T c) (p1 : Int32) (M : f_S3) (O : Nat × Nat) (Q : Int32 → f_S3 → Nat × Nat → Prop) (hw : wY_X6_startOf (b_N g) p1 M O Q) : f_MetI l g yX6_startOf cX6_startOf 2 .int (0) [.ref (b_o g 5), .int p1] M O Q := by
  refine f_MetI.of (C := RX6) (by decide) rfl (Nat.le_of_ble_eq_true rfl) (fun x Z hret => ?_)
  show f_G x g 2 O M O 0 [(0, .ref (b_o g 5)), (1, .int p1)] []
  refine ac_iload_n Z.1 1 dX6_startOf_0 rfl ?_
  obtain ⟨hwt, hwf⟩ := hw
  refine ac_if_lt (tgt := 19) Z.1 dX6_startOf_1 (by decide) (fun hc => ?_) (fun hc => ?_)
  · have hw := hwt hc
    refine ac_iconst (v := (-1)) Z.1 dX6_startOf_19 (by decide) ?_
    exact hret _ _ _ _ _ dX6_startOf_20 rfl hw
  · have hw := hwf hc
    refine ac_iload_n Z.1 1 dX6_startOf_4 rfl ?_
    refine ac_bipush (v := 16) Z.1 dX6_startOf_5 (by decide) ?_
    obtain ⟨hwt, hwf⟩ := hw
    refine ac_icmp_ge (tgt := 19) Z.1 dX6_startOf_7 (by decide) (fun hc => ?_) (fun hc => ?_)
    · have hw := hwt hc
      refine ac_iconst (v := (-1)) Z.1 dX6_startOf_19 (by decide) ?_
      exact hret _ _ _ _ _ dX6_startOf_20 rfl hw
    · have hw := hwf hc
      refine ac_aload_n Z.1 0 dX6_startOf_10 rfl ?_
      refine f_getr Z b_X6 5 (oT_5 hg) 1 (by decide) (by decide) (fT_61 hg) fX6_11 rfl (h2 := (b_o g 21)) rfl dX6_startOf_11 ?_
      refine ac_iload_n Z.1 1 dX6_startOf_14 rfl ?_
      obtain ⟨hb1, hw⟩ := hw
      refine f_ald Z 12 (aT_21 hg) rfl hb1 (v := (M.2.1 21 p1.toNatClampNeg)) rfl dX6_startOf_15 ?_
      refine ac_goto (tgt := 20) Z.1 dX6_startOf_16 (by decide) ?_
      exact hret _ _ _ _ _ dX6_startOf_20 rfl hw
def wY_X8_begin_62 (N : Nat → Nat) (Q : f_S3 → Nat × Nat → Prop) : Nat → Int32 → Int32 → f_S3 → Nat × Nat → Prop
  | 0 => fun _ _ _ _ => False
  | n + 1 => fun a1 a2 M O => ((8 ≤ a2 → (wY_X6_startOf N a1 M O (fun r2 M3 O3 => (Q (fm (fm M3 49 r2) 38 ((M3.1 38) + 1)) O3)))) ∧ (¬ 8 ≤ a2 → (wY_X8_setObject N a2 0 M O (fun M4 O4 => (wY_X8_begin_62 N Q n a1 (a2 + 1) M4 O4)))))
set_option maxRecDepth 20000 in
theorem sY_X8_begin_62 {x : ac_X} {g : b_S} (hg : g.1 = tb_T 5) {l : Launch} {O0 : Nat × Nat} {Q : f_S3 → Nat × Nat → Prop} (Z : b_Cx x g l RX8 cX8_begin 3 (1) O0) (hret : f_RV x g 3 cX8_begin O0 Q) : ∀ (n : Nat) (a1 : Int32) (a2 : Int32) (M : f_S3) (O : Nat × Nat), wY_X8_begin_62 (b_N g) Q n a1 a2 M O → f_G x g 3 O0 M O 62 [(0, .ref (b_o g 4)), (1, .int a1), (2, .int a2)] [] := by
  intro n
  induction n with
  | zero => intro _ _ _ _ hw; exact hw.elim
  | succ n ih =>
    intro a1 a2 M O hw
    dsimp only [wY_X8_begin_62] at hw
    refine ac_iload_n Z.1 2 dX8_begin_62 rfl ?_
    refine ac_bipush (v := 8) Z.1 dX8_begin_63 (by decide) ?_
    obtain ⟨hwt, hwf⟩ := hw
    refine ac_icmp_ge (tgt := 80) Z.1 dX8_begin_65 (by decide) (fun hc => ?_) (fun hc => ?_)
    · have hw := hwt hc
      refine ac_aload_n Z.1 0 dX8_begin_80 rfl ?_
      refine ac_aload_n Z.1 0 dX8_begin_81 rfl ?_
      refine f_getr Z b_X8 4 (oT_4 hg) 7 (by decide) (by decide) (fT_47 hg) fX8_32 rfl (h2 := (b_o g 5)) rfl dX8_begin_82 ?_
      refine ac_iload_n Z.1 1 dX8_begin_85 rfl ?_
      refine f_calli (As := [.int a1]) (st := [.ref (b_o g 4)]) Z b_X6.1 5 (oT_5 hg) rfl kX6_startOf lkX8_210 (by omega) (soY_X6_startOf hg  _ _ _ _ hw) rfl rfl (Nat.le_of_ble_eq_true rfl) dX8_begin_86 (fun r2 M3 O3 hw => ?_)
      refine f_put Z b_X8 4 (oT_4 hg) 9 (by decide) (by decide) (fT_49 hg) rfl rfl fX8_111 rfl (I := 49) rfl dX8_begin_89 ?_
      refine ac_aload_n Z.1 0 dX8_begin_92 rfl ?_
      refine f_getr Z b_X8 4 (oT_4 hg) 1 (by decide) (by decide) (fT_41 hg) fX8_40 rfl (h2 := (b_o g 3)) rfl dX8_begin_93 ?_
      refine ac_dup Z.1 dX8_begin_96 rfl ?_
      refine f_geti Z b_X5 3 (oT_3 hg) 8 (by decide) (by decide) (fT_38 hg) fX8_213 rfl (v := (M3.1 38)) rfl dX8_begin_97 ?_
      refine ac_iconst (v := 1) Z.1 dX8_begin_100 (by decide) ?_
      refine ac_iadd Z.1 dX8_begin_101 ?_
      refine f_put Z b_X5 3 (oT_3 hg) 8 (by decide) (by decide) (fT_38 hg) rfl rfl fX8_213 rfl (I := 38) rfl dX8_begin_102 ?_
      exact hret _ _ _ _ dX8_begin_105 hw
    · have hw := hwf hc
      refine ac_aload_n Z.1 0 dX8_begin_68 rfl ?_
      refine ac_iload_n Z.1 2 dX8_begin_69 rfl ?_
      refine ac_iconst (v := 0) Z.1 dX8_begin_70 (by decide) ?_
      refine f_callv (As := [.int a2, .int 0]) (st := []) Z b_X8.1 4 (oT_4 hg) rfl kX8_setObject lkX8_144 (by omega) (soY_X8_setObject hg  _ _ _ _ _ hw) rfl rfl (Nat.le_of_ble_eq_true rfl) dX8_begin_71 (fun M4 O4 hw => ?_)
      refine ac_iinc (w := (a2 + 1)) (lv' := [(2, .int (a2 + 1)), (0, .ref (b_o g 4)), (1, .int a1)]) Z.1 2 dX8_begin_74 rfl rfl (by decide) rfl ?_
      refine ac_goto (tgt := 62) Z.1 dX8_begin_77 (by decide) ?_
      refine ac_lv [1, 2, 0] rfl ?_
      exact ih _ _ _ _ hw
def wY_X8_begin_42 (N : Nat → Nat) (Q : f_S3 → Nat × Nat → Prop) : Nat → Int32 → Int32 → f_S3 → Nat × Nat → Prop
  | 0 => fun _ _ _ _ => False
  | n + 1 => fun a1 a2 M O => ((12 ≤ a2 → (∃ e62, wY_X8_begin_62 N Q e62 a1 0 M O)) ∧ (¬ 12 ≤ a2 → (wY_X8_setNumber N a2 0 M O (fun M5 O5 => (wY_X8_begin_42 N Q n a1 (a2 + 1) M5 O5)))))
set_option maxRecDepth 20000 in
theorem sY_X8_begin_42 {x : ac_X} {g : b_S} (hg : g.1 = tb_T 5) {l : Launch} {O0 : Nat × Nat} {Q : f_S3 → Nat × Nat → Prop} (Z : b_Cx x g l RX8 cX8_begin 3 (1) O0) (hret : f_RV x g 3 cX8_begin O0 Q) : ∀ (n : Nat) (a1 : Int32) (a2 : Int32) (M : f_S3) (O : Nat × Nat), wY_X8_begin_42 (b_N g) Q n a1 a2 M O → f_G x g 3 O0 M O 42 [(0, .ref (b_o g 4)), (1, .int a1), (2, .int a2)] [] := by
  intro n
  induction n with
  | zero => intro _ _ _ _ hw; exact hw.elim
  | succ n ih =>
    intro a1 a2 M O hw
    dsimp only [wY_X8_begin_42] at hw
    refine ac_iload_n Z.1 2 dX8_begin_42 rfl ?_
    refine ac_bipush (v := 12) Z.1 dX8_begin_43 (by decide) ?_
    obtain ⟨hwt, hwf⟩ := hw
    refine ac_icmp_ge (tgt := 60) Z.1 dX8_begin_45 (by decide) (fun hc => ?_) (fun hc => ?_)
    · have hw := hwt hc
      refine ac_iconst (v := 0) Z.1 dX8_begin_60 (by decide) ?_
      refine ac_istore_n (lv' := [(2, .int 0), (0, .ref (b_o g 4)), (1, .int a1)]) Z.1 dX8_begin_61 (by decide) rfl ?_
      obtain ⟨n, hw⟩ := hw
      refine ac_lv [1, 2, 0] rfl ?_
      exact sY_X8_begin_62 hg Z hret n _ _ _ _ hw
    · have hw := hwf hc
      refine ac_aload_n Z.1 0 dX8_begin_48 rfl ?_
      refine ac_iload_n Z.1 2 dX8_begin_49 rfl ?_
      refine ac_iconst (v := 0) Z.1 dX8_begin_50 (by decide) ?_
      refine f_callv (As := [.int a2, .int 0]) (st := []) Z b_X8.1 4 (oT_4 hg) rfl kX8_setNumber lkX8_107 (by omega) (soY_X8_setNumber hg  _ _ _ _ _ hw) rfl rfl (Nat.le_of_ble_eq_true rfl) dX8_begin_51 (fun M5 O5 hw => ?_)
      refine ac_iinc (w := (a2 + 1)) (lv' := [(2, .int (a2 + 1)), (0, .ref (b_o g 4)), (1, .int a1)]) Z.1 2 dX8_begin_54 rfl rfl (by decide) rfl ?_
      refine ac_goto (tgt := 42) Z.1 dX8_begin_57 (by decide) ?_
      refine ac_lv [1, 2, 0] rfl ?_
      exact ih _ _ _ _ hw
def wY_X8_begin (N : Nat → Nat) (p1 : Int32) (M : f_S3) (O : Nat × Nat) (Q : f_S3 → Nat × Nat → Prop) : Prop := ((M.1 50) < 0 → (Q M O)) ∧ (¬ (M.1 50) < 0 → (((M.1 50) < 12 → (vp_in (M.1 50) (N 17) ∧ (∃ e42, wY_X8_begin_42 N Q e42 p1 0 (fm (ff M 17 (M.1 50) (M.1 49)) 50 ((M.1 50) + 1)) O))) ∧ (¬ (M.1 50) < 12 → (Q M O))))
set_option maxRecDepth 20000 in
theorem soY_X8_begin {l : Launch} {g : b_S} (hg : g.1 = tb_T 5) (p1 : Int32) (M : f_S3) (O : Nat × Nat) (Q : f_S3 → Nat × Nat → Prop) (hw : wY_X8_begin (b_N g) p1 M O Q) : f_MetV l g yX8_begin cX8_begin 3 (1) [.ref (b_o g 4), .int p1] M O Q := by
  refine f_MetV.of (C := RX8) (by decide) rfl (Nat.le_of_ble_eq_true rfl) (fun x Z hret => ?_)
  show f_G x g 3 O M O 0 [(0, .ref (b_o g 4)), (1, .int p1)] []
  refine ac_aload_n Z.1 0 dX8_begin_0 rfl ?_
  refine f_geti Z b_X8 4 (oT_4 hg) 10 (by decide) (by decide) (fT_50 hg) fX8_91 rfl (v := (M.1 50)) rfl dX8_begin_1 ?_
  obtain ⟨hwt, hwf⟩ := hw
  refine ac_if_lt (tgt := 16) Z.1 dX8_begin_4 (by decide) (fun hc => ?_) (fun hc => ?_)
  · have hw := hwt hc
    exact hret _ _ _ _ dX8_begin_16 hw
  · have hw := hwf hc
    refine ac_aload_n Z.1 0 dX8_begin_7 rfl ?_
    refine f_geti Z b_X8 4 (oT_4 hg) 10 (by decide) (by decide) (fT_50 hg) fX8_91 rfl (v := (M.1 50)) rfl dX8_begin_8 ?_
    refine ac_bipush (v := 12) Z.1 dX8_begin_11 (by decide) ?_
    obtain ⟨hwt, hwf⟩ := hw
    refine ac_icmp_lt (tgt := 17) Z.1 dX8_begin_13 (by decide) (fun hc => ?_) (fun hc => ?_)
    · have hw := hwt hc
      refine ac_aload_n Z.1 0 dX8_begin_17 rfl ?_
      refine f_getr Z b_X8 4 (oT_4 hg) 4 (by decide) (by decide) (fT_44 hg) fX8_18 rfl (h2 := (b_o g 17)) rfl dX8_begin_18 ?_
      refine ac_aload_n Z.1 0 dX8_begin_21 rfl ?_
      refine f_geti Z b_X8 4 (oT_4 hg) 10 (by decide) (by decide) (fT_50 hg) fX8_91 rfl (v := (M.1 50)) rfl dX8_begin_22 ?_
      refine ac_aload_n Z.1 0 dX8_begin_25 rfl ?_
      refine f_geti Z b_X8 4 (oT_4 hg) 9 (by decide) (by decide) (fT_49 hg) fX8_111 rfl (v := (M.1 49)) rfl dX8_begin_26 ?_
      obtain ⟨hb1, hw⟩ := hw
      refine f_ast Z 8 (aT_17 hg) rfl hb1 dX8_begin_29 ?_
      refine ac_aload_n Z.1 0 dX8_begin_30 rfl ?_
      refine ac_dup Z.1 dX8_begin_31 rfl ?_
      refine f_geti Z b_X8 4 (oT_4 hg) 10 (by decide) (by decide) (fT_50 hg) fX8_91 rfl (v := (M.1 50)) rfl dX8_begin_32 ?_
      refine ac_iconst (v := 1) Z.1 dX8_begin_35 (by decide) ?_
      refine ac_iadd Z.1 dX8_begin_36 ?_
      refine f_put Z b_X8 4 (oT_4 hg) 10 (by decide) (by decide) (fT_50 hg) rfl rfl fX8_91 rfl (I := 50) rfl dX8_begin_37 ?_
      refine ac_iconst (v := 0) Z.1 dX8_begin_40 (by decide) ?_
      refine ac_istore_n (lv' := [(2, .int 0), (0, .ref (b_o g 4)), (1, .int p1)]) Z.1 dX8_begin_41 (by decide) rfl ?_
      obtain ⟨n, hw⟩ := hw
      refine ac_lv [1, 2, 0] rfl ?_
      exact sY_X8_begin_42 hg Z hret n _ _ _ _ hw
    · have hw := hwf hc
      exact hret _ _ _ _ dX8_begin_16 hw
def wY_X6_parametersOf (N : Nat → Nat) (p1 : Int32) (M : f_S3) (O : Nat × Nat) (Q : Int32 → f_S3 → Nat × Nat → Prop) : Prop := (p1 < 0 → (Q (-1) M O)) ∧ (¬ p1 < 0 → ((16 ≤ p1 → (Q (-1) M O)) ∧ (¬ 16 ≤ p1 → (vp_in p1 (N 22) ∧ (Q (M.2.1 22 p1.toNatClampNeg) M O)))))
set_option maxRecDepth 20000 in
theorem soY_X6_parametersOf {l : Launch} {g : b_S} {c : Nat} (hg : g.1 = tb_T c) (p1 : Int32) (M : f_S3) (O : Nat × Nat) (Q : Int32 → f_S3 → Nat × Nat → Prop) (hw : wY_X6_parametersOf (b_N g) p1 M O Q) : f_MetI l g yX6_parametersOf cX6_parametersOf 2 .int (0) [.ref (b_o g 5), .int p1] M O Q := by
  refine f_MetI.of (C := RX6) (by decide) rfl (Nat.le_of_ble_eq_true rfl) (fun x Z hret => ?_)
  show f_G x g 2 O M O 0 [(0, .ref (b_o g 5)), (1, .int p1)] []
  refine ac_iload_n Z.1 1 dX6_parametersOf_0 rfl ?_
  obtain ⟨hwt, hwf⟩ := hw
  refine ac_if_lt (tgt := 19) Z.1 dX6_parametersOf_1 (by decide) (fun hc => ?_) (fun hc => ?_)
  · have hw := hwt hc
    refine ac_iconst (v := (-1)) Z.1 dX6_parametersOf_19 (by decide) ?_
    exact hret _ _ _ _ _ dX6_parametersOf_20 rfl hw
  · have hw := hwf hc
    refine ac_iload_n Z.1 1 dX6_parametersOf_4 rfl ?_
    refine ac_bipush (v := 16) Z.1 dX6_parametersOf_5 (by decide) ?_
    obtain ⟨hwt, hwf⟩ := hw
    refine ac_icmp_ge (tgt := 19) Z.1 dX6_parametersOf_7 (by decide) (fun hc => ?_) (fun hc => ?_)
    · have hw := hwt hc
      refine ac_iconst (v := (-1)) Z.1 dX6_parametersOf_19 (by decide) ?_
      exact hret _ _ _ _ _ dX6_parametersOf_20 rfl hw
    · have hw := hwf hc
      refine ac_aload_n Z.1 0 dX6_parametersOf_10 rfl ?_
      refine f_getr Z b_X6 5 (oT_5 hg) 2 (by decide) (by decide) (fT_62 hg) fX6_15 rfl (h2 := (b_o g 22)) rfl dX6_parametersOf_11 ?_
      refine ac_iload_n Z.1 1 dX6_parametersOf_14 rfl ?_
      obtain ⟨hb1, hw⟩ := hw
      refine f_ald Z 13 (aT_22 hg) rfl hb1 (v := (M.2.1 22 p1.toNatClampNeg)) rfl dX6_parametersOf_15 ?_
      refine ac_goto (tgt := 20) Z.1 dX6_parametersOf_16 (by decide) ?_
      exact hret _ _ _ _ _ dX6_parametersOf_20 rfl hw
def wY_X8_start_47 (N : Nat → Nat) (Q : f_S3 → Nat × Nat → Prop) (a1 : Int32) (a3 : Int32) (M : f_S3) (O : Nat × Nat) : Prop := wY_X6_parametersOf N a1 M O (fun r4 M5 O5 => ((r4 ≤ 1 → (Q M5 O5)) ∧ (¬ r4 ≤ 1 → (wY_X8_setNumber N 1 a3 M5 O5 (fun M6 O6 => (Q M6 O6))))))
set_option maxRecDepth 20000 in
theorem sY_X8_start_47 {x : ac_X} {g : b_S} (hg : g.1 = tb_T 5) {l : Launch} {O0 : Nat × Nat} {Q : f_S3 → Nat × Nat → Prop} (Z : b_Cx x g l RX8 cX8_start 4 (2) O0) (hret : f_RV x g 4 cX8_start O0 Q) (a1 : Int32) (a3 : Int32) (M : f_S3) (O : Nat × Nat) (hw : wY_X8_start_47 (b_N g) Q a1 a3 M O) : f_G x g 4 O0 M O 47 [(0, .ref (b_o g 4)), (1, .int a1), (3, .int a3)] [] := by
  refine ac_aload_n Z.1 0 dX8_start_47 rfl ?_
  refine f_getr Z b_X8 4 (oT_4 hg) 7 (by decide) (by decide) (fT_47 hg) fX8_32 rfl (h2 := (b_o g 5)) rfl dX8_start_48 ?_
  refine ac_iload_n Z.1 1 dX8_start_51 rfl ?_
  refine f_calli (As := [.int a1]) (st := []) Z b_X6.1 5 (oT_5 hg) rfl kX6_parametersOf lkX8_103 (by omega) (soY_X6_parametersOf hg  _ _ _ _ hw) rfl rfl (Nat.le_of_ble_eq_true rfl) dX8_start_52 (fun r4 M5 O5 hw => ?_)
  refine ac_iconst (v := 1) Z.1 dX8_start_55 (by decide) ?_
  obtain ⟨hwt, hwf⟩ := hw
  refine ac_icmp_le (tgt := 65) Z.1 dX8_start_56 (by decide) (fun hc => ?_) (fun hc => ?_)
  · have hw := hwt hc
    exact hret _ _ _ _ dX8_start_65 hw
  · have hw := hwf hc
    refine ac_aload_n Z.1 0 dX8_start_59 rfl ?_
    refine ac_iconst (v := 1) Z.1 dX8_start_60 (by decide) ?_
    refine ac_iload_n Z.1 2 dX8_start_61 rfl ?_
    refine f_callv (As := [.int 1, .int a3]) (st := []) Z b_X8.1 4 (oT_4 hg) rfl kX8_setNumber lkX8_107 (by omega) (soY_X8_setNumber hg  _ _ _ _ _ hw) rfl rfl (Nat.le_of_ble_eq_true rfl) dX8_start_62 (fun M6 O6 hw => ?_)
    exact hret _ _ _ _ dX8_start_65 hw
def wY_X8_start (N : Nat → Nat) (p1 : Int32) (p2 : Int32) (p3 : Int32) (M : f_S3) (O : Nat × Nat) (Q : f_S3 → Nat × Nat → Prop) : Prop := wY_X8_begin N p1 (fm (fm (fm (fm (fm M 53 0) 50 0) 51 0) 52 0) 54 0) O (fun M1 O1 => (wY_X6_parametersOf N p1 M1 O1 (fun r2 M3 O3 => ((r2 ≤ 0 → (wY_X8_start_47 N Q p1 p3 M3 O3)) ∧ (¬ r2 ≤ 0 → (wY_X8_setNumber N 0 p2 M3 O3 (fun M7 O7 => (wY_X8_start_47 N Q p1 p3 M7 O7))))))))
set_option maxRecDepth 20000 in
theorem soY_X8_start {l : Launch} {g : b_S} (hg : g.1 = tb_T 5) (p1 : Int32) (p2 : Int32) (p3 : Int32) (M : f_S3) (O : Nat × Nat) (Q : f_S3 → Nat × Nat → Prop) (hw : wY_X8_start (b_N g) p1 p2 p3 M O Q) : f_MetV l g yX8_start cX8_start 4 (2) [.ref (b_o g 4), .int p1, .int p2, .int p3] M O Q := by
  refine f_MetV.of (C := RX8) (by decide) rfl (Nat.le_of_ble_eq_true rfl) (fun x Z hret => ?_)
  show f_G x g 4 O M O 0 [(0, .ref (b_o g 4)), (1, .int p1), (2, .int p2), (3, .int p3)] []
  refine ac_aload_n Z.1 0 dX8_start_0 rfl ?_
  refine ac_iconst (v := 0) Z.1 dX8_start_1 (by decide) ?_
  refine f_put Z b_X8 4 (oT_4 hg) 13 (by decide) (by decide) (fT_53 hg) rfl rfl fX8_53 rfl (I := 53) rfl dX8_start_2 ?_
  refine ac_aload_n Z.1 0 dX8_start_5 rfl ?_
  refine ac_iconst (v := 0) Z.1 dX8_start_6 (by decide) ?_
  refine f_put Z b_X8 4 (oT_4 hg) 10 (by decide) (by decide) (fT_50 hg) rfl rfl fX8_91 rfl (I := 50) rfl dX8_start_7 ?_
  refine ac_aload_n Z.1 0 dX8_start_10 rfl ?_
  refine ac_iconst (v := 0) Z.1 dX8_start_11 (by decide) ?_
  refine f_put Z b_X8 4 (oT_4 hg) 11 (by decide) (by decide) (fT_51 hg) rfl rfl fX8_94 rfl (I := 51) rfl dX8_start_12 ?_
  refine ac_aload_n Z.1 0 dX8_start_15 rfl ?_
  refine ac_iconst (v := 0) Z.1 dX8_start_16 (by decide) ?_
  refine f_put Z b_X8 4 (oT_4 hg) 12 (by decide) (by decide) (fT_52 hg) rfl rfl fX8_97 rfl (I := 52) rfl dX8_start_17 ?_
  refine ac_aload_n Z.1 0 dX8_start_20 rfl ?_
  refine ac_iconst (v := 0) Z.1 dX8_start_21 (by decide) ?_
  refine f_put Z b_X8 4 (oT_4 hg) 14 (by decide) (by decide) (fT_54 hg) rfl rfl fX8_74 rfl (I := 54) rfl dX8_start_22 ?_
  refine ac_aload_n Z.1 0 dX8_start_25 rfl ?_
  refine ac_iload_n Z.1 1 dX8_start_26 rfl ?_
  refine f_callv (As := [.int p1]) (st := []) Z b_X8.1 4 (oT_4 hg) rfl kX8_begin lkX8_100 (by omega) (soY_X8_begin hg  _ _ _ _ hw) rfl rfl (Nat.le_of_ble_eq_true rfl) dX8_start_27 (fun M1 O1 hw => ?_)
  refine ac_aload_n Z.1 0 dX8_start_30 rfl ?_
  refine f_getr Z b_X8 4 (oT_4 hg) 7 (by decide) (by decide) (fT_47 hg) fX8_32 rfl (h2 := (b_o g 5)) rfl dX8_start_31 ?_
  refine ac_iload_n Z.1 1 dX8_start_34 rfl ?_
  refine f_calli (As := [.int p1]) (st := []) Z b_X6.1 5 (oT_5 hg) rfl kX6_parametersOf lkX8_103 (by omega) (soY_X6_parametersOf hg  _ _ _ _ hw) rfl rfl (Nat.le_of_ble_eq_true rfl) dX8_start_35 (fun r2 M3 O3 hw => ?_)
  obtain ⟨hwt, hwf⟩ := hw
  refine ac_if_le (tgt := 47) Z.1 dX8_start_38 (by decide) (fun hc => ?_) (fun hc => ?_)
  · have hw := hwt hc
    refine ac_lv [0, 1, 3] rfl ?_
    exact sY_X8_start_47 hg Z hret _ _ _ _ hw
  · have hw := hwf hc
    refine ac_aload_n Z.1 0 dX8_start_41 rfl ?_
    refine ac_iconst (v := 0) Z.1 dX8_start_42 (by decide) ?_
    refine ac_iload_n Z.1 2 dX8_start_43 rfl ?_
    refine f_callv (As := [.int 0, .int p2]) (st := []) Z b_X8.1 4 (oT_4 hg) rfl kX8_setNumber lkX8_107 (by omega) (soY_X8_setNumber hg  _ _ _ _ _ hw) rfl rfl (Nat.le_of_ble_eq_true rfl) dX8_start_44 (fun M7 O7 hw => ?_)
    refine ac_lv [0, 1, 3] rfl ?_
    exact sY_X8_start_47 hg Z hret _ _ _ _ hw
def wY_X6_get (N : Nat → Nat) (p1 : Int32) (M : f_S3) (O : Nat × Nat) (Q : Int32 → f_S3 → Nat × Nat → Prop) : Prop := (p1 < 0 → (Q (-1) M O)) ∧ (¬ p1 < 0 → (((M.1 63) ≤ p1 → (Q (-1) M O)) ∧ (¬ (M.1 63) ≤ p1 → (vp_in p1 (N 20) ∧ (Q (M.2.1 20 p1.toNatClampNeg) M O)))))
set_option maxRecDepth 20000 in
theorem soY_X6_get {l : Launch} {g : b_S} {c : Nat} (hg : g.1 = tb_T c) (p1 : Int32) (M : f_S3) (O : Nat × Nat) (Q : Int32 → f_S3 → Nat × Nat → Prop) (hw : wY_X6_get (b_N g) p1 M O Q) : f_MetI l g yX6_get cX6_get 2 .int (0) [.ref (b_o g 5), .int p1] M O Q := by
  refine f_MetI.of (C := RX6) (by decide) rfl (Nat.le_of_ble_eq_true rfl) (fun x Z hret => ?_)
  show f_G x g 2 O M O 0 [(0, .ref (b_o g 5)), (1, .int p1)] []
  refine ac_iload_n Z.1 1 dX6_get_0 rfl ?_
  obtain ⟨hwt, hwf⟩ := hw
  refine ac_if_lt (tgt := 21) Z.1 dX6_get_1 (by decide) (fun hc => ?_) (fun hc => ?_)
  · have hw := hwt hc
    refine ac_iconst (v := (-1)) Z.1 dX6_get_21 (by decide) ?_
    exact hret _ _ _ _ _ dX6_get_22 rfl hw
  · have hw := hwf hc
    refine ac_iload_n Z.1 1 dX6_get_4 rfl ?_
    refine ac_aload_n Z.1 0 dX6_get_5 rfl ?_
    refine f_geti Z b_X6 5 (oT_5 hg) 3 (by decide) (by decide) (fT_63 hg) fX6_21 rfl (v := (M.1 63)) rfl dX6_get_6 ?_
    obtain ⟨hwt, hwf⟩ := hw
    refine ac_icmp_ge (tgt := 21) Z.1 dX6_get_9 (by decide) (fun hc => ?_) (fun hc => ?_)
    · have hw := hwt hc
      refine ac_iconst (v := (-1)) Z.1 dX6_get_21 (by decide) ?_
      exact hret _ _ _ _ _ dX6_get_22 rfl hw
    · have hw := hwf hc
      refine ac_aload_n Z.1 0 dX6_get_12 rfl ?_
      refine f_getr Z b_X6 5 (oT_5 hg) 0 (by decide) (by decide) (fT_60 hg) fX6_18 rfl (h2 := (b_o g 20)) rfl dX6_get_13 ?_
      refine ac_iload_n Z.1 1 dX6_get_16 rfl ?_
      obtain ⟨hb1, hw⟩ := hw
      refine f_ald Z 11 (aT_20 hg) rfl hb1 (v := (M.2.1 20 p1.toNatClampNeg)) rfl dX6_get_17 ?_
      refine ac_goto (tgt := 22) Z.1 dX6_get_18 (by decide) ?_
      exact hret _ _ _ _ _ dX6_get_22 rfl hw
def wY_X8_fetch (N : Nat → Nat) (M : f_S3) (O : Nat × Nat) (Q : Int32 → f_S3 → Nat × Nat → Prop) : Prop := wY_X6_get N (M.1 49) M O (fun r1 M2 O2 => (Q r1 (fm M2 49 ((M2.1 49) + 1)) O2))
set_option maxRecDepth 20000 in
theorem soY_X8_fetch {l : Launch} {g : b_S} (hg : g.1 = tb_T 5) (M : f_S3) (O : Nat × Nat) (Q : Int32 → f_S3 → Nat × Nat → Prop) (hw : wY_X8_fetch (b_N g)  M O Q) : f_MetI l g yX8_fetch cX8_fetch 2 .int (1) [.ref (b_o g 4)] M O Q := by
  refine f_MetI.of (C := RX8) (by decide) rfl (Nat.le_of_ble_eq_true rfl) (fun x Z hret => ?_)
  show f_G x g 2 O M O 0 [(0, .ref (b_o g 4))] []
  refine ac_aload_n Z.1 0 dX8_fetch_0 rfl ?_
  refine f_getr Z b_X8 4 (oT_4 hg) 7 (by decide) (by decide) (fT_47 hg) fX8_32 rfl (h2 := (b_o g 5)) rfl dX8_fetch_1 ?_
  refine ac_aload_n Z.1 0 dX8_fetch_4 rfl ?_
  refine f_geti Z b_X8 4 (oT_4 hg) 9 (by decide) (by decide) (fT_49 hg) fX8_111 rfl (v := (M.1 49)) rfl dX8_fetch_5 ?_
  refine f_calli (As := [.int (M.1 49)]) (st := []) Z b_X6.1 5 (oT_5 hg) rfl kX6_get lkX8_114 (by omega) (soY_X6_get hg  _ _ _ _ hw) rfl rfl (Nat.le_of_ble_eq_true rfl) dX8_fetch_8 (fun r1 M2 O2 hw => ?_)
  refine ac_istore_n (lv' := [(1, .int r1), (0, .ref (b_o g 4))]) Z.1 dX8_fetch_11 (by decide) rfl ?_
  refine ac_aload_n Z.1 1 dX8_fetch_12 rfl ?_
  refine ac_dup Z.1 dX8_fetch_13 rfl ?_
  refine f_geti Z b_X8 4 (oT_4 hg) 9 (by decide) (by decide) (fT_49 hg) fX8_111 rfl (v := (M2.1 49)) rfl dX8_fetch_14 ?_
  refine ac_iconst (v := 1) Z.1 dX8_fetch_17 (by decide) ?_
  refine ac_iadd Z.1 dX8_fetch_18 ?_
  refine f_put Z b_X8 4 (oT_4 hg) 9 (by decide) (by decide) (fT_49 hg) rfl rfl fX8_111 rfl (I := 49) rfl dX8_fetch_19 ?_
  refine ac_iload_n Z.1 0 dX8_fetch_22 rfl ?_
  exact hret _ _ _ _ _ dX8_fetch_23 rfl hw
def wY_X8_countStep (N : Nat → Nat) (M : f_S3) (O : Nat × Nat) (Q : f_S3 → Nat × Nat → Prop) : Prop := ((M.1 36) < (M.1 48) → (Q (fm M 36 ((M.1 36) + 1)) O)) ∧ (¬ (M.1 36) < (M.1 48) → (Q (fm M 53 3) O))
set_option maxRecDepth 20000 in
theorem soY_X8_countStep {l : Launch} {g : b_S} (hg : g.1 = tb_T 5) (M : f_S3) (O : Nat × Nat) (Q : f_S3 → Nat × Nat → Prop) (hw : wY_X8_countStep (b_N g)  M O Q) : f_MetV l g yX8_countStep cX8_countStep 1 (0) [.ref (b_o g 4)] M O Q := by
  refine f_MetV.of (C := RX8) (by decide) rfl (Nat.le_of_ble_eq_true rfl) (fun x Z hret => ?_)
  show f_G x g 1 O M O 0 [(0, .ref (b_o g 4))] []
  refine ac_aload_n Z.1 0 dX8_countStep_0 rfl ?_
  refine f_getr Z b_X8 4 (oT_4 hg) 1 (by decide) (by decide) (fT_41 hg) fX8_40 rfl (h2 := (b_o g 3)) rfl dX8_countStep_1 ?_
  refine f_geti Z b_X5 3 (oT_3 hg) 6 (by decide) (by decide) (fT_36 hg) fX8_207 rfl (v := (M.1 36)) rfl dX8_countStep_4 ?_
  refine ac_aload_n Z.1 0 dX8_countStep_7 rfl ?_
  refine f_geti Z b_X8 4 (oT_4 hg) 8 (by decide) (by decide) (fT_48 hg) fX8_44 rfl (v := (M.1 48)) rfl dX8_countStep_8 ?_
  obtain ⟨hwt, hwf⟩ := hw
  refine ac_icmp_lt (tgt := 22) Z.1 dX8_countStep_11 (by decide) (fun hc => ?_) (fun hc => ?_)
  · have hw := hwt hc
    refine ac_aload_n Z.1 0 dX8_countStep_22 rfl ?_
    refine f_getr Z b_X8 4 (oT_4 hg) 1 (by decide) (by decide) (fT_41 hg) fX8_40 rfl (h2 := (b_o g 3)) rfl dX8_countStep_23 ?_
    refine ac_dup Z.1 dX8_countStep_26 rfl ?_
    refine f_geti Z b_X5 3 (oT_3 hg) 6 (by decide) (by decide) (fT_36 hg) fX8_207 rfl (v := (M.1 36)) rfl dX8_countStep_27 ?_
    refine ac_iconst (v := 1) Z.1 dX8_countStep_30 (by decide) ?_
    refine ac_iadd Z.1 dX8_countStep_31 ?_
    refine f_put Z b_X5 3 (oT_3 hg) 6 (by decide) (by decide) (fT_36 hg) rfl rfl fX8_207 rfl (I := 36) rfl dX8_countStep_32 ?_
    exact hret _ _ _ _ dX8_countStep_35 hw
  · have hw := hwf hc
    refine ac_aload_n Z.1 0 dX8_countStep_14 rfl ?_
    refine ac_iconst (v := 3) Z.1 dX8_countStep_15 (by decide) ?_
    refine f_put Z b_X8 4 (oT_4 hg) 13 (by decide) (by decide) (fT_53 hg) rfl rfl fX8_53 rfl (I := 53) rfl dX8_countStep_16 ?_
    refine ac_goto (tgt := 35) Z.1 dX8_countStep_19 (by decide) ?_
    exact hret _ _ _ _ dX8_countStep_35 hw
def wY_X8_pop (N : Nat → Nat) (M : f_S3) (O : Nat × Nat) (Q : Int32 → f_S3 → Nat × Nat → Prop) : Prop := ((M.1 52) ≤ 0 → (Q 0 M O)) ∧ (¬ (M.1 52) ≤ 0 → (((M.1 52) ≤ (nI (N 19)) → (vp_in ((M.1 52) - 1) (N 19) ∧ (Q (M.2.1 19 ((M.1 52) - 1).toNatClampNeg) (fm M 52 ((M.1 52) - 1)) O))) ∧ (¬ (M.1 52) ≤ (nI (N 19)) → (Q 0 M O))))
set_option maxRecDepth 20000 in
theorem soY_X8_pop {l : Launch} {g : b_S} (hg : g.1 = tb_T 5) (M : f_S3) (O : Nat × Nat) (Q : Int32 → f_S3 → Nat × Nat → Prop) (hw : wY_X8_pop (b_N g)  M O Q) : f_MetI l g yX8_pop cX8_pop 1 .int (0) [.ref (b_o g 4)] M O Q := by
  refine f_MetI.of (C := RX8) (by decide) rfl (Nat.le_of_ble_eq_true rfl) (fun x Z hret => ?_)
  show f_G x g 1 O M O 0 [(0, .ref (b_o g 4))] []
  refine ac_aload_n Z.1 0 dX8_pop_0 rfl ?_
  refine f_geti Z b_X8 4 (oT_4 hg) 12 (by decide) (by decide) (fT_52 hg) fX8_97 rfl (v := (M.1 52)) rfl dX8_pop_1 ?_
  obtain ⟨hwt, hwf⟩ := hw
  refine ac_if_le (tgt := 19) Z.1 dX8_pop_4 (by decide) (fun hc => ?_) (fun hc => ?_)
  · have hw := hwt hc
    refine ac_iconst (v := 0) Z.1 dX8_pop_19 (by decide) ?_
    exact hret _ _ _ _ _ dX8_pop_20 rfl hw
  · have hw := hwf hc
    refine ac_aload_n Z.1 0 dX8_pop_7 rfl ?_
    refine f_geti Z b_X8 4 (oT_4 hg) 12 (by decide) (by decide) (fT_52 hg) fX8_97 rfl (v := (M.1 52)) rfl dX8_pop_8 ?_
    refine ac_aload_n Z.1 0 dX8_pop_11 rfl ?_
    refine f_getr Z b_X8 4 (oT_4 hg) 6 (by decide) (by decide) (fT_46 hg) fX8_24 rfl (h2 := (b_o g 19)) rfl dX8_pop_12 ?_
    refine f_alen Z 10 (aT_19 hg) rfl (v := (nI (b_N g 19))) rfl dX8_pop_15 (by decide) ?_
    obtain ⟨hwt, hwf⟩ := hw
    refine ac_icmp_le (tgt := 21) Z.1 dX8_pop_16 (by decide) (fun hc => ?_) (fun hc => ?_)
    · have hw := hwt hc
      refine ac_aload_n Z.1 0 dX8_pop_21 rfl ?_
      refine ac_dup Z.1 dX8_pop_22 rfl ?_
      refine f_geti Z b_X8 4 (oT_4 hg) 12 (by decide) (by decide) (fT_52 hg) fX8_97 rfl (v := (M.1 52)) rfl dX8_pop_23 ?_
      refine ac_iconst (v := 1) Z.1 dX8_pop_26 (by decide) ?_
      refine ac_isub Z.1 dX8_pop_27 ?_
      refine f_put Z b_X8 4 (oT_4 hg) 12 (by decide) (by decide) (fT_52 hg) rfl rfl fX8_97 rfl (I := 52) rfl dX8_pop_28 ?_
      refine ac_aload_n Z.1 0 dX8_pop_31 rfl ?_
      refine f_getr Z b_X8 4 (oT_4 hg) 6 (by decide) (by decide) (fT_46 hg) fX8_24 rfl (h2 := (b_o g 19)) rfl dX8_pop_32 ?_
      refine ac_aload_n Z.1 0 dX8_pop_35 rfl ?_
      refine f_geti Z b_X8 4 (oT_4 hg) 12 (by decide) (by decide) (fT_52 hg) fX8_97 rfl (v := ((M.1 52) - 1)) rfl dX8_pop_36 ?_
      obtain ⟨hb1, hw⟩ := hw
      refine f_ald Z 10 (aT_19 hg) rfl hb1 (v := (M.2.1 19 ((M.1 52) - 1).toNatClampNeg)) rfl dX8_pop_39 ?_
      exact hret _ _ _ _ _ dX8_pop_40 rfl hw
    · have hw := hwf hc
      refine ac_iconst (v := 0) Z.1 dX8_pop_19 (by decide) ?_
      exact hret _ _ _ _ _ dX8_pop_20 rfl hw
def wY_X5_putNote (N : Nat → Nat) (p1 : Int32) (M : f_S3) (O : Nat × Nat) (Q : Int32 → f_S3 → Nat × Nat → Prop) : Prop := ((M.1 31) < (nI (N 14)) → (vp_in (M.1 31) (N 14) ∧ (Q 1 (fm (ff M 14 (M.1 31) p1) 31 ((M.1 31) + 1)) O))) ∧ (¬ (M.1 31) < (nI (N 14)) → (Q 0 M O))
set_option maxRecDepth 20000 in
theorem soY_X5_putNote {l : Launch} {g : b_S} {c : Nat} (hg : g.1 = tb_T c) (p1 : Int32) (M : f_S3) (O : Nat × Nat) (Q : Int32 → f_S3 → Nat × Nat → Prop) (hw : wY_X5_putNote (b_N g) p1 M O Q) : f_MetI l g yX5_putNote cX5_putNote 2 .boolean (0) [.ref (b_o g 3), .int p1] M O Q := by
  refine f_MetI.of (C := RX5) (by decide) rfl (Nat.le_of_ble_eq_true rfl) (fun x Z hret => ?_)
  show f_G x g 2 O M O 0 [(0, .ref (b_o g 3)), (1, .int p1)] []
  refine ac_aload_n Z.1 0 dX5_putNote_0 rfl ?_
  refine f_geti Z b_X5 3 (oT_3 hg) 1 (by decide) (by decide) (fT_31 hg) fX5_22 rfl (v := (M.1 31)) rfl dX5_putNote_1 ?_
  refine ac_aload_n Z.1 0 dX5_putNote_4 rfl ?_
  refine f_getr Z b_X5 3 (oT_3 hg) 0 (by decide) (by decide) (fT_30 hg) fX5_11 rfl (h2 := (b_o g 14)) rfl dX5_putNote_5 ?_
  refine f_alen Z 5 (aT_14 hg) rfl (v := (nI (b_N g 14))) rfl dX5_putNote_8 (by decide) ?_
  obtain ⟨hwt, hwf⟩ := hw
  refine ac_icmp_lt (tgt := 14) Z.1 dX5_putNote_9 (by decide) (fun hc => ?_) (fun hc => ?_)
  · have hw := hwt hc
    refine ac_aload_n Z.1 0 dX5_putNote_14 rfl ?_
    refine f_getr Z b_X5 3 (oT_3 hg) 0 (by decide) (by decide) (fT_30 hg) fX5_11 rfl (h2 := (b_o g 14)) rfl dX5_putNote_15 ?_
    refine ac_aload_n Z.1 0 dX5_putNote_18 rfl ?_
    refine f_geti Z b_X5 3 (oT_3 hg) 1 (by decide) (by decide) (fT_31 hg) fX5_22 rfl (v := (M.1 31)) rfl dX5_putNote_19 ?_
    refine ac_iload_n Z.1 1 dX5_putNote_22 rfl ?_
    obtain ⟨hb1, hw⟩ := hw
    refine f_ast Z 5 (aT_14 hg) rfl hb1 dX5_putNote_23 ?_
    refine ac_aload_n Z.1 0 dX5_putNote_24 rfl ?_
    refine ac_dup Z.1 dX5_putNote_25 rfl ?_
    refine f_geti Z b_X5 3 (oT_3 hg) 1 (by decide) (by decide) (fT_31 hg) fX5_22 rfl (v := (M.1 31)) rfl dX5_putNote_26 ?_
    refine ac_iconst (v := 1) Z.1 dX5_putNote_29 (by decide) ?_
    refine ac_iadd Z.1 dX5_putNote_30 ?_
    refine f_put Z b_X5 3 (oT_3 hg) 1 (by decide) (by decide) (fT_31 hg) rfl rfl fX5_22 rfl (I := 31) rfl dX5_putNote_31 ?_
    refine ac_iconst (v := 1) Z.1 dX5_putNote_34 (by decide) ?_
    exact hret _ _ _ _ _ dX5_putNote_35 rfl hw
  · have hw := hwf hc
    refine ac_iconst (v := 0) Z.1 dX5_putNote_12 (by decide) ?_
    exact hret _ _ _ _ _ dX5_putNote_13 rfl hw
def wY_X8_putNote (N : Nat → Nat) (p1 : Int32) (M : f_S3) (O : Nat × Nat) (Q : f_S3 → Nat × Nat → Prop) : Prop := wY_X5_putNote N p1 M O (fun r1 M2 O2 => ((¬ r1 = 0 → (Q M2 O2)) ∧ (r1 = 0 → (Q (fm M2 53 3) O2))))
set_option maxRecDepth 20000 in
theorem soY_X8_putNote {l : Launch} {g : b_S} (hg : g.1 = tb_T 5) (p1 : Int32) (M : f_S3) (O : Nat × Nat) (Q : f_S3 → Nat × Nat → Prop) (hw : wY_X8_putNote (b_N g) p1 M O Q) : f_MetV l g yX8_putNote cX8_putNote 2 (1) [.ref (b_o g 4), .int p1] M O Q := by
  refine f_MetV.of (C := RX8) (by decide) rfl (Nat.le_of_ble_eq_true rfl) (fun x Z hret => ?_)
  show f_G x g 2 O M O 0 [(0, .ref (b_o g 4)), (1, .int p1)] []
  refine ac_aload_n Z.1 0 dX8_putNote_0 rfl ?_
  refine f_getr Z b_X8 4 (oT_4 hg) 1 (by decide) (by decide) (fT_41 hg) fX8_40 rfl (h2 := (b_o g 3)) rfl dX8_putNote_1 ?_
  refine ac_iload_n Z.1 1 dX8_putNote_4 rfl ?_
  refine f_calli (As := [.int p1]) (st := []) Z b_X5.1 3 (oT_3 hg) rfl kX5_putNote lkX8_188 (by omega) (soY_X5_putNote hg  _ _ _ _ hw) rfl rfl (Nat.le_of_ble_eq_true rfl) dX8_putNote_5 (fun r1 M2 O2 hw => ?_)
  obtain ⟨hwt, hwf⟩ := hw
  refine ac_if_ne (tgt := 16) Z.1 dX8_putNote_8 (by decide) (fun hc => ?_) (fun hc => ?_)
  · have hw := hwt hc
    exact hret _ _ _ _ dX8_putNote_16 hw
  · have hw := hwf hc
    refine ac_aload_n Z.1 0 dX8_putNote_11 rfl ?_
    refine ac_iconst (v := 3) Z.1 dX8_putNote_12 (by decide) ?_
    refine f_put Z b_X8 4 (oT_4 hg) 13 (by decide) (by decide) (fT_53 hg) rfl rfl fX8_53 rfl (I := 53) rfl dX8_putNote_13 ?_
    exact hret _ _ _ _ dX8_putNote_16 hw
def wY_X8_hear_34 (N : Nat → Nat) (Q : f_S3 → Nat × Nat → Prop) : Nat → Int32 → f_S3 → Nat × Nat → Prop
  | 0 => fun _ _ _ => False
  | n + 1 => fun a3 M O => ((a3 < 0 → (Q M O)) ∧ (¬ a3 < 0 → (wY_X8_pop N M O (fun r6 M7 O7 => (wY_X8_setNumber N a3 r6 M7 O7 (fun M8 O8 => (wY_X8_hear_34 N Q n (a3 + (-1)) M8 O8)))))))
set_option maxRecDepth 20000 in
theorem sY_X8_hear_34 {x : ac_X} {g : b_S} (hg : g.1 = tb_T 5) {l : Launch} {O0 : Nat × Nat} {Q : f_S3 → Nat × Nat → Prop} (Z : b_Cx x g l RX8 cX8_hear 4 (2) O0) (hret : f_RV x g 4 cX8_hear O0 Q) : ∀ (n : Nat) (a3 : Int32) (M : f_S3) (O : Nat × Nat), wY_X8_hear_34 (b_N g) Q n a3 M O → f_G x g 4 O0 M O 34 [(0, .ref (b_o g 4)), (3, .int a3)] [] := by
  intro n
  induction n with
  | zero => intro _ _ _ hw; exact hw.elim
  | succ n ih =>
    intro a3 M O hw
    dsimp only [wY_X8_hear_34] at hw
    refine ac_iload_n Z.1 1 dX8_hear_34 rfl ?_
    obtain ⟨hwt, hwf⟩ := hw
    refine ac_if_lt (tgt := 53) Z.1 dX8_hear_35 (by decide) (fun hc => ?_) (fun hc => ?_)
    · have hw := hwt hc
      exact hret _ _ _ _ dX8_hear_53 hw
    · have hw := hwf hc
      refine ac_aload_n Z.1 0 dX8_hear_38 rfl ?_
      refine ac_iload_n Z.1 1 dX8_hear_39 rfl ?_
      refine ac_aload_n Z.1 0 dX8_hear_40 rfl ?_
      refine f_calli (As := []) (st := [.int a3, .ref (b_o g 4)]) Z b_X8.1 4 (oT_4 hg) rfl kX8_pop lkX8_117 (by omega) (soY_X8_pop hg   _ _ _ hw) rfl rfl (Nat.le_of_ble_eq_true rfl) dX8_hear_41 (fun r6 M7 O7 hw => ?_)
      refine f_callv (As := [.int a3, .int r6]) (st := []) Z b_X8.1 4 (oT_4 hg) rfl kX8_setNumber lkX8_107 (by omega) (soY_X8_setNumber hg  _ _ _ _ _ hw) rfl rfl (Nat.le_of_ble_eq_true rfl) dX8_hear_44 (fun M8 O8 hw => ?_)
      refine ac_iinc (w := (a3 + (-1))) (lv' := [(3, .int (a3 + (-1))), (0, .ref (b_o g 4))]) Z.1 1 dX8_hear_47 rfl rfl (by decide) rfl ?_
      refine ac_goto (tgt := 34) Z.1 dX8_hear_50 (by decide) ?_
      refine ac_lv [1, 0] rfl ?_
      exact ih _ _ _ hw
def wY_X8_hear (N : Nat → Nat) (M : f_S3) (O : Nat × Nat) (Q : f_S3 → Nat × Nat → Prop) : Prop := wY_X8_fetch N M O (fun r1 M2 O2 => (wY_X8_fetch N M2 O2 (fun r3 M4 O4 => (((M4.1 50) < 12 → (wY_X8_begin N r1 M4 O4 (fun M5 O5 => (∃ e34, wY_X8_hear_34 N Q e34 (r3 - 1) M5 O5)))) ∧ (¬ (M4.1 50) < 12 → (Q (fm M4 53 3) O4))))))
set_option maxRecDepth 20000 in
theorem soY_X8_hear {l : Launch} {g : b_S} (hg : g.1 = tb_T 5) (M : f_S3) (O : Nat × Nat) (Q : f_S3 → Nat × Nat → Prop) (hw : wY_X8_hear (b_N g)  M O Q) : f_MetV l g yX8_hear cX8_hear 4 (2) [.ref (b_o g 4)] M O Q := by
  refine f_MetV.of (C := RX8) (by decide) rfl (Nat.le_of_ble_eq_true rfl) (fun x Z hret => ?_)
  show f_G x g 4 O M O 0 [(0, .ref (b_o g 4))] []
  refine ac_aload_n Z.1 0 dX8_hear_0 rfl ?_
  refine f_calli (As := []) (st := []) Z b_X8.1 4 (oT_4 hg) rfl kX8_fetch lkX8_56 (by omega) (soY_X8_fetch hg   _ _ _ hw) rfl rfl (Nat.le_of_ble_eq_true rfl) dX8_hear_1 (fun r1 M2 O2 hw => ?_)
  refine ac_istore_n (lv' := [(1, .int r1), (0, .ref (b_o g 4))]) Z.1 dX8_hear_4 (by decide) rfl ?_
  refine ac_aload_n Z.1 1 dX8_hear_5 rfl ?_
  refine f_calli (As := []) (st := []) Z b_X8.1 4 (oT_4 hg) rfl kX8_fetch lkX8_56 (by omega) (soY_X8_fetch hg   _ _ _ hw) rfl rfl (Nat.le_of_ble_eq_true rfl) dX8_hear_6 (fun r3 M4 O4 hw => ?_)
  refine ac_istore_n (lv' := [(2, .int r3), (1, .int r1), (0, .ref (b_o g 4))]) Z.1 dX8_hear_9 (by decide) rfl ?_
  refine ac_aload_n Z.1 2 dX8_hear_10 rfl ?_
  refine f_geti Z b_X8 4 (oT_4 hg) 10 (by decide) (by decide) (fT_50 hg) fX8_91 rfl (v := (M4.1 50)) rfl dX8_hear_11 ?_
  refine ac_bipush (v := 12) Z.1 dX8_hear_14 (by decide) ?_
  obtain ⟨hwt, hwf⟩ := hw
  refine ac_icmp_lt (tgt := 25) Z.1 dX8_hear_16 (by decide) (fun hc => ?_) (fun hc => ?_)
  · have hw := hwt hc
    refine ac_aload_n Z.1 2 dX8_hear_25 rfl ?_
    refine ac_iload_n Z.1 1 dX8_hear_26 rfl ?_
    refine f_callv (As := [.int r1]) (st := []) Z b_X8.1 4 (oT_4 hg) rfl kX8_begin lkX8_100 (by omega) (soY_X8_begin hg  _ _ _ _ hw) rfl rfl (Nat.le_of_ble_eq_true rfl) dX8_hear_27 (fun M5 O5 hw => ?_)
    refine ac_iload_n Z.1 0 dX8_hear_30 rfl ?_
    refine ac_iconst (v := 1) Z.1 dX8_hear_31 (by decide) ?_
    refine ac_isub Z.1 dX8_hear_32 ?_
    refine ac_istore_n (lv' := [(3, .int (r3 - 1)), (2, .int r3), (1, .int r1), (0, .ref (b_o g 4))]) Z.1 dX8_hear_33 (by decide) rfl ?_
    obtain ⟨n, hw⟩ := hw
    refine ac_lv [3, 0] rfl ?_
    exact sY_X8_hear_34 hg Z hret n _ _ _ hw
  · have hw := hwf hc
    refine ac_aload_n Z.1 2 dX8_hear_19 rfl ?_
    refine ac_iconst (v := 3) Z.1 dX8_hear_20 (by decide) ?_
    refine f_put Z b_X8 4 (oT_4 hg) 13 (by decide) (by decide) (fT_53 hg) rfl rfl fX8_53 rfl (I := 53) rfl dX8_hear_21 ?_
    exact hret _ _ _ _ dX8_hear_24 hw
def wY_X8_tryField (N : Nat → Nat) (p1 : Int32) (p2 : Int32) (M : f_S3) (O : Nat × Nat) (Q : Int32 → f_S3 → Nat × Nat → Prop) : Prop := (((p1 * 5) + p2) < 0 → (Q (-1) M O)) ∧ (¬ ((p1 * 5) + p2) < 0 → (((nI (N 18)) ≤ ((p1 * 5) + p2) → (Q (-1) M O)) ∧ (¬ (nI (N 18)) ≤ ((p1 * 5) + p2) → (vp_in ((p1 * 5) + p2) (N 18) ∧ (Q (M.2.1 18 ((p1 * 5) + p2).toNatClampNeg) M O)))))
set_option maxRecDepth 20000 in
theorem soY_X8_tryField {l : Launch} {g : b_S} (hg : g.1 = tb_T 5) (p1 : Int32) (p2 : Int32) (M : f_S3) (O : Nat × Nat) (Q : Int32 → f_S3 → Nat × Nat → Prop) (hw : wY_X8_tryField (b_N g) p1 p2 M O Q) : f_MetI l g yX8_tryField cX8_tryField 4 .int (0) [.ref (b_o g 4), .int p1, .int p2] M O Q := by
  refine f_MetI.of (C := RX8) (by decide) rfl (Nat.le_of_ble_eq_true rfl) (fun x Z hret => ?_)
  show f_G x g 4 O M O 0 [(0, .ref (b_o g 4)), (1, .int p1), (2, .int p2)] []
  refine ac_iload_n Z.1 1 dX8_tryField_0 rfl ?_
  refine ac_iconst (v := 5) Z.1 dX8_tryField_1 (by decide) ?_
  refine ac_imul Z.1 dX8_tryField_2 ?_
  refine ac_iload_n Z.1 2 dX8_tryField_3 rfl ?_
  refine ac_iadd Z.1 dX8_tryField_4 ?_
  refine ac_istore_n (lv' := [(3, .int ((p1 * 5) + p2)), (0, .ref (b_o g 4)), (1, .int p1), (2, .int p2)]) Z.1 dX8_tryField_5 (by decide) rfl ?_
  refine ac_iload_n Z.1 0 dX8_tryField_6 rfl ?_
  obtain ⟨hwt, hwf⟩ := hw
  refine ac_if_lt (tgt := 28) Z.1 dX8_tryField_7 (by decide) (fun hc => ?_) (fun hc => ?_)
  · have hw := hwt hc
    refine ac_iconst (v := (-1)) Z.1 dX8_tryField_28 (by decide) ?_
    exact hret _ _ _ _ _ dX8_tryField_29 rfl hw
  · have hw := hwf hc
    refine ac_iload_n Z.1 0 dX8_tryField_10 rfl ?_
    refine ac_aload_n Z.1 1 dX8_tryField_11 rfl ?_
    refine f_getr Z b_X8 4 (oT_4 hg) 5 (by decide) (by decide) (fT_45 hg) fX8_21 rfl (h2 := (b_o g 18)) rfl dX8_tryField_12 ?_
    refine f_alen Z 9 (aT_18 hg) rfl (v := (nI (b_N g 18))) rfl dX8_tryField_15 (by decide) ?_
    obtain ⟨hwt, hwf⟩ := hw
    refine ac_icmp_ge (tgt := 28) Z.1 dX8_tryField_16 (by decide) (fun hc => ?_) (fun hc => ?_)
    · have hw := hwt hc
      refine ac_iconst (v := (-1)) Z.1 dX8_tryField_28 (by decide) ?_
      exact hret _ _ _ _ _ dX8_tryField_29 rfl hw
    · have hw := hwf hc
      refine ac_aload_n Z.1 1 dX8_tryField_19 rfl ?_
      refine f_getr Z b_X8 4 (oT_4 hg) 5 (by decide) (by decide) (fT_45 hg) fX8_21 rfl (h2 := (b_o g 18)) rfl dX8_tryField_20 ?_
      refine ac_iload_n Z.1 0 dX8_tryField_23 rfl ?_
      obtain ⟨hb1, hw⟩ := hw
      refine f_ald Z 9 (aT_18 hg) rfl hb1 (v := (M.2.1 18 ((p1 * 5) + p2).toNatClampNeg)) rfl dX8_tryField_24 ?_
      refine ac_goto (tgt := 29) Z.1 dX8_tryField_25 (by decide) ?_
      exact hret _ _ _ _ _ dX8_tryField_29 rfl hw
def wY_X8_setTryField (N : Nat → Nat) (p1 : Int32) (p2 : Int32) (p3 : Int32) (M : f_S3) (O : Nat × Nat) (Q : f_S3 → Nat × Nat → Prop) : Prop := (((p1 * 5) + p2) < 0 → (Q M O)) ∧ (¬ ((p1 * 5) + p2) < 0 → (((nI (N 18)) ≤ ((p1 * 5) + p2) → (Q M O)) ∧ (¬ (nI (N 18)) ≤ ((p1 * 5) + p2) → (vp_in ((p1 * 5) + p2) (N 18) ∧ (Q (ff M 18 ((p1 * 5) + p2) p3) O)))))
set_option maxRecDepth 20000 in
theorem soY_X8_setTryField {l : Launch} {g : b_S} (hg : g.1 = tb_T 5) (p1 : Int32) (p2 : Int32) (p3 : Int32) (M : f_S3) (O : Nat × Nat) (Q : f_S3 → Nat × Nat → Prop) (hw : wY_X8_setTryField (b_N g) p1 p2 p3 M O Q) : f_MetV l g yX8_setTryField cX8_setTryField 5 (0) [.ref (b_o g 4), .int p1, .int p2, .int p3] M O Q := by
  refine f_MetV.of (C := RX8) (by decide) rfl (Nat.le_of_ble_eq_true rfl) (fun x Z hret => ?_)
  show f_G x g 5 O M O 0 [(0, .ref (b_o g 4)), (1, .int p1), (2, .int p2), (3, .int p3)] []
  refine ac_iload_n Z.1 1 dX8_setTryField_0 rfl ?_
  refine ac_iconst (v := 5) Z.1 dX8_setTryField_1 (by decide) ?_
  refine ac_imul Z.1 dX8_setTryField_2 ?_
  refine ac_iload_n Z.1 2 dX8_setTryField_3 rfl ?_
  refine ac_iadd Z.1 dX8_setTryField_4 ?_
  refine ac_istore (lv' := [(4, .int ((p1 * 5) + p2)), (0, .ref (b_o g 4)), (1, .int p1), (2, .int p2), (3, .int p3)]) Z.1 dX8_setTryField_5 (by decide) rfl ?_
  refine ac_iload Z.1 0 dX8_setTryField_7 rfl ?_
  obtain ⟨hwt, hwf⟩ := hw
  refine ac_if_lt (tgt := 30) Z.1 dX8_setTryField_9 (by decide) (fun hc => ?_) (fun hc => ?_)
  · have hw := hwt hc
    exact hret _ _ _ _ dX8_setTryField_30 hw
  · have hw := hwf hc
    refine ac_iload Z.1 0 dX8_setTryField_12 rfl ?_
    refine ac_aload_n Z.1 1 dX8_setTryField_14 rfl ?_
    refine f_getr Z b_X8 4 (oT_4 hg) 5 (by decide) (by decide) (fT_45 hg) fX8_21 rfl (h2 := (b_o g 18)) rfl dX8_setTryField_15 ?_
    refine f_alen Z 9 (aT_18 hg) rfl (v := (nI (b_N g 18))) rfl dX8_setTryField_18 (by decide) ?_
    obtain ⟨hwt, hwf⟩ := hw
    refine ac_icmp_ge (tgt := 30) Z.1 dX8_setTryField_19 (by decide) (fun hc => ?_) (fun hc => ?_)
    · have hw := hwt hc
      exact hret _ _ _ _ dX8_setTryField_30 hw
    · have hw := hwf hc
      refine ac_aload_n Z.1 1 dX8_setTryField_22 rfl ?_
      refine f_getr Z b_X8 4 (oT_4 hg) 5 (by decide) (by decide) (fT_45 hg) fX8_21 rfl (h2 := (b_o g 18)) rfl dX8_setTryField_23 ?_
      refine ac_iload Z.1 0 dX8_setTryField_26 rfl ?_
      refine ac_iload_n Z.1 4 dX8_setTryField_28 rfl ?_
      obtain ⟨hb1, hw⟩ := hw
      refine f_ast Z 9 (aT_18 hg) rfl hb1 dX8_setTryField_29 ?_
      exact hret _ _ _ _ dX8_setTryField_30 hw
def wY_X8_doLastly (N : Nat → Nat) (p1 : Int32) (p2 : Int32) (M : f_S3) (O : Nat × Nat) (Q : f_S3 → Nat × Nat → Prop) : Prop := wY_X8_tryField N ((M.1 51) - 1) 2 M O (fun r1 M2 O2 => (wY_X8_tryField N ((M.1 51) - 1) 0 (fm M2 49 r1) O2 (fun r3 M4 O4 => (wY_X8_setTryField N ((M.1 51) - 1) 1 (-1) (fm (fm M4 50 r3) 52 0) O4 (fun M5 O5 => (wY_X8_setTryField N ((M.1 51) - 1) 2 (-1) M5 O5 (fun M6 O6 => (wY_X8_setTryField N ((M.1 51) - 1) 3 p1 M6 O6 (fun M7 O7 => (wY_X8_setTryField N ((M.1 51) - 1) 4 p2 M7 O7 (fun M8 O8 => (Q M8 O8))))))))))))
set_option maxRecDepth 20000 in
theorem soY_X8_doLastly {l : Launch} {g : b_S} (hg : g.1 = tb_T 5) (p1 : Int32) (p2 : Int32) (M : f_S3) (O : Nat × Nat) (Q : f_S3 → Nat × Nat → Prop) (hw : wY_X8_doLastly (b_N g) p1 p2 M O Q) : f_MetV l g yX8_doLastly cX8_doLastly 4 (1) [.ref (b_o g 4), .int p1, .int p2] M O Q := by
  refine f_MetV.of (C := RX8) (by decide) rfl (Nat.le_of_ble_eq_true rfl) (fun x Z hret => ?_)
  show f_G x g 4 O M O 0 [(0, .ref (b_o g 4)), (1, .int p1), (2, .int p2)] []
  refine ac_aload_n Z.1 0 dX8_doLastly_0 rfl ?_
  refine f_geti Z b_X8 4 (oT_4 hg) 11 (by decide) (by decide) (fT_51 hg) fX8_94 rfl (v := (M.1 51)) rfl dX8_doLastly_1 ?_
  refine ac_iconst (v := 1) Z.1 dX8_doLastly_4 (by decide) ?_
  refine ac_isub Z.1 dX8_doLastly_5 ?_
  refine ac_istore_n (lv' := [(3, .int ((M.1 51) - 1)), (0, .ref (b_o g 4)), (1, .int p1), (2, .int p2)]) Z.1 dX8_doLastly_6 (by decide) rfl ?_
  refine ac_aload_n Z.1 1 dX8_doLastly_7 rfl ?_
  refine ac_aload_n Z.1 1 dX8_doLastly_8 rfl ?_
  refine ac_iload_n Z.1 0 dX8_doLastly_9 rfl ?_
  refine ac_iconst (v := 2) Z.1 dX8_doLastly_10 (by decide) ?_
  refine f_calli (As := [.int ((M.1 51) - 1), .int 2]) (st := [.ref (b_o g 4)]) Z b_X8.1 4 (oT_4 hg) rfl kX8_tryField lkX8_219 (by omega) (soY_X8_tryField hg  _ _ _ _ _ hw) rfl rfl (Nat.le_of_ble_eq_true rfl) dX8_doLastly_11 (fun r1 M2 O2 hw => ?_)
  refine f_put Z b_X8 4 (oT_4 hg) 9 (by decide) (by decide) (fT_49 hg) rfl rfl fX8_111 rfl (I := 49) rfl dX8_doLastly_14 ?_
  refine ac_aload_n Z.1 1 dX8_doLastly_17 rfl ?_
  refine ac_aload_n Z.1 1 dX8_doLastly_18 rfl ?_
  refine ac_iload_n Z.1 0 dX8_doLastly_19 rfl ?_
  refine ac_iconst (v := 0) Z.1 dX8_doLastly_20 (by decide) ?_
  refine f_calli (As := [.int ((M.1 51) - 1), .int 0]) (st := [.ref (b_o g 4)]) Z b_X8.1 4 (oT_4 hg) rfl kX8_tryField lkX8_219 (by omega) (soY_X8_tryField hg  _ _ _ _ _ hw) rfl rfl (Nat.le_of_ble_eq_true rfl) dX8_doLastly_21 (fun r3 M4 O4 hw => ?_)
  refine f_put Z b_X8 4 (oT_4 hg) 10 (by decide) (by decide) (fT_50 hg) rfl rfl fX8_91 rfl (I := 50) rfl dX8_doLastly_24 ?_
  refine ac_aload_n Z.1 1 dX8_doLastly_27 rfl ?_
  refine ac_iconst (v := 0) Z.1 dX8_doLastly_28 (by decide) ?_
  refine f_put Z b_X8 4 (oT_4 hg) 12 (by decide) (by decide) (fT_52 hg) rfl rfl fX8_97 rfl (I := 52) rfl dX8_doLastly_29 ?_
  refine ac_aload_n Z.1 1 dX8_doLastly_32 rfl ?_
  refine ac_iload_n Z.1 0 dX8_doLastly_33 rfl ?_
  refine ac_iconst (v := 1) Z.1 dX8_doLastly_34 (by decide) ?_
  refine ac_iconst (v := (-1)) Z.1 dX8_doLastly_35 (by decide) ?_
  refine f_callv (As := [.int ((M.1 51) - 1), .int 1, .int (-1)]) (st := []) Z b_X8.1 4 (oT_4 hg) rfl kX8_setTryField lkX8_216 (by omega) (soY_X8_setTryField hg  _ _ _ _ _ _ hw) rfl rfl (Nat.le_of_ble_eq_true rfl) dX8_doLastly_36 (fun M5 O5 hw => ?_)
  refine ac_aload_n Z.1 1 dX8_doLastly_39 rfl ?_
  refine ac_iload_n Z.1 0 dX8_doLastly_40 rfl ?_
  refine ac_iconst (v := 2) Z.1 dX8_doLastly_41 (by decide) ?_
  refine ac_iconst (v := (-1)) Z.1 dX8_doLastly_42 (by decide) ?_
  refine f_callv (As := [.int ((M.1 51) - 1), .int 2, .int (-1)]) (st := []) Z b_X8.1 4 (oT_4 hg) rfl kX8_setTryField lkX8_216 (by omega) (soY_X8_setTryField hg  _ _ _ _ _ _ hw) rfl rfl (Nat.le_of_ble_eq_true rfl) dX8_doLastly_43 (fun M6 O6 hw => ?_)
  refine ac_aload_n Z.1 1 dX8_doLastly_46 rfl ?_
  refine ac_iload_n Z.1 0 dX8_doLastly_47 rfl ?_
  refine ac_iconst (v := 3) Z.1 dX8_doLastly_48 (by decide) ?_
  refine ac_iload_n Z.1 2 dX8_doLastly_49 rfl ?_
  refine f_callv (As := [.int ((M.1 51) - 1), .int 3, .int p1]) (st := []) Z b_X8.1 4 (oT_4 hg) rfl kX8_setTryField lkX8_216 (by omega) (soY_X8_setTryField hg  _ _ _ _ _ _ hw) rfl rfl (Nat.le_of_ble_eq_true rfl) dX8_doLastly_50 (fun M7 O7 hw => ?_)
  refine ac_aload_n Z.1 1 dX8_doLastly_53 rfl ?_
  refine ac_iload_n Z.1 0 dX8_doLastly_54 rfl ?_
  refine ac_iconst (v := 4) Z.1 dX8_doLastly_55 (by decide) ?_
  refine ac_iload_n Z.1 3 dX8_doLastly_56 rfl ?_
  refine f_callv (As := [.int ((M.1 51) - 1), .int 4, .int p2]) (st := []) Z b_X8.1 4 (oT_4 hg) rfl kX8_setTryField lkX8_216 (by omega) (soY_X8_setTryField hg  _ _ _ _ _ _ hw) rfl rfl (Nat.le_of_ble_eq_true rfl) dX8_doLastly_57 (fun M8 O8 hw => ?_)
  exact hret _ _ _ _ dX8_doLastly_60 hw
def wY_X8_push (N : Nat → Nat) (p1 : Int32) (M : f_S3) (O : Nat × Nat) (Q : f_S3 → Nat × Nat → Prop) : Prop := ((nI (N 19)) ≤ (M.1 52) → (Q M O)) ∧ (¬ (nI (N 19)) ≤ (M.1 52) → (vp_in (M.1 52) (N 19) ∧ (Q (fm (ff M 19 (M.1 52) p1) 52 ((M.1 52) + 1)) O)))
set_option maxRecDepth 20000 in
theorem soY_X8_push {l : Launch} {g : b_S} (hg : g.1 = tb_T 5) (p1 : Int32) (M : f_S3) (O : Nat × Nat) (Q : f_S3 → Nat × Nat → Prop) (hw : wY_X8_push (b_N g) p1 M O Q) : f_MetV l g yX8_push cX8_push 2 (0) [.ref (b_o g 4), .int p1] M O Q := by
  refine f_MetV.of (C := RX8) (by decide) rfl (Nat.le_of_ble_eq_true rfl) (fun x Z hret => ?_)
  show f_G x g 2 O M O 0 [(0, .ref (b_o g 4)), (1, .int p1)] []
  refine ac_aload_n Z.1 0 dX8_push_0 rfl ?_
  refine f_geti Z b_X8 4 (oT_4 hg) 12 (by decide) (by decide) (fT_52 hg) fX8_97 rfl (v := (M.1 52)) rfl dX8_push_1 ?_
  refine ac_aload_n Z.1 0 dX8_push_4 rfl ?_
  refine f_getr Z b_X8 4 (oT_4 hg) 6 (by decide) (by decide) (fT_46 hg) fX8_24 rfl (h2 := (b_o g 19)) rfl dX8_push_5 ?_
  refine f_alen Z 10 (aT_19 hg) rfl (v := (nI (b_N g 19))) rfl dX8_push_8 (by decide) ?_
  obtain ⟨hwt, hwf⟩ := hw
  refine ac_icmp_ge (tgt := 32) Z.1 dX8_push_9 (by decide) (fun hc => ?_) (fun hc => ?_)
  · have hw := hwt hc
    exact hret _ _ _ _ dX8_push_32 hw
  · have hw := hwf hc
    refine ac_aload_n Z.1 0 dX8_push_12 rfl ?_
    refine f_getr Z b_X8 4 (oT_4 hg) 6 (by decide) (by decide) (fT_46 hg) fX8_24 rfl (h2 := (b_o g 19)) rfl dX8_push_13 ?_
    refine ac_aload_n Z.1 0 dX8_push_16 rfl ?_
    refine f_geti Z b_X8 4 (oT_4 hg) 12 (by decide) (by decide) (fT_52 hg) fX8_97 rfl (v := (M.1 52)) rfl dX8_push_17 ?_
    refine ac_iload_n Z.1 1 dX8_push_20 rfl ?_
    obtain ⟨hb1, hw⟩ := hw
    refine f_ast Z 10 (aT_19 hg) rfl hb1 dX8_push_21 ?_
    refine ac_aload_n Z.1 0 dX8_push_22 rfl ?_
    refine ac_dup Z.1 dX8_push_23 rfl ?_
    refine f_geti Z b_X8 4 (oT_4 hg) 12 (by decide) (by decide) (fT_52 hg) fX8_97 rfl (v := (M.1 52)) rfl dX8_push_24 ?_
    refine ac_iconst (v := 1) Z.1 dX8_push_27 (by decide) ?_
    refine ac_iadd Z.1 dX8_push_28 ?_
    refine f_put Z b_X8 4 (oT_4 hg) 12 (by decide) (by decide) (fT_52 hg) rfl rfl fX8_97 rfl (I := 52) rfl dX8_push_29 ?_
    exact hret _ _ _ _ dX8_push_32 hw
def wY_X8_rest_94 (N : Nat → Nat) (Q : f_S3 → Nat × Nat → Prop) (a1 : Int32) (M : f_S3) (O : Nat × Nat) : Prop := Q (fm (fm M 53 1) 55 a1) O
set_option maxRecDepth 20000 in
theorem sY_X8_rest_94 {x : ac_X} {g : b_S} (hg : g.1 = tb_T 5) {l : Launch} {O0 : Nat × Nat} {Q : f_S3 → Nat × Nat → Prop} (Z : b_Cx x g l RX8 cX8_rest 2 (2) O0) (hret : f_RV x g 2 cX8_rest O0 Q) (a1 : Int32) (M : f_S3) (O : Nat × Nat) (hw : wY_X8_rest_94 (b_N g) Q a1 M O) : f_G x g 2 O0 M O 94 [(0, .ref (b_o g 4)), (1, .int a1)] [] := by
  refine ac_aload_n Z.1 0 dX8_rest_94 rfl ?_
  refine ac_iconst (v := 1) Z.1 dX8_rest_95 (by decide) ?_
  refine f_put Z b_X8 4 (oT_4 hg) 13 (by decide) (by decide) (fT_53 hg) rfl rfl fX8_53 rfl (I := 53) rfl dX8_rest_96 ?_
  refine ac_aload_n Z.1 0 dX8_rest_99 rfl ?_
  refine ac_iload_n Z.1 1 dX8_rest_100 rfl ?_
  refine f_put Z b_X8 4 (oT_4 hg) 15 (by decide) (by decide) (fT_55 hg) rfl rfl fX8_80 rfl (I := 55) rfl dX8_rest_101 ?_
  exact hret _ _ _ _ dX8_rest_104 hw
def wY_X8_rest_60 (N : Nat → Nat) (Q : f_S3 → Nat × Nat → Prop) (a1 : Int32) (M : f_S3) (O : Nat × Nat) : Prop := (((M.1 50) - 1) ≤ 0 → (wY_X8_rest_94 N Q a1 (fm (fm M 50 ((M.1 50) - 1)) 52 0) O)) ∧ (¬ ((M.1 50) - 1) ≤ 0 → ((((M.1 50) - 1) < (nI (N 17)) → (vp_in ((M.1 50) - 1) (N 17) ∧ (wY_X8_push N a1 (fm (fm (fm M 50 ((M.1 50) - 1)) 52 0) 49 (M.2.1 17 ((M.1 50) - 1).toNatClampNeg)) O (fun M2 O2 => (Q M2 O2))))) ∧ (¬ ((M.1 50) - 1) < (nI (N 17)) → (wY_X8_rest_94 N Q a1 (fm (fm M 50 ((M.1 50) - 1)) 52 0) O))))
set_option maxRecDepth 20000 in
theorem sY_X8_rest_60 {x : ac_X} {g : b_S} (hg : g.1 = tb_T 5) {l : Launch} {O0 : Nat × Nat} {Q : f_S3 → Nat × Nat → Prop} (Z : b_Cx x g l RX8 cX8_rest 2 (2) O0) (hret : f_RV x g 2 cX8_rest O0 Q) (a1 : Int32) (M : f_S3) (O : Nat × Nat) (hw : wY_X8_rest_60 (b_N g) Q a1 M O) : f_G x g 2 O0 M O 60 [(0, .ref (b_o g 4)), (1, .int a1)] [] := by
  refine ac_aload_n Z.1 0 dX8_rest_60 rfl ?_
  refine ac_dup Z.1 dX8_rest_61 rfl ?_
  refine f_geti Z b_X8 4 (oT_4 hg) 10 (by decide) (by decide) (fT_50 hg) fX8_91 rfl (v := (M.1 50)) rfl dX8_rest_62 ?_
  refine ac_iconst (v := 1) Z.1 dX8_rest_65 (by decide) ?_
  refine ac_isub Z.1 dX8_rest_66 ?_
  refine f_put Z b_X8 4 (oT_4 hg) 10 (by decide) (by decide) (fT_50 hg) rfl rfl fX8_91 rfl (I := 50) rfl dX8_rest_67 ?_
  refine ac_aload_n Z.1 0 dX8_rest_70 rfl ?_
  refine ac_iconst (v := 0) Z.1 dX8_rest_71 (by decide) ?_
  refine f_put Z b_X8 4 (oT_4 hg) 12 (by decide) (by decide) (fT_52 hg) rfl rfl fX8_97 rfl (I := 52) rfl dX8_rest_72 ?_
  refine ac_aload_n Z.1 0 dX8_rest_75 rfl ?_
  refine f_geti Z b_X8 4 (oT_4 hg) 10 (by decide) (by decide) (fT_50 hg) fX8_91 rfl (v := ((M.1 50) - 1)) rfl dX8_rest_76 ?_
  obtain ⟨hwt, hwf⟩ := hw
  refine ac_if_le (tgt := 94) Z.1 dX8_rest_79 (by decide) (fun hc => ?_) (fun hc => ?_)
  · have hw := hwt hc
    exact sY_X8_rest_94 hg Z hret _ _ _ hw
  · have hw := hwf hc
    refine ac_aload_n Z.1 0 dX8_rest_82 rfl ?_
    refine f_geti Z b_X8 4 (oT_4 hg) 10 (by decide) (by decide) (fT_50 hg) fX8_91 rfl (v := ((M.1 50) - 1)) rfl dX8_rest_83 ?_
    refine ac_aload_n Z.1 0 dX8_rest_86 rfl ?_
    refine f_getr Z b_X8 4 (oT_4 hg) 4 (by decide) (by decide) (fT_44 hg) fX8_18 rfl (h2 := (b_o g 17)) rfl dX8_rest_87 ?_
    refine f_alen Z 8 (aT_17 hg) rfl (v := (nI (b_N g 17))) rfl dX8_rest_90 (by decide) ?_
    obtain ⟨hwt, hwf⟩ := hw
    refine ac_icmp_lt (tgt := 105) Z.1 dX8_rest_91 (by decide) (fun hc => ?_) (fun hc => ?_)
    · have hw := hwt hc
      refine ac_aload_n Z.1 0 dX8_rest_105 rfl ?_
      refine ac_aload_n Z.1 0 dX8_rest_106 rfl ?_
      refine f_getr Z b_X8 4 (oT_4 hg) 4 (by decide) (by decide) (fT_44 hg) fX8_18 rfl (h2 := (b_o g 17)) rfl dX8_rest_107 ?_
      refine ac_aload_n Z.1 0 dX8_rest_110 rfl ?_
      refine f_geti Z b_X8 4 (oT_4 hg) 10 (by decide) (by decide) (fT_50 hg) fX8_91 rfl (v := ((M.1 50) - 1)) rfl dX8_rest_111 ?_
      obtain ⟨hb1, hw⟩ := hw
      refine f_ald Z 8 (aT_17 hg) rfl hb1 (v := (M.2.1 17 ((M.1 50) - 1).toNatClampNeg)) rfl dX8_rest_114 ?_
      refine f_put Z b_X8 4 (oT_4 hg) 9 (by decide) (by decide) (fT_49 hg) rfl rfl fX8_111 rfl (I := 49) rfl dX8_rest_115 ?_
      refine ac_aload_n Z.1 0 dX8_rest_118 rfl ?_
      refine ac_iload_n Z.1 1 dX8_rest_119 rfl ?_
      refine f_callv (As := [.int a1]) (st := []) Z b_X8.1 4 (oT_4 hg) rfl kX8_push lkX8_129 (by omega) (soY_X8_push hg  _ _ _ _ hw) rfl rfl (Nat.le_of_ble_eq_true rfl) dX8_rest_120 (fun M2 O2 hw => ?_)
      exact hret _ _ _ _ dX8_rest_123 hw
    · have hw := hwf hc
      exact sY_X8_rest_94 hg Z hret _ _ _ hw
def wY_X8_rest_0 (N : Nat → Nat) (Q : f_S3 → Nat × Nat → Prop) : Nat → Int32 → f_S3 → Nat × Nat → Prop
  | 0 => fun _ _ _ => False
  | n + 1 => fun a1 M O => (((M.1 51) ≤ 0 → (wY_X8_rest_60 N Q a1 M O)) ∧ (¬ (M.1 51) ≤ 0 → (wY_X8_tryField N ((M.1 51) - 1) 0 M O (fun r3 M4 O4 => ((¬ r3 = (M4.1 50) → (wY_X8_rest_60 N Q a1 M4 O4)) ∧ (r3 = (M4.1 50) → (wY_X8_tryField N ((M4.1 51) - 1) 2 M4 O4 (fun r5 M6 O6 => ((r5 = (-1) → (wY_X8_rest_0 N Q n a1 (fm M6 51 ((M6.1 51) - 1)) O6)) ∧ (¬ r5 = (-1) → (wY_X8_doLastly N 2 a1 M6 O6 (fun M7 O7 => (Q M7 O7)))))))))))))
set_option maxRecDepth 20000 in
theorem sY_X8_rest_0 {x : ac_X} {g : b_S} (hg : g.1 = tb_T 5) {l : Launch} {O0 : Nat × Nat} {Q : f_S3 → Nat × Nat → Prop} (Z : b_Cx x g l RX8 cX8_rest 2 (2) O0) (hret : f_RV x g 2 cX8_rest O0 Q) : ∀ (n : Nat) (a1 : Int32) (M : f_S3) (O : Nat × Nat), wY_X8_rest_0 (b_N g) Q n a1 M O → f_G x g 2 O0 M O 0 [(0, .ref (b_o g 4)), (1, .int a1)] [] := by
  intro n
  induction n with
  | zero => intro _ _ _ hw; exact hw.elim
  | succ n ih =>
    intro a1 M O hw
    dsimp only [wY_X8_rest_0] at hw
    refine ac_aload_n Z.1 0 dX8_rest_0 rfl ?_
    refine f_geti Z b_X8 4 (oT_4 hg) 11 (by decide) (by decide) (fT_51 hg) fX8_94 rfl (v := (M.1 51)) rfl dX8_rest_1 ?_
    obtain ⟨hwt, hwf⟩ := hw
    refine ac_if_le (tgt := 60) Z.1 dX8_rest_4 (by decide) (fun hc => ?_) (fun hc => ?_)
    · have hw := hwt hc
      exact sY_X8_rest_60 hg Z hret _ _ _ hw
    · have hw := hwf hc
      refine ac_aload_n Z.1 0 dX8_rest_7 rfl ?_
      refine ac_aload_n Z.1 0 dX8_rest_8 rfl ?_
      refine f_geti Z b_X8 4 (oT_4 hg) 11 (by decide) (by decide) (fT_51 hg) fX8_94 rfl (v := (M.1 51)) rfl dX8_rest_9 ?_
      refine ac_iconst (v := 1) Z.1 dX8_rest_12 (by decide) ?_
      refine ac_isub Z.1 dX8_rest_13 ?_
      refine ac_iconst (v := 0) Z.1 dX8_rest_14 (by decide) ?_
      refine f_calli (As := [.int ((M.1 51) - 1), .int 0]) (st := []) Z b_X8.1 4 (oT_4 hg) rfl kX8_tryField lkX8_219 (by omega) (soY_X8_tryField hg  _ _ _ _ _ hw) rfl rfl (Nat.le_of_ble_eq_true rfl) dX8_rest_15 (fun r3 M4 O4 hw => ?_)
      refine ac_aload_n Z.1 0 dX8_rest_18 rfl ?_
      refine f_geti Z b_X8 4 (oT_4 hg) 10 (by decide) (by decide) (fT_50 hg) fX8_91 rfl (v := (M4.1 50)) rfl dX8_rest_19 ?_
      obtain ⟨hwt, hwf⟩ := hw
      refine ac_icmp_ne (tgt := 60) Z.1 dX8_rest_22 (by decide) (fun hc => ?_) (fun hc => ?_)
      · have hw := hwt hc
        exact sY_X8_rest_60 hg Z hret _ _ _ hw
      · have hw := hwf hc
        refine ac_aload_n Z.1 0 dX8_rest_25 rfl ?_
        refine ac_aload_n Z.1 0 dX8_rest_26 rfl ?_
        refine f_geti Z b_X8 4 (oT_4 hg) 11 (by decide) (by decide) (fT_51 hg) fX8_94 rfl (v := (M4.1 51)) rfl dX8_rest_27 ?_
        refine ac_iconst (v := 1) Z.1 dX8_rest_30 (by decide) ?_
        refine ac_isub Z.1 dX8_rest_31 ?_
        refine ac_iconst (v := 2) Z.1 dX8_rest_32 (by decide) ?_
        refine f_calli (As := [.int ((M4.1 51) - 1), .int 2]) (st := []) Z b_X8.1 4 (oT_4 hg) rfl kX8_tryField lkX8_219 (by omega) (soY_X8_tryField hg  _ _ _ _ _ hw) rfl rfl (Nat.le_of_ble_eq_true rfl) dX8_rest_33 (fun r5 M6 O6 hw => ?_)
        refine ac_iconst (v := (-1)) Z.1 dX8_rest_36 (by decide) ?_
        obtain ⟨hwt, hwf⟩ := hw
        refine ac_icmp_eq (tgt := 47) Z.1 dX8_rest_37 (by decide) (fun hc => ?_) (fun hc => ?_)
        · have hw := hwt hc
          refine ac_aload_n Z.1 0 dX8_rest_47 rfl ?_
          refine ac_dup Z.1 dX8_rest_48 rfl ?_
          refine f_geti Z b_X8 4 (oT_4 hg) 11 (by decide) (by decide) (fT_51 hg) fX8_94 rfl (v := (M6.1 51)) rfl dX8_rest_49 ?_
          refine ac_iconst (v := 1) Z.1 dX8_rest_52 (by decide) ?_
          refine ac_isub Z.1 dX8_rest_53 ?_
          refine f_put Z b_X8 4 (oT_4 hg) 11 (by decide) (by decide) (fT_51 hg) rfl rfl fX8_94 rfl (I := 51) rfl dX8_rest_54 ?_
          refine ac_goto (tgt := 0) Z.1 dX8_rest_57 (by decide) ?_
          exact ih _ _ _ hw
        · have hw := hwf hc
          refine ac_aload_n Z.1 0 dX8_rest_40 rfl ?_
          refine ac_iconst (v := 2) Z.1 dX8_rest_41 (by decide) ?_
          refine ac_iload_n Z.1 1 dX8_rest_42 rfl ?_
          refine f_callv (As := [.int 2, .int a1]) (st := []) Z b_X8.1 4 (oT_4 hg) rfl kX8_doLastly lkX8_201 (by omega) (soY_X8_doLastly hg  _ _ _ _ _ hw) rfl rfl (Nat.le_of_ble_eq_true rfl) dX8_rest_43 (fun M7 O7 hw => ?_)
          exact hret _ _ _ _ dX8_rest_46 hw
def wY_X8_rest (N : Nat → Nat) (p1 : Int32) (M : f_S3) (O : Nat × Nat) (Q : f_S3 → Nat × Nat → Prop) : Prop := ∃ e0, wY_X8_rest_0 N Q e0 p1 M O
set_option maxRecDepth 20000 in
theorem soY_X8_rest {l : Launch} {g : b_S} (hg : g.1 = tb_T 5) (p1 : Int32) (M : f_S3) (O : Nat × Nat) (Q : f_S3 → Nat × Nat → Prop) (hw : wY_X8_rest (b_N g) p1 M O Q) : f_MetV l g yX8_rest cX8_rest 2 (2) [.ref (b_o g 4), .int p1] M O Q := by
  refine f_MetV.of (C := RX8) (by decide) rfl (Nat.le_of_ble_eq_true rfl) (fun x Z hret => ?_)
  show f_G x g 2 O M O 0 [(0, .ref (b_o g 4)), (1, .int p1)] []
  obtain ⟨n, hw⟩ := hw
  exact sY_X8_rest_0 hg Z hret n _ _ _ hw
def wY_X8_openTry (N : Nat → Nat) (M : f_S3) (O : Nat × Nat) (Q : f_S3 → Nat × Nat → Prop) : Prop := wY_X8_fetch N M O (fun r1 M2 O2 => (wY_X8_fetch N M2 O2 (fun r3 M4 O4 => (wY_X8_setTryField N (M4.1 51) 0 (M4.1 50) M4 O4 (fun M5 O5 => (wY_X8_setTryField N (M5.1 51) 1 r1 M5 O5 (fun M6 O6 => (wY_X8_setTryField N (M6.1 51) 2 r3 M6 O6 (fun M7 O7 => (Q (fm M7 51 ((M7.1 51) + 1)) O7))))))))))
set_option maxRecDepth 20000 in
theorem soY_X8_openTry {l : Launch} {g : b_S} (hg : g.1 = tb_T 5) (M : f_S3) (O : Nat × Nat) (Q : f_S3 → Nat × Nat → Prop) (hw : wY_X8_openTry (b_N g)  M O Q) : f_MetV l g yX8_openTry cX8_openTry 3 (2) [.ref (b_o g 4)] M O Q := by
  refine f_MetV.of (C := RX8) (by decide) rfl (Nat.le_of_ble_eq_true rfl) (fun x Z hret => ?_)
  show f_G x g 3 O M O 0 [(0, .ref (b_o g 4))] []
  refine ac_aload_n Z.1 0 dX8_openTry_0 rfl ?_
  refine f_calli (As := []) (st := []) Z b_X8.1 4 (oT_4 hg) rfl kX8_fetch lkX8_56 (by omega) (soY_X8_fetch hg   _ _ _ hw) rfl rfl (Nat.le_of_ble_eq_true rfl) dX8_openTry_1 (fun r1 M2 O2 hw => ?_)
  refine ac_istore_n (lv' := [(1, .int r1), (0, .ref (b_o g 4))]) Z.1 dX8_openTry_4 (by decide) rfl ?_
  refine ac_aload_n Z.1 1 dX8_openTry_5 rfl ?_
  refine f_calli (As := []) (st := []) Z b_X8.1 4 (oT_4 hg) rfl kX8_fetch lkX8_56 (by omega) (soY_X8_fetch hg   _ _ _ hw) rfl rfl (Nat.le_of_ble_eq_true rfl) dX8_openTry_6 (fun r3 M4 O4 hw => ?_)
  refine ac_istore_n (lv' := [(2, .int r3), (1, .int r1), (0, .ref (b_o g 4))]) Z.1 dX8_openTry_9 (by decide) rfl ?_
  refine ac_aload_n Z.1 2 dX8_openTry_10 rfl ?_
  refine ac_aload_n Z.1 2 dX8_openTry_11 rfl ?_
  refine f_geti Z b_X8 4 (oT_4 hg) 11 (by decide) (by decide) (fT_51 hg) fX8_94 rfl (v := (M4.1 51)) rfl dX8_openTry_12 ?_
  refine ac_iconst (v := 0) Z.1 dX8_openTry_15 (by decide) ?_
  refine ac_aload_n Z.1 2 dX8_openTry_16 rfl ?_
  refine f_geti Z b_X8 4 (oT_4 hg) 10 (by decide) (by decide) (fT_50 hg) fX8_91 rfl (v := (M4.1 50)) rfl dX8_openTry_17 ?_
  refine f_callv (As := [.int (M4.1 51), .int 0, .int (M4.1 50)]) (st := []) Z b_X8.1 4 (oT_4 hg) rfl kX8_setTryField lkX8_216 (by omega) (soY_X8_setTryField hg  _ _ _ _ _ _ hw) rfl rfl (Nat.le_of_ble_eq_true rfl) dX8_openTry_20 (fun M5 O5 hw => ?_)
  refine ac_aload_n Z.1 2 dX8_openTry_23 rfl ?_
  refine ac_aload_n Z.1 2 dX8_openTry_24 rfl ?_
  refine f_geti Z b_X8 4 (oT_4 hg) 11 (by decide) (by decide) (fT_51 hg) fX8_94 rfl (v := (M5.1 51)) rfl dX8_openTry_25 ?_
  refine ac_iconst (v := 1) Z.1 dX8_openTry_28 (by decide) ?_
  refine ac_iload_n Z.1 1 dX8_openTry_29 rfl ?_
  refine f_callv (As := [.int (M5.1 51), .int 1, .int r1]) (st := []) Z b_X8.1 4 (oT_4 hg) rfl kX8_setTryField lkX8_216 (by omega) (soY_X8_setTryField hg  _ _ _ _ _ _ hw) rfl rfl (Nat.le_of_ble_eq_true rfl) dX8_openTry_30 (fun M6 O6 hw => ?_)
  refine ac_aload_n Z.1 2 dX8_openTry_33 rfl ?_
  refine ac_aload_n Z.1 2 dX8_openTry_34 rfl ?_
  refine f_geti Z b_X8 4 (oT_4 hg) 11 (by decide) (by decide) (fT_51 hg) fX8_94 rfl (v := (M6.1 51)) rfl dX8_openTry_35 ?_
  refine ac_iconst (v := 2) Z.1 dX8_openTry_38 (by decide) ?_
  refine ac_iload_n Z.1 0 dX8_openTry_39 rfl ?_
  refine f_callv (As := [.int (M6.1 51), .int 2, .int r3]) (st := []) Z b_X8.1 4 (oT_4 hg) rfl kX8_setTryField lkX8_216 (by omega) (soY_X8_setTryField hg  _ _ _ _ _ _ hw) rfl rfl (Nat.le_of_ble_eq_true rfl) dX8_openTry_40 (fun M7 O7 hw => ?_)
  refine ac_aload_n Z.1 2 dX8_openTry_43 rfl ?_
  refine ac_dup Z.1 dX8_openTry_44 rfl ?_
  refine f_geti Z b_X8 4 (oT_4 hg) 11 (by decide) (by decide) (fT_51 hg) fX8_94 rfl (v := (M7.1 51)) rfl dX8_openTry_45 ?_
  refine ac_iconst (v := 1) Z.1 dX8_openTry_48 (by decide) ?_
  refine ac_iadd Z.1 dX8_openTry_49 ?_
  refine f_put Z b_X8 4 (oT_4 hg) 11 (by decide) (by decide) (fT_51 hg) rfl rfl fX8_94 rfl (I := 51) rfl dX8_openTry_50 ?_
  exact hret _ _ _ _ dX8_openTry_53 hw
def wY_X8_goOnBehindLastly (N : Nat → Nat) (M : f_S3) (O : Nat × Nat) (Q : f_S3 → Nat × Nat → Prop) : Prop := wY_X8_tryField N ((M.1 51) - 1) 4 (fm M 51 ((M.1 51) - 1)) O (fun r1 M2 O2 => (wY_X8_tryField N (M2.1 51) 3 M2 O2 (fun r3 M4 O4 => ((r3 = 1 → (Q (fm M4 54 r1) O4)) ∧ (r3 = 2 → (wY_X8_rest N r1 M4 O4 (fun M5 O5 => (Q M5 O5)))) ∧ (¬ r3 = 1 → ¬ r3 = 2 → (Q M4 O4))))))
set_option maxRecDepth 20000 in
theorem soY_X8_goOnBehindLastly {l : Launch} {g : b_S} (hg : g.1 = tb_T 5) (M : f_S3) (O : Nat × Nat) (Q : f_S3 → Nat × Nat → Prop) (hw : wY_X8_goOnBehindLastly (b_N g)  M O Q) : f_MetV l g yX8_goOnBehindLastly cX8_goOnBehindLastly 2 (3) [.ref (b_o g 4)] M O Q := by
  refine f_MetV.of (C := RX8) (by decide) rfl (Nat.le_of_ble_eq_true rfl) (fun x Z hret => ?_)
  show f_G x g 2 O M O 0 [(0, .ref (b_o g 4))] []
  refine ac_aload_n Z.1 0 dX8_goOnBehindLastly_0 rfl ?_
  refine ac_dup Z.1 dX8_goOnBehindLastly_1 rfl ?_
  refine f_geti Z b_X8 4 (oT_4 hg) 11 (by decide) (by decide) (fT_51 hg) fX8_94 rfl (v := (M.1 51)) rfl dX8_goOnBehindLastly_2 ?_
  refine ac_iconst (v := 1) Z.1 dX8_goOnBehindLastly_5 (by decide) ?_
  refine ac_isub Z.1 dX8_goOnBehindLastly_6 ?_
  refine f_put Z b_X8 4 (oT_4 hg) 11 (by decide) (by decide) (fT_51 hg) rfl rfl fX8_94 rfl (I := 51) rfl dX8_goOnBehindLastly_7 ?_
  refine ac_aload_n Z.1 0 dX8_goOnBehindLastly_10 rfl ?_
  refine ac_aload_n Z.1 0 dX8_goOnBehindLastly_11 rfl ?_
  refine f_geti Z b_X8 4 (oT_4 hg) 11 (by decide) (by decide) (fT_51 hg) fX8_94 rfl (v := ((M.1 51) - 1)) rfl dX8_goOnBehindLastly_12 ?_
  refine ac_iconst (v := 4) Z.1 dX8_goOnBehindLastly_15 (by decide) ?_
  refine f_calli (As := [.int ((M.1 51) - 1), .int 4]) (st := []) Z b_X8.1 4 (oT_4 hg) rfl kX8_tryField lkX8_219 (by omega) (soY_X8_tryField hg  _ _ _ _ _ hw) rfl rfl (Nat.le_of_ble_eq_true rfl) dX8_goOnBehindLastly_16 (fun r1 M2 O2 hw => ?_)
  refine ac_istore_n (lv' := [(1, .int r1), (0, .ref (b_o g 4))]) Z.1 dX8_goOnBehindLastly_19 (by decide) rfl ?_
  refine ac_aload_n Z.1 1 dX8_goOnBehindLastly_20 rfl ?_
  refine ac_aload_n Z.1 1 dX8_goOnBehindLastly_21 rfl ?_
  refine f_geti Z b_X8 4 (oT_4 hg) 11 (by decide) (by decide) (fT_51 hg) fX8_94 rfl (v := (M2.1 51)) rfl dX8_goOnBehindLastly_22 ?_
  refine ac_iconst (v := 3) Z.1 dX8_goOnBehindLastly_25 (by decide) ?_
  refine f_calli (As := [.int (M2.1 51), .int 3]) (st := []) Z b_X8.1 4 (oT_4 hg) rfl kX8_tryField lkX8_219 (by omega) (soY_X8_tryField hg  _ _ _ _ _ hw) rfl rfl (Nat.le_of_ble_eq_true rfl) dX8_goOnBehindLastly_26 (fun r3 M4 O4 hw => ?_)
  obtain ⟨hwk, hw⟩ := hw
  by_cases hk0 : r3 = 1
  · have hw := hwk hk0
    refine ac_lookup (off := 27) (tgt := 56) Z.1 dX8_goOnBehindLastly_29 (by decide) (by rw [hk0]; rfl) (by decide) ?_
    refine ac_aload_n Z.1 1 dX8_goOnBehindLastly_56 rfl ?_
    refine ac_iload_n Z.1 0 dX8_goOnBehindLastly_57 rfl ?_
    refine f_put Z b_X8 4 (oT_4 hg) 14 (by decide) (by decide) (fT_54 hg) rfl rfl fX8_74 rfl (I := 54) rfl dX8_goOnBehindLastly_58 ?_
    refine ac_goto (tgt := 72) Z.1 dX8_goOnBehindLastly_61 (by decide) ?_
    exact hret _ _ _ _ dX8_goOnBehindLastly_72 hw
  obtain ⟨hwk, hw⟩ := hw
  by_cases hk1 : r3 = 2
  · have hw := hwk hk1
    refine ac_lookup (off := 35) (tgt := 64) Z.1 dX8_goOnBehindLastly_29 (by decide) (by rw [hk1]; rfl) (by decide) ?_
    refine ac_aload_n Z.1 1 dX8_goOnBehindLastly_64 rfl ?_
    refine ac_iload_n Z.1 0 dX8_goOnBehindLastly_65 rfl ?_
    refine f_callv (As := [.int r1]) (st := []) Z b_X8.1 4 (oT_4 hg) rfl kX8_rest lkX8_197 (by omega) (soY_X8_rest hg  _ _ _ _ hw) rfl rfl (Nat.le_of_ble_eq_true rfl) dX8_goOnBehindLastly_66 (fun M5 O5 hw => ?_)
    refine ac_goto (tgt := 72) Z.1 dX8_goOnBehindLastly_69 (by decide) ?_
    exact hret _ _ _ _ dX8_goOnBehindLastly_72 hw
  have hw := hw hk0 hk1
  refine ac_lookup (off := 43) (tgt := 72) Z.1 dX8_goOnBehindLastly_29 (by decide) ((lv_osw hk0 (show (1 : Int32).toInt = 1 by decide)).trans ((lv_osw hk1 (show (2 : Int32).toInt = 2 by decide)).trans rfl)) (by decide) ?_
  exact hret _ _ _ _ dX8_goOnBehindLastly_72 hw
def wY_X8_doCourse (N : Nat → Nat) (p1 : Int32) (M : f_S3) (O : Nat × Nat) (Q : f_S3 → Nat × Nat → Prop) : Prop := (p1 = 0 → (wY_X8_countStep N M O (fun M1 O1 => (Q M1 O1)))) ∧ (p1 = 1 → (wY_X8_pop N M O (fun r2 M3 O3 => (wY_X8_putNote N r2 M3 O3 (fun M4 O4 => (Q M4 O4)))))) ∧ (p1 = 2 → (wY_X8_hear N M O (fun M5 O5 => (Q M5 O5)))) ∧ (p1 = 3 → (wY_X8_pop N M O (fun r6 M7 O7 => (wY_X8_rest N r6 M7 O7 (fun M8 O8 => (Q M8 O8)))))) ∧ (p1 = 4 → (wY_X8_openTry N M O (fun M9 O9 => (Q M9 O9)))) ∧ (p1 = 5 → (wY_X8_doLastly N 0 0 M O (fun M10 O10 => (Q M10 O10)))) ∧ (p1 = 6 → (wY_X8_goOnBehindLastly N M O (fun M11 O11 => (Q M11 O11)))) ∧ (¬ p1 = 0 → ¬ p1 = 1 → ¬ p1 = 2 → ¬ p1 = 3 → ¬ p1 = 4 → ¬ p1 = 5 → ¬ p1 = 6 → (Q (fm M 53 3) O))
set_option maxRecDepth 20000 in
theorem soY_X8_doCourse {l : Launch} {g : b_S} (hg : g.1 = tb_T 5) (p1 : Int32) (M : f_S3) (O : Nat × Nat) (Q : f_S3 → Nat × Nat → Prop) (hw : wY_X8_doCourse (b_N g) p1 M O Q) : f_MetV l g yX8_doCourse cX8_doCourse 2 (4) [.ref (b_o g 4), .int p1] M O Q := by
  refine f_MetV.of (C := RX8) (by decide) rfl (Nat.le_of_ble_eq_true rfl) (fun x Z hret => ?_)
  show f_G x g 2 O M O 0 [(0, .ref (b_o g 4)), (1, .int p1)] []
  refine ac_iload_n Z.1 1 dX8_doCourse_0 rfl ?_
  obtain ⟨hwk, hw⟩ := hw
  by_cases hk0 : p1 = 0
  · have hw := hwk hk0
    refine ac_tableIn (off := 43) (tgt := 44) Z.1 dX8_doCourse_1 (by rw [hk0]; decide) (by rw [hk0]; decide) (by rw [hk0]; rfl) (by decide) ?_
    refine ac_aload_n Z.1 0 dX8_doCourse_44 rfl ?_
    refine f_callv (As := []) (st := []) Z b_X8.1 4 (oT_4 hg) rfl kX8_countStep lkX8_191 (by omega) (soY_X8_countStep hg   _ _ _ hw) rfl rfl (Nat.le_of_ble_eq_true rfl) dX8_doCourse_45 (fun M1 O1 hw => ?_)
    refine ac_goto (tgt := 108) Z.1 dX8_doCourse_48 (by decide) ?_
    exact hret _ _ _ _ dX8_doCourse_108 hw
  obtain ⟨hwk, hw⟩ := hw
  by_cases hk1 : p1 = 1
  · have hw := hwk hk1
    refine ac_tableIn (off := 50) (tgt := 51) Z.1 dX8_doCourse_1 (by rw [hk1]; decide) (by rw [hk1]; decide) (by rw [hk1]; rfl) (by decide) ?_
    refine ac_aload_n Z.1 0 dX8_doCourse_51 rfl ?_
    refine ac_aload_n Z.1 0 dX8_doCourse_52 rfl ?_
    refine f_calli (As := []) (st := [.ref (b_o g 4)]) Z b_X8.1 4 (oT_4 hg) rfl kX8_pop lkX8_117 (by omega) (soY_X8_pop hg   _ _ _ hw) rfl rfl (Nat.le_of_ble_eq_true rfl) dX8_doCourse_53 (fun r2 M3 O3 hw => ?_)
    refine f_callv (As := [.int r2]) (st := []) Z b_X8.1 4 (oT_4 hg) rfl kX8_putNote lkX8_159 (by omega) (soY_X8_putNote hg  _ _ _ _ hw) rfl rfl (Nat.le_of_ble_eq_true rfl) dX8_doCourse_56 (fun M4 O4 hw => ?_)
    refine ac_goto (tgt := 108) Z.1 dX8_doCourse_59 (by decide) ?_
    exact hret _ _ _ _ dX8_doCourse_108 hw
  obtain ⟨hwk, hw⟩ := hw
  by_cases hk2 : p1 = 2
  · have hw := hwk hk2
    refine ac_tableIn (off := 61) (tgt := 62) Z.1 dX8_doCourse_1 (by rw [hk2]; decide) (by rw [hk2]; decide) (by rw [hk2]; rfl) (by decide) ?_
    refine ac_aload_n Z.1 0 dX8_doCourse_62 rfl ?_
    refine f_callv (As := []) (st := []) Z b_X8.1 4 (oT_4 hg) rfl kX8_hear lkX8_194 (by omega) (soY_X8_hear hg   _ _ _ hw) rfl rfl (Nat.le_of_ble_eq_true rfl) dX8_doCourse_63 (fun M5 O5 hw => ?_)
    refine ac_goto (tgt := 108) Z.1 dX8_doCourse_66 (by decide) ?_
    exact hret _ _ _ _ dX8_doCourse_108 hw
  obtain ⟨hwk, hw⟩ := hw
  by_cases hk3 : p1 = 3
  · have hw := hwk hk3
    refine ac_tableIn (off := 68) (tgt := 69) Z.1 dX8_doCourse_1 (by rw [hk3]; decide) (by rw [hk3]; decide) (by rw [hk3]; rfl) (by decide) ?_
    refine ac_aload_n Z.1 0 dX8_doCourse_69 rfl ?_
    refine ac_aload_n Z.1 0 dX8_doCourse_70 rfl ?_
    refine f_calli (As := []) (st := [.ref (b_o g 4)]) Z b_X8.1 4 (oT_4 hg) rfl kX8_pop lkX8_117 (by omega) (soY_X8_pop hg   _ _ _ hw) rfl rfl (Nat.le_of_ble_eq_true rfl) dX8_doCourse_71 (fun r6 M7 O7 hw => ?_)
    refine f_callv (As := [.int r6]) (st := []) Z b_X8.1 4 (oT_4 hg) rfl kX8_rest lkX8_197 (by omega) (soY_X8_rest hg  _ _ _ _ hw) rfl rfl (Nat.le_of_ble_eq_true rfl) dX8_doCourse_74 (fun M8 O8 hw => ?_)
    refine ac_goto (tgt := 108) Z.1 dX8_doCourse_77 (by decide) ?_
    exact hret _ _ _ _ dX8_doCourse_108 hw
  obtain ⟨hwk, hw⟩ := hw
  by_cases hk4 : p1 = 4
  · have hw := hwk hk4
    refine ac_tableIn (off := 79) (tgt := 80) Z.1 dX8_doCourse_1 (by rw [hk4]; decide) (by rw [hk4]; decide) (by rw [hk4]; rfl) (by decide) ?_
    refine ac_aload_n Z.1 0 dX8_doCourse_80 rfl ?_
    refine f_callv (As := []) (st := []) Z b_X8.1 4 (oT_4 hg) rfl kX8_openTry lkX8_198 (by omega) (soY_X8_openTry hg   _ _ _ hw) rfl rfl (Nat.le_of_ble_eq_true rfl) dX8_doCourse_81 (fun M9 O9 hw => ?_)
    refine ac_goto (tgt := 108) Z.1 dX8_doCourse_84 (by decide) ?_
    exact hret _ _ _ _ dX8_doCourse_108 hw
  obtain ⟨hwk, hw⟩ := hw
  by_cases hk5 : p1 = 5
  · have hw := hwk hk5
    refine ac_tableIn (off := 86) (tgt := 87) Z.1 dX8_doCourse_1 (by rw [hk5]; decide) (by rw [hk5]; decide) (by rw [hk5]; rfl) (by decide) ?_
    refine ac_aload_n Z.1 0 dX8_doCourse_87 rfl ?_
    refine ac_iconst (v := 0) Z.1 dX8_doCourse_88 (by decide) ?_
    refine ac_iconst (v := 0) Z.1 dX8_doCourse_89 (by decide) ?_
    refine f_callv (As := [.int 0, .int 0]) (st := []) Z b_X8.1 4 (oT_4 hg) rfl kX8_doLastly lkX8_201 (by omega) (soY_X8_doLastly hg  _ _ _ _ _ hw) rfl rfl (Nat.le_of_ble_eq_true rfl) dX8_doCourse_90 (fun M10 O10 hw => ?_)
    refine ac_goto (tgt := 108) Z.1 dX8_doCourse_93 (by decide) ?_
    exact hret _ _ _ _ dX8_doCourse_108 hw
  obtain ⟨hwk, hw⟩ := hw
  by_cases hk6 : p1 = 6
  · have hw := hwk hk6
    refine ac_tableIn (off := 95) (tgt := 96) Z.1 dX8_doCourse_1 (by rw [hk6]; decide) (by rw [hk6]; decide) (by rw [hk6]; rfl) (by decide) ?_
    refine ac_aload_n Z.1 0 dX8_doCourse_96 rfl ?_
    refine f_callv (As := []) (st := []) Z b_X8.1 4 (oT_4 hg) rfl kX8_goOnBehindLastly lkX8_204 (by omega) (soY_X8_goOnBehindLastly hg   _ _ _ hw) rfl rfl (Nat.le_of_ble_eq_true rfl) dX8_doCourse_97 (fun M11 O11 hw => ?_)
    refine ac_goto (tgt := 108) Z.1 dX8_doCourse_100 (by decide) ?_
    exact hret _ _ _ _ dX8_doCourse_108 hw
  have hw := hw hk0 hk1 hk2 hk3 hk4 hk5 hk6
  refine ac_tableOut (tgt := 103) Z.1 dX8_doCourse_1 (by have q0 := lv_neT hk0 (show (0 : Int32).toInt = 0 by decide); have q1 := lv_neT hk1 (show (1 : Int32).toInt = 1 by decide); have q2 := lv_neT hk2 (show (2 : Int32).toInt = 2 by decide); have q3 := lv_neT hk3 (show (3 : Int32).toInt = 3 by decide); have q4 := lv_neT hk4 (show (4 : Int32).toInt = 4 by decide); have q5 := lv_neT hk5 (show (5 : Int32).toInt = 5 by decide); have q6 := lv_neT hk6 (show (6 : Int32).toInt = 6 by decide); omega) (by decide) ?_
  refine ac_aload_n Z.1 0 dX8_doCourse_103 rfl ?_
  refine ac_iconst (v := 3) Z.1 dX8_doCourse_104 (by decide) ?_
  refine f_put Z b_X8 4 (oT_4 hg) 13 (by decide) (by decide) (fT_53 hg) rfl rfl fX8_53 rfl (I := 53) rfl dX8_doCourse_105 ?_
  exact hret _ _ _ _ dX8_doCourse_108 hw
def wY_X8_numberAt (N : Nat → Nat) (p1 : Int32) (M : f_S3) (O : Nat × Nat) (Q : Int32 → f_S3 → Nat × Nat → Prop) : Prop := (((((M.1 50) - 1) * 12) + p1) < 0 → (Q 0 M O)) ∧ (¬ ((((M.1 50) - 1) * 12) + p1) < 0 → (((nI (N 15)) ≤ ((((M.1 50) - 1) * 12) + p1) → (Q 0 M O)) ∧ (¬ (nI (N 15)) ≤ ((((M.1 50) - 1) * 12) + p1) → (vp_in ((((M.1 50) - 1) * 12) + p1) (N 15) ∧ (∀ v2, v2 = (M.2.1 15 ((((M.1 50) - 1) * 12) + p1).toNatClampNeg) → (Q v2 M O))))))
set_option maxRecDepth 20000 in
theorem soY_X8_numberAt {l : Launch} {g : b_S} (hg : g.1 = tb_T 5) (p1 : Int32) (M : f_S3) (O : Nat × Nat) (Q : Int32 → f_S3 → Nat × Nat → Prop) (hw : wY_X8_numberAt (b_N g) p1 M O Q) : f_MetI l g yX8_numberAt cX8_numberAt 3 .int (0) [.ref (b_o g 4), .int p1] M O Q := by
  refine f_MetI.of (C := RX8) (by decide) rfl (Nat.le_of_ble_eq_true rfl) (fun x Z hret => ?_)
  show f_G x g 3 O M O 0 [(0, .ref (b_o g 4)), (1, .int p1)] []
  refine ac_aload_n Z.1 0 dX8_numberAt_0 rfl ?_
  refine f_geti Z b_X8 4 (oT_4 hg) 10 (by decide) (by decide) (fT_50 hg) fX8_91 rfl (v := (M.1 50)) rfl dX8_numberAt_1 ?_
  refine ac_iconst (v := 1) Z.1 dX8_numberAt_4 (by decide) ?_
  refine ac_isub Z.1 dX8_numberAt_5 ?_
  refine ac_bipush (v := 12) Z.1 dX8_numberAt_6 (by decide) ?_
  refine ac_imul Z.1 dX8_numberAt_8 ?_
  refine ac_iload_n Z.1 1 dX8_numberAt_9 rfl ?_
  refine ac_iadd Z.1 dX8_numberAt_10 ?_
  refine ac_istore_n (lv' := [(2, .int ((((M.1 50) - 1) * 12) + p1)), (0, .ref (b_o g 4)), (1, .int p1)]) Z.1 dX8_numberAt_11 (by decide) rfl ?_
  refine ac_iload_n Z.1 0 dX8_numberAt_12 rfl ?_
  obtain ⟨hwt, hwf⟩ := hw
  refine ac_if_lt (tgt := 34) Z.1 dX8_numberAt_13 (by decide) (fun hc => ?_) (fun hc => ?_)
  · have hw := hwt hc
    refine ac_iconst (v := 0) Z.1 dX8_numberAt_34 (by decide) ?_
    exact hret _ _ _ _ _ dX8_numberAt_35 rfl hw
  · have hw := hwf hc
    refine ac_iload_n Z.1 0 dX8_numberAt_16 rfl ?_
    refine ac_aload_n Z.1 1 dX8_numberAt_17 rfl ?_
    refine f_getr Z b_X8 4 (oT_4 hg) 2 (by decide) (by decide) (fT_42 hg) fX8_11 rfl (h2 := (b_o g 15)) rfl dX8_numberAt_18 ?_
    refine f_alen Z 6 (aT_15 hg) rfl (v := (nI (b_N g 15))) rfl dX8_numberAt_21 (by decide) ?_
    obtain ⟨hwt, hwf⟩ := hw
    refine ac_icmp_ge (tgt := 34) Z.1 dX8_numberAt_22 (by decide) (fun hc => ?_) (fun hc => ?_)
    · have hw := hwt hc
      refine ac_iconst (v := 0) Z.1 dX8_numberAt_34 (by decide) ?_
      exact hret _ _ _ _ _ dX8_numberAt_35 rfl hw
    · have hw := hwf hc
      refine ac_aload_n Z.1 1 dX8_numberAt_25 rfl ?_
      refine f_getr Z b_X8 4 (oT_4 hg) 2 (by decide) (by decide) (fT_42 hg) fX8_11 rfl (h2 := (b_o g 15)) rfl dX8_numberAt_26 ?_
      refine ac_iload_n Z.1 0 dX8_numberAt_29 rfl ?_
      obtain ⟨hb1, hw⟩ := hw
      refine f_ald Z 6 (aT_15 hg) rfl hb1 (v := (M.2.1 15 ((((M.1 50) - 1) * 12) + p1).toNatClampNeg)) rfl dX8_numberAt_30 ?_
      refine ac_topi (fun v2 hv2 => ?_)
      have hw := hw v2 hv2
      refine ac_goto (tgt := 35) Z.1 dX8_numberAt_31 (by decide) ?_
      exact hret _ _ _ _ _ dX8_numberAt_35 rfl hw
def wY_X8_doNumber (N : Nat → Nat) (p1 : Int32) (M : f_S3) (O : Nat × Nat) (Q : f_S3 → Nat × Nat → Prop) : Prop := (p1 = 7 → (wY_X8_fetch N M O (fun r1 M2 O2 => (wY_X8_push N r1 M2 O2 (fun M3 O3 => (Q M3 O3)))))) ∧ (p1 = 8 → (wY_X8_fetch N M O (fun r4 M5 O5 => (wY_X8_numberAt N r4 M5 O5 (fun r6 M7 O7 => (wY_X8_push N r6 M7 O7 (fun M8 O8 => (Q M8 O8)))))))) ∧ (p1 = 9 → (wY_X8_fetch N M O (fun r9 M10 O10 => (wY_X8_pop N M10 O10 (fun r11 M12 O12 => (wY_X8_setNumber N r9 r11 M12 O12 (fun M13 O13 => (Q M13 O13)))))))) ∧ (p1 = 10 → (wY_X8_pop N M O (fun r14 M15 O15 => (Q M15 O15)))) ∧ (p1 = 11 → (wY_X8_pop N M O (fun r16 M17 O17 => (wY_X8_push N (-r16) M17 O17 (fun M18 O18 => (Q M18 O18)))))) ∧ (p1 = 12 → (wY_X8_fetch N M O (fun r19 M20 O20 => (Q (fm M20 49 r19) O20)))) ∧ (¬ p1 = 7 → ¬ p1 = 8 → ¬ p1 = 9 → ¬ p1 = 10 → ¬ p1 = 11 → ¬ p1 = 12 → (wY_X8_fetch N M O (fun r21 M22 O22 => (wY_X8_pop N M22 O22 (fun r23 M24 O24 => ((¬ r23 = 0 → (Q M24 O24)) ∧ (r23 = 0 → (Q (fm M24 49 r21) O24))))))))
set_option maxRecDepth 20000 in
theorem soY_X8_doNumber {l : Launch} {g : b_S} (hg : g.1 = tb_T 5) (p1 : Int32) (M : f_S3) (O : Nat × Nat) (Q : f_S3 → Nat × Nat → Prop) (hw : wY_X8_doNumber (b_N g) p1 M O Q) : f_MetV l g yX8_doNumber cX8_doNumber 3 (2) [.ref (b_o g 4), .int p1] M O Q := by
  refine f_MetV.of (C := RX8) (by decide) rfl (Nat.le_of_ble_eq_true rfl) (fun x Z hret => ?_)
  show f_G x g 3 O M O 0 [(0, .ref (b_o g 4)), (1, .int p1)] []
  refine ac_iload_n Z.1 1 dX8_doNumber_0 rfl ?_
  obtain ⟨hwk, hw⟩ := hw
  by_cases hk0 : p1 = 7
  · have hw := hwk hk0
    refine ac_tableIn (off := 39) (tgt := 40) Z.1 dX8_doNumber_1 (by rw [hk0]; decide) (by rw [hk0]; decide) (by rw [hk0]; rfl) (by decide) ?_
    refine ac_aload_n Z.1 0 dX8_doNumber_40 rfl ?_
    refine ac_aload_n Z.1 0 dX8_doNumber_41 rfl ?_
    refine f_calli (As := []) (st := [.ref (b_o g 4)]) Z b_X8.1 4 (oT_4 hg) rfl kX8_fetch lkX8_56 (by omega) (soY_X8_fetch hg   _ _ _ hw) rfl rfl (Nat.le_of_ble_eq_true rfl) dX8_doNumber_42 (fun r1 M2 O2 hw => ?_)
    refine f_callv (As := [.int r1]) (st := []) Z b_X8.1 4 (oT_4 hg) rfl kX8_push lkX8_129 (by omega) (soY_X8_push hg  _ _ _ _ hw) rfl rfl (Nat.le_of_ble_eq_true rfl) dX8_doNumber_45 (fun M3 O3 hw => ?_)
    refine ac_goto (tgt := 129) Z.1 dX8_doNumber_48 (by decide) ?_
    exact hret _ _ _ _ dX8_doNumber_129 hw
  obtain ⟨hwk, hw⟩ := hw
  by_cases hk1 : p1 = 8
  · have hw := hwk hk1
    refine ac_tableIn (off := 50) (tgt := 51) Z.1 dX8_doNumber_1 (by rw [hk1]; decide) (by rw [hk1]; decide) (by rw [hk1]; rfl) (by decide) ?_
    refine ac_aload_n Z.1 0 dX8_doNumber_51 rfl ?_
    refine ac_aload_n Z.1 0 dX8_doNumber_52 rfl ?_
    refine ac_aload_n Z.1 0 dX8_doNumber_53 rfl ?_
    refine f_calli (As := []) (st := [.ref (b_o g 4), .ref (b_o g 4)]) Z b_X8.1 4 (oT_4 hg) rfl kX8_fetch lkX8_56 (by omega) (soY_X8_fetch hg   _ _ _ hw) rfl rfl (Nat.le_of_ble_eq_true rfl) dX8_doNumber_54 (fun r4 M5 O5 hw => ?_)
    refine f_calli (As := [.int r4]) (st := [.ref (b_o g 4)]) Z b_X8.1 4 (oT_4 hg) rfl kX8_numberAt lkX8_132 (by omega) (soY_X8_numberAt hg  _ _ _ _ hw) rfl rfl (Nat.le_of_ble_eq_true rfl) dX8_doNumber_57 (fun r6 M7 O7 hw => ?_)
    refine f_callv (As := [.int r6]) (st := []) Z b_X8.1 4 (oT_4 hg) rfl kX8_push lkX8_129 (by omega) (soY_X8_push hg  _ _ _ _ hw) rfl rfl (Nat.le_of_ble_eq_true rfl) dX8_doNumber_60 (fun M8 O8 hw => ?_)
    refine ac_goto (tgt := 129) Z.1 dX8_doNumber_63 (by decide) ?_
    exact hret _ _ _ _ dX8_doNumber_129 hw
  obtain ⟨hwk, hw⟩ := hw
  by_cases hk2 : p1 = 9
  · have hw := hwk hk2
    refine ac_tableIn (off := 65) (tgt := 66) Z.1 dX8_doNumber_1 (by rw [hk2]; decide) (by rw [hk2]; decide) (by rw [hk2]; rfl) (by decide) ?_
    refine ac_aload_n Z.1 0 dX8_doNumber_66 rfl ?_
    refine ac_aload_n Z.1 0 dX8_doNumber_67 rfl ?_
    refine f_calli (As := []) (st := [.ref (b_o g 4)]) Z b_X8.1 4 (oT_4 hg) rfl kX8_fetch lkX8_56 (by omega) (soY_X8_fetch hg   _ _ _ hw) rfl rfl (Nat.le_of_ble_eq_true rfl) dX8_doNumber_68 (fun r9 M10 O10 hw => ?_)
    refine ac_aload_n Z.1 0 dX8_doNumber_71 rfl ?_
    refine f_calli (As := []) (st := [.int r9, .ref (b_o g 4)]) Z b_X8.1 4 (oT_4 hg) rfl kX8_pop lkX8_117 (by omega) (soY_X8_pop hg   _ _ _ hw) rfl rfl (Nat.le_of_ble_eq_true rfl) dX8_doNumber_72 (fun r11 M12 O12 hw => ?_)
    refine f_callv (As := [.int r9, .int r11]) (st := []) Z b_X8.1 4 (oT_4 hg) rfl kX8_setNumber lkX8_107 (by omega) (soY_X8_setNumber hg  _ _ _ _ _ hw) rfl rfl (Nat.le_of_ble_eq_true rfl) dX8_doNumber_75 (fun M13 O13 hw => ?_)
    refine ac_goto (tgt := 129) Z.1 dX8_doNumber_78 (by decide) ?_
    exact hret _ _ _ _ dX8_doNumber_129 hw
  obtain ⟨hwk, hw⟩ := hw
  by_cases hk3 : p1 = 10
  · have hw := hwk hk3
    refine ac_tableIn (off := 80) (tgt := 81) Z.1 dX8_doNumber_1 (by rw [hk3]; decide) (by rw [hk3]; decide) (by rw [hk3]; rfl) (by decide) ?_
    refine ac_aload_n Z.1 0 dX8_doNumber_81 rfl ?_
    refine f_calli (As := []) (st := []) Z b_X8.1 4 (oT_4 hg) rfl kX8_pop lkX8_117 (by omega) (soY_X8_pop hg   _ _ _ hw) rfl rfl (Nat.le_of_ble_eq_true rfl) dX8_doNumber_82 (fun r14 M15 O15 hw => ?_)
    refine ac_pop Z.1 dX8_doNumber_85 rfl ?_
    refine ac_goto (tgt := 129) Z.1 dX8_doNumber_86 (by decide) ?_
    exact hret _ _ _ _ dX8_doNumber_129 hw
  obtain ⟨hwk, hw⟩ := hw
  by_cases hk4 : p1 = 11
  · have hw := hwk hk4
    refine ac_tableIn (off := 88) (tgt := 89) Z.1 dX8_doNumber_1 (by rw [hk4]; decide) (by rw [hk4]; decide) (by rw [hk4]; rfl) (by decide) ?_
    refine ac_aload_n Z.1 0 dX8_doNumber_89 rfl ?_
    refine ac_aload_n Z.1 0 dX8_doNumber_90 rfl ?_
    refine f_calli (As := []) (st := [.ref (b_o g 4)]) Z b_X8.1 4 (oT_4 hg) rfl kX8_pop lkX8_117 (by omega) (soY_X8_pop hg   _ _ _ hw) rfl rfl (Nat.le_of_ble_eq_true rfl) dX8_doNumber_91 (fun r16 M17 O17 hw => ?_)
    refine ac_ineg Z.1 dX8_doNumber_94 rfl ?_
    refine f_callv (As := [.int (-r16)]) (st := []) Z b_X8.1 4 (oT_4 hg) rfl kX8_push lkX8_129 (by omega) (soY_X8_push hg  _ _ _ _ hw) rfl rfl (Nat.le_of_ble_eq_true rfl) dX8_doNumber_95 (fun M18 O18 hw => ?_)
    refine ac_goto (tgt := 129) Z.1 dX8_doNumber_98 (by decide) ?_
    exact hret _ _ _ _ dX8_doNumber_129 hw
  obtain ⟨hwk, hw⟩ := hw
  by_cases hk5 : p1 = 12
  · have hw := hwk hk5
    refine ac_tableIn (off := 100) (tgt := 101) Z.1 dX8_doNumber_1 (by rw [hk5]; decide) (by rw [hk5]; decide) (by rw [hk5]; rfl) (by decide) ?_
    refine ac_aload_n Z.1 0 dX8_doNumber_101 rfl ?_
    refine ac_aload_n Z.1 0 dX8_doNumber_102 rfl ?_
    refine f_calli (As := []) (st := [.ref (b_o g 4)]) Z b_X8.1 4 (oT_4 hg) rfl kX8_fetch lkX8_56 (by omega) (soY_X8_fetch hg   _ _ _ hw) rfl rfl (Nat.le_of_ble_eq_true rfl) dX8_doNumber_103 (fun r19 M20 O20 hw => ?_)
    refine f_put Z b_X8 4 (oT_4 hg) 9 (by decide) (by decide) (fT_49 hg) rfl rfl fX8_111 rfl (I := 49) rfl dX8_doNumber_106 ?_
    refine ac_goto (tgt := 129) Z.1 dX8_doNumber_109 (by decide) ?_
    exact hret _ _ _ _ dX8_doNumber_129 hw
  have hw := hw hk0 hk1 hk2 hk3 hk4 hk5
  refine ac_tableOut (tgt := 112) Z.1 dX8_doNumber_1 (by have q0 := lv_neT hk0 (show (7 : Int32).toInt = 7 by decide); have q1 := lv_neT hk1 (show (8 : Int32).toInt = 8 by decide); have q2 := lv_neT hk2 (show (9 : Int32).toInt = 9 by decide); have q3 := lv_neT hk3 (show (10 : Int32).toInt = 10 by decide); have q4 := lv_neT hk4 (show (11 : Int32).toInt = 11 by decide); have q5 := lv_neT hk5 (show (12 : Int32).toInt = 12 by decide); omega) (by decide) ?_
  refine ac_aload_n Z.1 0 dX8_doNumber_112 rfl ?_
  refine f_calli (As := []) (st := []) Z b_X8.1 4 (oT_4 hg) rfl kX8_fetch lkX8_56 (by omega) (soY_X8_fetch hg   _ _ _ hw) rfl rfl (Nat.le_of_ble_eq_true rfl) dX8_doNumber_113 (fun r21 M22 O22 hw => ?_)
  refine ac_istore_n (lv' := [(2, .int r21), (0, .ref (b_o g 4)), (1, .int p1)]) Z.1 dX8_doNumber_116 (by decide) rfl ?_
  refine ac_aload_n Z.1 1 dX8_doNumber_117 rfl ?_
  refine f_calli (As := []) (st := []) Z b_X8.1 4 (oT_4 hg) rfl kX8_pop lkX8_117 (by omega) (soY_X8_pop hg   _ _ _ hw) rfl rfl (Nat.le_of_ble_eq_true rfl) dX8_doNumber_118 (fun r23 M24 O24 hw => ?_)
  obtain ⟨hwt, hwf⟩ := hw
  refine ac_if_ne (tgt := 129) Z.1 dX8_doNumber_121 (by decide) (fun hc => ?_) (fun hc => ?_)
  · have hw := hwt hc
    exact hret _ _ _ _ dX8_doNumber_129 hw
  · have hw := hwf hc
    refine ac_aload_n Z.1 1 dX8_doNumber_124 rfl ?_
    refine ac_iload_n Z.1 0 dX8_doNumber_125 rfl ?_
    refine f_put Z b_X8 4 (oT_4 hg) 9 (by decide) (by decide) (fT_49 hg) rfl rfl fX8_111 rfl (I := 49) rfl dX8_doNumber_126 ?_
    exact hret _ _ _ _ dX8_doNumber_129 hw
