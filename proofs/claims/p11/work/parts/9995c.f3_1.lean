def wF_X7_takeOpening_21 (N : Nat → Nat) (Q : f_S3 → Nat × Nat → Prop) (M : f_S3) (O : Nat × Nat) : Prop := wF_X7_fail N M O (fun M1 O1 => (Q M1 O1))
set_option maxRecDepth 20000 in
theorem sF_X7_takeOpening_21 {x : ac_X} {g : b_S} (hg : g.1 = tb_R) {l : Launch} {O0 : Nat × Nat} {Q : f_S3 → Nat × Nat → Prop} (Z : b_Cx x g l RX7 cX7_takeOpening 3 (1) O0) (hret : f_RV x g 3 cX7_takeOpening O0 Q) (M : f_S3) (O : Nat × Nat) (hw : wF_X7_takeOpening_21 (b_N g) Q M O) : f_G x g 3 O0 M O 21 [(0, .ref (b_o g 0))] [] := by
  refine ac_aload_n Z.1 0 dX7_takeOpening_21 rfl ?_
  refine f_callv (As := []) (st := []) Z b_X7.1 0 (oR_0 hg) rfl kX7_fail lkX7_93 (by omega) (soF_X7_fail hg   _ _ _ hw) rfl rfl (Nat.le_of_ble_eq_true rfl) dX7_takeOpening_22 (fun M1 O1 hw => ?_)
  exact hret _ _ _ _ dX7_takeOpening_25 hw
def wF_X7_takeOpening (N : Nat → Nat) (p1 : Int32) (p2 : Int32) (M : f_S3) (O : Nat × Nat) (Q : f_S3 → Nat × Nat → Prop) : Prop := (¬ (M.1 12) = p1 → (wF_X7_takeOpening_21 N Q M O)) ∧ ((M.1 12) = p1 → ((20 ≤ p2 → (wF_X7_takeOpening_21 N Q M O)) ∧ (¬ 20 ≤ p2 → (wF_X7_advance N M O (fun M2 O2 => (Q M2 O2))))))
set_option maxRecDepth 20000 in
theorem soF_X7_takeOpening {l : Launch} {g : b_S} (hg : g.1 = tb_R) (p1 : Int32) (p2 : Int32) (M : f_S3) (O : Nat × Nat) (Q : f_S3 → Nat × Nat → Prop) (hw : wF_X7_takeOpening (b_N g) p1 p2 M O Q) : f_MetV l g yX7_takeOpening cX7_takeOpening 3 (1) [.ref (b_o g 0), .int p1, .int p2] M O Q := by
  refine f_MetV.of (C := RX7) (by decide) rfl (Nat.le_of_ble_eq_true rfl) (fun x Z hret => ?_)
  show f_G x g 3 O M O 0 [(0, .ref (b_o g 0)), (1, .int p1), (2, .int p2)] []
  refine ac_aload_n Z.1 0 dX7_takeOpening_0 rfl ?_
  refine f_geti Z b_X7 0 (oR_0 hg) 12 (by decide) (by decide) (fR_12 hg) fX7_62 rfl (v := (M.1 12)) rfl dX7_takeOpening_1 ?_
  refine ac_iload_n Z.1 1 dX7_takeOpening_4 rfl ?_
  obtain ⟨hwt, hwf⟩ := hw
  refine ac_icmp_ne (tgt := 21) Z.1 dX7_takeOpening_5 (by decide) (fun hc => ?_) (fun hc => ?_)
  · have hw := hwt hc
    refine ac_lv [0] rfl ?_
    exact sF_X7_takeOpening_21 hg Z hret _ _ hw
  · have hw := hwf hc
    refine ac_iload_n Z.1 2 dX7_takeOpening_8 rfl ?_
    refine ac_bipush (v := 20) Z.1 dX7_takeOpening_9 (by decide) ?_
    obtain ⟨hwt, hwf⟩ := hw
    refine ac_icmp_ge (tgt := 21) Z.1 dX7_takeOpening_11 (by decide) (fun hc => ?_) (fun hc => ?_)
    · have hw := hwt hc
      refine ac_lv [0] rfl ?_
      exact sF_X7_takeOpening_21 hg Z hret _ _ hw
    · have hw := hwf hc
      refine ac_aload_n Z.1 0 dX7_takeOpening_14 rfl ?_
      refine f_callv (As := []) (st := []) Z b_X7.1 0 (oR_0 hg) rfl kX7_advance lkX7_59 (by omega) (soF_X7_advance hg   _ _ _ hw) rfl rfl (Nat.le_of_ble_eq_true rfl) dX7_takeOpening_15 (fun M2 O2 hw => ?_)
      refine ac_goto (tgt := 25) Z.1 dX7_takeOpening_18 (by decide) ?_
      exact hret _ _ _ _ dX7_takeOpening_25 hw
def wF_X7_isTold (N : Nat → Nat) (p1 : Int32) (M : f_S3) (O : Nat × Nat) (Q : Int32 → f_S3 → Nat × Nat → Prop) : Prop := (p1 < 0 → (Q 0 M O)) ∧ (¬ p1 < 0 → (((nI (N 23)) ≤ p1 → (Q 0 M O)) ∧ (¬ (nI (N 23)) ≤ p1 → (vp_in p1 (N 23) ∧ ((¬ (M.2.1 23 p1.toNatClampNeg) = (M.1 64) → (Q 0 M O)) ∧ ((M.2.1 23 p1.toNatClampNeg) = (M.1 64) → (Q 1 M O)))))))
set_option maxRecDepth 20000 in
theorem soF_X7_isTold {l : Launch} {g : b_S} (hg : g.1 = tb_R) (p1 : Int32) (M : f_S3) (O : Nat × Nat) (Q : Int32 → f_S3 → Nat × Nat → Prop) (hw : wF_X7_isTold (b_N g) p1 M O Q) : f_MetI l g yX7_isTold cX7_isTold 2 .boolean (0) [.ref (b_o g 0), .int p1] M O Q := by
  refine f_MetI.of (C := RX7) (by decide) rfl (Nat.le_of_ble_eq_true rfl) (fun x Z hret => ?_)
  show f_G x g 2 O M O 0 [(0, .ref (b_o g 0)), (1, .int p1)] []
  refine ac_iload_n Z.1 1 dX7_isTold_0 rfl ?_
  obtain ⟨hwt, hwf⟩ := hw
  refine ac_if_lt (tgt := 33) Z.1 dX7_isTold_1 (by decide) (fun hc => ?_) (fun hc => ?_)
  · have hw := hwt hc
    refine ac_iconst (v := 0) Z.1 dX7_isTold_33 (by decide) ?_
    exact hret _ _ _ _ _ dX7_isTold_34 rfl hw
  · have hw := hwf hc
    refine ac_iload_n Z.1 1 dX7_isTold_4 rfl ?_
    refine ac_aload_n Z.1 0 dX7_isTold_5 rfl ?_
    refine f_getr Z b_X7 0 (oR_0 hg) 2 (by decide) (by decide) (fR_2 hg) fX7_35 rfl (h2 := (b_o g 23)) rfl dX7_isTold_6 ?_
    refine f_alen Z 10 (aR_23 hg) rfl (v := (nI (b_N g 23))) rfl dX7_isTold_9 (by decide) ?_
    obtain ⟨hwt, hwf⟩ := hw
    refine ac_icmp_ge (tgt := 33) Z.1 dX7_isTold_10 (by decide) (fun hc => ?_) (fun hc => ?_)
    · have hw := hwt hc
      refine ac_iconst (v := 0) Z.1 dX7_isTold_33 (by decide) ?_
      exact hret _ _ _ _ _ dX7_isTold_34 rfl hw
    · have hw := hwf hc
      refine ac_aload_n Z.1 0 dX7_isTold_13 rfl ?_
      refine f_getr Z b_X7 0 (oR_0 hg) 2 (by decide) (by decide) (fR_2 hg) fX7_35 rfl (h2 := (b_o g 23)) rfl dX7_isTold_14 ?_
      refine ac_iload_n Z.1 1 dX7_isTold_17 rfl ?_
      obtain ⟨hb1, hw⟩ := hw
      refine f_ald Z 10 (aR_23 hg) rfl hb1 (v := (M.2.1 23 p1.toNatClampNeg)) rfl dX7_isTold_18 ?_
      refine ac_aload_n Z.1 0 dX7_isTold_19 rfl ?_
      refine f_getr Z b_X7 0 (oR_0 hg) 1 (by decide) (by decide) (fR_1 hg) fX7_31 rfl (h2 := (b_o g 3)) rfl dX7_isTold_20 ?_
      refine f_geti Z b_X6 3 (oR_3 hg) 4 (by decide) (by decide) (fR_64 hg) fX7_130 rfl (v := (M.1 64)) rfl dX7_isTold_23 ?_
      obtain ⟨hwt, hwf⟩ := hw
      refine ac_icmp_ne (tgt := 33) Z.1 dX7_isTold_26 (by decide) (fun hc => ?_) (fun hc => ?_)
      · have hw := hwt hc
        refine ac_iconst (v := 0) Z.1 dX7_isTold_33 (by decide) ?_
        exact hret _ _ _ _ _ dX7_isTold_34 rfl hw
      · have hw := hwf hc
        refine ac_iconst (v := 1) Z.1 dX7_isTold_29 (by decide) ?_
        refine ac_goto (tgt := 34) Z.1 dX7_isTold_30 (by decide) ?_
        exact hret _ _ _ _ _ dX7_isTold_34 rfl hw
def wF_X7_newName_51 (N : Nat → Nat) (Q : Int32 → f_S3 → Nat × Nat → Prop) (M : f_S3) (O : Nat × Nat) : Prop := Q (((M.1 9) + 1) - 1) (fm M 9 ((M.1 9) + 1)) O
set_option maxRecDepth 20000 in
theorem sF_X7_newName_51 {x : ac_X} {g : b_S} (hg : g.1 = tb_R) {l : Launch} {O0 : Nat × Nat} {Q : Int32 → f_S3 → Nat × Nat → Prop} (Z : b_Cx x g l RX7 cX7_newName 1 (1) O0) (hret : f_RI x g 1 cX7_newName .int O0 Q) (M : f_S3) (O : Nat × Nat) (hw : wF_X7_newName_51 (b_N g) Q M O) : f_G x g 1 O0 M O 51 [(0, .ref (b_o g 0))] [] := by
  refine ac_aload_n Z.1 0 dX7_newName_51 rfl ?_
  refine ac_dup Z.1 dX7_newName_52 rfl ?_
  refine f_geti Z b_X7 0 (oR_0 hg) 9 (by decide) (by decide) (fR_9 hg) fX7_136 rfl (v := (M.1 9)) rfl dX7_newName_53 ?_
  refine ac_iconst (v := 1) Z.1 dX7_newName_56 (by decide) ?_
  refine ac_iadd Z.1 dX7_newName_57 ?_
  refine f_put Z b_X7 0 (oR_0 hg) 9 (by decide) (by decide) (fR_9 hg) rfl rfl fX7_136 rfl (I := 9) rfl dX7_newName_58 ?_
  refine ac_aload_n Z.1 0 dX7_newName_61 rfl ?_
  refine f_geti Z b_X7 0 (oR_0 hg) 9 (by decide) (by decide) (fR_9 hg) fX7_136 rfl (v := ((M.1 9) + 1)) rfl dX7_newName_62 ?_
  refine ac_iconst (v := 1) Z.1 dX7_newName_65 (by decide) ?_
  refine ac_isub Z.1 dX7_newName_66 ?_
  exact hret _ _ _ _ _ dX7_newName_67 rfl hw
def wF_X7_newName (N : Nat → Nat) (M : f_S3) (O : Nat × Nat) (Q : Int32 → f_S3 → Nat × Nat → Prop) : Prop := (¬ (M.1 12) = 130 → (wF_X7_newName_51 N Q M O)) ∧ ((M.1 12) = 130 → (wF_X7_isTold N (M.1 13) M O (fun r1 M2 O2 => ((r1 = 0 → (((M2.1 9) < 12 → (wF_X7_newName_51 N Q M2 O2)) ∧ (¬ (M2.1 9) < 12 → (wF_X7_putFault N 3 (M2.1 14) M2 O2 (fun M3 O3 => (wF_X7_newName_51 N Q M3 O3)))))) ∧ (¬ r1 = 0 → (wF_X7_putFault N 2 (M2.1 14) M2 O2 (fun M4 O4 => (wF_X7_newName_51 N Q M4 O4))))))))
set_option maxRecDepth 20000 in
theorem soF_X7_newName {l : Launch} {g : b_S} (hg : g.1 = tb_R) (M : f_S3) (O : Nat × Nat) (Q : Int32 → f_S3 → Nat × Nat → Prop) (hw : wF_X7_newName (b_N g)  M O Q) : f_MetI l g yX7_newName cX7_newName 1 .int (1) [.ref (b_o g 0)] M O Q := by
  refine f_MetI.of (C := RX7) (by decide) rfl (Nat.le_of_ble_eq_true rfl) (fun x Z hret => ?_)
  show f_G x g 1 O M O 0 [(0, .ref (b_o g 0))] []
  refine ac_aload_n Z.1 0 dX7_newName_0 rfl ?_
  refine f_geti Z b_X7 0 (oR_0 hg) 12 (by decide) (by decide) (fR_12 hg) fX7_62 rfl (v := (M.1 12)) rfl dX7_newName_1 ?_
  refine ac_sipush (v := 130) Z.1 dX7_newName_4 (by decide) ?_
  obtain ⟨hwt, hwf⟩ := hw
  refine ac_icmp_ne (tgt := 51) Z.1 dX7_newName_7 (by decide) (fun hc => ?_) (fun hc => ?_)
  · have hw := hwt hc
    exact sF_X7_newName_51 hg Z hret _ _ hw
  · have hw := hwf hc
    refine ac_aload_n Z.1 0 dX7_newName_10 rfl ?_
    refine ac_aload_n Z.1 0 dX7_newName_11 rfl ?_
    refine f_geti Z b_X7 0 (oR_0 hg) 13 (by decide) (by decide) (fR_13 hg) fX7_84 rfl (v := (M.1 13)) rfl dX7_newName_12 ?_
    refine f_calli (As := [.int (M.1 13)]) (st := []) Z b_X7.1 0 (oR_0 hg) rfl kX7_isTold lkX7_148 (by omega) (soF_X7_isTold hg  _ _ _ _ hw) rfl rfl (Nat.le_of_ble_eq_true rfl) dX7_newName_15 (fun r1 M2 O2 hw => ?_)
    obtain ⟨hwt, hwf⟩ := hw
    refine ac_if_eq (tgt := 33) Z.1 dX7_newName_18 (by decide) (fun hc => ?_) (fun hc => ?_)
    · have hw := hwt hc
      refine ac_aload_n Z.1 0 dX7_newName_33 rfl ?_
      refine f_geti Z b_X7 0 (oR_0 hg) 9 (by decide) (by decide) (fR_9 hg) fX7_136 rfl (v := (M2.1 9)) rfl dX7_newName_34 ?_
      refine ac_bipush (v := 12) Z.1 dX7_newName_37 (by decide) ?_
      obtain ⟨hwt, hwf⟩ := hw
      refine ac_icmp_lt (tgt := 51) Z.1 dX7_newName_39 (by decide) (fun hc => ?_) (fun hc => ?_)
      · have hw := hwt hc
        exact sF_X7_newName_51 hg Z hret _ _ hw
      · have hw := hwf hc
        refine ac_aload_n Z.1 0 dX7_newName_42 rfl ?_
        refine ac_iconst (v := 3) Z.1 dX7_newName_43 (by decide) ?_
        refine ac_aload_n Z.1 0 dX7_newName_44 rfl ?_
        refine f_geti Z b_X7 0 (oR_0 hg) 14 (by decide) (by decide) (fR_14 hg) fX7_90 rfl (v := (M2.1 14)) rfl dX7_newName_45 ?_
        refine f_callv (As := [.int 3, .int (M2.1 14)]) (st := []) Z b_X7.1 0 (oR_0 hg) rfl kX7_putFault lkX7_133 (by omega) (soF_X7_putFault hg  _ _ _ _ _ hw) rfl rfl (Nat.le_of_ble_eq_true rfl) dX7_newName_48 (fun M3 O3 hw => ?_)
        exact sF_X7_newName_51 hg Z hret _ _ hw
    · have hw := hwf hc
      refine ac_aload_n Z.1 0 dX7_newName_21 rfl ?_
      refine ac_iconst (v := 2) Z.1 dX7_newName_22 (by decide) ?_
      refine ac_aload_n Z.1 0 dX7_newName_23 rfl ?_
      refine f_geti Z b_X7 0 (oR_0 hg) 14 (by decide) (by decide) (fR_14 hg) fX7_90 rfl (v := (M2.1 14)) rfl dX7_newName_24 ?_
      refine f_callv (As := [.int 2, .int (M2.1 14)]) (st := []) Z b_X7.1 0 (oR_0 hg) rfl kX7_putFault lkX7_133 (by omega) (soF_X7_putFault hg  _ _ _ _ _ hw) rfl rfl (Nat.le_of_ble_eq_true rfl) dX7_newName_27 (fun M4 O4 hw => ?_)
      refine ac_goto (tgt := 51) Z.1 dX7_newName_30 (by decide) ?_
      exact sF_X7_newName_51 hg Z hret _ _ hw
def wF_X7_tell (N : Nat → Nat) (p1 : Int32) (p2 : Int32) (M : f_S3) (O : Nat × Nat) (Q : f_S3 → Nat × Nat → Prop) : Prop := (p1 < 0 → (Q M O)) ∧ (¬ p1 < 0 → (((nI (N 23)) ≤ p1 → (Q M O)) ∧ (¬ (nI (N 23)) ≤ p1 → (vp_in p1 (N 23) ∧ (vp_in p1 (N 24) ∧ (Q (ff (ff M 23 p1 (M.1 64)) 24 p1 p2) O))))))
set_option maxRecDepth 20000 in
theorem soF_X7_tell {l : Launch} {g : b_S} (hg : g.1 = tb_R) (p1 : Int32) (p2 : Int32) (M : f_S3) (O : Nat × Nat) (Q : f_S3 → Nat × Nat → Prop) (hw : wF_X7_tell (b_N g) p1 p2 M O Q) : f_MetV l g yX7_tell cX7_tell 3 (0) [.ref (b_o g 0), .int p1, .int p2] M O Q := by
  refine f_MetV.of (C := RX7) (by decide) rfl (Nat.le_of_ble_eq_true rfl) (fun x Z hret => ?_)
  show f_G x g 3 O M O 0 [(0, .ref (b_o g 0)), (1, .int p1), (2, .int p2)] []
  refine ac_iload_n Z.1 1 dX7_tell_0 rfl ?_
  obtain ⟨hwt, hwf⟩ := hw
  refine ac_if_lt (tgt := 33) Z.1 dX7_tell_1 (by decide) (fun hc => ?_) (fun hc => ?_)
  · have hw := hwt hc
    exact hret _ _ _ _ dX7_tell_33 hw
  · have hw := hwf hc
    refine ac_iload_n Z.1 1 dX7_tell_4 rfl ?_
    refine ac_aload_n Z.1 0 dX7_tell_5 rfl ?_
    refine f_getr Z b_X7 0 (oR_0 hg) 2 (by decide) (by decide) (fR_2 hg) fX7_35 rfl (h2 := (b_o g 23)) rfl dX7_tell_6 ?_
    refine f_alen Z 10 (aR_23 hg) rfl (v := (nI (b_N g 23))) rfl dX7_tell_9 (by decide) ?_
    obtain ⟨hwt, hwf⟩ := hw
    refine ac_icmp_ge (tgt := 33) Z.1 dX7_tell_10 (by decide) (fun hc => ?_) (fun hc => ?_)
    · have hw := hwt hc
      exact hret _ _ _ _ dX7_tell_33 hw
    · have hw := hwf hc
      refine ac_aload_n Z.1 0 dX7_tell_13 rfl ?_
      refine f_getr Z b_X7 0 (oR_0 hg) 2 (by decide) (by decide) (fR_2 hg) fX7_35 rfl (h2 := (b_o g 23)) rfl dX7_tell_14 ?_
      refine ac_iload_n Z.1 1 dX7_tell_17 rfl ?_
      refine ac_aload_n Z.1 0 dX7_tell_18 rfl ?_
      refine f_getr Z b_X7 0 (oR_0 hg) 1 (by decide) (by decide) (fR_1 hg) fX7_31 rfl (h2 := (b_o g 3)) rfl dX7_tell_19 ?_
      refine f_geti Z b_X6 3 (oR_3 hg) 4 (by decide) (by decide) (fR_64 hg) fX7_130 rfl (v := (M.1 64)) rfl dX7_tell_22 ?_
      obtain ⟨hb1, hw⟩ := hw
      refine f_ast Z 10 (aR_23 hg) rfl hb1 dX7_tell_25 ?_
      refine ac_aload_n Z.1 0 dX7_tell_26 rfl ?_
      refine f_getr Z b_X7 0 (oR_0 hg) 3 (by decide) (by decide) (fR_3 hg) fX7_38 rfl (h2 := (b_o g 24)) rfl dX7_tell_27 ?_
      refine ac_iload_n Z.1 1 dX7_tell_30 rfl ?_
      refine ac_iload_n Z.1 2 dX7_tell_31 rfl ?_
      obtain ⟨hb2, hw⟩ := hw
      refine f_ast Z 11 (aR_24 hg) rfl hb2 dX7_tell_32 ?_
      exact hret _ _ _ _ dX7_tell_33 hw
def wF_X7_parameters_92 (N : Nat → Nat) (Q : Int32 → f_S3 → Nat × Nat → Prop) (a1 : Int32) (M : f_S3) (O : Nat × Nat) : Prop := Q a1 M O
set_option maxRecDepth 20000 in
theorem sF_X7_parameters_92 {x : ac_X} {g : b_S} (hg : g.1 = tb_R) {l : Launch} {O0 : Nat × Nat} {Q : Int32 → f_S3 → Nat × Nat → Prop} (Z : b_Cx x g l RX7 cX7_parameters 4 (2) O0) (hret : f_RI x g 4 cX7_parameters .int O0 Q) (a1 : Int32) (M : f_S3) (O : Nat × Nat) (hw : wF_X7_parameters_92 (b_N g) Q a1 M O) : f_G x g 4 O0 M O 92 [(0, .ref (b_o g 0)), (1, .int a1)] [] := by
  refine ac_iload_n Z.1 1 dX7_parameters_92 rfl ?_
  exact hret _ _ _ _ _ dX7_parameters_93 rfl hw
def wF_X7_parameters_46 (N : Nat → Nat) (K15 : (Int32 → Int32 → f_S3 → (Nat × Nat) → Prop)) (Q : Int32 → f_S3 → Nat × Nat → Prop) (a1 : Int32) (a2 : Int32) (M : f_S3) (O : Nat × Nat) : Prop := wF_X7_newName N M O (fun r1 M2 O2 => (wF_X7_tell N (M.1 13) r1 M2 O2 (fun M3 O3 => (wF_X7_take N 130 M3 O3 (fun M4 O4 => (((M4.1 12) = 44 → (wF_X7_advance N M4 O4 (fun M5 O5 => (K15 (a1 + 1) (a2 + 1) M5 O5)))) ∧ (¬ (M4.1 12) = 44 → (wF_X7_parameters_92 N Q (a1 + 1) M4 O4))))))))
set_option maxRecDepth 20000 in
theorem sF_X7_parameters_46 {x : ac_X} {g : b_S} (hg : g.1 = tb_R) {l : Launch} {O0 : Nat × Nat} {K15 : (Int32 → Int32 → f_S3 → (Nat × Nat) → Prop)} {Q : Int32 → f_S3 → Nat × Nat → Prop} (Z : b_Cx x g l RX7 cX7_parameters 4 (2) O0) (hret : f_RI x g 4 cX7_parameters .int O0 Q) (hK15 : ∀ (a1 : Int32) (a2 : Int32) (M : f_S3) (O : Nat × Nat), K15 a1 a2 M O → f_G x g 4 O0 M O 15 [(0, .ref (b_o g 0)), (1, .int a1), (2, .int a2)] []) (a1 : Int32) (a2 : Int32) (M : f_S3) (O : Nat × Nat) (hw : wF_X7_parameters_46 (b_N g) K15 Q a1 a2 M O) : f_G x g 4 O0 M O 46 [(0, .ref (b_o g 0)), (1, .int a1), (2, .int a2)] [] := by
  refine ac_aload_n Z.1 0 dX7_parameters_46 rfl ?_
  refine f_geti Z b_X7 0 (oR_0 hg) 13 (by decide) (by decide) (fR_13 hg) fX7_84 rfl (v := (M.1 13)) rfl dX7_parameters_47 ?_
  refine ac_istore_n (lv' := [(3, .int (M.1 13)), (0, .ref (b_o g 0)), (1, .int a1), (2, .int a2)]) Z.1 dX7_parameters_50 (by decide) rfl ?_
  refine ac_aload_n Z.1 1 dX7_parameters_51 rfl ?_
  refine ac_iload_n Z.1 0 dX7_parameters_52 rfl ?_
  refine ac_aload_n Z.1 1 dX7_parameters_53 rfl ?_
  refine f_calli (As := []) (st := [.int (M.1 13), .ref (b_o g 0)]) Z b_X7.1 0 (oR_0 hg) rfl kX7_newName lkX7_142 (by omega) (soF_X7_newName hg   _ _ _ hw) rfl rfl (Nat.le_of_ble_eq_true rfl) dX7_parameters_54 (fun r1 M2 O2 hw => ?_)
  refine f_callv (As := [.int (M.1 13), .int r1]) (st := []) Z b_X7.1 0 (oR_0 hg) rfl kX7_tell lkX7_145 (by omega) (soF_X7_tell hg  _ _ _ _ _ hw) rfl rfl (Nat.le_of_ble_eq_true rfl) dX7_parameters_57 (fun M3 O3 hw => ?_)
  refine ac_aload_n Z.1 1 dX7_parameters_60 rfl ?_
  refine ac_sipush (v := 130) Z.1 dX7_parameters_61 (by decide) ?_
  refine f_callv (As := [.int 130]) (st := []) Z b_X7.1 0 (oR_0 hg) rfl kX7_take lkX7_100 (by omega) (soF_X7_take hg  _ _ _ _ hw) rfl rfl (Nat.le_of_ble_eq_true rfl) dX7_parameters_64 (fun M4 O4 hw => ?_)
  refine ac_iinc (w := (a1 + 1)) (lv' := [(1, .int (a1 + 1)), (3, .int (M.1 13)), (0, .ref (b_o g 0)), (2, .int a2)]) Z.1 2 dX7_parameters_67 rfl rfl (by decide) rfl ?_
  refine ac_aload_n Z.1 2 dX7_parameters_70 rfl ?_
  refine f_geti Z b_X7 0 (oR_0 hg) 12 (by decide) (by decide) (fR_12 hg) fX7_62 rfl (v := (M4.1 12)) rfl dX7_parameters_71 ?_
  refine ac_bipush (v := 44) Z.1 dX7_parameters_74 (by decide) ?_
  obtain ⟨hwt, hwf⟩ := hw
  refine ac_icmp_eq (tgt := 82) Z.1 dX7_parameters_76 (by decide) (fun hc => ?_) (fun hc => ?_)
  · have hw := hwt hc
    refine ac_aload_n Z.1 2 dX7_parameters_82 rfl ?_
    refine f_callv (As := []) (st := []) Z b_X7.1 0 (oR_0 hg) rfl kX7_advance lkX7_59 (by omega) (soF_X7_advance hg   _ _ _ hw) rfl rfl (Nat.le_of_ble_eq_true rfl) dX7_parameters_83 (fun M5 O5 hw => ?_)
    refine ac_iinc (w := (a2 + 1)) (lv' := [(2, .int (a2 + 1)), (1, .int (a1 + 1)), (3, .int (M.1 13)), (0, .ref (b_o g 0))]) Z.1 3 dX7_parameters_86 rfl rfl (by decide) rfl ?_
    refine ac_goto (tgt := 15) Z.1 dX7_parameters_89 (by decide) ?_
    refine ac_lv [3, 1, 0] rfl ?_
    exact hK15 _ _ _ _ hw
  · have hw := hwf hc
    refine ac_goto (tgt := 92) Z.1 dX7_parameters_79 (by decide) ?_
    refine ac_lv [2, 0] rfl ?_
    exact sF_X7_parameters_92 hg Z hret _ _ _ hw
def wF_X7_parameters_15 (N : Nat → Nat) (Q : Int32 → f_S3 → Nat × Nat → Prop) : Nat → Int32 → Int32 → f_S3 → Nat × Nat → Prop
  | 0 => fun _ _ _ _ => False
  | n + 1 => fun a1 a2 M O => ((4000 < a2 → (wF_X7_parameters_92 N Q a1 M O)) ∧ (¬ 4000 < a2 → (((M.1 12) = 137 → (wF_X7_parameters_92 N Q a1 M O)) ∧ (¬ (M.1 12) = 137 → ((a1 < 4 → (wF_X7_parameters_46 N (wF_X7_parameters_15 N Q n) Q a1 a2 M O)) ∧ (¬ a1 < 4 → (wF_X7_putFault N 3 (M.1 14) M O (fun M6 O6 => (wF_X7_parameters_46 N (wF_X7_parameters_15 N Q n) Q a1 a2 M6 O6)))))))))
set_option maxRecDepth 20000 in
theorem sF_X7_parameters_15 {x : ac_X} {g : b_S} (hg : g.1 = tb_R) {l : Launch} {O0 : Nat × Nat} {Q : Int32 → f_S3 → Nat × Nat → Prop} (Z : b_Cx x g l RX7 cX7_parameters 4 (2) O0) (hret : f_RI x g 4 cX7_parameters .int O0 Q) : ∀ (n : Nat) (a1 : Int32) (a2 : Int32) (M : f_S3) (O : Nat × Nat), wF_X7_parameters_15 (b_N g) Q n a1 a2 M O → f_G x g 4 O0 M O 15 [(0, .ref (b_o g 0)), (1, .int a1), (2, .int a2)] [] := by
  intro n
  induction n with
  | zero => intro _ _ _ _ hw; exact hw.elim
  | succ n ih =>
    intro a1 a2 M O hw
    dsimp only [wF_X7_parameters_15] at hw
    refine ac_iload_n Z.1 2 dX7_parameters_15 rfl ?_
    refine ac_sipush (v := 4000) Z.1 dX7_parameters_16 (by decide) ?_
    obtain ⟨hwt, hwf⟩ := hw
    refine ac_icmp_gt (tgt := 92) Z.1 dX7_parameters_19 (by decide) (fun hc => ?_) (fun hc => ?_)
    · have hw := hwt hc
      refine ac_lv [0, 1] rfl ?_
      exact sF_X7_parameters_92 hg Z hret _ _ _ hw
    · have hw := hwf hc
      refine ac_aload_n Z.1 0 dX7_parameters_22 rfl ?_
      refine f_geti Z b_X7 0 (oR_0 hg) 12 (by decide) (by decide) (fR_12 hg) fX7_62 rfl (v := (M.1 12)) rfl dX7_parameters_23 ?_
      refine ac_sipush (v := 137) Z.1 dX7_parameters_26 (by decide) ?_
      obtain ⟨hwt, hwf⟩ := hw
      refine ac_icmp_eq (tgt := 92) Z.1 dX7_parameters_29 (by decide) (fun hc => ?_) (fun hc => ?_)
      · have hw := hwt hc
        refine ac_lv [0, 1] rfl ?_
        exact sF_X7_parameters_92 hg Z hret _ _ _ hw
      · have hw := hwf hc
        refine ac_iload_n Z.1 1 dX7_parameters_32 rfl ?_
        refine ac_iconst (v := 4) Z.1 dX7_parameters_33 (by decide) ?_
        obtain ⟨hwt, hwf⟩ := hw
        refine ac_icmp_lt (tgt := 46) Z.1 dX7_parameters_34 (by decide) (fun hc => ?_) (fun hc => ?_)
        · have hw := hwt hc
          exact sF_X7_parameters_46 hg Z hret ih _ _ _ _ hw
        · have hw := hwf hc
          refine ac_aload_n Z.1 0 dX7_parameters_37 rfl ?_
          refine ac_iconst (v := 3) Z.1 dX7_parameters_38 (by decide) ?_
          refine ac_aload_n Z.1 0 dX7_parameters_39 rfl ?_
          refine f_geti Z b_X7 0 (oR_0 hg) 14 (by decide) (by decide) (fR_14 hg) fX7_90 rfl (v := (M.1 14)) rfl dX7_parameters_40 ?_
          refine f_callv (As := [.int 3, .int (M.1 14)]) (st := []) Z b_X7.1 0 (oR_0 hg) rfl kX7_putFault lkX7_133 (by omega) (soF_X7_putFault hg  _ _ _ _ _ hw) rfl rfl (Nat.le_of_ble_eq_true rfl) dX7_parameters_43 (fun M6 O6 hw => ?_)
          exact sF_X7_parameters_46 hg Z hret ih _ _ _ _ hw
def wF_X7_parameters (N : Nat → Nat) (M : f_S3) (O : Nat × Nat) (Q : Int32 → f_S3 → Nat × Nat → Prop) : Prop := (¬ (M.1 12) = 41 → (∃ e15, wF_X7_parameters_15 N Q e15 0 0 M O)) ∧ ((M.1 12) = 41 → (Q 0 M O))
set_option maxRecDepth 20000 in
theorem soF_X7_parameters {l : Launch} {g : b_S} (hg : g.1 = tb_R) (M : f_S3) (O : Nat × Nat) (Q : Int32 → f_S3 → Nat × Nat → Prop) (hw : wF_X7_parameters (b_N g)  M O Q) : f_MetI l g yX7_parameters cX7_parameters 4 .int (2) [.ref (b_o g 0)] M O Q := by
  refine f_MetI.of (C := RX7) (by decide) rfl (Nat.le_of_ble_eq_true rfl) (fun x Z hret => ?_)
  show f_G x g 4 O M O 0 [(0, .ref (b_o g 0))] []
  refine ac_aload_n Z.1 0 dX7_parameters_0 rfl ?_
  refine f_geti Z b_X7 0 (oR_0 hg) 12 (by decide) (by decide) (fR_12 hg) fX7_62 rfl (v := (M.1 12)) rfl dX7_parameters_1 ?_
  refine ac_bipush (v := 41) Z.1 dX7_parameters_4 (by decide) ?_
  obtain ⟨hwt, hwf⟩ := hw
  refine ac_icmp_ne (tgt := 11) Z.1 dX7_parameters_6 (by decide) (fun hc => ?_) (fun hc => ?_)
  · have hw := hwt hc
    refine ac_iconst (v := 0) Z.1 dX7_parameters_11 (by decide) ?_
    refine ac_istore_n (lv' := [(1, .int 0), (0, .ref (b_o g 0))]) Z.1 dX7_parameters_12 (by decide) rfl ?_
    refine ac_iconst (v := 0) Z.1 dX7_parameters_13 (by decide) ?_
    refine ac_istore_n (lv' := [(2, .int 0), (1, .int 0), (0, .ref (b_o g 0))]) Z.1 dX7_parameters_14 (by decide) rfl ?_
    obtain ⟨n, hw⟩ := hw
    refine ac_lv [2, 1, 0] rfl ?_
    exact sF_X7_parameters_15 hg Z hret n _ _ _ _ hw
  · have hw := hwf hc
    refine ac_iconst (v := 0) Z.1 dX7_parameters_9 (by decide) ?_
    exact hret _ _ _ _ _ dX7_parameters_10 rfl hw
def wF_X7_emit_ (N : Nat → Nat) (p1 : Int32) (p2 : Int32) (M : f_S3) (O : Nat × Nat) (Q : f_S3 → Nat × Nat → Prop) : Prop := wF_X6_put N p1 M O (fun r1 M2 O2 => (wF_X6_put N p2 M2 O2 (fun r3 M4 O4 => (Q M4 O4))))
set_option maxRecDepth 20000 in
theorem soF_X7_emit_ {l : Launch} {g : b_S} (hg : g.1 = tb_R) (p1 : Int32) (p2 : Int32) (M : f_S3) (O : Nat × Nat) (Q : f_S3 → Nat × Nat → Prop) (hw : wF_X7_emit_ (b_N g) p1 p2 M O Q) : f_MetV l g yX7_emit_ cX7_emit_ 3 (1) [.ref (b_o g 0), .int p1, .int p2] M O Q := by
  refine f_MetV.of (C := RX7) (by decide) rfl (Nat.le_of_ble_eq_true rfl) (fun x Z hret => ?_)
  show f_G x g 3 O M O 0 [(0, .ref (b_o g 0)), (1, .int p1), (2, .int p2)] []
  refine ac_aload_n Z.1 0 dX7_emit__0 rfl ?_
  refine f_getr Z b_X7 0 (oR_0 hg) 1 (by decide) (by decide) (fR_1 hg) fX7_31 rfl (h2 := (b_o g 3)) rfl dX7_emit__1 ?_
  refine ac_iload_n Z.1 1 dX7_emit__4 rfl ?_
  refine f_calli (As := [.int p1]) (st := []) Z b_X6.1 3 (oR_3 hg) rfl kX6_put lkX7_96 (by omega) (soF_X6_put hg  _ _ _ _ hw) rfl rfl (Nat.le_of_ble_eq_true rfl) dX7_emit__5 (fun r1 M2 O2 hw => ?_)
  refine ac_pop Z.1 dX7_emit__8 rfl ?_
  refine ac_aload_n Z.1 0 dX7_emit__9 rfl ?_
  refine f_getr Z b_X7 0 (oR_0 hg) 1 (by decide) (by decide) (fR_1 hg) fX7_31 rfl (h2 := (b_o g 3)) rfl dX7_emit__10 ?_
  refine ac_iload_n Z.1 2 dX7_emit__13 rfl ?_
  refine f_calli (As := [.int p2]) (st := []) Z b_X6.1 3 (oR_3 hg) rfl kX6_put lkX7_96 (by omega) (soF_X6_put hg  _ _ _ _ hw) rfl rfl (Nat.le_of_ble_eq_true rfl) dX7_emit__14 (fun r3 M4 O4 hw => ?_)
  refine ac_pop Z.1 dX7_emit__17 rfl ?_
  exact hret _ _ _ _ dX7_emit__18 hw
def wF_X7_emit (N : Nat → Nat) (p1 : Int32) (M : f_S3) (O : Nat × Nat) (Q : f_S3 → Nat × Nat → Prop) : Prop := wF_X6_put N p1 M O (fun r1 M2 O2 => (Q M2 O2))
set_option maxRecDepth 20000 in
theorem soF_X7_emit {l : Launch} {g : b_S} (hg : g.1 = tb_R) (p1 : Int32) (M : f_S3) (O : Nat × Nat) (Q : f_S3 → Nat × Nat → Prop) (hw : wF_X7_emit (b_N g) p1 M O Q) : f_MetV l g yX7_emit cX7_emit 2 (1) [.ref (b_o g 0), .int p1] M O Q := by
  refine f_MetV.of (C := RX7) (by decide) rfl (Nat.le_of_ble_eq_true rfl) (fun x Z hret => ?_)
  show f_G x g 2 O M O 0 [(0, .ref (b_o g 0)), (1, .int p1)] []
  refine ac_aload_n Z.1 0 dX7_emit_0 rfl ?_
  refine f_getr Z b_X7 0 (oR_0 hg) 1 (by decide) (by decide) (fR_1 hg) fX7_31 rfl (h2 := (b_o g 3)) rfl dX7_emit_1 ?_
  refine ac_iload_n Z.1 1 dX7_emit_4 rfl ?_
  refine f_calli (As := [.int p1]) (st := []) Z b_X6.1 3 (oR_3 hg) rfl kX6_put lkX7_96 (by omega) (soF_X6_put hg  _ _ _ _ hw) rfl rfl (Nat.le_of_ble_eq_true rfl) dX7_emit_5 (fun r1 M2 O2 hw => ?_)
  refine ac_pop Z.1 dX7_emit_8 rfl ?_
  exact hret _ _ _ _ dX7_emit_9 hw
def wF_X7_hearing (N : Nat → Nat) (WB : Int32 → f_S3 → (Nat × Nat) → (f_S3 → Nat × Nat → Prop) → Prop) (M : f_S3) (O : Nat × Nat) (Q : f_S3 → Nat × Nat → Prop) : Prop := wF_X7_take N 200 M O (fun M1 O1 => (wF_X7_nameHearing N (M.1 14) M1 O1 (fun M2 O2 => (wF_X7_takeOpening N 40 0 M2 O2 (fun M3 O3 => (wF_X7_parameters N M3 O3 (fun r4 M5 O5 => (wF_X7_take N 41 M5 O5 (fun M6 O6 => (WB 0 M6 O6 (fun M7 O7 => (wF_X7_emit_ N 7 0 M7 O7 (fun M8 O8 => (wF_X7_emit N 3 M8 O8 (fun M9 O9 => (wF_X6_addHearing N (M3.1 63) r4 M9 O9 (fun M10 O10 => (Q M10 O10))))))))))))))))))
set_option maxRecDepth 20000 in
theorem soF_X7_hearing {l : Launch} {g : b_S} (hg : g.1 = tb_R) {WB : Int32 → f_S3 → (Nat × Nat) → (f_S3 → Nat × Nat → Prop) → Prop} {rkB : Nat} (hWB : ∀ (p0 : Int32) (M : f_S3) (O : Nat × Nat) (Q : f_S3 → Nat × Nat → Prop), WB p0 M O Q → f_MetV l g yX7_block cX7_block 3 rkB [.ref (b_o g 0), .int p0] M O Q) (M : f_S3) (O : Nat × Nat) (Q : f_S3 → Nat × Nat → Prop) (hw : wF_X7_hearing (b_N g) WB  M O Q) : f_MetV l g yX7_hearing cX7_hearing 4 (rkB + 3) [.ref (b_o g 0)] M O Q := by
  refine f_MetV.of (C := RX7) (by decide) rfl (Nat.le_of_ble_eq_true rfl) (fun x Z hret => ?_)
  show f_G x g 4 O M O 0 [(0, .ref (b_o g 0))] []
  refine ac_aload_n Z.1 0 dX7_hearing_0 rfl ?_
  refine f_geti Z b_X7 0 (oR_0 hg) 14 (by decide) (by decide) (fR_14 hg) fX7_90 rfl (v := (M.1 14)) rfl dX7_hearing_1 ?_
  refine ac_istore_n (lv' := [(1, .int (M.1 14)), (0, .ref (b_o g 0))]) Z.1 dX7_hearing_4 (by decide) rfl ?_
  refine ac_aload_n Z.1 1 dX7_hearing_5 rfl ?_
  refine ac_sipush (v := 200) Z.1 dX7_hearing_6 (by decide) ?_
  refine f_callv (As := [.int 200]) (st := []) Z b_X7.1 0 (oR_0 hg) rfl kX7_take lkX7_100 (by omega) (soF_X7_take hg  _ _ _ _ hw) rfl rfl (Nat.le_of_ble_eq_true rfl) dX7_hearing_9 (fun M1 O1 hw => ?_)
  refine ac_aload_n Z.1 1 dX7_hearing_12 rfl ?_
  refine ac_iload_n Z.1 0 dX7_hearing_13 rfl ?_
  refine f_callv (As := [.int (M.1 14)]) (st := []) Z b_X7.1 0 (oR_0 hg) rfl kX7_nameHearing lkX7_103 (by omega) (soF_X7_nameHearing hg  _ _ _ _ hw) rfl rfl (Nat.le_of_ble_eq_true rfl) dX7_hearing_14 (fun M2 O2 hw => ?_)
  refine ac_aload_n Z.1 1 dX7_hearing_17 rfl ?_
  refine ac_bipush (v := 40) Z.1 dX7_hearing_18 (by decide) ?_
  refine ac_iconst (v := 0) Z.1 dX7_hearing_20 (by decide) ?_
  refine f_callv (As := [.int 40, .int 0]) (st := []) Z b_X7.1 0 (oR_0 hg) rfl kX7_takeOpening lkX7_106 (by omega) (soF_X7_takeOpening hg  _ _ _ _ _ hw) rfl rfl (Nat.le_of_ble_eq_true rfl) dX7_hearing_21 (fun M3 O3 hw => ?_)
  refine ac_aload_n Z.1 1 dX7_hearing_24 rfl ?_
  refine f_getr Z b_X7 0 (oR_0 hg) 1 (by decide) (by decide) (fR_1 hg) fX7_31 rfl (h2 := (b_o g 3)) rfl dX7_hearing_25 ?_
  refine f_geti Z b_X6 3 (oR_3 hg) 3 (by decide) (by decide) (fR_63 hg) fX7_110 rfl (v := (M3.1 63)) rfl dX7_hearing_28 ?_
  refine ac_istore_n (lv' := [(2, .int (M3.1 63)), (1, .int (M.1 14)), (0, .ref (b_o g 0))]) Z.1 dX7_hearing_31 (by decide) rfl ?_
  refine ac_aload_n Z.1 2 dX7_hearing_32 rfl ?_
  refine f_calli (As := []) (st := []) Z b_X7.1 0 (oR_0 hg) rfl kX7_parameters lkX7_113 (by omega) (soF_X7_parameters hg   _ _ _ hw) rfl rfl (Nat.le_of_ble_eq_true rfl) dX7_hearing_33 (fun r4 M5 O5 hw => ?_)
  refine ac_istore_n (lv' := [(3, .int r4), (2, .int (M3.1 63)), (1, .int (M.1 14)), (0, .ref (b_o g 0))]) Z.1 dX7_hearing_36 (by decide) rfl ?_
  refine ac_aload_n Z.1 3 dX7_hearing_37 rfl ?_
  refine ac_bipush (v := 41) Z.1 dX7_hearing_38 (by decide) ?_
  refine f_callv (As := [.int 41]) (st := []) Z b_X7.1 0 (oR_0 hg) rfl kX7_take lkX7_100 (by omega) (soF_X7_take hg  _ _ _ _ hw) rfl rfl (Nat.le_of_ble_eq_true rfl) dX7_hearing_40 (fun M6 O6 hw => ?_)
  refine ac_aload_n Z.1 3 dX7_hearing_43 rfl ?_
  refine ac_iconst (v := 0) Z.1 dX7_hearing_44 (by decide) ?_
  refine f_callv (As := [.int 0]) (st := []) Z b_X7.1 0 (oR_0 hg) rfl kX7_block lkX7_117 (by omega) (hWB _ _ _ _ hw) rfl rfl (Nat.le_of_ble_eq_true rfl) dX7_hearing_45 (fun M7 O7 hw => ?_)
  refine ac_aload_n Z.1 3 dX7_hearing_48 rfl ?_
  refine ac_bipush (v := 7) Z.1 dX7_hearing_49 (by decide) ?_
  refine ac_iconst (v := 0) Z.1 dX7_hearing_51 (by decide) ?_
  refine f_callv (As := [.int 7, .int 0]) (st := []) Z b_X7.1 0 (oR_0 hg) rfl kX7_emit_ lkX7_122 (by omega) (soF_X7_emit_ hg  _ _ _ _ _ hw) rfl rfl (Nat.le_of_ble_eq_true rfl) dX7_hearing_52 (fun M8 O8 hw => ?_)
  refine ac_aload_n Z.1 3 dX7_hearing_55 rfl ?_
  refine ac_iconst (v := 3) Z.1 dX7_hearing_56 (by decide) ?_
  refine f_callv (As := [.int 3]) (st := []) Z b_X7.1 0 (oR_0 hg) rfl kX7_emit lkX7_125 (by omega) (soF_X7_emit hg  _ _ _ _ hw) rfl rfl (Nat.le_of_ble_eq_true rfl) dX7_hearing_57 (fun M9 O9 hw => ?_)
  refine ac_aload_n Z.1 3 dX7_hearing_60 rfl ?_
  refine f_getr Z b_X7 0 (oR_0 hg) 1 (by decide) (by decide) (fR_1 hg) fX7_31 rfl (h2 := (b_o g 3)) rfl dX7_hearing_61 ?_
  refine ac_iload_n Z.1 1 dX7_hearing_64 rfl ?_
  refine ac_iload_n Z.1 0 dX7_hearing_65 rfl ?_
  refine f_callv (As := [.int (M3.1 63), .int r4]) (st := []) Z b_X6.1 3 (oR_3 hg) rfl kX6_addHearing lkX7_127 (by omega) (soF_X6_addHearing hg  _ _ _ _ _ hw) rfl rfl (Nat.le_of_ble_eq_true rfl) dX7_hearing_66 (fun M10 O10 hw => ?_)
  exact hret _ _ _ _ dX7_hearing_69 hw
def wF_X7_findHearings_108 (N : Nat → Nat) (K2 : (Int32 → f_S3 → (Nat × Nat) → Prop)) (Q : f_S3 → Nat × Nat → Prop) (a1 : Int32) (a3 : Int32) (M : f_S3) (O : Nat × Nat) : Prop := vp_in a1 (N 26) ∧ (wF_X6_change N (M.2.1 26 a1.toNatClampNeg) a3 M O (fun M7 O7 => (K2 (a1 + 1) M7 O7)))
set_option maxRecDepth 20000 in
theorem sF_X7_findHearings_108 {x : ac_X} {g : b_S} (hg : g.1 = tb_R) {l : Launch} {O0 : Nat × Nat} {K2 : (Int32 → f_S3 → (Nat × Nat) → Prop)} {Q : f_S3 → Nat × Nat → Prop} (Z : b_Cx x g l RX7 cX7_findHearings 4 (1) O0) (hret : f_RV x g 4 cX7_findHearings O0 Q) (hK2 : ∀ (a1 : Int32) (M : f_S3) (O : Nat × Nat), K2 a1 M O → f_G x g 4 O0 M O 2 [(0, .ref (b_o g 0)), (1, .int a1)] []) (a1 : Int32) (a3 : Int32) (M : f_S3) (O : Nat × Nat) (hw : wF_X7_findHearings_108 (b_N g) K2 Q a1 a3 M O) : f_G x g 4 O0 M O 108 [(0, .ref (b_o g 0)), (1, .int a1), (3, .int a3)] [] := by
  refine ac_aload_n Z.1 0 dX7_findHearings_108 rfl ?_
  refine f_getr Z b_X7 0 (oR_0 hg) 1 (by decide) (by decide) (fR_1 hg) fX7_31 rfl (h2 := (b_o g 3)) rfl dX7_findHearings_109 ?_
  refine ac_aload_n Z.1 0 dX7_findHearings_112 rfl ?_
  refine f_getr Z b_X7 0 (oR_0 hg) 5 (by decide) (by decide) (fR_5 hg) fX7_44 rfl (h2 := (b_o g 26)) rfl dX7_findHearings_113 ?_
  refine ac_iload_n Z.1 1 dX7_findHearings_116 rfl ?_
  obtain ⟨hb6, hw⟩ := hw
  refine f_ald Z 13 (aR_26 hg) rfl hb6 (v := (M.2.1 26 a1.toNatClampNeg)) rfl dX7_findHearings_117 ?_
  refine ac_iload_n Z.1 2 dX7_findHearings_118 rfl ?_
  refine f_callv (As := [.int (M.2.1 26 a1.toNatClampNeg), .int a3]) (st := []) Z b_X6.1 3 (oR_3 hg) rfl kX6_change lkX7_205 (by omega) (soF_X6_change hg  _ _ _ _ _ hw) rfl rfl (Nat.le_of_ble_eq_true rfl) dX7_findHearings_119 (fun M7 O7 hw => ?_)
  refine ac_iinc (w := (a1 + 1)) (lv' := [(1, .int (a1 + 1)), (0, .ref (b_o g 0)), (3, .int a3)]) Z.1 1 dX7_findHearings_122 rfl rfl (by decide) rfl ?_
  refine ac_goto (tgt := 2) Z.1 dX7_findHearings_125 (by decide) ?_
  refine ac_lv [1, 0] rfl ?_
  exact hK2 _ _ _ hw
def wF_X7_findHearings_97 (N : Nat → Nat) (K2 : (Int32 → f_S3 → (Nat × Nat) → Prop)) (Q : f_S3 → Nat × Nat → Prop) (a1 : Int32) (a3 : Int32) (M : f_S3) (O : Nat × Nat) : Prop := vp_in a1 (N 27) ∧ (wF_X7_putFault N 4 (M.2.1 27 a1.toNatClampNeg) M O (fun M5 O5 => (wF_X7_findHearings_108 N K2 Q a1 a3 M5 O5)))
set_option maxRecDepth 20000 in
theorem sF_X7_findHearings_97 {x : ac_X} {g : b_S} (hg : g.1 = tb_R) {l : Launch} {O0 : Nat × Nat} {K2 : (Int32 → f_S3 → (Nat × Nat) → Prop)} {Q : f_S3 → Nat × Nat → Prop} (Z : b_Cx x g l RX7 cX7_findHearings 4 (1) O0) (hret : f_RV x g 4 cX7_findHearings O0 Q) (hK2 : ∀ (a1 : Int32) (M : f_S3) (O : Nat × Nat), K2 a1 M O → f_G x g 4 O0 M O 2 [(0, .ref (b_o g 0)), (1, .int a1)] []) (a1 : Int32) (a3 : Int32) (M : f_S3) (O : Nat × Nat) (hw : wF_X7_findHearings_97 (b_N g) K2 Q a1 a3 M O) : f_G x g 4 O0 M O 97 [(0, .ref (b_o g 0)), (1, .int a1), (3, .int a3)] [] := by
  refine ac_aload_n Z.1 0 dX7_findHearings_97 rfl ?_
  refine ac_iconst (v := 4) Z.1 dX7_findHearings_98 (by decide) ?_
  refine ac_aload_n Z.1 0 dX7_findHearings_99 rfl ?_
  refine f_getr Z b_X7 0 (oR_0 hg) 6 (by decide) (by decide) (fR_6 hg) fX7_47 rfl (h2 := (b_o g 27)) rfl dX7_findHearings_100 ?_
  refine ac_iload_n Z.1 1 dX7_findHearings_103 rfl ?_
  obtain ⟨hb4, hw⟩ := hw
  refine f_ald Z 14 (aR_27 hg) rfl hb4 (v := (M.2.1 27 a1.toNatClampNeg)) rfl dX7_findHearings_104 ?_
  refine f_callv (As := [.int 4, .int (M.2.1 27 a1.toNatClampNeg)]) (st := []) Z b_X7.1 0 (oR_0 hg) rfl kX7_putFault lkX7_133 (by omega) (soF_X7_putFault hg  _ _ _ _ _ hw) rfl rfl (Nat.le_of_ble_eq_true rfl) dX7_findHearings_105 (fun M5 O5 hw => ?_)
  exact sF_X7_findHearings_108 hg Z hret hK2 _ _ _ _ hw
def wF_X7_findHearings_65 (N : Nat → Nat) (K2 : (Int32 → f_S3 → (Nat × Nat) → Prop)) (Q : f_S3 → Nat × Nat → Prop) (a1 : Int32) (t0 : Int32) (M : f_S3) (O : Nat × Nat) : Prop := (t0 = (-1) → (wF_X7_findHearings_97 N K2 Q a1 t0 M O)) ∧ (¬ t0 = (-1) → (wF_X6_parametersOf N t0 M O (fun r8 M9 O9 => (vp_in a1 (N 26) ∧ (wF_X6_get N ((M9.2.1 26 a1.toNatClampNeg) + 1) M9 O9 (fun r11 M12 O12 => ((r8 = r11 → (wF_X7_findHearings_108 N K2 Q a1 t0 M12 O12)) ∧ (¬ r8 = r11 → (wF_X7_findHearings_97 N K2 Q a1 t0 M12 O12)))))))))
set_option maxRecDepth 20000 in
theorem sF_X7_findHearings_65 {x : ac_X} {g : b_S} (hg : g.1 = tb_R) {l : Launch} {O0 : Nat × Nat} {K2 : (Int32 → f_S3 → (Nat × Nat) → Prop)} {Q : f_S3 → Nat × Nat → Prop} (Z : b_Cx x g l RX7 cX7_findHearings 4 (1) O0) (hret : f_RV x g 4 cX7_findHearings O0 Q) (hK2 : ∀ (a1 : Int32) (M : f_S3) (O : Nat × Nat), K2 a1 M O → f_G x g 4 O0 M O 2 [(0, .ref (b_o g 0)), (1, .int a1)] []) (a1 : Int32) (t0 : Int32) (M : f_S3) (O : Nat × Nat) (hw : wF_X7_findHearings_65 (b_N g) K2 Q a1 t0 M O) : f_G x g 4 O0 M O 65 [(0, .ref (b_o g 0)), (1, .int a1)] [.int t0] := by
  refine ac_istore_n (lv' := [(3, .int t0), (0, .ref (b_o g 0)), (1, .int a1)]) Z.1 dX7_findHearings_65 (by decide) rfl ?_
  refine ac_iload_n Z.1 0 dX7_findHearings_66 rfl ?_
  refine ac_iconst (v := (-1)) Z.1 dX7_findHearings_67 (by decide) ?_
  obtain ⟨hwt, hwf⟩ := hw
  refine ac_icmp_eq (tgt := 97) Z.1 dX7_findHearings_68 (by decide) (fun hc => ?_) (fun hc => ?_)
  · have hw := hwt hc
    refine ac_lv [1, 2, 0] rfl ?_
    exact sF_X7_findHearings_97 hg Z hret hK2 _ _ _ _ hw
  · have hw := hwf hc
    refine ac_aload_n Z.1 1 dX7_findHearings_71 rfl ?_
    refine f_getr Z b_X7 0 (oR_0 hg) 1 (by decide) (by decide) (fR_1 hg) fX7_31 rfl (h2 := (b_o g 3)) rfl dX7_findHearings_72 ?_
    refine ac_iload_n Z.1 0 dX7_findHearings_75 rfl ?_
    refine f_calli (As := [.int t0]) (st := []) Z b_X6.1 3 (oR_3 hg) rfl kX6_parametersOf lkX7_237 (by omega) (soF_X6_parametersOf hg  _ _ _ _ hw) rfl rfl (Nat.le_of_ble_eq_true rfl) dX7_findHearings_76 (fun r8 M9 O9 hw => ?_)
    refine ac_aload_n Z.1 1 dX7_findHearings_79 rfl ?_
    refine f_getr Z b_X7 0 (oR_0 hg) 1 (by decide) (by decide) (fR_1 hg) fX7_31 rfl (h2 := (b_o g 3)) rfl dX7_findHearings_80 ?_
    refine ac_aload_n Z.1 1 dX7_findHearings_83 rfl ?_
    refine f_getr Z b_X7 0 (oR_0 hg) 5 (by decide) (by decide) (fR_5 hg) fX7_44 rfl (h2 := (b_o g 26)) rfl dX7_findHearings_84 ?_
    refine ac_iload_n Z.1 2 dX7_findHearings_87 rfl ?_
    obtain ⟨hb10, hw⟩ := hw
    refine f_ald Z 13 (aR_26 hg) rfl hb10 (v := (M9.2.1 26 a1.toNatClampNeg)) rfl dX7_findHearings_88 ?_
    refine ac_iconst (v := 1) Z.1 dX7_findHearings_89 (by decide) ?_
    refine ac_iadd Z.1 dX7_findHearings_90 ?_
    refine f_calli (As := [.int ((M9.2.1 26 a1.toNatClampNeg) + 1)]) (st := [.int r8]) Z b_X6.1 3 (oR_3 hg) rfl kX6_get lkX7_234 (by omega) (soF_X6_get hg  _ _ _ _ hw) rfl rfl (Nat.le_of_ble_eq_true rfl) dX7_findHearings_91 (fun r11 M12 O12 hw => ?_)
    obtain ⟨hwt, hwf⟩ := hw
    refine ac_icmp_eq (tgt := 108) Z.1 dX7_findHearings_94 (by decide) (fun hc => ?_) (fun hc => ?_)
    · have hw := hwt hc
      refine ac_lv [1, 2, 0] rfl ?_
      exact sF_X7_findHearings_108 hg Z hret hK2 _ _ _ _ hw
    · have hw := hwf hc
      refine ac_lv [1, 2, 0] rfl ?_
      exact sF_X7_findHearings_97 hg Z hret hK2 _ _ _ _ hw
def wF_X7_findHearings_64 (N : Nat → Nat) (K2 : (Int32 → f_S3 → (Nat × Nat) → Prop)) (Q : f_S3 → Nat × Nat → Prop) (a1 : Int32) (M : f_S3) (O : Nat × Nat) : Prop := wF_X7_findHearings_65 N K2 Q a1 (-1) M O
set_option maxRecDepth 20000 in
theorem sF_X7_findHearings_64 {x : ac_X} {g : b_S} (hg : g.1 = tb_R) {l : Launch} {O0 : Nat × Nat} {K2 : (Int32 → f_S3 → (Nat × Nat) → Prop)} {Q : f_S3 → Nat × Nat → Prop} (Z : b_Cx x g l RX7 cX7_findHearings 4 (1) O0) (hret : f_RV x g 4 cX7_findHearings O0 Q) (hK2 : ∀ (a1 : Int32) (M : f_S3) (O : Nat × Nat), K2 a1 M O → f_G x g 4 O0 M O 2 [(0, .ref (b_o g 0)), (1, .int a1)] []) (a1 : Int32) (M : f_S3) (O : Nat × Nat) (hw : wF_X7_findHearings_64 (b_N g) K2 Q a1 M O) : f_G x g 4 O0 M O 64 [(0, .ref (b_o g 0)), (1, .int a1)] [] := by
  refine ac_iconst (v := (-1)) Z.1 dX7_findHearings_64 (by decide) ?_
  exact sF_X7_findHearings_65 hg Z hret hK2 _ _ _ _ hw
def wF_X7_findHearings_2 (N : Nat → Nat) (Q : f_S3 → Nat × Nat → Prop) : Nat → Int32 → f_S3 → Nat × Nat → Prop
  | 0 => fun _ _ _ => False
  | n + 1 => fun a1 M O => (((M.1 8) ≤ a1 → (Q M O)) ∧ (¬ (M.1 8) ≤ a1 → (((nI (N 26)) ≤ a1 → (Q M O)) ∧ (¬ (nI (N 26)) ≤ a1 → (((nI (N 27)) ≤ a1 → (Q M O)) ∧ (¬ (nI (N 27)) ≤ a1 → (vp_in a1 (N 26) ∧ (wF_X6_get N (M.2.1 26 a1.toNatClampNeg) M O (fun r2 M3 O3 => ((r2 < 0 → (wF_X7_findHearings_64 N (wF_X7_findHearings_2 N Q n) Q a1 M3 O3)) ∧ (¬ r2 < 0 → (((nI (N 25)) ≤ r2 → (wF_X7_findHearings_64 N (wF_X7_findHearings_2 N Q n) Q a1 M3 O3)) ∧ (¬ (nI (N 25)) ≤ r2 → (vp_in r2 (N 25) ∧ (wF_X7_findHearings_65 N (wF_X7_findHearings_2 N Q n) Q a1 (M3.2.1 25 r2.toNatClampNeg) M3 O3)))))))))))))))
set_option maxRecDepth 20000 in
theorem sF_X7_findHearings_2 {x : ac_X} {g : b_S} (hg : g.1 = tb_R) {l : Launch} {O0 : Nat × Nat} {Q : f_S3 → Nat × Nat → Prop} (Z : b_Cx x g l RX7 cX7_findHearings 4 (1) O0) (hret : f_RV x g 4 cX7_findHearings O0 Q) : ∀ (n : Nat) (a1 : Int32) (M : f_S3) (O : Nat × Nat), wF_X7_findHearings_2 (b_N g) Q n a1 M O → f_G x g 4 O0 M O 2 [(0, .ref (b_o g 0)), (1, .int a1)] [] := by
  intro n
  induction n with
  | zero => intro _ _ _ hw; exact hw.elim
  | succ n ih =>
    intro a1 M O hw
    dsimp only [wF_X7_findHearings_2] at hw
    refine ac_iload_n Z.1 1 dX7_findHearings_2 rfl ?_
    refine ac_aload_n Z.1 0 dX7_findHearings_3 rfl ?_
    refine f_geti Z b_X7 0 (oR_0 hg) 8 (by decide) (by decide) (fR_8 hg) fX7_231 rfl (v := (M.1 8)) rfl dX7_findHearings_4 ?_
    obtain ⟨hwt, hwf⟩ := hw
    refine ac_icmp_ge (tgt := 128) Z.1 dX7_findHearings_7 (by decide) (fun hc => ?_) (fun hc => ?_)
    · have hw := hwt hc
      exact hret _ _ _ _ dX7_findHearings_128 hw
    · have hw := hwf hc
      refine ac_iload_n Z.1 1 dX7_findHearings_10 rfl ?_
      refine ac_aload_n Z.1 0 dX7_findHearings_11 rfl ?_
      refine f_getr Z b_X7 0 (oR_0 hg) 5 (by decide) (by decide) (fR_5 hg) fX7_44 rfl (h2 := (b_o g 26)) rfl dX7_findHearings_12 ?_
      refine f_alen Z 13 (aR_26 hg) rfl (v := (nI (b_N g 26))) rfl dX7_findHearings_15 (by decide) ?_
      obtain ⟨hwt, hwf⟩ := hw
      refine ac_icmp_ge (tgt := 128) Z.1 dX7_findHearings_16 (by decide) (fun hc => ?_) (fun hc => ?_)
      · have hw := hwt hc
        exact hret _ _ _ _ dX7_findHearings_128 hw
      · have hw := hwf hc
        refine ac_iload_n Z.1 1 dX7_findHearings_19 rfl ?_
        refine ac_aload_n Z.1 0 dX7_findHearings_20 rfl ?_
        refine f_getr Z b_X7 0 (oR_0 hg) 6 (by decide) (by decide) (fR_6 hg) fX7_47 rfl (h2 := (b_o g 27)) rfl dX7_findHearings_21 ?_
        refine f_alen Z 14 (aR_27 hg) rfl (v := (nI (b_N g 27))) rfl dX7_findHearings_24 (by decide) ?_
        obtain ⟨hwt, hwf⟩ := hw
        refine ac_icmp_ge (tgt := 128) Z.1 dX7_findHearings_25 (by decide) (fun hc => ?_) (fun hc => ?_)
        · have hw := hwt hc
          exact hret _ _ _ _ dX7_findHearings_128 hw
        · have hw := hwf hc
          refine ac_aload_n Z.1 0 dX7_findHearings_28 rfl ?_
          refine f_getr Z b_X7 0 (oR_0 hg) 1 (by decide) (by decide) (fR_1 hg) fX7_31 rfl (h2 := (b_o g 3)) rfl dX7_findHearings_29 ?_
          refine ac_aload_n Z.1 0 dX7_findHearings_32 rfl ?_
          refine f_getr Z b_X7 0 (oR_0 hg) 5 (by decide) (by decide) (fR_5 hg) fX7_44 rfl (h2 := (b_o g 26)) rfl dX7_findHearings_33 ?_
          refine ac_iload_n Z.1 1 dX7_findHearings_36 rfl ?_
          obtain ⟨hb1, hw⟩ := hw
          refine f_ald Z 13 (aR_26 hg) rfl hb1 (v := (M.2.1 26 a1.toNatClampNeg)) rfl dX7_findHearings_37 ?_
          refine f_calli (As := [.int (M.2.1 26 a1.toNatClampNeg)]) (st := []) Z b_X6.1 3 (oR_3 hg) rfl kX6_get lkX7_234 (by omega) (soF_X6_get hg  _ _ _ _ hw) rfl rfl (Nat.le_of_ble_eq_true rfl) dX7_findHearings_38 (fun r2 M3 O3 hw => ?_)
          refine ac_istore_n (lv' := [(2, .int r2), (0, .ref (b_o g 0)), (1, .int a1)]) Z.1 dX7_findHearings_41 (by decide) rfl ?_
          refine ac_iload_n Z.1 0 dX7_findHearings_42 rfl ?_
          obtain ⟨hwt, hwf⟩ := hw
          refine ac_if_lt (tgt := 64) Z.1 dX7_findHearings_43 (by decide) (fun hc => ?_) (fun hc => ?_)
          · have hw := hwt hc
            refine ac_lv [1, 2] rfl ?_
            exact sF_X7_findHearings_64 hg Z hret ih _ _ _ hw
          · have hw := hwf hc
            refine ac_iload_n Z.1 0 dX7_findHearings_46 rfl ?_
            refine ac_aload_n Z.1 1 dX7_findHearings_47 rfl ?_
            refine f_getr Z b_X7 0 (oR_0 hg) 4 (by decide) (by decide) (fR_4 hg) fX7_41 rfl (h2 := (b_o g 25)) rfl dX7_findHearings_48 ?_
            refine f_alen Z 12 (aR_25 hg) rfl (v := (nI (b_N g 25))) rfl dX7_findHearings_51 (by decide) ?_
            obtain ⟨hwt, hwf⟩ := hw
            refine ac_icmp_ge (tgt := 64) Z.1 dX7_findHearings_52 (by decide) (fun hc => ?_) (fun hc => ?_)
            · have hw := hwt hc
              refine ac_lv [1, 2] rfl ?_
              exact sF_X7_findHearings_64 hg Z hret ih _ _ _ hw
            · have hw := hwf hc
              refine ac_aload_n Z.1 1 dX7_findHearings_55 rfl ?_
              refine f_getr Z b_X7 0 (oR_0 hg) 4 (by decide) (by decide) (fR_4 hg) fX7_41 rfl (h2 := (b_o g 25)) rfl dX7_findHearings_56 ?_
              refine ac_iload_n Z.1 0 dX7_findHearings_59 rfl ?_
              obtain ⟨hb13, hw⟩ := hw
              refine f_ald Z 12 (aR_25 hg) rfl hb13 (v := (M3.2.1 25 r2.toNatClampNeg)) rfl dX7_findHearings_60 ?_
              refine ac_goto (tgt := 65) Z.1 dX7_findHearings_61 (by decide) ?_
              refine ac_lv [1, 2] rfl ?_
              exact sF_X7_findHearings_65 hg Z hret ih _ _ _ _ hw
def wF_X7_findHearings (N : Nat → Nat) (M : f_S3) (O : Nat × Nat) (Q : f_S3 → Nat × Nat → Prop) : Prop := ∃ e2, wF_X7_findHearings_2 N Q e2 0 M O
set_option maxRecDepth 20000 in
theorem soF_X7_findHearings {l : Launch} {g : b_S} (hg : g.1 = tb_R) (M : f_S3) (O : Nat × Nat) (Q : f_S3 → Nat × Nat → Prop) (hw : wF_X7_findHearings (b_N g)  M O Q) : f_MetV l g yX7_findHearings cX7_findHearings 4 (1) [.ref (b_o g 0)] M O Q := by
  refine f_MetV.of (C := RX7) (by decide) rfl (Nat.le_of_ble_eq_true rfl) (fun x Z hret => ?_)
  show f_G x g 4 O M O 0 [(0, .ref (b_o g 0))] []
  refine ac_iconst (v := 0) Z.1 dX7_findHearings_0 (by decide) ?_
  refine ac_istore_n (lv' := [(1, .int 0), (0, .ref (b_o g 0))]) Z.1 dX7_findHearings_1 (by decide) rfl ?_
  obtain ⟨n, hw⟩ := hw
  refine ac_lv [1, 0] rfl ?_
  exact sF_X7_findHearings_2 hg Z hret n _ _ _ hw
def wF_X7_readText_50 (N : Nat → Nat) (WB : Int32 → f_S3 → (Nat × Nat) → (f_S3 → Nat × Nat → Prop) → Prop) (Q : f_S3 → Nat × Nat → Prop) (M : f_S3) (O : Nat × Nat) : Prop := wF_X7_findHearings N M O (fun M3 O3 => (Q M3 O3))
set_option maxRecDepth 20000 in
theorem sF_X7_readText_50 {x : ac_X} {g : b_S} (hg : g.1 = tb_R) {l : Launch} {O0 : Nat × Nat} {WB : Int32 → f_S3 → (Nat × Nat) → (f_S3 → Nat × Nat → Prop) → Prop} {rkB : Nat} {Q : f_S3 → Nat × Nat → Prop} (Z : b_Cx x g l RX7 cX7_readText 2 (rkB + 11) O0) (hret : f_RR x g 3 2 cX7_readText O0 Q) (hWB : ∀ (p0 : Int32) (M : f_S3) (O : Nat × Nat) (Q : f_S3 → Nat × Nat → Prop), WB p0 M O Q → f_MetV l g yX7_block cX7_block 3 rkB [.ref (b_o g 0), .int p0] M O Q) (M : f_S3) (O : Nat × Nat) (hw : wF_X7_readText_50 (b_N g) WB Q M O) : f_G x g 2 O0 M O 50 [(0, .ref (b_o g 0))] [] := by
  refine ac_aload_n Z.1 0 dX7_readText_50 rfl ?_
  refine f_callv (As := []) (st := []) Z b_X7.1 0 (oR_0 hg) rfl kX7_findHearings lkX7_69 (by omega) (soF_X7_findHearings hg   _ _ _ hw) rfl rfl (Nat.le_of_ble_eq_true rfl) dX7_readText_51 (fun M3 O3 hw => ?_)
  refine ac_aload_n Z.1 0 dX7_readText_54 rfl ?_
  refine f_getr Z b_X7 0 (oR_0 hg) 1 (by decide) (by decide) (fR_1 hg) fX7_31 rfl (h2 := (b_o g 3)) rfl dX7_readText_55 ?_
  exact hret _ _ _ _ dX7_readText_58 hw
def wF_X7_readText_13 (N : Nat → Nat) (WB : Int32 → f_S3 → (Nat × Nat) → (f_S3 → Nat × Nat → Prop) → Prop) (Q : f_S3 → Nat × Nat → Prop) : Nat → Int32 → f_S3 → Nat × Nat → Prop
  | 0 => fun _ _ _ => False
  | n + 1 => fun a1 M O => ((4000 < a1 → (wF_X7_readText_50 N WB Q M O)) ∧ (¬ 4000 < a1 → (((M.1 12) = 135 → (wF_X7_readText_50 N WB Q M O)) ∧ (¬ (M.1 12) = 135 → (((M.1 12) = 137 → (wF_X7_readText_50 N WB Q M O)) ∧ (¬ (M.1 12) = 137 → (wF_X7_hearing N WB M O (fun M4 O4 => (wF_X7_readText_13 N WB Q n (a1 + 1) M4 O4)))))))))
set_option maxRecDepth 20000 in
theorem sF_X7_readText_13 {x : ac_X} {g : b_S} (hg : g.1 = tb_R) {l : Launch} {O0 : Nat × Nat} {WB : Int32 → f_S3 → (Nat × Nat) → (f_S3 → Nat × Nat → Prop) → Prop} {rkB : Nat} {Q : f_S3 → Nat × Nat → Prop} (Z : b_Cx x g l RX7 cX7_readText 2 (rkB + 11) O0) (hret : f_RR x g 3 2 cX7_readText O0 Q) (hWB : ∀ (p0 : Int32) (M : f_S3) (O : Nat × Nat) (Q : f_S3 → Nat × Nat → Prop), WB p0 M O Q → f_MetV l g yX7_block cX7_block 3 rkB [.ref (b_o g 0), .int p0] M O Q) : ∀ (n : Nat) (a1 : Int32) (M : f_S3) (O : Nat × Nat), wF_X7_readText_13 (b_N g) WB Q n a1 M O → f_G x g 2 O0 M O 13 [(0, .ref (b_o g 0)), (1, .int a1)] [] := by
  intro n
  induction n with
  | zero => intro _ _ _ hw; exact hw.elim
  | succ n ih =>
    intro a1 M O hw
    dsimp only [wF_X7_readText_13] at hw
    refine ac_iload_n Z.1 1 dX7_readText_13 rfl ?_
    refine ac_sipush (v := 4000) Z.1 dX7_readText_14 (by decide) ?_
    obtain ⟨hwt, hwf⟩ := hw
    refine ac_icmp_gt (tgt := 50) Z.1 dX7_readText_17 (by decide) (fun hc => ?_) (fun hc => ?_)
    · have hw := hwt hc
      refine ac_lv [0] rfl ?_
      exact sF_X7_readText_50 hg Z hret hWB _ _ hw
    · have hw := hwf hc
      refine ac_aload_n Z.1 0 dX7_readText_20 rfl ?_
      refine f_geti Z b_X7 0 (oR_0 hg) 12 (by decide) (by decide) (fR_12 hg) fX7_62 rfl (v := (M.1 12)) rfl dX7_readText_21 ?_
      refine ac_sipush (v := 135) Z.1 dX7_readText_24 (by decide) ?_
      obtain ⟨hwt, hwf⟩ := hw
      refine ac_icmp_eq (tgt := 50) Z.1 dX7_readText_27 (by decide) (fun hc => ?_) (fun hc => ?_)
      · have hw := hwt hc
        refine ac_lv [0] rfl ?_
        exact sF_X7_readText_50 hg Z hret hWB _ _ hw
      · have hw := hwf hc
        refine ac_aload_n Z.1 0 dX7_readText_30 rfl ?_
        refine f_geti Z b_X7 0 (oR_0 hg) 12 (by decide) (by decide) (fR_12 hg) fX7_62 rfl (v := (M.1 12)) rfl dX7_readText_31 ?_
        refine ac_sipush (v := 137) Z.1 dX7_readText_34 (by decide) ?_
        obtain ⟨hwt, hwf⟩ := hw
        refine ac_icmp_eq (tgt := 50) Z.1 dX7_readText_37 (by decide) (fun hc => ?_) (fun hc => ?_)
        · have hw := hwt hc
          refine ac_lv [0] rfl ?_
          exact sF_X7_readText_50 hg Z hret hWB _ _ hw
        · have hw := hwf hc
          refine ac_aload_n Z.1 0 dX7_readText_40 rfl ?_
          refine f_callv (As := []) (st := []) Z b_X7.1 0 (oR_0 hg) rfl kX7_hearing lkX7_66 (by omega) (soF_X7_hearing hg hWB  _ _ _ hw) rfl rfl (Nat.le_of_ble_eq_true rfl) dX7_readText_41 (fun M4 O4 hw => ?_)
          refine ac_iinc (w := (a1 + 1)) (lv' := [(1, .int (a1 + 1)), (0, .ref (b_o g 0))]) Z.1 1 dX7_readText_44 rfl rfl (by decide) rfl ?_
          refine ac_goto (tgt := 13) Z.1 dX7_readText_47 (by decide) ?_
          refine ac_lv [1, 0] rfl ?_
          exact ih _ _ _ hw
def wF_X7_readText (N : Nat → Nat) (WB : Int32 → f_S3 → (Nat × Nat) → (f_S3 → Nat × Nat → Prop) → Prop) (M : f_S3) (O : Nat × Nat) (Q : f_S3 → Nat × Nat → Prop) : Prop := wF_X10_split N M O (fun M1 O1 => (wF_X7_advance N M1 O1 (fun M2 O2 => (∃ e13, wF_X7_readText_13 N WB Q e13 0 M2 O2))))
set_option maxRecDepth 20000 in
theorem soF_X7_readText {l : Launch} {g : b_S} (hg : g.1 = tb_R) {WB : Int32 → f_S3 → (Nat × Nat) → (f_S3 → Nat × Nat → Prop) → Prop} {rkB : Nat} (hWB : ∀ (p0 : Int32) (M : f_S3) (O : Nat × Nat) (Q : f_S3 → Nat × Nat → Prop), WB p0 M O Q → f_MetV l g yX7_block cX7_block 3 rkB [.ref (b_o g 0), .int p0] M O Q) (M : f_S3) (O : Nat × Nat) (Q : f_S3 → Nat × Nat → Prop) (hw : wF_X7_readText (b_N g) WB  M O Q) : f_MetR l g 3 (.object "AppealCourt$Program") yX7_readText cX7_readText 2 (rkB + 11) [.ref (b_o g 0)] M O Q := by
  refine f_MetR.of (C := RX7) (by decide) rfl (Nat.le_of_ble_eq_true rfl) (fun x Z hret => ?_)
  show f_G x g 2 O M O 0 [(0, .ref (b_o g 0))] []
  refine ac_aload_n Z.1 0 dX7_readText_0 rfl ?_
  refine f_getr Z b_X7 0 (oR_0 hg) 0 (by decide) (by decide) (fR_0 hg) fX7_22 rfl (h2 := (b_o g 1)) rfl dX7_readText_1 ?_
  refine f_callv (As := []) (st := []) Z b_X10.1 1 (oR_1 hg) rfl kX10_split lkX7_56 (by omega) (soF_X10_split hg   _ _ _ hw) rfl rfl (Nat.le_of_ble_eq_true rfl) dX7_readText_4 (fun M1 O1 hw => ?_)
  refine ac_aload_n Z.1 0 dX7_readText_7 rfl ?_
  refine f_callv (As := []) (st := []) Z b_X7.1 0 (oR_0 hg) rfl kX7_advance lkX7_59 (by omega) (soF_X7_advance hg   _ _ _ hw) rfl rfl (Nat.le_of_ble_eq_true rfl) dX7_readText_8 (fun M2 O2 hw => ?_)
  refine ac_iconst (v := 0) Z.1 dX7_readText_11 (by decide) ?_
  refine ac_istore_n (lv' := [(1, .int 0), (0, .ref (b_o g 0))]) Z.1 dX7_readText_12 (by decide) rfl ?_
  obtain ⟨n, hw⟩ := hw
  refine ac_lv [1, 0] rfl ?_
  exact sF_X7_readText_13 hg Z hret hWB n _ _ _ hw
def wF_X7_faultFound_2 (N : Nat → Nat) (Q : Int32 → f_S3 → Nat × Nat → Prop) : Nat → Int32 → f_S3 → Nat × Nat → Prop
  | 0 => fun _ _ _ => False
  | n + 1 => fun a1 M O => ((4 < a1 → (Q 0 M O)) ∧ (¬ 4 < a1 → (vp_in a1 (N 28) ∧ (((M.2.1 28 a1.toNatClampNeg) = (-1) → (wF_X7_faultFound_2 N Q n (a1 + 1) M O)) ∧ (¬ (M.2.1 28 a1.toNatClampNeg) = (-1) → (Q a1 M O))))))
set_option maxRecDepth 20000 in
theorem sF_X7_faultFound_2 {x : ac_X} {g : b_S} (hg : g.1 = tb_R) {l : Launch} {O0 : Nat × Nat} {Q : Int32 → f_S3 → Nat × Nat → Prop} (Z : b_Cx x g l RX7 cX7_faultFound 2 (0) O0) (hret : f_RI x g 2 cX7_faultFound .int O0 Q) : ∀ (n : Nat) (a1 : Int32) (M : f_S3) (O : Nat × Nat), wF_X7_faultFound_2 (b_N g) Q n a1 M O → f_G x g 2 O0 M O 2 [(0, .ref (b_o g 0)), (1, .int a1)] [] := by
  intro n
  induction n with
  | zero => intro _ _ _ hw; exact hw.elim
  | succ n ih =>
    intro a1 M O hw
    dsimp only [wF_X7_faultFound_2] at hw
    refine ac_iload_n Z.1 1 dX7_faultFound_2 rfl ?_
    refine ac_iconst (v := 4) Z.1 dX7_faultFound_3 (by decide) ?_
    obtain ⟨hwt, hwf⟩ := hw
    refine ac_icmp_gt (tgt := 25) Z.1 dX7_faultFound_4 (by decide) (fun hc => ?_) (fun hc => ?_)
    · have hw := hwt hc
      refine ac_iconst (v := 0) Z.1 dX7_faultFound_25 (by decide) ?_
      exact hret _ _ _ _ _ dX7_faultFound_26 rfl hw
    · have hw := hwf hc
      refine ac_aload_n Z.1 0 dX7_faultFound_7 rfl ?_
      refine f_getr Z b_X7 0 (oR_0 hg) 7 (by decide) (by decide) (fR_7 hg) fX7_11 rfl (h2 := (b_o g 28)) rfl dX7_faultFound_8 ?_
      refine ac_iload_n Z.1 1 dX7_faultFound_11 rfl ?_
      obtain ⟨hb1, hw⟩ := hw
      refine f_ald Z 15 (aR_28 hg) rfl hb1 (v := (M.2.1 28 a1.toNatClampNeg)) rfl dX7_faultFound_12 ?_
      refine ac_iconst (v := (-1)) Z.1 dX7_faultFound_13 (by decide) ?_
      obtain ⟨hwt, hwf⟩ := hw
      refine ac_icmp_eq (tgt := 19) Z.1 dX7_faultFound_14 (by decide) (fun hc => ?_) (fun hc => ?_)
      · have hw := hwt hc
        refine ac_iinc (w := (a1 + 1)) (lv' := [(1, .int (a1 + 1)), (0, .ref (b_o g 0))]) Z.1 1 dX7_faultFound_19 rfl rfl (by decide) rfl ?_
        refine ac_goto (tgt := 2) Z.1 dX7_faultFound_22 (by decide) ?_
        refine ac_lv [1, 0] rfl ?_
        exact ih _ _ _ hw
      · have hw := hwf hc
        refine ac_iload_n Z.1 1 dX7_faultFound_17 rfl ?_
        exact hret _ _ _ _ _ dX7_faultFound_18 rfl hw
def wF_X7_faultFound (N : Nat → Nat) (M : f_S3) (O : Nat × Nat) (Q : Int32 → f_S3 → Nat × Nat → Prop) : Prop := ∃ e2, wF_X7_faultFound_2 N Q e2 1 M O
set_option maxRecDepth 20000 in
theorem soF_X7_faultFound {l : Launch} {g : b_S} (hg : g.1 = tb_R) (M : f_S3) (O : Nat × Nat) (Q : Int32 → f_S3 → Nat × Nat → Prop) (hw : wF_X7_faultFound (b_N g)  M O Q) : f_MetI l g yX7_faultFound cX7_faultFound 2 .int (0) [.ref (b_o g 0)] M O Q := by
  refine f_MetI.of (C := RX7) (by decide) rfl (Nat.le_of_ble_eq_true rfl) (fun x Z hret => ?_)
  show f_G x g 2 O M O 0 [(0, .ref (b_o g 0))] []
  refine ac_iconst (v := 1) Z.1 dX7_faultFound_0 (by decide) ?_
  refine ac_istore_n (lv' := [(1, .int 1), (0, .ref (b_o g 0))]) Z.1 dX7_faultFound_1 (by decide) rfl ?_
  obtain ⟨n, hw⟩ := hw
  refine ac_lv [1, 0] rfl ?_
  exact sF_X7_faultFound_2 hg Z hret n _ _ _ hw
def wF_X7_placeOfFault (N : Nat → Nat) (p1 : Int32) (M : f_S3) (O : Nat × Nat) (Q : Int32 → f_S3 → Nat × Nat → Prop) : Prop := (p1 < 1 → (Q (-1) M O)) ∧ (¬ p1 < 1 → ((4 < p1 → (Q (-1) M O)) ∧ (¬ 4 < p1 → (vp_in p1 (N 28) ∧ (Q (M.2.1 28 p1.toNatClampNeg) M O)))))
set_option maxRecDepth 20000 in
theorem soF_X7_placeOfFault {l : Launch} {g : b_S} (hg : g.1 = tb_R) (p1 : Int32) (M : f_S3) (O : Nat × Nat) (Q : Int32 → f_S3 → Nat × Nat → Prop) (hw : wF_X7_placeOfFault (b_N g) p1 M O Q) : f_MetI l g yX7_placeOfFault cX7_placeOfFault 2 .int (0) [.ref (b_o g 0), .int p1] M O Q := by
  refine f_MetI.of (C := RX7) (by decide) rfl (Nat.le_of_ble_eq_true rfl) (fun x Z hret => ?_)
  show f_G x g 2 O M O 0 [(0, .ref (b_o g 0)), (1, .int p1)] []
  refine ac_iload_n Z.1 1 dX7_placeOfFault_0 rfl ?_
  refine ac_iconst (v := 1) Z.1 dX7_placeOfFault_1 (by decide) ?_
  obtain ⟨hwt, hwf⟩ := hw
  refine ac_icmp_lt (tgt := 19) Z.1 dX7_placeOfFault_2 (by decide) (fun hc => ?_) (fun hc => ?_)
  · have hw := hwt hc
    refine ac_iconst (v := (-1)) Z.1 dX7_placeOfFault_19 (by decide) ?_
    exact hret _ _ _ _ _ dX7_placeOfFault_20 rfl hw
  · have hw := hwf hc
    refine ac_iload_n Z.1 1 dX7_placeOfFault_5 rfl ?_
    refine ac_iconst (v := 4) Z.1 dX7_placeOfFault_6 (by decide) ?_
    obtain ⟨hwt, hwf⟩ := hw
    refine ac_icmp_gt (tgt := 19) Z.1 dX7_placeOfFault_7 (by decide) (fun hc => ?_) (fun hc => ?_)
    · have hw := hwt hc
      refine ac_iconst (v := (-1)) Z.1 dX7_placeOfFault_19 (by decide) ?_
      exact hret _ _ _ _ _ dX7_placeOfFault_20 rfl hw
    · have hw := hwf hc
      refine ac_aload_n Z.1 0 dX7_placeOfFault_10 rfl ?_
      refine f_getr Z b_X7 0 (oR_0 hg) 7 (by decide) (by decide) (fR_7 hg) fX7_11 rfl (h2 := (b_o g 28)) rfl dX7_placeOfFault_11 ?_
      refine ac_iload_n Z.1 1 dX7_placeOfFault_14 rfl ?_
      obtain ⟨hb1, hw⟩ := hw
      refine f_ald Z 15 (aR_28 hg) rfl hb1 (v := (M.2.1 28 p1.toNatClampNeg)) rfl dX7_placeOfFault_15 ?_
      refine ac_goto (tgt := 20) Z.1 dX7_placeOfFault_16 (by decide) ?_
      exact hret _ _ _ _ _ dX7_placeOfFault_20 rfl hw
def wF_X7_emit__ (N : Nat → Nat) (p1 : Int32) (p2 : Int32) (p3 : Int32) (M : f_S3) (O : Nat × Nat) (Q : f_S3 → Nat × Nat → Prop) : Prop := wF_X6_put N p1 M O (fun r1 M2 O2 => (wF_X6_put N p2 M2 O2 (fun r3 M4 O4 => (wF_X6_put N p3 M4 O4 (fun r5 M6 O6 => (Q M6 O6))))))
set_option maxRecDepth 20000 in
theorem soF_X7_emit__ {l : Launch} {g : b_S} (hg : g.1 = tb_R) (p1 : Int32) (p2 : Int32) (p3 : Int32) (M : f_S3) (O : Nat × Nat) (Q : f_S3 → Nat × Nat → Prop) (hw : wF_X7_emit__ (b_N g) p1 p2 p3 M O Q) : f_MetV l g yX7_emit__ cX7_emit__ 4 (1) [.ref (b_o g 0), .int p1, .int p2, .int p3] M O Q := by
  refine f_MetV.of (C := RX7) (by decide) rfl (Nat.le_of_ble_eq_true rfl) (fun x Z hret => ?_)
  show f_G x g 4 O M O 0 [(0, .ref (b_o g 0)), (1, .int p1), (2, .int p2), (3, .int p3)] []
  refine ac_aload_n Z.1 0 dX7_emit___0 rfl ?_
  refine f_getr Z b_X7 0 (oR_0 hg) 1 (by decide) (by decide) (fR_1 hg) fX7_31 rfl (h2 := (b_o g 3)) rfl dX7_emit___1 ?_
  refine ac_iload_n Z.1 1 dX7_emit___4 rfl ?_
  refine f_calli (As := [.int p1]) (st := []) Z b_X6.1 3 (oR_3 hg) rfl kX6_put lkX7_96 (by omega) (soF_X6_put hg  _ _ _ _ hw) rfl rfl (Nat.le_of_ble_eq_true rfl) dX7_emit___5 (fun r1 M2 O2 hw => ?_)
  refine ac_pop Z.1 dX7_emit___8 rfl ?_
  refine ac_aload_n Z.1 0 dX7_emit___9 rfl ?_
  refine f_getr Z b_X7 0 (oR_0 hg) 1 (by decide) (by decide) (fR_1 hg) fX7_31 rfl (h2 := (b_o g 3)) rfl dX7_emit___10 ?_
  refine ac_iload_n Z.1 2 dX7_emit___13 rfl ?_
  refine f_calli (As := [.int p2]) (st := []) Z b_X6.1 3 (oR_3 hg) rfl kX6_put lkX7_96 (by omega) (soF_X6_put hg  _ _ _ _ hw) rfl rfl (Nat.le_of_ble_eq_true rfl) dX7_emit___14 (fun r3 M4 O4 hw => ?_)
  refine ac_pop Z.1 dX7_emit___17 rfl ?_
  refine ac_aload_n Z.1 0 dX7_emit___18 rfl ?_
  refine f_getr Z b_X7 0 (oR_0 hg) 1 (by decide) (by decide) (fR_1 hg) fX7_31 rfl (h2 := (b_o g 3)) rfl dX7_emit___19 ?_
  refine ac_iload_n Z.1 3 dX7_emit___22 rfl ?_
  refine f_calli (As := [.int p3]) (st := []) Z b_X6.1 3 (oR_3 hg) rfl kX6_put lkX7_96 (by omega) (soF_X6_put hg  _ _ _ _ hw) rfl rfl (Nat.le_of_ble_eq_true rfl) dX7_emit___23 (fun r5 M6 O6 hw => ?_)
  refine ac_pop Z.1 dX7_emit___26 rfl ?_
  exact hret _ _ _ _ dX7_emit___27 hw
def wF_X7_slotOf (N : Nat → Nat) (p1 : Int32) (M : f_S3) (O : Nat × Nat) (Q : Int32 → f_S3 → Nat × Nat → Prop) : Prop := (p1 < 0 → (Q 0 M O)) ∧ (¬ p1 < 0 → (((nI (N 24)) ≤ p1 → (Q 0 M O)) ∧ (¬ (nI (N 24)) ≤ p1 → (vp_in p1 (N 24) ∧ (Q (M.2.1 24 p1.toNatClampNeg) M O)))))
set_option maxRecDepth 20000 in
theorem soF_X7_slotOf {l : Launch} {g : b_S} (hg : g.1 = tb_R) (p1 : Int32) (M : f_S3) (O : Nat × Nat) (Q : Int32 → f_S3 → Nat × Nat → Prop) (hw : wF_X7_slotOf (b_N g) p1 M O Q) : f_MetI l g yX7_slotOf cX7_slotOf 2 .int (0) [.ref (b_o g 0), .int p1] M O Q := by
  refine f_MetI.of (C := RX7) (by decide) rfl (Nat.le_of_ble_eq_true rfl) (fun x Z hret => ?_)
  show f_G x g 2 O M O 0 [(0, .ref (b_o g 0)), (1, .int p1)] []
  refine ac_iload_n Z.1 1 dX7_slotOf_0 rfl ?_
  obtain ⟨hwt, hwf⟩ := hw
  refine ac_if_lt (tgt := 22) Z.1 dX7_slotOf_1 (by decide) (fun hc => ?_) (fun hc => ?_)
  · have hw := hwt hc
    refine ac_iconst (v := 0) Z.1 dX7_slotOf_22 (by decide) ?_
    exact hret _ _ _ _ _ dX7_slotOf_23 rfl hw
  · have hw := hwf hc
    refine ac_iload_n Z.1 1 dX7_slotOf_4 rfl ?_
    refine ac_aload_n Z.1 0 dX7_slotOf_5 rfl ?_
    refine f_getr Z b_X7 0 (oR_0 hg) 3 (by decide) (by decide) (fR_3 hg) fX7_38 rfl (h2 := (b_o g 24)) rfl dX7_slotOf_6 ?_
    refine f_alen Z 11 (aR_24 hg) rfl (v := (nI (b_N g 24))) rfl dX7_slotOf_9 (by decide) ?_
    obtain ⟨hwt, hwf⟩ := hw
    refine ac_icmp_ge (tgt := 22) Z.1 dX7_slotOf_10 (by decide) (fun hc => ?_) (fun hc => ?_)
    · have hw := hwt hc
      refine ac_iconst (v := 0) Z.1 dX7_slotOf_22 (by decide) ?_
      exact hret _ _ _ _ _ dX7_slotOf_23 rfl hw
    · have hw := hwf hc
      refine ac_aload_n Z.1 0 dX7_slotOf_13 rfl ?_
      refine f_getr Z b_X7 0 (oR_0 hg) 3 (by decide) (by decide) (fR_3 hg) fX7_38 rfl (h2 := (b_o g 24)) rfl dX7_slotOf_14 ?_
      refine ac_iload_n Z.1 1 dX7_slotOf_17 rfl ?_
      obtain ⟨hb1, hw⟩ := hw
      refine f_ald Z 11 (aR_24 hg) rfl hb1 (v := (M.2.1 24 p1.toNatClampNeg)) rfl dX7_slotOf_18 ?_
      refine ac_goto (tgt := 23) Z.1 dX7_slotOf_19 (by decide) ?_
      exact hret _ _ _ _ _ dX7_slotOf_23 rfl hw
def wF_X7_name_36 (N : Nat → Nat) (Q : Int32 → f_S3 → Nat × Nat → Prop) (M : f_S3) (O : Nat × Nat) : Prop := wF_X7_slotOf N (M.1 13) M O (fun r3 M4 O4 => (wF_X7_advance N M4 O4 (fun M5 O5 => (Q r3 M5 O5))))
set_option maxRecDepth 20000 in
theorem sF_X7_name_36 {x : ac_X} {g : b_S} (hg : g.1 = tb_R) {l : Launch} {O0 : Nat × Nat} {Q : Int32 → f_S3 → Nat × Nat → Prop} (Z : b_Cx x g l RX7 cX7_name 2 (1) O0) (hret : f_RI x g 2 cX7_name .int O0 Q) (M : f_S3) (O : Nat × Nat) (hw : wF_X7_name_36 (b_N g) Q M O) : f_G x g 2 O0 M O 36 [(0, .ref (b_o g 0))] [] := by
  refine ac_aload_n Z.1 0 dX7_name_36 rfl ?_
  refine ac_aload_n Z.1 0 dX7_name_37 rfl ?_
  refine f_geti Z b_X7 0 (oR_0 hg) 13 (by decide) (by decide) (fR_13 hg) fX7_84 rfl (v := (M.1 13)) rfl dX7_name_38 ?_
  refine f_calli (As := [.int (M.1 13)]) (st := []) Z b_X7.1 0 (oR_0 hg) rfl kX7_slotOf lkX7_154 (by omega) (soF_X7_slotOf hg  _ _ _ _ hw) rfl rfl (Nat.le_of_ble_eq_true rfl) dX7_name_41 (fun r3 M4 O4 hw => ?_)
  refine ac_istore_n (lv' := [(1, .int r3), (0, .ref (b_o g 0))]) Z.1 dX7_name_44 (by decide) rfl ?_
  refine ac_aload_n Z.1 1 dX7_name_45 rfl ?_
  refine f_callv (As := []) (st := []) Z b_X7.1 0 (oR_0 hg) rfl kX7_advance lkX7_59 (by omega) (soF_X7_advance hg   _ _ _ hw) rfl rfl (Nat.le_of_ble_eq_true rfl) dX7_name_46 (fun M5 O5 hw => ?_)
  refine ac_iload_n Z.1 0 dX7_name_49 rfl ?_
  exact hret _ _ _ _ _ dX7_name_50 rfl hw
def wF_X7_name (N : Nat → Nat) (M : f_S3) (O : Nat × Nat) (Q : Int32 → f_S3 → Nat × Nat → Prop) : Prop := ((M.1 12) = 130 → (wF_X7_isTold N (M.1 13) M O (fun r1 M2 O2 => ((¬ r1 = 0 → (wF_X7_name_36 N Q M2 O2)) ∧ (r1 = 0 → (wF_X7_putFault N 2 (M2.1 14) M2 O2 (fun M6 O6 => (wF_X7_name_36 N Q M6 O6)))))))) ∧ (¬ (M.1 12) = 130 → (wF_X7_fail N M O (fun M7 O7 => (Q 0 M7 O7))))
set_option maxRecDepth 20000 in
theorem soF_X7_name {l : Launch} {g : b_S} (hg : g.1 = tb_R) (M : f_S3) (O : Nat × Nat) (Q : Int32 → f_S3 → Nat × Nat → Prop) (hw : wF_X7_name (b_N g)  M O Q) : f_MetI l g yX7_name cX7_name 2 .int (1) [.ref (b_o g 0)] M O Q := by
  refine f_MetI.of (C := RX7) (by decide) rfl (Nat.le_of_ble_eq_true rfl) (fun x Z hret => ?_)
  show f_G x g 2 O M O 0 [(0, .ref (b_o g 0))] []
  refine ac_aload_n Z.1 0 dX7_name_0 rfl ?_
  refine f_geti Z b_X7 0 (oR_0 hg) 12 (by decide) (by decide) (fR_12 hg) fX7_62 rfl (v := (M.1 12)) rfl dX7_name_1 ?_
  refine ac_sipush (v := 130) Z.1 dX7_name_4 (by decide) ?_
  obtain ⟨hwt, hwf⟩ := hw
  refine ac_icmp_eq (tgt := 16) Z.1 dX7_name_7 (by decide) (fun hc => ?_) (fun hc => ?_)
  · have hw := hwt hc
    refine ac_aload_n Z.1 0 dX7_name_16 rfl ?_
    refine ac_aload_n Z.1 0 dX7_name_17 rfl ?_
    refine f_geti Z b_X7 0 (oR_0 hg) 13 (by decide) (by decide) (fR_13 hg) fX7_84 rfl (v := (M.1 13)) rfl dX7_name_18 ?_
    refine f_calli (As := [.int (M.1 13)]) (st := []) Z b_X7.1 0 (oR_0 hg) rfl kX7_isTold lkX7_148 (by omega) (soF_X7_isTold hg  _ _ _ _ hw) rfl rfl (Nat.le_of_ble_eq_true rfl) dX7_name_21 (fun r1 M2 O2 hw => ?_)
    obtain ⟨hwt, hwf⟩ := hw
    refine ac_if_ne (tgt := 36) Z.1 dX7_name_24 (by decide) (fun hc => ?_) (fun hc => ?_)
    · have hw := hwt hc
      exact sF_X7_name_36 hg Z hret _ _ hw
    · have hw := hwf hc
      refine ac_aload_n Z.1 0 dX7_name_27 rfl ?_
      refine ac_iconst (v := 2) Z.1 dX7_name_28 (by decide) ?_
      refine ac_aload_n Z.1 0 dX7_name_29 rfl ?_
      refine f_geti Z b_X7 0 (oR_0 hg) 14 (by decide) (by decide) (fR_14 hg) fX7_90 rfl (v := (M2.1 14)) rfl dX7_name_30 ?_
      refine f_callv (As := [.int 2, .int (M2.1 14)]) (st := []) Z b_X7.1 0 (oR_0 hg) rfl kX7_putFault lkX7_133 (by omega) (soF_X7_putFault hg  _ _ _ _ _ hw) rfl rfl (Nat.le_of_ble_eq_true rfl) dX7_name_33 (fun M6 O6 hw => ?_)
      exact sF_X7_name_36 hg Z hret _ _ hw
  · have hw := hwf hc
    refine ac_aload_n Z.1 0 dX7_name_10 rfl ?_
    refine f_callv (As := []) (st := []) Z b_X7.1 0 (oR_0 hg) rfl kX7_fail lkX7_93 (by omega) (soF_X7_fail hg   _ _ _ hw) rfl rfl (Nat.le_of_ble_eq_true rfl) dX7_name_11 (fun M7 O7 hw => ?_)
    refine ac_iconst (v := 0) Z.1 dX7_name_14 (by decide) ?_
    exact hret _ _ _ _ _ dX7_name_15 rfl hw
def wF_X7_object_67 (N : Nat → Nat) (Q : Int32 → f_S3 → Nat × Nat → Prop) (M : f_S3) (O : Nat × Nat) : Prop := wF_X7_slotOf N (M.1 13) M O (fun r3 M4 O4 => (wF_X7_advance N M4 O4 (fun M5 O5 => (Q r3 M5 O5))))
set_option maxRecDepth 20000 in
theorem sF_X7_object_67 {x : ac_X} {g : b_S} (hg : g.1 = tb_R) {l : Launch} {O0 : Nat × Nat} {Q : Int32 → f_S3 → Nat × Nat → Prop} (Z : b_Cx x g l RX7 cX7_object 2 (1) O0) (hret : f_RI x g 2 cX7_object .int O0 Q) (M : f_S3) (O : Nat × Nat) (hw : wF_X7_object_67 (b_N g) Q M O) : f_G x g 2 O0 M O 67 [(0, .ref (b_o g 0))] [] := by
  refine ac_aload_n Z.1 0 dX7_object_67 rfl ?_
  refine ac_aload_n Z.1 0 dX7_object_68 rfl ?_
  refine f_geti Z b_X7 0 (oR_0 hg) 13 (by decide) (by decide) (fR_13 hg) fX7_84 rfl (v := (M.1 13)) rfl dX7_object_69 ?_
  refine f_calli (As := [.int (M.1 13)]) (st := []) Z b_X7.1 0 (oR_0 hg) rfl kX7_slotOf lkX7_154 (by omega) (soF_X7_slotOf hg  _ _ _ _ hw) rfl rfl (Nat.le_of_ble_eq_true rfl) dX7_object_72 (fun r3 M4 O4 hw => ?_)
  refine ac_istore_n (lv' := [(1, .int r3), (0, .ref (b_o g 0))]) Z.1 dX7_object_75 (by decide) rfl ?_
  refine ac_aload_n Z.1 1 dX7_object_76 rfl ?_
  refine f_callv (As := []) (st := []) Z b_X7.1 0 (oR_0 hg) rfl kX7_advance lkX7_59 (by omega) (soF_X7_advance hg   _ _ _ hw) rfl rfl (Nat.le_of_ble_eq_true rfl) dX7_object_77 (fun M5 O5 hw => ?_)
  refine ac_iload_n Z.1 0 dX7_object_80 rfl ?_
  exact hret _ _ _ _ _ dX7_object_81 rfl hw
def wF_X7_object_45 (N : Nat → Nat) (Q : Int32 → f_S3 → Nat × Nat → Prop) (M : f_S3) (O : Nat × Nat) : Prop := wF_X7_tell N (M.1 13) (M.1 10) M O (fun M6 O6 => (wF_X7_object_67 N Q (fm M6 10 ((M6.1 10) + 1)) O6))
set_option maxRecDepth 20000 in
theorem sF_X7_object_45 {x : ac_X} {g : b_S} (hg : g.1 = tb_R) {l : Launch} {O0 : Nat × Nat} {Q : Int32 → f_S3 → Nat × Nat → Prop} (Z : b_Cx x g l RX7 cX7_object 2 (1) O0) (hret : f_RI x g 2 cX7_object .int O0 Q) (M : f_S3) (O : Nat × Nat) (hw : wF_X7_object_45 (b_N g) Q M O) : f_G x g 2 O0 M O 45 [(0, .ref (b_o g 0))] [] := by
  refine ac_aload_n Z.1 0 dX7_object_45 rfl ?_
  refine ac_aload_n Z.1 0 dX7_object_46 rfl ?_
  refine f_geti Z b_X7 0 (oR_0 hg) 13 (by decide) (by decide) (fR_13 hg) fX7_84 rfl (v := (M.1 13)) rfl dX7_object_47 ?_
  refine ac_aload_n Z.1 0 dX7_object_50 rfl ?_
  refine f_geti Z b_X7 0 (oR_0 hg) 10 (by decide) (by decide) (fR_10 hg) fX7_139 rfl (v := (M.1 10)) rfl dX7_object_51 ?_
  refine f_callv (As := [.int (M.1 13), .int (M.1 10)]) (st := []) Z b_X7.1 0 (oR_0 hg) rfl kX7_tell lkX7_145 (by omega) (soF_X7_tell hg  _ _ _ _ _ hw) rfl rfl (Nat.le_of_ble_eq_true rfl) dX7_object_54 (fun M6 O6 hw => ?_)
  refine ac_aload_n Z.1 0 dX7_object_57 rfl ?_
  refine ac_dup Z.1 dX7_object_58 rfl ?_
  refine f_geti Z b_X7 0 (oR_0 hg) 10 (by decide) (by decide) (fR_10 hg) fX7_139 rfl (v := (M6.1 10)) rfl dX7_object_59 ?_
  refine ac_iconst (v := 1) Z.1 dX7_object_62 (by decide) ?_
  refine ac_iadd Z.1 dX7_object_63 ?_
  refine f_put Z b_X7 0 (oR_0 hg) 10 (by decide) (by decide) (fR_10 hg) rfl rfl fX7_139 rfl (I := 10) rfl dX7_object_64 ?_
  exact sF_X7_object_67 hg Z hret _ _ hw
def wF_X7_object (N : Nat → Nat) (M : f_S3) (O : Nat × Nat) (Q : Int32 → f_S3 → Nat × Nat → Prop) : Prop := ((M.1 12) = 131 → (wF_X7_isTold N (M.1 13) M O (fun r1 M2 O2 => ((¬ r1 = 0 → (wF_X7_object_67 N Q M2 O2)) ∧ (r1 = 0 → (((M2.1 10) < 8 → (wF_X7_object_45 N Q M2 O2)) ∧ (¬ (M2.1 10) < 8 → (wF_X7_putFault N 3 (M2.1 14) M2 O2 (fun M7 O7 => (wF_X7_object_45 N Q M7 O7)))))))))) ∧ (¬ (M.1 12) = 131 → (wF_X7_fail N M O (fun M8 O8 => (Q 0 M8 O8))))
set_option maxRecDepth 20000 in
theorem soF_X7_object {l : Launch} {g : b_S} (hg : g.1 = tb_R) (M : f_S3) (O : Nat × Nat) (Q : Int32 → f_S3 → Nat × Nat → Prop) (hw : wF_X7_object (b_N g)  M O Q) : f_MetI l g yX7_object cX7_object 2 .int (1) [.ref (b_o g 0)] M O Q := by
  refine f_MetI.of (C := RX7) (by decide) rfl (Nat.le_of_ble_eq_true rfl) (fun x Z hret => ?_)
  show f_G x g 2 O M O 0 [(0, .ref (b_o g 0))] []
  refine ac_aload_n Z.1 0 dX7_object_0 rfl ?_
  refine f_geti Z b_X7 0 (oR_0 hg) 12 (by decide) (by decide) (fR_12 hg) fX7_62 rfl (v := (M.1 12)) rfl dX7_object_1 ?_
  refine ac_sipush (v := 131) Z.1 dX7_object_4 (by decide) ?_
  obtain ⟨hwt, hwf⟩ := hw
  refine ac_icmp_eq (tgt := 16) Z.1 dX7_object_7 (by decide) (fun hc => ?_) (fun hc => ?_)
  · have hw := hwt hc
    refine ac_aload_n Z.1 0 dX7_object_16 rfl ?_
    refine ac_aload_n Z.1 0 dX7_object_17 rfl ?_
    refine f_geti Z b_X7 0 (oR_0 hg) 13 (by decide) (by decide) (fR_13 hg) fX7_84 rfl (v := (M.1 13)) rfl dX7_object_18 ?_
    refine f_calli (As := [.int (M.1 13)]) (st := []) Z b_X7.1 0 (oR_0 hg) rfl kX7_isTold lkX7_148 (by omega) (soF_X7_isTold hg  _ _ _ _ hw) rfl rfl (Nat.le_of_ble_eq_true rfl) dX7_object_21 (fun r1 M2 O2 hw => ?_)
    obtain ⟨hwt, hwf⟩ := hw
    refine ac_if_ne (tgt := 67) Z.1 dX7_object_24 (by decide) (fun hc => ?_) (fun hc => ?_)
    · have hw := hwt hc
      exact sF_X7_object_67 hg Z hret _ _ hw
    · have hw := hwf hc
      refine ac_aload_n Z.1 0 dX7_object_27 rfl ?_
      refine f_geti Z b_X7 0 (oR_0 hg) 10 (by decide) (by decide) (fR_10 hg) fX7_139 rfl (v := (M2.1 10)) rfl dX7_object_28 ?_
      refine ac_bipush (v := 8) Z.1 dX7_object_31 (by decide) ?_
      obtain ⟨hwt, hwf⟩ := hw
      refine ac_icmp_lt (tgt := 45) Z.1 dX7_object_33 (by decide) (fun hc => ?_) (fun hc => ?_)
      · have hw := hwt hc
        exact sF_X7_object_45 hg Z hret _ _ hw
      · have hw := hwf hc
        refine ac_aload_n Z.1 0 dX7_object_36 rfl ?_
        refine ac_iconst (v := 3) Z.1 dX7_object_37 (by decide) ?_
        refine ac_aload_n Z.1 0 dX7_object_38 rfl ?_
        refine f_geti Z b_X7 0 (oR_0 hg) 14 (by decide) (by decide) (fR_14 hg) fX7_90 rfl (v := (M2.1 14)) rfl dX7_object_39 ?_
        refine f_callv (As := [.int 3, .int (M2.1 14)]) (st := []) Z b_X7.1 0 (oR_0 hg) rfl kX7_putFault lkX7_133 (by omega) (soF_X7_putFault hg  _ _ _ _ _ hw) rfl rfl (Nat.le_of_ble_eq_true rfl) dX7_object_42 (fun M7 O7 hw => ?_)
        exact sF_X7_object_45 hg Z hret _ _ hw
  · have hw := hwf hc
    refine ac_aload_n Z.1 0 dX7_object_10 rfl ?_
    refine f_callv (As := []) (st := []) Z b_X7.1 0 (oR_0 hg) rfl kX7_fail lkX7_93 (by omega) (soF_X7_fail hg   _ _ _ hw) rfl rfl (Nat.le_of_ble_eq_true rfl) dX7_object_11 (fun M8 O8 hw => ?_)
    refine ac_iconst (v := 0) Z.1 dX7_object_14 (by decide) ?_
    exact hret _ _ _ _ _ dX7_object_15 rfl hw
def wF_X7_objectOrNone (N : Nat → Nat) (M : f_S3) (O : Nat × Nat) (Q : Int32 → f_S3 → Nat × Nat → Prop) : Prop := (¬ (M.1 12) = 203 → (wF_X7_object N M O (fun r1 M2 O2 => (Q r1 M2 O2)))) ∧ ((M.1 12) = 203 → (wF_X7_advance N M O (fun M3 O3 => (Q (-1) M3 O3))))
set_option maxRecDepth 20000 in
theorem soF_X7_objectOrNone {l : Launch} {g : b_S} (hg : g.1 = tb_R) (M : f_S3) (O : Nat × Nat) (Q : Int32 → f_S3 → Nat × Nat → Prop) (hw : wF_X7_objectOrNone (b_N g)  M O Q) : f_MetI l g yX7_objectOrNone cX7_objectOrNone 1 .int (2) [.ref (b_o g 0)] M O Q := by
  refine f_MetI.of (C := RX7) (by decide) rfl (Nat.le_of_ble_eq_true rfl) (fun x Z hret => ?_)
  show f_G x g 1 O M O 0 [(0, .ref (b_o g 0))] []
  refine ac_aload_n Z.1 0 dX7_objectOrNone_0 rfl ?_
  refine f_geti Z b_X7 0 (oR_0 hg) 12 (by decide) (by decide) (fR_12 hg) fX7_62 rfl (v := (M.1 12)) rfl dX7_objectOrNone_1 ?_
  refine ac_sipush (v := 203) Z.1 dX7_objectOrNone_4 (by decide) ?_
  obtain ⟨hwt, hwf⟩ := hw
  refine ac_icmp_ne (tgt := 16) Z.1 dX7_objectOrNone_7 (by decide) (fun hc => ?_) (fun hc => ?_)
  · have hw := hwt hc
    refine ac_aload_n Z.1 0 dX7_objectOrNone_16 rfl ?_
    refine f_calli (As := []) (st := []) Z b_X7.1 0 (oR_0 hg) rfl kX7_object lkX7_157 (by omega) (soF_X7_object hg   _ _ _ hw) rfl rfl (Nat.le_of_ble_eq_true rfl) dX7_objectOrNone_17 (fun r1 M2 O2 hw => ?_)
    exact hret _ _ _ _ _ dX7_objectOrNone_20 rfl hw
  · have hw := hwf hc
    refine ac_aload_n Z.1 0 dX7_objectOrNone_10 rfl ?_
    refine f_callv (As := []) (st := []) Z b_X7.1 0 (oR_0 hg) rfl kX7_advance lkX7_59 (by omega) (soF_X7_advance hg   _ _ _ hw) rfl rfl (Nat.le_of_ble_eq_true rfl) dX7_objectOrNone_11 (fun M3 O3 hw => ?_)
    refine ac_iconst (v := (-1)) Z.1 dX7_objectOrNone_14 (by decide) ?_
    exact hret _ _ _ _ _ dX7_objectOrNone_15 rfl hw
def wF_X9_isKind (N : Nat → Nat) (p0 : Int32) (M : f_S3) (O : Nat × Nat) (Q : Int32 → f_S3 → Nat × Nat → Prop) : Prop := (p0 < 226 → (Q 0 M O)) ∧ (¬ p0 < 226 → ((233 ≤ p0 → (Q 0 M O)) ∧ (¬ 233 ≤ p0 → (Q 1 M O))))
set_option maxRecDepth 20000 in
theorem soF_X9_isKind {l : Launch} {g : b_S} (hg : g.1 = tb_R) (p0 : Int32) (M : f_S3) (O : Nat × Nat) (Q : Int32 → f_S3 → Nat × Nat → Prop) (hw : wF_X9_isKind (b_N g) p0 M O Q) : f_MetI l g yX9_isKind cX9_isKind 1 .boolean (0) [.int p0] M O Q := by
  refine f_MetI.of (C := RX9) (by decide) rfl (Nat.le_of_ble_eq_true rfl) (fun x Z hret => ?_)
  show f_G x g 1 O M O 0 [(0, .int p0)] []
  refine ac_iload_n Z.1 0 dX9_isKind_0 rfl ?_
  refine ac_sipush (v := 226) Z.1 dX9_isKind_1 (by decide) ?_
  obtain ⟨hwt, hwf⟩ := hw
  refine ac_icmp_lt (tgt := 18) Z.1 dX9_isKind_4 (by decide) (fun hc => ?_) (fun hc => ?_)
  · have hw := hwt hc
    refine ac_iconst (v := 0) Z.1 dX9_isKind_18 (by decide) ?_
    exact hret _ _ _ _ _ dX9_isKind_19 rfl hw
  · have hw := hwf hc
    refine ac_iload_n Z.1 0 dX9_isKind_7 rfl ?_
    refine ac_sipush (v := 233) Z.1 dX9_isKind_8 (by decide) ?_
    obtain ⟨hwt, hwf⟩ := hw
    refine ac_icmp_ge (tgt := 18) Z.1 dX9_isKind_11 (by decide) (fun hc => ?_) (fun hc => ?_)
    · have hw := hwt hc
      refine ac_iconst (v := 0) Z.1 dX9_isKind_18 (by decide) ?_
      exact hret _ _ _ _ _ dX9_isKind_19 rfl hw
    · have hw := hwf hc
      refine ac_iconst (v := 1) Z.1 dX9_isKind_14 (by decide) ?_
      refine ac_goto (tgt := 19) Z.1 dX9_isKind_15 (by decide) ?_
      exact hret _ _ _ _ _ dX9_isKind_19 rfl hw
def wF_X7_kind (N : Nat → Nat) (M : f_S3) (O : Nat × Nat) (Q : Int32 → f_S3 → Nat × Nat → Prop) : Prop := wF_X9_isKind N (M.1 12) M O (fun r1 M2 O2 => ((r1 = 0 → (wF_X7_fail N M2 O2 (fun M3 O3 => (Q (-1) M3 O3)))) ∧ (¬ r1 = 0 → (wF_X7_advance N M2 O2 (fun M4 O4 => (Q ((M.1 12) - 226) M4 O4))))))
set_option maxRecDepth 20000 in
theorem soF_X7_kind {l : Launch} {g : b_S} (hg : g.1 = tb_R) (M : f_S3) (O : Nat × Nat) (Q : Int32 → f_S3 → Nat × Nat → Prop) (hw : wF_X7_kind (b_N g)  M O Q) : f_MetI l g yX7_kind cX7_kind 2 .int (1) [.ref (b_o g 0)] M O Q := by
  refine f_MetI.of (C := RX7) (by decide) rfl (Nat.le_of_ble_eq_true rfl) (fun x Z hret => ?_)
  show f_G x g 2 O M O 0 [(0, .ref (b_o g 0))] []
  refine ac_aload_n Z.1 0 dX7_kind_0 rfl ?_
  refine f_geti Z b_X7 0 (oR_0 hg) 12 (by decide) (by decide) (fR_12 hg) fX7_62 rfl (v := (M.1 12)) rfl dX7_kind_1 ?_
  refine ac_sipush (v := 226) Z.1 dX7_kind_4 (by decide) ?_
  refine ac_isub Z.1 dX7_kind_7 ?_
  refine ac_istore_n (lv' := [(1, .int ((M.1 12) - 226)), (0, .ref (b_o g 0))]) Z.1 dX7_kind_8 (by decide) rfl ?_
  refine ac_aload_n Z.1 1 dX7_kind_9 rfl ?_
  refine f_geti Z b_X7 0 (oR_0 hg) 12 (by decide) (by decide) (fR_12 hg) fX7_62 rfl (v := (M.1 12)) rfl dX7_kind_10 ?_
  refine f_calliS (As := [.int (M.1 12)]) (st := []) Z kX9_isKind lkX7_160 (by omega) (soF_X9_isKind hg  _ _ _ _ hw) rfl rfl (Nat.le_of_ble_eq_true rfl) dX7_kind_13 (fun r1 M2 O2 hw => ?_)
  obtain ⟨hwt, hwf⟩ := hw
  refine ac_if_eq (tgt := 25) Z.1 dX7_kind_16 (by decide) (fun hc => ?_) (fun hc => ?_)
  · have hw := hwt hc
    refine ac_aload_n Z.1 1 dX7_kind_25 rfl ?_
    refine f_callv (As := []) (st := []) Z b_X7.1 0 (oR_0 hg) rfl kX7_fail lkX7_93 (by omega) (soF_X7_fail hg   _ _ _ hw) rfl rfl (Nat.le_of_ble_eq_true rfl) dX7_kind_26 (fun M3 O3 hw => ?_)
    refine ac_iconst (v := (-1)) Z.1 dX7_kind_29 (by decide) ?_
    exact hret _ _ _ _ _ dX7_kind_30 rfl hw
  · have hw := hwf hc
    refine ac_aload_n Z.1 1 dX7_kind_19 rfl ?_
    refine f_callv (As := []) (st := []) Z b_X7.1 0 (oR_0 hg) rfl kX7_advance lkX7_59 (by omega) (soF_X7_advance hg   _ _ _ hw) rfl rfl (Nat.le_of_ble_eq_true rfl) dX7_kind_20 (fun M4 O4 hw => ?_)
    refine ac_iload_n Z.1 0 dX7_kind_23 rfl ?_
    exact hret _ _ _ _ _ dX7_kind_24 rfl hw
def wF_X7_restOfProduct_66 (N : Nat → Nat) (WF : Int32 → f_S3 → (Nat × Nat) → (f_S3 → Nat × Nat → Prop) → Prop) (K2 : (Int32 → Int32 → f_S3 → (Nat × Nat) → Prop)) (Q : f_S3 → Nat × Nat → Prop) (a1 : Int32) (a2 : Int32) (t0 : Int32) (M : f_S3) (O : Nat × Nat) : Prop := wF_X7_advance N M O (fun M1 O1 => (WF a1 M1 O1 (fun M2 O2 => (wF_X7_emit N t0 M2 O2 (fun M3 O3 => (K2 a1 (a2 + 1) M3 O3))))))
set_option maxRecDepth 20000 in
theorem sF_X7_restOfProduct_66 {x : ac_X} {g : b_S} (hg : g.1 = tb_R) {l : Launch} {O0 : Nat × Nat} {WF : Int32 → f_S3 → (Nat × Nat) → (f_S3 → Nat × Nat → Prop) → Prop} {rkF : Nat} {K2 : (Int32 → Int32 → f_S3 → (Nat × Nat) → Prop)} {Q : f_S3 → Nat × Nat → Prop} (Z : b_Cx x g l RX7 cX7_restOfProduct 4 (rkF + 2) O0) (hret : f_RV x g 4 cX7_restOfProduct O0 Q) (hWF : ∀ (p0 : Int32) (M : f_S3) (O : Nat × Nat) (Q : f_S3 → Nat × Nat → Prop), WF p0 M O Q → f_MetV l g yX7_factor cX7_factor 5 rkF [.ref (b_o g 0), .int p0] M O Q) (hK2 : ∀ (a1 : Int32) (a2 : Int32) (M : f_S3) (O : Nat × Nat), K2 a1 a2 M O → f_G x g 4 O0 M O 2 [(0, .ref (b_o g 0)), (1, .int a1), (2, .int a2)] []) (a1 : Int32) (a2 : Int32) (t0 : Int32) (M : f_S3) (O : Nat × Nat) (hw : wF_X7_restOfProduct_66 (b_N g) WF K2 Q a1 a2 t0 M O) : f_G x g 4 O0 M O 66 [(0, .ref (b_o g 0)), (1, .int a1), (2, .int a2)] [.int t0] := by
  refine ac_istore_n (lv' := [(3, .int t0), (0, .ref (b_o g 0)), (1, .int a1), (2, .int a2)]) Z.1 dX7_restOfProduct_66 (by decide) rfl ?_
  refine ac_aload_n Z.1 1 dX7_restOfProduct_67 rfl ?_
  refine f_callv (As := []) (st := []) Z b_X7.1 0 (oR_0 hg) rfl kX7_advance lkX7_59 (by omega) (soF_X7_advance hg   _ _ _ hw) rfl rfl (Nat.le_of_ble_eq_true rfl) dX7_restOfProduct_68 (fun M1 O1 hw => ?_)
  refine ac_aload_n Z.1 1 dX7_restOfProduct_71 rfl ?_
  refine ac_iload_n Z.1 2 dX7_restOfProduct_72 rfl ?_
  refine f_callv (As := [.int a1]) (st := []) Z b_X7.1 0 (oR_0 hg) rfl kX7_factor lkX7_240 (by omega) (hWF _ _ _ _ hw) rfl rfl (Nat.le_of_ble_eq_true rfl) dX7_restOfProduct_73 (fun M2 O2 hw => ?_)
  refine ac_aload_n Z.1 1 dX7_restOfProduct_76 rfl ?_
  refine ac_iload_n Z.1 0 dX7_restOfProduct_77 rfl ?_
  refine f_callv (As := [.int t0]) (st := []) Z b_X7.1 0 (oR_0 hg) rfl kX7_emit lkX7_125 (by omega) (soF_X7_emit hg  _ _ _ _ hw) rfl rfl (Nat.le_of_ble_eq_true rfl) dX7_restOfProduct_78 (fun M3 O3 hw => ?_)
  refine ac_iinc (w := (a2 + 1)) (lv' := [(2, .int (a2 + 1)), (3, .int t0), (0, .ref (b_o g 0)), (1, .int a1)]) Z.1 3 dX7_restOfProduct_81 rfl rfl (by decide) rfl ?_
  refine ac_goto (tgt := 2) Z.1 dX7_restOfProduct_84 (by decide) ?_
  refine ac_lv [2, 3, 0] rfl ?_
  exact hK2 _ _ _ _ hw
def wF_X7_restOfProduct_36 (N : Nat → Nat) (WF : Int32 → f_S3 → (Nat × Nat) → (f_S3 → Nat × Nat → Prop) → Prop) (K2 : (Int32 → Int32 → f_S3 → (Nat × Nat) → Prop)) (Q : f_S3 → Nat × Nat → Prop) (a1 : Int32) (a2 : Int32) (M : f_S3) (O : Nat × Nat) : Prop := (¬ (M.1 12) = 42 → ((¬ (M.1 12) = 47 → (wF_X7_restOfProduct_66 N WF K2 Q a1 a2 18 M O)) ∧ ((M.1 12) = 47 → (wF_X7_restOfProduct_66 N WF K2 Q a1 a2 17 M O)))) ∧ ((M.1 12) = 42 → (wF_X7_restOfProduct_66 N WF K2 Q a1 a2 16 M O))
set_option maxRecDepth 20000 in
theorem sF_X7_restOfProduct_36 {x : ac_X} {g : b_S} (hg : g.1 = tb_R) {l : Launch} {O0 : Nat × Nat} {WF : Int32 → f_S3 → (Nat × Nat) → (f_S3 → Nat × Nat → Prop) → Prop} {rkF : Nat} {K2 : (Int32 → Int32 → f_S3 → (Nat × Nat) → Prop)} {Q : f_S3 → Nat × Nat → Prop} (Z : b_Cx x g l RX7 cX7_restOfProduct 4 (rkF + 2) O0) (hret : f_RV x g 4 cX7_restOfProduct O0 Q) (hWF : ∀ (p0 : Int32) (M : f_S3) (O : Nat × Nat) (Q : f_S3 → Nat × Nat → Prop), WF p0 M O Q → f_MetV l g yX7_factor cX7_factor 5 rkF [.ref (b_o g 0), .int p0] M O Q) (hK2 : ∀ (a1 : Int32) (a2 : Int32) (M : f_S3) (O : Nat × Nat), K2 a1 a2 M O → f_G x g 4 O0 M O 2 [(0, .ref (b_o g 0)), (1, .int a1), (2, .int a2)] []) (a1 : Int32) (a2 : Int32) (M : f_S3) (O : Nat × Nat) (hw : wF_X7_restOfProduct_36 (b_N g) WF K2 Q a1 a2 M O) : f_G x g 4 O0 M O 36 [(0, .ref (b_o g 0)), (1, .int a1), (2, .int a2)] [] := by
  refine ac_aload_n Z.1 0 dX7_restOfProduct_36 rfl ?_
  refine f_geti Z b_X7 0 (oR_0 hg) 12 (by decide) (by decide) (fR_12 hg) fX7_62 rfl (v := (M.1 12)) rfl dX7_restOfProduct_37 ?_
  refine ac_bipush (v := 42) Z.1 dX7_restOfProduct_40 (by decide) ?_
  obtain ⟨hwt, hwf⟩ := hw
  refine ac_icmp_ne (tgt := 50) Z.1 dX7_restOfProduct_42 (by decide) (fun hc => ?_) (fun hc => ?_)
  · have hw := hwt hc
    refine ac_aload_n Z.1 0 dX7_restOfProduct_50 rfl ?_
    refine f_geti Z b_X7 0 (oR_0 hg) 12 (by decide) (by decide) (fR_12 hg) fX7_62 rfl (v := (M.1 12)) rfl dX7_restOfProduct_51 ?_
    refine ac_bipush (v := 47) Z.1 dX7_restOfProduct_54 (by decide) ?_
    obtain ⟨hwt, hwf⟩ := hw
    refine ac_icmp_ne (tgt := 64) Z.1 dX7_restOfProduct_56 (by decide) (fun hc => ?_) (fun hc => ?_)
    · have hw := hwt hc
      refine ac_bipush (v := 18) Z.1 dX7_restOfProduct_64 (by decide) ?_
      exact sF_X7_restOfProduct_66 hg Z hret hWF hK2 _ _ _ _ _ hw
    · have hw := hwf hc
      refine ac_bipush (v := 17) Z.1 dX7_restOfProduct_59 (by decide) ?_
      refine ac_goto (tgt := 66) Z.1 dX7_restOfProduct_61 (by decide) ?_
      exact sF_X7_restOfProduct_66 hg Z hret hWF hK2 _ _ _ _ _ hw
  · have hw := hwf hc
    refine ac_bipush (v := 16) Z.1 dX7_restOfProduct_45 (by decide) ?_
    refine ac_goto (tgt := 66) Z.1 dX7_restOfProduct_47 (by decide) ?_
    exact sF_X7_restOfProduct_66 hg Z hret hWF hK2 _ _ _ _ _ hw
def wF_X7_restOfProduct_2 (N : Nat → Nat) (WF : Int32 → f_S3 → (Nat × Nat) → (f_S3 → Nat × Nat → Prop) → Prop) (Q : f_S3 → Nat × Nat → Prop) : Nat → Int32 → Int32 → f_S3 → Nat × Nat → Prop
  | 0 => fun _ _ _ _ => False
  | n + 1 => fun a1 a2 M O => ((4000 < a2 → (Q M O)) ∧ (¬ 4000 < a2 → (((M.1 12) = 42 → (wF_X7_restOfProduct_36 N WF (wF_X7_restOfProduct_2 N WF Q n) Q a1 a2 M O)) ∧ (¬ (M.1 12) = 42 → (((M.1 12) = 47 → (wF_X7_restOfProduct_36 N WF (wF_X7_restOfProduct_2 N WF Q n) Q a1 a2 M O)) ∧ (¬ (M.1 12) = 47 → ((¬ (M.1 12) = 37 → (Q M O)) ∧ ((M.1 12) = 37 → (wF_X7_restOfProduct_36 N WF (wF_X7_restOfProduct_2 N WF Q n) Q a1 a2 M O)))))))))
set_option maxRecDepth 20000 in
theorem sF_X7_restOfProduct_2 {x : ac_X} {g : b_S} (hg : g.1 = tb_R) {l : Launch} {O0 : Nat × Nat} {WF : Int32 → f_S3 → (Nat × Nat) → (f_S3 → Nat × Nat → Prop) → Prop} {rkF : Nat} {Q : f_S3 → Nat × Nat → Prop} (Z : b_Cx x g l RX7 cX7_restOfProduct 4 (rkF + 2) O0) (hret : f_RV x g 4 cX7_restOfProduct O0 Q) (hWF : ∀ (p0 : Int32) (M : f_S3) (O : Nat × Nat) (Q : f_S3 → Nat × Nat → Prop), WF p0 M O Q → f_MetV l g yX7_factor cX7_factor 5 rkF [.ref (b_o g 0), .int p0] M O Q) : ∀ (n : Nat) (a1 : Int32) (a2 : Int32) (M : f_S3) (O : Nat × Nat), wF_X7_restOfProduct_2 (b_N g) WF Q n a1 a2 M O → f_G x g 4 O0 M O 2 [(0, .ref (b_o g 0)), (1, .int a1), (2, .int a2)] [] := by
  intro n
  induction n with
  | zero => intro _ _ _ _ hw; exact hw.elim
  | succ n ih =>
    intro a1 a2 M O hw
    dsimp only [wF_X7_restOfProduct_2] at hw
    refine ac_iload_n Z.1 2 dX7_restOfProduct_2 rfl ?_
    refine ac_sipush (v := 4000) Z.1 dX7_restOfProduct_3 (by decide) ?_
    obtain ⟨hwt, hwf⟩ := hw
    refine ac_icmp_gt (tgt := 87) Z.1 dX7_restOfProduct_6 (by decide) (fun hc => ?_) (fun hc => ?_)
    · have hw := hwt hc
      exact hret _ _ _ _ dX7_restOfProduct_87 hw
    · have hw := hwf hc
      refine ac_aload_n Z.1 0 dX7_restOfProduct_9 rfl ?_
      refine f_geti Z b_X7 0 (oR_0 hg) 12 (by decide) (by decide) (fR_12 hg) fX7_62 rfl (v := (M.1 12)) rfl dX7_restOfProduct_10 ?_
      refine ac_bipush (v := 42) Z.1 dX7_restOfProduct_13 (by decide) ?_
      obtain ⟨hwt, hwf⟩ := hw
      refine ac_icmp_eq (tgt := 36) Z.1 dX7_restOfProduct_15 (by decide) (fun hc => ?_) (fun hc => ?_)
      · have hw := hwt hc
        exact sF_X7_restOfProduct_36 hg Z hret hWF ih _ _ _ _ hw
      · have hw := hwf hc
        refine ac_aload_n Z.1 0 dX7_restOfProduct_18 rfl ?_
        refine f_geti Z b_X7 0 (oR_0 hg) 12 (by decide) (by decide) (fR_12 hg) fX7_62 rfl (v := (M.1 12)) rfl dX7_restOfProduct_19 ?_
        refine ac_bipush (v := 47) Z.1 dX7_restOfProduct_22 (by decide) ?_
        obtain ⟨hwt, hwf⟩ := hw
        refine ac_icmp_eq (tgt := 36) Z.1 dX7_restOfProduct_24 (by decide) (fun hc => ?_) (fun hc => ?_)
        · have hw := hwt hc
          exact sF_X7_restOfProduct_36 hg Z hret hWF ih _ _ _ _ hw
        · have hw := hwf hc
          refine ac_aload_n Z.1 0 dX7_restOfProduct_27 rfl ?_
          refine f_geti Z b_X7 0 (oR_0 hg) 12 (by decide) (by decide) (fR_12 hg) fX7_62 rfl (v := (M.1 12)) rfl dX7_restOfProduct_28 ?_
          refine ac_bipush (v := 37) Z.1 dX7_restOfProduct_31 (by decide) ?_
          obtain ⟨hwt, hwf⟩ := hw
          refine ac_icmp_ne (tgt := 87) Z.1 dX7_restOfProduct_33 (by decide) (fun hc => ?_) (fun hc => ?_)
          · have hw := hwt hc
            exact hret _ _ _ _ dX7_restOfProduct_87 hw
          · have hw := hwf hc
            exact sF_X7_restOfProduct_36 hg Z hret hWF ih _ _ _ _ hw
def wF_X7_restOfProduct (N : Nat → Nat) (WF : Int32 → f_S3 → (Nat × Nat) → (f_S3 → Nat × Nat → Prop) → Prop) (p1 : Int32) (M : f_S3) (O : Nat × Nat) (Q : f_S3 → Nat × Nat → Prop) : Prop := ∃ e2, wF_X7_restOfProduct_2 N WF Q e2 p1 0 M O
set_option maxRecDepth 20000 in
theorem soF_X7_restOfProduct {l : Launch} {g : b_S} (hg : g.1 = tb_R) {WF : Int32 → f_S3 → (Nat × Nat) → (f_S3 → Nat × Nat → Prop) → Prop} {rkF : Nat} (hWF : ∀ (p0 : Int32) (M : f_S3) (O : Nat × Nat) (Q : f_S3 → Nat × Nat → Prop), WF p0 M O Q → f_MetV l g yX7_factor cX7_factor 5 rkF [.ref (b_o g 0), .int p0] M O Q) (p1 : Int32) (M : f_S3) (O : Nat × Nat) (Q : f_S3 → Nat × Nat → Prop) (hw : wF_X7_restOfProduct (b_N g) WF p1 M O Q) : f_MetV l g yX7_restOfProduct cX7_restOfProduct 4 (rkF + 2) [.ref (b_o g 0), .int p1] M O Q := by
  refine f_MetV.of (C := RX7) (by decide) rfl (Nat.le_of_ble_eq_true rfl) (fun x Z hret => ?_)
  show f_G x g 4 O M O 0 [(0, .ref (b_o g 0)), (1, .int p1)] []
  refine ac_iconst (v := 0) Z.1 dX7_restOfProduct_0 (by decide) ?_
  refine ac_istore_n (lv' := [(2, .int 0), (0, .ref (b_o g 0)), (1, .int p1)]) Z.1 dX7_restOfProduct_1 (by decide) rfl ?_
  obtain ⟨n, hw⟩ := hw
  refine ac_lv [1, 2, 0] rfl ?_
  exact sF_X7_restOfProduct_2 hg Z hret hWF n _ _ _ _ hw
def wF_X7_restOfSum_43 (N : Nat → Nat) (WF : Int32 → f_S3 → (Nat × Nat) → (f_S3 → Nat × Nat → Prop) → Prop) (K2 : (Int32 → Int32 → f_S3 → (Nat × Nat) → Prop)) (Q : f_S3 → Nat × Nat → Prop) (a1 : Int32) (a2 : Int32) (t0 : Int32) (M : f_S3) (O : Nat × Nat) : Prop := wF_X7_advance N M O (fun M1 O1 => (WF a1 M1 O1 (fun M2 O2 => (wF_X7_restOfProduct N WF a1 M2 O2 (fun M3 O3 => (wF_X7_emit N t0 M3 O3 (fun M4 O4 => (K2 a1 (a2 + 1) M4 O4))))))))
set_option maxRecDepth 20000 in
theorem sF_X7_restOfSum_43 {x : ac_X} {g : b_S} (hg : g.1 = tb_R) {l : Launch} {O0 : Nat × Nat} {WF : Int32 → f_S3 → (Nat × Nat) → (f_S3 → Nat × Nat → Prop) → Prop} {rkF : Nat} {K2 : (Int32 → Int32 → f_S3 → (Nat × Nat) → Prop)} {Q : f_S3 → Nat × Nat → Prop} (Z : b_Cx x g l RX7 cX7_restOfSum 4 (rkF + 3) O0) (hret : f_RV x g 4 cX7_restOfSum O0 Q) (hWF : ∀ (p0 : Int32) (M : f_S3) (O : Nat × Nat) (Q : f_S3 → Nat × Nat → Prop), WF p0 M O Q → f_MetV l g yX7_factor cX7_factor 5 rkF [.ref (b_o g 0), .int p0] M O Q) (hK2 : ∀ (a1 : Int32) (a2 : Int32) (M : f_S3) (O : Nat × Nat), K2 a1 a2 M O → f_G x g 4 O0 M O 2 [(0, .ref (b_o g 0)), (1, .int a1), (2, .int a2)] []) (a1 : Int32) (a2 : Int32) (t0 : Int32) (M : f_S3) (O : Nat × Nat) (hw : wF_X7_restOfSum_43 (b_N g) WF K2 Q a1 a2 t0 M O) : f_G x g 4 O0 M O 43 [(0, .ref (b_o g 0)), (1, .int a1), (2, .int a2)] [.int t0] := by
  refine ac_istore_n (lv' := [(3, .int t0), (0, .ref (b_o g 0)), (1, .int a1), (2, .int a2)]) Z.1 dX7_restOfSum_43 (by decide) rfl ?_
  refine ac_aload_n Z.1 1 dX7_restOfSum_44 rfl ?_
  refine f_callv (As := []) (st := []) Z b_X7.1 0 (oR_0 hg) rfl kX7_advance lkX7_59 (by omega) (soF_X7_advance hg   _ _ _ hw) rfl rfl (Nat.le_of_ble_eq_true rfl) dX7_restOfSum_45 (fun M1 O1 hw => ?_)
  refine ac_aload_n Z.1 1 dX7_restOfSum_48 rfl ?_
  refine ac_iload_n Z.1 2 dX7_restOfSum_49 rfl ?_
  refine f_callv (As := [.int a1]) (st := []) Z b_X7.1 0 (oR_0 hg) rfl kX7_factor lkX7_240 (by omega) (hWF _ _ _ _ hw) rfl rfl (Nat.le_of_ble_eq_true rfl) dX7_restOfSum_50 (fun M2 O2 hw => ?_)
  refine ac_aload_n Z.1 1 dX7_restOfSum_53 rfl ?_
  refine ac_iload_n Z.1 2 dX7_restOfSum_54 rfl ?_
  refine f_callv (As := [.int a1]) (st := []) Z b_X7.1 0 (oR_0 hg) rfl kX7_restOfProduct lkX7_243 (by omega) (soF_X7_restOfProduct hg hWF _ _ _ _ hw) rfl rfl (Nat.le_of_ble_eq_true rfl) dX7_restOfSum_55 (fun M3 O3 hw => ?_)
  refine ac_aload_n Z.1 1 dX7_restOfSum_58 rfl ?_
  refine ac_iload_n Z.1 0 dX7_restOfSum_59 rfl ?_
  refine f_callv (As := [.int t0]) (st := []) Z b_X7.1 0 (oR_0 hg) rfl kX7_emit lkX7_125 (by omega) (soF_X7_emit hg  _ _ _ _ hw) rfl rfl (Nat.le_of_ble_eq_true rfl) dX7_restOfSum_60 (fun M4 O4 hw => ?_)
  refine ac_iinc (w := (a2 + 1)) (lv' := [(2, .int (a2 + 1)), (3, .int t0), (0, .ref (b_o g 0)), (1, .int a1)]) Z.1 3 dX7_restOfSum_63 rfl rfl (by decide) rfl ?_
  refine ac_goto (tgt := 2) Z.1 dX7_restOfSum_66 (by decide) ?_
  refine ac_lv [2, 3, 0] rfl ?_
  exact hK2 _ _ _ _ hw
def wF_X7_restOfSum_27 (N : Nat → Nat) (WF : Int32 → f_S3 → (Nat × Nat) → (f_S3 → Nat × Nat → Prop) → Prop) (K2 : (Int32 → Int32 → f_S3 → (Nat × Nat) → Prop)) (Q : f_S3 → Nat × Nat → Prop) (a1 : Int32) (a2 : Int32) (M : f_S3) (O : Nat × Nat) : Prop := (¬ (M.1 12) = 43 → (wF_X7_restOfSum_43 N WF K2 Q a1 a2 15 M O)) ∧ ((M.1 12) = 43 → (wF_X7_restOfSum_43 N WF K2 Q a1 a2 14 M O))
set_option maxRecDepth 20000 in
theorem sF_X7_restOfSum_27 {x : ac_X} {g : b_S} (hg : g.1 = tb_R) {l : Launch} {O0 : Nat × Nat} {WF : Int32 → f_S3 → (Nat × Nat) → (f_S3 → Nat × Nat → Prop) → Prop} {rkF : Nat} {K2 : (Int32 → Int32 → f_S3 → (Nat × Nat) → Prop)} {Q : f_S3 → Nat × Nat → Prop} (Z : b_Cx x g l RX7 cX7_restOfSum 4 (rkF + 3) O0) (hret : f_RV x g 4 cX7_restOfSum O0 Q) (hWF : ∀ (p0 : Int32) (M : f_S3) (O : Nat × Nat) (Q : f_S3 → Nat × Nat → Prop), WF p0 M O Q → f_MetV l g yX7_factor cX7_factor 5 rkF [.ref (b_o g 0), .int p0] M O Q) (hK2 : ∀ (a1 : Int32) (a2 : Int32) (M : f_S3) (O : Nat × Nat), K2 a1 a2 M O → f_G x g 4 O0 M O 2 [(0, .ref (b_o g 0)), (1, .int a1), (2, .int a2)] []) (a1 : Int32) (a2 : Int32) (M : f_S3) (O : Nat × Nat) (hw : wF_X7_restOfSum_27 (b_N g) WF K2 Q a1 a2 M O) : f_G x g 4 O0 M O 27 [(0, .ref (b_o g 0)), (1, .int a1), (2, .int a2)] [] := by
  refine ac_aload_n Z.1 0 dX7_restOfSum_27 rfl ?_
  refine f_geti Z b_X7 0 (oR_0 hg) 12 (by decide) (by decide) (fR_12 hg) fX7_62 rfl (v := (M.1 12)) rfl dX7_restOfSum_28 ?_
  refine ac_bipush (v := 43) Z.1 dX7_restOfSum_31 (by decide) ?_
  obtain ⟨hwt, hwf⟩ := hw
  refine ac_icmp_ne (tgt := 41) Z.1 dX7_restOfSum_33 (by decide) (fun hc => ?_) (fun hc => ?_)
  · have hw := hwt hc
    refine ac_bipush (v := 15) Z.1 dX7_restOfSum_41 (by decide) ?_
    exact sF_X7_restOfSum_43 hg Z hret hWF hK2 _ _ _ _ _ hw
  · have hw := hwf hc
    refine ac_bipush (v := 14) Z.1 dX7_restOfSum_36 (by decide) ?_
    refine ac_goto (tgt := 43) Z.1 dX7_restOfSum_38 (by decide) ?_
    exact sF_X7_restOfSum_43 hg Z hret hWF hK2 _ _ _ _ _ hw
def wF_X7_restOfSum_2 (N : Nat → Nat) (WF : Int32 → f_S3 → (Nat × Nat) → (f_S3 → Nat × Nat → Prop) → Prop) (Q : f_S3 → Nat × Nat → Prop) : Nat → Int32 → Int32 → f_S3 → Nat × Nat → Prop
  | 0 => fun _ _ _ _ => False
  | n + 1 => fun a1 a2 M O => ((4000 < a2 → (Q M O)) ∧ (¬ 4000 < a2 → (((M.1 12) = 43 → (wF_X7_restOfSum_27 N WF (wF_X7_restOfSum_2 N WF Q n) Q a1 a2 M O)) ∧ (¬ (M.1 12) = 43 → ((¬ (M.1 12) = 45 → (Q M O)) ∧ ((M.1 12) = 45 → (wF_X7_restOfSum_27 N WF (wF_X7_restOfSum_2 N WF Q n) Q a1 a2 M O)))))))
set_option maxRecDepth 20000 in
theorem sF_X7_restOfSum_2 {x : ac_X} {g : b_S} (hg : g.1 = tb_R) {l : Launch} {O0 : Nat × Nat} {WF : Int32 → f_S3 → (Nat × Nat) → (f_S3 → Nat × Nat → Prop) → Prop} {rkF : Nat} {Q : f_S3 → Nat × Nat → Prop} (Z : b_Cx x g l RX7 cX7_restOfSum 4 (rkF + 3) O0) (hret : f_RV x g 4 cX7_restOfSum O0 Q) (hWF : ∀ (p0 : Int32) (M : f_S3) (O : Nat × Nat) (Q : f_S3 → Nat × Nat → Prop), WF p0 M O Q → f_MetV l g yX7_factor cX7_factor 5 rkF [.ref (b_o g 0), .int p0] M O Q) : ∀ (n : Nat) (a1 : Int32) (a2 : Int32) (M : f_S3) (O : Nat × Nat), wF_X7_restOfSum_2 (b_N g) WF Q n a1 a2 M O → f_G x g 4 O0 M O 2 [(0, .ref (b_o g 0)), (1, .int a1), (2, .int a2)] [] := by
  intro n
  induction n with
  | zero => intro _ _ _ _ hw; exact hw.elim
  | succ n ih =>
    intro a1 a2 M O hw
    dsimp only [wF_X7_restOfSum_2] at hw
    refine ac_iload_n Z.1 2 dX7_restOfSum_2 rfl ?_
    refine ac_sipush (v := 4000) Z.1 dX7_restOfSum_3 (by decide) ?_
    obtain ⟨hwt, hwf⟩ := hw
    refine ac_icmp_gt (tgt := 69) Z.1 dX7_restOfSum_6 (by decide) (fun hc => ?_) (fun hc => ?_)
    · have hw := hwt hc
      exact hret _ _ _ _ dX7_restOfSum_69 hw
    · have hw := hwf hc
      refine ac_aload_n Z.1 0 dX7_restOfSum_9 rfl ?_
      refine f_geti Z b_X7 0 (oR_0 hg) 12 (by decide) (by decide) (fR_12 hg) fX7_62 rfl (v := (M.1 12)) rfl dX7_restOfSum_10 ?_
      refine ac_bipush (v := 43) Z.1 dX7_restOfSum_13 (by decide) ?_
      obtain ⟨hwt, hwf⟩ := hw
      refine ac_icmp_eq (tgt := 27) Z.1 dX7_restOfSum_15 (by decide) (fun hc => ?_) (fun hc => ?_)
      · have hw := hwt hc
        exact sF_X7_restOfSum_27 hg Z hret hWF ih _ _ _ _ hw
      · have hw := hwf hc
        refine ac_aload_n Z.1 0 dX7_restOfSum_18 rfl ?_
        refine f_geti Z b_X7 0 (oR_0 hg) 12 (by decide) (by decide) (fR_12 hg) fX7_62 rfl (v := (M.1 12)) rfl dX7_restOfSum_19 ?_
        refine ac_bipush (v := 45) Z.1 dX7_restOfSum_22 (by decide) ?_
        obtain ⟨hwt, hwf⟩ := hw
        refine ac_icmp_ne (tgt := 69) Z.1 dX7_restOfSum_24 (by decide) (fun hc => ?_) (fun hc => ?_)
        · have hw := hwt hc
          exact hret _ _ _ _ dX7_restOfSum_69 hw
        · have hw := hwf hc
          exact sF_X7_restOfSum_27 hg Z hret hWF ih _ _ _ _ hw
def wF_X7_restOfSum (N : Nat → Nat) (WF : Int32 → f_S3 → (Nat × Nat) → (f_S3 → Nat × Nat → Prop) → Prop) (p1 : Int32) (M : f_S3) (O : Nat × Nat) (Q : f_S3 → Nat × Nat → Prop) : Prop := ∃ e2, wF_X7_restOfSum_2 N WF Q e2 p1 0 M O
set_option maxRecDepth 20000 in
theorem soF_X7_restOfSum {l : Launch} {g : b_S} (hg : g.1 = tb_R) {WF : Int32 → f_S3 → (Nat × Nat) → (f_S3 → Nat × Nat → Prop) → Prop} {rkF : Nat} (hWF : ∀ (p0 : Int32) (M : f_S3) (O : Nat × Nat) (Q : f_S3 → Nat × Nat → Prop), WF p0 M O Q → f_MetV l g yX7_factor cX7_factor 5 rkF [.ref (b_o g 0), .int p0] M O Q) (p1 : Int32) (M : f_S3) (O : Nat × Nat) (Q : f_S3 → Nat × Nat → Prop) (hw : wF_X7_restOfSum (b_N g) WF p1 M O Q) : f_MetV l g yX7_restOfSum cX7_restOfSum 4 (rkF + 3) [.ref (b_o g 0), .int p1] M O Q := by
  refine f_MetV.of (C := RX7) (by decide) rfl (Nat.le_of_ble_eq_true rfl) (fun x Z hret => ?_)
  show f_G x g 4 O M O 0 [(0, .ref (b_o g 0)), (1, .int p1)] []
  refine ac_iconst (v := 0) Z.1 dX7_restOfSum_0 (by decide) ?_
  refine ac_istore_n (lv' := [(2, .int 0), (0, .ref (b_o g 0)), (1, .int p1)]) Z.1 dX7_restOfSum_1 (by decide) rfl ?_
  obtain ⟨n, hw⟩ := hw
  refine ac_lv [1, 2, 0] rfl ?_
  exact sF_X7_restOfSum_2 hg Z hret hWF n _ _ _ _ hw
def wF_X7_restOfExpression_71 (N : Nat → Nat) (WF : Int32 → f_S3 → (Nat × Nat) → (f_S3 → Nat × Nat → Prop) → Prop) (Q : f_S3 → Nat × Nat → Prop) (a1 : Int32) (a2 : Int32) (M : f_S3) (O : Nat × Nat) : Prop := wF_X7_advance N M O (fun M3 O3 => (WF a1 M3 O3 (fun M4 O4 => (wF_X7_restOfProduct N WF a1 M4 O4 (fun M5 O5 => (wF_X7_restOfSum N WF a1 M5 O5 (fun M6 O6 => (wF_X7_emit N a2 M6 O6 (fun M7 O7 => (Q M7 O7))))))))))
set_option maxRecDepth 20000 in
theorem sF_X7_restOfExpression_71 {x : ac_X} {g : b_S} (hg : g.1 = tb_R) {l : Launch} {O0 : Nat × Nat} {WF : Int32 → f_S3 → (Nat × Nat) → (f_S3 → Nat × Nat → Prop) → Prop} {rkF : Nat} {Q : f_S3 → Nat × Nat → Prop} (Z : b_Cx x g l RX7 cX7_restOfExpression 3 (rkF + 4) O0) (hret : f_RV x g 3 cX7_restOfExpression O0 Q) (hWF : ∀ (p0 : Int32) (M : f_S3) (O : Nat × Nat) (Q : f_S3 → Nat × Nat → Prop), WF p0 M O Q → f_MetV l g yX7_factor cX7_factor 5 rkF [.ref (b_o g 0), .int p0] M O Q) (a1 : Int32) (a2 : Int32) (M : f_S3) (O : Nat × Nat) (hw : wF_X7_restOfExpression_71 (b_N g) WF Q a1 a2 M O) : f_G x g 3 O0 M O 71 [(0, .ref (b_o g 0)), (1, .int a1), (2, .int a2)] [] := by
  refine ac_aload_n Z.1 0 dX7_restOfExpression_71 rfl ?_
  refine f_callv (As := []) (st := []) Z b_X7.1 0 (oR_0 hg) rfl kX7_advance lkX7_59 (by omega) (soF_X7_advance hg   _ _ _ hw) rfl rfl (Nat.le_of_ble_eq_true rfl) dX7_restOfExpression_72 (fun M3 O3 hw => ?_)
  refine ac_aload_n Z.1 0 dX7_restOfExpression_75 rfl ?_
  refine ac_iload_n Z.1 1 dX7_restOfExpression_76 rfl ?_
  refine f_callv (As := [.int a1]) (st := []) Z b_X7.1 0 (oR_0 hg) rfl kX7_factor lkX7_240 (by omega) (hWF _ _ _ _ hw) rfl rfl (Nat.le_of_ble_eq_true rfl) dX7_restOfExpression_77 (fun M4 O4 hw => ?_)
  refine ac_aload_n Z.1 0 dX7_restOfExpression_80 rfl ?_
  refine ac_iload_n Z.1 1 dX7_restOfExpression_81 rfl ?_
  refine f_callv (As := [.int a1]) (st := []) Z b_X7.1 0 (oR_0 hg) rfl kX7_restOfProduct lkX7_243 (by omega) (soF_X7_restOfProduct hg hWF _ _ _ _ hw) rfl rfl (Nat.le_of_ble_eq_true rfl) dX7_restOfExpression_82 (fun M5 O5 hw => ?_)
  refine ac_aload_n Z.1 0 dX7_restOfExpression_85 rfl ?_
  refine ac_iload_n Z.1 1 dX7_restOfExpression_86 rfl ?_
  refine f_callv (As := [.int a1]) (st := []) Z b_X7.1 0 (oR_0 hg) rfl kX7_restOfSum lkX7_246 (by omega) (soF_X7_restOfSum hg hWF _ _ _ _ hw) rfl rfl (Nat.le_of_ble_eq_true rfl) dX7_restOfExpression_87 (fun M6 O6 hw => ?_)
  refine ac_aload_n Z.1 0 dX7_restOfExpression_90 rfl ?_
  refine ac_iload_n Z.1 2 dX7_restOfExpression_91 rfl ?_
  refine f_callv (As := [.int a2]) (st := []) Z b_X7.1 0 (oR_0 hg) rfl kX7_emit lkX7_125 (by omega) (soF_X7_emit hg  _ _ _ _ hw) rfl rfl (Nat.le_of_ble_eq_true rfl) dX7_restOfExpression_92 (fun M7 O7 hw => ?_)
  exact hret _ _ _ _ dX7_restOfExpression_95 hw
def wF_X7_restOfExpression_41 (N : Nat → Nat) (WF : Int32 → f_S3 → (Nat × Nat) → (f_S3 → Nat × Nat → Prop) → Prop) (Q : f_S3 → Nat × Nat → Prop) (a1 : Int32) (t0 : Int32) (M : f_S3) (O : Nat × Nat) : Prop := ((M.1 12) = 60 → (wF_X7_restOfExpression_71 N WF Q a1 t0 M O)) ∧ (¬ (M.1 12) = 60 → (((M.1 12) = 133 → (wF_X7_restOfExpression_71 N WF Q a1 t0 M O)) ∧ (¬ (M.1 12) = 133 → ((¬ (M.1 12) = 134 → (Q M O)) ∧ ((M.1 12) = 134 → (wF_X7_restOfExpression_71 N WF Q a1 t0 M O))))))
set_option maxRecDepth 20000 in
theorem sF_X7_restOfExpression_41 {x : ac_X} {g : b_S} (hg : g.1 = tb_R) {l : Launch} {O0 : Nat × Nat} {WF : Int32 → f_S3 → (Nat × Nat) → (f_S3 → Nat × Nat → Prop) → Prop} {rkF : Nat} {Q : f_S3 → Nat × Nat → Prop} (Z : b_Cx x g l RX7 cX7_restOfExpression 3 (rkF + 4) O0) (hret : f_RV x g 3 cX7_restOfExpression O0 Q) (hWF : ∀ (p0 : Int32) (M : f_S3) (O : Nat × Nat) (Q : f_S3 → Nat × Nat → Prop), WF p0 M O Q → f_MetV l g yX7_factor cX7_factor 5 rkF [.ref (b_o g 0), .int p0] M O Q) (a1 : Int32) (t0 : Int32) (M : f_S3) (O : Nat × Nat) (hw : wF_X7_restOfExpression_41 (b_N g) WF Q a1 t0 M O) : f_G x g 3 O0 M O 41 [(0, .ref (b_o g 0)), (1, .int a1)] [.int t0] := by
  refine ac_istore_n (lv' := [(2, .int t0), (0, .ref (b_o g 0)), (1, .int a1)]) Z.1 dX7_restOfExpression_41 (by decide) rfl ?_
  refine ac_aload_n Z.1 1 dX7_restOfExpression_42 rfl ?_
  refine f_geti Z b_X7 0 (oR_0 hg) 12 (by decide) (by decide) (fR_12 hg) fX7_62 rfl (v := (M.1 12)) rfl dX7_restOfExpression_43 ?_
  refine ac_bipush (v := 60) Z.1 dX7_restOfExpression_46 (by decide) ?_
  obtain ⟨hwt, hwf⟩ := hw
  refine ac_icmp_eq (tgt := 71) Z.1 dX7_restOfExpression_48 (by decide) (fun hc => ?_) (fun hc => ?_)
  · have hw := hwt hc
    refine ac_lv [1, 2, 0] rfl ?_
    exact sF_X7_restOfExpression_71 hg Z hret hWF _ _ _ _ hw
  · have hw := hwf hc
    refine ac_aload_n Z.1 1 dX7_restOfExpression_51 rfl ?_
    refine f_geti Z b_X7 0 (oR_0 hg) 12 (by decide) (by decide) (fR_12 hg) fX7_62 rfl (v := (M.1 12)) rfl dX7_restOfExpression_52 ?_
    refine ac_sipush (v := 133) Z.1 dX7_restOfExpression_55 (by decide) ?_
    obtain ⟨hwt, hwf⟩ := hw
    refine ac_icmp_eq (tgt := 71) Z.1 dX7_restOfExpression_58 (by decide) (fun hc => ?_) (fun hc => ?_)
    · have hw := hwt hc
      refine ac_lv [1, 2, 0] rfl ?_
      exact sF_X7_restOfExpression_71 hg Z hret hWF _ _ _ _ hw
    · have hw := hwf hc
      refine ac_aload_n Z.1 1 dX7_restOfExpression_61 rfl ?_
      refine f_geti Z b_X7 0 (oR_0 hg) 12 (by decide) (by decide) (fR_12 hg) fX7_62 rfl (v := (M.1 12)) rfl dX7_restOfExpression_62 ?_
      refine ac_sipush (v := 134) Z.1 dX7_restOfExpression_65 (by decide) ?_
      obtain ⟨hwt, hwf⟩ := hw
      refine ac_icmp_ne (tgt := 95) Z.1 dX7_restOfExpression_68 (by decide) (fun hc => ?_) (fun hc => ?_)
      · have hw := hwt hc
        exact hret _ _ _ _ dX7_restOfExpression_95 hw
      · have hw := hwf hc
        refine ac_lv [1, 2, 0] rfl ?_
        exact sF_X7_restOfExpression_71 hg Z hret hWF _ _ _ _ hw
def wF_X7_restOfExpression (N : Nat → Nat) (WF : Int32 → f_S3 → (Nat × Nat) → (f_S3 → Nat × Nat → Prop) → Prop) (p1 : Int32) (M : f_S3) (O : Nat × Nat) (Q : f_S3 → Nat × Nat → Prop) : Prop := wF_X7_restOfProduct N WF p1 M O (fun M1 O1 => (wF_X7_restOfSum N WF p1 M1 O1 (fun M2 O2 => ((¬ (M2.1 12) = 60 → ((¬ (M2.1 12) = 133 → (wF_X7_restOfExpression_41 N WF Q p1 21 M2 O2)) ∧ ((M2.1 12) = 133 → (wF_X7_restOfExpression_41 N WF Q p1 20 M2 O2)))) ∧ ((M2.1 12) = 60 → (wF_X7_restOfExpression_41 N WF Q p1 19 M2 O2))))))
set_option maxRecDepth 20000 in
theorem soF_X7_restOfExpression {l : Launch} {g : b_S} (hg : g.1 = tb_R) {WF : Int32 → f_S3 → (Nat × Nat) → (f_S3 → Nat × Nat → Prop) → Prop} {rkF : Nat} (hWF : ∀ (p0 : Int32) (M : f_S3) (O : Nat × Nat) (Q : f_S3 → Nat × Nat → Prop), WF p0 M O Q → f_MetV l g yX7_factor cX7_factor 5 rkF [.ref (b_o g 0), .int p0] M O Q) (p1 : Int32) (M : f_S3) (O : Nat × Nat) (Q : f_S3 → Nat × Nat → Prop) (hw : wF_X7_restOfExpression (b_N g) WF p1 M O Q) : f_MetV l g yX7_restOfExpression cX7_restOfExpression 3 (rkF + 4) [.ref (b_o g 0), .int p1] M O Q := by
  refine f_MetV.of (C := RX7) (by decide) rfl (Nat.le_of_ble_eq_true rfl) (fun x Z hret => ?_)
  show f_G x g 3 O M O 0 [(0, .ref (b_o g 0)), (1, .int p1)] []
  refine ac_aload_n Z.1 0 dX7_restOfExpression_0 rfl ?_
  refine ac_iload_n Z.1 1 dX7_restOfExpression_1 rfl ?_
  refine f_callv (As := [.int p1]) (st := []) Z b_X7.1 0 (oR_0 hg) rfl kX7_restOfProduct lkX7_243 (by omega) (soF_X7_restOfProduct hg hWF _ _ _ _ hw) rfl rfl (Nat.le_of_ble_eq_true rfl) dX7_restOfExpression_2 (fun M1 O1 hw => ?_)
  refine ac_aload_n Z.1 0 dX7_restOfExpression_5 rfl ?_
  refine ac_iload_n Z.1 1 dX7_restOfExpression_6 rfl ?_
  refine f_callv (As := [.int p1]) (st := []) Z b_X7.1 0 (oR_0 hg) rfl kX7_restOfSum lkX7_246 (by omega) (soF_X7_restOfSum hg hWF _ _ _ _ hw) rfl rfl (Nat.le_of_ble_eq_true rfl) dX7_restOfExpression_7 (fun M2 O2 hw => ?_)
  refine ac_aload_n Z.1 0 dX7_restOfExpression_10 rfl ?_
  refine f_geti Z b_X7 0 (oR_0 hg) 12 (by decide) (by decide) (fR_12 hg) fX7_62 rfl (v := (M2.1 12)) rfl dX7_restOfExpression_11 ?_
  refine ac_bipush (v := 60) Z.1 dX7_restOfExpression_14 (by decide) ?_
  obtain ⟨hwt, hwf⟩ := hw
  refine ac_icmp_ne (tgt := 24) Z.1 dX7_restOfExpression_16 (by decide) (fun hc => ?_) (fun hc => ?_)
  · have hw := hwt hc
    refine ac_aload_n Z.1 0 dX7_restOfExpression_24 rfl ?_
    refine f_geti Z b_X7 0 (oR_0 hg) 12 (by decide) (by decide) (fR_12 hg) fX7_62 rfl (v := (M2.1 12)) rfl dX7_restOfExpression_25 ?_
    refine ac_sipush (v := 133) Z.1 dX7_restOfExpression_28 (by decide) ?_
    obtain ⟨hwt, hwf⟩ := hw
    refine ac_icmp_ne (tgt := 39) Z.1 dX7_restOfExpression_31 (by decide) (fun hc => ?_) (fun hc => ?_)
    · have hw := hwt hc
      refine ac_bipush (v := 21) Z.1 dX7_restOfExpression_39 (by decide) ?_
      exact sF_X7_restOfExpression_41 hg Z hret hWF _ _ _ _ hw
    · have hw := hwf hc
      refine ac_bipush (v := 20) Z.1 dX7_restOfExpression_34 (by decide) ?_
      refine ac_goto (tgt := 41) Z.1 dX7_restOfExpression_36 (by decide) ?_
      exact sF_X7_restOfExpression_41 hg Z hret hWF _ _ _ _ hw
  · have hw := hwf hc
    refine ac_bipush (v := 19) Z.1 dX7_restOfExpression_19 (by decide) ?_
    refine ac_goto (tgt := 41) Z.1 dX7_restOfExpression_21 (by decide) ?_
    exact sF_X7_restOfExpression_41 hg Z hret hWF _ _ _ _ hw
def wF_X7_expression (N : Nat → Nat) (WF : Int32 → f_S3 → (Nat × Nat) → (f_S3 → Nat × Nat → Prop) → Prop) (p1 : Int32) (M : f_S3) (O : Nat × Nat) (Q : f_S3 → Nat × Nat → Prop) : Prop := WF p1 M O (fun M1 O1 => (wF_X7_restOfExpression N WF p1 M1 O1 (fun M2 O2 => (Q M2 O2))))
set_option maxRecDepth 20000 in
theorem soF_X7_expression {l : Launch} {g : b_S} (hg : g.1 = tb_R) {WF : Int32 → f_S3 → (Nat × Nat) → (f_S3 → Nat × Nat → Prop) → Prop} {rkF : Nat} (hWF : ∀ (p0 : Int32) (M : f_S3) (O : Nat × Nat) (Q : f_S3 → Nat × Nat → Prop), WF p0 M O Q → f_MetV l g yX7_factor cX7_factor 5 rkF [.ref (b_o g 0), .int p0] M O Q) (p1 : Int32) (M : f_S3) (O : Nat × Nat) (Q : f_S3 → Nat × Nat → Prop) (hw : wF_X7_expression (b_N g) WF p1 M O Q) : f_MetV l g yX7_expression cX7_expression 2 (rkF + 5) [.ref (b_o g 0), .int p1] M O Q := by
  refine f_MetV.of (C := RX7) (by decide) rfl (Nat.le_of_ble_eq_true rfl) (fun x Z hret => ?_)
  show f_G x g 2 O M O 0 [(0, .ref (b_o g 0)), (1, .int p1)] []
  refine ac_aload_n Z.1 0 dX7_expression_0 rfl ?_
  refine ac_iload_n Z.1 1 dX7_expression_1 rfl ?_
  refine f_callv (As := [.int p1]) (st := []) Z b_X7.1 0 (oR_0 hg) rfl kX7_factor lkX7_240 (by omega) (hWF _ _ _ _ hw) rfl rfl (Nat.le_of_ble_eq_true rfl) dX7_expression_2 (fun M1 O1 hw => ?_)
  refine ac_aload_n Z.1 0 dX7_expression_5 rfl ?_
  refine ac_iload_n Z.1 1 dX7_expression_6 rfl ?_
  refine f_callv (As := [.int p1]) (st := []) Z b_X7.1 0 (oR_0 hg) rfl kX7_restOfExpression lkX7_225 (by omega) (soF_X7_restOfExpression hg hWF _ _ _ _ hw) rfl rfl (Nat.le_of_ble_eq_true rfl) dX7_expression_7 (fun M2 O2 hw => ?_)
  exact hret _ _ _ _ dX7_expression_10 hw
def wF_X7_choice (N : Nat → Nat) (WF : Int32 → f_S3 → (Nat × Nat) → (f_S3 → Nat × Nat → Prop) → Prop) (WB : Int32 → f_S3 → (Nat × Nat) → (f_S3 → Nat × Nat → Prop) → Prop) (p1 : Int32) (M : f_S3) (O : Nat × Nat) (Q : f_S3 → Nat × Nat → Prop) : Prop := wF_X7_emit N 0 M O (fun M1 O1 => (wF_X7_advance N M1 O1 (fun M2 O2 => (wF_X7_expression N WF p1 M2 O2 (fun M3 O3 => (wF_X7_emit N 13 M3 O3 (fun M4 O4 => (wF_X6_put N (-1) M4 O4 (fun r5 M6 O6 => (WB p1 M6 O6 (fun M7 O7 => (((M7.1 12) = 214 → (wF_X7_advance N M7 O7 (fun M8 O8 => (wF_X7_emit N 12 M8 O8 (fun M9 O9 => (wF_X6_put N (-1) M9 O9 (fun r10 M11 O11 => (wF_X6_change N r5 (M11.1 63) M11 O11 (fun M12 O12 => (WB p1 M12 O12 (fun M13 O13 => (wF_X6_change N r10 (M13.1 63) M13 O13 (fun M14 O14 => (Q M14 O14)))))))))))))) ∧ (¬ (M7.1 12) = 214 → (wF_X6_change N r5 (M7.1 63) M7 O7 (fun M15 O15 => (Q M15 O15))))))))))))))))
set_option maxRecDepth 20000 in
theorem soF_X7_choice {l : Launch} {g : b_S} (hg : g.1 = tb_R) {WF : Int32 → f_S3 → (Nat × Nat) → (f_S3 → Nat × Nat → Prop) → Prop} {WB : Int32 → f_S3 → (Nat × Nat) → (f_S3 → Nat × Nat → Prop) → Prop} {rkF : Nat} {rkB : Nat} (hWF : ∀ (p0 : Int32) (M : f_S3) (O : Nat × Nat) (Q : f_S3 → Nat × Nat → Prop), WF p0 M O Q → f_MetV l g yX7_factor cX7_factor 5 rkF [.ref (b_o g 0), .int p0] M O Q) (hWB : ∀ (p0 : Int32) (M : f_S3) (O : Nat × Nat) (Q : f_S3 → Nat × Nat → Prop), WB p0 M O Q → f_MetV l g yX7_block cX7_block 3 rkB [.ref (b_o g 0), .int p0] M O Q) (hFB : rkF + 60 ≤ rkB) (p1 : Int32) (M : f_S3) (O : Nat × Nat) (Q : f_S3 → Nat × Nat → Prop) (hw : wF_X7_choice (b_N g) WF WB p1 M O Q) : f_MetV l g yX7_choice cX7_choice 4 (rkB + 2) [.ref (b_o g 0), .int p1] M O Q := by
  refine f_MetV.of (C := RX7) (by decide) rfl (Nat.le_of_ble_eq_true rfl) (fun x Z hret => ?_)
  show f_G x g 4 O M O 0 [(0, .ref (b_o g 0)), (1, .int p1)] []
  refine ac_aload_n Z.1 0 dX7_choice_0 rfl ?_
  refine ac_iconst (v := 0) Z.1 dX7_choice_1 (by decide) ?_
  refine f_callv (As := [.int 0]) (st := []) Z b_X7.1 0 (oR_0 hg) rfl kX7_emit lkX7_125 (by omega) (soF_X7_emit hg  _ _ _ _ hw) rfl rfl (Nat.le_of_ble_eq_true rfl) dX7_choice_2 (fun M1 O1 hw => ?_)
  refine ac_aload_n Z.1 0 dX7_choice_5 rfl ?_
  refine f_callv (As := []) (st := []) Z b_X7.1 0 (oR_0 hg) rfl kX7_advance lkX7_59 (by omega) (soF_X7_advance hg   _ _ _ hw) rfl rfl (Nat.le_of_ble_eq_true rfl) dX7_choice_6 (fun M2 O2 hw => ?_)
  refine ac_aload_n Z.1 0 dX7_choice_9 rfl ?_
  refine ac_iload_n Z.1 1 dX7_choice_10 rfl ?_
  refine f_callv (As := [.int p1]) (st := []) Z b_X7.1 0 (oR_0 hg) rfl kX7_expression lkX7_202 (by omega) (soF_X7_expression hg hWF _ _ _ _ hw) rfl rfl (Nat.le_of_ble_eq_true rfl) dX7_choice_11 (fun M3 O3 hw => ?_)
  refine ac_aload_n Z.1 0 dX7_choice_14 rfl ?_
  refine ac_bipush (v := 13) Z.1 dX7_choice_15 (by decide) ?_
  refine f_callv (As := [.int 13]) (st := []) Z b_X7.1 0 (oR_0 hg) rfl kX7_emit lkX7_125 (by omega) (soF_X7_emit hg  _ _ _ _ hw) rfl rfl (Nat.le_of_ble_eq_true rfl) dX7_choice_17 (fun M4 O4 hw => ?_)
  refine ac_aload_n Z.1 0 dX7_choice_20 rfl ?_
  refine f_getr Z b_X7 0 (oR_0 hg) 1 (by decide) (by decide) (fR_1 hg) fX7_31 rfl (h2 := (b_o g 3)) rfl dX7_choice_21 ?_
  refine ac_iconst (v := (-1)) Z.1 dX7_choice_24 (by decide) ?_
  refine f_calli (As := [.int (-1)]) (st := []) Z b_X6.1 3 (oR_3 hg) rfl kX6_put lkX7_96 (by omega) (soF_X6_put hg  _ _ _ _ hw) rfl rfl (Nat.le_of_ble_eq_true rfl) dX7_choice_25 (fun r5 M6 O6 hw => ?_)
  refine ac_istore_n (lv' := [(2, .int r5), (0, .ref (b_o g 0)), (1, .int p1)]) Z.1 dX7_choice_28 (by decide) rfl ?_
  refine ac_aload_n Z.1 1 dX7_choice_29 rfl ?_
  refine ac_iload_n Z.1 2 dX7_choice_30 rfl ?_
  refine f_callv (As := [.int p1]) (st := []) Z b_X7.1 0 (oR_0 hg) rfl kX7_block lkX7_117 (by omega) (hWB _ _ _ _ hw) rfl rfl (Nat.le_of_ble_eq_true rfl) dX7_choice_31 (fun M7 O7 hw => ?_)
  refine ac_aload_n Z.1 1 dX7_choice_34 rfl ?_
  refine f_geti Z b_X7 0 (oR_0 hg) 12 (by decide) (by decide) (fR_12 hg) fX7_62 rfl (v := (M7.1 12)) rfl dX7_choice_35 ?_
  refine ac_sipush (v := 214) Z.1 dX7_choice_38 (by decide) ?_
  obtain ⟨hwt, hwf⟩ := hw
  refine ac_icmp_eq (tgt := 60) Z.1 dX7_choice_41 (by decide) (fun hc => ?_) (fun hc => ?_)
  · have hw := hwt hc
    refine ac_aload_n Z.1 1 dX7_choice_60 rfl ?_
    refine f_callv (As := []) (st := []) Z b_X7.1 0 (oR_0 hg) rfl kX7_advance lkX7_59 (by omega) (soF_X7_advance hg   _ _ _ hw) rfl rfl (Nat.le_of_ble_eq_true rfl) dX7_choice_61 (fun M8 O8 hw => ?_)
    refine ac_aload_n Z.1 1 dX7_choice_64 rfl ?_
    refine ac_bipush (v := 12) Z.1 dX7_choice_65 (by decide) ?_
    refine f_callv (As := [.int 12]) (st := []) Z b_X7.1 0 (oR_0 hg) rfl kX7_emit lkX7_125 (by omega) (soF_X7_emit hg  _ _ _ _ hw) rfl rfl (Nat.le_of_ble_eq_true rfl) dX7_choice_67 (fun M9 O9 hw => ?_)
    refine ac_aload_n Z.1 1 dX7_choice_70 rfl ?_
    refine f_getr Z b_X7 0 (oR_0 hg) 1 (by decide) (by decide) (fR_1 hg) fX7_31 rfl (h2 := (b_o g 3)) rfl dX7_choice_71 ?_
    refine ac_iconst (v := (-1)) Z.1 dX7_choice_74 (by decide) ?_
    refine f_calli (As := [.int (-1)]) (st := []) Z b_X6.1 3 (oR_3 hg) rfl kX6_put lkX7_96 (by omega) (soF_X6_put hg  _ _ _ _ hw) rfl rfl (Nat.le_of_ble_eq_true rfl) dX7_choice_75 (fun r10 M11 O11 hw => ?_)
    refine ac_istore_n (lv' := [(3, .int r10), (2, .int r5), (0, .ref (b_o g 0)), (1, .int p1)]) Z.1 dX7_choice_78 (by decide) rfl ?_
    refine ac_aload_n Z.1 2 dX7_choice_79 rfl ?_
    refine f_getr Z b_X7 0 (oR_0 hg) 1 (by decide) (by decide) (fR_1 hg) fX7_31 rfl (h2 := (b_o g 3)) rfl dX7_choice_80 ?_
    refine ac_iload_n Z.1 1 dX7_choice_83 rfl ?_
    refine ac_aload_n Z.1 2 dX7_choice_84 rfl ?_
    refine f_getr Z b_X7 0 (oR_0 hg) 1 (by decide) (by decide) (fR_1 hg) fX7_31 rfl (h2 := (b_o g 3)) rfl dX7_choice_85 ?_
    refine f_geti Z b_X6 3 (oR_3 hg) 3 (by decide) (by decide) (fR_63 hg) fX7_110 rfl (v := (M11.1 63)) rfl dX7_choice_88 ?_
    refine f_callv (As := [.int r5, .int (M11.1 63)]) (st := []) Z b_X6.1 3 (oR_3 hg) rfl kX6_change lkX7_205 (by omega) (soF_X6_change hg  _ _ _ _ _ hw) rfl rfl (Nat.le_of_ble_eq_true rfl) dX7_choice_91 (fun M12 O12 hw => ?_)
    refine ac_aload_n Z.1 2 dX7_choice_94 rfl ?_
    refine ac_iload_n Z.1 3 dX7_choice_95 rfl ?_
    refine f_callv (As := [.int p1]) (st := []) Z b_X7.1 0 (oR_0 hg) rfl kX7_block lkX7_117 (by omega) (hWB _ _ _ _ hw) rfl rfl (Nat.le_of_ble_eq_true rfl) dX7_choice_96 (fun M13 O13 hw => ?_)
    refine ac_aload_n Z.1 2 dX7_choice_99 rfl ?_
    refine f_getr Z b_X7 0 (oR_0 hg) 1 (by decide) (by decide) (fR_1 hg) fX7_31 rfl (h2 := (b_o g 3)) rfl dX7_choice_100 ?_
    refine ac_iload_n Z.1 0 dX7_choice_103 rfl ?_
    refine ac_aload_n Z.1 2 dX7_choice_104 rfl ?_
    refine f_getr Z b_X7 0 (oR_0 hg) 1 (by decide) (by decide) (fR_1 hg) fX7_31 rfl (h2 := (b_o g 3)) rfl dX7_choice_105 ?_
    refine f_geti Z b_X6 3 (oR_3 hg) 3 (by decide) (by decide) (fR_63 hg) fX7_110 rfl (v := (M13.1 63)) rfl dX7_choice_108 ?_
    refine f_callv (As := [.int r10, .int (M13.1 63)]) (st := []) Z b_X6.1 3 (oR_3 hg) rfl kX6_change lkX7_205 (by omega) (soF_X6_change hg  _ _ _ _ _ hw) rfl rfl (Nat.le_of_ble_eq_true rfl) dX7_choice_111 (fun M14 O14 hw => ?_)
    exact hret _ _ _ _ dX7_choice_114 hw
  · have hw := hwf hc
    refine ac_aload_n Z.1 1 dX7_choice_44 rfl ?_
    refine f_getr Z b_X7 0 (oR_0 hg) 1 (by decide) (by decide) (fR_1 hg) fX7_31 rfl (h2 := (b_o g 3)) rfl dX7_choice_45 ?_
    refine ac_iload_n Z.1 0 dX7_choice_48 rfl ?_
    refine ac_aload_n Z.1 1 dX7_choice_49 rfl ?_
    refine f_getr Z b_X7 0 (oR_0 hg) 1 (by decide) (by decide) (fR_1 hg) fX7_31 rfl (h2 := (b_o g 3)) rfl dX7_choice_50 ?_
    refine f_geti Z b_X6 3 (oR_3 hg) 3 (by decide) (by decide) (fR_63 hg) fX7_110 rfl (v := (M7.1 63)) rfl dX7_choice_53 ?_
    refine f_callv (As := [.int r5, .int (M7.1 63)]) (st := []) Z b_X6.1 3 (oR_3 hg) rfl kX6_change lkX7_205 (by omega) (soF_X6_change hg  _ _ _ _ _ hw) rfl rfl (Nat.le_of_ble_eq_true rfl) dX7_choice_56 (fun M15 O15 hw => ?_)
    exact hret _ _ _ _ dX7_choice_59 hw
