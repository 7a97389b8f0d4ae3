def wF_X7_block_48 (N : Nat → Nat) (WF : Int32 → f_S3 → (Nat × Nat) → (f_S3 → Nat × Nat → Prop) → Prop) (WB : Int32 → f_S3 → (Nat × Nat) → (f_S3 → Nat × Nat → Prop) → Prop) (Q : f_S3 → Nat × Nat → Prop) (M : f_S3) (O : Nat × Nat) : Prop := wF_X7_take N 125 M O (fun M2 O2 => (Q M2 O2))
set_option maxRecDepth 20000 in
theorem sF_X7_block_48 {x : ac_X} {g : b_S} (hg : g.1 = tb_R) {l : Launch} {O0 : Nat × Nat} {WF : Int32 → f_S3 → (Nat × Nat) → (f_S3 → Nat × Nat → Prop) → Prop} {WB : Int32 → f_S3 → (Nat × Nat) → (f_S3 → Nat × Nat → Prop) → Prop} {rkF : Nat} {rkB : Nat} {Q : f_S3 → Nat × Nat → Prop} (Z : b_Cx x g l RX7 cX7_block 3 (rkB + 5) O0) (hret : f_RV x g 3 cX7_block O0 Q) (hWF : ∀ (p0 : Int32) (M : f_S3) (O : Nat × Nat) (Q : f_S3 → Nat × Nat → Prop), WF p0 M O Q → f_MetV l g yX7_factor cX7_factor 5 rkF [.ref (b_o g 0), .int p0] M O Q) (hWB : ∀ (p0 : Int32) (M : f_S3) (O : Nat × Nat) (Q : f_S3 → Nat × Nat → Prop), WB p0 M O Q → f_MetV l g yX7_block cX7_block 3 rkB [.ref (b_o g 0), .int p0] M O Q) (hFB : rkF + 60 ≤ rkB) (M : f_S3) (O : Nat × Nat) (hw : wF_X7_block_48 (b_N g) WF WB Q M O) : f_G x g 3 O0 M O 48 [(0, .ref (b_o g 0))] [] := by
  refine ac_aload_n Z.1 0 dX7_block_48 rfl ?_
  refine ac_bipush (v := 125) Z.1 dX7_block_49 (by decide) ?_
  refine f_callv (As := [.int 125]) (st := []) Z b_X7.1 0 (oR_0 hg) rfl kX7_take lkX7_100 (by omega) (soF_X7_take hg  _ _ _ _ hw) rfl rfl (Nat.le_of_ble_eq_true rfl) dX7_block_51 (fun M2 O2 hw => ?_)
  exact hret _ _ _ _ dX7_block_54 hw
def wF_X7_block_9 (N : Nat → Nat) (WF : Int32 → f_S3 → (Nat × Nat) → (f_S3 → Nat × Nat → Prop) → Prop) (WB : Int32 → f_S3 → (Nat × Nat) → (f_S3 → Nat × Nat → Prop) → Prop) (Q : f_S3 → Nat × Nat → Prop) : Nat → Int32 → Int32 → f_S3 → Nat × Nat → Prop
  | 0 => fun _ _ _ _ => False
  | n + 1 => fun a1 a2 M O => ((4000 < a2 → (wF_X7_block_48 N WF WB Q M O)) ∧ (¬ 4000 < a2 → (((M.1 12) = 125 → (wF_X7_block_48 N WF WB Q M O)) ∧ (¬ (M.1 12) = 125 → (((M.1 12) = 137 → (wF_X7_block_48 N WF WB Q M O)) ∧ (¬ (M.1 12) = 137 → (wF_X7_statement N WF WB (a1 + 1) M O (fun M3 O3 => (wF_X7_block_9 N WF WB Q n a1 (a2 + 1) M3 O3)))))))))
set_option maxRecDepth 20000 in
theorem sF_X7_block_9 {x : ac_X} {g : b_S} (hg : g.1 = tb_R) {l : Launch} {O0 : Nat × Nat} {WF : Int32 → f_S3 → (Nat × Nat) → (f_S3 → Nat × Nat → Prop) → Prop} {WB : Int32 → f_S3 → (Nat × Nat) → (f_S3 → Nat × Nat → Prop) → Prop} {rkF : Nat} {rkB : Nat} {Q : f_S3 → Nat × Nat → Prop} (Z : b_Cx x g l RX7 cX7_block 3 (rkB + 5) O0) (hret : f_RV x g 3 cX7_block O0 Q) (hWF : ∀ (p0 : Int32) (M : f_S3) (O : Nat × Nat) (Q : f_S3 → Nat × Nat → Prop), WF p0 M O Q → f_MetV l g yX7_factor cX7_factor 5 rkF [.ref (b_o g 0), .int p0] M O Q) (hWB : ∀ (p0 : Int32) (M : f_S3) (O : Nat × Nat) (Q : f_S3 → Nat × Nat → Prop), WB p0 M O Q → f_MetV l g yX7_block cX7_block 3 rkB [.ref (b_o g 0), .int p0] M O Q) (hFB : rkF + 60 ≤ rkB) : ∀ (n : Nat) (a1 : Int32) (a2 : Int32) (M : f_S3) (O : Nat × Nat), wF_X7_block_9 (b_N g) WF WB Q n a1 a2 M O → f_G x g 3 O0 M O 9 [(0, .ref (b_o g 0)), (1, .int a1), (2, .int a2)] [] := by
  intro n
  induction n with
  | zero => intro _ _ _ _ hw; exact hw.elim
  | succ n ih =>
    intro a1 a2 M O hw
    dsimp only [wF_X7_block_9] at hw
    refine ac_iload_n Z.1 2 dX7_block_9 rfl ?_
    refine ac_sipush (v := 4000) Z.1 dX7_block_10 (by decide) ?_
    obtain ⟨hwt, hwf⟩ := hw
    refine ac_icmp_gt (tgt := 48) Z.1 dX7_block_13 (by decide) (fun hc => ?_) (fun hc => ?_)
    · have hw := hwt hc
      refine ac_lv [0] rfl ?_
      exact sF_X7_block_48 hg Z hret hWF hWB hFB _ _ hw
    · have hw := hwf hc
      refine ac_aload_n Z.1 0 dX7_block_16 rfl ?_
      refine f_geti Z b_X7 0 (oR_0 hg) 12 (by decide) (by decide) (fR_12 hg) fX7_62 rfl (v := (M.1 12)) rfl dX7_block_17 ?_
      refine ac_bipush (v := 125) Z.1 dX7_block_20 (by decide) ?_
      obtain ⟨hwt, hwf⟩ := hw
      refine ac_icmp_eq (tgt := 48) Z.1 dX7_block_22 (by decide) (fun hc => ?_) (fun hc => ?_)
      · have hw := hwt hc
        refine ac_lv [0] rfl ?_
        exact sF_X7_block_48 hg Z hret hWF hWB hFB _ _ hw
      · have hw := hwf hc
        refine ac_aload_n Z.1 0 dX7_block_25 rfl ?_
        refine f_geti Z b_X7 0 (oR_0 hg) 12 (by decide) (by decide) (fR_12 hg) fX7_62 rfl (v := (M.1 12)) rfl dX7_block_26 ?_
        refine ac_sipush (v := 137) Z.1 dX7_block_29 (by decide) ?_
        obtain ⟨hwt, hwf⟩ := hw
        refine ac_icmp_eq (tgt := 48) Z.1 dX7_block_32 (by decide) (fun hc => ?_) (fun hc => ?_)
        · have hw := hwt hc
          refine ac_lv [0] rfl ?_
          exact sF_X7_block_48 hg Z hret hWF hWB hFB _ _ hw
        · have hw := hwf hc
          refine ac_aload_n Z.1 0 dX7_block_35 rfl ?_
          refine ac_iload_n Z.1 1 dX7_block_36 rfl ?_
          refine ac_iconst (v := 1) Z.1 dX7_block_37 (by decide) ?_
          refine ac_iadd Z.1 dX7_block_38 ?_
          refine f_callv (As := [.int (a1 + 1)]) (st := []) Z b_X7.1 0 (oR_0 hg) rfl kX7_statement lkX7_163 (by omega) (soF_X7_statement hg hWF hWB hFB _ _ _ _ hw) rfl rfl (Nat.le_of_ble_eq_true rfl) dX7_block_39 (fun M3 O3 hw => ?_)
          refine ac_iinc (w := (a2 + 1)) (lv' := [(2, .int (a2 + 1)), (0, .ref (b_o g 0)), (1, .int a1)]) Z.1 2 dX7_block_42 rfl rfl (by decide) rfl ?_
          refine ac_goto (tgt := 9) Z.1 dX7_block_45 (by decide) ?_
          refine ac_lv [1, 2, 0] rfl ?_
          exact ih _ _ _ _ hw
def wF_X7_block (N : Nat → Nat) (WF : Int32 → f_S3 → (Nat × Nat) → (f_S3 → Nat × Nat → Prop) → Prop) (WB : Int32 → f_S3 → (Nat × Nat) → (f_S3 → Nat × Nat → Prop) → Prop) (p1 : Int32) (M : f_S3) (O : Nat × Nat) (Q : f_S3 → Nat × Nat → Prop) : Prop := wF_X7_takeOpening N 123 p1 M O (fun M1 O1 => (∃ e9, wF_X7_block_9 N WF WB Q e9 p1 0 M1 O1))
set_option maxRecDepth 20000 in
theorem soF_X7_block {l : Launch} {g : b_S} (hg : g.1 = tb_R) {WF : Int32 → f_S3 → (Nat × Nat) → (f_S3 → Nat × Nat → Prop) → Prop} {WB : Int32 → f_S3 → (Nat × Nat) → (f_S3 → Nat × Nat → Prop) → Prop} {rkF : Nat} {rkB : Nat} (hWF : ∀ (p0 : Int32) (M : f_S3) (O : Nat × Nat) (Q : f_S3 → Nat × Nat → Prop), WF p0 M O Q → f_MetV l g yX7_factor cX7_factor 5 rkF [.ref (b_o g 0), .int p0] M O Q) (hWB : ∀ (p0 : Int32) (M : f_S3) (O : Nat × Nat) (Q : f_S3 → Nat × Nat → Prop), WB p0 M O Q → f_MetV l g yX7_block cX7_block 3 rkB [.ref (b_o g 0), .int p0] M O Q) (hFB : rkF + 60 ≤ rkB) (p1 : Int32) (M : f_S3) (O : Nat × Nat) (Q : f_S3 → Nat × Nat → Prop) (hw : wF_X7_block (b_N g) WF WB p1 M O Q) : f_MetV l g yX7_block cX7_block 3 (rkB + 5) [.ref (b_o g 0), .int p1] M O Q := by
  refine f_MetV.of (C := RX7) (by decide) rfl (Nat.le_of_ble_eq_true rfl) (fun x Z hret => ?_)
  show f_G x g 3 O M O 0 [(0, .ref (b_o g 0)), (1, .int p1)] []
  refine ac_aload_n Z.1 0 dX7_block_0 rfl ?_
  refine ac_bipush (v := 123) Z.1 dX7_block_1 (by decide) ?_
  refine ac_iload_n Z.1 1 dX7_block_3 rfl ?_
  refine f_callv (As := [.int 123, .int p1]) (st := []) Z b_X7.1 0 (oR_0 hg) rfl kX7_takeOpening lkX7_106 (by omega) (soF_X7_takeOpening hg  _ _ _ _ _ hw) rfl rfl (Nat.le_of_ble_eq_true rfl) dX7_block_4 (fun M1 O1 hw => ?_)
  refine ac_iconst (v := 0) Z.1 dX7_block_7 (by decide) ?_
  refine ac_istore_n (lv' := [(2, .int 0), (0, .ref (b_o g 0)), (1, .int p1)]) Z.1 dX7_block_8 (by decide) rfl ?_
  obtain ⟨n, hw⟩ := hw
  refine ac_lv [1, 2, 0] rfl ?_
  exact sF_X7_block_9 hg Z hret hWF hWB hFB n _ _ _ _ hw
def wF_X7_property (N : Nat → Nat) (M : f_S3) (O : Nat × Nat) (Q : Int32 → f_S3 → Nat × Nat → Prop) : Prop := ((M.1 12) = 219 → (Q 1 M O)) ∧ ((M.1 12) = 220 → (Q 2 M O)) ∧ ((M.1 12) = 221 → (Q 6 M O)) ∧ ((M.1 12) = 222 → (Q 7 M O)) ∧ ((M.1 12) = 223 → (Q 3 M O)) ∧ (¬ (M.1 12) = 219 → ¬ (M.1 12) = 220 → ¬ (M.1 12) = 221 → ¬ (M.1 12) = 222 → ¬ (M.1 12) = 223 → (Q (-1) M O))
set_option maxRecDepth 20000 in
theorem soF_X7_property {l : Launch} {g : b_S} (hg : g.1 = tb_R) (M : f_S3) (O : Nat × Nat) (Q : Int32 → f_S3 → Nat × Nat → Prop) (hw : wF_X7_property (b_N g)  M O Q) : f_MetI l g yX7_property cX7_property 1 .int (0) [.ref (b_o g 0)] M O Q := by
  refine f_MetI.of (C := RX7) (by decide) rfl (Nat.le_of_ble_eq_true rfl) (fun x Z hret => ?_)
  show f_G x g 1 O M O 0 [(0, .ref (b_o g 0))] []
  refine ac_aload_n Z.1 0 dX7_property_0 rfl ?_
  refine f_geti Z b_X7 0 (oR_0 hg) 12 (by decide) (by decide) (fR_12 hg) fX7_62 rfl (v := (M.1 12)) rfl dX7_property_1 ?_
  obtain ⟨hwk, hw⟩ := hw
  by_cases hk0 : (M.1 12) = 219
  · have hw := hwk hk0
    refine ac_tableIn (off := 36) (tgt := 40) Z.1 dX7_property_4 (by rw [hk0]; decide) (by rw [hk0]; decide) (by rw [hk0]; rfl) (by decide) ?_
    refine ac_iconst (v := 1) Z.1 dX7_property_40 (by decide) ?_
    exact hret _ _ _ _ _ dX7_property_41 rfl hw
  obtain ⟨hwk, hw⟩ := hw
  by_cases hk1 : (M.1 12) = 220
  · have hw := hwk hk1
    refine ac_tableIn (off := 38) (tgt := 42) Z.1 dX7_property_4 (by rw [hk1]; decide) (by rw [hk1]; decide) (by rw [hk1]; rfl) (by decide) ?_
    refine ac_iconst (v := 2) Z.1 dX7_property_42 (by decide) ?_
    exact hret _ _ _ _ _ dX7_property_43 rfl hw
  obtain ⟨hwk, hw⟩ := hw
  by_cases hk2 : (M.1 12) = 221
  · have hw := hwk hk2
    refine ac_tableIn (off := 40) (tgt := 44) Z.1 dX7_property_4 (by rw [hk2]; decide) (by rw [hk2]; decide) (by rw [hk2]; rfl) (by decide) ?_
    refine ac_bipush (v := 6) Z.1 dX7_property_44 (by decide) ?_
    exact hret _ _ _ _ _ dX7_property_46 rfl hw
  obtain ⟨hwk, hw⟩ := hw
  by_cases hk3 : (M.1 12) = 222
  · have hw := hwk hk3
    refine ac_tableIn (off := 43) (tgt := 47) Z.1 dX7_property_4 (by rw [hk3]; decide) (by rw [hk3]; decide) (by rw [hk3]; rfl) (by decide) ?_
    refine ac_bipush (v := 7) Z.1 dX7_property_47 (by decide) ?_
    exact hret _ _ _ _ _ dX7_property_49 rfl hw
  obtain ⟨hwk, hw⟩ := hw
  by_cases hk4 : (M.1 12) = 223
  · have hw := hwk hk4
    refine ac_tableIn (off := 46) (tgt := 50) Z.1 dX7_property_4 (by rw [hk4]; decide) (by rw [hk4]; decide) (by rw [hk4]; rfl) (by decide) ?_
    refine ac_iconst (v := 3) Z.1 dX7_property_50 (by decide) ?_
    exact hret _ _ _ _ _ dX7_property_51 rfl hw
  have hw := hw hk0 hk1 hk2 hk3 hk4
  refine ac_tableOut (tgt := 52) Z.1 dX7_property_4 (by have q0 := lv_neT hk0 (show (219 : Int32).toInt = 219 by decide); have q1 := lv_neT hk1 (show (220 : Int32).toInt = 220 by decide); have q2 := lv_neT hk2 (show (221 : Int32).toInt = 221 by decide); have q3 := lv_neT hk3 (show (222 : Int32).toInt = 222 by decide); have q4 := lv_neT hk4 (show (223 : Int32).toInt = 223 by decide); omega) (by decide) ?_
  refine ac_iconst (v := (-1)) Z.1 dX7_property_52 (by decide) ?_
  exact hret _ _ _ _ _ dX7_property_53 rfl hw
def wF_X7_toldProperty_21 (N : Nat → Nat) (Q : Int32 → f_S3 → Nat × Nat → Prop) (a1 : Int32) (M : f_S3) (O : Nat × Nat) : Prop := Q a1 M O
set_option maxRecDepth 20000 in
theorem sF_X7_toldProperty_21 {x : ac_X} {g : b_S} (hg : g.1 = tb_R) {l : Launch} {O0 : Nat × Nat} {Q : Int32 → f_S3 → Nat × Nat → Prop} (Z : b_Cx x g l RX7 cX7_toldProperty 2 (1) O0) (hret : f_RI x g 2 cX7_toldProperty .int O0 Q) (a1 : Int32) (M : f_S3) (O : Nat × Nat) (hw : wF_X7_toldProperty_21 (b_N g) Q a1 M O) : f_G x g 2 O0 M O 21 [(0, .ref (b_o g 0)), (1, .int a1)] [] := by
  refine ac_iload_n Z.1 1 dX7_toldProperty_21 rfl ?_
  exact hret _ _ _ _ _ dX7_toldProperty_22 rfl hw
def wF_X7_toldProperty (N : Nat → Nat) (M : f_S3) (O : Nat × Nat) (Q : Int32 → f_S3 → Nat × Nat → Prop) : Prop := wF_X7_property N M O (fun r1 M2 O2 => ((¬ r1 = (-1) → (wF_X7_advance N M2 O2 (fun M3 O3 => (wF_X7_toldProperty_21 N Q r1 M3 O3)))) ∧ (r1 = (-1) → (wF_X7_fail N M2 O2 (fun M4 O4 => (wF_X7_toldProperty_21 N Q r1 M4 O4))))))
set_option maxRecDepth 20000 in
theorem soF_X7_toldProperty {l : Launch} {g : b_S} (hg : g.1 = tb_R) (M : f_S3) (O : Nat × Nat) (Q : Int32 → f_S3 → Nat × Nat → Prop) (hw : wF_X7_toldProperty (b_N g)  M O Q) : f_MetI l g yX7_toldProperty cX7_toldProperty 2 .int (1) [.ref (b_o g 0)] M O Q := by
  refine f_MetI.of (C := RX7) (by decide) rfl (Nat.le_of_ble_eq_true rfl) (fun x Z hret => ?_)
  show f_G x g 2 O M O 0 [(0, .ref (b_o g 0))] []
  refine ac_aload_n Z.1 0 dX7_toldProperty_0 rfl ?_
  refine f_calli (As := []) (st := []) Z b_X7.1 0 (oR_0 hg) rfl kX7_property lkX7_252 (by omega) (soF_X7_property hg   _ _ _ hw) rfl rfl (Nat.le_of_ble_eq_true rfl) dX7_toldProperty_1 (fun r1 M2 O2 hw => ?_)
  refine ac_istore_n (lv' := [(1, .int r1), (0, .ref (b_o g 0))]) Z.1 dX7_toldProperty_4 (by decide) rfl ?_
  refine ac_iload_n Z.1 0 dX7_toldProperty_5 rfl ?_
  refine ac_iconst (v := (-1)) Z.1 dX7_toldProperty_6 (by decide) ?_
  obtain ⟨hwt, hwf⟩ := hw
  refine ac_icmp_ne (tgt := 17) Z.1 dX7_toldProperty_7 (by decide) (fun hc => ?_) (fun hc => ?_)
  · have hw := hwt hc
    refine ac_aload_n Z.1 1 dX7_toldProperty_17 rfl ?_
    refine f_callv (As := []) (st := []) Z b_X7.1 0 (oR_0 hg) rfl kX7_advance lkX7_59 (by omega) (soF_X7_advance hg   _ _ _ hw) rfl rfl (Nat.le_of_ble_eq_true rfl) dX7_toldProperty_18 (fun M3 O3 hw => ?_)
    refine ac_lv [1, 0] rfl ?_
    exact sF_X7_toldProperty_21 hg Z hret _ _ _ hw
  · have hw := hwf hc
    refine ac_aload_n Z.1 1 dX7_toldProperty_10 rfl ?_
    refine f_callv (As := []) (st := []) Z b_X7.1 0 (oR_0 hg) rfl kX7_fail lkX7_93 (by omega) (soF_X7_fail hg   _ _ _ hw) rfl rfl (Nat.le_of_ble_eq_true rfl) dX7_toldProperty_11 (fun M4 O4 hw => ?_)
    refine ac_goto (tgt := 21) Z.1 dX7_toldProperty_14 (by decide) ?_
    refine ac_lv [1, 0] rfl ?_
    exact sF_X7_toldProperty_21 hg Z hret _ _ _ hw
def wF_X7_factor_116 (N : Nat → Nat) (WF : Int32 → f_S3 → (Nat × Nat) → (f_S3 → Nat × Nat → Prop) → Prop) (Q : f_S3 → Nat × Nat → Prop) (t1 : Int32) (t2 : Int32) (t3 : Int32) (M : f_S3) (O : Nat × Nat) : Prop := wF_X7_emit__ N t1 t2 t3 M O (fun M16 O16 => (Q M16 O16))
set_option maxRecDepth 20000 in
theorem sF_X7_factor_116 {x : ac_X} {g : b_S} (hg : g.1 = tb_R) {l : Launch} {O0 : Nat × Nat} {WF : Int32 → f_S3 → (Nat × Nat) → (f_S3 → Nat × Nat → Prop) → Prop} {rkF : Nat} {Q : f_S3 → Nat × Nat → Prop} (Z : b_Cx x g l RX7 cX7_factor 5 (rkF + 6) O0) (hret : f_RV x g 5 cX7_factor O0 Q) (hWF : ∀ (p0 : Int32) (M : f_S3) (O : Nat × Nat) (Q : f_S3 → Nat × Nat → Prop), WF p0 M O Q → f_MetV l g yX7_factor cX7_factor 5 rkF [.ref (b_o g 0), .int p0] M O Q) (t1 : Int32) (t2 : Int32) (t3 : Int32) (M : f_S3) (O : Nat × Nat) (hw : wF_X7_factor_116 (b_N g) WF Q t1 t2 t3 M O) : f_G x g 5 O0 M O 116 [(0, .ref (b_o g 0))] [.int t3, .int t2, .int t1, .ref (b_o g 0)] := by
  refine f_callv (As := [.int t1, .int t2, .int t3]) (st := []) Z b_X7.1 0 (oR_0 hg) rfl kX7_emit__ lkX7_214 (by omega) (soF_X7_emit__ hg  _ _ _ _ _ _ hw) rfl rfl (Nat.le_of_ble_eq_true rfl) dX7_factor_116 (fun M16 O16 hw => ?_)
  refine ac_goto (tgt := 186) Z.1 dX7_factor_119 (by decide) ?_
  exact hret _ _ _ _ dX7_factor_186 hw
def wF_X7_factor (N : Nat → Nat) (WF : Int32 → f_S3 → (Nat × Nat) → (f_S3 → Nat × Nat → Prop) → Prop) (p1 : Int32) (M : f_S3) (O : Nat × Nat) (Q : f_S3 → Nat × Nat → Prop) : Prop := ((M.1 12) = 40 → (wF_X7_takeOpening N 40 p1 M O (fun M1 O1 => (wF_X7_expression N WF (p1 + 1) M1 O1 (fun M2 O2 => (wF_X7_take N 41 M2 O2 (fun M3 O3 => (Q M3 O3)))))))) ∧ ((M.1 12) = 45 → (wF_X7_takeOpening N 45 p1 M O (fun M4 O4 => (WF (p1 + 1) M4 O4 (fun M5 O5 => (wF_X7_emit N 11 M5 O5 (fun M6 O6 => (Q M6 O6)))))))) ∧ ((M.1 12) = 130 → (wF_X7_name N M O (fun r7 M8 O8 => (wF_X7_emit_ N 8 r7 M8 O8 (fun M9 O9 => (Q M9 O9)))))) ∧ ((M.1 12) = 131 → (wF_X7_object N M O (fun r10 M11 O11 => (wF_X7_question N M11 O11 (fun r12 M13 O13 => ((¬ r12 = 23 → (wF_X7_object N M13 O13 (fun r14 M15 O15 => (wF_X7_factor_116 N WF Q r12 r10 r14 M15 O15)))) ∧ (r12 = 23 → (wF_X7_kind N M13 O13 (fun r17 M18 O18 => (wF_X7_factor_116 N WF Q r12 r10 r17 M18 O18)))))))))) ∧ ((M.1 12) = 132 → (wF_X7_emit_ N 7 (M.1 13) M O (fun M19 O19 => (wF_X7_advance N M19 O19 (fun M20 O20 => (Q M20 O20)))))) ∧ (¬ (M.1 12) = 40 → ¬ (M.1 12) = 45 → ¬ (M.1 12) = 130 → ¬ (M.1 12) = 131 → ¬ (M.1 12) = 132 → (wF_X7_toldProperty N M O (fun r21 M22 O22 => (wF_X7_object N M22 O22 (fun r23 M24 O24 => (wF_X7_emit__ N 22 r23 r21 M24 O24 (fun M25 O25 => (Q M25 O25))))))))
set_option maxRecDepth 20000 in
theorem soF_X7_factor {l : Launch} {g : b_S} (hg : g.1 = tb_R) {WF : Int32 → f_S3 → (Nat × Nat) → (f_S3 → Nat × Nat → Prop) → Prop} {rkF : Nat} (hWF : ∀ (p0 : Int32) (M : f_S3) (O : Nat × Nat) (Q : f_S3 → Nat × Nat → Prop), WF p0 M O Q → f_MetV l g yX7_factor cX7_factor 5 rkF [.ref (b_o g 0), .int p0] M O Q) (p1 : Int32) (M : f_S3) (O : Nat × Nat) (Q : f_S3 → Nat × Nat → Prop) (hw : wF_X7_factor (b_N g) WF p1 M O Q) : f_MetV l g yX7_factor cX7_factor 5 (rkF + 6) [.ref (b_o g 0), .int p1] M O Q := by
  refine f_MetV.of (C := RX7) (by decide) rfl (Nat.le_of_ble_eq_true rfl) (fun x Z hret => ?_)
  show f_G x g 5 O M O 0 [(0, .ref (b_o g 0)), (1, .int p1)] []
  refine ac_aload_n Z.1 0 dX7_factor_0 rfl ?_
  refine f_geti Z b_X7 0 (oR_0 hg) 12 (by decide) (by decide) (fR_12 hg) fX7_62 rfl (v := (M.1 12)) rfl dX7_factor_1 ?_
  obtain ⟨hwk, hw⟩ := hw
  by_cases hk0 : (M.1 12) = 40
  · have hw := hwk hk0
    refine ac_lookup (off := 141) (tgt := 145) Z.1 dX7_factor_4 (by decide) (by rw [hk0]; rfl) (by decide) ?_
    refine ac_aload_n Z.1 0 dX7_factor_145 rfl ?_
    refine ac_bipush (v := 40) Z.1 dX7_factor_146 (by decide) ?_
    refine ac_iload_n Z.1 1 dX7_factor_148 rfl ?_
    refine f_callv (As := [.int 40, .int p1]) (st := []) Z b_X7.1 0 (oR_0 hg) rfl kX7_takeOpening lkX7_106 (by omega) (soF_X7_takeOpening hg  _ _ _ _ _ hw) rfl rfl (Nat.le_of_ble_eq_true rfl) dX7_factor_149 (fun M1 O1 hw => ?_)
    refine ac_aload_n Z.1 0 dX7_factor_152 rfl ?_
    refine ac_iload_n Z.1 1 dX7_factor_153 rfl ?_
    refine ac_iconst (v := 1) Z.1 dX7_factor_154 (by decide) ?_
    refine ac_iadd Z.1 dX7_factor_155 ?_
    refine f_callv (As := [.int (p1 + 1)]) (st := []) Z b_X7.1 0 (oR_0 hg) rfl kX7_expression lkX7_202 (by omega) (soF_X7_expression hg hWF _ _ _ _ hw) rfl rfl (Nat.le_of_ble_eq_true rfl) dX7_factor_156 (fun M2 O2 hw => ?_)
    refine ac_aload_n Z.1 0 dX7_factor_159 rfl ?_
    refine ac_bipush (v := 41) Z.1 dX7_factor_160 (by decide) ?_
    refine f_callv (As := [.int 41]) (st := []) Z b_X7.1 0 (oR_0 hg) rfl kX7_take lkX7_100 (by omega) (soF_X7_take hg  _ _ _ _ hw) rfl rfl (Nat.le_of_ble_eq_true rfl) dX7_factor_162 (fun M3 O3 hw => ?_)
    refine ac_goto (tgt := 186) Z.1 dX7_factor_165 (by decide) ?_
    exact hret _ _ _ _ dX7_factor_186 hw
  obtain ⟨hwk, hw⟩ := hw
  by_cases hk1 : (M.1 12) = 45
  · have hw := hwk hk1
    refine ac_lookup (off := 118) (tgt := 122) Z.1 dX7_factor_4 (by decide) (by rw [hk1]; rfl) (by decide) ?_
    refine ac_aload_n Z.1 0 dX7_factor_122 rfl ?_
    refine ac_bipush (v := 45) Z.1 dX7_factor_123 (by decide) ?_
    refine ac_iload_n Z.1 1 dX7_factor_125 rfl ?_
    refine f_callv (As := [.int 45, .int p1]) (st := []) Z b_X7.1 0 (oR_0 hg) rfl kX7_takeOpening lkX7_106 (by omega) (soF_X7_takeOpening hg  _ _ _ _ _ hw) rfl rfl (Nat.le_of_ble_eq_true rfl) dX7_factor_126 (fun M4 O4 hw => ?_)
    refine ac_aload_n Z.1 0 dX7_factor_129 rfl ?_
    refine ac_iload_n Z.1 1 dX7_factor_130 rfl ?_
    refine ac_iconst (v := 1) Z.1 dX7_factor_131 (by decide) ?_
    refine ac_iadd Z.1 dX7_factor_132 ?_
    refine f_callv (As := [.int (p1 + 1)]) (st := []) Z b_X7.1 0 (oR_0 hg) rfl kX7_factor lkX7_240 (by omega) (hWF _ _ _ _ hw) rfl rfl (Nat.le_of_ble_eq_true rfl) dX7_factor_133 (fun M5 O5 hw => ?_)
    refine ac_aload_n Z.1 0 dX7_factor_136 rfl ?_
    refine ac_bipush (v := 11) Z.1 dX7_factor_137 (by decide) ?_
    refine f_callv (As := [.int 11]) (st := []) Z b_X7.1 0 (oR_0 hg) rfl kX7_emit lkX7_125 (by omega) (soF_X7_emit hg  _ _ _ _ hw) rfl rfl (Nat.le_of_ble_eq_true rfl) dX7_factor_139 (fun M6 O6 hw => ?_)
    refine ac_goto (tgt := 186) Z.1 dX7_factor_142 (by decide) ?_
    exact hret _ _ _ _ dX7_factor_186 hw
  obtain ⟨hwk, hw⟩ := hw
  by_cases hk2 : (M.1 12) = 130
  · have hw := hwk hk2
    refine ac_lookup (off := 69) (tgt := 73) Z.1 dX7_factor_4 (by decide) (by rw [hk2]; rfl) (by decide) ?_
    refine ac_aload_n Z.1 0 dX7_factor_73 rfl ?_
    refine ac_bipush (v := 8) Z.1 dX7_factor_74 (by decide) ?_
    refine ac_aload_n Z.1 0 dX7_factor_76 rfl ?_
    refine f_calli (As := []) (st := [.int 8, .ref (b_o g 0)]) Z b_X7.1 0 (oR_0 hg) rfl kX7_name lkX7_211 (by omega) (soF_X7_name hg   _ _ _ hw) rfl rfl (Nat.le_of_ble_eq_true rfl) dX7_factor_77 (fun r7 M8 O8 hw => ?_)
    refine f_callv (As := [.int 8, .int r7]) (st := []) Z b_X7.1 0 (oR_0 hg) rfl kX7_emit_ lkX7_122 (by omega) (soF_X7_emit_ hg  _ _ _ _ _ hw) rfl rfl (Nat.le_of_ble_eq_true rfl) dX7_factor_80 (fun M9 O9 hw => ?_)
    refine ac_goto (tgt := 186) Z.1 dX7_factor_83 (by decide) ?_
    exact hret _ _ _ _ dX7_factor_186 hw
  obtain ⟨hwk, hw⟩ := hw
  by_cases hk3 : (M.1 12) = 131
  · have hw := hwk hk3
    refine ac_lookup (off := 82) (tgt := 86) Z.1 dX7_factor_4 (by decide) (by rw [hk3]; rfl) (by decide) ?_
    refine ac_aload_n Z.1 0 dX7_factor_86 rfl ?_
    refine f_calli (As := []) (st := []) Z b_X7.1 0 (oR_0 hg) rfl kX7_object lkX7_157 (by omega) (soF_X7_object hg   _ _ _ hw) rfl rfl (Nat.le_of_ble_eq_true rfl) dX7_factor_87 (fun r10 M11 O11 hw => ?_)
    refine ac_istore_n (lv' := [(2, .int r10), (0, .ref (b_o g 0)), (1, .int p1)]) Z.1 dX7_factor_90 (by decide) rfl ?_
    refine ac_aload_n Z.1 1 dX7_factor_91 rfl ?_
    refine f_calli (As := []) (st := []) Z b_X7.1 0 (oR_0 hg) rfl kX7_question lkX7_222 (by omega) (soF_X7_question hg   _ _ _ hw) rfl rfl (Nat.le_of_ble_eq_true rfl) dX7_factor_92 (fun r12 M13 O13 hw => ?_)
    refine ac_istore_n (lv' := [(3, .int r12), (2, .int r10), (0, .ref (b_o g 0)), (1, .int p1)]) Z.1 dX7_factor_95 (by decide) rfl ?_
    refine ac_aload_n Z.1 2 dX7_factor_96 rfl ?_
    refine ac_iload_n Z.1 0 dX7_factor_97 rfl ?_
    refine ac_iload_n Z.1 1 dX7_factor_98 rfl ?_
    refine ac_iload_n Z.1 0 dX7_factor_99 rfl ?_
    refine ac_bipush (v := 23) Z.1 dX7_factor_100 (by decide) ?_
    obtain ⟨hwt, hwf⟩ := hw
    refine ac_icmp_ne (tgt := 112) Z.1 dX7_factor_102 (by decide) (fun hc => ?_) (fun hc => ?_)
    · have hw := hwt hc
      refine ac_aload_n Z.1 2 dX7_factor_112 rfl ?_
      refine f_calli (As := []) (st := [.int r10, .int r12, .ref (b_o g 0)]) Z b_X7.1 0 (oR_0 hg) rfl kX7_object lkX7_157 (by omega) (soF_X7_object hg   _ _ _ hw) rfl rfl (Nat.le_of_ble_eq_true rfl) dX7_factor_113 (fun r14 M15 O15 hw => ?_)
      refine ac_lv [2] rfl ?_
      exact sF_X7_factor_116 hg Z hret hWF _ _ _ _ _ hw
    · have hw := hwf hc
      refine ac_aload_n Z.1 2 dX7_factor_105 rfl ?_
      refine f_calli (As := []) (st := [.int r10, .int r12, .ref (b_o g 0)]) Z b_X7.1 0 (oR_0 hg) rfl kX7_kind lkX7_208 (by omega) (soF_X7_kind hg   _ _ _ hw) rfl rfl (Nat.le_of_ble_eq_true rfl) dX7_factor_106 (fun r17 M18 O18 hw => ?_)
      refine ac_goto (tgt := 116) Z.1 dX7_factor_109 (by decide) ?_
      refine ac_lv [2] rfl ?_
      exact sF_X7_factor_116 hg Z hret hWF _ _ _ _ _ hw
  obtain ⟨hwk, hw⟩ := hw
  by_cases hk4 : (M.1 12) = 132
  · have hw := hwk hk4
    refine ac_lookup (off := 52) (tgt := 56) Z.1 dX7_factor_4 (by decide) (by rw [hk4]; rfl) (by decide) ?_
    refine ac_aload_n Z.1 0 dX7_factor_56 rfl ?_
    refine ac_bipush (v := 7) Z.1 dX7_factor_57 (by decide) ?_
    refine ac_aload_n Z.1 0 dX7_factor_59 rfl ?_
    refine f_geti Z b_X7 0 (oR_0 hg) 13 (by decide) (by decide) (fR_13 hg) fX7_84 rfl (v := (M.1 13)) rfl dX7_factor_60 ?_
    refine f_callv (As := [.int 7, .int (M.1 13)]) (st := []) Z b_X7.1 0 (oR_0 hg) rfl kX7_emit_ lkX7_122 (by omega) (soF_X7_emit_ hg  _ _ _ _ _ hw) rfl rfl (Nat.le_of_ble_eq_true rfl) dX7_factor_63 (fun M19 O19 hw => ?_)
    refine ac_aload_n Z.1 0 dX7_factor_66 rfl ?_
    refine f_callv (As := []) (st := []) Z b_X7.1 0 (oR_0 hg) rfl kX7_advance lkX7_59 (by omega) (soF_X7_advance hg   _ _ _ hw) rfl rfl (Nat.le_of_ble_eq_true rfl) dX7_factor_67 (fun M20 O20 hw => ?_)
    refine ac_goto (tgt := 186) Z.1 dX7_factor_70 (by decide) ?_
    exact hret _ _ _ _ dX7_factor_186 hw
  have hw := hw hk0 hk1 hk2 hk3 hk4
  refine ac_lookup (off := 164) (tgt := 168) Z.1 dX7_factor_4 (by decide) ((lv_osw hk0 (show (40 : Int32).toInt = 40 by decide)).trans ((lv_osw hk1 (show (45 : Int32).toInt = 45 by decide)).trans ((lv_osw hk2 (show (130 : Int32).toInt = 130 by decide)).trans ((lv_osw hk3 (show (131 : Int32).toInt = 131 by decide)).trans ((lv_osw hk4 (show (132 : Int32).toInt = 132 by decide)).trans rfl))))) (by decide) ?_
  refine ac_aload_n Z.1 0 dX7_factor_168 rfl ?_
  refine f_calli (As := []) (st := []) Z b_X7.1 0 (oR_0 hg) rfl kX7_toldProperty lkX7_249 (by omega) (soF_X7_toldProperty hg   _ _ _ hw) rfl rfl (Nat.le_of_ble_eq_true rfl) dX7_factor_169 (fun r21 M22 O22 hw => ?_)
  refine ac_istore (lv' := [(4, .int r21), (0, .ref (b_o g 0)), (1, .int p1)]) Z.1 dX7_factor_172 (by decide) rfl ?_
  refine ac_aload_n Z.1 1 dX7_factor_174 rfl ?_
  refine ac_bipush (v := 22) Z.1 dX7_factor_175 (by decide) ?_
  refine ac_aload_n Z.1 1 dX7_factor_177 rfl ?_
  refine f_calli (As := []) (st := [.int 22, .ref (b_o g 0)]) Z b_X7.1 0 (oR_0 hg) rfl kX7_object lkX7_157 (by omega) (soF_X7_object hg   _ _ _ hw) rfl rfl (Nat.le_of_ble_eq_true rfl) dX7_factor_178 (fun r23 M24 O24 hw => ?_)
  refine ac_iload Z.1 0 dX7_factor_181 rfl ?_
  refine f_callv (As := [.int 22, .int r23, .int r21]) (st := []) Z b_X7.1 0 (oR_0 hg) rfl kX7_emit__ lkX7_214 (by omega) (soF_X7_emit__ hg  _ _ _ _ _ _ hw) rfl rfl (Nat.le_of_ble_eq_true rfl) dX7_factor_183 (fun M25 O25 hw => ?_)
  exact hret _ _ _ _ dX7_factor_186 hw
