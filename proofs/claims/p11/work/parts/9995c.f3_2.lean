def wF_X7_loop (N : Nat → Nat) (WF : Int32 → f_S3 → (Nat × Nat) → (f_S3 → Nat × Nat → Prop) → Prop) (WB : Int32 → f_S3 → (Nat × Nat) → (f_S3 → Nat × Nat → Prop) → Prop) (p1 : Int32) (M : f_S3) (O : Nat × Nat) (Q : f_S3 → Nat × Nat → Prop) : Prop := wF_X7_emit N 0 M O (fun M1 O1 => (wF_X7_advance N M1 O1 (fun M2 O2 => (wF_X7_expression N WF p1 M2 O2 (fun M3 O3 => (wF_X7_emit N 13 M3 O3 (fun M4 O4 => (wF_X6_put N (-1) M4 O4 (fun r5 M6 O6 => (WB p1 M6 O6 (fun M7 O7 => (wF_X7_emit_ N 12 (M.1 63) M7 O7 (fun M8 O8 => (wF_X6_change N r5 (M8.1 63) M8 O8 (fun M9 O9 => (Q M9 O9))))))))))))))))
set_option maxRecDepth 20000 in
theorem soF_X7_loop {l : Launch} {g : b_S} (hg : g.1 = tb_R) {WF : Int32 → f_S3 → (Nat × Nat) → (f_S3 → Nat × Nat → Prop) → Prop} {WB : Int32 → f_S3 → (Nat × Nat) → (f_S3 → Nat × Nat → Prop) → Prop} {rkF : Nat} {rkB : Nat} (hWF : ∀ (p0 : Int32) (M : f_S3) (O : Nat × Nat) (Q : f_S3 → Nat × Nat → Prop), WF p0 M O Q → f_MetV l g yX7_factor cX7_factor 5 rkF [.ref (b_o g 0), .int p0] M O Q) (hWB : ∀ (p0 : Int32) (M : f_S3) (O : Nat × Nat) (Q : f_S3 → Nat × Nat → Prop), WB p0 M O Q → f_MetV l g yX7_block cX7_block 3 rkB [.ref (b_o g 0), .int p0] M O Q) (hFB : rkF + 60 ≤ rkB) (p1 : Int32) (M : f_S3) (O : Nat × Nat) (Q : f_S3 → Nat × Nat → Prop) (hw : wF_X7_loop (b_N g) WF WB p1 M O Q) : f_MetV l g yX7_loop cX7_loop 4 (rkB + 2) [.ref (b_o g 0), .int p1] M O Q := by
  refine f_MetV.of (C := RX7) (by decide) rfl (Nat.le_of_ble_eq_true rfl) (fun x Z hret => ?_)
  show f_G x g 4 O M O 0 [(0, .ref (b_o g 0)), (1, .int p1)] []
  refine ac_aload_n Z.1 0 dX7_loop_0 rfl ?_
  refine f_getr Z b_X7 0 (oR_0 hg) 1 (by decide) (by decide) (fR_1 hg) fX7_31 rfl (h2 := (b_o g 3)) rfl dX7_loop_1 ?_
  refine f_geti Z b_X6 3 (oR_3 hg) 3 (by decide) (by decide) (fR_63 hg) fX7_110 rfl (v := (M.1 63)) rfl dX7_loop_4 ?_
  refine ac_istore_n (lv' := [(2, .int (M.1 63)), (0, .ref (b_o g 0)), (1, .int p1)]) Z.1 dX7_loop_7 (by decide) rfl ?_
  refine ac_aload_n Z.1 1 dX7_loop_8 rfl ?_
  refine ac_iconst (v := 0) Z.1 dX7_loop_9 (by decide) ?_
  refine f_callv (As := [.int 0]) (st := []) Z b_X7.1 0 (oR_0 hg) rfl kX7_emit lkX7_125 (by omega) (soF_X7_emit hg  _ _ _ _ hw) rfl rfl (Nat.le_of_ble_eq_true rfl) dX7_loop_10 (fun M1 O1 hw => ?_)
  refine ac_aload_n Z.1 1 dX7_loop_13 rfl ?_
  refine f_callv (As := []) (st := []) Z b_X7.1 0 (oR_0 hg) rfl kX7_advance lkX7_59 (by omega) (soF_X7_advance hg   _ _ _ hw) rfl rfl (Nat.le_of_ble_eq_true rfl) dX7_loop_14 (fun M2 O2 hw => ?_)
  refine ac_aload_n Z.1 1 dX7_loop_17 rfl ?_
  refine ac_iload_n Z.1 2 dX7_loop_18 rfl ?_
  refine f_callv (As := [.int p1]) (st := []) Z b_X7.1 0 (oR_0 hg) rfl kX7_expression lkX7_202 (by omega) (soF_X7_expression hg hWF _ _ _ _ hw) rfl rfl (Nat.le_of_ble_eq_true rfl) dX7_loop_19 (fun M3 O3 hw => ?_)
  refine ac_aload_n Z.1 1 dX7_loop_22 rfl ?_
  refine ac_bipush (v := 13) Z.1 dX7_loop_23 (by decide) ?_
  refine f_callv (As := [.int 13]) (st := []) Z b_X7.1 0 (oR_0 hg) rfl kX7_emit lkX7_125 (by omega) (soF_X7_emit hg  _ _ _ _ hw) rfl rfl (Nat.le_of_ble_eq_true rfl) dX7_loop_25 (fun M4 O4 hw => ?_)
  refine ac_aload_n Z.1 1 dX7_loop_28 rfl ?_
  refine f_getr Z b_X7 0 (oR_0 hg) 1 (by decide) (by decide) (fR_1 hg) fX7_31 rfl (h2 := (b_o g 3)) rfl dX7_loop_29 ?_
  refine ac_iconst (v := (-1)) Z.1 dX7_loop_32 (by decide) ?_
  refine f_calli (As := [.int (-1)]) (st := []) Z b_X6.1 3 (oR_3 hg) rfl kX6_put lkX7_96 (by omega) (soF_X6_put hg  _ _ _ _ hw) rfl rfl (Nat.le_of_ble_eq_true rfl) dX7_loop_33 (fun r5 M6 O6 hw => ?_)
  refine ac_istore_n (lv' := [(3, .int r5), (2, .int (M.1 63)), (0, .ref (b_o g 0)), (1, .int p1)]) Z.1 dX7_loop_36 (by decide) rfl ?_
  refine ac_aload_n Z.1 2 dX7_loop_37 rfl ?_
  refine ac_iload_n Z.1 3 dX7_loop_38 rfl ?_
  refine f_callv (As := [.int p1]) (st := []) Z b_X7.1 0 (oR_0 hg) rfl kX7_block lkX7_117 (by omega) (hWB _ _ _ _ hw) rfl rfl (Nat.le_of_ble_eq_true rfl) dX7_loop_39 (fun M7 O7 hw => ?_)
  refine ac_aload_n Z.1 2 dX7_loop_42 rfl ?_
  refine ac_bipush (v := 12) Z.1 dX7_loop_43 (by decide) ?_
  refine ac_iload_n Z.1 1 dX7_loop_45 rfl ?_
  refine f_callv (As := [.int 12, .int (M.1 63)]) (st := []) Z b_X7.1 0 (oR_0 hg) rfl kX7_emit_ lkX7_122 (by omega) (soF_X7_emit_ hg  _ _ _ _ _ hw) rfl rfl (Nat.le_of_ble_eq_true rfl) dX7_loop_46 (fun M8 O8 hw => ?_)
  refine ac_aload_n Z.1 2 dX7_loop_49 rfl ?_
  refine f_getr Z b_X7 0 (oR_0 hg) 1 (by decide) (by decide) (fR_1 hg) fX7_31 rfl (h2 := (b_o g 3)) rfl dX7_loop_50 ?_
  refine ac_iload_n Z.1 0 dX7_loop_53 rfl ?_
  refine ac_aload_n Z.1 2 dX7_loop_54 rfl ?_
  refine f_getr Z b_X7 0 (oR_0 hg) 1 (by decide) (by decide) (fR_1 hg) fX7_31 rfl (h2 := (b_o g 3)) rfl dX7_loop_55 ?_
  refine f_geti Z b_X6 3 (oR_3 hg) 3 (by decide) (by decide) (fR_63 hg) fX7_110 rfl (v := (M8.1 63)) rfl dX7_loop_58 ?_
  refine f_callv (As := [.int r5, .int (M8.1 63)]) (st := []) Z b_X6.1 3 (oR_3 hg) rfl kX6_change lkX7_205 (by omega) (soF_X6_change hg  _ _ _ _ _ hw) rfl rfl (Nat.le_of_ble_eq_true rfl) dX7_loop_61 (fun M9 O9 hw => ?_)
  exact hret _ _ _ _ dX7_loop_64 hw
def wF_X7_attempt_203 (N : Nat → Nat) (WB : Int32 → f_S3 → (Nat × Nat) → (f_S3 → Nat × Nat → Prop) → Prop) (Q : f_S3 → Nat × Nat → Prop) (M : f_S3) (O : Nat × Nat) : Prop := wF_X7_emit N 6 M O (fun M11 O11 => (Q M11 O11))
set_option maxRecDepth 20000 in
theorem sF_X7_attempt_203 {x : ac_X} {g : b_S} (hg : g.1 = tb_R) {l : Launch} {O0 : Nat × Nat} {WB : Int32 → f_S3 → (Nat × Nat) → (f_S3 → Nat × Nat → Prop) → Prop} {rkB : Nat} {Q : f_S3 → Nat × Nat → Prop} (Z : b_Cx x g l RX7 cX7_attempt 5 (rkB + 2) O0) (hret : f_RV x g 5 cX7_attempt O0 Q) (hWB : ∀ (p0 : Int32) (M : f_S3) (O : Nat × Nat) (Q : f_S3 → Nat × Nat → Prop), WB p0 M O Q → f_MetV l g yX7_block cX7_block 3 rkB [.ref (b_o g 0), .int p0] M O Q) (M : f_S3) (O : Nat × Nat) (hw : wF_X7_attempt_203 (b_N g) WB Q M O) : f_G x g 5 O0 M O 203 [(0, .ref (b_o g 0))] [] := by
  refine ac_aload_n Z.1 0 dX7_attempt_203 rfl ?_
  refine ac_bipush (v := 6) Z.1 dX7_attempt_204 (by decide) ?_
  refine f_callv (As := [.int 6]) (st := []) Z b_X7.1 0 (oR_0 hg) rfl kX7_emit lkX7_125 (by omega) (soF_X7_emit hg  _ _ _ _ hw) rfl rfl (Nat.le_of_ble_eq_true rfl) dX7_attempt_206 (fun M11 O11 hw => ?_)
  exact hret _ _ _ _ dX7_attempt_209 hw
def wF_X7_attempt_169 (N : Nat → Nat) (WB : Int32 → f_S3 → (Nat × Nat) → (f_S3 → Nat × Nat → Prop) → Prop) (Q : f_S3 → Nat × Nat → Prop) (a1 : Int32) (a3 : Int32) (M : f_S3) (O : Nat × Nat) : Prop := wF_X6_change N a3 (M.1 63) M O (fun M10 O10 => ((¬ (M10.1 12) = 218 → (wF_X7_attempt_203 N WB Q M10 O10)) ∧ ((M10.1 12) = 218 → (wF_X7_advance N M10 O10 (fun M12 O12 => (WB a1 M12 O12 (fun M13 O13 => (wF_X7_attempt_203 N WB Q M13 O13))))))))
set_option maxRecDepth 20000 in
theorem sF_X7_attempt_169 {x : ac_X} {g : b_S} (hg : g.1 = tb_R) {l : Launch} {O0 : Nat × Nat} {WB : Int32 → f_S3 → (Nat × Nat) → (f_S3 → Nat × Nat → Prop) → Prop} {rkB : Nat} {Q : f_S3 → Nat × Nat → Prop} (Z : b_Cx x g l RX7 cX7_attempt 5 (rkB + 2) O0) (hret : f_RV x g 5 cX7_attempt O0 Q) (hWB : ∀ (p0 : Int32) (M : f_S3) (O : Nat × Nat) (Q : f_S3 → Nat × Nat → Prop), WB p0 M O Q → f_MetV l g yX7_block cX7_block 3 rkB [.ref (b_o g 0), .int p0] M O Q) (a1 : Int32) (a3 : Int32) (M : f_S3) (O : Nat × Nat) (hw : wF_X7_attempt_169 (b_N g) WB Q a1 a3 M O) : f_G x g 5 O0 M O 169 [(0, .ref (b_o g 0)), (1, .int a1), (3, .int a3)] [] := by
  refine ac_aload_n Z.1 0 dX7_attempt_169 rfl ?_
  refine f_getr Z b_X7 0 (oR_0 hg) 1 (by decide) (by decide) (fR_1 hg) fX7_31 rfl (h2 := (b_o g 3)) rfl dX7_attempt_170 ?_
  refine ac_iload_n Z.1 2 dX7_attempt_173 rfl ?_
  refine ac_aload_n Z.1 0 dX7_attempt_174 rfl ?_
  refine f_getr Z b_X7 0 (oR_0 hg) 1 (by decide) (by decide) (fR_1 hg) fX7_31 rfl (h2 := (b_o g 3)) rfl dX7_attempt_175 ?_
  refine f_geti Z b_X6 3 (oR_3 hg) 3 (by decide) (by decide) (fR_63 hg) fX7_110 rfl (v := (M.1 63)) rfl dX7_attempt_178 ?_
  refine f_callv (As := [.int a3, .int (M.1 63)]) (st := []) Z b_X6.1 3 (oR_3 hg) rfl kX6_change lkX7_205 (by omega) (soF_X6_change hg  _ _ _ _ _ hw) rfl rfl (Nat.le_of_ble_eq_true rfl) dX7_attempt_181 (fun M10 O10 hw => ?_)
  refine ac_aload_n Z.1 0 dX7_attempt_184 rfl ?_
  refine f_geti Z b_X7 0 (oR_0 hg) 12 (by decide) (by decide) (fR_12 hg) fX7_62 rfl (v := (M10.1 12)) rfl dX7_attempt_185 ?_
  refine ac_sipush (v := 218) Z.1 dX7_attempt_188 (by decide) ?_
  obtain ⟨hwt, hwf⟩ := hw
  refine ac_icmp_ne (tgt := 203) Z.1 dX7_attempt_191 (by decide) (fun hc => ?_) (fun hc => ?_)
  · have hw := hwt hc
    refine ac_lv [0] rfl ?_
    exact sF_X7_attempt_203 hg Z hret hWB _ _ hw
  · have hw := hwf hc
    refine ac_aload_n Z.1 0 dX7_attempt_194 rfl ?_
    refine f_callv (As := []) (st := []) Z b_X7.1 0 (oR_0 hg) rfl kX7_advance lkX7_59 (by omega) (soF_X7_advance hg   _ _ _ hw) rfl rfl (Nat.le_of_ble_eq_true rfl) dX7_attempt_195 (fun M12 O12 hw => ?_)
    refine ac_aload_n Z.1 0 dX7_attempt_198 rfl ?_
    refine ac_iload_n Z.1 1 dX7_attempt_199 rfl ?_
    refine f_callv (As := [.int a1]) (st := []) Z b_X7.1 0 (oR_0 hg) rfl kX7_block lkX7_117 (by omega) (hWB _ _ _ _ hw) rfl rfl (Nat.le_of_ble_eq_true rfl) dX7_attempt_200 (fun M13 O13 hw => ?_)
    refine ac_lv [0] rfl ?_
    exact sF_X7_attempt_203 hg Z hret hWB _ _ hw
def wF_X7_attempt_140 (N : Nat → Nat) (WB : Int32 → f_S3 → (Nat × Nat) → (f_S3 → Nat × Nat → Prop) → Prop) (K69 : (Int32 → Int32 → Int32 → Int32 → f_S3 → (Nat × Nat) → Prop)) (Q : f_S3 → Nat × Nat → Prop) (a1 : Int32) (a3 : Int32) (a4 : Int32) (t1 : Int32) (M : f_S3) (O : Nat × Nat) : Prop := wF_X6_put N t1 M O (fun r20 M21 O21 => (wF_X6_put N (-1) M21 O21 (fun r22 M23 O23 => (WB a1 M23 O23 (fun M24 O24 => (wF_X7_emit N 5 M24 O24 (fun M25 O25 => (K69 a1 r22 a3 (a4 + 1) M25 O25))))))))
set_option maxRecDepth 20000 in
theorem sF_X7_attempt_140 {x : ac_X} {g : b_S} (hg : g.1 = tb_R) {l : Launch} {O0 : Nat × Nat} {WB : Int32 → f_S3 → (Nat × Nat) → (f_S3 → Nat × Nat → Prop) → Prop} {rkB : Nat} {K69 : (Int32 → Int32 → Int32 → Int32 → f_S3 → (Nat × Nat) → Prop)} {Q : f_S3 → Nat × Nat → Prop} (Z : b_Cx x g l RX7 cX7_attempt 5 (rkB + 2) O0) (hret : f_RV x g 5 cX7_attempt O0 Q) (hWB : ∀ (p0 : Int32) (M : f_S3) (O : Nat × Nat) (Q : f_S3 → Nat × Nat → Prop), WB p0 M O Q → f_MetV l g yX7_block cX7_block 3 rkB [.ref (b_o g 0), .int p0] M O Q) (hK69 : ∀ (a1 : Int32) (a2 : Int32) (a3 : Int32) (a4 : Int32) (M : f_S3) (O : Nat × Nat), K69 a1 a2 a3 a4 M O → f_G x g 5 O0 M O 69 [(0, .ref (b_o g 0)), (1, .int a1), (2, .int a2), (3, .int a3), (4, .int a4)] []) (a1 : Int32) (a3 : Int32) (a4 : Int32) (t1 : Int32) (M : f_S3) (O : Nat × Nat) (hw : wF_X7_attempt_140 (b_N g) WB K69 Q a1 a3 a4 t1 M O) : f_G x g 5 O0 M O 140 [(0, .ref (b_o g 0)), (1, .int a1), (3, .int a3), (4, .int a4)] [.int t1, .ref (b_o g 3)] := by
  refine f_calli (As := [.int t1]) (st := []) Z b_X6.1 3 (oR_3 hg) rfl kX6_put lkX7_96 (by omega) (soF_X6_put hg  _ _ _ _ hw) rfl rfl (Nat.le_of_ble_eq_true rfl) dX7_attempt_140 (fun r20 M21 O21 hw => ?_)
  refine ac_pop Z.1 dX7_attempt_143 rfl ?_
  refine ac_aload_n Z.1 0 dX7_attempt_144 rfl ?_
  refine f_getr Z b_X7 0 (oR_0 hg) 1 (by decide) (by decide) (fR_1 hg) fX7_31 rfl (h2 := (b_o g 3)) rfl dX7_attempt_145 ?_
  refine ac_iconst (v := (-1)) Z.1 dX7_attempt_148 (by decide) ?_
  refine f_calli (As := [.int (-1)]) (st := []) Z b_X6.1 3 (oR_3 hg) rfl kX6_put lkX7_96 (by omega) (soF_X6_put hg  _ _ _ _ hw) rfl rfl (Nat.le_of_ble_eq_true rfl) dX7_attempt_149 (fun r22 M23 O23 hw => ?_)
  refine ac_istore_n (lv' := [(2, .int r22), (0, .ref (b_o g 0)), (1, .int a1), (3, .int a3), (4, .int a4)]) Z.1 dX7_attempt_152 (by decide) rfl ?_
  refine ac_aload_n Z.1 1 dX7_attempt_153 rfl ?_
  refine ac_iload_n Z.1 2 dX7_attempt_154 rfl ?_
  refine f_callv (As := [.int a1]) (st := []) Z b_X7.1 0 (oR_0 hg) rfl kX7_block lkX7_117 (by omega) (hWB _ _ _ _ hw) rfl rfl (Nat.le_of_ble_eq_true rfl) dX7_attempt_155 (fun M24 O24 hw => ?_)
  refine ac_aload_n Z.1 1 dX7_attempt_158 rfl ?_
  refine ac_iconst (v := 5) Z.1 dX7_attempt_159 (by decide) ?_
  refine f_callv (As := [.int 5]) (st := []) Z b_X7.1 0 (oR_0 hg) rfl kX7_emit lkX7_125 (by omega) (soF_X7_emit hg  _ _ _ _ hw) rfl rfl (Nat.le_of_ble_eq_true rfl) dX7_attempt_160 (fun M25 O25 hw => ?_)
  refine ac_iinc (w := (a4 + 1)) (lv' := [(4, .int (a4 + 1)), (2, .int r22), (0, .ref (b_o g 0)), (1, .int a1), (3, .int a3)]) Z.1 4 dX7_attempt_163 rfl rfl (by decide) rfl ?_
  refine ac_goto (tgt := 69) Z.1 dX7_attempt_166 (by decide) ?_
  refine ac_lv [2, 3, 1, 4, 0] rfl ?_
  exact hK69 _ _ _ _ _ _ hw
def wF_X7_attempt_69 (N : Nat → Nat) (WB : Int32 → f_S3 → (Nat × Nat) → (f_S3 → Nat × Nat → Prop) → Prop) (Q : f_S3 → Nat × Nat → Prop) : Nat → Int32 → Int32 → Int32 → Int32 → f_S3 → Nat × Nat → Prop
  | 0 => fun _ _ _ _ _ _ => False
  | n + 1 => fun a1 a2 a3 a4 M O => ((4000 < a4 → (wF_X7_attempt_169 N WB Q a1 a3 M O)) ∧ (¬ 4000 < a4 → ((¬ (M.1 12) = 217 → (wF_X7_attempt_169 N WB Q a1 a3 M O)) ∧ ((M.1 12) = 217 → (wF_X6_change N a2 (M.1 63) M O (fun M14 O14 => (wF_X7_advance N M14 O14 (fun M15 O15 => (wF_X7_kind N M15 O15 (fun r16 M17 O17 => (wF_X6_put N r16 M17 O17 (fun r18 M19 O19 => ((¬ (M19.1 12) = 131 → (wF_X7_attempt_140 N WB (wF_X7_attempt_69 N WB Q n) Q a1 a3 a4 (-1) M19 O19)) ∧ ((M19.1 12) = 131 → (wF_X7_object N M19 O19 (fun r26 M27 O27 => (wF_X7_attempt_140 N WB (wF_X7_attempt_69 N WB Q n) Q a1 a3 a4 r26 M27 O27)))))))))))))))))
set_option maxRecDepth 20000 in
theorem sF_X7_attempt_69 {x : ac_X} {g : b_S} (hg : g.1 = tb_R) {l : Launch} {O0 : Nat × Nat} {WB : Int32 → f_S3 → (Nat × Nat) → (f_S3 → Nat × Nat → Prop) → Prop} {rkB : Nat} {Q : f_S3 → Nat × Nat → Prop} (Z : b_Cx x g l RX7 cX7_attempt 5 (rkB + 2) O0) (hret : f_RV x g 5 cX7_attempt O0 Q) (hWB : ∀ (p0 : Int32) (M : f_S3) (O : Nat × Nat) (Q : f_S3 → Nat × Nat → Prop), WB p0 M O Q → f_MetV l g yX7_block cX7_block 3 rkB [.ref (b_o g 0), .int p0] M O Q) : ∀ (n : Nat) (a1 : Int32) (a2 : Int32) (a3 : Int32) (a4 : Int32) (M : f_S3) (O : Nat × Nat), wF_X7_attempt_69 (b_N g) WB Q n a1 a2 a3 a4 M O → f_G x g 5 O0 M O 69 [(0, .ref (b_o g 0)), (1, .int a1), (2, .int a2), (3, .int a3), (4, .int a4)] [] := by
  intro n
  induction n with
  | zero => intro _ _ _ _ _ _ hw; exact hw.elim
  | succ n ih =>
    intro a1 a2 a3 a4 M O hw
    dsimp only [wF_X7_attempt_69] at hw
    refine ac_iload Z.1 4 dX7_attempt_69 rfl ?_
    refine ac_sipush (v := 4000) Z.1 dX7_attempt_71 (by decide) ?_
    obtain ⟨hwt, hwf⟩ := hw
    refine ac_icmp_gt (tgt := 169) Z.1 dX7_attempt_74 (by decide) (fun hc => ?_) (fun hc => ?_)
    · have hw := hwt hc
      refine ac_lv [0, 1, 3] rfl ?_
      exact sF_X7_attempt_169 hg Z hret hWB _ _ _ _ hw
    · have hw := hwf hc
      refine ac_aload_n Z.1 0 dX7_attempt_77 rfl ?_
      refine f_geti Z b_X7 0 (oR_0 hg) 12 (by decide) (by decide) (fR_12 hg) fX7_62 rfl (v := (M.1 12)) rfl dX7_attempt_78 ?_
      refine ac_sipush (v := 217) Z.1 dX7_attempt_81 (by decide) ?_
      obtain ⟨hwt, hwf⟩ := hw
      refine ac_icmp_ne (tgt := 169) Z.1 dX7_attempt_84 (by decide) (fun hc => ?_) (fun hc => ?_)
      · have hw := hwt hc
        refine ac_lv [0, 1, 3] rfl ?_
        exact sF_X7_attempt_169 hg Z hret hWB _ _ _ _ hw
      · have hw := hwf hc
        refine ac_aload_n Z.1 0 dX7_attempt_87 rfl ?_
        refine f_getr Z b_X7 0 (oR_0 hg) 1 (by decide) (by decide) (fR_1 hg) fX7_31 rfl (h2 := (b_o g 3)) rfl dX7_attempt_88 ?_
        refine ac_iload_n Z.1 2 dX7_attempt_91 rfl ?_
        refine ac_aload_n Z.1 0 dX7_attempt_92 rfl ?_
        refine f_getr Z b_X7 0 (oR_0 hg) 1 (by decide) (by decide) (fR_1 hg) fX7_31 rfl (h2 := (b_o g 3)) rfl dX7_attempt_93 ?_
        refine f_geti Z b_X6 3 (oR_3 hg) 3 (by decide) (by decide) (fR_63 hg) fX7_110 rfl (v := (M.1 63)) rfl dX7_attempt_96 ?_
        refine f_callv (As := [.int a2, .int (M.1 63)]) (st := []) Z b_X6.1 3 (oR_3 hg) rfl kX6_change lkX7_205 (by omega) (soF_X6_change hg  _ _ _ _ _ hw) rfl rfl (Nat.le_of_ble_eq_true rfl) dX7_attempt_99 (fun M14 O14 hw => ?_)
        refine ac_aload_n Z.1 0 dX7_attempt_102 rfl ?_
        refine f_callv (As := []) (st := []) Z b_X7.1 0 (oR_0 hg) rfl kX7_advance lkX7_59 (by omega) (soF_X7_advance hg   _ _ _ hw) rfl rfl (Nat.le_of_ble_eq_true rfl) dX7_attempt_103 (fun M15 O15 hw => ?_)
        refine ac_aload_n Z.1 0 dX7_attempt_106 rfl ?_
        refine f_getr Z b_X7 0 (oR_0 hg) 1 (by decide) (by decide) (fR_1 hg) fX7_31 rfl (h2 := (b_o g 3)) rfl dX7_attempt_107 ?_
        refine ac_aload_n Z.1 0 dX7_attempt_110 rfl ?_
        refine f_calli (As := []) (st := [.ref (b_o g 3)]) Z b_X7.1 0 (oR_0 hg) rfl kX7_kind lkX7_208 (by omega) (soF_X7_kind hg   _ _ _ hw) rfl rfl (Nat.le_of_ble_eq_true rfl) dX7_attempt_111 (fun r16 M17 O17 hw => ?_)
        refine f_calli (As := [.int r16]) (st := []) Z b_X6.1 3 (oR_3 hg) rfl kX6_put lkX7_96 (by omega) (soF_X6_put hg  _ _ _ _ hw) rfl rfl (Nat.le_of_ble_eq_true rfl) dX7_attempt_114 (fun r18 M19 O19 hw => ?_)
        refine ac_pop Z.1 dX7_attempt_117 rfl ?_
        refine ac_aload_n Z.1 0 dX7_attempt_118 rfl ?_
        refine f_getr Z b_X7 0 (oR_0 hg) 1 (by decide) (by decide) (fR_1 hg) fX7_31 rfl (h2 := (b_o g 3)) rfl dX7_attempt_119 ?_
        refine ac_aload_n Z.1 0 dX7_attempt_122 rfl ?_
        refine f_geti Z b_X7 0 (oR_0 hg) 12 (by decide) (by decide) (fR_12 hg) fX7_62 rfl (v := (M19.1 12)) rfl dX7_attempt_123 ?_
        refine ac_sipush (v := 131) Z.1 dX7_attempt_126 (by decide) ?_
        obtain ⟨hwt, hwf⟩ := hw
        refine ac_icmp_ne (tgt := 139) Z.1 dX7_attempt_129 (by decide) (fun hc => ?_) (fun hc => ?_)
        · have hw := hwt hc
          refine ac_iconst (v := (-1)) Z.1 dX7_attempt_139 (by decide) ?_
          refine ac_lv [0, 1, 3, 4] rfl ?_
          exact sF_X7_attempt_140 hg Z hret hWB ih _ _ _ _ _ _ hw
        · have hw := hwf hc
          refine ac_aload_n Z.1 0 dX7_attempt_132 rfl ?_
          refine f_calli (As := []) (st := [.ref (b_o g 3)]) Z b_X7.1 0 (oR_0 hg) rfl kX7_object lkX7_157 (by omega) (soF_X7_object hg   _ _ _ hw) rfl rfl (Nat.le_of_ble_eq_true rfl) dX7_attempt_133 (fun r26 M27 O27 hw => ?_)
          refine ac_goto (tgt := 140) Z.1 dX7_attempt_136 (by decide) ?_
          refine ac_lv [0, 1, 3, 4] rfl ?_
          exact sF_X7_attempt_140 hg Z hret hWB ih _ _ _ _ _ _ hw
def wF_X7_attempt_66 (N : Nat → Nat) (WB : Int32 → f_S3 → (Nat × Nat) → (f_S3 → Nat × Nat → Prop) → Prop) (Q : f_S3 → Nat × Nat → Prop) (a1 : Int32) (a2 : Int32) (a3 : Int32) (M : f_S3) (O : Nat × Nat) : Prop := ∃ e69, wF_X7_attempt_69 N WB Q e69 a1 a2 a3 0 M O
set_option maxRecDepth 20000 in
theorem sF_X7_attempt_66 {x : ac_X} {g : b_S} (hg : g.1 = tb_R) {l : Launch} {O0 : Nat × Nat} {WB : Int32 → f_S3 → (Nat × Nat) → (f_S3 → Nat × Nat → Prop) → Prop} {rkB : Nat} {Q : f_S3 → Nat × Nat → Prop} (Z : b_Cx x g l RX7 cX7_attempt 5 (rkB + 2) O0) (hret : f_RV x g 5 cX7_attempt O0 Q) (hWB : ∀ (p0 : Int32) (M : f_S3) (O : Nat × Nat) (Q : f_S3 → Nat × Nat → Prop), WB p0 M O Q → f_MetV l g yX7_block cX7_block 3 rkB [.ref (b_o g 0), .int p0] M O Q) (a1 : Int32) (a2 : Int32) (a3 : Int32) (M : f_S3) (O : Nat × Nat) (hw : wF_X7_attempt_66 (b_N g) WB Q a1 a2 a3 M O) : f_G x g 5 O0 M O 66 [(0, .ref (b_o g 0)), (1, .int a1), (2, .int a2), (3, .int a3)] [] := by
  refine ac_iconst (v := 0) Z.1 dX7_attempt_66 (by decide) ?_
  refine ac_istore (lv' := [(4, .int 0), (0, .ref (b_o g 0)), (1, .int a1), (2, .int a2), (3, .int a3)]) Z.1 dX7_attempt_67 (by decide) rfl ?_
  obtain ⟨n, hw⟩ := hw
  refine ac_lv [1, 2, 3, 4, 0] rfl ?_
  exact sF_X7_attempt_69 hg Z hret hWB n _ _ _ _ _ _ hw
def wF_X7_attempt (N : Nat → Nat) (WB : Int32 → f_S3 → (Nat × Nat) → (f_S3 → Nat × Nat → Prop) → Prop) (p1 : Int32) (M : f_S3) (O : Nat × Nat) (Q : f_S3 → Nat × Nat → Prop) : Prop := wF_X7_emit N 0 M O (fun M1 O1 => (wF_X7_advance N M1 O1 (fun M2 O2 => (wF_X7_emit N 4 M2 O2 (fun M3 O3 => (wF_X6_put N (-1) M3 O3 (fun r4 M5 O5 => (wF_X6_put N (-1) M5 O5 (fun r6 M7 O7 => (WB p1 M7 O7 (fun M8 O8 => (wF_X7_emit N 5 M8 O8 (fun M9 O9 => (((M9.1 12) = 217 → (wF_X7_attempt_66 N WB Q p1 r4 r6 M9 O9)) ∧ (¬ (M9.1 12) = 217 → (((M9.1 12) = 218 → (wF_X7_attempt_66 N WB Q p1 r4 r6 M9 O9)) ∧ (¬ (M9.1 12) = 218 → (wF_X7_fail N M9 O9 (fun M28 O28 => (wF_X7_attempt_66 N WB Q p1 r4 r6 M28 O28))))))))))))))))))))
set_option maxRecDepth 20000 in
theorem soF_X7_attempt {l : Launch} {g : b_S} (hg : g.1 = tb_R) {WB : Int32 → f_S3 → (Nat × Nat) → (f_S3 → Nat × Nat → Prop) → Prop} {rkB : Nat} (hWB : ∀ (p0 : Int32) (M : f_S3) (O : Nat × Nat) (Q : f_S3 → Nat × Nat → Prop), WB p0 M O Q → f_MetV l g yX7_block cX7_block 3 rkB [.ref (b_o g 0), .int p0] M O Q) (p1 : Int32) (M : f_S3) (O : Nat × Nat) (Q : f_S3 → Nat × Nat → Prop) (hw : wF_X7_attempt (b_N g) WB p1 M O Q) : f_MetV l g yX7_attempt cX7_attempt 5 (rkB + 2) [.ref (b_o g 0), .int p1] M O Q := by
  refine f_MetV.of (C := RX7) (by decide) rfl (Nat.le_of_ble_eq_true rfl) (fun x Z hret => ?_)
  show f_G x g 5 O M O 0 [(0, .ref (b_o g 0)), (1, .int p1)] []
  refine ac_aload_n Z.1 0 dX7_attempt_0 rfl ?_
  refine ac_iconst (v := 0) Z.1 dX7_attempt_1 (by decide) ?_
  refine f_callv (As := [.int 0]) (st := []) Z b_X7.1 0 (oR_0 hg) rfl kX7_emit lkX7_125 (by omega) (soF_X7_emit hg  _ _ _ _ hw) rfl rfl (Nat.le_of_ble_eq_true rfl) dX7_attempt_2 (fun M1 O1 hw => ?_)
  refine ac_aload_n Z.1 0 dX7_attempt_5 rfl ?_
  refine f_callv (As := []) (st := []) Z b_X7.1 0 (oR_0 hg) rfl kX7_advance lkX7_59 (by omega) (soF_X7_advance hg   _ _ _ hw) rfl rfl (Nat.le_of_ble_eq_true rfl) dX7_attempt_6 (fun M2 O2 hw => ?_)
  refine ac_aload_n Z.1 0 dX7_attempt_9 rfl ?_
  refine ac_iconst (v := 4) Z.1 dX7_attempt_10 (by decide) ?_
  refine f_callv (As := [.int 4]) (st := []) Z b_X7.1 0 (oR_0 hg) rfl kX7_emit lkX7_125 (by omega) (soF_X7_emit hg  _ _ _ _ hw) rfl rfl (Nat.le_of_ble_eq_true rfl) dX7_attempt_11 (fun M3 O3 hw => ?_)
  refine ac_aload_n Z.1 0 dX7_attempt_14 rfl ?_
  refine f_getr Z b_X7 0 (oR_0 hg) 1 (by decide) (by decide) (fR_1 hg) fX7_31 rfl (h2 := (b_o g 3)) rfl dX7_attempt_15 ?_
  refine ac_iconst (v := (-1)) Z.1 dX7_attempt_18 (by decide) ?_
  refine f_calli (As := [.int (-1)]) (st := []) Z b_X6.1 3 (oR_3 hg) rfl kX6_put lkX7_96 (by omega) (soF_X6_put hg  _ _ _ _ hw) rfl rfl (Nat.le_of_ble_eq_true rfl) dX7_attempt_19 (fun r4 M5 O5 hw => ?_)
  refine ac_istore_n (lv' := [(2, .int r4), (0, .ref (b_o g 0)), (1, .int p1)]) Z.1 dX7_attempt_22 (by decide) rfl ?_
  refine ac_aload_n Z.1 1 dX7_attempt_23 rfl ?_
  refine f_getr Z b_X7 0 (oR_0 hg) 1 (by decide) (by decide) (fR_1 hg) fX7_31 rfl (h2 := (b_o g 3)) rfl dX7_attempt_24 ?_
  refine ac_iconst (v := (-1)) Z.1 dX7_attempt_27 (by decide) ?_
  refine f_calli (As := [.int (-1)]) (st := []) Z b_X6.1 3 (oR_3 hg) rfl kX6_put lkX7_96 (by omega) (soF_X6_put hg  _ _ _ _ hw) rfl rfl (Nat.le_of_ble_eq_true rfl) dX7_attempt_28 (fun r6 M7 O7 hw => ?_)
  refine ac_istore_n (lv' := [(3, .int r6), (2, .int r4), (0, .ref (b_o g 0)), (1, .int p1)]) Z.1 dX7_attempt_31 (by decide) rfl ?_
  refine ac_aload_n Z.1 2 dX7_attempt_32 rfl ?_
  refine ac_iload_n Z.1 3 dX7_attempt_33 rfl ?_
  refine f_callv (As := [.int p1]) (st := []) Z b_X7.1 0 (oR_0 hg) rfl kX7_block lkX7_117 (by omega) (hWB _ _ _ _ hw) rfl rfl (Nat.le_of_ble_eq_true rfl) dX7_attempt_34 (fun M8 O8 hw => ?_)
  refine ac_aload_n Z.1 2 dX7_attempt_37 rfl ?_
  refine ac_iconst (v := 5) Z.1 dX7_attempt_38 (by decide) ?_
  refine f_callv (As := [.int 5]) (st := []) Z b_X7.1 0 (oR_0 hg) rfl kX7_emit lkX7_125 (by omega) (soF_X7_emit hg  _ _ _ _ hw) rfl rfl (Nat.le_of_ble_eq_true rfl) dX7_attempt_39 (fun M9 O9 hw => ?_)
  refine ac_aload_n Z.1 2 dX7_attempt_42 rfl ?_
  refine f_geti Z b_X7 0 (oR_0 hg) 12 (by decide) (by decide) (fR_12 hg) fX7_62 rfl (v := (M9.1 12)) rfl dX7_attempt_43 ?_
  refine ac_sipush (v := 217) Z.1 dX7_attempt_46 (by decide) ?_
  obtain ⟨hwt, hwf⟩ := hw
  refine ac_icmp_eq (tgt := 66) Z.1 dX7_attempt_49 (by decide) (fun hc => ?_) (fun hc => ?_)
  · have hw := hwt hc
    refine ac_lv [2, 3, 1, 0] rfl ?_
    exact sF_X7_attempt_66 hg Z hret hWB _ _ _ _ _ hw
  · have hw := hwf hc
    refine ac_aload_n Z.1 2 dX7_attempt_52 rfl ?_
    refine f_geti Z b_X7 0 (oR_0 hg) 12 (by decide) (by decide) (fR_12 hg) fX7_62 rfl (v := (M9.1 12)) rfl dX7_attempt_53 ?_
    refine ac_sipush (v := 218) Z.1 dX7_attempt_56 (by decide) ?_
    obtain ⟨hwt, hwf⟩ := hw
    refine ac_icmp_eq (tgt := 66) Z.1 dX7_attempt_59 (by decide) (fun hc => ?_) (fun hc => ?_)
    · have hw := hwt hc
      refine ac_lv [2, 3, 1, 0] rfl ?_
      exact sF_X7_attempt_66 hg Z hret hWB _ _ _ _ _ hw
    · have hw := hwf hc
      refine ac_aload_n Z.1 2 dX7_attempt_62 rfl ?_
      refine f_callv (As := []) (st := []) Z b_X7.1 0 (oR_0 hg) rfl kX7_fail lkX7_93 (by omega) (soF_X7_fail hg   _ _ _ hw) rfl rfl (Nat.le_of_ble_eq_true rfl) dX7_attempt_63 (fun M28 O28 hw => ?_)
      refine ac_lv [2, 3, 1, 0] rfl ?_
      exact sF_X7_attempt_66 hg Z hret hWB _ _ _ _ _ hw
def wF_X7_let (N : Nat → Nat) (WF : Int32 → f_S3 → (Nat × Nat) → (f_S3 → Nat × Nat → Prop) → Prop) (p1 : Int32) (M : f_S3) (O : Nat × Nat) (Q : f_S3 → Nat × Nat → Prop) : Prop := wF_X7_advance N M O (fun M1 O1 => (wF_X7_newName N M1 O1 (fun r2 M3 O3 => (wF_X7_take N 130 M3 O3 (fun M4 O4 => (wF_X7_take N 61 M4 O4 (fun M5 O5 => (wF_X7_expression N WF p1 M5 O5 (fun M6 O6 => (wF_X7_tell N (M1.1 13) r2 M6 O6 (fun M7 O7 => (wF_X7_emit_ N 9 r2 M7 O7 (fun M8 O8 => (Q M8 O8))))))))))))))
set_option maxRecDepth 20000 in
theorem soF_X7_let {l : Launch} {g : b_S} (hg : g.1 = tb_R) {WF : Int32 → f_S3 → (Nat × Nat) → (f_S3 → Nat × Nat → Prop) → Prop} {rkF : Nat} (hWF : ∀ (p0 : Int32) (M : f_S3) (O : Nat × Nat) (Q : f_S3 → Nat × Nat → Prop), WF p0 M O Q → f_MetV l g yX7_factor cX7_factor 5 rkF [.ref (b_o g 0), .int p0] M O Q) (p1 : Int32) (M : f_S3) (O : Nat × Nat) (Q : f_S3 → Nat × Nat → Prop) (hw : wF_X7_let (b_N g) WF p1 M O Q) : f_MetV l g yX7_let cX7_let 4 (rkF + 6) [.ref (b_o g 0), .int p1] M O Q := by
  refine f_MetV.of (C := RX7) (by decide) rfl (Nat.le_of_ble_eq_true rfl) (fun x Z hret => ?_)
  show f_G x g 4 O M O 0 [(0, .ref (b_o g 0)), (1, .int p1)] []
  refine ac_aload_n Z.1 0 dX7_let_0 rfl ?_
  refine f_callv (As := []) (st := []) Z b_X7.1 0 (oR_0 hg) rfl kX7_advance lkX7_59 (by omega) (soF_X7_advance hg   _ _ _ hw) rfl rfl (Nat.le_of_ble_eq_true rfl) dX7_let_1 (fun M1 O1 hw => ?_)
  refine ac_aload_n Z.1 0 dX7_let_4 rfl ?_
  refine f_geti Z b_X7 0 (oR_0 hg) 13 (by decide) (by decide) (fR_13 hg) fX7_84 rfl (v := (M1.1 13)) rfl dX7_let_5 ?_
  refine ac_istore_n (lv' := [(2, .int (M1.1 13)), (0, .ref (b_o g 0)), (1, .int p1)]) Z.1 dX7_let_8 (by decide) rfl ?_
  refine ac_aload_n Z.1 1 dX7_let_9 rfl ?_
  refine f_calli (As := []) (st := []) Z b_X7.1 0 (oR_0 hg) rfl kX7_newName lkX7_142 (by omega) (soF_X7_newName hg   _ _ _ hw) rfl rfl (Nat.le_of_ble_eq_true rfl) dX7_let_10 (fun r2 M3 O3 hw => ?_)
  refine ac_istore_n (lv' := [(3, .int r2), (2, .int (M1.1 13)), (0, .ref (b_o g 0)), (1, .int p1)]) Z.1 dX7_let_13 (by decide) rfl ?_
  refine ac_aload_n Z.1 2 dX7_let_14 rfl ?_
  refine ac_sipush (v := 130) Z.1 dX7_let_15 (by decide) ?_
  refine f_callv (As := [.int 130]) (st := []) Z b_X7.1 0 (oR_0 hg) rfl kX7_take lkX7_100 (by omega) (soF_X7_take hg  _ _ _ _ hw) rfl rfl (Nat.le_of_ble_eq_true rfl) dX7_let_18 (fun M4 O4 hw => ?_)
  refine ac_aload_n Z.1 2 dX7_let_21 rfl ?_
  refine ac_bipush (v := 61) Z.1 dX7_let_22 (by decide) ?_
  refine f_callv (As := [.int 61]) (st := []) Z b_X7.1 0 (oR_0 hg) rfl kX7_take lkX7_100 (by omega) (soF_X7_take hg  _ _ _ _ hw) rfl rfl (Nat.le_of_ble_eq_true rfl) dX7_let_24 (fun M5 O5 hw => ?_)
  refine ac_aload_n Z.1 2 dX7_let_27 rfl ?_
  refine ac_iload_n Z.1 3 dX7_let_28 rfl ?_
  refine f_callv (As := [.int p1]) (st := []) Z b_X7.1 0 (oR_0 hg) rfl kX7_expression lkX7_202 (by omega) (soF_X7_expression hg hWF _ _ _ _ hw) rfl rfl (Nat.le_of_ble_eq_true rfl) dX7_let_29 (fun M6 O6 hw => ?_)
  refine ac_aload_n Z.1 2 dX7_let_32 rfl ?_
  refine ac_iload_n Z.1 1 dX7_let_33 rfl ?_
  refine ac_iload_n Z.1 0 dX7_let_34 rfl ?_
  refine f_callv (As := [.int (M1.1 13), .int r2]) (st := []) Z b_X7.1 0 (oR_0 hg) rfl kX7_tell lkX7_145 (by omega) (soF_X7_tell hg  _ _ _ _ _ hw) rfl rfl (Nat.le_of_ble_eq_true rfl) dX7_let_35 (fun M7 O7 hw => ?_)
  refine ac_aload_n Z.1 2 dX7_let_38 rfl ?_
  refine ac_bipush (v := 9) Z.1 dX7_let_39 (by decide) ?_
  refine ac_iload_n Z.1 0 dX7_let_41 rfl ?_
  refine f_callv (As := [.int 9, .int r2]) (st := []) Z b_X7.1 0 (oR_0 hg) rfl kX7_emit_ lkX7_122 (by omega) (soF_X7_emit_ hg  _ _ _ _ _ hw) rfl rfl (Nat.le_of_ble_eq_true rfl) dX7_let_42 (fun M8 O8 hw => ?_)
  exact hret _ _ _ _ dX7_let_45 hw
def wF_X7_assignment (N : Nat → Nat) (WF : Int32 → f_S3 → (Nat × Nat) → (f_S3 → Nat × Nat → Prop) → Prop) (p1 : Int32) (M : f_S3) (O : Nat × Nat) (Q : f_S3 → Nat × Nat → Prop) : Prop := wF_X7_name N M O (fun r1 M2 O2 => (wF_X7_take N 61 M2 O2 (fun M3 O3 => (wF_X7_expression N WF p1 M3 O3 (fun M4 O4 => (wF_X7_emit_ N 9 r1 M4 O4 (fun M5 O5 => (Q M5 O5))))))))
set_option maxRecDepth 20000 in
theorem soF_X7_assignment {l : Launch} {g : b_S} (hg : g.1 = tb_R) {WF : Int32 → f_S3 → (Nat × Nat) → (f_S3 → Nat × Nat → Prop) → Prop} {rkF : Nat} (hWF : ∀ (p0 : Int32) (M : f_S3) (O : Nat × Nat) (Q : f_S3 → Nat × Nat → Prop), WF p0 M O Q → f_MetV l g yX7_factor cX7_factor 5 rkF [.ref (b_o g 0), .int p0] M O Q) (p1 : Int32) (M : f_S3) (O : Nat × Nat) (Q : f_S3 → Nat × Nat → Prop) (hw : wF_X7_assignment (b_N g) WF p1 M O Q) : f_MetV l g yX7_assignment cX7_assignment 3 (rkF + 6) [.ref (b_o g 0), .int p1] M O Q := by
  refine f_MetV.of (C := RX7) (by decide) rfl (Nat.le_of_ble_eq_true rfl) (fun x Z hret => ?_)
  show f_G x g 3 O M O 0 [(0, .ref (b_o g 0)), (1, .int p1)] []
  refine ac_aload_n Z.1 0 dX7_assignment_0 rfl ?_
  refine f_calli (As := []) (st := []) Z b_X7.1 0 (oR_0 hg) rfl kX7_name lkX7_211 (by omega) (soF_X7_name hg   _ _ _ hw) rfl rfl (Nat.le_of_ble_eq_true rfl) dX7_assignment_1 (fun r1 M2 O2 hw => ?_)
  refine ac_istore_n (lv' := [(2, .int r1), (0, .ref (b_o g 0)), (1, .int p1)]) Z.1 dX7_assignment_4 (by decide) rfl ?_
  refine ac_aload_n Z.1 1 dX7_assignment_5 rfl ?_
  refine ac_bipush (v := 61) Z.1 dX7_assignment_6 (by decide) ?_
  refine f_callv (As := [.int 61]) (st := []) Z b_X7.1 0 (oR_0 hg) rfl kX7_take lkX7_100 (by omega) (soF_X7_take hg  _ _ _ _ hw) rfl rfl (Nat.le_of_ble_eq_true rfl) dX7_assignment_8 (fun M3 O3 hw => ?_)
  refine ac_aload_n Z.1 1 dX7_assignment_11 rfl ?_
  refine ac_iload_n Z.1 2 dX7_assignment_12 rfl ?_
  refine f_callv (As := [.int p1]) (st := []) Z b_X7.1 0 (oR_0 hg) rfl kX7_expression lkX7_202 (by omega) (soF_X7_expression hg hWF _ _ _ _ hw) rfl rfl (Nat.le_of_ble_eq_true rfl) dX7_assignment_13 (fun M4 O4 hw => ?_)
  refine ac_aload_n Z.1 1 dX7_assignment_16 rfl ?_
  refine ac_bipush (v := 9) Z.1 dX7_assignment_17 (by decide) ?_
  refine ac_iload_n Z.1 0 dX7_assignment_19 rfl ?_
  refine f_callv (As := [.int 9, .int r1]) (st := []) Z b_X7.1 0 (oR_0 hg) rfl kX7_emit_ lkX7_122 (by omega) (soF_X7_emit_ hg  _ _ _ _ _ hw) rfl rfl (Nat.le_of_ble_eq_true rfl) dX7_assignment_20 (fun M5 O5 hw => ?_)
  exact hret _ _ _ _ dX7_assignment_23 hw
def wF_X7_newObjection_91 (N : Nat → Nat) (WF : Int32 → f_S3 → (Nat × Nat) → (f_S3 → Nat × Nat → Prop) → Prop) (Q : f_S3 → Nat × Nat → Prop) (a1 : Int32) (a3 : Int32) (a4 : Int32) (a5 : Int32) (M : f_S3) (O : Nat × Nat) : Prop := wF_X7_emit__ N 27 a1 a4 M O (fun M7 O7 => (wF_X6_put N a3 M7 O7 (fun r8 M9 O9 => (wF_X6_put N a5 M9 O9 (fun r10 M11 O11 => (Q M11 O11))))))
set_option maxRecDepth 20000 in
theorem sF_X7_newObjection_91 {x : ac_X} {g : b_S} (hg : g.1 = tb_R) {l : Launch} {O0 : Nat × Nat} {WF : Int32 → f_S3 → (Nat × Nat) → (f_S3 → Nat × Nat → Prop) → Prop} {rkF : Nat} {Q : f_S3 → Nat × Nat → Prop} (Z : b_Cx x g l RX7 cX7_newObjection 6 (rkF + 6) O0) (hret : f_RV x g 6 cX7_newObjection O0 Q) (hWF : ∀ (p0 : Int32) (M : f_S3) (O : Nat × Nat) (Q : f_S3 → Nat × Nat → Prop), WF p0 M O Q → f_MetV l g yX7_factor cX7_factor 5 rkF [.ref (b_o g 0), .int p0] M O Q) (a1 : Int32) (a3 : Int32) (a4 : Int32) (a5 : Int32) (M : f_S3) (O : Nat × Nat) (hw : wF_X7_newObjection_91 (b_N g) WF Q a1 a3 a4 a5 M O) : f_G x g 6 O0 M O 91 [(0, .ref (b_o g 0)), (1, .int a1), (3, .int a3), (4, .int a4), (5, .int a5)] [] := by
  refine ac_aload_n Z.1 0 dX7_newObjection_91 rfl ?_
  refine ac_bipush (v := 27) Z.1 dX7_newObjection_92 (by decide) ?_
  refine ac_iload_n Z.1 1 dX7_newObjection_94 rfl ?_
  refine ac_iload Z.1 3 dX7_newObjection_95 rfl ?_
  refine f_callv (As := [.int 27, .int a1, .int a4]) (st := []) Z b_X7.1 0 (oR_0 hg) rfl kX7_emit__ lkX7_214 (by omega) (soF_X7_emit__ hg  _ _ _ _ _ _ hw) rfl rfl (Nat.le_of_ble_eq_true rfl) dX7_newObjection_97 (fun M7 O7 hw => ?_)
  refine ac_aload_n Z.1 0 dX7_newObjection_100 rfl ?_
  refine f_getr Z b_X7 0 (oR_0 hg) 1 (by decide) (by decide) (fR_1 hg) fX7_31 rfl (h2 := (b_o g 3)) rfl dX7_newObjection_101 ?_
  refine ac_iload_n Z.1 2 dX7_newObjection_104 rfl ?_
  refine f_calli (As := [.int a3]) (st := []) Z b_X6.1 3 (oR_3 hg) rfl kX6_put lkX7_96 (by omega) (soF_X6_put hg  _ _ _ _ hw) rfl rfl (Nat.le_of_ble_eq_true rfl) dX7_newObjection_105 (fun r8 M9 O9 hw => ?_)
  refine ac_pop Z.1 dX7_newObjection_108 rfl ?_
  refine ac_aload_n Z.1 0 dX7_newObjection_109 rfl ?_
  refine f_getr Z b_X7 0 (oR_0 hg) 1 (by decide) (by decide) (fR_1 hg) fX7_31 rfl (h2 := (b_o g 3)) rfl dX7_newObjection_110 ?_
  refine ac_iload Z.1 4 dX7_newObjection_113 rfl ?_
  refine f_calli (As := [.int a5]) (st := []) Z b_X6.1 3 (oR_3 hg) rfl kX6_put lkX7_96 (by omega) (soF_X6_put hg  _ _ _ _ hw) rfl rfl (Nat.le_of_ble_eq_true rfl) dX7_newObjection_115 (fun r10 M11 O11 hw => ?_)
  refine ac_pop Z.1 dX7_newObjection_118 rfl ?_
  exact hret _ _ _ _ dX7_newObjection_119 hw
def wF_X7_newObjection_61 (N : Nat → Nat) (WF : Int32 → f_S3 → (Nat × Nat) → (f_S3 → Nat × Nat → Prop) → Prop) (Q : f_S3 → Nat × Nat → Prop) (a1 : Int32) (a3 : Int32) (a4 : Int32) (M : f_S3) (O : Nat × Nat) : Prop := wF_X7_take N 41 M O (fun M6 O6 => ((¬ (M6.1 12) = 205 → (wF_X7_newObjection_91 N WF Q a1 a3 a4 (-2) M6 O6)) ∧ ((M6.1 12) = 205 → (wF_X7_advance N M6 O6 (fun M12 O12 => (wF_X7_objectOrNone N M12 O12 (fun r13 M14 O14 => (wF_X7_newObjection_91 N WF Q a1 a3 a4 r13 M14 O14))))))))
set_option maxRecDepth 20000 in
theorem sF_X7_newObjection_61 {x : ac_X} {g : b_S} (hg : g.1 = tb_R) {l : Launch} {O0 : Nat × Nat} {WF : Int32 → f_S3 → (Nat × Nat) → (f_S3 → Nat × Nat → Prop) → Prop} {rkF : Nat} {Q : f_S3 → Nat × Nat → Prop} (Z : b_Cx x g l RX7 cX7_newObjection 6 (rkF + 6) O0) (hret : f_RV x g 6 cX7_newObjection O0 Q) (hWF : ∀ (p0 : Int32) (M : f_S3) (O : Nat × Nat) (Q : f_S3 → Nat × Nat → Prop), WF p0 M O Q → f_MetV l g yX7_factor cX7_factor 5 rkF [.ref (b_o g 0), .int p0] M O Q) (a1 : Int32) (a3 : Int32) (a4 : Int32) (M : f_S3) (O : Nat × Nat) (hw : wF_X7_newObjection_61 (b_N g) WF Q a1 a3 a4 M O) : f_G x g 6 O0 M O 61 [(0, .ref (b_o g 0)), (1, .int a1), (3, .int a3), (4, .int a4)] [] := by
  refine ac_aload_n Z.1 0 dX7_newObjection_61 rfl ?_
  refine ac_bipush (v := 41) Z.1 dX7_newObjection_62 (by decide) ?_
  refine f_callv (As := [.int 41]) (st := []) Z b_X7.1 0 (oR_0 hg) rfl kX7_take lkX7_100 (by omega) (soF_X7_take hg  _ _ _ _ hw) rfl rfl (Nat.le_of_ble_eq_true rfl) dX7_newObjection_64 (fun M6 O6 hw => ?_)
  refine ac_bipush (v := (-2)) Z.1 dX7_newObjection_67 (by decide) ?_
  refine ac_istore (lv' := [(5, .int (-2)), (0, .ref (b_o g 0)), (1, .int a1), (3, .int a3), (4, .int a4)]) Z.1 dX7_newObjection_69 (by decide) rfl ?_
  refine ac_aload_n Z.1 1 dX7_newObjection_71 rfl ?_
  refine f_geti Z b_X7 0 (oR_0 hg) 12 (by decide) (by decide) (fR_12 hg) fX7_62 rfl (v := (M6.1 12)) rfl dX7_newObjection_72 ?_
  refine ac_sipush (v := 205) Z.1 dX7_newObjection_75 (by decide) ?_
  obtain ⟨hwt, hwf⟩ := hw
  refine ac_icmp_ne (tgt := 91) Z.1 dX7_newObjection_78 (by decide) (fun hc => ?_) (fun hc => ?_)
  · have hw := hwt hc
    refine ac_lv [1, 2, 3, 4, 0] rfl ?_
    exact sF_X7_newObjection_91 hg Z hret hWF _ _ _ _ _ _ hw
  · have hw := hwf hc
    refine ac_aload_n Z.1 1 dX7_newObjection_81 rfl ?_
    refine f_callv (As := []) (st := []) Z b_X7.1 0 (oR_0 hg) rfl kX7_advance lkX7_59 (by omega) (soF_X7_advance hg   _ _ _ hw) rfl rfl (Nat.le_of_ble_eq_true rfl) dX7_newObjection_82 (fun M12 O12 hw => ?_)
    refine ac_aload_n Z.1 1 dX7_newObjection_85 rfl ?_
    refine f_calli (As := []) (st := []) Z b_X7.1 0 (oR_0 hg) rfl kX7_objectOrNone lkX7_217 (by omega) (soF_X7_objectOrNone hg   _ _ _ hw) rfl rfl (Nat.le_of_ble_eq_true rfl) dX7_newObjection_86 (fun r13 M14 O14 hw => ?_)
    refine ac_istore (lv' := [(5, .int r13), (0, .ref (b_o g 0)), (1, .int a1), (3, .int a3), (4, .int a4)]) Z.1 dX7_newObjection_89 (by decide) rfl ?_
    refine ac_lv [1, 2, 3, 4, 0] rfl ?_
    exact sF_X7_newObjection_91 hg Z hret hWF _ _ _ _ _ _ hw
def wF_X7_newObjection_54 (N : Nat → Nat) (WF : Int32 → f_S3 → (Nat × Nat) → (f_S3 → Nat × Nat → Prop) → Prop) (Q : f_S3 → Nat × Nat → Prop) (a1 : Int32) (a3 : Int32) (a4 : Int32) (M : f_S3) (O : Nat × Nat) : Prop := wF_X7_emit_ N 7 0 M O (fun M5 O5 => (wF_X7_newObjection_61 N WF Q a1 a3 a4 M5 O5))
set_option maxRecDepth 20000 in
theorem sF_X7_newObjection_54 {x : ac_X} {g : b_S} (hg : g.1 = tb_R) {l : Launch} {O0 : Nat × Nat} {WF : Int32 → f_S3 → (Nat × Nat) → (f_S3 → Nat × Nat → Prop) → Prop} {rkF : Nat} {Q : f_S3 → Nat × Nat → Prop} (Z : b_Cx x g l RX7 cX7_newObjection 6 (rkF + 6) O0) (hret : f_RV x g 6 cX7_newObjection O0 Q) (hWF : ∀ (p0 : Int32) (M : f_S3) (O : Nat × Nat) (Q : f_S3 → Nat × Nat → Prop), WF p0 M O Q → f_MetV l g yX7_factor cX7_factor 5 rkF [.ref (b_o g 0), .int p0] M O Q) (a1 : Int32) (a3 : Int32) (a4 : Int32) (M : f_S3) (O : Nat × Nat) (hw : wF_X7_newObjection_54 (b_N g) WF Q a1 a3 a4 M O) : f_G x g 6 O0 M O 54 [(0, .ref (b_o g 0)), (1, .int a1), (3, .int a3), (4, .int a4)] [] := by
  refine ac_aload_n Z.1 0 dX7_newObjection_54 rfl ?_
  refine ac_bipush (v := 7) Z.1 dX7_newObjection_55 (by decide) ?_
  refine ac_iconst (v := 0) Z.1 dX7_newObjection_57 (by decide) ?_
  refine f_callv (As := [.int 7, .int 0]) (st := []) Z b_X7.1 0 (oR_0 hg) rfl kX7_emit_ lkX7_122 (by omega) (soF_X7_emit_ hg  _ _ _ _ _ hw) rfl rfl (Nat.le_of_ble_eq_true rfl) dX7_newObjection_58 (fun M5 O5 hw => ?_)
  exact sF_X7_newObjection_61 hg Z hret hWF _ _ _ _ _ hw
def wF_X7_newObjection (N : Nat → Nat) (WF : Int32 → f_S3 → (Nat × Nat) → (f_S3 → Nat × Nat → Prop) → Prop) (p1 : Int32) (p2 : Int32) (M : f_S3) (O : Nat × Nat) (Q : f_S3 → Nat × Nat → Prop) : Prop := wF_X7_kind N M O (fun r1 M2 O2 => (wF_X7_takeOpening N 40 p2 M2 O2 (fun M3 O3 => (wF_X7_expression N WF (p2 + 1) M3 O3 (fun M4 O4 => ((¬ (M4.1 12) = 44 → (wF_X7_newObjection_54 N WF Q p1 (M.1 14) r1 M4 O4)) ∧ ((M4.1 12) = 44 → ((¬ r1 = 2 → (wF_X7_newObjection_54 N WF Q p1 (M.1 14) r1 M4 O4)) ∧ (r1 = 2 → (wF_X7_advance N M4 O4 (fun M15 O15 => (wF_X7_expression N WF (p2 + 1) M15 O15 (fun M16 O16 => (wF_X7_newObjection_61 N WF Q p1 (M.1 14) r1 M16 O16))))))))))))))
set_option maxRecDepth 20000 in
theorem soF_X7_newObjection {l : Launch} {g : b_S} (hg : g.1 = tb_R) {WF : Int32 → f_S3 → (Nat × Nat) → (f_S3 → Nat × Nat → Prop) → Prop} {rkF : Nat} (hWF : ∀ (p0 : Int32) (M : f_S3) (O : Nat × Nat) (Q : f_S3 → Nat × Nat → Prop), WF p0 M O Q → f_MetV l g yX7_factor cX7_factor 5 rkF [.ref (b_o g 0), .int p0] M O Q) (p1 : Int32) (p2 : Int32) (M : f_S3) (O : Nat × Nat) (Q : f_S3 → Nat × Nat → Prop) (hw : wF_X7_newObjection (b_N g) WF p1 p2 M O Q) : f_MetV l g yX7_newObjection cX7_newObjection 6 (rkF + 6) [.ref (b_o g 0), .int p1, .int p2] M O Q := by
  refine f_MetV.of (C := RX7) (by decide) rfl (Nat.le_of_ble_eq_true rfl) (fun x Z hret => ?_)
  show f_G x g 6 O M O 0 [(0, .ref (b_o g 0)), (1, .int p1), (2, .int p2)] []
  refine ac_aload_n Z.1 0 dX7_newObjection_0 rfl ?_
  refine f_geti Z b_X7 0 (oR_0 hg) 14 (by decide) (by decide) (fR_14 hg) fX7_90 rfl (v := (M.1 14)) rfl dX7_newObjection_1 ?_
  refine ac_istore_n (lv' := [(3, .int (M.1 14)), (0, .ref (b_o g 0)), (1, .int p1), (2, .int p2)]) Z.1 dX7_newObjection_4 (by decide) rfl ?_
  refine ac_aload_n Z.1 1 dX7_newObjection_5 rfl ?_
  refine f_calli (As := []) (st := []) Z b_X7.1 0 (oR_0 hg) rfl kX7_kind lkX7_208 (by omega) (soF_X7_kind hg   _ _ _ hw) rfl rfl (Nat.le_of_ble_eq_true rfl) dX7_newObjection_6 (fun r1 M2 O2 hw => ?_)
  refine ac_istore (lv' := [(4, .int r1), (3, .int (M.1 14)), (0, .ref (b_o g 0)), (1, .int p1), (2, .int p2)]) Z.1 dX7_newObjection_9 (by decide) rfl ?_
  refine ac_aload_n Z.1 2 dX7_newObjection_11 rfl ?_
  refine ac_bipush (v := 40) Z.1 dX7_newObjection_12 (by decide) ?_
  refine ac_iload_n Z.1 4 dX7_newObjection_14 rfl ?_
  refine f_callv (As := [.int 40, .int p2]) (st := []) Z b_X7.1 0 (oR_0 hg) rfl kX7_takeOpening lkX7_106 (by omega) (soF_X7_takeOpening hg  _ _ _ _ _ hw) rfl rfl (Nat.le_of_ble_eq_true rfl) dX7_newObjection_15 (fun M3 O3 hw => ?_)
  refine ac_aload_n Z.1 2 dX7_newObjection_18 rfl ?_
  refine ac_iload_n Z.1 4 dX7_newObjection_19 rfl ?_
  refine ac_iconst (v := 1) Z.1 dX7_newObjection_20 (by decide) ?_
  refine ac_iadd Z.1 dX7_newObjection_21 ?_
  refine f_callv (As := [.int (p2 + 1)]) (st := []) Z b_X7.1 0 (oR_0 hg) rfl kX7_expression lkX7_202 (by omega) (soF_X7_expression hg hWF _ _ _ _ hw) rfl rfl (Nat.le_of_ble_eq_true rfl) dX7_newObjection_22 (fun M4 O4 hw => ?_)
  refine ac_aload_n Z.1 2 dX7_newObjection_25 rfl ?_
  refine f_geti Z b_X7 0 (oR_0 hg) 12 (by decide) (by decide) (fR_12 hg) fX7_62 rfl (v := (M4.1 12)) rfl dX7_newObjection_26 ?_
  refine ac_bipush (v := 44) Z.1 dX7_newObjection_29 (by decide) ?_
  obtain ⟨hwt, hwf⟩ := hw
  refine ac_icmp_ne (tgt := 54) Z.1 dX7_newObjection_31 (by decide) (fun hc => ?_) (fun hc => ?_)
  · have hw := hwt hc
    refine ac_lv [2, 3, 1, 0] rfl ?_
    exact sF_X7_newObjection_54 hg Z hret hWF _ _ _ _ _ hw
  · have hw := hwf hc
    refine ac_iload Z.1 0 dX7_newObjection_34 rfl ?_
    refine ac_iconst (v := 2) Z.1 dX7_newObjection_36 (by decide) ?_
    obtain ⟨hwt, hwf⟩ := hw
    refine ac_icmp_ne (tgt := 54) Z.1 dX7_newObjection_37 (by decide) (fun hc => ?_) (fun hc => ?_)
    · have hw := hwt hc
      refine ac_lv [2, 3, 1, 0] rfl ?_
      exact sF_X7_newObjection_54 hg Z hret hWF _ _ _ _ _ hw
    · have hw := hwf hc
      refine ac_aload_n Z.1 2 dX7_newObjection_40 rfl ?_
      refine f_callv (As := []) (st := []) Z b_X7.1 0 (oR_0 hg) rfl kX7_advance lkX7_59 (by omega) (soF_X7_advance hg   _ _ _ hw) rfl rfl (Nat.le_of_ble_eq_true rfl) dX7_newObjection_41 (fun M15 O15 hw => ?_)
      refine ac_aload_n Z.1 2 dX7_newObjection_44 rfl ?_
      refine ac_iload_n Z.1 4 dX7_newObjection_45 rfl ?_
      refine ac_iconst (v := 1) Z.1 dX7_newObjection_46 (by decide) ?_
      refine ac_iadd Z.1 dX7_newObjection_47 ?_
      refine f_callv (As := [.int (p2 + 1)]) (st := []) Z b_X7.1 0 (oR_0 hg) rfl kX7_expression lkX7_202 (by omega) (soF_X7_expression hg hWF _ _ _ _ hw) rfl rfl (Nat.le_of_ble_eq_true rfl) dX7_newObjection_48 (fun M16 O16 hw => ?_)
      refine ac_goto (tgt := 61) Z.1 dX7_newObjection_51 (by decide) ?_
      refine ac_lv [2, 3, 1, 0] rfl ?_
      exact sF_X7_newObjection_61 hg Z hret hWF _ _ _ _ _ hw
def wF_X7_otherObjection (N : Nat → Nat) (p1 : Int32) (M : f_S3) (O : Nat × Nat) (Q : f_S3 → Nat × Nat → Prop) : Prop := (¬ (M.1 12) = 204 → (wF_X7_objectOrNone N M O (fun r1 M2 O2 => (wF_X7_emit__ N 25 p1 r1 M2 O2 (fun M3 O3 => (Q M3 O3)))))) ∧ ((M.1 12) = 204 → (wF_X7_advance N M O (fun M4 O4 => (wF_X7_object N M4 O4 (fun r5 M6 O6 => (wF_X7_emit__ N 26 p1 r5 M6 O6 (fun M7 O7 => (Q M7 O7))))))))
set_option maxRecDepth 20000 in
theorem soF_X7_otherObjection {l : Launch} {g : b_S} (hg : g.1 = tb_R) (p1 : Int32) (M : f_S3) (O : Nat × Nat) (Q : f_S3 → Nat × Nat → Prop) (hw : wF_X7_otherObjection (b_N g) p1 M O Q) : f_MetV l g yX7_otherObjection cX7_otherObjection 2 (3) [.ref (b_o g 0), .int p1] M O Q := by
  refine f_MetV.of (C := RX7) (by decide) rfl (Nat.le_of_ble_eq_true rfl) (fun x Z hret => ?_)
  show f_G x g 2 O M O 0 [(0, .ref (b_o g 0)), (1, .int p1)] []
  refine ac_aload_n Z.1 0 dX7_otherObjection_0 rfl ?_
  refine f_geti Z b_X7 0 (oR_0 hg) 12 (by decide) (by decide) (fR_12 hg) fX7_62 rfl (v := (M.1 12)) rfl dX7_otherObjection_1 ?_
  refine ac_sipush (v := 204) Z.1 dX7_otherObjection_4 (by decide) ?_
  obtain ⟨hwt, hwf⟩ := hw
  refine ac_icmp_ne (tgt := 28) Z.1 dX7_otherObjection_7 (by decide) (fun hc => ?_) (fun hc => ?_)
  · have hw := hwt hc
    refine ac_aload_n Z.1 0 dX7_otherObjection_28 rfl ?_
    refine ac_bipush (v := 25) Z.1 dX7_otherObjection_29 (by decide) ?_
    refine ac_iload_n Z.1 1 dX7_otherObjection_31 rfl ?_
    refine ac_aload_n Z.1 0 dX7_otherObjection_32 rfl ?_
    refine f_calli (As := []) (st := [.int p1, .int 25, .ref (b_o g 0)]) Z b_X7.1 0 (oR_0 hg) rfl kX7_objectOrNone lkX7_217 (by omega) (soF_X7_objectOrNone hg   _ _ _ hw) rfl rfl (Nat.le_of_ble_eq_true rfl) dX7_otherObjection_33 (fun r1 M2 O2 hw => ?_)
    refine f_callv (As := [.int 25, .int p1, .int r1]) (st := []) Z b_X7.1 0 (oR_0 hg) rfl kX7_emit__ lkX7_214 (by omega) (soF_X7_emit__ hg  _ _ _ _ _ _ hw) rfl rfl (Nat.le_of_ble_eq_true rfl) dX7_otherObjection_36 (fun M3 O3 hw => ?_)
    exact hret _ _ _ _ dX7_otherObjection_39 hw
  · have hw := hwf hc
    refine ac_aload_n Z.1 0 dX7_otherObjection_10 rfl ?_
    refine f_callv (As := []) (st := []) Z b_X7.1 0 (oR_0 hg) rfl kX7_advance lkX7_59 (by omega) (soF_X7_advance hg   _ _ _ hw) rfl rfl (Nat.le_of_ble_eq_true rfl) dX7_otherObjection_11 (fun M4 O4 hw => ?_)
    refine ac_aload_n Z.1 0 dX7_otherObjection_14 rfl ?_
    refine ac_bipush (v := 26) Z.1 dX7_otherObjection_15 (by decide) ?_
    refine ac_iload_n Z.1 1 dX7_otherObjection_17 rfl ?_
    refine ac_aload_n Z.1 0 dX7_otherObjection_18 rfl ?_
    refine f_calli (As := []) (st := [.int p1, .int 26, .ref (b_o g 0)]) Z b_X7.1 0 (oR_0 hg) rfl kX7_object lkX7_157 (by omega) (soF_X7_object hg   _ _ _ hw) rfl rfl (Nat.le_of_ble_eq_true rfl) dX7_otherObjection_19 (fun r5 M6 O6 hw => ?_)
    refine f_callv (As := [.int 26, .int p1, .int r5]) (st := []) Z b_X7.1 0 (oR_0 hg) rfl kX7_emit__ lkX7_214 (by omega) (soF_X7_emit__ hg  _ _ _ _ _ _ hw) rfl rfl (Nat.le_of_ble_eq_true rfl) dX7_otherObjection_22 (fun M7 O7 hw => ?_)
    refine ac_goto (tgt := 39) Z.1 dX7_otherObjection_25 (by decide) ?_
    exact hret _ _ _ _ dX7_otherObjection_39 hw
def wF_X7_raising (N : Nat → Nat) (M : f_S3) (O : Nat × Nat) (Q : f_S3 → Nat × Nat → Prop) : Prop := wF_X7_advance N M O (fun M1 O1 => (wF_X7_object N M1 O1 (fun r2 M3 O3 => (wF_X7_emit_ N 28 r2 M3 O3 (fun M4 O4 => (Q M4 O4))))))
set_option maxRecDepth 20000 in
theorem soF_X7_raising {l : Launch} {g : b_S} (hg : g.1 = tb_R) (M : f_S3) (O : Nat × Nat) (Q : f_S3 → Nat × Nat → Prop) (hw : wF_X7_raising (b_N g)  M O Q) : f_MetV l g yX7_raising cX7_raising 1 (2) [.ref (b_o g 0)] M O Q := by
  refine f_MetV.of (C := RX7) (by decide) rfl (Nat.le_of_ble_eq_true rfl) (fun x Z hret => ?_)
  show f_G x g 1 O M O 0 [(0, .ref (b_o g 0))] []
  refine ac_aload_n Z.1 0 dX7_raising_0 rfl ?_
  refine f_callv (As := []) (st := []) Z b_X7.1 0 (oR_0 hg) rfl kX7_advance lkX7_59 (by omega) (soF_X7_advance hg   _ _ _ hw) rfl rfl (Nat.le_of_ble_eq_true rfl) dX7_raising_1 (fun M1 O1 hw => ?_)
  refine ac_aload_n Z.1 0 dX7_raising_4 rfl ?_
  refine ac_bipush (v := 28) Z.1 dX7_raising_5 (by decide) ?_
  refine ac_aload_n Z.1 0 dX7_raising_7 rfl ?_
  refine f_calli (As := []) (st := [.int 28, .ref (b_o g 0)]) Z b_X7.1 0 (oR_0 hg) rfl kX7_object lkX7_157 (by omega) (soF_X7_object hg   _ _ _ hw) rfl rfl (Nat.le_of_ble_eq_true rfl) dX7_raising_8 (fun r2 M3 O3 hw => ?_)
  refine f_callv (As := [.int 28, .int r2]) (st := []) Z b_X7.1 0 (oR_0 hg) rfl kX7_emit_ lkX7_122 (by omega) (soF_X7_emit_ hg  _ _ _ _ _ hw) rfl rfl (Nat.le_of_ble_eq_true rfl) dX7_raising_11 (fun M4 O4 hw => ?_)
  exact hret _ _ _ _ dX7_raising_14 hw
def wF_X7_joining (N : Nat → Nat) (M : f_S3) (O : Nat × Nat) (Q : f_S3 → Nat × Nat → Prop) : Prop := wF_X7_advance N M O (fun M1 O1 => (wF_X7_object N M1 O1 (fun r2 M3 O3 => (wF_X7_take N 208 M3 O3 (fun M4 O4 => (wF_X7_objectOrNone N M4 O4 (fun r5 M6 O6 => (wF_X7_emit__ N 29 r2 r5 M6 O6 (fun M7 O7 => (Q M7 O7))))))))))
set_option maxRecDepth 20000 in
theorem soF_X7_joining {l : Launch} {g : b_S} (hg : g.1 = tb_R) (M : f_S3) (O : Nat × Nat) (Q : f_S3 → Nat × Nat → Prop) (hw : wF_X7_joining (b_N g)  M O Q) : f_MetV l g yX7_joining cX7_joining 2 (3) [.ref (b_o g 0)] M O Q := by
  refine f_MetV.of (C := RX7) (by decide) rfl (Nat.le_of_ble_eq_true rfl) (fun x Z hret => ?_)
  show f_G x g 2 O M O 0 [(0, .ref (b_o g 0))] []
  refine ac_aload_n Z.1 0 dX7_joining_0 rfl ?_
  refine f_callv (As := []) (st := []) Z b_X7.1 0 (oR_0 hg) rfl kX7_advance lkX7_59 (by omega) (soF_X7_advance hg   _ _ _ hw) rfl rfl (Nat.le_of_ble_eq_true rfl) dX7_joining_1 (fun M1 O1 hw => ?_)
  refine ac_aload_n Z.1 0 dX7_joining_4 rfl ?_
  refine f_calli (As := []) (st := []) Z b_X7.1 0 (oR_0 hg) rfl kX7_object lkX7_157 (by omega) (soF_X7_object hg   _ _ _ hw) rfl rfl (Nat.le_of_ble_eq_true rfl) dX7_joining_5 (fun r2 M3 O3 hw => ?_)
  refine ac_istore_n (lv' := [(1, .int r2), (0, .ref (b_o g 0))]) Z.1 dX7_joining_8 (by decide) rfl ?_
  refine ac_aload_n Z.1 1 dX7_joining_9 rfl ?_
  refine ac_sipush (v := 208) Z.1 dX7_joining_10 (by decide) ?_
  refine f_callv (As := [.int 208]) (st := []) Z b_X7.1 0 (oR_0 hg) rfl kX7_take lkX7_100 (by omega) (soF_X7_take hg  _ _ _ _ hw) rfl rfl (Nat.le_of_ble_eq_true rfl) dX7_joining_13 (fun M4 O4 hw => ?_)
  refine ac_aload_n Z.1 1 dX7_joining_16 rfl ?_
  refine ac_bipush (v := 29) Z.1 dX7_joining_17 (by decide) ?_
  refine ac_iload_n Z.1 0 dX7_joining_19 rfl ?_
  refine ac_aload_n Z.1 1 dX7_joining_20 rfl ?_
  refine f_calli (As := []) (st := [.int r2, .int 29, .ref (b_o g 0)]) Z b_X7.1 0 (oR_0 hg) rfl kX7_objectOrNone lkX7_217 (by omega) (soF_X7_objectOrNone hg   _ _ _ hw) rfl rfl (Nat.le_of_ble_eq_true rfl) dX7_joining_21 (fun r5 M6 O6 hw => ?_)
  refine f_callv (As := [.int 29, .int r2, .int r5]) (st := []) Z b_X7.1 0 (oR_0 hg) rfl kX7_emit__ lkX7_214 (by omega) (soF_X7_emit__ hg  _ _ _ _ _ _ hw) rfl rfl (Nat.le_of_ble_eq_true rfl) dX7_joining_24 (fun M7 O7 hw => ?_)
  exact hret _ _ _ _ dX7_joining_27 hw
def wF_X7_question_49 (N : Nat → Nat) (Q : Int32 → f_S3 → Nat × Nat → Prop) (a1 : Int32) (M : f_S3) (O : Nat × Nat) : Prop := Q a1 M O
set_option maxRecDepth 20000 in
theorem sF_X7_question_49 {x : ac_X} {g : b_S} (hg : g.1 = tb_R) {l : Launch} {O0 : Nat × Nat} {Q : Int32 → f_S3 → Nat × Nat → Prop} (Z : b_Cx x g l RX7 cX7_question 2 (1) O0) (hret : f_RI x g 2 cX7_question .int O0 Q) (a1 : Int32) (M : f_S3) (O : Nat × Nat) (hw : wF_X7_question_49 (b_N g) Q a1 M O) : f_G x g 2 O0 M O 49 [(0, .ref (b_o g 0)), (1, .int a1)] [] := by
  refine ac_iload_n Z.1 1 dX7_question_49 rfl ?_
  exact hret _ _ _ _ _ dX7_question_50 rfl hw
def wF_X7_question_38 (N : Nat → Nat) (Q : Int32 → f_S3 → Nat × Nat → Prop) (a1 : Int32) (M : f_S3) (O : Nat × Nat) : Prop := wF_X7_advance N M O (fun M1 O1 => (wF_X7_question_49 N Q a1 M1 O1))
set_option maxRecDepth 20000 in
theorem sF_X7_question_38 {x : ac_X} {g : b_S} (hg : g.1 = tb_R) {l : Launch} {O0 : Nat × Nat} {Q : Int32 → f_S3 → Nat × Nat → Prop} (Z : b_Cx x g l RX7 cX7_question 2 (1) O0) (hret : f_RI x g 2 cX7_question .int O0 Q) (a1 : Int32) (M : f_S3) (O : Nat × Nat) (hw : wF_X7_question_38 (b_N g) Q a1 M O) : f_G x g 2 O0 M O 38 [(0, .ref (b_o g 0)), (1, .int a1)] [] := by
  refine ac_aload_n Z.1 0 dX7_question_38 rfl ?_
  refine f_callv (As := []) (st := []) Z b_X7.1 0 (oR_0 hg) rfl kX7_advance lkX7_59 (by omega) (soF_X7_advance hg   _ _ _ hw) rfl rfl (Nat.le_of_ble_eq_true rfl) dX7_question_39 (fun M1 O1 hw => ?_)
  refine ac_goto (tgt := 49) Z.1 dX7_question_42 (by decide) ?_
  exact sF_X7_question_49 hg Z hret _ _ _ hw
def wF_X7_question_17 (N : Nat → Nat) (Q : Int32 → f_S3 → Nat × Nat → Prop) (t0 : Int32) (M : f_S3) (O : Nat × Nat) : Prop := ((M.1 12) = 224 → (wF_X7_question_38 N Q t0 M O)) ∧ (¬ (M.1 12) = 224 → ((¬ (M.1 12) = 225 → (wF_X7_fail N M O (fun M2 O2 => (wF_X7_question_49 N Q t0 M2 O2)))) ∧ ((M.1 12) = 225 → (wF_X7_question_38 N Q t0 M O))))
set_option maxRecDepth 20000 in
theorem sF_X7_question_17 {x : ac_X} {g : b_S} (hg : g.1 = tb_R) {l : Launch} {O0 : Nat × Nat} {Q : Int32 → f_S3 → Nat × Nat → Prop} (Z : b_Cx x g l RX7 cX7_question 2 (1) O0) (hret : f_RI x g 2 cX7_question .int O0 Q) (t0 : Int32) (M : f_S3) (O : Nat × Nat) (hw : wF_X7_question_17 (b_N g) Q t0 M O) : f_G x g 2 O0 M O 17 [(0, .ref (b_o g 0))] [.int t0] := by
  refine ac_istore_n (lv' := [(1, .int t0), (0, .ref (b_o g 0))]) Z.1 dX7_question_17 (by decide) rfl ?_
  refine ac_aload_n Z.1 1 dX7_question_18 rfl ?_
  refine f_geti Z b_X7 0 (oR_0 hg) 12 (by decide) (by decide) (fR_12 hg) fX7_62 rfl (v := (M.1 12)) rfl dX7_question_19 ?_
  refine ac_sipush (v := 224) Z.1 dX7_question_22 (by decide) ?_
  obtain ⟨hwt, hwf⟩ := hw
  refine ac_icmp_eq (tgt := 38) Z.1 dX7_question_25 (by decide) (fun hc => ?_) (fun hc => ?_)
  · have hw := hwt hc
    refine ac_lv [1, 0] rfl ?_
    exact sF_X7_question_38 hg Z hret _ _ _ hw
  · have hw := hwf hc
    refine ac_aload_n Z.1 1 dX7_question_28 rfl ?_
    refine f_geti Z b_X7 0 (oR_0 hg) 12 (by decide) (by decide) (fR_12 hg) fX7_62 rfl (v := (M.1 12)) rfl dX7_question_29 ?_
    refine ac_sipush (v := 225) Z.1 dX7_question_32 (by decide) ?_
    obtain ⟨hwt, hwf⟩ := hw
    refine ac_icmp_ne (tgt := 45) Z.1 dX7_question_35 (by decide) (fun hc => ?_) (fun hc => ?_)
    · have hw := hwt hc
      refine ac_aload_n Z.1 1 dX7_question_45 rfl ?_
      refine f_callv (As := []) (st := []) Z b_X7.1 0 (oR_0 hg) rfl kX7_fail lkX7_93 (by omega) (soF_X7_fail hg   _ _ _ hw) rfl rfl (Nat.le_of_ble_eq_true rfl) dX7_question_46 (fun M2 O2 hw => ?_)
      refine ac_lv [1, 0] rfl ?_
      exact sF_X7_question_49 hg Z hret _ _ _ hw
    · have hw := hwf hc
      refine ac_lv [1, 0] rfl ?_
      exact sF_X7_question_38 hg Z hret _ _ _ hw
def wF_X7_question (N : Nat → Nat) (M : f_S3) (O : Nat × Nat) (Q : Int32 → f_S3 → Nat × Nat → Prop) : Prop := (¬ (M.1 12) = 224 → (wF_X7_question_17 N Q 24 M O)) ∧ ((M.1 12) = 224 → (wF_X7_question_17 N Q 23 M O))
set_option maxRecDepth 20000 in
theorem soF_X7_question {l : Launch} {g : b_S} (hg : g.1 = tb_R) (M : f_S3) (O : Nat × Nat) (Q : Int32 → f_S3 → Nat × Nat → Prop) (hw : wF_X7_question (b_N g)  M O Q) : f_MetI l g yX7_question cX7_question 2 .int (1) [.ref (b_o g 0)] M O Q := by
  refine f_MetI.of (C := RX7) (by decide) rfl (Nat.le_of_ble_eq_true rfl) (fun x Z hret => ?_)
  show f_G x g 2 O M O 0 [(0, .ref (b_o g 0))] []
  refine ac_aload_n Z.1 0 dX7_question_0 rfl ?_
  refine f_geti Z b_X7 0 (oR_0 hg) 12 (by decide) (by decide) (fR_12 hg) fX7_62 rfl (v := (M.1 12)) rfl dX7_question_1 ?_
  refine ac_sipush (v := 224) Z.1 dX7_question_4 (by decide) ?_
  obtain ⟨hwt, hwf⟩ := hw
  refine ac_icmp_ne (tgt := 15) Z.1 dX7_question_7 (by decide) (fun hc => ?_) (fun hc => ?_)
  · have hw := hwt hc
    refine ac_bipush (v := 24) Z.1 dX7_question_15 (by decide) ?_
    exact sF_X7_question_17 hg Z hret _ _ _ hw
  · have hw := hwf hc
    refine ac_bipush (v := 23) Z.1 dX7_question_10 (by decide) ?_
    refine ac_goto (tgt := 17) Z.1 dX7_question_12 (by decide) ?_
    exact sF_X7_question_17 hg Z hret _ _ _ hw
def wF_X7_noting_75 (N : Nat → Nat) (WF : Int32 → f_S3 → (Nat × Nat) → (f_S3 → Nat × Nat → Prop) → Prop) (Q : f_S3 → Nat × Nat → Prop) (a1 : Int32) (t1 : Int32) (t2 : Int32) (t3 : Int32) (M : f_S3) (O : Nat × Nat) : Prop := wF_X7_emit__ N t1 t2 t3 M O (fun M8 O8 => (wF_X7_restOfExpression N WF a1 M8 O8 (fun M9 O9 => (wF_X7_emit N 1 M9 O9 (fun M10 O10 => (Q M10 O10))))))
set_option maxRecDepth 20000 in
theorem sF_X7_noting_75 {x : ac_X} {g : b_S} (hg : g.1 = tb_R) {l : Launch} {O0 : Nat × Nat} {WF : Int32 → f_S3 → (Nat × Nat) → (f_S3 → Nat × Nat → Prop) → Prop} {rkF : Nat} {Q : f_S3 → Nat × Nat → Prop} (Z : b_Cx x g l RX7 cX7_noting 4 (rkF + 6) O0) (hret : f_RV x g 4 cX7_noting O0 Q) (hWF : ∀ (p0 : Int32) (M : f_S3) (O : Nat × Nat) (Q : f_S3 → Nat × Nat → Prop), WF p0 M O Q → f_MetV l g yX7_factor cX7_factor 5 rkF [.ref (b_o g 0), .int p0] M O Q) (a1 : Int32) (t1 : Int32) (t2 : Int32) (t3 : Int32) (M : f_S3) (O : Nat × Nat) (hw : wF_X7_noting_75 (b_N g) WF Q a1 t1 t2 t3 M O) : f_G x g 4 O0 M O 75 [(0, .ref (b_o g 0)), (1, .int a1)] [.int t3, .int t2, .int t1, .ref (b_o g 0)] := by
  refine f_callv (As := [.int t1, .int t2, .int t3]) (st := []) Z b_X7.1 0 (oR_0 hg) rfl kX7_emit__ lkX7_214 (by omega) (soF_X7_emit__ hg  _ _ _ _ _ _ hw) rfl rfl (Nat.le_of_ble_eq_true rfl) dX7_noting_75 (fun M8 O8 hw => ?_)
  refine ac_aload_n Z.1 0 dX7_noting_78 rfl ?_
  refine ac_iload_n Z.1 1 dX7_noting_79 rfl ?_
  refine f_callv (As := [.int a1]) (st := []) Z b_X7.1 0 (oR_0 hg) rfl kX7_restOfExpression lkX7_225 (by omega) (soF_X7_restOfExpression hg hWF _ _ _ _ hw) rfl rfl (Nat.le_of_ble_eq_true rfl) dX7_noting_80 (fun M9 O9 hw => ?_)
  refine ac_aload_n Z.1 0 dX7_noting_83 rfl ?_
  refine ac_iconst (v := 1) Z.1 dX7_noting_84 (by decide) ?_
  refine f_callv (As := [.int 1]) (st := []) Z b_X7.1 0 (oR_0 hg) rfl kX7_emit lkX7_125 (by omega) (soF_X7_emit hg  _ _ _ _ hw) rfl rfl (Nat.le_of_ble_eq_true rfl) dX7_noting_85 (fun M10 O10 hw => ?_)
  refine ac_goto (tgt := 98) Z.1 dX7_noting_88 (by decide) ?_
  exact hret _ _ _ _ dX7_noting_98 hw
def wF_X7_noting_50 (N : Nat → Nat) (WF : Int32 → f_S3 → (Nat × Nat) → (f_S3 → Nat × Nat → Prop) → Prop) (Q : f_S3 → Nat × Nat → Prop) (a1 : Int32) (a2 : Int32) (M : f_S3) (O : Nat × Nat) : Prop := wF_X7_question N M O (fun r4 M5 O5 => ((¬ r4 = 23 → (wF_X7_object N M5 O5 (fun r6 M7 O7 => (wF_X7_noting_75 N WF Q a1 r4 a2 r6 M7 O7)))) ∧ (r4 = 23 → (wF_X7_kind N M5 O5 (fun r11 M12 O12 => (wF_X7_noting_75 N WF Q a1 r4 a2 r11 M12 O12))))))
set_option maxRecDepth 20000 in
theorem sF_X7_noting_50 {x : ac_X} {g : b_S} (hg : g.1 = tb_R) {l : Launch} {O0 : Nat × Nat} {WF : Int32 → f_S3 → (Nat × Nat) → (f_S3 → Nat × Nat → Prop) → Prop} {rkF : Nat} {Q : f_S3 → Nat × Nat → Prop} (Z : b_Cx x g l RX7 cX7_noting 4 (rkF + 6) O0) (hret : f_RV x g 4 cX7_noting O0 Q) (hWF : ∀ (p0 : Int32) (M : f_S3) (O : Nat × Nat) (Q : f_S3 → Nat × Nat → Prop), WF p0 M O Q → f_MetV l g yX7_factor cX7_factor 5 rkF [.ref (b_o g 0), .int p0] M O Q) (a1 : Int32) (a2 : Int32) (M : f_S3) (O : Nat × Nat) (hw : wF_X7_noting_50 (b_N g) WF Q a1 a2 M O) : f_G x g 4 O0 M O 50 [(0, .ref (b_o g 0)), (1, .int a1), (2, .int a2)] [] := by
  refine ac_aload_n Z.1 0 dX7_noting_50 rfl ?_
  refine f_calli (As := []) (st := []) Z b_X7.1 0 (oR_0 hg) rfl kX7_question lkX7_222 (by omega) (soF_X7_question hg   _ _ _ hw) rfl rfl (Nat.le_of_ble_eq_true rfl) dX7_noting_51 (fun r4 M5 O5 hw => ?_)
  refine ac_istore_n (lv' := [(3, .int r4), (0, .ref (b_o g 0)), (1, .int a1), (2, .int a2)]) Z.1 dX7_noting_54 (by decide) rfl ?_
  refine ac_aload_n Z.1 1 dX7_noting_55 rfl ?_
  refine ac_iload_n Z.1 0 dX7_noting_56 rfl ?_
  refine ac_iload_n Z.1 3 dX7_noting_57 rfl ?_
  refine ac_iload_n Z.1 0 dX7_noting_58 rfl ?_
  refine ac_bipush (v := 23) Z.1 dX7_noting_59 (by decide) ?_
  obtain ⟨hwt, hwf⟩ := hw
  refine ac_icmp_ne (tgt := 71) Z.1 dX7_noting_61 (by decide) (fun hc => ?_) (fun hc => ?_)
  · have hw := hwt hc
    refine ac_aload_n Z.1 1 dX7_noting_71 rfl ?_
    refine f_calli (As := []) (st := [.int a2, .int r4, .ref (b_o g 0)]) Z b_X7.1 0 (oR_0 hg) rfl kX7_object lkX7_157 (by omega) (soF_X7_object hg   _ _ _ hw) rfl rfl (Nat.le_of_ble_eq_true rfl) dX7_noting_72 (fun r6 M7 O7 hw => ?_)
    refine ac_lv [1, 2] rfl ?_
    exact sF_X7_noting_75 hg Z hret hWF _ _ _ _ _ _ hw
  · have hw := hwf hc
    refine ac_aload_n Z.1 1 dX7_noting_64 rfl ?_
    refine f_calli (As := []) (st := [.int a2, .int r4, .ref (b_o g 0)]) Z b_X7.1 0 (oR_0 hg) rfl kX7_kind lkX7_208 (by omega) (soF_X7_kind hg   _ _ _ hw) rfl rfl (Nat.le_of_ble_eq_true rfl) dX7_noting_65 (fun r11 M12 O12 hw => ?_)
    refine ac_goto (tgt := 75) Z.1 dX7_noting_68 (by decide) ?_
    refine ac_lv [1, 2] rfl ?_
    exact sF_X7_noting_75 hg Z hret hWF _ _ _ _ _ _ hw
def wF_X7_noting (N : Nat → Nat) (WF : Int32 → f_S3 → (Nat × Nat) → (f_S3 → Nat × Nat → Prop) → Prop) (p1 : Int32) (M : f_S3) (O : Nat × Nat) (Q : f_S3 → Nat × Nat → Prop) : Prop := wF_X7_advance N M O (fun M1 O1 => (((M1.1 12) = 131 → (wF_X7_object N M1 O1 (fun r2 M3 O3 => (((M3.1 12) = 224 → (wF_X7_noting_50 N WF Q p1 r2 M3 O3)) ∧ (¬ (M3.1 12) = 224 → ((¬ (M3.1 12) = 225 → (wF_X7_emit_ N 30 r2 M3 O3 (fun M13 O13 => (Q M13 O13)))) ∧ ((M3.1 12) = 225 → (wF_X7_noting_50 N WF Q p1 r2 M3 O3)))))))) ∧ (¬ (M1.1 12) = 131 → (wF_X7_expression N WF p1 M1 O1 (fun M14 O14 => (wF_X7_emit N 1 M14 O14 (fun M15 O15 => (Q M15 O15))))))))
set_option maxRecDepth 20000 in
theorem soF_X7_noting {l : Launch} {g : b_S} (hg : g.1 = tb_R) {WF : Int32 → f_S3 → (Nat × Nat) → (f_S3 → Nat × Nat → Prop) → Prop} {rkF : Nat} (hWF : ∀ (p0 : Int32) (M : f_S3) (O : Nat × Nat) (Q : f_S3 → Nat × Nat → Prop), WF p0 M O Q → f_MetV l g yX7_factor cX7_factor 5 rkF [.ref (b_o g 0), .int p0] M O Q) (p1 : Int32) (M : f_S3) (O : Nat × Nat) (Q : f_S3 → Nat × Nat → Prop) (hw : wF_X7_noting (b_N g) WF p1 M O Q) : f_MetV l g yX7_noting cX7_noting 4 (rkF + 6) [.ref (b_o g 0), .int p1] M O Q := by
  refine f_MetV.of (C := RX7) (by decide) rfl (Nat.le_of_ble_eq_true rfl) (fun x Z hret => ?_)
  show f_G x g 4 O M O 0 [(0, .ref (b_o g 0)), (1, .int p1)] []
  refine ac_aload_n Z.1 0 dX7_noting_0 rfl ?_
  refine f_callv (As := []) (st := []) Z b_X7.1 0 (oR_0 hg) rfl kX7_advance lkX7_59 (by omega) (soF_X7_advance hg   _ _ _ hw) rfl rfl (Nat.le_of_ble_eq_true rfl) dX7_noting_1 (fun M1 O1 hw => ?_)
  refine ac_aload_n Z.1 0 dX7_noting_4 rfl ?_
  refine f_geti Z b_X7 0 (oR_0 hg) 12 (by decide) (by decide) (fR_12 hg) fX7_62 rfl (v := (M1.1 12)) rfl dX7_noting_5 ?_
  refine ac_sipush (v := 131) Z.1 dX7_noting_8 (by decide) ?_
  obtain ⟨hwt, hwf⟩ := hw
  refine ac_icmp_eq (tgt := 25) Z.1 dX7_noting_11 (by decide) (fun hc => ?_) (fun hc => ?_)
  · have hw := hwt hc
    refine ac_aload_n Z.1 0 dX7_noting_25 rfl ?_
    refine f_calli (As := []) (st := []) Z b_X7.1 0 (oR_0 hg) rfl kX7_object lkX7_157 (by omega) (soF_X7_object hg   _ _ _ hw) rfl rfl (Nat.le_of_ble_eq_true rfl) dX7_noting_26 (fun r2 M3 O3 hw => ?_)
    refine ac_istore_n (lv' := [(2, .int r2), (0, .ref (b_o g 0)), (1, .int p1)]) Z.1 dX7_noting_29 (by decide) rfl ?_
    refine ac_aload_n Z.1 1 dX7_noting_30 rfl ?_
    refine f_geti Z b_X7 0 (oR_0 hg) 12 (by decide) (by decide) (fR_12 hg) fX7_62 rfl (v := (M3.1 12)) rfl dX7_noting_31 ?_
    refine ac_sipush (v := 224) Z.1 dX7_noting_34 (by decide) ?_
    obtain ⟨hwt, hwf⟩ := hw
    refine ac_icmp_eq (tgt := 50) Z.1 dX7_noting_37 (by decide) (fun hc => ?_) (fun hc => ?_)
    · have hw := hwt hc
      refine ac_lv [1, 2, 0] rfl ?_
      exact sF_X7_noting_50 hg Z hret hWF _ _ _ _ hw
    · have hw := hwf hc
      refine ac_aload_n Z.1 1 dX7_noting_40 rfl ?_
      refine f_geti Z b_X7 0 (oR_0 hg) 12 (by decide) (by decide) (fR_12 hg) fX7_62 rfl (v := (M3.1 12)) rfl dX7_noting_41 ?_
      refine ac_sipush (v := 225) Z.1 dX7_noting_44 (by decide) ?_
      obtain ⟨hwt, hwf⟩ := hw
      refine ac_icmp_ne (tgt := 91) Z.1 dX7_noting_47 (by decide) (fun hc => ?_) (fun hc => ?_)
      · have hw := hwt hc
        refine ac_aload_n Z.1 1 dX7_noting_91 rfl ?_
        refine ac_bipush (v := 30) Z.1 dX7_noting_92 (by decide) ?_
        refine ac_iload_n Z.1 0 dX7_noting_94 rfl ?_
        refine f_callv (As := [.int 30, .int r2]) (st := []) Z b_X7.1 0 (oR_0 hg) rfl kX7_emit_ lkX7_122 (by omega) (soF_X7_emit_ hg  _ _ _ _ _ hw) rfl rfl (Nat.le_of_ble_eq_true rfl) dX7_noting_95 (fun M13 O13 hw => ?_)
        exact hret _ _ _ _ dX7_noting_98 hw
      · have hw := hwf hc
        refine ac_lv [1, 2, 0] rfl ?_
        exact sF_X7_noting_50 hg Z hret hWF _ _ _ _ hw
  · have hw := hwf hc
    refine ac_aload_n Z.1 0 dX7_noting_14 rfl ?_
    refine ac_iload_n Z.1 1 dX7_noting_15 rfl ?_
    refine f_callv (As := [.int p1]) (st := []) Z b_X7.1 0 (oR_0 hg) rfl kX7_expression lkX7_202 (by omega) (soF_X7_expression hg hWF _ _ _ _ hw) rfl rfl (Nat.le_of_ble_eq_true rfl) dX7_noting_16 (fun M14 O14 hw => ?_)
    refine ac_aload_n Z.1 0 dX7_noting_19 rfl ?_
    refine ac_iconst (v := 1) Z.1 dX7_noting_20 (by decide) ?_
    refine f_callv (As := [.int 1]) (st := []) Z b_X7.1 0 (oR_0 hg) rfl kX7_emit lkX7_125 (by omega) (soF_X7_emit hg  _ _ _ _ hw) rfl rfl (Nat.le_of_ble_eq_true rfl) dX7_noting_21 (fun M15 O15 hw => ?_)
    exact hret _ _ _ _ dX7_noting_24 hw
def wF_X7_keepHear (N : Nat → Nat) (p1 : Int32) (p2 : Int32) (M : f_S3) (O : Nat × Nat) (Q : f_S3 → Nat × Nat → Prop) : Prop := ((nI (N 26)) ≤ (M.1 8) → (Q M O)) ∧ (¬ (nI (N 26)) ≤ (M.1 8) → (((nI (N 27)) ≤ (M.1 8) → (Q M O)) ∧ (¬ (nI (N 27)) ≤ (M.1 8) → (vp_in (M.1 8) (N 26) ∧ (vp_in (M.1 8) (N 27) ∧ (Q (fm (ff (ff M 26 (M.1 8) p1) 27 (M.1 8) p2) 8 ((M.1 8) + 1)) O))))))
set_option maxRecDepth 20000 in
theorem soF_X7_keepHear {l : Launch} {g : b_S} (hg : g.1 = tb_R) (p1 : Int32) (p2 : Int32) (M : f_S3) (O : Nat × Nat) (Q : f_S3 → Nat × Nat → Prop) (hw : wF_X7_keepHear (b_N g) p1 p2 M O Q) : f_MetV l g yX7_keepHear cX7_keepHear 3 (0) [.ref (b_o g 0), .int p1, .int p2] M O Q := by
  refine f_MetV.of (C := RX7) (by decide) rfl (Nat.le_of_ble_eq_true rfl) (fun x Z hret => ?_)
  show f_G x g 3 O M O 0 [(0, .ref (b_o g 0)), (1, .int p1), (2, .int p2)] []
  refine ac_aload_n Z.1 0 dX7_keepHear_0 rfl ?_
  refine f_geti Z b_X7 0 (oR_0 hg) 8 (by decide) (by decide) (fR_8 hg) fX7_231 rfl (v := (M.1 8)) rfl dX7_keepHear_1 ?_
  refine ac_aload_n Z.1 0 dX7_keepHear_4 rfl ?_
  refine f_getr Z b_X7 0 (oR_0 hg) 5 (by decide) (by decide) (fR_5 hg) fX7_44 rfl (h2 := (b_o g 26)) rfl dX7_keepHear_5 ?_
  refine f_alen Z 13 (aR_26 hg) rfl (v := (nI (b_N g 26))) rfl dX7_keepHear_8 (by decide) ?_
  obtain ⟨hwt, hwf⟩ := hw
  refine ac_icmp_ge (tgt := 54) Z.1 dX7_keepHear_9 (by decide) (fun hc => ?_) (fun hc => ?_)
  · have hw := hwt hc
    exact hret _ _ _ _ dX7_keepHear_54 hw
  · have hw := hwf hc
    refine ac_aload_n Z.1 0 dX7_keepHear_12 rfl ?_
    refine f_geti Z b_X7 0 (oR_0 hg) 8 (by decide) (by decide) (fR_8 hg) fX7_231 rfl (v := (M.1 8)) rfl dX7_keepHear_13 ?_
    refine ac_aload_n Z.1 0 dX7_keepHear_16 rfl ?_
    refine f_getr Z b_X7 0 (oR_0 hg) 6 (by decide) (by decide) (fR_6 hg) fX7_47 rfl (h2 := (b_o g 27)) rfl dX7_keepHear_17 ?_
    refine f_alen Z 14 (aR_27 hg) rfl (v := (nI (b_N g 27))) rfl dX7_keepHear_20 (by decide) ?_
    obtain ⟨hwt, hwf⟩ := hw
    refine ac_icmp_ge (tgt := 54) Z.1 dX7_keepHear_21 (by decide) (fun hc => ?_) (fun hc => ?_)
    · have hw := hwt hc
      exact hret _ _ _ _ dX7_keepHear_54 hw
    · have hw := hwf hc
      refine ac_aload_n Z.1 0 dX7_keepHear_24 rfl ?_
      refine f_getr Z b_X7 0 (oR_0 hg) 5 (by decide) (by decide) (fR_5 hg) fX7_44 rfl (h2 := (b_o g 26)) rfl dX7_keepHear_25 ?_
      refine ac_aload_n Z.1 0 dX7_keepHear_28 rfl ?_
      refine f_geti Z b_X7 0 (oR_0 hg) 8 (by decide) (by decide) (fR_8 hg) fX7_231 rfl (v := (M.1 8)) rfl dX7_keepHear_29 ?_
      refine ac_iload_n Z.1 1 dX7_keepHear_32 rfl ?_
      obtain ⟨hb1, hw⟩ := hw
      refine f_ast Z 13 (aR_26 hg) rfl hb1 dX7_keepHear_33 ?_
      refine ac_aload_n Z.1 0 dX7_keepHear_34 rfl ?_
      refine f_getr Z b_X7 0 (oR_0 hg) 6 (by decide) (by decide) (fR_6 hg) fX7_47 rfl (h2 := (b_o g 27)) rfl dX7_keepHear_35 ?_
      refine ac_aload_n Z.1 0 dX7_keepHear_38 rfl ?_
      refine f_geti Z b_X7 0 (oR_0 hg) 8 (by decide) (by decide) (fR_8 hg) fX7_231 rfl (v := (M.1 8)) rfl dX7_keepHear_39 ?_
      refine ac_iload_n Z.1 2 dX7_keepHear_42 rfl ?_
      obtain ⟨hb2, hw⟩ := hw
      refine f_ast Z 14 (aR_27 hg) rfl hb2 dX7_keepHear_43 ?_
      refine ac_aload_n Z.1 0 dX7_keepHear_44 rfl ?_
      refine ac_dup Z.1 dX7_keepHear_45 rfl ?_
      refine f_geti Z b_X7 0 (oR_0 hg) 8 (by decide) (by decide) (fR_8 hg) fX7_231 rfl (v := (M.1 8)) rfl dX7_keepHear_46 ?_
      refine ac_iconst (v := 1) Z.1 dX7_keepHear_49 (by decide) ?_
      refine ac_iadd Z.1 dX7_keepHear_50 ?_
      refine f_put Z b_X7 0 (oR_0 hg) 8 (by decide) (by decide) (fR_8 hg) rfl rfl fX7_231 rfl (I := 8) rfl dX7_keepHear_51 ?_
      exact hret _ _ _ _ dX7_keepHear_54 hw
def wF_X7_hearingOther_88 (N : Nat → Nat) (WF : Int32 → f_S3 → (Nat × Nat) → (f_S3 → Nat × Nat → Prop) → Prop) (Q : f_S3 → Nat × Nat → Prop) (a2 : Int32) (a3 : Int32) (a4 : Int32) (M : f_S3) (O : Nat × Nat) : Prop := wF_X7_take N 41 M O (fun M4 O4 => (wF_X7_emit__ N 2 a2 a4 M4 O4 (fun M5 O5 => (wF_X7_keepHear N ((M5.1 63) - 2) a3 M5 O5 (fun M6 O6 => ((¬ (M6.1 12) = 211 → (wF_X7_emit N 10 M6 O6 (fun M7 O7 => (Q M7 O7)))) ∧ ((M6.1 12) = 211 → (wF_X7_advance N M6 O6 (fun M8 O8 => (wF_X7_name N M8 O8 (fun r9 M10 O10 => (wF_X7_emit_ N 9 r9 M10 O10 (fun M11 O11 => (Q M11 O11))))))))))))))
set_option maxRecDepth 20000 in
theorem sF_X7_hearingOther_88 {x : ac_X} {g : b_S} (hg : g.1 = tb_R) {l : Launch} {O0 : Nat × Nat} {WF : Int32 → f_S3 → (Nat × Nat) → (f_S3 → Nat × Nat → Prop) → Prop} {rkF : Nat} {Q : f_S3 → Nat × Nat → Prop} (Z : b_Cx x g l RX7 cX7_hearingOther 6 (rkF + 6) O0) (hret : f_RV x g 6 cX7_hearingOther O0 Q) (hWF : ∀ (p0 : Int32) (M : f_S3) (O : Nat × Nat) (Q : f_S3 → Nat × Nat → Prop), WF p0 M O Q → f_MetV l g yX7_factor cX7_factor 5 rkF [.ref (b_o g 0), .int p0] M O Q) (a2 : Int32) (a3 : Int32) (a4 : Int32) (M : f_S3) (O : Nat × Nat) (hw : wF_X7_hearingOther_88 (b_N g) WF Q a2 a3 a4 M O) : f_G x g 6 O0 M O 88 [(0, .ref (b_o g 0)), (2, .int a2), (3, .int a3), (4, .int a4)] [] := by
  refine ac_aload_n Z.1 0 dX7_hearingOther_88 rfl ?_
  refine ac_bipush (v := 41) Z.1 dX7_hearingOther_89 (by decide) ?_
  refine f_callv (As := [.int 41]) (st := []) Z b_X7.1 0 (oR_0 hg) rfl kX7_take lkX7_100 (by omega) (soF_X7_take hg  _ _ _ _ hw) rfl rfl (Nat.le_of_ble_eq_true rfl) dX7_hearingOther_91 (fun M4 O4 hw => ?_)
  refine ac_aload_n Z.1 0 dX7_hearingOther_94 rfl ?_
  refine ac_iconst (v := 2) Z.1 dX7_hearingOther_95 (by decide) ?_
  refine ac_iload_n Z.1 1 dX7_hearingOther_96 rfl ?_
  refine ac_iload Z.1 3 dX7_hearingOther_97 rfl ?_
  refine f_callv (As := [.int 2, .int a2, .int a4]) (st := []) Z b_X7.1 0 (oR_0 hg) rfl kX7_emit__ lkX7_214 (by omega) (soF_X7_emit__ hg  _ _ _ _ _ _ hw) rfl rfl (Nat.le_of_ble_eq_true rfl) dX7_hearingOther_99 (fun M5 O5 hw => ?_)
  refine ac_aload_n Z.1 0 dX7_hearingOther_102 rfl ?_
  refine ac_aload_n Z.1 0 dX7_hearingOther_103 rfl ?_
  refine f_getr Z b_X7 0 (oR_0 hg) 1 (by decide) (by decide) (fR_1 hg) fX7_31 rfl (h2 := (b_o g 3)) rfl dX7_hearingOther_104 ?_
  refine f_geti Z b_X6 3 (oR_3 hg) 3 (by decide) (by decide) (fR_63 hg) fX7_110 rfl (v := (M5.1 63)) rfl dX7_hearingOther_107 ?_
  refine ac_iconst (v := 2) Z.1 dX7_hearingOther_110 (by decide) ?_
  refine ac_isub Z.1 dX7_hearingOther_111 ?_
  refine ac_iload_n Z.1 2 dX7_hearingOther_112 rfl ?_
  refine f_callv (As := [.int ((M5.1 63) - 2), .int a3]) (st := []) Z b_X7.1 0 (oR_0 hg) rfl kX7_keepHear lkX7_228 (by omega) (soF_X7_keepHear hg  _ _ _ _ _ hw) rfl rfl (Nat.le_of_ble_eq_true rfl) dX7_hearingOther_113 (fun M6 O6 hw => ?_)
  refine ac_aload_n Z.1 0 dX7_hearingOther_116 rfl ?_
  refine f_geti Z b_X7 0 (oR_0 hg) 12 (by decide) (by decide) (fR_12 hg) fX7_62 rfl (v := (M6.1 12)) rfl dX7_hearingOther_117 ?_
  refine ac_sipush (v := 211) Z.1 dX7_hearingOther_120 (by decide) ?_
  obtain ⟨hwt, hwf⟩ := hw
  refine ac_icmp_ne (tgt := 143) Z.1 dX7_hearingOther_123 (by decide) (fun hc => ?_) (fun hc => ?_)
  · have hw := hwt hc
    refine ac_aload_n Z.1 0 dX7_hearingOther_143 rfl ?_
    refine ac_bipush (v := 10) Z.1 dX7_hearingOther_144 (by decide) ?_
    refine f_callv (As := [.int 10]) (st := []) Z b_X7.1 0 (oR_0 hg) rfl kX7_emit lkX7_125 (by omega) (soF_X7_emit hg  _ _ _ _ hw) rfl rfl (Nat.le_of_ble_eq_true rfl) dX7_hearingOther_146 (fun M7 O7 hw => ?_)
    exact hret _ _ _ _ dX7_hearingOther_149 hw
  · have hw := hwf hc
    refine ac_aload_n Z.1 0 dX7_hearingOther_126 rfl ?_
    refine f_callv (As := []) (st := []) Z b_X7.1 0 (oR_0 hg) rfl kX7_advance lkX7_59 (by omega) (soF_X7_advance hg   _ _ _ hw) rfl rfl (Nat.le_of_ble_eq_true rfl) dX7_hearingOther_127 (fun M8 O8 hw => ?_)
    refine ac_aload_n Z.1 0 dX7_hearingOther_130 rfl ?_
    refine ac_bipush (v := 9) Z.1 dX7_hearingOther_131 (by decide) ?_
    refine ac_aload_n Z.1 0 dX7_hearingOther_133 rfl ?_
    refine f_calli (As := []) (st := [.int 9, .ref (b_o g 0)]) Z b_X7.1 0 (oR_0 hg) rfl kX7_name lkX7_211 (by omega) (soF_X7_name hg   _ _ _ hw) rfl rfl (Nat.le_of_ble_eq_true rfl) dX7_hearingOther_134 (fun r9 M10 O10 hw => ?_)
    refine f_callv (As := [.int 9, .int r9]) (st := []) Z b_X7.1 0 (oR_0 hg) rfl kX7_emit_ lkX7_122 (by omega) (soF_X7_emit_ hg  _ _ _ _ _ hw) rfl rfl (Nat.le_of_ble_eq_true rfl) dX7_hearingOther_137 (fun M11 O11 hw => ?_)
    refine ac_goto (tgt := 149) Z.1 dX7_hearingOther_140 (by decide) ?_
    exact hret _ _ _ _ dX7_hearingOther_149 hw
def wF_X7_hearingOther_72 (N : Nat → Nat) (WF : Int32 → f_S3 → (Nat × Nat) → (f_S3 → Nat × Nat → Prop) → Prop) (K34 : (Int32 → Int32 → Int32 → Int32 → Int32 → f_S3 → (Nat × Nat) → Prop)) (Q : f_S3 → Nat × Nat → Prop) (a1 : Int32) (a2 : Int32) (a3 : Int32) (a4 : Int32) (a5 : Int32) (M : f_S3) (O : Nat × Nat) : Prop := wF_X7_expression N WF (a1 + 1) M O (fun M12 O12 => (K34 a1 a2 a3 (a4 + 1) (a5 + 1) M12 O12))
set_option maxRecDepth 20000 in
theorem sF_X7_hearingOther_72 {x : ac_X} {g : b_S} (hg : g.1 = tb_R) {l : Launch} {O0 : Nat × Nat} {WF : Int32 → f_S3 → (Nat × Nat) → (f_S3 → Nat × Nat → Prop) → Prop} {rkF : Nat} {K34 : (Int32 → Int32 → Int32 → Int32 → Int32 → f_S3 → (Nat × Nat) → Prop)} {Q : f_S3 → Nat × Nat → Prop} (Z : b_Cx x g l RX7 cX7_hearingOther 6 (rkF + 6) O0) (hret : f_RV x g 6 cX7_hearingOther O0 Q) (hWF : ∀ (p0 : Int32) (M : f_S3) (O : Nat × Nat) (Q : f_S3 → Nat × Nat → Prop), WF p0 M O Q → f_MetV l g yX7_factor cX7_factor 5 rkF [.ref (b_o g 0), .int p0] M O Q) (hK34 : ∀ (a1 : Int32) (a2 : Int32) (a3 : Int32) (a4 : Int32) (a5 : Int32) (M : f_S3) (O : Nat × Nat), K34 a1 a2 a3 a4 a5 M O → f_G x g 6 O0 M O 34 [(0, .ref (b_o g 0)), (1, .int a1), (2, .int a2), (3, .int a3), (4, .int a4), (5, .int a5)] []) (a1 : Int32) (a2 : Int32) (a3 : Int32) (a4 : Int32) (a5 : Int32) (M : f_S3) (O : Nat × Nat) (hw : wF_X7_hearingOther_72 (b_N g) WF K34 Q a1 a2 a3 a4 a5 M O) : f_G x g 6 O0 M O 72 [(0, .ref (b_o g 0)), (1, .int a1), (2, .int a2), (3, .int a3), (4, .int a4), (5, .int a5)] [] := by
  refine ac_aload_n Z.1 0 dX7_hearingOther_72 rfl ?_
  refine ac_iload_n Z.1 1 dX7_hearingOther_73 rfl ?_
  refine ac_iconst (v := 1) Z.1 dX7_hearingOther_74 (by decide) ?_
  refine ac_iadd Z.1 dX7_hearingOther_75 ?_
  refine f_callv (As := [.int (a1 + 1)]) (st := []) Z b_X7.1 0 (oR_0 hg) rfl kX7_expression lkX7_202 (by omega) (soF_X7_expression hg hWF _ _ _ _ hw) rfl rfl (Nat.le_of_ble_eq_true rfl) dX7_hearingOther_76 (fun M12 O12 hw => ?_)
  refine ac_iinc (w := (a4 + 1)) (lv' := [(4, .int (a4 + 1)), (0, .ref (b_o g 0)), (1, .int a1), (2, .int a2), (3, .int a3), (5, .int a5)]) Z.1 4 dX7_hearingOther_79 rfl rfl (by decide) rfl ?_
  refine ac_iinc (w := (a5 + 1)) (lv' := [(5, .int (a5 + 1)), (4, .int (a4 + 1)), (0, .ref (b_o g 0)), (1, .int a1), (2, .int a2), (3, .int a3)]) Z.1 5 dX7_hearingOther_82 rfl rfl (by decide) rfl ?_
  refine ac_goto (tgt := 34) Z.1 dX7_hearingOther_85 (by decide) ?_
  refine ac_lv [2, 3, 4, 5, 1, 0] rfl ?_
  exact hK34 _ _ _ _ _ _ _ hw
def wF_X7_hearingOther_34 (N : Nat → Nat) (WF : Int32 → f_S3 → (Nat × Nat) → (f_S3 → Nat × Nat → Prop) → Prop) (Q : f_S3 → Nat × Nat → Prop) : Nat → Int32 → Int32 → Int32 → Int32 → Int32 → f_S3 → Nat × Nat → Prop
  | 0 => fun _ _ _ _ _ _ _ => False
  | n + 1 => fun a1 a2 a3 a4 a5 M O => ((4000 < a5 → (wF_X7_hearingOther_88 N WF Q a2 a3 a4 M O)) ∧ (¬ 4000 < a5 → (((M.1 12) = 41 → (wF_X7_hearingOther_88 N WF Q a2 a3 a4 M O)) ∧ (¬ (M.1 12) = 41 → (((M.1 12) = 137 → (wF_X7_hearingOther_88 N WF Q a2 a3 a4 M O)) ∧ (¬ (M.1 12) = 137 → ((a4 ≤ 0 → (wF_X7_hearingOther_72 N WF (wF_X7_hearingOther_34 N WF Q n) Q a1 a2 a3 a4 a5 M O)) ∧ (¬ a4 ≤ 0 → (wF_X7_take N 44 M O (fun M13 O13 => (wF_X7_hearingOther_72 N WF (wF_X7_hearingOther_34 N WF Q n) Q a1 a2 a3 a4 a5 M13 O13)))))))))))
set_option maxRecDepth 20000 in
theorem sF_X7_hearingOther_34 {x : ac_X} {g : b_S} (hg : g.1 = tb_R) {l : Launch} {O0 : Nat × Nat} {WF : Int32 → f_S3 → (Nat × Nat) → (f_S3 → Nat × Nat → Prop) → Prop} {rkF : Nat} {Q : f_S3 → Nat × Nat → Prop} (Z : b_Cx x g l RX7 cX7_hearingOther 6 (rkF + 6) O0) (hret : f_RV x g 6 cX7_hearingOther O0 Q) (hWF : ∀ (p0 : Int32) (M : f_S3) (O : Nat × Nat) (Q : f_S3 → Nat × Nat → Prop), WF p0 M O Q → f_MetV l g yX7_factor cX7_factor 5 rkF [.ref (b_o g 0), .int p0] M O Q) : ∀ (n : Nat) (a1 : Int32) (a2 : Int32) (a3 : Int32) (a4 : Int32) (a5 : Int32) (M : f_S3) (O : Nat × Nat), wF_X7_hearingOther_34 (b_N g) WF Q n a1 a2 a3 a4 a5 M O → f_G x g 6 O0 M O 34 [(0, .ref (b_o g 0)), (1, .int a1), (2, .int a2), (3, .int a3), (4, .int a4), (5, .int a5)] [] := by
  intro n
  induction n with
  | zero => intro _ _ _ _ _ _ _ hw; exact hw.elim
  | succ n ih =>
    intro a1 a2 a3 a4 a5 M O hw
    dsimp only [wF_X7_hearingOther_34] at hw
    refine ac_iload Z.1 5 dX7_hearingOther_34 rfl ?_
    refine ac_sipush (v := 4000) Z.1 dX7_hearingOther_36 (by decide) ?_
    obtain ⟨hwt, hwf⟩ := hw
    refine ac_icmp_gt (tgt := 88) Z.1 dX7_hearingOther_39 (by decide) (fun hc => ?_) (fun hc => ?_)
    · have hw := hwt hc
      refine ac_lv [0, 2, 3, 4] rfl ?_
      exact sF_X7_hearingOther_88 hg Z hret hWF _ _ _ _ _ hw
    · have hw := hwf hc
      refine ac_aload_n Z.1 0 dX7_hearingOther_42 rfl ?_
      refine f_geti Z b_X7 0 (oR_0 hg) 12 (by decide) (by decide) (fR_12 hg) fX7_62 rfl (v := (M.1 12)) rfl dX7_hearingOther_43 ?_
      refine ac_bipush (v := 41) Z.1 dX7_hearingOther_46 (by decide) ?_
      obtain ⟨hwt, hwf⟩ := hw
      refine ac_icmp_eq (tgt := 88) Z.1 dX7_hearingOther_48 (by decide) (fun hc => ?_) (fun hc => ?_)
      · have hw := hwt hc
        refine ac_lv [0, 2, 3, 4] rfl ?_
        exact sF_X7_hearingOther_88 hg Z hret hWF _ _ _ _ _ hw
      · have hw := hwf hc
        refine ac_aload_n Z.1 0 dX7_hearingOther_51 rfl ?_
        refine f_geti Z b_X7 0 (oR_0 hg) 12 (by decide) (by decide) (fR_12 hg) fX7_62 rfl (v := (M.1 12)) rfl dX7_hearingOther_52 ?_
        refine ac_sipush (v := 137) Z.1 dX7_hearingOther_55 (by decide) ?_
        obtain ⟨hwt, hwf⟩ := hw
        refine ac_icmp_eq (tgt := 88) Z.1 dX7_hearingOther_58 (by decide) (fun hc => ?_) (fun hc => ?_)
        · have hw := hwt hc
          refine ac_lv [0, 2, 3, 4] rfl ?_
          exact sF_X7_hearingOther_88 hg Z hret hWF _ _ _ _ _ hw
        · have hw := hwf hc
          refine ac_iload Z.1 4 dX7_hearingOther_61 rfl ?_
          obtain ⟨hwt, hwf⟩ := hw
          refine ac_if_le (tgt := 72) Z.1 dX7_hearingOther_63 (by decide) (fun hc => ?_) (fun hc => ?_)
          · have hw := hwt hc
            exact sF_X7_hearingOther_72 hg Z hret hWF ih _ _ _ _ _ _ _ hw
          · have hw := hwf hc
            refine ac_aload_n Z.1 0 dX7_hearingOther_66 rfl ?_
            refine ac_bipush (v := 44) Z.1 dX7_hearingOther_67 (by decide) ?_
            refine f_callv (As := [.int 44]) (st := []) Z b_X7.1 0 (oR_0 hg) rfl kX7_take lkX7_100 (by omega) (soF_X7_take hg  _ _ _ _ hw) rfl rfl (Nat.le_of_ble_eq_true rfl) dX7_hearingOther_69 (fun M13 O13 hw => ?_)
            exact sF_X7_hearingOther_72 hg Z hret hWF ih _ _ _ _ _ _ _ hw
def wF_X7_hearingOther (N : Nat → Nat) (WF : Int32 → f_S3 → (Nat × Nat) → (f_S3 → Nat × Nat → Prop) → Prop) (p1 : Int32) (M : f_S3) (O : Nat × Nat) (Q : f_S3 → Nat × Nat → Prop) : Prop := wF_X7_advance N M O (fun M1 O1 => (wF_X7_take N 130 M1 O1 (fun M2 O2 => (wF_X7_takeOpening N 40 p1 M2 O2 (fun M3 O3 => (∃ e34, wF_X7_hearingOther_34 N WF Q e34 p1 (M1.1 13) (M1.1 14) 0 0 M3 O3))))))
set_option maxRecDepth 20000 in
theorem soF_X7_hearingOther {l : Launch} {g : b_S} (hg : g.1 = tb_R) {WF : Int32 → f_S3 → (Nat × Nat) → (f_S3 → Nat × Nat → Prop) → Prop} {rkF : Nat} (hWF : ∀ (p0 : Int32) (M : f_S3) (O : Nat × Nat) (Q : f_S3 → Nat × Nat → Prop), WF p0 M O Q → f_MetV l g yX7_factor cX7_factor 5 rkF [.ref (b_o g 0), .int p0] M O Q) (p1 : Int32) (M : f_S3) (O : Nat × Nat) (Q : f_S3 → Nat × Nat → Prop) (hw : wF_X7_hearingOther (b_N g) WF p1 M O Q) : f_MetV l g yX7_hearingOther cX7_hearingOther 6 (rkF + 6) [.ref (b_o g 0), .int p1] M O Q := by
  refine f_MetV.of (C := RX7) (by decide) rfl (Nat.le_of_ble_eq_true rfl) (fun x Z hret => ?_)
  show f_G x g 6 O M O 0 [(0, .ref (b_o g 0)), (1, .int p1)] []
  refine ac_aload_n Z.1 0 dX7_hearingOther_0 rfl ?_
  refine f_callv (As := []) (st := []) Z b_X7.1 0 (oR_0 hg) rfl kX7_advance lkX7_59 (by omega) (soF_X7_advance hg   _ _ _ hw) rfl rfl (Nat.le_of_ble_eq_true rfl) dX7_hearingOther_1 (fun M1 O1 hw => ?_)
  refine ac_aload_n Z.1 0 dX7_hearingOther_4 rfl ?_
  refine f_geti Z b_X7 0 (oR_0 hg) 13 (by decide) (by decide) (fR_13 hg) fX7_84 rfl (v := (M1.1 13)) rfl dX7_hearingOther_5 ?_
  refine ac_istore_n (lv' := [(2, .int (M1.1 13)), (0, .ref (b_o g 0)), (1, .int p1)]) Z.1 dX7_hearingOther_8 (by decide) rfl ?_
  refine ac_aload_n Z.1 1 dX7_hearingOther_9 rfl ?_
  refine f_geti Z b_X7 0 (oR_0 hg) 14 (by decide) (by decide) (fR_14 hg) fX7_90 rfl (v := (M1.1 14)) rfl dX7_hearingOther_10 ?_
  refine ac_istore_n (lv' := [(3, .int (M1.1 14)), (2, .int (M1.1 13)), (0, .ref (b_o g 0)), (1, .int p1)]) Z.1 dX7_hearingOther_13 (by decide) rfl ?_
  refine ac_aload_n Z.1 2 dX7_hearingOther_14 rfl ?_
  refine ac_sipush (v := 130) Z.1 dX7_hearingOther_15 (by decide) ?_
  refine f_callv (As := [.int 130]) (st := []) Z b_X7.1 0 (oR_0 hg) rfl kX7_take lkX7_100 (by omega) (soF_X7_take hg  _ _ _ _ hw) rfl rfl (Nat.le_of_ble_eq_true rfl) dX7_hearingOther_18 (fun M2 O2 hw => ?_)
  refine ac_aload_n Z.1 2 dX7_hearingOther_21 rfl ?_
  refine ac_bipush (v := 40) Z.1 dX7_hearingOther_22 (by decide) ?_
  refine ac_iload_n Z.1 3 dX7_hearingOther_24 rfl ?_
  refine f_callv (As := [.int 40, .int p1]) (st := []) Z b_X7.1 0 (oR_0 hg) rfl kX7_takeOpening lkX7_106 (by omega) (soF_X7_takeOpening hg  _ _ _ _ _ hw) rfl rfl (Nat.le_of_ble_eq_true rfl) dX7_hearingOther_25 (fun M3 O3 hw => ?_)
  refine ac_iconst (v := 0) Z.1 dX7_hearingOther_28 (by decide) ?_
  refine ac_istore (lv' := [(4, .int 0), (3, .int (M1.1 14)), (2, .int (M1.1 13)), (0, .ref (b_o g 0)), (1, .int p1)]) Z.1 dX7_hearingOther_29 (by decide) rfl ?_
  refine ac_iconst (v := 0) Z.1 dX7_hearingOther_31 (by decide) ?_
  refine ac_istore (lv' := [(5, .int 0), (4, .int 0), (3, .int (M1.1 14)), (2, .int (M1.1 13)), (0, .ref (b_o g 0)), (1, .int p1)]) Z.1 dX7_hearingOther_32 (by decide) rfl ?_
  obtain ⟨n, hw⟩ := hw
  refine ac_lv [4, 5, 3, 2, 1, 0] rfl ?_
  exact sF_X7_hearingOther_34 hg Z hret hWF n _ _ _ _ _ _ _ hw
def wF_X7_resting_28 (N : Nat → Nat) (WF : Int32 → f_S3 → (Nat × Nat) → (f_S3 → Nat × Nat → Prop) → Prop) (Q : f_S3 → Nat × Nat → Prop) (M : f_S3) (O : Nat × Nat) : Prop := wF_X7_emit N 3 M O (fun M3 O3 => (Q M3 O3))
set_option maxRecDepth 20000 in
theorem sF_X7_resting_28 {x : ac_X} {g : b_S} (hg : g.1 = tb_R) {l : Launch} {O0 : Nat × Nat} {WF : Int32 → f_S3 → (Nat × Nat) → (f_S3 → Nat × Nat → Prop) → Prop} {rkF : Nat} {Q : f_S3 → Nat × Nat → Prop} (Z : b_Cx x g l RX7 cX7_resting 2 (rkF + 6) O0) (hret : f_RV x g 2 cX7_resting O0 Q) (hWF : ∀ (p0 : Int32) (M : f_S3) (O : Nat × Nat) (Q : f_S3 → Nat × Nat → Prop), WF p0 M O Q → f_MetV l g yX7_factor cX7_factor 5 rkF [.ref (b_o g 0), .int p0] M O Q) (M : f_S3) (O : Nat × Nat) (hw : wF_X7_resting_28 (b_N g) WF Q M O) : f_G x g 2 O0 M O 28 [(0, .ref (b_o g 0))] [] := by
  refine ac_aload_n Z.1 0 dX7_resting_28 rfl ?_
  refine ac_iconst (v := 3) Z.1 dX7_resting_29 (by decide) ?_
  refine f_callv (As := [.int 3]) (st := []) Z b_X7.1 0 (oR_0 hg) rfl kX7_emit lkX7_125 (by omega) (soF_X7_emit hg  _ _ _ _ hw) rfl rfl (Nat.le_of_ble_eq_true rfl) dX7_resting_30 (fun M3 O3 hw => ?_)
  exact hret _ _ _ _ dX7_resting_33 hw
def wF_X7_resting (N : Nat → Nat) (WF : Int32 → f_S3 → (Nat × Nat) → (f_S3 → Nat × Nat → Prop) → Prop) (p1 : Int32) (M : f_S3) (O : Nat × Nat) (Q : f_S3 → Nat × Nat → Prop) : Prop := wF_X7_advance N M O (fun M1 O1 => ((¬ (M1.1 12) = 59 → (wF_X7_expression N WF p1 M1 O1 (fun M2 O2 => (wF_X7_resting_28 N WF Q M2 O2)))) ∧ ((M1.1 12) = 59 → (wF_X7_emit_ N 7 0 M1 O1 (fun M4 O4 => (wF_X7_resting_28 N WF Q M4 O4))))))
set_option maxRecDepth 20000 in
theorem soF_X7_resting {l : Launch} {g : b_S} (hg : g.1 = tb_R) {WF : Int32 → f_S3 → (Nat × Nat) → (f_S3 → Nat × Nat → Prop) → Prop} {rkF : Nat} (hWF : ∀ (p0 : Int32) (M : f_S3) (O : Nat × Nat) (Q : f_S3 → Nat × Nat → Prop), WF p0 M O Q → f_MetV l g yX7_factor cX7_factor 5 rkF [.ref (b_o g 0), .int p0] M O Q) (p1 : Int32) (M : f_S3) (O : Nat × Nat) (Q : f_S3 → Nat × Nat → Prop) (hw : wF_X7_resting (b_N g) WF p1 M O Q) : f_MetV l g yX7_resting cX7_resting 2 (rkF + 6) [.ref (b_o g 0), .int p1] M O Q := by
  refine f_MetV.of (C := RX7) (by decide) rfl (Nat.le_of_ble_eq_true rfl) (fun x Z hret => ?_)
  show f_G x g 2 O M O 0 [(0, .ref (b_o g 0)), (1, .int p1)] []
  refine ac_aload_n Z.1 0 dX7_resting_0 rfl ?_
  refine f_callv (As := []) (st := []) Z b_X7.1 0 (oR_0 hg) rfl kX7_advance lkX7_59 (by omega) (soF_X7_advance hg   _ _ _ hw) rfl rfl (Nat.le_of_ble_eq_true rfl) dX7_resting_1 (fun M1 O1 hw => ?_)
  refine ac_aload_n Z.1 0 dX7_resting_4 rfl ?_
  refine f_geti Z b_X7 0 (oR_0 hg) 12 (by decide) (by decide) (fR_12 hg) fX7_62 rfl (v := (M1.1 12)) rfl dX7_resting_5 ?_
  refine ac_bipush (v := 59) Z.1 dX7_resting_8 (by decide) ?_
  obtain ⟨hwt, hwf⟩ := hw
  refine ac_icmp_ne (tgt := 23) Z.1 dX7_resting_10 (by decide) (fun hc => ?_) (fun hc => ?_)
  · have hw := hwt hc
    refine ac_aload_n Z.1 0 dX7_resting_23 rfl ?_
    refine ac_iload_n Z.1 1 dX7_resting_24 rfl ?_
    refine f_callv (As := [.int p1]) (st := []) Z b_X7.1 0 (oR_0 hg) rfl kX7_expression lkX7_202 (by omega) (soF_X7_expression hg hWF _ _ _ _ hw) rfl rfl (Nat.le_of_ble_eq_true rfl) dX7_resting_25 (fun M2 O2 hw => ?_)
    refine ac_lv [0] rfl ?_
    exact sF_X7_resting_28 hg Z hret hWF _ _ hw
  · have hw := hwf hc
    refine ac_aload_n Z.1 0 dX7_resting_13 rfl ?_
    refine ac_bipush (v := 7) Z.1 dX7_resting_14 (by decide) ?_
    refine ac_iconst (v := 0) Z.1 dX7_resting_16 (by decide) ?_
    refine f_callv (As := [.int 7, .int 0]) (st := []) Z b_X7.1 0 (oR_0 hg) rfl kX7_emit_ lkX7_122 (by omega) (soF_X7_emit_ hg  _ _ _ _ _ hw) rfl rfl (Nat.le_of_ble_eq_true rfl) dX7_resting_17 (fun M4 O4 hw => ?_)
    refine ac_goto (tgt := 28) Z.1 dX7_resting_20 (by decide) ?_
    refine ac_lv [0] rfl ?_
    exact sF_X7_resting_28 hg Z hret hWF _ _ hw
def wF_X7_statement_236 (N : Nat → Nat) (WF : Int32 → f_S3 → (Nat × Nat) → (f_S3 → Nat × Nat → Prop) → Prop) (WB : Int32 → f_S3 → (Nat × Nat) → (f_S3 → Nat × Nat → Prop) → Prop) (Q : f_S3 → Nat × Nat → Prop) (M : f_S3) (O : Nat × Nat) : Prop := wF_X7_take N 59 M O (fun M4 O4 => (Q M4 O4))
set_option maxRecDepth 20000 in
theorem sF_X7_statement_236 {x : ac_X} {g : b_S} (hg : g.1 = tb_R) {l : Launch} {O0 : Nat × Nat} {WF : Int32 → f_S3 → (Nat × Nat) → (f_S3 → Nat × Nat → Prop) → Prop} {WB : Int32 → f_S3 → (Nat × Nat) → (f_S3 → Nat × Nat → Prop) → Prop} {rkF : Nat} {rkB : Nat} {Q : f_S3 → Nat × Nat → Prop} (Z : b_Cx x g l RX7 cX7_statement 3 (rkB + 4) O0) (hret : f_RV x g 3 cX7_statement O0 Q) (hWF : ∀ (p0 : Int32) (M : f_S3) (O : Nat × Nat) (Q : f_S3 → Nat × Nat → Prop), WF p0 M O Q → f_MetV l g yX7_factor cX7_factor 5 rkF [.ref (b_o g 0), .int p0] M O Q) (hWB : ∀ (p0 : Int32) (M : f_S3) (O : Nat × Nat) (Q : f_S3 → Nat × Nat → Prop), WB p0 M O Q → f_MetV l g yX7_block cX7_block 3 rkB [.ref (b_o g 0), .int p0] M O Q) (hFB : rkF + 60 ≤ rkB) (M : f_S3) (O : Nat × Nat) (hw : wF_X7_statement_236 (b_N g) WF WB Q M O) : f_G x g 3 O0 M O 236 [(0, .ref (b_o g 0))] [] := by
  refine ac_aload_n Z.1 0 dX7_statement_236 rfl ?_
  refine ac_bipush (v := 59) Z.1 dX7_statement_237 (by decide) ?_
  refine f_callv (As := [.int 59]) (st := []) Z b_X7.1 0 (oR_0 hg) rfl kX7_take lkX7_100 (by omega) (soF_X7_take hg  _ _ _ _ hw) rfl rfl (Nat.le_of_ble_eq_true rfl) dX7_statement_239 (fun M4 O4 hw => ?_)
  exact hret _ _ _ _ dX7_statement_242 hw
def wF_X7_statement (N : Nat → Nat) (WF : Int32 → f_S3 → (Nat × Nat) → (f_S3 → Nat × Nat → Prop) → Prop) (WB : Int32 → f_S3 → (Nat × Nat) → (f_S3 → Nat × Nat → Prop) → Prop) (p1 : Int32) (M : f_S3) (O : Nat × Nat) (Q : f_S3 → Nat × Nat → Prop) : Prop := ((M.1 12) = 213 → (wF_X7_choice N WF WB p1 M O (fun M1 O1 => (Q M1 O1)))) ∧ ((M.1 12) = 214 → (wF_X7_emit N 0 M O (fun M2 O2 => (((M2.1 12) = 130 → (wF_X7_assignment N WF p1 M2 O2 (fun M3 O3 => (wF_X7_statement_236 N WF WB Q M3 O3)))) ∧ ((M2.1 12) = 201 → (wF_X7_let N WF p1 M2 O2 (fun M5 O5 => (wF_X7_statement_236 N WF WB Q M5 O5)))) ∧ ((M2.1 12) = 202 → (wF_X7_advance N M2 O2 (fun M6 O6 => (wF_X7_object N M6 O6 (fun r7 M8 O8 => (wF_X7_take N 61 M8 O8 (fun M9 O9 => (wF_X9_isKind N (M9.1 12) M9 O9 (fun r10 M11 O11 => ((r10 = 0 → (wF_X7_otherObjection N r7 M11 O11 (fun M12 O12 => (wF_X7_statement_236 N WF WB Q M12 O12)))) ∧ (¬ r10 = 0 → (wF_X7_newObjection N WF r7 p1 M11 O11 (fun M13 O13 => (wF_X7_statement_236 N WF WB Q M13 O13)))))))))))))) ∧ ((M2.1 12) = 206 → (wF_X7_raising N M2 O2 (fun M14 O14 => (wF_X7_statement_236 N WF WB Q M14 O14)))) ∧ ((M2.1 12) = 207 → (wF_X7_joining N M2 O2 (fun M15 O15 => (wF_X7_statement_236 N WF WB Q M15 O15)))) ∧ ((M2.1 12) = 209 → (wF_X7_noting N WF p1 M2 O2 (fun M16 O16 => (wF_X7_statement_236 N WF WB Q M16 O16)))) ∧ ((M2.1 12) = 210 → (wF_X7_hearingOther N WF p1 M2 O2 (fun M17 O17 => (wF_X7_statement_236 N WF WB Q M17 O17)))) ∧ ((M2.1 12) = 212 → (wF_X7_resting N WF p1 M2 O2 (fun M18 O18 => (wF_X7_statement_236 N WF WB Q M18 O18)))) ∧ (¬ (M2.1 12) = 130 → ¬ (M2.1 12) = 201 → ¬ (M2.1 12) = 202 → ¬ (M2.1 12) = 206 → ¬ (M2.1 12) = 207 → ¬ (M2.1 12) = 209 → ¬ (M2.1 12) = 210 → ¬ (M2.1 12) = 212 → (wF_X7_fail N M2 O2 (fun M19 O19 => (wF_X7_statement_236 N WF WB Q M19 O19)))))))) ∧ ((M.1 12) = 215 → (wF_X7_loop N WF WB p1 M O (fun M20 O20 => (Q M20 O20)))) ∧ ((M.1 12) = 216 → (wF_X7_attempt N WB p1 M O (fun M21 O21 => (Q M21 O21)))) ∧ (¬ (M.1 12) = 213 → ¬ (M.1 12) = 214 → ¬ (M.1 12) = 215 → ¬ (M.1 12) = 216 → (wF_X7_emit N 0 M O (fun M22 O22 => (((M22.1 12) = 130 → (wF_X7_assignment N WF p1 M22 O22 (fun M23 O23 => (wF_X7_statement_236 N WF WB Q M23 O23)))) ∧ ((M22.1 12) = 201 → (wF_X7_let N WF p1 M22 O22 (fun M24 O24 => (wF_X7_statement_236 N WF WB Q M24 O24)))) ∧ ((M22.1 12) = 202 → (wF_X7_advance N M22 O22 (fun M25 O25 => (wF_X7_object N M25 O25 (fun r26 M27 O27 => (wF_X7_take N 61 M27 O27 (fun M28 O28 => (wF_X9_isKind N (M28.1 12) M28 O28 (fun r29 M30 O30 => ((r29 = 0 → (wF_X7_otherObjection N r26 M30 O30 (fun M31 O31 => (wF_X7_statement_236 N WF WB Q M31 O31)))) ∧ (¬ r29 = 0 → (wF_X7_newObjection N WF r26 p1 M30 O30 (fun M32 O32 => (wF_X7_statement_236 N WF WB Q M32 O32)))))))))))))) ∧ ((M22.1 12) = 206 → (wF_X7_raising N M22 O22 (fun M33 O33 => (wF_X7_statement_236 N WF WB Q M33 O33)))) ∧ ((M22.1 12) = 207 → (wF_X7_joining N M22 O22 (fun M34 O34 => (wF_X7_statement_236 N WF WB Q M34 O34)))) ∧ ((M22.1 12) = 209 → (wF_X7_noting N WF p1 M22 O22 (fun M35 O35 => (wF_X7_statement_236 N WF WB Q M35 O35)))) ∧ ((M22.1 12) = 210 → (wF_X7_hearingOther N WF p1 M22 O22 (fun M36 O36 => (wF_X7_statement_236 N WF WB Q M36 O36)))) ∧ ((M22.1 12) = 212 → (wF_X7_resting N WF p1 M22 O22 (fun M37 O37 => (wF_X7_statement_236 N WF WB Q M37 O37)))) ∧ (¬ (M22.1 12) = 130 → ¬ (M22.1 12) = 201 → ¬ (M22.1 12) = 202 → ¬ (M22.1 12) = 206 → ¬ (M22.1 12) = 207 → ¬ (M22.1 12) = 209 → ¬ (M22.1 12) = 210 → ¬ (M22.1 12) = 212 → (wF_X7_fail N M22 O22 (fun M38 O38 => (wF_X7_statement_236 N WF WB Q M38 O38))))))))
set_option maxRecDepth 20000 in
theorem soF_X7_statement {l : Launch} {g : b_S} (hg : g.1 = tb_R) {WF : Int32 → f_S3 → (Nat × Nat) → (f_S3 → Nat × Nat → Prop) → Prop} {WB : Int32 → f_S3 → (Nat × Nat) → (f_S3 → Nat × Nat → Prop) → Prop} {rkF : Nat} {rkB : Nat} (hWF : ∀ (p0 : Int32) (M : f_S3) (O : Nat × Nat) (Q : f_S3 → Nat × Nat → Prop), WF p0 M O Q → f_MetV l g yX7_factor cX7_factor 5 rkF [.ref (b_o g 0), .int p0] M O Q) (hWB : ∀ (p0 : Int32) (M : f_S3) (O : Nat × Nat) (Q : f_S3 → Nat × Nat → Prop), WB p0 M O Q → f_MetV l g yX7_block cX7_block 3 rkB [.ref (b_o g 0), .int p0] M O Q) (hFB : rkF + 60 ≤ rkB) (p1 : Int32) (M : f_S3) (O : Nat × Nat) (Q : f_S3 → Nat × Nat → Prop) (hw : wF_X7_statement (b_N g) WF WB p1 M O Q) : f_MetV l g yX7_statement cX7_statement 3 (rkB + 4) [.ref (b_o g 0), .int p1] M O Q := by
  refine f_MetV.of (C := RX7) (by decide) rfl (Nat.le_of_ble_eq_true rfl) (fun x Z hret => ?_)
  show f_G x g 3 O M O 0 [(0, .ref (b_o g 0)), (1, .int p1)] []
  refine ac_aload_n Z.1 0 dX7_statement_0 rfl ?_
  refine f_geti Z b_X7 0 (oR_0 hg) 12 (by decide) (by decide) (fR_12 hg) fX7_62 rfl (v := (M.1 12)) rfl dX7_statement_1 ?_
  obtain ⟨hwk, hw⟩ := hw
  by_cases hk0 : (M.1 12) = 213
  · have hw := hwk hk0
    refine ac_tableIn (off := 32) (tgt := 36) Z.1 dX7_statement_4 (by rw [hk0]; decide) (by rw [hk0]; decide) (by rw [hk0]; rfl) (by decide) ?_
    refine ac_aload_n Z.1 0 dX7_statement_36 rfl ?_
    refine ac_iload_n Z.1 1 dX7_statement_37 rfl ?_
    refine f_callv (As := [.int p1]) (st := []) Z b_X7.1 0 (oR_0 hg) rfl kX7_choice lkX7_166 (by omega) (soF_X7_choice hg hWF hWB hFB _ _ _ _ hw) rfl rfl (Nat.le_of_ble_eq_true rfl) dX7_statement_38 (fun M1 O1 hw => ?_)
    exact hret _ _ _ _ dX7_statement_41 hw
  obtain ⟨hwk, hw⟩ := hw
  by_cases hk1 : (M.1 12) = 214
  · have hw := hwk hk1
    refine ac_tableIn (off := 50) (tgt := 54) Z.1 dX7_statement_4 (by rw [hk1]; decide) (by rw [hk1]; decide) (by rw [hk1]; rfl) (by decide) ?_
    refine ac_aload_n Z.1 0 dX7_statement_54 rfl ?_
    refine ac_iconst (v := 0) Z.1 dX7_statement_55 (by decide) ?_
    refine f_callv (As := [.int 0]) (st := []) Z b_X7.1 0 (oR_0 hg) rfl kX7_emit lkX7_125 (by omega) (soF_X7_emit hg  _ _ _ _ hw) rfl rfl (Nat.le_of_ble_eq_true rfl) dX7_statement_56 (fun M2 O2 hw => ?_)
    refine ac_aload_n Z.1 0 dX7_statement_59 rfl ?_
    refine f_geti Z b_X7 0 (oR_0 hg) 12 (by decide) (by decide) (fR_12 hg) fX7_62 rfl (v := (M2.1 12)) rfl dX7_statement_60 ?_
    obtain ⟨hwk, hw⟩ := hw
    by_cases hk0 : (M2.1 12) = 130
    · have hw := hwk hk0
      refine ac_lookup (off := 81) (tgt := 144) Z.1 dX7_statement_63 (by decide) (by rw [hk0]; rfl) (by decide) ?_
      refine ac_aload_n Z.1 0 dX7_statement_144 rfl ?_
      refine ac_iload_n Z.1 1 dX7_statement_145 rfl ?_
      refine f_callv (As := [.int p1]) (st := []) Z b_X7.1 0 (oR_0 hg) rfl kX7_assignment lkX7_178 (by omega) (soF_X7_assignment hg hWF _ _ _ _ hw) rfl rfl (Nat.le_of_ble_eq_true rfl) dX7_statement_146 (fun M3 O3 hw => ?_)
      refine ac_goto (tgt := 236) Z.1 dX7_statement_149 (by decide) ?_
      refine ac_lv [0] rfl ?_
      exact sF_X7_statement_236 hg Z hret hWF hWB hFB _ _ hw
    obtain ⟨hwk, hw⟩ := hw
    by_cases hk1 : (M2.1 12) = 201
    · have hw := hwk hk1
      refine ac_lookup (off := 73) (tgt := 136) Z.1 dX7_statement_63 (by decide) (by rw [hk1]; rfl) (by decide) ?_
      refine ac_aload_n Z.1 0 dX7_statement_136 rfl ?_
      refine ac_iload_n Z.1 1 dX7_statement_137 rfl ?_
      refine f_callv (As := [.int p1]) (st := []) Z b_X7.1 0 (oR_0 hg) rfl kX7_let lkX7_175 (by omega) (soF_X7_let hg hWF _ _ _ _ hw) rfl rfl (Nat.le_of_ble_eq_true rfl) dX7_statement_138 (fun M5 O5 hw => ?_)
      refine ac_goto (tgt := 236) Z.1 dX7_statement_141 (by decide) ?_
      refine ac_lv [0] rfl ?_
      exact sF_X7_statement_236 hg Z hret hWF hWB hFB _ _ hw
    obtain ⟨hwk, hw⟩ := hw
    by_cases hk2 : (M2.1 12) = 202
    · have hw := hwk hk2
      refine ac_lookup (off := 89) (tgt := 152) Z.1 dX7_statement_63 (by decide) (by rw [hk2]; rfl) (by decide) ?_
      refine ac_aload_n Z.1 0 dX7_statement_152 rfl ?_
      refine f_callv (As := []) (st := []) Z b_X7.1 0 (oR_0 hg) rfl kX7_advance lkX7_59 (by omega) (soF_X7_advance hg   _ _ _ hw) rfl rfl (Nat.le_of_ble_eq_true rfl) dX7_statement_153 (fun M6 O6 hw => ?_)
      refine ac_aload_n Z.1 0 dX7_statement_156 rfl ?_
      refine f_calli (As := []) (st := []) Z b_X7.1 0 (oR_0 hg) rfl kX7_object lkX7_157 (by omega) (soF_X7_object hg   _ _ _ hw) rfl rfl (Nat.le_of_ble_eq_true rfl) dX7_statement_157 (fun r7 M8 O8 hw => ?_)
      refine ac_istore_n (lv' := [(2, .int r7), (0, .ref (b_o g 0)), (1, .int p1)]) Z.1 dX7_statement_160 (by decide) rfl ?_
      refine ac_aload_n Z.1 1 dX7_statement_161 rfl ?_
      refine ac_bipush (v := 61) Z.1 dX7_statement_162 (by decide) ?_
      refine f_callv (As := [.int 61]) (st := []) Z b_X7.1 0 (oR_0 hg) rfl kX7_take lkX7_100 (by omega) (soF_X7_take hg  _ _ _ _ hw) rfl rfl (Nat.le_of_ble_eq_true rfl) dX7_statement_164 (fun M9 O9 hw => ?_)
      refine ac_aload_n Z.1 1 dX7_statement_167 rfl ?_
      refine f_geti Z b_X7 0 (oR_0 hg) 12 (by decide) (by decide) (fR_12 hg) fX7_62 rfl (v := (M9.1 12)) rfl dX7_statement_168 ?_
      refine f_calliS (As := [.int (M9.1 12)]) (st := []) Z kX9_isKind lkX7_160 (by omega) (soF_X9_isKind hg  _ _ _ _ hw) rfl rfl (Nat.le_of_ble_eq_true rfl) dX7_statement_171 (fun r10 M11 O11 hw => ?_)
      obtain ⟨hwt, hwf⟩ := hw
      refine ac_if_eq (tgt := 186) Z.1 dX7_statement_174 (by decide) (fun hc => ?_) (fun hc => ?_)
      · have hw := hwt hc
        refine ac_aload_n Z.1 1 dX7_statement_186 rfl ?_
        refine ac_iload_n Z.1 0 dX7_statement_187 rfl ?_
        refine f_callv (As := [.int r7]) (st := []) Z b_X7.1 0 (oR_0 hg) rfl kX7_otherObjection lkX7_184 (by omega) (soF_X7_otherObjection hg  _ _ _ _ hw) rfl rfl (Nat.le_of_ble_eq_true rfl) dX7_statement_188 (fun M12 O12 hw => ?_)
        refine ac_goto (tgt := 236) Z.1 dX7_statement_191 (by decide) ?_
        refine ac_lv [1] rfl ?_
        exact sF_X7_statement_236 hg Z hret hWF hWB hFB _ _ hw
      · have hw := hwf hc
        refine ac_aload_n Z.1 1 dX7_statement_177 rfl ?_
        refine ac_iload_n Z.1 0 dX7_statement_178 rfl ?_
        refine ac_iload_n Z.1 2 dX7_statement_179 rfl ?_
        refine f_callv (As := [.int r7, .int p1]) (st := []) Z b_X7.1 0 (oR_0 hg) rfl kX7_newObjection lkX7_181 (by omega) (soF_X7_newObjection hg hWF _ _ _ _ _ hw) rfl rfl (Nat.le_of_ble_eq_true rfl) dX7_statement_180 (fun M13 O13 hw => ?_)
        refine ac_goto (tgt := 236) Z.1 dX7_statement_183 (by decide) ?_
        refine ac_lv [1] rfl ?_
        exact sF_X7_statement_236 hg Z hret hWF hWB hFB _ _ hw
    obtain ⟨hwk, hw⟩ := hw
    by_cases hk3 : (M2.1 12) = 206
    · have hw := hwk hk3
      refine ac_lookup (off := 131) (tgt := 194) Z.1 dX7_statement_63 (by decide) (by rw [hk3]; rfl) (by decide) ?_
      refine ac_aload_n Z.1 0 dX7_statement_194 rfl ?_
      refine f_callv (As := []) (st := []) Z b_X7.1 0 (oR_0 hg) rfl kX7_raising lkX7_187 (by omega) (soF_X7_raising hg   _ _ _ hw) rfl rfl (Nat.le_of_ble_eq_true rfl) dX7_statement_195 (fun M14 O14 hw => ?_)
      refine ac_goto (tgt := 236) Z.1 dX7_statement_198 (by decide) ?_
      refine ac_lv [0] rfl ?_
      exact sF_X7_statement_236 hg Z hret hWF hWB hFB _ _ hw
    obtain ⟨hwk, hw⟩ := hw
    by_cases hk4 : (M2.1 12) = 207
    · have hw := hwk hk4
      refine ac_lookup (off := 138) (tgt := 201) Z.1 dX7_statement_63 (by decide) (by rw [hk4]; rfl) (by decide) ?_
      refine ac_aload_n Z.1 0 dX7_statement_201 rfl ?_
      refine f_callv (As := []) (st := []) Z b_X7.1 0 (oR_0 hg) rfl kX7_joining lkX7_190 (by omega) (soF_X7_joining hg   _ _ _ hw) rfl rfl (Nat.le_of_ble_eq_true rfl) dX7_statement_202 (fun M15 O15 hw => ?_)
      refine ac_goto (tgt := 236) Z.1 dX7_statement_205 (by decide) ?_
      refine ac_lv [0] rfl ?_
      exact sF_X7_statement_236 hg Z hret hWF hWB hFB _ _ hw
    obtain ⟨hwk, hw⟩ := hw
    by_cases hk5 : (M2.1 12) = 209
    · have hw := hwk hk5
      refine ac_lookup (off := 145) (tgt := 208) Z.1 dX7_statement_63 (by decide) (by rw [hk5]; rfl) (by decide) ?_
      refine ac_aload_n Z.1 0 dX7_statement_208 rfl ?_
      refine ac_iload_n Z.1 1 dX7_statement_209 rfl ?_
      refine f_callv (As := [.int p1]) (st := []) Z b_X7.1 0 (oR_0 hg) rfl kX7_noting lkX7_193 (by omega) (soF_X7_noting hg hWF _ _ _ _ hw) rfl rfl (Nat.le_of_ble_eq_true rfl) dX7_statement_210 (fun M16 O16 hw => ?_)
      refine ac_goto (tgt := 236) Z.1 dX7_statement_213 (by decide) ?_
      refine ac_lv [0] rfl ?_
      exact sF_X7_statement_236 hg Z hret hWF hWB hFB _ _ hw
    obtain ⟨hwk, hw⟩ := hw
    by_cases hk6 : (M2.1 12) = 210
    · have hw := hwk hk6
      refine ac_lookup (off := 153) (tgt := 216) Z.1 dX7_statement_63 (by decide) (by rw [hk6]; rfl) (by decide) ?_
      refine ac_aload_n Z.1 0 dX7_statement_216 rfl ?_
      refine ac_iload_n Z.1 1 dX7_statement_217 rfl ?_
      refine f_callv (As := [.int p1]) (st := []) Z b_X7.1 0 (oR_0 hg) rfl kX7_hearingOther lkX7_196 (by omega) (soF_X7_hearingOther hg hWF _ _ _ _ hw) rfl rfl (Nat.le_of_ble_eq_true rfl) dX7_statement_218 (fun M17 O17 hw => ?_)
      refine ac_goto (tgt := 236) Z.1 dX7_statement_221 (by decide) ?_
      refine ac_lv [0] rfl ?_
      exact sF_X7_statement_236 hg Z hret hWF hWB hFB _ _ hw
    obtain ⟨hwk, hw⟩ := hw
    by_cases hk7 : (M2.1 12) = 212
    · have hw := hwk hk7
      refine ac_lookup (off := 161) (tgt := 224) Z.1 dX7_statement_63 (by decide) (by rw [hk7]; rfl) (by decide) ?_
      refine ac_aload_n Z.1 0 dX7_statement_224 rfl ?_
      refine ac_iload_n Z.1 1 dX7_statement_225 rfl ?_
      refine f_callv (As := [.int p1]) (st := []) Z b_X7.1 0 (oR_0 hg) rfl kX7_resting lkX7_199 (by omega) (soF_X7_resting hg hWF _ _ _ _ hw) rfl rfl (Nat.le_of_ble_eq_true rfl) dX7_statement_226 (fun M18 O18 hw => ?_)
      refine ac_goto (tgt := 236) Z.1 dX7_statement_229 (by decide) ?_
      refine ac_lv [0] rfl ?_
      exact sF_X7_statement_236 hg Z hret hWF hWB hFB _ _ hw
    have hw := hw hk0 hk1 hk2 hk3 hk4 hk5 hk6 hk7
    refine ac_lookup (off := 169) (tgt := 232) Z.1 dX7_statement_63 (by decide) ((lv_osw hk0 (show (130 : Int32).toInt = 130 by decide)).trans ((lv_osw hk1 (show (201 : Int32).toInt = 201 by decide)).trans ((lv_osw hk2 (show (202 : Int32).toInt = 202 by decide)).trans ((lv_osw hk3 (show (206 : Int32).toInt = 206 by decide)).trans ((lv_osw hk4 (show (207 : Int32).toInt = 207 by decide)).trans ((lv_osw hk5 (show (209 : Int32).toInt = 209 by decide)).trans ((lv_osw hk6 (show (210 : Int32).toInt = 210 by decide)).trans ((lv_osw hk7 (show (212 : Int32).toInt = 212 by decide)).trans rfl)))))))) (by decide) ?_
    refine ac_aload_n Z.1 0 dX7_statement_232 rfl ?_
    refine f_callv (As := []) (st := []) Z b_X7.1 0 (oR_0 hg) rfl kX7_fail lkX7_93 (by omega) (soF_X7_fail hg   _ _ _ hw) rfl rfl (Nat.le_of_ble_eq_true rfl) dX7_statement_233 (fun M19 O19 hw => ?_)
    refine ac_lv [0] rfl ?_
    exact sF_X7_statement_236 hg Z hret hWF hWB hFB _ _ hw
  obtain ⟨hwk, hw⟩ := hw
  by_cases hk2 : (M.1 12) = 215
  · have hw := hwk hk2
    refine ac_tableIn (off := 38) (tgt := 42) Z.1 dX7_statement_4 (by rw [hk2]; decide) (by rw [hk2]; decide) (by rw [hk2]; rfl) (by decide) ?_
    refine ac_aload_n Z.1 0 dX7_statement_42 rfl ?_
    refine ac_iload_n Z.1 1 dX7_statement_43 rfl ?_
    refine f_callv (As := [.int p1]) (st := []) Z b_X7.1 0 (oR_0 hg) rfl kX7_loop lkX7_169 (by omega) (soF_X7_loop hg hWF hWB hFB _ _ _ _ hw) rfl rfl (Nat.le_of_ble_eq_true rfl) dX7_statement_44 (fun M20 O20 hw => ?_)
    exact hret _ _ _ _ dX7_statement_47 hw
  obtain ⟨hwk, hw⟩ := hw
  by_cases hk3 : (M.1 12) = 216
  · have hw := hwk hk3
    refine ac_tableIn (off := 44) (tgt := 48) Z.1 dX7_statement_4 (by rw [hk3]; decide) (by rw [hk3]; decide) (by rw [hk3]; rfl) (by decide) ?_
    refine ac_aload_n Z.1 0 dX7_statement_48 rfl ?_
    refine ac_iload_n Z.1 1 dX7_statement_49 rfl ?_
    refine f_callv (As := [.int p1]) (st := []) Z b_X7.1 0 (oR_0 hg) rfl kX7_attempt lkX7_172 (by omega) (soF_X7_attempt hg hWB _ _ _ _ hw) rfl rfl (Nat.le_of_ble_eq_true rfl) dX7_statement_50 (fun M21 O21 hw => ?_)
    exact hret _ _ _ _ dX7_statement_53 hw
  have hw := hw hk0 hk1 hk2 hk3
  refine ac_tableOut (tgt := 54) Z.1 dX7_statement_4 (by have q0 := lv_neT hk0 (show (213 : Int32).toInt = 213 by decide); have q1 := lv_neT hk1 (show (214 : Int32).toInt = 214 by decide); have q2 := lv_neT hk2 (show (215 : Int32).toInt = 215 by decide); have q3 := lv_neT hk3 (show (216 : Int32).toInt = 216 by decide); omega) (by decide) ?_
  refine ac_aload_n Z.1 0 dX7_statement_54 rfl ?_
  refine ac_iconst (v := 0) Z.1 dX7_statement_55 (by decide) ?_
  refine f_callv (As := [.int 0]) (st := []) Z b_X7.1 0 (oR_0 hg) rfl kX7_emit lkX7_125 (by omega) (soF_X7_emit hg  _ _ _ _ hw) rfl rfl (Nat.le_of_ble_eq_true rfl) dX7_statement_56 (fun M22 O22 hw => ?_)
  refine ac_aload_n Z.1 0 dX7_statement_59 rfl ?_
  refine f_geti Z b_X7 0 (oR_0 hg) 12 (by decide) (by decide) (fR_12 hg) fX7_62 rfl (v := (M22.1 12)) rfl dX7_statement_60 ?_
  obtain ⟨hwk, hw⟩ := hw
  by_cases hk0 : (M22.1 12) = 130
  · have hw := hwk hk0
    refine ac_lookup (off := 81) (tgt := 144) Z.1 dX7_statement_63 (by decide) (by rw [hk0]; rfl) (by decide) ?_
    refine ac_aload_n Z.1 0 dX7_statement_144 rfl ?_
    refine ac_iload_n Z.1 1 dX7_statement_145 rfl ?_
    refine f_callv (As := [.int p1]) (st := []) Z b_X7.1 0 (oR_0 hg) rfl kX7_assignment lkX7_178 (by omega) (soF_X7_assignment hg hWF _ _ _ _ hw) rfl rfl (Nat.le_of_ble_eq_true rfl) dX7_statement_146 (fun M23 O23 hw => ?_)
    refine ac_goto (tgt := 236) Z.1 dX7_statement_149 (by decide) ?_
    refine ac_lv [0] rfl ?_
    exact sF_X7_statement_236 hg Z hret hWF hWB hFB _ _ hw
  obtain ⟨hwk, hw⟩ := hw
  by_cases hk1 : (M22.1 12) = 201
  · have hw := hwk hk1
    refine ac_lookup (off := 73) (tgt := 136) Z.1 dX7_statement_63 (by decide) (by rw [hk1]; rfl) (by decide) ?_
    refine ac_aload_n Z.1 0 dX7_statement_136 rfl ?_
    refine ac_iload_n Z.1 1 dX7_statement_137 rfl ?_
    refine f_callv (As := [.int p1]) (st := []) Z b_X7.1 0 (oR_0 hg) rfl kX7_let lkX7_175 (by omega) (soF_X7_let hg hWF _ _ _ _ hw) rfl rfl (Nat.le_of_ble_eq_true rfl) dX7_statement_138 (fun M24 O24 hw => ?_)
    refine ac_goto (tgt := 236) Z.1 dX7_statement_141 (by decide) ?_
    refine ac_lv [0] rfl ?_
    exact sF_X7_statement_236 hg Z hret hWF hWB hFB _ _ hw
  obtain ⟨hwk, hw⟩ := hw
  by_cases hk2 : (M22.1 12) = 202
  · have hw := hwk hk2
    refine ac_lookup (off := 89) (tgt := 152) Z.1 dX7_statement_63 (by decide) (by rw [hk2]; rfl) (by decide) ?_
    refine ac_aload_n Z.1 0 dX7_statement_152 rfl ?_
    refine f_callv (As := []) (st := []) Z b_X7.1 0 (oR_0 hg) rfl kX7_advance lkX7_59 (by omega) (soF_X7_advance hg   _ _ _ hw) rfl rfl (Nat.le_of_ble_eq_true rfl) dX7_statement_153 (fun M25 O25 hw => ?_)
    refine ac_aload_n Z.1 0 dX7_statement_156 rfl ?_
    refine f_calli (As := []) (st := []) Z b_X7.1 0 (oR_0 hg) rfl kX7_object lkX7_157 (by omega) (soF_X7_object hg   _ _ _ hw) rfl rfl (Nat.le_of_ble_eq_true rfl) dX7_statement_157 (fun r26 M27 O27 hw => ?_)
    refine ac_istore_n (lv' := [(2, .int r26), (0, .ref (b_o g 0)), (1, .int p1)]) Z.1 dX7_statement_160 (by decide) rfl ?_
    refine ac_aload_n Z.1 1 dX7_statement_161 rfl ?_
    refine ac_bipush (v := 61) Z.1 dX7_statement_162 (by decide) ?_
    refine f_callv (As := [.int 61]) (st := []) Z b_X7.1 0 (oR_0 hg) rfl kX7_take lkX7_100 (by omega) (soF_X7_take hg  _ _ _ _ hw) rfl rfl (Nat.le_of_ble_eq_true rfl) dX7_statement_164 (fun M28 O28 hw => ?_)
    refine ac_aload_n Z.1 1 dX7_statement_167 rfl ?_
    refine f_geti Z b_X7 0 (oR_0 hg) 12 (by decide) (by decide) (fR_12 hg) fX7_62 rfl (v := (M28.1 12)) rfl dX7_statement_168 ?_
    refine f_calliS (As := [.int (M28.1 12)]) (st := []) Z kX9_isKind lkX7_160 (by omega) (soF_X9_isKind hg  _ _ _ _ hw) rfl rfl (Nat.le_of_ble_eq_true rfl) dX7_statement_171 (fun r29 M30 O30 hw => ?_)
    obtain ⟨hwt, hwf⟩ := hw
    refine ac_if_eq (tgt := 186) Z.1 dX7_statement_174 (by decide) (fun hc => ?_) (fun hc => ?_)
    · have hw := hwt hc
      refine ac_aload_n Z.1 1 dX7_statement_186 rfl ?_
      refine ac_iload_n Z.1 0 dX7_statement_187 rfl ?_
      refine f_callv (As := [.int r26]) (st := []) Z b_X7.1 0 (oR_0 hg) rfl kX7_otherObjection lkX7_184 (by omega) (soF_X7_otherObjection hg  _ _ _ _ hw) rfl rfl (Nat.le_of_ble_eq_true rfl) dX7_statement_188 (fun M31 O31 hw => ?_)
      refine ac_goto (tgt := 236) Z.1 dX7_statement_191 (by decide) ?_
      refine ac_lv [1] rfl ?_
      exact sF_X7_statement_236 hg Z hret hWF hWB hFB _ _ hw
    · have hw := hwf hc
      refine ac_aload_n Z.1 1 dX7_statement_177 rfl ?_
      refine ac_iload_n Z.1 0 dX7_statement_178 rfl ?_
      refine ac_iload_n Z.1 2 dX7_statement_179 rfl ?_
      refine f_callv (As := [.int r26, .int p1]) (st := []) Z b_X7.1 0 (oR_0 hg) rfl kX7_newObjection lkX7_181 (by omega) (soF_X7_newObjection hg hWF _ _ _ _ _ hw) rfl rfl (Nat.le_of_ble_eq_true rfl) dX7_statement_180 (fun M32 O32 hw => ?_)
      refine ac_goto (tgt := 236) Z.1 dX7_statement_183 (by decide) ?_
      refine ac_lv [1] rfl ?_
      exact sF_X7_statement_236 hg Z hret hWF hWB hFB _ _ hw
  obtain ⟨hwk, hw⟩ := hw
  by_cases hk3 : (M22.1 12) = 206
  · have hw := hwk hk3
    refine ac_lookup (off := 131) (tgt := 194) Z.1 dX7_statement_63 (by decide) (by rw [hk3]; rfl) (by decide) ?_
    refine ac_aload_n Z.1 0 dX7_statement_194 rfl ?_
    refine f_callv (As := []) (st := []) Z b_X7.1 0 (oR_0 hg) rfl kX7_raising lkX7_187 (by omega) (soF_X7_raising hg   _ _ _ hw) rfl rfl (Nat.le_of_ble_eq_true rfl) dX7_statement_195 (fun M33 O33 hw => ?_)
    refine ac_goto (tgt := 236) Z.1 dX7_statement_198 (by decide) ?_
    refine ac_lv [0] rfl ?_
    exact sF_X7_statement_236 hg Z hret hWF hWB hFB _ _ hw
  obtain ⟨hwk, hw⟩ := hw
  by_cases hk4 : (M22.1 12) = 207
  · have hw := hwk hk4
    refine ac_lookup (off := 138) (tgt := 201) Z.1 dX7_statement_63 (by decide) (by rw [hk4]; rfl) (by decide) ?_
    refine ac_aload_n Z.1 0 dX7_statement_201 rfl ?_
    refine f_callv (As := []) (st := []) Z b_X7.1 0 (oR_0 hg) rfl kX7_joining lkX7_190 (by omega) (soF_X7_joining hg   _ _ _ hw) rfl rfl (Nat.le_of_ble_eq_true rfl) dX7_statement_202 (fun M34 O34 hw => ?_)
    refine ac_goto (tgt := 236) Z.1 dX7_statement_205 (by decide) ?_
    refine ac_lv [0] rfl ?_
    exact sF_X7_statement_236 hg Z hret hWF hWB hFB _ _ hw
  obtain ⟨hwk, hw⟩ := hw
  by_cases hk5 : (M22.1 12) = 209
  · have hw := hwk hk5
    refine ac_lookup (off := 145) (tgt := 208) Z.1 dX7_statement_63 (by decide) (by rw [hk5]; rfl) (by decide) ?_
    refine ac_aload_n Z.1 0 dX7_statement_208 rfl ?_
    refine ac_iload_n Z.1 1 dX7_statement_209 rfl ?_
    refine f_callv (As := [.int p1]) (st := []) Z b_X7.1 0 (oR_0 hg) rfl kX7_noting lkX7_193 (by omega) (soF_X7_noting hg hWF _ _ _ _ hw) rfl rfl (Nat.le_of_ble_eq_true rfl) dX7_statement_210 (fun M35 O35 hw => ?_)
    refine ac_goto (tgt := 236) Z.1 dX7_statement_213 (by decide) ?_
    refine ac_lv [0] rfl ?_
    exact sF_X7_statement_236 hg Z hret hWF hWB hFB _ _ hw
  obtain ⟨hwk, hw⟩ := hw
  by_cases hk6 : (M22.1 12) = 210
  · have hw := hwk hk6
    refine ac_lookup (off := 153) (tgt := 216) Z.1 dX7_statement_63 (by decide) (by rw [hk6]; rfl) (by decide) ?_
    refine ac_aload_n Z.1 0 dX7_statement_216 rfl ?_
    refine ac_iload_n Z.1 1 dX7_statement_217 rfl ?_
    refine f_callv (As := [.int p1]) (st := []) Z b_X7.1 0 (oR_0 hg) rfl kX7_hearingOther lkX7_196 (by omega) (soF_X7_hearingOther hg hWF _ _ _ _ hw) rfl rfl (Nat.le_of_ble_eq_true rfl) dX7_statement_218 (fun M36 O36 hw => ?_)
    refine ac_goto (tgt := 236) Z.1 dX7_statement_221 (by decide) ?_
    refine ac_lv [0] rfl ?_
    exact sF_X7_statement_236 hg Z hret hWF hWB hFB _ _ hw
  obtain ⟨hwk, hw⟩ := hw
  by_cases hk7 : (M22.1 12) = 212
  · have hw := hwk hk7
    refine ac_lookup (off := 161) (tgt := 224) Z.1 dX7_statement_63 (by decide) (by rw [hk7]; rfl) (by decide) ?_
    refine ac_aload_n Z.1 0 dX7_statement_224 rfl ?_
    refine ac_iload_n Z.1 1 dX7_statement_225 rfl ?_
    refine f_callv (As := [.int p1]) (st := []) Z b_X7.1 0 (oR_0 hg) rfl kX7_resting lkX7_199 (by omega) (soF_X7_resting hg hWF _ _ _ _ hw) rfl rfl (Nat.le_of_ble_eq_true rfl) dX7_statement_226 (fun M37 O37 hw => ?_)
    refine ac_goto (tgt := 236) Z.1 dX7_statement_229 (by decide) ?_
    refine ac_lv [0] rfl ?_
    exact sF_X7_statement_236 hg Z hret hWF hWB hFB _ _ hw
  have hw := hw hk0 hk1 hk2 hk3 hk4 hk5 hk6 hk7
  refine ac_lookup (off := 169) (tgt := 232) Z.1 dX7_statement_63 (by decide) ((lv_osw hk0 (show (130 : Int32).toInt = 130 by decide)).trans ((lv_osw hk1 (show (201 : Int32).toInt = 201 by decide)).trans ((lv_osw hk2 (show (202 : Int32).toInt = 202 by decide)).trans ((lv_osw hk3 (show (206 : Int32).toInt = 206 by decide)).trans ((lv_osw hk4 (show (207 : Int32).toInt = 207 by decide)).trans ((lv_osw hk5 (show (209 : Int32).toInt = 209 by decide)).trans ((lv_osw hk6 (show (210 : Int32).toInt = 210 by decide)).trans ((lv_osw hk7 (show (212 : Int32).toInt = 212 by decide)).trans rfl)))))))) (by decide) ?_
  refine ac_aload_n Z.1 0 dX7_statement_232 rfl ?_
  refine f_callv (As := []) (st := []) Z b_X7.1 0 (oR_0 hg) rfl kX7_fail lkX7_93 (by omega) (soF_X7_fail hg   _ _ _ hw) rfl rfl (Nat.le_of_ble_eq_true rfl) dX7_statement_233 (fun M38 O38 hw => ?_)
  refine ac_lv [0] rfl ?_
  exact sF_X7_statement_236 hg Z hret hWF hWB hFB _ _ hw
