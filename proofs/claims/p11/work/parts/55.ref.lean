def w_hearing_72 (WB : (Nat → Int32) → (Nat → Nat → Int32) → ((Nat → Int32) → (Nat → Nat → Int32) → Prop) → Prop) (Q : (Nat → Int32) → (Nat → Nat → Int32) → Prop) (a1 : Int32) (a2 : Int32) (M : Nat → Int32) (F : Nat → Nat → Int32) : Prop := w_closes 41 M F (fun M4 F4 => (w_bad M4 F4 (fun r5 M6 F6 => ((r5 = 0 → (vp_in a1 800 ∧ (w_here M6 (uf F6 19 a1 a2) (fun r8 M9 F9 => (vp_in a1 800 ∧ (WB M9 (uf F9 18 a1 r8) (fun M11 F11 => (w_put 1 0 0 0 M11 F11 (fun r12 M13 F13 => (w_put 19 0 0 0 M13 F13 (fun r14 M15 F15 => (Q M15 F15)))))))))))) ∧ (¬ r5 = 0 → (Q M6 F6))))))
set_option maxRecDepth 20000 in
theorem s_hearing_72 {x : ac_X} {g : r_S} {l : Launch} {WB : (Nat → Int32) → (Nat → Nat → Int32) → ((Nat → Int32) → (Nat → Nat → Int32) → Prop) → Prop} {rkB : Nat} {Q : (Nat → Int32) → (Nat → Nat → Int32) → Prop} (Z : r_Cx x g l cX12_hearing 4 (rkB + 12)) (hret : r_RV x g 4 cX12_hearing Q) (hWB : ∀ (M : Nat → Int32) (F : Nat → Nat → Int32) (Q : (Nat → Int32) → (Nat → Nat → Int32) → Prop), WB M F Q → r_MetV l g yX12_block cX12_block 1 rkB [.ref (r_h g)] M F Q) (a1 : Int32) (a2 : Int32) (M : Nat → Int32) (F : Nat → Nat → Int32) (hw : w_hearing_72 WB Q a1 a2 M F) : ac_G x (r_R g) 4 (r_P g M F) 0 0 72 [(0, .ref (r_h g)), (1, .int a1), (2, .int a2)] [] := by
  refine ac_aload_n Z.1 0 dX12_hearing_72 rfl ?_
  refine ac_bipush (v := 41) Z.1 dX12_hearing_73 (by decide) ?_
  refine r_callv (As := [.int 41]) (st := []) Z kX12_closes lkX12_292 (by omega) rfl (so_closes   _ _ _ _ hw) rfl rfl (Nat.le_of_ble_eq_true rfl) dX12_hearing_75 (fun M4 F4 hw => ?_)
  refine ac_aload_n Z.1 0 dX12_hearing_78 rfl ?_
  refine r_calli (As := []) (st := []) Z kX12_bad lkX12_230 (by omega) rfl (so_bad    _ _ _ hw) rfl rfl (Nat.le_of_ble_eq_true rfl) dX12_hearing_79 (fun r5 M6 F6 hw => ?_)
  obtain ⟨hwt, hwf⟩ := hw
  refine ac_if_eq (tgt := 86) Z.1 dX12_hearing_82 (by decide) (fun hc => ?_) (fun hc => ?_)
  · have hw := hwt hc
    refine ac_aload_n Z.1 0 dX12_hearing_86 rfl ?_
    refine r_geta Z.1 Z.2.1 19 (by decide) rfl fX12_46 rfl dX12_hearing_87 ?_
    refine ac_iload_n Z.1 1 dX12_hearing_90 rfl ?_
    refine ac_iload_n Z.1 2 dX12_hearing_91 rfl ?_
    obtain ⟨hb7, hw⟩ := hw
    refine r_ast Z.1 Z.2.1 12 19 800 rfl rfl hb7 dX12_hearing_92 ?_
    refine ac_aload_n Z.1 0 dX12_hearing_93 rfl ?_
    refine r_geta Z.1 Z.2.1 18 (by decide) rfl fX12_43 rfl dX12_hearing_94 ?_
    refine ac_iload_n Z.1 1 dX12_hearing_97 rfl ?_
    refine ac_aload_n Z.1 0 dX12_hearing_98 rfl ?_
    refine r_calli (As := []) (st := [.int a1, .ref (r_ad g 18)]) Z kX12_here lkX12_295 (by omega) rfl (so_here    _ _ _ hw) rfl rfl (Nat.le_of_ble_eq_true rfl) dX12_hearing_99 (fun r8 M9 F9 hw => ?_)
    obtain ⟨hb10, hw⟩ := hw
    refine r_ast Z.1 Z.2.1 11 18 800 rfl rfl hb10 dX12_hearing_102 ?_
    refine ac_aload_n Z.1 0 dX12_hearing_103 rfl ?_
    refine r_callv (As := []) (st := []) Z kX12_block lkX12_298 (by omega) rfl (hWB  _ _ _ hw) rfl rfl (Nat.le_of_ble_eq_true rfl) dX12_hearing_104 (fun M11 F11 hw => ?_)
    refine ac_aload_n Z.1 0 dX12_hearing_107 rfl ?_
    refine ac_iconst (v := 1) Z.1 dX12_hearing_108 (by decide) ?_
    refine ac_iconst (v := 0) Z.1 dX12_hearing_109 (by decide) ?_
    refine ac_iconst (v := 0) Z.1 dX12_hearing_110 (by decide) ?_
    refine ac_iconst (v := 0) Z.1 dX12_hearing_111 (by decide) ?_
    refine r_calli (As := [.int 1, .int 0, .int 0, .int 0]) (st := []) Z kX12_put lkX12_301 (by omega) rfl (so_put   _ _ _ _ _ _ _ hw) rfl rfl (Nat.le_of_ble_eq_true rfl) dX12_hearing_112 (fun r12 M13 F13 hw => ?_)
    refine ac_istore_n (lv' := [(3, .int r12), (0, .ref (r_h g)), (1, .int a1), (2, .int a2)]) Z.1 dX12_hearing_115 (by decide) rfl ?_
    refine ac_aload_n Z.1 1 dX12_hearing_116 rfl ?_
    refine ac_bipush (v := 19) Z.1 dX12_hearing_117 (by decide) ?_
    refine ac_iconst (v := 0) Z.1 dX12_hearing_119 (by decide) ?_
    refine ac_iconst (v := 0) Z.1 dX12_hearing_120 (by decide) ?_
    refine ac_iconst (v := 0) Z.1 dX12_hearing_121 (by decide) ?_
    refine r_calli (As := [.int 19, .int 0, .int 0, .int 0]) (st := []) Z kX12_put lkX12_301 (by omega) rfl (so_put   _ _ _ _ _ _ _ hw) rfl rfl (Nat.le_of_ble_eq_true rfl) dX12_hearing_122 (fun r14 M15 F15 hw => ?_)
    refine ac_istore_n (lv' := [(3, .int r14), (0, .ref (r_h g)), (1, .int a1), (2, .int a2)]) Z.1 dX12_hearing_125 (by decide) rfl ?_
    exact hret _ _ _ _ dX12_hearing_126 hw
  · have hw := hwf hc
    exact hret _ _ _ _ dX12_hearing_85 hw
def w_hearing_48 (WB : (Nat → Int32) → (Nat → Nat → Int32) → ((Nat → Int32) → (Nat → Nat → Int32) → Prop) → Prop) (Q : (Nat → Int32) → (Nat → Nat → Int32) → Prop) : Nat → Int32 → Int32 → (Nat → Int32) → (Nat → Nat → Int32) → Prop
  | 0 => fun _ _ _ _ => False
  | n + 1 => fun a1 a2 M F => (w_isSign 44 M F (fun r17 M18 F18 => ((r17 = 0 → (w_hearing_72 WB Q a1 a2 M18 F18)) ∧ (¬ r17 = 0 → (w_pass M18 F18 (fun M19 F19 => (w_parameter a2 M19 F19 (fun M20 F20 => (w_hearing_48 WB Q n a1 (a2 + 1) M20 F20)))))))))
set_option maxRecDepth 20000 in
theorem s_hearing_48 {x : ac_X} {g : r_S} {l : Launch} {WB : (Nat → Int32) → (Nat → Nat → Int32) → ((Nat → Int32) → (Nat → Nat → Int32) → Prop) → Prop} {rkB : Nat} {Q : (Nat → Int32) → (Nat → Nat → Int32) → Prop} (Z : r_Cx x g l cX12_hearing 4 (rkB + 12)) (hret : r_RV x g 4 cX12_hearing Q) (hWB : ∀ (M : Nat → Int32) (F : Nat → Nat → Int32) (Q : (Nat → Int32) → (Nat → Nat → Int32) → Prop), WB M F Q → r_MetV l g yX12_block cX12_block 1 rkB [.ref (r_h g)] M F Q) : ∀ (n : Nat) (a1 : Int32) (a2 : Int32) (M : Nat → Int32) (F : Nat → Nat → Int32), w_hearing_48 WB Q n a1 a2 M F → ac_G x (r_R g) 4 (r_P g M F) 0 0 48 [(0, .ref (r_h g)), (1, .int a1), (2, .int a2)] [] := by
  intro n
  induction n with
  | zero => intro _ _ _ _ hw; exact hw.elim
  | succ n ih =>
    intro a1 a2 M F hw
    dsimp only [w_hearing_48] at hw
    refine ac_aload_n Z.1 0 dX12_hearing_48 rfl ?_
    refine ac_bipush (v := 44) Z.1 dX12_hearing_49 (by decide) ?_
    refine r_calli (As := [.int 44]) (st := []) Z kX12_isSign lkX12_237 (by omega) rfl (so_isSign   _ _ _ _ hw) rfl rfl (Nat.le_of_ble_eq_true rfl) dX12_hearing_51 (fun r17 M18 F18 hw => ?_)
    obtain ⟨hwt, hwf⟩ := hw
    refine ac_if_eq (tgt := 72) Z.1 dX12_hearing_54 (by decide) (fun hc => ?_) (fun hc => ?_)
    · have hw := hwt hc
      exact s_hearing_72 Z hret hWB _ _ _ _ hw
    · have hw := hwf hc
      refine ac_aload_n Z.1 0 dX12_hearing_57 rfl ?_
      refine r_callv (As := []) (st := []) Z kX12_pass lkX12_240 (by omega) rfl (so_pass    _ _ _ hw) rfl rfl (Nat.le_of_ble_eq_true rfl) dX12_hearing_58 (fun M19 F19 hw => ?_)
      refine ac_aload_n Z.1 0 dX12_hearing_61 rfl ?_
      refine ac_iload_n Z.1 2 dX12_hearing_62 rfl ?_
      refine r_callv (As := [.int a2]) (st := []) Z kX12_parameter lkX12_289 (by omega) rfl (so_parameter   _ _ _ _ hw) rfl rfl (Nat.le_of_ble_eq_true rfl) dX12_hearing_63 (fun M20 F20 hw => ?_)
      refine ac_iinc (w := (a2 + 1)) (lv' := [(2, .int (a2 + 1)), (0, .ref (r_h g)), (1, .int a1)]) Z.1 2 dX12_hearing_66 rfl rfl (by decide) rfl ?_
      refine ac_goto (tgt := 48) Z.1 dX12_hearing_69 (by decide) ?_
      refine ac_lv [1, 2, 0] rfl ?_
      exact ih _ _ _ _ hw
def w_hearing (WB : (Nat → Int32) → (Nat → Nat → Int32) → ((Nat → Int32) → (Nat → Nat → Int32) → Prop) → Prop) (M : Nat → Int32) (F : Nat → Nat → Int32) (Q : (Nat → Int32) → (Nat → Nat → Int32) → Prop) : Prop := w_opens 40 (um (um M 34 0) 35 0) F (fun M1 F1 => (w_isSign 41 M1 F1 (fun r2 M3 F3 => ((¬ r2 = 0 → (w_hearing_72 WB Q ((400 * (M 27)) + (M 30)) 0 M3 F3)) ∧ (r2 = 0 → (w_parameter 0 M3 F3 (fun M16 F16 => (∃ e48, w_hearing_48 WB Q e48 ((400 * (M 27)) + (M 30)) 1 M16 F16))))))))
set_option maxRecDepth 20000 in
theorem so_hearing {l : Launch} {g : r_S} {WB : (Nat → Int32) → (Nat → Nat → Int32) → ((Nat → Int32) → (Nat → Nat → Int32) → Prop) → Prop} {rkB : Nat} (hWB : ∀ (M : Nat → Int32) (F : Nat → Nat → Int32) (Q : (Nat → Int32) → (Nat → Nat → Int32) → Prop), WB M F Q → r_MetV l g yX12_block cX12_block 1 rkB [.ref (r_h g)] M F Q) (M : Nat → Int32) (F : Nat → Nat → Int32) (Q : (Nat → Int32) → (Nat → Nat → Int32) → Prop) (hw : w_hearing WB  M F Q) : r_MetV l g yX12_hearing cX12_hearing 4 (rkB + 12) [.ref (r_h g)] M F Q := by
  refine r_MetV.of (by decide) rfl (Nat.le_of_ble_eq_true rfl) (fun x Z hret => ?_)
  show ac_G x (r_R g) 4 (r_P g M F) 0 0 0 [(0, .ref (r_h g))] []
  refine ac_sipush (v := 400) Z.1 dX12_hearing_0 (by decide) ?_
  refine ac_aload_n Z.1 0 dX12_hearing_3 rfl ?_
  refine r_geti (v := (M 27)) Z.1 Z.2.1 27 (by decide) rfl fX12_70 rfl rfl dX12_hearing_4 ?_
  refine ac_imul Z.1 dX12_hearing_7 ?_
  refine ac_aload_n Z.1 0 dX12_hearing_8 rfl ?_
  refine r_geti (v := (M 30)) Z.1 Z.2.1 30 (by decide) rfl fX12_258 rfl rfl dX12_hearing_9 ?_
  refine ac_iadd Z.1 dX12_hearing_12 ?_
  refine ac_istore_n (lv' := [(1, .int ((400 * (M 27)) + (M 30))), (0, .ref (r_h g))]) Z.1 dX12_hearing_13 (by decide) rfl ?_
  refine ac_aload_n Z.1 1 dX12_hearing_14 rfl ?_
  refine ac_iconst (v := 0) Z.1 dX12_hearing_15 (by decide) ?_
  refine r_put Z.1 Z.2.1 34 (by decide) rfl rfl rfl fX12_268 rfl dX12_hearing_16 ?_
  refine ac_aload_n Z.1 1 dX12_hearing_19 rfl ?_
  refine ac_iconst (v := 0) Z.1 dX12_hearing_20 (by decide) ?_
  refine r_put Z.1 Z.2.1 35 (by decide) rfl rfl rfl fX12_277 rfl dX12_hearing_21 ?_
  refine ac_aload_n Z.1 1 dX12_hearing_24 rfl ?_
  refine ac_bipush (v := 40) Z.1 dX12_hearing_25 (by decide) ?_
  refine r_callv (As := [.int 40]) (st := []) Z kX12_opens lkX12_286 (by omega) rfl (so_opens   _ _ _ _ hw) rfl rfl (Nat.le_of_ble_eq_true rfl) dX12_hearing_27 (fun M1 F1 hw => ?_)
  refine ac_iconst (v := 0) Z.1 dX12_hearing_30 (by decide) ?_
  refine ac_istore_n (lv' := [(2, .int 0), (1, .int ((400 * (M 27)) + (M 30))), (0, .ref (r_h g))]) Z.1 dX12_hearing_31 (by decide) rfl ?_
  refine ac_aload_n Z.1 2 dX12_hearing_32 rfl ?_
  refine ac_bipush (v := 41) Z.1 dX12_hearing_33 (by decide) ?_
  refine r_calli (As := [.int 41]) (st := []) Z kX12_isSign lkX12_237 (by omega) rfl (so_isSign   _ _ _ _ hw) rfl rfl (Nat.le_of_ble_eq_true rfl) dX12_hearing_35 (fun r2 M3 F3 hw => ?_)
  obtain ⟨hwt, hwf⟩ := hw
  refine ac_if_ne (tgt := 72) Z.1 dX12_hearing_38 (by decide) (fun hc => ?_) (fun hc => ?_)
  · have hw := hwt hc
    refine ac_lv [2, 1, 0] rfl ?_
    exact s_hearing_72 Z hret hWB _ _ _ _ hw
  · have hw := hwf hc
    refine ac_aload_n Z.1 2 dX12_hearing_41 rfl ?_
    refine ac_iconst (v := 0) Z.1 dX12_hearing_42 (by decide) ?_
    refine r_callv (As := [.int 0]) (st := []) Z kX12_parameter lkX12_289 (by omega) rfl (so_parameter   _ _ _ _ hw) rfl rfl (Nat.le_of_ble_eq_true rfl) dX12_hearing_43 (fun M16 F16 hw => ?_)
    refine ac_iconst (v := 1) Z.1 dX12_hearing_46 (by decide) ?_
    refine ac_istore_n (lv' := [(2, .int 1), (1, .int ((400 * (M 27)) + (M 30))), (0, .ref (r_h g))]) Z.1 dX12_hearing_47 (by decide) rfl ?_
    obtain ⟨n, hw⟩ := hw
    refine ac_lv [2, 1, 0] rfl ?_
    exact s_hearing_48 Z hret hWB n _ _ _ _ hw
def w_text_95 (WB : (Nat → Int32) → (Nat → Nat → Int32) → ((Nat → Int32) → (Nat → Nat → Int32) → Prop) → Prop) (K0 : ((Nat → Int32) → (Nat → Nat → Int32) → Prop)) (Q : (Nat → Int32) → (Nat → Nat → Int32) → Prop) (M : Nat → Int32) (F : Nat → Nat → Int32) : Prop := w_hearing WB M F (fun M10 F10 => (K0 (um M10 30 ((M10 30) + 1)) F10))
set_option maxRecDepth 20000 in
theorem s_text_95 {x : ac_X} {g : r_S} {l : Launch} {WB : (Nat → Int32) → (Nat → Nat → Int32) → ((Nat → Int32) → (Nat → Nat → Int32) → Prop) → Prop} {rkB : Nat} {K0 : ((Nat → Int32) → (Nat → Nat → Int32) → Prop)} {Q : (Nat → Int32) → (Nat → Nat → Int32) → Prop} (Z : r_Cx x g l cX12_text 2 (rkB + 13)) (hret : r_RV x g 2 cX12_text Q) (hWB : ∀ (M : Nat → Int32) (F : Nat → Nat → Int32) (Q : (Nat → Int32) → (Nat → Nat → Int32) → Prop), WB M F Q → r_MetV l g yX12_block cX12_block 1 rkB [.ref (r_h g)] M F Q) (hK0 : ∀ (M : Nat → Int32) (F : Nat → Nat → Int32), K0 M F → ac_G x (r_R g) 2 (r_P g M F) 0 0 0 [(0, .ref (r_h g))] []) (M : Nat → Int32) (F : Nat → Nat → Int32) (hw : w_text_95 WB K0 Q M F) : ac_G x (r_R g) 2 (r_P g M F) 0 0 95 [(0, .ref (r_h g))] [] := by
  refine ac_aload_n Z.1 0 dX12_text_95 rfl ?_
  refine r_callv (As := []) (st := []) Z kX12_hearing lkX12_283 (by omega) rfl (so_hearing hWB   _ _ _ hw) rfl rfl (Nat.le_of_ble_eq_true rfl) dX12_text_96 (fun M10 F10 hw => ?_)
  refine ac_aload_n Z.1 0 dX12_text_99 rfl ?_
  refine ac_dup Z.1 dX12_text_100 rfl ?_
  refine r_geti (v := (M10 30)) Z.1 Z.2.1 30 (by decide) rfl fX12_258 rfl rfl dX12_text_101 ?_
  refine ac_iconst (v := 1) Z.1 dX12_text_104 (by decide) ?_
  refine ac_iadd Z.1 dX12_text_105 ?_
  refine r_put Z.1 Z.2.1 30 (by decide) rfl rfl rfl fX12_258 rfl dX12_text_106 ?_
  refine ac_goto (tgt := 0) Z.1 dX12_text_109 (by decide) ?_
  exact hK0 _ _ hw
def w_text_71 (WB : (Nat → Int32) → (Nat → Nat → Int32) → ((Nat → Int32) → (Nat → Nat → Int32) → Prop) → Prop) (K0 : ((Nat → Int32) → (Nat → Nat → Int32) → Prop)) (Q : (Nat → Int32) → (Nat → Nat → Int32) → Prop) (M : Nat → Int32) (F : Nat → Nat → Int32) : Prop := ((M 30) < 16 → (w_text_95 WB K0 Q M F)) ∧ (¬ (M 30) < 16 → (w_least (M 38) (M 47) M F (fun r11 M12 F12 => (w_text_95 WB K0 Q (um M12 38 r11) F12))))
set_option maxRecDepth 20000 in
theorem s_text_71 {x : ac_X} {g : r_S} {l : Launch} {WB : (Nat → Int32) → (Nat → Nat → Int32) → ((Nat → Int32) → (Nat → Nat → Int32) → Prop) → Prop} {rkB : Nat} {K0 : ((Nat → Int32) → (Nat → Nat → Int32) → Prop)} {Q : (Nat → Int32) → (Nat → Nat → Int32) → Prop} (Z : r_Cx x g l cX12_text 2 (rkB + 13)) (hret : r_RV x g 2 cX12_text Q) (hWB : ∀ (M : Nat → Int32) (F : Nat → Nat → Int32) (Q : (Nat → Int32) → (Nat → Nat → Int32) → Prop), WB M F Q → r_MetV l g yX12_block cX12_block 1 rkB [.ref (r_h g)] M F Q) (hK0 : ∀ (M : Nat → Int32) (F : Nat → Nat → Int32), K0 M F → ac_G x (r_R g) 2 (r_P g M F) 0 0 0 [(0, .ref (r_h g))] []) (M : Nat → Int32) (F : Nat → Nat → Int32) (hw : w_text_71 WB K0 Q M F) : ac_G x (r_R g) 2 (r_P g M F) 0 0 71 [(0, .ref (r_h g))] [] := by
  refine ac_aload_n Z.1 0 dX12_text_71 rfl ?_
  refine r_geti (v := (M 30)) Z.1 Z.2.1 30 (by decide) rfl fX12_258 rfl rfl dX12_text_72 ?_
  refine ac_bipush (v := 16) Z.1 dX12_text_75 (by decide) ?_
  obtain ⟨hwt, hwf⟩ := hw
  refine ac_icmp_lt (tgt := 95) Z.1 dX12_text_77 (by decide) (fun hc => ?_) (fun hc => ?_)
  · have hw := hwt hc
    exact s_text_95 Z hret hWB hK0 _ _ hw
  · have hw := hwf hc
    refine ac_aload_n Z.1 0 dX12_text_80 rfl ?_
    refine ac_aload_n Z.1 0 dX12_text_81 rfl ?_
    refine r_geti (v := (M 38)) Z.1 Z.2.1 38 (by decide) rfl fX12_271 rfl rfl dX12_text_82 ?_
    refine ac_aload_n Z.1 0 dX12_text_85 rfl ?_
    refine r_geti (v := (M 47)) Z.1 Z.2.1 47 (by decide) rfl fX12_255 rfl rfl dX12_text_86 ?_
    refine r_calls (As := [.int (M 38), .int (M 47)]) (st := [.ref (r_h g)]) Z kX12_least lkX12_264 (by omega) (so_least   _ _ _ _ _ hw) rfl rfl (Nat.le_of_ble_eq_true rfl) dX12_text_89 (fun r11 M12 F12 hw => ?_)
    refine r_put Z.1 Z.2.1 38 (by decide) rfl rfl rfl fX12_271 rfl dX12_text_92 ?_
    exact s_text_95 Z hret hWB hK0 _ _ hw
def w_text_0 (WB : (Nat → Int32) → (Nat → Nat → Int32) → ((Nat → Int32) → (Nat → Nat → Int32) → Prop) → Prop) (Q : (Nat → Int32) → (Nat → Nat → Int32) → Prop) : Nat → (Nat → Int32) → (Nat → Nat → Int32) → Prop
  | 0 => fun _ _ => False
  | n + 1 => fun M F => (w_bad M F (fun r1 M2 F2 => ((¬ r1 = 0 → (Q M2 F2)) ∧ (r1 = 0 → (((M2 4) = 0 → (Q M2 F2)) ∧ (¬ (M2 4) = 0 → (w_needWord 0 M2 F2 (fun M3 F3 => (w_taken 1 M3 F3 (fun r4 M5 F5 => (w_bad M5 F5 (fun r6 M7 F7 => ((r6 = 0 → (vp_in r4 2100 ∧ ((((F7 11) (r4).toNatClampNeg) = (-1) → (vp_in r4 2100 ∧ (w_text_71 WB (w_text_0 WB Q n) Q M7 (uf F7 11 r4 (M7 30))))) ∧ (¬ ((F7 11) (r4).toNatClampNeg) = (-1) → (w_least (M7 37) (M7 47) M7 F7 (fun r13 M14 F14 => (w_text_71 WB (w_text_0 WB Q n) Q (um M14 37 r13) F14))))))) ∧ (¬ r6 = 0 → (Q M7 F7)))))))))))))))
set_option maxRecDepth 20000 in
theorem s_text_0 {x : ac_X} {g : r_S} {l : Launch} {WB : (Nat → Int32) → (Nat → Nat → Int32) → ((Nat → Int32) → (Nat → Nat → Int32) → Prop) → Prop} {rkB : Nat} {Q : (Nat → Int32) → (Nat → Nat → Int32) → Prop} (Z : r_Cx x g l cX12_text 2 (rkB + 13)) (hret : r_RV x g 2 cX12_text Q) (hWB : ∀ (M : Nat → Int32) (F : Nat → Nat → Int32) (Q : (Nat → Int32) → (Nat → Nat → Int32) → Prop), WB M F Q → r_MetV l g yX12_block cX12_block 1 rkB [.ref (r_h g)] M F Q) : ∀ (n : Nat) (M : Nat → Int32) (F : Nat → Nat → Int32), w_text_0 WB Q n M F → ac_G x (r_R g) 2 (r_P g M F) 0 0 0 [(0, .ref (r_h g))] [] := by
  intro n
  induction n with
  | zero => intro _ _ hw; exact hw.elim
  | succ n ih =>
    intro M F hw
    dsimp only [w_text_0] at hw
    refine ac_aload_n Z.1 0 dX12_text_0 rfl ?_
    refine r_calli (As := []) (st := []) Z kX12_bad lkX12_230 (by omega) rfl (so_bad    _ _ _ hw) rfl rfl (Nat.le_of_ble_eq_true rfl) dX12_text_1 (fun r1 M2 F2 hw => ?_)
    obtain ⟨hwt, hwf⟩ := hw
    refine ac_if_ne (tgt := 112) Z.1 dX12_text_4 (by decide) (fun hc => ?_) (fun hc => ?_)
    · have hw := hwt hc
      exact hret _ _ _ _ dX12_text_112 hw
    · have hw := hwf hc
      refine ac_aload_n Z.1 0 dX12_text_7 rfl ?_
      refine r_geti (v := (M2 4)) Z.1 Z.2.1 4 (by decide) rfl fX12_198 rfl rfl dX12_text_8 ?_
      obtain ⟨hwt, hwf⟩ := hw
      refine ac_if_eq (tgt := 112) Z.1 dX12_text_11 (by decide) (fun hc => ?_) (fun hc => ?_)
      · have hw := hwt hc
        exact hret _ _ _ _ dX12_text_112 hw
      · have hw := hwf hc
        refine ac_aload_n Z.1 0 dX12_text_14 rfl ?_
        refine ac_iconst (v := 0) Z.1 dX12_text_15 (by decide) ?_
        refine r_callv (As := [.int 0]) (st := []) Z kX12_needWord lkX12_280 (by omega) rfl (so_needWord   _ _ _ _ hw) rfl rfl (Nat.le_of_ble_eq_true rfl) dX12_text_16 (fun M3 F3 hw => ?_)
        refine ac_aload_n Z.1 0 dX12_text_19 rfl ?_
        refine ac_iconst (v := 1) Z.1 dX12_text_20 (by decide) ?_
        refine r_calli (As := [.int 1]) (st := []) Z kX12_taken lkX12_274 (by omega) rfl (so_taken   _ _ _ _ hw) rfl rfl (Nat.le_of_ble_eq_true rfl) dX12_text_21 (fun r4 M5 F5 hw => ?_)
        refine ac_istore_n (lv' := [(1, .int r4), (0, .ref (r_h g))]) Z.1 dX12_text_24 (by decide) rfl ?_
        refine ac_aload_n Z.1 1 dX12_text_25 rfl ?_
        refine r_calli (As := []) (st := []) Z kX12_bad lkX12_230 (by omega) rfl (so_bad    _ _ _ hw) rfl rfl (Nat.le_of_ble_eq_true rfl) dX12_text_26 (fun r6 M7 F7 hw => ?_)
        obtain ⟨hwt, hwf⟩ := hw
        refine ac_if_eq (tgt := 33) Z.1 dX12_text_29 (by decide) (fun hc => ?_) (fun hc => ?_)
        · have hw := hwt hc
          refine ac_aload_n Z.1 1 dX12_text_33 rfl ?_
          refine r_geta Z.1 Z.2.1 11 (by decide) rfl fX12_25 rfl dX12_text_34 ?_
          refine ac_iload_n Z.1 0 dX12_text_37 rfl ?_
          obtain ⟨hb8, hw⟩ := hw
          refine r_ald (v := ((F7 11) (r4).toNatClampNeg)) Z.1 Z.2.1 5 11 2100 rfl rfl hb8 rfl dX12_text_38 ?_
          refine ac_iconst (v := (-1)) Z.1 dX12_text_39 (by decide) ?_
          obtain ⟨hwt, hwf⟩ := hw
          refine ac_icmp_eq (tgt := 61) Z.1 dX12_text_40 (by decide) (fun hc => ?_) (fun hc => ?_)
          · have hw := hwt hc
            refine ac_aload_n Z.1 1 dX12_text_61 rfl ?_
            refine r_geta Z.1 Z.2.1 11 (by decide) rfl fX12_25 rfl dX12_text_62 ?_
            refine ac_iload_n Z.1 0 dX12_text_65 rfl ?_
            refine ac_aload_n Z.1 1 dX12_text_66 rfl ?_
            refine r_geti (v := (M7 30)) Z.1 Z.2.1 30 (by decide) rfl fX12_258 rfl rfl dX12_text_67 ?_
            obtain ⟨hb9, hw⟩ := hw
            refine r_ast Z.1 Z.2.1 5 11 2100 rfl rfl hb9 dX12_text_70 ?_
            refine ac_lv [1] rfl ?_
            exact s_text_71 Z hret hWB ih _ _ hw
          · have hw := hwf hc
            refine ac_aload_n Z.1 1 dX12_text_43 rfl ?_
            refine ac_aload_n Z.1 1 dX12_text_44 rfl ?_
            refine r_geti (v := (M7 37)) Z.1 Z.2.1 37 (by decide) rfl fX12_261 rfl rfl dX12_text_45 ?_
            refine ac_aload_n Z.1 1 dX12_text_48 rfl ?_
            refine r_geti (v := (M7 47)) Z.1 Z.2.1 47 (by decide) rfl fX12_255 rfl rfl dX12_text_49 ?_
            refine r_calls (As := [.int (M7 37), .int (M7 47)]) (st := [.ref (r_h g)]) Z kX12_least lkX12_264 (by omega) (so_least   _ _ _ _ _ hw) rfl rfl (Nat.le_of_ble_eq_true rfl) dX12_text_52 (fun r13 M14 F14 hw => ?_)
            refine r_put Z.1 Z.2.1 37 (by decide) rfl rfl rfl fX12_261 rfl dX12_text_55 ?_
            refine ac_goto (tgt := 71) Z.1 dX12_text_58 (by decide) ?_
            refine ac_lv [1] rfl ?_
            exact s_text_71 Z hret hWB ih _ _ hw
        · have hw := hwf hc
          exact hret _ _ _ _ dX12_text_32 hw
def w_text (WB : (Nat → Int32) → (Nat → Nat → Int32) → ((Nat → Int32) → (Nat → Nat → Int32) → Prop) → Prop) (M : Nat → Int32) (F : Nat → Nat → Int32) (Q : (Nat → Int32) → (Nat → Nat → Int32) → Prop) : Prop := ∃ e0, w_text_0 WB Q e0 M F
set_option maxRecDepth 20000 in
theorem so_text {l : Launch} {g : r_S} {WB : (Nat → Int32) → (Nat → Nat → Int32) → ((Nat → Int32) → (Nat → Nat → Int32) → Prop) → Prop} {rkB : Nat} (hWB : ∀ (M : Nat → Int32) (F : Nat → Nat → Int32) (Q : (Nat → Int32) → (Nat → Nat → Int32) → Prop), WB M F Q → r_MetV l g yX12_block cX12_block 1 rkB [.ref (r_h g)] M F Q) (M : Nat → Int32) (F : Nat → Nat → Int32) (Q : (Nat → Int32) → (Nat → Nat → Int32) → Prop) (hw : w_text WB  M F Q) : r_MetV l g yX12_text cX12_text 2 (rkB + 13) [.ref (r_h g)] M F Q := by
  refine r_MetV.of (by decide) rfl (Nat.le_of_ble_eq_true rfl) (fun x Z hret => ?_)
  show ac_G x (r_R g) 2 (r_P g M F) 0 0 0 [(0, .ref (r_h g))] []
  obtain ⟨n, hw⟩ := hw
  exact s_text_0 Z hret hWB n _ _ hw
def w_choice (WF : (Nat → Int32) → (Nat → Nat → Int32) → ((Nat → Int32) → (Nat → Nat → Int32) → Prop) → Prop) (WB : (Nat → Int32) → (Nat → Nat → Int32) → ((Nat → Int32) → (Nat → Nat → Int32) → Prop) → Prop) (M : Nat → Int32) (F : Nat → Nat → Int32) (Q : (Nat → Int32) → (Nat → Nat → Int32) → Prop) : Prop := w_pass M F (fun M1 F1 => (w_whole WF M1 F1 (fun M2 F2 => (w_put 21 0 0 0 M2 F2 (fun r3 M4 F4 => (WB M4 F4 (fun M5 F5 => (w_isWord 14 M5 F5 (fun r6 M7 F7 => ((r6 = 0 → (w_here M7 F7 (fun r8 M9 F9 => (vp_in r3 18000 ∧ (Q M9 (uf F9 14 r3 r8)))))) ∧ (¬ r6 = 0 → (w_pass M7 F7 (fun M11 F11 => (w_put 20 0 0 0 M11 F11 (fun r12 M13 F13 => (w_here M13 F13 (fun r14 M15 F15 => (vp_in r3 18000 ∧ (WB M15 (uf F15 14 r3 r14) (fun M17 F17 => (w_here M17 F17 (fun r18 M19 F19 => (vp_in r12 18000 ∧ (Q M19 (uf F19 14 r12 r18)))))))))))))))))))))))))
set_option maxRecDepth 20000 in
theorem so_choice {l : Launch} {g : r_S} {WF : (Nat → Int32) → (Nat → Nat → Int32) → ((Nat → Int32) → (Nat → Nat → Int32) → Prop) → Prop} {WB : (Nat → Int32) → (Nat → Nat → Int32) → ((Nat → Int32) → (Nat → Nat → Int32) → Prop) → Prop} {rkF rkB : Nat} (hWF : ∀ (M : Nat → Int32) (F : Nat → Nat → Int32) (Q : (Nat → Int32) → (Nat → Nat → Int32) → Prop), WF M F Q → r_MetV l g yX12_factor cX12_factor 3 rkF [.ref (r_h g)] M F Q) (hWB : ∀ (M : Nat → Int32) (F : Nat → Nat → Int32) (Q : (Nat → Int32) → (Nat → Nat → Int32) → Prop), WB M F Q → r_MetV l g yX12_block cX12_block 1 rkB [.ref (r_h g)] M F Q) (hFB : rkF + 30 ≤ rkB) (M : Nat → Int32) (F : Nat → Nat → Int32) (Q : (Nat → Int32) → (Nat → Nat → Int32) → Prop) (hw : w_choice WF WB  M F Q) : r_MetV l g yX12_choice cX12_choice 3 (rkB + 10) [.ref (r_h g)] M F Q := by
  refine r_MetV.of (by decide) rfl (Nat.le_of_ble_eq_true rfl) (fun x Z hret => ?_)
  show ac_G x (r_R g) 3 (r_P g M F) 0 0 0 [(0, .ref (r_h g))] []
  refine ac_aload_n Z.1 0 dX12_choice_0 rfl ?_
  refine r_callv (As := []) (st := []) Z kX12_pass lkX12_240 (by omega) rfl (so_pass    _ _ _ hw) rfl rfl (Nat.le_of_ble_eq_true rfl) dX12_choice_1 (fun M1 F1 hw => ?_)
  refine ac_aload_n Z.1 0 dX12_choice_4 rfl ?_
  refine r_callv (As := []) (st := []) Z kX12_whole lkX12_315 (by omega) rfl (so_whole hWF   _ _ _ hw) rfl rfl (Nat.le_of_ble_eq_true rfl) dX12_choice_5 (fun M2 F2 hw => ?_)
  refine ac_aload_n Z.1 0 dX12_choice_8 rfl ?_
  refine ac_bipush (v := 21) Z.1 dX12_choice_9 (by decide) ?_
  refine ac_iconst (v := 0) Z.1 dX12_choice_11 (by decide) ?_
  refine ac_iconst (v := 0) Z.1 dX12_choice_12 (by decide) ?_
  refine ac_iconst (v := 0) Z.1 dX12_choice_13 (by decide) ?_
  refine r_calli (As := [.int 21, .int 0, .int 0, .int 0]) (st := []) Z kX12_put lkX12_301 (by omega) rfl (so_put   _ _ _ _ _ _ _ hw) rfl rfl (Nat.le_of_ble_eq_true rfl) dX12_choice_14 (fun r3 M4 F4 hw => ?_)
  refine ac_istore_n (lv' := [(1, .int r3), (0, .ref (r_h g))]) Z.1 dX12_choice_17 (by decide) rfl ?_
  refine ac_aload_n Z.1 1 dX12_choice_18 rfl ?_
  refine r_callv (As := []) (st := []) Z kX12_block lkX12_298 (by omega) rfl (hWB  _ _ _ hw) rfl rfl (Nat.le_of_ble_eq_true rfl) dX12_choice_19 (fun M5 F5 hw => ?_)
  refine ac_aload_n Z.1 1 dX12_choice_22 rfl ?_
  refine ac_bipush (v := 14) Z.1 dX12_choice_23 (by decide) ?_
  refine r_calli (As := [.int 14]) (st := []) Z kX12_isWord lkX12_246 (by omega) rfl (so_isWord   _ _ _ _ hw) rfl rfl (Nat.le_of_ble_eq_true rfl) dX12_choice_25 (fun r6 M7 F7 hw => ?_)
  obtain ⟨hwt, hwf⟩ := hw
  refine ac_if_eq (tgt := 72) Z.1 dX12_choice_28 (by decide) (fun hc => ?_) (fun hc => ?_)
  · have hw := hwt hc
    refine ac_aload_n Z.1 1 dX12_choice_72 rfl ?_
    refine r_geta Z.1 Z.2.1 14 (by decide) rfl fX12_31 rfl dX12_choice_73 ?_
    refine ac_iload_n Z.1 0 dX12_choice_76 rfl ?_
    refine ac_aload_n Z.1 1 dX12_choice_77 rfl ?_
    refine r_calli (As := []) (st := [.int r3, .ref (r_ad g 14)]) Z kX12_here lkX12_295 (by omega) rfl (so_here    _ _ _ hw) rfl rfl (Nat.le_of_ble_eq_true rfl) dX12_choice_78 (fun r8 M9 F9 hw => ?_)
    obtain ⟨hb10, hw⟩ := hw
    refine r_ast Z.1 Z.2.1 7 14 18000 rfl rfl hb10 dX12_choice_81 ?_
    exact hret _ _ _ _ dX12_choice_82 hw
  · have hw := hwf hc
    refine ac_aload_n Z.1 1 dX12_choice_31 rfl ?_
    refine r_callv (As := []) (st := []) Z kX12_pass lkX12_240 (by omega) rfl (so_pass    _ _ _ hw) rfl rfl (Nat.le_of_ble_eq_true rfl) dX12_choice_32 (fun M11 F11 hw => ?_)
    refine ac_aload_n Z.1 1 dX12_choice_35 rfl ?_
    refine ac_bipush (v := 20) Z.1 dX12_choice_36 (by decide) ?_
    refine ac_iconst (v := 0) Z.1 dX12_choice_38 (by decide) ?_
    refine ac_iconst (v := 0) Z.1 dX12_choice_39 (by decide) ?_
    refine ac_iconst (v := 0) Z.1 dX12_choice_40 (by decide) ?_
    refine r_calli (As := [.int 20, .int 0, .int 0, .int 0]) (st := []) Z kX12_put lkX12_301 (by omega) rfl (so_put   _ _ _ _ _ _ _ hw) rfl rfl (Nat.le_of_ble_eq_true rfl) dX12_choice_41 (fun r12 M13 F13 hw => ?_)
    refine ac_istore_n (lv' := [(2, .int r12), (1, .int r3), (0, .ref (r_h g))]) Z.1 dX12_choice_44 (by decide) rfl ?_
    refine ac_aload_n Z.1 2 dX12_choice_45 rfl ?_
    refine r_geta Z.1 Z.2.1 14 (by decide) rfl fX12_31 rfl dX12_choice_46 ?_
    refine ac_iload_n Z.1 1 dX12_choice_49 rfl ?_
    refine ac_aload_n Z.1 2 dX12_choice_50 rfl ?_
    refine r_calli (As := []) (st := [.int r3, .ref (r_ad g 14)]) Z kX12_here lkX12_295 (by omega) rfl (so_here    _ _ _ hw) rfl rfl (Nat.le_of_ble_eq_true rfl) dX12_choice_51 (fun r14 M15 F15 hw => ?_)
    obtain ⟨hb16, hw⟩ := hw
    refine r_ast Z.1 Z.2.1 7 14 18000 rfl rfl hb16 dX12_choice_54 ?_
    refine ac_aload_n Z.1 2 dX12_choice_55 rfl ?_
    refine r_callv (As := []) (st := []) Z kX12_block lkX12_298 (by omega) rfl (hWB  _ _ _ hw) rfl rfl (Nat.le_of_ble_eq_true rfl) dX12_choice_56 (fun M17 F17 hw => ?_)
    refine ac_aload_n Z.1 2 dX12_choice_59 rfl ?_
    refine r_geta Z.1 Z.2.1 14 (by decide) rfl fX12_31 rfl dX12_choice_60 ?_
    refine ac_iload_n Z.1 0 dX12_choice_63 rfl ?_
    refine ac_aload_n Z.1 2 dX12_choice_64 rfl ?_
    refine r_calli (As := []) (st := [.int r12, .ref (r_ad g 14)]) Z kX12_here lkX12_295 (by omega) rfl (so_here    _ _ _ hw) rfl rfl (Nat.le_of_ble_eq_true rfl) dX12_choice_65 (fun r18 M19 F19 hw => ?_)
    obtain ⟨hb20, hw⟩ := hw
    refine r_ast Z.1 Z.2.1 7 14 18000 rfl rfl hb20 dX12_choice_68 ?_
    refine ac_goto (tgt := 82) Z.1 dX12_choice_69 (by decide) ?_
    exact hret _ _ _ _ dX12_choice_82 hw
def w_loop (WF : (Nat → Int32) → (Nat → Nat → Int32) → ((Nat → Int32) → (Nat → Nat → Int32) → Prop) → Prop) (WB : (Nat → Int32) → (Nat → Nat → Int32) → ((Nat → Int32) → (Nat → Nat → Int32) → Prop) → Prop) (M : Nat → Int32) (F : Nat → Nat → Int32) (Q : (Nat → Int32) → (Nat → Nat → Int32) → Prop) : Prop := w_pass M F (fun M1 F1 => (w_put 0 0 0 0 M1 F1 (fun r2 M3 F3 => (w_whole WF M3 F3 (fun M4 F4 => (w_put 21 0 0 0 M4 F4 (fun r5 M6 F6 => (WB M6 F6 (fun M7 F7 => (w_put 20 r2 0 0 M7 F7 (fun r8 M9 F9 => (w_here M9 F9 (fun r10 M11 F11 => (vp_in r5 18000 ∧ (Q M11 (uf F11 14 r5 r10))))))))))))))))
set_option maxRecDepth 20000 in
theorem so_loop {l : Launch} {g : r_S} {WF : (Nat → Int32) → (Nat → Nat → Int32) → ((Nat → Int32) → (Nat → Nat → Int32) → Prop) → Prop} {WB : (Nat → Int32) → (Nat → Nat → Int32) → ((Nat → Int32) → (Nat → Nat → Int32) → Prop) → Prop} {rkF rkB : Nat} (hWF : ∀ (M : Nat → Int32) (F : Nat → Nat → Int32) (Q : (Nat → Int32) → (Nat → Nat → Int32) → Prop), WF M F Q → r_MetV l g yX12_factor cX12_factor 3 rkF [.ref (r_h g)] M F Q) (hWB : ∀ (M : Nat → Int32) (F : Nat → Nat → Int32) (Q : (Nat → Int32) → (Nat → Nat → Int32) → Prop), WB M F Q → r_MetV l g yX12_block cX12_block 1 rkB [.ref (r_h g)] M F Q) (hFB : rkF + 30 ≤ rkB) (M : Nat → Int32) (F : Nat → Nat → Int32) (Q : (Nat → Int32) → (Nat → Nat → Int32) → Prop) (hw : w_loop WF WB  M F Q) : r_MetV l g yX12_loop cX12_loop 4 (rkB + 10) [.ref (r_h g)] M F Q := by
  refine r_MetV.of (by decide) rfl (Nat.le_of_ble_eq_true rfl) (fun x Z hret => ?_)
  show ac_G x (r_R g) 4 (r_P g M F) 0 0 0 [(0, .ref (r_h g))] []
  refine ac_aload_n Z.1 0 dX12_loop_0 rfl ?_
  refine r_callv (As := []) (st := []) Z kX12_pass lkX12_240 (by omega) rfl (so_pass    _ _ _ hw) rfl rfl (Nat.le_of_ble_eq_true rfl) dX12_loop_1 (fun M1 F1 hw => ?_)
  refine ac_aload_n Z.1 0 dX12_loop_4 rfl ?_
  refine ac_iconst (v := 0) Z.1 dX12_loop_5 (by decide) ?_
  refine ac_iconst (v := 0) Z.1 dX12_loop_6 (by decide) ?_
  refine ac_iconst (v := 0) Z.1 dX12_loop_7 (by decide) ?_
  refine ac_iconst (v := 0) Z.1 dX12_loop_8 (by decide) ?_
  refine r_calli (As := [.int 0, .int 0, .int 0, .int 0]) (st := []) Z kX12_put lkX12_301 (by omega) rfl (so_put   _ _ _ _ _ _ _ hw) rfl rfl (Nat.le_of_ble_eq_true rfl) dX12_loop_9 (fun r2 M3 F3 hw => ?_)
  refine ac_istore_n (lv' := [(1, .int r2), (0, .ref (r_h g))]) Z.1 dX12_loop_12 (by decide) rfl ?_
  refine ac_aload_n Z.1 1 dX12_loop_13 rfl ?_
  refine r_callv (As := []) (st := []) Z kX12_whole lkX12_315 (by omega) rfl (so_whole hWF   _ _ _ hw) rfl rfl (Nat.le_of_ble_eq_true rfl) dX12_loop_14 (fun M4 F4 hw => ?_)
  refine ac_aload_n Z.1 1 dX12_loop_17 rfl ?_
  refine ac_bipush (v := 21) Z.1 dX12_loop_18 (by decide) ?_
  refine ac_iconst (v := 0) Z.1 dX12_loop_20 (by decide) ?_
  refine ac_iconst (v := 0) Z.1 dX12_loop_21 (by decide) ?_
  refine ac_iconst (v := 0) Z.1 dX12_loop_22 (by decide) ?_
  refine r_calli (As := [.int 21, .int 0, .int 0, .int 0]) (st := []) Z kX12_put lkX12_301 (by omega) rfl (so_put   _ _ _ _ _ _ _ hw) rfl rfl (Nat.le_of_ble_eq_true rfl) dX12_loop_23 (fun r5 M6 F6 hw => ?_)
  refine ac_istore_n (lv' := [(2, .int r5), (1, .int r2), (0, .ref (r_h g))]) Z.1 dX12_loop_26 (by decide) rfl ?_
  refine ac_aload_n Z.1 2 dX12_loop_27 rfl ?_
  refine r_callv (As := []) (st := []) Z kX12_block lkX12_298 (by omega) rfl (hWB  _ _ _ hw) rfl rfl (Nat.le_of_ble_eq_true rfl) dX12_loop_28 (fun M7 F7 hw => ?_)
  refine ac_aload_n Z.1 2 dX12_loop_31 rfl ?_
  refine ac_bipush (v := 20) Z.1 dX12_loop_32 (by decide) ?_
  refine ac_iload_n Z.1 1 dX12_loop_34 rfl ?_
  refine ac_iconst (v := 0) Z.1 dX12_loop_35 (by decide) ?_
  refine ac_iconst (v := 0) Z.1 dX12_loop_36 (by decide) ?_
  refine r_calli (As := [.int 20, .int r2, .int 0, .int 0]) (st := []) Z kX12_put lkX12_301 (by omega) rfl (so_put   _ _ _ _ _ _ _ hw) rfl rfl (Nat.le_of_ble_eq_true rfl) dX12_loop_37 (fun r8 M9 F9 hw => ?_)
  refine ac_istore_n (lv' := [(3, .int r8), (2, .int r5), (1, .int r2), (0, .ref (r_h g))]) Z.1 dX12_loop_40 (by decide) rfl ?_
  refine ac_aload_n Z.1 3 dX12_loop_41 rfl ?_
  refine r_geta Z.1 Z.2.1 14 (by decide) rfl fX12_31 rfl dX12_loop_42 ?_
  refine ac_iload_n Z.1 1 dX12_loop_45 rfl ?_
  refine ac_aload_n Z.1 3 dX12_loop_46 rfl ?_
  refine r_calli (As := []) (st := [.int r5, .ref (r_ad g 14)]) Z kX12_here lkX12_295 (by omega) rfl (so_here    _ _ _ hw) rfl rfl (Nat.le_of_ble_eq_true rfl) dX12_loop_47 (fun r10 M11 F11 hw => ?_)
  obtain ⟨hb12, hw⟩ := hw
  refine r_ast Z.1 Z.2.1 7 14 18000 rfl rfl hb12 dX12_loop_50 ?_
  exact hret _ _ _ _ dX12_loop_51 hw
def w_trying_270 (WB : (Nat → Int32) → (Nat → Nat → Int32) → ((Nat → Int32) → (Nat → Nat → Int32) → Prop) → Prop) (Q : (Nat → Int32) → (Nat → Nat → Int32) → Prop) (a1 : Int32) (M : Nat → Int32) (F : Nat → Nat → Int32) : Prop := w_here M F (fun r15 M16 F16 => (vp_in a1 800 ∧ (Q M16 (uf F16 22 a1 r15))))
set_option maxRecDepth 20000 in
theorem s_trying_270 {x : ac_X} {g : r_S} {l : Launch} {WB : (Nat → Int32) → (Nat → Nat → Int32) → ((Nat → Int32) → (Nat → Nat → Int32) → Prop) → Prop} {rkB : Nat} {Q : (Nat → Int32) → (Nat → Nat → Int32) → Prop} (Z : r_Cx x g l cX12_trying 5 (rkB + 12)) (hret : r_RV x g 5 cX12_trying Q) (hWB : ∀ (M : Nat → Int32) (F : Nat → Nat → Int32) (Q : (Nat → Int32) → (Nat → Nat → Int32) → Prop), WB M F Q → r_MetV l g yX12_block cX12_block 1 rkB [.ref (r_h g)] M F Q) (a1 : Int32) (M : Nat → Int32) (F : Nat → Nat → Int32) (hw : w_trying_270 WB Q a1 M F) : ac_G x (r_R g) 5 (r_P g M F) 0 0 270 [(0, .ref (r_h g)), (1, .int a1)] [] := by
  refine ac_aload_n Z.1 0 dX12_trying_270 rfl ?_
  refine r_geta Z.1 Z.2.1 22 (by decide) rfl fX12_55 rfl dX12_trying_271 ?_
  refine ac_iload_n Z.1 1 dX12_trying_274 rfl ?_
  refine ac_aload_n Z.1 0 dX12_trying_275 rfl ?_
  refine r_calli (As := []) (st := [.int a1, .ref (r_ad g 22)]) Z kX12_here lkX12_295 (by omega) rfl (so_here    _ _ _ hw) rfl rfl (Nat.le_of_ble_eq_true rfl) dX12_trying_276 (fun r15 M16 F16 hw => ?_)
  obtain ⟨hb17, hw⟩ := hw
  refine r_ast Z.1 Z.2.1 15 22 800 rfl rfl hb17 dX12_trying_279 ?_
  exact hret _ _ _ _ dX12_trying_280 hw
def w_trying_202 (WB : (Nat → Int32) → (Nat → Nat → Int32) → ((Nat → Int32) → (Nat → Nat → Int32) → Prop) → Prop) (K90 : (Int32 → Int32 → (Nat → Int32) → (Nat → Nat → Int32) → Prop)) (Q : (Nat → Int32) → (Nat → Nat → Int32) → Prop) (a1 : Int32) (a4 : Int32) (M : Nat → Int32) (F : Nat → Nat → Int32) : Prop := w_here M F (fun r34 M35 F35 => (vp_in a4 800 ∧ (WB M35 (uf F35 25 a4 r34) (fun M37 F37 => (w_put 23 a1 0 0 M37 F37 (fun r38 M39 F39 => (K90 a1 a4 M39 F39)))))))
set_option maxRecDepth 20000 in
theorem s_trying_202 {x : ac_X} {g : r_S} {l : Launch} {WB : (Nat → Int32) → (Nat → Nat → Int32) → ((Nat → Int32) → (Nat → Nat → Int32) → Prop) → Prop} {rkB : Nat} {K90 : (Int32 → Int32 → (Nat → Int32) → (Nat → Nat → Int32) → Prop)} {Q : (Nat → Int32) → (Nat → Nat → Int32) → Prop} (Z : r_Cx x g l cX12_trying 5 (rkB + 12)) (hret : r_RV x g 5 cX12_trying Q) (hWB : ∀ (M : Nat → Int32) (F : Nat → Nat → Int32) (Q : (Nat → Int32) → (Nat → Nat → Int32) → Prop), WB M F Q → r_MetV l g yX12_block cX12_block 1 rkB [.ref (r_h g)] M F Q) (hK90 : ∀ (a1 : Int32) (a2 : Int32) (M : Nat → Int32) (F : Nat → Nat → Int32), K90 a1 a2 M F → ac_G x (r_R g) 5 (r_P g M F) 0 0 90 [(0, .ref (r_h g)), (1, .int a1), (2, .int a2)] []) (a1 : Int32) (a4 : Int32) (M : Nat → Int32) (F : Nat → Nat → Int32) (hw : w_trying_202 WB K90 Q a1 a4 M F) : ac_G x (r_R g) 5 (r_P g M F) 0 0 202 [(0, .ref (r_h g)), (1, .int a1), (4, .int a4)] [] := by
  refine ac_iload Z.1 2 dX12_trying_202 rfl ?_
  refine ac_istore_n (lv' := [(2, .int a4), (0, .ref (r_h g)), (1, .int a1), (4, .int a4)]) Z.1 dX12_trying_204 (by decide) rfl ?_
  refine ac_aload_n Z.1 1 dX12_trying_205 rfl ?_
  refine r_geta Z.1 Z.2.1 25 (by decide) rfl fX12_64 rfl dX12_trying_206 ?_
  refine ac_iload Z.1 3 dX12_trying_209 rfl ?_
  refine ac_aload_n Z.1 1 dX12_trying_211 rfl ?_
  refine r_calli (As := []) (st := [.int a4, .ref (r_ad g 25)]) Z kX12_here lkX12_295 (by omega) rfl (so_here    _ _ _ hw) rfl rfl (Nat.le_of_ble_eq_true rfl) dX12_trying_212 (fun r34 M35 F35 hw => ?_)
  obtain ⟨hb36, hw⟩ := hw
  refine r_ast Z.1 Z.2.1 18 25 800 rfl rfl hb36 dX12_trying_215 ?_
  refine ac_aload_n Z.1 1 dX12_trying_216 rfl ?_
  refine r_callv (As := []) (st := []) Z kX12_block lkX12_298 (by omega) rfl (hWB  _ _ _ hw) rfl rfl (Nat.le_of_ble_eq_true rfl) dX12_trying_217 (fun M37 F37 hw => ?_)
  refine ac_aload_n Z.1 1 dX12_trying_220 rfl ?_
  refine ac_bipush (v := 23) Z.1 dX12_trying_221 (by decide) ?_
  refine ac_iload_n Z.1 2 dX12_trying_223 rfl ?_
  refine ac_iconst (v := 0) Z.1 dX12_trying_224 (by decide) ?_
  refine ac_iconst (v := 0) Z.1 dX12_trying_225 (by decide) ?_
  refine r_calli (As := [.int 23, .int a1, .int 0, .int 0]) (st := []) Z kX12_put lkX12_301 (by omega) rfl (so_put   _ _ _ _ _ _ _ hw) rfl rfl (Nat.le_of_ble_eq_true rfl) dX12_trying_226 (fun r38 M39 F39 hw => ?_)
  refine ac_istore_n (lv' := [(3, .int r38), (2, .int a4), (0, .ref (r_h g)), (1, .int a1), (4, .int a4)]) Z.1 dX12_trying_229 (by decide) rfl ?_
  refine ac_goto (tgt := 90) Z.1 dX12_trying_230 (by decide) ?_
  refine ac_lv [2, 3, 1] rfl ?_
  exact hK90 _ _ _ _ hw
def w_trying_169 (WB : (Nat → Int32) → (Nat → Nat → Int32) → ((Nat → Int32) → (Nat → Nat → Int32) → Prop) → Prop) (K90 : (Int32 → Int32 → (Nat → Int32) → (Nat → Nat → Int32) → Prop)) (Q : (Nat → Int32) → (Nat → Nat → Int32) → Prop) (a1 : Int32) (a2 : Int32) (a4 : Int32) (t1 : Int32) (t2 : Int32) (M : Nat → Int32) (F : Nat → Nat → Int32) : Prop := vp_in t1 800 ∧ (vp_in a4 800 ∧ ((¬ a2 = (-1) → (vp_in a2 800 ∧ (w_trying_202 WB K90 Q a1 a4 M (uf (uf (uf F 24 t1 t2) 26 a4 (-1)) 26 a2 a4)))) ∧ (a2 = (-1) → (vp_in a1 800 ∧ (w_trying_202 WB K90 Q a1 a4 M (uf (uf (uf F 24 t1 t2) 26 a4 (-1)) 20 a1 a4))))))
set_option maxRecDepth 20000 in
theorem s_trying_169 {x : ac_X} {g : r_S} {l : Launch} {WB : (Nat → Int32) → (Nat → Nat → Int32) → ((Nat → Int32) → (Nat → Nat → Int32) → Prop) → Prop} {rkB : Nat} {K90 : (Int32 → Int32 → (Nat → Int32) → (Nat → Nat → Int32) → Prop)} {Q : (Nat → Int32) → (Nat → Nat → Int32) → Prop} (Z : r_Cx x g l cX12_trying 5 (rkB + 12)) (hret : r_RV x g 5 cX12_trying Q) (hWB : ∀ (M : Nat → Int32) (F : Nat → Nat → Int32) (Q : (Nat → Int32) → (Nat → Nat → Int32) → Prop), WB M F Q → r_MetV l g yX12_block cX12_block 1 rkB [.ref (r_h g)] M F Q) (hK90 : ∀ (a1 : Int32) (a2 : Int32) (M : Nat → Int32) (F : Nat → Nat → Int32), K90 a1 a2 M F → ac_G x (r_R g) 5 (r_P g M F) 0 0 90 [(0, .ref (r_h g)), (1, .int a1), (2, .int a2)] []) (a1 : Int32) (a2 : Int32) (a4 : Int32) (t1 : Int32) (t2 : Int32) (M : Nat → Int32) (F : Nat → Nat → Int32) (hw : w_trying_169 WB K90 Q a1 a2 a4 t1 t2 M F) : ac_G x (r_R g) 5 (r_P g M F) 0 0 169 [(0, .ref (r_h g)), (1, .int a1), (2, .int a2), (4, .int a4)] [.int t2, .int t1, .ref (r_ad g 24)] := by
  obtain ⟨hb31, hw⟩ := hw
  refine r_ast Z.1 Z.2.1 17 24 800 rfl rfl hb31 dX12_trying_169 ?_
  refine ac_aload_n Z.1 0 dX12_trying_170 rfl ?_
  refine r_geta Z.1 Z.2.1 26 (by decide) rfl fX12_67 rfl dX12_trying_171 ?_
  refine ac_iload Z.1 3 dX12_trying_174 rfl ?_
  refine ac_iconst (v := (-1)) Z.1 dX12_trying_176 (by decide) ?_
  obtain ⟨hb32, hw⟩ := hw
  refine r_ast Z.1 Z.2.1 19 26 800 rfl rfl hb32 dX12_trying_177 ?_
  refine ac_iload_n Z.1 2 dX12_trying_178 rfl ?_
  refine ac_iconst (v := (-1)) Z.1 dX12_trying_179 (by decide) ?_
  obtain ⟨hwt, hwf⟩ := hw
  refine ac_icmp_ne (tgt := 194) Z.1 dX12_trying_180 (by decide) (fun hc => ?_) (fun hc => ?_)
  · have hw := hwt hc
    refine ac_aload_n Z.1 0 dX12_trying_194 rfl ?_
    refine r_geta Z.1 Z.2.1 26 (by decide) rfl fX12_67 rfl dX12_trying_195 ?_
    refine ac_iload_n Z.1 2 dX12_trying_198 rfl ?_
    refine ac_iload Z.1 3 dX12_trying_199 rfl ?_
    obtain ⟨hb33, hw⟩ := hw
    refine r_ast Z.1 Z.2.1 19 26 800 rfl rfl hb33 dX12_trying_201 ?_
    refine ac_lv [0, 1, 3] rfl ?_
    exact s_trying_202 Z hret hWB hK90 _ _ _ _ hw
  · have hw := hwf hc
    refine ac_aload_n Z.1 0 dX12_trying_183 rfl ?_
    refine r_geta Z.1 Z.2.1 20 (by decide) rfl fX12_49 rfl dX12_trying_184 ?_
    refine ac_iload_n Z.1 1 dX12_trying_187 rfl ?_
    refine ac_iload Z.1 3 dX12_trying_188 rfl ?_
    obtain ⟨hb40, hw⟩ := hw
    refine r_ast Z.1 Z.2.1 13 20 800 rfl rfl hb40 dX12_trying_190 ?_
    refine ac_goto (tgt := 202) Z.1 dX12_trying_191 (by decide) ?_
    refine ac_lv [0, 1, 3] rfl ?_
    exact s_trying_202 Z hret hWB hK90 _ _ _ _ hw
def w_trying_168 (WB : (Nat → Int32) → (Nat → Nat → Int32) → ((Nat → Int32) → (Nat → Nat → Int32) → Prop) → Prop) (K90 : (Int32 → Int32 → (Nat → Int32) → (Nat → Nat → Int32) → Prop)) (Q : (Nat → Int32) → (Nat → Nat → Int32) → Prop) (a1 : Int32) (a2 : Int32) (a4 : Int32) (t1 : Int32) (M : Nat → Int32) (F : Nat → Nat → Int32) : Prop := w_trying_169 WB K90 Q a1 a2 a4 t1 (-1) M F
set_option maxRecDepth 20000 in
theorem s_trying_168 {x : ac_X} {g : r_S} {l : Launch} {WB : (Nat → Int32) → (Nat → Nat → Int32) → ((Nat → Int32) → (Nat → Nat → Int32) → Prop) → Prop} {rkB : Nat} {K90 : (Int32 → Int32 → (Nat → Int32) → (Nat → Nat → Int32) → Prop)} {Q : (Nat → Int32) → (Nat → Nat → Int32) → Prop} (Z : r_Cx x g l cX12_trying 5 (rkB + 12)) (hret : r_RV x g 5 cX12_trying Q) (hWB : ∀ (M : Nat → Int32) (F : Nat → Nat → Int32) (Q : (Nat → Int32) → (Nat → Nat → Int32) → Prop), WB M F Q → r_MetV l g yX12_block cX12_block 1 rkB [.ref (r_h g)] M F Q) (hK90 : ∀ (a1 : Int32) (a2 : Int32) (M : Nat → Int32) (F : Nat → Nat → Int32), K90 a1 a2 M F → ac_G x (r_R g) 5 (r_P g M F) 0 0 90 [(0, .ref (r_h g)), (1, .int a1), (2, .int a2)] []) (a1 : Int32) (a2 : Int32) (a4 : Int32) (t1 : Int32) (M : Nat → Int32) (F : Nat → Nat → Int32) (hw : w_trying_168 WB K90 Q a1 a2 a4 t1 M F) : ac_G x (r_R g) 5 (r_P g M F) 0 0 168 [(0, .ref (r_h g)), (1, .int a1), (2, .int a2), (4, .int a4)] [.int t1, .ref (r_ad g 24)] := by
  refine ac_iconst (v := (-1)) Z.1 dX12_trying_168 (by decide) ?_
  exact s_trying_169 Z hret hWB hK90 _ _ _ _ _ _ _ hw
def w_trying_90 (WB : (Nat → Int32) → (Nat → Nat → Int32) → ((Nat → Int32) → (Nat → Nat → Int32) → Prop) → Prop) (Q : (Nat → Int32) → (Nat → Nat → Int32) → Prop) : Nat → Int32 → Int32 → (Nat → Int32) → (Nat → Nat → Int32) → Prop
  | 0 => fun _ _ _ _ => False
  | n + 1 => fun a1 a2 M F => (w_isWord 17 M F (fun r11 M12 F12 => ((r11 = 0 → (w_isWord 18 M12 F12 (fun r13 M14 F14 => ((r13 = 0 → (w_trying_270 WB Q a1 M14 F14)) ∧ (¬ r13 = 0 → (w_pass M14 F14 (fun M18 F18 => (w_here M18 F18 (fun r19 M20 F20 => (vp_in a1 800 ∧ (WB M20 (uf F20 21 a1 r19) (fun M22 F22 => (w_put 24 a1 0 0 M22 F22 (fun r23 M24 F24 => (w_trying_270 WB Q a1 M24 F24))))))))))))))) ∧ (¬ r11 = 0 → (w_pass M12 F12 (fun M25 F25 => (w_taken 5 (um M25 32 ((M25 32) + 1)) F25 (fun r26 M27 F27 => (vp_in ((400 * (M25 27)) + (M25 32)) 800 ∧ (w_bad M27 (uf F27 23 ((400 * (M25 27)) + (M25 32)) r26) (fun r29 M30 F30 => ((¬ r29 = 0 → (w_trying_168 WB (w_trying_90 WB Q n) Q a1 a2 ((400 * (M25 27)) + (M25 32)) ((400 * (M25 27)) + (M25 32)) M30 F30)) ∧ (r29 = 0 → ((¬ (M30 4) = 2 → (w_trying_168 WB (w_trying_90 WB Q n) Q a1 a2 ((400 * (M25 27)) + (M25 32)) ((400 * (M25 27)) + (M25 32)) M30 F30)) ∧ ((M30 4) = 2 → (w_object M30 F30 (fun r41 M42 F42 => (w_trying_169 WB (w_trying_90 WB Q n) Q a1 a2 ((400 * (M25 27)) + (M25 32)) ((400 * (M25 27)) + (M25 32)) r41 M42 F42))))))))))))))))))
set_option maxRecDepth 20000 in
theorem s_trying_90 {x : ac_X} {g : r_S} {l : Launch} {WB : (Nat → Int32) → (Nat → Nat → Int32) → ((Nat → Int32) → (Nat → Nat → Int32) → Prop) → Prop} {rkB : Nat} {Q : (Nat → Int32) → (Nat → Nat → Int32) → Prop} (Z : r_Cx x g l cX12_trying 5 (rkB + 12)) (hret : r_RV x g 5 cX12_trying Q) (hWB : ∀ (M : Nat → Int32) (F : Nat → Nat → Int32) (Q : (Nat → Int32) → (Nat → Nat → Int32) → Prop), WB M F Q → r_MetV l g yX12_block cX12_block 1 rkB [.ref (r_h g)] M F Q) : ∀ (n : Nat) (a1 : Int32) (a2 : Int32) (M : Nat → Int32) (F : Nat → Nat → Int32), w_trying_90 WB Q n a1 a2 M F → ac_G x (r_R g) 5 (r_P g M F) 0 0 90 [(0, .ref (r_h g)), (1, .int a1), (2, .int a2)] [] := by
  intro n
  induction n with
  | zero => intro _ _ _ _ hw; exact hw.elim
  | succ n ih =>
    intro a1 a2 M F hw
    dsimp only [w_trying_90] at hw
    refine ac_aload_n Z.1 0 dX12_trying_90 rfl ?_
    refine ac_bipush (v := 17) Z.1 dX12_trying_91 (by decide) ?_
    refine r_calli (As := [.int 17]) (st := []) Z kX12_isWord lkX12_246 (by omega) rfl (so_isWord   _ _ _ _ hw) rfl rfl (Nat.le_of_ble_eq_true rfl) dX12_trying_93 (fun r11 M12 F12 hw => ?_)
    obtain ⟨hwt, hwf⟩ := hw
    refine ac_if_eq (tgt := 233) Z.1 dX12_trying_96 (by decide) (fun hc => ?_) (fun hc => ?_)
    · have hw := hwt hc
      refine ac_aload_n Z.1 0 dX12_trying_233 rfl ?_
      refine ac_bipush (v := 18) Z.1 dX12_trying_234 (by decide) ?_
      refine r_calli (As := [.int 18]) (st := []) Z kX12_isWord lkX12_246 (by omega) rfl (so_isWord   _ _ _ _ hw) rfl rfl (Nat.le_of_ble_eq_true rfl) dX12_trying_236 (fun r13 M14 F14 hw => ?_)
      obtain ⟨hwt, hwf⟩ := hw
      refine ac_if_eq (tgt := 270) Z.1 dX12_trying_239 (by decide) (fun hc => ?_) (fun hc => ?_)
      · have hw := hwt hc
        refine ac_lv [0, 1] rfl ?_
        exact s_trying_270 Z hret hWB _ _ _ hw
      · have hw := hwf hc
        refine ac_aload_n Z.1 0 dX12_trying_242 rfl ?_
        refine r_callv (As := []) (st := []) Z kX12_pass lkX12_240 (by omega) rfl (so_pass    _ _ _ hw) rfl rfl (Nat.le_of_ble_eq_true rfl) dX12_trying_243 (fun M18 F18 hw => ?_)
        refine ac_aload_n Z.1 0 dX12_trying_246 rfl ?_
        refine r_geta Z.1 Z.2.1 21 (by decide) rfl fX12_52 rfl dX12_trying_247 ?_
        refine ac_iload_n Z.1 1 dX12_trying_250 rfl ?_
        refine ac_aload_n Z.1 0 dX12_trying_251 rfl ?_
        refine r_calli (As := []) (st := [.int a1, .ref (r_ad g 21)]) Z kX12_here lkX12_295 (by omega) rfl (so_here    _ _ _ hw) rfl rfl (Nat.le_of_ble_eq_true rfl) dX12_trying_252 (fun r19 M20 F20 hw => ?_)
        obtain ⟨hb21, hw⟩ := hw
        refine r_ast Z.1 Z.2.1 14 21 800 rfl rfl hb21 dX12_trying_255 ?_
        refine ac_aload_n Z.1 0 dX12_trying_256 rfl ?_
        refine r_callv (As := []) (st := []) Z kX12_block lkX12_298 (by omega) rfl (hWB  _ _ _ hw) rfl rfl (Nat.le_of_ble_eq_true rfl) dX12_trying_257 (fun M22 F22 hw => ?_)
        refine ac_aload_n Z.1 0 dX12_trying_260 rfl ?_
        refine ac_bipush (v := 24) Z.1 dX12_trying_261 (by decide) ?_
        refine ac_iload_n Z.1 1 dX12_trying_263 rfl ?_
        refine ac_iconst (v := 0) Z.1 dX12_trying_264 (by decide) ?_
        refine ac_iconst (v := 0) Z.1 dX12_trying_265 (by decide) ?_
        refine r_calli (As := [.int 24, .int a1, .int 0, .int 0]) (st := []) Z kX12_put lkX12_301 (by omega) rfl (so_put   _ _ _ _ _ _ _ hw) rfl rfl (Nat.le_of_ble_eq_true rfl) dX12_trying_266 (fun r23 M24 F24 hw => ?_)
        refine ac_istore_n (lv' := [(3, .int r23), (0, .ref (r_h g)), (1, .int a1), (2, .int a2)]) Z.1 dX12_trying_269 (by decide) rfl ?_
        refine ac_lv [1, 2] rfl ?_
        exact s_trying_270 Z hret hWB _ _ _ hw
    · have hw := hwf hc
      refine ac_aload_n Z.1 0 dX12_trying_99 rfl ?_
      refine r_callv (As := []) (st := []) Z kX12_pass lkX12_240 (by omega) rfl (so_pass    _ _ _ hw) rfl rfl (Nat.le_of_ble_eq_true rfl) dX12_trying_100 (fun M25 F25 hw => ?_)
      refine ac_sipush (v := 400) Z.1 dX12_trying_103 (by decide) ?_
      refine ac_aload_n Z.1 0 dX12_trying_106 rfl ?_
      refine r_geti (v := (M25 27)) Z.1 Z.2.1 27 (by decide) rfl fX12_70 rfl rfl dX12_trying_107 ?_
      refine ac_imul Z.1 dX12_trying_110 ?_
      refine ac_aload_n Z.1 0 dX12_trying_111 rfl ?_
      refine r_geti (v := (M25 32)) Z.1 Z.2.1 32 (by decide) rfl fX12_359 rfl rfl dX12_trying_112 ?_
      refine ac_iadd Z.1 dX12_trying_115 ?_
      refine ac_istore (lv' := [(4, .int ((400 * (M25 27)) + (M25 32))), (0, .ref (r_h g)), (1, .int a1), (2, .int a2)]) Z.1 dX12_trying_116 (by decide) rfl ?_
      refine ac_aload_n Z.1 1 dX12_trying_118 rfl ?_
      refine ac_dup Z.1 dX12_trying_119 rfl ?_
      refine r_geti (v := (M25 32)) Z.1 Z.2.1 32 (by decide) rfl fX12_359 rfl rfl dX12_trying_120 ?_
      refine ac_iconst (v := 1) Z.1 dX12_trying_123 (by decide) ?_
      refine ac_iadd Z.1 dX12_trying_124 ?_
      refine r_put Z.1 Z.2.1 32 (by decide) rfl rfl rfl fX12_359 rfl dX12_trying_125 ?_
      refine ac_aload_n Z.1 1 dX12_trying_128 rfl ?_
      refine r_geta Z.1 Z.2.1 23 (by decide) rfl fX12_58 rfl dX12_trying_129 ?_
      refine ac_iload Z.1 0 dX12_trying_132 rfl ?_
      refine ac_aload_n Z.1 1 dX12_trying_134 rfl ?_
      refine ac_iconst (v := 5) Z.1 dX12_trying_135 (by decide) ?_
      refine r_calli (As := [.int 5]) (st := [.int ((400 * (M25 27)) + (M25 32)), .ref (r_ad g 23)]) Z kX12_taken lkX12_274 (by omega) rfl (so_taken   _ _ _ _ hw) rfl rfl (Nat.le_of_ble_eq_true rfl) dX12_trying_136 (fun r26 M27 F27 hw => ?_)
      obtain ⟨hb28, hw⟩ := hw
      refine r_ast Z.1 Z.2.1 16 23 800 rfl rfl hb28 dX12_trying_139 ?_
      refine ac_aload_n Z.1 1 dX12_trying_140 rfl ?_
      refine r_geta Z.1 Z.2.1 24 (by decide) rfl fX12_61 rfl dX12_trying_141 ?_
      refine ac_iload Z.1 0 dX12_trying_144 rfl ?_
      refine ac_aload_n Z.1 1 dX12_trying_146 rfl ?_
      refine r_calli (As := []) (st := [.int ((400 * (M25 27)) + (M25 32)), .ref (r_ad g 24)]) Z kX12_bad lkX12_230 (by omega) rfl (so_bad    _ _ _ hw) rfl rfl (Nat.le_of_ble_eq_true rfl) dX12_trying_147 (fun r29 M30 F30 hw => ?_)
      obtain ⟨hwt, hwf⟩ := hw
      refine ac_if_ne (tgt := 168) Z.1 dX12_trying_150 (by decide) (fun hc => ?_) (fun hc => ?_)
      · have hw := hwt hc
        refine ac_lv [1, 2, 3, 0] rfl ?_
        exact s_trying_168 Z hret hWB ih _ _ _ _ _ _ hw
      · have hw := hwf hc
        refine ac_aload_n Z.1 1 dX12_trying_153 rfl ?_
        refine r_geti (v := (M30 4)) Z.1 Z.2.1 4 (by decide) rfl fX12_198 rfl rfl dX12_trying_154 ?_
        refine ac_iconst (v := 2) Z.1 dX12_trying_157 (by decide) ?_
        obtain ⟨hwt, hwf⟩ := hw
        refine ac_icmp_ne (tgt := 168) Z.1 dX12_trying_158 (by decide) (fun hc => ?_) (fun hc => ?_)
        · have hw := hwt hc
          refine ac_lv [1, 2, 3, 0] rfl ?_
          exact s_trying_168 Z hret hWB ih _ _ _ _ _ _ hw
        · have hw := hwf hc
          refine ac_aload_n Z.1 1 dX12_trying_161 rfl ?_
          refine r_calli (As := []) (st := [.int ((400 * (M25 27)) + (M25 32)), .ref (r_ad g 24)]) Z kX12_object lkX12_324 (by omega) rfl (so_object    _ _ _ hw) rfl rfl (Nat.le_of_ble_eq_true rfl) dX12_trying_162 (fun r41 M42 F42 hw => ?_)
          refine ac_goto (tgt := 169) Z.1 dX12_trying_165 (by decide) ?_
          refine ac_lv [1, 2, 3, 0] rfl ?_
          exact s_trying_169 Z hret hWB ih _ _ _ _ _ _ _ hw
def w_trying (WB : (Nat → Int32) → (Nat → Nat → Int32) → ((Nat → Int32) → (Nat → Nat → Int32) → Prop) → Prop) (M : Nat → Int32) (F : Nat → Nat → Int32) (Q : (Nat → Int32) → (Nat → Nat → Int32) → Prop) : Prop := w_pass M F (fun M1 F1 => (vp_in ((400 * (M1 27)) + (M1 31)) 800 ∧ (vp_in ((400 * (M1 27)) + (M1 31)) 800 ∧ (w_put 22 ((400 * (M1 27)) + (M1 31)) 0 0 (um M1 31 ((M1 31) + 1)) (uf (uf F1 20 ((400 * (M1 27)) + (M1 31)) (-1)) 21 ((400 * (M1 27)) + (M1 31)) (-1)) (fun r4 M5 F5 => (WB M5 F5 (fun M6 F6 => (w_put 23 ((400 * (M1 27)) + (M1 31)) 0 0 M6 F6 (fun r7 M8 F8 => (w_isWord 17 M8 F8 (fun r9 M10 F10 => ((¬ r9 = 0 → (∃ e90, w_trying_90 WB Q e90 ((400 * (M1 27)) + (M1 31)) (-1) M10 F10)) ∧ (r9 = 0 → (w_isWord 18 M10 F10 (fun r43 M44 F44 => ((¬ r43 = 0 → (∃ e90, w_trying_90 WB Q e90 ((400 * (M1 27)) + (M1 31)) (-1) M44 F44)) ∧ (r43 = 0 → (w_fail M44 F44 (fun M45 F45 => (∃ e90, w_trying_90 WB Q e90 ((400 * (M1 27)) + (M1 31)) (-1) M45 F45))))))))))))))))))))
set_option maxRecDepth 20000 in
theorem so_trying {l : Launch} {g : r_S} {WB : (Nat → Int32) → (Nat → Nat → Int32) → ((Nat → Int32) → (Nat → Nat → Int32) → Prop) → Prop} {rkB : Nat} (hWB : ∀ (M : Nat → Int32) (F : Nat → Nat → Int32) (Q : (Nat → Int32) → (Nat → Nat → Int32) → Prop), WB M F Q → r_MetV l g yX12_block cX12_block 1 rkB [.ref (r_h g)] M F Q) (M : Nat → Int32) (F : Nat → Nat → Int32) (Q : (Nat → Int32) → (Nat → Nat → Int32) → Prop) (hw : w_trying WB  M F Q) : r_MetV l g yX12_trying cX12_trying 5 (rkB + 12) [.ref (r_h g)] M F Q := by
  refine r_MetV.of (by decide) rfl (Nat.le_of_ble_eq_true rfl) (fun x Z hret => ?_)
  show ac_G x (r_R g) 5 (r_P g M F) 0 0 0 [(0, .ref (r_h g))] []
  refine ac_aload_n Z.1 0 dX12_trying_0 rfl ?_
  refine r_callv (As := []) (st := []) Z kX12_pass lkX12_240 (by omega) rfl (so_pass    _ _ _ hw) rfl rfl (Nat.le_of_ble_eq_true rfl) dX12_trying_1 (fun M1 F1 hw => ?_)
  refine ac_sipush (v := 400) Z.1 dX12_trying_4 (by decide) ?_
  refine ac_aload_n Z.1 0 dX12_trying_7 rfl ?_
  refine r_geti (v := (M1 27)) Z.1 Z.2.1 27 (by decide) rfl fX12_70 rfl rfl dX12_trying_8 ?_
  refine ac_imul Z.1 dX12_trying_11 ?_
  refine ac_aload_n Z.1 0 dX12_trying_12 rfl ?_
  refine r_geti (v := (M1 31)) Z.1 Z.2.1 31 (by decide) rfl fX12_356 rfl rfl dX12_trying_13 ?_
  refine ac_iadd Z.1 dX12_trying_16 ?_
  refine ac_istore_n (lv' := [(1, .int ((400 * (M1 27)) + (M1 31))), (0, .ref (r_h g))]) Z.1 dX12_trying_17 (by decide) rfl ?_
  refine ac_aload_n Z.1 1 dX12_trying_18 rfl ?_
  refine ac_dup Z.1 dX12_trying_19 rfl ?_
  refine r_geti (v := (M1 31)) Z.1 Z.2.1 31 (by decide) rfl fX12_356 rfl rfl dX12_trying_20 ?_
  refine ac_iconst (v := 1) Z.1 dX12_trying_23 (by decide) ?_
  refine ac_iadd Z.1 dX12_trying_24 ?_
  refine r_put Z.1 Z.2.1 31 (by decide) rfl rfl rfl fX12_356 rfl dX12_trying_25 ?_
  refine ac_aload_n Z.1 1 dX12_trying_28 rfl ?_
  refine r_geta Z.1 Z.2.1 20 (by decide) rfl fX12_49 rfl dX12_trying_29 ?_
  refine ac_iload_n Z.1 0 dX12_trying_32 rfl ?_
  refine ac_iconst (v := (-1)) Z.1 dX12_trying_33 (by decide) ?_
  obtain ⟨hb2, hw⟩ := hw
  refine r_ast Z.1 Z.2.1 13 20 800 rfl rfl hb2 dX12_trying_34 ?_
  refine ac_aload_n Z.1 1 dX12_trying_35 rfl ?_
  refine r_geta Z.1 Z.2.1 21 (by decide) rfl fX12_52 rfl dX12_trying_36 ?_
  refine ac_iload_n Z.1 0 dX12_trying_39 rfl ?_
  refine ac_iconst (v := (-1)) Z.1 dX12_trying_40 (by decide) ?_
  obtain ⟨hb3, hw⟩ := hw
  refine r_ast Z.1 Z.2.1 14 21 800 rfl rfl hb3 dX12_trying_41 ?_
  refine ac_iconst (v := (-1)) Z.1 dX12_trying_42 (by decide) ?_
  refine ac_istore_n (lv' := [(2, .int (-1)), (1, .int ((400 * (M1 27)) + (M1 31))), (0, .ref (r_h g))]) Z.1 dX12_trying_43 (by decide) rfl ?_
  refine ac_aload_n Z.1 2 dX12_trying_44 rfl ?_
  refine ac_bipush (v := 22) Z.1 dX12_trying_45 (by decide) ?_
  refine ac_iload_n Z.1 1 dX12_trying_47 rfl ?_
  refine ac_iconst (v := 0) Z.1 dX12_trying_48 (by decide) ?_
  refine ac_iconst (v := 0) Z.1 dX12_trying_49 (by decide) ?_
  refine r_calli (As := [.int 22, .int ((400 * (M1 27)) + (M1 31)), .int 0, .int 0]) (st := []) Z kX12_put lkX12_301 (by omega) rfl (so_put   _ _ _ _ _ _ _ hw) rfl rfl (Nat.le_of_ble_eq_true rfl) dX12_trying_50 (fun r4 M5 F5 hw => ?_)
  refine ac_istore_n (lv' := [(3, .int r4), (2, .int (-1)), (1, .int ((400 * (M1 27)) + (M1 31))), (0, .ref (r_h g))]) Z.1 dX12_trying_53 (by decide) rfl ?_
  refine ac_aload_n Z.1 3 dX12_trying_54 rfl ?_
  refine r_callv (As := []) (st := []) Z kX12_block lkX12_298 (by omega) rfl (hWB  _ _ _ hw) rfl rfl (Nat.le_of_ble_eq_true rfl) dX12_trying_55 (fun M6 F6 hw => ?_)
  refine ac_aload_n Z.1 3 dX12_trying_58 rfl ?_
  refine ac_bipush (v := 23) Z.1 dX12_trying_59 (by decide) ?_
  refine ac_iload_n Z.1 2 dX12_trying_61 rfl ?_
  refine ac_iconst (v := 0) Z.1 dX12_trying_62 (by decide) ?_
  refine ac_iconst (v := 0) Z.1 dX12_trying_63 (by decide) ?_
  refine r_calli (As := [.int 23, .int ((400 * (M1 27)) + (M1 31)), .int 0, .int 0]) (st := []) Z kX12_put lkX12_301 (by omega) rfl (so_put   _ _ _ _ _ _ _ hw) rfl rfl (Nat.le_of_ble_eq_true rfl) dX12_trying_64 (fun r7 M8 F8 hw => ?_)
  refine ac_istore_n (lv' := [(3, .int r7), (2, .int (-1)), (1, .int ((400 * (M1 27)) + (M1 31))), (0, .ref (r_h g))]) Z.1 dX12_trying_67 (by decide) rfl ?_
  refine ac_aload_n Z.1 3 dX12_trying_68 rfl ?_
  refine ac_bipush (v := 17) Z.1 dX12_trying_69 (by decide) ?_
  refine r_calli (As := [.int 17]) (st := []) Z kX12_isWord lkX12_246 (by omega) rfl (so_isWord   _ _ _ _ hw) rfl rfl (Nat.le_of_ble_eq_true rfl) dX12_trying_71 (fun r9 M10 F10 hw => ?_)
  obtain ⟨hwt, hwf⟩ := hw
  refine ac_if_ne (tgt := 90) Z.1 dX12_trying_74 (by decide) (fun hc => ?_) (fun hc => ?_)
  · have hw := hwt hc
    obtain ⟨n, hw⟩ := hw
    refine ac_lv [3, 2, 1] rfl ?_
    exact s_trying_90 Z hret hWB n _ _ _ _ hw
  · have hw := hwf hc
    refine ac_aload_n Z.1 3 dX12_trying_77 rfl ?_
    refine ac_bipush (v := 18) Z.1 dX12_trying_78 (by decide) ?_
    refine r_calli (As := [.int 18]) (st := []) Z kX12_isWord lkX12_246 (by omega) rfl (so_isWord   _ _ _ _ hw) rfl rfl (Nat.le_of_ble_eq_true rfl) dX12_trying_80 (fun r43 M44 F44 hw => ?_)
    obtain ⟨hwt, hwf⟩ := hw
    refine ac_if_ne (tgt := 90) Z.1 dX12_trying_83 (by decide) (fun hc => ?_) (fun hc => ?_)
    · have hw := hwt hc
      obtain ⟨n, hw⟩ := hw
      refine ac_lv [3, 2, 1] rfl ?_
      exact s_trying_90 Z hret hWB n _ _ _ _ hw
    · have hw := hwf hc
      refine ac_aload_n Z.1 3 dX12_trying_86 rfl ?_
      refine r_callv (As := []) (st := []) Z kX12_fail lkX12_243 (by omega) rfl (so_fail    _ _ _ hw) rfl rfl (Nat.le_of_ble_eq_true rfl) dX12_trying_87 (fun M45 F45 hw => ?_)
      obtain ⟨n, hw⟩ := hw
      refine ac_lv [3, 2, 1] rfl ?_
      exact s_trying_90 Z hret hWB n _ _ _ _ hw
def w_statement_94 (WF : (Nat → Int32) → (Nat → Nat → Int32) → ((Nat → Int32) → (Nat → Nat → Int32) → Prop) → Prop) (WB : (Nat → Int32) → (Nat → Nat → Int32) → ((Nat → Int32) → (Nat → Nat → Int32) → Prop) → Prop) (Q : (Nat → Int32) → (Nat → Nat → Int32) → Prop) (M : Nat → Int32) (F : Nat → Nat → Int32) : Prop := w_fail M F (fun M7 F7 => (Q M7 F7))
set_option maxRecDepth 20000 in
theorem s_statement_94 {x : ac_X} {g : r_S} {l : Launch} {WF : (Nat → Int32) → (Nat → Nat → Int32) → ((Nat → Int32) → (Nat → Nat → Int32) → Prop) → Prop} {WB : (Nat → Int32) → (Nat → Nat → Int32) → ((Nat → Int32) → (Nat → Nat → Int32) → Prop) → Prop} {rkF rkB : Nat} {Q : (Nat → Int32) → (Nat → Nat → Int32) → Prop} (Z : r_Cx x g l cX12_statement 5 (rkB + 13)) (hret : r_RV x g 5 cX12_statement Q) (hWF : ∀ (M : Nat → Int32) (F : Nat → Nat → Int32) (Q : (Nat → Int32) → (Nat → Nat → Int32) → Prop), WF M F Q → r_MetV l g yX12_factor cX12_factor 3 rkF [.ref (r_h g)] M F Q) (hWB : ∀ (M : Nat → Int32) (F : Nat → Nat → Int32) (Q : (Nat → Int32) → (Nat → Nat → Int32) → Prop), WB M F Q → r_MetV l g yX12_block cX12_block 1 rkB [.ref (r_h g)] M F Q) (hFB : rkF + 30 ≤ rkB) (M : Nat → Int32) (F : Nat → Nat → Int32) (hw : w_statement_94 WF WB Q M F) : ac_G x (r_R g) 5 (r_P g M F) 0 0 94 [(0, .ref (r_h g))] [] := by
  refine ac_aload_n Z.1 0 dX12_statement_94 rfl ?_
  refine r_callv (As := []) (st := []) Z kX12_fail lkX12_243 (by omega) rfl (so_fail    _ _ _ hw) rfl rfl (Nat.le_of_ble_eq_true rfl) dX12_statement_95 (fun M7 F7 hw => ?_)
  exact hret _ _ _ _ dX12_statement_98 hw
def w_statement_270 (WF : (Nat → Int32) → (Nat → Nat → Int32) → ((Nat → Int32) → (Nat → Nat → Int32) → Prop) → Prop) (WB : (Nat → Int32) → (Nat → Nat → Int32) → ((Nat → Int32) → (Nat → Nat → Int32) → Prop) → Prop) (Q : (Nat → Int32) → (Nat → Nat → Int32) → Prop) (M : Nat → Int32) (F : Nat → Nat → Int32) : Prop := w_need 59 M F (fun M28 F28 => (w_put 19 0 0 0 M28 F28 (fun r29 M30 F30 => (Q M30 F30))))
set_option maxRecDepth 20000 in
theorem s_statement_270 {x : ac_X} {g : r_S} {l : Launch} {WF : (Nat → Int32) → (Nat → Nat → Int32) → ((Nat → Int32) → (Nat → Nat → Int32) → Prop) → Prop} {WB : (Nat → Int32) → (Nat → Nat → Int32) → ((Nat → Int32) → (Nat → Nat → Int32) → Prop) → Prop} {rkF rkB : Nat} {Q : (Nat → Int32) → (Nat → Nat → Int32) → Prop} (Z : r_Cx x g l cX12_statement 5 (rkB + 13)) (hret : r_RV x g 5 cX12_statement Q) (hWF : ∀ (M : Nat → Int32) (F : Nat → Nat → Int32) (Q : (Nat → Int32) → (Nat → Nat → Int32) → Prop), WF M F Q → r_MetV l g yX12_factor cX12_factor 3 rkF [.ref (r_h g)] M F Q) (hWB : ∀ (M : Nat → Int32) (F : Nat → Nat → Int32) (Q : (Nat → Int32) → (Nat → Nat → Int32) → Prop), WB M F Q → r_MetV l g yX12_block cX12_block 1 rkB [.ref (r_h g)] M F Q) (hFB : rkF + 30 ≤ rkB) (M : Nat → Int32) (F : Nat → Nat → Int32) (hw : w_statement_270 WF WB Q M F) : ac_G x (r_R g) 5 (r_P g M F) 0 0 270 [(0, .ref (r_h g))] [] := by
  refine ac_aload_n Z.1 0 dX12_statement_270 rfl ?_
  refine ac_bipush (v := 59) Z.1 dX12_statement_271 (by decide) ?_
  refine r_callv (As := [.int 59]) (st := []) Z kX12_need lkX12_252 (by omega) rfl (so_need   _ _ _ _ hw) rfl rfl (Nat.le_of_ble_eq_true rfl) dX12_statement_273 (fun M28 F28 hw => ?_)
  refine ac_aload_n Z.1 0 dX12_statement_276 rfl ?_
  refine ac_bipush (v := 19) Z.1 dX12_statement_277 (by decide) ?_
  refine ac_iconst (v := 0) Z.1 dX12_statement_279 (by decide) ?_
  refine ac_iconst (v := 0) Z.1 dX12_statement_280 (by decide) ?_
  refine ac_iconst (v := 0) Z.1 dX12_statement_281 (by decide) ?_
  refine r_calli (As := [.int 19, .int 0, .int 0, .int 0]) (st := []) Z kX12_put lkX12_301 (by omega) rfl (so_put   _ _ _ _ _ _ _ hw) rfl rfl (Nat.le_of_ble_eq_true rfl) dX12_statement_282 (fun r29 M30 F30 hw => ?_)
  refine ac_istore_n (lv' := [(1, .int r29), (0, .ref (r_h g))]) Z.1 dX12_statement_285 (by decide) rfl ?_
  refine ac_goto (tgt := 314) Z.1 dX12_statement_286 (by decide) ?_
  exact hret _ _ _ _ dX12_statement_314 hw
def w_statement_79 (WF : (Nat → Int32) → (Nat → Nat → Int32) → ((Nat → Int32) → (Nat → Nat → Int32) → Prop) → Prop) (WB : (Nat → Int32) → (Nat → Nat → Int32) → ((Nat → Int32) → (Nat → Nat → Int32) → Prop) → Prop) (Q : (Nat → Int32) → (Nat → Nat → Int32) → Prop) (M : Nat → Int32) (F : Nat → Nat → Int32) : Prop := w_bad M F (fun r5 M6 F6 => ((¬ r5 = 0 → (w_statement_94 WF WB Q M6 F6)) ∧ (r5 = 0 → (((M6 4) = 4 → (((M6 5) = 1 → (w_let WF M6 F6 (fun M8 F8 => (Q M8 F8)))) ∧ ((M6 5) = 2 → (w_hold WF M6 F6 (fun M9 F9 => (Q M9 F9)))) ∧ ((M6 5) = 3 → (w_fail M6 F6 (fun M10 F10 => (Q M10 F10)))) ∧ ((M6 5) = 4 → (w_fail M6 F6 (fun M11 F11 => (Q M11 F11)))) ∧ ((M6 5) = 5 → (w_fail M6 F6 (fun M12 F12 => (Q M12 F12)))) ∧ ((M6 5) = 6 → (w_pass M6 F6 (fun M13 F13 => (w_object M13 F13 (fun r14 M15 F15 => (w_put 14 r14 0 0 M15 F15 (fun r16 M17 F17 => (w_need 59 M17 F17 (fun M18 F18 => (Q M18 F18)))))))))) ∧ ((M6 5) = 7 → (w_join M6 F6 (fun M19 F19 => (Q M19 F19)))) ∧ ((M6 5) = 8 → (w_fail M6 F6 (fun M20 F20 => (Q M20 F20)))) ∧ ((M6 5) = 9 → (w_note WF M6 F6 (fun M21 F21 => (Q M21 F21)))) ∧ ((M6 5) = 10 → (w_hear WF M6 F6 (fun M22 F22 => (Q M22 F22)))) ∧ ((M6 5) = 11 → (w_fail M6 F6 (fun M23 F23 => (Q M23 F23)))) ∧ ((M6 5) = 12 → (w_pass M6 F6 (fun M24 F24 => (w_isSign 59 M24 F24 (fun r25 M26 F26 => ((r25 = 0 → (w_whole WF M26 F26 (fun M27 F27 => (w_statement_270 WF WB Q M27 F27)))) ∧ (¬ r25 = 0 → (w_put 1 0 0 0 M26 F26 (fun r31 M32 F32 => (w_statement_270 WF WB Q M32 F32)))))))))) ∧ ((M6 5) = 13 → (w_choice WF WB M6 F6 (fun M33 F33 => (Q M33 F33)))) ∧ ((M6 5) = 14 → (w_fail M6 F6 (fun M34 F34 => (Q M34 F34)))) ∧ ((M6 5) = 15 → (w_loop WF WB M6 F6 (fun M35 F35 => (Q M35 F35)))) ∧ ((M6 5) = 16 → (w_trying WB M6 F6 (fun M36 F36 => (Q M36 F36)))) ∧ (¬ (M6 5) = 1 → ¬ (M6 5) = 2 → ¬ (M6 5) = 3 → ¬ (M6 5) = 4 → ¬ (M6 5) = 5 → ¬ (M6 5) = 6 → ¬ (M6 5) = 7 → ¬ (M6 5) = 8 → ¬ (M6 5) = 9 → ¬ (M6 5) = 10 → ¬ (M6 5) = 11 → ¬ (M6 5) = 12 → ¬ (M6 5) = 13 → ¬ (M6 5) = 14 → ¬ (M6 5) = 15 → ¬ (M6 5) = 16 → (w_fail M6 F6 (fun M37 F37 => (Q M37 F37)))))) ∧ (¬ (M6 4) = 4 → (w_statement_94 WF WB Q M6 F6))))))
set_option maxRecDepth 20000 in
theorem s_statement_79 {x : ac_X} {g : r_S} {l : Launch} {WF : (Nat → Int32) → (Nat → Nat → Int32) → ((Nat → Int32) → (Nat → Nat → Int32) → Prop) → Prop} {WB : (Nat → Int32) → (Nat → Nat → Int32) → ((Nat → Int32) → (Nat → Nat → Int32) → Prop) → Prop} {rkF rkB : Nat} {Q : (Nat → Int32) → (Nat → Nat → Int32) → Prop} (Z : r_Cx x g l cX12_statement 5 (rkB + 13)) (hret : r_RV x g 5 cX12_statement Q) (hWF : ∀ (M : Nat → Int32) (F : Nat → Nat → Int32) (Q : (Nat → Int32) → (Nat → Nat → Int32) → Prop), WF M F Q → r_MetV l g yX12_factor cX12_factor 3 rkF [.ref (r_h g)] M F Q) (hWB : ∀ (M : Nat → Int32) (F : Nat → Nat → Int32) (Q : (Nat → Int32) → (Nat → Nat → Int32) → Prop), WB M F Q → r_MetV l g yX12_block cX12_block 1 rkB [.ref (r_h g)] M F Q) (hFB : rkF + 30 ≤ rkB) (M : Nat → Int32) (F : Nat → Nat → Int32) (hw : w_statement_79 WF WB Q M F) : ac_G x (r_R g) 5 (r_P g M F) 0 0 79 [(0, .ref (r_h g))] [] := by
  refine ac_aload_n Z.1 0 dX12_statement_79 rfl ?_
  refine r_calli (As := []) (st := []) Z kX12_bad lkX12_230 (by omega) rfl (so_bad    _ _ _ hw) rfl rfl (Nat.le_of_ble_eq_true rfl) dX12_statement_80 (fun r5 M6 F6 hw => ?_)
  obtain ⟨hwt, hwf⟩ := hw
  refine ac_if_ne (tgt := 94) Z.1 dX12_statement_83 (by decide) (fun hc => ?_) (fun hc => ?_)
  · have hw := hwt hc
    exact s_statement_94 Z hret hWF hWB hFB _ _ hw
  · have hw := hwf hc
    refine ac_aload_n Z.1 0 dX12_statement_86 rfl ?_
    refine r_geti (v := (M6 4)) Z.1 Z.2.1 4 (by decide) rfl fX12_198 rfl rfl dX12_statement_87 ?_
    refine ac_iconst (v := 4) Z.1 dX12_statement_90 (by decide) ?_
    obtain ⟨hwt, hwf⟩ := hw
    refine ac_icmp_eq (tgt := 99) Z.1 dX12_statement_91 (by decide) (fun hc => ?_) (fun hc => ?_)
    · have hw := hwt hc
      refine ac_aload_n Z.1 0 dX12_statement_99 rfl ?_
      refine r_geti (v := (M6 5)) Z.1 Z.2.1 5 (by decide) rfl fX12_207 rfl rfl dX12_statement_100 ?_
      obtain ⟨hwk, hw⟩ := hw
      by_cases hk0 : (M6 5) = 1
      · have hw := hwk hk0
        refine ac_tableIn (off := 77) (tgt := 180) Z.1 dX12_statement_103 (by rw [hk0]; decide) (by rw [hk0]; decide) (by rw [hk0]; rfl) (by decide) ?_
        refine ac_aload_n Z.1 0 dX12_statement_180 rfl ?_
        refine r_callv (As := []) (st := []) Z kX12_let lkX12_318 (by omega) rfl (so_let hWF   _ _ _ hw) rfl rfl (Nat.le_of_ble_eq_true rfl) dX12_statement_181 (fun M8 F8 hw => ?_)
        refine ac_goto (tgt := 314) Z.1 dX12_statement_184 (by decide) ?_
        exact hret _ _ _ _ dX12_statement_314 hw
      obtain ⟨hwk, hw⟩ := hw
      by_cases hk1 : (M6 5) = 2
      · have hw := hwk hk1
        refine ac_tableIn (off := 84) (tgt := 187) Z.1 dX12_statement_103 (by rw [hk1]; decide) (by rw [hk1]; decide) (by rw [hk1]; rfl) (by decide) ?_
        refine ac_aload_n Z.1 0 dX12_statement_187 rfl ?_
        refine r_callv (As := []) (st := []) Z kX12_hold lkX12_321 (by omega) rfl (so_hold hWF   _ _ _ hw) rfl rfl (Nat.le_of_ble_eq_true rfl) dX12_statement_188 (fun M9 F9 hw => ?_)
        refine ac_goto (tgt := 314) Z.1 dX12_statement_191 (by decide) ?_
        exact hret _ _ _ _ dX12_statement_314 hw
      obtain ⟨hwk, hw⟩ := hw
      by_cases hk2 : (M6 5) = 3
      · have hw := hwk hk2
        refine ac_tableIn (off := 207) (tgt := 310) Z.1 dX12_statement_103 (by rw [hk2]; decide) (by rw [hk2]; decide) (by rw [hk2]; rfl) (by decide) ?_
        refine ac_aload_n Z.1 0 dX12_statement_310 rfl ?_
        refine r_callv (As := []) (st := []) Z kX12_fail lkX12_243 (by omega) rfl (so_fail    _ _ _ hw) rfl rfl (Nat.le_of_ble_eq_true rfl) dX12_statement_311 (fun M10 F10 hw => ?_)
        exact hret _ _ _ _ dX12_statement_314 hw
      obtain ⟨hwk, hw⟩ := hw
      by_cases hk3 : (M6 5) = 4
      · have hw := hwk hk3
        refine ac_tableIn (off := 207) (tgt := 310) Z.1 dX12_statement_103 (by rw [hk3]; decide) (by rw [hk3]; decide) (by rw [hk3]; rfl) (by decide) ?_
        refine ac_aload_n Z.1 0 dX12_statement_310 rfl ?_
        refine r_callv (As := []) (st := []) Z kX12_fail lkX12_243 (by omega) rfl (so_fail    _ _ _ hw) rfl rfl (Nat.le_of_ble_eq_true rfl) dX12_statement_311 (fun M11 F11 hw => ?_)
        exact hret _ _ _ _ dX12_statement_314 hw
      obtain ⟨hwk, hw⟩ := hw
      by_cases hk4 : (M6 5) = 5
      · have hw := hwk hk4
        refine ac_tableIn (off := 207) (tgt := 310) Z.1 dX12_statement_103 (by rw [hk4]; decide) (by rw [hk4]; decide) (by rw [hk4]; rfl) (by decide) ?_
        refine ac_aload_n Z.1 0 dX12_statement_310 rfl ?_
        refine r_callv (As := []) (st := []) Z kX12_fail lkX12_243 (by omega) rfl (so_fail    _ _ _ hw) rfl rfl (Nat.le_of_ble_eq_true rfl) dX12_statement_311 (fun M12 F12 hw => ?_)
        exact hret _ _ _ _ dX12_statement_314 hw
      obtain ⟨hwk, hw⟩ := hw
      by_cases hk5 : (M6 5) = 6
      · have hw := hwk hk5
        refine ac_tableIn (off := 91) (tgt := 194) Z.1 dX12_statement_103 (by rw [hk5]; decide) (by rw [hk5]; decide) (by rw [hk5]; rfl) (by decide) ?_
        refine ac_aload_n Z.1 0 dX12_statement_194 rfl ?_
        refine r_callv (As := []) (st := []) Z kX12_pass lkX12_240 (by omega) rfl (so_pass    _ _ _ hw) rfl rfl (Nat.le_of_ble_eq_true rfl) dX12_statement_195 (fun M13 F13 hw => ?_)
        refine ac_aload_n Z.1 0 dX12_statement_198 rfl ?_
        refine ac_bipush (v := 14) Z.1 dX12_statement_199 (by decide) ?_
        refine ac_aload_n Z.1 0 dX12_statement_201 rfl ?_
        refine r_calli (As := []) (st := [.int 14, .ref (r_h g)]) Z kX12_object lkX12_324 (by omega) rfl (so_object    _ _ _ hw) rfl rfl (Nat.le_of_ble_eq_true rfl) dX12_statement_202 (fun r14 M15 F15 hw => ?_)
        refine ac_iconst (v := 0) Z.1 dX12_statement_205 (by decide) ?_
        refine ac_iconst (v := 0) Z.1 dX12_statement_206 (by decide) ?_
        refine r_calli (As := [.int 14, .int r14, .int 0, .int 0]) (st := []) Z kX12_put lkX12_301 (by omega) rfl (so_put   _ _ _ _ _ _ _ hw) rfl rfl (Nat.le_of_ble_eq_true rfl) dX12_statement_207 (fun r16 M17 F17 hw => ?_)
        refine ac_istore_n (lv' := [(1, .int r16), (0, .ref (r_h g))]) Z.1 dX12_statement_210 (by decide) rfl ?_
        refine ac_aload_n Z.1 1 dX12_statement_211 rfl ?_
        refine ac_bipush (v := 59) Z.1 dX12_statement_212 (by decide) ?_
        refine r_callv (As := [.int 59]) (st := []) Z kX12_need lkX12_252 (by omega) rfl (so_need   _ _ _ _ hw) rfl rfl (Nat.le_of_ble_eq_true rfl) dX12_statement_214 (fun M18 F18 hw => ?_)
        refine ac_goto (tgt := 314) Z.1 dX12_statement_217 (by decide) ?_
        exact hret _ _ _ _ dX12_statement_314 hw
      obtain ⟨hwk, hw⟩ := hw
      by_cases hk6 : (M6 5) = 7
      · have hw := hwk hk6
        refine ac_tableIn (off := 117) (tgt := 220) Z.1 dX12_statement_103 (by rw [hk6]; decide) (by rw [hk6]; decide) (by rw [hk6]; rfl) (by decide) ?_
        refine ac_aload_n Z.1 0 dX12_statement_220 rfl ?_
        refine r_callv (As := []) (st := []) Z kX12_join lkX12_327 (by omega) rfl (so_join    _ _ _ hw) rfl rfl (Nat.le_of_ble_eq_true rfl) dX12_statement_221 (fun M19 F19 hw => ?_)
        refine ac_goto (tgt := 314) Z.1 dX12_statement_224 (by decide) ?_
        exact hret _ _ _ _ dX12_statement_314 hw
      obtain ⟨hwk, hw⟩ := hw
      by_cases hk7 : (M6 5) = 8
      · have hw := hwk hk7
        refine ac_tableIn (off := 207) (tgt := 310) Z.1 dX12_statement_103 (by rw [hk7]; decide) (by rw [hk7]; decide) (by rw [hk7]; rfl) (by decide) ?_
        refine ac_aload_n Z.1 0 dX12_statement_310 rfl ?_
        refine r_callv (As := []) (st := []) Z kX12_fail lkX12_243 (by omega) rfl (so_fail    _ _ _ hw) rfl rfl (Nat.le_of_ble_eq_true rfl) dX12_statement_311 (fun M20 F20 hw => ?_)
        exact hret _ _ _ _ dX12_statement_314 hw
      obtain ⟨hwk, hw⟩ := hw
      by_cases hk8 : (M6 5) = 9
      · have hw := hwk hk8
        refine ac_tableIn (off := 124) (tgt := 227) Z.1 dX12_statement_103 (by rw [hk8]; decide) (by rw [hk8]; decide) (by rw [hk8]; rfl) (by decide) ?_
        refine ac_aload_n Z.1 0 dX12_statement_227 rfl ?_
        refine r_callv (As := []) (st := []) Z kX12_note lkX12_330 (by omega) rfl (so_note hWF   _ _ _ hw) rfl rfl (Nat.le_of_ble_eq_true rfl) dX12_statement_228 (fun M21 F21 hw => ?_)
        refine ac_goto (tgt := 314) Z.1 dX12_statement_231 (by decide) ?_
        exact hret _ _ _ _ dX12_statement_314 hw
      obtain ⟨hwk, hw⟩ := hw
      by_cases hk9 : (M6 5) = 10
      · have hw := hwk hk9
        refine ac_tableIn (off := 131) (tgt := 234) Z.1 dX12_statement_103 (by rw [hk9]; decide) (by rw [hk9]; decide) (by rw [hk9]; rfl) (by decide) ?_
        refine ac_aload_n Z.1 0 dX12_statement_234 rfl ?_
        refine r_callv (As := []) (st := []) Z kX12_hear lkX12_333 (by omega) rfl (so_hear hWF   _ _ _ hw) rfl rfl (Nat.le_of_ble_eq_true rfl) dX12_statement_235 (fun M22 F22 hw => ?_)
        refine ac_goto (tgt := 314) Z.1 dX12_statement_238 (by decide) ?_
        exact hret _ _ _ _ dX12_statement_314 hw
      obtain ⟨hwk, hw⟩ := hw
      by_cases hk10 : (M6 5) = 11
      · have hw := hwk hk10
        refine ac_tableIn (off := 207) (tgt := 310) Z.1 dX12_statement_103 (by rw [hk10]; decide) (by rw [hk10]; decide) (by rw [hk10]; rfl) (by decide) ?_
        refine ac_aload_n Z.1 0 dX12_statement_310 rfl ?_
        refine r_callv (As := []) (st := []) Z kX12_fail lkX12_243 (by omega) rfl (so_fail    _ _ _ hw) rfl rfl (Nat.le_of_ble_eq_true rfl) dX12_statement_311 (fun M23 F23 hw => ?_)
        exact hret _ _ _ _ dX12_statement_314 hw
      obtain ⟨hwk, hw⟩ := hw
      by_cases hk11 : (M6 5) = 12
      · have hw := hwk hk11
        refine ac_tableIn (off := 138) (tgt := 241) Z.1 dX12_statement_103 (by rw [hk11]; decide) (by rw [hk11]; decide) (by rw [hk11]; rfl) (by decide) ?_
        refine ac_aload_n Z.1 0 dX12_statement_241 rfl ?_
        refine r_callv (As := []) (st := []) Z kX12_pass lkX12_240 (by omega) rfl (so_pass    _ _ _ hw) rfl rfl (Nat.le_of_ble_eq_true rfl) dX12_statement_242 (fun M24 F24 hw => ?_)
        refine ac_aload_n Z.1 0 dX12_statement_245 rfl ?_
        refine ac_bipush (v := 59) Z.1 dX12_statement_246 (by decide) ?_
        refine r_calli (As := [.int 59]) (st := []) Z kX12_isSign lkX12_237 (by omega) rfl (so_isSign   _ _ _ _ hw) rfl rfl (Nat.le_of_ble_eq_true rfl) dX12_statement_248 (fun r25 M26 F26 hw => ?_)
        obtain ⟨hwt, hwf⟩ := hw
        refine ac_if_eq (tgt := 266) Z.1 dX12_statement_251 (by decide) (fun hc => ?_) (fun hc => ?_)
        · have hw := hwt hc
          refine ac_aload_n Z.1 0 dX12_statement_266 rfl ?_
          refine r_callv (As := []) (st := []) Z kX12_whole lkX12_315 (by omega) rfl (so_whole hWF   _ _ _ hw) rfl rfl (Nat.le_of_ble_eq_true rfl) dX12_statement_267 (fun M27 F27 hw => ?_)
          exact s_statement_270 Z hret hWF hWB hFB _ _ hw
        · have hw := hwf hc
          refine ac_aload_n Z.1 0 dX12_statement_254 rfl ?_
          refine ac_iconst (v := 1) Z.1 dX12_statement_255 (by decide) ?_
          refine ac_iconst (v := 0) Z.1 dX12_statement_256 (by decide) ?_
          refine ac_iconst (v := 0) Z.1 dX12_statement_257 (by decide) ?_
          refine ac_iconst (v := 0) Z.1 dX12_statement_258 (by decide) ?_
          refine r_calli (As := [.int 1, .int 0, .int 0, .int 0]) (st := []) Z kX12_put lkX12_301 (by omega) rfl (so_put   _ _ _ _ _ _ _ hw) rfl rfl (Nat.le_of_ble_eq_true rfl) dX12_statement_259 (fun r31 M32 F32 hw => ?_)
          refine ac_istore_n (lv' := [(1, .int r31), (0, .ref (r_h g))]) Z.1 dX12_statement_262 (by decide) rfl ?_
          refine ac_goto (tgt := 270) Z.1 dX12_statement_263 (by decide) ?_
          refine ac_lv [1] rfl ?_
          exact s_statement_270 Z hret hWF hWB hFB _ _ hw
      obtain ⟨hwk, hw⟩ := hw
      by_cases hk12 : (M6 5) = 13
      · have hw := hwk hk12
        refine ac_tableIn (off := 186) (tgt := 289) Z.1 dX12_statement_103 (by rw [hk12]; decide) (by rw [hk12]; decide) (by rw [hk12]; rfl) (by decide) ?_
        refine ac_aload_n Z.1 0 dX12_statement_289 rfl ?_
        refine r_callv (As := []) (st := []) Z kX12_choice lkX12_336 (by omega) rfl (so_choice hWF hWB hFB   _ _ _ hw) rfl rfl (Nat.le_of_ble_eq_true rfl) dX12_statement_290 (fun M33 F33 hw => ?_)
        refine ac_goto (tgt := 314) Z.1 dX12_statement_293 (by decide) ?_
        exact hret _ _ _ _ dX12_statement_314 hw
      obtain ⟨hwk, hw⟩ := hw
      by_cases hk13 : (M6 5) = 14
      · have hw := hwk hk13
        refine ac_tableIn (off := 207) (tgt := 310) Z.1 dX12_statement_103 (by rw [hk13]; decide) (by rw [hk13]; decide) (by rw [hk13]; rfl) (by decide) ?_
        refine ac_aload_n Z.1 0 dX12_statement_310 rfl ?_
        refine r_callv (As := []) (st := []) Z kX12_fail lkX12_243 (by omega) rfl (so_fail    _ _ _ hw) rfl rfl (Nat.le_of_ble_eq_true rfl) dX12_statement_311 (fun M34 F34 hw => ?_)
        exact hret _ _ _ _ dX12_statement_314 hw
      obtain ⟨hwk, hw⟩ := hw
      by_cases hk14 : (M6 5) = 15
      · have hw := hwk hk14
        refine ac_tableIn (off := 193) (tgt := 296) Z.1 dX12_statement_103 (by rw [hk14]; decide) (by rw [hk14]; decide) (by rw [hk14]; rfl) (by decide) ?_
        refine ac_aload_n Z.1 0 dX12_statement_296 rfl ?_
        refine r_callv (As := []) (st := []) Z kX12_loop lkX12_339 (by omega) rfl (so_loop hWF hWB hFB   _ _ _ hw) rfl rfl (Nat.le_of_ble_eq_true rfl) dX12_statement_297 (fun M35 F35 hw => ?_)
        refine ac_goto (tgt := 314) Z.1 dX12_statement_300 (by decide) ?_
        exact hret _ _ _ _ dX12_statement_314 hw
      obtain ⟨hwk, hw⟩ := hw
      by_cases hk15 : (M6 5) = 16
      · have hw := hwk hk15
        refine ac_tableIn (off := 200) (tgt := 303) Z.1 dX12_statement_103 (by rw [hk15]; decide) (by rw [hk15]; decide) (by rw [hk15]; rfl) (by decide) ?_
        refine ac_aload_n Z.1 0 dX12_statement_303 rfl ?_
        refine r_callv (As := []) (st := []) Z kX12_trying lkX12_342 (by omega) rfl (so_trying hWB   _ _ _ hw) rfl rfl (Nat.le_of_ble_eq_true rfl) dX12_statement_304 (fun M36 F36 hw => ?_)
        refine ac_goto (tgt := 314) Z.1 dX12_statement_307 (by decide) ?_
        exact hret _ _ _ _ dX12_statement_314 hw
      have hw := hw hk0 hk1 hk2 hk3 hk4 hk5 hk6 hk7 hk8 hk9 hk10 hk11 hk12 hk13 hk14 hk15
      refine ac_tableOut (tgt := 310) Z.1 dX12_statement_103 (by have q0 := lv_neT hk0 (show (1 : Int32).toInt = 1 by decide); have q1 := lv_neT hk1 (show (2 : Int32).toInt = 2 by decide); have q2 := lv_neT hk2 (show (3 : Int32).toInt = 3 by decide); have q3 := lv_neT hk3 (show (4 : Int32).toInt = 4 by decide); have q4 := lv_neT hk4 (show (5 : Int32).toInt = 5 by decide); have q5 := lv_neT hk5 (show (6 : Int32).toInt = 6 by decide); have q6 := lv_neT hk6 (show (7 : Int32).toInt = 7 by decide); have q7 := lv_neT hk7 (show (8 : Int32).toInt = 8 by decide); have q8 := lv_neT hk8 (show (9 : Int32).toInt = 9 by decide); have q9 := lv_neT hk9 (show (10 : Int32).toInt = 10 by decide); have q10 := lv_neT hk10 (show (11 : Int32).toInt = 11 by decide); have q11 := lv_neT hk11 (show (12 : Int32).toInt = 12 by decide); have q12 := lv_neT hk12 (show (13 : Int32).toInt = 13 by decide); have q13 := lv_neT hk13 (show (14 : Int32).toInt = 14 by decide); have q14 := lv_neT hk14 (show (15 : Int32).toInt = 15 by decide); have q15 := lv_neT hk15 (show (16 : Int32).toInt = 16 by decide); omega) (by decide) ?_
      refine ac_aload_n Z.1 0 dX12_statement_310 rfl ?_
      refine r_callv (As := []) (st := []) Z kX12_fail lkX12_243 (by omega) rfl (so_fail    _ _ _ hw) rfl rfl (Nat.le_of_ble_eq_true rfl) dX12_statement_311 (fun M37 F37 hw => ?_)
      exact hret _ _ _ _ dX12_statement_314 hw
    · have hw := hwf hc
      exact s_statement_94 Z hret hWF hWB hFB _ _ hw
def w_statement_18 (WF : (Nat → Int32) → (Nat → Nat → Int32) → ((Nat → Int32) → (Nat → Nat → Int32) → Prop) → Prop) (WB : (Nat → Int32) → (Nat → Nat → Int32) → ((Nat → Int32) → (Nat → Nat → Int32) → Prop) → Prop) (Q : (Nat → Int32) → (Nat → Nat → Int32) → Prop) (M : Nat → Int32) (F : Nat → Nat → Int32) : Prop := w_bad M F (fun r3 M4 F4 => ((¬ r3 = 0 → (w_statement_79 WF WB Q M4 F4)) ∧ (r3 = 0 → ((¬ (M4 4) = 1 → (w_statement_79 WF WB Q M4 F4)) ∧ ((M4 4) = 1 → (w_taken 1 M4 F4 (fun r38 M39 F39 => (w_need 61 M39 F39 (fun M40 F40 => (w_told r38 (M39 47) M40 F40 (fun r41 M42 F42 => (w_whole WF M42 F42 (fun M43 F43 => (w_need 59 M43 F43 (fun M44 F44 => (w_put 3 r41 0 0 M44 F44 (fun r45 M46 F46 => (Q M46 F46))))))))))))))))))
set_option maxRecDepth 20000 in
theorem s_statement_18 {x : ac_X} {g : r_S} {l : Launch} {WF : (Nat → Int32) → (Nat → Nat → Int32) → ((Nat → Int32) → (Nat → Nat → Int32) → Prop) → Prop} {WB : (Nat → Int32) → (Nat → Nat → Int32) → ((Nat → Int32) → (Nat → Nat → Int32) → Prop) → Prop} {rkF rkB : Nat} {Q : (Nat → Int32) → (Nat → Nat → Int32) → Prop} (Z : r_Cx x g l cX12_statement 5 (rkB + 13)) (hret : r_RV x g 5 cX12_statement Q) (hWF : ∀ (M : Nat → Int32) (F : Nat → Nat → Int32) (Q : (Nat → Int32) → (Nat → Nat → Int32) → Prop), WF M F Q → r_MetV l g yX12_factor cX12_factor 3 rkF [.ref (r_h g)] M F Q) (hWB : ∀ (M : Nat → Int32) (F : Nat → Nat → Int32) (Q : (Nat → Int32) → (Nat → Nat → Int32) → Prop), WB M F Q → r_MetV l g yX12_block cX12_block 1 rkB [.ref (r_h g)] M F Q) (hFB : rkF + 30 ≤ rkB) (M : Nat → Int32) (F : Nat → Nat → Int32) (hw : w_statement_18 WF WB Q M F) : ac_G x (r_R g) 5 (r_P g M F) 0 0 18 [(0, .ref (r_h g))] [] := by
  refine ac_aload_n Z.1 0 dX12_statement_18 rfl ?_
  refine r_calli (As := []) (st := []) Z kX12_bad lkX12_230 (by omega) rfl (so_bad    _ _ _ hw) rfl rfl (Nat.le_of_ble_eq_true rfl) dX12_statement_19 (fun r3 M4 F4 hw => ?_)
  obtain ⟨hwt, hwf⟩ := hw
  refine ac_if_ne (tgt := 79) Z.1 dX12_statement_22 (by decide) (fun hc => ?_) (fun hc => ?_)
  · have hw := hwt hc
    exact s_statement_79 Z hret hWF hWB hFB _ _ hw
  · have hw := hwf hc
    refine ac_aload_n Z.1 0 dX12_statement_25 rfl ?_
    refine r_geti (v := (M4 4)) Z.1 Z.2.1 4 (by decide) rfl fX12_198 rfl rfl dX12_statement_26 ?_
    refine ac_iconst (v := 1) Z.1 dX12_statement_29 (by decide) ?_
    obtain ⟨hwt, hwf⟩ := hw
    refine ac_icmp_ne (tgt := 79) Z.1 dX12_statement_30 (by decide) (fun hc => ?_) (fun hc => ?_)
    · have hw := hwt hc
      exact s_statement_79 Z hret hWF hWB hFB _ _ hw
    · have hw := hwf hc
      refine ac_aload_n Z.1 0 dX12_statement_33 rfl ?_
      refine ac_iconst (v := 1) Z.1 dX12_statement_34 (by decide) ?_
      refine r_calli (As := [.int 1]) (st := []) Z kX12_taken lkX12_274 (by omega) rfl (so_taken   _ _ _ _ hw) rfl rfl (Nat.le_of_ble_eq_true rfl) dX12_statement_35 (fun r38 M39 F39 hw => ?_)
      refine ac_istore_n (lv' := [(2, .int r38), (0, .ref (r_h g))]) Z.1 dX12_statement_38 (by decide) rfl ?_
      refine ac_aload_n Z.1 1 dX12_statement_39 rfl ?_
      refine r_geti (v := (M39 47)) Z.1 Z.2.1 47 (by decide) rfl fX12_255 rfl rfl dX12_statement_40 ?_
      refine ac_istore_n (lv' := [(3, .int (M39 47)), (2, .int r38), (0, .ref (r_h g))]) Z.1 dX12_statement_43 (by decide) rfl ?_
      refine ac_aload_n Z.1 2 dX12_statement_44 rfl ?_
      refine ac_bipush (v := 61) Z.1 dX12_statement_45 (by decide) ?_
      refine r_callv (As := [.int 61]) (st := []) Z kX12_need lkX12_252 (by omega) rfl (so_need   _ _ _ _ hw) rfl rfl (Nat.le_of_ble_eq_true rfl) dX12_statement_47 (fun M40 F40 hw => ?_)
      refine ac_aload_n Z.1 2 dX12_statement_50 rfl ?_
      refine ac_iload_n Z.1 1 dX12_statement_51 rfl ?_
      refine ac_iload_n Z.1 0 dX12_statement_52 rfl ?_
      refine r_calli (As := [.int r38, .int (M39 47)]) (st := []) Z kX12_told lkX12_312 (by omega) rfl (so_told   _ _ _ _ _ hw) rfl rfl (Nat.le_of_ble_eq_true rfl) dX12_statement_53 (fun r41 M42 F42 hw => ?_)
      refine ac_istore (lv' := [(4, .int r41), (3, .int (M39 47)), (2, .int r38), (0, .ref (r_h g))]) Z.1 dX12_statement_56 (by decide) rfl ?_
      refine ac_aload_n Z.1 3 dX12_statement_58 rfl ?_
      refine r_callv (As := []) (st := []) Z kX12_whole lkX12_315 (by omega) rfl (so_whole hWF   _ _ _ hw) rfl rfl (Nat.le_of_ble_eq_true rfl) dX12_statement_59 (fun M43 F43 hw => ?_)
      refine ac_aload_n Z.1 3 dX12_statement_62 rfl ?_
      refine ac_bipush (v := 59) Z.1 dX12_statement_63 (by decide) ?_
      refine r_callv (As := [.int 59]) (st := []) Z kX12_need lkX12_252 (by omega) rfl (so_need   _ _ _ _ hw) rfl rfl (Nat.le_of_ble_eq_true rfl) dX12_statement_65 (fun M44 F44 hw => ?_)
      refine ac_aload_n Z.1 3 dX12_statement_68 rfl ?_
      refine ac_iconst (v := 3) Z.1 dX12_statement_69 (by decide) ?_
      refine ac_iload Z.1 0 dX12_statement_70 rfl ?_
      refine ac_iconst (v := 0) Z.1 dX12_statement_72 (by decide) ?_
      refine ac_iconst (v := 0) Z.1 dX12_statement_73 (by decide) ?_
      refine r_calli (As := [.int 3, .int r41, .int 0, .int 0]) (st := []) Z kX12_put lkX12_301 (by omega) rfl (so_put   _ _ _ _ _ _ _ hw) rfl rfl (Nat.le_of_ble_eq_true rfl) dX12_statement_74 (fun r45 M46 F46 hw => ?_)
      refine ac_istore_n (lv' := [(1, .int r45), (4, .int r41), (3, .int (M39 47)), (2, .int r38), (0, .ref (r_h g))]) Z.1 dX12_statement_77 (by decide) rfl ?_
      exact hret _ _ _ _ dX12_statement_78 hw
def w_statement (WF : (Nat → Int32) → (Nat → Nat → Int32) → ((Nat → Int32) → (Nat → Nat → Int32) → Prop) → Prop) (WB : (Nat → Int32) → (Nat → Nat → Int32) → ((Nat → Int32) → (Nat → Nat → Int32) → Prop) → Prop) (M : Nat → Int32) (F : Nat → Nat → Int32) (Q : (Nat → Int32) → (Nat → Nat → Int32) → Prop) : Prop := w_isWord 15 M F (fun r1 M2 F2 => ((¬ r1 = 0 → (w_statement_18 WF WB Q M2 F2)) ∧ (r1 = 0 → (w_put 0 0 0 0 M2 F2 (fun r47 M48 F48 => (w_statement_18 WF WB Q M48 F48))))))
set_option maxRecDepth 20000 in
theorem so_statement {l : Launch} {g : r_S} {WF : (Nat → Int32) → (Nat → Nat → Int32) → ((Nat → Int32) → (Nat → Nat → Int32) → Prop) → Prop} {WB : (Nat → Int32) → (Nat → Nat → Int32) → ((Nat → Int32) → (Nat → Nat → Int32) → Prop) → Prop} {rkF rkB : Nat} (hWF : ∀ (M : Nat → Int32) (F : Nat → Nat → Int32) (Q : (Nat → Int32) → (Nat → Nat → Int32) → Prop), WF M F Q → r_MetV l g yX12_factor cX12_factor 3 rkF [.ref (r_h g)] M F Q) (hWB : ∀ (M : Nat → Int32) (F : Nat → Nat → Int32) (Q : (Nat → Int32) → (Nat → Nat → Int32) → Prop), WB M F Q → r_MetV l g yX12_block cX12_block 1 rkB [.ref (r_h g)] M F Q) (hFB : rkF + 30 ≤ rkB) (M : Nat → Int32) (F : Nat → Nat → Int32) (Q : (Nat → Int32) → (Nat → Nat → Int32) → Prop) (hw : w_statement WF WB  M F Q) : r_MetV l g yX12_statement cX12_statement 5 (rkB + 13) [.ref (r_h g)] M F Q := by
  refine r_MetV.of (by decide) rfl (Nat.le_of_ble_eq_true rfl) (fun x Z hret => ?_)
  show ac_G x (r_R g) 5 (r_P g M F) 0 0 0 [(0, .ref (r_h g))] []
  refine ac_aload_n Z.1 0 dX12_statement_0 rfl ?_
  refine ac_bipush (v := 15) Z.1 dX12_statement_1 (by decide) ?_
  refine r_calli (As := [.int 15]) (st := []) Z kX12_isWord lkX12_246 (by omega) rfl (so_isWord   _ _ _ _ hw) rfl rfl (Nat.le_of_ble_eq_true rfl) dX12_statement_3 (fun r1 M2 F2 hw => ?_)
  obtain ⟨hwt, hwf⟩ := hw
  refine ac_if_ne (tgt := 18) Z.1 dX12_statement_6 (by decide) (fun hc => ?_) (fun hc => ?_)
  · have hw := hwt hc
    exact s_statement_18 Z hret hWF hWB hFB _ _ hw
  · have hw := hwf hc
    refine ac_aload_n Z.1 0 dX12_statement_9 rfl ?_
    refine ac_iconst (v := 0) Z.1 dX12_statement_10 (by decide) ?_
    refine ac_iconst (v := 0) Z.1 dX12_statement_11 (by decide) ?_
    refine ac_iconst (v := 0) Z.1 dX12_statement_12 (by decide) ?_
    refine ac_iconst (v := 0) Z.1 dX12_statement_13 (by decide) ?_
    refine r_calli (As := [.int 0, .int 0, .int 0, .int 0]) (st := []) Z kX12_put lkX12_301 (by omega) rfl (so_put   _ _ _ _ _ _ _ hw) rfl rfl (Nat.le_of_ble_eq_true rfl) dX12_statement_14 (fun r47 M48 F48 hw => ?_)
    refine ac_istore_n (lv' := [(1, .int r47), (0, .ref (r_h g))]) Z.1 dX12_statement_17 (by decide) rfl ?_
    refine ac_lv [1] rfl ?_
    exact s_statement_18 Z hret hWF hWB hFB _ _ hw
def w_block_29 (WF : (Nat → Int32) → (Nat → Nat → Int32) → ((Nat → Int32) → (Nat → Nat → Int32) → Prop) → Prop) (WB : (Nat → Int32) → (Nat → Nat → Int32) → ((Nat → Int32) → (Nat → Nat → Int32) → Prop) → Prop) (Q : (Nat → Int32) → (Nat → Nat → Int32) → Prop) (M : Nat → Int32) (F : Nat → Nat → Int32) : Prop := w_closes 125 M F (fun M4 F4 => (Q M4 F4))
set_option maxRecDepth 20000 in
theorem s_block_29 {x : ac_X} {g : r_S} {l : Launch} {WF : (Nat → Int32) → (Nat → Nat → Int32) → ((Nat → Int32) → (Nat → Nat → Int32) → Prop) → Prop} {WB : (Nat → Int32) → (Nat → Nat → Int32) → ((Nat → Int32) → (Nat → Nat → Int32) → Prop) → Prop} {rkF rkB : Nat} {Q : (Nat → Int32) → (Nat → Nat → Int32) → Prop} (Z : r_Cx x g l cX12_block 1 (rkB + 14)) (hret : r_RV x g 1 cX12_block Q) (hWF : ∀ (M : Nat → Int32) (F : Nat → Nat → Int32) (Q : (Nat → Int32) → (Nat → Nat → Int32) → Prop), WF M F Q → r_MetV l g yX12_factor cX12_factor 3 rkF [.ref (r_h g)] M F Q) (hWB : ∀ (M : Nat → Int32) (F : Nat → Nat → Int32) (Q : (Nat → Int32) → (Nat → Nat → Int32) → Prop), WB M F Q → r_MetV l g yX12_block cX12_block 1 rkB [.ref (r_h g)] M F Q) (hFB : rkF + 30 ≤ rkB) (M : Nat → Int32) (F : Nat → Nat → Int32) (hw : w_block_29 WF WB Q M F) : ac_G x (r_R g) 1 (r_P g M F) 0 0 29 [(0, .ref (r_h g))] [] := by
  refine ac_aload_n Z.1 0 dX12_block_29 rfl ?_
  refine ac_bipush (v := 125) Z.1 dX12_block_30 (by decide) ?_
  refine r_callv (As := [.int 125]) (st := []) Z kX12_closes lkX12_292 (by omega) rfl (so_closes   _ _ _ _ hw) rfl rfl (Nat.le_of_ble_eq_true rfl) dX12_block_32 (fun M4 F4 hw => ?_)
  exact hret _ _ _ _ dX12_block_35 hw
def w_block_6 (WF : (Nat → Int32) → (Nat → Nat → Int32) → ((Nat → Int32) → (Nat → Nat → Int32) → Prop) → Prop) (WB : (Nat → Int32) → (Nat → Nat → Int32) → ((Nat → Int32) → (Nat → Nat → Int32) → Prop) → Prop) (Q : (Nat → Int32) → (Nat → Nat → Int32) → Prop) : Nat → (Nat → Int32) → (Nat → Nat → Int32) → Prop
  | 0 => fun _ _ => False
  | n + 1 => fun M F => (w_bad M F (fun r2 M3 F3 => ((¬ r2 = 0 → (w_block_29 WF WB Q M3 F3)) ∧ (r2 = 0 → (w_isSign 125 M3 F3 (fun r5 M6 F6 => ((¬ r5 = 0 → (w_block_29 WF WB Q M6 F6)) ∧ (r5 = 0 → (w_statement WF WB M6 F6 (fun M7 F7 => (w_block_6 WF WB Q n M7 F7)))))))))))
set_option maxRecDepth 20000 in
theorem s_block_6 {x : ac_X} {g : r_S} {l : Launch} {WF : (Nat → Int32) → (Nat → Nat → Int32) → ((Nat → Int32) → (Nat → Nat → Int32) → Prop) → Prop} {WB : (Nat → Int32) → (Nat → Nat → Int32) → ((Nat → Int32) → (Nat → Nat → Int32) → Prop) → Prop} {rkF rkB : Nat} {Q : (Nat → Int32) → (Nat → Nat → Int32) → Prop} (Z : r_Cx x g l cX12_block 1 (rkB + 14)) (hret : r_RV x g 1 cX12_block Q) (hWF : ∀ (M : Nat → Int32) (F : Nat → Nat → Int32) (Q : (Nat → Int32) → (Nat → Nat → Int32) → Prop), WF M F Q → r_MetV l g yX12_factor cX12_factor 3 rkF [.ref (r_h g)] M F Q) (hWB : ∀ (M : Nat → Int32) (F : Nat → Nat → Int32) (Q : (Nat → Int32) → (Nat → Nat → Int32) → Prop), WB M F Q → r_MetV l g yX12_block cX12_block 1 rkB [.ref (r_h g)] M F Q) (hFB : rkF + 30 ≤ rkB) : ∀ (n : Nat) (M : Nat → Int32) (F : Nat → Nat → Int32), w_block_6 WF WB Q n M F → ac_G x (r_R g) 1 (r_P g M F) 0 0 6 [(0, .ref (r_h g))] [] := by
  intro n
  induction n with
  | zero => intro _ _ hw; exact hw.elim
  | succ n ih =>
    intro M F hw
    dsimp only [w_block_6] at hw
    refine ac_aload_n Z.1 0 dX12_block_6 rfl ?_
    refine r_calli (As := []) (st := []) Z kX12_bad lkX12_230 (by omega) rfl (so_bad    _ _ _ hw) rfl rfl (Nat.le_of_ble_eq_true rfl) dX12_block_7 (fun r2 M3 F3 hw => ?_)
    obtain ⟨hwt, hwf⟩ := hw
    refine ac_if_ne (tgt := 29) Z.1 dX12_block_10 (by decide) (fun hc => ?_) (fun hc => ?_)
    · have hw := hwt hc
      exact s_block_29 Z hret hWF hWB hFB _ _ hw
    · have hw := hwf hc
      refine ac_aload_n Z.1 0 dX12_block_13 rfl ?_
      refine ac_bipush (v := 125) Z.1 dX12_block_14 (by decide) ?_
      refine r_calli (As := [.int 125]) (st := []) Z kX12_isSign lkX12_237 (by omega) rfl (so_isSign   _ _ _ _ hw) rfl rfl (Nat.le_of_ble_eq_true rfl) dX12_block_16 (fun r5 M6 F6 hw => ?_)
      obtain ⟨hwt, hwf⟩ := hw
      refine ac_if_ne (tgt := 29) Z.1 dX12_block_19 (by decide) (fun hc => ?_) (fun hc => ?_)
      · have hw := hwt hc
        exact s_block_29 Z hret hWF hWB hFB _ _ hw
      · have hw := hwf hc
        refine ac_aload_n Z.1 0 dX12_block_22 rfl ?_
        refine r_callv (As := []) (st := []) Z kX12_statement lkX12_309 (by omega) rfl (so_statement hWF hWB hFB   _ _ _ hw) rfl rfl (Nat.le_of_ble_eq_true rfl) dX12_block_23 (fun M7 F7 hw => ?_)
        refine ac_goto (tgt := 6) Z.1 dX12_block_26 (by decide) ?_
        exact ih _ _ hw
def w_block (WF : (Nat → Int32) → (Nat → Nat → Int32) → ((Nat → Int32) → (Nat → Nat → Int32) → Prop) → Prop) (WB : (Nat → Int32) → (Nat → Nat → Int32) → ((Nat → Int32) → (Nat → Nat → Int32) → Prop) → Prop) (M : Nat → Int32) (F : Nat → Nat → Int32) (Q : (Nat → Int32) → (Nat → Nat → Int32) → Prop) : Prop := w_opens 123 M F (fun M1 F1 => (∃ e6, w_block_6 WF WB Q e6 M1 F1))
set_option maxRecDepth 20000 in
theorem so_block {l : Launch} {g : r_S} {WF : (Nat → Int32) → (Nat → Nat → Int32) → ((Nat → Int32) → (Nat → Nat → Int32) → Prop) → Prop} {WB : (Nat → Int32) → (Nat → Nat → Int32) → ((Nat → Int32) → (Nat → Nat → Int32) → Prop) → Prop} {rkF rkB : Nat} (hWF : ∀ (M : Nat → Int32) (F : Nat → Nat → Int32) (Q : (Nat → Int32) → (Nat → Nat → Int32) → Prop), WF M F Q → r_MetV l g yX12_factor cX12_factor 3 rkF [.ref (r_h g)] M F Q) (hWB : ∀ (M : Nat → Int32) (F : Nat → Nat → Int32) (Q : (Nat → Int32) → (Nat → Nat → Int32) → Prop), WB M F Q → r_MetV l g yX12_block cX12_block 1 rkB [.ref (r_h g)] M F Q) (hFB : rkF + 30 ≤ rkB) (M : Nat → Int32) (F : Nat → Nat → Int32) (Q : (Nat → Int32) → (Nat → Nat → Int32) → Prop) (hw : w_block WF WB  M F Q) : r_MetV l g yX12_block cX12_block 1 (rkB + 14) [.ref (r_h g)] M F Q := by
  refine r_MetV.of (by decide) rfl (Nat.le_of_ble_eq_true rfl) (fun x Z hret => ?_)
  show ac_G x (r_R g) 1 (r_P g M F) 0 0 0 [(0, .ref (r_h g))] []
  refine ac_aload_n Z.1 0 dX12_block_0 rfl ?_
  refine ac_bipush (v := 123) Z.1 dX12_block_1 (by decide) ?_
  refine r_callv (As := [.int 123]) (st := []) Z kX12_opens lkX12_286 (by omega) rfl (so_opens   _ _ _ _ hw) rfl rfl (Nat.le_of_ble_eq_true rfl) dX12_block_3 (fun M1 F1 hw => ?_)
  obtain ⟨n, hw⟩ := hw
  exact s_block_6 Z hret hWF hWB hFB n _ _ hw
def w_read_339 (WB : (Nat → Int32) → (Nat → Nat → Int32) → ((Nat → Int32) → (Nat → Nat → Int32) → Prop) → Prop) (Q : Int32 → (Nat → Int32) → (Nat → Nat → Int32) → Prop) (M : Nat → Int32) (F : Nat → Nat → Int32) : Prop := Q (M 40) M F
set_option maxRecDepth 20000 in
theorem s_read_339 {x : ac_X} {g : r_S} {l : Launch} {WB : (Nat → Int32) → (Nat → Nat → Int32) → ((Nat → Int32) → (Nat → Nat → Int32) → Prop) → Prop} {rkB : Nat} {Q : Int32 → (Nat → Int32) → (Nat → Nat → Int32) → Prop} (Z : r_Cx x g l cX12_read 4 (rkB + 14)) (hret : r_RI x g 4 cX12_read .int Q) (hWB : ∀ (M : Nat → Int32) (F : Nat → Nat → Int32) (Q : (Nat → Int32) → (Nat → Nat → Int32) → Prop), WB M F Q → r_MetV l g yX12_block cX12_block 1 rkB [.ref (r_h g)] M F Q) (M : Nat → Int32) (F : Nat → Nat → Int32) (hw : w_read_339 WB Q M F) : ac_G x (r_R g) 4 (r_P g M F) 0 0 339 [(0, .ref (r_h g))] [] := by
  refine ac_aload_n Z.1 0 dX12_read_339 rfl ?_
  refine r_geti (v := (M 40)) Z.1 Z.2.1 40 (by decide) rfl fX12_74 rfl rfl dX12_read_340 ?_
  exact hret _ _ _ _ _ dX12_read_343 rfl hw
def w_read_308 (WB : (Nat → Int32) → (Nat → Nat → Int32) → ((Nat → Int32) → (Nat → Nat → Int32) → Prop) → Prop) (Q : Int32 → (Nat → Int32) → (Nat → Nat → Int32) → Prop) (t1 : Int32) (M : Nat → Int32) (F : Nat → Nat → Int32) : Prop := ((M 40) ≤ 0 → (w_read_339 WB Q (um (um M 41 t1) 28 (M 30)) F)) ∧ (¬ (M 40) ≤ 0 → (w_read_339 WB Q (um (um M 41 t1) 27 (1 - (M 27))) F))
set_option maxRecDepth 20000 in
theorem s_read_308 {x : ac_X} {g : r_S} {l : Launch} {WB : (Nat → Int32) → (Nat → Nat → Int32) → ((Nat → Int32) → (Nat → Nat → Int32) → Prop) → Prop} {rkB : Nat} {Q : Int32 → (Nat → Int32) → (Nat → Nat → Int32) → Prop} (Z : r_Cx x g l cX12_read 4 (rkB + 14)) (hret : r_RI x g 4 cX12_read .int Q) (hWB : ∀ (M : Nat → Int32) (F : Nat → Nat → Int32) (Q : (Nat → Int32) → (Nat → Nat → Int32) → Prop), WB M F Q → r_MetV l g yX12_block cX12_block 1 rkB [.ref (r_h g)] M F Q) (t1 : Int32) (M : Nat → Int32) (F : Nat → Nat → Int32) (hw : w_read_308 WB Q t1 M F) : ac_G x (r_R g) 4 (r_P g M F) 0 0 308 [(0, .ref (r_h g))] [.int t1, .ref (r_h g)] := by
  refine r_put Z.1 Z.2.1 41 (by decide) rfl rfl rfl fX12_77 rfl dX12_read_308 ?_
  refine ac_aload_n Z.1 0 dX12_read_311 rfl ?_
  refine r_geti (v := (M 40)) Z.1 Z.2.1 40 (by decide) rfl fX12_74 rfl rfl dX12_read_312 ?_
  obtain ⟨hwt, hwf⟩ := hw
  refine ac_if_le (tgt := 331) Z.1 dX12_read_315 (by decide) (fun hc => ?_) (fun hc => ?_)
  · have hw := hwt hc
    refine ac_aload_n Z.1 0 dX12_read_331 rfl ?_
    refine ac_aload_n Z.1 0 dX12_read_332 rfl ?_
    refine r_geti (v := (M 30)) Z.1 Z.2.1 30 (by decide) rfl fX12_258 rfl rfl dX12_read_333 ?_
    refine r_put Z.1 Z.2.1 28 (by decide) rfl rfl rfl fX12_386 rfl dX12_read_336 ?_
    exact s_read_339 Z hret hWB _ _ hw
  · have hw := hwf hc
    refine ac_aload_n Z.1 0 dX12_read_318 rfl ?_
    refine ac_iconst (v := 1) Z.1 dX12_read_319 (by decide) ?_
    refine ac_aload_n Z.1 0 dX12_read_320 rfl ?_
    refine r_geti (v := (M 27)) Z.1 Z.2.1 27 (by decide) rfl fX12_70 rfl rfl dX12_read_321 ?_
    refine ac_isub Z.1 dX12_read_324 ?_
    refine r_put Z.1 Z.2.1 27 (by decide) rfl rfl rfl fX12_70 rfl dX12_read_325 ?_
    refine ac_goto (tgt := 339) Z.1 dX12_read_328 (by decide) ?_
    exact s_read_339 Z hret hWB _ _ hw
def w_read_256 (WB : (Nat → Int32) → (Nat → Nat → Int32) → ((Nat → Int32) → (Nat → Nat → Int32) → Prop) → Prop) (Q : Int32 → (Nat → Int32) → (Nat → Nat → Int32) → Prop) (t1 : Int32) (M : Nat → Int32) (F : Nat → Nat → Int32) : Prop := w_bad (um M 40 t1) F (fun r5 M6 F6 => ((r5 = 0 → (((M6 37) = (-1) → (((M6 38) = (-1) → (w_read_308 WB Q (M6 39) M6 F6)) ∧ (¬ (M6 38) = (-1) → (w_read_308 WB Q (M6 38) M6 F6)))) ∧ (¬ (M6 37) = (-1) → (w_read_308 WB Q (M6 37) M6 F6)))) ∧ (¬ r5 = 0 → (w_read_308 WB Q (M6 36) M6 F6))))
set_option maxRecDepth 20000 in
theorem s_read_256 {x : ac_X} {g : r_S} {l : Launch} {WB : (Nat → Int32) → (Nat → Nat → Int32) → ((Nat → Int32) → (Nat → Nat → Int32) → Prop) → Prop} {rkB : Nat} {Q : Int32 → (Nat → Int32) → (Nat → Nat → Int32) → Prop} (Z : r_Cx x g l cX12_read 4 (rkB + 14)) (hret : r_RI x g 4 cX12_read .int Q) (hWB : ∀ (M : Nat → Int32) (F : Nat → Nat → Int32) (Q : (Nat → Int32) → (Nat → Nat → Int32) → Prop), WB M F Q → r_MetV l g yX12_block cX12_block 1 rkB [.ref (r_h g)] M F Q) (t1 : Int32) (M : Nat → Int32) (F : Nat → Nat → Int32) (hw : w_read_256 WB Q t1 M F) : ac_G x (r_R g) 4 (r_P g M F) 0 0 256 [(0, .ref (r_h g))] [.int t1, .ref (r_h g)] := by
  refine r_put Z.1 Z.2.1 40 (by decide) rfl rfl rfl fX12_74 rfl dX12_read_256 ?_
  refine ac_aload_n Z.1 0 dX12_read_259 rfl ?_
  refine ac_aload_n Z.1 0 dX12_read_260 rfl ?_
  refine r_calli (As := []) (st := [.ref (r_h g)]) Z kX12_bad lkX12_230 (by omega) rfl (so_bad    _ _ _ hw) rfl rfl (Nat.le_of_ble_eq_true rfl) dX12_read_261 (fun r5 M6 F6 hw => ?_)
  obtain ⟨hwt, hwf⟩ := hw
  refine ac_if_eq (tgt := 274) Z.1 dX12_read_264 (by decide) (fun hc => ?_) (fun hc => ?_)
  · have hw := hwt hc
    refine ac_aload_n Z.1 0 dX12_read_274 rfl ?_
    refine r_geti (v := (M6 37)) Z.1 Z.2.1 37 (by decide) rfl fX12_261 rfl rfl dX12_read_275 ?_
    refine ac_iconst (v := (-1)) Z.1 dX12_read_278 (by decide) ?_
    obtain ⟨hwt, hwf⟩ := hw
    refine ac_icmp_eq (tgt := 289) Z.1 dX12_read_279 (by decide) (fun hc => ?_) (fun hc => ?_)
    · have hw := hwt hc
      refine ac_aload_n Z.1 0 dX12_read_289 rfl ?_
      refine r_geti (v := (M6 38)) Z.1 Z.2.1 38 (by decide) rfl fX12_271 rfl rfl dX12_read_290 ?_
      refine ac_iconst (v := (-1)) Z.1 dX12_read_293 (by decide) ?_
      obtain ⟨hwt, hwf⟩ := hw
      refine ac_icmp_eq (tgt := 304) Z.1 dX12_read_294 (by decide) (fun hc => ?_) (fun hc => ?_)
      · have hw := hwt hc
        refine ac_aload_n Z.1 0 dX12_read_304 rfl ?_
        refine r_geti (v := (M6 39)) Z.1 Z.2.1 39 (by decide) rfl fX12_380 rfl rfl dX12_read_305 ?_
        exact s_read_308 Z hret hWB _ _ _ hw
      · have hw := hwf hc
        refine ac_aload_n Z.1 0 dX12_read_297 rfl ?_
        refine r_geti (v := (M6 38)) Z.1 Z.2.1 38 (by decide) rfl fX12_271 rfl rfl dX12_read_298 ?_
        refine ac_goto (tgt := 308) Z.1 dX12_read_301 (by decide) ?_
        exact s_read_308 Z hret hWB _ _ _ hw
    · have hw := hwf hc
      refine ac_aload_n Z.1 0 dX12_read_282 rfl ?_
      refine r_geti (v := (M6 37)) Z.1 Z.2.1 37 (by decide) rfl fX12_261 rfl rfl dX12_read_283 ?_
      refine ac_goto (tgt := 308) Z.1 dX12_read_286 (by decide) ?_
      exact s_read_308 Z hret hWB _ _ _ hw
  · have hw := hwf hc
    refine ac_aload_n Z.1 0 dX12_read_267 rfl ?_
    refine r_geti (v := (M6 36)) Z.1 Z.2.1 36 (by decide) rfl fX12_227 rfl rfl dX12_read_268 ?_
    refine ac_goto (tgt := 308) Z.1 dX12_read_271 (by decide) ?_
    exact s_read_308 Z hret hWB _ _ _ hw
def w_read_207 (WB : (Nat → Int32) → (Nat → Nat → Int32) → ((Nat → Int32) → (Nat → Nat → Int32) → Prop) → Prop) (Q : Int32 → (Nat → Int32) → (Nat → Nat → Int32) → Prop) (M : Nat → Int32) (F : Nat → Nat → Int32) : Prop := w_bad M F (fun r3 M4 F4 => ((r3 = 0 → (((M4 37) = (-1) → (((M4 38) = (-1) → (((M4 39) = (-1) → (w_read_256 WB Q 0 M4 F4)) ∧ (¬ (M4 39) = (-1) → (w_read_256 WB Q 4 M4 F4)))) ∧ (¬ (M4 38) = (-1) → (w_read_256 WB Q 3 M4 F4)))) ∧ (¬ (M4 37) = (-1) → (w_read_256 WB Q 2 M4 F4)))) ∧ (¬ r3 = 0 → (w_read_256 WB Q 1 M4 F4))))
set_option maxRecDepth 20000 in
theorem s_read_207 {x : ac_X} {g : r_S} {l : Launch} {WB : (Nat → Int32) → (Nat → Nat → Int32) → ((Nat → Int32) → (Nat → Nat → Int32) → Prop) → Prop} {rkB : Nat} {Q : Int32 → (Nat → Int32) → (Nat → Nat → Int32) → Prop} (Z : r_Cx x g l cX12_read 4 (rkB + 14)) (hret : r_RI x g 4 cX12_read .int Q) (hWB : ∀ (M : Nat → Int32) (F : Nat → Nat → Int32) (Q : (Nat → Int32) → (Nat → Nat → Int32) → Prop), WB M F Q → r_MetV l g yX12_block cX12_block 1 rkB [.ref (r_h g)] M F Q) (M : Nat → Int32) (F : Nat → Nat → Int32) (hw : w_read_207 WB Q M F) : ac_G x (r_R g) 4 (r_P g M F) 0 0 207 [(0, .ref (r_h g))] [] := by
  refine ac_aload_n Z.1 0 dX12_read_207 rfl ?_
  refine ac_aload_n Z.1 0 dX12_read_208 rfl ?_
  refine r_calli (As := []) (st := [.ref (r_h g)]) Z kX12_bad lkX12_230 (by omega) rfl (so_bad    _ _ _ hw) rfl rfl (Nat.le_of_ble_eq_true rfl) dX12_read_209 (fun r3 M4 F4 hw => ?_)
  obtain ⟨hwt, hwf⟩ := hw
  refine ac_if_eq (tgt := 219) Z.1 dX12_read_212 (by decide) (fun hc => ?_) (fun hc => ?_)
  · have hw := hwt hc
    refine ac_aload_n Z.1 0 dX12_read_219 rfl ?_
    refine r_geti (v := (M4 37)) Z.1 Z.2.1 37 (by decide) rfl fX12_261 rfl rfl dX12_read_220 ?_
    refine ac_iconst (v := (-1)) Z.1 dX12_read_223 (by decide) ?_
    obtain ⟨hwt, hwf⟩ := hw
    refine ac_icmp_eq (tgt := 231) Z.1 dX12_read_224 (by decide) (fun hc => ?_) (fun hc => ?_)
    · have hw := hwt hc
      refine ac_aload_n Z.1 0 dX12_read_231 rfl ?_
      refine r_geti (v := (M4 38)) Z.1 Z.2.1 38 (by decide) rfl fX12_271 rfl rfl dX12_read_232 ?_
      refine ac_iconst (v := (-1)) Z.1 dX12_read_235 (by decide) ?_
      obtain ⟨hwt, hwf⟩ := hw
      refine ac_icmp_eq (tgt := 243) Z.1 dX12_read_236 (by decide) (fun hc => ?_) (fun hc => ?_)
      · have hw := hwt hc
        refine ac_aload_n Z.1 0 dX12_read_243 rfl ?_
        refine r_geti (v := (M4 39)) Z.1 Z.2.1 39 (by decide) rfl fX12_380 rfl rfl dX12_read_244 ?_
        refine ac_iconst (v := (-1)) Z.1 dX12_read_247 (by decide) ?_
        obtain ⟨hwt, hwf⟩ := hw
        refine ac_icmp_eq (tgt := 255) Z.1 dX12_read_248 (by decide) (fun hc => ?_) (fun hc => ?_)
        · have hw := hwt hc
          refine ac_iconst (v := 0) Z.1 dX12_read_255 (by decide) ?_
          exact s_read_256 Z hret hWB _ _ _ hw
        · have hw := hwf hc
          refine ac_iconst (v := 4) Z.1 dX12_read_251 (by decide) ?_
          refine ac_goto (tgt := 256) Z.1 dX12_read_252 (by decide) ?_
          exact s_read_256 Z hret hWB _ _ _ hw
      · have hw := hwf hc
        refine ac_iconst (v := 3) Z.1 dX12_read_239 (by decide) ?_
        refine ac_goto (tgt := 256) Z.1 dX12_read_240 (by decide) ?_
        exact s_read_256 Z hret hWB _ _ _ hw
    · have hw := hwf hc
      refine ac_iconst (v := 2) Z.1 dX12_read_227 (by decide) ?_
      refine ac_goto (tgt := 256) Z.1 dX12_read_228 (by decide) ?_
      exact s_read_256 Z hret hWB _ _ _ hw
  · have hw := hwf hc
    refine ac_iconst (v := 1) Z.1 dX12_read_215 (by decide) ?_
    refine ac_goto (tgt := 256) Z.1 dX12_read_216 (by decide) ?_
    exact s_read_256 Z hret hWB _ _ _ hw
def w_read_201 (WB : (Nat → Int32) → (Nat → Nat → Int32) → ((Nat → Int32) → (Nat → Nat → Int32) → Prop) → Prop) (K104 : (Int32 → (Nat → Int32) → (Nat → Nat → Int32) → Prop)) (Q : Int32 → (Nat → Int32) → (Nat → Nat → Int32) → Prop) (a2 : Int32) (M : Nat → Int32) (F : Nat → Nat → Int32) : Prop := K104 (a2 + 1) M F
set_option maxRecDepth 20000 in
theorem s_read_201 {x : ac_X} {g : r_S} {l : Launch} {WB : (Nat → Int32) → (Nat → Nat → Int32) → ((Nat → Int32) → (Nat → Nat → Int32) → Prop) → Prop} {rkB : Nat} {K104 : (Int32 → (Nat → Int32) → (Nat → Nat → Int32) → Prop)} {Q : Int32 → (Nat → Int32) → (Nat → Nat → Int32) → Prop} (Z : r_Cx x g l cX12_read 4 (rkB + 14)) (hret : r_RI x g 4 cX12_read .int Q) (hWB : ∀ (M : Nat → Int32) (F : Nat → Nat → Int32) (Q : (Nat → Int32) → (Nat → Nat → Int32) → Prop), WB M F Q → r_MetV l g yX12_block cX12_block 1 rkB [.ref (r_h g)] M F Q) (hK104 : ∀ (a2 : Int32) (M : Nat → Int32) (F : Nat → Nat → Int32), K104 a2 M F → ac_G x (r_R g) 4 (r_P g M F) 0 0 104 [(0, .ref (r_h g)), (2, .int a2)] []) (a2 : Int32) (M : Nat → Int32) (F : Nat → Nat → Int32) (hw : w_read_201 WB K104 Q a2 M F) : ac_G x (r_R g) 4 (r_P g M F) 0 0 201 [(0, .ref (r_h g)), (2, .int a2)] [] := by
  refine ac_iinc (w := (a2 + 1)) (lv' := [(2, .int (a2 + 1)), (0, .ref (r_h g))]) Z.1 1 dX12_read_201 rfl rfl (by decide) rfl ?_
  refine ac_goto (tgt := 104) Z.1 dX12_read_204 (by decide) ?_
  refine ac_lv [1, 0] rfl ?_
  exact hK104 _ _ _ hw
def w_read_160 (WB : (Nat → Int32) → (Nat → Nat → Int32) → ((Nat → Int32) → (Nat → Nat → Int32) → Prop) → Prop) (K104 : (Int32 → (Nat → Int32) → (Nat → Nat → Int32) → Prop)) (Q : Int32 → (Nat → Int32) → (Nat → Nat → Int32) → Prop) (a2 : Int32) (M : Nat → Int32) (F : Nat → Nat → Int32) : Prop := vp_in a2 700 ∧ (w_least (M 39) ((F 45) (a2).toNatClampNeg) M F (fun r13 M14 F14 => (w_read_201 WB K104 Q a2 (um M14 39 r13) F14)))
set_option maxRecDepth 20000 in
theorem s_read_160 {x : ac_X} {g : r_S} {l : Launch} {WB : (Nat → Int32) → (Nat → Nat → Int32) → ((Nat → Int32) → (Nat → Nat → Int32) → Prop) → Prop} {rkB : Nat} {K104 : (Int32 → (Nat → Int32) → (Nat → Nat → Int32) → Prop)} {Q : Int32 → (Nat → Int32) → (Nat → Nat → Int32) → Prop} (Z : r_Cx x g l cX12_read 4 (rkB + 14)) (hret : r_RI x g 4 cX12_read .int Q) (hWB : ∀ (M : Nat → Int32) (F : Nat → Nat → Int32) (Q : (Nat → Int32) → (Nat → Nat → Int32) → Prop), WB M F Q → r_MetV l g yX12_block cX12_block 1 rkB [.ref (r_h g)] M F Q) (hK104 : ∀ (a2 : Int32) (M : Nat → Int32) (F : Nat → Nat → Int32), K104 a2 M F → ac_G x (r_R g) 4 (r_P g M F) 0 0 104 [(0, .ref (r_h g)), (2, .int a2)] []) (a2 : Int32) (M : Nat → Int32) (F : Nat → Nat → Int32) (hw : w_read_160 WB K104 Q a2 M F) : ac_G x (r_R g) 4 (r_P g M F) 0 0 160 [(0, .ref (r_h g)), (2, .int a2)] [] := by
  refine ac_aload_n Z.1 0 dX12_read_160 rfl ?_
  refine ac_aload_n Z.1 0 dX12_read_161 rfl ?_
  refine r_geti (v := (M 39)) Z.1 Z.2.1 39 (by decide) rfl fX12_380 rfl rfl dX12_read_162 ?_
  refine ac_aload_n Z.1 0 dX12_read_165 rfl ?_
  refine r_geta Z.1 Z.2.1 45 (by decide) rfl fX12_89 rfl dX12_read_166 ?_
  refine ac_iload_n Z.1 1 dX12_read_169 rfl ?_
  obtain ⟨hb12, hw⟩ := hw
  refine r_ald (v := ((F 45) (a2).toNatClampNeg)) Z.1 Z.2.1 23 45 700 rfl rfl hb12 rfl dX12_read_170 ?_
  refine r_calls (As := [.int (M 39), .int ((F 45) (a2).toNatClampNeg)]) (st := [.ref (r_h g)]) Z kX12_least lkX12_264 (by omega) (so_least   _ _ _ _ _ hw) rfl rfl (Nat.le_of_ble_eq_true rfl) dX12_read_171 (fun r13 M14 F14 hw => ?_)
  refine r_put Z.1 Z.2.1 39 (by decide) rfl rfl rfl fX12_380 rfl dX12_read_174 ?_
  refine ac_goto (tgt := 201) Z.1 dX12_read_177 (by decide) ?_
  exact s_read_201 Z hret hWB hK104 _ _ _ hw
def w_read_104 (WB : (Nat → Int32) → (Nat → Nat → Int32) → ((Nat → Int32) → (Nat → Nat → Int32) → Prop) → Prop) (Q : Int32 → (Nat → Int32) → (Nat → Nat → Int32) → Prop) : Nat → Int32 → (Nat → Int32) → (Nat → Nat → Int32) → Prop
  | 0 => fun _ _ _ => False
  | n + 1 => fun a2 M F => (((M 46) ≤ a2 → (w_read_207 WB Q M F)) ∧ (¬ (M 46) ≤ a2 → (w_bad M F (fun r7 M8 F8 => ((¬ r7 = 0 → (w_read_207 WB Q M8 F8)) ∧ (r7 = 0 → (vp_in a2 700 ∧ (vp_in ((F8 43) (a2).toNatClampNeg) 2100 ∧ (∀ v11, v11 = ((F8 11) (((F8 43) (a2).toNatClampNeg)).toNatClampNeg) → ((v11 = (-1) → (w_read_160 WB (w_read_104 WB Q n) Q a2 M8 F8)) ∧ (¬ v11 = (-1) → (vp_in ((400 * (M8 27)) + v11) 800 ∧ (∀ v16, v16 = ((F8 19) (((400 * (M8 27)) + v11)).toNatClampNeg) → (vp_in a2 700 ∧ ((v16 = ((F8 44) (a2).toNatClampNeg) → (vp_in a2 700 ∧ (vp_in ((F8 42) (a2).toNatClampNeg) 18000 ∧ (w_read_201 WB (w_read_104 WB Q n) Q a2 M8 (uf F8 14 ((F8 42) (a2).toNatClampNeg) ((400 * (M8 27)) + v11)))))) ∧ (¬ v16 = ((F8 44) (a2).toNatClampNeg) → (w_read_160 WB (w_read_104 WB Q n) Q a2 M8 F8)))))))))))))))))
set_option maxRecDepth 20000 in
theorem s_read_104 {x : ac_X} {g : r_S} {l : Launch} {WB : (Nat → Int32) → (Nat → Nat → Int32) → ((Nat → Int32) → (Nat → Nat → Int32) → Prop) → Prop} {rkB : Nat} {Q : Int32 → (Nat → Int32) → (Nat → Nat → Int32) → Prop} (Z : r_Cx x g l cX12_read 4 (rkB + 14)) (hret : r_RI x g 4 cX12_read .int Q) (hWB : ∀ (M : Nat → Int32) (F : Nat → Nat → Int32) (Q : (Nat → Int32) → (Nat → Nat → Int32) → Prop), WB M F Q → r_MetV l g yX12_block cX12_block 1 rkB [.ref (r_h g)] M F Q) : ∀ (n : Nat) (a2 : Int32) (M : Nat → Int32) (F : Nat → Nat → Int32), w_read_104 WB Q n a2 M F → ac_G x (r_R g) 4 (r_P g M F) 0 0 104 [(0, .ref (r_h g)), (2, .int a2)] [] := by
  intro n
  induction n with
  | zero => intro _ _ _ hw; exact hw.elim
  | succ n ih =>
    intro a2 M F hw
    dsimp only [w_read_104] at hw
    refine ac_iload_n Z.1 1 dX12_read_104 rfl ?_
    refine ac_aload_n Z.1 0 dX12_read_105 rfl ?_
    refine r_geti (v := (M 46)) Z.1 Z.2.1 46 (by decide) rfl fX12_353 rfl rfl dX12_read_106 ?_
    obtain ⟨hwt, hwf⟩ := hw
    refine ac_icmp_ge (tgt := 207) Z.1 dX12_read_109 (by decide) (fun hc => ?_) (fun hc => ?_)
    · have hw := hwt hc
      refine ac_lv [0] rfl ?_
      exact s_read_207 Z hret hWB _ _ hw
    · have hw := hwf hc
      refine ac_aload_n Z.1 0 dX12_read_112 rfl ?_
      refine r_calli (As := []) (st := []) Z kX12_bad lkX12_230 (by omega) rfl (so_bad    _ _ _ hw) rfl rfl (Nat.le_of_ble_eq_true rfl) dX12_read_113 (fun r7 M8 F8 hw => ?_)
      obtain ⟨hwt, hwf⟩ := hw
      refine ac_if_ne (tgt := 207) Z.1 dX12_read_116 (by decide) (fun hc => ?_) (fun hc => ?_)
      · have hw := hwt hc
        refine ac_lv [0] rfl ?_
        exact s_read_207 Z hret hWB _ _ hw
      · have hw := hwf hc
        refine ac_aload_n Z.1 0 dX12_read_119 rfl ?_
        refine r_geta Z.1 Z.2.1 11 (by decide) rfl fX12_25 rfl dX12_read_120 ?_
        refine ac_aload_n Z.1 0 dX12_read_123 rfl ?_
        refine r_geta Z.1 Z.2.1 43 (by decide) rfl fX12_83 rfl dX12_read_124 ?_
        refine ac_iload_n Z.1 1 dX12_read_127 rfl ?_
        obtain ⟨hb9, hw⟩ := hw
        refine r_ald (v := ((F8 43) (a2).toNatClampNeg)) Z.1 Z.2.1 21 43 700 rfl rfl hb9 rfl dX12_read_128 ?_
        obtain ⟨hb10, hw⟩ := hw
        refine r_ald (v := ((F8 11) (((F8 43) (a2).toNatClampNeg)).toNatClampNeg)) Z.1 Z.2.1 5 11 2100 rfl rfl hb10 rfl dX12_read_129 ?_
        refine ac_topi (fun v11 hv11 => ?_)
        have hw := hw v11 hv11
        refine ac_istore_n (lv' := [(3, .int v11), (0, .ref (r_h g)), (2, .int a2)]) Z.1 dX12_read_130 (by decide) rfl ?_
        refine ac_iload_n Z.1 0 dX12_read_131 rfl ?_
        refine ac_iconst (v := (-1)) Z.1 dX12_read_132 (by decide) ?_
        obtain ⟨hwt, hwf⟩ := hw
        refine ac_icmp_eq (tgt := 160) Z.1 dX12_read_133 (by decide) (fun hc => ?_) (fun hc => ?_)
        · have hw := hwt hc
          refine ac_lv [1, 2] rfl ?_
          exact s_read_160 Z hret hWB ih _ _ _ hw
        · have hw := hwf hc
          refine ac_aload_n Z.1 1 dX12_read_136 rfl ?_
          refine r_geta Z.1 Z.2.1 19 (by decide) rfl fX12_46 rfl dX12_read_137 ?_
          refine ac_sipush (v := 400) Z.1 dX12_read_140 (by decide) ?_
          refine ac_aload_n Z.1 1 dX12_read_143 rfl ?_
          refine r_geti (v := (M8 27)) Z.1 Z.2.1 27 (by decide) rfl fX12_70 rfl rfl dX12_read_144 ?_
          refine ac_imul Z.1 dX12_read_147 ?_
          refine ac_iload_n Z.1 0 dX12_read_148 rfl ?_
          refine ac_iadd Z.1 dX12_read_149 ?_
          obtain ⟨hb15, hw⟩ := hw
          refine r_ald (v := ((F8 19) (((400 * (M8 27)) + v11)).toNatClampNeg)) Z.1 Z.2.1 12 19 800 rfl rfl hb15 rfl dX12_read_150 ?_
          refine ac_topi (fun v16 hv16 => ?_)
          have hw := hw v16 hv16
          refine ac_aload_n Z.1 1 dX12_read_151 rfl ?_
          refine r_geta Z.1 Z.2.1 44 (by decide) rfl fX12_86 rfl dX12_read_152 ?_
          refine ac_iload_n Z.1 2 dX12_read_155 rfl ?_
          obtain ⟨hb17, hw⟩ := hw
          refine r_ald (v := ((F8 44) (a2).toNatClampNeg)) Z.1 Z.2.1 22 44 700 rfl rfl hb17 rfl dX12_read_156 ?_
          obtain ⟨hwt, hwf⟩ := hw
          refine ac_icmp_eq (tgt := 180) Z.1 dX12_read_157 (by decide) (fun hc => ?_) (fun hc => ?_)
          · have hw := hwt hc
            refine ac_aload_n Z.1 1 dX12_read_180 rfl ?_
            refine r_geta Z.1 Z.2.1 14 (by decide) rfl fX12_31 rfl dX12_read_181 ?_
            refine ac_aload_n Z.1 1 dX12_read_184 rfl ?_
            refine r_geta Z.1 Z.2.1 42 (by decide) rfl fX12_80 rfl dX12_read_185 ?_
            refine ac_iload_n Z.1 2 dX12_read_188 rfl ?_
            obtain ⟨hb18, hw⟩ := hw
            refine r_ald (v := ((F8 42) (a2).toNatClampNeg)) Z.1 Z.2.1 20 42 700 rfl rfl hb18 rfl dX12_read_189 ?_
            refine ac_sipush (v := 400) Z.1 dX12_read_190 (by decide) ?_
            refine ac_aload_n Z.1 1 dX12_read_193 rfl ?_
            refine r_geti (v := (M8 27)) Z.1 Z.2.1 27 (by decide) rfl fX12_70 rfl rfl dX12_read_194 ?_
            refine ac_imul Z.1 dX12_read_197 ?_
            refine ac_iload_n Z.1 0 dX12_read_198 rfl ?_
            refine ac_iadd Z.1 dX12_read_199 ?_
            obtain ⟨hb19, hw⟩ := hw
            refine r_ast Z.1 Z.2.1 7 14 18000 rfl rfl hb19 dX12_read_200 ?_
            refine ac_lv [1, 2] rfl ?_
            exact s_read_201 Z hret hWB ih _ _ _ hw
          · have hw := hwf hc
            refine ac_lv [1, 2] rfl ?_
            exact s_read_160 Z hret hWB ih _ _ _ hw
def w_read (WB : (Nat → Int32) → (Nat → Nat → Int32) → ((Nat → Int32) → (Nat → Nat → Int32) → Prop) → Prop) (p1 : Int32) (M : Nat → Int32) (F : Nat → Nat → Int32) (Q : Int32 → (Nat → Int32) → (Nat → Nat → Int32) → Prop) : Prop := (p1 < 0 → (Q (-1) M F)) ∧ (¬ p1 < 0 → ((p1 ≤ (M 1) → (w_next (um (um (um (um (um (um (um (um (um (um (um (um (um (um (um M 2 p1) 1 0) 27 (1 - (M 27))) 29 0) 30 0) 31 0) 32 0) 33 0) 46 0) 12 0) 36 (-1)) 37 (-1)) 38 (-1)) 39 (-1)) 3 0) F (fun M1 F1 => (w_text WB M1 F1 (fun M2 F2 => (∃ e104, w_read_104 WB Q e104 0 M2 F2)))))) ∧ (¬ p1 ≤ (M 1) → (Q (-1) M F))))
set_option maxRecDepth 20000 in
theorem so_read {l : Launch} {g : r_S} {WB : (Nat → Int32) → (Nat → Nat → Int32) → ((Nat → Int32) → (Nat → Nat → Int32) → Prop) → Prop} {rkB : Nat} (hWB : ∀ (M : Nat → Int32) (F : Nat → Nat → Int32) (Q : (Nat → Int32) → (Nat → Nat → Int32) → Prop), WB M F Q → r_MetV l g yX12_block cX12_block 1 rkB [.ref (r_h g)] M F Q) (p1 : Int32) (M : Nat → Int32) (F : Nat → Nat → Int32) (Q : Int32 → (Nat → Int32) → (Nat → Nat → Int32) → Prop) (hw : w_read WB p1 M F Q) : r_MetI l g yX12_read cX12_read 4 .int (rkB + 14) [.ref (r_h g), .int p1] M F Q := by
  refine r_MetI.of (by decide) rfl (Nat.le_of_ble_eq_true rfl) (fun x Z hret => ?_)
  show ac_G x (r_R g) 4 (r_P g M F) 0 0 0 [(0, .ref (r_h g)), (1, .int p1)] []
  refine ac_iload_n Z.1 1 dX12_read_0 rfl ?_
  obtain ⟨hwt, hwf⟩ := hw
  refine ac_if_lt (tgt := 12) Z.1 dX12_read_1 (by decide) (fun hc => ?_) (fun hc => ?_)
  · have hw := hwt hc
    refine ac_iconst (v := (-1)) Z.1 dX12_read_12 (by decide) ?_
    exact hret _ _ _ _ _ dX12_read_13 rfl hw
  · have hw := hwf hc
    refine ac_iload_n Z.1 1 dX12_read_4 rfl ?_
    refine ac_aload_n Z.1 0 dX12_read_5 rfl ?_
    refine r_geti (v := (M 1)) Z.1 Z.2.1 1 (by decide) rfl fX12_159 rfl rfl dX12_read_6 ?_
    obtain ⟨hwt, hwf⟩ := hw
    refine ac_icmp_le (tgt := 14) Z.1 dX12_read_9 (by decide) (fun hc => ?_) (fun hc => ?_)
    · have hw := hwt hc
      refine ac_aload_n Z.1 0 dX12_read_14 rfl ?_
      refine ac_iload_n Z.1 1 dX12_read_15 rfl ?_
      refine r_put Z.1 Z.2.1 2 (by decide) rfl rfl rfl fX12_166 rfl dX12_read_16 ?_
      refine ac_aload_n Z.1 0 dX12_read_19 rfl ?_
      refine ac_iconst (v := 0) Z.1 dX12_read_20 (by decide) ?_
      refine r_put Z.1 Z.2.1 1 (by decide) rfl rfl rfl fX12_159 rfl dX12_read_21 ?_
      refine ac_aload_n Z.1 0 dX12_read_24 rfl ?_
      refine ac_iconst (v := 1) Z.1 dX12_read_25 (by decide) ?_
      refine ac_aload_n Z.1 0 dX12_read_26 rfl ?_
      refine r_geti (v := (M 27)) Z.1 Z.2.1 27 (by decide) rfl fX12_70 rfl rfl dX12_read_27 ?_
      refine ac_isub Z.1 dX12_read_30 ?_
      refine r_put Z.1 Z.2.1 27 (by decide) rfl rfl rfl fX12_70 rfl dX12_read_31 ?_
      refine ac_aload_n Z.1 0 dX12_read_34 rfl ?_
      refine ac_iconst (v := 0) Z.1 dX12_read_35 (by decide) ?_
      refine r_put Z.1 Z.2.1 29 (by decide) rfl rfl rfl fX12_224 rfl dX12_read_36 ?_
      refine ac_aload_n Z.1 0 dX12_read_39 rfl ?_
      refine ac_iconst (v := 0) Z.1 dX12_read_40 (by decide) ?_
      refine r_put Z.1 Z.2.1 30 (by decide) rfl rfl rfl fX12_258 rfl dX12_read_41 ?_
      refine ac_aload_n Z.1 0 dX12_read_44 rfl ?_
      refine ac_iconst (v := 0) Z.1 dX12_read_45 (by decide) ?_
      refine r_put Z.1 Z.2.1 31 (by decide) rfl rfl rfl fX12_356 rfl dX12_read_46 ?_
      refine ac_aload_n Z.1 0 dX12_read_49 rfl ?_
      refine ac_iconst (v := 0) Z.1 dX12_read_50 (by decide) ?_
      refine r_put Z.1 Z.2.1 32 (by decide) rfl rfl rfl fX12_359 rfl dX12_read_51 ?_
      refine ac_aload_n Z.1 0 dX12_read_54 rfl ?_
      refine ac_iconst (v := 0) Z.1 dX12_read_55 (by decide) ?_
      refine r_put Z.1 Z.2.1 33 (by decide) rfl rfl rfl fX12_249 rfl dX12_read_56 ?_
      refine ac_aload_n Z.1 0 dX12_read_59 rfl ?_
      refine ac_iconst (v := 0) Z.1 dX12_read_60 (by decide) ?_
      refine r_put Z.1 Z.2.1 46 (by decide) rfl rfl rfl fX12_353 rfl dX12_read_61 ?_
      refine ac_aload_n Z.1 0 dX12_read_64 rfl ?_
      refine ac_iconst (v := 0) Z.1 dX12_read_65 (by decide) ?_
      refine r_put Z.1 Z.2.1 12 (by decide) rfl rfl rfl fX12_221 rfl dX12_read_66 ?_
      refine ac_aload_n Z.1 0 dX12_read_69 rfl ?_
      refine ac_iconst (v := (-1)) Z.1 dX12_read_70 (by decide) ?_
      refine r_put Z.1 Z.2.1 36 (by decide) rfl rfl rfl fX12_227 rfl dX12_read_71 ?_
      refine ac_aload_n Z.1 0 dX12_read_74 rfl ?_
      refine ac_iconst (v := (-1)) Z.1 dX12_read_75 (by decide) ?_
      refine r_put Z.1 Z.2.1 37 (by decide) rfl rfl rfl fX12_261 rfl dX12_read_76 ?_
      refine ac_aload_n Z.1 0 dX12_read_79 rfl ?_
      refine ac_iconst (v := (-1)) Z.1 dX12_read_80 (by decide) ?_
      refine r_put Z.1 Z.2.1 38 (by decide) rfl rfl rfl fX12_271 rfl dX12_read_81 ?_
      refine ac_aload_n Z.1 0 dX12_read_84 rfl ?_
      refine ac_iconst (v := (-1)) Z.1 dX12_read_85 (by decide) ?_
      refine r_put Z.1 Z.2.1 39 (by decide) rfl rfl rfl fX12_380 rfl dX12_read_86 ?_
      refine ac_aload_n Z.1 0 dX12_read_89 rfl ?_
      refine ac_iconst (v := 0) Z.1 dX12_read_90 (by decide) ?_
      refine r_put Z.1 Z.2.1 3 (by decide) rfl rfl rfl fX12_179 rfl dX12_read_91 ?_
      refine ac_aload_n Z.1 0 dX12_read_94 rfl ?_
      refine r_callv (As := []) (st := []) Z kX12_next lkX12_234 (by omega) rfl (so_next    _ _ _ hw) rfl rfl (Nat.le_of_ble_eq_true rfl) dX12_read_95 (fun M1 F1 hw => ?_)
      refine ac_aload_n Z.1 0 dX12_read_98 rfl ?_
      refine r_callv (As := []) (st := []) Z kX12_text lkX12_383 (by omega) rfl (so_text hWB   _ _ _ hw) rfl rfl (Nat.le_of_ble_eq_true rfl) dX12_read_99 (fun M2 F2 hw => ?_)
      refine ac_iconst (v := 0) Z.1 dX12_read_102 (by decide) ?_
      refine ac_istore_n (lv' := [(2, .int 0), (0, .ref (r_h g)), (1, .int p1)]) Z.1 dX12_read_103 (by decide) rfl ?_
      obtain ⟨n, hw⟩ := hw
      refine ac_lv [1, 0] rfl ?_
      exact s_read_104 Z hret hWB n _ _ _ hw
    · have hw := hwf hc
      refine ac_iconst (v := (-1)) Z.1 dX12_read_12 (by decide) ?_
      exact hret _ _ _ _ _ dX12_read_13 rfl hw
