def w_productBehind_27 (WF : (Nat → Int32) → (Nat → Nat → Int32) → ((Nat → Int32) → (Nat → Nat → Int32) → Prop) → Prop) (K0 : ((Nat → Int32) → (Nat → Nat → Int32) → Prop)) (Q : (Nat → Int32) → (Nat → Nat → Int32) → Prop) (M : Nat → Int32) (F : Nat → Nat → Int32) : Prop := w_pass M F (fun M3 F3 => (WF M3 F3 (fun M4 F4 => (w_put 6 (M 5) 0 0 M4 F4 (fun r5 M6 F6 => (K0 M6 F6))))))
set_option maxRecDepth 20000 in
theorem s_productBehind_27 {x : ac_X} {g : r_S} {l : Launch} {WF : (Nat → Int32) → (Nat → Nat → Int32) → ((Nat → Int32) → (Nat → Nat → Int32) → Prop) → Prop} {rkF : Nat} {K0 : ((Nat → Int32) → (Nat → Nat → Int32) → Prop)} {Q : (Nat → Int32) → (Nat → Nat → Int32) → Prop} (Z : r_Cx x g l cX12_productBehind 3 (rkF + 10)) (hret : r_RV x g 3 cX12_productBehind Q) (hWF : ∀ (M : Nat → Int32) (F : Nat → Nat → Int32) (Q : (Nat → Int32) → (Nat → Nat → Int32) → Prop), WF M F Q → r_MetV l g yX12_factor cX12_factor 3 rkF [.ref (r_h g)] M F Q) (hK0 : ∀ (M : Nat → Int32) (F : Nat → Nat → Int32), K0 M F → ac_G x (r_R g) 3 (r_P g M F) 0 0 0 [(0, .ref (r_h g))] []) (M : Nat → Int32) (F : Nat → Nat → Int32) (hw : w_productBehind_27 WF K0 Q M F) : ac_G x (r_R g) 3 (r_P g M F) 0 0 27 [(0, .ref (r_h g))] [] := by
  refine ac_aload_n Z.1 0 dX12_productBehind_27 rfl ?_
  refine r_geti (v := (M 5)) Z.1 Z.2.1 5 (by decide) rfl fX12_207 rfl rfl dX12_productBehind_28 ?_
  refine ac_istore_n (lv' := [(2, .int (M 5)), (0, .ref (r_h g))]) Z.1 dX12_productBehind_31 (by decide) rfl ?_
  refine ac_aload_n Z.1 1 dX12_productBehind_32 rfl ?_
  refine r_callv (As := []) (st := []) Z kX12_pass lkX12_240 (by omega) rfl (so_pass    _ _ _ hw) rfl rfl (Nat.le_of_ble_eq_true rfl) dX12_productBehind_33 (fun M3 F3 hw => ?_)
  refine ac_aload_n Z.1 1 dX12_productBehind_36 rfl ?_
  refine r_callv (As := []) (st := []) Z kX12_factor lkX12_377 (by omega) rfl (hWF  _ _ _ hw) rfl rfl (Nat.le_of_ble_eq_true rfl) dX12_productBehind_37 (fun M4 F4 hw => ?_)
  refine ac_aload_n Z.1 1 dX12_productBehind_40 rfl ?_
  refine ac_bipush (v := 6) Z.1 dX12_productBehind_41 (by decide) ?_
  refine ac_iload_n Z.1 0 dX12_productBehind_43 rfl ?_
  refine ac_iconst (v := 0) Z.1 dX12_productBehind_44 (by decide) ?_
  refine ac_iconst (v := 0) Z.1 dX12_productBehind_45 (by decide) ?_
  refine r_calli (As := [.int 6, .int (M 5), .int 0, .int 0]) (st := []) Z kX12_put lkX12_301 (by omega) rfl (so_put   _ _ _ _ _ _ _ hw) rfl rfl (Nat.le_of_ble_eq_true rfl) dX12_productBehind_46 (fun r5 M6 F6 hw => ?_)
  refine ac_istore_n (lv' := [(1, .int r5), (2, .int (M 5)), (0, .ref (r_h g))]) Z.1 dX12_productBehind_49 (by decide) rfl ?_
  refine ac_goto (tgt := 0) Z.1 dX12_productBehind_50 (by decide) ?_
  refine ac_lv [2] rfl ?_
  exact hK0 _ _ hw
def w_productBehind_0 (WF : (Nat → Int32) → (Nat → Nat → Int32) → ((Nat → Int32) → (Nat → Nat → Int32) → Prop) → Prop) (Q : (Nat → Int32) → (Nat → Nat → Int32) → Prop) : Nat → (Nat → Int32) → (Nat → Nat → Int32) → Prop
  | 0 => fun _ _ => False
  | n + 1 => fun M F => (w_isSign 42 M F (fun r1 M2 F2 => ((¬ r1 = 0 → (w_productBehind_27 WF (w_productBehind_0 WF Q n) Q M2 F2)) ∧ (r1 = 0 → (w_isSign 47 M2 F2 (fun r7 M8 F8 => ((¬ r7 = 0 → (w_productBehind_27 WF (w_productBehind_0 WF Q n) Q M8 F8)) ∧ (r7 = 0 → (w_isSign 37 M8 F8 (fun r9 M10 F10 => ((r9 = 0 → (Q M10 F10)) ∧ (¬ r9 = 0 → (w_productBehind_27 WF (w_productBehind_0 WF Q n) Q M10 F10)))))))))))))
set_option maxRecDepth 20000 in
theorem s_productBehind_0 {x : ac_X} {g : r_S} {l : Launch} {WF : (Nat → Int32) → (Nat → Nat → Int32) → ((Nat → Int32) → (Nat → Nat → Int32) → Prop) → Prop} {rkF : Nat} {Q : (Nat → Int32) → (Nat → Nat → Int32) → Prop} (Z : r_Cx x g l cX12_productBehind 3 (rkF + 10)) (hret : r_RV x g 3 cX12_productBehind Q) (hWF : ∀ (M : Nat → Int32) (F : Nat → Nat → Int32) (Q : (Nat → Int32) → (Nat → Nat → Int32) → Prop), WF M F Q → r_MetV l g yX12_factor cX12_factor 3 rkF [.ref (r_h g)] M F Q) : ∀ (n : Nat) (M : Nat → Int32) (F : Nat → Nat → Int32), w_productBehind_0 WF Q n M F → ac_G x (r_R g) 3 (r_P g M F) 0 0 0 [(0, .ref (r_h g))] [] := by
  intro n
  induction n with
  | zero => intro _ _ hw; exact hw.elim
  | succ n ih =>
    intro M F hw
    dsimp only [w_productBehind_0] at hw
    refine ac_aload_n Z.1 0 dX12_productBehind_0 rfl ?_
    refine ac_bipush (v := 42) Z.1 dX12_productBehind_1 (by decide) ?_
    refine r_calli (As := [.int 42]) (st := []) Z kX12_isSign lkX12_237 (by omega) rfl (so_isSign   _ _ _ _ hw) rfl rfl (Nat.le_of_ble_eq_true rfl) dX12_productBehind_3 (fun r1 M2 F2 hw => ?_)
    obtain ⟨hwt, hwf⟩ := hw
    refine ac_if_ne (tgt := 27) Z.1 dX12_productBehind_6 (by decide) (fun hc => ?_) (fun hc => ?_)
    · have hw := hwt hc
      exact s_productBehind_27 Z hret hWF ih _ _ hw
    · have hw := hwf hc
      refine ac_aload_n Z.1 0 dX12_productBehind_9 rfl ?_
      refine ac_bipush (v := 47) Z.1 dX12_productBehind_10 (by decide) ?_
      refine r_calli (As := [.int 47]) (st := []) Z kX12_isSign lkX12_237 (by omega) rfl (so_isSign   _ _ _ _ hw) rfl rfl (Nat.le_of_ble_eq_true rfl) dX12_productBehind_12 (fun r7 M8 F8 hw => ?_)
      obtain ⟨hwt, hwf⟩ := hw
      refine ac_if_ne (tgt := 27) Z.1 dX12_productBehind_15 (by decide) (fun hc => ?_) (fun hc => ?_)
      · have hw := hwt hc
        exact s_productBehind_27 Z hret hWF ih _ _ hw
      · have hw := hwf hc
        refine ac_aload_n Z.1 0 dX12_productBehind_18 rfl ?_
        refine ac_bipush (v := 37) Z.1 dX12_productBehind_19 (by decide) ?_
        refine r_calli (As := [.int 37]) (st := []) Z kX12_isSign lkX12_237 (by omega) rfl (so_isSign   _ _ _ _ hw) rfl rfl (Nat.le_of_ble_eq_true rfl) dX12_productBehind_21 (fun r9 M10 F10 hw => ?_)
        obtain ⟨hwt, hwf⟩ := hw
        refine ac_if_eq (tgt := 53) Z.1 dX12_productBehind_24 (by decide) (fun hc => ?_) (fun hc => ?_)
        · have hw := hwt hc
          exact hret _ _ _ _ dX12_productBehind_53 hw
        · have hw := hwf hc
          exact s_productBehind_27 Z hret hWF ih _ _ hw
def w_productBehind (WF : (Nat → Int32) → (Nat → Nat → Int32) → ((Nat → Int32) → (Nat → Nat → Int32) → Prop) → Prop) (M : Nat → Int32) (F : Nat → Nat → Int32) (Q : (Nat → Int32) → (Nat → Nat → Int32) → Prop) : Prop := ∃ e0, w_productBehind_0 WF Q e0 M F
set_option maxRecDepth 20000 in
theorem so_productBehind {l : Launch} {g : r_S} {WF : (Nat → Int32) → (Nat → Nat → Int32) → ((Nat → Int32) → (Nat → Nat → Int32) → Prop) → Prop} {rkF : Nat} (hWF : ∀ (M : Nat → Int32) (F : Nat → Nat → Int32) (Q : (Nat → Int32) → (Nat → Nat → Int32) → Prop), WF M F Q → r_MetV l g yX12_factor cX12_factor 3 rkF [.ref (r_h g)] M F Q) (M : Nat → Int32) (F : Nat → Nat → Int32) (Q : (Nat → Int32) → (Nat → Nat → Int32) → Prop) (hw : w_productBehind WF  M F Q) : r_MetV l g yX12_productBehind cX12_productBehind 3 (rkF + 10) [.ref (r_h g)] M F Q := by
  refine r_MetV.of (by decide) rfl (Nat.le_of_ble_eq_true rfl) (fun x Z hret => ?_)
  show ac_G x (r_R g) 3 (r_P g M F) 0 0 0 [(0, .ref (r_h g))] []
  obtain ⟨n, hw⟩ := hw
  exact s_productBehind_0 Z hret hWF n _ _ hw
def w_product (WF : (Nat → Int32) → (Nat → Nat → Int32) → ((Nat → Int32) → (Nat → Nat → Int32) → Prop) → Prop) (M : Nat → Int32) (F : Nat → Nat → Int32) (Q : (Nat → Int32) → (Nat → Nat → Int32) → Prop) : Prop := WF M F (fun M1 F1 => (w_productBehind WF M1 F1 (fun M2 F2 => (Q M2 F2))))
set_option maxRecDepth 20000 in
theorem so_product {l : Launch} {g : r_S} {WF : (Nat → Int32) → (Nat → Nat → Int32) → ((Nat → Int32) → (Nat → Nat → Int32) → Prop) → Prop} {rkF : Nat} (hWF : ∀ (M : Nat → Int32) (F : Nat → Nat → Int32) (Q : (Nat → Int32) → (Nat → Nat → Int32) → Prop), WF M F Q → r_MetV l g yX12_factor cX12_factor 3 rkF [.ref (r_h g)] M F Q) (M : Nat → Int32) (F : Nat → Nat → Int32) (Q : (Nat → Int32) → (Nat → Nat → Int32) → Prop) (hw : w_product WF  M F Q) : r_MetV l g yX12_product cX12_product 1 (rkF + 11) [.ref (r_h g)] M F Q := by
  refine r_MetV.of (by decide) rfl (Nat.le_of_ble_eq_true rfl) (fun x Z hret => ?_)
  show ac_G x (r_R g) 1 (r_P g M F) 0 0 0 [(0, .ref (r_h g))] []
  refine ac_aload_n Z.1 0 dX12_product_0 rfl ?_
  refine r_callv (As := []) (st := []) Z kX12_factor lkX12_377 (by omega) rfl (hWF  _ _ _ hw) rfl rfl (Nat.le_of_ble_eq_true rfl) dX12_product_1 (fun M1 F1 hw => ?_)
  refine ac_aload_n Z.1 0 dX12_product_4 rfl ?_
  refine r_callv (As := []) (st := []) Z kX12_productBehind lkX12_368 (by omega) rfl (so_productBehind hWF   _ _ _ hw) rfl rfl (Nat.le_of_ble_eq_true rfl) dX12_product_5 (fun M2 F2 hw => ?_)
  exact hret _ _ _ _ dX12_product_8 hw
def w_sumBehind_18 (WF : (Nat → Int32) → (Nat → Nat → Int32) → ((Nat → Int32) → (Nat → Nat → Int32) → Prop) → Prop) (K0 : ((Nat → Int32) → (Nat → Nat → Int32) → Prop)) (Q : (Nat → Int32) → (Nat → Nat → Int32) → Prop) (M : Nat → Int32) (F : Nat → Nat → Int32) : Prop := w_pass M F (fun M3 F3 => (w_product WF M3 F3 (fun M4 F4 => (w_put 6 (M 5) 0 0 M4 F4 (fun r5 M6 F6 => (K0 M6 F6))))))
set_option maxRecDepth 20000 in
theorem s_sumBehind_18 {x : ac_X} {g : r_S} {l : Launch} {WF : (Nat → Int32) → (Nat → Nat → Int32) → ((Nat → Int32) → (Nat → Nat → Int32) → Prop) → Prop} {rkF : Nat} {K0 : ((Nat → Int32) → (Nat → Nat → Int32) → Prop)} {Q : (Nat → Int32) → (Nat → Nat → Int32) → Prop} (Z : r_Cx x g l cX12_sumBehind 3 (rkF + 12)) (hret : r_RV x g 3 cX12_sumBehind Q) (hWF : ∀ (M : Nat → Int32) (F : Nat → Nat → Int32) (Q : (Nat → Int32) → (Nat → Nat → Int32) → Prop), WF M F Q → r_MetV l g yX12_factor cX12_factor 3 rkF [.ref (r_h g)] M F Q) (hK0 : ∀ (M : Nat → Int32) (F : Nat → Nat → Int32), K0 M F → ac_G x (r_R g) 3 (r_P g M F) 0 0 0 [(0, .ref (r_h g))] []) (M : Nat → Int32) (F : Nat → Nat → Int32) (hw : w_sumBehind_18 WF K0 Q M F) : ac_G x (r_R g) 3 (r_P g M F) 0 0 18 [(0, .ref (r_h g))] [] := by
  refine ac_aload_n Z.1 0 dX12_sumBehind_18 rfl ?_
  refine r_geti (v := (M 5)) Z.1 Z.2.1 5 (by decide) rfl fX12_207 rfl rfl dX12_sumBehind_19 ?_
  refine ac_istore_n (lv' := [(2, .int (M 5)), (0, .ref (r_h g))]) Z.1 dX12_sumBehind_22 (by decide) rfl ?_
  refine ac_aload_n Z.1 1 dX12_sumBehind_23 rfl ?_
  refine r_callv (As := []) (st := []) Z kX12_pass lkX12_240 (by omega) rfl (so_pass    _ _ _ hw) rfl rfl (Nat.le_of_ble_eq_true rfl) dX12_sumBehind_24 (fun M3 F3 hw => ?_)
  refine ac_aload_n Z.1 1 dX12_sumBehind_27 rfl ?_
  refine r_callv (As := []) (st := []) Z kX12_product lkX12_374 (by omega) rfl (so_product hWF   _ _ _ hw) rfl rfl (Nat.le_of_ble_eq_true rfl) dX12_sumBehind_28 (fun M4 F4 hw => ?_)
  refine ac_aload_n Z.1 1 dX12_sumBehind_31 rfl ?_
  refine ac_bipush (v := 6) Z.1 dX12_sumBehind_32 (by decide) ?_
  refine ac_iload_n Z.1 0 dX12_sumBehind_34 rfl ?_
  refine ac_iconst (v := 0) Z.1 dX12_sumBehind_35 (by decide) ?_
  refine ac_iconst (v := 0) Z.1 dX12_sumBehind_36 (by decide) ?_
  refine r_calli (As := [.int 6, .int (M 5), .int 0, .int 0]) (st := []) Z kX12_put lkX12_301 (by omega) rfl (so_put   _ _ _ _ _ _ _ hw) rfl rfl (Nat.le_of_ble_eq_true rfl) dX12_sumBehind_37 (fun r5 M6 F6 hw => ?_)
  refine ac_istore_n (lv' := [(1, .int r5), (2, .int (M 5)), (0, .ref (r_h g))]) Z.1 dX12_sumBehind_40 (by decide) rfl ?_
  refine ac_goto (tgt := 0) Z.1 dX12_sumBehind_41 (by decide) ?_
  refine ac_lv [2] rfl ?_
  exact hK0 _ _ hw
def w_sumBehind_0 (WF : (Nat → Int32) → (Nat → Nat → Int32) → ((Nat → Int32) → (Nat → Nat → Int32) → Prop) → Prop) (Q : (Nat → Int32) → (Nat → Nat → Int32) → Prop) : Nat → (Nat → Int32) → (Nat → Nat → Int32) → Prop
  | 0 => fun _ _ => False
  | n + 1 => fun M F => (w_isSign 43 M F (fun r1 M2 F2 => ((¬ r1 = 0 → (w_sumBehind_18 WF (w_sumBehind_0 WF Q n) Q M2 F2)) ∧ (r1 = 0 → (w_isSign 45 M2 F2 (fun r7 M8 F8 => ((r7 = 0 → (Q M8 F8)) ∧ (¬ r7 = 0 → (w_sumBehind_18 WF (w_sumBehind_0 WF Q n) Q M8 F8)))))))))
set_option maxRecDepth 20000 in
theorem s_sumBehind_0 {x : ac_X} {g : r_S} {l : Launch} {WF : (Nat → Int32) → (Nat → Nat → Int32) → ((Nat → Int32) → (Nat → Nat → Int32) → Prop) → Prop} {rkF : Nat} {Q : (Nat → Int32) → (Nat → Nat → Int32) → Prop} (Z : r_Cx x g l cX12_sumBehind 3 (rkF + 12)) (hret : r_RV x g 3 cX12_sumBehind Q) (hWF : ∀ (M : Nat → Int32) (F : Nat → Nat → Int32) (Q : (Nat → Int32) → (Nat → Nat → Int32) → Prop), WF M F Q → r_MetV l g yX12_factor cX12_factor 3 rkF [.ref (r_h g)] M F Q) : ∀ (n : Nat) (M : Nat → Int32) (F : Nat → Nat → Int32), w_sumBehind_0 WF Q n M F → ac_G x (r_R g) 3 (r_P g M F) 0 0 0 [(0, .ref (r_h g))] [] := by
  intro n
  induction n with
  | zero => intro _ _ hw; exact hw.elim
  | succ n ih =>
    intro M F hw
    dsimp only [w_sumBehind_0] at hw
    refine ac_aload_n Z.1 0 dX12_sumBehind_0 rfl ?_
    refine ac_bipush (v := 43) Z.1 dX12_sumBehind_1 (by decide) ?_
    refine r_calli (As := [.int 43]) (st := []) Z kX12_isSign lkX12_237 (by omega) rfl (so_isSign   _ _ _ _ hw) rfl rfl (Nat.le_of_ble_eq_true rfl) dX12_sumBehind_3 (fun r1 M2 F2 hw => ?_)
    obtain ⟨hwt, hwf⟩ := hw
    refine ac_if_ne (tgt := 18) Z.1 dX12_sumBehind_6 (by decide) (fun hc => ?_) (fun hc => ?_)
    · have hw := hwt hc
      exact s_sumBehind_18 Z hret hWF ih _ _ hw
    · have hw := hwf hc
      refine ac_aload_n Z.1 0 dX12_sumBehind_9 rfl ?_
      refine ac_bipush (v := 45) Z.1 dX12_sumBehind_10 (by decide) ?_
      refine r_calli (As := [.int 45]) (st := []) Z kX12_isSign lkX12_237 (by omega) rfl (so_isSign   _ _ _ _ hw) rfl rfl (Nat.le_of_ble_eq_true rfl) dX12_sumBehind_12 (fun r7 M8 F8 hw => ?_)
      obtain ⟨hwt, hwf⟩ := hw
      refine ac_if_eq (tgt := 44) Z.1 dX12_sumBehind_15 (by decide) (fun hc => ?_) (fun hc => ?_)
      · have hw := hwt hc
        exact hret _ _ _ _ dX12_sumBehind_44 hw
      · have hw := hwf hc
        exact s_sumBehind_18 Z hret hWF ih _ _ hw
def w_sumBehind (WF : (Nat → Int32) → (Nat → Nat → Int32) → ((Nat → Int32) → (Nat → Nat → Int32) → Prop) → Prop) (M : Nat → Int32) (F : Nat → Nat → Int32) (Q : (Nat → Int32) → (Nat → Nat → Int32) → Prop) : Prop := ∃ e0, w_sumBehind_0 WF Q e0 M F
set_option maxRecDepth 20000 in
theorem so_sumBehind {l : Launch} {g : r_S} {WF : (Nat → Int32) → (Nat → Nat → Int32) → ((Nat → Int32) → (Nat → Nat → Int32) → Prop) → Prop} {rkF : Nat} (hWF : ∀ (M : Nat → Int32) (F : Nat → Nat → Int32) (Q : (Nat → Int32) → (Nat → Nat → Int32) → Prop), WF M F Q → r_MetV l g yX12_factor cX12_factor 3 rkF [.ref (r_h g)] M F Q) (M : Nat → Int32) (F : Nat → Nat → Int32) (Q : (Nat → Int32) → (Nat → Nat → Int32) → Prop) (hw : w_sumBehind WF  M F Q) : r_MetV l g yX12_sumBehind cX12_sumBehind 3 (rkF + 12) [.ref (r_h g)] M F Q := by
  refine r_MetV.of (by decide) rfl (Nat.le_of_ble_eq_true rfl) (fun x Z hret => ?_)
  show ac_G x (r_R g) 3 (r_P g M F) 0 0 0 [(0, .ref (r_h g))] []
  obtain ⟨n, hw⟩ := hw
  exact s_sumBehind_0 Z hret hWF n _ _ hw
def w_sum (WF : (Nat → Int32) → (Nat → Nat → Int32) → ((Nat → Int32) → (Nat → Nat → Int32) → Prop) → Prop) (M : Nat → Int32) (F : Nat → Nat → Int32) (Q : (Nat → Int32) → (Nat → Nat → Int32) → Prop) : Prop := w_product WF M F (fun M1 F1 => (w_sumBehind WF M1 F1 (fun M2 F2 => (Q M2 F2))))
set_option maxRecDepth 20000 in
theorem so_sum {l : Launch} {g : r_S} {WF : (Nat → Int32) → (Nat → Nat → Int32) → ((Nat → Int32) → (Nat → Nat → Int32) → Prop) → Prop} {rkF : Nat} (hWF : ∀ (M : Nat → Int32) (F : Nat → Nat → Int32) (Q : (Nat → Int32) → (Nat → Nat → Int32) → Prop), WF M F Q → r_MetV l g yX12_factor cX12_factor 3 rkF [.ref (r_h g)] M F Q) (M : Nat → Int32) (F : Nat → Nat → Int32) (Q : (Nat → Int32) → (Nat → Nat → Int32) → Prop) (hw : w_sum WF  M F Q) : r_MetV l g yX12_sum cX12_sum 1 (rkF + 13) [.ref (r_h g)] M F Q := by
  refine r_MetV.of (by decide) rfl (Nat.le_of_ble_eq_true rfl) (fun x Z hret => ?_)
  show ac_G x (r_R g) 1 (r_P g M F) 0 0 0 [(0, .ref (r_h g))] []
  refine ac_aload_n Z.1 0 dX12_sum_0 rfl ?_
  refine r_callv (As := []) (st := []) Z kX12_product lkX12_374 (by omega) rfl (so_product hWF   _ _ _ hw) rfl rfl (Nat.le_of_ble_eq_true rfl) dX12_sum_1 (fun M1 F1 hw => ?_)
  refine ac_aload_n Z.1 0 dX12_sum_4 rfl ?_
  refine r_callv (As := []) (st := []) Z kX12_sumBehind lkX12_371 (by omega) rfl (so_sumBehind hWF   _ _ _ hw) rfl rfl (Nat.le_of_ble_eq_true rfl) dX12_sum_5 (fun M2 F2 hw => ?_)
  exact hret _ _ _ _ dX12_sum_8 hw
def w_compared_30 (WF : (Nat → Int32) → (Nat → Nat → Int32) → ((Nat → Int32) → (Nat → Nat → Int32) → Prop) → Prop) (Q : (Nat → Int32) → (Nat → Nat → Int32) → Prop) (M : Nat → Int32) (F : Nat → Nat → Int32) : Prop := w_pass M F (fun M3 F3 => (w_sum WF M3 F3 (fun M4 F4 => (w_put 6 (M 5) 0 0 M4 F4 (fun r5 M6 F6 => (Q M6 F6))))))
set_option maxRecDepth 20000 in
theorem s_compared_30 {x : ac_X} {g : r_S} {l : Launch} {WF : (Nat → Int32) → (Nat → Nat → Int32) → ((Nat → Int32) → (Nat → Nat → Int32) → Prop) → Prop} {rkF : Nat} {Q : (Nat → Int32) → (Nat → Nat → Int32) → Prop} (Z : r_Cx x g l cX12_compared 3 (rkF + 14)) (hret : r_RV x g 3 cX12_compared Q) (hWF : ∀ (M : Nat → Int32) (F : Nat → Nat → Int32) (Q : (Nat → Int32) → (Nat → Nat → Int32) → Prop), WF M F Q → r_MetV l g yX12_factor cX12_factor 3 rkF [.ref (r_h g)] M F Q) (M : Nat → Int32) (F : Nat → Nat → Int32) (hw : w_compared_30 WF Q M F) : ac_G x (r_R g) 3 (r_P g M F) 0 0 30 [(0, .ref (r_h g))] [] := by
  refine ac_aload_n Z.1 0 dX12_compared_30 rfl ?_
  refine r_geti (v := (M 5)) Z.1 Z.2.1 5 (by decide) rfl fX12_207 rfl rfl dX12_compared_31 ?_
  refine ac_istore_n (lv' := [(2, .int (M 5)), (0, .ref (r_h g))]) Z.1 dX12_compared_34 (by decide) rfl ?_
  refine ac_aload_n Z.1 1 dX12_compared_35 rfl ?_
  refine r_callv (As := []) (st := []) Z kX12_pass lkX12_240 (by omega) rfl (so_pass    _ _ _ hw) rfl rfl (Nat.le_of_ble_eq_true rfl) dX12_compared_36 (fun M3 F3 hw => ?_)
  refine ac_aload_n Z.1 1 dX12_compared_39 rfl ?_
  refine r_callv (As := []) (st := []) Z kX12_sum lkX12_362 (by omega) rfl (so_sum hWF   _ _ _ hw) rfl rfl (Nat.le_of_ble_eq_true rfl) dX12_compared_40 (fun M4 F4 hw => ?_)
  refine ac_aload_n Z.1 1 dX12_compared_43 rfl ?_
  refine ac_bipush (v := 6) Z.1 dX12_compared_44 (by decide) ?_
  refine ac_iload_n Z.1 0 dX12_compared_46 rfl ?_
  refine ac_iconst (v := 0) Z.1 dX12_compared_47 (by decide) ?_
  refine ac_iconst (v := 0) Z.1 dX12_compared_48 (by decide) ?_
  refine r_calli (As := [.int 6, .int (M 5), .int 0, .int 0]) (st := []) Z kX12_put lkX12_301 (by omega) rfl (so_put   _ _ _ _ _ _ _ hw) rfl rfl (Nat.le_of_ble_eq_true rfl) dX12_compared_49 (fun r5 M6 F6 hw => ?_)
  refine ac_istore_n (lv' := [(1, .int r5), (2, .int (M 5)), (0, .ref (r_h g))]) Z.1 dX12_compared_52 (by decide) rfl ?_
  exact hret _ _ _ _ dX12_compared_53 hw
def w_compared (WF : (Nat → Int32) → (Nat → Nat → Int32) → ((Nat → Int32) → (Nat → Nat → Int32) → Prop) → Prop) (M : Nat → Int32) (F : Nat → Nat → Int32) (Q : (Nat → Int32) → (Nat → Nat → Int32) → Prop) : Prop := w_isSign 60 M F (fun r1 M2 F2 => ((¬ r1 = 0 → (w_compared_30 WF Q M2 F2)) ∧ (r1 = 0 → (w_isSign 300 M2 F2 (fun r7 M8 F8 => ((¬ r7 = 0 → (w_compared_30 WF Q M8 F8)) ∧ (r7 = 0 → (w_isSign 301 M8 F8 (fun r9 M10 F10 => ((¬ r9 = 0 → (w_compared_30 WF Q M10 F10)) ∧ (r9 = 0 → (Q M10 F10))))))))))))
set_option maxRecDepth 20000 in
theorem so_compared {l : Launch} {g : r_S} {WF : (Nat → Int32) → (Nat → Nat → Int32) → ((Nat → Int32) → (Nat → Nat → Int32) → Prop) → Prop} {rkF : Nat} (hWF : ∀ (M : Nat → Int32) (F : Nat → Nat → Int32) (Q : (Nat → Int32) → (Nat → Nat → Int32) → Prop), WF M F Q → r_MetV l g yX12_factor cX12_factor 3 rkF [.ref (r_h g)] M F Q) (M : Nat → Int32) (F : Nat → Nat → Int32) (Q : (Nat → Int32) → (Nat → Nat → Int32) → Prop) (hw : w_compared WF  M F Q) : r_MetV l g yX12_compared cX12_compared 3 (rkF + 14) [.ref (r_h g)] M F Q := by
  refine r_MetV.of (by decide) rfl (Nat.le_of_ble_eq_true rfl) (fun x Z hret => ?_)
  show ac_G x (r_R g) 3 (r_P g M F) 0 0 0 [(0, .ref (r_h g))] []
  refine ac_aload_n Z.1 0 dX12_compared_0 rfl ?_
  refine ac_bipush (v := 60) Z.1 dX12_compared_1 (by decide) ?_
  refine r_calli (As := [.int 60]) (st := []) Z kX12_isSign lkX12_237 (by omega) rfl (so_isSign   _ _ _ _ hw) rfl rfl (Nat.le_of_ble_eq_true rfl) dX12_compared_3 (fun r1 M2 F2 hw => ?_)
  obtain ⟨hwt, hwf⟩ := hw
  refine ac_if_ne (tgt := 30) Z.1 dX12_compared_6 (by decide) (fun hc => ?_) (fun hc => ?_)
  · have hw := hwt hc
    exact s_compared_30 Z hret hWF _ _ hw
  · have hw := hwf hc
    refine ac_aload_n Z.1 0 dX12_compared_9 rfl ?_
    refine ac_sipush (v := 300) Z.1 dX12_compared_10 (by decide) ?_
    refine r_calli (As := [.int 300]) (st := []) Z kX12_isSign lkX12_237 (by omega) rfl (so_isSign   _ _ _ _ hw) rfl rfl (Nat.le_of_ble_eq_true rfl) dX12_compared_13 (fun r7 M8 F8 hw => ?_)
    obtain ⟨hwt, hwf⟩ := hw
    refine ac_if_ne (tgt := 30) Z.1 dX12_compared_16 (by decide) (fun hc => ?_) (fun hc => ?_)
    · have hw := hwt hc
      exact s_compared_30 Z hret hWF _ _ hw
    · have hw := hwf hc
      refine ac_aload_n Z.1 0 dX12_compared_19 rfl ?_
      refine ac_sipush (v := 301) Z.1 dX12_compared_20 (by decide) ?_
      refine r_calli (As := [.int 301]) (st := []) Z kX12_isSign lkX12_237 (by omega) rfl (so_isSign   _ _ _ _ hw) rfl rfl (Nat.le_of_ble_eq_true rfl) dX12_compared_23 (fun r9 M10 F10 hw => ?_)
      obtain ⟨hwt, hwf⟩ := hw
      refine ac_if_ne (tgt := 30) Z.1 dX12_compared_26 (by decide) (fun hc => ?_) (fun hc => ?_)
      · have hw := hwt hc
        exact s_compared_30 Z hret hWF _ _ hw
      · have hw := hwf hc
        exact hret _ _ _ _ dX12_compared_29 hw
def w_whole (WF : (Nat → Int32) → (Nat → Nat → Int32) → ((Nat → Int32) → (Nat → Nat → Int32) → Prop) → Prop) (M : Nat → Int32) (F : Nat → Nat → Int32) (Q : (Nat → Int32) → (Nat → Nat → Int32) → Prop) : Prop := w_sum WF M F (fun M1 F1 => (w_compared WF M1 F1 (fun M2 F2 => (Q M2 F2))))
set_option maxRecDepth 20000 in
theorem so_whole {l : Launch} {g : r_S} {WF : (Nat → Int32) → (Nat → Nat → Int32) → ((Nat → Int32) → (Nat → Nat → Int32) → Prop) → Prop} {rkF : Nat} (hWF : ∀ (M : Nat → Int32) (F : Nat → Nat → Int32) (Q : (Nat → Int32) → (Nat → Nat → Int32) → Prop), WF M F Q → r_MetV l g yX12_factor cX12_factor 3 rkF [.ref (r_h g)] M F Q) (M : Nat → Int32) (F : Nat → Nat → Int32) (Q : (Nat → Int32) → (Nat → Nat → Int32) → Prop) (hw : w_whole WF  M F Q) : r_MetV l g yX12_whole cX12_whole 1 (rkF + 15) [.ref (r_h g)] M F Q := by
  refine r_MetV.of (by decide) rfl (Nat.le_of_ble_eq_true rfl) (fun x Z hret => ?_)
  show ac_G x (r_R g) 1 (r_P g M F) 0 0 0 [(0, .ref (r_h g))] []
  refine ac_aload_n Z.1 0 dX12_whole_0 rfl ?_
  refine r_callv (As := []) (st := []) Z kX12_sum lkX12_362 (by omega) rfl (so_sum hWF   _ _ _ hw) rfl rfl (Nat.le_of_ble_eq_true rfl) dX12_whole_1 (fun M1 F1 hw => ?_)
  refine ac_aload_n Z.1 0 dX12_whole_4 rfl ?_
  refine r_callv (As := []) (st := []) Z kX12_compared lkX12_365 (by omega) rfl (so_compared hWF   _ _ _ hw) rfl rfl (Nat.le_of_ble_eq_true rfl) dX12_whole_5 (fun M2 F2 hw => ?_)
  exact hret _ _ _ _ dX12_whole_8 hw
def w_let (WF : (Nat → Int32) → (Nat → Nat → Int32) → ((Nat → Int32) → (Nat → Nat → Int32) → Prop) → Prop) (M : Nat → Int32) (F : Nat → Nat → Int32) (Q : (Nat → Int32) → (Nat → Nat → Int32) → Prop) : Prop := w_pass M F (fun M1 F1 => (w_taken 1 M1 F1 (fun r2 M3 F3 => (w_need 61 M3 F3 (fun M4 F4 => (w_whole WF M4 F4 (fun M5 F5 => (w_need 59 M5 F5 (fun M6 F6 => (w_tell r2 (M3 47) M6 F6 (fun M7 F7 => (w_bad M7 F7 (fun r8 M9 F9 => ((r8 = 0 → (vp_in r2 2100 ∧ (w_put 3 ((F9 10) (r2).toNatClampNeg) 0 0 M9 F9 (fun r11 M12 F12 => (Q M12 F12))))) ∧ (¬ r8 = 0 → (Q M9 F9))))))))))))))))
set_option maxRecDepth 20000 in
theorem so_let {l : Launch} {g : r_S} {WF : (Nat → Int32) → (Nat → Nat → Int32) → ((Nat → Int32) → (Nat → Nat → Int32) → Prop) → Prop} {rkF : Nat} (hWF : ∀ (M : Nat → Int32) (F : Nat → Nat → Int32) (Q : (Nat → Int32) → (Nat → Nat → Int32) → Prop), WF M F Q → r_MetV l g yX12_factor cX12_factor 3 rkF [.ref (r_h g)] M F Q) (M : Nat → Int32) (F : Nat → Nat → Int32) (Q : (Nat → Int32) → (Nat → Nat → Int32) → Prop) (hw : w_let WF  M F Q) : r_MetV l g yX12_let cX12_let 4 (rkF + 16) [.ref (r_h g)] M F Q := by
  refine r_MetV.of (by decide) rfl (Nat.le_of_ble_eq_true rfl) (fun x Z hret => ?_)
  show ac_G x (r_R g) 4 (r_P g M F) 0 0 0 [(0, .ref (r_h g))] []
  refine ac_aload_n Z.1 0 dX12_let_0 rfl ?_
  refine r_callv (As := []) (st := []) Z kX12_pass lkX12_240 (by omega) rfl (so_pass    _ _ _ hw) rfl rfl (Nat.le_of_ble_eq_true rfl) dX12_let_1 (fun M1 F1 hw => ?_)
  refine ac_aload_n Z.1 0 dX12_let_4 rfl ?_
  refine ac_iconst (v := 1) Z.1 dX12_let_5 (by decide) ?_
  refine r_calli (As := [.int 1]) (st := []) Z kX12_taken lkX12_274 (by omega) rfl (so_taken   _ _ _ _ hw) rfl rfl (Nat.le_of_ble_eq_true rfl) dX12_let_6 (fun r2 M3 F3 hw => ?_)
  refine ac_istore_n (lv' := [(1, .int r2), (0, .ref (r_h g))]) Z.1 dX12_let_9 (by decide) rfl ?_
  refine ac_aload_n Z.1 1 dX12_let_10 rfl ?_
  refine r_geti (v := (M3 47)) Z.1 Z.2.1 47 (by decide) rfl fX12_255 rfl rfl dX12_let_11 ?_
  refine ac_istore_n (lv' := [(2, .int (M3 47)), (1, .int r2), (0, .ref (r_h g))]) Z.1 dX12_let_14 (by decide) rfl ?_
  refine ac_aload_n Z.1 2 dX12_let_15 rfl ?_
  refine ac_bipush (v := 61) Z.1 dX12_let_16 (by decide) ?_
  refine r_callv (As := [.int 61]) (st := []) Z kX12_need lkX12_252 (by omega) rfl (so_need   _ _ _ _ hw) rfl rfl (Nat.le_of_ble_eq_true rfl) dX12_let_18 (fun M4 F4 hw => ?_)
  refine ac_aload_n Z.1 2 dX12_let_21 rfl ?_
  refine r_callv (As := []) (st := []) Z kX12_whole lkX12_315 (by omega) rfl (so_whole hWF   _ _ _ hw) rfl rfl (Nat.le_of_ble_eq_true rfl) dX12_let_22 (fun M5 F5 hw => ?_)
  refine ac_aload_n Z.1 2 dX12_let_25 rfl ?_
  refine ac_bipush (v := 59) Z.1 dX12_let_26 (by decide) ?_
  refine r_callv (As := [.int 59]) (st := []) Z kX12_need lkX12_252 (by omega) rfl (so_need   _ _ _ _ hw) rfl rfl (Nat.le_of_ble_eq_true rfl) dX12_let_28 (fun M6 F6 hw => ?_)
  refine ac_aload_n Z.1 2 dX12_let_31 rfl ?_
  refine ac_iload_n Z.1 1 dX12_let_32 rfl ?_
  refine ac_iload_n Z.1 0 dX12_let_33 rfl ?_
  refine r_callv (As := [.int r2, .int (M3 47)]) (st := []) Z kX12_tell lkX12_305 (by omega) rfl (so_tell   _ _ _ _ _ hw) rfl rfl (Nat.le_of_ble_eq_true rfl) dX12_let_34 (fun M7 F7 hw => ?_)
  refine ac_aload_n Z.1 2 dX12_let_37 rfl ?_
  refine r_calli (As := []) (st := []) Z kX12_bad lkX12_230 (by omega) rfl (so_bad    _ _ _ hw) rfl rfl (Nat.le_of_ble_eq_true rfl) dX12_let_38 (fun r8 M9 F9 hw => ?_)
  obtain ⟨hwt, hwf⟩ := hw
  refine ac_if_eq (tgt := 45) Z.1 dX12_let_41 (by decide) (fun hc => ?_) (fun hc => ?_)
  · have hw := hwt hc
    refine ac_aload_n Z.1 2 dX12_let_45 rfl ?_
    refine ac_iconst (v := 3) Z.1 dX12_let_46 (by decide) ?_
    refine ac_aload_n Z.1 2 dX12_let_47 rfl ?_
    refine r_geta Z.1 Z.2.1 10 (by decide) rfl fX12_22 rfl dX12_let_48 ?_
    refine ac_iload_n Z.1 1 dX12_let_51 rfl ?_
    obtain ⟨hb10, hw⟩ := hw
    refine r_ald (v := ((F9 10) (r2).toNatClampNeg)) Z.1 Z.2.1 4 10 2100 rfl rfl hb10 rfl dX12_let_52 ?_
    refine ac_iconst (v := 0) Z.1 dX12_let_53 (by decide) ?_
    refine ac_iconst (v := 0) Z.1 dX12_let_54 (by decide) ?_
    refine r_calli (As := [.int 3, .int ((F9 10) (r2).toNatClampNeg), .int 0, .int 0]) (st := []) Z kX12_put lkX12_301 (by omega) rfl (so_put   _ _ _ _ _ _ _ hw) rfl rfl (Nat.le_of_ble_eq_true rfl) dX12_let_55 (fun r11 M12 F12 hw => ?_)
    refine ac_istore_n (lv' := [(3, .int r11), (2, .int (M3 47)), (1, .int r2), (0, .ref (r_h g))]) Z.1 dX12_let_58 (by decide) rfl ?_
    exact hret _ _ _ _ dX12_let_59 hw
  · have hw := hwf hc
    exact hret _ _ _ _ dX12_let_44 hw
def w_made_105 (WF : (Nat → Int32) → (Nat → Nat → Int32) → ((Nat → Int32) → (Nat → Nat → Int32) → Prop) → Prop) (Q : (Nat → Int32) → (Nat → Nat → Int32) → Prop) (a1 : Int32) (a2 : Int32) (a3 : Int32) (a5 : Int32) (M : Nat → Int32) (F : Nat → Nat → Int32) : Prop := w_put 13 a1 a2 a5 M F (fun r9 M10 F10 => (vp_in r9 18000 ∧ (Q M10 (uf F10 17 r9 a3))))
set_option maxRecDepth 20000 in
theorem s_made_105 {x : ac_X} {g : r_S} {l : Launch} {WF : (Nat → Int32) → (Nat → Nat → Int32) → ((Nat → Int32) → (Nat → Nat → Int32) → Prop) → Prop} {rkF : Nat} {Q : (Nat → Int32) → (Nat → Nat → Int32) → Prop} (Z : r_Cx x g l cX12_made 6 (rkF + 16)) (hret : r_RV x g 6 cX12_made Q) (hWF : ∀ (M : Nat → Int32) (F : Nat → Nat → Int32) (Q : (Nat → Int32) → (Nat → Nat → Int32) → Prop), WF M F Q → r_MetV l g yX12_factor cX12_factor 3 rkF [.ref (r_h g)] M F Q) (a1 : Int32) (a2 : Int32) (a3 : Int32) (a5 : Int32) (M : Nat → Int32) (F : Nat → Nat → Int32) (hw : w_made_105 WF Q a1 a2 a3 a5 M F) : ac_G x (r_R g) 6 (r_P g M F) 0 0 105 [(0, .ref (r_h g)), (1, .int a1), (2, .int a2), (3, .int a3), (5, .int a5)] [] := by
  refine ac_aload_n Z.1 0 dX12_made_105 rfl ?_
  refine ac_bipush (v := 13) Z.1 dX12_made_106 (by decide) ?_
  refine ac_iload_n Z.1 1 dX12_made_108 rfl ?_
  refine ac_iload_n Z.1 2 dX12_made_109 rfl ?_
  refine ac_iload Z.1 4 dX12_made_110 rfl ?_
  refine r_calli (As := [.int 13, .int a1, .int a2, .int a5]) (st := []) Z kX12_put lkX12_301 (by omega) rfl (so_put   _ _ _ _ _ _ _ hw) rfl rfl (Nat.le_of_ble_eq_true rfl) dX12_made_112 (fun r9 M10 F10 hw => ?_)
  refine ac_istore (lv' := [(4, .int r9), (0, .ref (r_h g)), (1, .int a1), (2, .int a2), (3, .int a3), (5, .int a5)]) Z.1 dX12_made_115 (by decide) rfl ?_
  refine ac_aload_n Z.1 1 dX12_made_117 rfl ?_
  refine r_geta Z.1 Z.2.1 17 (by decide) rfl fX12_40 rfl dX12_made_118 ?_
  refine ac_iload Z.1 0 dX12_made_121 rfl ?_
  refine ac_iload_n Z.1 4 dX12_made_123 rfl ?_
  obtain ⟨hb11, hw⟩ := hw
  refine r_ast Z.1 Z.2.1 10 17 18000 rfl rfl hb11 dX12_made_124 ?_
  exact hret _ _ _ _ dX12_made_125 hw
def w_made_59 (WF : (Nat → Int32) → (Nat → Nat → Int32) → ((Nat → Int32) → (Nat → Nat → Int32) → Prop) → Prop) (Q : (Nat → Int32) → (Nat → Nat → Int32) → Prop) (a1 : Int32) (a2 : Int32) (a3 : Int32) (M : Nat → Int32) (F : Nat → Nat → Int32) : Prop := w_closes 41 M F (fun M6 F6 => (w_isWord 5 M6 F6 (fun r7 M8 F8 => ((r7 = 0 → (w_made_105 WF Q a1 a2 a3 (-1) M8 F8)) ∧ (¬ r7 = 0 → (w_pass M8 F8 (fun M12 F12 => (w_isWord 3 M12 F12 (fun r13 M14 F14 => ((r13 = 0 → (w_object M14 F14 (fun r15 M16 F16 => (w_made_105 WF Q a1 a2 a3 r15 M16 F16)))) ∧ (¬ r13 = 0 → (w_pass M14 F14 (fun M17 F17 => (w_made_105 WF Q a1 a2 a3 (-2) M17 F17))))))))))))))
set_option maxRecDepth 20000 in
theorem s_made_59 {x : ac_X} {g : r_S} {l : Launch} {WF : (Nat → Int32) → (Nat → Nat → Int32) → ((Nat → Int32) → (Nat → Nat → Int32) → Prop) → Prop} {rkF : Nat} {Q : (Nat → Int32) → (Nat → Nat → Int32) → Prop} (Z : r_Cx x g l cX12_made 6 (rkF + 16)) (hret : r_RV x g 6 cX12_made Q) (hWF : ∀ (M : Nat → Int32) (F : Nat → Nat → Int32) (Q : (Nat → Int32) → (Nat → Nat → Int32) → Prop), WF M F Q → r_MetV l g yX12_factor cX12_factor 3 rkF [.ref (r_h g)] M F Q) (a1 : Int32) (a2 : Int32) (a3 : Int32) (M : Nat → Int32) (F : Nat → Nat → Int32) (hw : w_made_59 WF Q a1 a2 a3 M F) : ac_G x (r_R g) 6 (r_P g M F) 0 0 59 [(0, .ref (r_h g)), (1, .int a1), (2, .int a2), (3, .int a3)] [] := by
  refine ac_aload_n Z.1 0 dX12_made_59 rfl ?_
  refine ac_bipush (v := 41) Z.1 dX12_made_60 (by decide) ?_
  refine r_callv (As := [.int 41]) (st := []) Z kX12_closes lkX12_292 (by omega) rfl (so_closes   _ _ _ _ hw) rfl rfl (Nat.le_of_ble_eq_true rfl) dX12_made_62 (fun M6 F6 hw => ?_)
  refine ac_iconst (v := (-1)) Z.1 dX12_made_65 (by decide) ?_
  refine ac_istore (lv' := [(5, .int (-1)), (0, .ref (r_h g)), (1, .int a1), (2, .int a2), (3, .int a3)]) Z.1 dX12_made_66 (by decide) rfl ?_
  refine ac_aload_n Z.1 1 dX12_made_68 rfl ?_
  refine ac_iconst (v := 5) Z.1 dX12_made_69 (by decide) ?_
  refine r_calli (As := [.int 5]) (st := []) Z kX12_isWord lkX12_246 (by omega) rfl (so_isWord   _ _ _ _ hw) rfl rfl (Nat.le_of_ble_eq_true rfl) dX12_made_70 (fun r7 M8 F8 hw => ?_)
  obtain ⟨hwt, hwf⟩ := hw
  refine ac_if_eq (tgt := 105) Z.1 dX12_made_73 (by decide) (fun hc => ?_) (fun hc => ?_)
  · have hw := hwt hc
    refine ac_lv [1, 2, 3, 4, 0] rfl ?_
    exact s_made_105 Z hret hWF _ _ _ _ _ _ hw
  · have hw := hwf hc
    refine ac_aload_n Z.1 1 dX12_made_76 rfl ?_
    refine r_callv (As := []) (st := []) Z kX12_pass lkX12_240 (by omega) rfl (so_pass    _ _ _ hw) rfl rfl (Nat.le_of_ble_eq_true rfl) dX12_made_77 (fun M12 F12 hw => ?_)
    refine ac_bipush (v := (-2)) Z.1 dX12_made_80 (by decide) ?_
    refine ac_istore (lv' := [(5, .int (-2)), (0, .ref (r_h g)), (1, .int a1), (2, .int a2), (3, .int a3)]) Z.1 dX12_made_82 (by decide) rfl ?_
    refine ac_aload_n Z.1 1 dX12_made_84 rfl ?_
    refine ac_iconst (v := 3) Z.1 dX12_made_85 (by decide) ?_
    refine r_calli (As := [.int 3]) (st := []) Z kX12_isWord lkX12_246 (by omega) rfl (so_isWord   _ _ _ _ hw) rfl rfl (Nat.le_of_ble_eq_true rfl) dX12_made_86 (fun r13 M14 F14 hw => ?_)
    obtain ⟨hwt, hwf⟩ := hw
    refine ac_if_eq (tgt := 99) Z.1 dX12_made_89 (by decide) (fun hc => ?_) (fun hc => ?_)
    · have hw := hwt hc
      refine ac_aload_n Z.1 1 dX12_made_99 rfl ?_
      refine r_calli (As := []) (st := []) Z kX12_object lkX12_324 (by omega) rfl (so_object    _ _ _ hw) rfl rfl (Nat.le_of_ble_eq_true rfl) dX12_made_100 (fun r15 M16 F16 hw => ?_)
      refine ac_istore (lv' := [(5, .int r15), (0, .ref (r_h g)), (1, .int a1), (2, .int a2), (3, .int a3)]) Z.1 dX12_made_103 (by decide) rfl ?_
      refine ac_lv [1, 2, 3, 4, 0] rfl ?_
      exact s_made_105 Z hret hWF _ _ _ _ _ _ hw
    · have hw := hwf hc
      refine ac_aload_n Z.1 1 dX12_made_92 rfl ?_
      refine r_callv (As := []) (st := []) Z kX12_pass lkX12_240 (by omega) rfl (so_pass    _ _ _ hw) rfl rfl (Nat.le_of_ble_eq_true rfl) dX12_made_93 (fun M17 F17 hw => ?_)
      refine ac_goto (tgt := 105) Z.1 dX12_made_96 (by decide) ?_
      refine ac_lv [1, 2, 3, 4, 0] rfl ?_
      exact s_made_105 Z hret hWF _ _ _ _ _ _ hw
def w_made_49 (WF : (Nat → Int32) → (Nat → Nat → Int32) → ((Nat → Int32) → (Nat → Nat → Int32) → Prop) → Prop) (Q : (Nat → Int32) → (Nat → Nat → Int32) → Prop) (a1 : Int32) (a2 : Int32) (a3 : Int32) (M : Nat → Int32) (F : Nat → Nat → Int32) : Prop := w_put 1 0 0 0 M F (fun r4 M5 F5 => (w_made_59 WF Q a1 a2 a3 M5 F5))
set_option maxRecDepth 20000 in
theorem s_made_49 {x : ac_X} {g : r_S} {l : Launch} {WF : (Nat → Int32) → (Nat → Nat → Int32) → ((Nat → Int32) → (Nat → Nat → Int32) → Prop) → Prop} {rkF : Nat} {Q : (Nat → Int32) → (Nat → Nat → Int32) → Prop} (Z : r_Cx x g l cX12_made 6 (rkF + 16)) (hret : r_RV x g 6 cX12_made Q) (hWF : ∀ (M : Nat → Int32) (F : Nat → Nat → Int32) (Q : (Nat → Int32) → (Nat → Nat → Int32) → Prop), WF M F Q → r_MetV l g yX12_factor cX12_factor 3 rkF [.ref (r_h g)] M F Q) (a1 : Int32) (a2 : Int32) (a3 : Int32) (M : Nat → Int32) (F : Nat → Nat → Int32) (hw : w_made_49 WF Q a1 a2 a3 M F) : ac_G x (r_R g) 6 (r_P g M F) 0 0 49 [(0, .ref (r_h g)), (1, .int a1), (2, .int a2), (3, .int a3)] [] := by
  refine ac_aload_n Z.1 0 dX12_made_49 rfl ?_
  refine ac_iconst (v := 1) Z.1 dX12_made_50 (by decide) ?_
  refine ac_iconst (v := 0) Z.1 dX12_made_51 (by decide) ?_
  refine ac_iconst (v := 0) Z.1 dX12_made_52 (by decide) ?_
  refine ac_iconst (v := 0) Z.1 dX12_made_53 (by decide) ?_
  refine r_calli (As := [.int 1, .int 0, .int 0, .int 0]) (st := []) Z kX12_put lkX12_301 (by omega) rfl (so_put   _ _ _ _ _ _ _ hw) rfl rfl (Nat.le_of_ble_eq_true rfl) dX12_made_54 (fun r4 M5 F5 hw => ?_)
  refine ac_istore (lv' := [(4, .int r4), (0, .ref (r_h g)), (1, .int a1), (2, .int a2), (3, .int a3)]) Z.1 dX12_made_57 (by decide) rfl ?_
  refine ac_lv [1, 2, 3, 4] rfl ?_
  exact s_made_59 Z hret hWF _ _ _ _ _ hw
def w_made (WF : (Nat → Int32) → (Nat → Nat → Int32) → ((Nat → Int32) → (Nat → Nat → Int32) → Prop) → Prop) (p1 : Int32) (M : Nat → Int32) (F : Nat → Nat → Int32) (Q : (Nat → Int32) → (Nat → Nat → Int32) → Prop) : Prop := w_pass M F (fun M1 F1 => (w_opens 40 M1 F1 (fun M2 F2 => (w_whole WF M2 F2 (fun M3 F3 => ((¬ (M 5) = 2 → (w_made_49 WF Q p1 (M 5) (M 6) M3 F3)) ∧ ((M 5) = 2 → (w_isSign 44 M3 F3 (fun r18 M19 F19 => ((r18 = 0 → (w_made_49 WF Q p1 (M 5) (M 6) M19 F19)) ∧ (¬ r18 = 0 → (w_pass M19 F19 (fun M20 F20 => (w_whole WF M20 F20 (fun M21 F21 => (w_made_59 WF Q p1 (M 5) (M 6) M21 F21))))))))))))))))
set_option maxRecDepth 20000 in
theorem so_made {l : Launch} {g : r_S} {WF : (Nat → Int32) → (Nat → Nat → Int32) → ((Nat → Int32) → (Nat → Nat → Int32) → Prop) → Prop} {rkF : Nat} (hWF : ∀ (M : Nat → Int32) (F : Nat → Nat → Int32) (Q : (Nat → Int32) → (Nat → Nat → Int32) → Prop), WF M F Q → r_MetV l g yX12_factor cX12_factor 3 rkF [.ref (r_h g)] M F Q) (p1 : Int32) (M : Nat → Int32) (F : Nat → Nat → Int32) (Q : (Nat → Int32) → (Nat → Nat → Int32) → Prop) (hw : w_made WF p1 M F Q) : r_MetV l g yX12_made cX12_made 6 (rkF + 16) [.ref (r_h g), .int p1] M F Q := by
  refine r_MetV.of (by decide) rfl (Nat.le_of_ble_eq_true rfl) (fun x Z hret => ?_)
  show ac_G x (r_R g) 6 (r_P g M F) 0 0 0 [(0, .ref (r_h g)), (1, .int p1)] []
  refine ac_aload_n Z.1 0 dX12_made_0 rfl ?_
  refine r_geti (v := (M 5)) Z.1 Z.2.1 5 (by decide) rfl fX12_207 rfl rfl dX12_made_1 ?_
  refine ac_istore_n (lv' := [(2, .int (M 5)), (0, .ref (r_h g)), (1, .int p1)]) Z.1 dX12_made_4 (by decide) rfl ?_
  refine ac_aload_n Z.1 1 dX12_made_5 rfl ?_
  refine r_geti (v := (M 6)) Z.1 Z.2.1 6 (by decide) rfl fX12_182 rfl rfl dX12_made_6 ?_
  refine ac_istore_n (lv' := [(3, .int (M 6)), (2, .int (M 5)), (0, .ref (r_h g)), (1, .int p1)]) Z.1 dX12_made_9 (by decide) rfl ?_
  refine ac_aload_n Z.1 2 dX12_made_10 rfl ?_
  refine r_callv (As := []) (st := []) Z kX12_pass lkX12_240 (by omega) rfl (so_pass    _ _ _ hw) rfl rfl (Nat.le_of_ble_eq_true rfl) dX12_made_11 (fun M1 F1 hw => ?_)
  refine ac_aload_n Z.1 2 dX12_made_14 rfl ?_
  refine ac_bipush (v := 40) Z.1 dX12_made_15 (by decide) ?_
  refine r_callv (As := [.int 40]) (st := []) Z kX12_opens lkX12_286 (by omega) rfl (so_opens   _ _ _ _ hw) rfl rfl (Nat.le_of_ble_eq_true rfl) dX12_made_17 (fun M2 F2 hw => ?_)
  refine ac_aload_n Z.1 2 dX12_made_20 rfl ?_
  refine r_callv (As := []) (st := []) Z kX12_whole lkX12_315 (by omega) rfl (so_whole hWF   _ _ _ hw) rfl rfl (Nat.le_of_ble_eq_true rfl) dX12_made_21 (fun M3 F3 hw => ?_)
  refine ac_iload_n Z.1 1 dX12_made_24 rfl ?_
  refine ac_iconst (v := 2) Z.1 dX12_made_25 (by decide) ?_
  obtain ⟨hwt, hwf⟩ := hw
  refine ac_icmp_ne (tgt := 49) Z.1 dX12_made_26 (by decide) (fun hc => ?_) (fun hc => ?_)
  · have hw := hwt hc
    refine ac_lv [2, 3, 1, 0] rfl ?_
    exact s_made_49 Z hret hWF _ _ _ _ _ hw
  · have hw := hwf hc
    refine ac_aload_n Z.1 2 dX12_made_29 rfl ?_
    refine ac_bipush (v := 44) Z.1 dX12_made_30 (by decide) ?_
    refine r_calli (As := [.int 44]) (st := []) Z kX12_isSign lkX12_237 (by omega) rfl (so_isSign   _ _ _ _ hw) rfl rfl (Nat.le_of_ble_eq_true rfl) dX12_made_32 (fun r18 M19 F19 hw => ?_)
    obtain ⟨hwt, hwf⟩ := hw
    refine ac_if_eq (tgt := 49) Z.1 dX12_made_35 (by decide) (fun hc => ?_) (fun hc => ?_)
    · have hw := hwt hc
      refine ac_lv [2, 3, 1, 0] rfl ?_
      exact s_made_49 Z hret hWF _ _ _ _ _ hw
    · have hw := hwf hc
      refine ac_aload_n Z.1 2 dX12_made_38 rfl ?_
      refine r_callv (As := []) (st := []) Z kX12_pass lkX12_240 (by omega) rfl (so_pass    _ _ _ hw) rfl rfl (Nat.le_of_ble_eq_true rfl) dX12_made_39 (fun M20 F20 hw => ?_)
      refine ac_aload_n Z.1 2 dX12_made_42 rfl ?_
      refine r_callv (As := []) (st := []) Z kX12_whole lkX12_315 (by omega) rfl (so_whole hWF   _ _ _ hw) rfl rfl (Nat.le_of_ble_eq_true rfl) dX12_made_43 (fun M21 F21 hw => ?_)
      refine ac_goto (tgt := 59) Z.1 dX12_made_46 (by decide) ?_
      refine ac_lv [2, 3, 1, 0] rfl ?_
      exact s_made_59 Z hret hWF _ _ _ _ _ hw
def w_hold_104 (WF : (Nat → Int32) → (Nat → Nat → Int32) → ((Nat → Int32) → (Nat → Nat → Int32) → Prop) → Prop) (Q : (Nat → Int32) → (Nat → Nat → Int32) → Prop) (M : Nat → Int32) (F : Nat → Nat → Int32) : Prop := w_need 59 M F (fun M15 F15 => (Q M15 F15))
set_option maxRecDepth 20000 in
theorem s_hold_104 {x : ac_X} {g : r_S} {l : Launch} {WF : (Nat → Int32) → (Nat → Nat → Int32) → ((Nat → Int32) → (Nat → Nat → Int32) → Prop) → Prop} {rkF : Nat} {Q : (Nat → Int32) → (Nat → Nat → Int32) → Prop} (Z : r_Cx x g l cX12_hold 3 (rkF + 17)) (hret : r_RV x g 3 cX12_hold Q) (hWF : ∀ (M : Nat → Int32) (F : Nat → Nat → Int32) (Q : (Nat → Int32) → (Nat → Nat → Int32) → Prop), WF M F Q → r_MetV l g yX12_factor cX12_factor 3 rkF [.ref (r_h g)] M F Q) (M : Nat → Int32) (F : Nat → Nat → Int32) (hw : w_hold_104 WF Q M F) : ac_G x (r_R g) 3 (r_P g M F) 0 0 104 [(0, .ref (r_h g))] [] := by
  refine ac_aload_n Z.1 0 dX12_hold_104 rfl ?_
  refine ac_bipush (v := 59) Z.1 dX12_hold_105 (by decide) ?_
  refine r_callv (As := [.int 59]) (st := []) Z kX12_need lkX12_252 (by omega) rfl (so_need   _ _ _ _ hw) rfl rfl (Nat.le_of_ble_eq_true rfl) dX12_hold_107 (fun M15 F15 hw => ?_)
  exact hret _ _ _ _ dX12_hold_110 hw
def w_hold_91 (WF : (Nat → Int32) → (Nat → Nat → Int32) → ((Nat → Int32) → (Nat → Nat → Int32) → Prop) → Prop) (Q : (Nat → Int32) → (Nat → Nat → Int32) → Prop) (a1 : Int32) (M : Nat → Int32) (F : Nat → Nat → Int32) : Prop := w_object M F (fun r11 M12 F12 => (w_put 10 a1 r11 0 M12 F12 (fun r13 M14 F14 => (w_hold_104 WF Q M14 F14))))
set_option maxRecDepth 20000 in
theorem s_hold_91 {x : ac_X} {g : r_S} {l : Launch} {WF : (Nat → Int32) → (Nat → Nat → Int32) → ((Nat → Int32) → (Nat → Nat → Int32) → Prop) → Prop} {rkF : Nat} {Q : (Nat → Int32) → (Nat → Nat → Int32) → Prop} (Z : r_Cx x g l cX12_hold 3 (rkF + 17)) (hret : r_RV x g 3 cX12_hold Q) (hWF : ∀ (M : Nat → Int32) (F : Nat → Nat → Int32) (Q : (Nat → Int32) → (Nat → Nat → Int32) → Prop), WF M F Q → r_MetV l g yX12_factor cX12_factor 3 rkF [.ref (r_h g)] M F Q) (a1 : Int32) (M : Nat → Int32) (F : Nat → Nat → Int32) (hw : w_hold_91 WF Q a1 M F) : ac_G x (r_R g) 3 (r_P g M F) 0 0 91 [(0, .ref (r_h g)), (1, .int a1)] [] := by
  refine ac_aload_n Z.1 0 dX12_hold_91 rfl ?_
  refine ac_bipush (v := 10) Z.1 dX12_hold_92 (by decide) ?_
  refine ac_iload_n Z.1 1 dX12_hold_94 rfl ?_
  refine ac_aload_n Z.1 0 dX12_hold_95 rfl ?_
  refine r_calli (As := []) (st := [.int a1, .int 10, .ref (r_h g)]) Z kX12_object lkX12_324 (by omega) rfl (so_object    _ _ _ hw) rfl rfl (Nat.le_of_ble_eq_true rfl) dX12_hold_96 (fun r11 M12 F12 hw => ?_)
  refine ac_iconst (v := 0) Z.1 dX12_hold_99 (by decide) ?_
  refine r_calli (As := [.int 10, .int a1, .int r11, .int 0]) (st := []) Z kX12_put lkX12_301 (by omega) rfl (so_put   _ _ _ _ _ _ _ hw) rfl rfl (Nat.le_of_ble_eq_true rfl) dX12_hold_100 (fun r13 M14 F14 hw => ?_)
  refine ac_istore_n (lv' := [(2, .int r13), (0, .ref (r_h g)), (1, .int a1)]) Z.1 dX12_hold_103 (by decide) rfl ?_
  refine ac_lv [1] rfl ?_
  exact s_hold_104 Z hret hWF _ _ hw
def w_hold (WF : (Nat → Int32) → (Nat → Nat → Int32) → ((Nat → Int32) → (Nat → Nat → Int32) → Prop) → Prop) (M : Nat → Int32) (F : Nat → Nat → Int32) (Q : (Nat → Int32) → (Nat → Nat → Int32) → Prop) : Prop := w_pass M F (fun M1 F1 => (w_object M1 F1 (fun r2 M3 F3 => (w_need 61 M3 F3 (fun M4 F4 => (w_isWord 3 M4 F4 (fun r5 M6 F6 => ((r5 = 0 → (w_isWord 4 M6 F6 (fun r7 M8 F8 => ((r7 = 0 → (w_bad M8 F8 (fun r9 M10 F10 => ((¬ r9 = 0 → (w_hold_91 WF Q r2 M10 F10)) ∧ (r9 = 0 → ((¬ (M10 4) = 5 → (w_hold_91 WF Q r2 M10 F10)) ∧ ((M10 4) = 5 → (w_made WF r2 M10 F10 (fun M16 F16 => (w_hold_104 WF Q M16 F16)))))))))) ∧ (¬ r7 = 0 → (w_pass M8 F8 (fun M17 F17 => (w_object M17 F17 (fun r18 M19 F19 => (w_put 12 r2 r18 0 M19 F19 (fun r20 M21 F21 => (w_hold_104 WF Q M21 F21)))))))))))) ∧ (¬ r5 = 0 → (w_pass M6 F6 (fun M22 F22 => (w_put 11 r2 0 0 M22 F22 (fun r23 M24 F24 => (w_hold_104 WF Q M24 F24))))))))))))))
set_option maxRecDepth 20000 in
theorem so_hold {l : Launch} {g : r_S} {WF : (Nat → Int32) → (Nat → Nat → Int32) → ((Nat → Int32) → (Nat → Nat → Int32) → Prop) → Prop} {rkF : Nat} (hWF : ∀ (M : Nat → Int32) (F : Nat → Nat → Int32) (Q : (Nat → Int32) → (Nat → Nat → Int32) → Prop), WF M F Q → r_MetV l g yX12_factor cX12_factor 3 rkF [.ref (r_h g)] M F Q) (M : Nat → Int32) (F : Nat → Nat → Int32) (Q : (Nat → Int32) → (Nat → Nat → Int32) → Prop) (hw : w_hold WF  M F Q) : r_MetV l g yX12_hold cX12_hold 3 (rkF + 17) [.ref (r_h g)] M F Q := by
  refine r_MetV.of (by decide) rfl (Nat.le_of_ble_eq_true rfl) (fun x Z hret => ?_)
  show ac_G x (r_R g) 3 (r_P g M F) 0 0 0 [(0, .ref (r_h g))] []
  refine ac_aload_n Z.1 0 dX12_hold_0 rfl ?_
  refine r_callv (As := []) (st := []) Z kX12_pass lkX12_240 (by omega) rfl (so_pass    _ _ _ hw) rfl rfl (Nat.le_of_ble_eq_true rfl) dX12_hold_1 (fun M1 F1 hw => ?_)
  refine ac_aload_n Z.1 0 dX12_hold_4 rfl ?_
  refine r_calli (As := []) (st := []) Z kX12_object lkX12_324 (by omega) rfl (so_object    _ _ _ hw) rfl rfl (Nat.le_of_ble_eq_true rfl) dX12_hold_5 (fun r2 M3 F3 hw => ?_)
  refine ac_istore_n (lv' := [(1, .int r2), (0, .ref (r_h g))]) Z.1 dX12_hold_8 (by decide) rfl ?_
  refine ac_aload_n Z.1 1 dX12_hold_9 rfl ?_
  refine ac_bipush (v := 61) Z.1 dX12_hold_10 (by decide) ?_
  refine r_callv (As := [.int 61]) (st := []) Z kX12_need lkX12_252 (by omega) rfl (so_need   _ _ _ _ hw) rfl rfl (Nat.le_of_ble_eq_true rfl) dX12_hold_12 (fun M4 F4 hw => ?_)
  refine ac_aload_n Z.1 1 dX12_hold_15 rfl ?_
  refine ac_iconst (v := 3) Z.1 dX12_hold_16 (by decide) ?_
  refine r_calli (As := [.int 3]) (st := []) Z kX12_isWord lkX12_246 (by omega) rfl (so_isWord   _ _ _ _ hw) rfl rfl (Nat.le_of_ble_eq_true rfl) dX12_hold_17 (fun r5 M6 F6 hw => ?_)
  obtain ⟨hwt, hwf⟩ := hw
  refine ac_if_eq (tgt := 40) Z.1 dX12_hold_20 (by decide) (fun hc => ?_) (fun hc => ?_)
  · have hw := hwt hc
    refine ac_aload_n Z.1 1 dX12_hold_40 rfl ?_
    refine ac_iconst (v := 4) Z.1 dX12_hold_41 (by decide) ?_
    refine r_calli (As := [.int 4]) (st := []) Z kX12_isWord lkX12_246 (by omega) rfl (so_isWord   _ _ _ _ hw) rfl rfl (Nat.le_of_ble_eq_true rfl) dX12_hold_42 (fun r7 M8 F8 hw => ?_)
    obtain ⟨hwt, hwf⟩ := hw
    refine ac_if_eq (tgt := 68) Z.1 dX12_hold_45 (by decide) (fun hc => ?_) (fun hc => ?_)
    · have hw := hwt hc
      refine ac_aload_n Z.1 1 dX12_hold_68 rfl ?_
      refine r_calli (As := []) (st := []) Z kX12_bad lkX12_230 (by omega) rfl (so_bad    _ _ _ hw) rfl rfl (Nat.le_of_ble_eq_true rfl) dX12_hold_69 (fun r9 M10 F10 hw => ?_)
      obtain ⟨hwt, hwf⟩ := hw
      refine ac_if_ne (tgt := 91) Z.1 dX12_hold_72 (by decide) (fun hc => ?_) (fun hc => ?_)
      · have hw := hwt hc
        refine ac_lv [1, 0] rfl ?_
        exact s_hold_91 Z hret hWF _ _ _ hw
      · have hw := hwf hc
        refine ac_aload_n Z.1 1 dX12_hold_75 rfl ?_
        refine r_geti (v := (M10 4)) Z.1 Z.2.1 4 (by decide) rfl fX12_198 rfl rfl dX12_hold_76 ?_
        refine ac_iconst (v := 5) Z.1 dX12_hold_79 (by decide) ?_
        obtain ⟨hwt, hwf⟩ := hw
        refine ac_icmp_ne (tgt := 91) Z.1 dX12_hold_80 (by decide) (fun hc => ?_) (fun hc => ?_)
        · have hw := hwt hc
          refine ac_lv [1, 0] rfl ?_
          exact s_hold_91 Z hret hWF _ _ _ hw
        · have hw := hwf hc
          refine ac_aload_n Z.1 1 dX12_hold_83 rfl ?_
          refine ac_iload_n Z.1 0 dX12_hold_84 rfl ?_
          refine r_callv (As := [.int r2]) (st := []) Z kX12_made lkX12_345 (by omega) rfl (so_made hWF  _ _ _ _ hw) rfl rfl (Nat.le_of_ble_eq_true rfl) dX12_hold_85 (fun M16 F16 hw => ?_)
          refine ac_goto (tgt := 104) Z.1 dX12_hold_88 (by decide) ?_
          refine ac_lv [1] rfl ?_
          exact s_hold_104 Z hret hWF _ _ hw
    · have hw := hwf hc
      refine ac_aload_n Z.1 1 dX12_hold_48 rfl ?_
      refine r_callv (As := []) (st := []) Z kX12_pass lkX12_240 (by omega) rfl (so_pass    _ _ _ hw) rfl rfl (Nat.le_of_ble_eq_true rfl) dX12_hold_49 (fun M17 F17 hw => ?_)
      refine ac_aload_n Z.1 1 dX12_hold_52 rfl ?_
      refine ac_bipush (v := 12) Z.1 dX12_hold_53 (by decide) ?_
      refine ac_iload_n Z.1 0 dX12_hold_55 rfl ?_
      refine ac_aload_n Z.1 1 dX12_hold_56 rfl ?_
      refine r_calli (As := []) (st := [.int r2, .int 12, .ref (r_h g)]) Z kX12_object lkX12_324 (by omega) rfl (so_object    _ _ _ hw) rfl rfl (Nat.le_of_ble_eq_true rfl) dX12_hold_57 (fun r18 M19 F19 hw => ?_)
      refine ac_iconst (v := 0) Z.1 dX12_hold_60 (by decide) ?_
      refine r_calli (As := [.int 12, .int r2, .int r18, .int 0]) (st := []) Z kX12_put lkX12_301 (by omega) rfl (so_put   _ _ _ _ _ _ _ hw) rfl rfl (Nat.le_of_ble_eq_true rfl) dX12_hold_61 (fun r20 M21 F21 hw => ?_)
      refine ac_istore_n (lv' := [(2, .int r20), (1, .int r2), (0, .ref (r_h g))]) Z.1 dX12_hold_64 (by decide) rfl ?_
      refine ac_goto (tgt := 104) Z.1 dX12_hold_65 (by decide) ?_
      refine ac_lv [2] rfl ?_
      exact s_hold_104 Z hret hWF _ _ hw
  · have hw := hwf hc
    refine ac_aload_n Z.1 1 dX12_hold_23 rfl ?_
    refine r_callv (As := []) (st := []) Z kX12_pass lkX12_240 (by omega) rfl (so_pass    _ _ _ hw) rfl rfl (Nat.le_of_ble_eq_true rfl) dX12_hold_24 (fun M22 F22 hw => ?_)
    refine ac_aload_n Z.1 1 dX12_hold_27 rfl ?_
    refine ac_bipush (v := 11) Z.1 dX12_hold_28 (by decide) ?_
    refine ac_iload_n Z.1 0 dX12_hold_30 rfl ?_
    refine ac_iconst (v := 0) Z.1 dX12_hold_31 (by decide) ?_
    refine ac_iconst (v := 0) Z.1 dX12_hold_32 (by decide) ?_
    refine r_calli (As := [.int 11, .int r2, .int 0, .int 0]) (st := []) Z kX12_put lkX12_301 (by omega) rfl (so_put   _ _ _ _ _ _ _ hw) rfl rfl (Nat.le_of_ble_eq_true rfl) dX12_hold_33 (fun r23 M24 F24 hw => ?_)
    refine ac_istore_n (lv' := [(2, .int r23), (1, .int r2), (0, .ref (r_h g))]) Z.1 dX12_hold_36 (by decide) rfl ?_
    refine ac_goto (tgt := 104) Z.1 dX12_hold_37 (by decide) ?_
    refine ac_lv [2] rfl ?_
    exact s_hold_104 Z hret hWF _ _ hw
def w_join_37 (Q : (Nat → Int32) → (Nat → Nat → Int32) → Prop) (a1 : Int32) (a2 : Int32) (M : Nat → Int32) (F : Nat → Nat → Int32) : Prop := w_need 59 M F (fun M9 F9 => (w_put 15 a1 a2 0 M9 F9 (fun r10 M11 F11 => (Q M11 F11))))
set_option maxRecDepth 20000 in
theorem s_join_37 {x : ac_X} {g : r_S} {l : Launch} {Q : (Nat → Int32) → (Nat → Nat → Int32) → Prop} (Z : r_Cx x g l cX12_join 4 (12)) (hret : r_RV x g 4 cX12_join Q) (a1 : Int32) (a2 : Int32) (M : Nat → Int32) (F : Nat → Nat → Int32) (hw : w_join_37 Q a1 a2 M F) : ac_G x (r_R g) 4 (r_P g M F) 0 0 37 [(0, .ref (r_h g)), (1, .int a1), (2, .int a2)] [] := by
  refine ac_aload_n Z.1 0 dX12_join_37 rfl ?_
  refine ac_bipush (v := 59) Z.1 dX12_join_38 (by decide) ?_
  refine r_callv (As := [.int 59]) (st := []) Z kX12_need lkX12_252 (by omega) rfl (so_need   _ _ _ _ hw) rfl rfl (Nat.le_of_ble_eq_true rfl) dX12_join_40 (fun M9 F9 hw => ?_)
  refine ac_aload_n Z.1 0 dX12_join_43 rfl ?_
  refine ac_bipush (v := 15) Z.1 dX12_join_44 (by decide) ?_
  refine ac_iload_n Z.1 1 dX12_join_46 rfl ?_
  refine ac_iload_n Z.1 2 dX12_join_47 rfl ?_
  refine ac_iconst (v := 0) Z.1 dX12_join_48 (by decide) ?_
  refine r_calli (As := [.int 15, .int a1, .int a2, .int 0]) (st := []) Z kX12_put lkX12_301 (by omega) rfl (so_put   _ _ _ _ _ _ _ hw) rfl rfl (Nat.le_of_ble_eq_true rfl) dX12_join_49 (fun r10 M11 F11 hw => ?_)
  refine ac_istore_n (lv' := [(3, .int r10), (0, .ref (r_h g)), (1, .int a1), (2, .int a2)]) Z.1 dX12_join_52 (by decide) rfl ?_
  exact hret _ _ _ _ dX12_join_53 hw
def w_join (M : Nat → Int32) (F : Nat → Nat → Int32) (Q : (Nat → Int32) → (Nat → Nat → Int32) → Prop) : Prop := w_pass M F (fun M1 F1 => (w_object M1 F1 (fun r2 M3 F3 => (w_needWord 8 M3 F3 (fun M4 F4 => (w_isWord 3 M4 F4 (fun r5 M6 F6 => ((r5 = 0 → (w_object M6 F6 (fun r7 M8 F8 => (w_join_37 Q r2 r7 M8 F8)))) ∧ (¬ r5 = 0 → (w_pass M6 F6 (fun M12 F12 => (w_join_37 Q r2 (-1) M12 F12))))))))))))
set_option maxRecDepth 20000 in
theorem so_join {l : Launch} {g : r_S} (M : Nat → Int32) (F : Nat → Nat → Int32) (Q : (Nat → Int32) → (Nat → Nat → Int32) → Prop) (hw : w_join  M F Q) : r_MetV l g yX12_join cX12_join 4 (12) [.ref (r_h g)] M F Q := by
  refine r_MetV.of (by decide) rfl (Nat.le_of_ble_eq_true rfl) (fun x Z hret => ?_)
  show ac_G x (r_R g) 4 (r_P g M F) 0 0 0 [(0, .ref (r_h g))] []
  refine ac_aload_n Z.1 0 dX12_join_0 rfl ?_
  refine r_callv (As := []) (st := []) Z kX12_pass lkX12_240 (by omega) rfl (so_pass    _ _ _ hw) rfl rfl (Nat.le_of_ble_eq_true rfl) dX12_join_1 (fun M1 F1 hw => ?_)
  refine ac_aload_n Z.1 0 dX12_join_4 rfl ?_
  refine r_calli (As := []) (st := []) Z kX12_object lkX12_324 (by omega) rfl (so_object    _ _ _ hw) rfl rfl (Nat.le_of_ble_eq_true rfl) dX12_join_5 (fun r2 M3 F3 hw => ?_)
  refine ac_istore_n (lv' := [(1, .int r2), (0, .ref (r_h g))]) Z.1 dX12_join_8 (by decide) rfl ?_
  refine ac_aload_n Z.1 1 dX12_join_9 rfl ?_
  refine ac_bipush (v := 8) Z.1 dX12_join_10 (by decide) ?_
  refine r_callv (As := [.int 8]) (st := []) Z kX12_needWord lkX12_280 (by omega) rfl (so_needWord   _ _ _ _ hw) rfl rfl (Nat.le_of_ble_eq_true rfl) dX12_join_12 (fun M4 F4 hw => ?_)
  refine ac_iconst (v := (-1)) Z.1 dX12_join_15 (by decide) ?_
  refine ac_istore_n (lv' := [(2, .int (-1)), (1, .int r2), (0, .ref (r_h g))]) Z.1 dX12_join_16 (by decide) rfl ?_
  refine ac_aload_n Z.1 2 dX12_join_17 rfl ?_
  refine ac_iconst (v := 3) Z.1 dX12_join_18 (by decide) ?_
  refine r_calli (As := [.int 3]) (st := []) Z kX12_isWord lkX12_246 (by omega) rfl (so_isWord   _ _ _ _ hw) rfl rfl (Nat.le_of_ble_eq_true rfl) dX12_join_19 (fun r5 M6 F6 hw => ?_)
  obtain ⟨hwt, hwf⟩ := hw
  refine ac_if_eq (tgt := 32) Z.1 dX12_join_22 (by decide) (fun hc => ?_) (fun hc => ?_)
  · have hw := hwt hc
    refine ac_aload_n Z.1 2 dX12_join_32 rfl ?_
    refine r_calli (As := []) (st := []) Z kX12_object lkX12_324 (by omega) rfl (so_object    _ _ _ hw) rfl rfl (Nat.le_of_ble_eq_true rfl) dX12_join_33 (fun r7 M8 F8 hw => ?_)
    refine ac_istore_n (lv' := [(2, .int r7), (1, .int r2), (0, .ref (r_h g))]) Z.1 dX12_join_36 (by decide) rfl ?_
    refine ac_lv [2, 1, 0] rfl ?_
    exact s_join_37 Z hret _ _ _ _ hw
  · have hw := hwf hc
    refine ac_aload_n Z.1 2 dX12_join_25 rfl ?_
    refine r_callv (As := []) (st := []) Z kX12_pass lkX12_240 (by omega) rfl (so_pass    _ _ _ hw) rfl rfl (Nat.le_of_ble_eq_true rfl) dX12_join_26 (fun M12 F12 hw => ?_)
    refine ac_goto (tgt := 37) Z.1 dX12_join_29 (by decide) ?_
    refine ac_lv [2, 1, 0] rfl ?_
    exact s_join_37 Z hret _ _ _ _ hw
def w_asked (p1 : Int32) (M : Nat → Int32) (F : Nat → Nat → Int32) (Q : (Nat → Int32) → (Nat → Nat → Int32) → Prop) : Prop := w_isWord 24 M F (fun r1 M2 F2 => ((r1 = 0 → (w_needWord 25 M2 F2 (fun M3 F3 => (w_object M3 F3 (fun r4 M5 F5 => (w_put 9 p1 r4 0 M5 F5 (fun r6 M7 F7 => (Q M7 F7)))))))) ∧ (¬ r1 = 0 → (w_pass M2 F2 (fun M8 F8 => (w_taken 5 M8 F8 (fun r9 M10 F10 => (w_put 8 p1 r9 0 M10 F10 (fun r11 M12 F12 => (Q M12 F12))))))))))
set_option maxRecDepth 20000 in
theorem so_asked {l : Launch} {g : r_S} (p1 : Int32) (M : Nat → Int32) (F : Nat → Nat → Int32) (Q : (Nat → Int32) → (Nat → Nat → Int32) → Prop) (hw : w_asked p1 M F Q) : r_MetV l g yX12_asked cX12_asked 3 (12) [.ref (r_h g), .int p1] M F Q := by
  refine r_MetV.of (by decide) rfl (Nat.le_of_ble_eq_true rfl) (fun x Z hret => ?_)
  show ac_G x (r_R g) 3 (r_P g M F) 0 0 0 [(0, .ref (r_h g)), (1, .int p1)] []
  refine ac_aload_n Z.1 0 dX12_asked_0 rfl ?_
  refine ac_bipush (v := 24) Z.1 dX12_asked_1 (by decide) ?_
  refine r_calli (As := [.int 24]) (st := []) Z kX12_isWord lkX12_246 (by omega) rfl (so_isWord   _ _ _ _ hw) rfl rfl (Nat.le_of_ble_eq_true rfl) dX12_asked_3 (fun r1 M2 F2 hw => ?_)
  obtain ⟨hwt, hwf⟩ := hw
  refine ac_if_eq (tgt := 30) Z.1 dX12_asked_6 (by decide) (fun hc => ?_) (fun hc => ?_)
  · have hw := hwt hc
    refine ac_aload_n Z.1 0 dX12_asked_30 rfl ?_
    refine ac_bipush (v := 25) Z.1 dX12_asked_31 (by decide) ?_
    refine r_callv (As := [.int 25]) (st := []) Z kX12_needWord lkX12_280 (by omega) rfl (so_needWord   _ _ _ _ hw) rfl rfl (Nat.le_of_ble_eq_true rfl) dX12_asked_33 (fun M3 F3 hw => ?_)
    refine ac_aload_n Z.1 0 dX12_asked_36 rfl ?_
    refine ac_bipush (v := 9) Z.1 dX12_asked_37 (by decide) ?_
    refine ac_iload_n Z.1 1 dX12_asked_39 rfl ?_
    refine ac_aload_n Z.1 0 dX12_asked_40 rfl ?_
    refine r_calli (As := []) (st := [.int p1, .int 9, .ref (r_h g)]) Z kX12_object lkX12_324 (by omega) rfl (so_object    _ _ _ hw) rfl rfl (Nat.le_of_ble_eq_true rfl) dX12_asked_41 (fun r4 M5 F5 hw => ?_)
    refine ac_iconst (v := 0) Z.1 dX12_asked_44 (by decide) ?_
    refine r_calli (As := [.int 9, .int p1, .int r4, .int 0]) (st := []) Z kX12_put lkX12_301 (by omega) rfl (so_put   _ _ _ _ _ _ _ hw) rfl rfl (Nat.le_of_ble_eq_true rfl) dX12_asked_45 (fun r6 M7 F7 hw => ?_)
    refine ac_istore_n (lv' := [(2, .int r6), (0, .ref (r_h g)), (1, .int p1)]) Z.1 dX12_asked_48 (by decide) rfl ?_
    exact hret _ _ _ _ dX12_asked_49 hw
  · have hw := hwf hc
    refine ac_aload_n Z.1 0 dX12_asked_9 rfl ?_
    refine r_callv (As := []) (st := []) Z kX12_pass lkX12_240 (by omega) rfl (so_pass    _ _ _ hw) rfl rfl (Nat.le_of_ble_eq_true rfl) dX12_asked_10 (fun M8 F8 hw => ?_)
    refine ac_aload_n Z.1 0 dX12_asked_13 rfl ?_
    refine ac_bipush (v := 8) Z.1 dX12_asked_14 (by decide) ?_
    refine ac_iload_n Z.1 1 dX12_asked_16 rfl ?_
    refine ac_aload_n Z.1 0 dX12_asked_17 rfl ?_
    refine ac_iconst (v := 5) Z.1 dX12_asked_18 (by decide) ?_
    refine r_calli (As := [.int 5]) (st := [.int p1, .int 8, .ref (r_h g)]) Z kX12_taken lkX12_274 (by omega) rfl (so_taken   _ _ _ _ hw) rfl rfl (Nat.le_of_ble_eq_true rfl) dX12_asked_19 (fun r9 M10 F10 hw => ?_)
    refine ac_iconst (v := 0) Z.1 dX12_asked_22 (by decide) ?_
    refine r_calli (As := [.int 8, .int p1, .int r9, .int 0]) (st := []) Z kX12_put lkX12_301 (by omega) rfl (so_put   _ _ _ _ _ _ _ hw) rfl rfl (Nat.le_of_ble_eq_true rfl) dX12_asked_23 (fun r11 M12 F12 hw => ?_)
    refine ac_istore_n (lv' := [(2, .int r11), (0, .ref (r_h g)), (1, .int p1)]) Z.1 dX12_asked_26 (by decide) rfl ?_
    refine ac_goto (tgt := 49) Z.1 dX12_asked_27 (by decide) ?_
    exact hret _ _ _ _ dX12_asked_49 hw
def w_wholeBehind (WF : (Nat → Int32) → (Nat → Nat → Int32) → ((Nat → Int32) → (Nat → Nat → Int32) → Prop) → Prop) (M : Nat → Int32) (F : Nat → Nat → Int32) (Q : (Nat → Int32) → (Nat → Nat → Int32) → Prop) : Prop := w_productBehind WF M F (fun M1 F1 => (w_sumBehind WF M1 F1 (fun M2 F2 => (w_compared WF M2 F2 (fun M3 F3 => (Q M3 F3))))))
set_option maxRecDepth 20000 in
theorem so_wholeBehind {l : Launch} {g : r_S} {WF : (Nat → Int32) → (Nat → Nat → Int32) → ((Nat → Int32) → (Nat → Nat → Int32) → Prop) → Prop} {rkF : Nat} (hWF : ∀ (M : Nat → Int32) (F : Nat → Nat → Int32) (Q : (Nat → Int32) → (Nat → Nat → Int32) → Prop), WF M F Q → r_MetV l g yX12_factor cX12_factor 3 rkF [.ref (r_h g)] M F Q) (M : Nat → Int32) (F : Nat → Nat → Int32) (Q : (Nat → Int32) → (Nat → Nat → Int32) → Prop) (hw : w_wholeBehind WF  M F Q) : r_MetV l g yX12_wholeBehind cX12_wholeBehind 1 (rkF + 15) [.ref (r_h g)] M F Q := by
  refine r_MetV.of (by decide) rfl (Nat.le_of_ble_eq_true rfl) (fun x Z hret => ?_)
  show ac_G x (r_R g) 1 (r_P g M F) 0 0 0 [(0, .ref (r_h g))] []
  refine ac_aload_n Z.1 0 dX12_wholeBehind_0 rfl ?_
  refine r_callv (As := []) (st := []) Z kX12_productBehind lkX12_368 (by omega) rfl (so_productBehind hWF   _ _ _ hw) rfl rfl (Nat.le_of_ble_eq_true rfl) dX12_wholeBehind_1 (fun M1 F1 hw => ?_)
  refine ac_aload_n Z.1 0 dX12_wholeBehind_4 rfl ?_
  refine r_callv (As := []) (st := []) Z kX12_sumBehind lkX12_371 (by omega) rfl (so_sumBehind hWF   _ _ _ hw) rfl rfl (Nat.le_of_ble_eq_true rfl) dX12_wholeBehind_5 (fun M2 F2 hw => ?_)
  refine ac_aload_n Z.1 0 dX12_wholeBehind_8 rfl ?_
  refine r_callv (As := []) (st := []) Z kX12_compared lkX12_365 (by omega) rfl (so_compared hWF   _ _ _ hw) rfl rfl (Nat.le_of_ble_eq_true rfl) dX12_wholeBehind_9 (fun M3 F3 hw => ?_)
  exact hret _ _ _ _ dX12_wholeBehind_12 hw
def w_note_91 (WF : (Nat → Int32) → (Nat → Nat → Int32) → ((Nat → Int32) → (Nat → Nat → Int32) → Prop) → Prop) (Q : (Nat → Int32) → (Nat → Nat → Int32) → Prop) (M : Nat → Int32) (F : Nat → Nat → Int32) : Prop := w_need 59 M F (fun M7 F7 => (Q M7 F7))
set_option maxRecDepth 20000 in
theorem s_note_91 {x : ac_X} {g : r_S} {l : Launch} {WF : (Nat → Int32) → (Nat → Nat → Int32) → ((Nat → Int32) → (Nat → Nat → Int32) → Prop) → Prop} {rkF : Nat} {Q : (Nat → Int32) → (Nat → Nat → Int32) → Prop} (Z : r_Cx x g l cX12_note 3 (rkF + 16)) (hret : r_RV x g 3 cX12_note Q) (hWF : ∀ (M : Nat → Int32) (F : Nat → Nat → Int32) (Q : (Nat → Int32) → (Nat → Nat → Int32) → Prop), WF M F Q → r_MetV l g yX12_factor cX12_factor 3 rkF [.ref (r_h g)] M F Q) (M : Nat → Int32) (F : Nat → Nat → Int32) (hw : w_note_91 WF Q M F) : ac_G x (r_R g) 3 (r_P g M F) 0 0 91 [(0, .ref (r_h g))] [] := by
  refine ac_aload_n Z.1 0 dX12_note_91 rfl ?_
  refine ac_bipush (v := 59) Z.1 dX12_note_92 (by decide) ?_
  refine r_callv (As := [.int 59]) (st := []) Z kX12_need lkX12_252 (by omega) rfl (so_need   _ _ _ _ hw) rfl rfl (Nat.le_of_ble_eq_true rfl) dX12_note_94 (fun M7 F7 hw => ?_)
  exact hret _ _ _ _ dX12_note_97 hw
def w_note_77 (WF : (Nat → Int32) → (Nat → Nat → Int32) → ((Nat → Int32) → (Nat → Nat → Int32) → Prop) → Prop) (Q : (Nat → Int32) → (Nat → Nat → Int32) → Prop) (M : Nat → Int32) (F : Nat → Nat → Int32) : Prop := w_whole WF M F (fun M4 F4 => (w_put 16 0 0 0 M4 F4 (fun r5 M6 F6 => (w_note_91 WF Q M6 F6))))
set_option maxRecDepth 20000 in
theorem s_note_77 {x : ac_X} {g : r_S} {l : Launch} {WF : (Nat → Int32) → (Nat → Nat → Int32) → ((Nat → Int32) → (Nat → Nat → Int32) → Prop) → Prop} {rkF : Nat} {Q : (Nat → Int32) → (Nat → Nat → Int32) → Prop} (Z : r_Cx x g l cX12_note 3 (rkF + 16)) (hret : r_RV x g 3 cX12_note Q) (hWF : ∀ (M : Nat → Int32) (F : Nat → Nat → Int32) (Q : (Nat → Int32) → (Nat → Nat → Int32) → Prop), WF M F Q → r_MetV l g yX12_factor cX12_factor 3 rkF [.ref (r_h g)] M F Q) (M : Nat → Int32) (F : Nat → Nat → Int32) (hw : w_note_77 WF Q M F) : ac_G x (r_R g) 3 (r_P g M F) 0 0 77 [(0, .ref (r_h g))] [] := by
  refine ac_aload_n Z.1 0 dX12_note_77 rfl ?_
  refine r_callv (As := []) (st := []) Z kX12_whole lkX12_315 (by omega) rfl (so_whole hWF   _ _ _ hw) rfl rfl (Nat.le_of_ble_eq_true rfl) dX12_note_78 (fun M4 F4 hw => ?_)
  refine ac_aload_n Z.1 0 dX12_note_81 rfl ?_
  refine ac_bipush (v := 16) Z.1 dX12_note_82 (by decide) ?_
  refine ac_iconst (v := 0) Z.1 dX12_note_84 (by decide) ?_
  refine ac_iconst (v := 0) Z.1 dX12_note_85 (by decide) ?_
  refine ac_iconst (v := 0) Z.1 dX12_note_86 (by decide) ?_
  refine r_calli (As := [.int 16, .int 0, .int 0, .int 0]) (st := []) Z kX12_put lkX12_301 (by omega) rfl (so_put   _ _ _ _ _ _ _ hw) rfl rfl (Nat.le_of_ble_eq_true rfl) dX12_note_87 (fun r5 M6 F6 hw => ?_)
  refine ac_istore_n (lv' := [(1, .int r5), (0, .ref (r_h g))]) Z.1 dX12_note_90 (by decide) rfl ?_
  refine ac_lv [1] rfl ?_
  exact s_note_91 Z hret hWF _ _ hw
def w_note_74 (WF : (Nat → Int32) → (Nat → Nat → Int32) → ((Nat → Int32) → (Nat → Nat → Int32) → Prop) → Prop) (Q : (Nat → Int32) → (Nat → Nat → Int32) → Prop) (M : Nat → Int32) (F : Nat → Nat → Int32) : Prop := w_note_91 WF Q M F
set_option maxRecDepth 20000 in
theorem s_note_74 {x : ac_X} {g : r_S} {l : Launch} {WF : (Nat → Int32) → (Nat → Nat → Int32) → ((Nat → Int32) → (Nat → Nat → Int32) → Prop) → Prop} {rkF : Nat} {Q : (Nat → Int32) → (Nat → Nat → Int32) → Prop} (Z : r_Cx x g l cX12_note 3 (rkF + 16)) (hret : r_RV x g 3 cX12_note Q) (hWF : ∀ (M : Nat → Int32) (F : Nat → Nat → Int32) (Q : (Nat → Int32) → (Nat → Nat → Int32) → Prop), WF M F Q → r_MetV l g yX12_factor cX12_factor 3 rkF [.ref (r_h g)] M F Q) (M : Nat → Int32) (F : Nat → Nat → Int32) (hw : w_note_74 WF Q M F) : ac_G x (r_R g) 3 (r_P g M F) 0 0 74 [(0, .ref (r_h g))] [] := by
  refine ac_goto (tgt := 91) Z.1 dX12_note_74 (by decide) ?_
  exact s_note_91 Z hret hWF _ _ hw
def w_note_42 (WF : (Nat → Int32) → (Nat → Nat → Int32) → ((Nat → Int32) → (Nat → Nat → Int32) → Prop) → Prop) (Q : (Nat → Int32) → (Nat → Nat → Int32) → Prop) (a2 : Int32) (M : Nat → Int32) (F : Nat → Nat → Int32) : Prop := w_asked a2 M F (fun M12 F12 => (w_wholeBehind WF M12 F12 (fun M13 F13 => (w_put 16 0 0 0 M13 F13 (fun r14 M15 F15 => (w_note_74 WF Q M15 F15))))))
set_option maxRecDepth 20000 in
theorem s_note_42 {x : ac_X} {g : r_S} {l : Launch} {WF : (Nat → Int32) → (Nat → Nat → Int32) → ((Nat → Int32) → (Nat → Nat → Int32) → Prop) → Prop} {rkF : Nat} {Q : (Nat → Int32) → (Nat → Nat → Int32) → Prop} (Z : r_Cx x g l cX12_note 3 (rkF + 16)) (hret : r_RV x g 3 cX12_note Q) (hWF : ∀ (M : Nat → Int32) (F : Nat → Nat → Int32) (Q : (Nat → Int32) → (Nat → Nat → Int32) → Prop), WF M F Q → r_MetV l g yX12_factor cX12_factor 3 rkF [.ref (r_h g)] M F Q) (a2 : Int32) (M : Nat → Int32) (F : Nat → Nat → Int32) (hw : w_note_42 WF Q a2 M F) : ac_G x (r_R g) 3 (r_P g M F) 0 0 42 [(0, .ref (r_h g)), (2, .int a2)] [] := by
  refine ac_aload_n Z.1 0 dX12_note_42 rfl ?_
  refine ac_iload_n Z.1 1 dX12_note_43 rfl ?_
  refine r_callv (As := [.int a2]) (st := []) Z kX12_asked lkX12_347 (by omega) rfl (so_asked   _ _ _ _ hw) rfl rfl (Nat.le_of_ble_eq_true rfl) dX12_note_44 (fun M12 F12 hw => ?_)
  refine ac_aload_n Z.1 0 dX12_note_47 rfl ?_
  refine r_callv (As := []) (st := []) Z kX12_wholeBehind lkX12_350 (by omega) rfl (so_wholeBehind hWF   _ _ _ hw) rfl rfl (Nat.le_of_ble_eq_true rfl) dX12_note_48 (fun M13 F13 hw => ?_)
  refine ac_aload_n Z.1 0 dX12_note_51 rfl ?_
  refine ac_bipush (v := 16) Z.1 dX12_note_52 (by decide) ?_
  refine ac_iconst (v := 0) Z.1 dX12_note_54 (by decide) ?_
  refine ac_iconst (v := 0) Z.1 dX12_note_55 (by decide) ?_
  refine ac_iconst (v := 0) Z.1 dX12_note_56 (by decide) ?_
  refine r_calli (As := [.int 16, .int 0, .int 0, .int 0]) (st := []) Z kX12_put lkX12_301 (by omega) rfl (so_put   _ _ _ _ _ _ _ hw) rfl rfl (Nat.le_of_ble_eq_true rfl) dX12_note_57 (fun r14 M15 F15 hw => ?_)
  refine ac_istore_n (lv' := [(1, .int r14), (0, .ref (r_h g)), (2, .int a2)]) Z.1 dX12_note_60 (by decide) rfl ?_
  refine ac_goto (tgt := 74) Z.1 dX12_note_61 (by decide) ?_
  refine ac_lv [1] rfl ?_
  exact s_note_74 Z hret hWF _ _ hw
def w_note (WF : (Nat → Int32) → (Nat → Nat → Int32) → ((Nat → Int32) → (Nat → Nat → Int32) → Prop) → Prop) (M : Nat → Int32) (F : Nat → Nat → Int32) (Q : (Nat → Int32) → (Nat → Nat → Int32) → Prop) : Prop := w_pass M F (fun M1 F1 => (w_bad M1 F1 (fun r2 M3 F3 => ((¬ r2 = 0 → (w_note_77 WF Q M3 F3)) ∧ (r2 = 0 → ((¬ (M3 4) = 2 → (w_note_77 WF Q M3 F3)) ∧ ((M3 4) = 2 → (w_object M3 F3 (fun r8 M9 F9 => (w_isWord 24 M9 F9 (fun r10 M11 F11 => ((¬ r10 = 0 → (w_note_42 WF Q r8 M11 F11)) ∧ (r10 = 0 → (w_isWord 25 M11 F11 (fun r16 M17 F17 => ((r16 = 0 → (w_put 17 r8 0 0 M17 F17 (fun r18 M19 F19 => (w_note_74 WF Q M19 F19)))) ∧ (¬ r16 = 0 → (w_note_42 WF Q r8 M17 F17))))))))))))))))))
set_option maxRecDepth 20000 in
theorem so_note {l : Launch} {g : r_S} {WF : (Nat → Int32) → (Nat → Nat → Int32) → ((Nat → Int32) → (Nat → Nat → Int32) → Prop) → Prop} {rkF : Nat} (hWF : ∀ (M : Nat → Int32) (F : Nat → Nat → Int32) (Q : (Nat → Int32) → (Nat → Nat → Int32) → Prop), WF M F Q → r_MetV l g yX12_factor cX12_factor 3 rkF [.ref (r_h g)] M F Q) (M : Nat → Int32) (F : Nat → Nat → Int32) (Q : (Nat → Int32) → (Nat → Nat → Int32) → Prop) (hw : w_note WF  M F Q) : r_MetV l g yX12_note cX12_note 3 (rkF + 16) [.ref (r_h g)] M F Q := by
  refine r_MetV.of (by decide) rfl (Nat.le_of_ble_eq_true rfl) (fun x Z hret => ?_)
  show ac_G x (r_R g) 3 (r_P g M F) 0 0 0 [(0, .ref (r_h g))] []
  refine ac_aload_n Z.1 0 dX12_note_0 rfl ?_
  refine r_callv (As := []) (st := []) Z kX12_pass lkX12_240 (by omega) rfl (so_pass    _ _ _ hw) rfl rfl (Nat.le_of_ble_eq_true rfl) dX12_note_1 (fun M1 F1 hw => ?_)
  refine ac_aload_n Z.1 0 dX12_note_4 rfl ?_
  refine r_calli (As := []) (st := []) Z kX12_bad lkX12_230 (by omega) rfl (so_bad    _ _ _ hw) rfl rfl (Nat.le_of_ble_eq_true rfl) dX12_note_5 (fun r2 M3 F3 hw => ?_)
  obtain ⟨hwt, hwf⟩ := hw
  refine ac_if_ne (tgt := 77) Z.1 dX12_note_8 (by decide) (fun hc => ?_) (fun hc => ?_)
  · have hw := hwt hc
    exact s_note_77 Z hret hWF _ _ hw
  · have hw := hwf hc
    refine ac_aload_n Z.1 0 dX12_note_11 rfl ?_
    refine r_geti (v := (M3 4)) Z.1 Z.2.1 4 (by decide) rfl fX12_198 rfl rfl dX12_note_12 ?_
    refine ac_iconst (v := 2) Z.1 dX12_note_15 (by decide) ?_
    obtain ⟨hwt, hwf⟩ := hw
    refine ac_icmp_ne (tgt := 77) Z.1 dX12_note_16 (by decide) (fun hc => ?_) (fun hc => ?_)
    · have hw := hwt hc
      exact s_note_77 Z hret hWF _ _ hw
    · have hw := hwf hc
      refine ac_aload_n Z.1 0 dX12_note_19 rfl ?_
      refine r_calli (As := []) (st := []) Z kX12_object lkX12_324 (by omega) rfl (so_object    _ _ _ hw) rfl rfl (Nat.le_of_ble_eq_true rfl) dX12_note_20 (fun r8 M9 F9 hw => ?_)
      refine ac_istore_n (lv' := [(2, .int r8), (0, .ref (r_h g))]) Z.1 dX12_note_23 (by decide) rfl ?_
      refine ac_aload_n Z.1 1 dX12_note_24 rfl ?_
      refine ac_bipush (v := 24) Z.1 dX12_note_25 (by decide) ?_
      refine r_calli (As := [.int 24]) (st := []) Z kX12_isWord lkX12_246 (by omega) rfl (so_isWord   _ _ _ _ hw) rfl rfl (Nat.le_of_ble_eq_true rfl) dX12_note_27 (fun r10 M11 F11 hw => ?_)
      obtain ⟨hwt, hwf⟩ := hw
      refine ac_if_ne (tgt := 42) Z.1 dX12_note_30 (by decide) (fun hc => ?_) (fun hc => ?_)
      · have hw := hwt hc
        refine ac_lv [1, 0] rfl ?_
        exact s_note_42 Z hret hWF _ _ _ hw
      · have hw := hwf hc
        refine ac_aload_n Z.1 1 dX12_note_33 rfl ?_
        refine ac_bipush (v := 25) Z.1 dX12_note_34 (by decide) ?_
        refine r_calli (As := [.int 25]) (st := []) Z kX12_isWord lkX12_246 (by omega) rfl (so_isWord   _ _ _ _ hw) rfl rfl (Nat.le_of_ble_eq_true rfl) dX12_note_36 (fun r16 M17 F17 hw => ?_)
        obtain ⟨hwt, hwf⟩ := hw
        refine ac_if_eq (tgt := 64) Z.1 dX12_note_39 (by decide) (fun hc => ?_) (fun hc => ?_)
        · have hw := hwt hc
          refine ac_aload_n Z.1 1 dX12_note_64 rfl ?_
          refine ac_bipush (v := 17) Z.1 dX12_note_65 (by decide) ?_
          refine ac_iload_n Z.1 0 dX12_note_67 rfl ?_
          refine ac_iconst (v := 0) Z.1 dX12_note_68 (by decide) ?_
          refine ac_iconst (v := 0) Z.1 dX12_note_69 (by decide) ?_
          refine r_calli (As := [.int 17, .int r8, .int 0, .int 0]) (st := []) Z kX12_put lkX12_301 (by omega) rfl (so_put   _ _ _ _ _ _ _ hw) rfl rfl (Nat.le_of_ble_eq_true rfl) dX12_note_70 (fun r18 M19 F19 hw => ?_)
          refine ac_istore_n (lv' := [(1, .int r18), (2, .int r8), (0, .ref (r_h g))]) Z.1 dX12_note_73 (by decide) rfl ?_
          refine ac_lv [2] rfl ?_
          exact s_note_74 Z hret hWF _ _ hw
        · have hw := hwf hc
          refine ac_lv [1, 0] rfl ?_
          exact s_note_42 Z hret hWF _ _ _ hw
def w_hear_102 (WF : (Nat → Int32) → (Nat → Nat → Int32) → ((Nat → Int32) → (Nat → Nat → Int32) → Prop) → Prop) (Q : (Nat → Int32) → (Nat → Nat → Int32) → Prop) (a1 : Int32) (a2 : Int32) (a3 : Int32) (a4 : Int32) (M : Nat → Int32) (F : Nat → Nat → Int32) : Prop := w_need 59 M F (fun M10 F10 => (w_bad M10 F10 (fun r11 M12 F12 => ((r11 = 0 → (vp_in (M12 46) 700 ∧ (vp_in (M12 46) 700 ∧ (vp_in (M12 46) 700 ∧ (w_put 18 0 a3 a4 M12 (uf (uf (uf F12 43 (M12 46) a1) 44 (M12 46) a3) 45 (M12 46) a2) (fun r16 M17 F17 => (vp_in (M12 46) 700 ∧ (Q (um M17 46 ((M17 46) + 1)) (uf F17 42 (M12 46) r16))))))))) ∧ (¬ r11 = 0 → (Q M12 F12))))))
set_option maxRecDepth 20000 in
theorem s_hear_102 {x : ac_X} {g : r_S} {l : Launch} {WF : (Nat → Int32) → (Nat → Nat → Int32) → ((Nat → Int32) → (Nat → Nat → Int32) → Prop) → Prop} {rkF : Nat} {Q : (Nat → Int32) → (Nat → Nat → Int32) → Prop} (Z : r_Cx x g l cX12_hear 6 (rkF + 16)) (hret : r_RV x g 6 cX12_hear Q) (hWF : ∀ (M : Nat → Int32) (F : Nat → Nat → Int32) (Q : (Nat → Int32) → (Nat → Nat → Int32) → Prop), WF M F Q → r_MetV l g yX12_factor cX12_factor 3 rkF [.ref (r_h g)] M F Q) (a1 : Int32) (a2 : Int32) (a3 : Int32) (a4 : Int32) (M : Nat → Int32) (F : Nat → Nat → Int32) (hw : w_hear_102 WF Q a1 a2 a3 a4 M F) : ac_G x (r_R g) 6 (r_P g M F) 0 0 102 [(0, .ref (r_h g)), (1, .int a1), (2, .int a2), (3, .int a3), (4, .int a4)] [] := by
  refine ac_aload_n Z.1 0 dX12_hear_102 rfl ?_
  refine ac_bipush (v := 59) Z.1 dX12_hear_103 (by decide) ?_
  refine r_callv (As := [.int 59]) (st := []) Z kX12_need lkX12_252 (by omega) rfl (so_need   _ _ _ _ hw) rfl rfl (Nat.le_of_ble_eq_true rfl) dX12_hear_105 (fun M10 F10 hw => ?_)
  refine ac_aload_n Z.1 0 dX12_hear_108 rfl ?_
  refine r_calli (As := []) (st := []) Z kX12_bad lkX12_230 (by omega) rfl (so_bad    _ _ _ hw) rfl rfl (Nat.le_of_ble_eq_true rfl) dX12_hear_109 (fun r11 M12 F12 hw => ?_)
  obtain ⟨hwt, hwf⟩ := hw
  refine ac_if_eq (tgt := 116) Z.1 dX12_hear_112 (by decide) (fun hc => ?_) (fun hc => ?_)
  · have hw := hwt hc
    refine ac_aload_n Z.1 0 dX12_hear_116 rfl ?_
    refine r_geta Z.1 Z.2.1 43 (by decide) rfl fX12_83 rfl dX12_hear_117 ?_
    refine ac_aload_n Z.1 0 dX12_hear_120 rfl ?_
    refine r_geti (v := (M12 46)) Z.1 Z.2.1 46 (by decide) rfl fX12_353 rfl rfl dX12_hear_121 ?_
    refine ac_iload_n Z.1 1 dX12_hear_124 rfl ?_
    obtain ⟨hb13, hw⟩ := hw
    refine r_ast Z.1 Z.2.1 21 43 700 rfl rfl hb13 dX12_hear_125 ?_
    refine ac_aload_n Z.1 0 dX12_hear_126 rfl ?_
    refine r_geta Z.1 Z.2.1 44 (by decide) rfl fX12_86 rfl dX12_hear_127 ?_
    refine ac_aload_n Z.1 0 dX12_hear_130 rfl ?_
    refine r_geti (v := (M12 46)) Z.1 Z.2.1 46 (by decide) rfl fX12_353 rfl rfl dX12_hear_131 ?_
    refine ac_iload_n Z.1 3 dX12_hear_134 rfl ?_
    obtain ⟨hb14, hw⟩ := hw
    refine r_ast Z.1 Z.2.1 22 44 700 rfl rfl hb14 dX12_hear_135 ?_
    refine ac_aload_n Z.1 0 dX12_hear_136 rfl ?_
    refine r_geta Z.1 Z.2.1 45 (by decide) rfl fX12_89 rfl dX12_hear_137 ?_
    refine ac_aload_n Z.1 0 dX12_hear_140 rfl ?_
    refine r_geti (v := (M12 46)) Z.1 Z.2.1 46 (by decide) rfl fX12_353 rfl rfl dX12_hear_141 ?_
    refine ac_iload_n Z.1 2 dX12_hear_144 rfl ?_
    obtain ⟨hb15, hw⟩ := hw
    refine r_ast Z.1 Z.2.1 23 45 700 rfl rfl hb15 dX12_hear_145 ?_
    refine ac_aload_n Z.1 0 dX12_hear_146 rfl ?_
    refine r_geta Z.1 Z.2.1 42 (by decide) rfl fX12_80 rfl dX12_hear_147 ?_
    refine ac_aload_n Z.1 0 dX12_hear_150 rfl ?_
    refine r_geti (v := (M12 46)) Z.1 Z.2.1 46 (by decide) rfl fX12_353 rfl rfl dX12_hear_151 ?_
    refine ac_aload_n Z.1 0 dX12_hear_154 rfl ?_
    refine ac_bipush (v := 18) Z.1 dX12_hear_155 (by decide) ?_
    refine ac_iconst (v := 0) Z.1 dX12_hear_157 (by decide) ?_
    refine ac_iload_n Z.1 3 dX12_hear_158 rfl ?_
    refine ac_iload Z.1 4 dX12_hear_159 rfl ?_
    refine r_calli (As := [.int 18, .int 0, .int a3, .int a4]) (st := [.int (M12 46), .ref (r_ad g 42)]) Z kX12_put lkX12_301 (by omega) rfl (so_put   _ _ _ _ _ _ _ hw) rfl rfl (Nat.le_of_ble_eq_true rfl) dX12_hear_161 (fun r16 M17 F17 hw => ?_)
    obtain ⟨hb18, hw⟩ := hw
    refine r_ast Z.1 Z.2.1 20 42 700 rfl rfl hb18 dX12_hear_164 ?_
    refine ac_aload_n Z.1 0 dX12_hear_165 rfl ?_
    refine ac_dup Z.1 dX12_hear_166 rfl ?_
    refine r_geti (v := (M17 46)) Z.1 Z.2.1 46 (by decide) rfl fX12_353 rfl rfl dX12_hear_167 ?_
    refine ac_iconst (v := 1) Z.1 dX12_hear_170 (by decide) ?_
    refine ac_iadd Z.1 dX12_hear_171 ?_
    refine r_put Z.1 Z.2.1 46 (by decide) rfl rfl rfl fX12_353 rfl dX12_hear_172 ?_
    exact hret _ _ _ _ dX12_hear_175 hw
  · have hw := hwf hc
    exact hret _ _ _ _ dX12_hear_115 hw
def w_hear_61 (WF : (Nat → Int32) → (Nat → Nat → Int32) → ((Nat → Int32) → (Nat → Nat → Int32) → Prop) → Prop) (Q : (Nat → Int32) → (Nat → Nat → Int32) → Prop) (a1 : Int32) (a2 : Int32) (a3 : Int32) (M : Nat → Int32) (F : Nat → Nat → Int32) : Prop := w_closes 41 M F (fun M7 F7 => (w_isWord 11 M7 F7 (fun r8 M9 F9 => ((r8 = 0 → (w_hear_102 WF Q a1 a2 a3 (-1) M9 F9)) ∧ (¬ r8 = 0 → (w_pass M9 F9 (fun M19 F19 => (w_taken 1 M19 F19 (fun r20 M21 F21 => (w_told r20 (M21 47) M21 F21 (fun r22 M23 F23 => (w_hear_102 WF Q a1 a2 a3 r22 M23 F23))))))))))))
set_option maxRecDepth 20000 in
theorem s_hear_61 {x : ac_X} {g : r_S} {l : Launch} {WF : (Nat → Int32) → (Nat → Nat → Int32) → ((Nat → Int32) → (Nat → Nat → Int32) → Prop) → Prop} {rkF : Nat} {Q : (Nat → Int32) → (Nat → Nat → Int32) → Prop} (Z : r_Cx x g l cX12_hear 6 (rkF + 16)) (hret : r_RV x g 6 cX12_hear Q) (hWF : ∀ (M : Nat → Int32) (F : Nat → Nat → Int32) (Q : (Nat → Int32) → (Nat → Nat → Int32) → Prop), WF M F Q → r_MetV l g yX12_factor cX12_factor 3 rkF [.ref (r_h g)] M F Q) (a1 : Int32) (a2 : Int32) (a3 : Int32) (M : Nat → Int32) (F : Nat → Nat → Int32) (hw : w_hear_61 WF Q a1 a2 a3 M F) : ac_G x (r_R g) 6 (r_P g M F) 0 0 61 [(0, .ref (r_h g)), (1, .int a1), (2, .int a2), (3, .int a3)] [] := by
  refine ac_aload_n Z.1 0 dX12_hear_61 rfl ?_
  refine ac_bipush (v := 41) Z.1 dX12_hear_62 (by decide) ?_
  refine r_callv (As := [.int 41]) (st := []) Z kX12_closes lkX12_292 (by omega) rfl (so_closes   _ _ _ _ hw) rfl rfl (Nat.le_of_ble_eq_true rfl) dX12_hear_64 (fun M7 F7 hw => ?_)
  refine ac_iconst (v := (-1)) Z.1 dX12_hear_67 (by decide) ?_
  refine ac_istore (lv' := [(4, .int (-1)), (0, .ref (r_h g)), (1, .int a1), (2, .int a2), (3, .int a3)]) Z.1 dX12_hear_68 (by decide) rfl ?_
  refine ac_aload_n Z.1 1 dX12_hear_70 rfl ?_
  refine ac_bipush (v := 11) Z.1 dX12_hear_71 (by decide) ?_
  refine r_calli (As := [.int 11]) (st := []) Z kX12_isWord lkX12_246 (by omega) rfl (so_isWord   _ _ _ _ hw) rfl rfl (Nat.le_of_ble_eq_true rfl) dX12_hear_73 (fun r8 M9 F9 hw => ?_)
  obtain ⟨hwt, hwf⟩ := hw
  refine ac_if_eq (tgt := 102) Z.1 dX12_hear_76 (by decide) (fun hc => ?_) (fun hc => ?_)
  · have hw := hwt hc
    refine ac_lv [1, 2, 3, 4, 0] rfl ?_
    exact s_hear_102 Z hret hWF _ _ _ _ _ _ hw
  · have hw := hwf hc
    refine ac_aload_n Z.1 1 dX12_hear_79 rfl ?_
    refine r_callv (As := []) (st := []) Z kX12_pass lkX12_240 (by omega) rfl (so_pass    _ _ _ hw) rfl rfl (Nat.le_of_ble_eq_true rfl) dX12_hear_80 (fun M19 F19 hw => ?_)
    refine ac_aload_n Z.1 1 dX12_hear_83 rfl ?_
    refine ac_iconst (v := 1) Z.1 dX12_hear_84 (by decide) ?_
    refine r_calli (As := [.int 1]) (st := []) Z kX12_taken lkX12_274 (by omega) rfl (so_taken   _ _ _ _ hw) rfl rfl (Nat.le_of_ble_eq_true rfl) dX12_hear_85 (fun r20 M21 F21 hw => ?_)
    refine ac_istore (lv' := [(5, .int r20), (4, .int (-1)), (0, .ref (r_h g)), (1, .int a1), (2, .int a2), (3, .int a3)]) Z.1 dX12_hear_88 (by decide) rfl ?_
    refine ac_aload_n Z.1 2 dX12_hear_90 rfl ?_
    refine ac_iload Z.1 0 dX12_hear_91 rfl ?_
    refine ac_aload_n Z.1 2 dX12_hear_93 rfl ?_
    refine r_geti (v := (M21 47)) Z.1 Z.2.1 47 (by decide) rfl fX12_255 rfl rfl dX12_hear_94 ?_
    refine r_calli (As := [.int r20, .int (M21 47)]) (st := []) Z kX12_told lkX12_312 (by omega) rfl (so_told   _ _ _ _ _ hw) rfl rfl (Nat.le_of_ble_eq_true rfl) dX12_hear_97 (fun r22 M23 F23 hw => ?_)
    refine ac_istore (lv' := [(4, .int r22), (5, .int r20), (0, .ref (r_h g)), (1, .int a1), (2, .int a2), (3, .int a3)]) Z.1 dX12_hear_100 (by decide) rfl ?_
    refine ac_lv [2, 3, 4, 5, 0] rfl ?_
    exact s_hear_102 Z hret hWF _ _ _ _ _ _ hw
def w_hear_38 (WF : (Nat → Int32) → (Nat → Nat → Int32) → ((Nat → Int32) → (Nat → Nat → Int32) → Prop) → Prop) (Q : (Nat → Int32) → (Nat → Nat → Int32) → Prop) : Nat → Int32 → Int32 → Int32 → (Nat → Int32) → (Nat → Nat → Int32) → Prop
  | 0 => fun _ _ _ _ _ => False
  | n + 1 => fun a1 a2 a3 M F => (w_isSign 44 M F (fun r25 M26 F26 => ((r25 = 0 → (w_hear_61 WF Q a1 a2 a3 M26 F26)) ∧ (¬ r25 = 0 → (w_pass M26 F26 (fun M27 F27 => (w_whole WF M27 F27 (fun M28 F28 => (w_hear_38 WF Q n a1 a2 (a3 + 1) M28 F28)))))))))
set_option maxRecDepth 20000 in
theorem s_hear_38 {x : ac_X} {g : r_S} {l : Launch} {WF : (Nat → Int32) → (Nat → Nat → Int32) → ((Nat → Int32) → (Nat → Nat → Int32) → Prop) → Prop} {rkF : Nat} {Q : (Nat → Int32) → (Nat → Nat → Int32) → Prop} (Z : r_Cx x g l cX12_hear 6 (rkF + 16)) (hret : r_RV x g 6 cX12_hear Q) (hWF : ∀ (M : Nat → Int32) (F : Nat → Nat → Int32) (Q : (Nat → Int32) → (Nat → Nat → Int32) → Prop), WF M F Q → r_MetV l g yX12_factor cX12_factor 3 rkF [.ref (r_h g)] M F Q) : ∀ (n : Nat) (a1 : Int32) (a2 : Int32) (a3 : Int32) (M : Nat → Int32) (F : Nat → Nat → Int32), w_hear_38 WF Q n a1 a2 a3 M F → ac_G x (r_R g) 6 (r_P g M F) 0 0 38 [(0, .ref (r_h g)), (1, .int a1), (2, .int a2), (3, .int a3)] [] := by
  intro n
  induction n with
  | zero => intro _ _ _ _ _ hw; exact hw.elim
  | succ n ih =>
    intro a1 a2 a3 M F hw
    dsimp only [w_hear_38] at hw
    refine ac_aload_n Z.1 0 dX12_hear_38 rfl ?_
    refine ac_bipush (v := 44) Z.1 dX12_hear_39 (by decide) ?_
    refine r_calli (As := [.int 44]) (st := []) Z kX12_isSign lkX12_237 (by omega) rfl (so_isSign   _ _ _ _ hw) rfl rfl (Nat.le_of_ble_eq_true rfl) dX12_hear_41 (fun r25 M26 F26 hw => ?_)
    obtain ⟨hwt, hwf⟩ := hw
    refine ac_if_eq (tgt := 61) Z.1 dX12_hear_44 (by decide) (fun hc => ?_) (fun hc => ?_)
    · have hw := hwt hc
      exact s_hear_61 Z hret hWF _ _ _ _ _ hw
    · have hw := hwf hc
      refine ac_aload_n Z.1 0 dX12_hear_47 rfl ?_
      refine r_callv (As := []) (st := []) Z kX12_pass lkX12_240 (by omega) rfl (so_pass    _ _ _ hw) rfl rfl (Nat.le_of_ble_eq_true rfl) dX12_hear_48 (fun M27 F27 hw => ?_)
      refine ac_aload_n Z.1 0 dX12_hear_51 rfl ?_
      refine r_callv (As := []) (st := []) Z kX12_whole lkX12_315 (by omega) rfl (so_whole hWF   _ _ _ hw) rfl rfl (Nat.le_of_ble_eq_true rfl) dX12_hear_52 (fun M28 F28 hw => ?_)
      refine ac_iinc (w := (a3 + 1)) (lv' := [(3, .int (a3 + 1)), (0, .ref (r_h g)), (1, .int a1), (2, .int a2)]) Z.1 3 dX12_hear_55 rfl rfl (by decide) rfl ?_
      refine ac_goto (tgt := 38) Z.1 dX12_hear_58 (by decide) ?_
      refine ac_lv [1, 2, 3, 0] rfl ?_
      exact ih _ _ _ _ _ hw
def w_hear (WF : (Nat → Int32) → (Nat → Nat → Int32) → ((Nat → Int32) → (Nat → Nat → Int32) → Prop) → Prop) (M : Nat → Int32) (F : Nat → Nat → Int32) (Q : (Nat → Int32) → (Nat → Nat → Int32) → Prop) : Prop := w_pass M F (fun M1 F1 => (w_taken 1 M1 F1 (fun r2 M3 F3 => (w_opens 40 M3 F3 (fun M4 F4 => (w_isSign 41 M4 F4 (fun r5 M6 F6 => ((¬ r5 = 0 → (w_hear_61 WF Q r2 (M3 47) 0 M6 F6)) ∧ (r5 = 0 → (w_whole WF M6 F6 (fun M24 F24 => (∃ e38, w_hear_38 WF Q e38 r2 (M3 47) 1 M24 F24))))))))))))
set_option maxRecDepth 20000 in
theorem so_hear {l : Launch} {g : r_S} {WF : (Nat → Int32) → (Nat → Nat → Int32) → ((Nat → Int32) → (Nat → Nat → Int32) → Prop) → Prop} {rkF : Nat} (hWF : ∀ (M : Nat → Int32) (F : Nat → Nat → Int32) (Q : (Nat → Int32) → (Nat → Nat → Int32) → Prop), WF M F Q → r_MetV l g yX12_factor cX12_factor 3 rkF [.ref (r_h g)] M F Q) (M : Nat → Int32) (F : Nat → Nat → Int32) (Q : (Nat → Int32) → (Nat → Nat → Int32) → Prop) (hw : w_hear WF  M F Q) : r_MetV l g yX12_hear cX12_hear 6 (rkF + 16) [.ref (r_h g)] M F Q := by
  refine r_MetV.of (by decide) rfl (Nat.le_of_ble_eq_true rfl) (fun x Z hret => ?_)
  show ac_G x (r_R g) 6 (r_P g M F) 0 0 0 [(0, .ref (r_h g))] []
  refine ac_aload_n Z.1 0 dX12_hear_0 rfl ?_
  refine r_callv (As := []) (st := []) Z kX12_pass lkX12_240 (by omega) rfl (so_pass    _ _ _ hw) rfl rfl (Nat.le_of_ble_eq_true rfl) dX12_hear_1 (fun M1 F1 hw => ?_)
  refine ac_aload_n Z.1 0 dX12_hear_4 rfl ?_
  refine ac_iconst (v := 1) Z.1 dX12_hear_5 (by decide) ?_
  refine r_calli (As := [.int 1]) (st := []) Z kX12_taken lkX12_274 (by omega) rfl (so_taken   _ _ _ _ hw) rfl rfl (Nat.le_of_ble_eq_true rfl) dX12_hear_6 (fun r2 M3 F3 hw => ?_)
  refine ac_istore_n (lv' := [(1, .int r2), (0, .ref (r_h g))]) Z.1 dX12_hear_9 (by decide) rfl ?_
  refine ac_aload_n Z.1 1 dX12_hear_10 rfl ?_
  refine r_geti (v := (M3 47)) Z.1 Z.2.1 47 (by decide) rfl fX12_255 rfl rfl dX12_hear_11 ?_
  refine ac_istore_n (lv' := [(2, .int (M3 47)), (1, .int r2), (0, .ref (r_h g))]) Z.1 dX12_hear_14 (by decide) rfl ?_
  refine ac_aload_n Z.1 2 dX12_hear_15 rfl ?_
  refine ac_bipush (v := 40) Z.1 dX12_hear_16 (by decide) ?_
  refine r_callv (As := [.int 40]) (st := []) Z kX12_opens lkX12_286 (by omega) rfl (so_opens   _ _ _ _ hw) rfl rfl (Nat.le_of_ble_eq_true rfl) dX12_hear_18 (fun M4 F4 hw => ?_)
  refine ac_iconst (v := 0) Z.1 dX12_hear_21 (by decide) ?_
  refine ac_istore_n (lv' := [(3, .int 0), (2, .int (M3 47)), (1, .int r2), (0, .ref (r_h g))]) Z.1 dX12_hear_22 (by decide) rfl ?_
  refine ac_aload_n Z.1 3 dX12_hear_23 rfl ?_
  refine ac_bipush (v := 41) Z.1 dX12_hear_24 (by decide) ?_
  refine r_calli (As := [.int 41]) (st := []) Z kX12_isSign lkX12_237 (by omega) rfl (so_isSign   _ _ _ _ hw) rfl rfl (Nat.le_of_ble_eq_true rfl) dX12_hear_26 (fun r5 M6 F6 hw => ?_)
  obtain ⟨hwt, hwf⟩ := hw
  refine ac_if_ne (tgt := 61) Z.1 dX12_hear_29 (by decide) (fun hc => ?_) (fun hc => ?_)
  · have hw := hwt hc
    refine ac_lv [3, 2, 1, 0] rfl ?_
    exact s_hear_61 Z hret hWF _ _ _ _ _ hw
  · have hw := hwf hc
    refine ac_aload_n Z.1 3 dX12_hear_32 rfl ?_
    refine r_callv (As := []) (st := []) Z kX12_whole lkX12_315 (by omega) rfl (so_whole hWF   _ _ _ hw) rfl rfl (Nat.le_of_ble_eq_true rfl) dX12_hear_33 (fun M24 F24 hw => ?_)
    refine ac_iconst (v := 1) Z.1 dX12_hear_36 (by decide) ?_
    refine ac_istore_n (lv' := [(3, .int 1), (2, .int (M3 47)), (1, .int r2), (0, .ref (r_h g))]) Z.1 dX12_hear_37 (by decide) rfl ?_
    obtain ⟨n, hw⟩ := hw
    refine ac_lv [3, 2, 1, 0] rfl ?_
    exact s_hear_38 Z hret hWF n _ _ _ _ _ hw
def w_factor_213 (WF : (Nat → Int32) → (Nat → Nat → Int32) → ((Nat → Int32) → (Nat → Nat → Int32) → Prop) → Prop) (Q : (Nat → Int32) → (Nat → Nat → Int32) → Prop) (M : Nat → Int32) (F : Nat → Nat → Int32) : Prop := (¬ (M 4) = 2 → (w_fail M F (fun M7 F7 => (Q M7 F7)))) ∧ ((M 4) = 2 → (w_object M F (fun r8 M9 F9 => (w_asked r8 M9 F9 (fun M10 F10 => (Q M10 F10))))))
set_option maxRecDepth 20000 in
theorem s_factor_213 {x : ac_X} {g : r_S} {l : Launch} {WF : (Nat → Int32) → (Nat → Nat → Int32) → ((Nat → Int32) → (Nat → Nat → Int32) → Prop) → Prop} {rkF : Nat} {Q : (Nat → Int32) → (Nat → Nat → Int32) → Prop} (Z : r_Cx x g l cX12_factor 3 (rkF + 16)) (hret : r_RV x g 3 cX12_factor Q) (hWF : ∀ (M : Nat → Int32) (F : Nat → Nat → Int32) (Q : (Nat → Int32) → (Nat → Nat → Int32) → Prop), WF M F Q → r_MetV l g yX12_factor cX12_factor 3 rkF [.ref (r_h g)] M F Q) (M : Nat → Int32) (F : Nat → Nat → Int32) (hw : w_factor_213 WF Q M F) : ac_G x (r_R g) 3 (r_P g M F) 0 0 213 [(0, .ref (r_h g))] [] := by
  refine ac_aload_n Z.1 0 dX12_factor_213 rfl ?_
  refine r_geti (v := (M 4)) Z.1 Z.2.1 4 (by decide) rfl fX12_198 rfl rfl dX12_factor_214 ?_
  refine ac_iconst (v := 2) Z.1 dX12_factor_217 (by decide) ?_
  obtain ⟨hwt, hwf⟩ := hw
  refine ac_icmp_ne (tgt := 232) Z.1 dX12_factor_218 (by decide) (fun hc => ?_) (fun hc => ?_)
  · have hw := hwt hc
    refine ac_aload_n Z.1 0 dX12_factor_232 rfl ?_
    refine r_callv (As := []) (st := []) Z kX12_fail lkX12_243 (by omega) rfl (so_fail    _ _ _ hw) rfl rfl (Nat.le_of_ble_eq_true rfl) dX12_factor_233 (fun M7 F7 hw => ?_)
    exact hret _ _ _ _ dX12_factor_236 hw
  · have hw := hwf hc
    refine ac_aload_n Z.1 0 dX12_factor_221 rfl ?_
    refine ac_aload_n Z.1 0 dX12_factor_222 rfl ?_
    refine r_calli (As := []) (st := [.ref (r_h g)]) Z kX12_object lkX12_324 (by omega) rfl (so_object    _ _ _ hw) rfl rfl (Nat.le_of_ble_eq_true rfl) dX12_factor_223 (fun r8 M9 F9 hw => ?_)
    refine r_callv (As := [.int r8]) (st := []) Z kX12_asked lkX12_347 (by omega) rfl (so_asked   _ _ _ _ hw) rfl rfl (Nat.le_of_ble_eq_true rfl) dX12_factor_226 (fun M10 F10 hw => ?_)
    refine ac_goto (tgt := 236) Z.1 dX12_factor_229 (by decide) ?_
    exact hret _ _ _ _ dX12_factor_236 hw
def w_factor_91 (WF : (Nat → Int32) → (Nat → Nat → Int32) → ((Nat → Int32) → (Nat → Nat → Int32) → Prop) → Prop) (Q : (Nat → Int32) → (Nat → Nat → Int32) → Prop) (M : Nat → Int32) (F : Nat → Nat → Int32) : Prop := w_pass (um M 33 ((M 33) + 1)) F (fun M19 F19 => (WF M19 F19 (fun M20 F20 => (w_put 4 0 0 0 (um M20 33 ((M20 33) - 1)) F20 (fun r21 M22 F22 => (Q M22 F22))))))
set_option maxRecDepth 20000 in
theorem s_factor_91 {x : ac_X} {g : r_S} {l : Launch} {WF : (Nat → Int32) → (Nat → Nat → Int32) → ((Nat → Int32) → (Nat → Nat → Int32) → Prop) → Prop} {rkF : Nat} {Q : (Nat → Int32) → (Nat → Nat → Int32) → Prop} (Z : r_Cx x g l cX12_factor 3 (rkF + 16)) (hret : r_RV x g 3 cX12_factor Q) (hWF : ∀ (M : Nat → Int32) (F : Nat → Nat → Int32) (Q : (Nat → Int32) → (Nat → Nat → Int32) → Prop), WF M F Q → r_MetV l g yX12_factor cX12_factor 3 rkF [.ref (r_h g)] M F Q) (M : Nat → Int32) (F : Nat → Nat → Int32) (hw : w_factor_91 WF Q M F) : ac_G x (r_R g) 3 (r_P g M F) 0 0 91 [(0, .ref (r_h g))] [] := by
  refine ac_aload_n Z.1 0 dX12_factor_91 rfl ?_
  refine ac_dup Z.1 dX12_factor_92 rfl ?_
  refine r_geti (v := (M 33)) Z.1 Z.2.1 33 (by decide) rfl fX12_249 rfl rfl dX12_factor_93 ?_
  refine ac_iconst (v := 1) Z.1 dX12_factor_96 (by decide) ?_
  refine ac_iadd Z.1 dX12_factor_97 ?_
  refine r_put Z.1 Z.2.1 33 (by decide) rfl rfl rfl fX12_249 rfl dX12_factor_98 ?_
  refine ac_aload_n Z.1 0 dX12_factor_101 rfl ?_
  refine r_callv (As := []) (st := []) Z kX12_pass lkX12_240 (by omega) rfl (so_pass    _ _ _ hw) rfl rfl (Nat.le_of_ble_eq_true rfl) dX12_factor_102 (fun M19 F19 hw => ?_)
  refine ac_aload_n Z.1 0 dX12_factor_105 rfl ?_
  refine r_callv (As := []) (st := []) Z kX12_factor lkX12_377 (by omega) rfl (hWF  _ _ _ hw) rfl rfl (Nat.le_of_ble_eq_true rfl) dX12_factor_106 (fun M20 F20 hw => ?_)
  refine ac_aload_n Z.1 0 dX12_factor_109 rfl ?_
  refine ac_dup Z.1 dX12_factor_110 rfl ?_
  refine r_geti (v := (M20 33)) Z.1 Z.2.1 33 (by decide) rfl fX12_249 rfl rfl dX12_factor_111 ?_
  refine ac_iconst (v := 1) Z.1 dX12_factor_114 (by decide) ?_
  refine ac_isub Z.1 dX12_factor_115 ?_
  refine r_put Z.1 Z.2.1 33 (by decide) rfl rfl rfl fX12_249 rfl dX12_factor_116 ?_
  refine ac_aload_n Z.1 0 dX12_factor_119 rfl ?_
  refine ac_iconst (v := 4) Z.1 dX12_factor_120 (by decide) ?_
  refine ac_iconst (v := 0) Z.1 dX12_factor_121 (by decide) ?_
  refine ac_iconst (v := 0) Z.1 dX12_factor_122 (by decide) ?_
  refine ac_iconst (v := 0) Z.1 dX12_factor_123 (by decide) ?_
  refine r_calli (As := [.int 4, .int 0, .int 0, .int 0]) (st := []) Z kX12_put lkX12_301 (by omega) rfl (so_put   _ _ _ _ _ _ _ hw) rfl rfl (Nat.le_of_ble_eq_true rfl) dX12_factor_124 (fun r21 M22 F22 hw => ?_)
  refine ac_istore_n (lv' := [(1, .int r21), (0, .ref (r_h g))]) Z.1 dX12_factor_127 (by decide) rfl ?_
  refine ac_goto (tgt := 236) Z.1 dX12_factor_128 (by decide) ?_
  exact hret _ _ _ _ dX12_factor_236 hw
def w_factor (WF : (Nat → Int32) → (Nat → Nat → Int32) → ((Nat → Int32) → (Nat → Nat → Int32) → Prop) → Prop) (M : Nat → Int32) (F : Nat → Nat → Int32) (Q : (Nat → Int32) → (Nat → Nat → Int32) → Prop) : Prop := w_bad M F (fun r1 M2 F2 => ((r1 = 0 → ((¬ (M2 4) = 3 → ((¬ (M2 4) = 1 → (w_isSign 45 M2 F2 (fun r3 M4 F4 => ((r3 = 0 → (w_isSign 40 M4 F4 (fun r5 M6 F6 => ((r5 = 0 → ((¬ (M6 4) = 4 → (w_factor_213 WF Q M6 F6)) ∧ ((M6 4) = 4 → (((M6 5) < 19 → (w_factor_213 WF Q M6 F6)) ∧ (¬ (M6 5) < 19 → ((23 < (M6 5) → (w_factor_213 WF Q M6 F6)) ∧ (¬ 23 < (M6 5) → (w_pass M6 F6 (fun M11 F11 => (w_object M11 F11 (fun r12 M13 F13 => (w_put 7 r12 ((M6 5) - 19) 0 M13 F13 (fun r14 M15 F15 => (Q M15 F15)))))))))))))) ∧ (¬ r5 = 0 → (w_opens 40 M6 F6 (fun M16 F16 => (w_whole WF M16 F16 (fun M17 F17 => (w_closes 41 M17 F17 (fun M18 F18 => (Q M18 F18)))))))))))) ∧ (¬ r3 = 0 → ((¬ (M4 33) = 20 → (w_factor_91 WF Q M4 F4)) ∧ ((M4 33) = 20 → (w_fail M4 F4 (fun M23 F23 => (w_factor_91 WF Q M23 F23)))))))))) ∧ ((M2 4) = 1 → (w_taken 1 M2 F2 (fun r24 M25 F25 => (w_told r24 (M25 47) M25 F25 (fun r26 M27 F27 => (w_put 2 r26 0 0 M27 F27 (fun r28 M29 F29 => (Q M29 F29)))))))))) ∧ ((M2 4) = 3 → (w_put 1 (M2 5) 0 0 M2 F2 (fun r30 M31 F31 => (w_pass M31 F31 (fun M32 F32 => (Q M32 F32)))))))) ∧ (¬ r1 = 0 → (Q M2 F2))))
set_option maxRecDepth 20000 in
theorem so_factor {l : Launch} {g : r_S} {WF : (Nat → Int32) → (Nat → Nat → Int32) → ((Nat → Int32) → (Nat → Nat → Int32) → Prop) → Prop} {rkF : Nat} (hWF : ∀ (M : Nat → Int32) (F : Nat → Nat → Int32) (Q : (Nat → Int32) → (Nat → Nat → Int32) → Prop), WF M F Q → r_MetV l g yX12_factor cX12_factor 3 rkF [.ref (r_h g)] M F Q) (M : Nat → Int32) (F : Nat → Nat → Int32) (Q : (Nat → Int32) → (Nat → Nat → Int32) → Prop) (hw : w_factor WF  M F Q) : r_MetV l g yX12_factor cX12_factor 3 (rkF + 16) [.ref (r_h g)] M F Q := by
  refine r_MetV.of (by decide) rfl (Nat.le_of_ble_eq_true rfl) (fun x Z hret => ?_)
  show ac_G x (r_R g) 3 (r_P g M F) 0 0 0 [(0, .ref (r_h g))] []
  refine ac_aload_n Z.1 0 dX12_factor_0 rfl ?_
  refine r_calli (As := []) (st := []) Z kX12_bad lkX12_230 (by omega) rfl (so_bad    _ _ _ hw) rfl rfl (Nat.le_of_ble_eq_true rfl) dX12_factor_1 (fun r1 M2 F2 hw => ?_)
  obtain ⟨hwt, hwf⟩ := hw
  refine ac_if_eq (tgt := 8) Z.1 dX12_factor_4 (by decide) (fun hc => ?_) (fun hc => ?_)
  · have hw := hwt hc
    refine ac_aload_n Z.1 0 dX12_factor_8 rfl ?_
    refine r_geti (v := (M2 4)) Z.1 Z.2.1 4 (by decide) rfl fX12_198 rfl rfl dX12_factor_9 ?_
    refine ac_iconst (v := 3) Z.1 dX12_factor_12 (by decide) ?_
    obtain ⟨hwt, hwf⟩ := hw
    refine ac_icmp_ne (tgt := 35) Z.1 dX12_factor_13 (by decide) (fun hc => ?_) (fun hc => ?_)
    · have hw := hwt hc
      refine ac_aload_n Z.1 0 dX12_factor_35 rfl ?_
      refine r_geti (v := (M2 4)) Z.1 Z.2.1 4 (by decide) rfl fX12_198 rfl rfl dX12_factor_36 ?_
      refine ac_iconst (v := 1) Z.1 dX12_factor_39 (by decide) ?_
      obtain ⟨hwt, hwf⟩ := hw
      refine ac_icmp_ne (tgt := 69) Z.1 dX12_factor_40 (by decide) (fun hc => ?_) (fun hc => ?_)
      · have hw := hwt hc
        refine ac_aload_n Z.1 0 dX12_factor_69 rfl ?_
        refine ac_bipush (v := 45) Z.1 dX12_factor_70 (by decide) ?_
        refine r_calli (As := [.int 45]) (st := []) Z kX12_isSign lkX12_237 (by omega) rfl (so_isSign   _ _ _ _ hw) rfl rfl (Nat.le_of_ble_eq_true rfl) dX12_factor_72 (fun r3 M4 F4 hw => ?_)
        obtain ⟨hwt, hwf⟩ := hw
        refine ac_if_eq (tgt := 131) Z.1 dX12_factor_75 (by decide) (fun hc => ?_) (fun hc => ?_)
        · have hw := hwt hc
          refine ac_aload_n Z.1 0 dX12_factor_131 rfl ?_
          refine ac_bipush (v := 40) Z.1 dX12_factor_132 (by decide) ?_
          refine r_calli (As := [.int 40]) (st := []) Z kX12_isSign lkX12_237 (by omega) rfl (so_isSign   _ _ _ _ hw) rfl rfl (Nat.le_of_ble_eq_true rfl) dX12_factor_134 (fun r5 M6 F6 hw => ?_)
          obtain ⟨hwt, hwf⟩ := hw
          refine ac_if_eq (tgt := 159) Z.1 dX12_factor_137 (by decide) (fun hc => ?_) (fun hc => ?_)
          · have hw := hwt hc
            refine ac_aload_n Z.1 0 dX12_factor_159 rfl ?_
            refine r_geti (v := (M6 4)) Z.1 Z.2.1 4 (by decide) rfl fX12_198 rfl rfl dX12_factor_160 ?_
            refine ac_iconst (v := 4) Z.1 dX12_factor_163 (by decide) ?_
            obtain ⟨hwt, hwf⟩ := hw
            refine ac_icmp_ne (tgt := 213) Z.1 dX12_factor_164 (by decide) (fun hc => ?_) (fun hc => ?_)
            · have hw := hwt hc
              exact s_factor_213 Z hret hWF _ _ hw
            · have hw := hwf hc
              refine ac_aload_n Z.1 0 dX12_factor_167 rfl ?_
              refine r_geti (v := (M6 5)) Z.1 Z.2.1 5 (by decide) rfl fX12_207 rfl rfl dX12_factor_168 ?_
              refine ac_bipush (v := 19) Z.1 dX12_factor_171 (by decide) ?_
              obtain ⟨hwt, hwf⟩ := hw
              refine ac_icmp_lt (tgt := 213) Z.1 dX12_factor_173 (by decide) (fun hc => ?_) (fun hc => ?_)
              · have hw := hwt hc
                exact s_factor_213 Z hret hWF _ _ hw
              · have hw := hwf hc
                refine ac_aload_n Z.1 0 dX12_factor_176 rfl ?_
                refine r_geti (v := (M6 5)) Z.1 Z.2.1 5 (by decide) rfl fX12_207 rfl rfl dX12_factor_177 ?_
                refine ac_bipush (v := 23) Z.1 dX12_factor_180 (by decide) ?_
                obtain ⟨hwt, hwf⟩ := hw
                refine ac_icmp_gt (tgt := 213) Z.1 dX12_factor_182 (by decide) (fun hc => ?_) (fun hc => ?_)
                · have hw := hwt hc
                  exact s_factor_213 Z hret hWF _ _ hw
                · have hw := hwf hc
                  refine ac_aload_n Z.1 0 dX12_factor_185 rfl ?_
                  refine r_geti (v := (M6 5)) Z.1 Z.2.1 5 (by decide) rfl fX12_207 rfl rfl dX12_factor_186 ?_
                  refine ac_bipush (v := 19) Z.1 dX12_factor_189 (by decide) ?_
                  refine ac_isub Z.1 dX12_factor_191 ?_
                  refine ac_istore_n (lv' := [(2, .int ((M6 5) - 19)), (0, .ref (r_h g))]) Z.1 dX12_factor_192 (by decide) rfl ?_
                  refine ac_aload_n Z.1 1 dX12_factor_193 rfl ?_
                  refine r_callv (As := []) (st := []) Z kX12_pass lkX12_240 (by omega) rfl (so_pass    _ _ _ hw) rfl rfl (Nat.le_of_ble_eq_true rfl) dX12_factor_194 (fun M11 F11 hw => ?_)
                  refine ac_aload_n Z.1 1 dX12_factor_197 rfl ?_
                  refine ac_bipush (v := 7) Z.1 dX12_factor_198 (by decide) ?_
                  refine ac_aload_n Z.1 1 dX12_factor_200 rfl ?_
                  refine r_calli (As := []) (st := [.int 7, .ref (r_h g)]) Z kX12_object lkX12_324 (by omega) rfl (so_object    _ _ _ hw) rfl rfl (Nat.le_of_ble_eq_true rfl) dX12_factor_201 (fun r12 M13 F13 hw => ?_)
                  refine ac_iload_n Z.1 0 dX12_factor_204 rfl ?_
                  refine ac_iconst (v := 0) Z.1 dX12_factor_205 (by decide) ?_
                  refine r_calli (As := [.int 7, .int r12, .int ((M6 5) - 19), .int 0]) (st := []) Z kX12_put lkX12_301 (by omega) rfl (so_put   _ _ _ _ _ _ _ hw) rfl rfl (Nat.le_of_ble_eq_true rfl) dX12_factor_206 (fun r14 M15 F15 hw => ?_)
                  refine ac_istore_n (lv' := [(1, .int r14), (2, .int ((M6 5) - 19)), (0, .ref (r_h g))]) Z.1 dX12_factor_209 (by decide) rfl ?_
                  refine ac_goto (tgt := 236) Z.1 dX12_factor_210 (by decide) ?_
                  exact hret _ _ _ _ dX12_factor_236 hw
          · have hw := hwf hc
            refine ac_aload_n Z.1 0 dX12_factor_140 rfl ?_
            refine ac_bipush (v := 40) Z.1 dX12_factor_141 (by decide) ?_
            refine r_callv (As := [.int 40]) (st := []) Z kX12_opens lkX12_286 (by omega) rfl (so_opens   _ _ _ _ hw) rfl rfl (Nat.le_of_ble_eq_true rfl) dX12_factor_143 (fun M16 F16 hw => ?_)
            refine ac_aload_n Z.1 0 dX12_factor_146 rfl ?_
            refine r_callv (As := []) (st := []) Z kX12_whole lkX12_315 (by omega) rfl (so_whole hWF   _ _ _ hw) rfl rfl (Nat.le_of_ble_eq_true rfl) dX12_factor_147 (fun M17 F17 hw => ?_)
            refine ac_aload_n Z.1 0 dX12_factor_150 rfl ?_
            refine ac_bipush (v := 41) Z.1 dX12_factor_151 (by decide) ?_
            refine r_callv (As := [.int 41]) (st := []) Z kX12_closes lkX12_292 (by omega) rfl (so_closes   _ _ _ _ hw) rfl rfl (Nat.le_of_ble_eq_true rfl) dX12_factor_153 (fun M18 F18 hw => ?_)
            refine ac_goto (tgt := 236) Z.1 dX12_factor_156 (by decide) ?_
            exact hret _ _ _ _ dX12_factor_236 hw
        · have hw := hwf hc
          refine ac_aload_n Z.1 0 dX12_factor_78 rfl ?_
          refine r_geti (v := (M4 33)) Z.1 Z.2.1 33 (by decide) rfl fX12_249 rfl rfl dX12_factor_79 ?_
          refine ac_bipush (v := 20) Z.1 dX12_factor_82 (by decide) ?_
          obtain ⟨hwt, hwf⟩ := hw
          refine ac_icmp_ne (tgt := 91) Z.1 dX12_factor_84 (by decide) (fun hc => ?_) (fun hc => ?_)
          · have hw := hwt hc
            exact s_factor_91 Z hret hWF _ _ hw
          · have hw := hwf hc
            refine ac_aload_n Z.1 0 dX12_factor_87 rfl ?_
            refine r_callv (As := []) (st := []) Z kX12_fail lkX12_243 (by omega) rfl (so_fail    _ _ _ hw) rfl rfl (Nat.le_of_ble_eq_true rfl) dX12_factor_88 (fun M23 F23 hw => ?_)
            exact s_factor_91 Z hret hWF _ _ hw
      · have hw := hwf hc
        refine ac_aload_n Z.1 0 dX12_factor_43 rfl ?_
        refine ac_iconst (v := 1) Z.1 dX12_factor_44 (by decide) ?_
        refine r_calli (As := [.int 1]) (st := []) Z kX12_taken lkX12_274 (by omega) rfl (so_taken   _ _ _ _ hw) rfl rfl (Nat.le_of_ble_eq_true rfl) dX12_factor_45 (fun r24 M25 F25 hw => ?_)
        refine ac_istore_n (lv' := [(2, .int r24), (0, .ref (r_h g))]) Z.1 dX12_factor_48 (by decide) rfl ?_
        refine ac_aload_n Z.1 1 dX12_factor_49 rfl ?_
        refine ac_iconst (v := 2) Z.1 dX12_factor_50 (by decide) ?_
        refine ac_aload_n Z.1 1 dX12_factor_51 rfl ?_
        refine ac_iload_n Z.1 0 dX12_factor_52 rfl ?_
        refine ac_aload_n Z.1 1 dX12_factor_53 rfl ?_
        refine r_geti (v := (M25 47)) Z.1 Z.2.1 47 (by decide) rfl fX12_255 rfl rfl dX12_factor_54 ?_
        refine r_calli (As := [.int r24, .int (M25 47)]) (st := [.int 2, .ref (r_h g)]) Z kX12_told lkX12_312 (by omega) rfl (so_told   _ _ _ _ _ hw) rfl rfl (Nat.le_of_ble_eq_true rfl) dX12_factor_57 (fun r26 M27 F27 hw => ?_)
        refine ac_iconst (v := 0) Z.1 dX12_factor_60 (by decide) ?_
        refine ac_iconst (v := 0) Z.1 dX12_factor_61 (by decide) ?_
        refine r_calli (As := [.int 2, .int r26, .int 0, .int 0]) (st := []) Z kX12_put lkX12_301 (by omega) rfl (so_put   _ _ _ _ _ _ _ hw) rfl rfl (Nat.le_of_ble_eq_true rfl) dX12_factor_62 (fun r28 M29 F29 hw => ?_)
        refine ac_istore_n (lv' := [(1, .int r28), (2, .int r24), (0, .ref (r_h g))]) Z.1 dX12_factor_65 (by decide) rfl ?_
        refine ac_goto (tgt := 236) Z.1 dX12_factor_66 (by decide) ?_
        exact hret _ _ _ _ dX12_factor_236 hw
    · have hw := hwf hc
      refine ac_aload_n Z.1 0 dX12_factor_16 rfl ?_
      refine ac_iconst (v := 1) Z.1 dX12_factor_17 (by decide) ?_
      refine ac_aload_n Z.1 0 dX12_factor_18 rfl ?_
      refine r_geti (v := (M2 5)) Z.1 Z.2.1 5 (by decide) rfl fX12_207 rfl rfl dX12_factor_19 ?_
      refine ac_iconst (v := 0) Z.1 dX12_factor_22 (by decide) ?_
      refine ac_iconst (v := 0) Z.1 dX12_factor_23 (by decide) ?_
      refine r_calli (As := [.int 1, .int (M2 5), .int 0, .int 0]) (st := []) Z kX12_put lkX12_301 (by omega) rfl (so_put   _ _ _ _ _ _ _ hw) rfl rfl (Nat.le_of_ble_eq_true rfl) dX12_factor_24 (fun r30 M31 F31 hw => ?_)
      refine ac_istore_n (lv' := [(1, .int r30), (0, .ref (r_h g))]) Z.1 dX12_factor_27 (by decide) rfl ?_
      refine ac_aload_n Z.1 1 dX12_factor_28 rfl ?_
      refine r_callv (As := []) (st := []) Z kX12_pass lkX12_240 (by omega) rfl (so_pass    _ _ _ hw) rfl rfl (Nat.le_of_ble_eq_true rfl) dX12_factor_29 (fun M32 F32 hw => ?_)
      refine ac_goto (tgt := 236) Z.1 dX12_factor_32 (by decide) ?_
      exact hret _ _ _ _ dX12_factor_236 hw
  · have hw := hwf hc
    exact hret _ _ _ _ dX12_factor_7 hw
