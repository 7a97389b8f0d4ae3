def w_word4_3 (Q : (Nat → Int32) → (Nat → Nat → Int32) → Prop) : Nat → Int32 → Int32 → (Nat → Int32) → (Nat → Nat → Int32) → Prop
  | 0 => fun _ _ _ _ => False
  | n + 1 => fun a1 a2 M F => ((a2 < 0 → (Q M F)) ∧ (¬ a2 < 0 → (vp_in (M 1) 4020 ∧ (w_word4_3 Q n a1 (a2 + (-8)) (um M 1 ((M 1) + 1)) (uf F 0 (M 1) ((a1 >>> (a2 &&& 31)) &&& 255))))))
set_option maxRecDepth 20000 in
theorem s_word4_3 {x : ac_X} {g : r_S} {l : Launch} {Q : (Nat → Int32) → (Nat → Nat → Int32) → Prop} (Z : r_Cx x g l cX12_word4 3 (0)) (hret : r_RV x g 3 cX12_word4 Q) : ∀ (n : Nat) (a1 : Int32) (a2 : Int32) (M : Nat → Int32) (F : Nat → Nat → Int32), w_word4_3 Q n a1 a2 M F → ac_G x (r_R g) 3 (r_P g M F) 0 0 3 [(0, .ref (r_h g)), (1, .int a1), (2, .int a2)] [] := by
  intro n
  induction n with
  | zero => intro _ _ _ _ hw; exact hw.elim
  | succ n ih =>
    intro a1 a2 M F hw
    dsimp only [w_word4_3] at hw
    refine ac_iload_n Z.1 2 dX12_word4_3 rfl ?_
    obtain ⟨hwt, hwf⟩ := hw
    refine ac_if_lt (tgt := 39) Z.1 dX12_word4_4 (by decide) (fun hc => ?_) (fun hc => ?_)
    · have hw := hwt hc
      exact hret _ _ _ _ dX12_word4_39 hw
    · have hw := hwf hc
      refine ac_aload_n Z.1 0 dX12_word4_7 rfl ?_
      refine r_geta Z.1 Z.2.1 0 (by decide) rfl fX12_7 rfl dX12_word4_8 ?_
      refine ac_aload_n Z.1 0 dX12_word4_11 rfl ?_
      refine r_geti (v := (M 1)) Z.1 Z.2.1 1 (by decide) rfl fX12_159 rfl rfl dX12_word4_12 ?_
      refine ac_iload_n Z.1 1 dX12_word4_15 rfl ?_
      refine ac_iload_n Z.1 2 dX12_word4_16 rfl ?_
      refine ac_ishr Z.1 dX12_word4_17 rfl ?_
      refine ac_sipush (v := 255) Z.1 dX12_word4_18 (by decide) ?_
      refine ac_iand Z.1 dX12_word4_21 ?_
      obtain ⟨hb1, hw⟩ := hw
      refine r_ast Z.1 Z.2.1 0 0 4020 rfl rfl hb1 dX12_word4_22 ?_
      refine ac_aload_n Z.1 0 dX12_word4_23 rfl ?_
      refine ac_dup Z.1 dX12_word4_24 rfl ?_
      refine r_geti (v := (M 1)) Z.1 Z.2.1 1 (by decide) rfl fX12_159 rfl rfl dX12_word4_25 ?_
      refine ac_iconst (v := 1) Z.1 dX12_word4_28 (by decide) ?_
      refine ac_iadd Z.1 dX12_word4_29 ?_
      refine r_put Z.1 Z.2.1 1 (by decide) rfl rfl rfl fX12_159 rfl dX12_word4_30 ?_
      refine ac_iinc (w := (a2 + (-8))) (lv' := [(2, .int (a2 + (-8))), (0, .ref (r_h g)), (1, .int a1)]) Z.1 2 dX12_word4_33 rfl rfl (by decide) rfl ?_
      refine ac_goto (tgt := 3) Z.1 dX12_word4_36 (by decide) ?_
      refine ac_lv [1, 2, 0] rfl ?_
      exact ih _ _ _ _ hw
def w_word4 (p1 : Int32) (M : Nat → Int32) (F : Nat → Nat → Int32) (Q : (Nat → Int32) → (Nat → Nat → Int32) → Prop) : Prop := ∃ e3, w_word4_3 Q e3 p1 24 M F
set_option maxRecDepth 20000 in
theorem so_word4 {l : Launch} {g : r_S} (p1 : Int32) (M : Nat → Int32) (F : Nat → Nat → Int32) (Q : (Nat → Int32) → (Nat → Nat → Int32) → Prop) (hw : w_word4 p1 M F Q) : r_MetV l g yX12_word4 cX12_word4 3 (0) [.ref (r_h g), .int p1] M F Q := by
  refine r_MetV.of (by decide) rfl (Nat.le_of_ble_eq_true rfl) (fun x Z hret => ?_)
  show ac_G x (r_R g) 3 (r_P g M F) 0 0 0 [(0, .ref (r_h g)), (1, .int p1)] []
  refine ac_bipush (v := 24) Z.1 dX12_word4_0 (by decide) ?_
  refine ac_istore_n (lv' := [(2, .int 24), (0, .ref (r_h g)), (1, .int p1)]) Z.1 dX12_word4_2 (by decide) rfl ?_
  obtain ⟨n, hw⟩ := hw
  refine ac_lv [1, 2, 0] rfl ?_
  exact s_word4_3 Z hret n _ _ _ _ hw
def w_feed (p1 : Int32) (p2 : Int32) (p3 : Int32) (p4 : Int32) (p5 : Int32) (M : Nat → Int32) (F : Nat → Nat → Int32) (Q : Int32 → (Nat → Int32) → (Nat → Nat → Int32) → Prop) : Prop := (((M 1) + 20) ≤ 4000 → (w_word4 p1 M F (fun M1 F1 => (w_word4 p2 M1 F1 (fun M2 F2 => (w_word4 p3 M2 F2 (fun M3 F3 => (w_word4 p4 M3 F3 (fun M4 F4 => (w_word4 p5 M4 F4 (fun M5 F5 => (Q (M5 1) M5 F5)))))))))))) ∧ (¬ ((M 1) + 20) ≤ 4000 → (Q (-1) M F))
set_option maxRecDepth 20000 in
theorem so_feed {l : Launch} {g : r_S} (p1 : Int32) (p2 : Int32) (p3 : Int32) (p4 : Int32) (p5 : Int32) (M : Nat → Int32) (F : Nat → Nat → Int32) (Q : Int32 → (Nat → Int32) → (Nat → Nat → Int32) → Prop) (hw : w_feed p1 p2 p3 p4 p5 M F Q) : r_MetI l g yX12_feed cX12_feed 6 .int (1) [.ref (r_h g), .int p1, .int p2, .int p3, .int p4, .int p5] M F Q := by
  refine r_MetI.of (by decide) rfl (Nat.le_of_ble_eq_true rfl) (fun x Z hret => ?_)
  show ac_G x (r_R g) 6 (r_P g M F) 0 0 0 [(0, .ref (r_h g)), (1, .int p1), (2, .int p2), (3, .int p3), (4, .int p4), (5, .int p5)] []
  refine ac_aload_n Z.1 0 dX12_feed_0 rfl ?_
  refine r_geti (v := (M 1)) Z.1 Z.2.1 1 (by decide) rfl fX12_159 rfl rfl dX12_feed_1 ?_
  refine ac_bipush (v := 20) Z.1 dX12_feed_4 (by decide) ?_
  refine ac_iadd Z.1 dX12_feed_6 ?_
  refine ac_sipush (v := 4000) Z.1 dX12_feed_7 (by decide) ?_
  obtain ⟨hwt, hwf⟩ := hw
  refine ac_icmp_le (tgt := 15) Z.1 dX12_feed_10 (by decide) (fun hc => ?_) (fun hc => ?_)
  · have hw := hwt hc
    refine ac_aload_n Z.1 0 dX12_feed_15 rfl ?_
    refine ac_iload_n Z.1 1 dX12_feed_16 rfl ?_
    refine r_callv (As := [.int p1]) (st := []) Z kX12_word4 lkX12_162 (by omega) rfl (so_word4   _ _ _ _ hw) rfl rfl (Nat.le_of_ble_eq_true rfl) dX12_feed_17 (fun M1 F1 hw => ?_)
    refine ac_aload_n Z.1 0 dX12_feed_20 rfl ?_
    refine ac_iload_n Z.1 2 dX12_feed_21 rfl ?_
    refine r_callv (As := [.int p2]) (st := []) Z kX12_word4 lkX12_162 (by omega) rfl (so_word4   _ _ _ _ hw) rfl rfl (Nat.le_of_ble_eq_true rfl) dX12_feed_22 (fun M2 F2 hw => ?_)
    refine ac_aload_n Z.1 0 dX12_feed_25 rfl ?_
    refine ac_iload_n Z.1 3 dX12_feed_26 rfl ?_
    refine r_callv (As := [.int p3]) (st := []) Z kX12_word4 lkX12_162 (by omega) rfl (so_word4   _ _ _ _ hw) rfl rfl (Nat.le_of_ble_eq_true rfl) dX12_feed_27 (fun M3 F3 hw => ?_)
    refine ac_aload_n Z.1 0 dX12_feed_30 rfl ?_
    refine ac_iload Z.1 4 dX12_feed_31 rfl ?_
    refine r_callv (As := [.int p4]) (st := []) Z kX12_word4 lkX12_162 (by omega) rfl (so_word4   _ _ _ _ hw) rfl rfl (Nat.le_of_ble_eq_true rfl) dX12_feed_33 (fun M4 F4 hw => ?_)
    refine ac_aload_n Z.1 0 dX12_feed_36 rfl ?_
    refine ac_iload Z.1 5 dX12_feed_37 rfl ?_
    refine r_callv (As := [.int p5]) (st := []) Z kX12_word4 lkX12_162 (by omega) rfl (so_word4   _ _ _ _ hw) rfl rfl (Nat.le_of_ble_eq_true rfl) dX12_feed_39 (fun M5 F5 hw => ?_)
    refine ac_aload_n Z.1 0 dX12_feed_42 rfl ?_
    refine r_geti (v := (M5 1)) Z.1 Z.2.1 1 (by decide) rfl fX12_159 rfl rfl dX12_feed_43 ?_
    exact hret _ _ _ _ _ dX12_feed_46 rfl hw
  · have hw := hwf hc
    refine ac_iconst (v := (-1)) Z.1 dX12_feed_13 (by decide) ?_
    exact hret _ _ _ _ _ dX12_feed_14 rfl hw
def w_byteAt (p1 : Int32) (M : Nat → Int32) (F : Nat → Nat → Int32) (Q : Int32 → (Nat → Int32) → (Nat → Nat → Int32) → Prop) : Prop := ((M 2) ≤ p1 → (Q 0 M F)) ∧ (¬ (M 2) ≤ p1 → (vp_in p1 4020 ∧ (Q ((F 0) (p1).toNatClampNeg) M F)))
set_option maxRecDepth 20000 in
theorem so_byteAt {l : Launch} {g : r_S} (p1 : Int32) (M : Nat → Int32) (F : Nat → Nat → Int32) (Q : Int32 → (Nat → Int32) → (Nat → Nat → Int32) → Prop) (hw : w_byteAt p1 M F Q) : r_MetI l g yX12_byteAt cX12_byteAt 2 .int (0) [.ref (r_h g), .int p1] M F Q := by
  refine r_MetI.of (by decide) rfl (Nat.le_of_ble_eq_true rfl) (fun x Z hret => ?_)
  show ac_G x (r_R g) 2 (r_P g M F) 0 0 0 [(0, .ref (r_h g)), (1, .int p1)] []
  refine ac_iload_n Z.1 1 dX12_byteAt_0 rfl ?_
  refine ac_aload_n Z.1 0 dX12_byteAt_1 rfl ?_
  refine r_geti (v := (M 2)) Z.1 Z.2.1 2 (by decide) rfl fX12_166 rfl rfl dX12_byteAt_2 ?_
  obtain ⟨hwt, hwf⟩ := hw
  refine ac_icmp_ge (tgt := 17) Z.1 dX12_byteAt_5 (by decide) (fun hc => ?_) (fun hc => ?_)
  · have hw := hwt hc
    refine ac_iconst (v := 0) Z.1 dX12_byteAt_17 (by decide) ?_
    exact hret _ _ _ _ _ dX12_byteAt_18 rfl hw
  · have hw := hwf hc
    refine ac_aload_n Z.1 0 dX12_byteAt_8 rfl ?_
    refine r_geta Z.1 Z.2.1 0 (by decide) rfl fX12_7 rfl dX12_byteAt_9 ?_
    refine ac_iload_n Z.1 1 dX12_byteAt_12 rfl ?_
    obtain ⟨hb1, hw⟩ := hw
    refine r_ald (v := ((F 0) (p1).toNatClampNeg)) Z.1 Z.2.1 0 0 4020 rfl rfl hb1 rfl dX12_byteAt_13 ?_
    refine ac_goto (tgt := 18) Z.1 dX12_byteAt_14 (by decide) ?_
    exact hret _ _ _ _ _ dX12_byteAt_18 rfl hw
def w_isSmall (p0 : Int32) (M : Nat → Int32) (F : Nat → Nat → Int32) (Q : Int32 → (Nat → Int32) → (Nat → Nat → Int32) → Prop) : Prop := (p0 < 97 → (Q 0 M F)) ∧ (¬ p0 < 97 → ((122 < p0 → (Q 0 M F)) ∧ (¬ 122 < p0 → (Q 1 M F))))
set_option maxRecDepth 20000 in
theorem so_isSmall {l : Launch} {g : r_S} (p0 : Int32) (M : Nat → Int32) (F : Nat → Nat → Int32) (Q : Int32 → (Nat → Int32) → (Nat → Nat → Int32) → Prop) (hw : w_isSmall p0 M F Q) : r_MetI l g yX12_isSmall cX12_isSmall 1 .boolean (0) [.int p0] M F Q := by
  refine r_MetI.of (by decide) rfl (Nat.le_of_ble_eq_true rfl) (fun x Z hret => ?_)
  show ac_G x (r_R g) 1 (r_P g M F) 0 0 0 [(0, .int p0)] []
  refine ac_iload_n Z.1 0 dX12_isSmall_0 rfl ?_
  refine ac_bipush (v := 97) Z.1 dX12_isSmall_1 (by decide) ?_
  obtain ⟨hwt, hwf⟩ := hw
  refine ac_icmp_lt (tgt := 16) Z.1 dX12_isSmall_3 (by decide) (fun hc => ?_) (fun hc => ?_)
  · have hw := hwt hc
    refine ac_iconst (v := 0) Z.1 dX12_isSmall_16 (by decide) ?_
    exact hret _ _ _ _ _ dX12_isSmall_17 rfl hw
  · have hw := hwf hc
    refine ac_iload_n Z.1 0 dX12_isSmall_6 rfl ?_
    refine ac_bipush (v := 122) Z.1 dX12_isSmall_7 (by decide) ?_
    obtain ⟨hwt, hwf⟩ := hw
    refine ac_icmp_gt (tgt := 16) Z.1 dX12_isSmall_9 (by decide) (fun hc => ?_) (fun hc => ?_)
    · have hw := hwt hc
      refine ac_iconst (v := 0) Z.1 dX12_isSmall_16 (by decide) ?_
      exact hret _ _ _ _ _ dX12_isSmall_17 rfl hw
    · have hw := hwf hc
      refine ac_iconst (v := 1) Z.1 dX12_isSmall_12 (by decide) ?_
      refine ac_goto (tgt := 17) Z.1 dX12_isSmall_13 (by decide) ?_
      exact hret _ _ _ _ _ dX12_isSmall_17 rfl hw
def w_isGreat (p0 : Int32) (M : Nat → Int32) (F : Nat → Nat → Int32) (Q : Int32 → (Nat → Int32) → (Nat → Nat → Int32) → Prop) : Prop := (p0 < 65 → (Q 0 M F)) ∧ (¬ p0 < 65 → ((90 < p0 → (Q 0 M F)) ∧ (¬ 90 < p0 → (Q 1 M F))))
set_option maxRecDepth 20000 in
theorem so_isGreat {l : Launch} {g : r_S} (p0 : Int32) (M : Nat → Int32) (F : Nat → Nat → Int32) (Q : Int32 → (Nat → Int32) → (Nat → Nat → Int32) → Prop) (hw : w_isGreat p0 M F Q) : r_MetI l g yX12_isGreat cX12_isGreat 1 .boolean (0) [.int p0] M F Q := by
  refine r_MetI.of (by decide) rfl (Nat.le_of_ble_eq_true rfl) (fun x Z hret => ?_)
  show ac_G x (r_R g) 1 (r_P g M F) 0 0 0 [(0, .int p0)] []
  refine ac_iload_n Z.1 0 dX12_isGreat_0 rfl ?_
  refine ac_bipush (v := 65) Z.1 dX12_isGreat_1 (by decide) ?_
  obtain ⟨hwt, hwf⟩ := hw
  refine ac_icmp_lt (tgt := 16) Z.1 dX12_isGreat_3 (by decide) (fun hc => ?_) (fun hc => ?_)
  · have hw := hwt hc
    refine ac_iconst (v := 0) Z.1 dX12_isGreat_16 (by decide) ?_
    exact hret _ _ _ _ _ dX12_isGreat_17 rfl hw
  · have hw := hwf hc
    refine ac_iload_n Z.1 0 dX12_isGreat_6 rfl ?_
    refine ac_bipush (v := 90) Z.1 dX12_isGreat_7 (by decide) ?_
    obtain ⟨hwt, hwf⟩ := hw
    refine ac_icmp_gt (tgt := 16) Z.1 dX12_isGreat_9 (by decide) (fun hc => ?_) (fun hc => ?_)
    · have hw := hwt hc
      refine ac_iconst (v := 0) Z.1 dX12_isGreat_16 (by decide) ?_
      exact hret _ _ _ _ _ dX12_isGreat_17 rfl hw
    · have hw := hwf hc
      refine ac_iconst (v := 1) Z.1 dX12_isGreat_12 (by decide) ?_
      refine ac_goto (tgt := 17) Z.1 dX12_isGreat_13 (by decide) ?_
      exact hret _ _ _ _ _ dX12_isGreat_17 rfl hw
def w_isDigit (p0 : Int32) (M : Nat → Int32) (F : Nat → Nat → Int32) (Q : Int32 → (Nat → Int32) → (Nat → Nat → Int32) → Prop) : Prop := (p0 < 48 → (Q 0 M F)) ∧ (¬ p0 < 48 → ((57 < p0 → (Q 0 M F)) ∧ (¬ 57 < p0 → (Q 1 M F))))
set_option maxRecDepth 20000 in
theorem so_isDigit {l : Launch} {g : r_S} (p0 : Int32) (M : Nat → Int32) (F : Nat → Nat → Int32) (Q : Int32 → (Nat → Int32) → (Nat → Nat → Int32) → Prop) (hw : w_isDigit p0 M F Q) : r_MetI l g yX12_isDigit cX12_isDigit 1 .boolean (0) [.int p0] M F Q := by
  refine r_MetI.of (by decide) rfl (Nat.le_of_ble_eq_true rfl) (fun x Z hret => ?_)
  show ac_G x (r_R g) 1 (r_P g M F) 0 0 0 [(0, .int p0)] []
  refine ac_iload_n Z.1 0 dX12_isDigit_0 rfl ?_
  refine ac_bipush (v := 48) Z.1 dX12_isDigit_1 (by decide) ?_
  obtain ⟨hwt, hwf⟩ := hw
  refine ac_icmp_lt (tgt := 16) Z.1 dX12_isDigit_3 (by decide) (fun hc => ?_) (fun hc => ?_)
  · have hw := hwt hc
    refine ac_iconst (v := 0) Z.1 dX12_isDigit_16 (by decide) ?_
    exact hret _ _ _ _ _ dX12_isDigit_17 rfl hw
  · have hw := hwf hc
    refine ac_iload_n Z.1 0 dX12_isDigit_6 rfl ?_
    refine ac_bipush (v := 57) Z.1 dX12_isDigit_7 (by decide) ?_
    obtain ⟨hwt, hwf⟩ := hw
    refine ac_icmp_gt (tgt := 16) Z.1 dX12_isDigit_9 (by decide) (fun hc => ?_) (fun hc => ?_)
    · have hw := hwt hc
      refine ac_iconst (v := 0) Z.1 dX12_isDigit_16 (by decide) ?_
      exact hret _ _ _ _ _ dX12_isDigit_17 rfl hw
    · have hw := hwf hc
      refine ac_iconst (v := 1) Z.1 dX12_isDigit_12 (by decide) ?_
      refine ac_goto (tgt := 17) Z.1 dX12_isDigit_13 (by decide) ?_
      exact hret _ _ _ _ _ dX12_isDigit_17 rfl hw
def w_isOfWord (p0 : Int32) (M : Nat → Int32) (F : Nat → Nat → Int32) (Q : Int32 → (Nat → Int32) → (Nat → Nat → Int32) → Prop) : Prop := w_isSmall p0 M F (fun r1 M2 F2 => ((¬ r1 = 0 → (Q 1 M2 F2)) ∧ (r1 = 0 → (w_isGreat p0 M2 F2 (fun r3 M4 F4 => ((¬ r3 = 0 → (Q 1 M4 F4)) ∧ (r3 = 0 → (w_isDigit p0 M4 F4 (fun r5 M6 F6 => ((r5 = 0 → (Q 0 M6 F6)) ∧ (¬ r5 = 0 → (Q 1 M6 F6))))))))))))
set_option maxRecDepth 20000 in
theorem so_isOfWord {l : Launch} {g : r_S} (p0 : Int32) (M : Nat → Int32) (F : Nat → Nat → Int32) (Q : Int32 → (Nat → Int32) → (Nat → Nat → Int32) → Prop) (hw : w_isOfWord p0 M F Q) : r_MetI l g yX12_isOfWord cX12_isOfWord 1 .boolean (1) [.int p0] M F Q := by
  refine r_MetI.of (by decide) rfl (Nat.le_of_ble_eq_true rfl) (fun x Z hret => ?_)
  show ac_G x (r_R g) 1 (r_P g M F) 0 0 0 [(0, .int p0)] []
  refine ac_iload_n Z.1 0 dX12_isOfWord_0 rfl ?_
  refine r_calls (As := [.int p0]) (st := []) Z kX12_isSmall lkX12_169 (by omega) (so_isSmall   _ _ _ _ hw) rfl rfl (Nat.le_of_ble_eq_true rfl) dX12_isOfWord_1 (fun r1 M2 F2 hw => ?_)
  obtain ⟨hwt, hwf⟩ := hw
  refine ac_if_ne (tgt := 21) Z.1 dX12_isOfWord_4 (by decide) (fun hc => ?_) (fun hc => ?_)
  · have hw := hwt hc
    refine ac_iconst (v := 1) Z.1 dX12_isOfWord_21 (by decide) ?_
    refine ac_goto (tgt := 26) Z.1 dX12_isOfWord_22 (by decide) ?_
    exact hret _ _ _ _ _ dX12_isOfWord_26 rfl hw
  · have hw := hwf hc
    refine ac_iload_n Z.1 0 dX12_isOfWord_7 rfl ?_
    refine r_calls (As := [.int p0]) (st := []) Z kX12_isGreat lkX12_173 (by omega) (so_isGreat   _ _ _ _ hw) rfl rfl (Nat.le_of_ble_eq_true rfl) dX12_isOfWord_8 (fun r3 M4 F4 hw => ?_)
    obtain ⟨hwt, hwf⟩ := hw
    refine ac_if_ne (tgt := 21) Z.1 dX12_isOfWord_11 (by decide) (fun hc => ?_) (fun hc => ?_)
    · have hw := hwt hc
      refine ac_iconst (v := 1) Z.1 dX12_isOfWord_21 (by decide) ?_
      refine ac_goto (tgt := 26) Z.1 dX12_isOfWord_22 (by decide) ?_
      exact hret _ _ _ _ _ dX12_isOfWord_26 rfl hw
    · have hw := hwf hc
      refine ac_iload_n Z.1 0 dX12_isOfWord_14 rfl ?_
      refine r_calls (As := [.int p0]) (st := []) Z kX12_isDigit lkX12_176 (by omega) (so_isDigit   _ _ _ _ hw) rfl rfl (Nat.le_of_ble_eq_true rfl) dX12_isOfWord_15 (fun r5 M6 F6 hw => ?_)
      obtain ⟨hwt, hwf⟩ := hw
      refine ac_if_eq (tgt := 25) Z.1 dX12_isOfWord_18 (by decide) (fun hc => ?_) (fun hc => ?_)
      · have hw := hwt hc
        refine ac_iconst (v := 0) Z.1 dX12_isOfWord_25 (by decide) ?_
        exact hret _ _ _ _ _ dX12_isOfWord_26 rfl hw
      · have hw := hwf hc
        refine ac_iconst (v := 1) Z.1 dX12_isOfWord_21 (by decide) ?_
        refine ac_goto (tgt := 26) Z.1 dX12_isOfWord_22 (by decide) ?_
        exact hret _ _ _ _ _ dX12_isOfWord_26 rfl hw
def w_name_80 (K12 : (Int32 → Int32 → (Nat → Int32) → (Nat → Nat → Int32) → Prop)) (Q : Int32 → (Nat → Int32) → (Nat → Nat → Int32) → Prop) (a1 : Int32) (a2 : Int32) (M : Nat → Int32) (F : Nat → Nat → Int32) : Prop := K12 a1 (a2 + 1) M F
set_option maxRecDepth 20000 in
theorem s_name_80 {x : ac_X} {g : r_S} {l : Launch} {K12 : (Int32 → Int32 → (Nat → Int32) → (Nat → Nat → Int32) → Prop)} {Q : Int32 → (Nat → Int32) → (Nat → Nat → Int32) → Prop} (Z : r_Cx x g l cX12_name 4 (0)) (hret : r_RI x g 4 cX12_name .int Q) (hK12 : ∀ (a1 : Int32) (a2 : Int32) (M : Nat → Int32) (F : Nat → Nat → Int32), K12 a1 a2 M F → ac_G x (r_R g) 4 (r_P g M F) 0 0 12 [(0, .ref (r_h g)), (1, .int a1), (2, .int a2)] []) (a1 : Int32) (a2 : Int32) (M : Nat → Int32) (F : Nat → Nat → Int32) (hw : w_name_80 K12 Q a1 a2 M F) : ac_G x (r_R g) 4 (r_P g M F) 0 0 80 [(0, .ref (r_h g)), (1, .int a1), (2, .int a2)] [] := by
  refine ac_iinc (w := (a2 + 1)) (lv' := [(2, .int (a2 + 1)), (0, .ref (r_h g)), (1, .int a1)]) Z.1 2 dX12_name_80 rfl rfl (by decide) rfl ?_
  refine ac_goto (tgt := 12) Z.1 dX12_name_83 (by decide) ?_
  refine ac_lv [1, 2, 0] rfl ?_
  exact hK12 _ _ _ _ hw
def w_name_73 (K12 : (Int32 → Int32 → (Nat → Int32) → (Nat → Nat → Int32) → Prop)) (Q : Int32 → (Nat → Int32) → (Nat → Nat → Int32) → Prop) (a1 : Int32) (a2 : Int32) (a3 : Int32) (M : Nat → Int32) (F : Nat → Nat → Int32) : Prop := (¬ a3 = a1 → (w_name_80 K12 Q a1 a2 M F)) ∧ (a3 = a1 → (Q a2 M F))
set_option maxRecDepth 20000 in
theorem s_name_73 {x : ac_X} {g : r_S} {l : Launch} {K12 : (Int32 → Int32 → (Nat → Int32) → (Nat → Nat → Int32) → Prop)} {Q : Int32 → (Nat → Int32) → (Nat → Nat → Int32) → Prop} (Z : r_Cx x g l cX12_name 4 (0)) (hret : r_RI x g 4 cX12_name .int Q) (hK12 : ∀ (a1 : Int32) (a2 : Int32) (M : Nat → Int32) (F : Nat → Nat → Int32), K12 a1 a2 M F → ac_G x (r_R g) 4 (r_P g M F) 0 0 12 [(0, .ref (r_h g)), (1, .int a1), (2, .int a2)] []) (a1 : Int32) (a2 : Int32) (a3 : Int32) (M : Nat → Int32) (F : Nat → Nat → Int32) (hw : w_name_73 K12 Q a1 a2 a3 M F) : ac_G x (r_R g) 4 (r_P g M F) 0 0 73 [(0, .ref (r_h g)), (1, .int a1), (2, .int a2), (3, .int a3)] [] := by
  refine ac_iload_n Z.1 3 dX12_name_73 rfl ?_
  refine ac_iload_n Z.1 1 dX12_name_74 rfl ?_
  obtain ⟨hwt, hwf⟩ := hw
  refine ac_icmp_ne (tgt := 80) Z.1 dX12_name_75 (by decide) (fun hc => ?_) (fun hc => ?_)
  · have hw := hwt hc
    refine ac_lv [0, 1, 2] rfl ?_
    exact s_name_80 Z hret hK12 _ _ _ _ hw
  · have hw := hwf hc
    refine ac_iload_n Z.1 2 dX12_name_78 rfl ?_
    exact hret _ _ _ _ _ dX12_name_79 rfl hw
def w_name_35 (K12 : (Int32 → Int32 → (Nat → Int32) → (Nat → Nat → Int32) → Prop)) (Q : Int32 → (Nat → Int32) → (Nat → Nat → Int32) → Prop) : Nat → Int32 → Int32 → Int32 → (Nat → Int32) → (Nat → Nat → Int32) → Prop
  | 0 => fun _ _ _ _ _ => False
  | n + 1 => fun a1 a2 a3 M F => ((a1 ≤ a3 → (w_name_73 K12 Q a1 a2 a3 M F)) ∧ (¬ a1 ≤ a3 → (vp_in a2 2100 ∧ (vp_in (((F 7) (a2).toNatClampNeg) + a3) 4020 ∧ (∀ v8, v8 = ((F 0) ((((F 7) (a2).toNatClampNeg) + a3)).toNatClampNeg) → (vp_in ((M 6) + a3) 4020 ∧ ((¬ v8 = ((F 0) (((M 6) + a3)).toNatClampNeg) → (w_name_73 K12 Q a1 a2 a3 M F)) ∧ (v8 = ((F 0) (((M 6) + a3)).toNatClampNeg) → (w_name_35 K12 Q n a1 a2 (a3 + 1) M F)))))))))
set_option maxRecDepth 20000 in
theorem s_name_35 {x : ac_X} {g : r_S} {l : Launch} {K12 : (Int32 → Int32 → (Nat → Int32) → (Nat → Nat → Int32) → Prop)} {Q : Int32 → (Nat → Int32) → (Nat → Nat → Int32) → Prop} (Z : r_Cx x g l cX12_name 4 (0)) (hret : r_RI x g 4 cX12_name .int Q) (hK12 : ∀ (a1 : Int32) (a2 : Int32) (M : Nat → Int32) (F : Nat → Nat → Int32), K12 a1 a2 M F → ac_G x (r_R g) 4 (r_P g M F) 0 0 12 [(0, .ref (r_h g)), (1, .int a1), (2, .int a2)] []) : ∀ (n : Nat) (a1 : Int32) (a2 : Int32) (a3 : Int32) (M : Nat → Int32) (F : Nat → Nat → Int32), w_name_35 K12 Q n a1 a2 a3 M F → ac_G x (r_R g) 4 (r_P g M F) 0 0 35 [(0, .ref (r_h g)), (1, .int a1), (2, .int a2), (3, .int a3)] [] := by
  intro n
  induction n with
  | zero => intro _ _ _ _ _ hw; exact hw.elim
  | succ n ih =>
    intro a1 a2 a3 M F hw
    dsimp only [w_name_35] at hw
    refine ac_iload_n Z.1 3 dX12_name_35 rfl ?_
    refine ac_iload_n Z.1 1 dX12_name_36 rfl ?_
    obtain ⟨hwt, hwf⟩ := hw
    refine ac_icmp_ge (tgt := 73) Z.1 dX12_name_37 (by decide) (fun hc => ?_) (fun hc => ?_)
    · have hw := hwt hc
      exact s_name_73 Z hret hK12 _ _ _ _ _ hw
    · have hw := hwf hc
      refine ac_aload_n Z.1 0 dX12_name_40 rfl ?_
      refine r_geta Z.1 Z.2.1 0 (by decide) rfl fX12_7 rfl dX12_name_41 ?_
      refine ac_aload_n Z.1 0 dX12_name_44 rfl ?_
      refine r_geta Z.1 Z.2.1 7 (by decide) rfl fX12_13 rfl dX12_name_45 ?_
      refine ac_iload_n Z.1 2 dX12_name_48 rfl ?_
      obtain ⟨hb6, hw⟩ := hw
      refine r_ald (v := ((F 7) (a2).toNatClampNeg)) Z.1 Z.2.1 1 7 2100 rfl rfl hb6 rfl dX12_name_49 ?_
      refine ac_iload_n Z.1 3 dX12_name_50 rfl ?_
      refine ac_iadd Z.1 dX12_name_51 ?_
      obtain ⟨hb7, hw⟩ := hw
      refine r_ald (v := ((F 0) ((((F 7) (a2).toNatClampNeg) + a3)).toNatClampNeg)) Z.1 Z.2.1 0 0 4020 rfl rfl hb7 rfl dX12_name_52 ?_
      refine ac_topi (fun v8 hv8 => ?_)
      have hw := hw v8 hv8
      refine ac_aload_n Z.1 0 dX12_name_53 rfl ?_
      refine r_geta Z.1 Z.2.1 0 (by decide) rfl fX12_7 rfl dX12_name_54 ?_
      refine ac_aload_n Z.1 0 dX12_name_57 rfl ?_
      refine r_geti (v := (M 6)) Z.1 Z.2.1 6 (by decide) rfl fX12_182 rfl rfl dX12_name_58 ?_
      refine ac_iload_n Z.1 3 dX12_name_61 rfl ?_
      refine ac_iadd Z.1 dX12_name_62 ?_
      obtain ⟨hb9, hw⟩ := hw
      refine r_ald (v := ((F 0) (((M 6) + a3)).toNatClampNeg)) Z.1 Z.2.1 0 0 4020 rfl rfl hb9 rfl dX12_name_63 ?_
      obtain ⟨hwt, hwf⟩ := hw
      refine ac_icmp_ne (tgt := 73) Z.1 dX12_name_64 (by decide) (fun hc => ?_) (fun hc => ?_)
      · have hw := hwt hc
        exact s_name_73 Z hret hK12 _ _ _ _ _ hw
      · have hw := hwf hc
        refine ac_iinc (w := (a3 + 1)) (lv' := [(3, .int (a3 + 1)), (0, .ref (r_h g)), (1, .int a1), (2, .int a2)]) Z.1 3 dX12_name_67 rfl rfl (by decide) rfl ?_
        refine ac_goto (tgt := 35) Z.1 dX12_name_70 (by decide) ?_
        refine ac_lv [1, 2, 3, 0] rfl ?_
        exact ih _ _ _ _ _ hw
def w_name_12 (Q : Int32 → (Nat → Int32) → (Nat → Nat → Int32) → Prop) : Nat → Int32 → Int32 → (Nat → Int32) → (Nat → Nat → Int32) → Prop
  | 0 => fun _ _ _ _ => False
  | n + 1 => fun a1 a2 M F => (((M 12) ≤ a2 → (vp_in (M 12) 2100 ∧ (vp_in (M 12) 2100 ∧ (vp_in (M 12) 2100 ∧ (vp_in (M 12) 2100 ∧ (Q (((M 12) + 1) - 1) (um M 12 ((M 12) + 1)) (uf (uf (uf (uf F 7 (M 12) (M 6)) 8 (M 12) a1) 9 (M 12) (-1)) 11 (M 12) (-1)))))))) ∧ (¬ (M 12) ≤ a2 → (vp_in a2 2100 ∧ ((((F 8) (a2).toNatClampNeg) = a1 → (∃ e35, w_name_35 (w_name_12 Q n) Q e35 a1 a2 0 M F)) ∧ (¬ ((F 8) (a2).toNatClampNeg) = a1 → (w_name_80 (w_name_12 Q n) Q a1 a2 M F))))))
set_option maxRecDepth 20000 in
theorem s_name_12 {x : ac_X} {g : r_S} {l : Launch} {Q : Int32 → (Nat → Int32) → (Nat → Nat → Int32) → Prop} (Z : r_Cx x g l cX12_name 4 (0)) (hret : r_RI x g 4 cX12_name .int Q) : ∀ (n : Nat) (a1 : Int32) (a2 : Int32) (M : Nat → Int32) (F : Nat → Nat → Int32), w_name_12 Q n a1 a2 M F → ac_G x (r_R g) 4 (r_P g M F) 0 0 12 [(0, .ref (r_h g)), (1, .int a1), (2, .int a2)] [] := by
  intro n
  induction n with
  | zero => intro _ _ _ _ hw; exact hw.elim
  | succ n ih =>
    intro a1 a2 M F hw
    dsimp only [w_name_12] at hw
    refine ac_iload_n Z.1 2 dX12_name_12 rfl ?_
    refine ac_aload_n Z.1 0 dX12_name_13 rfl ?_
    refine r_geti (v := (M 12)) Z.1 Z.2.1 12 (by decide) rfl fX12_221 rfl rfl dX12_name_14 ?_
    obtain ⟨hwt, hwf⟩ := hw
    refine ac_icmp_ge (tgt := 86) Z.1 dX12_name_17 (by decide) (fun hc => ?_) (fun hc => ?_)
    · have hw := hwt hc
      refine ac_aload_n Z.1 0 dX12_name_86 rfl ?_
      refine r_geta Z.1 Z.2.1 7 (by decide) rfl fX12_13 rfl dX12_name_87 ?_
      refine ac_aload_n Z.1 0 dX12_name_90 rfl ?_
      refine r_geti (v := (M 12)) Z.1 Z.2.1 12 (by decide) rfl fX12_221 rfl rfl dX12_name_91 ?_
      refine ac_aload_n Z.1 0 dX12_name_94 rfl ?_
      refine r_geti (v := (M 6)) Z.1 Z.2.1 6 (by decide) rfl fX12_182 rfl rfl dX12_name_95 ?_
      obtain ⟨hb1, hw⟩ := hw
      refine r_ast Z.1 Z.2.1 1 7 2100 rfl rfl hb1 dX12_name_98 ?_
      refine ac_aload_n Z.1 0 dX12_name_99 rfl ?_
      refine r_geta Z.1 Z.2.1 8 (by decide) rfl fX12_16 rfl dX12_name_100 ?_
      refine ac_aload_n Z.1 0 dX12_name_103 rfl ?_
      refine r_geti (v := (M 12)) Z.1 Z.2.1 12 (by decide) rfl fX12_221 rfl rfl dX12_name_104 ?_
      refine ac_iload_n Z.1 1 dX12_name_107 rfl ?_
      obtain ⟨hb2, hw⟩ := hw
      refine r_ast Z.1 Z.2.1 2 8 2100 rfl rfl hb2 dX12_name_108 ?_
      refine ac_aload_n Z.1 0 dX12_name_109 rfl ?_
      refine r_geta Z.1 Z.2.1 9 (by decide) rfl fX12_19 rfl dX12_name_110 ?_
      refine ac_aload_n Z.1 0 dX12_name_113 rfl ?_
      refine r_geti (v := (M 12)) Z.1 Z.2.1 12 (by decide) rfl fX12_221 rfl rfl dX12_name_114 ?_
      refine ac_iconst (v := (-1)) Z.1 dX12_name_117 (by decide) ?_
      obtain ⟨hb3, hw⟩ := hw
      refine r_ast Z.1 Z.2.1 3 9 2100 rfl rfl hb3 dX12_name_118 ?_
      refine ac_aload_n Z.1 0 dX12_name_119 rfl ?_
      refine r_geta Z.1 Z.2.1 11 (by decide) rfl fX12_25 rfl dX12_name_120 ?_
      refine ac_aload_n Z.1 0 dX12_name_123 rfl ?_
      refine r_geti (v := (M 12)) Z.1 Z.2.1 12 (by decide) rfl fX12_221 rfl rfl dX12_name_124 ?_
      refine ac_iconst (v := (-1)) Z.1 dX12_name_127 (by decide) ?_
      obtain ⟨hb4, hw⟩ := hw
      refine r_ast Z.1 Z.2.1 5 11 2100 rfl rfl hb4 dX12_name_128 ?_
      refine ac_aload_n Z.1 0 dX12_name_129 rfl ?_
      refine ac_dup Z.1 dX12_name_130 rfl ?_
      refine r_geti (v := (M 12)) Z.1 Z.2.1 12 (by decide) rfl fX12_221 rfl rfl dX12_name_131 ?_
      refine ac_iconst (v := 1) Z.1 dX12_name_134 (by decide) ?_
      refine ac_iadd Z.1 dX12_name_135 ?_
      refine r_put Z.1 Z.2.1 12 (by decide) rfl rfl rfl fX12_221 rfl dX12_name_136 ?_
      refine ac_aload_n Z.1 0 dX12_name_139 rfl ?_
      refine r_geti (v := ((M 12) + 1)) Z.1 Z.2.1 12 (by decide) rfl fX12_221 rfl rfl dX12_name_140 ?_
      refine ac_iconst (v := 1) Z.1 dX12_name_143 (by decide) ?_
      refine ac_isub Z.1 dX12_name_144 ?_
      exact hret _ _ _ _ _ dX12_name_145 rfl hw
    · have hw := hwf hc
      refine ac_aload_n Z.1 0 dX12_name_20 rfl ?_
      refine r_geta Z.1 Z.2.1 8 (by decide) rfl fX12_16 rfl dX12_name_21 ?_
      refine ac_iload_n Z.1 2 dX12_name_24 rfl ?_
      obtain ⟨hb5, hw⟩ := hw
      refine r_ald (v := ((F 8) (a2).toNatClampNeg)) Z.1 Z.2.1 2 8 2100 rfl rfl hb5 rfl dX12_name_25 ?_
      refine ac_iload_n Z.1 1 dX12_name_26 rfl ?_
      obtain ⟨hwt, hwf⟩ := hw
      refine ac_icmp_eq (tgt := 33) Z.1 dX12_name_27 (by decide) (fun hc => ?_) (fun hc => ?_)
      · have hw := hwt hc
        refine ac_iconst (v := 0) Z.1 dX12_name_33 (by decide) ?_
        refine ac_istore_n (lv' := [(3, .int 0), (0, .ref (r_h g)), (1, .int a1), (2, .int a2)]) Z.1 dX12_name_34 (by decide) rfl ?_
        obtain ⟨n, hw⟩ := hw
        refine ac_lv [1, 2, 3, 0] rfl ?_
        exact s_name_35 Z hret ih n _ _ _ _ _ hw
      · have hw := hwf hc
        refine ac_goto (tgt := 80) Z.1 dX12_name_30 (by decide) ?_
        exact s_name_80 Z hret ih _ _ _ _ hw
def w_name (M : Nat → Int32) (F : Nat → Nat → Int32) (Q : Int32 → (Nat → Int32) → (Nat → Nat → Int32) → Prop) : Prop := ∃ e12, w_name_12 Q e12 ((M 3) - (M 6)) 0 M F
set_option maxRecDepth 20000 in
theorem so_name {l : Launch} {g : r_S} (M : Nat → Int32) (F : Nat → Nat → Int32) (Q : Int32 → (Nat → Int32) → (Nat → Nat → Int32) → Prop) (hw : w_name  M F Q) : r_MetI l g yX12_name cX12_name 4 .int (0) [.ref (r_h g)] M F Q := by
  refine r_MetI.of (by decide) rfl (Nat.le_of_ble_eq_true rfl) (fun x Z hret => ?_)
  show ac_G x (r_R g) 4 (r_P g M F) 0 0 0 [(0, .ref (r_h g))] []
  refine ac_aload_n Z.1 0 dX12_name_0 rfl ?_
  refine r_geti (v := (M 3)) Z.1 Z.2.1 3 (by decide) rfl fX12_179 rfl rfl dX12_name_1 ?_
  refine ac_aload_n Z.1 0 dX12_name_4 rfl ?_
  refine r_geti (v := (M 6)) Z.1 Z.2.1 6 (by decide) rfl fX12_182 rfl rfl dX12_name_5 ?_
  refine ac_isub Z.1 dX12_name_8 ?_
  refine ac_istore_n (lv' := [(1, .int ((M 3) - (M 6))), (0, .ref (r_h g))]) Z.1 dX12_name_9 (by decide) rfl ?_
  refine ac_iconst (v := 0) Z.1 dX12_name_10 (by decide) ?_
  refine ac_istore_n (lv' := [(2, .int 0), (1, .int ((M 3) - (M 6))), (0, .ref (r_h g))]) Z.1 dX12_name_11 (by decide) rfl ?_
  obtain ⟨n, hw⟩ := hw
  refine ac_lv [2, 1, 0] rfl ?_
  exact s_name_12 Z hret n _ _ _ _ hw
def w_put (p1 : Int32) (p2 : Int32) (p3 : Int32) (p4 : Int32) (M : Nat → Int32) (F : Nat → Nat → Int32) (Q : Int32 → (Nat → Int32) → (Nat → Nat → Int32) → Prop) : Prop := vp_in ((9000 * (M 27)) + (M 29)) 18000 ∧ (vp_in ((9000 * (M 27)) + (M 29)) 18000 ∧ (vp_in ((9000 * (M 27)) + (M 29)) 18000 ∧ (vp_in ((9000 * (M 27)) + (M 29)) 18000 ∧ (vp_in ((9000 * (M 27)) + (M 29)) 18000 ∧ (Q ((9000 * (M 27)) + (M 29)) (um M 29 ((M 29) + 1)) (uf (uf (uf (uf (uf F 13 ((9000 * (M 27)) + (M 29)) p1) 14 ((9000 * (M 27)) + (M 29)) p2) 15 ((9000 * (M 27)) + (M 29)) p3) 16 ((9000 * (M 27)) + (M 29)) p4) 17 ((9000 * (M 27)) + (M 29)) (-1)))))))
set_option maxRecDepth 20000 in
theorem so_put {l : Launch} {g : r_S} (p1 : Int32) (p2 : Int32) (p3 : Int32) (p4 : Int32) (M : Nat → Int32) (F : Nat → Nat → Int32) (Q : Int32 → (Nat → Int32) → (Nat → Nat → Int32) → Prop) (hw : w_put p1 p2 p3 p4 M F Q) : r_MetI l g yX12_put cX12_put 6 .int (0) [.ref (r_h g), .int p1, .int p2, .int p3, .int p4] M F Q := by
  refine r_MetI.of (by decide) rfl (Nat.le_of_ble_eq_true rfl) (fun x Z hret => ?_)
  show ac_G x (r_R g) 6 (r_P g M F) 0 0 0 [(0, .ref (r_h g)), (1, .int p1), (2, .int p2), (3, .int p3), (4, .int p4)] []
  refine ac_sipush (v := 9000) Z.1 dX12_put_0 (by decide) ?_
  refine ac_aload_n Z.1 0 dX12_put_3 rfl ?_
  refine r_geti (v := (M 27)) Z.1 Z.2.1 27 (by decide) rfl fX12_70 rfl rfl dX12_put_4 ?_
  refine ac_imul Z.1 dX12_put_7 ?_
  refine ac_aload_n Z.1 0 dX12_put_8 rfl ?_
  refine r_geti (v := (M 29)) Z.1 Z.2.1 29 (by decide) rfl fX12_224 rfl rfl dX12_put_9 ?_
  refine ac_iadd Z.1 dX12_put_12 ?_
  refine ac_istore (lv' := [(5, .int ((9000 * (M 27)) + (M 29))), (0, .ref (r_h g)), (1, .int p1), (2, .int p2), (3, .int p3), (4, .int p4)]) Z.1 dX12_put_13 (by decide) rfl ?_
  refine ac_aload_n Z.1 1 dX12_put_15 rfl ?_
  refine r_geta Z.1 Z.2.1 13 (by decide) rfl fX12_28 rfl dX12_put_16 ?_
  refine ac_iload Z.1 0 dX12_put_19 rfl ?_
  refine ac_iload_n Z.1 2 dX12_put_21 rfl ?_
  obtain ⟨hb1, hw⟩ := hw
  refine r_ast Z.1 Z.2.1 6 13 18000 rfl rfl hb1 dX12_put_22 ?_
  refine ac_aload_n Z.1 1 dX12_put_23 rfl ?_
  refine r_geta Z.1 Z.2.1 14 (by decide) rfl fX12_31 rfl dX12_put_24 ?_
  refine ac_iload Z.1 0 dX12_put_27 rfl ?_
  refine ac_iload_n Z.1 3 dX12_put_29 rfl ?_
  obtain ⟨hb2, hw⟩ := hw
  refine r_ast Z.1 Z.2.1 7 14 18000 rfl rfl hb2 dX12_put_30 ?_
  refine ac_aload_n Z.1 1 dX12_put_31 rfl ?_
  refine r_geta Z.1 Z.2.1 15 (by decide) rfl fX12_34 rfl dX12_put_32 ?_
  refine ac_iload Z.1 0 dX12_put_35 rfl ?_
  refine ac_iload_n Z.1 4 dX12_put_37 rfl ?_
  obtain ⟨hb3, hw⟩ := hw
  refine r_ast Z.1 Z.2.1 8 15 18000 rfl rfl hb3 dX12_put_38 ?_
  refine ac_aload_n Z.1 1 dX12_put_39 rfl ?_
  refine r_geta Z.1 Z.2.1 16 (by decide) rfl fX12_37 rfl dX12_put_40 ?_
  refine ac_iload Z.1 0 dX12_put_43 rfl ?_
  refine ac_iload Z.1 5 dX12_put_45 rfl ?_
  obtain ⟨hb4, hw⟩ := hw
  refine r_ast Z.1 Z.2.1 9 16 18000 rfl rfl hb4 dX12_put_47 ?_
  refine ac_aload_n Z.1 1 dX12_put_48 rfl ?_
  refine r_geta Z.1 Z.2.1 17 (by decide) rfl fX12_40 rfl dX12_put_49 ?_
  refine ac_iload Z.1 0 dX12_put_52 rfl ?_
  refine ac_iconst (v := (-1)) Z.1 dX12_put_54 (by decide) ?_
  obtain ⟨hb5, hw⟩ := hw
  refine r_ast Z.1 Z.2.1 10 17 18000 rfl rfl hb5 dX12_put_55 ?_
  refine ac_aload_n Z.1 1 dX12_put_56 rfl ?_
  refine ac_dup Z.1 dX12_put_57 rfl ?_
  refine r_geti (v := (M 29)) Z.1 Z.2.1 29 (by decide) rfl fX12_224 rfl rfl dX12_put_58 ?_
  refine ac_iconst (v := 1) Z.1 dX12_put_61 (by decide) ?_
  refine ac_iadd Z.1 dX12_put_62 ?_
  refine r_put Z.1 Z.2.1 29 (by decide) rfl rfl rfl fX12_224 rfl dX12_put_63 ?_
  refine ac_iload Z.1 0 dX12_put_66 rfl ?_
  exact hret _ _ _ _ _ dX12_put_68 rfl hw
def w_here (M : Nat → Int32) (F : Nat → Nat → Int32) (Q : Int32 → (Nat → Int32) → (Nat → Nat → Int32) → Prop) : Prop := Q ((9000 * (M 27)) + (M 29)) M F
set_option maxRecDepth 20000 in
theorem so_here {l : Launch} {g : r_S} (M : Nat → Int32) (F : Nat → Nat → Int32) (Q : Int32 → (Nat → Int32) → (Nat → Nat → Int32) → Prop) (hw : w_here  M F Q) : r_MetI l g yX12_here cX12_here 1 .int (0) [.ref (r_h g)] M F Q := by
  refine r_MetI.of (by decide) rfl (Nat.le_of_ble_eq_true rfl) (fun x Z hret => ?_)
  show ac_G x (r_R g) 1 (r_P g M F) 0 0 0 [(0, .ref (r_h g))] []
  refine ac_sipush (v := 9000) Z.1 dX12_here_0 (by decide) ?_
  refine ac_aload_n Z.1 0 dX12_here_3 rfl ?_
  refine r_geti (v := (M 27)) Z.1 Z.2.1 27 (by decide) rfl fX12_70 rfl rfl dX12_here_4 ?_
  refine ac_imul Z.1 dX12_here_7 ?_
  refine ac_aload_n Z.1 0 dX12_here_8 rfl ?_
  refine r_geti (v := (M 29)) Z.1 Z.2.1 29 (by decide) rfl fX12_224 rfl rfl dX12_here_9 ?_
  refine ac_iadd Z.1 dX12_here_12 ?_
  exact hret _ _ _ _ _ dX12_here_13 rfl hw
def w_bad (M : Nat → Int32) (F : Nat → Nat → Int32) (Q : Int32 → (Nat → Int32) → (Nat → Nat → Int32) → Prop) : Prop := ((M 36) = (-1) → (Q 0 M F)) ∧ (¬ (M 36) = (-1) → (Q 1 M F))
set_option maxRecDepth 20000 in
theorem so_bad {l : Launch} {g : r_S} (M : Nat → Int32) (F : Nat → Nat → Int32) (Q : Int32 → (Nat → Int32) → (Nat → Nat → Int32) → Prop) (hw : w_bad  M F Q) : r_MetI l g yX12_bad cX12_bad 1 .boolean (0) [.ref (r_h g)] M F Q := by
  refine r_MetI.of (by decide) rfl (Nat.le_of_ble_eq_true rfl) (fun x Z hret => ?_)
  show ac_G x (r_R g) 1 (r_P g M F) 0 0 0 [(0, .ref (r_h g))] []
  refine ac_aload_n Z.1 0 dX12_bad_0 rfl ?_
  refine r_geti (v := (M 36)) Z.1 Z.2.1 36 (by decide) rfl fX12_227 rfl rfl dX12_bad_1 ?_
  refine ac_iconst (v := (-1)) Z.1 dX12_bad_4 (by decide) ?_
  obtain ⟨hwt, hwf⟩ := hw
  refine ac_icmp_eq (tgt := 12) Z.1 dX12_bad_5 (by decide) (fun hc => ?_) (fun hc => ?_)
  · have hw := hwt hc
    refine ac_iconst (v := 0) Z.1 dX12_bad_12 (by decide) ?_
    exact hret _ _ _ _ _ dX12_bad_13 rfl hw
  · have hw := hwf hc
    refine ac_iconst (v := 1) Z.1 dX12_bad_8 (by decide) ?_
    refine ac_goto (tgt := 13) Z.1 dX12_bad_9 (by decide) ?_
    exact hret _ _ _ _ _ dX12_bad_13 rfl hw
def w_fail (M : Nat → Int32) (F : Nat → Nat → Int32) (Q : (Nat → Int32) → (Nat → Nat → Int32) → Prop) : Prop := (¬ (M 36) = (-1) → (Q M F)) ∧ ((M 36) = (-1) → (Q (um M 36 (M 6)) F))
set_option maxRecDepth 20000 in
theorem so_fail {l : Launch} {g : r_S} (M : Nat → Int32) (F : Nat → Nat → Int32) (Q : (Nat → Int32) → (Nat → Nat → Int32) → Prop) (hw : w_fail  M F Q) : r_MetV l g yX12_fail cX12_fail 1 (0) [.ref (r_h g)] M F Q := by
  refine r_MetV.of (by decide) rfl (Nat.le_of_ble_eq_true rfl) (fun x Z hret => ?_)
  show ac_G x (r_R g) 1 (r_P g M F) 0 0 0 [(0, .ref (r_h g))] []
  refine ac_aload_n Z.1 0 dX12_fail_0 rfl ?_
  refine r_geti (v := (M 36)) Z.1 Z.2.1 36 (by decide) rfl fX12_227 rfl rfl dX12_fail_1 ?_
  refine ac_iconst (v := (-1)) Z.1 dX12_fail_4 (by decide) ?_
  obtain ⟨hwt, hwf⟩ := hw
  refine ac_icmp_ne (tgt := 16) Z.1 dX12_fail_5 (by decide) (fun hc => ?_) (fun hc => ?_)
  · have hw := hwt hc
    exact hret _ _ _ _ dX12_fail_16 hw
  · have hw := hwf hc
    refine ac_aload_n Z.1 0 dX12_fail_8 rfl ?_
    refine ac_aload_n Z.1 0 dX12_fail_9 rfl ?_
    refine r_geti (v := (M 6)) Z.1 Z.2.1 6 (by decide) rfl fX12_182 rfl rfl dX12_fail_10 ?_
    refine r_put Z.1 Z.2.1 36 (by decide) rfl rfl rfl fX12_227 rfl dX12_fail_13 ?_
    exact hret _ _ _ _ dX12_fail_16 hw
def w_isSign (p1 : Int32) (M : Nat → Int32) (F : Nat → Nat → Int32) (Q : Int32 → (Nat → Int32) → (Nat → Nat → Int32) → Prop) : Prop := w_bad M F (fun r1 M2 F2 => ((¬ r1 = 0 → (Q 0 M2 F2)) ∧ (r1 = 0 → ((¬ (M2 4) = 6 → (Q 0 M2 F2)) ∧ ((M2 4) = 6 → ((¬ (M2 5) = p1 → (Q 0 M2 F2)) ∧ ((M2 5) = p1 → (Q 1 M2 F2))))))))
set_option maxRecDepth 20000 in
theorem so_isSign {l : Launch} {g : r_S} (p1 : Int32) (M : Nat → Int32) (F : Nat → Nat → Int32) (Q : Int32 → (Nat → Int32) → (Nat → Nat → Int32) → Prop) (hw : w_isSign p1 M F Q) : r_MetI l g yX12_isSign cX12_isSign 2 .boolean (1) [.ref (r_h g), .int p1] M F Q := by
  refine r_MetI.of (by decide) rfl (Nat.le_of_ble_eq_true rfl) (fun x Z hret => ?_)
  show ac_G x (r_R g) 2 (r_P g M F) 0 0 0 [(0, .ref (r_h g)), (1, .int p1)] []
  refine ac_aload_n Z.1 0 dX12_isSign_0 rfl ?_
  refine r_calli (As := []) (st := []) Z kX12_bad lkX12_230 (by omega) rfl (so_bad    _ _ _ hw) rfl rfl (Nat.le_of_ble_eq_true rfl) dX12_isSign_1 (fun r1 M2 F2 hw => ?_)
  obtain ⟨hwt, hwf⟩ := hw
  refine ac_if_ne (tgt := 28) Z.1 dX12_isSign_4 (by decide) (fun hc => ?_) (fun hc => ?_)
  · have hw := hwt hc
    refine ac_iconst (v := 0) Z.1 dX12_isSign_28 (by decide) ?_
    exact hret _ _ _ _ _ dX12_isSign_29 rfl hw
  · have hw := hwf hc
    refine ac_aload_n Z.1 0 dX12_isSign_7 rfl ?_
    refine r_geti (v := (M2 4)) Z.1 Z.2.1 4 (by decide) rfl fX12_198 rfl rfl dX12_isSign_8 ?_
    refine ac_bipush (v := 6) Z.1 dX12_isSign_11 (by decide) ?_
    obtain ⟨hwt, hwf⟩ := hw
    refine ac_icmp_ne (tgt := 28) Z.1 dX12_isSign_13 (by decide) (fun hc => ?_) (fun hc => ?_)
    · have hw := hwt hc
      refine ac_iconst (v := 0) Z.1 dX12_isSign_28 (by decide) ?_
      exact hret _ _ _ _ _ dX12_isSign_29 rfl hw
    · have hw := hwf hc
      refine ac_aload_n Z.1 0 dX12_isSign_16 rfl ?_
      refine r_geti (v := (M2 5)) Z.1 Z.2.1 5 (by decide) rfl fX12_207 rfl rfl dX12_isSign_17 ?_
      refine ac_iload_n Z.1 1 dX12_isSign_20 rfl ?_
      obtain ⟨hwt, hwf⟩ := hw
      refine ac_icmp_ne (tgt := 28) Z.1 dX12_isSign_21 (by decide) (fun hc => ?_) (fun hc => ?_)
      · have hw := hwt hc
        refine ac_iconst (v := 0) Z.1 dX12_isSign_28 (by decide) ?_
        exact hret _ _ _ _ _ dX12_isSign_29 rfl hw
      · have hw := hwf hc
        refine ac_iconst (v := 1) Z.1 dX12_isSign_24 (by decide) ?_
        refine ac_goto (tgt := 29) Z.1 dX12_isSign_25 (by decide) ?_
        exact hret _ _ _ _ _ dX12_isSign_29 rfl hw
def w_isWord (p1 : Int32) (M : Nat → Int32) (F : Nat → Nat → Int32) (Q : Int32 → (Nat → Int32) → (Nat → Nat → Int32) → Prop) : Prop := w_bad M F (fun r1 M2 F2 => ((¬ r1 = 0 → (Q 0 M2 F2)) ∧ (r1 = 0 → ((¬ (M2 4) = 4 → (Q 0 M2 F2)) ∧ ((M2 4) = 4 → ((¬ (M2 5) = p1 → (Q 0 M2 F2)) ∧ ((M2 5) = p1 → (Q 1 M2 F2))))))))
set_option maxRecDepth 20000 in
theorem so_isWord {l : Launch} {g : r_S} (p1 : Int32) (M : Nat → Int32) (F : Nat → Nat → Int32) (Q : Int32 → (Nat → Int32) → (Nat → Nat → Int32) → Prop) (hw : w_isWord p1 M F Q) : r_MetI l g yX12_isWord cX12_isWord 2 .boolean (1) [.ref (r_h g), .int p1] M F Q := by
  refine r_MetI.of (by decide) rfl (Nat.le_of_ble_eq_true rfl) (fun x Z hret => ?_)
  show ac_G x (r_R g) 2 (r_P g M F) 0 0 0 [(0, .ref (r_h g)), (1, .int p1)] []
  refine ac_aload_n Z.1 0 dX12_isWord_0 rfl ?_
  refine r_calli (As := []) (st := []) Z kX12_bad lkX12_230 (by omega) rfl (so_bad    _ _ _ hw) rfl rfl (Nat.le_of_ble_eq_true rfl) dX12_isWord_1 (fun r1 M2 F2 hw => ?_)
  obtain ⟨hwt, hwf⟩ := hw
  refine ac_if_ne (tgt := 27) Z.1 dX12_isWord_4 (by decide) (fun hc => ?_) (fun hc => ?_)
  · have hw := hwt hc
    refine ac_iconst (v := 0) Z.1 dX12_isWord_27 (by decide) ?_
    exact hret _ _ _ _ _ dX12_isWord_28 rfl hw
  · have hw := hwf hc
    refine ac_aload_n Z.1 0 dX12_isWord_7 rfl ?_
    refine r_geti (v := (M2 4)) Z.1 Z.2.1 4 (by decide) rfl fX12_198 rfl rfl dX12_isWord_8 ?_
    refine ac_iconst (v := 4) Z.1 dX12_isWord_11 (by decide) ?_
    obtain ⟨hwt, hwf⟩ := hw
    refine ac_icmp_ne (tgt := 27) Z.1 dX12_isWord_12 (by decide) (fun hc => ?_) (fun hc => ?_)
    · have hw := hwt hc
      refine ac_iconst (v := 0) Z.1 dX12_isWord_27 (by decide) ?_
      exact hret _ _ _ _ _ dX12_isWord_28 rfl hw
    · have hw := hwf hc
      refine ac_aload_n Z.1 0 dX12_isWord_15 rfl ?_
      refine r_geti (v := (M2 5)) Z.1 Z.2.1 5 (by decide) rfl fX12_207 rfl rfl dX12_isWord_16 ?_
      refine ac_iload_n Z.1 1 dX12_isWord_19 rfl ?_
      obtain ⟨hwt, hwf⟩ := hw
      refine ac_icmp_ne (tgt := 27) Z.1 dX12_isWord_20 (by decide) (fun hc => ?_) (fun hc => ?_)
      · have hw := hwt hc
        refine ac_iconst (v := 0) Z.1 dX12_isWord_27 (by decide) ?_
        exact hret _ _ _ _ _ dX12_isWord_28 rfl hw
      · have hw := hwf hc
        refine ac_iconst (v := 1) Z.1 dX12_isWord_23 (by decide) ?_
        refine ac_goto (tgt := 28) Z.1 dX12_isWord_24 (by decide) ?_
        exact hret _ _ _ _ _ dX12_isWord_28 rfl hw
def w_least_10 (Q : Int32 → (Nat → Int32) → (Nat → Nat → Int32) → Prop) (a1 : Int32) (M : Nat → Int32) (F : Nat → Nat → Int32) : Prop := Q a1 M F
set_option maxRecDepth 20000 in
theorem s_least_10 {x : ac_X} {g : r_S} {l : Launch} {Q : Int32 → (Nat → Int32) → (Nat → Nat → Int32) → Prop} (Z : r_Cx x g l cX12_least 2 (0)) (hret : r_RI x g 2 cX12_least .int Q) (a1 : Int32) (M : Nat → Int32) (F : Nat → Nat → Int32) (hw : w_least_10 Q a1 M F) : ac_G x (r_R g) 2 (r_P g M F) 0 0 10 [(1, .int a1)] [] := by
  refine ac_iload_n Z.1 0 dX12_least_10 rfl ?_
  refine ac_goto (tgt := 15) Z.1 dX12_least_11 (by decide) ?_
  exact hret _ _ _ _ _ dX12_least_15 rfl hw
def w_least (p0 : Int32) (p1 : Int32) (M : Nat → Int32) (F : Nat → Nat → Int32) (Q : Int32 → (Nat → Int32) → (Nat → Nat → Int32) → Prop) : Prop := (p0 = (-1) → (w_least_10 Q p1 M F)) ∧ (¬ p0 = (-1) → ((p0 ≤ p1 → (Q p0 M F)) ∧ (¬ p0 ≤ p1 → (w_least_10 Q p1 M F))))
set_option maxRecDepth 20000 in
theorem so_least {l : Launch} {g : r_S} (p0 : Int32) (p1 : Int32) (M : Nat → Int32) (F : Nat → Nat → Int32) (Q : Int32 → (Nat → Int32) → (Nat → Nat → Int32) → Prop) (hw : w_least p0 p1 M F Q) : r_MetI l g yX12_least cX12_least 2 .int (0) [.int p0, .int p1] M F Q := by
  refine r_MetI.of (by decide) rfl (Nat.le_of_ble_eq_true rfl) (fun x Z hret => ?_)
  show ac_G x (r_R g) 2 (r_P g M F) 0 0 0 [(0, .int p0), (1, .int p1)] []
  refine ac_iload_n Z.1 0 dX12_least_0 rfl ?_
  refine ac_iconst (v := (-1)) Z.1 dX12_least_1 (by decide) ?_
  obtain ⟨hwt, hwf⟩ := hw
  refine ac_icmp_eq (tgt := 10) Z.1 dX12_least_2 (by decide) (fun hc => ?_) (fun hc => ?_)
  · have hw := hwt hc
    refine ac_lv [1] rfl ?_
    exact s_least_10 Z hret _ _ _ hw
  · have hw := hwf hc
    refine ac_iload_n Z.1 1 dX12_least_5 rfl ?_
    refine ac_iload_n Z.1 0 dX12_least_6 rfl ?_
    obtain ⟨hwt, hwf⟩ := hw
    refine ac_icmp_ge (tgt := 14) Z.1 dX12_least_7 (by decide) (fun hc => ?_) (fun hc => ?_)
    · have hw := hwt hc
      refine ac_iload_n Z.1 0 dX12_least_14 rfl ?_
      exact hret _ _ _ _ _ dX12_least_15 rfl hw
    · have hw := hwf hc
      refine ac_lv [1] rfl ?_
      exact s_least_10 Z hret _ _ _ hw
def w_tell (p1 : Int32) (p2 : Int32) (M : Nat → Int32) (F : Nat → Nat → Int32) (Q : (Nat → Int32) → (Nat → Nat → Int32) → Prop) : Prop := w_bad M F (fun r1 M2 F2 => ((r1 = 0 → (vp_in p1 2100 ∧ ((¬ ((F2 9) (p1).toNatClampNeg) = (M2 30) → (vp_in p1 2100 ∧ (vp_in p1 2100 ∧ ((((M2 34) + 1) ≤ 12 → (Q (um M2 34 ((M2 34) + 1)) (uf (uf F2 9 p1 (M2 30)) 10 p1 (M2 34)))) ∧ (¬ ((M2 34) + 1) ≤ 12 → (w_least (M2 38) p2 (um M2 34 ((M2 34) + 1)) (uf (uf F2 9 p1 (M2 30)) 10 p1 (M2 34)) (fun r6 M7 F7 => (Q (um M7 38 r6) F7)))))))) ∧ (((F2 9) (p1).toNatClampNeg) = (M2 30) → (w_least (M2 37) p2 M2 F2 (fun r8 M9 F9 => (Q (um M9 37 r8) F9))))))) ∧ (¬ r1 = 0 → (Q M2 F2))))
set_option maxRecDepth 20000 in
theorem so_tell {l : Launch} {g : r_S} (p1 : Int32) (p2 : Int32) (M : Nat → Int32) (F : Nat → Nat → Int32) (Q : (Nat → Int32) → (Nat → Nat → Int32) → Prop) (hw : w_tell p1 p2 M F Q) : r_MetV l g yX12_tell cX12_tell 3 (1) [.ref (r_h g), .int p1, .int p2] M F Q := by
  refine r_MetV.of (by decide) rfl (Nat.le_of_ble_eq_true rfl) (fun x Z hret => ?_)
  show ac_G x (r_R g) 3 (r_P g M F) 0 0 0 [(0, .ref (r_h g)), (1, .int p1), (2, .int p2)] []
  refine ac_aload_n Z.1 0 dX12_tell_0 rfl ?_
  refine r_calli (As := []) (st := []) Z kX12_bad lkX12_230 (by omega) rfl (so_bad    _ _ _ hw) rfl rfl (Nat.le_of_ble_eq_true rfl) dX12_tell_1 (fun r1 M2 F2 hw => ?_)
  obtain ⟨hwt, hwf⟩ := hw
  refine ac_if_eq (tgt := 8) Z.1 dX12_tell_4 (by decide) (fun hc => ?_) (fun hc => ?_)
  · have hw := hwt hc
    refine ac_aload_n Z.1 0 dX12_tell_8 rfl ?_
    refine r_geta Z.1 Z.2.1 9 (by decide) rfl fX12_19 rfl dX12_tell_9 ?_
    refine ac_iload_n Z.1 1 dX12_tell_12 rfl ?_
    obtain ⟨hb3, hw⟩ := hw
    refine r_ald (v := ((F2 9) (p1).toNatClampNeg)) Z.1 Z.2.1 3 9 2100 rfl rfl hb3 rfl dX12_tell_13 ?_
    refine ac_aload_n Z.1 0 dX12_tell_14 rfl ?_
    refine r_geti (v := (M2 30)) Z.1 Z.2.1 30 (by decide) rfl fX12_258 rfl rfl dX12_tell_15 ?_
    obtain ⟨hwt, hwf⟩ := hw
    refine ac_icmp_ne (tgt := 34) Z.1 dX12_tell_18 (by decide) (fun hc => ?_) (fun hc => ?_)
    · have hw := hwt hc
      refine ac_aload_n Z.1 0 dX12_tell_34 rfl ?_
      refine r_geta Z.1 Z.2.1 9 (by decide) rfl fX12_19 rfl dX12_tell_35 ?_
      refine ac_iload_n Z.1 1 dX12_tell_38 rfl ?_
      refine ac_aload_n Z.1 0 dX12_tell_39 rfl ?_
      refine r_geti (v := (M2 30)) Z.1 Z.2.1 30 (by decide) rfl fX12_258 rfl rfl dX12_tell_40 ?_
      obtain ⟨hb4, hw⟩ := hw
      refine r_ast Z.1 Z.2.1 3 9 2100 rfl rfl hb4 dX12_tell_43 ?_
      refine ac_aload_n Z.1 0 dX12_tell_44 rfl ?_
      refine r_geta Z.1 Z.2.1 10 (by decide) rfl fX12_22 rfl dX12_tell_45 ?_
      refine ac_iload_n Z.1 1 dX12_tell_48 rfl ?_
      refine ac_aload_n Z.1 0 dX12_tell_49 rfl ?_
      refine r_geti (v := (M2 34)) Z.1 Z.2.1 34 (by decide) rfl fX12_268 rfl rfl dX12_tell_50 ?_
      obtain ⟨hb5, hw⟩ := hw
      refine r_ast Z.1 Z.2.1 4 10 2100 rfl rfl hb5 dX12_tell_53 ?_
      refine ac_aload_n Z.1 0 dX12_tell_54 rfl ?_
      refine ac_dup Z.1 dX12_tell_55 rfl ?_
      refine r_geti (v := (M2 34)) Z.1 Z.2.1 34 (by decide) rfl fX12_268 rfl rfl dX12_tell_56 ?_
      refine ac_iconst (v := 1) Z.1 dX12_tell_59 (by decide) ?_
      refine ac_iadd Z.1 dX12_tell_60 ?_
      refine r_put Z.1 Z.2.1 34 (by decide) rfl rfl rfl fX12_268 rfl dX12_tell_61 ?_
      refine ac_aload_n Z.1 0 dX12_tell_64 rfl ?_
      refine r_geti (v := ((M2 34) + 1)) Z.1 Z.2.1 34 (by decide) rfl fX12_268 rfl rfl dX12_tell_65 ?_
      refine ac_bipush (v := 12) Z.1 dX12_tell_68 (by decide) ?_
      obtain ⟨hwt, hwf⟩ := hw
      refine ac_icmp_le (tgt := 85) Z.1 dX12_tell_70 (by decide) (fun hc => ?_) (fun hc => ?_)
      · have hw := hwt hc
        exact hret _ _ _ _ dX12_tell_85 hw
      · have hw := hwf hc
        refine ac_aload_n Z.1 0 dX12_tell_73 rfl ?_
        refine ac_aload_n Z.1 0 dX12_tell_74 rfl ?_
        refine r_geti (v := (M2 38)) Z.1 Z.2.1 38 (by decide) rfl fX12_271 rfl rfl dX12_tell_75 ?_
        refine ac_iload_n Z.1 2 dX12_tell_78 rfl ?_
        refine r_calls (As := [.int (M2 38), .int p2]) (st := [.ref (r_h g)]) Z kX12_least lkX12_264 (by omega) (so_least   _ _ _ _ _ hw) rfl rfl (Nat.le_of_ble_eq_true rfl) dX12_tell_79 (fun r6 M7 F7 hw => ?_)
        refine r_put Z.1 Z.2.1 38 (by decide) rfl rfl rfl fX12_271 rfl dX12_tell_82 ?_
        exact hret _ _ _ _ dX12_tell_85 hw
    · have hw := hwf hc
      refine ac_aload_n Z.1 0 dX12_tell_21 rfl ?_
      refine ac_aload_n Z.1 0 dX12_tell_22 rfl ?_
      refine r_geti (v := (M2 37)) Z.1 Z.2.1 37 (by decide) rfl fX12_261 rfl rfl dX12_tell_23 ?_
      refine ac_iload_n Z.1 2 dX12_tell_26 rfl ?_
      refine r_calls (As := [.int (M2 37), .int p2]) (st := [.ref (r_h g)]) Z kX12_least lkX12_264 (by omega) (so_least   _ _ _ _ _ hw) rfl rfl (Nat.le_of_ble_eq_true rfl) dX12_tell_27 (fun r8 M9 F9 hw => ?_)
      refine r_put Z.1 Z.2.1 37 (by decide) rfl rfl rfl fX12_261 rfl dX12_tell_30 ?_
      exact hret _ _ _ _ dX12_tell_33 hw
  · have hw := hwf hc
    exact hret _ _ _ _ dX12_tell_7 hw
def w_told (p1 : Int32) (p2 : Int32) (M : Nat → Int32) (F : Nat → Nat → Int32) (Q : Int32 → (Nat → Int32) → (Nat → Nat → Int32) → Prop) : Prop := w_bad M F (fun r1 M2 F2 => ((r1 = 0 → (vp_in p1 2100 ∧ ((¬ ((F2 9) (p1).toNatClampNeg) = (M2 30) → (w_least (M2 37) p2 M2 F2 (fun r4 M5 F5 => (Q 0 (um M5 37 r4) F5)))) ∧ (((F2 9) (p1).toNatClampNeg) = (M2 30) → (vp_in p1 2100 ∧ (Q ((F2 10) (p1).toNatClampNeg) M2 F2)))))) ∧ (¬ r1 = 0 → (Q 0 M2 F2))))
set_option maxRecDepth 20000 in
theorem so_told {l : Launch} {g : r_S} (p1 : Int32) (p2 : Int32) (M : Nat → Int32) (F : Nat → Nat → Int32) (Q : Int32 → (Nat → Int32) → (Nat → Nat → Int32) → Prop) (hw : w_told p1 p2 M F Q) : r_MetI l g yX12_told cX12_told 3 .int (1) [.ref (r_h g), .int p1, .int p2] M F Q := by
  refine r_MetI.of (by decide) rfl (Nat.le_of_ble_eq_true rfl) (fun x Z hret => ?_)
  show ac_G x (r_R g) 3 (r_P g M F) 0 0 0 [(0, .ref (r_h g)), (1, .int p1), (2, .int p2)] []
  refine ac_aload_n Z.1 0 dX12_told_0 rfl ?_
  refine r_calli (As := []) (st := []) Z kX12_bad lkX12_230 (by omega) rfl (so_bad    _ _ _ hw) rfl rfl (Nat.le_of_ble_eq_true rfl) dX12_told_1 (fun r1 M2 F2 hw => ?_)
  obtain ⟨hwt, hwf⟩ := hw
  refine ac_if_eq (tgt := 9) Z.1 dX12_told_4 (by decide) (fun hc => ?_) (fun hc => ?_)
  · have hw := hwt hc
    refine ac_aload_n Z.1 0 dX12_told_9 rfl ?_
    refine r_geta Z.1 Z.2.1 9 (by decide) rfl fX12_19 rfl dX12_told_10 ?_
    refine ac_iload_n Z.1 1 dX12_told_13 rfl ?_
    obtain ⟨hb3, hw⟩ := hw
    refine r_ald (v := ((F2 9) (p1).toNatClampNeg)) Z.1 Z.2.1 3 9 2100 rfl rfl hb3 rfl dX12_told_14 ?_
    refine ac_aload_n Z.1 0 dX12_told_15 rfl ?_
    refine r_geti (v := (M2 30)) Z.1 Z.2.1 30 (by decide) rfl fX12_258 rfl rfl dX12_told_16 ?_
    obtain ⟨hwt, hwf⟩ := hw
    refine ac_icmp_ne (tgt := 29) Z.1 dX12_told_19 (by decide) (fun hc => ?_) (fun hc => ?_)
    · have hw := hwt hc
      refine ac_aload_n Z.1 0 dX12_told_29 rfl ?_
      refine ac_aload_n Z.1 0 dX12_told_30 rfl ?_
      refine r_geti (v := (M2 37)) Z.1 Z.2.1 37 (by decide) rfl fX12_261 rfl rfl dX12_told_31 ?_
      refine ac_iload_n Z.1 2 dX12_told_34 rfl ?_
      refine r_calls (As := [.int (M2 37), .int p2]) (st := [.ref (r_h g)]) Z kX12_least lkX12_264 (by omega) (so_least   _ _ _ _ _ hw) rfl rfl (Nat.le_of_ble_eq_true rfl) dX12_told_35 (fun r4 M5 F5 hw => ?_)
      refine r_put Z.1 Z.2.1 37 (by decide) rfl rfl rfl fX12_261 rfl dX12_told_38 ?_
      refine ac_iconst (v := 0) Z.1 dX12_told_41 (by decide) ?_
      exact hret _ _ _ _ _ dX12_told_42 rfl hw
    · have hw := hwf hc
      refine ac_aload_n Z.1 0 dX12_told_22 rfl ?_
      refine r_geta Z.1 Z.2.1 10 (by decide) rfl fX12_22 rfl dX12_told_23 ?_
      refine ac_iload_n Z.1 1 dX12_told_26 rfl ?_
      obtain ⟨hb6, hw⟩ := hw
      refine r_ald (v := ((F2 10) (p1).toNatClampNeg)) Z.1 Z.2.1 4 10 2100 rfl rfl hb6 rfl dX12_told_27 ?_
      exact hret _ _ _ _ _ dX12_told_28 rfl hw
  · have hw := hwf hc
    refine ac_iconst (v := 0) Z.1 dX12_told_7 (by decide) ?_
    exact hret _ _ _ _ _ dX12_told_8 rfl hw
