def w_fault (p1 : Int32) (M : Nat → Int32) (F : Nat → Nat → Int32) (Q : Int32 → (Nat → Int32) → (Nat → Nat → Int32) → Prop) : Prop := (¬ p1 = 0 → ((¬ p1 = 1 → (Q (-1) M F)) ∧ (p1 = 1 → (((M 40) ≤ 0 → (Q (-1) M F)) ∧ (¬ (M 40) ≤ 0 → (Q (M 41) M F)))))) ∧ (p1 = 0 → (Q (M 40) M F))
set_option maxRecDepth 20000 in
theorem so_fault {l : Launch} {g : r_S} (p1 : Int32) (M : Nat → Int32) (F : Nat → Nat → Int32) (Q : Int32 → (Nat → Int32) → (Nat → Nat → Int32) → Prop) (hw : w_fault p1 M F Q) : r_MetI l g yX12_fault cX12_fault 2 .int (0) [.ref (r_h g), .int p1] M F Q := by
  refine r_MetI.of (by decide) rfl (Nat.le_of_ble_eq_true rfl) (fun x Z hret => ?_)
  show ac_G x (r_R g) 2 (r_P g M F) 0 0 0 [(0, .ref (r_h g)), (1, .int p1)] []
  refine ac_iload_n Z.1 1 dX12_fault_0 rfl ?_
  obtain ⟨hwt, hwf⟩ := hw
  refine ac_if_ne (tgt := 11) Z.1 dX12_fault_1 (by decide) (fun hc => ?_) (fun hc => ?_)
  · have hw := hwt hc
    refine ac_iload_n Z.1 1 dX12_fault_11 rfl ?_
    refine ac_iconst (v := 1) Z.1 dX12_fault_12 (by decide) ?_
    obtain ⟨hwt, hwf⟩ := hw
    refine ac_icmp_ne (tgt := 30) Z.1 dX12_fault_13 (by decide) (fun hc => ?_) (fun hc => ?_)
    · have hw := hwt hc
      refine ac_iconst (v := (-1)) Z.1 dX12_fault_30 (by decide) ?_
      exact hret _ _ _ _ _ dX12_fault_31 rfl hw
    · have hw := hwf hc
      refine ac_aload_n Z.1 0 dX12_fault_16 rfl ?_
      refine r_geti (v := (M 40)) Z.1 Z.2.1 40 (by decide) rfl fX12_74 rfl rfl dX12_fault_17 ?_
      obtain ⟨hwt, hwf⟩ := hw
      refine ac_if_le (tgt := 30) Z.1 dX12_fault_20 (by decide) (fun hc => ?_) (fun hc => ?_)
      · have hw := hwt hc
        refine ac_iconst (v := (-1)) Z.1 dX12_fault_30 (by decide) ?_
        exact hret _ _ _ _ _ dX12_fault_31 rfl hw
      · have hw := hwf hc
        refine ac_aload_n Z.1 0 dX12_fault_23 rfl ?_
        refine r_geti (v := (M 41)) Z.1 Z.2.1 41 (by decide) rfl fX12_77 rfl rfl dX12_fault_24 ?_
        refine ac_goto (tgt := 31) Z.1 dX12_fault_27 (by decide) ?_
        exact hret _ _ _ _ _ dX12_fault_31 rfl hw
  · have hw := hwf hc
    refine ac_aload_n Z.1 0 dX12_fault_4 rfl ?_
    refine r_geti (v := (M 40)) Z.1 Z.2.1 40 (by decide) rfl fX12_74 rfl rfl dX12_fault_5 ?_
    refine ac_goto (tgt := 31) Z.1 dX12_fault_8 (by decide) ?_
    exact hret _ _ _ _ _ dX12_fault_31 rfl hw
def w_above (p0 : Int32) (M : Nat → Int32) (F : Nat → Nat → Int32) (Q : Int32 → (Nat → Int32) → (Nat → Nat → Int32) → Prop) : Prop := (¬ p0 = 0 → ((p0 = 2 → (Q 1 M F)) ∧ (¬ p0 = 2 → ((¬ p0 = 3 → ((p0 = 5 → (Q 4 M F)) ∧ (¬ p0 = 5 → ((¬ p0 = 6 → (Q 0 M F)) ∧ (p0 = 6 → (Q 4 M F)))))) ∧ (p0 = 3 → (Q 1 M F)))))) ∧ (p0 = 0 → (Q (-1) M F))
set_option maxRecDepth 20000 in
theorem so_above {l : Launch} {g : r_S} (p0 : Int32) (M : Nat → Int32) (F : Nat → Nat → Int32) (Q : Int32 → (Nat → Int32) → (Nat → Nat → Int32) → Prop) (hw : w_above p0 M F Q) : r_MetI l g yX12_above cX12_above 1 .int (0) [.int p0] M F Q := by
  refine r_MetI.of (by decide) rfl (Nat.le_of_ble_eq_true rfl) (fun x Z hret => ?_)
  show ac_G x (r_R g) 1 (r_P g M F) 0 0 0 [(0, .int p0)] []
  refine ac_iload_n Z.1 0 dX12_above_0 rfl ?_
  obtain ⟨hwt, hwf⟩ := hw
  refine ac_if_ne (tgt := 8) Z.1 dX12_above_1 (by decide) (fun hc => ?_) (fun hc => ?_)
  · have hw := hwt hc
    refine ac_iload_n Z.1 0 dX12_above_8 rfl ?_
    refine ac_iconst (v := 2) Z.1 dX12_above_9 (by decide) ?_
    obtain ⟨hwt, hwf⟩ := hw
    refine ac_icmp_eq (tgt := 18) Z.1 dX12_above_10 (by decide) (fun hc => ?_) (fun hc => ?_)
    · have hw := hwt hc
      refine ac_iconst (v := 1) Z.1 dX12_above_18 (by decide) ?_
      refine ac_goto (tgt := 38) Z.1 dX12_above_19 (by decide) ?_
      exact hret _ _ _ _ _ dX12_above_38 rfl hw
    · have hw := hwf hc
      refine ac_iload_n Z.1 0 dX12_above_13 rfl ?_
      refine ac_iconst (v := 3) Z.1 dX12_above_14 (by decide) ?_
      obtain ⟨hwt, hwf⟩ := hw
      refine ac_icmp_ne (tgt := 22) Z.1 dX12_above_15 (by decide) (fun hc => ?_) (fun hc => ?_)
      · have hw := hwt hc
        refine ac_iload_n Z.1 0 dX12_above_22 rfl ?_
        refine ac_iconst (v := 5) Z.1 dX12_above_23 (by decide) ?_
        obtain ⟨hwt, hwf⟩ := hw
        refine ac_icmp_eq (tgt := 33) Z.1 dX12_above_24 (by decide) (fun hc => ?_) (fun hc => ?_)
        · have hw := hwt hc
          refine ac_iconst (v := 4) Z.1 dX12_above_33 (by decide) ?_
          refine ac_goto (tgt := 38) Z.1 dX12_above_34 (by decide) ?_
          exact hret _ _ _ _ _ dX12_above_38 rfl hw
        · have hw := hwf hc
          refine ac_iload_n Z.1 0 dX12_above_27 rfl ?_
          refine ac_bipush (v := 6) Z.1 dX12_above_28 (by decide) ?_
          obtain ⟨hwt, hwf⟩ := hw
          refine ac_icmp_ne (tgt := 37) Z.1 dX12_above_30 (by decide) (fun hc => ?_) (fun hc => ?_)
          · have hw := hwt hc
            refine ac_iconst (v := 0) Z.1 dX12_above_37 (by decide) ?_
            exact hret _ _ _ _ _ dX12_above_38 rfl hw
          · have hw := hwf hc
            refine ac_iconst (v := 4) Z.1 dX12_above_33 (by decide) ?_
            refine ac_goto (tgt := 38) Z.1 dX12_above_34 (by decide) ?_
            exact hret _ _ _ _ _ dX12_above_38 rfl hw
      · have hw := hwf hc
        refine ac_iconst (v := 1) Z.1 dX12_above_18 (by decide) ?_
        refine ac_goto (tgt := 38) Z.1 dX12_above_19 (by decide) ?_
        exact hret _ _ _ _ _ dX12_above_38 rfl hw
  · have hw := hwf hc
    refine ac_iconst (v := (-1)) Z.1 dX12_above_4 (by decide) ?_
    refine ac_goto (tgt := 38) Z.1 dX12_above_5 (by decide) ?_
    exact hret _ _ _ _ _ dX12_above_38 rfl hw
def w_isKind_20 (Q : Int32 → (Nat → Int32) → (Nat → Nat → Int32) → Prop) (a1 : Int32) (a2 : Int32) (M : Nat → Int32) (F : Nat → Nat → Int32) : Prop := (¬ a2 = a1 → (Q 0 M F)) ∧ (a2 = a1 → (Q 1 M F))
set_option maxRecDepth 20000 in
theorem s_isKind_20 {x : ac_X} {g : r_S} {l : Launch} {Q : Int32 → (Nat → Int32) → (Nat → Nat → Int32) → Prop} (Z : r_Cx x g l cX12_isKind 3 (1)) (hret : r_RI x g 3 cX12_isKind .boolean Q) (a1 : Int32) (a2 : Int32) (M : Nat → Int32) (F : Nat → Nat → Int32) (hw : w_isKind_20 Q a1 a2 M F) : ac_G x (r_R g) 3 (r_P g M F) 0 0 20 [(1, .int a1), (2, .int a2)] [] := by
  refine ac_iload_n Z.1 1 dX12_isKind_20 rfl ?_
  refine ac_iload_n Z.1 0 dX12_isKind_21 rfl ?_
  obtain ⟨hwt, hwf⟩ := hw
  refine ac_icmp_ne (tgt := 29) Z.1 dX12_isKind_22 (by decide) (fun hc => ?_) (fun hc => ?_)
  · have hw := hwt hc
    refine ac_iconst (v := 0) Z.1 dX12_isKind_29 (by decide) ?_
    exact hret _ _ _ _ _ dX12_isKind_30 rfl hw
  · have hw := hwf hc
    refine ac_iconst (v := 1) Z.1 dX12_isKind_25 (by decide) ?_
    refine ac_goto (tgt := 30) Z.1 dX12_isKind_26 (by decide) ?_
    exact hret _ _ _ _ _ dX12_isKind_30 rfl hw
def w_isKind_2 (Q : Int32 → (Nat → Int32) → (Nat → Nat → Int32) → Prop) : Nat → Int32 → Int32 → (Nat → Int32) → (Nat → Nat → Int32) → Prop
  | 0 => fun _ _ _ _ => False
  | n + 1 => fun a1 a2 M F => ((a2 = (-1) → (w_isKind_20 Q a1 a2 M F)) ∧ (¬ a2 = (-1) → ((a2 = a1 → (w_isKind_20 Q a1 a2 M F)) ∧ (¬ a2 = a1 → (w_above a2 M F (fun r1 M2 F2 => (w_isKind_2 Q n a1 r1 M2 F2)))))))
set_option maxRecDepth 20000 in
theorem s_isKind_2 {x : ac_X} {g : r_S} {l : Launch} {Q : Int32 → (Nat → Int32) → (Nat → Nat → Int32) → Prop} (Z : r_Cx x g l cX12_isKind 3 (1)) (hret : r_RI x g 3 cX12_isKind .boolean Q) : ∀ (n : Nat) (a1 : Int32) (a2 : Int32) (M : Nat → Int32) (F : Nat → Nat → Int32), w_isKind_2 Q n a1 a2 M F → ac_G x (r_R g) 3 (r_P g M F) 0 0 2 [(1, .int a1), (2, .int a2)] [] := by
  intro n
  induction n with
  | zero => intro _ _ _ _ hw; exact hw.elim
  | succ n ih =>
    intro a1 a2 M F hw
    dsimp only [w_isKind_2] at hw
    refine ac_iload_n Z.1 1 dX12_isKind_2 rfl ?_
    refine ac_iconst (v := (-1)) Z.1 dX12_isKind_3 (by decide) ?_
    obtain ⟨hwt, hwf⟩ := hw
    refine ac_icmp_eq (tgt := 20) Z.1 dX12_isKind_4 (by decide) (fun hc => ?_) (fun hc => ?_)
    · have hw := hwt hc
      exact s_isKind_20 Z hret _ _ _ _ hw
    · have hw := hwf hc
      refine ac_iload_n Z.1 1 dX12_isKind_7 rfl ?_
      refine ac_iload_n Z.1 0 dX12_isKind_8 rfl ?_
      obtain ⟨hwt, hwf⟩ := hw
      refine ac_icmp_eq (tgt := 20) Z.1 dX12_isKind_9 (by decide) (fun hc => ?_) (fun hc => ?_)
      · have hw := hwt hc
        exact s_isKind_20 Z hret _ _ _ _ hw
      · have hw := hwf hc
        refine ac_iload_n Z.1 1 dX12_isKind_12 rfl ?_
        refine r_calls (As := [.int a2]) (st := []) Z kX12_above lkX12_389 (by omega) (so_above   _ _ _ _ hw) rfl rfl (Nat.le_of_ble_eq_true rfl) dX12_isKind_13 (fun r1 M2 F2 hw => ?_)
        refine ac_istore_n (lv' := [(2, .int r1), (1, .int a1)]) Z.1 dX12_isKind_16 (by decide) rfl ?_
        refine ac_goto (tgt := 2) Z.1 dX12_isKind_17 (by decide) ?_
        refine ac_lv [1, 0] rfl ?_
        exact ih _ _ _ _ hw
def w_isKind (p0 : Int32) (p1 : Int32) (M : Nat → Int32) (F : Nat → Nat → Int32) (Q : Int32 → (Nat → Int32) → (Nat → Nat → Int32) → Prop) : Prop := ∃ e2, w_isKind_2 Q e2 p1 p0 M F
set_option maxRecDepth 20000 in
theorem so_isKind {l : Launch} {g : r_S} (p0 : Int32) (p1 : Int32) (M : Nat → Int32) (F : Nat → Nat → Int32) (Q : Int32 → (Nat → Int32) → (Nat → Nat → Int32) → Prop) (hw : w_isKind p0 p1 M F Q) : r_MetI l g yX12_isKind cX12_isKind 3 .boolean (1) [.int p0, .int p1] M F Q := by
  refine r_MetI.of (by decide) rfl (Nat.le_of_ble_eq_true rfl) (fun x Z hret => ?_)
  show ac_G x (r_R g) 3 (r_P g M F) 0 0 0 [(0, .int p0), (1, .int p1)] []
  refine ac_iload_n Z.1 0 dX12_isKind_0 rfl ?_
  refine ac_istore_n (lv' := [(2, .int p0), (0, .int p0), (1, .int p1)]) Z.1 dX12_isKind_1 (by decide) rfl ?_
  obtain ⟨n, hw⟩ := hw
  refine ac_lv [2, 0] rfl ?_
  exact s_isKind_2 Z hret n _ _ _ _ hw
def w_weight_115 (Q : Int32 → (Nat → Int32) → (Nat → Nat → Int32) → Prop) (t0 : Int32) (t1 : Int32) (M : Nat → Int32) (F : Nat → Nat → Int32) : Prop := Q (t0 + t1) M F
set_option maxRecDepth 20000 in
theorem s_weight_115 {x : ac_X} {g : r_S} {l : Launch} {Q : Int32 → (Nat → Int32) → (Nat → Nat → Int32) → Prop} (Z : r_Cx x g l cX12_weight 3 (0)) (hret : r_RI x g 3 cX12_weight .int Q) (t0 : Int32) (t1 : Int32) (M : Nat → Int32) (F : Nat → Nat → Int32) (hw : w_weight_115 Q t0 t1 M F) : ac_G x (r_R g) 3 (r_P g M F) 0 0 115 [(0, .ref (r_h g))] [.int t1, .int t0] := by
  refine ac_iadd Z.1 dX12_weight_115 ?_
  exact hret _ _ _ _ _ dX12_weight_116 rfl hw
def w_weight (p1 : Int32) (M : Nat → Int32) (F : Nat → Nat → Int32) (Q : Int32 → (Nat → Int32) → (Nat → Nat → Int32) → Prop) : Prop := vp_in p1 8001 ∧ (vp_in p1 8001 ∧ ((((F 48) (p1).toNatClampNeg) = 0 → (Q ((F 49) (p1).toNatClampNeg) M F)) ∧ (((F 48) (p1).toNatClampNeg) = 1 → (Q (((F 49) (p1).toNatClampNeg) + 10) M F)) ∧ (((F 48) (p1).toNatClampNeg) = 2 → (vp_in p1 8001 ∧ (∀ v4, v4 = ((((F 49) (p1).toNatClampNeg) + 10) + ((F 50) (p1).toNatClampNeg)) → (Q v4 M F)))) ∧ (((F 48) (p1).toNatClampNeg) = 3 → (Q (2 * (((F 49) (p1).toNatClampNeg) + 10)) M F)) ∧ (((F 48) (p1).toNatClampNeg) = 4 → (Q (3 * ((F 49) (p1).toNatClampNeg)) M F)) ∧ (((F 48) (p1).toNatClampNeg) = 5 → (Q ((3 * ((F 49) (p1).toNatClampNeg)) - 5) M F)) ∧ (¬ ((F 48) (p1).toNatClampNeg) = 0 → ¬ ((F 48) (p1).toNatClampNeg) = 1 → ¬ ((F 48) (p1).toNatClampNeg) = 2 → ¬ ((F 48) (p1).toNatClampNeg) = 3 → ¬ ((F 48) (p1).toNatClampNeg) = 4 → ¬ ((F 48) (p1).toNatClampNeg) = 5 → (vp_in p1 8001 ∧ ((((F 52) (p1).toNatClampNeg) ≤ 0 → (w_weight_115 Q (3 * ((F 49) (p1).toNatClampNeg)) 0 M F)) ∧ (¬ ((F 52) (p1).toNatClampNeg) ≤ 0 → (vp_in p1 8001 ∧ (vp_in ((F 52) (p1).toNatClampNeg) 8001 ∧ (∀ v8, v8 = ((F 49) (((F 52) (p1).toNatClampNeg)).toNatClampNeg) → (w_weight_115 Q (3 * ((F 49) (p1).toNatClampNeg)) v8 M F))))))))))
set_option maxRecDepth 20000 in
theorem so_weight {l : Launch} {g : r_S} (p1 : Int32) (M : Nat → Int32) (F : Nat → Nat → Int32) (Q : Int32 → (Nat → Int32) → (Nat → Nat → Int32) → Prop) (hw : w_weight p1 M F Q) : r_MetI l g yX12_weight cX12_weight 3 .int (0) [.ref (r_h g), .int p1] M F Q := by
  refine r_MetI.of (by decide) rfl (Nat.le_of_ble_eq_true rfl) (fun x Z hret => ?_)
  show ac_G x (r_R g) 3 (r_P g M F) 0 0 0 [(0, .ref (r_h g)), (1, .int p1)] []
  refine ac_aload_n Z.1 0 dX12_weight_0 rfl ?_
  refine r_geta Z.1 Z.2.1 49 (by decide) rfl fX12_95 rfl dX12_weight_1 ?_
  refine ac_iload_n Z.1 1 dX12_weight_4 rfl ?_
  obtain ⟨hb1, hw⟩ := hw
  refine r_ald (v := ((F 49) (p1).toNatClampNeg)) Z.1 Z.2.1 25 49 8001 rfl rfl hb1 rfl dX12_weight_5 ?_
  refine ac_istore_n (lv' := [(2, .int ((F 49) (p1).toNatClampNeg)), (0, .ref (r_h g)), (1, .int p1)]) Z.1 dX12_weight_6 (by decide) rfl ?_
  refine ac_aload_n Z.1 1 dX12_weight_7 rfl ?_
  refine r_geta Z.1 Z.2.1 48 (by decide) rfl fX12_92 rfl dX12_weight_8 ?_
  refine ac_iload_n Z.1 2 dX12_weight_11 rfl ?_
  obtain ⟨hb2, hw⟩ := hw
  refine r_ald (v := ((F 48) (p1).toNatClampNeg)) Z.1 Z.2.1 24 48 8001 rfl rfl hb2 rfl dX12_weight_12 ?_
  obtain ⟨hwk, hw⟩ := hw
  by_cases hk0 : ((F 48) (p1).toNatClampNeg) = 0
  · have hw := hwk hk0
    refine ac_tableIn (off := 39) (tgt := 52) Z.1 dX12_weight_13 (by rw [hk0]; decide) (by rw [hk0]; decide) (by rw [hk0]; rfl) (by decide) ?_
    refine ac_iload_n Z.1 0 dX12_weight_52 rfl ?_
    exact hret _ _ _ _ _ dX12_weight_53 rfl hw
  obtain ⟨hwk, hw⟩ := hw
  by_cases hk1 : ((F 48) (p1).toNatClampNeg) = 1
  · have hw := hwk hk1
    refine ac_tableIn (off := 41) (tgt := 54) Z.1 dX12_weight_13 (by rw [hk1]; decide) (by rw [hk1]; decide) (by rw [hk1]; rfl) (by decide) ?_
    refine ac_iload_n Z.1 0 dX12_weight_54 rfl ?_
    refine ac_bipush (v := 10) Z.1 dX12_weight_55 (by decide) ?_
    refine ac_iadd Z.1 dX12_weight_57 ?_
    exact hret _ _ _ _ _ dX12_weight_58 rfl hw
  obtain ⟨hwk, hw⟩ := hw
  by_cases hk2 : ((F 48) (p1).toNatClampNeg) = 2
  · have hw := hwk hk2
    refine ac_tableIn (off := 46) (tgt := 59) Z.1 dX12_weight_13 (by rw [hk2]; decide) (by rw [hk2]; decide) (by rw [hk2]; rfl) (by decide) ?_
    refine ac_iload_n Z.1 0 dX12_weight_59 rfl ?_
    refine ac_bipush (v := 10) Z.1 dX12_weight_60 (by decide) ?_
    refine ac_iadd Z.1 dX12_weight_62 ?_
    refine ac_aload_n Z.1 1 dX12_weight_63 rfl ?_
    refine r_geta Z.1 Z.2.1 50 (by decide) rfl fX12_98 rfl dX12_weight_64 ?_
    refine ac_iload_n Z.1 2 dX12_weight_67 rfl ?_
    obtain ⟨hb3, hw⟩ := hw
    refine r_ald (v := ((F 50) (p1).toNatClampNeg)) Z.1 Z.2.1 26 50 8001 rfl rfl hb3 rfl dX12_weight_68 ?_
    refine ac_iadd Z.1 dX12_weight_69 ?_
    refine ac_topi (fun v4 hv4 => ?_)
    have hw := hw v4 hv4
    exact hret _ _ _ _ _ dX12_weight_70 rfl hw
  obtain ⟨hwk, hw⟩ := hw
  by_cases hk3 : ((F 48) (p1).toNatClampNeg) = 3
  · have hw := hwk hk3
    refine ac_tableIn (off := 58) (tgt := 71) Z.1 dX12_weight_13 (by rw [hk3]; decide) (by rw [hk3]; decide) (by rw [hk3]; rfl) (by decide) ?_
    refine ac_iconst (v := 2) Z.1 dX12_weight_71 (by decide) ?_
    refine ac_iload_n Z.1 0 dX12_weight_72 rfl ?_
    refine ac_bipush (v := 10) Z.1 dX12_weight_73 (by decide) ?_
    refine ac_iadd Z.1 dX12_weight_75 ?_
    refine ac_imul Z.1 dX12_weight_76 ?_
    exact hret _ _ _ _ _ dX12_weight_77 rfl hw
  obtain ⟨hwk, hw⟩ := hw
  by_cases hk4 : ((F 48) (p1).toNatClampNeg) = 4
  · have hw := hwk hk4
    refine ac_tableIn (off := 65) (tgt := 78) Z.1 dX12_weight_13 (by rw [hk4]; decide) (by rw [hk4]; decide) (by rw [hk4]; rfl) (by decide) ?_
    refine ac_iconst (v := 3) Z.1 dX12_weight_78 (by decide) ?_
    refine ac_iload_n Z.1 0 dX12_weight_79 rfl ?_
    refine ac_imul Z.1 dX12_weight_80 ?_
    exact hret _ _ _ _ _ dX12_weight_81 rfl hw
  obtain ⟨hwk, hw⟩ := hw
  by_cases hk5 : ((F 48) (p1).toNatClampNeg) = 5
  · have hw := hwk hk5
    refine ac_tableIn (off := 69) (tgt := 82) Z.1 dX12_weight_13 (by rw [hk5]; decide) (by rw [hk5]; decide) (by rw [hk5]; rfl) (by decide) ?_
    refine ac_iconst (v := 3) Z.1 dX12_weight_82 (by decide) ?_
    refine ac_iload_n Z.1 0 dX12_weight_83 rfl ?_
    refine ac_imul Z.1 dX12_weight_84 ?_
    refine ac_iconst (v := 5) Z.1 dX12_weight_85 (by decide) ?_
    refine ac_isub Z.1 dX12_weight_86 ?_
    exact hret _ _ _ _ _ dX12_weight_87 rfl hw
  have hw := hw hk0 hk1 hk2 hk3 hk4 hk5
  refine ac_tableOut (tgt := 88) Z.1 dX12_weight_13 (by have q0 := lv_neT hk0 (show (0 : Int32).toInt = 0 by decide); have q1 := lv_neT hk1 (show (1 : Int32).toInt = 1 by decide); have q2 := lv_neT hk2 (show (2 : Int32).toInt = 2 by decide); have q3 := lv_neT hk3 (show (3 : Int32).toInt = 3 by decide); have q4 := lv_neT hk4 (show (4 : Int32).toInt = 4 by decide); have q5 := lv_neT hk5 (show (5 : Int32).toInt = 5 by decide); omega) (by decide) ?_
  refine ac_iconst (v := 3) Z.1 dX12_weight_88 (by decide) ?_
  refine ac_iload_n Z.1 0 dX12_weight_89 rfl ?_
  refine ac_imul Z.1 dX12_weight_90 ?_
  refine ac_aload_n Z.1 1 dX12_weight_91 rfl ?_
  refine r_geta Z.1 Z.2.1 52 (by decide) rfl fX12_104 rfl dX12_weight_92 ?_
  refine ac_iload_n Z.1 2 dX12_weight_95 rfl ?_
  obtain ⟨hb5, hw⟩ := hw
  refine r_ald (v := ((F 52) (p1).toNatClampNeg)) Z.1 Z.2.1 28 52 8001 rfl rfl hb5 rfl dX12_weight_96 ?_
  obtain ⟨hwt, hwf⟩ := hw
  refine ac_if_le (tgt := 114) Z.1 dX12_weight_97 (by decide) (fun hc => ?_) (fun hc => ?_)
  · have hw := hwt hc
    refine ac_iconst (v := 0) Z.1 dX12_weight_114 (by decide) ?_
    refine ac_lv [1] rfl ?_
    exact s_weight_115 Z hret _ _ _ _ hw
  · have hw := hwf hc
    refine ac_aload_n Z.1 1 dX12_weight_100 rfl ?_
    refine r_geta Z.1 Z.2.1 49 (by decide) rfl fX12_95 rfl dX12_weight_101 ?_
    refine ac_aload_n Z.1 1 dX12_weight_104 rfl ?_
    refine r_geta Z.1 Z.2.1 52 (by decide) rfl fX12_104 rfl dX12_weight_105 ?_
    refine ac_iload_n Z.1 2 dX12_weight_108 rfl ?_
    obtain ⟨hb6, hw⟩ := hw
    refine r_ald (v := ((F 52) (p1).toNatClampNeg)) Z.1 Z.2.1 28 52 8001 rfl rfl hb6 rfl dX12_weight_109 ?_
    obtain ⟨hb7, hw⟩ := hw
    refine r_ald (v := ((F 49) (((F 52) (p1).toNatClampNeg)).toNatClampNeg)) Z.1 Z.2.1 25 49 8001 rfl rfl hb7 rfl dX12_weight_110 ?_
    refine ac_topi (fun v8 hv8 => ?_)
    have hw := hw v8 hv8
    refine ac_goto (tgt := 115) Z.1 dX12_weight_111 (by decide) ?_
    refine ac_lv [1] rfl ?_
    exact s_weight_115 Z hret _ _ _ _ hw
def w_many_27 (Q : Int32 → (Nat → Int32) → (Nat → Nat → Int32) → Prop) (a2 : Int32) (M : Nat → Int32) (F : Nat → Nat → Int32) : Prop := Q a2 M F
set_option maxRecDepth 20000 in
theorem s_many_27 {x : ac_X} {g : r_S} {l : Launch} {Q : Int32 → (Nat → Int32) → (Nat → Nat → Int32) → Prop} (Z : r_Cx x g l cX12_many 4 (0)) (hret : r_RI x g 4 cX12_many .int Q) (a2 : Int32) (M : Nat → Int32) (F : Nat → Nat → Int32) (hw : w_many_27 Q a2 M F) : ac_G x (r_R g) 4 (r_P g M F) 0 0 27 [(0, .ref (r_h g)), (2, .int a2)] [] := by
  refine ac_iload_n Z.1 1 dX12_many_27 rfl ?_
  exact hret _ _ _ _ _ dX12_many_28 rfl hw
def w_many_4 (Q : Int32 → (Nat → Int32) → (Nat → Nat → Int32) → Prop) : Nat → Int32 → Int32 → (Nat → Int32) → (Nat → Nat → Int32) → Prop
  | 0 => fun _ _ _ _ => False
  | n + 1 => fun a2 a3 M F => ((a3 ≤ 0 → (w_many_27 Q a2 M F)) ∧ (¬ a3 ≤ 0 → ((50 ≤ a2 → (w_many_27 Q a2 M F)) ∧ (¬ 50 ≤ a2 → (vp_in a3 8001 ∧ (w_many_4 Q n (a2 + 1) ((F 52) (a3).toNatClampNeg) M F))))))
set_option maxRecDepth 20000 in
theorem s_many_4 {x : ac_X} {g : r_S} {l : Launch} {Q : Int32 → (Nat → Int32) → (Nat → Nat → Int32) → Prop} (Z : r_Cx x g l cX12_many 4 (0)) (hret : r_RI x g 4 cX12_many .int Q) : ∀ (n : Nat) (a2 : Int32) (a3 : Int32) (M : Nat → Int32) (F : Nat → Nat → Int32), w_many_4 Q n a2 a3 M F → ac_G x (r_R g) 4 (r_P g M F) 0 0 4 [(0, .ref (r_h g)), (2, .int a2), (3, .int a3)] [] := by
  intro n
  induction n with
  | zero => intro _ _ _ _ hw; exact hw.elim
  | succ n ih =>
    intro a2 a3 M F hw
    dsimp only [w_many_4] at hw
    refine ac_iload_n Z.1 2 dX12_many_4 rfl ?_
    obtain ⟨hwt, hwf⟩ := hw
    refine ac_if_le (tgt := 27) Z.1 dX12_many_5 (by decide) (fun hc => ?_) (fun hc => ?_)
    · have hw := hwt hc
      refine ac_lv [0, 1] rfl ?_
      exact s_many_27 Z hret _ _ _ hw
    · have hw := hwf hc
      refine ac_iload_n Z.1 1 dX12_many_8 rfl ?_
      refine ac_bipush (v := 50) Z.1 dX12_many_9 (by decide) ?_
      obtain ⟨hwt, hwf⟩ := hw
      refine ac_icmp_ge (tgt := 27) Z.1 dX12_many_11 (by decide) (fun hc => ?_) (fun hc => ?_)
      · have hw := hwt hc
        refine ac_lv [0, 1] rfl ?_
        exact s_many_27 Z hret _ _ _ hw
      · have hw := hwf hc
        refine ac_iinc (w := (a2 + 1)) (lv' := [(2, .int (a2 + 1)), (0, .ref (r_h g)), (3, .int a3)]) Z.1 1 dX12_many_14 rfl rfl (by decide) rfl ?_
        refine ac_aload_n Z.1 1 dX12_many_17 rfl ?_
        refine r_geta Z.1 Z.2.1 52 (by decide) rfl fX12_104 rfl dX12_many_18 ?_
        refine ac_iload_n Z.1 2 dX12_many_21 rfl ?_
        obtain ⟨hb1, hw⟩ := hw
        refine r_ald (v := ((F 52) (a3).toNatClampNeg)) Z.1 Z.2.1 28 52 8001 rfl rfl hb1 rfl dX12_many_22 ?_
        refine ac_istore_n (lv' := [(3, .int ((F 52) (a3).toNatClampNeg)), (2, .int (a2 + 1)), (0, .ref (r_h g))]) Z.1 dX12_many_23 (by decide) rfl ?_
        refine ac_goto (tgt := 4) Z.1 dX12_many_24 (by decide) ?_
        refine ac_lv [2, 1, 0] rfl ?_
        exact ih _ _ _ _ hw
def w_many (p1 : Int32) (M : Nat → Int32) (F : Nat → Nat → Int32) (Q : Int32 → (Nat → Int32) → (Nat → Nat → Int32) → Prop) : Prop := ∃ e4, w_many_4 Q e4 0 p1 M F
set_option maxRecDepth 20000 in
theorem so_many {l : Launch} {g : r_S} (p1 : Int32) (M : Nat → Int32) (F : Nat → Nat → Int32) (Q : Int32 → (Nat → Int32) → (Nat → Nat → Int32) → Prop) (hw : w_many p1 M F Q) : r_MetI l g yX12_many cX12_many 4 .int (0) [.ref (r_h g), .int p1] M F Q := by
  refine r_MetI.of (by decide) rfl (Nat.le_of_ble_eq_true rfl) (fun x Z hret => ?_)
  show ac_G x (r_R g) 4 (r_P g M F) 0 0 0 [(0, .ref (r_h g)), (1, .int p1)] []
  refine ac_iconst (v := 0) Z.1 dX12_many_0 (by decide) ?_
  refine ac_istore_n (lv' := [(2, .int 0), (0, .ref (r_h g)), (1, .int p1)]) Z.1 dX12_many_1 (by decide) rfl ?_
  refine ac_iload_n Z.1 2 dX12_many_2 rfl ?_
  refine ac_istore_n (lv' := [(3, .int p1), (2, .int 0), (0, .ref (r_h g)), (1, .int p1)]) Z.1 dX12_many_3 (by decide) rfl ?_
  obtain ⟨n, hw⟩ := hw
  refine ac_lv [2, 1, 0] rfl ?_
  exact s_many_4 Z hret n _ _ _ _ hw
def w_makesOne (p1 : Int32) (p2 : Int32) (p3 : Int32) (p4 : Int32) (p5 : Int32) (p6 : Int32) (M : Nat → Int32) (F : Nat → Nat → Int32) (Q : Int32 → (Nat → Int32) → (Nat → Nat → Int32) → Prop) : Prop := vp_in ((M 54) + 1) 8001 ∧ (vp_in ((M 54) + 1) 8001 ∧ (vp_in ((M 54) + 1) 8001 ∧ (vp_in ((M 54) + 1) 8001 ∧ (vp_in ((M 54) + 1) 8001 ∧ (vp_in ((M 54) + 1) 8001 ∧ (Q ((M 54) + 1) (um M 54 ((M 54) + 1)) (uf (uf (uf (uf (uf (uf F 48 ((M 54) + 1) p1) 49 ((M 54) + 1) p2) 50 ((M 54) + 1) p3) 51 ((M 54) + 1) p4) 52 ((M 54) + 1) p5) 53 ((M 54) + 1) (vp_nar .boolean p6))))))))
set_option maxRecDepth 20000 in
theorem so_makesOne {l : Launch} {g : r_S} (p1 : Int32) (p2 : Int32) (p3 : Int32) (p4 : Int32) (p5 : Int32) (p6 : Int32) (M : Nat → Int32) (F : Nat → Nat → Int32) (Q : Int32 → (Nat → Int32) → (Nat → Nat → Int32) → Prop) (hw : w_makesOne p1 p2 p3 p4 p5 p6 M F Q) : r_MetI l g yX12_makesOne cX12_makesOne 7 .int (0) [.ref (r_h g), .int p1, .int p2, .int p3, .int p4, .int p5, .int p6] M F Q := by
  refine r_MetI.of (by decide) rfl (Nat.le_of_ble_eq_true rfl) (fun x Z hret => ?_)
  show ac_G x (r_R g) 7 (r_P g M F) 0 0 0 [(0, .ref (r_h g)), (1, .int p1), (2, .int p2), (3, .int p3), (4, .int p4), (5, .int p5), (6, .int p6)] []
  refine ac_aload_n Z.1 0 dX12_makesOne_0 rfl ?_
  refine ac_dup Z.1 dX12_makesOne_1 rfl ?_
  refine r_geti (v := (M 54)) Z.1 Z.2.1 54 (by decide) rfl fX12_395 rfl rfl dX12_makesOne_2 ?_
  refine ac_iconst (v := 1) Z.1 dX12_makesOne_5 (by decide) ?_
  refine ac_iadd Z.1 dX12_makesOne_6 ?_
  refine r_put Z.1 Z.2.1 54 (by decide) rfl rfl rfl fX12_395 rfl dX12_makesOne_7 ?_
  refine ac_aload_n Z.1 0 dX12_makesOne_10 rfl ?_
  refine r_geta Z.1 Z.2.1 48 (by decide) rfl fX12_92 rfl dX12_makesOne_11 ?_
  refine ac_aload_n Z.1 0 dX12_makesOne_14 rfl ?_
  refine r_geti (v := ((M 54) + 1)) Z.1 Z.2.1 54 (by decide) rfl fX12_395 rfl rfl dX12_makesOne_15 ?_
  refine ac_iload_n Z.1 1 dX12_makesOne_18 rfl ?_
  obtain ⟨hb1, hw⟩ := hw
  refine r_ast Z.1 Z.2.1 24 48 8001 rfl rfl hb1 dX12_makesOne_19 ?_
  refine ac_aload_n Z.1 0 dX12_makesOne_20 rfl ?_
  refine r_geta Z.1 Z.2.1 49 (by decide) rfl fX12_95 rfl dX12_makesOne_21 ?_
  refine ac_aload_n Z.1 0 dX12_makesOne_24 rfl ?_
  refine r_geti (v := ((M 54) + 1)) Z.1 Z.2.1 54 (by decide) rfl fX12_395 rfl rfl dX12_makesOne_25 ?_
  refine ac_iload_n Z.1 2 dX12_makesOne_28 rfl ?_
  obtain ⟨hb2, hw⟩ := hw
  refine r_ast Z.1 Z.2.1 25 49 8001 rfl rfl hb2 dX12_makesOne_29 ?_
  refine ac_aload_n Z.1 0 dX12_makesOne_30 rfl ?_
  refine r_geta Z.1 Z.2.1 50 (by decide) rfl fX12_98 rfl dX12_makesOne_31 ?_
  refine ac_aload_n Z.1 0 dX12_makesOne_34 rfl ?_
  refine r_geti (v := ((M 54) + 1)) Z.1 Z.2.1 54 (by decide) rfl fX12_395 rfl rfl dX12_makesOne_35 ?_
  refine ac_iload_n Z.1 3 dX12_makesOne_38 rfl ?_
  obtain ⟨hb3, hw⟩ := hw
  refine r_ast Z.1 Z.2.1 26 50 8001 rfl rfl hb3 dX12_makesOne_39 ?_
  refine ac_aload_n Z.1 0 dX12_makesOne_40 rfl ?_
  refine r_geta Z.1 Z.2.1 51 (by decide) rfl fX12_101 rfl dX12_makesOne_41 ?_
  refine ac_aload_n Z.1 0 dX12_makesOne_44 rfl ?_
  refine r_geti (v := ((M 54) + 1)) Z.1 Z.2.1 54 (by decide) rfl fX12_395 rfl rfl dX12_makesOne_45 ?_
  refine ac_iload Z.1 4 dX12_makesOne_48 rfl ?_
  obtain ⟨hb4, hw⟩ := hw
  refine r_ast Z.1 Z.2.1 27 51 8001 rfl rfl hb4 dX12_makesOne_50 ?_
  refine ac_aload_n Z.1 0 dX12_makesOne_51 rfl ?_
  refine r_geta Z.1 Z.2.1 52 (by decide) rfl fX12_104 rfl dX12_makesOne_52 ?_
  refine ac_aload_n Z.1 0 dX12_makesOne_55 rfl ?_
  refine r_geti (v := ((M 54) + 1)) Z.1 Z.2.1 54 (by decide) rfl fX12_395 rfl rfl dX12_makesOne_56 ?_
  refine ac_iload Z.1 5 dX12_makesOne_59 rfl ?_
  obtain ⟨hb5, hw⟩ := hw
  refine r_ast Z.1 Z.2.1 28 52 8001 rfl rfl hb5 dX12_makesOne_61 ?_
  refine ac_aload_n Z.1 0 dX12_makesOne_62 rfl ?_
  refine r_geta Z.1 Z.2.1 53 (by decide) rfl fX12_107 rfl dX12_makesOne_63 ?_
  refine ac_aload_n Z.1 0 dX12_makesOne_66 rfl ?_
  refine r_geti (v := ((M 54) + 1)) Z.1 Z.2.1 54 (by decide) rfl fX12_395 rfl rfl dX12_makesOne_67 ?_
  refine ac_iload Z.1 6 dX12_makesOne_70 rfl ?_
  obtain ⟨hb6, hw⟩ := hw
  refine r_zast Z.1 Z.2.1 29 53 8001 rfl rfl hb6 rfl dX12_makesOne_72 ?_
  refine ac_aload_n Z.1 0 dX12_makesOne_73 rfl ?_
  refine r_geti (v := ((M 54) + 1)) Z.1 Z.2.1 54 (by decide) rfl fX12_395 rfl rfl dX12_makesOne_74 ?_
  exact hret _ _ _ _ _ dX12_makesOne_77 rfl hw
def w_makes_19 (Q : Int32 → (Nat → Int32) → (Nat → Nat → Int32) → Prop) (M : Nat → Int32) (F : Nat → Nat → Int32) : Prop := Q 0 (um M 71 1) F
set_option maxRecDepth 20000 in
theorem s_makes_19 {x : ac_X} {g : r_S} {l : Launch} {Q : Int32 → (Nat → Int32) → (Nat → Nat → Int32) → Prop} (Z : r_Cx x g l cX12_makes 7 (1)) (hret : r_RI x g 7 cX12_makes .int Q) (M : Nat → Int32) (F : Nat → Nat → Int32) (hw : w_makes_19 Q M F) : ac_G x (r_R g) 7 (r_P g M F) 0 0 19 [(0, .ref (r_h g))] [] := by
  refine ac_aload_n Z.1 0 dX12_makes_19 rfl ?_
  refine ac_iconst (v := 1) Z.1 dX12_makes_20 (by decide) ?_
  refine r_putZ Z.1 Z.2.1 71 (by decide) rfl rfl rfl fX12_398 rfl (by decide) dX12_makes_21 ?_
  refine ac_iconst (v := 0) Z.1 dX12_makes_24 (by decide) ?_
  exact hret _ _ _ _ _ dX12_makes_25 rfl hw
def w_makes (p1 : Int32) (p2 : Int32) (p3 : Int32) (p4 : Int32) (p5 : Int32) (p6 : Int32) (M : Nat → Int32) (F : Nat → Nat → Int32) (Q : Int32 → (Nat → Int32) → (Nat → Nat → Int32) → Prop) : Prop := ((M 55) = 100 → (w_makes_19 Q M F)) ∧ (¬ (M 55) = 100 → ((¬ (M 54) = 8000 → (w_makesOne p1 p2 p3 p4 p5 p6 (um M 55 ((M 55) + 1)) F (fun r1 M2 F2 => (Q r1 M2 F2)))) ∧ ((M 54) = 8000 → (w_makes_19 Q M F))))
set_option maxRecDepth 20000 in
theorem so_makes {l : Launch} {g : r_S} (p1 : Int32) (p2 : Int32) (p3 : Int32) (p4 : Int32) (p5 : Int32) (p6 : Int32) (M : Nat → Int32) (F : Nat → Nat → Int32) (Q : Int32 → (Nat → Int32) → (Nat → Nat → Int32) → Prop) (hw : w_makes p1 p2 p3 p4 p5 p6 M F Q) : r_MetI l g yX12_makes cX12_makes 7 .int (1) [.ref (r_h g), .int p1, .int p2, .int p3, .int p4, .int p5, .int p6] M F Q := by
  refine r_MetI.of (by decide) rfl (Nat.le_of_ble_eq_true rfl) (fun x Z hret => ?_)
  show ac_G x (r_R g) 7 (r_P g M F) 0 0 0 [(0, .ref (r_h g)), (1, .int p1), (2, .int p2), (3, .int p3), (4, .int p4), (5, .int p5), (6, .int p6)] []
  refine ac_aload_n Z.1 0 dX12_makes_0 rfl ?_
  refine r_geti (v := (M 55)) Z.1 Z.2.1 55 (by decide) rfl fX12_392 rfl rfl dX12_makes_1 ?_
  refine ac_bipush (v := 100) Z.1 dX12_makes_4 (by decide) ?_
  obtain ⟨hwt, hwf⟩ := hw
  refine ac_icmp_eq (tgt := 19) Z.1 dX12_makes_6 (by decide) (fun hc => ?_) (fun hc => ?_)
  · have hw := hwt hc
    refine ac_lv [0] rfl ?_
    exact s_makes_19 Z hret _ _ hw
  · have hw := hwf hc
    refine ac_aload_n Z.1 0 dX12_makes_9 rfl ?_
    refine r_geti (v := (M 54)) Z.1 Z.2.1 54 (by decide) rfl fX12_395 rfl rfl dX12_makes_10 ?_
    refine ac_sipush (v := 8000) Z.1 dX12_makes_13 (by decide) ?_
    obtain ⟨hwt, hwf⟩ := hw
    refine ac_icmp_ne (tgt := 26) Z.1 dX12_makes_16 (by decide) (fun hc => ?_) (fun hc => ?_)
    · have hw := hwt hc
      refine ac_aload_n Z.1 0 dX12_makes_26 rfl ?_
      refine ac_dup Z.1 dX12_makes_27 rfl ?_
      refine r_geti (v := (M 55)) Z.1 Z.2.1 55 (by decide) rfl fX12_392 rfl rfl dX12_makes_28 ?_
      refine ac_iconst (v := 1) Z.1 dX12_makes_31 (by decide) ?_
      refine ac_iadd Z.1 dX12_makes_32 ?_
      refine r_put Z.1 Z.2.1 55 (by decide) rfl rfl rfl fX12_392 rfl dX12_makes_33 ?_
      refine ac_aload_n Z.1 0 dX12_makes_36 rfl ?_
      refine ac_iload_n Z.1 1 dX12_makes_37 rfl ?_
      refine ac_iload_n Z.1 2 dX12_makes_38 rfl ?_
      refine ac_iload_n Z.1 3 dX12_makes_39 rfl ?_
      refine ac_iload Z.1 4 dX12_makes_40 rfl ?_
      refine ac_iload Z.1 5 dX12_makes_42 rfl ?_
      refine ac_iload Z.1 6 dX12_makes_44 rfl ?_
      refine r_calli (As := [.int p1, .int p2, .int p3, .int p4, .int p5, .int p6]) (st := []) Z kX12_makesOne lkX12_402 (by omega) rfl (so_makesOne   _ _ _ _ _ _ _ _ _ hw) rfl rfl (Nat.le_of_ble_eq_true rfl) dX12_makes_46 (fun r1 M2 F2 hw => ?_)
      exact hret _ _ _ _ _ dX12_makes_49 rfl hw
    · have hw := hwf hc
      refine ac_lv [0] rfl ?_
      exact s_makes_19 Z hret _ _ hw
def w_push (p1 : Int32) (M : Nat → Int32) (F : Nat → Nat → Int32) (Q : (Nat → Int32) → (Nat → Nat → Int32) → Prop) : Prop := vp_in (M 69) 64 ∧ (Q (um M 69 ((M 69) + 1)) (uf F 68 (M 69) p1))
set_option maxRecDepth 20000 in
theorem so_push {l : Launch} {g : r_S} (p1 : Int32) (M : Nat → Int32) (F : Nat → Nat → Int32) (Q : (Nat → Int32) → (Nat → Nat → Int32) → Prop) (hw : w_push p1 M F Q) : r_MetV l g yX12_push cX12_push 2 (0) [.ref (r_h g), .int p1] M F Q := by
  refine r_MetV.of (by decide) rfl (Nat.le_of_ble_eq_true rfl) (fun x Z hret => ?_)
  show ac_G x (r_R g) 2 (r_P g M F) 0 0 0 [(0, .ref (r_h g)), (1, .int p1)] []
  refine ac_aload_n Z.1 0 dX12_push_0 rfl ?_
  refine r_geta Z.1 Z.2.1 68 (by decide) rfl fX12_138 rfl dX12_push_1 ?_
  refine ac_aload_n Z.1 0 dX12_push_4 rfl ?_
  refine r_geti (v := (M 69)) Z.1 Z.2.1 69 (by decide) rfl fX12_406 rfl rfl dX12_push_5 ?_
  refine ac_iload_n Z.1 1 dX12_push_8 rfl ?_
  obtain ⟨hb1, hw⟩ := hw
  refine r_ast Z.1 Z.2.1 39 68 64 rfl rfl hb1 dX12_push_9 ?_
  refine ac_aload_n Z.1 0 dX12_push_10 rfl ?_
  refine ac_dup Z.1 dX12_push_11 rfl ?_
  refine r_geti (v := (M 69)) Z.1 Z.2.1 69 (by decide) rfl fX12_406 rfl rfl dX12_push_12 ?_
  refine ac_iconst (v := 1) Z.1 dX12_push_15 (by decide) ?_
  refine ac_iadd Z.1 dX12_push_16 ?_
  refine r_put Z.1 Z.2.1 69 (by decide) rfl rfl rfl fX12_406 rfl dX12_push_17 ?_
  exact hret _ _ _ _ dX12_push_20 hw
def w_pop (M : Nat → Int32) (F : Nat → Nat → Int32) (Q : Int32 → (Nat → Int32) → (Nat → Nat → Int32) → Prop) : Prop := vp_in ((M 69) - 1) 64 ∧ (Q ((F 68) (((M 69) - 1)).toNatClampNeg) (um M 69 ((M 69) - 1)) F)
set_option maxRecDepth 20000 in
theorem so_pop {l : Launch} {g : r_S} (M : Nat → Int32) (F : Nat → Nat → Int32) (Q : Int32 → (Nat → Int32) → (Nat → Nat → Int32) → Prop) (hw : w_pop  M F Q) : r_MetI l g yX12_pop cX12_pop 1 .int (0) [.ref (r_h g)] M F Q := by
  refine r_MetI.of (by decide) rfl (Nat.le_of_ble_eq_true rfl) (fun x Z hret => ?_)
  show ac_G x (r_R g) 1 (r_P g M F) 0 0 0 [(0, .ref (r_h g))] []
  refine ac_aload_n Z.1 0 dX12_pop_0 rfl ?_
  refine ac_dup Z.1 dX12_pop_1 rfl ?_
  refine r_geti (v := (M 69)) Z.1 Z.2.1 69 (by decide) rfl fX12_406 rfl rfl dX12_pop_2 ?_
  refine ac_iconst (v := 1) Z.1 dX12_pop_5 (by decide) ?_
  refine ac_isub Z.1 dX12_pop_6 ?_
  refine r_put Z.1 Z.2.1 69 (by decide) rfl rfl rfl fX12_406 rfl dX12_pop_7 ?_
  refine ac_aload_n Z.1 0 dX12_pop_10 rfl ?_
  refine r_geta Z.1 Z.2.1 68 (by decide) rfl fX12_138 rfl dX12_pop_11 ?_
  refine ac_aload_n Z.1 0 dX12_pop_14 rfl ?_
  refine r_geti (v := ((M 69) - 1)) Z.1 Z.2.1 69 (by decide) rfl fX12_406 rfl rfl dX12_pop_15 ?_
  obtain ⟨hb1, hw⟩ := hw
  refine r_ald (v := ((F 68) (((M 69) - 1)).toNatClampNeg)) Z.1 Z.2.1 39 68 64 rfl rfl hb1 rfl dX12_pop_18 ?_
  exact hret _ _ _ _ _ dX12_pop_19 rfl hw
def w_begins_33 (Q : (Nat → Int32) → (Nat → Nat → Int32) → Prop) : Nat → Int32 → Int32 → (Nat → Int32) → (Nat → Nat → Int32) → Prop
  | 0 => fun _ _ _ _ => False
  | n + 1 => fun a1 a3 M F => ((8 ≤ a3 → (vp_in (M 62) 12 ∧ (vp_in a1 800 ∧ (Q (um (um (um M 62 ((M 62) + 1)) 82 ((M 82) + 1)) 70 ((F 18) (a1).toNatClampNeg)) (uf F 61 (M 62) (M 67)))))) ∧ (¬ 8 ≤ a3 → (vp_in ((8 * (M 62)) + a3) 96 ∧ (w_begins_33 Q n a1 (a3 + 1) M (uf F 58 ((8 * (M 62)) + a3) 0)))))
set_option maxRecDepth 20000 in
theorem s_begins_33 {x : ac_X} {g : r_S} {l : Launch} {Q : (Nat → Int32) → (Nat → Nat → Int32) → Prop} (Z : r_Cx x g l cX12_begins 4 (0)) (hret : r_RV x g 4 cX12_begins Q) : ∀ (n : Nat) (a1 : Int32) (a3 : Int32) (M : Nat → Int32) (F : Nat → Nat → Int32), w_begins_33 Q n a1 a3 M F → ac_G x (r_R g) 4 (r_P g M F) 0 0 33 [(0, .ref (r_h g)), (1, .int a1), (3, .int a3)] [] := by
  intro n
  induction n with
  | zero => intro _ _ _ _ hw; exact hw.elim
  | succ n ih =>
    intro a1 a3 M F hw
    dsimp only [w_begins_33] at hw
    refine ac_iload_n Z.1 2 dX12_begins_33 rfl ?_
    refine ac_bipush (v := 8) Z.1 dX12_begins_34 (by decide) ?_
    obtain ⟨hwt, hwf⟩ := hw
    refine ac_icmp_ge (tgt := 60) Z.1 dX12_begins_36 (by decide) (fun hc => ?_) (fun hc => ?_)
    · have hw := hwt hc
      refine ac_aload_n Z.1 0 dX12_begins_60 rfl ?_
      refine r_geta Z.1 Z.2.1 61 (by decide) rfl fX12_123 rfl dX12_begins_61 ?_
      refine ac_aload_n Z.1 0 dX12_begins_64 rfl ?_
      refine r_geti (v := (M 62)) Z.1 Z.2.1 62 (by decide) rfl fX12_409 rfl rfl dX12_begins_65 ?_
      refine ac_aload_n Z.1 0 dX12_begins_68 rfl ?_
      refine r_geti (v := (M 67)) Z.1 Z.2.1 67 (by decide) rfl fX12_412 rfl rfl dX12_begins_69 ?_
      obtain ⟨hb1, hw⟩ := hw
      refine r_ast Z.1 Z.2.1 34 61 12 rfl rfl hb1 dX12_begins_72 ?_
      refine ac_aload_n Z.1 0 dX12_begins_73 rfl ?_
      refine ac_dup Z.1 dX12_begins_74 rfl ?_
      refine r_geti (v := (M 62)) Z.1 Z.2.1 62 (by decide) rfl fX12_409 rfl rfl dX12_begins_75 ?_
      refine ac_iconst (v := 1) Z.1 dX12_begins_78 (by decide) ?_
      refine ac_iadd Z.1 dX12_begins_79 ?_
      refine r_put Z.1 Z.2.1 62 (by decide) rfl rfl rfl fX12_409 rfl dX12_begins_80 ?_
      refine ac_aload_n Z.1 0 dX12_begins_83 rfl ?_
      refine ac_dup Z.1 dX12_begins_84 rfl ?_
      refine r_geti (v := (M 82)) Z.1 Z.2.1 82 (by decide) rfl fX12_415 rfl rfl dX12_begins_85 ?_
      refine ac_iconst (v := 1) Z.1 dX12_begins_88 (by decide) ?_
      refine ac_iadd Z.1 dX12_begins_89 ?_
      refine r_put Z.1 Z.2.1 82 (by decide) rfl rfl rfl fX12_415 rfl dX12_begins_90 ?_
      refine ac_aload_n Z.1 0 dX12_begins_93 rfl ?_
      refine ac_aload_n Z.1 0 dX12_begins_94 rfl ?_
      refine r_geta Z.1 Z.2.1 18 (by decide) rfl fX12_43 rfl dX12_begins_95 ?_
      refine ac_iload_n Z.1 1 dX12_begins_98 rfl ?_
      obtain ⟨hb2, hw⟩ := hw
      refine r_ald (v := ((F 18) (a1).toNatClampNeg)) Z.1 Z.2.1 11 18 800 rfl rfl hb2 rfl dX12_begins_99 ?_
      refine r_put Z.1 Z.2.1 70 (by decide) rfl rfl rfl fX12_418 rfl dX12_begins_100 ?_
      exact hret _ _ _ _ dX12_begins_103 hw
    · have hw := hwf hc
      refine ac_aload_n Z.1 0 dX12_begins_39 rfl ?_
      refine r_geta Z.1 Z.2.1 58 (by decide) rfl fX12_114 rfl dX12_begins_40 ?_
      refine ac_bipush (v := 8) Z.1 dX12_begins_43 (by decide) ?_
      refine ac_aload_n Z.1 0 dX12_begins_45 rfl ?_
      refine r_geti (v := (M 62)) Z.1 Z.2.1 62 (by decide) rfl fX12_409 rfl rfl dX12_begins_46 ?_
      refine ac_imul Z.1 dX12_begins_49 ?_
      refine ac_iload_n Z.1 2 dX12_begins_50 rfl ?_
      refine ac_iadd Z.1 dX12_begins_51 ?_
      refine ac_iconst (v := 0) Z.1 dX12_begins_52 (by decide) ?_
      obtain ⟨hb3, hw⟩ := hw
      refine r_ast Z.1 Z.2.1 31 58 96 rfl rfl hb3 dX12_begins_53 ?_
      refine ac_iinc (w := (a3 + 1)) (lv' := [(3, .int (a3 + 1)), (0, .ref (r_h g)), (1, .int a1)]) Z.1 2 dX12_begins_54 rfl rfl (by decide) rfl ?_
      refine ac_goto (tgt := 33) Z.1 dX12_begins_57 (by decide) ?_
      refine ac_lv [1, 2, 0] rfl ?_
      exact ih _ _ _ _ hw
def w_begins_10 (Q : (Nat → Int32) → (Nat → Nat → Int32) → Prop) : Nat → Int32 → Int32 → Int32 → (Nat → Int32) → (Nat → Nat → Int32) → Prop
  | 0 => fun _ _ _ _ _ => False
  | n + 1 => fun a1 a2 a3 M F => ((12 ≤ a3 → (∃ e33, w_begins_33 Q e33 a1 0 M F)) ∧ (¬ 12 ≤ a3 → (vp_in (a2 + a3) 144 ∧ (w_begins_10 Q n a1 a2 (a3 + 1) M (uf F 57 (a2 + a3) 0)))))
set_option maxRecDepth 20000 in
theorem s_begins_10 {x : ac_X} {g : r_S} {l : Launch} {Q : (Nat → Int32) → (Nat → Nat → Int32) → Prop} (Z : r_Cx x g l cX12_begins 4 (0)) (hret : r_RV x g 4 cX12_begins Q) : ∀ (n : Nat) (a1 : Int32) (a2 : Int32) (a3 : Int32) (M : Nat → Int32) (F : Nat → Nat → Int32), w_begins_10 Q n a1 a2 a3 M F → ac_G x (r_R g) 4 (r_P g M F) 0 0 10 [(0, .ref (r_h g)), (1, .int a1), (2, .int a2), (3, .int a3)] [] := by
  intro n
  induction n with
  | zero => intro _ _ _ _ _ hw; exact hw.elim
  | succ n ih =>
    intro a1 a2 a3 M F hw
    dsimp only [w_begins_10] at hw
    refine ac_iload_n Z.1 3 dX12_begins_10 rfl ?_
    refine ac_bipush (v := 12) Z.1 dX12_begins_11 (by decide) ?_
    obtain ⟨hwt, hwf⟩ := hw
    refine ac_icmp_ge (tgt := 31) Z.1 dX12_begins_13 (by decide) (fun hc => ?_) (fun hc => ?_)
    · have hw := hwt hc
      refine ac_iconst (v := 0) Z.1 dX12_begins_31 (by decide) ?_
      refine ac_istore_n (lv' := [(3, .int 0), (0, .ref (r_h g)), (1, .int a1), (2, .int a2)]) Z.1 dX12_begins_32 (by decide) rfl ?_
      obtain ⟨n, hw⟩ := hw
      refine ac_lv [1, 2, 0] rfl ?_
      exact s_begins_33 Z hret n _ _ _ _ hw
    · have hw := hwf hc
      refine ac_aload_n Z.1 0 dX12_begins_16 rfl ?_
      refine r_geta Z.1 Z.2.1 57 (by decide) rfl fX12_111 rfl dX12_begins_17 ?_
      refine ac_iload_n Z.1 2 dX12_begins_20 rfl ?_
      refine ac_iload_n Z.1 3 dX12_begins_21 rfl ?_
      refine ac_iadd Z.1 dX12_begins_22 ?_
      refine ac_iconst (v := 0) Z.1 dX12_begins_23 (by decide) ?_
      obtain ⟨hb4, hw⟩ := hw
      refine r_ast Z.1 Z.2.1 30 57 144 rfl rfl hb4 dX12_begins_24 ?_
      refine ac_iinc (w := (a3 + 1)) (lv' := [(3, .int (a3 + 1)), (0, .ref (r_h g)), (1, .int a1), (2, .int a2)]) Z.1 3 dX12_begins_25 rfl rfl (by decide) rfl ?_
      refine ac_goto (tgt := 10) Z.1 dX12_begins_28 (by decide) ?_
      refine ac_lv [1, 2, 3, 0] rfl ?_
      exact ih _ _ _ _ _ hw
def w_begins (p1 : Int32) (M : Nat → Int32) (F : Nat → Nat → Int32) (Q : (Nat → Int32) → (Nat → Nat → Int32) → Prop) : Prop := ∃ e10, w_begins_10 Q e10 p1 (12 * (M 62)) 0 M F
set_option maxRecDepth 20000 in
theorem so_begins {l : Launch} {g : r_S} (p1 : Int32) (M : Nat → Int32) (F : Nat → Nat → Int32) (Q : (Nat → Int32) → (Nat → Nat → Int32) → Prop) (hw : w_begins p1 M F Q) : r_MetV l g yX12_begins cX12_begins 4 (0) [.ref (r_h g), .int p1] M F Q := by
  refine r_MetV.of (by decide) rfl (Nat.le_of_ble_eq_true rfl) (fun x Z hret => ?_)
  show ac_G x (r_R g) 4 (r_P g M F) 0 0 0 [(0, .ref (r_h g)), (1, .int p1)] []
  refine ac_bipush (v := 12) Z.1 dX12_begins_0 (by decide) ?_
  refine ac_aload_n Z.1 0 dX12_begins_2 rfl ?_
  refine r_geti (v := (M 62)) Z.1 Z.2.1 62 (by decide) rfl fX12_409 rfl rfl dX12_begins_3 ?_
  refine ac_imul Z.1 dX12_begins_6 ?_
  refine ac_istore_n (lv' := [(2, .int (12 * (M 62))), (0, .ref (r_h g)), (1, .int p1)]) Z.1 dX12_begins_7 (by decide) rfl ?_
  refine ac_iconst (v := 0) Z.1 dX12_begins_8 (by decide) ?_
  refine ac_istore_n (lv' := [(3, .int 0), (2, .int (12 * (M 62))), (0, .ref (r_h g)), (1, .int p1)]) Z.1 dX12_begins_9 (by decide) rfl ?_
  obtain ⟨n, hw⟩ := hw
  refine ac_lv [2, 3, 1, 0] rfl ?_
  exact s_begins_10 Z hret n _ _ _ _ _ hw
def w_goesLastly (p1 : Int32) (p2 : Int32) (p3 : Int32) (M : Nat → Int32) (F : Nat → Nat → Int32) (Q : Int32 → (Nat → Int32) → (Nat → Nat → Int32) → Prop) : Prop := vp_in p1 260 ∧ ((((F 64) (p1).toNatClampNeg) = 2 → (Q 0 M F)) ∧ (¬ ((F 64) (p1).toNatClampNeg) = 2 → (vp_in p1 260 ∧ (vp_in ((F 63) (p1).toNatClampNeg) 800 ∧ (∀ v4, v4 = ((F 21) (((F 63) (p1).toNatClampNeg)).toNatClampNeg) → ((¬ v4 = (-1) → (vp_in p1 260 ∧ (vp_in p1 260 ∧ (vp_in p1 260 ∧ (vp_in p1 260 ∧ (vp_in ((F 63) (p1).toNatClampNeg) 800 ∧ (∀ v10, v10 = ((F 21) (((F 63) (p1).toNatClampNeg)).toNatClampNeg) → (Q 1 (um M 70 v10) (uf (uf (uf F 64 p1 2) 65 p1 p2) 66 p1 p3))))))))) ∧ (v4 = (-1) → (Q 0 M F))))))))
set_option maxRecDepth 20000 in
theorem so_goesLastly {l : Launch} {g : r_S} (p1 : Int32) (p2 : Int32) (p3 : Int32) (M : Nat → Int32) (F : Nat → Nat → Int32) (Q : Int32 → (Nat → Int32) → (Nat → Nat → Int32) → Prop) (hw : w_goesLastly p1 p2 p3 M F Q) : r_MetI l g yX12_goesLastly cX12_goesLastly 4 .boolean (0) [.ref (r_h g), .int p1, .int p2, .int p3] M F Q := by
  refine r_MetI.of (by decide) rfl (Nat.le_of_ble_eq_true rfl) (fun x Z hret => ?_)
  show ac_G x (r_R g) 4 (r_P g M F) 0 0 0 [(0, .ref (r_h g)), (1, .int p1), (2, .int p2), (3, .int p3)] []
  refine ac_aload_n Z.1 0 dX12_goesLastly_0 rfl ?_
  refine r_geta Z.1 Z.2.1 64 (by decide) rfl fX12_129 rfl dX12_goesLastly_1 ?_
  refine ac_iload_n Z.1 1 dX12_goesLastly_4 rfl ?_
  obtain ⟨hb1, hw⟩ := hw
  refine r_ald (v := ((F 64) (p1).toNatClampNeg)) Z.1 Z.2.1 36 64 260 rfl rfl hb1 rfl dX12_goesLastly_5 ?_
  refine ac_iconst (v := 2) Z.1 dX12_goesLastly_6 (by decide) ?_
  obtain ⟨hwt, hwf⟩ := hw
  refine ac_icmp_eq (tgt := 25) Z.1 dX12_goesLastly_7 (by decide) (fun hc => ?_) (fun hc => ?_)
  · have hw := hwt hc
    refine ac_iconst (v := 0) Z.1 dX12_goesLastly_25 (by decide) ?_
    exact hret _ _ _ _ _ dX12_goesLastly_26 rfl hw
  · have hw := hwf hc
    refine ac_aload_n Z.1 0 dX12_goesLastly_10 rfl ?_
    refine r_geta Z.1 Z.2.1 21 (by decide) rfl fX12_52 rfl dX12_goesLastly_11 ?_
    refine ac_aload_n Z.1 0 dX12_goesLastly_14 rfl ?_
    refine r_geta Z.1 Z.2.1 63 (by decide) rfl fX12_126 rfl dX12_goesLastly_15 ?_
    refine ac_iload_n Z.1 1 dX12_goesLastly_18 rfl ?_
    obtain ⟨hb2, hw⟩ := hw
    refine r_ald (v := ((F 63) (p1).toNatClampNeg)) Z.1 Z.2.1 35 63 260 rfl rfl hb2 rfl dX12_goesLastly_19 ?_
    obtain ⟨hb3, hw⟩ := hw
    refine r_ald (v := ((F 21) (((F 63) (p1).toNatClampNeg)).toNatClampNeg)) Z.1 Z.2.1 14 21 800 rfl rfl hb3 rfl dX12_goesLastly_20 ?_
    refine ac_topi (fun v4 hv4 => ?_)
    have hw := hw v4 hv4
    refine ac_iconst (v := (-1)) Z.1 dX12_goesLastly_21 (by decide) ?_
    obtain ⟨hwt, hwf⟩ := hw
    refine ac_icmp_ne (tgt := 27) Z.1 dX12_goesLastly_22 (by decide) (fun hc => ?_) (fun hc => ?_)
    · have hw := hwt hc
      refine ac_aload_n Z.1 0 dX12_goesLastly_27 rfl ?_
      refine r_geta Z.1 Z.2.1 64 (by decide) rfl fX12_129 rfl dX12_goesLastly_28 ?_
      refine ac_iload_n Z.1 1 dX12_goesLastly_31 rfl ?_
      refine ac_iconst (v := 2) Z.1 dX12_goesLastly_32 (by decide) ?_
      obtain ⟨hb5, hw⟩ := hw
      refine r_ast Z.1 Z.2.1 36 64 260 rfl rfl hb5 dX12_goesLastly_33 ?_
      refine ac_aload_n Z.1 0 dX12_goesLastly_34 rfl ?_
      refine r_geta Z.1 Z.2.1 65 (by decide) rfl fX12_132 rfl dX12_goesLastly_35 ?_
      refine ac_iload_n Z.1 1 dX12_goesLastly_38 rfl ?_
      refine ac_iload_n Z.1 2 dX12_goesLastly_39 rfl ?_
      obtain ⟨hb6, hw⟩ := hw
      refine r_ast Z.1 Z.2.1 37 65 260 rfl rfl hb6 dX12_goesLastly_40 ?_
      refine ac_aload_n Z.1 0 dX12_goesLastly_41 rfl ?_
      refine r_geta Z.1 Z.2.1 66 (by decide) rfl fX12_135 rfl dX12_goesLastly_42 ?_
      refine ac_iload_n Z.1 1 dX12_goesLastly_45 rfl ?_
      refine ac_iload_n Z.1 3 dX12_goesLastly_46 rfl ?_
      obtain ⟨hb7, hw⟩ := hw
      refine r_ast Z.1 Z.2.1 38 66 260 rfl rfl hb7 dX12_goesLastly_47 ?_
      refine ac_aload_n Z.1 0 dX12_goesLastly_48 rfl ?_
      refine ac_aload_n Z.1 0 dX12_goesLastly_49 rfl ?_
      refine r_geta Z.1 Z.2.1 21 (by decide) rfl fX12_52 rfl dX12_goesLastly_50 ?_
      refine ac_aload_n Z.1 0 dX12_goesLastly_53 rfl ?_
      refine r_geta Z.1 Z.2.1 63 (by decide) rfl fX12_126 rfl dX12_goesLastly_54 ?_
      refine ac_iload_n Z.1 1 dX12_goesLastly_57 rfl ?_
      obtain ⟨hb8, hw⟩ := hw
      refine r_ald (v := ((F 63) (p1).toNatClampNeg)) Z.1 Z.2.1 35 63 260 rfl rfl hb8 rfl dX12_goesLastly_58 ?_
      obtain ⟨hb9, hw⟩ := hw
      refine r_ald (v := ((F 21) (((F 63) (p1).toNatClampNeg)).toNatClampNeg)) Z.1 Z.2.1 14 21 800 rfl rfl hb9 rfl dX12_goesLastly_59 ?_
      refine ac_topi (fun v10 hv10 => ?_)
      have hw := hw v10 hv10
      refine r_put Z.1 Z.2.1 70 (by decide) rfl rfl rfl fX12_418 rfl dX12_goesLastly_60 ?_
      refine ac_iconst (v := 1) Z.1 dX12_goesLastly_63 (by decide) ?_
      exact hret _ _ _ _ _ dX12_goesLastly_64 rfl hw
    · have hw := hwf hc
      refine ac_iconst (v := 0) Z.1 dX12_goesLastly_25 (by decide) ?_
      exact hret _ _ _ _ _ dX12_goesLastly_26 rfl hw
def w_raise_170 (K5 : (Int32 → (Nat → Int32) → (Nat → Nat → Int32) → Prop)) (Q : (Nat → Int32) → (Nat → Nat → Int32) → Prop) (a1 : Int32) (a2 : Int32) (M : Nat → Int32) (F : Nat → Nat → Int32) : Prop := w_goesLastly a2 1 a1 M F (fun r3 M4 F4 => ((r3 = 0 → (K5 a1 (um M4 67 ((M4 67) - 1)) F4)) ∧ (¬ r3 = 0 → (Q M4 F4))))
set_option maxRecDepth 20000 in
theorem s_raise_170 {x : ac_X} {g : r_S} {l : Launch} {K5 : (Int32 → (Nat → Int32) → (Nat → Nat → Int32) → Prop)} {Q : (Nat → Int32) → (Nat → Nat → Int32) → Prop} (Z : r_Cx x g l cX12_raise 4 (2)) (hret : r_RV x g 4 cX12_raise Q) (hK5 : ∀ (a1 : Int32) (M : Nat → Int32) (F : Nat → Nat → Int32), K5 a1 M F → ac_G x (r_R g) 4 (r_P g M F) 0 0 5 [(0, .ref (r_h g)), (1, .int a1)] []) (a1 : Int32) (a2 : Int32) (M : Nat → Int32) (F : Nat → Nat → Int32) (hw : w_raise_170 K5 Q a1 a2 M F) : ac_G x (r_R g) 4 (r_P g M F) 0 0 170 [(0, .ref (r_h g)), (1, .int a1), (2, .int a2)] [] := by
  refine ac_aload_n Z.1 0 dX12_raise_170 rfl ?_
  refine ac_iload_n Z.1 2 dX12_raise_171 rfl ?_
  refine ac_iconst (v := 1) Z.1 dX12_raise_172 (by decide) ?_
  refine ac_iload_n Z.1 1 dX12_raise_173 rfl ?_
  refine r_calli (As := [.int a2, .int 1, .int a1]) (st := []) Z kX12_goesLastly lkX12_437 (by omega) rfl (so_goesLastly   _ _ _ _ _ _ hw) rfl rfl (Nat.le_of_ble_eq_true rfl) dX12_raise_174 (fun r3 M4 F4 hw => ?_)
  obtain ⟨hwt, hwf⟩ := hw
  refine ac_if_eq (tgt := 181) Z.1 dX12_raise_177 (by decide) (fun hc => ?_) (fun hc => ?_)
  · have hw := hwt hc
    refine ac_aload_n Z.1 0 dX12_raise_181 rfl ?_
    refine ac_dup Z.1 dX12_raise_182 rfl ?_
    refine r_geti (v := (M4 67)) Z.1 Z.2.1 67 (by decide) rfl fX12_412 rfl rfl dX12_raise_183 ?_
    refine ac_iconst (v := 1) Z.1 dX12_raise_186 (by decide) ?_
    refine ac_isub Z.1 dX12_raise_187 ?_
    refine r_put Z.1 Z.2.1 67 (by decide) rfl rfl rfl fX12_412 rfl dX12_raise_188 ?_
    refine ac_goto (tgt := 5) Z.1 dX12_raise_191 (by decide) ?_
    refine ac_lv [0, 1] rfl ?_
    exact hK5 _ _ _ hw
  · have hw := hwf hc
    exact hret _ _ _ _ dX12_raise_180 hw
def w_raise_159 (Q : (Nat → Int32) → (Nat → Nat → Int32) → Prop) (a3 : Int32) (M : Nat → Int32) (F : Nat → Nat → Int32) : Prop := vp_in a3 800 ∧ (Q (um M 70 ((F 25) (a3).toNatClampNeg)) F)
set_option maxRecDepth 20000 in
theorem s_raise_159 {x : ac_X} {g : r_S} {l : Launch} {Q : (Nat → Int32) → (Nat → Nat → Int32) → Prop} (Z : r_Cx x g l cX12_raise 4 (2)) (hret : r_RV x g 4 cX12_raise Q) (a3 : Int32) (M : Nat → Int32) (F : Nat → Nat → Int32) (hw : w_raise_159 Q a3 M F) : ac_G x (r_R g) 4 (r_P g M F) 0 0 159 [(0, .ref (r_h g)), (3, .int a3)] [] := by
  refine ac_aload_n Z.1 0 dX12_raise_159 rfl ?_
  refine ac_aload_n Z.1 0 dX12_raise_160 rfl ?_
  refine r_geta Z.1 Z.2.1 25 (by decide) rfl fX12_64 rfl dX12_raise_161 ?_
  refine ac_iload_n Z.1 1 dX12_raise_164 rfl ?_
  obtain ⟨hb10, hw⟩ := hw
  refine r_ald (v := ((F 25) (a3).toNatClampNeg)) Z.1 Z.2.1 18 25 800 rfl rfl hb10 rfl dX12_raise_165 ?_
  refine r_put Z.1 Z.2.1 70 (by decide) rfl rfl rfl fX12_418 rfl dX12_raise_166 ?_
  exact hret _ _ _ _ dX12_raise_169 hw
def w_raise_115 (K5 : (Int32 → (Nat → Int32) → (Nat → Nat → Int32) → Prop)) (Q : (Nat → Int32) → (Nat → Nat → Int32) → Prop) (a1 : Int32) (a2 : Int32) (a3 : Int32) (M : Nat → Int32) (F : Nat → Nat → Int32) : Prop := (a3 = (-1) → (w_raise_170 K5 Q a1 a2 M F)) ∧ (¬ a3 = (-1) → (vp_in a2 260 ∧ (vp_in a3 800 ∧ ((((F 24) (a3).toNatClampNeg) = (-1) → (w_raise_159 Q a3 M (uf F 64 a2 1))) ∧ (¬ ((F 24) (a3).toNatClampNeg) = (-1) → (vp_in a3 800 ∧ (∀ v12, v12 = ((8 * ((M 62) - 1)) + ((F 24) (a3).toNatClampNeg)) → (vp_in v12 96 ∧ (w_raise_159 Q a3 M (uf (uf F 64 a2 1) 58 v12 a1))))))))))
set_option maxRecDepth 20000 in
theorem s_raise_115 {x : ac_X} {g : r_S} {l : Launch} {K5 : (Int32 → (Nat → Int32) → (Nat → Nat → Int32) → Prop)} {Q : (Nat → Int32) → (Nat → Nat → Int32) → Prop} (Z : r_Cx x g l cX12_raise 4 (2)) (hret : r_RV x g 4 cX12_raise Q) (hK5 : ∀ (a1 : Int32) (M : Nat → Int32) (F : Nat → Nat → Int32), K5 a1 M F → ac_G x (r_R g) 4 (r_P g M F) 0 0 5 [(0, .ref (r_h g)), (1, .int a1)] []) (a1 : Int32) (a2 : Int32) (a3 : Int32) (M : Nat → Int32) (F : Nat → Nat → Int32) (hw : w_raise_115 K5 Q a1 a2 a3 M F) : ac_G x (r_R g) 4 (r_P g M F) 0 0 115 [(0, .ref (r_h g)), (1, .int a1), (2, .int a2), (3, .int a3)] [] := by
  refine ac_iload_n Z.1 3 dX12_raise_115 rfl ?_
  refine ac_iconst (v := (-1)) Z.1 dX12_raise_116 (by decide) ?_
  obtain ⟨hwt, hwf⟩ := hw
  refine ac_icmp_eq (tgt := 170) Z.1 dX12_raise_117 (by decide) (fun hc => ?_) (fun hc => ?_)
  · have hw := hwt hc
    refine ac_lv [0, 1, 2] rfl ?_
    exact s_raise_170 Z hret hK5 _ _ _ _ hw
  · have hw := hwf hc
    refine ac_aload_n Z.1 0 dX12_raise_120 rfl ?_
    refine r_geta Z.1 Z.2.1 64 (by decide) rfl fX12_129 rfl dX12_raise_121 ?_
    refine ac_iload_n Z.1 2 dX12_raise_124 rfl ?_
    refine ac_iconst (v := 1) Z.1 dX12_raise_125 (by decide) ?_
    obtain ⟨hb8, hw⟩ := hw
    refine r_ast Z.1 Z.2.1 36 64 260 rfl rfl hb8 dX12_raise_126 ?_
    refine ac_aload_n Z.1 0 dX12_raise_127 rfl ?_
    refine r_geta Z.1 Z.2.1 24 (by decide) rfl fX12_61 rfl dX12_raise_128 ?_
    refine ac_iload_n Z.1 3 dX12_raise_131 rfl ?_
    obtain ⟨hb9, hw⟩ := hw
    refine r_ald (v := ((F 24) (a3).toNatClampNeg)) Z.1 Z.2.1 17 24 800 rfl rfl hb9 rfl dX12_raise_132 ?_
    refine ac_iconst (v := (-1)) Z.1 dX12_raise_133 (by decide) ?_
    obtain ⟨hwt, hwf⟩ := hw
    refine ac_icmp_eq (tgt := 159) Z.1 dX12_raise_134 (by decide) (fun hc => ?_) (fun hc => ?_)
    · have hw := hwt hc
      refine ac_lv [0, 3] rfl ?_
      exact s_raise_159 Z hret _ _ _ hw
    · have hw := hwf hc
      refine ac_aload_n Z.1 0 dX12_raise_137 rfl ?_
      refine r_geta Z.1 Z.2.1 58 (by decide) rfl fX12_114 rfl dX12_raise_138 ?_
      refine ac_bipush (v := 8) Z.1 dX12_raise_141 (by decide) ?_
      refine ac_aload_n Z.1 0 dX12_raise_143 rfl ?_
      refine r_geti (v := (M 62)) Z.1 Z.2.1 62 (by decide) rfl fX12_409 rfl rfl dX12_raise_144 ?_
      refine ac_iconst (v := 1) Z.1 dX12_raise_147 (by decide) ?_
      refine ac_isub Z.1 dX12_raise_148 ?_
      refine ac_imul Z.1 dX12_raise_149 ?_
      refine ac_aload_n Z.1 0 dX12_raise_150 rfl ?_
      refine r_geta Z.1 Z.2.1 24 (by decide) rfl fX12_61 rfl dX12_raise_151 ?_
      refine ac_iload_n Z.1 3 dX12_raise_154 rfl ?_
      obtain ⟨hb11, hw⟩ := hw
      refine r_ald (v := ((F 24) (a3).toNatClampNeg)) Z.1 Z.2.1 17 24 800 rfl rfl hb11 rfl dX12_raise_155 ?_
      refine ac_iadd Z.1 dX12_raise_156 ?_
      refine ac_topi (fun v12 hv12 => ?_)
      have hw := hw v12 hv12
      refine ac_iload_n Z.1 1 dX12_raise_157 rfl ?_
      obtain ⟨hb13, hw⟩ := hw
      refine r_ast Z.1 Z.2.1 31 58 96 rfl rfl hb13 dX12_raise_158 ?_
      refine ac_lv [0, 3] rfl ?_
      exact s_raise_159 Z hret _ _ _ hw
def w_raise_82 (K5 : (Int32 → (Nat → Int32) → (Nat → Nat → Int32) → Prop)) (Q : (Nat → Int32) → (Nat → Nat → Int32) → Prop) : Nat → Int32 → Int32 → Int32 → (Nat → Int32) → (Nat → Nat → Int32) → Prop
  | 0 => fun _ _ _ _ _ => False
  | n + 1 => fun a1 a2 a3 M F => ((a3 = (-1) → (w_raise_115 K5 Q a1 a2 a3 M F)) ∧ (¬ a3 = (-1) → (vp_in a1 8001 ∧ (vp_in a3 800 ∧ (w_isKind ((F 48) (a1).toNatClampNeg) ((F 23) (a3).toNatClampNeg) M F (fun r16 M17 F17 => ((¬ r16 = 0 → (w_raise_115 K5 Q a1 a2 a3 M17 F17)) ∧ (r16 = 0 → (vp_in a3 800 ∧ (w_raise_82 K5 Q n a1 a2 ((F17 26) (a3).toNatClampNeg) M17 F17))))))))))
set_option maxRecDepth 20000 in
theorem s_raise_82 {x : ac_X} {g : r_S} {l : Launch} {K5 : (Int32 → (Nat → Int32) → (Nat → Nat → Int32) → Prop)} {Q : (Nat → Int32) → (Nat → Nat → Int32) → Prop} (Z : r_Cx x g l cX12_raise 4 (2)) (hret : r_RV x g 4 cX12_raise Q) (hK5 : ∀ (a1 : Int32) (M : Nat → Int32) (F : Nat → Nat → Int32), K5 a1 M F → ac_G x (r_R g) 4 (r_P g M F) 0 0 5 [(0, .ref (r_h g)), (1, .int a1)] []) : ∀ (n : Nat) (a1 : Int32) (a2 : Int32) (a3 : Int32) (M : Nat → Int32) (F : Nat → Nat → Int32), w_raise_82 K5 Q n a1 a2 a3 M F → ac_G x (r_R g) 4 (r_P g M F) 0 0 82 [(0, .ref (r_h g)), (1, .int a1), (2, .int a2), (3, .int a3)] [] := by
  intro n
  induction n with
  | zero => intro _ _ _ _ _ hw; exact hw.elim
  | succ n ih =>
    intro a1 a2 a3 M F hw
    dsimp only [w_raise_82] at hw
    refine ac_iload_n Z.1 3 dX12_raise_82 rfl ?_
    refine ac_iconst (v := (-1)) Z.1 dX12_raise_83 (by decide) ?_
    obtain ⟨hwt, hwf⟩ := hw
    refine ac_icmp_eq (tgt := 115) Z.1 dX12_raise_84 (by decide) (fun hc => ?_) (fun hc => ?_)
    · have hw := hwt hc
      exact s_raise_115 Z hret hK5 _ _ _ _ _ hw
    · have hw := hwf hc
      refine ac_aload_n Z.1 0 dX12_raise_87 rfl ?_
      refine r_geta Z.1 Z.2.1 48 (by decide) rfl fX12_92 rfl dX12_raise_88 ?_
      refine ac_iload_n Z.1 1 dX12_raise_91 rfl ?_
      obtain ⟨hb14, hw⟩ := hw
      refine r_ald (v := ((F 48) (a1).toNatClampNeg)) Z.1 Z.2.1 24 48 8001 rfl rfl hb14 rfl dX12_raise_92 ?_
      refine ac_aload_n Z.1 0 dX12_raise_93 rfl ?_
      refine r_geta Z.1 Z.2.1 23 (by decide) rfl fX12_58 rfl dX12_raise_94 ?_
      refine ac_iload_n Z.1 3 dX12_raise_97 rfl ?_
      obtain ⟨hb15, hw⟩ := hw
      refine r_ald (v := ((F 23) (a3).toNatClampNeg)) Z.1 Z.2.1 16 23 800 rfl rfl hb15 rfl dX12_raise_98 ?_
      refine r_calls (As := [.int ((F 48) (a1).toNatClampNeg), .int ((F 23) (a3).toNatClampNeg)]) (st := []) Z kX12_isKind lkX12_433 (by omega) (so_isKind   _ _ _ _ _ hw) rfl rfl (Nat.le_of_ble_eq_true rfl) dX12_raise_99 (fun r16 M17 F17 hw => ?_)
      obtain ⟨hwt, hwf⟩ := hw
      refine ac_if_ne (tgt := 115) Z.1 dX12_raise_102 (by decide) (fun hc => ?_) (fun hc => ?_)
      · have hw := hwt hc
        exact s_raise_115 Z hret hK5 _ _ _ _ _ hw
      · have hw := hwf hc
        refine ac_aload_n Z.1 0 dX12_raise_105 rfl ?_
        refine r_geta Z.1 Z.2.1 26 (by decide) rfl fX12_67 rfl dX12_raise_106 ?_
        refine ac_iload_n Z.1 3 dX12_raise_109 rfl ?_
        obtain ⟨hb18, hw⟩ := hw
        refine r_ald (v := ((F17 26) (a3).toNatClampNeg)) Z.1 Z.2.1 19 26 800 rfl rfl hb18 rfl dX12_raise_110 ?_
        refine ac_istore_n (lv' := [(3, .int ((F17 26) (a3).toNatClampNeg)), (0, .ref (r_h g)), (1, .int a1), (2, .int a2)]) Z.1 dX12_raise_111 (by decide) rfl ?_
        refine ac_goto (tgt := 82) Z.1 dX12_raise_112 (by decide) ?_
        refine ac_lv [1, 2, 3, 0] rfl ?_
        exact ih _ _ _ _ _ hw
def w_raise_5 (Q : (Nat → Int32) → (Nat → Nat → Int32) → Prop) : Nat → Int32 → (Nat → Int32) → (Nat → Nat → Int32) → Prop
  | 0 => fun _ _ _ => False
  | n + 1 => fun a1 M F => (vp_in ((M 62) - 1) 12 ∧ ((¬ (M 67) = ((F 61) (((M 62) - 1)).toNatClampNeg) → (vp_in ((M 67) - 1) 260 ∧ ((¬ ((F 64) (((M 67) - 1)).toNatClampNeg) = 0 → (w_raise_170 (w_raise_5 Q n) Q a1 ((M 67) - 1) M F)) ∧ (((F 64) (((M 67) - 1)).toNatClampNeg) = 0 → (vp_in ((M 67) - 1) 260 ∧ (vp_in ((F 63) (((M 67) - 1)).toNatClampNeg) 800 ∧ (∀ v7, v7 = ((F 20) (((F 63) (((M 67) - 1)).toNatClampNeg)).toNatClampNeg) → (∃ e82, w_raise_82 (w_raise_5 Q n) Q e82 a1 ((M 67) - 1) v7 M F)))))))) ∧ ((M 67) = ((F 61) (((M 62) - 1)).toNatClampNeg) → ((((M 62) - 1) ≤ 0 → (Q (um (um (um M 62 ((M 62) - 1)) 73 a1) 72 1) F)) ∧ (¬ ((M 62) - 1) ≤ 0 → (w_raise_5 Q n a1 (um M 62 ((M 62) - 1)) F))))))
set_option maxRecDepth 20000 in
theorem s_raise_5 {x : ac_X} {g : r_S} {l : Launch} {Q : (Nat → Int32) → (Nat → Nat → Int32) → Prop} (Z : r_Cx x g l cX12_raise 4 (2)) (hret : r_RV x g 4 cX12_raise Q) : ∀ (n : Nat) (a1 : Int32) (M : Nat → Int32) (F : Nat → Nat → Int32), w_raise_5 Q n a1 M F → ac_G x (r_R g) 4 (r_P g M F) 0 0 5 [(0, .ref (r_h g)), (1, .int a1)] [] := by
  intro n
  induction n with
  | zero => intro _ _ _ hw; exact hw.elim
  | succ n ih =>
    intro a1 M F hw
    dsimp only [w_raise_5] at hw
    refine ac_aload_n Z.1 0 dX12_raise_5 rfl ?_
    refine r_geti (v := (M 67)) Z.1 Z.2.1 67 (by decide) rfl fX12_412 rfl rfl dX12_raise_6 ?_
    refine ac_aload_n Z.1 0 dX12_raise_9 rfl ?_
    refine r_geta Z.1 Z.2.1 61 (by decide) rfl fX12_123 rfl dX12_raise_10 ?_
    refine ac_aload_n Z.1 0 dX12_raise_13 rfl ?_
    refine r_geti (v := (M 62)) Z.1 Z.2.1 62 (by decide) rfl fX12_409 rfl rfl dX12_raise_14 ?_
    refine ac_iconst (v := 1) Z.1 dX12_raise_17 (by decide) ?_
    refine ac_isub Z.1 dX12_raise_18 ?_
    obtain ⟨hb1, hw⟩ := hw
    refine r_ald (v := ((F 61) (((M 62) - 1)).toNatClampNeg)) Z.1 Z.2.1 34 61 12 rfl rfl hb1 rfl dX12_raise_19 ?_
    obtain ⟨hwt, hwf⟩ := hw
    refine ac_icmp_ne (tgt := 54) Z.1 dX12_raise_20 (by decide) (fun hc => ?_) (fun hc => ?_)
    · have hw := hwt hc
      refine ac_aload_n Z.1 0 dX12_raise_54 rfl ?_
      refine r_geti (v := (M 67)) Z.1 Z.2.1 67 (by decide) rfl fX12_412 rfl rfl dX12_raise_55 ?_
      refine ac_iconst (v := 1) Z.1 dX12_raise_58 (by decide) ?_
      refine ac_isub Z.1 dX12_raise_59 ?_
      refine ac_istore_n (lv' := [(2, .int ((M 67) - 1)), (0, .ref (r_h g)), (1, .int a1)]) Z.1 dX12_raise_60 (by decide) rfl ?_
      refine ac_aload_n Z.1 1 dX12_raise_61 rfl ?_
      refine r_geta Z.1 Z.2.1 64 (by decide) rfl fX12_129 rfl dX12_raise_62 ?_
      refine ac_iload_n Z.1 0 dX12_raise_65 rfl ?_
      obtain ⟨hb2, hw⟩ := hw
      refine r_ald (v := ((F 64) (((M 67) - 1)).toNatClampNeg)) Z.1 Z.2.1 36 64 260 rfl rfl hb2 rfl dX12_raise_66 ?_
      obtain ⟨hwt, hwf⟩ := hw
      refine ac_if_ne (tgt := 170) Z.1 dX12_raise_67 (by decide) (fun hc => ?_) (fun hc => ?_)
      · have hw := hwt hc
        refine ac_lv [1, 2, 0] rfl ?_
        exact s_raise_170 Z hret ih _ _ _ _ hw
      · have hw := hwf hc
        refine ac_aload_n Z.1 1 dX12_raise_70 rfl ?_
        refine r_geta Z.1 Z.2.1 20 (by decide) rfl fX12_49 rfl dX12_raise_71 ?_
        refine ac_aload_n Z.1 1 dX12_raise_74 rfl ?_
        refine r_geta Z.1 Z.2.1 63 (by decide) rfl fX12_126 rfl dX12_raise_75 ?_
        refine ac_iload_n Z.1 0 dX12_raise_78 rfl ?_
        obtain ⟨hb5, hw⟩ := hw
        refine r_ald (v := ((F 63) (((M 67) - 1)).toNatClampNeg)) Z.1 Z.2.1 35 63 260 rfl rfl hb5 rfl dX12_raise_79 ?_
        obtain ⟨hb6, hw⟩ := hw
        refine r_ald (v := ((F 20) (((F 63) (((M 67) - 1)).toNatClampNeg)).toNatClampNeg)) Z.1 Z.2.1 13 20 800 rfl rfl hb6 rfl dX12_raise_80 ?_
        refine ac_topi (fun v7 hv7 => ?_)
        have hw := hw v7 hv7
        refine ac_istore_n (lv' := [(3, .int v7), (2, .int ((M 67) - 1)), (0, .ref (r_h g)), (1, .int a1)]) Z.1 dX12_raise_81 (by decide) rfl ?_
        obtain ⟨n, hw⟩ := hw
        refine ac_lv [2, 3, 1, 0] rfl ?_
        exact s_raise_82 Z hret ih n _ _ _ _ _ hw
    · have hw := hwf hc
      refine ac_aload_n Z.1 0 dX12_raise_23 rfl ?_
      refine ac_dup Z.1 dX12_raise_24 rfl ?_
      refine r_geti (v := (M 62)) Z.1 Z.2.1 62 (by decide) rfl fX12_409 rfl rfl dX12_raise_25 ?_
      refine ac_iconst (v := 1) Z.1 dX12_raise_28 (by decide) ?_
      refine ac_isub Z.1 dX12_raise_29 ?_
      refine r_put Z.1 Z.2.1 62 (by decide) rfl rfl rfl fX12_409 rfl dX12_raise_30 ?_
      refine ac_aload_n Z.1 0 dX12_raise_33 rfl ?_
      refine r_geti (v := ((M 62) - 1)) Z.1 Z.2.1 62 (by decide) rfl fX12_409 rfl rfl dX12_raise_34 ?_
      obtain ⟨hwt, hwf⟩ := hw
      refine ac_if_le (tgt := 43) Z.1 dX12_raise_37 (by decide) (fun hc => ?_) (fun hc => ?_)
      · have hw := hwt hc
        refine ac_aload_n Z.1 0 dX12_raise_43 rfl ?_
        refine ac_iload_n Z.1 1 dX12_raise_44 rfl ?_
        refine r_put Z.1 Z.2.1 73 (by decide) rfl rfl rfl fX12_421 rfl dX12_raise_45 ?_
        refine ac_aload_n Z.1 0 dX12_raise_48 rfl ?_
        refine ac_iconst (v := 1) Z.1 dX12_raise_49 (by decide) ?_
        refine r_putZ Z.1 Z.2.1 72 (by decide) rfl rfl rfl fX12_424 rfl (by decide) dX12_raise_50 ?_
        exact hret _ _ _ _ dX12_raise_53 hw
      · have hw := hwf hc
        refine ac_goto (tgt := 5) Z.1 dX12_raise_40 (by decide) ?_
        exact ih _ _ _ hw
def w_raise (p1 : Int32) (M : Nat → Int32) (F : Nat → Nat → Int32) (Q : (Nat → Int32) → (Nat → Nat → Int32) → Prop) : Prop := ∃ e5, w_raise_5 Q e5 p1 (um M 69 0) F
set_option maxRecDepth 20000 in
theorem so_raise {l : Launch} {g : r_S} (p1 : Int32) (M : Nat → Int32) (F : Nat → Nat → Int32) (Q : (Nat → Int32) → (Nat → Nat → Int32) → Prop) (hw : w_raise p1 M F Q) : r_MetV l g yX12_raise cX12_raise 4 (2) [.ref (r_h g), .int p1] M F Q := by
  refine r_MetV.of (by decide) rfl (Nat.le_of_ble_eq_true rfl) (fun x Z hret => ?_)
  show ac_G x (r_R g) 4 (r_P g M F) 0 0 0 [(0, .ref (r_h g)), (1, .int p1)] []
  refine ac_aload_n Z.1 0 dX12_raise_0 rfl ?_
  refine ac_iconst (v := 0) Z.1 dX12_raise_1 (by decide) ?_
  refine r_put Z.1 Z.2.1 69 (by decide) rfl rfl rfl fX12_406 rfl dX12_raise_2 ?_
  obtain ⟨n, hw⟩ := hw
  exact s_raise_5 Z hret n _ _ _ hw
def w_raises_15 (Q : (Nat → Int32) → (Nat → Nat → Int32) → Prop) (t1 : Int32) (t2 : Int32) (t3 : Int32) (t4 : Int32) (t5 : Int32) (t6 : Int32) (M : Nat → Int32) (F : Nat → Nat → Int32) : Prop := w_makes t1 t2 t3 t4 t5 t6 M F (fun r1 M2 F2 => ((r1 ≤ 0 → (Q M2 F2)) ∧ (¬ r1 ≤ 0 → (w_raise r1 M2 F2 (fun M3 F3 => (Q M3 F3))))))
set_option maxRecDepth 20000 in
theorem s_raises_15 {x : ac_X} {g : r_S} {l : Launch} {Q : (Nat → Int32) → (Nat → Nat → Int32) → Prop} (Z : r_Cx x g l cX12_raises 5 (3)) (hret : r_RV x g 5 cX12_raises Q) (t1 : Int32) (t2 : Int32) (t3 : Int32) (t4 : Int32) (t5 : Int32) (t6 : Int32) (M : Nat → Int32) (F : Nat → Nat → Int32) (hw : w_raises_15 Q t1 t2 t3 t4 t5 t6 M F) : ac_G x (r_R g) 5 (r_P g M F) 0 0 15 [(0, .ref (r_h g))] [.int t6, .int t5, .int t4, .int t3, .int t2, .int t1, .ref (r_h g)] := by
  refine r_calli (As := [.int t1, .int t2, .int t3, .int t4, .int t5, .int t6]) (st := []) Z kX12_makes lkX12_444 (by omega) rfl (so_makes   _ _ _ _ _ _ _ _ _ hw) rfl rfl (Nat.le_of_ble_eq_true rfl) dX12_raises_15 (fun r1 M2 F2 hw => ?_)
  refine ac_istore (lv' := [(4, .int r1), (0, .ref (r_h g))]) Z.1 dX12_raises_18 (by decide) rfl ?_
  refine ac_iload Z.1 0 dX12_raises_20 rfl ?_
  obtain ⟨hwt, hwf⟩ := hw
  refine ac_if_le (tgt := 31) Z.1 dX12_raises_22 (by decide) (fun hc => ?_) (fun hc => ?_)
  · have hw := hwt hc
    exact hret _ _ _ _ dX12_raises_31 hw
  · have hw := hwf hc
    refine ac_aload_n Z.1 1 dX12_raises_25 rfl ?_
    refine ac_iload Z.1 0 dX12_raises_26 rfl ?_
    refine r_callv (As := [.int r1]) (st := []) Z kX12_raise lkX12_447 (by omega) rfl (so_raise   _ _ _ _ hw) rfl rfl (Nat.le_of_ble_eq_true rfl) dX12_raises_28 (fun M3 F3 hw => ?_)
    exact hret _ _ _ _ dX12_raises_31 hw
def w_raises (p1 : Int32) (p2 : Int32) (p3 : Int32) (M : Nat → Int32) (F : Nat → Nat → Int32) (Q : (Nat → Int32) → (Nat → Nat → Int32) → Prop) : Prop := (p3 ≤ 0 → (w_raises_15 Q p1 p2 0 (-1) p3 0 M F)) ∧ (¬ p3 ≤ 0 → (w_raises_15 Q p1 p2 0 (-1) p3 1 M F))
set_option maxRecDepth 20000 in
theorem so_raises {l : Launch} {g : r_S} (p1 : Int32) (p2 : Int32) (p3 : Int32) (M : Nat → Int32) (F : Nat → Nat → Int32) (Q : (Nat → Int32) → (Nat → Nat → Int32) → Prop) (hw : w_raises p1 p2 p3 M F Q) : r_MetV l g yX12_raises cX12_raises 5 (3) [.ref (r_h g), .int p1, .int p2, .int p3] M F Q := by
  refine r_MetV.of (by decide) rfl (Nat.le_of_ble_eq_true rfl) (fun x Z hret => ?_)
  show ac_G x (r_R g) 5 (r_P g M F) 0 0 0 [(0, .ref (r_h g)), (1, .int p1), (2, .int p2), (3, .int p3)] []
  refine ac_aload_n Z.1 0 dX12_raises_0 rfl ?_
  refine ac_iload_n Z.1 1 dX12_raises_1 rfl ?_
  refine ac_iload_n Z.1 2 dX12_raises_2 rfl ?_
  refine ac_iconst (v := 0) Z.1 dX12_raises_3 (by decide) ?_
  refine ac_iconst (v := (-1)) Z.1 dX12_raises_4 (by decide) ?_
  refine ac_iload_n Z.1 3 dX12_raises_5 rfl ?_
  refine ac_iload_n Z.1 3 dX12_raises_6 rfl ?_
  obtain ⟨hwt, hwf⟩ := hw
  refine ac_if_le (tgt := 14) Z.1 dX12_raises_7 (by decide) (fun hc => ?_) (fun hc => ?_)
  · have hw := hwt hc
    refine ac_iconst (v := 0) Z.1 dX12_raises_14 (by decide) ?_
    refine ac_lv [0] rfl ?_
    exact s_raises_15 Z hret _ _ _ _ _ _ _ _ hw
  · have hw := hwf hc
    refine ac_iconst (v := 1) Z.1 dX12_raises_10 (by decide) ?_
    refine ac_goto (tgt := 15) Z.1 dX12_raises_11 (by decide) ?_
    refine ac_lv [0] rfl ?_
    exact s_raises_15 Z hret _ _ _ _ _ _ _ _ hw
def w_obj (p1 : Int32) (M : Nat → Int32) (F : Nat → Nat → Int32) (Q : Int32 → (Nat → Int32) → (Nat → Nat → Int32) → Prop) : Prop := vp_in ((8 * ((M 62) - 1)) + p1) 96 ∧ (∀ v2, v2 = ((F 58) (((8 * ((M 62) - 1)) + p1)).toNatClampNeg) → (Q v2 M F))
set_option maxRecDepth 20000 in
theorem so_obj {l : Launch} {g : r_S} (p1 : Int32) (M : Nat → Int32) (F : Nat → Nat → Int32) (Q : Int32 → (Nat → Int32) → (Nat → Nat → Int32) → Prop) (hw : w_obj p1 M F Q) : r_MetI l g yX12_obj cX12_obj 2 .int (0) [.ref (r_h g), .int p1] M F Q := by
  refine r_MetI.of (by decide) rfl (Nat.le_of_ble_eq_true rfl) (fun x Z hret => ?_)
  show ac_G x (r_R g) 2 (r_P g M F) 0 0 0 [(0, .ref (r_h g)), (1, .int p1)] []
  refine ac_aload_n Z.1 0 dX12_obj_0 rfl ?_
  refine r_geta Z.1 Z.2.1 58 (by decide) rfl fX12_114 rfl dX12_obj_1 ?_
  refine ac_bipush (v := 8) Z.1 dX12_obj_4 (by decide) ?_
  refine ac_aload_n Z.1 0 dX12_obj_6 rfl ?_
  refine r_geti (v := (M 62)) Z.1 Z.2.1 62 (by decide) rfl fX12_409 rfl rfl dX12_obj_7 ?_
  refine ac_iconst (v := 1) Z.1 dX12_obj_10 (by decide) ?_
  refine ac_isub Z.1 dX12_obj_11 ?_
  refine ac_imul Z.1 dX12_obj_12 ?_
  refine ac_iload_n Z.1 1 dX12_obj_13 rfl ?_
  refine ac_iadd Z.1 dX12_obj_14 ?_
  obtain ⟨hb1, hw⟩ := hw
  refine r_ald (v := ((F 58) (((8 * ((M 62) - 1)) + p1)).toNatClampNeg)) Z.1 Z.2.1 31 58 96 rfl rfl hb1 rfl dX12_obj_15 ?_
  refine ac_topi (fun v2 hv2 => ?_)
  have hw := hw v2 hv2
  exact hret _ _ _ _ _ dX12_obj_16 rfl hw
def w_hold_ (p1 : Int32) (p2 : Int32) (M : Nat → Int32) (F : Nat → Nat → Int32) (Q : (Nat → Int32) → (Nat → Nat → Int32) → Prop) : Prop := vp_in ((8 * ((M 62) - 1)) + p1) 96 ∧ (Q M (uf F 58 ((8 * ((M 62) - 1)) + p1) p2))
set_option maxRecDepth 20000 in
theorem so_hold_ {l : Launch} {g : r_S} (p1 : Int32) (p2 : Int32) (M : Nat → Int32) (F : Nat → Nat → Int32) (Q : (Nat → Int32) → (Nat → Nat → Int32) → Prop) (hw : w_hold_ p1 p2 M F Q) : r_MetV l g yX12_hold_ cX12_hold_ 3 (0) [.ref (r_h g), .int p1, .int p2] M F Q := by
  refine r_MetV.of (by decide) rfl (Nat.le_of_ble_eq_true rfl) (fun x Z hret => ?_)
  show ac_G x (r_R g) 3 (r_P g M F) 0 0 0 [(0, .ref (r_h g)), (1, .int p1), (2, .int p2)] []
  refine ac_aload_n Z.1 0 dX12_hold__0 rfl ?_
  refine r_geta Z.1 Z.2.1 58 (by decide) rfl fX12_114 rfl dX12_hold__1 ?_
  refine ac_bipush (v := 8) Z.1 dX12_hold__4 (by decide) ?_
  refine ac_aload_n Z.1 0 dX12_hold__6 rfl ?_
  refine r_geti (v := (M 62)) Z.1 Z.2.1 62 (by decide) rfl fX12_409 rfl rfl dX12_hold__7 ?_
  refine ac_iconst (v := 1) Z.1 dX12_hold__10 (by decide) ?_
  refine ac_isub Z.1 dX12_hold__11 ?_
  refine ac_imul Z.1 dX12_hold__12 ?_
  refine ac_iload_n Z.1 1 dX12_hold__13 rfl ?_
  refine ac_iadd Z.1 dX12_hold__14 ?_
  refine ac_iload_n Z.1 2 dX12_hold__15 rfl ?_
  obtain ⟨hb1, hw⟩ := hw
  refine r_ast Z.1 Z.2.1 31 58 96 rfl rfl hb1 dX12_hold__16 ?_
  exact hret _ _ _ _ dX12_hold__17 hw
def w_notes (p1 : Int32) (M : Nat → Int32) (F : Nat → Nat → Int32) (Q : (Nat → Int32) → (Nat → Nat → Int32) → Prop) : Prop := (¬ (M 80) = 200 → (vp_in (M 80) 200 ∧ (Q (um M 80 ((M 80) + 1)) (uf F 84 (M 80) p1)))) ∧ ((M 80) = 200 → (Q (um M 71 1) F))
set_option maxRecDepth 20000 in
theorem so_notes {l : Launch} {g : r_S} (p1 : Int32) (M : Nat → Int32) (F : Nat → Nat → Int32) (Q : (Nat → Int32) → (Nat → Nat → Int32) → Prop) (hw : w_notes p1 M F Q) : r_MetV l g yX12_notes cX12_notes 2 (0) [.ref (r_h g), .int p1] M F Q := by
  refine r_MetV.of (by decide) rfl (Nat.le_of_ble_eq_true rfl) (fun x Z hret => ?_)
  show ac_G x (r_R g) 2 (r_P g M F) 0 0 0 [(0, .ref (r_h g)), (1, .int p1)] []
  refine ac_aload_n Z.1 0 dX12_notes_0 rfl ?_
  refine r_geti (v := (M 80)) Z.1 Z.2.1 80 (by decide) rfl fX12_500 rfl rfl dX12_notes_1 ?_
  refine ac_sipush (v := 200) Z.1 dX12_notes_4 (by decide) ?_
  obtain ⟨hwt, hwf⟩ := hw
  refine ac_icmp_ne (tgt := 16) Z.1 dX12_notes_7 (by decide) (fun hc => ?_) (fun hc => ?_)
  · have hw := hwt hc
    refine ac_aload_n Z.1 0 dX12_notes_16 rfl ?_
    refine r_geta Z.1 Z.2.1 84 (by decide) rfl fX12_147 rfl dX12_notes_17 ?_
    refine ac_aload_n Z.1 0 dX12_notes_20 rfl ?_
    refine r_geti (v := (M 80)) Z.1 Z.2.1 80 (by decide) rfl fX12_500 rfl rfl dX12_notes_21 ?_
    refine ac_iload_n Z.1 1 dX12_notes_24 rfl ?_
    obtain ⟨hb1, hw⟩ := hw
    refine r_ast Z.1 Z.2.1 40 84 200 rfl rfl hb1 dX12_notes_25 ?_
    refine ac_aload_n Z.1 0 dX12_notes_26 rfl ?_
    refine ac_dup Z.1 dX12_notes_27 rfl ?_
    refine r_geti (v := (M 80)) Z.1 Z.2.1 80 (by decide) rfl fX12_500 rfl rfl dX12_notes_28 ?_
    refine ac_iconst (v := 1) Z.1 dX12_notes_31 (by decide) ?_
    refine ac_iadd Z.1 dX12_notes_32 ?_
    refine r_put Z.1 Z.2.1 80 (by decide) rfl rfl rfl fX12_500 rfl dX12_notes_33 ?_
    exact hret _ _ _ _ dX12_notes_36 hw
  · have hw := hwf hc
    refine ac_aload_n Z.1 0 dX12_notes_10 rfl ?_
    refine ac_iconst (v := 1) Z.1 dX12_notes_11 (by decide) ?_
    refine r_putZ Z.1 Z.2.1 71 (by decide) rfl rfl rfl fX12_398 rfl (by decide) dX12_notes_12 ?_
    exact hret _ _ _ _ dX12_notes_15 hw
def w_policy_48 (Q : Int32 → (Nat → Int32) → (Nat → Nat → Int32) → Prop) (a1 : Int32) (a2 : Int32) (a3 : Int32) (a4 : Int32) (M : Nat → Int32) (F : Nat → Nat → Int32) : Prop := vp_in ((7 * a1) + a2) 21 ∧ (vp_in ((7 * a1) + a2) 21 ∧ (Q 1 M (uf (uf F 85 ((7 * a1) + a2) (a3 + 1)) 86 ((7 * a1) + a2) a4)))
set_option maxRecDepth 20000 in
theorem s_policy_48 {x : ac_X} {g : r_S} {l : Launch} {Q : Int32 → (Nat → Int32) → (Nat → Nat → Int32) → Prop} (Z : r_Cx x g l cX12_policy 5 (0)) (hret : r_RI x g 5 cX12_policy .boolean Q) (a1 : Int32) (a2 : Int32) (a3 : Int32) (a4 : Int32) (M : Nat → Int32) (F : Nat → Nat → Int32) (hw : w_policy_48 Q a1 a2 a3 a4 M F) : ac_G x (r_R g) 5 (r_P g M F) 0 0 48 [(0, .ref (r_h g)), (1, .int a1), (2, .int a2), (3, .int a3), (4, .int a4)] [] := by
  refine ac_aload_n Z.1 0 dX12_policy_48 rfl ?_
  refine r_geta Z.1 Z.2.1 85 (by decide) rfl fX12_150 rfl dX12_policy_49 ?_
  refine ac_bipush (v := 7) Z.1 dX12_policy_52 (by decide) ?_
  refine ac_iload_n Z.1 1 dX12_policy_54 rfl ?_
  refine ac_imul Z.1 dX12_policy_55 ?_
  refine ac_iload_n Z.1 2 dX12_policy_56 rfl ?_
  refine ac_iadd Z.1 dX12_policy_57 ?_
  refine ac_iload_n Z.1 3 dX12_policy_58 rfl ?_
  refine ac_iconst (v := 1) Z.1 dX12_policy_59 (by decide) ?_
  refine ac_iadd Z.1 dX12_policy_60 ?_
  obtain ⟨hb1, hw⟩ := hw
  refine r_ast Z.1 Z.2.1 41 85 21 rfl rfl hb1 dX12_policy_61 ?_
  refine ac_aload_n Z.1 0 dX12_policy_62 rfl ?_
  refine r_geta Z.1 Z.2.1 86 (by decide) rfl fX12_153 rfl dX12_policy_63 ?_
  refine ac_bipush (v := 7) Z.1 dX12_policy_66 (by decide) ?_
  refine ac_iload_n Z.1 1 dX12_policy_68 rfl ?_
  refine ac_imul Z.1 dX12_policy_69 ?_
  refine ac_iload_n Z.1 2 dX12_policy_70 rfl ?_
  refine ac_iadd Z.1 dX12_policy_71 ?_
  refine ac_iload Z.1 4 dX12_policy_72 rfl ?_
  obtain ⟨hb2, hw⟩ := hw
  refine r_ast Z.1 Z.2.1 42 86 21 rfl rfl hb2 dX12_policy_74 ?_
  refine ac_iconst (v := 1) Z.1 dX12_policy_75 (by decide) ?_
  exact hret _ _ _ _ _ dX12_policy_76 rfl hw
def w_policy (p1 : Int32) (p2 : Int32) (p3 : Int32) (p4 : Int32) (M : Nat → Int32) (F : Nat → Nat → Int32) (Q : Int32 → (Nat → Int32) → (Nat → Nat → Int32) → Prop) : Prop := (p1 < 0 → (Q 0 M F)) ∧ (¬ p1 < 0 → ((2 < p1 → (Q 0 M F)) ∧ (¬ 2 < p1 → ((p2 < 0 → (Q 0 M F)) ∧ (¬ p2 < 0 → ((6 < p2 → (Q 0 M F)) ∧ (¬ 6 < p2 → ((p3 < (-1) → (Q 0 M F)) ∧ (¬ p3 < (-1) → ((5 < p3 → (Q 0 M F)) ∧ (¬ 5 < p3 → ((¬ p3 = 2 → (w_policy_48 Q p1 p2 p3 p4 M F)) ∧ (p3 = 2 → ((p4 < 0 → (Q 0 M F)) ∧ (¬ p4 < 0 → ((p4 ≤ 6 → (w_policy_48 Q p1 p2 p3 p4 M F)) ∧ (¬ p4 ≤ 6 → (Q 0 M F))))))))))))))))))
set_option maxRecDepth 20000 in
theorem so_policy {l : Launch} {g : r_S} (p1 : Int32) (p2 : Int32) (p3 : Int32) (p4 : Int32) (M : Nat → Int32) (F : Nat → Nat → Int32) (Q : Int32 → (Nat → Int32) → (Nat → Nat → Int32) → Prop) (hw : w_policy p1 p2 p3 p4 M F Q) : r_MetI l g yX12_policy cX12_policy 5 .boolean (0) [.ref (r_h g), .int p1, .int p2, .int p3, .int p4] M F Q := by
  refine r_MetI.of (by decide) rfl (Nat.le_of_ble_eq_true rfl) (fun x Z hret => ?_)
  show ac_G x (r_R g) 5 (r_P g M F) 0 0 0 [(0, .ref (r_h g)), (1, .int p1), (2, .int p2), (3, .int p3), (4, .int p4)] []
  refine ac_iload_n Z.1 1 dX12_policy_0 rfl ?_
  obtain ⟨hwt, hwf⟩ := hw
  refine ac_if_lt (tgt := 46) Z.1 dX12_policy_1 (by decide) (fun hc => ?_) (fun hc => ?_)
  · have hw := hwt hc
    refine ac_iconst (v := 0) Z.1 dX12_policy_46 (by decide) ?_
    exact hret _ _ _ _ _ dX12_policy_47 rfl hw
  · have hw := hwf hc
    refine ac_iload_n Z.1 1 dX12_policy_4 rfl ?_
    refine ac_iconst (v := 2) Z.1 dX12_policy_5 (by decide) ?_
    obtain ⟨hwt, hwf⟩ := hw
    refine ac_icmp_gt (tgt := 46) Z.1 dX12_policy_6 (by decide) (fun hc => ?_) (fun hc => ?_)
    · have hw := hwt hc
      refine ac_iconst (v := 0) Z.1 dX12_policy_46 (by decide) ?_
      exact hret _ _ _ _ _ dX12_policy_47 rfl hw
    · have hw := hwf hc
      refine ac_iload_n Z.1 2 dX12_policy_9 rfl ?_
      obtain ⟨hwt, hwf⟩ := hw
      refine ac_if_lt (tgt := 46) Z.1 dX12_policy_10 (by decide) (fun hc => ?_) (fun hc => ?_)
      · have hw := hwt hc
        refine ac_iconst (v := 0) Z.1 dX12_policy_46 (by decide) ?_
        exact hret _ _ _ _ _ dX12_policy_47 rfl hw
      · have hw := hwf hc
        refine ac_iload_n Z.1 2 dX12_policy_13 rfl ?_
        refine ac_bipush (v := 6) Z.1 dX12_policy_14 (by decide) ?_
        obtain ⟨hwt, hwf⟩ := hw
        refine ac_icmp_gt (tgt := 46) Z.1 dX12_policy_16 (by decide) (fun hc => ?_) (fun hc => ?_)
        · have hw := hwt hc
          refine ac_iconst (v := 0) Z.1 dX12_policy_46 (by decide) ?_
          exact hret _ _ _ _ _ dX12_policy_47 rfl hw
        · have hw := hwf hc
          refine ac_iload_n Z.1 3 dX12_policy_19 rfl ?_
          refine ac_iconst (v := (-1)) Z.1 dX12_policy_20 (by decide) ?_
          obtain ⟨hwt, hwf⟩ := hw
          refine ac_icmp_lt (tgt := 46) Z.1 dX12_policy_21 (by decide) (fun hc => ?_) (fun hc => ?_)
          · have hw := hwt hc
            refine ac_iconst (v := 0) Z.1 dX12_policy_46 (by decide) ?_
            exact hret _ _ _ _ _ dX12_policy_47 rfl hw
          · have hw := hwf hc
            refine ac_iload_n Z.1 3 dX12_policy_24 rfl ?_
            refine ac_iconst (v := 5) Z.1 dX12_policy_25 (by decide) ?_
            obtain ⟨hwt, hwf⟩ := hw
            refine ac_icmp_gt (tgt := 46) Z.1 dX12_policy_26 (by decide) (fun hc => ?_) (fun hc => ?_)
            · have hw := hwt hc
              refine ac_iconst (v := 0) Z.1 dX12_policy_46 (by decide) ?_
              exact hret _ _ _ _ _ dX12_policy_47 rfl hw
            · have hw := hwf hc
              refine ac_iload_n Z.1 3 dX12_policy_29 rfl ?_
              refine ac_iconst (v := 2) Z.1 dX12_policy_30 (by decide) ?_
              obtain ⟨hwt, hwf⟩ := hw
              refine ac_icmp_ne (tgt := 48) Z.1 dX12_policy_31 (by decide) (fun hc => ?_) (fun hc => ?_)
              · have hw := hwt hc
                exact s_policy_48 Z hret _ _ _ _ _ _ hw
              · have hw := hwf hc
                refine ac_iload Z.1 4 dX12_policy_34 rfl ?_
                obtain ⟨hwt, hwf⟩ := hw
                refine ac_if_lt (tgt := 46) Z.1 dX12_policy_36 (by decide) (fun hc => ?_) (fun hc => ?_)
                · have hw := hwt hc
                  refine ac_iconst (v := 0) Z.1 dX12_policy_46 (by decide) ?_
                  exact hret _ _ _ _ _ dX12_policy_47 rfl hw
                · have hw := hwf hc
                  refine ac_iload Z.1 4 dX12_policy_39 rfl ?_
                  refine ac_bipush (v := 6) Z.1 dX12_policy_41 (by decide) ?_
                  obtain ⟨hwt, hwf⟩ := hw
                  refine ac_icmp_le (tgt := 48) Z.1 dX12_policy_43 (by decide) (fun hc => ?_) (fun hc => ?_)
                  · have hw := hwt hc
                    exact s_policy_48 Z hret _ _ _ _ _ _ hw
                  · have hw := hwf hc
                    refine ac_iconst (v := 0) Z.1 dX12_policy_46 (by decide) ?_
                    exact hret _ _ _ _ _ dX12_policy_47 rfl hw
def w_complain (p1 : Int32) (p2 : Int32) (p3 : Int32) (M : Nat → Int32) (F : Nat → Nat → Int32) (Q : Int32 → (Nat → Int32) → (Nat → Nat → Int32) → Prop) : Prop := (p1 < 0 → (Q (-1) M F)) ∧ (¬ p1 < 0 → ((2 < p1 → (Q (-1) M F)) ∧ (¬ 2 < p1 → ((p2 < 0 → (Q (-1) M F)) ∧ (¬ p2 < 0 → ((6 < p2 → (Q (-1) M F)) ∧ (¬ 6 < p2 → ((¬ (M 54) = 8000 → (w_makesOne p2 p3 0 (-1) 0 0 M F (fun r1 M2 F2 => (vp_in p1 3 ∧ (Q (M2 54) M2 (uf F2 87 p1 r1)))))) ∧ ((M 54) = 8000 → (Q (-1) M F))))))))))
set_option maxRecDepth 20000 in
theorem so_complain {l : Launch} {g : r_S} (p1 : Int32) (p2 : Int32) (p3 : Int32) (M : Nat → Int32) (F : Nat → Nat → Int32) (Q : Int32 → (Nat → Int32) → (Nat → Nat → Int32) → Prop) (hw : w_complain p1 p2 p3 M F Q) : r_MetI l g yX12_complain cX12_complain 4 .int (1) [.ref (r_h g), .int p1, .int p2, .int p3] M F Q := by
  refine r_MetI.of (by decide) rfl (Nat.le_of_ble_eq_true rfl) (fun x Z hret => ?_)
  show ac_G x (r_R g) 4 (r_P g M F) 0 0 0 [(0, .ref (r_h g)), (1, .int p1), (2, .int p2), (3, .int p3)] []
  refine ac_iload_n Z.1 1 dX12_complain_0 rfl ?_
  obtain ⟨hwt, hwf⟩ := hw
  refine ac_if_lt (tgt := 29) Z.1 dX12_complain_1 (by decide) (fun hc => ?_) (fun hc => ?_)
  · have hw := hwt hc
    refine ac_iconst (v := (-1)) Z.1 dX12_complain_29 (by decide) ?_
    exact hret _ _ _ _ _ dX12_complain_30 rfl hw
  · have hw := hwf hc
    refine ac_iload_n Z.1 1 dX12_complain_4 rfl ?_
    refine ac_iconst (v := 2) Z.1 dX12_complain_5 (by decide) ?_
    obtain ⟨hwt, hwf⟩ := hw
    refine ac_icmp_gt (tgt := 29) Z.1 dX12_complain_6 (by decide) (fun hc => ?_) (fun hc => ?_)
    · have hw := hwt hc
      refine ac_iconst (v := (-1)) Z.1 dX12_complain_29 (by decide) ?_
      exact hret _ _ _ _ _ dX12_complain_30 rfl hw
    · have hw := hwf hc
      refine ac_iload_n Z.1 2 dX12_complain_9 rfl ?_
      obtain ⟨hwt, hwf⟩ := hw
      refine ac_if_lt (tgt := 29) Z.1 dX12_complain_10 (by decide) (fun hc => ?_) (fun hc => ?_)
      · have hw := hwt hc
        refine ac_iconst (v := (-1)) Z.1 dX12_complain_29 (by decide) ?_
        exact hret _ _ _ _ _ dX12_complain_30 rfl hw
      · have hw := hwf hc
        refine ac_iload_n Z.1 2 dX12_complain_13 rfl ?_
        refine ac_bipush (v := 6) Z.1 dX12_complain_14 (by decide) ?_
        obtain ⟨hwt, hwf⟩ := hw
        refine ac_icmp_gt (tgt := 29) Z.1 dX12_complain_16 (by decide) (fun hc => ?_) (fun hc => ?_)
        · have hw := hwt hc
          refine ac_iconst (v := (-1)) Z.1 dX12_complain_29 (by decide) ?_
          exact hret _ _ _ _ _ dX12_complain_30 rfl hw
        · have hw := hwf hc
          refine ac_aload_n Z.1 0 dX12_complain_19 rfl ?_
          refine r_geti (v := (M 54)) Z.1 Z.2.1 54 (by decide) rfl fX12_395 rfl rfl dX12_complain_20 ?_
          refine ac_sipush (v := 8000) Z.1 dX12_complain_23 (by decide) ?_
          obtain ⟨hwt, hwf⟩ := hw
          refine ac_icmp_ne (tgt := 31) Z.1 dX12_complain_26 (by decide) (fun hc => ?_) (fun hc => ?_)
          · have hw := hwt hc
            refine ac_aload_n Z.1 0 dX12_complain_31 rfl ?_
            refine r_geta Z.1 Z.2.1 87 (by decide) rfl fX12_156 rfl dX12_complain_32 ?_
            refine ac_iload_n Z.1 1 dX12_complain_35 rfl ?_
            refine ac_aload_n Z.1 0 dX12_complain_36 rfl ?_
            refine ac_iload_n Z.1 2 dX12_complain_37 rfl ?_
            refine ac_iload_n Z.1 3 dX12_complain_38 rfl ?_
            refine ac_iconst (v := 0) Z.1 dX12_complain_39 (by decide) ?_
            refine ac_iconst (v := (-1)) Z.1 dX12_complain_40 (by decide) ?_
            refine ac_iconst (v := 0) Z.1 dX12_complain_41 (by decide) ?_
            refine ac_iconst (v := 0) Z.1 dX12_complain_42 (by decide) ?_
            refine r_calli (As := [.int p2, .int p3, .int 0, .int (-1), .int 0, .int 0]) (st := [.int p1, .ref (r_ad g 87)]) Z kX12_makesOne lkX12_402 (by omega) rfl (so_makesOne   _ _ _ _ _ _ _ _ _ hw) rfl rfl (Nat.le_of_ble_eq_true rfl) dX12_complain_43 (fun r1 M2 F2 hw => ?_)
            obtain ⟨hb3, hw⟩ := hw
            refine r_ast Z.1 Z.2.1 43 87 3 rfl rfl hb3 dX12_complain_46 ?_
            refine ac_aload_n Z.1 0 dX12_complain_47 rfl ?_
            refine r_geti (v := (M2 54)) Z.1 Z.2.1 54 (by decide) rfl fX12_395 rfl rfl dX12_complain_48 ?_
            exact hret _ _ _ _ _ dX12_complain_51 rfl hw
          · have hw := hwf hc
            refine ac_iconst (v := (-1)) Z.1 dX12_complain_29 (by decide) ?_
            exact hret _ _ _ _ _ dX12_complain_30 rfl hw
def w_enters_29 (Q : (Nat → Int32) → (Nat → Nat → Int32) → Prop) (M : Nat → Int32) (F : Nat → Nat → Int32) : Prop := Q (um M 56 ((M 56) + 1)) F
set_option maxRecDepth 20000 in
theorem s_enters_29 {x : ac_X} {g : r_S} {l : Launch} {Q : (Nat → Int32) → (Nat → Nat → Int32) → Prop} (Z : r_Cx x g l cX12_enters 3 (0)) (hret : r_RV x g 3 cX12_enters Q) (M : Nat → Int32) (F : Nat → Nat → Int32) (hw : w_enters_29 Q M F) : ac_G x (r_R g) 3 (r_P g M F) 0 0 29 [(0, .ref (r_h g))] [] := by
  refine ac_aload_n Z.1 0 dX12_enters_29 rfl ?_
  refine ac_dup Z.1 dX12_enters_30 rfl ?_
  refine r_geti (v := (M 56)) Z.1 Z.2.1 56 (by decide) rfl fX12_497 rfl rfl dX12_enters_31 ?_
  refine ac_iconst (v := 1) Z.1 dX12_enters_34 (by decide) ?_
  refine ac_iadd Z.1 dX12_enters_35 ?_
  refine r_put Z.1 Z.2.1 56 (by decide) rfl rfl rfl fX12_497 rfl dX12_enters_36 ?_
  exact hret _ _ _ _ dX12_enters_39 hw
def w_enters (p1 : Int32) (M : Nat → Int32) (F : Nat → Nat → Int32) (Q : (Nat → Int32) → (Nat → Nat → Int32) → Prop) : Prop := vp_in p1 3 ∧ ((¬ ((F 87) (p1).toNatClampNeg) = 0 → (vp_in ((F 87) (p1).toNatClampNeg) 8001 ∧ (∀ v3, v3 = ((F 53) (((F 87) (p1).toNatClampNeg)).toNatClampNeg) → ((¬ v3 = 0 → (w_enters_29 Q M F)) ∧ (v3 = 0 → ((¬ ((F 87) (p1).toNatClampNeg) = (M 73) → (vp_in ((F 87) (p1).toNatClampNeg) 8001 ∧ (vp_in ((F 87) (p1).toNatClampNeg) 8001 ∧ (Q (um M 73 ((F 87) (p1).toNatClampNeg)) (uf (uf F 52 ((F 87) (p1).toNatClampNeg) (M 73)) 53 ((F 87) (p1).toNatClampNeg) (vp_nar .boolean 1)))))) ∧ (((F 87) (p1).toNatClampNeg) = (M 73) → (w_enters_29 Q M F)))))))) ∧ (((F 87) (p1).toNatClampNeg) = 0 → (Q M F)))
set_option maxRecDepth 20000 in
theorem so_enters {l : Launch} {g : r_S} (p1 : Int32) (M : Nat → Int32) (F : Nat → Nat → Int32) (Q : (Nat → Int32) → (Nat → Nat → Int32) → Prop) (hw : w_enters p1 M F Q) : r_MetV l g yX12_enters cX12_enters 3 (0) [.ref (r_h g), .int p1] M F Q := by
  refine r_MetV.of (by decide) rfl (Nat.le_of_ble_eq_true rfl) (fun x Z hret => ?_)
  show ac_G x (r_R g) 3 (r_P g M F) 0 0 0 [(0, .ref (r_h g)), (1, .int p1)] []
  refine ac_aload_n Z.1 0 dX12_enters_0 rfl ?_
  refine r_geta Z.1 Z.2.1 87 (by decide) rfl fX12_156 rfl dX12_enters_1 ?_
  refine ac_iload_n Z.1 1 dX12_enters_4 rfl ?_
  obtain ⟨hb1, hw⟩ := hw
  refine r_ald (v := ((F 87) (p1).toNatClampNeg)) Z.1 Z.2.1 43 87 3 rfl rfl hb1 rfl dX12_enters_5 ?_
  refine ac_istore_n (lv' := [(2, .int ((F 87) (p1).toNatClampNeg)), (0, .ref (r_h g)), (1, .int p1)]) Z.1 dX12_enters_6 (by decide) rfl ?_
  refine ac_iload_n Z.1 0 dX12_enters_7 rfl ?_
  obtain ⟨hwt, hwf⟩ := hw
  refine ac_if_ne (tgt := 12) Z.1 dX12_enters_8 (by decide) (fun hc => ?_) (fun hc => ?_)
  · have hw := hwt hc
    refine ac_aload_n Z.1 1 dX12_enters_12 rfl ?_
    refine r_geta Z.1 Z.2.1 53 (by decide) rfl fX12_107 rfl dX12_enters_13 ?_
    refine ac_iload_n Z.1 0 dX12_enters_16 rfl ?_
    obtain ⟨hb2, hw⟩ := hw
    refine r_zald (v := ((F 53) (((F 87) (p1).toNatClampNeg)).toNatClampNeg)) Z.1 Z.2.1 29 53 8001 rfl rfl hb2 rfl dX12_enters_17 ?_
    refine ac_topi (fun v3 hv3 => ?_)
    have hw := hw v3 hv3
    obtain ⟨hwt, hwf⟩ := hw
    refine ac_if_ne (tgt := 29) Z.1 dX12_enters_18 (by decide) (fun hc => ?_) (fun hc => ?_)
    · have hw := hwt hc
      refine ac_lv [1] rfl ?_
      exact s_enters_29 Z hret _ _ hw
    · have hw := hwf hc
      refine ac_iload_n Z.1 0 dX12_enters_21 rfl ?_
      refine ac_aload_n Z.1 1 dX12_enters_22 rfl ?_
      refine r_geti (v := (M 73)) Z.1 Z.2.1 73 (by decide) rfl fX12_421 rfl rfl dX12_enters_23 ?_
      obtain ⟨hwt, hwf⟩ := hw
      refine ac_icmp_ne (tgt := 40) Z.1 dX12_enters_26 (by decide) (fun hc => ?_) (fun hc => ?_)
      · have hw := hwt hc
        refine ac_aload_n Z.1 1 dX12_enters_40 rfl ?_
        refine r_geta Z.1 Z.2.1 52 (by decide) rfl fX12_104 rfl dX12_enters_41 ?_
        refine ac_iload_n Z.1 0 dX12_enters_44 rfl ?_
        refine ac_aload_n Z.1 1 dX12_enters_45 rfl ?_
        refine r_geti (v := (M 73)) Z.1 Z.2.1 73 (by decide) rfl fX12_421 rfl rfl dX12_enters_46 ?_
        obtain ⟨hb4, hw⟩ := hw
        refine r_ast Z.1 Z.2.1 28 52 8001 rfl rfl hb4 dX12_enters_49 ?_
        refine ac_aload_n Z.1 1 dX12_enters_50 rfl ?_
        refine r_geta Z.1 Z.2.1 53 (by decide) rfl fX12_107 rfl dX12_enters_51 ?_
        refine ac_iload_n Z.1 0 dX12_enters_54 rfl ?_
        refine ac_iconst (v := 1) Z.1 dX12_enters_55 (by decide) ?_
        obtain ⟨hb5, hw⟩ := hw
        refine r_zast Z.1 Z.2.1 29 53 8001 rfl rfl hb5 rfl dX12_enters_56 ?_
        refine ac_aload_n Z.1 1 dX12_enters_57 rfl ?_
        refine ac_iload_n Z.1 0 dX12_enters_58 rfl ?_
        refine r_put Z.1 Z.2.1 73 (by decide) rfl rfl rfl fX12_421 rfl dX12_enters_59 ?_
        exact hret _ _ _ _ dX12_enters_62 hw
      · have hw := hwf hc
        refine ac_lv [1] rfl ?_
        exact s_enters_29 Z hret _ _ hw
  · have hw := hwf hc
    exact hret _ _ _ _ dX12_enters_11 hw
def w_about (p1 : Int32) (M : Nat → Int32) (F : Nat → Nat → Int32) (Q : Int32 → (Nat → Int32) → (Nat → Nat → Int32) → Prop) : Prop := (p1 = 0 → (Q (M 75) M F)) ∧ (p1 = 1 → (Q (M 76) M F)) ∧ (p1 = 2 → (Q (M 77) M F)) ∧ (p1 = 3 → (Q (M 78) M F)) ∧ (p1 = 4 → (Q (M 80) M F)) ∧ (p1 = 5 → (Q (M 81) M F)) ∧ (p1 = 6 → (Q (M 82) M F)) ∧ (p1 = 7 → (Q (M 54) M F)) ∧ (p1 = 8 → (Q (M 56) M F)) ∧ (p1 = 9 → (Q (M 28) M F)) ∧ (¬ p1 = 0 → ¬ p1 = 1 → ¬ p1 = 2 → ¬ p1 = 3 → ¬ p1 = 4 → ¬ p1 = 5 → ¬ p1 = 6 → ¬ p1 = 7 → ¬ p1 = 8 → ¬ p1 = 9 → (Q (-1) M F))
set_option maxRecDepth 20000 in
theorem so_about {l : Launch} {g : r_S} (p1 : Int32) (M : Nat → Int32) (F : Nat → Nat → Int32) (Q : Int32 → (Nat → Int32) → (Nat → Nat → Int32) → Prop) (hw : w_about p1 M F Q) : r_MetI l g yX12_about cX12_about 2 .int (0) [.ref (r_h g), .int p1] M F Q := by
  refine r_MetI.of (by decide) rfl (Nat.le_of_ble_eq_true rfl) (fun x Z hret => ?_)
  show ac_G x (r_R g) 2 (r_P g M F) 0 0 0 [(0, .ref (r_h g)), (1, .int p1)] []
  refine ac_iload_n Z.1 1 dX12_about_0 rfl ?_
  obtain ⟨hwk, hw⟩ := hw
  by_cases hk0 : p1 = 0
  · have hw := hwk hk0
    refine ac_tableIn (off := 55) (tgt := 56) Z.1 dX12_about_1 (by rw [hk0]; decide) (by rw [hk0]; decide) (by rw [hk0]; rfl) (by decide) ?_
    refine ac_aload_n Z.1 0 dX12_about_56 rfl ?_
    refine r_geti (v := (M 75)) Z.1 Z.2.1 75 (by decide) rfl fX12_141 rfl rfl dX12_about_57 ?_
    exact hret _ _ _ _ _ dX12_about_60 rfl hw
  obtain ⟨hwk, hw⟩ := hw
  by_cases hk1 : p1 = 1
  · have hw := hwk hk1
    refine ac_tableIn (off := 60) (tgt := 61) Z.1 dX12_about_1 (by rw [hk1]; decide) (by rw [hk1]; decide) (by rw [hk1]; rfl) (by decide) ?_
    refine ac_aload_n Z.1 0 dX12_about_61 rfl ?_
    refine r_geti (v := (M 76)) Z.1 Z.2.1 76 (by decide) rfl fX12_518 rfl rfl dX12_about_62 ?_
    exact hret _ _ _ _ _ dX12_about_65 rfl hw
  obtain ⟨hwk, hw⟩ := hw
  by_cases hk2 : p1 = 2
  · have hw := hwk hk2
    refine ac_tableIn (off := 65) (tgt := 66) Z.1 dX12_about_1 (by rw [hk2]; decide) (by rw [hk2]; decide) (by rw [hk2]; rfl) (by decide) ?_
    refine ac_aload_n Z.1 0 dX12_about_66 rfl ?_
    refine r_geti (v := (M 77)) Z.1 Z.2.1 77 (by decide) rfl fX12_144 rfl rfl dX12_about_67 ?_
    exact hret _ _ _ _ _ dX12_about_70 rfl hw
  obtain ⟨hwk, hw⟩ := hw
  by_cases hk3 : p1 = 3
  · have hw := hwk hk3
    refine ac_tableIn (off := 70) (tgt := 71) Z.1 dX12_about_1 (by rw [hk3]; decide) (by rw [hk3]; decide) (by rw [hk3]; rfl) (by decide) ?_
    refine ac_aload_n Z.1 0 dX12_about_71 rfl ?_
    refine r_geti (v := (M 78)) Z.1 Z.2.1 78 (by decide) rfl fX12_450 rfl rfl dX12_about_72 ?_
    exact hret _ _ _ _ _ dX12_about_75 rfl hw
  obtain ⟨hwk, hw⟩ := hw
  by_cases hk4 : p1 = 4
  · have hw := hwk hk4
    refine ac_tableIn (off := 75) (tgt := 76) Z.1 dX12_about_1 (by rw [hk4]; decide) (by rw [hk4]; decide) (by rw [hk4]; rfl) (by decide) ?_
    refine ac_aload_n Z.1 0 dX12_about_76 rfl ?_
    refine r_geti (v := (M 80)) Z.1 Z.2.1 80 (by decide) rfl fX12_500 rfl rfl dX12_about_77 ?_
    exact hret _ _ _ _ _ dX12_about_80 rfl hw
  obtain ⟨hwk, hw⟩ := hw
  by_cases hk5 : p1 = 5
  · have hw := hwk hk5
    refine ac_tableIn (off := 80) (tgt := 81) Z.1 dX12_about_1 (by rw [hk5]; decide) (by rw [hk5]; decide) (by rw [hk5]; rfl) (by decide) ?_
    refine ac_aload_n Z.1 0 dX12_about_81 rfl ?_
    refine r_geti (v := (M 81)) Z.1 Z.2.1 81 (by decide) rfl fX12_512 rfl rfl dX12_about_82 ?_
    exact hret _ _ _ _ _ dX12_about_85 rfl hw
  obtain ⟨hwk, hw⟩ := hw
  by_cases hk6 : p1 = 6
  · have hw := hwk hk6
    refine ac_tableIn (off := 85) (tgt := 86) Z.1 dX12_about_1 (by rw [hk6]; decide) (by rw [hk6]; decide) (by rw [hk6]; rfl) (by decide) ?_
    refine ac_aload_n Z.1 0 dX12_about_86 rfl ?_
    refine r_geti (v := (M 82)) Z.1 Z.2.1 82 (by decide) rfl fX12_415 rfl rfl dX12_about_87 ?_
    exact hret _ _ _ _ _ dX12_about_90 rfl hw
  obtain ⟨hwk, hw⟩ := hw
  by_cases hk7 : p1 = 7
  · have hw := hwk hk7
    refine ac_tableIn (off := 90) (tgt := 91) Z.1 dX12_about_1 (by rw [hk7]; decide) (by rw [hk7]; decide) (by rw [hk7]; rfl) (by decide) ?_
    refine ac_aload_n Z.1 0 dX12_about_91 rfl ?_
    refine r_geti (v := (M 54)) Z.1 Z.2.1 54 (by decide) rfl fX12_395 rfl rfl dX12_about_92 ?_
    exact hret _ _ _ _ _ dX12_about_95 rfl hw
  obtain ⟨hwk, hw⟩ := hw
  by_cases hk8 : p1 = 8
  · have hw := hwk hk8
    refine ac_tableIn (off := 95) (tgt := 96) Z.1 dX12_about_1 (by rw [hk8]; decide) (by rw [hk8]; decide) (by rw [hk8]; rfl) (by decide) ?_
    refine ac_aload_n Z.1 0 dX12_about_96 rfl ?_
    refine r_geti (v := (M 56)) Z.1 Z.2.1 56 (by decide) rfl fX12_497 rfl rfl dX12_about_97 ?_
    exact hret _ _ _ _ _ dX12_about_100 rfl hw
  obtain ⟨hwk, hw⟩ := hw
  by_cases hk9 : p1 = 9
  · have hw := hwk hk9
    refine ac_tableIn (off := 100) (tgt := 101) Z.1 dX12_about_1 (by rw [hk9]; decide) (by rw [hk9]; decide) (by rw [hk9]; rfl) (by decide) ?_
    refine ac_aload_n Z.1 0 dX12_about_101 rfl ?_
    refine r_geti (v := (M 28)) Z.1 Z.2.1 28 (by decide) rfl fX12_386 rfl rfl dX12_about_102 ?_
    exact hret _ _ _ _ _ dX12_about_105 rfl hw
  have hw := hw hk0 hk1 hk2 hk3 hk4 hk5 hk6 hk7 hk8 hk9
  refine ac_tableOut (tgt := 106) Z.1 dX12_about_1 (by have q0 := lv_neT hk0 (show (0 : Int32).toInt = 0 by decide); have q1 := lv_neT hk1 (show (1 : Int32).toInt = 1 by decide); have q2 := lv_neT hk2 (show (2 : Int32).toInt = 2 by decide); have q3 := lv_neT hk3 (show (3 : Int32).toInt = 3 by decide); have q4 := lv_neT hk4 (show (4 : Int32).toInt = 4 by decide); have q5 := lv_neT hk5 (show (5 : Int32).toInt = 5 by decide); have q6 := lv_neT hk6 (show (6 : Int32).toInt = 6 by decide); have q7 := lv_neT hk7 (show (7 : Int32).toInt = 7 by decide); have q8 := lv_neT hk8 (show (8 : Int32).toInt = 8 by decide); have q9 := lv_neT hk9 (show (9 : Int32).toInt = 9 by decide); omega) (by decide) ?_
  refine ac_iconst (v := (-1)) Z.1 dX12_about_106 (by decide) ?_
  exact hret _ _ _ _ _ dX12_about_107 rfl hw
def w_note_ (p1 : Int32) (M : Nat → Int32) (F : Nat → Nat → Int32) (Q : Int32 → (Nat → Int32) → (Nat → Nat → Int32) → Prop) : Prop := (p1 < 0 → (Q 0 M F)) ∧ (¬ p1 < 0 → (((M 80) ≤ p1 → (Q 0 M F)) ∧ (¬ (M 80) ≤ p1 → (vp_in p1 200 ∧ (Q ((F 84) (p1).toNatClampNeg) M F)))))
set_option maxRecDepth 20000 in
theorem so_note_ {l : Launch} {g : r_S} (p1 : Int32) (M : Nat → Int32) (F : Nat → Nat → Int32) (Q : Int32 → (Nat → Int32) → (Nat → Nat → Int32) → Prop) (hw : w_note_ p1 M F Q) : r_MetI l g yX12_note_ cX12_note_ 2 .int (0) [.ref (r_h g), .int p1] M F Q := by
  refine r_MetI.of (by decide) rfl (Nat.le_of_ble_eq_true rfl) (fun x Z hret => ?_)
  show ac_G x (r_R g) 2 (r_P g M F) 0 0 0 [(0, .ref (r_h g)), (1, .int p1)] []
  refine ac_iload_n Z.1 1 dX12_note__0 rfl ?_
  obtain ⟨hwt, hwf⟩ := hw
  refine ac_if_lt (tgt := 21) Z.1 dX12_note__1 (by decide) (fun hc => ?_) (fun hc => ?_)
  · have hw := hwt hc
    refine ac_iconst (v := 0) Z.1 dX12_note__21 (by decide) ?_
    exact hret _ _ _ _ _ dX12_note__22 rfl hw
  · have hw := hwf hc
    refine ac_iload_n Z.1 1 dX12_note__4 rfl ?_
    refine ac_aload_n Z.1 0 dX12_note__5 rfl ?_
    refine r_geti (v := (M 80)) Z.1 Z.2.1 80 (by decide) rfl fX12_500 rfl rfl dX12_note__6 ?_
    obtain ⟨hwt, hwf⟩ := hw
    refine ac_icmp_ge (tgt := 21) Z.1 dX12_note__9 (by decide) (fun hc => ?_) (fun hc => ?_)
    · have hw := hwt hc
      refine ac_iconst (v := 0) Z.1 dX12_note__21 (by decide) ?_
      exact hret _ _ _ _ _ dX12_note__22 rfl hw
    · have hw := hwf hc
      refine ac_aload_n Z.1 0 dX12_note__12 rfl ?_
      refine r_geta Z.1 Z.2.1 84 (by decide) rfl fX12_147 rfl dX12_note__13 ?_
      refine ac_iload_n Z.1 1 dX12_note__16 rfl ?_
      obtain ⟨hb1, hw⟩ := hw
      refine r_ald (v := ((F 84) (p1).toNatClampNeg)) Z.1 Z.2.1 40 84 200 rfl rfl hb1 rfl dX12_note__17 ?_
      refine ac_goto (tgt := 22) Z.1 dX12_note__18 (by decide) ?_
      exact hret _ _ _ _ _ dX12_note__22 rfl hw
def w_told__45 (Q : Int32 → (Nat → Int32) → (Nat → Nat → Int32) → Prop) (a3 : Int32) (a4 : Int32) (a5 : Int32) (M : Nat → Int32) (F : Nat → Nat → Int32) : Prop := (¬ a5 = 0 → ((a3 = 0 → (vp_in a5 8001 ∧ (Q ((F 48) (a5).toNatClampNeg) M F))) ∧ (a3 = 1 → (vp_in a5 8001 ∧ (Q ((F 49) (a5).toNatClampNeg) M F))) ∧ (a3 = 2 → (vp_in a5 8001 ∧ (Q ((F 50) (a5).toNatClampNeg) M F))) ∧ (a3 = 3 → (Q a5 M F)) ∧ (a3 = 4 → (vp_in a5 8001 ∧ (Q ((F 51) (a5).toNatClampNeg) M F))) ∧ (a3 = 5 → (vp_in a5 8001 ∧ ((((F 53) (a5).toNatClampNeg) = 0 → (Q 0 M F)) ∧ (¬ ((F 53) (a5).toNatClampNeg) = 0 → (Q 1 M F))))) ∧ (a3 = 6 → (w_weight a5 M F (fun r6 M7 F7 => (Q r6 M7 F7)))) ∧ (¬ a3 = 0 → ¬ a3 = 1 → ¬ a3 = 2 → ¬ a3 = 3 → ¬ a3 = 4 → ¬ a3 = 5 → ¬ a3 = 6 → (Q a4 M F)))) ∧ (a5 = 0 → ((¬ a3 = 0 → (Q 0 M F)) ∧ (a3 = 0 → (Q (-1) M F))))
set_option maxRecDepth 20000 in
theorem s_told__45 {x : ac_X} {g : r_S} {l : Launch} {Q : Int32 → (Nat → Int32) → (Nat → Nat → Int32) → Prop} (Z : r_Cx x g l cX12_told_ 7 (1)) (hret : r_RI x g 7 cX12_told_ .int Q) (a3 : Int32) (a4 : Int32) (a5 : Int32) (M : Nat → Int32) (F : Nat → Nat → Int32) (hw : w_told__45 Q a3 a4 a5 M F) : ac_G x (r_R g) 7 (r_P g M F) 0 0 45 [(0, .ref (r_h g)), (3, .int a3), (4, .int a4), (5, .int a5)] [] := by
  refine ac_iload Z.1 3 dX12_told__45 rfl ?_
  obtain ⟨hwt, hwf⟩ := hw
  refine ac_if_ne (tgt := 60) Z.1 dX12_told__47 (by decide) (fun hc => ?_) (fun hc => ?_)
  · have hw := hwt hc
    refine ac_iload_n Z.1 1 dX12_told__60 rfl ?_
    obtain ⟨hwk, hw⟩ := hw
    by_cases hk0 : a3 = 0
    · have hw := hwk hk0
      refine ac_tableIn (off := 43) (tgt := 104) Z.1 dX12_told__61 (by rw [hk0]; decide) (by rw [hk0]; decide) (by rw [hk0]; rfl) (by decide) ?_
      refine ac_aload_n Z.1 0 dX12_told__104 rfl ?_
      refine r_geta Z.1 Z.2.1 48 (by decide) rfl fX12_92 rfl dX12_told__105 ?_
      refine ac_iload Z.1 3 dX12_told__108 rfl ?_
      obtain ⟨hb1, hw⟩ := hw
      refine r_ald (v := ((F 48) (a5).toNatClampNeg)) Z.1 Z.2.1 24 48 8001 rfl rfl hb1 rfl dX12_told__110 ?_
      exact hret _ _ _ _ _ dX12_told__111 rfl hw
    obtain ⟨hwk, hw⟩ := hw
    by_cases hk1 : a3 = 1
    · have hw := hwk hk1
      refine ac_tableIn (off := 51) (tgt := 112) Z.1 dX12_told__61 (by rw [hk1]; decide) (by rw [hk1]; decide) (by rw [hk1]; rfl) (by decide) ?_
      refine ac_aload_n Z.1 0 dX12_told__112 rfl ?_
      refine r_geta Z.1 Z.2.1 49 (by decide) rfl fX12_95 rfl dX12_told__113 ?_
      refine ac_iload Z.1 3 dX12_told__116 rfl ?_
      obtain ⟨hb2, hw⟩ := hw
      refine r_ald (v := ((F 49) (a5).toNatClampNeg)) Z.1 Z.2.1 25 49 8001 rfl rfl hb2 rfl dX12_told__118 ?_
      exact hret _ _ _ _ _ dX12_told__119 rfl hw
    obtain ⟨hwk, hw⟩ := hw
    by_cases hk2 : a3 = 2
    · have hw := hwk hk2
      refine ac_tableIn (off := 59) (tgt := 120) Z.1 dX12_told__61 (by rw [hk2]; decide) (by rw [hk2]; decide) (by rw [hk2]; rfl) (by decide) ?_
      refine ac_aload_n Z.1 0 dX12_told__120 rfl ?_
      refine r_geta Z.1 Z.2.1 50 (by decide) rfl fX12_98 rfl dX12_told__121 ?_
      refine ac_iload Z.1 3 dX12_told__124 rfl ?_
      obtain ⟨hb3, hw⟩ := hw
      refine r_ald (v := ((F 50) (a5).toNatClampNeg)) Z.1 Z.2.1 26 50 8001 rfl rfl hb3 rfl dX12_told__126 ?_
      exact hret _ _ _ _ _ dX12_told__127 rfl hw
    obtain ⟨hwk, hw⟩ := hw
    by_cases hk3 : a3 = 3
    · have hw := hwk hk3
      refine ac_tableIn (off := 67) (tgt := 128) Z.1 dX12_told__61 (by rw [hk3]; decide) (by rw [hk3]; decide) (by rw [hk3]; rfl) (by decide) ?_
      refine ac_iload Z.1 3 dX12_told__128 rfl ?_
      exact hret _ _ _ _ _ dX12_told__130 rfl hw
    obtain ⟨hwk, hw⟩ := hw
    by_cases hk4 : a3 = 4
    · have hw := hwk hk4
      refine ac_tableIn (off := 70) (tgt := 131) Z.1 dX12_told__61 (by rw [hk4]; decide) (by rw [hk4]; decide) (by rw [hk4]; rfl) (by decide) ?_
      refine ac_aload_n Z.1 0 dX12_told__131 rfl ?_
      refine r_geta Z.1 Z.2.1 51 (by decide) rfl fX12_101 rfl dX12_told__132 ?_
      refine ac_iload Z.1 3 dX12_told__135 rfl ?_
      obtain ⟨hb4, hw⟩ := hw
      refine r_ald (v := ((F 51) (a5).toNatClampNeg)) Z.1 Z.2.1 27 51 8001 rfl rfl hb4 rfl dX12_told__137 ?_
      exact hret _ _ _ _ _ dX12_told__138 rfl hw
    obtain ⟨hwk, hw⟩ := hw
    by_cases hk5 : a3 = 5
    · have hw := hwk hk5
      refine ac_tableIn (off := 78) (tgt := 139) Z.1 dX12_told__61 (by rw [hk5]; decide) (by rw [hk5]; decide) (by rw [hk5]; rfl) (by decide) ?_
      refine ac_aload_n Z.1 0 dX12_told__139 rfl ?_
      refine r_geta Z.1 Z.2.1 53 (by decide) rfl fX12_107 rfl dX12_told__140 ?_
      refine ac_iload Z.1 3 dX12_told__143 rfl ?_
      obtain ⟨hb5, hw⟩ := hw
      refine r_zald (v := ((F 53) (a5).toNatClampNeg)) Z.1 Z.2.1 29 53 8001 rfl rfl hb5 rfl dX12_told__145 ?_
      obtain ⟨hwt, hwf⟩ := hw
      refine ac_if_eq (tgt := 153) Z.1 dX12_told__146 (by decide) (fun hc => ?_) (fun hc => ?_)
      · have hw := hwt hc
        refine ac_iconst (v := 0) Z.1 dX12_told__153 (by decide) ?_
        exact hret _ _ _ _ _ dX12_told__154 rfl hw
      · have hw := hwf hc
        refine ac_iconst (v := 1) Z.1 dX12_told__149 (by decide) ?_
        refine ac_goto (tgt := 154) Z.1 dX12_told__150 (by decide) ?_
        exact hret _ _ _ _ _ dX12_told__154 rfl hw
    obtain ⟨hwk, hw⟩ := hw
    by_cases hk6 : a3 = 6
    · have hw := hwk hk6
      refine ac_tableIn (off := 94) (tgt := 155) Z.1 dX12_told__61 (by rw [hk6]; decide) (by rw [hk6]; decide) (by rw [hk6]; rfl) (by decide) ?_
      refine ac_aload_n Z.1 0 dX12_told__155 rfl ?_
      refine ac_iload Z.1 3 dX12_told__156 rfl ?_
      refine r_calli (As := [.int a5]) (st := []) Z kX12_weight lkX12_491 (by omega) rfl (so_weight   _ _ _ _ hw) rfl rfl (Nat.le_of_ble_eq_true rfl) dX12_told__158 (fun r6 M7 F7 hw => ?_)
      exact hret _ _ _ _ _ dX12_told__161 rfl hw
    have hw := hw hk0 hk1 hk2 hk3 hk4 hk5 hk6
    refine ac_tableOut (tgt := 162) Z.1 dX12_told__61 (by have q0 := lv_neT hk0 (show (0 : Int32).toInt = 0 by decide); have q1 := lv_neT hk1 (show (1 : Int32).toInt = 1 by decide); have q2 := lv_neT hk2 (show (2 : Int32).toInt = 2 by decide); have q3 := lv_neT hk3 (show (3 : Int32).toInt = 3 by decide); have q4 := lv_neT hk4 (show (4 : Int32).toInt = 4 by decide); have q5 := lv_neT hk5 (show (5 : Int32).toInt = 5 by decide); have q6 := lv_neT hk6 (show (6 : Int32).toInt = 6 by decide); omega) (by decide) ?_
    refine ac_iload Z.1 2 dX12_told__162 rfl ?_
    exact hret _ _ _ _ _ dX12_told__164 rfl hw
  · have hw := hwf hc
    refine ac_iload_n Z.1 1 dX12_told__50 rfl ?_
    obtain ⟨hwt, hwf⟩ := hw
    refine ac_if_ne (tgt := 58) Z.1 dX12_told__51 (by decide) (fun hc => ?_) (fun hc => ?_)
    · have hw := hwt hc
      refine ac_iconst (v := 0) Z.1 dX12_told__58 (by decide) ?_
      exact hret _ _ _ _ _ dX12_told__59 rfl hw
    · have hw := hwf hc
      refine ac_iconst (v := (-1)) Z.1 dX12_told__54 (by decide) ?_
      refine ac_goto (tgt := 59) Z.1 dX12_told__55 (by decide) ?_
      exact hret _ _ _ _ _ dX12_told__59 rfl hw
def w_told__19 (Q : Int32 → (Nat → Int32) → (Nat → Nat → Int32) → Prop) : Nat → Int32 → Int32 → Int32 → Int32 → Int32 → (Nat → Int32) → (Nat → Nat → Int32) → Prop
  | 0 => fun _ _ _ _ _ _ _ => False
  | n + 1 => fun a2 a3 a4 a5 a6 M F => ((a2 ≤ a6 → (w_told__45 Q a3 a4 a5 M F)) ∧ (¬ a2 ≤ a6 → ((a5 ≤ 0 → (w_told__45 Q a3 a4 a5 M F)) ∧ (¬ a5 ≤ 0 → (vp_in a5 8001 ∧ (w_told__19 Q n a2 a3 a4 ((F 52) (a5).toNatClampNeg) (a6 + 1) M F))))))
set_option maxRecDepth 20000 in
theorem s_told__19 {x : ac_X} {g : r_S} {l : Launch} {Q : Int32 → (Nat → Int32) → (Nat → Nat → Int32) → Prop} (Z : r_Cx x g l cX12_told_ 7 (1)) (hret : r_RI x g 7 cX12_told_ .int Q) : ∀ (n : Nat) (a2 : Int32) (a3 : Int32) (a4 : Int32) (a5 : Int32) (a6 : Int32) (M : Nat → Int32) (F : Nat → Nat → Int32), w_told__19 Q n a2 a3 a4 a5 a6 M F → ac_G x (r_R g) 7 (r_P g M F) 0 0 19 [(0, .ref (r_h g)), (2, .int a2), (3, .int a3), (4, .int a4), (5, .int a5), (6, .int a6)] [] := by
  intro n
  induction n with
  | zero => intro _ _ _ _ _ _ _ hw; exact hw.elim
  | succ n ih =>
    intro a2 a3 a4 a5 a6 M F hw
    dsimp only [w_told__19] at hw
    refine ac_iload Z.1 5 dX12_told__19 rfl ?_
    refine ac_iload_n Z.1 1 dX12_told__21 rfl ?_
    obtain ⟨hwt, hwf⟩ := hw
    refine ac_icmp_ge (tgt := 45) Z.1 dX12_told__22 (by decide) (fun hc => ?_) (fun hc => ?_)
    · have hw := hwt hc
      refine ac_lv [0, 2, 3, 4] rfl ?_
      exact s_told__45 Z hret _ _ _ _ _ hw
    · have hw := hwf hc
      refine ac_iload Z.1 4 dX12_told__25 rfl ?_
      obtain ⟨hwt, hwf⟩ := hw
      refine ac_if_le (tgt := 45) Z.1 dX12_told__27 (by decide) (fun hc => ?_) (fun hc => ?_)
      · have hw := hwt hc
        refine ac_lv [0, 2, 3, 4] rfl ?_
        exact s_told__45 Z hret _ _ _ _ _ hw
      · have hw := hwf hc
        refine ac_aload_n Z.1 0 dX12_told__30 rfl ?_
        refine r_geta Z.1 Z.2.1 52 (by decide) rfl fX12_104 rfl dX12_told__31 ?_
        refine ac_iload Z.1 4 dX12_told__34 rfl ?_
        obtain ⟨hb8, hw⟩ := hw
        refine r_ald (v := ((F 52) (a5).toNatClampNeg)) Z.1 Z.2.1 28 52 8001 rfl rfl hb8 rfl dX12_told__36 ?_
        refine ac_istore (lv' := [(5, .int ((F 52) (a5).toNatClampNeg)), (0, .ref (r_h g)), (2, .int a2), (3, .int a3), (4, .int a4), (6, .int a6)]) Z.1 dX12_told__37 (by decide) rfl ?_
        refine ac_iinc (w := (a6 + 1)) (lv' := [(6, .int (a6 + 1)), (5, .int ((F 52) (a5).toNatClampNeg)), (0, .ref (r_h g)), (2, .int a2), (3, .int a3), (4, .int a4)]) Z.1 5 dX12_told__39 rfl rfl (by decide) rfl ?_
        refine ac_goto (tgt := 19) Z.1 dX12_told__42 (by decide) ?_
        refine ac_lv [2, 3, 4, 5, 1, 0] rfl ?_
        exact ih _ _ _ _ _ _ _ hw
def w_told__16 (Q : Int32 → (Nat → Int32) → (Nat → Nat → Int32) → Prop) (a2 : Int32) (a3 : Int32) (a4 : Int32) (a5 : Int32) (M : Nat → Int32) (F : Nat → Nat → Int32) : Prop := ∃ e19, w_told__19 Q e19 a2 a3 a4 a5 0 M F
set_option maxRecDepth 20000 in
theorem s_told__16 {x : ac_X} {g : r_S} {l : Launch} {Q : Int32 → (Nat → Int32) → (Nat → Nat → Int32) → Prop} (Z : r_Cx x g l cX12_told_ 7 (1)) (hret : r_RI x g 7 cX12_told_ .int Q) (a2 : Int32) (a3 : Int32) (a4 : Int32) (a5 : Int32) (M : Nat → Int32) (F : Nat → Nat → Int32) (hw : w_told__16 Q a2 a3 a4 a5 M F) : ac_G x (r_R g) 7 (r_P g M F) 0 0 16 [(0, .ref (r_h g)), (2, .int a2), (3, .int a3), (4, .int a4), (5, .int a5)] [] := by
  refine ac_iconst (v := 0) Z.1 dX12_told__16 (by decide) ?_
  refine ac_istore (lv' := [(6, .int 0), (0, .ref (r_h g)), (2, .int a2), (3, .int a3), (4, .int a4), (5, .int a5)]) Z.1 dX12_told__17 (by decide) rfl ?_
  obtain ⟨n, hw⟩ := hw
  refine ac_lv [1, 2, 3, 4, 5, 0] rfl ?_
  exact s_told__19 Z hret n _ _ _ _ _ _ _ hw
def w_told__13 (Q : Int32 → (Nat → Int32) → (Nat → Nat → Int32) → Prop) (a2 : Int32) (a3 : Int32) (a4 : Int32) (M : Nat → Int32) (F : Nat → Nat → Int32) : Prop := w_told__16 Q a2 a3 a4 0 M F
set_option maxRecDepth 20000 in
theorem s_told__13 {x : ac_X} {g : r_S} {l : Launch} {Q : Int32 → (Nat → Int32) → (Nat → Nat → Int32) → Prop} (Z : r_Cx x g l cX12_told_ 7 (1)) (hret : r_RI x g 7 cX12_told_ .int Q) (a2 : Int32) (a3 : Int32) (a4 : Int32) (M : Nat → Int32) (F : Nat → Nat → Int32) (hw : w_told__13 Q a2 a3 a4 M F) : ac_G x (r_R g) 7 (r_P g M F) 0 0 13 [(0, .ref (r_h g)), (2, .int a2), (3, .int a3), (4, .int a4)] [] := by
  refine ac_iconst (v := 0) Z.1 dX12_told__13 (by decide) ?_
  refine ac_istore (lv' := [(5, .int 0), (0, .ref (r_h g)), (2, .int a2), (3, .int a3), (4, .int a4)]) Z.1 dX12_told__14 (by decide) rfl ?_
  refine ac_lv [1, 2, 3, 4, 0] rfl ?_
  exact s_told__16 Z hret _ _ _ _ _ _ hw
def w_told_ (p1 : Int32) (p2 : Int32) (p3 : Int32) (p4 : Int32) (M : Nat → Int32) (F : Nat → Nat → Int32) (Q : Int32 → (Nat → Int32) → (Nat → Nat → Int32) → Prop) : Prop := (p2 < 0 → (w_told__13 Q p2 p3 p4 M F)) ∧ (¬ p2 < 0 → ((p2 < 50 → (w_told__16 Q p2 p3 p4 p1 M F)) ∧ (¬ p2 < 50 → (w_told__13 Q p2 p3 p4 M F))))
set_option maxRecDepth 20000 in
theorem so_told_ {l : Launch} {g : r_S} (p1 : Int32) (p2 : Int32) (p3 : Int32) (p4 : Int32) (M : Nat → Int32) (F : Nat → Nat → Int32) (Q : Int32 → (Nat → Int32) → (Nat → Nat → Int32) → Prop) (hw : w_told_ p1 p2 p3 p4 M F Q) : r_MetI l g yX12_told_ cX12_told_ 7 .int (1) [.ref (r_h g), .int p1, .int p2, .int p3, .int p4] M F Q := by
  refine r_MetI.of (by decide) rfl (Nat.le_of_ble_eq_true rfl) (fun x Z hret => ?_)
  show ac_G x (r_R g) 7 (r_P g M F) 0 0 0 [(0, .ref (r_h g)), (1, .int p1), (2, .int p2), (3, .int p3), (4, .int p4)] []
  refine ac_iload_n Z.1 1 dX12_told__0 rfl ?_
  refine ac_istore (lv' := [(5, .int p1), (0, .ref (r_h g)), (1, .int p1), (2, .int p2), (3, .int p3), (4, .int p4)]) Z.1 dX12_told__1 (by decide) rfl ?_
  refine ac_iload_n Z.1 3 dX12_told__3 rfl ?_
  obtain ⟨hwt, hwf⟩ := hw
  refine ac_if_lt (tgt := 13) Z.1 dX12_told__4 (by decide) (fun hc => ?_) (fun hc => ?_)
  · have hw := hwt hc
    refine ac_lv [1, 3, 4, 5] rfl ?_
    exact s_told__13 Z hret _ _ _ _ _ hw
  · have hw := hwf hc
    refine ac_iload_n Z.1 3 dX12_told__7 rfl ?_
    refine ac_bipush (v := 50) Z.1 dX12_told__8 (by decide) ?_
    obtain ⟨hwt, hwf⟩ := hw
    refine ac_icmp_lt (tgt := 16) Z.1 dX12_told__10 (by decide) (fun hc => ?_) (fun hc => ?_)
    · have hw := hwt hc
      refine ac_lv [1, 3, 4, 5, 0] rfl ?_
      exact s_told__16 Z hret _ _ _ _ _ _ hw
    · have hw := hwf hc
      refine ac_lv [1, 3, 4, 5] rfl ?_
      exact s_told__13 Z hret _ _ _ _ _ hw
def w_chain (p1 : Int32) (p2 : Int32) (M : Nat → Int32) (F : Nat → Nat → Int32) (Q : Int32 → (Nat → Int32) → (Nat → Nat → Int32) → Prop) : Prop := w_told_ (M 83) p1 p2 0 M F (fun r1 M2 F2 => (Q r1 M2 F2))
set_option maxRecDepth 20000 in
theorem so_chain {l : Launch} {g : r_S} (p1 : Int32) (p2 : Int32) (M : Nat → Int32) (F : Nat → Nat → Int32) (Q : Int32 → (Nat → Int32) → (Nat → Nat → Int32) → Prop) (hw : w_chain p1 p2 M F Q) : r_MetI l g yX12_chain cX12_chain 3 .int (2) [.ref (r_h g), .int p1, .int p2] M F Q := by
  refine r_MetI.of (by decide) rfl (Nat.le_of_ble_eq_true rfl) (fun x Z hret => ?_)
  show ac_G x (r_R g) 3 (r_P g M F) 0 0 0 [(0, .ref (r_h g)), (1, .int p1), (2, .int p2)] []
  refine ac_aload_n Z.1 0 dX12_chain_0 rfl ?_
  refine ac_aload_n Z.1 0 dX12_chain_1 rfl ?_
  refine r_geti (v := (M 83)) Z.1 Z.2.1 83 (by decide) rfl fX12_521 rfl rfl dX12_chain_2 ?_
  refine ac_iload_n Z.1 1 dX12_chain_5 rfl ?_
  refine ac_iload_n Z.1 2 dX12_chain_6 rfl ?_
  refine ac_iconst (v := 0) Z.1 dX12_chain_7 (by decide) ?_
  refine r_calli (As := [.int (M 83), .int p1, .int p2, .int 0]) (st := []) Z kX12_told_ lkX12_524 (by omega) rfl (so_told_   _ _ _ _ _ _ _ hw) rfl rfl (Nat.le_of_ble_eq_true rfl) dX12_chain_8 (fun r1 M2 F2 hw => ?_)
  exact hret _ _ _ _ _ dX12_chain_11 rfl hw
def w_complaint_20 (Q : Int32 → (Nat → Int32) → (Nat → Nat → Int32) → Prop) (a2 : Int32) (a3 : Int32) (t1 : Int32) (M : Nat → Int32) (F : Nat → Nat → Int32) : Prop := w_told_ t1 a2 a3 0 M F (fun r1 M2 F2 => (Q r1 M2 F2))
set_option maxRecDepth 20000 in
theorem s_complaint_20 {x : ac_X} {g : r_S} {l : Launch} {Q : Int32 → (Nat → Int32) → (Nat → Nat → Int32) → Prop} (Z : r_Cx x g l cX12_complaint 4 (2)) (hret : r_RI x g 4 cX12_complaint .int Q) (a2 : Int32) (a3 : Int32) (t1 : Int32) (M : Nat → Int32) (F : Nat → Nat → Int32) (hw : w_complaint_20 Q a2 a3 t1 M F) : ac_G x (r_R g) 4 (r_P g M F) 0 0 20 [(0, .ref (r_h g)), (2, .int a2), (3, .int a3)] [.int t1, .ref (r_h g)] := by
  refine ac_iload_n Z.1 1 dX12_complaint_20 rfl ?_
  refine ac_iload_n Z.1 2 dX12_complaint_21 rfl ?_
  refine ac_iconst (v := 0) Z.1 dX12_complaint_22 (by decide) ?_
  refine r_calli (As := [.int t1, .int a2, .int a3, .int 0]) (st := []) Z kX12_told_ lkX12_524 (by omega) rfl (so_told_   _ _ _ _ _ _ _ hw) rfl rfl (Nat.le_of_ble_eq_true rfl) dX12_complaint_23 (fun r1 M2 F2 hw => ?_)
  exact hret _ _ _ _ _ dX12_complaint_26 rfl hw
def w_complaint_10 (Q : Int32 → (Nat → Int32) → (Nat → Nat → Int32) → Prop) (a2 : Int32) (a3 : Int32) (M : Nat → Int32) (F : Nat → Nat → Int32) : Prop := w_complaint_20 Q a2 a3 0 M F
set_option maxRecDepth 20000 in
theorem s_complaint_10 {x : ac_X} {g : r_S} {l : Launch} {Q : Int32 → (Nat → Int32) → (Nat → Nat → Int32) → Prop} (Z : r_Cx x g l cX12_complaint 4 (2)) (hret : r_RI x g 4 cX12_complaint .int Q) (a2 : Int32) (a3 : Int32) (M : Nat → Int32) (F : Nat → Nat → Int32) (hw : w_complaint_10 Q a2 a3 M F) : ac_G x (r_R g) 4 (r_P g M F) 0 0 10 [(0, .ref (r_h g)), (2, .int a2), (3, .int a3)] [.ref (r_h g)] := by
  refine ac_iconst (v := 0) Z.1 dX12_complaint_10 (by decide) ?_
  refine ac_goto (tgt := 20) Z.1 dX12_complaint_11 (by decide) ?_
  exact s_complaint_20 Z hret _ _ _ _ _ hw
def w_complaint (p1 : Int32) (p2 : Int32) (p3 : Int32) (M : Nat → Int32) (F : Nat → Nat → Int32) (Q : Int32 → (Nat → Int32) → (Nat → Nat → Int32) → Prop) : Prop := (p1 < 0 → (w_complaint_10 Q p2 p3 M F)) ∧ (¬ p1 < 0 → ((p1 ≤ 2 → (vp_in p1 3 ∧ (w_complaint_20 Q p2 p3 ((F 87) (p1).toNatClampNeg) M F))) ∧ (¬ p1 ≤ 2 → (w_complaint_10 Q p2 p3 M F))))
set_option maxRecDepth 20000 in
theorem so_complaint {l : Launch} {g : r_S} (p1 : Int32) (p2 : Int32) (p3 : Int32) (M : Nat → Int32) (F : Nat → Nat → Int32) (Q : Int32 → (Nat → Int32) → (Nat → Nat → Int32) → Prop) (hw : w_complaint p1 p2 p3 M F Q) : r_MetI l g yX12_complaint cX12_complaint 4 .int (2) [.ref (r_h g), .int p1, .int p2, .int p3] M F Q := by
  refine r_MetI.of (by decide) rfl (Nat.le_of_ble_eq_true rfl) (fun x Z hret => ?_)
  show ac_G x (r_R g) 4 (r_P g M F) 0 0 0 [(0, .ref (r_h g)), (1, .int p1), (2, .int p2), (3, .int p3)] []
  refine ac_aload_n Z.1 0 dX12_complaint_0 rfl ?_
  refine ac_iload_n Z.1 1 dX12_complaint_1 rfl ?_
  obtain ⟨hwt, hwf⟩ := hw
  refine ac_if_lt (tgt := 10) Z.1 dX12_complaint_2 (by decide) (fun hc => ?_) (fun hc => ?_)
  · have hw := hwt hc
    refine ac_lv [0, 2, 3] rfl ?_
    exact s_complaint_10 Z hret _ _ _ _ hw
  · have hw := hwf hc
    refine ac_iload_n Z.1 1 dX12_complaint_5 rfl ?_
    refine ac_iconst (v := 2) Z.1 dX12_complaint_6 (by decide) ?_
    obtain ⟨hwt, hwf⟩ := hw
    refine ac_icmp_le (tgt := 14) Z.1 dX12_complaint_7 (by decide) (fun hc => ?_) (fun hc => ?_)
    · have hw := hwt hc
      refine ac_aload_n Z.1 0 dX12_complaint_14 rfl ?_
      refine r_geta Z.1 Z.2.1 87 (by decide) rfl fX12_156 rfl dX12_complaint_15 ?_
      refine ac_iload_n Z.1 1 dX12_complaint_18 rfl ?_
      obtain ⟨hb3, hw⟩ := hw
      refine r_ald (v := ((F 87) (p1).toNatClampNeg)) Z.1 Z.2.1 43 87 3 rfl rfl hb3 rfl dX12_complaint_19 ?_
      refine ac_lv [0, 2, 3] rfl ?_
      exact s_complaint_20 Z hret _ _ _ _ _ hw
    · have hw := hwf hc
      refine ac_lv [0, 2, 3] rfl ?_
      exact s_complaint_10 Z hret _ _ _ _ hw
