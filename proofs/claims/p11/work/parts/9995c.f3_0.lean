def wF_X4_numberOf_75 (N : Nat → Nat) (Q : Int32 → f_S3 → Nat × Nat → Prop) (a1 : Int64) (a3 : Int32) (M : f_S3) (O : Nat × Nat) : Prop := ((M.1 33) < (nI (N 14)) → (vp_in (M.1 33) (N 14) ∧ (vp_in a3 (N 16) ∧ (vp_in (M.1 33) (N 15) ∧ (vp_in a3 (N 16) ∧ (Q (((M.1 33) + 1) - 1) (fm (ff (ff (fj M 14 (M.1 33) a1) 15 (M.1 33) (M.2.1 16 a3.toNatClampNeg)) 16 a3 (M.1 33)) 33 ((M.1 33) + 1)) O)))))) ∧ (¬ (M.1 33) < (nI (N 14)) → (Q (-1) M O))
set_option maxRecDepth 20000 in
theorem sF_X4_numberOf_75 {x : ac_X} {g : b_S} (hg : g.1 = tb_R) {l : Launch} {O0 : Nat × Nat} {Q : Int32 → f_S3 → Nat × Nat → Prop} (Z : b_Cx x g l RX4 cX4_numberOf 6 (8) O0) (hret : f_RI x g 6 cX4_numberOf .int O0 Q) (a1 : Int64) (a3 : Int32) (M : f_S3) (O : Nat × Nat) (hw : wF_X4_numberOf_75 (b_N g) Q a1 a3 M O) : f_G x g 6 O0 M O 75 [(0, .ref (b_o g 2)), (1, .long a1), (3, .int a3)] [] := by
  refine ac_aload_n Z.1 0 dX4_numberOf_75 rfl ?_
  refine f_geti Z b_X4 2 (oR_2 hg) 3 (by decide) (by decide) (fR_33 hg) fX4_58 rfl (v := (M.1 33)) rfl dX4_numberOf_76 ?_
  refine ac_aload_n Z.1 0 dX4_numberOf_79 rfl ?_
  refine f_getr Z b_X4 2 (oR_2 hg) 0 (by decide) (by decide) (fR_30 hg) fX4_15 rfl (h2 := (b_o g 14)) rfl dX4_numberOf_80 ?_
  refine f_alen Z 4 (aR_14 hg) rfl (v := (nI (b_N g 14))) rfl dX4_numberOf_83 (by decide) ?_
  obtain ⟨hwt, hwf⟩ := hw
  refine ac_icmp_lt (tgt := 89) Z.1 dX4_numberOf_84 (by decide) (fun hc => ?_) (fun hc => ?_)
  · have hw := hwt hc
    refine ac_aload_n Z.1 0 dX4_numberOf_89 rfl ?_
    refine f_getr Z b_X4 2 (oR_2 hg) 0 (by decide) (by decide) (fR_30 hg) fX4_15 rfl (h2 := (b_o g 14)) rfl dX4_numberOf_90 ?_
    refine ac_aload_n Z.1 0 dX4_numberOf_93 rfl ?_
    refine f_geti Z b_X4 2 (oR_2 hg) 3 (by decide) (by decide) (fR_33 hg) fX4_58 rfl (v := (M.1 33)) rfl dX4_numberOf_94 ?_
    refine ac_lload_n Z.1 1 dX4_numberOf_97 rfl ?_
    obtain ⟨hb4, hw⟩ := hw
    refine f_last Z 4 (aR_14 hg) rfl hb4 dX4_numberOf_98 ?_
    refine ac_aload_n Z.1 0 dX4_numberOf_99 rfl ?_
    refine f_getr Z b_X4 2 (oR_2 hg) 1 (by decide) (by decide) (fR_31 hg) fX4_19 rfl (h2 := (b_o g 15)) rfl dX4_numberOf_100 ?_
    refine ac_aload_n Z.1 0 dX4_numberOf_103 rfl ?_
    refine f_geti Z b_X4 2 (oR_2 hg) 3 (by decide) (by decide) (fR_33 hg) fX4_58 rfl (v := (M.1 33)) rfl dX4_numberOf_104 ?_
    refine ac_aload_n Z.1 0 dX4_numberOf_107 rfl ?_
    refine f_getr Z b_X4 2 (oR_2 hg) 2 (by decide) (by decide) (fR_32 hg) fX4_11 rfl (h2 := (b_o g 16)) rfl dX4_numberOf_108 ?_
    refine ac_iload_n Z.1 2 dX4_numberOf_111 rfl ?_
    obtain ⟨hb5, hw⟩ := hw
    refine f_ald Z 6 (aR_16 hg) rfl hb5 (v := (M.2.1 16 a3.toNatClampNeg)) rfl dX4_numberOf_112 ?_
    obtain ⟨hb6, hw⟩ := hw
    refine f_ast Z 5 (aR_15 hg) rfl hb6 dX4_numberOf_113 ?_
    refine ac_aload_n Z.1 0 dX4_numberOf_114 rfl ?_
    refine f_getr Z b_X4 2 (oR_2 hg) 2 (by decide) (by decide) (fR_32 hg) fX4_11 rfl (h2 := (b_o g 16)) rfl dX4_numberOf_115 ?_
    refine ac_iload_n Z.1 2 dX4_numberOf_118 rfl ?_
    refine ac_aload_n Z.1 0 dX4_numberOf_119 rfl ?_
    refine f_geti Z b_X4 2 (oR_2 hg) 3 (by decide) (by decide) (fR_33 hg) fX4_58 rfl (v := (M.1 33)) rfl dX4_numberOf_120 ?_
    obtain ⟨hb7, hw⟩ := hw
    refine f_ast Z 6 (aR_16 hg) rfl hb7 dX4_numberOf_123 ?_
    refine ac_aload_n Z.1 0 dX4_numberOf_124 rfl ?_
    refine ac_dup Z.1 dX4_numberOf_125 rfl ?_
    refine f_geti Z b_X4 2 (oR_2 hg) 3 (by decide) (by decide) (fR_33 hg) fX4_58 rfl (v := (M.1 33)) rfl dX4_numberOf_126 ?_
    refine ac_iconst (v := 1) Z.1 dX4_numberOf_129 (by decide) ?_
    refine ac_iadd Z.1 dX4_numberOf_130 ?_
    refine f_put Z b_X4 2 (oR_2 hg) 3 (by decide) (by decide) (fR_33 hg) rfl rfl fX4_58 rfl (I := 33) rfl dX4_numberOf_131 ?_
    refine ac_aload_n Z.1 0 dX4_numberOf_134 rfl ?_
    refine f_geti Z b_X4 2 (oR_2 hg) 3 (by decide) (by decide) (fR_33 hg) fX4_58 rfl (v := ((M.1 33) + 1)) rfl dX4_numberOf_135 ?_
    refine ac_iconst (v := 1) Z.1 dX4_numberOf_138 (by decide) ?_
    refine ac_isub Z.1 dX4_numberOf_139 ?_
    exact hret _ _ _ _ _ dX4_numberOf_140 rfl hw
  · have hw := hwf hc
    refine ac_iconst (v := (-1)) Z.1 dX4_numberOf_87 (by decide) ?_
    exact hret _ _ _ _ _ dX4_numberOf_88 rfl hw
def wF_X4_numberOf_20 (N : Nat → Nat) (Q : Int32 → f_S3 → Nat × Nat → Prop) : Nat → Int64 → Int32 → Int32 → Int32 → f_S3 → Nat × Nat → Prop
  | 0 => fun _ _ _ _ _ _ => False
  | n + 1 => fun a1 a3 a4 a5 M O => (((nI (N 14)) ≤ a5 → (wF_X4_numberOf_75 N Q a1 a3 M O)) ∧ (¬ (nI (N 14)) ≤ a5 → ((a4 < 0 → (wF_X4_numberOf_75 N Q a1 a3 M O)) ∧ (¬ a4 < 0 → (((nI (N 14)) ≤ a4 → (wF_X4_numberOf_75 N Q a1 a3 M O)) ∧ (¬ (nI (N 14)) ≤ a4 → (vp_in a4 (N 14) ∧ ((¬ (lg_cmp (M.2.2 14 a4.toNatClampNeg) a1) = 0 → (vp_in a4 (N 15) ∧ (wF_X4_numberOf_20 N Q n a1 a3 (M.2.1 15 a4.toNatClampNeg) (a5 + 1) M O))) ∧ ((lg_cmp (M.2.2 14 a4.toNatClampNeg) a1) = 0 → (Q a4 M O))))))))))
set_option maxRecDepth 20000 in
theorem sF_X4_numberOf_20 {x : ac_X} {g : b_S} (hg : g.1 = tb_R) {l : Launch} {O0 : Nat × Nat} {Q : Int32 → f_S3 → Nat × Nat → Prop} (Z : b_Cx x g l RX4 cX4_numberOf 6 (8) O0) (hret : f_RI x g 6 cX4_numberOf .int O0 Q) : ∀ (n : Nat) (a1 : Int64) (a3 : Int32) (a4 : Int32) (a5 : Int32) (M : f_S3) (O : Nat × Nat), wF_X4_numberOf_20 (b_N g) Q n a1 a3 a4 a5 M O → f_G x g 6 O0 M O 20 [(0, .ref (b_o g 2)), (1, .long a1), (3, .int a3), (4, .int a4), (5, .int a5)] [] := by
  intro n
  induction n with
  | zero => intro _ _ _ _ _ _ hw; exact hw.elim
  | succ n ih =>
    intro a1 a3 a4 a5 M O hw
    dsimp only [wF_X4_numberOf_20] at hw
    refine ac_iload Z.1 4 dX4_numberOf_20 rfl ?_
    refine ac_aload_n Z.1 0 dX4_numberOf_22 rfl ?_
    refine f_getr Z b_X4 2 (oR_2 hg) 0 (by decide) (by decide) (fR_30 hg) fX4_15 rfl (h2 := (b_o g 14)) rfl dX4_numberOf_23 ?_
    refine f_alen Z 4 (aR_14 hg) rfl (v := (nI (b_N g 14))) rfl dX4_numberOf_26 (by decide) ?_
    obtain ⟨hwt, hwf⟩ := hw
    refine ac_icmp_ge (tgt := 75) Z.1 dX4_numberOf_27 (by decide) (fun hc => ?_) (fun hc => ?_)
    · have hw := hwt hc
      refine ac_lv [0, 1, 2] rfl ?_
      exact sF_X4_numberOf_75 hg Z hret _ _ _ _ hw
    · have hw := hwf hc
      refine ac_iload Z.1 3 dX4_numberOf_30 rfl ?_
      obtain ⟨hwt, hwf⟩ := hw
      refine ac_if_lt (tgt := 75) Z.1 dX4_numberOf_32 (by decide) (fun hc => ?_) (fun hc => ?_)
      · have hw := hwt hc
        refine ac_lv [0, 1, 2] rfl ?_
        exact sF_X4_numberOf_75 hg Z hret _ _ _ _ hw
      · have hw := hwf hc
        refine ac_iload Z.1 3 dX4_numberOf_35 rfl ?_
        refine ac_aload_n Z.1 0 dX4_numberOf_37 rfl ?_
        refine f_getr Z b_X4 2 (oR_2 hg) 0 (by decide) (by decide) (fR_30 hg) fX4_15 rfl (h2 := (b_o g 14)) rfl dX4_numberOf_38 ?_
        refine f_alen Z 4 (aR_14 hg) rfl (v := (nI (b_N g 14))) rfl dX4_numberOf_41 (by decide) ?_
        obtain ⟨hwt, hwf⟩ := hw
        refine ac_icmp_ge (tgt := 75) Z.1 dX4_numberOf_42 (by decide) (fun hc => ?_) (fun hc => ?_)
        · have hw := hwt hc
          refine ac_lv [0, 1, 2] rfl ?_
          exact sF_X4_numberOf_75 hg Z hret _ _ _ _ hw
        · have hw := hwf hc
          refine ac_aload_n Z.1 0 dX4_numberOf_45 rfl ?_
          refine f_getr Z b_X4 2 (oR_2 hg) 0 (by decide) (by decide) (fR_30 hg) fX4_15 rfl (h2 := (b_o g 14)) rfl dX4_numberOf_46 ?_
          refine ac_iload Z.1 3 dX4_numberOf_49 rfl ?_
          obtain ⟨hb8, hw⟩ := hw
          refine f_lald Z 4 (aR_14 hg) rfl hb8 (v := (M.2.2 14 a4.toNatClampNeg)) rfl dX4_numberOf_51 ?_
          refine ac_lload_n Z.1 1 dX4_numberOf_52 rfl ?_
          refine ac_lcmp Z.1 dX4_numberOf_53 ?_
          obtain ⟨hwt, hwf⟩ := hw
          refine ac_if_ne (tgt := 60) Z.1 dX4_numberOf_54 (by decide) (fun hc => ?_) (fun hc => ?_)
          · have hw := hwt hc
            refine ac_aload_n Z.1 0 dX4_numberOf_60 rfl ?_
            refine f_getr Z b_X4 2 (oR_2 hg) 1 (by decide) (by decide) (fR_31 hg) fX4_19 rfl (h2 := (b_o g 15)) rfl dX4_numberOf_61 ?_
            refine ac_iload Z.1 3 dX4_numberOf_64 rfl ?_
            obtain ⟨hb9, hw⟩ := hw
            refine f_ald Z 5 (aR_15 hg) rfl hb9 (v := (M.2.1 15 a4.toNatClampNeg)) rfl dX4_numberOf_66 ?_
            refine ac_istore (lv' := [(4, .int (M.2.1 15 a4.toNatClampNeg)), (0, .ref (b_o g 2)), (1, .long a1), (3, .int a3), (5, .int a5)]) Z.1 dX4_numberOf_67 (by decide) rfl ?_
            refine ac_iinc (w := (a5 + 1)) (lv' := [(5, .int (a5 + 1)), (4, .int (M.2.1 15 a4.toNatClampNeg)), (0, .ref (b_o g 2)), (1, .long a1), (3, .int a3)]) Z.1 4 dX4_numberOf_69 rfl rfl (by decide) rfl ?_
            refine ac_goto (tgt := 20) Z.1 dX4_numberOf_72 (by decide) ?_
            refine ac_lv [2, 3, 4, 1, 0] rfl ?_
            exact ih _ _ _ _ _ _ hw
          · have hw := hwf hc
            refine ac_iload Z.1 3 dX4_numberOf_57 rfl ?_
            exact hret _ _ _ _ _ dX4_numberOf_59 rfl hw
def wF_X4_numberOf (N : Nat → Nat) (p1 : Int64) (M : f_S3) (O : Nat × Nat) (Q : Int32 → f_S3 → Nat × Nat → Prop) : Prop := vp_in ((f_m127 p1).toInt32) (N 16) ∧ (∀ v3, v3 = (M.2.1 16 ((f_m127 p1).toInt32).toNatClampNeg) → (∃ e20, wF_X4_numberOf_20 N Q e20 p1 ((f_m127 p1).toInt32) v3 0 M O))
set_option maxRecDepth 20000 in
theorem soF_X4_numberOf {l : Launch} {g : b_S} (hg : g.1 = tb_R) (p1 : Int64) (M : f_S3) (O : Nat × Nat) (Q : Int32 → f_S3 → Nat × Nat → Prop) (hw : wF_X4_numberOf (b_N g) p1 M O Q) : f_MetI l g yX4_numberOf cX4_numberOf 6 .int (8) [.ref (b_o g 2), .long p1] M O Q := by
  refine f_MetI.of (C := RX4) (by decide) rfl (Nat.le_of_ble_eq_true rfl) (fun x Z hret => ?_)
  show f_G x g 6 O M O 0 [(0, .ref (b_o g 2)), (1, .long p1)] []
  refine ac_lload_n Z.1 1 dX4_numberOf_0 rfl ?_
  refine ac_ldc2 (v := 127) Z.1 cklX4_50 dX4_numberOf_1 ?_
  refine f_fmod (st := []) Z (by omega) dX4_numberOf_4 (Nat.le_of_ble_eq_true rfl) ?_
  refine ac_l2i Z.1 dX4_numberOf_7 rfl ?_
  refine ac_istore_n (lv' := [(3, .int ((f_m127 p1).toInt32)), (0, .ref (b_o g 2)), (1, .long p1)]) Z.1 dX4_numberOf_8 (by decide) rfl ?_
  refine ac_aload_n Z.1 1 dX4_numberOf_9 rfl ?_
  refine f_getr Z b_X4 2 (oR_2 hg) 2 (by decide) (by decide) (fR_32 hg) fX4_11 rfl (h2 := (b_o g 16)) rfl dX4_numberOf_10 ?_
  refine ac_iload_n Z.1 0 dX4_numberOf_13 rfl ?_
  obtain ⟨hb2, hw⟩ := hw
  refine f_ald Z 6 (aR_16 hg) rfl hb2 (v := (M.2.1 16 ((f_m127 p1).toInt32).toNatClampNeg)) rfl dX4_numberOf_14 ?_
  refine ac_topi (fun v3 hv3 => ?_)
  have hw := hw v3 hv3
  refine ac_istore (lv' := [(4, .int v3), (3, .int ((f_m127 p1).toInt32)), (0, .ref (b_o g 2)), (1, .long p1)]) Z.1 dX4_numberOf_15 (by decide) rfl ?_
  refine ac_iconst (v := 0) Z.1 dX4_numberOf_17 (by decide) ?_
  refine ac_istore (lv' := [(5, .int 0), (4, .int v3), (3, .int ((f_m127 p1).toInt32)), (0, .ref (b_o g 2)), (1, .long p1)]) Z.1 dX4_numberOf_18 (by decide) rfl ?_
  obtain ⟨n, hw⟩ := hw
  refine ac_lv [3, 4, 2, 1, 0] rfl ?_
  exact sF_X4_numberOf_20 hg Z hret n _ _ _ _ _ _ hw
def wF_X4_longer_38 (N : Nat → Nat) (Q : Int64 → f_S3 → Nat × Nat → Prop) (a0 : Int64) (t0 : Int32) (M : f_S3) (O : Nat × Nat) : Prop := Q ((f_lshl a0 6) ||| (t0.toInt64)) M O
set_option maxRecDepth 20000 in
theorem sF_X4_longer_38 {x : ac_X} {g : b_S} (hg : g.1 = tb_R) {l : Launch} {O0 : Nat × Nat} {Q : Int64 → f_S3 → Nat × Nat → Prop} (Z : b_Cx x g l RX4 cX4_longer 4 (0) O0) (hret : f_RL x g 4 cX4_longer O0 Q) (a0 : Int64) (t0 : Int32) (M : f_S3) (O : Nat × Nat) (hw : wF_X4_longer_38 (b_N g) Q a0 t0 M O) : f_G x g 4 O0 M O 38 [(0, .long a0)] [.int t0] := by
  refine ac_istore_n (lv' := [(3, .int t0), (0, .long a0)]) Z.1 dX4_longer_38 (by decide) rfl ?_
  refine ac_lload_n Z.1 1 dX4_longer_39 rfl ?_
  refine ac_bipush (v := 6) Z.1 dX4_longer_40 (by decide) ?_
  refine fv_lshl Z.1 dX4_longer_42 ?_
  refine ac_iload_n Z.1 0 dX4_longer_43 rfl ?_
  refine fv_i2l Z.1 dX4_longer_44 ?_
  refine fv_lor Z.1 dX4_longer_45 ?_
  exact hret _ _ _ _ _ dX4_longer_46 hw
def wF_X4_longer (N : Nat → Nat) (p0 : Int64) (p2 : Int32) (M : f_S3) (O : Nat × Nat) (Q : Int64 → f_S3 → Nat × Nat → Prop) : Prop := (p2 < 97 → ((p2 < 65 → (wF_X4_longer_38 N Q p0 ((p2 - 48) + 1) M O)) ∧ (¬ p2 < 65 → (wF_X4_longer_38 N Q p0 ((p2 - 65) + 11) M O)))) ∧ (¬ p2 < 97 → (wF_X4_longer_38 N Q p0 ((p2 - 97) + 37) M O))
set_option maxRecDepth 20000 in
theorem soF_X4_longer {l : Launch} {g : b_S} (hg : g.1 = tb_R) (p0 : Int64) (p2 : Int32) (M : f_S3) (O : Nat × Nat) (Q : Int64 → f_S3 → Nat × Nat → Prop) (hw : wF_X4_longer (b_N g) p0 p2 M O Q) : f_MetL l g yX4_longer cX4_longer 4 (0) [.long p0, .int p2] M O Q := by
  refine f_MetL.of (C := RX4) (by decide) rfl (Nat.le_of_ble_eq_true rfl) (fun x Z hret => ?_)
  show f_G x g 4 O M O 0 [(0, .long p0), (2, .int p2)] []
  refine ac_iload_n Z.1 1 dX4_longer_0 rfl ?_
  refine ac_bipush (v := 97) Z.1 dX4_longer_1 (by decide) ?_
  obtain ⟨hwt, hwf⟩ := hw
  refine ac_icmp_lt (tgt := 16) Z.1 dX4_longer_3 (by decide) (fun hc => ?_) (fun hc => ?_)
  · have hw := hwt hc
    refine ac_iload_n Z.1 1 dX4_longer_16 rfl ?_
    refine ac_bipush (v := 65) Z.1 dX4_longer_17 (by decide) ?_
    obtain ⟨hwt, hwf⟩ := hw
    refine ac_icmp_lt (tgt := 32) Z.1 dX4_longer_19 (by decide) (fun hc => ?_) (fun hc => ?_)
    · have hw := hwt hc
      refine ac_iload_n Z.1 1 dX4_longer_32 rfl ?_
      refine ac_bipush (v := 48) Z.1 dX4_longer_33 (by decide) ?_
      refine ac_isub Z.1 dX4_longer_35 ?_
      refine ac_iconst (v := 1) Z.1 dX4_longer_36 (by decide) ?_
      refine ac_iadd Z.1 dX4_longer_37 ?_
      refine ac_lv [0] rfl ?_
      exact sF_X4_longer_38 hg Z hret _ _ _ _ hw
    · have hw := hwf hc
      refine ac_iload_n Z.1 1 dX4_longer_22 rfl ?_
      refine ac_bipush (v := 65) Z.1 dX4_longer_23 (by decide) ?_
      refine ac_isub Z.1 dX4_longer_25 ?_
      refine ac_bipush (v := 11) Z.1 dX4_longer_26 (by decide) ?_
      refine ac_iadd Z.1 dX4_longer_28 ?_
      refine ac_goto (tgt := 38) Z.1 dX4_longer_29 (by decide) ?_
      refine ac_lv [0] rfl ?_
      exact sF_X4_longer_38 hg Z hret _ _ _ _ hw
  · have hw := hwf hc
    refine ac_iload_n Z.1 1 dX4_longer_6 rfl ?_
    refine ac_bipush (v := 97) Z.1 dX4_longer_7 (by decide) ?_
    refine ac_isub Z.1 dX4_longer_9 ?_
    refine ac_bipush (v := 37) Z.1 dX4_longer_10 (by decide) ?_
    refine ac_iadd Z.1 dX4_longer_12 ?_
    refine ac_goto (tgt := 38) Z.1 dX4_longer_13 (by decide) ?_
    refine ac_lv [0] rfl ?_
    exact sF_X4_longer_38 hg Z hret _ _ _ _ hw
def wF_X4_learnQuotedWords_46 (N : Nat → Nat) (K4 : (Int64 → Int32 → f_S3 → (Nat × Nat) → Prop)) (Q : f_S3 → Nat × Nat → Prop) (a1 : Int64) (a3 : Int32) (M : f_S3) (O : Nat × Nat) : Prop := K4 a1 (a3 + 1) M O
set_option maxRecDepth 20000 in
theorem sF_X4_learnQuotedWords_46 {x : ac_X} {g : b_S} (hg : g.1 = tb_R) {l : Launch} {O0 : Nat × Nat} {K4 : (Int64 → Int32 → f_S3 → (Nat × Nat) → Prop)} {Q : f_S3 → Nat × Nat → Prop} (Z : b_Cx x g l RX4 cX4_learnQuotedWords 5 (9) O0) (hret : f_RV x g 5 cX4_learnQuotedWords O0 Q) (hK4 : ∀ (a1 : Int64) (a3 : Int32) (M : f_S3) (O : Nat × Nat), K4 a1 a3 M O → f_G x g 5 O0 M O 4 [(0, .ref (b_o g 2)), (1, .long a1), (3, .int a3)] []) (a1 : Int64) (a3 : Int32) (M : f_S3) (O : Nat × Nat) (hw : wF_X4_learnQuotedWords_46 (b_N g) K4 Q a1 a3 M O) : f_G x g 5 O0 M O 46 [(0, .ref (b_o g 2)), (1, .long a1), (3, .int a3)] [] := by
  refine ac_iinc (w := (a3 + 1)) (lv' := [(3, .int (a3 + 1)), (0, .ref (b_o g 2)), (1, .long a1)]) Z.1 2 dX4_learnQuotedWords_46 rfl rfl (by decide) rfl ?_
  refine ac_goto (tgt := 4) Z.1 dX4_learnQuotedWords_49 (by decide) ?_
  refine ac_lv [1, 2, 0] rfl ?_
  exact hK4 _ _ _ _ hw
def wF_X4_learnQuotedWords_4 (N : Nat → Nat) (Q : f_S3 → Nat × Nat → Prop) : Nat → Int64 → Int32 → f_S3 → Nat × Nat → Prop
  | 0 => fun _ _ _ _ => False
  | n + 1 => fun a1 a3 M O => (((nI (s_len.getD 0 0)) ≤ a3 → (Q M O)) ∧ (¬ (nI (s_len.getD 0 0)) ≤ a3 → (vp_in a3 (s_len.getD 0 0) ∧ ((¬ (s_ch 0 a3) = 32 → (wF_X4_longer N a1 (s_ch 0 a3) M O (fun r2 M3 O3 => (wF_X4_learnQuotedWords_46 N (wF_X4_learnQuotedWords_4 N Q n) Q r2 a3 M3 O3)))) ∧ ((s_ch 0 a3) = 32 → (wF_X4_numberOf N a1 M O (fun r4 M5 O5 => (wF_X4_learnQuotedWords_46 N (wF_X4_learnQuotedWords_4 N Q n) Q 0 a3 M5 O5))))))))
set_option maxRecDepth 20000 in
theorem sF_X4_learnQuotedWords_4 {x : ac_X} {g : b_S} (hg : g.1 = tb_R) {l : Launch} {O0 : Nat × Nat} {Q : f_S3 → Nat × Nat → Prop} (Z : b_Cx x g l RX4 cX4_learnQuotedWords 5 (9) O0) (hret : f_RV x g 5 cX4_learnQuotedWords O0 Q) : ∀ (n : Nat) (a1 : Int64) (a3 : Int32) (M : f_S3) (O : Nat × Nat), wF_X4_learnQuotedWords_4 (b_N g) Q n a1 a3 M O → f_G x g 5 O0 M O 4 [(0, .ref (b_o g 2)), (1, .long a1), (3, .int a3)] [] := by
  intro n
  induction n with
  | zero => intro _ _ _ _ hw; exact hw.elim
  | succ n ih =>
    intro a1 a3 M O hw
    dsimp only [wF_X4_learnQuotedWords_4] at hw
    refine ac_iload_n Z.1 2 dX4_learnQuotedWords_4 rfl ?_
    refine f_ldcS Z 0 (by decide) (by decide +kernel) (by decide +kernel) dX4_learnQuotedWords_5 ?_
    refine f_slen (st := [.int a3]) Z (si := 0) (by decide) (by omega) lkS4_32 dX4_learnQuotedWords_7 (Nat.le_of_ble_eq_true rfl) ?_
    obtain ⟨hwt, hwf⟩ := hw
    refine ac_icmp_ge (tgt := 52) Z.1 dX4_learnQuotedWords_10 (by decide) (fun hc => ?_) (fun hc => ?_)
    · have hw := hwt hc
      exact hret _ _ _ _ dX4_learnQuotedWords_52 hw
    · have hw := hwf hc
      refine f_ldcS Z 0 (by decide) (by decide +kernel) (by decide +kernel) dX4_learnQuotedWords_13 ?_
      refine ac_iload_n Z.1 2 dX4_learnQuotedWords_15 rfl ?_
      obtain ⟨hb1, hw⟩ := hw
      refine f_schar (st := []) Z (si := 0) (by decide) (by omega) lkS4_38 hb1 dX4_learnQuotedWords_16 (Nat.le_of_ble_eq_true rfl) ?_
      refine ac_istore (lv' := [(4, .int (s_ch 0 a3)), (0, .ref (b_o g 2)), (1, .long a1), (3, .int a3)]) Z.1 dX4_learnQuotedWords_19 (by decide) rfl ?_
      refine ac_iload Z.1 0 dX4_learnQuotedWords_21 rfl ?_
      refine ac_bipush (v := 32) Z.1 dX4_learnQuotedWords_23 (by decide) ?_
      obtain ⟨hwt, hwf⟩ := hw
      refine ac_icmp_ne (tgt := 39) Z.1 dX4_learnQuotedWords_25 (by decide) (fun hc => ?_) (fun hc => ?_)
      · have hw := hwt hc
        refine ac_lload_n Z.1 2 dX4_learnQuotedWords_39 rfl ?_
        refine ac_iload Z.1 0 dX4_learnQuotedWords_40 rfl ?_
        refine f_calllS (As := [.long a1, .int (s_ch 0 a3)]) (st := []) Z kX4_longer lkX4_46 (by omega) (soF_X4_longer hg  _ _ _ _ _ hw) rfl rfl (Nat.le_of_ble_eq_true rfl) dX4_learnQuotedWords_42 (fun r2 M3 O3 hw => ?_)
        refine ac_lstore_n (lv' := [(1, .long r2), (4, .int (s_ch 0 a3)), (0, .ref (b_o g 2)), (3, .int a3)]) Z.1 dX4_learnQuotedWords_45 (by decide) rfl ?_
        refine ac_lv [2, 0, 3] rfl ?_
        exact sF_X4_learnQuotedWords_46 hg Z hret ih _ _ _ _ hw
      · have hw := hwf hc
        refine ac_aload_n Z.1 1 dX4_learnQuotedWords_28 rfl ?_
        refine ac_lload_n Z.1 2 dX4_learnQuotedWords_29 rfl ?_
        refine f_calli (As := [.long a1]) (st := []) Z b_X4.1 2 (oR_2 hg) rfl kX4_numberOf lkX4_42 (by omega) (soF_X4_numberOf hg  _ _ _ _ hw) rfl rfl (Nat.le_of_ble_eq_true rfl) dX4_learnQuotedWords_30 (fun r4 M5 O5 hw => ?_)
        refine ac_pop Z.1 dX4_learnQuotedWords_33 rfl ?_
        refine ac_lconst (v := 0) Z.1 dX4_learnQuotedWords_34 (by decide) ?_
        refine ac_lstore_n (lv' := [(1, .long 0), (4, .int (s_ch 0 a3)), (0, .ref (b_o g 2)), (3, .int a3)]) Z.1 dX4_learnQuotedWords_35 (by decide) rfl ?_
        refine ac_goto (tgt := 46) Z.1 dX4_learnQuotedWords_36 (by decide) ?_
        refine ac_lv [2, 0, 3] rfl ?_
        exact sF_X4_learnQuotedWords_46 hg Z hret ih _ _ _ _ hw
def wF_X4_learnQuotedWords (N : Nat → Nat) (M : f_S3) (O : Nat × Nat) (Q : f_S3 → Nat × Nat → Prop) : Prop := ∃ e4, wF_X4_learnQuotedWords_4 N Q e4 0 0 M O
set_option maxRecDepth 20000 in
theorem soF_X4_learnQuotedWords {l : Launch} {g : b_S} (hg : g.1 = tb_R) (M : f_S3) (O : Nat × Nat) (Q : f_S3 → Nat × Nat → Prop) (hw : wF_X4_learnQuotedWords (b_N g)  M O Q) : f_MetV l g yX4_learnQuotedWords cX4_learnQuotedWords 5 (9) [.ref (b_o g 2)] M O Q := by
  refine f_MetV.of (C := RX4) (by decide) rfl (Nat.le_of_ble_eq_true rfl) (fun x Z hret => ?_)
  show f_G x g 5 O M O 0 [(0, .ref (b_o g 2))] []
  refine ac_lconst (v := 0) Z.1 dX4_learnQuotedWords_0 (by decide) ?_
  refine ac_lstore_n (lv' := [(1, .long 0), (0, .ref (b_o g 2))]) Z.1 dX4_learnQuotedWords_1 (by decide) rfl ?_
  refine ac_iconst (v := 0) Z.1 dX4_learnQuotedWords_2 (by decide) ?_
  refine ac_istore_n (lv' := [(3, .int 0), (1, .long 0), (0, .ref (b_o g 2))]) Z.1 dX4_learnQuotedWords_3 (by decide) rfl ?_
  obtain ⟨n, hw⟩ := hw
  refine ac_lv [2, 1, 0] rfl ?_
  exact sF_X4_learnQuotedWords_4 hg Z hret n _ _ _ _ hw
def wF_X6_put_32 (N : Nat → Nat) (Q : Int32 → f_S3 → Nat × Nat → Prop) (M : f_S3) (O : Nat × Nat) : Prop := Q ((M.1 63) - 1) M O
set_option maxRecDepth 20000 in
theorem sF_X6_put_32 {x : ac_X} {g : b_S} (hg : g.1 = tb_R) {l : Launch} {O0 : Nat × Nat} {Q : Int32 → f_S3 → Nat × Nat → Prop} (Z : b_Cx x g l RX6 cX6_put 2 (0) O0) (hret : f_RI x g 2 cX6_put .int O0 Q) (M : f_S3) (O : Nat × Nat) (hw : wF_X6_put_32 (b_N g) Q M O) : f_G x g 2 O0 M O 32 [(0, .ref (b_o g 3))] [] := by
  refine ac_aload_n Z.1 0 dX6_put_32 rfl ?_
  refine f_geti Z b_X6 3 (oR_3 hg) 3 (by decide) (by decide) (fR_63 hg) fX6_21 rfl (v := (M.1 63)) rfl dX6_put_33 ?_
  refine ac_iconst (v := 1) Z.1 dX6_put_36 (by decide) ?_
  refine ac_isub Z.1 dX6_put_37 ?_
  exact hret _ _ _ _ _ dX6_put_38 rfl hw
def wF_X6_put (N : Nat → Nat) (p1 : Int32) (M : f_S3) (O : Nat × Nat) (Q : Int32 → f_S3 → Nat × Nat → Prop) : Prop := ((nI (N 20)) ≤ (M.1 63) → (wF_X6_put_32 N Q M O)) ∧ (¬ (nI (N 20)) ≤ (M.1 63) → (vp_in (M.1 63) (N 20) ∧ (wF_X6_put_32 N Q (fm (ff M 20 (M.1 63) p1) 63 ((M.1 63) + 1)) O)))
set_option maxRecDepth 20000 in
theorem soF_X6_put {l : Launch} {g : b_S} (hg : g.1 = tb_R) (p1 : Int32) (M : f_S3) (O : Nat × Nat) (Q : Int32 → f_S3 → Nat × Nat → Prop) (hw : wF_X6_put (b_N g) p1 M O Q) : f_MetI l g yX6_put cX6_put 2 .int (0) [.ref (b_o g 3), .int p1] M O Q := by
  refine f_MetI.of (C := RX6) (by decide) rfl (Nat.le_of_ble_eq_true rfl) (fun x Z hret => ?_)
  show f_G x g 2 O M O 0 [(0, .ref (b_o g 3)), (1, .int p1)] []
  refine ac_aload_n Z.1 0 dX6_put_0 rfl ?_
  refine f_geti Z b_X6 3 (oR_3 hg) 3 (by decide) (by decide) (fR_63 hg) fX6_21 rfl (v := (M.1 63)) rfl dX6_put_1 ?_
  refine ac_aload_n Z.1 0 dX6_put_4 rfl ?_
  refine f_getr Z b_X6 3 (oR_3 hg) 0 (by decide) (by decide) (fR_60 hg) fX6_18 rfl (h2 := (b_o g 20)) rfl dX6_put_5 ?_
  refine f_alen Z 7 (aR_20 hg) rfl (v := (nI (b_N g 20))) rfl dX6_put_8 (by decide) ?_
  obtain ⟨hwt, hwf⟩ := hw
  refine ac_icmp_ge (tgt := 32) Z.1 dX6_put_9 (by decide) (fun hc => ?_) (fun hc => ?_)
  · have hw := hwt hc
    refine ac_lv [0] rfl ?_
    exact sF_X6_put_32 hg Z hret _ _ hw
  · have hw := hwf hc
    refine ac_aload_n Z.1 0 dX6_put_12 rfl ?_
    refine f_getr Z b_X6 3 (oR_3 hg) 0 (by decide) (by decide) (fR_60 hg) fX6_18 rfl (h2 := (b_o g 20)) rfl dX6_put_13 ?_
    refine ac_aload_n Z.1 0 dX6_put_16 rfl ?_
    refine f_geti Z b_X6 3 (oR_3 hg) 3 (by decide) (by decide) (fR_63 hg) fX6_21 rfl (v := (M.1 63)) rfl dX6_put_17 ?_
    refine ac_iload_n Z.1 1 dX6_put_20 rfl ?_
    obtain ⟨hb1, hw⟩ := hw
    refine f_ast Z 7 (aR_20 hg) rfl hb1 dX6_put_21 ?_
    refine ac_aload_n Z.1 0 dX6_put_22 rfl ?_
    refine ac_dup Z.1 dX6_put_23 rfl ?_
    refine f_geti Z b_X6 3 (oR_3 hg) 3 (by decide) (by decide) (fR_63 hg) fX6_21 rfl (v := (M.1 63)) rfl dX6_put_24 ?_
    refine ac_iconst (v := 1) Z.1 dX6_put_27 (by decide) ?_
    refine ac_iadd Z.1 dX6_put_28 ?_
    refine f_put Z b_X6 3 (oR_3 hg) 3 (by decide) (by decide) (fR_63 hg) rfl rfl fX6_21 rfl (I := 63) rfl dX6_put_29 ?_
    refine ac_lv [0] rfl ?_
    exact sF_X6_put_32 hg Z hret _ _ hw
def wF_X6_change (N : Nat → Nat) (p1 : Int32) (p2 : Int32) (M : f_S3) (O : Nat × Nat) (Q : f_S3 → Nat × Nat → Prop) : Prop := (p1 < 0 → (Q M O)) ∧ (¬ p1 < 0 → (((M.1 63) ≤ p1 → (Q M O)) ∧ (¬ (M.1 63) ≤ p1 → (vp_in p1 (N 20) ∧ (Q (ff M 20 p1 p2) O)))))
set_option maxRecDepth 20000 in
theorem soF_X6_change {l : Launch} {g : b_S} (hg : g.1 = tb_R) (p1 : Int32) (p2 : Int32) (M : f_S3) (O : Nat × Nat) (Q : f_S3 → Nat × Nat → Prop) (hw : wF_X6_change (b_N g) p1 p2 M O Q) : f_MetV l g yX6_change cX6_change 3 (0) [.ref (b_o g 3), .int p1, .int p2] M O Q := by
  refine f_MetV.of (C := RX6) (by decide) rfl (Nat.le_of_ble_eq_true rfl) (fun x Z hret => ?_)
  show f_G x g 3 O M O 0 [(0, .ref (b_o g 3)), (1, .int p1), (2, .int p2)] []
  refine ac_iload_n Z.1 1 dX6_change_0 rfl ?_
  obtain ⟨hwt, hwf⟩ := hw
  refine ac_if_lt (tgt := 19) Z.1 dX6_change_1 (by decide) (fun hc => ?_) (fun hc => ?_)
  · have hw := hwt hc
    exact hret _ _ _ _ dX6_change_19 hw
  · have hw := hwf hc
    refine ac_iload_n Z.1 1 dX6_change_4 rfl ?_
    refine ac_aload_n Z.1 0 dX6_change_5 rfl ?_
    refine f_geti Z b_X6 3 (oR_3 hg) 3 (by decide) (by decide) (fR_63 hg) fX6_21 rfl (v := (M.1 63)) rfl dX6_change_6 ?_
    obtain ⟨hwt, hwf⟩ := hw
    refine ac_icmp_ge (tgt := 19) Z.1 dX6_change_9 (by decide) (fun hc => ?_) (fun hc => ?_)
    · have hw := hwt hc
      exact hret _ _ _ _ dX6_change_19 hw
    · have hw := hwf hc
      refine ac_aload_n Z.1 0 dX6_change_12 rfl ?_
      refine f_getr Z b_X6 3 (oR_3 hg) 0 (by decide) (by decide) (fR_60 hg) fX6_18 rfl (h2 := (b_o g 20)) rfl dX6_change_13 ?_
      refine ac_iload_n Z.1 1 dX6_change_16 rfl ?_
      refine ac_iload_n Z.1 2 dX6_change_17 rfl ?_
      obtain ⟨hb1, hw⟩ := hw
      refine f_ast Z 7 (aR_20 hg) rfl hb1 dX6_change_18 ?_
      exact hret _ _ _ _ dX6_change_19 hw
def wF_X6_get (N : Nat → Nat) (p1 : Int32) (M : f_S3) (O : Nat × Nat) (Q : Int32 → f_S3 → Nat × Nat → Prop) : Prop := (p1 < 0 → (Q (-1) M O)) ∧ (¬ p1 < 0 → (((M.1 63) ≤ p1 → (Q (-1) M O)) ∧ (¬ (M.1 63) ≤ p1 → (vp_in p1 (N 20) ∧ (Q (M.2.1 20 p1.toNatClampNeg) M O)))))
set_option maxRecDepth 20000 in
theorem soF_X6_get {l : Launch} {g : b_S} (hg : g.1 = tb_R) (p1 : Int32) (M : f_S3) (O : Nat × Nat) (Q : Int32 → f_S3 → Nat × Nat → Prop) (hw : wF_X6_get (b_N g) p1 M O Q) : f_MetI l g yX6_get cX6_get 2 .int (0) [.ref (b_o g 3), .int p1] M O Q := by
  refine f_MetI.of (C := RX6) (by decide) rfl (Nat.le_of_ble_eq_true rfl) (fun x Z hret => ?_)
  show f_G x g 2 O M O 0 [(0, .ref (b_o g 3)), (1, .int p1)] []
  refine ac_iload_n Z.1 1 dX6_get_0 rfl ?_
  obtain ⟨hwt, hwf⟩ := hw
  refine ac_if_lt (tgt := 21) Z.1 dX6_get_1 (by decide) (fun hc => ?_) (fun hc => ?_)
  · have hw := hwt hc
    refine ac_iconst (v := (-1)) Z.1 dX6_get_21 (by decide) ?_
    exact hret _ _ _ _ _ dX6_get_22 rfl hw
  · have hw := hwf hc
    refine ac_iload_n Z.1 1 dX6_get_4 rfl ?_
    refine ac_aload_n Z.1 0 dX6_get_5 rfl ?_
    refine f_geti Z b_X6 3 (oR_3 hg) 3 (by decide) (by decide) (fR_63 hg) fX6_21 rfl (v := (M.1 63)) rfl dX6_get_6 ?_
    obtain ⟨hwt, hwf⟩ := hw
    refine ac_icmp_ge (tgt := 21) Z.1 dX6_get_9 (by decide) (fun hc => ?_) (fun hc => ?_)
    · have hw := hwt hc
      refine ac_iconst (v := (-1)) Z.1 dX6_get_21 (by decide) ?_
      exact hret _ _ _ _ _ dX6_get_22 rfl hw
    · have hw := hwf hc
      refine ac_aload_n Z.1 0 dX6_get_12 rfl ?_
      refine f_getr Z b_X6 3 (oR_3 hg) 0 (by decide) (by decide) (fR_60 hg) fX6_18 rfl (h2 := (b_o g 20)) rfl dX6_get_13 ?_
      refine ac_iload_n Z.1 1 dX6_get_16 rfl ?_
      obtain ⟨hb1, hw⟩ := hw
      refine f_ald Z 7 (aR_20 hg) rfl hb1 (v := (M.2.1 20 p1.toNatClampNeg)) rfl dX6_get_17 ?_
      refine ac_goto (tgt := 22) Z.1 dX6_get_18 (by decide) ?_
      exact hret _ _ _ _ _ dX6_get_22 rfl hw
def wF_X6_addHearing_29 (N : Nat → Nat) (Q : f_S3 → Nat × Nat → Prop) (M : f_S3) (O : Nat × Nat) : Prop := Q (fm M 64 ((M.1 64) + 1)) O
set_option maxRecDepth 20000 in
theorem sF_X6_addHearing_29 {x : ac_X} {g : b_S} (hg : g.1 = tb_R) {l : Launch} {O0 : Nat × Nat} {Q : f_S3 → Nat × Nat → Prop} (Z : b_Cx x g l RX6 cX6_addHearing 3 (0) O0) (hret : f_RV x g 3 cX6_addHearing O0 Q) (M : f_S3) (O : Nat × Nat) (hw : wF_X6_addHearing_29 (b_N g) Q M O) : f_G x g 3 O0 M O 29 [(0, .ref (b_o g 3))] [] := by
  refine ac_aload_n Z.1 0 dX6_addHearing_29 rfl ?_
  refine ac_dup Z.1 dX6_addHearing_30 rfl ?_
  refine f_geti Z b_X6 3 (oR_3 hg) 4 (by decide) (by decide) (fR_64 hg) fX6_25 rfl (v := (M.1 64)) rfl dX6_addHearing_31 ?_
  refine ac_iconst (v := 1) Z.1 dX6_addHearing_34 (by decide) ?_
  refine ac_iadd Z.1 dX6_addHearing_35 ?_
  refine f_put Z b_X6 3 (oR_3 hg) 4 (by decide) (by decide) (fR_64 hg) rfl rfl fX6_25 rfl (I := 64) rfl dX6_addHearing_36 ?_
  exact hret _ _ _ _ dX6_addHearing_39 hw
def wF_X6_addHearing (N : Nat → Nat) (p1 : Int32) (p2 : Int32) (M : f_S3) (O : Nat × Nat) (Q : f_S3 → Nat × Nat → Prop) : Prop := (16 ≤ (M.1 64) → (wF_X6_addHearing_29 N Q M O)) ∧ (¬ 16 ≤ (M.1 64) → (vp_in (M.1 64) (N 21) ∧ (vp_in (M.1 64) (N 22) ∧ (wF_X6_addHearing_29 N Q (ff (ff M 21 (M.1 64) p1) 22 (M.1 64) p2) O))))
set_option maxRecDepth 20000 in
theorem soF_X6_addHearing {l : Launch} {g : b_S} (hg : g.1 = tb_R) (p1 : Int32) (p2 : Int32) (M : f_S3) (O : Nat × Nat) (Q : f_S3 → Nat × Nat → Prop) (hw : wF_X6_addHearing (b_N g) p1 p2 M O Q) : f_MetV l g yX6_addHearing cX6_addHearing 3 (0) [.ref (b_o g 3), .int p1, .int p2] M O Q := by
  refine f_MetV.of (C := RX6) (by decide) rfl (Nat.le_of_ble_eq_true rfl) (fun x Z hret => ?_)
  show f_G x g 3 O M O 0 [(0, .ref (b_o g 3)), (1, .int p1), (2, .int p2)] []
  refine ac_aload_n Z.1 0 dX6_addHearing_0 rfl ?_
  refine f_geti Z b_X6 3 (oR_3 hg) 4 (by decide) (by decide) (fR_64 hg) fX6_25 rfl (v := (M.1 64)) rfl dX6_addHearing_1 ?_
  refine ac_bipush (v := 16) Z.1 dX6_addHearing_4 (by decide) ?_
  obtain ⟨hwt, hwf⟩ := hw
  refine ac_icmp_ge (tgt := 29) Z.1 dX6_addHearing_6 (by decide) (fun hc => ?_) (fun hc => ?_)
  · have hw := hwt hc
    refine ac_lv [0] rfl ?_
    exact sF_X6_addHearing_29 hg Z hret _ _ hw
  · have hw := hwf hc
    refine ac_aload_n Z.1 0 dX6_addHearing_9 rfl ?_
    refine f_getr Z b_X6 3 (oR_3 hg) 1 (by decide) (by decide) (fR_61 hg) fX6_11 rfl (h2 := (b_o g 21)) rfl dX6_addHearing_10 ?_
    refine ac_aload_n Z.1 0 dX6_addHearing_13 rfl ?_
    refine f_geti Z b_X6 3 (oR_3 hg) 4 (by decide) (by decide) (fR_64 hg) fX6_25 rfl (v := (M.1 64)) rfl dX6_addHearing_14 ?_
    refine ac_iload_n Z.1 1 dX6_addHearing_17 rfl ?_
    obtain ⟨hb1, hw⟩ := hw
    refine f_ast Z 8 (aR_21 hg) rfl hb1 dX6_addHearing_18 ?_
    refine ac_aload_n Z.1 0 dX6_addHearing_19 rfl ?_
    refine f_getr Z b_X6 3 (oR_3 hg) 2 (by decide) (by decide) (fR_62 hg) fX6_15 rfl (h2 := (b_o g 22)) rfl dX6_addHearing_20 ?_
    refine ac_aload_n Z.1 0 dX6_addHearing_23 rfl ?_
    refine f_geti Z b_X6 3 (oR_3 hg) 4 (by decide) (by decide) (fR_64 hg) fX6_25 rfl (v := (M.1 64)) rfl dX6_addHearing_24 ?_
    refine ac_iload_n Z.1 2 dX6_addHearing_27 rfl ?_
    obtain ⟨hb2, hw⟩ := hw
    refine f_ast Z 9 (aR_22 hg) rfl hb2 dX6_addHearing_28 ?_
    refine ac_lv [0] rfl ?_
    exact sF_X6_addHearing_29 hg Z hret _ _ hw
def wF_X6_parametersOf (N : Nat → Nat) (p1 : Int32) (M : f_S3) (O : Nat × Nat) (Q : Int32 → f_S3 → Nat × Nat → Prop) : Prop := (p1 < 0 → (Q (-1) M O)) ∧ (¬ p1 < 0 → ((16 ≤ p1 → (Q (-1) M O)) ∧ (¬ 16 ≤ p1 → (vp_in p1 (N 22) ∧ (Q (M.2.1 22 p1.toNatClampNeg) M O)))))
set_option maxRecDepth 20000 in
theorem soF_X6_parametersOf {l : Launch} {g : b_S} (hg : g.1 = tb_R) (p1 : Int32) (M : f_S3) (O : Nat × Nat) (Q : Int32 → f_S3 → Nat × Nat → Prop) (hw : wF_X6_parametersOf (b_N g) p1 M O Q) : f_MetI l g yX6_parametersOf cX6_parametersOf 2 .int (0) [.ref (b_o g 3), .int p1] M O Q := by
  refine f_MetI.of (C := RX6) (by decide) rfl (Nat.le_of_ble_eq_true rfl) (fun x Z hret => ?_)
  show f_G x g 2 O M O 0 [(0, .ref (b_o g 3)), (1, .int p1)] []
  refine ac_iload_n Z.1 1 dX6_parametersOf_0 rfl ?_
  obtain ⟨hwt, hwf⟩ := hw
  refine ac_if_lt (tgt := 19) Z.1 dX6_parametersOf_1 (by decide) (fun hc => ?_) (fun hc => ?_)
  · have hw := hwt hc
    refine ac_iconst (v := (-1)) Z.1 dX6_parametersOf_19 (by decide) ?_
    exact hret _ _ _ _ _ dX6_parametersOf_20 rfl hw
  · have hw := hwf hc
    refine ac_iload_n Z.1 1 dX6_parametersOf_4 rfl ?_
    refine ac_bipush (v := 16) Z.1 dX6_parametersOf_5 (by decide) ?_
    obtain ⟨hwt, hwf⟩ := hw
    refine ac_icmp_ge (tgt := 19) Z.1 dX6_parametersOf_7 (by decide) (fun hc => ?_) (fun hc => ?_)
    · have hw := hwt hc
      refine ac_iconst (v := (-1)) Z.1 dX6_parametersOf_19 (by decide) ?_
      exact hret _ _ _ _ _ dX6_parametersOf_20 rfl hw
    · have hw := hwf hc
      refine ac_aload_n Z.1 0 dX6_parametersOf_10 rfl ?_
      refine f_getr Z b_X6 3 (oR_3 hg) 2 (by decide) (by decide) (fR_62 hg) fX6_15 rfl (h2 := (b_o g 22)) rfl dX6_parametersOf_11 ?_
      refine ac_iload_n Z.1 1 dX6_parametersOf_14 rfl ?_
      obtain ⟨hb1, hw⟩ := hw
      refine f_ald Z 9 (aR_22 hg) rfl hb1 (v := (M.2.1 22 p1.toNatClampNeg)) rfl dX6_parametersOf_15 ?_
      refine ac_goto (tgt := 20) Z.1 dX6_parametersOf_16 (by decide) ?_
      exact hret _ _ _ _ _ dX6_parametersOf_20 rfl hw
def wF_X10_byteAt (N : Nat → Nat) (p1 : Int32) (M : f_S3) (O : Nat × Nat) (Q : Int32 → f_S3 → Nat × Nat → Prop) : Prop := (p1 < 0 → (Q 0 M O)) ∧ (¬ p1 < 0 → (((M.1 21) ≤ p1 → (Q 0 M O)) ∧ (¬ (M.1 21) ≤ p1 → (((nI (N 10)) ≤ p1 → (Q 0 M O)) ∧ (¬ (nI (N 10)) ≤ p1 → (vp_in p1 (N 10) ∧ (Q ((M.2.1 10 p1.toNatClampNeg) &&& 255) M O)))))))
set_option maxRecDepth 20000 in
theorem soF_X10_byteAt {l : Launch} {g : b_S} (hg : g.1 = tb_R) (p1 : Int32) (M : f_S3) (O : Nat × Nat) (Q : Int32 → f_S3 → Nat × Nat → Prop) (hw : wF_X10_byteAt (b_N g) p1 M O Q) : f_MetI l g yX10_byteAt cX10_byteAt 2 .int (0) [.ref (b_o g 1), .int p1] M O Q := by
  refine f_MetI.of (C := RX10) (by decide) rfl (Nat.le_of_ble_eq_true rfl) (fun x Z hret => ?_)
  show f_G x g 2 O M O 0 [(0, .ref (b_o g 1)), (1, .int p1)] []
  refine ac_iload_n Z.1 1 dX10_byteAt_0 rfl ?_
  obtain ⟨hwt, hwf⟩ := hw
  refine ac_if_lt (tgt := 34) Z.1 dX10_byteAt_1 (by decide) (fun hc => ?_) (fun hc => ?_)
  · have hw := hwt hc
    refine ac_iconst (v := 0) Z.1 dX10_byteAt_34 (by decide) ?_
    exact hret _ _ _ _ _ dX10_byteAt_35 rfl hw
  · have hw := hwf hc
    refine ac_iload_n Z.1 1 dX10_byteAt_4 rfl ?_
    refine ac_aload_n Z.1 0 dX10_byteAt_5 rfl ?_
    refine f_geti Z b_X10 1 (oR_1 hg) 1 (by decide) (by decide) (fR_21 hg) fX10_13 rfl (v := (M.1 21)) rfl dX10_byteAt_6 ?_
    obtain ⟨hwt, hwf⟩ := hw
    refine ac_icmp_ge (tgt := 34) Z.1 dX10_byteAt_9 (by decide) (fun hc => ?_) (fun hc => ?_)
    · have hw := hwt hc
      refine ac_iconst (v := 0) Z.1 dX10_byteAt_34 (by decide) ?_
      exact hret _ _ _ _ _ dX10_byteAt_35 rfl hw
    · have hw := hwf hc
      refine ac_iload_n Z.1 1 dX10_byteAt_12 rfl ?_
      refine ac_aload_n Z.1 0 dX10_byteAt_13 rfl ?_
      refine f_getr Z b_X10 1 (oR_1 hg) 0 (by decide) (by decide) (fR_20 hg) fX10_7 rfl (h2 := (b_o g 10)) rfl dX10_byteAt_14 ?_
      refine f_alen Z 0 (aR_10 hg) rfl (v := (nI (b_N g 10))) rfl dX10_byteAt_17 (by decide) ?_
      obtain ⟨hwt, hwf⟩ := hw
      refine ac_icmp_ge (tgt := 34) Z.1 dX10_byteAt_18 (by decide) (fun hc => ?_) (fun hc => ?_)
      · have hw := hwt hc
        refine ac_iconst (v := 0) Z.1 dX10_byteAt_34 (by decide) ?_
        exact hret _ _ _ _ _ dX10_byteAt_35 rfl hw
      · have hw := hwf hc
        refine ac_aload_n Z.1 0 dX10_byteAt_21 rfl ?_
        refine f_getr Z b_X10 1 (oR_1 hg) 0 (by decide) (by decide) (fR_20 hg) fX10_7 rfl (h2 := (b_o g 10)) rfl dX10_byteAt_22 ?_
        refine ac_iload_n Z.1 1 dX10_byteAt_25 rfl ?_
        obtain ⟨hb1, hw⟩ := hw
        refine f_bald Z 0 (aR_10 hg) rfl hb1 (v := (M.2.1 10 p1.toNatClampNeg)) rfl dX10_byteAt_26 ?_
        refine ac_sipush (v := 255) Z.1 dX10_byteAt_27 (by decide) ?_
        refine ac_iand Z.1 dX10_byteAt_30 ?_
        refine ac_goto (tgt := 35) Z.1 dX10_byteAt_31 (by decide) ?_
        exact hret _ _ _ _ _ dX10_byteAt_35 rfl hw
def wF_X10_isBlank (N : Nat → Nat) (p0 : Int32) (M : f_S3) (O : Nat × Nat) (Q : Int32 → f_S3 → Nat × Nat → Prop) : Prop := (p0 = 9 → (Q 1 M O)) ∧ (¬ p0 = 9 → ((p0 = 10 → (Q 1 M O)) ∧ (¬ p0 = 10 → ((p0 = 13 → (Q 1 M O)) ∧ (¬ p0 = 13 → ((¬ p0 = 32 → (Q 0 M O)) ∧ (p0 = 32 → (Q 1 M O))))))))
set_option maxRecDepth 20000 in
theorem soF_X10_isBlank {l : Launch} {g : b_S} (hg : g.1 = tb_R) (p0 : Int32) (M : f_S3) (O : Nat × Nat) (Q : Int32 → f_S3 → Nat × Nat → Prop) (hw : wF_X10_isBlank (b_N g) p0 M O Q) : f_MetI l g yX10_isBlank cX10_isBlank 1 .boolean (0) [.int p0] M O Q := by
  refine f_MetI.of (C := RX10) (by decide) rfl (Nat.le_of_ble_eq_true rfl) (fun x Z hret => ?_)
  show f_G x g 1 O M O 0 [(0, .int p0)] []
  refine ac_iload_n Z.1 0 dX10_isBlank_0 rfl ?_
  refine ac_bipush (v := 9) Z.1 dX10_isBlank_1 (by decide) ?_
  obtain ⟨hwt, hwf⟩ := hw
  refine ac_icmp_eq (tgt := 24) Z.1 dX10_isBlank_3 (by decide) (fun hc => ?_) (fun hc => ?_)
  · have hw := hwt hc
    refine ac_iconst (v := 1) Z.1 dX10_isBlank_24 (by decide) ?_
    refine ac_goto (tgt := 29) Z.1 dX10_isBlank_25 (by decide) ?_
    exact hret _ _ _ _ _ dX10_isBlank_29 rfl hw
  · have hw := hwf hc
    refine ac_iload_n Z.1 0 dX10_isBlank_6 rfl ?_
    refine ac_bipush (v := 10) Z.1 dX10_isBlank_7 (by decide) ?_
    obtain ⟨hwt, hwf⟩ := hw
    refine ac_icmp_eq (tgt := 24) Z.1 dX10_isBlank_9 (by decide) (fun hc => ?_) (fun hc => ?_)
    · have hw := hwt hc
      refine ac_iconst (v := 1) Z.1 dX10_isBlank_24 (by decide) ?_
      refine ac_goto (tgt := 29) Z.1 dX10_isBlank_25 (by decide) ?_
      exact hret _ _ _ _ _ dX10_isBlank_29 rfl hw
    · have hw := hwf hc
      refine ac_iload_n Z.1 0 dX10_isBlank_12 rfl ?_
      refine ac_bipush (v := 13) Z.1 dX10_isBlank_13 (by decide) ?_
      obtain ⟨hwt, hwf⟩ := hw
      refine ac_icmp_eq (tgt := 24) Z.1 dX10_isBlank_15 (by decide) (fun hc => ?_) (fun hc => ?_)
      · have hw := hwt hc
        refine ac_iconst (v := 1) Z.1 dX10_isBlank_24 (by decide) ?_
        refine ac_goto (tgt := 29) Z.1 dX10_isBlank_25 (by decide) ?_
        exact hret _ _ _ _ _ dX10_isBlank_29 rfl hw
      · have hw := hwf hc
        refine ac_iload_n Z.1 0 dX10_isBlank_18 rfl ?_
        refine ac_bipush (v := 32) Z.1 dX10_isBlank_19 (by decide) ?_
        obtain ⟨hwt, hwf⟩ := hw
        refine ac_icmp_ne (tgt := 28) Z.1 dX10_isBlank_21 (by decide) (fun hc => ?_) (fun hc => ?_)
        · have hw := hwt hc
          refine ac_iconst (v := 0) Z.1 dX10_isBlank_28 (by decide) ?_
          exact hret _ _ _ _ _ dX10_isBlank_29 rfl hw
        · have hw := hwf hc
          refine ac_iconst (v := 1) Z.1 dX10_isBlank_24 (by decide) ?_
          refine ac_goto (tgt := 29) Z.1 dX10_isBlank_25 (by decide) ?_
          exact hret _ _ _ _ _ dX10_isBlank_29 rfl hw
def wF_X10_behindBlanks_27 (N : Nat → Nat) (Q : Int32 → f_S3 → Nat × Nat → Prop) (a2 : Int32) (M : f_S3) (O : Nat × Nat) : Prop := Q a2 M O
set_option maxRecDepth 20000 in
theorem sF_X10_behindBlanks_27 {x : ac_X} {g : b_S} (hg : g.1 = tb_R) {l : Launch} {O0 : Nat × Nat} {Q : Int32 → f_S3 → Nat × Nat → Prop} (Z : b_Cx x g l RX10 cX10_behindBlanks 3 (1) O0) (hret : f_RI x g 3 cX10_behindBlanks .int O0 Q) (a2 : Int32) (M : f_S3) (O : Nat × Nat) (hw : wF_X10_behindBlanks_27 (b_N g) Q a2 M O) : f_G x g 3 O0 M O 27 [(0, .ref (b_o g 1)), (2, .int a2)] [] := by
  refine ac_iload_n Z.1 1 dX10_behindBlanks_27 rfl ?_
  exact hret _ _ _ _ _ dX10_behindBlanks_28 rfl hw
def wF_X10_behindBlanks_2 (N : Nat → Nat) (Q : Int32 → f_S3 → Nat × Nat → Prop) : Nat → Int32 → f_S3 → Nat × Nat → Prop
  | 0 => fun _ _ _ => False
  | n + 1 => fun a2 M O => (((M.1 21) ≤ a2 → (wF_X10_behindBlanks_27 N Q a2 M O)) ∧ (¬ (M.1 21) ≤ a2 → (wF_X10_byteAt N a2 M O (fun r1 M2 O2 => (wF_X10_isBlank N r1 M2 O2 (fun r3 M4 O4 => ((r3 = 0 → (wF_X10_behindBlanks_27 N Q a2 M4 O4)) ∧ (¬ r3 = 0 → (wF_X10_behindBlanks_2 N Q n (a2 + 1) M4 O4)))))))))
set_option maxRecDepth 20000 in
theorem sF_X10_behindBlanks_2 {x : ac_X} {g : b_S} (hg : g.1 = tb_R) {l : Launch} {O0 : Nat × Nat} {Q : Int32 → f_S3 → Nat × Nat → Prop} (Z : b_Cx x g l RX10 cX10_behindBlanks 3 (1) O0) (hret : f_RI x g 3 cX10_behindBlanks .int O0 Q) : ∀ (n : Nat) (a2 : Int32) (M : f_S3) (O : Nat × Nat), wF_X10_behindBlanks_2 (b_N g) Q n a2 M O → f_G x g 3 O0 M O 2 [(0, .ref (b_o g 1)), (2, .int a2)] [] := by
  intro n
  induction n with
  | zero => intro _ _ _ hw; exact hw.elim
  | succ n ih =>
    intro a2 M O hw
    dsimp only [wF_X10_behindBlanks_2] at hw
    refine ac_iload_n Z.1 1 dX10_behindBlanks_2 rfl ?_
    refine ac_aload_n Z.1 0 dX10_behindBlanks_3 rfl ?_
    refine f_geti Z b_X10 1 (oR_1 hg) 1 (by decide) (by decide) (fR_21 hg) fX10_13 rfl (v := (M.1 21)) rfl dX10_behindBlanks_4 ?_
    obtain ⟨hwt, hwf⟩ := hw
    refine ac_icmp_ge (tgt := 27) Z.1 dX10_behindBlanks_7 (by decide) (fun hc => ?_) (fun hc => ?_)
    · have hw := hwt hc
      exact sF_X10_behindBlanks_27 hg Z hret _ _ _ hw
    · have hw := hwf hc
      refine ac_aload_n Z.1 0 dX10_behindBlanks_10 rfl ?_
      refine ac_iload_n Z.1 1 dX10_behindBlanks_11 rfl ?_
      refine f_calli (As := [.int a2]) (st := []) Z b_X10.1 1 (oR_1 hg) rfl kX10_byteAt lkX10_43 (by omega) (soF_X10_byteAt hg  _ _ _ _ hw) rfl rfl (Nat.le_of_ble_eq_true rfl) dX10_behindBlanks_12 (fun r1 M2 O2 hw => ?_)
      refine f_calliS (As := [.int r1]) (st := []) Z kX10_isBlank lkX10_72 (by omega) (soF_X10_isBlank hg  _ _ _ _ hw) rfl rfl (Nat.le_of_ble_eq_true rfl) dX10_behindBlanks_15 (fun r3 M4 O4 hw => ?_)
      obtain ⟨hwt, hwf⟩ := hw
      refine ac_if_eq (tgt := 27) Z.1 dX10_behindBlanks_18 (by decide) (fun hc => ?_) (fun hc => ?_)
      · have hw := hwt hc
        exact sF_X10_behindBlanks_27 hg Z hret _ _ _ hw
      · have hw := hwf hc
        refine ac_iinc (w := (a2 + 1)) (lv' := [(2, .int (a2 + 1)), (0, .ref (b_o g 1))]) Z.1 1 dX10_behindBlanks_21 rfl rfl (by decide) rfl ?_
        refine ac_goto (tgt := 2) Z.1 dX10_behindBlanks_24 (by decide) ?_
        refine ac_lv [1, 0] rfl ?_
        exact ih _ _ _ hw
def wF_X10_behindBlanks (N : Nat → Nat) (p1 : Int32) (M : f_S3) (O : Nat × Nat) (Q : Int32 → f_S3 → Nat × Nat → Prop) : Prop := ∃ e2, wF_X10_behindBlanks_2 N Q e2 p1 M O
set_option maxRecDepth 20000 in
theorem soF_X10_behindBlanks {l : Launch} {g : b_S} (hg : g.1 = tb_R) (p1 : Int32) (M : f_S3) (O : Nat × Nat) (Q : Int32 → f_S3 → Nat × Nat → Prop) (hw : wF_X10_behindBlanks (b_N g) p1 M O Q) : f_MetI l g yX10_behindBlanks cX10_behindBlanks 3 .int (1) [.ref (b_o g 1), .int p1] M O Q := by
  refine f_MetI.of (C := RX10) (by decide) rfl (Nat.le_of_ble_eq_true rfl) (fun x Z hret => ?_)
  show f_G x g 3 O M O 0 [(0, .ref (b_o g 1)), (1, .int p1)] []
  refine ac_iload_n Z.1 1 dX10_behindBlanks_0 rfl ?_
  refine ac_istore_n (lv' := [(2, .int p1), (0, .ref (b_o g 1)), (1, .int p1)]) Z.1 dX10_behindBlanks_1 (by decide) rfl ?_
  obtain ⟨n, hw⟩ := hw
  refine ac_lv [1, 0] rfl ?_
  exact sF_X10_behindBlanks_2 hg Z hret n _ _ _ hw
def wF_X10_isDigit (N : Nat → Nat) (p0 : Int32) (M : f_S3) (O : Nat × Nat) (Q : Int32 → f_S3 → Nat × Nat → Prop) : Prop := (p0 < 48 → (Q 0 M O)) ∧ (¬ p0 < 48 → ((57 < p0 → (Q 0 M O)) ∧ (¬ 57 < p0 → (Q 1 M O))))
set_option maxRecDepth 20000 in
theorem soF_X10_isDigit {l : Launch} {g : b_S} (hg : g.1 = tb_R) (p0 : Int32) (M : f_S3) (O : Nat × Nat) (Q : Int32 → f_S3 → Nat × Nat → Prop) (hw : wF_X10_isDigit (b_N g) p0 M O Q) : f_MetI l g yX10_isDigit cX10_isDigit 1 .boolean (0) [.int p0] M O Q := by
  refine f_MetI.of (C := RX10) (by decide) rfl (Nat.le_of_ble_eq_true rfl) (fun x Z hret => ?_)
  show f_G x g 1 O M O 0 [(0, .int p0)] []
  refine ac_iload_n Z.1 0 dX10_isDigit_0 rfl ?_
  refine ac_bipush (v := 48) Z.1 dX10_isDigit_1 (by decide) ?_
  obtain ⟨hwt, hwf⟩ := hw
  refine ac_icmp_lt (tgt := 16) Z.1 dX10_isDigit_3 (by decide) (fun hc => ?_) (fun hc => ?_)
  · have hw := hwt hc
    refine ac_iconst (v := 0) Z.1 dX10_isDigit_16 (by decide) ?_
    exact hret _ _ _ _ _ dX10_isDigit_17 rfl hw
  · have hw := hwf hc
    refine ac_iload_n Z.1 0 dX10_isDigit_6 rfl ?_
    refine ac_bipush (v := 57) Z.1 dX10_isDigit_7 (by decide) ?_
    obtain ⟨hwt, hwf⟩ := hw
    refine ac_icmp_gt (tgt := 16) Z.1 dX10_isDigit_9 (by decide) (fun hc => ?_) (fun hc => ?_)
    · have hw := hwt hc
      refine ac_iconst (v := 0) Z.1 dX10_isDigit_16 (by decide) ?_
      exact hret _ _ _ _ _ dX10_isDigit_17 rfl hw
    · have hw := hwf hc
      refine ac_iconst (v := 1) Z.1 dX10_isDigit_12 (by decide) ?_
      refine ac_goto (tgt := 17) Z.1 dX10_isDigit_13 (by decide) ?_
      exact hret _ _ _ _ _ dX10_isDigit_17 rfl hw
def wF_X10_isLetter_12 (N : Nat → Nat) (Q : Int32 → f_S3 → Nat × Nat → Prop) (a0 : Int32) (M : f_S3) (O : Nat × Nat) : Prop := (a0 < 65 → (Q 0 M O)) ∧ (¬ a0 < 65 → ((90 < a0 → (Q 0 M O)) ∧ (¬ 90 < a0 → (Q 1 M O))))
set_option maxRecDepth 20000 in
theorem sF_X10_isLetter_12 {x : ac_X} {g : b_S} (hg : g.1 = tb_R) {l : Launch} {O0 : Nat × Nat} {Q : Int32 → f_S3 → Nat × Nat → Prop} (Z : b_Cx x g l RX10 cX10_isLetter 1 (0) O0) (hret : f_RI x g 1 cX10_isLetter .boolean O0 Q) (a0 : Int32) (M : f_S3) (O : Nat × Nat) (hw : wF_X10_isLetter_12 (b_N g) Q a0 M O) : f_G x g 1 O0 M O 12 [(0, .int a0)] [] := by
  refine ac_iload_n Z.1 0 dX10_isLetter_12 rfl ?_
  refine ac_bipush (v := 65) Z.1 dX10_isLetter_13 (by decide) ?_
  obtain ⟨hwt, hwf⟩ := hw
  refine ac_icmp_lt (tgt := 28) Z.1 dX10_isLetter_15 (by decide) (fun hc => ?_) (fun hc => ?_)
  · have hw := hwt hc
    refine ac_iconst (v := 0) Z.1 dX10_isLetter_28 (by decide) ?_
    exact hret _ _ _ _ _ dX10_isLetter_29 rfl hw
  · have hw := hwf hc
    refine ac_iload_n Z.1 0 dX10_isLetter_18 rfl ?_
    refine ac_bipush (v := 90) Z.1 dX10_isLetter_19 (by decide) ?_
    obtain ⟨hwt, hwf⟩ := hw
    refine ac_icmp_gt (tgt := 28) Z.1 dX10_isLetter_21 (by decide) (fun hc => ?_) (fun hc => ?_)
    · have hw := hwt hc
      refine ac_iconst (v := 0) Z.1 dX10_isLetter_28 (by decide) ?_
      exact hret _ _ _ _ _ dX10_isLetter_29 rfl hw
    · have hw := hwf hc
      refine ac_iconst (v := 1) Z.1 dX10_isLetter_24 (by decide) ?_
      refine ac_goto (tgt := 29) Z.1 dX10_isLetter_25 (by decide) ?_
      exact hret _ _ _ _ _ dX10_isLetter_29 rfl hw
def wF_X10_isLetter (N : Nat → Nat) (p0 : Int32) (M : f_S3) (O : Nat × Nat) (Q : Int32 → f_S3 → Nat × Nat → Prop) : Prop := (p0 < 97 → (wF_X10_isLetter_12 N Q p0 M O)) ∧ (¬ p0 < 97 → ((p0 ≤ 122 → (Q 1 M O)) ∧ (¬ p0 ≤ 122 → (wF_X10_isLetter_12 N Q p0 M O))))
set_option maxRecDepth 20000 in
theorem soF_X10_isLetter {l : Launch} {g : b_S} (hg : g.1 = tb_R) (p0 : Int32) (M : f_S3) (O : Nat × Nat) (Q : Int32 → f_S3 → Nat × Nat → Prop) (hw : wF_X10_isLetter (b_N g) p0 M O Q) : f_MetI l g yX10_isLetter cX10_isLetter 1 .boolean (0) [.int p0] M O Q := by
  refine f_MetI.of (C := RX10) (by decide) rfl (Nat.le_of_ble_eq_true rfl) (fun x Z hret => ?_)
  show f_G x g 1 O M O 0 [(0, .int p0)] []
  refine ac_iload_n Z.1 0 dX10_isLetter_0 rfl ?_
  refine ac_bipush (v := 97) Z.1 dX10_isLetter_1 (by decide) ?_
  obtain ⟨hwt, hwf⟩ := hw
  refine ac_icmp_lt (tgt := 12) Z.1 dX10_isLetter_3 (by decide) (fun hc => ?_) (fun hc => ?_)
  · have hw := hwt hc
    exact sF_X10_isLetter_12 hg Z hret _ _ _ hw
  · have hw := hwf hc
    refine ac_iload_n Z.1 0 dX10_isLetter_6 rfl ?_
    refine ac_bipush (v := 122) Z.1 dX10_isLetter_7 (by decide) ?_
    obtain ⟨hwt, hwf⟩ := hw
    refine ac_icmp_le (tgt := 24) Z.1 dX10_isLetter_9 (by decide) (fun hc => ?_) (fun hc => ?_)
    · have hw := hwt hc
      refine ac_iconst (v := 1) Z.1 dX10_isLetter_24 (by decide) ?_
      refine ac_goto (tgt := 29) Z.1 dX10_isLetter_25 (by decide) ?_
      exact hret _ _ _ _ _ dX10_isLetter_29 rfl hw
    · have hw := hwf hc
      exact sF_X10_isLetter_12 hg Z hret _ _ _ hw
def wF_X10_behindLettersAndDigits_38 (N : Nat → Nat) (Q : Int32 → f_S3 → Nat × Nat → Prop) (a2 : Int32) (M : f_S3) (O : Nat × Nat) : Prop := Q a2 M O
set_option maxRecDepth 20000 in
theorem sF_X10_behindLettersAndDigits_38 {x : ac_X} {g : b_S} (hg : g.1 = tb_R) {l : Launch} {O0 : Nat × Nat} {Q : Int32 → f_S3 → Nat × Nat → Prop} (Z : b_Cx x g l RX10 cX10_behindLettersAndDigits 3 (1) O0) (hret : f_RI x g 3 cX10_behindLettersAndDigits .int O0 Q) (a2 : Int32) (M : f_S3) (O : Nat × Nat) (hw : wF_X10_behindLettersAndDigits_38 (b_N g) Q a2 M O) : f_G x g 3 O0 M O 38 [(0, .ref (b_o g 1)), (2, .int a2)] [] := by
  refine ac_iload_n Z.1 1 dX10_behindLettersAndDigits_38 rfl ?_
  exact hret _ _ _ _ _ dX10_behindLettersAndDigits_39 rfl hw
def wF_X10_behindLettersAndDigits_32 (N : Nat → Nat) (K2 : (Int32 → f_S3 → (Nat × Nat) → Prop)) (Q : Int32 → f_S3 → Nat × Nat → Prop) (a2 : Int32) (M : f_S3) (O : Nat × Nat) : Prop := K2 (a2 + 1) M O
set_option maxRecDepth 20000 in
theorem sF_X10_behindLettersAndDigits_32 {x : ac_X} {g : b_S} (hg : g.1 = tb_R) {l : Launch} {O0 : Nat × Nat} {K2 : (Int32 → f_S3 → (Nat × Nat) → Prop)} {Q : Int32 → f_S3 → Nat × Nat → Prop} (Z : b_Cx x g l RX10 cX10_behindLettersAndDigits 3 (1) O0) (hret : f_RI x g 3 cX10_behindLettersAndDigits .int O0 Q) (hK2 : ∀ (a2 : Int32) (M : f_S3) (O : Nat × Nat), K2 a2 M O → f_G x g 3 O0 M O 2 [(0, .ref (b_o g 1)), (2, .int a2)] []) (a2 : Int32) (M : f_S3) (O : Nat × Nat) (hw : wF_X10_behindLettersAndDigits_32 (b_N g) K2 Q a2 M O) : f_G x g 3 O0 M O 32 [(0, .ref (b_o g 1)), (2, .int a2)] [] := by
  refine ac_iinc (w := (a2 + 1)) (lv' := [(2, .int (a2 + 1)), (0, .ref (b_o g 1))]) Z.1 1 dX10_behindLettersAndDigits_32 rfl rfl (by decide) rfl ?_
  refine ac_goto (tgt := 2) Z.1 dX10_behindLettersAndDigits_35 (by decide) ?_
  refine ac_lv [1, 0] rfl ?_
  exact hK2 _ _ _ hw
def wF_X10_behindLettersAndDigits_2 (N : Nat → Nat) (Q : Int32 → f_S3 → Nat × Nat → Prop) : Nat → Int32 → f_S3 → Nat × Nat → Prop
  | 0 => fun _ _ _ => False
  | n + 1 => fun a2 M O => (((M.1 21) ≤ a2 → (wF_X10_behindLettersAndDigits_38 N Q a2 M O)) ∧ (¬ (M.1 21) ≤ a2 → (wF_X10_byteAt N a2 M O (fun r1 M2 O2 => (wF_X10_isLetter N r1 M2 O2 (fun r3 M4 O4 => ((¬ r3 = 0 → (wF_X10_behindLettersAndDigits_32 N (wF_X10_behindLettersAndDigits_2 N Q n) Q a2 M4 O4)) ∧ (r3 = 0 → (wF_X10_byteAt N a2 M4 O4 (fun r5 M6 O6 => (wF_X10_isDigit N r5 M6 O6 (fun r7 M8 O8 => ((r7 = 0 → (wF_X10_behindLettersAndDigits_38 N Q a2 M8 O8)) ∧ (¬ r7 = 0 → (wF_X10_behindLettersAndDigits_32 N (wF_X10_behindLettersAndDigits_2 N Q n) Q a2 M8 O8)))))))))))))))
set_option maxRecDepth 20000 in
theorem sF_X10_behindLettersAndDigits_2 {x : ac_X} {g : b_S} (hg : g.1 = tb_R) {l : Launch} {O0 : Nat × Nat} {Q : Int32 → f_S3 → Nat × Nat → Prop} (Z : b_Cx x g l RX10 cX10_behindLettersAndDigits 3 (1) O0) (hret : f_RI x g 3 cX10_behindLettersAndDigits .int O0 Q) : ∀ (n : Nat) (a2 : Int32) (M : f_S3) (O : Nat × Nat), wF_X10_behindLettersAndDigits_2 (b_N g) Q n a2 M O → f_G x g 3 O0 M O 2 [(0, .ref (b_o g 1)), (2, .int a2)] [] := by
  intro n
  induction n with
  | zero => intro _ _ _ hw; exact hw.elim
  | succ n ih =>
    intro a2 M O hw
    dsimp only [wF_X10_behindLettersAndDigits_2] at hw
    refine ac_iload_n Z.1 1 dX10_behindLettersAndDigits_2 rfl ?_
    refine ac_aload_n Z.1 0 dX10_behindLettersAndDigits_3 rfl ?_
    refine f_geti Z b_X10 1 (oR_1 hg) 1 (by decide) (by decide) (fR_21 hg) fX10_13 rfl (v := (M.1 21)) rfl dX10_behindLettersAndDigits_4 ?_
    obtain ⟨hwt, hwf⟩ := hw
    refine ac_icmp_ge (tgt := 38) Z.1 dX10_behindLettersAndDigits_7 (by decide) (fun hc => ?_) (fun hc => ?_)
    · have hw := hwt hc
      exact sF_X10_behindLettersAndDigits_38 hg Z hret _ _ _ hw
    · have hw := hwf hc
      refine ac_aload_n Z.1 0 dX10_behindLettersAndDigits_10 rfl ?_
      refine ac_iload_n Z.1 1 dX10_behindLettersAndDigits_11 rfl ?_
      refine f_calli (As := [.int a2]) (st := []) Z b_X10.1 1 (oR_1 hg) rfl kX10_byteAt lkX10_43 (by omega) (soF_X10_byteAt hg  _ _ _ _ hw) rfl rfl (Nat.le_of_ble_eq_true rfl) dX10_behindLettersAndDigits_12 (fun r1 M2 O2 hw => ?_)
      refine f_calliS (As := [.int r1]) (st := []) Z kX10_isLetter lkX10_53 (by omega) (soF_X10_isLetter hg  _ _ _ _ hw) rfl rfl (Nat.le_of_ble_eq_true rfl) dX10_behindLettersAndDigits_15 (fun r3 M4 O4 hw => ?_)
      obtain ⟨hwt, hwf⟩ := hw
      refine ac_if_ne (tgt := 32) Z.1 dX10_behindLettersAndDigits_18 (by decide) (fun hc => ?_) (fun hc => ?_)
      · have hw := hwt hc
        exact sF_X10_behindLettersAndDigits_32 hg Z hret ih _ _ _ hw
      · have hw := hwf hc
        refine ac_aload_n Z.1 0 dX10_behindLettersAndDigits_21 rfl ?_
        refine ac_iload_n Z.1 1 dX10_behindLettersAndDigits_22 rfl ?_
        refine f_calli (As := [.int a2]) (st := []) Z b_X10.1 1 (oR_1 hg) rfl kX10_byteAt lkX10_43 (by omega) (soF_X10_byteAt hg  _ _ _ _ hw) rfl rfl (Nat.le_of_ble_eq_true rfl) dX10_behindLettersAndDigits_23 (fun r5 M6 O6 hw => ?_)
        refine f_calliS (As := [.int r5]) (st := []) Z kX10_isDigit lkX10_46 (by omega) (soF_X10_isDigit hg  _ _ _ _ hw) rfl rfl (Nat.le_of_ble_eq_true rfl) dX10_behindLettersAndDigits_26 (fun r7 M8 O8 hw => ?_)
        obtain ⟨hwt, hwf⟩ := hw
        refine ac_if_eq (tgt := 38) Z.1 dX10_behindLettersAndDigits_29 (by decide) (fun hc => ?_) (fun hc => ?_)
        · have hw := hwt hc
          exact sF_X10_behindLettersAndDigits_38 hg Z hret _ _ _ hw
        · have hw := hwf hc
          exact sF_X10_behindLettersAndDigits_32 hg Z hret ih _ _ _ hw
def wF_X10_behindLettersAndDigits (N : Nat → Nat) (p1 : Int32) (M : f_S3) (O : Nat × Nat) (Q : Int32 → f_S3 → Nat × Nat → Prop) : Prop := ∃ e2, wF_X10_behindLettersAndDigits_2 N Q e2 p1 M O
set_option maxRecDepth 20000 in
theorem soF_X10_behindLettersAndDigits {l : Launch} {g : b_S} (hg : g.1 = tb_R) (p1 : Int32) (M : f_S3) (O : Nat × Nat) (Q : Int32 → f_S3 → Nat × Nat → Prop) (hw : wF_X10_behindLettersAndDigits (b_N g) p1 M O Q) : f_MetI l g yX10_behindLettersAndDigits cX10_behindLettersAndDigits 3 .int (1) [.ref (b_o g 1), .int p1] M O Q := by
  refine f_MetI.of (C := RX10) (by decide) rfl (Nat.le_of_ble_eq_true rfl) (fun x Z hret => ?_)
  show f_G x g 3 O M O 0 [(0, .ref (b_o g 1)), (1, .int p1)] []
  refine ac_iload_n Z.1 1 dX10_behindLettersAndDigits_0 rfl ?_
  refine ac_istore_n (lv' := [(2, .int p1), (0, .ref (b_o g 1)), (1, .int p1)]) Z.1 dX10_behindLettersAndDigits_1 (by decide) rfl ?_
  obtain ⟨n, hw⟩ := hw
  refine ac_lv [1, 0] rfl ?_
  exact sF_X10_behindLettersAndDigits_2 hg Z hret n _ _ _ hw
def wF_X10_put (N : Nat → Nat) (p1 : Int32) (p2 : Int32) (p3 : Int32) (M : f_S3) (O : Nat × Nat) (Q : f_S3 → Nat × Nat → Prop) : Prop := ((nI (N 11)) ≤ (M.1 26) → (Q M O)) ∧ (¬ (nI (N 11)) ≤ (M.1 26) → (vp_in (M.1 26) (N 11) ∧ (vp_in (M.1 26) (N 12) ∧ (vp_in (M.1 26) (N 13) ∧ (Q (fm (ff (ff (ff M 11 (M.1 26) p1) 12 (M.1 26) p2) 13 (M.1 26) p3) 26 ((M.1 26) + 1)) O)))))
set_option maxRecDepth 20000 in
theorem soF_X10_put {l : Launch} {g : b_S} (hg : g.1 = tb_R) (p1 : Int32) (p2 : Int32) (p3 : Int32) (M : f_S3) (O : Nat × Nat) (Q : f_S3 → Nat × Nat → Prop) (hw : wF_X10_put (b_N g) p1 p2 p3 M O Q) : f_MetV l g yX10_put cX10_put 4 (0) [.ref (b_o g 1), .int p1, .int p2, .int p3] M O Q := by
  refine f_MetV.of (C := RX10) (by decide) rfl (Nat.le_of_ble_eq_true rfl) (fun x Z hret => ?_)
  show f_G x g 4 O M O 0 [(0, .ref (b_o g 1)), (1, .int p1), (2, .int p2), (3, .int p3)] []
  refine ac_aload_n Z.1 0 dX10_put_0 rfl ?_
  refine f_geti Z b_X10 1 (oR_1 hg) 6 (by decide) (by decide) (fR_26 hg) fX10_69 rfl (v := (M.1 26)) rfl dX10_put_1 ?_
  refine ac_aload_n Z.1 0 dX10_put_4 rfl ?_
  refine f_getr Z b_X10 1 (oR_1 hg) 3 (by decide) (by decide) (fR_23 hg) fX10_17 rfl (h2 := (b_o g 11)) rfl dX10_put_5 ?_
  refine f_alen Z 1 (aR_11 hg) rfl (v := (nI (b_N g 11))) rfl dX10_put_8 (by decide) ?_
  obtain ⟨hwt, hwf⟩ := hw
  refine ac_icmp_ge (tgt := 52) Z.1 dX10_put_9 (by decide) (fun hc => ?_) (fun hc => ?_)
  · have hw := hwt hc
    exact hret _ _ _ _ dX10_put_52 hw
  · have hw := hwf hc
    refine ac_aload_n Z.1 0 dX10_put_12 rfl ?_
    refine f_getr Z b_X10 1 (oR_1 hg) 3 (by decide) (by decide) (fR_23 hg) fX10_17 rfl (h2 := (b_o g 11)) rfl dX10_put_13 ?_
    refine ac_aload_n Z.1 0 dX10_put_16 rfl ?_
    refine f_geti Z b_X10 1 (oR_1 hg) 6 (by decide) (by decide) (fR_26 hg) fX10_69 rfl (v := (M.1 26)) rfl dX10_put_17 ?_
    refine ac_iload_n Z.1 1 dX10_put_20 rfl ?_
    obtain ⟨hb1, hw⟩ := hw
    refine f_ast Z 1 (aR_11 hg) rfl hb1 dX10_put_21 ?_
    refine ac_aload_n Z.1 0 dX10_put_22 rfl ?_
    refine f_getr Z b_X10 1 (oR_1 hg) 4 (by decide) (by decide) (fR_24 hg) fX10_21 rfl (h2 := (b_o g 12)) rfl dX10_put_23 ?_
    refine ac_aload_n Z.1 0 dX10_put_26 rfl ?_
    refine f_geti Z b_X10 1 (oR_1 hg) 6 (by decide) (by decide) (fR_26 hg) fX10_69 rfl (v := (M.1 26)) rfl dX10_put_27 ?_
    refine ac_iload_n Z.1 2 dX10_put_30 rfl ?_
    obtain ⟨hb2, hw⟩ := hw
    refine f_ast Z 2 (aR_12 hg) rfl hb2 dX10_put_31 ?_
    refine ac_aload_n Z.1 0 dX10_put_32 rfl ?_
    refine f_getr Z b_X10 1 (oR_1 hg) 5 (by decide) (by decide) (fR_25 hg) fX10_24 rfl (h2 := (b_o g 13)) rfl dX10_put_33 ?_
    refine ac_aload_n Z.1 0 dX10_put_36 rfl ?_
    refine f_geti Z b_X10 1 (oR_1 hg) 6 (by decide) (by decide) (fR_26 hg) fX10_69 rfl (v := (M.1 26)) rfl dX10_put_37 ?_
    refine ac_iload_n Z.1 3 dX10_put_40 rfl ?_
    obtain ⟨hb3, hw⟩ := hw
    refine f_ast Z 3 (aR_13 hg) rfl hb3 dX10_put_41 ?_
    refine ac_aload_n Z.1 0 dX10_put_42 rfl ?_
    refine ac_dup Z.1 dX10_put_43 rfl ?_
    refine f_geti Z b_X10 1 (oR_1 hg) 6 (by decide) (by decide) (fR_26 hg) fX10_69 rfl (v := (M.1 26)) rfl dX10_put_44 ?_
    refine ac_iconst (v := 1) Z.1 dX10_put_47 (by decide) ?_
    refine ac_iadd Z.1 dX10_put_48 ?_
    refine f_put Z b_X10 1 (oR_1 hg) 6 (by decide) (by decide) (fR_26 hg) rfl rfl fX10_69 rfl (I := 26) rfl dX10_put_49 ?_
    exact hret _ _ _ _ dX10_put_52 hw
def wF_X10_putNumber_92 (N : Nat → Nat) (Q : Int32 → f_S3 → Nat × Nat → Prop) (a1 : Int32) (a2 : Int32) (a3 : Int32) (t1 : Int32) (M : f_S3) (O : Nat × Nat) : Prop := wF_X10_put N t1 a3 a1 M O (fun M3 O3 => (Q a2 M3 O3))
set_option maxRecDepth 20000 in
theorem sF_X10_putNumber_92 {x : ac_X} {g : b_S} (hg : g.1 = tb_R) {l : Launch} {O0 : Nat × Nat} {Q : Int32 → f_S3 → Nat × Nat → Prop} (Z : b_Cx x g l RX10 cX10_putNumber 6 (2) O0) (hret : f_RI x g 6 cX10_putNumber .int O0 Q) (a1 : Int32) (a2 : Int32) (a3 : Int32) (t1 : Int32) (M : f_S3) (O : Nat × Nat) (hw : wF_X10_putNumber_92 (b_N g) Q a1 a2 a3 t1 M O) : f_G x g 6 O0 M O 92 [(0, .ref (b_o g 1)), (1, .int a1), (2, .int a2), (3, .int a3)] [.int t1, .ref (b_o g 1)] := by
  refine ac_iload_n Z.1 3 dX10_putNumber_92 rfl ?_
  refine ac_iload_n Z.1 1 dX10_putNumber_93 rfl ?_
  refine f_callv (As := [.int t1, .int a3, .int a1]) (st := []) Z b_X10.1 1 (oR_1 hg) rfl kX10_put lkX10_65 (by omega) (soF_X10_put hg  _ _ _ _ _ _ hw) rfl rfl (Nat.le_of_ble_eq_true rfl) dX10_putNumber_94 (fun M3 O3 hw => ?_)
  refine ac_iload_n Z.1 2 dX10_putNumber_97 rfl ?_
  exact hret _ _ _ _ _ dX10_putNumber_98 rfl hw
def wF_X10_putNumber_54 (N : Nat → Nat) (K26 : (Int32 → Int32 → Int32 → Int32 → Int32 → f_S3 → (Nat × Nat) → Prop)) (Q : Int32 → f_S3 → Nat × Nat → Prop) (a1 : Int32) (a2 : Int32) (a3 : Int32) (a5 : Int32) (t0 : Int32) (M : f_S3) (O : Nat × Nat) : Prop := wF_X10_byteAt N a5 M O (fun r4 M5 O5 => (K26 a1 a2 (((a3 * 10) + r4) - 48) t0 (a5 + 1) M5 O5))
set_option maxRecDepth 20000 in
theorem sF_X10_putNumber_54 {x : ac_X} {g : b_S} (hg : g.1 = tb_R) {l : Launch} {O0 : Nat × Nat} {K26 : (Int32 → Int32 → Int32 → Int32 → Int32 → f_S3 → (Nat × Nat) → Prop)} {Q : Int32 → f_S3 → Nat × Nat → Prop} (Z : b_Cx x g l RX10 cX10_putNumber 6 (2) O0) (hret : f_RI x g 6 cX10_putNumber .int O0 Q) (hK26 : ∀ (a1 : Int32) (a2 : Int32) (a3 : Int32) (a4 : Int32) (a5 : Int32) (M : f_S3) (O : Nat × Nat), K26 a1 a2 a3 a4 a5 M O → f_G x g 6 O0 M O 26 [(0, .ref (b_o g 1)), (1, .int a1), (2, .int a2), (3, .int a3), (4, .int a4), (5, .int a5)] []) (a1 : Int32) (a2 : Int32) (a3 : Int32) (a5 : Int32) (t0 : Int32) (M : f_S3) (O : Nat × Nat) (hw : wF_X10_putNumber_54 (b_N g) K26 Q a1 a2 a3 a5 t0 M O) : f_G x g 6 O0 M O 54 [(0, .ref (b_o g 1)), (1, .int a1), (2, .int a2), (3, .int a3), (5, .int a5)] [.int t0] := by
  refine ac_istore (lv' := [(4, .int t0), (0, .ref (b_o g 1)), (1, .int a1), (2, .int a2), (3, .int a3), (5, .int a5)]) Z.1 dX10_putNumber_54 (by decide) rfl ?_
  refine ac_iload_n Z.1 4 dX10_putNumber_56 rfl ?_
  refine ac_bipush (v := 10) Z.1 dX10_putNumber_57 (by decide) ?_
  refine ac_imul Z.1 dX10_putNumber_59 ?_
  refine ac_aload_n Z.1 1 dX10_putNumber_60 rfl ?_
  refine ac_iload Z.1 5 dX10_putNumber_61 rfl ?_
  refine f_calli (As := [.int a5]) (st := [.int (a3 * 10)]) Z b_X10.1 1 (oR_1 hg) rfl kX10_byteAt lkX10_43 (by omega) (soF_X10_byteAt hg  _ _ _ _ hw) rfl rfl (Nat.le_of_ble_eq_true rfl) dX10_putNumber_63 (fun r4 M5 O5 hw => ?_)
  refine ac_iadd Z.1 dX10_putNumber_66 ?_
  refine ac_bipush (v := 48) Z.1 dX10_putNumber_67 (by decide) ?_
  refine ac_isub Z.1 dX10_putNumber_69 ?_
  refine ac_istore_n (lv' := [(3, .int (((a3 * 10) + r4) - 48)), (4, .int t0), (0, .ref (b_o g 1)), (1, .int a1), (2, .int a2), (5, .int a5)]) Z.1 dX10_putNumber_70 (by decide) rfl ?_
  refine ac_iinc (w := (a5 + 1)) (lv' := [(5, .int (a5 + 1)), (3, .int (((a3 * 10) + r4) - 48)), (4, .int t0), (0, .ref (b_o g 1)), (1, .int a1), (2, .int a2)]) Z.1 5 dX10_putNumber_71 rfl rfl (by decide) rfl ?_
  refine ac_goto (tgt := 26) Z.1 dX10_putNumber_74 (by decide) ?_
  refine ac_lv [3, 4, 5, 1, 2, 0] rfl ?_
  exact hK26 _ _ _ _ _ _ _ hw
def wF_X10_putNumber_49 (N : Nat → Nat) (K26 : (Int32 → Int32 → Int32 → Int32 → Int32 → f_S3 → (Nat × Nat) → Prop)) (Q : Int32 → f_S3 → Nat × Nat → Prop) (a1 : Int32) (a2 : Int32) (a3 : Int32) (a5 : Int32) (M : f_S3) (O : Nat × Nat) : Prop := wF_X10_putNumber_54 N K26 Q a1 a2 a3 a5 1 M O
set_option maxRecDepth 20000 in
theorem sF_X10_putNumber_49 {x : ac_X} {g : b_S} (hg : g.1 = tb_R) {l : Launch} {O0 : Nat × Nat} {K26 : (Int32 → Int32 → Int32 → Int32 → Int32 → f_S3 → (Nat × Nat) → Prop)} {Q : Int32 → f_S3 → Nat × Nat → Prop} (Z : b_Cx x g l RX10 cX10_putNumber 6 (2) O0) (hret : f_RI x g 6 cX10_putNumber .int O0 Q) (hK26 : ∀ (a1 : Int32) (a2 : Int32) (a3 : Int32) (a4 : Int32) (a5 : Int32) (M : f_S3) (O : Nat × Nat), K26 a1 a2 a3 a4 a5 M O → f_G x g 6 O0 M O 26 [(0, .ref (b_o g 1)), (1, .int a1), (2, .int a2), (3, .int a3), (4, .int a4), (5, .int a5)] []) (a1 : Int32) (a2 : Int32) (a3 : Int32) (a5 : Int32) (M : f_S3) (O : Nat × Nat) (hw : wF_X10_putNumber_49 (b_N g) K26 Q a1 a2 a3 a5 M O) : f_G x g 6 O0 M O 49 [(0, .ref (b_o g 1)), (1, .int a1), (2, .int a2), (3, .int a3), (5, .int a5)] [] := by
  refine ac_iconst (v := 1) Z.1 dX10_putNumber_49 (by decide) ?_
  refine ac_goto (tgt := 54) Z.1 dX10_putNumber_50 (by decide) ?_
  exact sF_X10_putNumber_54 hg Z hret hK26 _ _ _ _ _ _ _ hw
def wF_X10_putNumber_26 (N : Nat → Nat) (Q : Int32 → f_S3 → Nat × Nat → Prop) : Nat → Int32 → Int32 → Int32 → Int32 → Int32 → f_S3 → Nat × Nat → Prop
  | 0 => fun _ _ _ _ _ _ _ => False
  | n + 1 => fun a1 a2 a3 a4 a5 M O => ((a2 ≤ a5 → ((a4 = 0 → (wF_X10_putNumber_92 N Q a1 a2 a3 132 M O)) ∧ (¬ a4 = 0 → (wF_X10_putNumber_92 N Q a1 a2 a3 136 M O)))) ∧ (¬ a2 ≤ a5 → ((¬ a4 = 0 → (wF_X10_putNumber_49 N (wF_X10_putNumber_26 N Q n) Q a1 a2 a3 a5 M O)) ∧ (a4 = 0 → (wF_X10_byteAt N a5 M O (fun r6 M7 O7 => (wF_X10_isDigit N r6 M7 O7 (fun r8 M9 O9 => ((¬ r8 = 0 → (wF_X10_putNumber_54 N (wF_X10_putNumber_26 N Q n) Q a1 a2 a3 a5 0 M9 O9)) ∧ (r8 = 0 → (wF_X10_putNumber_49 N (wF_X10_putNumber_26 N Q n) Q a1 a2 a3 a5 M9 O9)))))))))))
set_option maxRecDepth 20000 in
theorem sF_X10_putNumber_26 {x : ac_X} {g : b_S} (hg : g.1 = tb_R) {l : Launch} {O0 : Nat × Nat} {Q : Int32 → f_S3 → Nat × Nat → Prop} (Z : b_Cx x g l RX10 cX10_putNumber 6 (2) O0) (hret : f_RI x g 6 cX10_putNumber .int O0 Q) : ∀ (n : Nat) (a1 : Int32) (a2 : Int32) (a3 : Int32) (a4 : Int32) (a5 : Int32) (M : f_S3) (O : Nat × Nat), wF_X10_putNumber_26 (b_N g) Q n a1 a2 a3 a4 a5 M O → f_G x g 6 O0 M O 26 [(0, .ref (b_o g 1)), (1, .int a1), (2, .int a2), (3, .int a3), (4, .int a4), (5, .int a5)] [] := by
  intro n
  induction n with
  | zero => intro _ _ _ _ _ _ _ hw; exact hw.elim
  | succ n ih =>
    intro a1 a2 a3 a4 a5 M O hw
    dsimp only [wF_X10_putNumber_26] at hw
    refine ac_iload Z.1 5 dX10_putNumber_26 rfl ?_
    refine ac_iload_n Z.1 2 dX10_putNumber_28 rfl ?_
    obtain ⟨hwt, hwf⟩ := hw
    refine ac_icmp_ge (tgt := 77) Z.1 dX10_putNumber_29 (by decide) (fun hc => ?_) (fun hc => ?_)
    · have hw := hwt hc
      refine ac_aload_n Z.1 0 dX10_putNumber_77 rfl ?_
      refine ac_iload Z.1 4 dX10_putNumber_78 rfl ?_
      obtain ⟨hwt, hwf⟩ := hw
      refine ac_if_eq (tgt := 89) Z.1 dX10_putNumber_80 (by decide) (fun hc => ?_) (fun hc => ?_)
      · have hw := hwt hc
        refine ac_sipush (v := 132) Z.1 dX10_putNumber_89 (by decide) ?_
        refine ac_lv [0, 1, 2, 3] rfl ?_
        exact sF_X10_putNumber_92 hg Z hret _ _ _ _ _ _ hw
      · have hw := hwf hc
        refine ac_sipush (v := 136) Z.1 dX10_putNumber_83 (by decide) ?_
        refine ac_goto (tgt := 92) Z.1 dX10_putNumber_86 (by decide) ?_
        refine ac_lv [0, 1, 2, 3] rfl ?_
        exact sF_X10_putNumber_92 hg Z hret _ _ _ _ _ _ hw
    · have hw := hwf hc
      refine ac_iload Z.1 4 dX10_putNumber_32 rfl ?_
      obtain ⟨hwt, hwf⟩ := hw
      refine ac_if_ne (tgt := 49) Z.1 dX10_putNumber_34 (by decide) (fun hc => ?_) (fun hc => ?_)
      · have hw := hwt hc
        refine ac_lv [0, 1, 2, 3, 5] rfl ?_
        exact sF_X10_putNumber_49 hg Z hret ih _ _ _ _ _ _ hw
      · have hw := hwf hc
        refine ac_aload_n Z.1 0 dX10_putNumber_37 rfl ?_
        refine ac_iload Z.1 5 dX10_putNumber_38 rfl ?_
        refine f_calli (As := [.int a5]) (st := []) Z b_X10.1 1 (oR_1 hg) rfl kX10_byteAt lkX10_43 (by omega) (soF_X10_byteAt hg  _ _ _ _ hw) rfl rfl (Nat.le_of_ble_eq_true rfl) dX10_putNumber_40 (fun r6 M7 O7 hw => ?_)
        refine f_calliS (As := [.int r6]) (st := []) Z kX10_isDigit lkX10_46 (by omega) (soF_X10_isDigit hg  _ _ _ _ hw) rfl rfl (Nat.le_of_ble_eq_true rfl) dX10_putNumber_43 (fun r8 M9 O9 hw => ?_)
        obtain ⟨hwt, hwf⟩ := hw
        refine ac_if_ne (tgt := 53) Z.1 dX10_putNumber_46 (by decide) (fun hc => ?_) (fun hc => ?_)
        · have hw := hwt hc
          refine ac_iconst (v := 0) Z.1 dX10_putNumber_53 (by decide) ?_
          refine ac_lv [0, 1, 2, 3, 5] rfl ?_
          exact sF_X10_putNumber_54 hg Z hret ih _ _ _ _ _ _ _ hw
        · have hw := hwf hc
          refine ac_lv [0, 1, 2, 3, 5] rfl ?_
          exact sF_X10_putNumber_49 hg Z hret ih _ _ _ _ _ _ hw
def wF_X10_putNumber_21 (N : Nat → Nat) (Q : Int32 → f_S3 → Nat × Nat → Prop) (a1 : Int32) (a2 : Int32) (a3 : Int32) (t0 : Int32) (M : f_S3) (O : Nat × Nat) : Prop := ∃ e26, wF_X10_putNumber_26 N Q e26 a1 a2 a3 t0 a1 M O
set_option maxRecDepth 20000 in
theorem sF_X10_putNumber_21 {x : ac_X} {g : b_S} (hg : g.1 = tb_R) {l : Launch} {O0 : Nat × Nat} {Q : Int32 → f_S3 → Nat × Nat → Prop} (Z : b_Cx x g l RX10 cX10_putNumber 6 (2) O0) (hret : f_RI x g 6 cX10_putNumber .int O0 Q) (a1 : Int32) (a2 : Int32) (a3 : Int32) (t0 : Int32) (M : f_S3) (O : Nat × Nat) (hw : wF_X10_putNumber_21 (b_N g) Q a1 a2 a3 t0 M O) : f_G x g 6 O0 M O 21 [(0, .ref (b_o g 1)), (1, .int a1), (2, .int a2), (3, .int a3)] [.int t0] := by
  refine ac_istore (lv' := [(4, .int t0), (0, .ref (b_o g 1)), (1, .int a1), (2, .int a2), (3, .int a3)]) Z.1 dX10_putNumber_21 (by decide) rfl ?_
  refine ac_iload_n Z.1 2 dX10_putNumber_23 rfl ?_
  refine ac_istore (lv' := [(5, .int a1), (4, .int t0), (0, .ref (b_o g 1)), (1, .int a1), (2, .int a2), (3, .int a3)]) Z.1 dX10_putNumber_24 (by decide) rfl ?_
  obtain ⟨n, hw⟩ := hw
  refine ac_lv [2, 3, 4, 5, 1, 0] rfl ?_
  exact sF_X10_putNumber_26 hg Z hret n _ _ _ _ _ _ _ hw
def wF_X10_putNumber (N : Nat → Nat) (p1 : Int32) (M : f_S3) (O : Nat × Nat) (Q : Int32 → f_S3 → Nat × Nat → Prop) : Prop := wF_X10_behindLettersAndDigits N p1 M O (fun r1 M2 O2 => (((r1 - p1) ≤ 9 → (wF_X10_putNumber_21 N Q p1 r1 0 0 M2 O2)) ∧ (¬ (r1 - p1) ≤ 9 → (wF_X10_putNumber_21 N Q p1 r1 0 1 M2 O2))))
set_option maxRecDepth 20000 in
theorem soF_X10_putNumber {l : Launch} {g : b_S} (hg : g.1 = tb_R) (p1 : Int32) (M : f_S3) (O : Nat × Nat) (Q : Int32 → f_S3 → Nat × Nat → Prop) (hw : wF_X10_putNumber (b_N g) p1 M O Q) : f_MetI l g yX10_putNumber cX10_putNumber 6 .int (2) [.ref (b_o g 1), .int p1] M O Q := by
  refine f_MetI.of (C := RX10) (by decide) rfl (Nat.le_of_ble_eq_true rfl) (fun x Z hret => ?_)
  show f_G x g 6 O M O 0 [(0, .ref (b_o g 1)), (1, .int p1)] []
  refine ac_aload_n Z.1 0 dX10_putNumber_0 rfl ?_
  refine ac_iload_n Z.1 1 dX10_putNumber_1 rfl ?_
  refine f_calli (As := [.int p1]) (st := []) Z b_X10.1 1 (oR_1 hg) rfl kX10_behindLettersAndDigits lkX10_75 (by omega) (soF_X10_behindLettersAndDigits hg  _ _ _ _ hw) rfl rfl (Nat.le_of_ble_eq_true rfl) dX10_putNumber_2 (fun r1 M2 O2 hw => ?_)
  refine ac_istore_n (lv' := [(2, .int r1), (0, .ref (b_o g 1)), (1, .int p1)]) Z.1 dX10_putNumber_5 (by decide) rfl ?_
  refine ac_iconst (v := 0) Z.1 dX10_putNumber_6 (by decide) ?_
  refine ac_istore_n (lv' := [(3, .int 0), (2, .int r1), (0, .ref (b_o g 1)), (1, .int p1)]) Z.1 dX10_putNumber_7 (by decide) rfl ?_
  refine ac_iload_n Z.1 1 dX10_putNumber_8 rfl ?_
  refine ac_iload_n Z.1 3 dX10_putNumber_9 rfl ?_
  refine ac_isub Z.1 dX10_putNumber_10 ?_
  refine ac_bipush (v := 9) Z.1 dX10_putNumber_11 (by decide) ?_
  obtain ⟨hwt, hwf⟩ := hw
  refine ac_icmp_le (tgt := 20) Z.1 dX10_putNumber_13 (by decide) (fun hc => ?_) (fun hc => ?_)
  · have hw := hwt hc
    refine ac_iconst (v := 0) Z.1 dX10_putNumber_20 (by decide) ?_
    refine ac_lv [2, 3, 1, 0] rfl ?_
    exact sF_X10_putNumber_21 hg Z hret _ _ _ _ _ _ hw
  · have hw := hwf hc
    refine ac_iconst (v := 1) Z.1 dX10_putNumber_16 (by decide) ?_
    refine ac_goto (tgt := 21) Z.1 dX10_putNumber_17 (by decide) ?_
    refine ac_lv [2, 3, 1, 0] rfl ?_
    exact sF_X10_putNumber_21 hg Z hret _ _ _ _ _ _ hw
def wF_X10_putWord_112 (N : Nat → Nat) (Q : Int32 → f_S3 → Nat × Nat → Prop) (a2 : Int32) (M : f_S3) (O : Nat × Nat) : Prop := Q a2 M O
set_option maxRecDepth 20000 in
theorem sF_X10_putWord_112 {x : ac_X} {g : b_S} (hg : g.1 = tb_R) {l : Launch} {O0 : Nat × Nat} {Q : Int32 → f_S3 → Nat × Nat → Prop} (Z : b_Cx x g l RX10 cX10_putWord 6 (9) O0) (hret : f_RI x g 6 cX10_putWord .int O0 Q) (a2 : Int32) (M : f_S3) (O : Nat × Nat) (hw : wF_X10_putWord_112 (b_N g) Q a2 M O) : f_G x g 6 O0 M O 112 [(0, .ref (b_o g 1)), (2, .int a2)] [] := by
  refine ac_iload_n Z.1 1 dX10_putWord_112 rfl ?_
  exact hret _ _ _ _ _ dX10_putWord_113 rfl hw
def wF_X10_putWord_106 (N : Nat → Nat) (Q : Int32 → f_S3 → Nat × Nat → Prop) (a1 : Int32) (a2 : Int32) (a5 : Int32) (t1 : Int32) (M : f_S3) (O : Nat × Nat) : Prop := wF_X10_put N t1 a5 a1 M O (fun M7 O7 => (wF_X10_putWord_112 N Q a2 M7 O7))
set_option maxRecDepth 20000 in
theorem sF_X10_putWord_106 {x : ac_X} {g : b_S} (hg : g.1 = tb_R) {l : Launch} {O0 : Nat × Nat} {Q : Int32 → f_S3 → Nat × Nat → Prop} (Z : b_Cx x g l RX10 cX10_putWord 6 (9) O0) (hret : f_RI x g 6 cX10_putWord .int O0 Q) (a1 : Int32) (a2 : Int32) (a5 : Int32) (t1 : Int32) (M : f_S3) (O : Nat × Nat) (hw : wF_X10_putWord_106 (b_N g) Q a1 a2 a5 t1 M O) : f_G x g 6 O0 M O 106 [(0, .ref (b_o g 1)), (1, .int a1), (2, .int a2), (5, .int a5)] [.int t1, .ref (b_o g 1)] := by
  refine ac_iload Z.1 3 dX10_putWord_106 rfl ?_
  refine ac_iload_n Z.1 1 dX10_putWord_108 rfl ?_
  refine f_callv (As := [.int t1, .int a5, .int a1]) (st := []) Z b_X10.1 1 (oR_1 hg) rfl kX10_put lkX10_65 (by omega) (soF_X10_put hg  _ _ _ _ _ _ hw) rfl rfl (Nat.le_of_ble_eq_true rfl) dX10_putWord_109 (fun M7 O7 hw => ?_)
  refine ac_lv [0, 2] rfl ?_
  exact sF_X10_putWord_112 hg Z hret _ _ _ hw
def wF_X10_putWord_30 (N : Nat → Nat) (Q : Int32 → f_S3 → Nat × Nat → Prop) : Nat → Int32 → Int32 → Int64 → Int32 → f_S3 → Nat × Nat → Prop
  | 0 => fun _ _ _ _ _ _ => False
  | n + 1 => fun a1 a2 a3 a5 M O => ((a2 ≤ a5 → (wF_X4_numberOf N a3 M O (fun r3 M4 O4 => ((33 ≤ r3 → (wF_X10_byteAt N a1 M4 O4 (fun r5 M6 O6 => ((r5 < 97 → (wF_X10_putWord_106 N Q a1 a2 r3 131 M6 O6)) ∧ (¬ r5 < 97 → (wF_X10_putWord_106 N Q a1 a2 r3 130 M6 O6)))))) ∧ (¬ 33 ≤ r3 → (wF_X10_put N (200 + r3) r3 a1 M4 O4 (fun M8 O8 => (wF_X10_putWord_112 N Q a2 M8 O8)))))))) ∧ (¬ a2 ≤ a5 → (wF_X10_byteAt N a5 M O (fun r9 M10 O10 => (wF_X4_longer N a3 r9 M10 O10 (fun r11 M12 O12 => (wF_X10_putWord_30 N Q n a1 a2 r11 (a5 + 1) M12 O12)))))))
set_option maxRecDepth 20000 in
theorem sF_X10_putWord_30 {x : ac_X} {g : b_S} (hg : g.1 = tb_R) {l : Launch} {O0 : Nat × Nat} {Q : Int32 → f_S3 → Nat × Nat → Prop} (Z : b_Cx x g l RX10 cX10_putWord 6 (9) O0) (hret : f_RI x g 6 cX10_putWord .int O0 Q) : ∀ (n : Nat) (a1 : Int32) (a2 : Int32) (a3 : Int64) (a5 : Int32) (M : f_S3) (O : Nat × Nat), wF_X10_putWord_30 (b_N g) Q n a1 a2 a3 a5 M O → f_G x g 6 O0 M O 30 [(0, .ref (b_o g 1)), (1, .int a1), (2, .int a2), (3, .long a3), (5, .int a5)] [] := by
  intro n
  induction n with
  | zero => intro _ _ _ _ _ _ hw; exact hw.elim
  | succ n ih =>
    intro a1 a2 a3 a5 M O hw
    dsimp only [wF_X10_putWord_30] at hw
    refine ac_iload Z.1 4 dX10_putWord_30 rfl ?_
    refine ac_iload_n Z.1 2 dX10_putWord_32 rfl ?_
    obtain ⟨hwt, hwf⟩ := hw
    refine ac_icmp_ge (tgt := 53) Z.1 dX10_putWord_33 (by decide) (fun hc => ?_) (fun hc => ?_)
    · have hw := hwt hc
      refine ac_aload_n Z.1 0 dX10_putWord_53 rfl ?_
      refine f_getr Z b_X10 1 (oR_1 hg) 2 (by decide) (by decide) (fR_22 hg) fX10_32 rfl (h2 := (b_o g 2)) rfl dX10_putWord_54 ?_
      refine ac_lload_n Z.1 3 dX10_putWord_57 rfl ?_
      refine f_calli (As := [.long a3]) (st := []) Z b_X4.1 2 (oR_2 hg) rfl kX4_numberOf lkX10_82 (by omega) (soF_X4_numberOf hg  _ _ _ _ hw) rfl rfl (Nat.le_of_ble_eq_true rfl) dX10_putWord_58 (fun r3 M4 O4 hw => ?_)
      refine ac_istore (lv' := [(5, .int r3), (0, .ref (b_o g 1)), (1, .int a1), (2, .int a2), (3, .long a3)]) Z.1 dX10_putWord_61 (by decide) rfl ?_
      refine ac_iload Z.1 0 dX10_putWord_63 rfl ?_
      refine ac_bipush (v := 33) Z.1 dX10_putWord_65 (by decide) ?_
      obtain ⟨hwt, hwf⟩ := hw
      refine ac_icmp_ge (tgt := 86) Z.1 dX10_putWord_67 (by decide) (fun hc => ?_) (fun hc => ?_)
      · have hw := hwt hc
        refine ac_aload_n Z.1 1 dX10_putWord_86 rfl ?_
        refine ac_aload_n Z.1 1 dX10_putWord_87 rfl ?_
        refine ac_iload_n Z.1 2 dX10_putWord_88 rfl ?_
        refine f_calli (As := [.int a1]) (st := [.ref (b_o g 1)]) Z b_X10.1 1 (oR_1 hg) rfl kX10_byteAt lkX10_43 (by omega) (soF_X10_byteAt hg  _ _ _ _ hw) rfl rfl (Nat.le_of_ble_eq_true rfl) dX10_putWord_89 (fun r5 M6 O6 hw => ?_)
        refine ac_bipush (v := 97) Z.1 dX10_putWord_92 (by decide) ?_
        obtain ⟨hwt, hwf⟩ := hw
        refine ac_icmp_lt (tgt := 103) Z.1 dX10_putWord_94 (by decide) (fun hc => ?_) (fun hc => ?_)
        · have hw := hwt hc
          refine ac_sipush (v := 131) Z.1 dX10_putWord_103 (by decide) ?_
          refine ac_lv [1, 2, 3, 0] rfl ?_
          exact sF_X10_putWord_106 hg Z hret _ _ _ _ _ _ hw
        · have hw := hwf hc
          refine ac_sipush (v := 130) Z.1 dX10_putWord_97 (by decide) ?_
          refine ac_goto (tgt := 106) Z.1 dX10_putWord_100 (by decide) ?_
          refine ac_lv [1, 2, 3, 0] rfl ?_
          exact sF_X10_putWord_106 hg Z hret _ _ _ _ _ _ hw
      · have hw := hwf hc
        refine ac_aload_n Z.1 1 dX10_putWord_70 rfl ?_
        refine ac_sipush (v := 200) Z.1 dX10_putWord_71 (by decide) ?_
        refine ac_iload Z.1 0 dX10_putWord_74 rfl ?_
        refine ac_iadd Z.1 dX10_putWord_76 ?_
        refine ac_iload Z.1 0 dX10_putWord_77 rfl ?_
        refine ac_iload_n Z.1 2 dX10_putWord_79 rfl ?_
        refine f_callv (As := [.int (200 + r3), .int r3, .int a1]) (st := []) Z b_X10.1 1 (oR_1 hg) rfl kX10_put lkX10_65 (by omega) (soF_X10_put hg  _ _ _ _ _ _ hw) rfl rfl (Nat.le_of_ble_eq_true rfl) dX10_putWord_80 (fun M8 O8 hw => ?_)
        refine ac_goto (tgt := 112) Z.1 dX10_putWord_83 (by decide) ?_
        refine ac_lv [1, 3] rfl ?_
        exact sF_X10_putWord_112 hg Z hret _ _ _ hw
    · have hw := hwf hc
      refine ac_lload_n Z.1 3 dX10_putWord_36 rfl ?_
      refine ac_aload_n Z.1 0 dX10_putWord_37 rfl ?_
      refine ac_iload Z.1 4 dX10_putWord_38 rfl ?_
      refine f_calli (As := [.int a5]) (st := [.long a3]) Z b_X10.1 1 (oR_1 hg) rfl kX10_byteAt lkX10_43 (by omega) (soF_X10_byteAt hg  _ _ _ _ hw) rfl rfl (Nat.le_of_ble_eq_true rfl) dX10_putWord_40 (fun r9 M10 O10 hw => ?_)
      refine f_calllS (As := [.long a3, .int r9]) (st := []) Z kX4_longer lkX10_78 (by omega) (soF_X4_longer hg  _ _ _ _ _ hw) rfl rfl (Nat.le_of_ble_eq_true rfl) dX10_putWord_43 (fun r11 M12 O12 hw => ?_)
      refine ac_lstore_n (lv' := [(3, .long r11), (0, .ref (b_o g 1)), (1, .int a1), (2, .int a2), (5, .int a5)]) Z.1 dX10_putWord_46 (by decide) rfl ?_
      refine ac_iinc (w := (a5 + 1)) (lv' := [(5, .int (a5 + 1)), (3, .long r11), (0, .ref (b_o g 1)), (1, .int a1), (2, .int a2)]) Z.1 4 dX10_putWord_47 rfl rfl (by decide) rfl ?_
      refine ac_goto (tgt := 30) Z.1 dX10_putWord_50 (by decide) ?_
      refine ac_lv [2, 3, 4, 1, 0] rfl ?_
      exact ih _ _ _ _ _ _ hw
def wF_X10_putWord (N : Nat → Nat) (p1 : Int32) (M : f_S3) (O : Nat × Nat) (Q : Int32 → f_S3 → Nat × Nat → Prop) : Prop := wF_X10_behindLettersAndDigits N p1 M O (fun r1 M2 O2 => (((r1 - p1) ≤ 10 → (∃ e30, wF_X10_putWord_30 N Q e30 p1 r1 0 p1 M2 O2)) ∧ (¬ (r1 - p1) ≤ 10 → (wF_X10_put N 136 0 p1 M2 O2 (fun M13 O13 => (Q r1 M13 O13))))))
set_option maxRecDepth 20000 in
theorem soF_X10_putWord {l : Launch} {g : b_S} (hg : g.1 = tb_R) (p1 : Int32) (M : f_S3) (O : Nat × Nat) (Q : Int32 → f_S3 → Nat × Nat → Prop) (hw : wF_X10_putWord (b_N g) p1 M O Q) : f_MetI l g yX10_putWord cX10_putWord 6 .int (9) [.ref (b_o g 1), .int p1] M O Q := by
  refine f_MetI.of (C := RX10) (by decide) rfl (Nat.le_of_ble_eq_true rfl) (fun x Z hret => ?_)
  show f_G x g 6 O M O 0 [(0, .ref (b_o g 1)), (1, .int p1)] []
  refine ac_aload_n Z.1 0 dX10_putWord_0 rfl ?_
  refine ac_iload_n Z.1 1 dX10_putWord_1 rfl ?_
  refine f_calli (As := [.int p1]) (st := []) Z b_X10.1 1 (oR_1 hg) rfl kX10_behindLettersAndDigits lkX10_75 (by omega) (soF_X10_behindLettersAndDigits hg  _ _ _ _ hw) rfl rfl (Nat.le_of_ble_eq_true rfl) dX10_putWord_2 (fun r1 M2 O2 hw => ?_)
  refine ac_istore_n (lv' := [(2, .int r1), (0, .ref (b_o g 1)), (1, .int p1)]) Z.1 dX10_putWord_5 (by decide) rfl ?_
  refine ac_iload_n Z.1 0 dX10_putWord_6 rfl ?_
  refine ac_iload_n Z.1 2 dX10_putWord_7 rfl ?_
  refine ac_isub Z.1 dX10_putWord_8 ?_
  refine ac_bipush (v := 10) Z.1 dX10_putWord_9 (by decide) ?_
  obtain ⟨hwt, hwf⟩ := hw
  refine ac_icmp_le (tgt := 25) Z.1 dX10_putWord_11 (by decide) (fun hc => ?_) (fun hc => ?_)
  · have hw := hwt hc
    refine ac_lconst (v := 0) Z.1 dX10_putWord_25 (by decide) ?_
    refine ac_lstore_n (lv' := [(3, .long 0), (2, .int r1), (0, .ref (b_o g 1)), (1, .int p1)]) Z.1 dX10_putWord_26 (by decide) rfl ?_
    refine ac_iload_n Z.1 3 dX10_putWord_27 rfl ?_
    refine ac_istore (lv' := [(5, .int p1), (3, .long 0), (2, .int r1), (0, .ref (b_o g 1)), (1, .int p1)]) Z.1 dX10_putWord_28 (by decide) rfl ?_
    obtain ⟨n, hw⟩ := hw
    refine ac_lv [3, 4, 2, 1, 0] rfl ?_
    exact sF_X10_putWord_30 hg Z hret n _ _ _ _ _ _ hw
  · have hw := hwf hc
    refine ac_aload_n Z.1 1 dX10_putWord_14 rfl ?_
    refine ac_sipush (v := 136) Z.1 dX10_putWord_15 (by decide) ?_
    refine ac_iconst (v := 0) Z.1 dX10_putWord_18 (by decide) ?_
    refine ac_iload_n Z.1 2 dX10_putWord_19 rfl ?_
    refine f_callv (As := [.int 136, .int 0, .int p1]) (st := []) Z b_X10.1 1 (oR_1 hg) rfl kX10_put lkX10_65 (by omega) (soF_X10_put hg  _ _ _ _ _ _ hw) rfl rfl (Nat.le_of_ble_eq_true rfl) dX10_putWord_20 (fun M13 O13 hw => ?_)
    refine ac_iload_n Z.1 0 dX10_putWord_23 rfl ?_
    exact hret _ _ _ _ _ dX10_putWord_24 rfl hw
def wF_X10_putSign_67 (N : Nat → Nat) (Q : Int32 → f_S3 → Nat × Nat → Prop) (a1 : Int32) (t1 : Int32) (M : f_S3) (O : Nat × Nat) : Prop := wF_X10_put N t1 0 a1 M O (fun M4 O4 => (Q (a1 + 1) M4 O4))
set_option maxRecDepth 20000 in
theorem sF_X10_putSign_67 {x : ac_X} {g : b_S} (hg : g.1 = tb_R) {l : Launch} {O0 : Nat × Nat} {Q : Int32 → f_S3 → Nat × Nat → Prop} (Z : b_Cx x g l RX10 cX10_putSign 3 (8) O0) (hret : f_RI x g 3 cX10_putSign .int O0 Q) (a1 : Int32) (t1 : Int32) (M : f_S3) (O : Nat × Nat) (hw : wF_X10_putSign_67 (b_N g) Q a1 t1 M O) : f_G x g 3 O0 M O 67 [(0, .ref (b_o g 1)), (1, .int a1)] [.int t1, .ref (b_o g 1)] := by
  refine ac_iconst (v := 0) Z.1 dX10_putSign_67 (by decide) ?_
  refine ac_iload_n Z.1 1 dX10_putSign_68 rfl ?_
  refine f_callv (As := [.int t1, .int 0, .int a1]) (st := []) Z b_X10.1 1 (oR_1 hg) rfl kX10_put lkX10_65 (by omega) (soF_X10_put hg  _ _ _ _ _ _ hw) rfl rfl (Nat.le_of_ble_eq_true rfl) dX10_putSign_69 (fun M4 O4 hw => ?_)
  refine ac_iload_n Z.1 1 dX10_putSign_72 rfl ?_
  refine ac_iconst (v := 1) Z.1 dX10_putSign_73 (by decide) ?_
  refine ac_iadd Z.1 dX10_putSign_74 ?_
  exact hret _ _ _ _ _ dX10_putSign_75 rfl hw
def wF_X10_putSign_49 (N : Nat → Nat) (Q : Int32 → f_S3 → Nat × Nat → Prop) (a1 : Int32) (a2 : Int32) (M : f_S3) (O : Nat × Nat) : Prop := ((f_ixOf 1 (f_i2c a2)) < 0 → (wF_X10_putSign_67 N Q a1 136 M O)) ∧ (¬ (f_ixOf 1 (f_i2c a2)) < 0 → (wF_X10_putSign_67 N Q a1 a2 M O))
set_option maxRecDepth 20000 in
theorem sF_X10_putSign_49 {x : ac_X} {g : b_S} (hg : g.1 = tb_R) {l : Launch} {O0 : Nat × Nat} {Q : Int32 → f_S3 → Nat × Nat → Prop} (Z : b_Cx x g l RX10 cX10_putSign 3 (8) O0) (hret : f_RI x g 3 cX10_putSign .int O0 Q) (a1 : Int32) (a2 : Int32) (M : f_S3) (O : Nat × Nat) (hw : wF_X10_putSign_49 (b_N g) Q a1 a2 M O) : f_G x g 3 O0 M O 49 [(0, .ref (b_o g 1)), (1, .int a1), (2, .int a2)] [] := by
  refine ac_aload_n Z.1 0 dX10_putSign_49 rfl ?_
  refine f_ldcS Z 1 (by decide) (by decide +kernel) (by decide +kernel) dX10_putSign_50 ?_
  refine ac_iload_n Z.1 2 dX10_putSign_52 rfl ?_
  refine fv_i2c Z.1 dX10_putSign_53 ?_
  refine f_sidx (st := [.ref (b_o g 1)]) Z (si := 1) (by decide) (by omega) lkS10_88 dX10_putSign_54 (Nat.le_of_ble_eq_true rfl) ?_
  obtain ⟨hwt, hwf⟩ := hw
  refine ac_if_lt (tgt := 64) Z.1 dX10_putSign_57 (by decide) (fun hc => ?_) (fun hc => ?_)
  · have hw := hwt hc
    refine ac_sipush (v := 136) Z.1 dX10_putSign_64 (by decide) ?_
    refine ac_lv [0, 1] rfl ?_
    exact sF_X10_putSign_67 hg Z hret _ _ _ _ hw
  · have hw := hwf hc
    refine ac_iload_n Z.1 2 dX10_putSign_60 rfl ?_
    refine ac_goto (tgt := 67) Z.1 dX10_putSign_61 (by decide) ?_
    refine ac_lv [0, 1] rfl ?_
    exact sF_X10_putSign_67 hg Z hret _ _ _ _ hw
def wF_X10_putSign_40 (N : Nat → Nat) (Q : Int32 → f_S3 → Nat × Nat → Prop) (a1 : Int32) (t1 : Int32) (M : f_S3) (O : Nat × Nat) : Prop := wF_X10_put N t1 0 a1 M O (fun M5 O5 => (Q (a1 + 2) M5 O5))
set_option maxRecDepth 20000 in
theorem sF_X10_putSign_40 {x : ac_X} {g : b_S} (hg : g.1 = tb_R) {l : Launch} {O0 : Nat × Nat} {Q : Int32 → f_S3 → Nat × Nat → Prop} (Z : b_Cx x g l RX10 cX10_putSign 3 (8) O0) (hret : f_RI x g 3 cX10_putSign .int O0 Q) (a1 : Int32) (t1 : Int32) (M : f_S3) (O : Nat × Nat) (hw : wF_X10_putSign_40 (b_N g) Q a1 t1 M O) : f_G x g 3 O0 M O 40 [(0, .ref (b_o g 1)), (1, .int a1)] [.int t1, .ref (b_o g 1)] := by
  refine ac_iconst (v := 0) Z.1 dX10_putSign_40 (by decide) ?_
  refine ac_iload_n Z.1 1 dX10_putSign_41 rfl ?_
  refine f_callv (As := [.int t1, .int 0, .int a1]) (st := []) Z b_X10.1 1 (oR_1 hg) rfl kX10_put lkX10_65 (by omega) (soF_X10_put hg  _ _ _ _ _ _ hw) rfl rfl (Nat.le_of_ble_eq_true rfl) dX10_putSign_42 (fun M5 O5 hw => ?_)
  refine ac_iload_n Z.1 1 dX10_putSign_45 rfl ?_
  refine ac_iconst (v := 2) Z.1 dX10_putSign_46 (by decide) ?_
  refine ac_iadd Z.1 dX10_putSign_47 ?_
  exact hret _ _ _ _ _ dX10_putSign_48 rfl hw
def wF_X10_putSign_24 (N : Nat → Nat) (Q : Int32 → f_S3 → Nat × Nat → Prop) (a1 : Int32) (a2 : Int32) (M : f_S3) (O : Nat × Nat) : Prop := (¬ a2 = 61 → (wF_X10_putSign_40 N Q a1 134 M O)) ∧ (a2 = 61 → (wF_X10_putSign_40 N Q a1 133 M O))
set_option maxRecDepth 20000 in
theorem sF_X10_putSign_24 {x : ac_X} {g : b_S} (hg : g.1 = tb_R) {l : Launch} {O0 : Nat × Nat} {Q : Int32 → f_S3 → Nat × Nat → Prop} (Z : b_Cx x g l RX10 cX10_putSign 3 (8) O0) (hret : f_RI x g 3 cX10_putSign .int O0 Q) (a1 : Int32) (a2 : Int32) (M : f_S3) (O : Nat × Nat) (hw : wF_X10_putSign_24 (b_N g) Q a1 a2 M O) : f_G x g 3 O0 M O 24 [(0, .ref (b_o g 1)), (1, .int a1), (2, .int a2)] [] := by
  refine ac_aload_n Z.1 0 dX10_putSign_24 rfl ?_
  refine ac_iload_n Z.1 2 dX10_putSign_25 rfl ?_
  refine ac_bipush (v := 61) Z.1 dX10_putSign_26 (by decide) ?_
  obtain ⟨hwt, hwf⟩ := hw
  refine ac_icmp_ne (tgt := 37) Z.1 dX10_putSign_28 (by decide) (fun hc => ?_) (fun hc => ?_)
  · have hw := hwt hc
    refine ac_sipush (v := 134) Z.1 dX10_putSign_37 (by decide) ?_
    refine ac_lv [0, 1] rfl ?_
    exact sF_X10_putSign_40 hg Z hret _ _ _ _ hw
  · have hw := hwf hc
    refine ac_sipush (v := 133) Z.1 dX10_putSign_31 (by decide) ?_
    refine ac_goto (tgt := 40) Z.1 dX10_putSign_34 (by decide) ?_
    refine ac_lv [0, 1] rfl ?_
    exact sF_X10_putSign_40 hg Z hret _ _ _ _ hw
def wF_X10_putSign (N : Nat → Nat) (p1 : Int32) (p2 : Int32) (M : f_S3) (O : Nat × Nat) (Q : Int32 → f_S3 → Nat × Nat → Prop) : Prop := wF_X10_byteAt N (p1 + 1) M O (fun r1 M2 O2 => ((¬ r1 = 61 → (wF_X10_putSign_49 N Q p1 p2 M2 O2)) ∧ (r1 = 61 → ((p2 = 61 → (wF_X10_putSign_24 N Q p1 p2 M2 O2)) ∧ (¬ p2 = 61 → ((¬ p2 = 33 → (wF_X10_putSign_49 N Q p1 p2 M2 O2)) ∧ (p2 = 33 → (wF_X10_putSign_24 N Q p1 p2 M2 O2))))))))
set_option maxRecDepth 20000 in
theorem soF_X10_putSign {l : Launch} {g : b_S} (hg : g.1 = tb_R) (p1 : Int32) (p2 : Int32) (M : f_S3) (O : Nat × Nat) (Q : Int32 → f_S3 → Nat × Nat → Prop) (hw : wF_X10_putSign (b_N g) p1 p2 M O Q) : f_MetI l g yX10_putSign cX10_putSign 3 .int (8) [.ref (b_o g 1), .int p1, .int p2] M O Q := by
  refine f_MetI.of (C := RX10) (by decide) rfl (Nat.le_of_ble_eq_true rfl) (fun x Z hret => ?_)
  show f_G x g 3 O M O 0 [(0, .ref (b_o g 1)), (1, .int p1), (2, .int p2)] []
  refine ac_aload_n Z.1 0 dX10_putSign_0 rfl ?_
  refine ac_iload_n Z.1 1 dX10_putSign_1 rfl ?_
  refine ac_iconst (v := 1) Z.1 dX10_putSign_2 (by decide) ?_
  refine ac_iadd Z.1 dX10_putSign_3 ?_
  refine f_calli (As := [.int (p1 + 1)]) (st := []) Z b_X10.1 1 (oR_1 hg) rfl kX10_byteAt lkX10_43 (by omega) (soF_X10_byteAt hg  _ _ _ _ hw) rfl rfl (Nat.le_of_ble_eq_true rfl) dX10_putSign_4 (fun r1 M2 O2 hw => ?_)
  refine ac_bipush (v := 61) Z.1 dX10_putSign_7 (by decide) ?_
  obtain ⟨hwt, hwf⟩ := hw
  refine ac_icmp_ne (tgt := 49) Z.1 dX10_putSign_9 (by decide) (fun hc => ?_) (fun hc => ?_)
  · have hw := hwt hc
    exact sF_X10_putSign_49 hg Z hret _ _ _ _ hw
  · have hw := hwf hc
    refine ac_iload_n Z.1 2 dX10_putSign_12 rfl ?_
    refine ac_bipush (v := 61) Z.1 dX10_putSign_13 (by decide) ?_
    obtain ⟨hwt, hwf⟩ := hw
    refine ac_icmp_eq (tgt := 24) Z.1 dX10_putSign_15 (by decide) (fun hc => ?_) (fun hc => ?_)
    · have hw := hwt hc
      exact sF_X10_putSign_24 hg Z hret _ _ _ _ hw
    · have hw := hwf hc
      refine ac_iload_n Z.1 2 dX10_putSign_18 rfl ?_
      refine ac_bipush (v := 33) Z.1 dX10_putSign_19 (by decide) ?_
      obtain ⟨hwt, hwf⟩ := hw
      refine ac_icmp_ne (tgt := 49) Z.1 dX10_putSign_21 (by decide) (fun hc => ?_) (fun hc => ?_)
      · have hw := hwt hc
        exact sF_X10_putSign_49 hg Z hret _ _ _ _ hw
      · have hw := hwf hc
        exact sF_X10_putSign_24 hg Z hret _ _ _ _ hw
def wF_X10_split_92 (N : Nat → Nat) (Q : f_S3 → Nat × Nat → Prop) (M : f_S3) (O : Nat × Nat) : Prop := wF_X10_put N 135 0 (M.1 21) M O (fun M2 O2 => (Q M2 O2))
set_option maxRecDepth 20000 in
theorem sF_X10_split_92 {x : ac_X} {g : b_S} (hg : g.1 = tb_R) {l : Launch} {O0 : Nat × Nat} {Q : f_S3 → Nat × Nat → Prop} (Z : b_Cx x g l RX10 cX10_split 4 (10) O0) (hret : f_RV x g 4 cX10_split O0 Q) (M : f_S3) (O : Nat × Nat) (hw : wF_X10_split_92 (b_N g) Q M O) : f_G x g 4 O0 M O 92 [(0, .ref (b_o g 1))] [] := by
  refine ac_aload_n Z.1 0 dX10_split_92 rfl ?_
  refine ac_sipush (v := 135) Z.1 dX10_split_93 (by decide) ?_
  refine ac_iconst (v := 0) Z.1 dX10_split_96 (by decide) ?_
  refine ac_aload_n Z.1 0 dX10_split_97 rfl ?_
  refine f_geti Z b_X10 1 (oR_1 hg) 1 (by decide) (by decide) (fR_21 hg) fX10_13 rfl (v := (M.1 21)) rfl dX10_split_98 ?_
  refine f_callv (As := [.int 135, .int 0, .int (M.1 21)]) (st := []) Z b_X10.1 1 (oR_1 hg) rfl kX10_put lkX10_65 (by omega) (soF_X10_put hg  _ _ _ _ _ _ hw) rfl rfl (Nat.le_of_ble_eq_true rfl) dX10_split_101 (fun M2 O2 hw => ?_)
  exact hret _ _ _ _ dX10_split_104 hw
def wF_X10_split_86 (N : Nat → Nat) (K11 : (Int32 → Int32 → f_S3 → (Nat × Nat) → Prop)) (Q : f_S3 → Nat × Nat → Prop) (a1 : Int32) (a2 : Int32) (M : f_S3) (O : Nat × Nat) : Prop := K11 a1 (a2 + 1) M O
set_option maxRecDepth 20000 in
theorem sF_X10_split_86 {x : ac_X} {g : b_S} (hg : g.1 = tb_R) {l : Launch} {O0 : Nat × Nat} {K11 : (Int32 → Int32 → f_S3 → (Nat × Nat) → Prop)} {Q : f_S3 → Nat × Nat → Prop} (Z : b_Cx x g l RX10 cX10_split 4 (10) O0) (hret : f_RV x g 4 cX10_split O0 Q) (hK11 : ∀ (a1 : Int32) (a2 : Int32) (M : f_S3) (O : Nat × Nat), K11 a1 a2 M O → f_G x g 4 O0 M O 11 [(0, .ref (b_o g 1)), (1, .int a1), (2, .int a2)] []) (a1 : Int32) (a2 : Int32) (M : f_S3) (O : Nat × Nat) (hw : wF_X10_split_86 (b_N g) K11 Q a1 a2 M O) : f_G x g 4 O0 M O 86 [(0, .ref (b_o g 1)), (1, .int a1), (2, .int a2)] [] := by
  refine ac_iinc (w := (a2 + 1)) (lv' := [(2, .int (a2 + 1)), (0, .ref (b_o g 1)), (1, .int a1)]) Z.1 2 dX10_split_86 rfl rfl (by decide) rfl ?_
  refine ac_goto (tgt := 11) Z.1 dX10_split_89 (by decide) ?_
  refine ac_lv [1, 2, 0] rfl ?_
  exact hK11 _ _ _ _ hw
def wF_X10_split_11 (N : Nat → Nat) (Q : f_S3 → Nat × Nat → Prop) : Nat → Int32 → Int32 → f_S3 → Nat × Nat → Prop
  | 0 => fun _ _ _ _ => False
  | n + 1 => fun a1 a2 M O => (((M.1 21) ≤ a2 → (wF_X10_split_92 N Q M O)) ∧ (¬ (M.1 21) ≤ a2 → (((M.1 21) ≤ a1 → (wF_X10_split_92 N Q M O)) ∧ (¬ (M.1 21) ≤ a1 → (wF_X10_behindBlanks N a1 M O (fun r3 M4 O4 => (wF_X10_byteAt N r3 M4 O4 (fun r5 M6 O6 => (wF_X10_isDigit N r5 M6 O6 (fun r7 M8 O8 => ((r7 = 0 → (wF_X10_isLetter N r5 M8 O8 (fun r9 M10 O10 => ((r9 = 0 → (((M10.1 21) ≤ r3 → (wF_X10_split_86 N (wF_X10_split_11 N Q n) Q r3 a2 M10 O10)) ∧ (¬ (M10.1 21) ≤ r3 → (wF_X10_putSign N r3 r5 M10 O10 (fun r11 M12 O12 => (wF_X10_split_86 N (wF_X10_split_11 N Q n) Q r11 a2 M12 O12)))))) ∧ (¬ r9 = 0 → (wF_X10_putWord N r3 M10 O10 (fun r13 M14 O14 => (wF_X10_split_86 N (wF_X10_split_11 N Q n) Q r13 a2 M14 O14)))))))) ∧ (¬ r7 = 0 → (wF_X10_putNumber N r3 M8 O8 (fun r15 M16 O16 => (wF_X10_split_86 N (wF_X10_split_11 N Q n) Q r15 a2 M16 O16)))))))))))))))
set_option maxRecDepth 20000 in
theorem sF_X10_split_11 {x : ac_X} {g : b_S} (hg : g.1 = tb_R) {l : Launch} {O0 : Nat × Nat} {Q : f_S3 → Nat × Nat → Prop} (Z : b_Cx x g l RX10 cX10_split 4 (10) O0) (hret : f_RV x g 4 cX10_split O0 Q) : ∀ (n : Nat) (a1 : Int32) (a2 : Int32) (M : f_S3) (O : Nat × Nat), wF_X10_split_11 (b_N g) Q n a1 a2 M O → f_G x g 4 O0 M O 11 [(0, .ref (b_o g 1)), (1, .int a1), (2, .int a2)] [] := by
  intro n
  induction n with
  | zero => intro _ _ _ _ hw; exact hw.elim
  | succ n ih =>
    intro a1 a2 M O hw
    dsimp only [wF_X10_split_11] at hw
    refine ac_iload_n Z.1 2 dX10_split_11 rfl ?_
    refine ac_aload_n Z.1 0 dX10_split_12 rfl ?_
    refine f_geti Z b_X10 1 (oR_1 hg) 1 (by decide) (by decide) (fR_21 hg) fX10_13 rfl (v := (M.1 21)) rfl dX10_split_13 ?_
    obtain ⟨hwt, hwf⟩ := hw
    refine ac_icmp_ge (tgt := 92) Z.1 dX10_split_16 (by decide) (fun hc => ?_) (fun hc => ?_)
    · have hw := hwt hc
      refine ac_lv [0] rfl ?_
      exact sF_X10_split_92 hg Z hret _ _ hw
    · have hw := hwf hc
      refine ac_iload_n Z.1 1 dX10_split_19 rfl ?_
      refine ac_aload_n Z.1 0 dX10_split_20 rfl ?_
      refine f_geti Z b_X10 1 (oR_1 hg) 1 (by decide) (by decide) (fR_21 hg) fX10_13 rfl (v := (M.1 21)) rfl dX10_split_21 ?_
      obtain ⟨hwt, hwf⟩ := hw
      refine ac_icmp_ge (tgt := 92) Z.1 dX10_split_24 (by decide) (fun hc => ?_) (fun hc => ?_)
      · have hw := hwt hc
        refine ac_lv [0] rfl ?_
        exact sF_X10_split_92 hg Z hret _ _ hw
      · have hw := hwf hc
        refine ac_aload_n Z.1 0 dX10_split_27 rfl ?_
        refine ac_iload_n Z.1 1 dX10_split_28 rfl ?_
        refine f_calli (As := [.int a1]) (st := []) Z b_X10.1 1 (oR_1 hg) rfl kX10_behindBlanks lkX10_39 (by omega) (soF_X10_behindBlanks hg  _ _ _ _ hw) rfl rfl (Nat.le_of_ble_eq_true rfl) dX10_split_29 (fun r3 M4 O4 hw => ?_)
        refine ac_istore_n (lv' := [(1, .int r3), (0, .ref (b_o g 1)), (2, .int a2)]) Z.1 dX10_split_32 (by decide) rfl ?_
        refine ac_aload_n Z.1 1 dX10_split_33 rfl ?_
        refine ac_iload_n Z.1 0 dX10_split_34 rfl ?_
        refine f_calli (As := [.int r3]) (st := []) Z b_X10.1 1 (oR_1 hg) rfl kX10_byteAt lkX10_43 (by omega) (soF_X10_byteAt hg  _ _ _ _ hw) rfl rfl (Nat.le_of_ble_eq_true rfl) dX10_split_35 (fun r5 M6 O6 hw => ?_)
        refine ac_istore_n (lv' := [(3, .int r5), (1, .int r3), (0, .ref (b_o g 1)), (2, .int a2)]) Z.1 dX10_split_38 (by decide) rfl ?_
        refine ac_iload_n Z.1 0 dX10_split_39 rfl ?_
        refine f_calliS (As := [.int r5]) (st := []) Z kX10_isDigit lkX10_46 (by omega) (soF_X10_isDigit hg  _ _ _ _ hw) rfl rfl (Nat.le_of_ble_eq_true rfl) dX10_split_40 (fun r7 M8 O8 hw => ?_)
        obtain ⟨hwt, hwf⟩ := hw
        refine ac_if_eq (tgt := 55) Z.1 dX10_split_43 (by decide) (fun hc => ?_) (fun hc => ?_)
        · have hw := hwt hc
          refine ac_iload_n Z.1 0 dX10_split_55 rfl ?_
          refine f_calliS (As := [.int r5]) (st := []) Z kX10_isLetter lkX10_53 (by omega) (soF_X10_isLetter hg  _ _ _ _ hw) rfl rfl (Nat.le_of_ble_eq_true rfl) dX10_split_56 (fun r9 M10 O10 hw => ?_)
          obtain ⟨hwt, hwf⟩ := hw
          refine ac_if_eq (tgt := 71) Z.1 dX10_split_59 (by decide) (fun hc => ?_) (fun hc => ?_)
          · have hw := hwt hc
            refine ac_iload_n Z.1 1 dX10_split_71 rfl ?_
            refine ac_aload_n Z.1 2 dX10_split_72 rfl ?_
            refine f_geti Z b_X10 1 (oR_1 hg) 1 (by decide) (by decide) (fR_21 hg) fX10_13 rfl (v := (M10.1 21)) rfl dX10_split_73 ?_
            obtain ⟨hwt, hwf⟩ := hw
            refine ac_icmp_ge (tgt := 86) Z.1 dX10_split_76 (by decide) (fun hc => ?_) (fun hc => ?_)
            · have hw := hwt hc
              refine ac_lv [2, 1, 3] rfl ?_
              exact sF_X10_split_86 hg Z hret ih _ _ _ _ hw
            · have hw := hwf hc
              refine ac_aload_n Z.1 2 dX10_split_79 rfl ?_
              refine ac_iload_n Z.1 1 dX10_split_80 rfl ?_
              refine ac_iload_n Z.1 0 dX10_split_81 rfl ?_
              refine f_calli (As := [.int r3, .int r5]) (st := []) Z b_X10.1 1 (oR_1 hg) rfl kX10_putSign lkX10_59 (by omega) (soF_X10_putSign hg  _ _ _ _ _ hw) rfl rfl (Nat.le_of_ble_eq_true rfl) dX10_split_82 (fun r11 M12 O12 hw => ?_)
              refine ac_istore_n (lv' := [(1, .int r11), (3, .int r5), (0, .ref (b_o g 1)), (2, .int a2)]) Z.1 dX10_split_85 (by decide) rfl ?_
              refine ac_lv [2, 0, 3] rfl ?_
              exact sF_X10_split_86 hg Z hret ih _ _ _ _ hw
          · have hw := hwf hc
            refine ac_aload_n Z.1 2 dX10_split_62 rfl ?_
            refine ac_iload_n Z.1 1 dX10_split_63 rfl ?_
            refine f_calli (As := [.int r3]) (st := []) Z b_X10.1 1 (oR_1 hg) rfl kX10_putWord lkX10_56 (by omega) (soF_X10_putWord hg  _ _ _ _ hw) rfl rfl (Nat.le_of_ble_eq_true rfl) dX10_split_64 (fun r13 M14 O14 hw => ?_)
            refine ac_istore_n (lv' := [(1, .int r13), (3, .int r5), (0, .ref (b_o g 1)), (2, .int a2)]) Z.1 dX10_split_67 (by decide) rfl ?_
            refine ac_goto (tgt := 86) Z.1 dX10_split_68 (by decide) ?_
            refine ac_lv [2, 0, 3] rfl ?_
            exact sF_X10_split_86 hg Z hret ih _ _ _ _ hw
        · have hw := hwf hc
          refine ac_aload_n Z.1 2 dX10_split_46 rfl ?_
          refine ac_iload_n Z.1 1 dX10_split_47 rfl ?_
          refine f_calli (As := [.int r3]) (st := []) Z b_X10.1 1 (oR_1 hg) rfl kX10_putNumber lkX10_50 (by omega) (soF_X10_putNumber hg  _ _ _ _ hw) rfl rfl (Nat.le_of_ble_eq_true rfl) dX10_split_48 (fun r15 M16 O16 hw => ?_)
          refine ac_istore_n (lv' := [(1, .int r15), (3, .int r5), (0, .ref (b_o g 1)), (2, .int a2)]) Z.1 dX10_split_51 (by decide) rfl ?_
          refine ac_goto (tgt := 86) Z.1 dX10_split_52 (by decide) ?_
          refine ac_lv [2, 0, 3] rfl ?_
          exact sF_X10_split_86 hg Z hret ih _ _ _ _ hw
def wF_X10_split (N : Nat → Nat) (M : f_S3) (O : Nat × Nat) (Q : f_S3 → Nat × Nat → Prop) : Prop := wF_X4_learnQuotedWords N M O (fun M1 O1 => (∃ e11, wF_X10_split_11 N Q e11 0 0 M1 O1))
set_option maxRecDepth 20000 in
theorem soF_X10_split {l : Launch} {g : b_S} (hg : g.1 = tb_R) (M : f_S3) (O : Nat × Nat) (Q : f_S3 → Nat × Nat → Prop) (hw : wF_X10_split (b_N g)  M O Q) : f_MetV l g yX10_split cX10_split 4 (10) [.ref (b_o g 1)] M O Q := by
  refine f_MetV.of (C := RX10) (by decide) rfl (Nat.le_of_ble_eq_true rfl) (fun x Z hret => ?_)
  show f_G x g 4 O M O 0 [(0, .ref (b_o g 1))] []
  refine ac_aload_n Z.1 0 dX10_split_0 rfl ?_
  refine f_getr Z b_X10 1 (oR_1 hg) 2 (by decide) (by decide) (fR_22 hg) fX10_32 rfl (h2 := (b_o g 2)) rfl dX10_split_1 ?_
  refine f_callv (As := []) (st := []) Z b_X4.1 2 (oR_2 hg) rfl kX4_learnQuotedWords lkX10_36 (by omega) (soF_X4_learnQuotedWords hg   _ _ _ hw) rfl rfl (Nat.le_of_ble_eq_true rfl) dX10_split_4 (fun M1 O1 hw => ?_)
  refine ac_iconst (v := 0) Z.1 dX10_split_7 (by decide) ?_
  refine ac_istore_n (lv' := [(1, .int 0), (0, .ref (b_o g 1))]) Z.1 dX10_split_8 (by decide) rfl ?_
  refine ac_iconst (v := 0) Z.1 dX10_split_9 (by decide) ?_
  refine ac_istore_n (lv' := [(2, .int 0), (1, .int 0), (0, .ref (b_o g 1))]) Z.1 dX10_split_10 (by decide) rfl ?_
  obtain ⟨n, hw⟩ := hw
  refine ac_lv [2, 1, 0] rfl ?_
  exact sF_X10_split_11 hg Z hret n _ _ _ _ hw
def wF_X7_advance (N : Nat → Nat) (M : f_S3) (O : Nat × Nat) (Q : f_S3 → Nat × Nat → Prop) : Prop := ((M.1 12) = 137 → (Q M O)) ∧ (¬ (M.1 12) = 137 → (((M.1 26) ≤ (M.1 11) → (Q M O)) ∧ (¬ (M.1 26) ≤ (M.1 11) → (vp_in (M.1 11) (N 11) ∧ (vp_in (M.1 11) (N 12) ∧ (vp_in (M.1 11) (N 13) ∧ (Q (fm (fm (fm (fm M 12 (M.2.1 11 (M.1 11).toNatClampNeg)) 13 (M.2.1 12 (M.1 11).toNatClampNeg)) 14 (M.2.1 13 (M.1 11).toNatClampNeg)) 11 ((M.1 11) + 1)) O)))))))
set_option maxRecDepth 20000 in
theorem soF_X7_advance {l : Launch} {g : b_S} (hg : g.1 = tb_R) (M : f_S3) (O : Nat × Nat) (Q : f_S3 → Nat × Nat → Prop) (hw : wF_X7_advance (b_N g)  M O Q) : f_MetV l g yX7_advance cX7_advance 1 (0) [.ref (b_o g 0)] M O Q := by
  refine f_MetV.of (C := RX7) (by decide) rfl (Nat.le_of_ble_eq_true rfl) (fun x Z hret => ?_)
  show f_G x g 1 O M O 0 [(0, .ref (b_o g 0))] []
  refine ac_aload_n Z.1 0 dX7_advance_0 rfl ?_
  refine f_geti Z b_X7 0 (oR_0 hg) 12 (by decide) (by decide) (fR_12 hg) fX7_62 rfl (v := (M.1 12)) rfl dX7_advance_1 ?_
  refine ac_sipush (v := 137) Z.1 dX7_advance_4 (by decide) ?_
  obtain ⟨hwt, hwf⟩ := hw
  refine ac_icmp_eq (tgt := 82) Z.1 dX7_advance_7 (by decide) (fun hc => ?_) (fun hc => ?_)
  · have hw := hwt hc
    exact hret _ _ _ _ dX7_advance_82 hw
  · have hw := hwf hc
    refine ac_aload_n Z.1 0 dX7_advance_10 rfl ?_
    refine f_geti Z b_X7 0 (oR_0 hg) 11 (by decide) (by decide) (fR_11 hg) fX7_72 rfl (v := (M.1 11)) rfl dX7_advance_11 ?_
    refine ac_aload_n Z.1 0 dX7_advance_14 rfl ?_
    refine f_getr Z b_X7 0 (oR_0 hg) 0 (by decide) (by decide) (fR_0 hg) fX7_22 rfl (h2 := (b_o g 1)) rfl dX7_advance_15 ?_
    refine f_geti Z b_X10 1 (oR_1 hg) 6 (by decide) (by decide) (fR_26 hg) fX7_75 rfl (v := (M.1 26)) rfl dX7_advance_18 ?_
    obtain ⟨hwt, hwf⟩ := hw
    refine ac_icmp_ge (tgt := 82) Z.1 dX7_advance_21 (by decide) (fun hc => ?_) (fun hc => ?_)
    · have hw := hwt hc
      exact hret _ _ _ _ dX7_advance_82 hw
    · have hw := hwf hc
      refine ac_aload_n Z.1 0 dX7_advance_24 rfl ?_
      refine ac_aload_n Z.1 0 dX7_advance_25 rfl ?_
      refine f_getr Z b_X7 0 (oR_0 hg) 0 (by decide) (by decide) (fR_0 hg) fX7_22 rfl (h2 := (b_o g 1)) rfl dX7_advance_26 ?_
      refine f_getr Z b_X10 1 (oR_1 hg) 3 (by decide) (by decide) (fR_23 hg) fX7_78 rfl (h2 := (b_o g 11)) rfl dX7_advance_29 ?_
      refine ac_aload_n Z.1 0 dX7_advance_32 rfl ?_
      refine f_geti Z b_X7 0 (oR_0 hg) 11 (by decide) (by decide) (fR_11 hg) fX7_72 rfl (v := (M.1 11)) rfl dX7_advance_33 ?_
      obtain ⟨hb1, hw⟩ := hw
      refine f_ald Z 1 (aR_11 hg) rfl hb1 (v := (M.2.1 11 (M.1 11).toNatClampNeg)) rfl dX7_advance_36 ?_
      refine f_put Z b_X7 0 (oR_0 hg) 12 (by decide) (by decide) (fR_12 hg) rfl rfl fX7_62 rfl (I := 12) rfl dX7_advance_37 ?_
      refine ac_aload_n Z.1 0 dX7_advance_40 rfl ?_
      refine ac_aload_n Z.1 0 dX7_advance_41 rfl ?_
      refine f_getr Z b_X7 0 (oR_0 hg) 0 (by decide) (by decide) (fR_0 hg) fX7_22 rfl (h2 := (b_o g 1)) rfl dX7_advance_42 ?_
      refine f_getr Z b_X10 1 (oR_1 hg) 4 (by decide) (by decide) (fR_24 hg) fX7_81 rfl (h2 := (b_o g 12)) rfl dX7_advance_45 ?_
      refine ac_aload_n Z.1 0 dX7_advance_48 rfl ?_
      refine f_geti Z b_X7 0 (oR_0 hg) 11 (by decide) (by decide) (fR_11 hg) fX7_72 rfl (v := (M.1 11)) rfl dX7_advance_49 ?_
      obtain ⟨hb2, hw⟩ := hw
      refine f_ald Z 2 (aR_12 hg) rfl hb2 (v := (M.2.1 12 (M.1 11).toNatClampNeg)) rfl dX7_advance_52 ?_
      refine f_put Z b_X7 0 (oR_0 hg) 13 (by decide) (by decide) (fR_13 hg) rfl rfl fX7_84 rfl (I := 13) rfl dX7_advance_53 ?_
      refine ac_aload_n Z.1 0 dX7_advance_56 rfl ?_
      refine ac_aload_n Z.1 0 dX7_advance_57 rfl ?_
      refine f_getr Z b_X7 0 (oR_0 hg) 0 (by decide) (by decide) (fR_0 hg) fX7_22 rfl (h2 := (b_o g 1)) rfl dX7_advance_58 ?_
      refine f_getr Z b_X10 1 (oR_1 hg) 5 (by decide) (by decide) (fR_25 hg) fX7_87 rfl (h2 := (b_o g 13)) rfl dX7_advance_61 ?_
      refine ac_aload_n Z.1 0 dX7_advance_64 rfl ?_
      refine f_geti Z b_X7 0 (oR_0 hg) 11 (by decide) (by decide) (fR_11 hg) fX7_72 rfl (v := (M.1 11)) rfl dX7_advance_65 ?_
      obtain ⟨hb3, hw⟩ := hw
      refine f_ald Z 3 (aR_13 hg) rfl hb3 (v := (M.2.1 13 (M.1 11).toNatClampNeg)) rfl dX7_advance_68 ?_
      refine f_put Z b_X7 0 (oR_0 hg) 14 (by decide) (by decide) (fR_14 hg) rfl rfl fX7_90 rfl (I := 14) rfl dX7_advance_69 ?_
      refine ac_aload_n Z.1 0 dX7_advance_72 rfl ?_
      refine ac_dup Z.1 dX7_advance_73 rfl ?_
      refine f_geti Z b_X7 0 (oR_0 hg) 11 (by decide) (by decide) (fR_11 hg) fX7_72 rfl (v := (M.1 11)) rfl dX7_advance_74 ?_
      refine ac_iconst (v := 1) Z.1 dX7_advance_77 (by decide) ?_
      refine ac_iadd Z.1 dX7_advance_78 ?_
      refine f_put Z b_X7 0 (oR_0 hg) 11 (by decide) (by decide) (fR_11 hg) rfl rfl fX7_72 rfl (I := 11) rfl dX7_advance_79 ?_
      exact hret _ _ _ _ dX7_advance_82 hw
def wF_X7_fail_20 (N : Nat → Nat) (Q : f_S3 → Nat × Nat → Prop) (M : f_S3) (O : Nat × Nat) : Prop := Q (fm M 12 137) O
set_option maxRecDepth 20000 in
theorem sF_X7_fail_20 {x : ac_X} {g : b_S} (hg : g.1 = tb_R) {l : Launch} {O0 : Nat × Nat} {Q : f_S3 → Nat × Nat → Prop} (Z : b_Cx x g l RX7 cX7_fail 1 (0) O0) (hret : f_RV x g 1 cX7_fail O0 Q) (M : f_S3) (O : Nat × Nat) (hw : wF_X7_fail_20 (b_N g) Q M O) : f_G x g 1 O0 M O 20 [(0, .ref (b_o g 0))] [] := by
  refine ac_aload_n Z.1 0 dX7_fail_20 rfl ?_
  refine ac_sipush (v := 137) Z.1 dX7_fail_21 (by decide) ?_
  refine f_put Z b_X7 0 (oR_0 hg) 12 (by decide) (by decide) (fR_12 hg) rfl rfl fX7_62 rfl (I := 12) rfl dX7_fail_24 ?_
  exact hret _ _ _ _ dX7_fail_27 hw
def wF_X7_fail (N : Nat → Nat) (M : f_S3) (O : Nat × Nat) (Q : f_S3 → Nat × Nat → Prop) : Prop := ((M.1 12) = 137 → (wF_X7_fail_20 N Q M O)) ∧ (¬ (M.1 12) = 137 → (vp_in 1 (N 28) ∧ (wF_X7_fail_20 N Q (ff M 28 1 (M.1 14)) O)))
set_option maxRecDepth 20000 in
theorem soF_X7_fail {l : Launch} {g : b_S} (hg : g.1 = tb_R) (M : f_S3) (O : Nat × Nat) (Q : f_S3 → Nat × Nat → Prop) (hw : wF_X7_fail (b_N g)  M O Q) : f_MetV l g yX7_fail cX7_fail 1 (0) [.ref (b_o g 0)] M O Q := by
  refine f_MetV.of (C := RX7) (by decide) rfl (Nat.le_of_ble_eq_true rfl) (fun x Z hret => ?_)
  show f_G x g 1 O M O 0 [(0, .ref (b_o g 0))] []
  refine ac_aload_n Z.1 0 dX7_fail_0 rfl ?_
  refine f_geti Z b_X7 0 (oR_0 hg) 12 (by decide) (by decide) (fR_12 hg) fX7_62 rfl (v := (M.1 12)) rfl dX7_fail_1 ?_
  refine ac_sipush (v := 137) Z.1 dX7_fail_4 (by decide) ?_
  obtain ⟨hwt, hwf⟩ := hw
  refine ac_icmp_eq (tgt := 20) Z.1 dX7_fail_7 (by decide) (fun hc => ?_) (fun hc => ?_)
  · have hw := hwt hc
    exact sF_X7_fail_20 hg Z hret _ _ hw
  · have hw := hwf hc
    refine ac_aload_n Z.1 0 dX7_fail_10 rfl ?_
    refine f_getr Z b_X7 0 (oR_0 hg) 7 (by decide) (by decide) (fR_7 hg) fX7_11 rfl (h2 := (b_o g 28)) rfl dX7_fail_11 ?_
    refine ac_iconst (v := 1) Z.1 dX7_fail_14 (by decide) ?_
    refine ac_aload_n Z.1 0 dX7_fail_15 rfl ?_
    refine f_geti Z b_X7 0 (oR_0 hg) 14 (by decide) (by decide) (fR_14 hg) fX7_90 rfl (v := (M.1 14)) rfl dX7_fail_16 ?_
    obtain ⟨hb1, hw⟩ := hw
    refine f_ast Z 15 (aR_28 hg) rfl hb1 dX7_fail_19 ?_
    exact sF_X7_fail_20 hg Z hret _ _ hw
def wF_X7_take (N : Nat → Nat) (p1 : Int32) (M : f_S3) (O : Nat × Nat) (Q : f_S3 → Nat × Nat → Prop) : Prop := (¬ (M.1 12) = p1 → (wF_X7_fail N M O (fun M1 O1 => (Q M1 O1)))) ∧ ((M.1 12) = p1 → (wF_X7_advance N M O (fun M2 O2 => (Q M2 O2))))
set_option maxRecDepth 20000 in
theorem soF_X7_take {l : Launch} {g : b_S} (hg : g.1 = tb_R) (p1 : Int32) (M : f_S3) (O : Nat × Nat) (Q : f_S3 → Nat × Nat → Prop) (hw : wF_X7_take (b_N g) p1 M O Q) : f_MetV l g yX7_take cX7_take 2 (1) [.ref (b_o g 0), .int p1] M O Q := by
  refine f_MetV.of (C := RX7) (by decide) rfl (Nat.le_of_ble_eq_true rfl) (fun x Z hret => ?_)
  show f_G x g 2 O M O 0 [(0, .ref (b_o g 0)), (1, .int p1)] []
  refine ac_aload_n Z.1 0 dX7_take_0 rfl ?_
  refine f_geti Z b_X7 0 (oR_0 hg) 12 (by decide) (by decide) (fR_12 hg) fX7_62 rfl (v := (M.1 12)) rfl dX7_take_1 ?_
  refine ac_iload_n Z.1 1 dX7_take_4 rfl ?_
  obtain ⟨hwt, hwf⟩ := hw
  refine ac_icmp_ne (tgt := 15) Z.1 dX7_take_5 (by decide) (fun hc => ?_) (fun hc => ?_)
  · have hw := hwt hc
    refine ac_aload_n Z.1 0 dX7_take_15 rfl ?_
    refine f_callv (As := []) (st := []) Z b_X7.1 0 (oR_0 hg) rfl kX7_fail lkX7_93 (by omega) (soF_X7_fail hg   _ _ _ hw) rfl rfl (Nat.le_of_ble_eq_true rfl) dX7_take_16 (fun M1 O1 hw => ?_)
    exact hret _ _ _ _ dX7_take_19 hw
  · have hw := hwf hc
    refine ac_aload_n Z.1 0 dX7_take_8 rfl ?_
    refine f_callv (As := []) (st := []) Z b_X7.1 0 (oR_0 hg) rfl kX7_advance lkX7_59 (by omega) (soF_X7_advance hg   _ _ _ hw) rfl rfl (Nat.le_of_ble_eq_true rfl) dX7_take_9 (fun M2 O2 hw => ?_)
    refine ac_goto (tgt := 19) Z.1 dX7_take_12 (by decide) ?_
    exact hret _ _ _ _ dX7_take_19 hw
def wF_X7_putFault (N : Nat → Nat) (p1 : Int32) (p2 : Int32) (M : f_S3) (O : Nat × Nat) (Q : f_S3 → Nat × Nat → Prop) : Prop := (p1 < 1 → (Q M O)) ∧ (¬ p1 < 1 → ((4 < p1 → (Q M O)) ∧ (¬ 4 < p1 → (vp_in p1 (N 28) ∧ ((¬ (M.2.1 28 p1.toNatClampNeg) = (-1) → (Q M O)) ∧ ((M.2.1 28 p1.toNatClampNeg) = (-1) → (vp_in p1 (N 28) ∧ (Q (ff M 28 p1 p2) O))))))))
set_option maxRecDepth 20000 in
theorem soF_X7_putFault {l : Launch} {g : b_S} (hg : g.1 = tb_R) (p1 : Int32) (p2 : Int32) (M : f_S3) (O : Nat × Nat) (Q : f_S3 → Nat × Nat → Prop) (hw : wF_X7_putFault (b_N g) p1 p2 M O Q) : f_MetV l g yX7_putFault cX7_putFault 3 (0) [.ref (b_o g 0), .int p1, .int p2] M O Q := by
  refine f_MetV.of (C := RX7) (by decide) rfl (Nat.le_of_ble_eq_true rfl) (fun x Z hret => ?_)
  show f_G x g 3 O M O 0 [(0, .ref (b_o g 0)), (1, .int p1), (2, .int p2)] []
  refine ac_iload_n Z.1 1 dX7_putFault_0 rfl ?_
  refine ac_iconst (v := 1) Z.1 dX7_putFault_1 (by decide) ?_
  obtain ⟨hwt, hwf⟩ := hw
  refine ac_icmp_lt (tgt := 27) Z.1 dX7_putFault_2 (by decide) (fun hc => ?_) (fun hc => ?_)
  · have hw := hwt hc
    exact hret _ _ _ _ dX7_putFault_27 hw
  · have hw := hwf hc
    refine ac_iload_n Z.1 1 dX7_putFault_5 rfl ?_
    refine ac_iconst (v := 4) Z.1 dX7_putFault_6 (by decide) ?_
    obtain ⟨hwt, hwf⟩ := hw
    refine ac_icmp_gt (tgt := 27) Z.1 dX7_putFault_7 (by decide) (fun hc => ?_) (fun hc => ?_)
    · have hw := hwt hc
      exact hret _ _ _ _ dX7_putFault_27 hw
    · have hw := hwf hc
      refine ac_aload_n Z.1 0 dX7_putFault_10 rfl ?_
      refine f_getr Z b_X7 0 (oR_0 hg) 7 (by decide) (by decide) (fR_7 hg) fX7_11 rfl (h2 := (b_o g 28)) rfl dX7_putFault_11 ?_
      refine ac_iload_n Z.1 1 dX7_putFault_14 rfl ?_
      obtain ⟨hb1, hw⟩ := hw
      refine f_ald Z 15 (aR_28 hg) rfl hb1 (v := (M.2.1 28 p1.toNatClampNeg)) rfl dX7_putFault_15 ?_
      refine ac_iconst (v := (-1)) Z.1 dX7_putFault_16 (by decide) ?_
      obtain ⟨hwt, hwf⟩ := hw
      refine ac_icmp_ne (tgt := 27) Z.1 dX7_putFault_17 (by decide) (fun hc => ?_) (fun hc => ?_)
      · have hw := hwt hc
        exact hret _ _ _ _ dX7_putFault_27 hw
      · have hw := hwf hc
        refine ac_aload_n Z.1 0 dX7_putFault_20 rfl ?_
        refine f_getr Z b_X7 0 (oR_0 hg) 7 (by decide) (by decide) (fR_7 hg) fX7_11 rfl (h2 := (b_o g 28)) rfl dX7_putFault_21 ?_
        refine ac_iload_n Z.1 1 dX7_putFault_24 rfl ?_
        refine ac_iload_n Z.1 2 dX7_putFault_25 rfl ?_
        obtain ⟨hb2, hw⟩ := hw
        refine f_ast Z 15 (aR_28 hg) rfl hb2 dX7_putFault_26 ?_
        exact hret _ _ _ _ dX7_putFault_27 hw
def wF_X7_nameHearing_98 (N : Nat → Nat) (Q : f_S3 → Nat × Nat → Prop) (M : f_S3) (O : Nat × Nat) : Prop := wF_X7_take N 130 M O (fun M1 O1 => (Q M1 O1))
set_option maxRecDepth 20000 in
theorem sF_X7_nameHearing_98 {x : ac_X} {g : b_S} (hg : g.1 = tb_R) {l : Launch} {O0 : Nat × Nat} {Q : f_S3 → Nat × Nat → Prop} (Z : b_Cx x g l RX7 cX7_nameHearing 2 (2) O0) (hret : f_RV x g 2 cX7_nameHearing O0 Q) (M : f_S3) (O : Nat × Nat) (hw : wF_X7_nameHearing_98 (b_N g) Q M O) : f_G x g 2 O0 M O 98 [(0, .ref (b_o g 0))] [] := by
  refine ac_aload_n Z.1 0 dX7_nameHearing_98 rfl ?_
  refine ac_sipush (v := 130) Z.1 dX7_nameHearing_99 (by decide) ?_
  refine f_callv (As := [.int 130]) (st := []) Z b_X7.1 0 (oR_0 hg) rfl kX7_take lkX7_100 (by omega) (soF_X7_take hg  _ _ _ _ hw) rfl rfl (Nat.le_of_ble_eq_true rfl) dX7_nameHearing_102 (fun M1 O1 hw => ?_)
  exact hret _ _ _ _ dX7_nameHearing_105 hw
def wF_X7_nameHearing_18 (N : Nat → Nat) (Q : f_S3 → Nat × Nat → Prop) (M : f_S3) (O : Nat × Nat) : Prop := (¬ (M.1 12) = 130 → (wF_X7_nameHearing_98 N Q (fm (fm M 9 0) 10 0) O)) ∧ ((M.1 12) = 130 → (((M.1 13) < 0 → (wF_X7_nameHearing_98 N Q (fm (fm M 9 0) 10 0) O)) ∧ (¬ (M.1 13) < 0 → (((nI (N 25)) ≤ (M.1 13) → (wF_X7_nameHearing_98 N Q (fm (fm M 9 0) 10 0) O)) ∧ (¬ (nI (N 25)) ≤ (M.1 13) → (vp_in (M.1 13) (N 25) ∧ ((¬ (M.2.1 25 (M.1 13).toNatClampNeg) = (-1) → (wF_X7_putFault N 2 (M.1 14) (fm (fm M 9 0) 10 0) O (fun M3 O3 => (wF_X7_nameHearing_98 N Q M3 O3)))) ∧ ((M.2.1 25 (M.1 13).toNatClampNeg) = (-1) → (vp_in (M.1 13) (N 25) ∧ (wF_X7_nameHearing_98 N Q (ff (fm (fm M 9 0) 10 0) 25 (M.1 13) (M.1 64)) O))))))))))
set_option maxRecDepth 20000 in
theorem sF_X7_nameHearing_18 {x : ac_X} {g : b_S} (hg : g.1 = tb_R) {l : Launch} {O0 : Nat × Nat} {Q : f_S3 → Nat × Nat → Prop} (Z : b_Cx x g l RX7 cX7_nameHearing 2 (2) O0) (hret : f_RV x g 2 cX7_nameHearing O0 Q) (M : f_S3) (O : Nat × Nat) (hw : wF_X7_nameHearing_18 (b_N g) Q M O) : f_G x g 2 O0 M O 18 [(0, .ref (b_o g 0))] [] := by
  refine ac_aload_n Z.1 0 dX7_nameHearing_18 rfl ?_
  refine ac_iconst (v := 0) Z.1 dX7_nameHearing_19 (by decide) ?_
  refine f_put Z b_X7 0 (oR_0 hg) 9 (by decide) (by decide) (fR_9 hg) rfl rfl fX7_136 rfl (I := 9) rfl dX7_nameHearing_20 ?_
  refine ac_aload_n Z.1 0 dX7_nameHearing_23 rfl ?_
  refine ac_iconst (v := 0) Z.1 dX7_nameHearing_24 (by decide) ?_
  refine f_put Z b_X7 0 (oR_0 hg) 10 (by decide) (by decide) (fR_10 hg) rfl rfl fX7_139 rfl (I := 10) rfl dX7_nameHearing_25 ?_
  refine ac_aload_n Z.1 0 dX7_nameHearing_28 rfl ?_
  refine f_geti Z b_X7 0 (oR_0 hg) 12 (by decide) (by decide) (fR_12 hg) fX7_62 rfl (v := (M.1 12)) rfl dX7_nameHearing_29 ?_
  refine ac_sipush (v := 130) Z.1 dX7_nameHearing_32 (by decide) ?_
  obtain ⟨hwt, hwf⟩ := hw
  refine ac_icmp_ne (tgt := 98) Z.1 dX7_nameHearing_35 (by decide) (fun hc => ?_) (fun hc => ?_)
  · have hw := hwt hc
    exact sF_X7_nameHearing_98 hg Z hret _ _ hw
  · have hw := hwf hc
    refine ac_aload_n Z.1 0 dX7_nameHearing_38 rfl ?_
    refine f_geti Z b_X7 0 (oR_0 hg) 13 (by decide) (by decide) (fR_13 hg) fX7_84 rfl (v := (M.1 13)) rfl dX7_nameHearing_39 ?_
    obtain ⟨hwt, hwf⟩ := hw
    refine ac_if_lt (tgt := 98) Z.1 dX7_nameHearing_42 (by decide) (fun hc => ?_) (fun hc => ?_)
    · have hw := hwt hc
      exact sF_X7_nameHearing_98 hg Z hret _ _ hw
    · have hw := hwf hc
      refine ac_aload_n Z.1 0 dX7_nameHearing_45 rfl ?_
      refine f_geti Z b_X7 0 (oR_0 hg) 13 (by decide) (by decide) (fR_13 hg) fX7_84 rfl (v := (M.1 13)) rfl dX7_nameHearing_46 ?_
      refine ac_aload_n Z.1 0 dX7_nameHearing_49 rfl ?_
      refine f_getr Z b_X7 0 (oR_0 hg) 4 (by decide) (by decide) (fR_4 hg) fX7_41 rfl (h2 := (b_o g 25)) rfl dX7_nameHearing_50 ?_
      refine f_alen Z 12 (aR_25 hg) rfl (v := (nI (b_N g 25))) rfl dX7_nameHearing_53 (by decide) ?_
      obtain ⟨hwt, hwf⟩ := hw
      refine ac_icmp_ge (tgt := 98) Z.1 dX7_nameHearing_54 (by decide) (fun hc => ?_) (fun hc => ?_)
      · have hw := hwt hc
        exact sF_X7_nameHearing_98 hg Z hret _ _ hw
      · have hw := hwf hc
        refine ac_aload_n Z.1 0 dX7_nameHearing_57 rfl ?_
        refine f_getr Z b_X7 0 (oR_0 hg) 4 (by decide) (by decide) (fR_4 hg) fX7_41 rfl (h2 := (b_o g 25)) rfl dX7_nameHearing_58 ?_
        refine ac_aload_n Z.1 0 dX7_nameHearing_61 rfl ?_
        refine f_geti Z b_X7 0 (oR_0 hg) 13 (by decide) (by decide) (fR_13 hg) fX7_84 rfl (v := (M.1 13)) rfl dX7_nameHearing_62 ?_
        obtain ⟨hb2, hw⟩ := hw
        refine f_ald Z 12 (aR_25 hg) rfl hb2 (v := (M.2.1 25 (M.1 13).toNatClampNeg)) rfl dX7_nameHearing_65 ?_
        refine ac_iconst (v := (-1)) Z.1 dX7_nameHearing_66 (by decide) ?_
        obtain ⟨hwt, hwf⟩ := hw
        refine ac_icmp_ne (tgt := 89) Z.1 dX7_nameHearing_67 (by decide) (fun hc => ?_) (fun hc => ?_)
        · have hw := hwt hc
          refine ac_aload_n Z.1 0 dX7_nameHearing_89 rfl ?_
          refine ac_iconst (v := 2) Z.1 dX7_nameHearing_90 (by decide) ?_
          refine ac_aload_n Z.1 0 dX7_nameHearing_91 rfl ?_
          refine f_geti Z b_X7 0 (oR_0 hg) 14 (by decide) (by decide) (fR_14 hg) fX7_90 rfl (v := (M.1 14)) rfl dX7_nameHearing_92 ?_
          refine f_callv (As := [.int 2, .int (M.1 14)]) (st := []) Z b_X7.1 0 (oR_0 hg) rfl kX7_putFault lkX7_133 (by omega) (soF_X7_putFault hg  _ _ _ _ _ hw) rfl rfl (Nat.le_of_ble_eq_true rfl) dX7_nameHearing_95 (fun M3 O3 hw => ?_)
          exact sF_X7_nameHearing_98 hg Z hret _ _ hw
        · have hw := hwf hc
          refine ac_aload_n Z.1 0 dX7_nameHearing_70 rfl ?_
          refine f_getr Z b_X7 0 (oR_0 hg) 4 (by decide) (by decide) (fR_4 hg) fX7_41 rfl (h2 := (b_o g 25)) rfl dX7_nameHearing_71 ?_
          refine ac_aload_n Z.1 0 dX7_nameHearing_74 rfl ?_
          refine f_geti Z b_X7 0 (oR_0 hg) 13 (by decide) (by decide) (fR_13 hg) fX7_84 rfl (v := (M.1 13)) rfl dX7_nameHearing_75 ?_
          refine ac_aload_n Z.1 0 dX7_nameHearing_78 rfl ?_
          refine f_getr Z b_X7 0 (oR_0 hg) 1 (by decide) (by decide) (fR_1 hg) fX7_31 rfl (h2 := (b_o g 3)) rfl dX7_nameHearing_79 ?_
          refine f_geti Z b_X6 3 (oR_3 hg) 4 (by decide) (by decide) (fR_64 hg) fX7_130 rfl (v := (M.1 64)) rfl dX7_nameHearing_82 ?_
          obtain ⟨hb4, hw⟩ := hw
          refine f_ast Z 12 (aR_25 hg) rfl hb4 dX7_nameHearing_85 ?_
          refine ac_goto (tgt := 98) Z.1 dX7_nameHearing_86 (by decide) ?_
          exact sF_X7_nameHearing_98 hg Z hret _ _ hw
def wF_X7_nameHearing (N : Nat → Nat) (p1 : Int32) (M : f_S3) (O : Nat × Nat) (Q : f_S3 → Nat × Nat → Prop) : Prop := ((M.1 64) < 16 → (wF_X7_nameHearing_18 N Q M O)) ∧ (¬ (M.1 64) < 16 → (wF_X7_putFault N 3 p1 M O (fun M5 O5 => (wF_X7_nameHearing_18 N Q M5 O5))))
set_option maxRecDepth 20000 in
theorem soF_X7_nameHearing {l : Launch} {g : b_S} (hg : g.1 = tb_R) (p1 : Int32) (M : f_S3) (O : Nat × Nat) (Q : f_S3 → Nat × Nat → Prop) (hw : wF_X7_nameHearing (b_N g) p1 M O Q) : f_MetV l g yX7_nameHearing cX7_nameHearing 2 (2) [.ref (b_o g 0), .int p1] M O Q := by
  refine f_MetV.of (C := RX7) (by decide) rfl (Nat.le_of_ble_eq_true rfl) (fun x Z hret => ?_)
  show f_G x g 2 O M O 0 [(0, .ref (b_o g 0)), (1, .int p1)] []
  refine ac_aload_n Z.1 0 dX7_nameHearing_0 rfl ?_
  refine f_getr Z b_X7 0 (oR_0 hg) 1 (by decide) (by decide) (fR_1 hg) fX7_31 rfl (h2 := (b_o g 3)) rfl dX7_nameHearing_1 ?_
  refine f_geti Z b_X6 3 (oR_3 hg) 4 (by decide) (by decide) (fR_64 hg) fX7_130 rfl (v := (M.1 64)) rfl dX7_nameHearing_4 ?_
  refine ac_bipush (v := 16) Z.1 dX7_nameHearing_7 (by decide) ?_
  obtain ⟨hwt, hwf⟩ := hw
  refine ac_icmp_lt (tgt := 18) Z.1 dX7_nameHearing_9 (by decide) (fun hc => ?_) (fun hc => ?_)
  · have hw := hwt hc
    refine ac_lv [0] rfl ?_
    exact sF_X7_nameHearing_18 hg Z hret _ _ hw
  · have hw := hwf hc
    refine ac_aload_n Z.1 0 dX7_nameHearing_12 rfl ?_
    refine ac_iconst (v := 3) Z.1 dX7_nameHearing_13 (by decide) ?_
    refine ac_iload_n Z.1 1 dX7_nameHearing_14 rfl ?_
    refine f_callv (As := [.int 3, .int p1]) (st := []) Z b_X7.1 0 (oR_0 hg) rfl kX7_putFault lkX7_133 (by omega) (soF_X7_putFault hg  _ _ _ _ _ hw) rfl rfl (Nat.le_of_ble_eq_true rfl) dX7_nameHearing_15 (fun M5 O5 hw => ?_)
    refine ac_lv [0] rfl ?_
    exact sF_X7_nameHearing_18 hg Z hret _ _ hw
