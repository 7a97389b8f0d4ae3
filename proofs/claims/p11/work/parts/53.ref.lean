def w_among_99 (K15 : (Nat → Int32 → Int32 → Int32 → (Nat → Int32) → (Nat → Nat → Int32) → Prop)) (Q : Int32 → (Nat → Int32) → (Nat → Nat → Int32) → Prop) : Nat → Nat → Int32 → Int32 → Int32 → (Nat → Int32) → (Nat → Nat → Int32) → Prop
  | 0 => fun _ _ _ _ _ _ => False
  | n + 1 => fun a1 a2 a3 a4 M F => (vp_in a4 (s_len.getD a1 0) ∧ (((s_ch a1 a4) = 32 → (K15 a1 a2 (a3 + 1) (a4 + 1) M F)) ∧ (¬ (s_ch a1 a4) = 32 → (w_among_99 K15 Q n a1 a2 a3 (a4 + 1) M F))))
set_option maxRecDepth 20000 in
theorem s_among_99 {x : ac_X} {g : r_S} {l : Launch} {K15 : (Nat → Int32 → Int32 → Int32 → (Nat → Int32) → (Nat → Nat → Int32) → Prop)} {Q : Int32 → (Nat → Int32) → (Nat → Nat → Int32) → Prop} (Z : r_Cx x g l cX12_among 6 (6)) (hret : r_RI x g 6 cX12_among .int Q) (hK15 : ∀ (a1 : Nat) (a2 : Int32) (a3 : Int32) (a4 : Int32) (M : Nat → Int32) (F : Nat → Nat → Int32), a1 < 4 → K15 a1 a2 a3 a4 M F → ac_G x (r_R g) 6 (r_P g M F) 0 0 15 [(0, .ref (r_h g)), (1, .ref (r_sK g a1)), (2, .int a2), (3, .int a3), (4, .int a4)] []) : ∀ (n : Nat) (a1 : Nat) (a2 : Int32) (a3 : Int32) (a4 : Int32) (M : Nat → Int32) (F : Nat → Nat → Int32), a1 < 4 → w_among_99 K15 Q n a1 a2 a3 a4 M F → ac_G x (r_R g) 6 (r_P g M F) 0 0 99 [(0, .ref (r_h g)), (1, .ref (r_sK g a1)), (2, .int a2), (3, .int a3), (4, .int a4)] [] := by
  intro n
  induction n with
  | zero => intro _ _ _ _ _ _ h_a1 hw; exact hw.elim
  | succ n ih =>
    intro a1 a2 a3 a4 M F h_a1 hw
    dsimp only [w_among_99] at hw
    refine ac_aload_n Z.1 1 dX12_among_99 rfl ?_
    refine ac_iload Z.1 4 dX12_among_100 rfl ?_
    obtain ⟨hb1, hw⟩ := hw
    refine r_schar (st := []) Z h_a1 (by omega) lkS_190 hb1 dX12_among_102 (Nat.le_of_ble_eq_true rfl) ?_
    refine ac_bipush (v := 32) Z.1 dX12_among_105 (by decide) ?_
    obtain ⟨hwt, hwf⟩ := hw
    refine ac_icmp_eq (tgt := 116) Z.1 dX12_among_107 (by decide) (fun hc => ?_) (fun hc => ?_)
    · have hw := hwt hc
      refine ac_iinc (w := (a4 + 1)) (lv' := [(4, .int (a4 + 1)), (0, .ref (r_h g)), (1, .ref (r_sK g a1)), (2, .int a2), (3, .int a3)]) Z.1 4 dX12_among_116 rfl rfl (by decide) rfl ?_
      refine ac_iinc (w := (a3 + 1)) (lv' := [(3, .int (a3 + 1)), (4, .int (a4 + 1)), (0, .ref (r_h g)), (1, .ref (r_sK g a1)), (2, .int a2)]) Z.1 4 dX12_among_119 rfl rfl (by decide) rfl ?_
      refine ac_goto (tgt := 15) Z.1 dX12_among_122 (by decide) ?_
      refine ac_lv [2, 3, 4, 0, 1] rfl ?_
      exact hK15 _ _ _ _ _ _ h_a1 hw
    · have hw := hwf hc
      refine ac_iinc (w := (a4 + 1)) (lv' := [(4, .int (a4 + 1)), (0, .ref (r_h g)), (1, .ref (r_sK g a1)), (2, .int a2), (3, .int a3)]) Z.1 4 dX12_among_110 rfl rfl (by decide) rfl ?_
      refine ac_goto (tgt := 99) Z.1 dX12_among_113 (by decide) ?_
      refine ac_lv [1, 2, 3, 4, 0] rfl ?_
      exact ih _ _ _ _ _ _ h_a1 hw
def w_among_77 (K15 : (Nat → Int32 → Int32 → Int32 → (Nat → Int32) → (Nat → Nat → Int32) → Prop)) (Q : Int32 → (Nat → Int32) → (Nat → Nat → Int32) → Prop) (a1 : Nat) (a2 : Int32) (a3 : Int32) (a4 : Int32) (a5 : Int32) (M : Nat → Int32) (F : Nat → Nat → Int32) : Prop := (¬ a5 = a2 → (∃ e99, w_among_99 K15 Q e99 a1 a2 a3 a4 M F)) ∧ (a5 = a2 → (vp_in (a4 + a5) (s_len.getD a1 0) ∧ ((¬ (s_ch a1 (a4 + a5)) = 32 → (∃ e99, w_among_99 K15 Q e99 a1 a2 a3 a4 M F)) ∧ ((s_ch a1 (a4 + a5)) = 32 → (Q a3 M F)))))
set_option maxRecDepth 20000 in
theorem s_among_77 {x : ac_X} {g : r_S} {l : Launch} {K15 : (Nat → Int32 → Int32 → Int32 → (Nat → Int32) → (Nat → Nat → Int32) → Prop)} {Q : Int32 → (Nat → Int32) → (Nat → Nat → Int32) → Prop} (Z : r_Cx x g l cX12_among 6 (6)) (hret : r_RI x g 6 cX12_among .int Q) (hK15 : ∀ (a1 : Nat) (a2 : Int32) (a3 : Int32) (a4 : Int32) (M : Nat → Int32) (F : Nat → Nat → Int32), a1 < 4 → K15 a1 a2 a3 a4 M F → ac_G x (r_R g) 6 (r_P g M F) 0 0 15 [(0, .ref (r_h g)), (1, .ref (r_sK g a1)), (2, .int a2), (3, .int a3), (4, .int a4)] []) (a1 : Nat) (a2 : Int32) (a3 : Int32) (a4 : Int32) (a5 : Int32) (M : Nat → Int32) (F : Nat → Nat → Int32) (h_a1 : a1 < 4) (hw : w_among_77 K15 Q a1 a2 a3 a4 a5 M F) : ac_G x (r_R g) 6 (r_P g M F) 0 0 77 [(0, .ref (r_h g)), (1, .ref (r_sK g a1)), (2, .int a2), (3, .int a3), (4, .int a4), (5, .int a5)] [] := by
  refine ac_iload Z.1 5 dX12_among_77 rfl ?_
  refine ac_iload_n Z.1 2 dX12_among_79 rfl ?_
  obtain ⟨hwt, hwf⟩ := hw
  refine ac_icmp_ne (tgt := 99) Z.1 dX12_among_80 (by decide) (fun hc => ?_) (fun hc => ?_)
  · have hw := hwt hc
    obtain ⟨n, hw⟩ := hw
    refine ac_lv [0, 1, 2, 3, 4] rfl ?_
    exact s_among_99 Z hret hK15 n _ _ _ _ _ _ h_a1 hw
  · have hw := hwf hc
    refine ac_aload_n Z.1 1 dX12_among_83 rfl ?_
    refine ac_iload Z.1 4 dX12_among_84 rfl ?_
    refine ac_iload Z.1 5 dX12_among_86 rfl ?_
    refine ac_iadd Z.1 dX12_among_88 ?_
    obtain ⟨hb2, hw⟩ := hw
    refine r_schar (st := []) Z h_a1 (by omega) lkS_190 hb2 dX12_among_89 (Nat.le_of_ble_eq_true rfl) ?_
    refine ac_bipush (v := 32) Z.1 dX12_among_92 (by decide) ?_
    obtain ⟨hwt, hwf⟩ := hw
    refine ac_icmp_ne (tgt := 99) Z.1 dX12_among_94 (by decide) (fun hc => ?_) (fun hc => ?_)
    · have hw := hwt hc
      obtain ⟨n, hw⟩ := hw
      refine ac_lv [0, 1, 2, 3, 4] rfl ?_
      exact s_among_99 Z hret hK15 n _ _ _ _ _ _ h_a1 hw
    · have hw := hwf hc
      refine ac_iload_n Z.1 3 dX12_among_97 rfl ?_
      exact hret _ _ _ _ _ dX12_among_98 rfl hw
def w_among_27 (K15 : (Nat → Int32 → Int32 → Int32 → (Nat → Int32) → (Nat → Nat → Int32) → Prop)) (Q : Int32 → (Nat → Int32) → (Nat → Nat → Int32) → Prop) : Nat → Nat → Int32 → Int32 → Int32 → Int32 → (Nat → Int32) → (Nat → Nat → Int32) → Prop
  | 0 => fun _ _ _ _ _ _ _ => False
  | n + 1 => fun a1 a2 a3 a4 a5 M F => ((a2 ≤ a5 → (w_among_77 K15 Q a1 a2 a3 a4 a5 M F)) ∧ (¬ a2 ≤ a5 → (vp_in (a4 + a5) (s_len.getD a1 0) ∧ (((s_ch a1 (a4 + a5)) = 32 → (w_among_77 K15 Q a1 a2 a3 a4 a5 M F)) ∧ (¬ (s_ch a1 (a4 + a5)) = 32 → (vp_in (a4 + a5) (s_len.getD a1 0) ∧ (vp_in ((M 6) + a5) 4020 ∧ ((¬ (s_ch a1 (a4 + a5)) = ((F 0) (((M 6) + a5)).toNatClampNeg) → (w_among_77 K15 Q a1 a2 a3 a4 a5 M F)) ∧ ((s_ch a1 (a4 + a5)) = ((F 0) (((M 6) + a5)).toNatClampNeg) → (w_among_27 K15 Q n a1 a2 a3 a4 (a5 + 1) M F))))))))))
set_option maxRecDepth 20000 in
theorem s_among_27 {x : ac_X} {g : r_S} {l : Launch} {K15 : (Nat → Int32 → Int32 → Int32 → (Nat → Int32) → (Nat → Nat → Int32) → Prop)} {Q : Int32 → (Nat → Int32) → (Nat → Nat → Int32) → Prop} (Z : r_Cx x g l cX12_among 6 (6)) (hret : r_RI x g 6 cX12_among .int Q) (hK15 : ∀ (a1 : Nat) (a2 : Int32) (a3 : Int32) (a4 : Int32) (M : Nat → Int32) (F : Nat → Nat → Int32), a1 < 4 → K15 a1 a2 a3 a4 M F → ac_G x (r_R g) 6 (r_P g M F) 0 0 15 [(0, .ref (r_h g)), (1, .ref (r_sK g a1)), (2, .int a2), (3, .int a3), (4, .int a4)] []) : ∀ (n : Nat) (a1 : Nat) (a2 : Int32) (a3 : Int32) (a4 : Int32) (a5 : Int32) (M : Nat → Int32) (F : Nat → Nat → Int32), a1 < 4 → w_among_27 K15 Q n a1 a2 a3 a4 a5 M F → ac_G x (r_R g) 6 (r_P g M F) 0 0 27 [(0, .ref (r_h g)), (1, .ref (r_sK g a1)), (2, .int a2), (3, .int a3), (4, .int a4), (5, .int a5)] [] := by
  intro n
  induction n with
  | zero => intro _ _ _ _ _ _ _ h_a1 hw; exact hw.elim
  | succ n ih =>
    intro a1 a2 a3 a4 a5 M F h_a1 hw
    dsimp only [w_among_27] at hw
    refine ac_iload Z.1 5 dX12_among_27 rfl ?_
    refine ac_iload_n Z.1 2 dX12_among_29 rfl ?_
    obtain ⟨hwt, hwf⟩ := hw
    refine ac_icmp_ge (tgt := 77) Z.1 dX12_among_30 (by decide) (fun hc => ?_) (fun hc => ?_)
    · have hw := hwt hc
      exact s_among_77 Z hret hK15 _ _ _ _ _ _ _ h_a1 hw
    · have hw := hwf hc
      refine ac_aload_n Z.1 1 dX12_among_33 rfl ?_
      refine ac_iload Z.1 4 dX12_among_34 rfl ?_
      refine ac_iload Z.1 5 dX12_among_36 rfl ?_
      refine ac_iadd Z.1 dX12_among_38 ?_
      obtain ⟨hb3, hw⟩ := hw
      refine r_schar (st := []) Z h_a1 (by omega) lkS_190 hb3 dX12_among_39 (Nat.le_of_ble_eq_true rfl) ?_
      refine ac_bipush (v := 32) Z.1 dX12_among_42 (by decide) ?_
      obtain ⟨hwt, hwf⟩ := hw
      refine ac_icmp_eq (tgt := 77) Z.1 dX12_among_44 (by decide) (fun hc => ?_) (fun hc => ?_)
      · have hw := hwt hc
        exact s_among_77 Z hret hK15 _ _ _ _ _ _ _ h_a1 hw
      · have hw := hwf hc
        refine ac_aload_n Z.1 1 dX12_among_47 rfl ?_
        refine ac_iload Z.1 4 dX12_among_48 rfl ?_
        refine ac_iload Z.1 5 dX12_among_50 rfl ?_
        refine ac_iadd Z.1 dX12_among_52 ?_
        obtain ⟨hb4, hw⟩ := hw
        refine r_schar (st := []) Z h_a1 (by omega) lkS_190 hb4 dX12_among_53 (Nat.le_of_ble_eq_true rfl) ?_
        refine ac_aload_n Z.1 0 dX12_among_56 rfl ?_
        refine r_geta Z.1 Z.2.1 0 (by decide) rfl fX12_7 rfl dX12_among_57 ?_
        refine ac_aload_n Z.1 0 dX12_among_60 rfl ?_
        refine r_geti (v := (M 6)) Z.1 Z.2.1 6 (by decide) rfl fX12_182 rfl rfl dX12_among_61 ?_
        refine ac_iload Z.1 5 dX12_among_64 rfl ?_
        refine ac_iadd Z.1 dX12_among_66 ?_
        obtain ⟨hb5, hw⟩ := hw
        refine r_ald (v := ((F 0) (((M 6) + a5)).toNatClampNeg)) Z.1 Z.2.1 0 0 4020 rfl rfl hb5 rfl dX12_among_67 ?_
        obtain ⟨hwt, hwf⟩ := hw
        refine ac_icmp_ne (tgt := 77) Z.1 dX12_among_68 (by decide) (fun hc => ?_) (fun hc => ?_)
        · have hw := hwt hc
          exact s_among_77 Z hret hK15 _ _ _ _ _ _ _ h_a1 hw
        · have hw := hwf hc
          refine ac_iinc (w := (a5 + 1)) (lv' := [(5, .int (a5 + 1)), (0, .ref (r_h g)), (1, .ref (r_sK g a1)), (2, .int a2), (3, .int a3), (4, .int a4)]) Z.1 5 dX12_among_71 rfl rfl (by decide) rfl ?_
          refine ac_goto (tgt := 27) Z.1 dX12_among_74 (by decide) ?_
          refine ac_lv [1, 2, 3, 4, 5, 0] rfl ?_
          exact ih _ _ _ _ _ _ _ h_a1 hw
def w_among_15 (Q : Int32 → (Nat → Int32) → (Nat → Nat → Int32) → Prop) : Nat → Nat → Int32 → Int32 → Int32 → (Nat → Int32) → (Nat → Nat → Int32) → Prop
  | 0 => fun _ _ _ _ _ _ => False
  | n + 1 => fun a1 a2 a3 a4 M F => (((nI (s_len.getD a1 0)) ≤ a4 → (Q (-1) M F)) ∧ (¬ (nI (s_len.getD a1 0)) ≤ a4 → (∃ e27, w_among_27 (w_among_15 Q n) Q e27 a1 a2 a3 a4 0 M F)))
set_option maxRecDepth 20000 in
theorem s_among_15 {x : ac_X} {g : r_S} {l : Launch} {Q : Int32 → (Nat → Int32) → (Nat → Nat → Int32) → Prop} (Z : r_Cx x g l cX12_among 6 (6)) (hret : r_RI x g 6 cX12_among .int Q) : ∀ (n : Nat) (a1 : Nat) (a2 : Int32) (a3 : Int32) (a4 : Int32) (M : Nat → Int32) (F : Nat → Nat → Int32), a1 < 4 → w_among_15 Q n a1 a2 a3 a4 M F → ac_G x (r_R g) 6 (r_P g M F) 0 0 15 [(0, .ref (r_h g)), (1, .ref (r_sK g a1)), (2, .int a2), (3, .int a3), (4, .int a4)] [] := by
  intro n
  induction n with
  | zero => intro _ _ _ _ _ _ h_a1 hw; exact hw.elim
  | succ n ih =>
    intro a1 a2 a3 a4 M F h_a1 hw
    dsimp only [w_among_15] at hw
    refine ac_iload Z.1 4 dX12_among_15 rfl ?_
    refine ac_aload_n Z.1 1 dX12_among_17 rfl ?_
    refine r_slen (st := [.int a4]) Z h_a1 (by omega) lkS_185 dX12_among_18 (Nat.le_of_ble_eq_true rfl) ?_
    obtain ⟨hwt, hwf⟩ := hw
    refine ac_icmp_ge (tgt := 125) Z.1 dX12_among_21 (by decide) (fun hc => ?_) (fun hc => ?_)
    · have hw := hwt hc
      refine ac_iconst (v := (-1)) Z.1 dX12_among_125 (by decide) ?_
      exact hret _ _ _ _ _ dX12_among_126 rfl hw
    · have hw := hwf hc
      refine ac_iconst (v := 0) Z.1 dX12_among_24 (by decide) ?_
      refine ac_istore (lv' := [(5, .int 0), (0, .ref (r_h g)), (1, .ref (r_sK g a1)), (2, .int a2), (3, .int a3), (4, .int a4)]) Z.1 dX12_among_25 (by decide) rfl ?_
      obtain ⟨n, hw⟩ := hw
      refine ac_lv [1, 2, 3, 4, 5, 0] rfl ?_
      exact s_among_27 Z hret ih n _ _ _ _ _ _ _ h_a1 hw
def w_among (si : Nat) (M : Nat → Int32) (F : Nat → Nat → Int32) (Q : Int32 → (Nat → Int32) → (Nat → Nat → Int32) → Prop) : Prop := ∃ e15, w_among_15 Q e15 si ((M 3) - (M 6)) 0 1 M F
set_option maxRecDepth 20000 in
theorem so_among {l : Launch} {g : r_S} {si : Nat} (h_si : si < 4) (M : Nat → Int32) (F : Nat → Nat → Int32) (Q : Int32 → (Nat → Int32) → (Nat → Nat → Int32) → Prop) (hw : w_among si M F Q) : r_MetI l g yX12_among cX12_among 6 .int (6) [.ref (r_h g), .ref (r_sK g si)] M F Q := by
  refine r_MetI.of (by decide) rfl (Nat.le_of_ble_eq_true rfl) (fun x Z hret => ?_)
  show ac_G x (r_R g) 6 (r_P g M F) 0 0 0 [(0, .ref (r_h g)), (1, .ref (r_sK g si))] []
  refine ac_aload_n Z.1 0 dX12_among_0 rfl ?_
  refine r_geti (v := (M 3)) Z.1 Z.2.1 3 (by decide) rfl fX12_179 rfl rfl dX12_among_1 ?_
  refine ac_aload_n Z.1 0 dX12_among_4 rfl ?_
  refine r_geti (v := (M 6)) Z.1 Z.2.1 6 (by decide) rfl fX12_182 rfl rfl dX12_among_5 ?_
  refine ac_isub Z.1 dX12_among_8 ?_
  refine ac_istore_n (lv' := [(2, .int ((M 3) - (M 6))), (0, .ref (r_h g)), (1, .ref (r_sK g si))]) Z.1 dX12_among_9 (by decide) rfl ?_
  refine ac_iconst (v := 0) Z.1 dX12_among_10 (by decide) ?_
  refine ac_istore_n (lv' := [(3, .int 0), (2, .int ((M 3) - (M 6))), (0, .ref (r_h g)), (1, .ref (r_sK g si))]) Z.1 dX12_among_11 (by decide) rfl ?_
  refine ac_iconst (v := 1) Z.1 dX12_among_12 (by decide) ?_
  refine ac_istore (lv' := [(4, .int 1), (3, .int 0), (2, .int ((M 3) - (M 6))), (0, .ref (r_h g)), (1, .ref (r_sK g si))]) Z.1 dX12_among_13 (by decide) rfl ?_
  obtain ⟨n, hw⟩ := hw
  refine ac_lv [3, 4, 2, 1, 0] rfl ?_
  exact s_among_15 Z hret n _ _ _ _ _ _ h_si hw
def w_wordToken_186 (Q : (Nat → Int32) → (Nat → Nat → Int32) → Prop) (t1 : Int32) (M : Nat → Int32) (F : Nat → Nat → Int32) : Prop := Q (um M 4 t1) F
set_option maxRecDepth 20000 in
theorem s_wordToken_186 {x : ac_X} {g : r_S} {l : Launch} {Q : (Nat → Int32) → (Nat → Nat → Int32) → Prop} (Z : r_Cx x g l cX12_wordToken 4 (7)) (hret : r_RV x g 4 cX12_wordToken Q) (t1 : Int32) (M : Nat → Int32) (F : Nat → Nat → Int32) (hw : w_wordToken_186 Q t1 M F) : ac_G x (r_R g) 4 (r_P g M F) 0 0 186 [(0, .ref (r_h g))] [.int t1, .ref (r_h g)] := by
  refine r_put Z.1 Z.2.1 4 (by decide) rfl rfl rfl fX12_198 rfl dX12_wordToken_186 ?_
  refine ac_goto (tgt := 200) Z.1 dX12_wordToken_189 (by decide) ?_
  exact hret _ _ _ _ dX12_wordToken_200 hw
def w_wordToken_159 (Q : (Nat → Int32) → (Nat → Nat → Int32) → Prop) (t2 : Nat) (M : Nat → Int32) (F : Nat → Nat → Int32) : Prop := w_among t2 M F (fun r5 M6 F6 => ((r5 < 0 → (w_name (um M6 5 r5) F6 (fun r7 M8 F8 => (Q (um M8 5 r7) F8)))) ∧ (¬ r5 < 0 → ((¬ (M6 4) = 1 → (w_wordToken_186 Q 5 (um M6 5 r5) F6)) ∧ ((M6 4) = 1 → (w_wordToken_186 Q 4 (um M6 5 r5) F6))))))
set_option maxRecDepth 20000 in
theorem s_wordToken_159 {x : ac_X} {g : r_S} {l : Launch} {Q : (Nat → Int32) → (Nat → Nat → Int32) → Prop} (Z : r_Cx x g l cX12_wordToken 4 (7)) (hret : r_RV x g 4 cX12_wordToken Q) (t2 : Nat) (M : Nat → Int32) (F : Nat → Nat → Int32) (h_t2 : t2 < 4) (hw : w_wordToken_159 Q t2 M F) : ac_G x (r_R g) 4 (r_P g M F) 0 0 159 [(0, .ref (r_h g))] [.ref (r_sK g t2), .ref (r_h g), .ref (r_h g)] := by
  refine r_calli (As := [.ref (r_sK g t2)]) (st := [.ref (r_h g)]) Z kX12_among lkX12_214 (by omega) rfl (so_among  h_t2  _ _ _ hw) rfl rfl (Nat.le_of_ble_eq_true rfl) dX12_wordToken_159 (fun r5 M6 F6 hw => ?_)
  refine r_put Z.1 Z.2.1 5 (by decide) rfl rfl rfl fX12_207 rfl dX12_wordToken_162 ?_
  refine ac_aload_n Z.1 0 dX12_wordToken_165 rfl ?_
  refine r_geti (v := r5) Z.1 Z.2.1 5 (by decide) rfl fX12_207 rfl rfl dX12_wordToken_166 ?_
  obtain ⟨hwt, hwf⟩ := hw
  refine ac_if_lt (tgt := 192) Z.1 dX12_wordToken_169 (by decide) (fun hc => ?_) (fun hc => ?_)
  · have hw := hwt hc
    refine ac_aload_n Z.1 0 dX12_wordToken_192 rfl ?_
    refine ac_aload_n Z.1 0 dX12_wordToken_193 rfl ?_
    refine r_calli (As := []) (st := [.ref (r_h g)]) Z kX12_name lkX12_218 (by omega) rfl (so_name    _ _ _ hw) rfl rfl (Nat.le_of_ble_eq_true rfl) dX12_wordToken_194 (fun r7 M8 F8 hw => ?_)
    refine r_put Z.1 Z.2.1 5 (by decide) rfl rfl rfl fX12_207 rfl dX12_wordToken_197 ?_
    exact hret _ _ _ _ dX12_wordToken_200 hw
  · have hw := hwf hc
    refine ac_aload_n Z.1 0 dX12_wordToken_172 rfl ?_
    refine ac_aload_n Z.1 0 dX12_wordToken_173 rfl ?_
    refine r_geti (v := (M6 4)) Z.1 Z.2.1 4 (by decide) rfl fX12_198 rfl rfl dX12_wordToken_174 ?_
    refine ac_iconst (v := 1) Z.1 dX12_wordToken_177 (by decide) ?_
    obtain ⟨hwt, hwf⟩ := hw
    refine ac_icmp_ne (tgt := 185) Z.1 dX12_wordToken_178 (by decide) (fun hc => ?_) (fun hc => ?_)
    · have hw := hwt hc
      refine ac_iconst (v := 5) Z.1 dX12_wordToken_185 (by decide) ?_
      exact s_wordToken_186 Z hret _ _ _ hw
    · have hw := hwf hc
      refine ac_iconst (v := 4) Z.1 dX12_wordToken_181 (by decide) ?_
      refine ac_goto (tgt := 186) Z.1 dX12_wordToken_182 (by decide) ?_
      exact s_wordToken_186 Z hret _ _ _ hw
def w_wordToken_129 (Q : (Nat → Int32) → (Nat → Nat → Int32) → Prop) (t1 : Int32) (M : Nat → Int32) (F : Nat → Nat → Int32) : Prop := (¬ t1 = 7 → ((¬ t1 = 1 → (w_wordToken_159 Q 3 (um M 4 t1) F)) ∧ (t1 = 1 → (w_wordToken_159 Q 2 (um M 4 t1) F)))) ∧ (t1 = 7 → (Q (um M 4 t1) F))
set_option maxRecDepth 20000 in
theorem s_wordToken_129 {x : ac_X} {g : r_S} {l : Launch} {Q : (Nat → Int32) → (Nat → Nat → Int32) → Prop} (Z : r_Cx x g l cX12_wordToken 4 (7)) (hret : r_RV x g 4 cX12_wordToken Q) (t1 : Int32) (M : Nat → Int32) (F : Nat → Nat → Int32) (hw : w_wordToken_129 Q t1 M F) : ac_G x (r_R g) 4 (r_P g M F) 0 0 129 [(0, .ref (r_h g))] [.int t1, .ref (r_h g)] := by
  refine r_put Z.1 Z.2.1 4 (by decide) rfl rfl rfl fX12_198 rfl dX12_wordToken_129 ?_
  refine ac_aload_n Z.1 0 dX12_wordToken_132 rfl ?_
  refine r_geti (v := t1) Z.1 Z.2.1 4 (by decide) rfl fX12_198 rfl rfl dX12_wordToken_133 ?_
  refine ac_bipush (v := 7) Z.1 dX12_wordToken_136 (by decide) ?_
  obtain ⟨hwt, hwf⟩ := hw
  refine ac_icmp_ne (tgt := 142) Z.1 dX12_wordToken_138 (by decide) (fun hc => ?_) (fun hc => ?_)
  · have hw := hwt hc
    refine ac_aload_n Z.1 0 dX12_wordToken_142 rfl ?_
    refine ac_aload_n Z.1 0 dX12_wordToken_143 rfl ?_
    refine ac_aload_n Z.1 0 dX12_wordToken_144 rfl ?_
    refine r_geti (v := t1) Z.1 Z.2.1 4 (by decide) rfl fX12_198 rfl rfl dX12_wordToken_145 ?_
    refine ac_iconst (v := 1) Z.1 dX12_wordToken_148 (by decide) ?_
    obtain ⟨hwt, hwf⟩ := hw
    refine ac_icmp_ne (tgt := 157) Z.1 dX12_wordToken_149 (by decide) (fun hc => ?_) (fun hc => ?_)
    · have hw := hwt hc
      refine r_ldcS Z 3 (by decide) (by decide +kernel) (by decide +kernel) dX12_wordToken_157 ?_
      exact s_wordToken_159 Z hret _ _ _ (by decide) hw
    · have hw := hwf hc
      refine r_ldcS Z 2 (by decide) (by decide +kernel) (by decide +kernel) dX12_wordToken_152 ?_
      refine ac_goto (tgt := 159) Z.1 dX12_wordToken_154 (by decide) ?_
      exact s_wordToken_159 Z hret _ _ _ (by decide) hw
  · have hw := hwf hc
    exact hret _ _ _ _ dX12_wordToken_141 hw
def w_wordToken_77 (K43 : (Int32 → (Nat → Int32) → (Nat → Nat → Int32) → Prop)) (Q : (Nat → Int32) → (Nat → Nat → Int32) → Prop) (a3 : Int32) (M : Nat → Int32) (F : Nat → Nat → Int32) : Prop := vp_in a3 4020 ∧ (∀ v13, v13 = (((10 * (M 5)) + ((F 0) (a3).toNatClampNeg)) - 48) → (K43 (a3 + 1) (um M 5 v13) F))
set_option maxRecDepth 20000 in
theorem s_wordToken_77 {x : ac_X} {g : r_S} {l : Launch} {K43 : (Int32 → (Nat → Int32) → (Nat → Nat → Int32) → Prop)} {Q : (Nat → Int32) → (Nat → Nat → Int32) → Prop} (Z : r_Cx x g l cX12_wordToken 4 (7)) (hret : r_RV x g 4 cX12_wordToken Q) (hK43 : ∀ (a3 : Int32) (M : Nat → Int32) (F : Nat → Nat → Int32), K43 a3 M F → ac_G x (r_R g) 4 (r_P g M F) 0 0 43 [(0, .ref (r_h g)), (3, .int a3)] []) (a3 : Int32) (M : Nat → Int32) (F : Nat → Nat → Int32) (hw : w_wordToken_77 K43 Q a3 M F) : ac_G x (r_R g) 4 (r_P g M F) 0 0 77 [(0, .ref (r_h g)), (3, .int a3)] [] := by
  refine ac_aload_n Z.1 0 dX12_wordToken_77 rfl ?_
  refine ac_bipush (v := 10) Z.1 dX12_wordToken_78 (by decide) ?_
  refine ac_aload_n Z.1 0 dX12_wordToken_80 rfl ?_
  refine r_geti (v := (M 5)) Z.1 Z.2.1 5 (by decide) rfl fX12_207 rfl rfl dX12_wordToken_81 ?_
  refine ac_imul Z.1 dX12_wordToken_84 ?_
  refine ac_aload_n Z.1 0 dX12_wordToken_85 rfl ?_
  refine r_geta Z.1 Z.2.1 0 (by decide) rfl fX12_7 rfl dX12_wordToken_86 ?_
  refine ac_iload_n Z.1 1 dX12_wordToken_89 rfl ?_
  obtain ⟨hb12, hw⟩ := hw
  refine r_ald (v := ((F 0) (a3).toNatClampNeg)) Z.1 Z.2.1 0 0 4020 rfl rfl hb12 rfl dX12_wordToken_90 ?_
  refine ac_iadd Z.1 dX12_wordToken_91 ?_
  refine ac_bipush (v := 48) Z.1 dX12_wordToken_92 (by decide) ?_
  refine ac_isub Z.1 dX12_wordToken_94 ?_
  refine ac_topi (fun v13 hv13 => ?_)
  have hw := hw v13 hv13
  refine r_put Z.1 Z.2.1 5 (by decide) rfl rfl rfl fX12_207 rfl dX12_wordToken_95 ?_
  refine ac_iinc (w := (a3 + 1)) (lv' := [(3, .int (a3 + 1)), (0, .ref (r_h g))]) Z.1 1 dX12_wordToken_98 rfl rfl (by decide) rfl ?_
  refine ac_goto (tgt := 43) Z.1 dX12_wordToken_101 (by decide) ?_
  refine ac_lv [1, 0] rfl ?_
  exact hK43 _ _ _ hw
def w_wordToken_43 (Q : (Nat → Int32) → (Nat → Nat → Int32) → Prop) : Nat → Int32 → (Nat → Int32) → (Nat → Nat → Int32) → Prop
  | 0 => fun _ _ _ => False
  | n + 1 => fun a3 M F => (((M 3) ≤ a3 → (Q M F)) ∧ (¬ (M 3) ≤ a3 → ((¬ (M 4) = 3 → (Q M F)) ∧ ((M 4) = 3 → (vp_in a3 4020 ∧ (w_isDigit ((F 0) (a3).toNatClampNeg) M F (fun r10 M11 F11 => ((¬ r10 = 0 → (w_wordToken_77 (w_wordToken_43 Q n) Q a3 M11 F11)) ∧ (r10 = 0 → (w_wordToken_77 (w_wordToken_43 Q n) Q a3 (um M11 4 7) F11))))))))))
set_option maxRecDepth 20000 in
theorem s_wordToken_43 {x : ac_X} {g : r_S} {l : Launch} {Q : (Nat → Int32) → (Nat → Nat → Int32) → Prop} (Z : r_Cx x g l cX12_wordToken 4 (7)) (hret : r_RV x g 4 cX12_wordToken Q) : ∀ (n : Nat) (a3 : Int32) (M : Nat → Int32) (F : Nat → Nat → Int32), w_wordToken_43 Q n a3 M F → ac_G x (r_R g) 4 (r_P g M F) 0 0 43 [(0, .ref (r_h g)), (3, .int a3)] [] := by
  intro n
  induction n with
  | zero => intro _ _ _ hw; exact hw.elim
  | succ n ih =>
    intro a3 M F hw
    dsimp only [w_wordToken_43] at hw
    refine ac_iload_n Z.1 1 dX12_wordToken_43 rfl ?_
    refine ac_aload_n Z.1 0 dX12_wordToken_44 rfl ?_
    refine r_geti (v := (M 3)) Z.1 Z.2.1 3 (by decide) rfl fX12_179 rfl rfl dX12_wordToken_45 ?_
    obtain ⟨hwt, hwf⟩ := hw
    refine ac_icmp_ge (tgt := 104) Z.1 dX12_wordToken_48 (by decide) (fun hc => ?_) (fun hc => ?_)
    · have hw := hwt hc
      exact hret _ _ _ _ dX12_wordToken_104 hw
    · have hw := hwf hc
      refine ac_aload_n Z.1 0 dX12_wordToken_51 rfl ?_
      refine r_geti (v := (M 4)) Z.1 Z.2.1 4 (by decide) rfl fX12_198 rfl rfl dX12_wordToken_52 ?_
      refine ac_iconst (v := 3) Z.1 dX12_wordToken_55 (by decide) ?_
      obtain ⟨hwt, hwf⟩ := hw
      refine ac_icmp_ne (tgt := 104) Z.1 dX12_wordToken_56 (by decide) (fun hc => ?_) (fun hc => ?_)
      · have hw := hwt hc
        exact hret _ _ _ _ dX12_wordToken_104 hw
      · have hw := hwf hc
        refine ac_aload_n Z.1 0 dX12_wordToken_59 rfl ?_
        refine r_geta Z.1 Z.2.1 0 (by decide) rfl fX12_7 rfl dX12_wordToken_60 ?_
        refine ac_iload_n Z.1 1 dX12_wordToken_63 rfl ?_
        obtain ⟨hb9, hw⟩ := hw
        refine r_ald (v := ((F 0) (a3).toNatClampNeg)) Z.1 Z.2.1 0 0 4020 rfl rfl hb9 rfl dX12_wordToken_64 ?_
        refine r_calls (As := [.int ((F 0) (a3).toNatClampNeg)]) (st := []) Z kX12_isDigit lkX12_176 (by omega) (so_isDigit   _ _ _ _ hw) rfl rfl (Nat.le_of_ble_eq_true rfl) dX12_wordToken_65 (fun r10 M11 F11 hw => ?_)
        obtain ⟨hwt, hwf⟩ := hw
        refine ac_if_ne (tgt := 77) Z.1 dX12_wordToken_68 (by decide) (fun hc => ?_) (fun hc => ?_)
        · have hw := hwt hc
          exact s_wordToken_77 Z hret ih _ _ _ hw
        · have hw := hwf hc
          refine ac_aload_n Z.1 0 dX12_wordToken_71 rfl ?_
          refine ac_bipush (v := 7) Z.1 dX12_wordToken_72 (by decide) ?_
          refine r_put Z.1 Z.2.1 4 (by decide) rfl rfl rfl fX12_198 rfl dX12_wordToken_74 ?_
          exact s_wordToken_77 Z hret ih _ _ _ hw
def w_wordToken_30 (Q : (Nat → Int32) → (Nat → Nat → Int32) → Prop) (t1 : Int32) (M : Nat → Int32) (F : Nat → Nat → Int32) : Prop := ∃ e43, w_wordToken_43 Q e43 (M 6) (um (um M 4 t1) 5 0) F
set_option maxRecDepth 20000 in
theorem s_wordToken_30 {x : ac_X} {g : r_S} {l : Launch} {Q : (Nat → Int32) → (Nat → Nat → Int32) → Prop} (Z : r_Cx x g l cX12_wordToken 4 (7)) (hret : r_RV x g 4 cX12_wordToken Q) (t1 : Int32) (M : Nat → Int32) (F : Nat → Nat → Int32) (hw : w_wordToken_30 Q t1 M F) : ac_G x (r_R g) 4 (r_P g M F) 0 0 30 [(0, .ref (r_h g))] [.int t1, .ref (r_h g)] := by
  refine r_put Z.1 Z.2.1 4 (by decide) rfl rfl rfl fX12_198 rfl dX12_wordToken_30 ?_
  refine ac_aload_n Z.1 0 dX12_wordToken_33 rfl ?_
  refine ac_iconst (v := 0) Z.1 dX12_wordToken_34 (by decide) ?_
  refine r_put Z.1 Z.2.1 5 (by decide) rfl rfl rfl fX12_207 rfl dX12_wordToken_35 ?_
  refine ac_aload_n Z.1 0 dX12_wordToken_38 rfl ?_
  refine r_geti (v := (M 6)) Z.1 Z.2.1 6 (by decide) rfl fX12_182 rfl rfl dX12_wordToken_39 ?_
  refine ac_istore_n (lv' := [(3, .int (M 6)), (0, .ref (r_h g))]) Z.1 dX12_wordToken_42 (by decide) rfl ?_
  obtain ⟨n, hw⟩ := hw
  refine ac_lv [1, 0] rfl ?_
  exact s_wordToken_43 Z hret n _ _ _ hw
def w_wordToken (p1 : Int32) (M : Nat → Int32) (F : Nat → Nat → Int32) (Q : (Nat → Int32) → (Nat → Nat → Int32) → Prop) : Prop := w_isDigit p1 M F (fun r1 M2 F2 => ((r1 = 0 → ((((M 3) - (M 6)) ≤ 10 → (w_isSmall p1 M2 F2 (fun r3 M4 F4 => ((r3 = 0 → (w_wordToken_129 Q 2 M4 F4)) ∧ (¬ r3 = 0 → (w_wordToken_129 Q 1 M4 F4)))))) ∧ (¬ ((M 3) - (M 6)) ≤ 10 → (w_wordToken_129 Q 7 M2 F2)))) ∧ (¬ r1 = 0 → ((9 < ((M 3) - (M 6)) → (w_wordToken_30 Q 7 M2 F2)) ∧ (¬ 9 < ((M 3) - (M 6)) → (w_wordToken_30 Q 3 M2 F2))))))
set_option maxRecDepth 20000 in
theorem so_wordToken {l : Launch} {g : r_S} (p1 : Int32) (M : Nat → Int32) (F : Nat → Nat → Int32) (Q : (Nat → Int32) → (Nat → Nat → Int32) → Prop) (hw : w_wordToken p1 M F Q) : r_MetV l g yX12_wordToken cX12_wordToken 4 (7) [.ref (r_h g), .int p1] M F Q := by
  refine r_MetV.of (by decide) rfl (Nat.le_of_ble_eq_true rfl) (fun x Z hret => ?_)
  show ac_G x (r_R g) 4 (r_P g M F) 0 0 0 [(0, .ref (r_h g)), (1, .int p1)] []
  refine ac_aload_n Z.1 0 dX12_wordToken_0 rfl ?_
  refine r_geti (v := (M 3)) Z.1 Z.2.1 3 (by decide) rfl fX12_179 rfl rfl dX12_wordToken_1 ?_
  refine ac_aload_n Z.1 0 dX12_wordToken_4 rfl ?_
  refine r_geti (v := (M 6)) Z.1 Z.2.1 6 (by decide) rfl fX12_182 rfl rfl dX12_wordToken_5 ?_
  refine ac_isub Z.1 dX12_wordToken_8 ?_
  refine ac_istore_n (lv' := [(2, .int ((M 3) - (M 6))), (0, .ref (r_h g)), (1, .int p1)]) Z.1 dX12_wordToken_9 (by decide) rfl ?_
  refine ac_iload_n Z.1 2 dX12_wordToken_10 rfl ?_
  refine r_calls (As := [.int p1]) (st := []) Z kX12_isDigit lkX12_176 (by omega) (so_isDigit   _ _ _ _ hw) rfl rfl (Nat.le_of_ble_eq_true rfl) dX12_wordToken_11 (fun r1 M2 F2 hw => ?_)
  obtain ⟨hwt, hwf⟩ := hw
  refine ac_if_eq (tgt := 105) Z.1 dX12_wordToken_14 (by decide) (fun hc => ?_) (fun hc => ?_)
  · have hw := hwt hc
    refine ac_aload_n Z.1 1 dX12_wordToken_105 rfl ?_
    refine ac_iload_n Z.1 0 dX12_wordToken_106 rfl ?_
    refine ac_bipush (v := 10) Z.1 dX12_wordToken_107 (by decide) ?_
    obtain ⟨hwt, hwf⟩ := hw
    refine ac_icmp_le (tgt := 117) Z.1 dX12_wordToken_109 (by decide) (fun hc => ?_) (fun hc => ?_)
    · have hw := hwt hc
      refine ac_iload_n Z.1 2 dX12_wordToken_117 rfl ?_
      refine r_calls (As := [.int p1]) (st := [.ref (r_h g)]) Z kX12_isSmall lkX12_169 (by omega) (so_isSmall   _ _ _ _ hw) rfl rfl (Nat.le_of_ble_eq_true rfl) dX12_wordToken_118 (fun r3 M4 F4 hw => ?_)
      obtain ⟨hwt, hwf⟩ := hw
      refine ac_if_eq (tgt := 128) Z.1 dX12_wordToken_121 (by decide) (fun hc => ?_) (fun hc => ?_)
      · have hw := hwt hc
        refine ac_iconst (v := 2) Z.1 dX12_wordToken_128 (by decide) ?_
        refine ac_lv [1] rfl ?_
        exact s_wordToken_129 Z hret _ _ _ hw
      · have hw := hwf hc
        refine ac_iconst (v := 1) Z.1 dX12_wordToken_124 (by decide) ?_
        refine ac_goto (tgt := 129) Z.1 dX12_wordToken_125 (by decide) ?_
        refine ac_lv [1] rfl ?_
        exact s_wordToken_129 Z hret _ _ _ hw
    · have hw := hwf hc
      refine ac_bipush (v := 7) Z.1 dX12_wordToken_112 (by decide) ?_
      refine ac_goto (tgt := 129) Z.1 dX12_wordToken_114 (by decide) ?_
      refine ac_lv [1] rfl ?_
      exact s_wordToken_129 Z hret _ _ _ hw
  · have hw := hwf hc
    refine ac_aload_n Z.1 1 dX12_wordToken_17 rfl ?_
    refine ac_iload_n Z.1 0 dX12_wordToken_18 rfl ?_
    refine ac_bipush (v := 9) Z.1 dX12_wordToken_19 (by decide) ?_
    obtain ⟨hwt, hwf⟩ := hw
    refine ac_icmp_gt (tgt := 28) Z.1 dX12_wordToken_21 (by decide) (fun hc => ?_) (fun hc => ?_)
    · have hw := hwt hc
      refine ac_bipush (v := 7) Z.1 dX12_wordToken_28 (by decide) ?_
      refine ac_lv [1] rfl ?_
      exact s_wordToken_30 Z hret _ _ _ hw
    · have hw := hwf hc
      refine ac_iconst (v := 3) Z.1 dX12_wordToken_24 (by decide) ?_
      refine ac_goto (tgt := 30) Z.1 dX12_wordToken_25 (by decide) ?_
      refine ac_lv [1] rfl ?_
      exact s_wordToken_30 Z hret _ _ _ hw
def w_next_229 (Q : (Nat → Int32) → (Nat → Nat → Int32) → Prop) (a2 : Int32) (M : Nat → Int32) (F : Nat → Nat → Int32) : Prop := (a2 = 123 → (Q M F)) ∧ (¬ a2 = 123 → ((a2 = 125 → (Q M F)) ∧ (¬ a2 = 125 → ((a2 = 40 → (Q M F)) ∧ (¬ a2 = 40 → ((a2 = 41 → (Q M F)) ∧ (¬ a2 = 41 → ((a2 = 44 → (Q M F)) ∧ (¬ a2 = 44 → ((a2 = 59 → (Q M F)) ∧ (¬ a2 = 59 → ((a2 = 61 → (Q M F)) ∧ (¬ a2 = 61 → ((a2 = 43 → (Q M F)) ∧ (¬ a2 = 43 → ((a2 = 45 → (Q M F)) ∧ (¬ a2 = 45 → ((a2 = 42 → (Q M F)) ∧ (¬ a2 = 42 → ((a2 = 47 → (Q M F)) ∧ (¬ a2 = 47 → ((a2 = 37 → (Q M F)) ∧ (¬ a2 = 37 → ((a2 = 60 → (Q M F)) ∧ (¬ a2 = 60 → (Q (um M 4 7) F))))))))))))))))))))))))))
set_option maxRecDepth 20000 in
theorem s_next_229 {x : ac_X} {g : r_S} {l : Launch} {Q : (Nat → Int32) → (Nat → Nat → Int32) → Prop} (Z : r_Cx x g l cX12_next 3 (8)) (hret : r_RV x g 3 cX12_next Q) (a2 : Int32) (M : Nat → Int32) (F : Nat → Nat → Int32) (hw : w_next_229 Q a2 M F) : ac_G x (r_R g) 3 (r_P g M F) 0 0 229 [(0, .ref (r_h g)), (2, .int a2)] [] := by
  refine ac_iload_n Z.1 1 dX12_next_229 rfl ?_
  refine ac_bipush (v := 123) Z.1 dX12_next_230 (by decide) ?_
  obtain ⟨hwt, hwf⟩ := hw
  refine ac_icmp_eq (tgt := 313) Z.1 dX12_next_232 (by decide) (fun hc => ?_) (fun hc => ?_)
  · have hw := hwt hc
    exact hret _ _ _ _ dX12_next_313 hw
  · have hw := hwf hc
    refine ac_iload_n Z.1 1 dX12_next_235 rfl ?_
    refine ac_bipush (v := 125) Z.1 dX12_next_236 (by decide) ?_
    obtain ⟨hwt, hwf⟩ := hw
    refine ac_icmp_eq (tgt := 313) Z.1 dX12_next_238 (by decide) (fun hc => ?_) (fun hc => ?_)
    · have hw := hwt hc
      exact hret _ _ _ _ dX12_next_313 hw
    · have hw := hwf hc
      refine ac_iload_n Z.1 1 dX12_next_241 rfl ?_
      refine ac_bipush (v := 40) Z.1 dX12_next_242 (by decide) ?_
      obtain ⟨hwt, hwf⟩ := hw
      refine ac_icmp_eq (tgt := 313) Z.1 dX12_next_244 (by decide) (fun hc => ?_) (fun hc => ?_)
      · have hw := hwt hc
        exact hret _ _ _ _ dX12_next_313 hw
      · have hw := hwf hc
        refine ac_iload_n Z.1 1 dX12_next_247 rfl ?_
        refine ac_bipush (v := 41) Z.1 dX12_next_248 (by decide) ?_
        obtain ⟨hwt, hwf⟩ := hw
        refine ac_icmp_eq (tgt := 313) Z.1 dX12_next_250 (by decide) (fun hc => ?_) (fun hc => ?_)
        · have hw := hwt hc
          exact hret _ _ _ _ dX12_next_313 hw
        · have hw := hwf hc
          refine ac_iload_n Z.1 1 dX12_next_253 rfl ?_
          refine ac_bipush (v := 44) Z.1 dX12_next_254 (by decide) ?_
          obtain ⟨hwt, hwf⟩ := hw
          refine ac_icmp_eq (tgt := 313) Z.1 dX12_next_256 (by decide) (fun hc => ?_) (fun hc => ?_)
          · have hw := hwt hc
            exact hret _ _ _ _ dX12_next_313 hw
          · have hw := hwf hc
            refine ac_iload_n Z.1 1 dX12_next_259 rfl ?_
            refine ac_bipush (v := 59) Z.1 dX12_next_260 (by decide) ?_
            obtain ⟨hwt, hwf⟩ := hw
            refine ac_icmp_eq (tgt := 313) Z.1 dX12_next_262 (by decide) (fun hc => ?_) (fun hc => ?_)
            · have hw := hwt hc
              exact hret _ _ _ _ dX12_next_313 hw
            · have hw := hwf hc
              refine ac_iload_n Z.1 1 dX12_next_265 rfl ?_
              refine ac_bipush (v := 61) Z.1 dX12_next_266 (by decide) ?_
              obtain ⟨hwt, hwf⟩ := hw
              refine ac_icmp_eq (tgt := 313) Z.1 dX12_next_268 (by decide) (fun hc => ?_) (fun hc => ?_)
              · have hw := hwt hc
                exact hret _ _ _ _ dX12_next_313 hw
              · have hw := hwf hc
                refine ac_iload_n Z.1 1 dX12_next_271 rfl ?_
                refine ac_bipush (v := 43) Z.1 dX12_next_272 (by decide) ?_
                obtain ⟨hwt, hwf⟩ := hw
                refine ac_icmp_eq (tgt := 313) Z.1 dX12_next_274 (by decide) (fun hc => ?_) (fun hc => ?_)
                · have hw := hwt hc
                  exact hret _ _ _ _ dX12_next_313 hw
                · have hw := hwf hc
                  refine ac_iload_n Z.1 1 dX12_next_277 rfl ?_
                  refine ac_bipush (v := 45) Z.1 dX12_next_278 (by decide) ?_
                  obtain ⟨hwt, hwf⟩ := hw
                  refine ac_icmp_eq (tgt := 313) Z.1 dX12_next_280 (by decide) (fun hc => ?_) (fun hc => ?_)
                  · have hw := hwt hc
                    exact hret _ _ _ _ dX12_next_313 hw
                  · have hw := hwf hc
                    refine ac_iload_n Z.1 1 dX12_next_283 rfl ?_
                    refine ac_bipush (v := 42) Z.1 dX12_next_284 (by decide) ?_
                    obtain ⟨hwt, hwf⟩ := hw
                    refine ac_icmp_eq (tgt := 313) Z.1 dX12_next_286 (by decide) (fun hc => ?_) (fun hc => ?_)
                    · have hw := hwt hc
                      exact hret _ _ _ _ dX12_next_313 hw
                    · have hw := hwf hc
                      refine ac_iload_n Z.1 1 dX12_next_289 rfl ?_
                      refine ac_bipush (v := 47) Z.1 dX12_next_290 (by decide) ?_
                      obtain ⟨hwt, hwf⟩ := hw
                      refine ac_icmp_eq (tgt := 313) Z.1 dX12_next_292 (by decide) (fun hc => ?_) (fun hc => ?_)
                      · have hw := hwt hc
                        exact hret _ _ _ _ dX12_next_313 hw
                      · have hw := hwf hc
                        refine ac_iload_n Z.1 1 dX12_next_295 rfl ?_
                        refine ac_bipush (v := 37) Z.1 dX12_next_296 (by decide) ?_
                        obtain ⟨hwt, hwf⟩ := hw
                        refine ac_icmp_eq (tgt := 313) Z.1 dX12_next_298 (by decide) (fun hc => ?_) (fun hc => ?_)
                        · have hw := hwt hc
                          exact hret _ _ _ _ dX12_next_313 hw
                        · have hw := hwf hc
                          refine ac_iload_n Z.1 1 dX12_next_301 rfl ?_
                          refine ac_bipush (v := 60) Z.1 dX12_next_302 (by decide) ?_
                          obtain ⟨hwt, hwf⟩ := hw
                          refine ac_icmp_eq (tgt := 313) Z.1 dX12_next_304 (by decide) (fun hc => ?_) (fun hc => ?_)
                          · have hw := hwt hc
                            exact hret _ _ _ _ dX12_next_313 hw
                          · have hw := hwf hc
                            refine ac_aload_n Z.1 0 dX12_next_307 rfl ?_
                            refine ac_bipush (v := 7) Z.1 dX12_next_308 (by decide) ?_
                            refine r_put Z.1 Z.2.1 4 (by decide) rfl rfl rfl fX12_198 rfl dX12_next_310 ?_
                            exact hret _ _ _ _ dX12_next_313 hw
def w_next_190 (Q : (Nat → Int32) → (Nat → Nat → Int32) → Prop) (a2 : Int32) (M : Nat → Int32) (F : Nat → Nat → Int32) : Prop := (¬ a2 = 33 → (w_next_229 Q a2 M F)) ∧ (a2 = 33 → (w_byteAt (M 3) M F (fun r5 M6 F6 => ((¬ r5 = 61 → (w_next_229 Q a2 M6 F6)) ∧ (r5 = 61 → (Q (um (um M6 5 301) 3 ((M6 3) + 1)) F6))))))
set_option maxRecDepth 20000 in
theorem s_next_190 {x : ac_X} {g : r_S} {l : Launch} {Q : (Nat → Int32) → (Nat → Nat → Int32) → Prop} (Z : r_Cx x g l cX12_next 3 (8)) (hret : r_RV x g 3 cX12_next Q) (a2 : Int32) (M : Nat → Int32) (F : Nat → Nat → Int32) (hw : w_next_190 Q a2 M F) : ac_G x (r_R g) 3 (r_P g M F) 0 0 190 [(0, .ref (r_h g)), (2, .int a2)] [] := by
  refine ac_iload_n Z.1 1 dX12_next_190 rfl ?_
  refine ac_bipush (v := 33) Z.1 dX12_next_191 (by decide) ?_
  obtain ⟨hwt, hwf⟩ := hw
  refine ac_icmp_ne (tgt := 229) Z.1 dX12_next_193 (by decide) (fun hc => ?_) (fun hc => ?_)
  · have hw := hwt hc
    exact s_next_229 Z hret _ _ _ hw
  · have hw := hwf hc
    refine ac_aload_n Z.1 0 dX12_next_196 rfl ?_
    refine ac_aload_n Z.1 0 dX12_next_197 rfl ?_
    refine r_geti (v := (M 3)) Z.1 Z.2.1 3 (by decide) rfl fX12_179 rfl rfl dX12_next_198 ?_
    refine r_calli (As := [.int (M 3)]) (st := []) Z kX12_byteAt lkX12_194 (by omega) rfl (so_byteAt   _ _ _ _ hw) rfl rfl (Nat.le_of_ble_eq_true rfl) dX12_next_201 (fun r5 M6 F6 hw => ?_)
    refine ac_bipush (v := 61) Z.1 dX12_next_204 (by decide) ?_
    obtain ⟨hwt, hwf⟩ := hw
    refine ac_icmp_ne (tgt := 229) Z.1 dX12_next_206 (by decide) (fun hc => ?_) (fun hc => ?_)
    · have hw := hwt hc
      exact s_next_229 Z hret _ _ _ hw
    · have hw := hwf hc
      refine ac_aload_n Z.1 0 dX12_next_209 rfl ?_
      refine ac_sipush (v := 301) Z.1 dX12_next_210 (by decide) ?_
      refine r_put Z.1 Z.2.1 5 (by decide) rfl rfl rfl fX12_207 rfl dX12_next_213 ?_
      refine ac_aload_n Z.1 0 dX12_next_216 rfl ?_
      refine ac_dup Z.1 dX12_next_217 rfl ?_
      refine r_geti (v := (M6 3)) Z.1 Z.2.1 3 (by decide) rfl fX12_179 rfl rfl dX12_next_218 ?_
      refine ac_iconst (v := 1) Z.1 dX12_next_221 (by decide) ?_
      refine ac_iadd Z.1 dX12_next_222 ?_
      refine r_put Z.1 Z.2.1 3 (by decide) rfl rfl rfl fX12_179 rfl dX12_next_223 ?_
      refine ac_goto (tgt := 313) Z.1 dX12_next_226 (by decide) ?_
      exact hret _ _ _ _ dX12_next_313 hw
def w_next_107 (Q : (Nat → Int32) → (Nat → Nat → Int32) → Prop) : Nat → Int32 → (Nat → Int32) → (Nat → Nat → Int32) → Prop
  | 0 => fun _ _ _ => False
  | n + 1 => fun a2 M F => (w_byteAt (M 3) M F (fun r9 M10 F10 => (w_isOfWord r9 M10 F10 (fun r11 M12 F12 => ((r11 = 0 → (w_wordToken a2 M12 F12 (fun M13 F13 => (Q M13 F13)))) ∧ (¬ r11 = 0 → (w_next_107 Q n a2 (um M12 3 ((M12 3) + 1)) F12)))))))
set_option maxRecDepth 20000 in
theorem s_next_107 {x : ac_X} {g : r_S} {l : Launch} {Q : (Nat → Int32) → (Nat → Nat → Int32) → Prop} (Z : r_Cx x g l cX12_next 3 (8)) (hret : r_RV x g 3 cX12_next Q) : ∀ (n : Nat) (a2 : Int32) (M : Nat → Int32) (F : Nat → Nat → Int32), w_next_107 Q n a2 M F → ac_G x (r_R g) 3 (r_P g M F) 0 0 107 [(0, .ref (r_h g)), (2, .int a2)] [] := by
  intro n
  induction n with
  | zero => intro _ _ _ hw; exact hw.elim
  | succ n ih =>
    intro a2 M F hw
    dsimp only [w_next_107] at hw
    refine ac_aload_n Z.1 0 dX12_next_107 rfl ?_
    refine ac_aload_n Z.1 0 dX12_next_108 rfl ?_
    refine r_geti (v := (M 3)) Z.1 Z.2.1 3 (by decide) rfl fX12_179 rfl rfl dX12_next_109 ?_
    refine r_calli (As := [.int (M 3)]) (st := []) Z kX12_byteAt lkX12_194 (by omega) rfl (so_byteAt   _ _ _ _ hw) rfl rfl (Nat.le_of_ble_eq_true rfl) dX12_next_112 (fun r9 M10 F10 hw => ?_)
    refine r_calls (As := [.int r9]) (st := []) Z kX12_isOfWord lkX12_201 (by omega) (so_isOfWord   _ _ _ _ hw) rfl rfl (Nat.le_of_ble_eq_true rfl) dX12_next_115 (fun r11 M12 F12 hw => ?_)
    obtain ⟨hwt, hwf⟩ := hw
    refine ac_if_eq (tgt := 134) Z.1 dX12_next_118 (by decide) (fun hc => ?_) (fun hc => ?_)
    · have hw := hwt hc
      refine ac_aload_n Z.1 0 dX12_next_134 rfl ?_
      refine ac_iload_n Z.1 1 dX12_next_135 rfl ?_
      refine r_callv (As := [.int a2]) (st := []) Z kX12_wordToken lkX12_204 (by omega) rfl (so_wordToken   _ _ _ _ hw) rfl rfl (Nat.le_of_ble_eq_true rfl) dX12_next_136 (fun M13 F13 hw => ?_)
      exact hret _ _ _ _ dX12_next_139 hw
    · have hw := hwf hc
      refine ac_aload_n Z.1 0 dX12_next_121 rfl ?_
      refine ac_dup Z.1 dX12_next_122 rfl ?_
      refine r_geti (v := (M12 3)) Z.1 Z.2.1 3 (by decide) rfl fX12_179 rfl rfl dX12_next_123 ?_
      refine ac_iconst (v := 1) Z.1 dX12_next_126 (by decide) ?_
      refine ac_iadd Z.1 dX12_next_127 ?_
      refine r_put Z.1 Z.2.1 3 (by decide) rfl rfl rfl fX12_179 rfl dX12_next_128 ?_
      refine ac_goto (tgt := 107) Z.1 dX12_next_131 (by decide) ?_
      exact ih _ _ _ hw
def w_next_63 (Q : (Nat → Int32) → (Nat → Nat → Int32) → Prop) (a1 : Int32) (M : Nat → Int32) (F : Nat → Nat → Int32) : Prop := w_byteAt a1 (um M 6 a1) F (fun r1 M2 F2 => ((a1 < (M2 2) → (w_isOfWord r1 (um M2 3 (a1 + 1)) F2 (fun r3 M4 F4 => ((r3 = 0 → ((¬ r1 = 61 → (w_next_190 Q r1 (um (um M4 4 6) 5 r1) F4)) ∧ (r1 = 61 → (w_byteAt (M4 3) (um (um M4 4 6) 5 r1) F4 (fun r7 M8 F8 => ((¬ r7 = 61 → (w_next_190 Q r1 M8 F8)) ∧ (r7 = 61 → (Q (um (um M8 5 300) 3 ((M8 3) + 1)) F8)))))))) ∧ (¬ r3 = 0 → (∃ e107, w_next_107 Q e107 r1 M4 F4)))))) ∧ (¬ a1 < (M2 2) → (Q (um (um (um M2 3 (a1 + 1)) 4 0) 3 a1) F2))))
set_option maxRecDepth 20000 in
theorem s_next_63 {x : ac_X} {g : r_S} {l : Launch} {Q : (Nat → Int32) → (Nat → Nat → Int32) → Prop} (Z : r_Cx x g l cX12_next 3 (8)) (hret : r_RV x g 3 cX12_next Q) (a1 : Int32) (M : Nat → Int32) (F : Nat → Nat → Int32) (hw : w_next_63 Q a1 M F) : ac_G x (r_R g) 3 (r_P g M F) 0 0 63 [(0, .ref (r_h g)), (1, .int a1)] [] := by
  refine ac_aload_n Z.1 0 dX12_next_63 rfl ?_
  refine ac_iload_n Z.1 1 dX12_next_64 rfl ?_
  refine r_put Z.1 Z.2.1 6 (by decide) rfl rfl rfl fX12_182 rfl dX12_next_65 ?_
  refine ac_aload_n Z.1 0 dX12_next_68 rfl ?_
  refine ac_iload_n Z.1 1 dX12_next_69 rfl ?_
  refine r_calli (As := [.int a1]) (st := []) Z kX12_byteAt lkX12_194 (by omega) rfl (so_byteAt   _ _ _ _ hw) rfl rfl (Nat.le_of_ble_eq_true rfl) dX12_next_70 (fun r1 M2 F2 hw => ?_)
  refine ac_istore_n (lv' := [(2, .int r1), (0, .ref (r_h g)), (1, .int a1)]) Z.1 dX12_next_73 (by decide) rfl ?_
  refine ac_aload_n Z.1 1 dX12_next_74 rfl ?_
  refine ac_iload_n Z.1 2 dX12_next_75 rfl ?_
  refine ac_iconst (v := 1) Z.1 dX12_next_76 (by decide) ?_
  refine ac_iadd Z.1 dX12_next_77 ?_
  refine r_put Z.1 Z.2.1 3 (by decide) rfl rfl rfl fX12_179 rfl dX12_next_78 ?_
  refine ac_iload_n Z.1 2 dX12_next_81 rfl ?_
  refine ac_aload_n Z.1 1 dX12_next_82 rfl ?_
  refine r_geti (v := (M2 2)) Z.1 Z.2.1 2 (by decide) rfl fX12_166 rfl rfl dX12_next_83 ?_
  obtain ⟨hwt, hwf⟩ := hw
  refine ac_icmp_lt (tgt := 100) Z.1 dX12_next_86 (by decide) (fun hc => ?_) (fun hc => ?_)
  · have hw := hwt hc
    refine ac_iload_n Z.1 0 dX12_next_100 rfl ?_
    refine r_calls (As := [.int r1]) (st := []) Z kX12_isOfWord lkX12_201 (by omega) (so_isOfWord   _ _ _ _ hw) rfl rfl (Nat.le_of_ble_eq_true rfl) dX12_next_101 (fun r3 M4 F4 hw => ?_)
    obtain ⟨hwt, hwf⟩ := hw
    refine ac_if_eq (tgt := 140) Z.1 dX12_next_104 (by decide) (fun hc => ?_) (fun hc => ?_)
    · have hw := hwt hc
      refine ac_aload_n Z.1 1 dX12_next_140 rfl ?_
      refine ac_bipush (v := 6) Z.1 dX12_next_141 (by decide) ?_
      refine r_put Z.1 Z.2.1 4 (by decide) rfl rfl rfl fX12_198 rfl dX12_next_143 ?_
      refine ac_aload_n Z.1 1 dX12_next_146 rfl ?_
      refine ac_iload_n Z.1 0 dX12_next_147 rfl ?_
      refine r_put Z.1 Z.2.1 5 (by decide) rfl rfl rfl fX12_207 rfl dX12_next_148 ?_
      refine ac_iload_n Z.1 0 dX12_next_151 rfl ?_
      refine ac_bipush (v := 61) Z.1 dX12_next_152 (by decide) ?_
      obtain ⟨hwt, hwf⟩ := hw
      refine ac_icmp_ne (tgt := 190) Z.1 dX12_next_154 (by decide) (fun hc => ?_) (fun hc => ?_)
      · have hw := hwt hc
        refine ac_lv [1, 0] rfl ?_
        exact s_next_190 Z hret _ _ _ hw
      · have hw := hwf hc
        refine ac_aload_n Z.1 1 dX12_next_157 rfl ?_
        refine ac_aload_n Z.1 1 dX12_next_158 rfl ?_
        refine r_geti (v := (M4 3)) Z.1 Z.2.1 3 (by decide) rfl fX12_179 rfl rfl dX12_next_159 ?_
        refine r_calli (As := [.int (M4 3)]) (st := []) Z kX12_byteAt lkX12_194 (by omega) rfl (so_byteAt   _ _ _ _ hw) rfl rfl (Nat.le_of_ble_eq_true rfl) dX12_next_162 (fun r7 M8 F8 hw => ?_)
        refine ac_bipush (v := 61) Z.1 dX12_next_165 (by decide) ?_
        obtain ⟨hwt, hwf⟩ := hw
        refine ac_icmp_ne (tgt := 190) Z.1 dX12_next_167 (by decide) (fun hc => ?_) (fun hc => ?_)
        · have hw := hwt hc
          refine ac_lv [1, 0] rfl ?_
          exact s_next_190 Z hret _ _ _ hw
        · have hw := hwf hc
          refine ac_aload_n Z.1 1 dX12_next_170 rfl ?_
          refine ac_sipush (v := 300) Z.1 dX12_next_171 (by decide) ?_
          refine r_put Z.1 Z.2.1 5 (by decide) rfl rfl rfl fX12_207 rfl dX12_next_174 ?_
          refine ac_aload_n Z.1 1 dX12_next_177 rfl ?_
          refine ac_dup Z.1 dX12_next_178 rfl ?_
          refine r_geti (v := (M8 3)) Z.1 Z.2.1 3 (by decide) rfl fX12_179 rfl rfl dX12_next_179 ?_
          refine ac_iconst (v := 1) Z.1 dX12_next_182 (by decide) ?_
          refine ac_iadd Z.1 dX12_next_183 ?_
          refine r_put Z.1 Z.2.1 3 (by decide) rfl rfl rfl fX12_179 rfl dX12_next_184 ?_
          refine ac_goto (tgt := 313) Z.1 dX12_next_187 (by decide) ?_
          exact hret _ _ _ _ dX12_next_313 hw
    · have hw := hwf hc
      obtain ⟨n, hw⟩ := hw
      refine ac_lv [1, 0] rfl ?_
      exact s_next_107 Z hret n _ _ _ hw
  · have hw := hwf hc
    refine ac_aload_n Z.1 1 dX12_next_89 rfl ?_
    refine ac_iconst (v := 0) Z.1 dX12_next_90 (by decide) ?_
    refine r_put Z.1 Z.2.1 4 (by decide) rfl rfl rfl fX12_198 rfl dX12_next_91 ?_
    refine ac_aload_n Z.1 1 dX12_next_94 rfl ?_
    refine ac_iload_n Z.1 2 dX12_next_95 rfl ?_
    refine r_put Z.1 Z.2.1 3 (by decide) rfl rfl rfl fX12_179 rfl dX12_next_96 ?_
    exact hret _ _ _ _ dX12_next_99 hw
def w_next_57 (K5 : (Int32 → (Nat → Int32) → (Nat → Nat → Int32) → Prop)) (Q : (Nat → Int32) → (Nat → Nat → Int32) → Prop) (a1 : Int32) (M : Nat → Int32) (F : Nat → Nat → Int32) : Prop := K5 (a1 + 1) M F
set_option maxRecDepth 20000 in
theorem s_next_57 {x : ac_X} {g : r_S} {l : Launch} {K5 : (Int32 → (Nat → Int32) → (Nat → Nat → Int32) → Prop)} {Q : (Nat → Int32) → (Nat → Nat → Int32) → Prop} (Z : r_Cx x g l cX12_next 3 (8)) (hret : r_RV x g 3 cX12_next Q) (hK5 : ∀ (a1 : Int32) (M : Nat → Int32) (F : Nat → Nat → Int32), K5 a1 M F → ac_G x (r_R g) 3 (r_P g M F) 0 0 5 [(0, .ref (r_h g)), (1, .int a1)] []) (a1 : Int32) (M : Nat → Int32) (F : Nat → Nat → Int32) (hw : w_next_57 K5 Q a1 M F) : ac_G x (r_R g) 3 (r_P g M F) 0 0 57 [(0, .ref (r_h g)), (1, .int a1)] [] := by
  refine ac_iinc (w := (a1 + 1)) (lv' := [(1, .int (a1 + 1)), (0, .ref (r_h g))]) Z.1 1 dX12_next_57 rfl rfl (by decide) rfl ?_
  refine ac_goto (tgt := 5) Z.1 dX12_next_60 (by decide) ?_
  refine ac_lv [1, 0] rfl ?_
  exact hK5 _ _ _ hw
def w_next_5 (Q : (Nat → Int32) → (Nat → Nat → Int32) → Prop) : Nat → Int32 → (Nat → Int32) → (Nat → Nat → Int32) → Prop
  | 0 => fun _ _ _ => False
  | n + 1 => fun a1 M F => (((M 2) ≤ a1 → (w_next_63 Q a1 M F)) ∧ (¬ (M 2) ≤ a1 → (vp_in a1 4020 ∧ ((((F 0) (a1).toNatClampNeg) = 9 → (w_next_57 (w_next_5 Q n) Q a1 M F)) ∧ (¬ ((F 0) (a1).toNatClampNeg) = 9 → (vp_in a1 4020 ∧ ((((F 0) (a1).toNatClampNeg) = 10 → (w_next_57 (w_next_5 Q n) Q a1 M F)) ∧ (¬ ((F 0) (a1).toNatClampNeg) = 10 → (vp_in a1 4020 ∧ ((((F 0) (a1).toNatClampNeg) = 13 → (w_next_57 (w_next_5 Q n) Q a1 M F)) ∧ (¬ ((F 0) (a1).toNatClampNeg) = 13 → (vp_in a1 4020 ∧ ((¬ ((F 0) (a1).toNatClampNeg) = 32 → (w_next_63 Q a1 M F)) ∧ (((F 0) (a1).toNatClampNeg) = 32 → (w_next_57 (w_next_5 Q n) Q a1 M F)))))))))))))))
set_option maxRecDepth 20000 in
theorem s_next_5 {x : ac_X} {g : r_S} {l : Launch} {Q : (Nat → Int32) → (Nat → Nat → Int32) → Prop} (Z : r_Cx x g l cX12_next 3 (8)) (hret : r_RV x g 3 cX12_next Q) : ∀ (n : Nat) (a1 : Int32) (M : Nat → Int32) (F : Nat → Nat → Int32), w_next_5 Q n a1 M F → ac_G x (r_R g) 3 (r_P g M F) 0 0 5 [(0, .ref (r_h g)), (1, .int a1)] [] := by
  intro n
  induction n with
  | zero => intro _ _ _ hw; exact hw.elim
  | succ n ih =>
    intro a1 M F hw
    dsimp only [w_next_5] at hw
    refine ac_iload_n Z.1 1 dX12_next_5 rfl ?_
    refine ac_aload_n Z.1 0 dX12_next_6 rfl ?_
    refine r_geti (v := (M 2)) Z.1 Z.2.1 2 (by decide) rfl fX12_166 rfl rfl dX12_next_7 ?_
    obtain ⟨hwt, hwf⟩ := hw
    refine ac_icmp_ge (tgt := 63) Z.1 dX12_next_10 (by decide) (fun hc => ?_) (fun hc => ?_)
    · have hw := hwt hc
      exact s_next_63 Z hret _ _ _ hw
    · have hw := hwf hc
      refine ac_aload_n Z.1 0 dX12_next_13 rfl ?_
      refine r_geta Z.1 Z.2.1 0 (by decide) rfl fX12_7 rfl dX12_next_14 ?_
      refine ac_iload_n Z.1 1 dX12_next_17 rfl ?_
      obtain ⟨hb14, hw⟩ := hw
      refine r_ald (v := ((F 0) (a1).toNatClampNeg)) Z.1 Z.2.1 0 0 4020 rfl rfl hb14 rfl dX12_next_18 ?_
      refine ac_bipush (v := 9) Z.1 dX12_next_19 (by decide) ?_
      obtain ⟨hwt, hwf⟩ := hw
      refine ac_icmp_eq (tgt := 57) Z.1 dX12_next_21 (by decide) (fun hc => ?_) (fun hc => ?_)
      · have hw := hwt hc
        exact s_next_57 Z hret ih _ _ _ hw
      · have hw := hwf hc
        refine ac_aload_n Z.1 0 dX12_next_24 rfl ?_
        refine r_geta Z.1 Z.2.1 0 (by decide) rfl fX12_7 rfl dX12_next_25 ?_
        refine ac_iload_n Z.1 1 dX12_next_28 rfl ?_
        obtain ⟨hb15, hw⟩ := hw
        refine r_ald (v := ((F 0) (a1).toNatClampNeg)) Z.1 Z.2.1 0 0 4020 rfl rfl hb15 rfl dX12_next_29 ?_
        refine ac_bipush (v := 10) Z.1 dX12_next_30 (by decide) ?_
        obtain ⟨hwt, hwf⟩ := hw
        refine ac_icmp_eq (tgt := 57) Z.1 dX12_next_32 (by decide) (fun hc => ?_) (fun hc => ?_)
        · have hw := hwt hc
          exact s_next_57 Z hret ih _ _ _ hw
        · have hw := hwf hc
          refine ac_aload_n Z.1 0 dX12_next_35 rfl ?_
          refine r_geta Z.1 Z.2.1 0 (by decide) rfl fX12_7 rfl dX12_next_36 ?_
          refine ac_iload_n Z.1 1 dX12_next_39 rfl ?_
          obtain ⟨hb16, hw⟩ := hw
          refine r_ald (v := ((F 0) (a1).toNatClampNeg)) Z.1 Z.2.1 0 0 4020 rfl rfl hb16 rfl dX12_next_40 ?_
          refine ac_bipush (v := 13) Z.1 dX12_next_41 (by decide) ?_
          obtain ⟨hwt, hwf⟩ := hw
          refine ac_icmp_eq (tgt := 57) Z.1 dX12_next_43 (by decide) (fun hc => ?_) (fun hc => ?_)
          · have hw := hwt hc
            exact s_next_57 Z hret ih _ _ _ hw
          · have hw := hwf hc
            refine ac_aload_n Z.1 0 dX12_next_46 rfl ?_
            refine r_geta Z.1 Z.2.1 0 (by decide) rfl fX12_7 rfl dX12_next_47 ?_
            refine ac_iload_n Z.1 1 dX12_next_50 rfl ?_
            obtain ⟨hb17, hw⟩ := hw
            refine r_ald (v := ((F 0) (a1).toNatClampNeg)) Z.1 Z.2.1 0 0 4020 rfl rfl hb17 rfl dX12_next_51 ?_
            refine ac_bipush (v := 32) Z.1 dX12_next_52 (by decide) ?_
            obtain ⟨hwt, hwf⟩ := hw
            refine ac_icmp_ne (tgt := 63) Z.1 dX12_next_54 (by decide) (fun hc => ?_) (fun hc => ?_)
            · have hw := hwt hc
              exact s_next_63 Z hret _ _ _ hw
            · have hw := hwf hc
              exact s_next_57 Z hret ih _ _ _ hw
def w_next (M : Nat → Int32) (F : Nat → Nat → Int32) (Q : (Nat → Int32) → (Nat → Nat → Int32) → Prop) : Prop := ∃ e5, w_next_5 Q e5 (M 3) M F
set_option maxRecDepth 20000 in
theorem so_next {l : Launch} {g : r_S} (M : Nat → Int32) (F : Nat → Nat → Int32) (Q : (Nat → Int32) → (Nat → Nat → Int32) → Prop) (hw : w_next  M F Q) : r_MetV l g yX12_next cX12_next 3 (8) [.ref (r_h g)] M F Q := by
  refine r_MetV.of (by decide) rfl (Nat.le_of_ble_eq_true rfl) (fun x Z hret => ?_)
  show ac_G x (r_R g) 3 (r_P g M F) 0 0 0 [(0, .ref (r_h g))] []
  refine ac_aload_n Z.1 0 dX12_next_0 rfl ?_
  refine r_geti (v := (M 3)) Z.1 Z.2.1 3 (by decide) rfl fX12_179 rfl rfl dX12_next_1 ?_
  refine ac_istore_n (lv' := [(1, .int (M 3)), (0, .ref (r_h g))]) Z.1 dX12_next_4 (by decide) rfl ?_
  obtain ⟨n, hw⟩ := hw
  refine ac_lv [1, 0] rfl ?_
  exact s_next_5 Z hret n _ _ _ hw
def w_pass (M : Nat → Int32) (F : Nat → Nat → Int32) (Q : (Nat → Int32) → (Nat → Nat → Int32) → Prop) : Prop := w_bad M F (fun r1 M2 F2 => ((¬ r1 = 0 → (Q M2 F2)) ∧ (r1 = 0 → (w_next M2 F2 (fun M3 F3 => (Q M3 F3))))))
set_option maxRecDepth 20000 in
theorem so_pass {l : Launch} {g : r_S} (M : Nat → Int32) (F : Nat → Nat → Int32) (Q : (Nat → Int32) → (Nat → Nat → Int32) → Prop) (hw : w_pass  M F Q) : r_MetV l g yX12_pass cX12_pass 1 (9) [.ref (r_h g)] M F Q := by
  refine r_MetV.of (by decide) rfl (Nat.le_of_ble_eq_true rfl) (fun x Z hret => ?_)
  show ac_G x (r_R g) 1 (r_P g M F) 0 0 0 [(0, .ref (r_h g))] []
  refine ac_aload_n Z.1 0 dX12_pass_0 rfl ?_
  refine r_calli (As := []) (st := []) Z kX12_bad lkX12_230 (by omega) rfl (so_bad    _ _ _ hw) rfl rfl (Nat.le_of_ble_eq_true rfl) dX12_pass_1 (fun r1 M2 F2 hw => ?_)
  obtain ⟨hwt, hwf⟩ := hw
  refine ac_if_ne (tgt := 11) Z.1 dX12_pass_4 (by decide) (fun hc => ?_) (fun hc => ?_)
  · have hw := hwt hc
    exact hret _ _ _ _ dX12_pass_11 hw
  · have hw := hwf hc
    refine ac_aload_n Z.1 0 dX12_pass_7 rfl ?_
    refine r_callv (As := []) (st := []) Z kX12_next lkX12_234 (by omega) rfl (so_next    _ _ _ hw) rfl rfl (Nat.le_of_ble_eq_true rfl) dX12_pass_8 (fun M3 F3 hw => ?_)
    exact hret _ _ _ _ dX12_pass_11 hw
def w_need (p1 : Int32) (M : Nat → Int32) (F : Nat → Nat → Int32) (Q : (Nat → Int32) → (Nat → Nat → Int32) → Prop) : Prop := w_isSign p1 M F (fun r1 M2 F2 => ((r1 = 0 → (w_fail M2 F2 (fun M3 F3 => (Q M3 F3)))) ∧ (¬ r1 = 0 → (w_pass M2 F2 (fun M4 F4 => (Q M4 F4))))))
set_option maxRecDepth 20000 in
theorem so_need {l : Launch} {g : r_S} (p1 : Int32) (M : Nat → Int32) (F : Nat → Nat → Int32) (Q : (Nat → Int32) → (Nat → Nat → Int32) → Prop) (hw : w_need p1 M F Q) : r_MetV l g yX12_need cX12_need 2 (10) [.ref (r_h g), .int p1] M F Q := by
  refine r_MetV.of (by decide) rfl (Nat.le_of_ble_eq_true rfl) (fun x Z hret => ?_)
  show ac_G x (r_R g) 2 (r_P g M F) 0 0 0 [(0, .ref (r_h g)), (1, .int p1)] []
  refine ac_aload_n Z.1 0 dX12_need_0 rfl ?_
  refine ac_iload_n Z.1 1 dX12_need_1 rfl ?_
  refine r_calli (As := [.int p1]) (st := []) Z kX12_isSign lkX12_237 (by omega) rfl (so_isSign   _ _ _ _ hw) rfl rfl (Nat.le_of_ble_eq_true rfl) dX12_need_2 (fun r1 M2 F2 hw => ?_)
  obtain ⟨hwt, hwf⟩ := hw
  refine ac_if_eq (tgt := 15) Z.1 dX12_need_5 (by decide) (fun hc => ?_) (fun hc => ?_)
  · have hw := hwt hc
    refine ac_aload_n Z.1 0 dX12_need_15 rfl ?_
    refine r_callv (As := []) (st := []) Z kX12_fail lkX12_243 (by omega) rfl (so_fail    _ _ _ hw) rfl rfl (Nat.le_of_ble_eq_true rfl) dX12_need_16 (fun M3 F3 hw => ?_)
    exact hret _ _ _ _ dX12_need_19 hw
  · have hw := hwf hc
    refine ac_aload_n Z.1 0 dX12_need_8 rfl ?_
    refine r_callv (As := []) (st := []) Z kX12_pass lkX12_240 (by omega) rfl (so_pass    _ _ _ hw) rfl rfl (Nat.le_of_ble_eq_true rfl) dX12_need_9 (fun M4 F4 hw => ?_)
    refine ac_goto (tgt := 19) Z.1 dX12_need_12 (by decide) ?_
    exact hret _ _ _ _ dX12_need_19 hw
def w_needWord (p1 : Int32) (M : Nat → Int32) (F : Nat → Nat → Int32) (Q : (Nat → Int32) → (Nat → Nat → Int32) → Prop) : Prop := w_isWord p1 M F (fun r1 M2 F2 => ((r1 = 0 → (w_fail M2 F2 (fun M3 F3 => (Q M3 F3)))) ∧ (¬ r1 = 0 → (w_pass M2 F2 (fun M4 F4 => (Q M4 F4))))))
set_option maxRecDepth 20000 in
theorem so_needWord {l : Launch} {g : r_S} (p1 : Int32) (M : Nat → Int32) (F : Nat → Nat → Int32) (Q : (Nat → Int32) → (Nat → Nat → Int32) → Prop) (hw : w_needWord p1 M F Q) : r_MetV l g yX12_needWord cX12_needWord 2 (10) [.ref (r_h g), .int p1] M F Q := by
  refine r_MetV.of (by decide) rfl (Nat.le_of_ble_eq_true rfl) (fun x Z hret => ?_)
  show ac_G x (r_R g) 2 (r_P g M F) 0 0 0 [(0, .ref (r_h g)), (1, .int p1)] []
  refine ac_aload_n Z.1 0 dX12_needWord_0 rfl ?_
  refine ac_iload_n Z.1 1 dX12_needWord_1 rfl ?_
  refine r_calli (As := [.int p1]) (st := []) Z kX12_isWord lkX12_246 (by omega) rfl (so_isWord   _ _ _ _ hw) rfl rfl (Nat.le_of_ble_eq_true rfl) dX12_needWord_2 (fun r1 M2 F2 hw => ?_)
  obtain ⟨hwt, hwf⟩ := hw
  refine ac_if_eq (tgt := 15) Z.1 dX12_needWord_5 (by decide) (fun hc => ?_) (fun hc => ?_)
  · have hw := hwt hc
    refine ac_aload_n Z.1 0 dX12_needWord_15 rfl ?_
    refine r_callv (As := []) (st := []) Z kX12_fail lkX12_243 (by omega) rfl (so_fail    _ _ _ hw) rfl rfl (Nat.le_of_ble_eq_true rfl) dX12_needWord_16 (fun M3 F3 hw => ?_)
    exact hret _ _ _ _ dX12_needWord_19 hw
  · have hw := hwf hc
    refine ac_aload_n Z.1 0 dX12_needWord_8 rfl ?_
    refine r_callv (As := []) (st := []) Z kX12_pass lkX12_240 (by omega) rfl (so_pass    _ _ _ hw) rfl rfl (Nat.le_of_ble_eq_true rfl) dX12_needWord_9 (fun M4 F4 hw => ?_)
    refine ac_goto (tgt := 19) Z.1 dX12_needWord_12 (by decide) ?_
    exact hret _ _ _ _ dX12_needWord_19 hw
def w_opens_21 (Q : (Nat → Int32) → (Nat → Nat → Int32) → Prop) (M : Nat → Int32) (F : Nat → Nat → Int32) : Prop := w_pass (um M 33 ((M 33) + 1)) F (fun M4 F4 => (Q M4 F4))
set_option maxRecDepth 20000 in
theorem s_opens_21 {x : ac_X} {g : r_S} {l : Launch} {Q : (Nat → Int32) → (Nat → Nat → Int32) → Prop} (Z : r_Cx x g l cX12_opens 2 (10)) (hret : r_RV x g 2 cX12_opens Q) (M : Nat → Int32) (F : Nat → Nat → Int32) (hw : w_opens_21 Q M F) : ac_G x (r_R g) 2 (r_P g M F) 0 0 21 [(0, .ref (r_h g))] [] := by
  refine ac_aload_n Z.1 0 dX12_opens_21 rfl ?_
  refine ac_dup Z.1 dX12_opens_22 rfl ?_
  refine r_geti (v := (M 33)) Z.1 Z.2.1 33 (by decide) rfl fX12_249 rfl rfl dX12_opens_23 ?_
  refine ac_iconst (v := 1) Z.1 dX12_opens_26 (by decide) ?_
  refine ac_iadd Z.1 dX12_opens_27 ?_
  refine r_put Z.1 Z.2.1 33 (by decide) rfl rfl rfl fX12_249 rfl dX12_opens_28 ?_
  refine ac_aload_n Z.1 0 dX12_opens_31 rfl ?_
  refine r_callv (As := []) (st := []) Z kX12_pass lkX12_240 (by omega) rfl (so_pass    _ _ _ hw) rfl rfl (Nat.le_of_ble_eq_true rfl) dX12_opens_32 (fun M4 F4 hw => ?_)
  exact hret _ _ _ _ dX12_opens_35 hw
def w_opens_17 (Q : (Nat → Int32) → (Nat → Nat → Int32) → Prop) (M : Nat → Int32) (F : Nat → Nat → Int32) : Prop := w_fail M F (fun M3 F3 => (w_opens_21 Q M3 F3))
set_option maxRecDepth 20000 in
theorem s_opens_17 {x : ac_X} {g : r_S} {l : Launch} {Q : (Nat → Int32) → (Nat → Nat → Int32) → Prop} (Z : r_Cx x g l cX12_opens 2 (10)) (hret : r_RV x g 2 cX12_opens Q) (M : Nat → Int32) (F : Nat → Nat → Int32) (hw : w_opens_17 Q M F) : ac_G x (r_R g) 2 (r_P g M F) 0 0 17 [(0, .ref (r_h g))] [] := by
  refine ac_aload_n Z.1 0 dX12_opens_17 rfl ?_
  refine r_callv (As := []) (st := []) Z kX12_fail lkX12_243 (by omega) rfl (so_fail    _ _ _ hw) rfl rfl (Nat.le_of_ble_eq_true rfl) dX12_opens_18 (fun M3 F3 hw => ?_)
  exact s_opens_21 Z hret _ _ hw
def w_opens (p1 : Int32) (M : Nat → Int32) (F : Nat → Nat → Int32) (Q : (Nat → Int32) → (Nat → Nat → Int32) → Prop) : Prop := w_isSign p1 M F (fun r1 M2 F2 => ((r1 = 0 → (w_opens_17 Q M2 F2)) ∧ (¬ r1 = 0 → ((¬ (M2 33) = 20 → (w_opens_21 Q M2 F2)) ∧ ((M2 33) = 20 → (w_opens_17 Q M2 F2))))))
set_option maxRecDepth 20000 in
theorem so_opens {l : Launch} {g : r_S} (p1 : Int32) (M : Nat → Int32) (F : Nat → Nat → Int32) (Q : (Nat → Int32) → (Nat → Nat → Int32) → Prop) (hw : w_opens p1 M F Q) : r_MetV l g yX12_opens cX12_opens 2 (10) [.ref (r_h g), .int p1] M F Q := by
  refine r_MetV.of (by decide) rfl (Nat.le_of_ble_eq_true rfl) (fun x Z hret => ?_)
  show ac_G x (r_R g) 2 (r_P g M F) 0 0 0 [(0, .ref (r_h g)), (1, .int p1)] []
  refine ac_aload_n Z.1 0 dX12_opens_0 rfl ?_
  refine ac_iload_n Z.1 1 dX12_opens_1 rfl ?_
  refine r_calli (As := [.int p1]) (st := []) Z kX12_isSign lkX12_237 (by omega) rfl (so_isSign   _ _ _ _ hw) rfl rfl (Nat.le_of_ble_eq_true rfl) dX12_opens_2 (fun r1 M2 F2 hw => ?_)
  obtain ⟨hwt, hwf⟩ := hw
  refine ac_if_eq (tgt := 17) Z.1 dX12_opens_5 (by decide) (fun hc => ?_) (fun hc => ?_)
  · have hw := hwt hc
    refine ac_lv [0] rfl ?_
    exact s_opens_17 Z hret _ _ hw
  · have hw := hwf hc
    refine ac_aload_n Z.1 0 dX12_opens_8 rfl ?_
    refine r_geti (v := (M2 33)) Z.1 Z.2.1 33 (by decide) rfl fX12_249 rfl rfl dX12_opens_9 ?_
    refine ac_bipush (v := 20) Z.1 dX12_opens_12 (by decide) ?_
    obtain ⟨hwt, hwf⟩ := hw
    refine ac_icmp_ne (tgt := 21) Z.1 dX12_opens_14 (by decide) (fun hc => ?_) (fun hc => ?_)
    · have hw := hwt hc
      refine ac_lv [0] rfl ?_
      exact s_opens_21 Z hret _ _ hw
    · have hw := hwf hc
      refine ac_lv [0] rfl ?_
      exact s_opens_17 Z hret _ _ hw
def w_closes (p1 : Int32) (M : Nat → Int32) (F : Nat → Nat → Int32) (Q : (Nat → Int32) → (Nat → Nat → Int32) → Prop) : Prop := w_need p1 M F (fun M1 F1 => (Q (um M1 33 ((M1 33) - 1)) F1))
set_option maxRecDepth 20000 in
theorem so_closes {l : Launch} {g : r_S} (p1 : Int32) (M : Nat → Int32) (F : Nat → Nat → Int32) (Q : (Nat → Int32) → (Nat → Nat → Int32) → Prop) (hw : w_closes p1 M F Q) : r_MetV l g yX12_closes cX12_closes 2 (11) [.ref (r_h g), .int p1] M F Q := by
  refine r_MetV.of (by decide) rfl (Nat.le_of_ble_eq_true rfl) (fun x Z hret => ?_)
  show ac_G x (r_R g) 2 (r_P g M F) 0 0 0 [(0, .ref (r_h g)), (1, .int p1)] []
  refine ac_aload_n Z.1 0 dX12_closes_0 rfl ?_
  refine ac_iload_n Z.1 1 dX12_closes_1 rfl ?_
  refine r_callv (As := [.int p1]) (st := []) Z kX12_need lkX12_252 (by omega) rfl (so_need   _ _ _ _ hw) rfl rfl (Nat.le_of_ble_eq_true rfl) dX12_closes_2 (fun M1 F1 hw => ?_)
  refine ac_aload_n Z.1 0 dX12_closes_5 rfl ?_
  refine ac_dup Z.1 dX12_closes_6 rfl ?_
  refine r_geti (v := (M1 33)) Z.1 Z.2.1 33 (by decide) rfl fX12_249 rfl rfl dX12_closes_7 ?_
  refine ac_iconst (v := 1) Z.1 dX12_closes_10 (by decide) ?_
  refine ac_isub Z.1 dX12_closes_11 ?_
  refine r_put Z.1 Z.2.1 33 (by decide) rfl rfl rfl fX12_249 rfl dX12_closes_12 ?_
  exact hret _ _ _ _ dX12_closes_15 hw
def w_taken_23 (Q : Int32 → (Nat → Int32) → (Nat → Nat → Int32) → Prop) (M : Nat → Int32) (F : Nat → Nat → Int32) : Prop := w_fail M F (fun M3 F3 => (Q 0 M3 F3))
set_option maxRecDepth 20000 in
theorem s_taken_23 {x : ac_X} {g : r_S} {l : Launch} {Q : Int32 → (Nat → Int32) → (Nat → Nat → Int32) → Prop} (Z : r_Cx x g l cX12_taken 3 (10)) (hret : r_RI x g 3 cX12_taken .int Q) (M : Nat → Int32) (F : Nat → Nat → Int32) (hw : w_taken_23 Q M F) : ac_G x (r_R g) 3 (r_P g M F) 0 0 23 [(0, .ref (r_h g))] [] := by
  refine ac_aload_n Z.1 0 dX12_taken_23 rfl ?_
  refine r_callv (As := []) (st := []) Z kX12_fail lkX12_243 (by omega) rfl (so_fail    _ _ _ hw) rfl rfl (Nat.le_of_ble_eq_true rfl) dX12_taken_24 (fun M3 F3 hw => ?_)
  refine ac_iconst (v := 0) Z.1 dX12_taken_27 (by decide) ?_
  exact hret _ _ _ _ _ dX12_taken_28 rfl hw
def w_taken (p1 : Int32) (M : Nat → Int32) (F : Nat → Nat → Int32) (Q : Int32 → (Nat → Int32) → (Nat → Nat → Int32) → Prop) : Prop := w_bad (um M 47 (M 6)) F (fun r1 M2 F2 => ((¬ r1 = 0 → (w_taken_23 Q M2 F2)) ∧ (r1 = 0 → (((M2 4) = p1 → (w_pass M2 F2 (fun M4 F4 => (Q (M2 5) M4 F4)))) ∧ (¬ (M2 4) = p1 → (w_taken_23 Q M2 F2))))))
set_option maxRecDepth 20000 in
theorem so_taken {l : Launch} {g : r_S} (p1 : Int32) (M : Nat → Int32) (F : Nat → Nat → Int32) (Q : Int32 → (Nat → Int32) → (Nat → Nat → Int32) → Prop) (hw : w_taken p1 M F Q) : r_MetI l g yX12_taken cX12_taken 3 .int (10) [.ref (r_h g), .int p1] M F Q := by
  refine r_MetI.of (by decide) rfl (Nat.le_of_ble_eq_true rfl) (fun x Z hret => ?_)
  show ac_G x (r_R g) 3 (r_P g M F) 0 0 0 [(0, .ref (r_h g)), (1, .int p1)] []
  refine ac_aload_n Z.1 0 dX12_taken_0 rfl ?_
  refine ac_aload_n Z.1 0 dX12_taken_1 rfl ?_
  refine r_geti (v := (M 6)) Z.1 Z.2.1 6 (by decide) rfl fX12_182 rfl rfl dX12_taken_2 ?_
  refine r_put Z.1 Z.2.1 47 (by decide) rfl rfl rfl fX12_255 rfl dX12_taken_5 ?_
  refine ac_aload_n Z.1 0 dX12_taken_8 rfl ?_
  refine r_calli (As := []) (st := []) Z kX12_bad lkX12_230 (by omega) rfl (so_bad    _ _ _ hw) rfl rfl (Nat.le_of_ble_eq_true rfl) dX12_taken_9 (fun r1 M2 F2 hw => ?_)
  obtain ⟨hwt, hwf⟩ := hw
  refine ac_if_ne (tgt := 23) Z.1 dX12_taken_12 (by decide) (fun hc => ?_) (fun hc => ?_)
  · have hw := hwt hc
    refine ac_lv [0] rfl ?_
    exact s_taken_23 Z hret _ _ hw
  · have hw := hwf hc
    refine ac_aload_n Z.1 0 dX12_taken_15 rfl ?_
    refine r_geti (v := (M2 4)) Z.1 Z.2.1 4 (by decide) rfl fX12_198 rfl rfl dX12_taken_16 ?_
    refine ac_iload_n Z.1 1 dX12_taken_19 rfl ?_
    obtain ⟨hwt, hwf⟩ := hw
    refine ac_icmp_eq (tgt := 29) Z.1 dX12_taken_20 (by decide) (fun hc => ?_) (fun hc => ?_)
    · have hw := hwt hc
      refine ac_aload_n Z.1 0 dX12_taken_29 rfl ?_
      refine r_geti (v := (M2 5)) Z.1 Z.2.1 5 (by decide) rfl fX12_207 rfl rfl dX12_taken_30 ?_
      refine ac_istore_n (lv' := [(2, .int (M2 5)), (0, .ref (r_h g)), (1, .int p1)]) Z.1 dX12_taken_33 (by decide) rfl ?_
      refine ac_aload_n Z.1 1 dX12_taken_34 rfl ?_
      refine r_callv (As := []) (st := []) Z kX12_pass lkX12_240 (by omega) rfl (so_pass    _ _ _ hw) rfl rfl (Nat.le_of_ble_eq_true rfl) dX12_taken_35 (fun M4 F4 hw => ?_)
      refine ac_iload_n Z.1 0 dX12_taken_38 rfl ?_
      exact hret _ _ _ _ _ dX12_taken_39 rfl hw
    · have hw := hwf hc
      refine ac_lv [0] rfl ?_
      exact s_taken_23 Z hret _ _ hw
def w_object_82 (Q : Int32 → (Nat → Int32) → (Nat → Nat → Int32) → Prop) (a1 : Int32) (M : Nat → Int32) (F : Nat → Nat → Int32) : Prop := vp_in a1 2100 ∧ (Q ((F 10) (a1).toNatClampNeg) M F)
set_option maxRecDepth 20000 in
theorem s_object_82 {x : ac_X} {g : r_S} {l : Launch} {Q : Int32 → (Nat → Int32) → (Nat → Nat → Int32) → Prop} (Z : r_Cx x g l cX12_object 2 (11)) (hret : r_RI x g 2 cX12_object .int Q) (a1 : Int32) (M : Nat → Int32) (F : Nat → Nat → Int32) (hw : w_object_82 Q a1 M F) : ac_G x (r_R g) 2 (r_P g M F) 0 0 82 [(0, .ref (r_h g)), (1, .int a1)] [] := by
  refine ac_aload_n Z.1 0 dX12_object_82 rfl ?_
  refine r_geta Z.1 Z.2.1 10 (by decide) rfl fX12_22 rfl dX12_object_83 ?_
  refine ac_iload_n Z.1 1 dX12_object_86 rfl ?_
  obtain ⟨hb6, hw⟩ := hw
  refine r_ald (v := ((F 10) (a1).toNatClampNeg)) Z.1 Z.2.1 4 10 2100 rfl rfl hb6 rfl dX12_object_87 ?_
  exact hret _ _ _ _ _ dX12_object_88 rfl hw
def w_object (M : Nat → Int32) (F : Nat → Nat → Int32) (Q : Int32 → (Nat → Int32) → (Nat → Nat → Int32) → Prop) : Prop := w_taken 2 M F (fun r1 M2 F2 => (w_bad M2 F2 (fun r3 M4 F4 => ((r3 = 0 → (vp_in r1 2100 ∧ ((((F4 9) (r1).toNatClampNeg) = (M4 30) → (w_object_82 Q r1 M4 F4)) ∧ (¬ ((F4 9) (r1).toNatClampNeg) = (M4 30) → (vp_in r1 2100 ∧ (vp_in r1 2100 ∧ ((((M4 35) + 1) ≤ 8 → (w_object_82 Q r1 (um M4 35 ((M4 35) + 1)) (uf (uf F4 9 r1 (M4 30)) 10 r1 (M4 35)))) ∧ (¬ ((M4 35) + 1) ≤ 8 → (w_least (M4 38) (M4 47) (um M4 35 ((M4 35) + 1)) (uf (uf F4 9 r1 (M4 30)) 10 r1 (M4 35)) (fun r9 M10 F10 => (w_object_82 Q r1 (um M10 38 r9) F10))))))))))) ∧ (¬ r3 = 0 → (Q 0 M4 F4))))))
set_option maxRecDepth 20000 in
theorem so_object {l : Launch} {g : r_S} (M : Nat → Int32) (F : Nat → Nat → Int32) (Q : Int32 → (Nat → Int32) → (Nat → Nat → Int32) → Prop) (hw : w_object  M F Q) : r_MetI l g yX12_object cX12_object 2 .int (11) [.ref (r_h g)] M F Q := by
  refine r_MetI.of (by decide) rfl (Nat.le_of_ble_eq_true rfl) (fun x Z hret => ?_)
  show ac_G x (r_R g) 2 (r_P g M F) 0 0 0 [(0, .ref (r_h g))] []
  refine ac_aload_n Z.1 0 dX12_object_0 rfl ?_
  refine ac_iconst (v := 2) Z.1 dX12_object_1 (by decide) ?_
  refine r_calli (As := [.int 2]) (st := []) Z kX12_taken lkX12_274 (by omega) rfl (so_taken   _ _ _ _ hw) rfl rfl (Nat.le_of_ble_eq_true rfl) dX12_object_2 (fun r1 M2 F2 hw => ?_)
  refine ac_istore_n (lv' := [(1, .int r1), (0, .ref (r_h g))]) Z.1 dX12_object_5 (by decide) rfl ?_
  refine ac_aload_n Z.1 1 dX12_object_6 rfl ?_
  refine r_calli (As := []) (st := []) Z kX12_bad lkX12_230 (by omega) rfl (so_bad    _ _ _ hw) rfl rfl (Nat.le_of_ble_eq_true rfl) dX12_object_7 (fun r3 M4 F4 hw => ?_)
  obtain ⟨hwt, hwf⟩ := hw
  refine ac_if_eq (tgt := 15) Z.1 dX12_object_10 (by decide) (fun hc => ?_) (fun hc => ?_)
  · have hw := hwt hc
    refine ac_aload_n Z.1 1 dX12_object_15 rfl ?_
    refine r_geta Z.1 Z.2.1 9 (by decide) rfl fX12_19 rfl dX12_object_16 ?_
    refine ac_iload_n Z.1 0 dX12_object_19 rfl ?_
    obtain ⟨hb5, hw⟩ := hw
    refine r_ald (v := ((F4 9) (r1).toNatClampNeg)) Z.1 Z.2.1 3 9 2100 rfl rfl hb5 rfl dX12_object_20 ?_
    refine ac_aload_n Z.1 1 dX12_object_21 rfl ?_
    refine r_geti (v := (M4 30)) Z.1 Z.2.1 30 (by decide) rfl fX12_258 rfl rfl dX12_object_22 ?_
    obtain ⟨hwt, hwf⟩ := hw
    refine ac_icmp_eq (tgt := 82) Z.1 dX12_object_25 (by decide) (fun hc => ?_) (fun hc => ?_)
    · have hw := hwt hc
      refine ac_lv [1, 0] rfl ?_
      exact s_object_82 Z hret _ _ _ hw
    · have hw := hwf hc
      refine ac_aload_n Z.1 1 dX12_object_28 rfl ?_
      refine r_geta Z.1 Z.2.1 9 (by decide) rfl fX12_19 rfl dX12_object_29 ?_
      refine ac_iload_n Z.1 0 dX12_object_32 rfl ?_
      refine ac_aload_n Z.1 1 dX12_object_33 rfl ?_
      refine r_geti (v := (M4 30)) Z.1 Z.2.1 30 (by decide) rfl fX12_258 rfl rfl dX12_object_34 ?_
      obtain ⟨hb7, hw⟩ := hw
      refine r_ast Z.1 Z.2.1 3 9 2100 rfl rfl hb7 dX12_object_37 ?_
      refine ac_aload_n Z.1 1 dX12_object_38 rfl ?_
      refine r_geta Z.1 Z.2.1 10 (by decide) rfl fX12_22 rfl dX12_object_39 ?_
      refine ac_iload_n Z.1 0 dX12_object_42 rfl ?_
      refine ac_aload_n Z.1 1 dX12_object_43 rfl ?_
      refine r_geti (v := (M4 35)) Z.1 Z.2.1 35 (by decide) rfl fX12_277 rfl rfl dX12_object_44 ?_
      obtain ⟨hb8, hw⟩ := hw
      refine r_ast Z.1 Z.2.1 4 10 2100 rfl rfl hb8 dX12_object_47 ?_
      refine ac_aload_n Z.1 1 dX12_object_48 rfl ?_
      refine ac_dup Z.1 dX12_object_49 rfl ?_
      refine r_geti (v := (M4 35)) Z.1 Z.2.1 35 (by decide) rfl fX12_277 rfl rfl dX12_object_50 ?_
      refine ac_iconst (v := 1) Z.1 dX12_object_53 (by decide) ?_
      refine ac_iadd Z.1 dX12_object_54 ?_
      refine r_put Z.1 Z.2.1 35 (by decide) rfl rfl rfl fX12_277 rfl dX12_object_55 ?_
      refine ac_aload_n Z.1 1 dX12_object_58 rfl ?_
      refine r_geti (v := ((M4 35) + 1)) Z.1 Z.2.1 35 (by decide) rfl fX12_277 rfl rfl dX12_object_59 ?_
      refine ac_bipush (v := 8) Z.1 dX12_object_62 (by decide) ?_
      obtain ⟨hwt, hwf⟩ := hw
      refine ac_icmp_le (tgt := 82) Z.1 dX12_object_64 (by decide) (fun hc => ?_) (fun hc => ?_)
      · have hw := hwt hc
        refine ac_lv [1, 0] rfl ?_
        exact s_object_82 Z hret _ _ _ hw
      · have hw := hwf hc
        refine ac_aload_n Z.1 1 dX12_object_67 rfl ?_
        refine ac_aload_n Z.1 1 dX12_object_68 rfl ?_
        refine r_geti (v := (M4 38)) Z.1 Z.2.1 38 (by decide) rfl fX12_271 rfl rfl dX12_object_69 ?_
        refine ac_aload_n Z.1 1 dX12_object_72 rfl ?_
        refine r_geti (v := (M4 47)) Z.1 Z.2.1 47 (by decide) rfl fX12_255 rfl rfl dX12_object_73 ?_
        refine r_calls (As := [.int (M4 38), .int (M4 47)]) (st := [.ref (r_h g)]) Z kX12_least lkX12_264 (by omega) (so_least   _ _ _ _ _ hw) rfl rfl (Nat.le_of_ble_eq_true rfl) dX12_object_76 (fun r9 M10 F10 hw => ?_)
        refine r_put Z.1 Z.2.1 38 (by decide) rfl rfl rfl fX12_271 rfl dX12_object_79 ?_
        refine ac_lv [1, 0] rfl ?_
        exact s_object_82 Z hret _ _ _ hw
  · have hw := hwf hc
    refine ac_iconst (v := 0) Z.1 dX12_object_13 (by decide) ?_
    exact hret _ _ _ _ _ dX12_object_14 rfl hw
def w_parameter_33 (Q : (Nat → Int32) → (Nat → Nat → Int32) → Prop) (a2 : Int32) (M : Nat → Int32) (F : Nat → Nat → Int32) : Prop := w_tell a2 (M 47) M F (fun M3 F3 => (Q M3 F3))
set_option maxRecDepth 20000 in
theorem s_parameter_33 {x : ac_X} {g : r_S} {l : Launch} {Q : (Nat → Int32) → (Nat → Nat → Int32) → Prop} (Z : r_Cx x g l cX12_parameter 3 (11)) (hret : r_RV x g 3 cX12_parameter Q) (a2 : Int32) (M : Nat → Int32) (F : Nat → Nat → Int32) (hw : w_parameter_33 Q a2 M F) : ac_G x (r_R g) 3 (r_P g M F) 0 0 33 [(0, .ref (r_h g)), (2, .int a2)] [] := by
  refine ac_aload_n Z.1 0 dX12_parameter_33 rfl ?_
  refine ac_iload_n Z.1 1 dX12_parameter_34 rfl ?_
  refine ac_aload_n Z.1 0 dX12_parameter_35 rfl ?_
  refine r_geti (v := (M 47)) Z.1 Z.2.1 47 (by decide) rfl fX12_255 rfl rfl dX12_parameter_36 ?_
  refine r_callv (As := [.int a2, .int (M 47)]) (st := []) Z kX12_tell lkX12_305 (by omega) rfl (so_tell   _ _ _ _ _ hw) rfl rfl (Nat.le_of_ble_eq_true rfl) dX12_parameter_39 (fun M3 F3 hw => ?_)
  exact hret _ _ _ _ dX12_parameter_42 hw
def w_parameter (p1 : Int32) (M : Nat → Int32) (F : Nat → Nat → Int32) (Q : (Nat → Int32) → (Nat → Nat → Int32) → Prop) : Prop := w_taken 1 M F (fun r1 M2 F2 => ((p1 < 4 → (w_parameter_33 Q r1 M2 F2)) ∧ (¬ p1 < 4 → (w_bad M2 F2 (fun r4 M5 F5 => ((¬ r4 = 0 → (w_parameter_33 Q r1 M5 F5)) ∧ (r4 = 0 → (w_least (M5 38) (M5 47) M5 F5 (fun r6 M7 F7 => (w_parameter_33 Q r1 (um M7 38 r6) F7))))))))))
set_option maxRecDepth 20000 in
theorem so_parameter {l : Launch} {g : r_S} (p1 : Int32) (M : Nat → Int32) (F : Nat → Nat → Int32) (Q : (Nat → Int32) → (Nat → Nat → Int32) → Prop) (hw : w_parameter p1 M F Q) : r_MetV l g yX12_parameter cX12_parameter 3 (11) [.ref (r_h g), .int p1] M F Q := by
  refine r_MetV.of (by decide) rfl (Nat.le_of_ble_eq_true rfl) (fun x Z hret => ?_)
  show ac_G x (r_R g) 3 (r_P g M F) 0 0 0 [(0, .ref (r_h g)), (1, .int p1)] []
  refine ac_aload_n Z.1 0 dX12_parameter_0 rfl ?_
  refine ac_iconst (v := 1) Z.1 dX12_parameter_1 (by decide) ?_
  refine r_calli (As := [.int 1]) (st := []) Z kX12_taken lkX12_274 (by omega) rfl (so_taken   _ _ _ _ hw) rfl rfl (Nat.le_of_ble_eq_true rfl) dX12_parameter_2 (fun r1 M2 F2 hw => ?_)
  refine ac_istore_n (lv' := [(2, .int r1), (0, .ref (r_h g)), (1, .int p1)]) Z.1 dX12_parameter_5 (by decide) rfl ?_
  refine ac_iload_n Z.1 2 dX12_parameter_6 rfl ?_
  refine ac_iconst (v := 4) Z.1 dX12_parameter_7 (by decide) ?_
  obtain ⟨hwt, hwf⟩ := hw
  refine ac_icmp_lt (tgt := 33) Z.1 dX12_parameter_8 (by decide) (fun hc => ?_) (fun hc => ?_)
  · have hw := hwt hc
    refine ac_lv [1, 0] rfl ?_
    exact s_parameter_33 Z hret _ _ _ hw
  · have hw := hwf hc
    refine ac_aload_n Z.1 1 dX12_parameter_11 rfl ?_
    refine r_calli (As := []) (st := []) Z kX12_bad lkX12_230 (by omega) rfl (so_bad    _ _ _ hw) rfl rfl (Nat.le_of_ble_eq_true rfl) dX12_parameter_12 (fun r4 M5 F5 hw => ?_)
    obtain ⟨hwt, hwf⟩ := hw
    refine ac_if_ne (tgt := 33) Z.1 dX12_parameter_15 (by decide) (fun hc => ?_) (fun hc => ?_)
    · have hw := hwt hc
      refine ac_lv [1, 0] rfl ?_
      exact s_parameter_33 Z hret _ _ _ hw
    · have hw := hwf hc
      refine ac_aload_n Z.1 1 dX12_parameter_18 rfl ?_
      refine ac_aload_n Z.1 1 dX12_parameter_19 rfl ?_
      refine r_geti (v := (M5 38)) Z.1 Z.2.1 38 (by decide) rfl fX12_271 rfl rfl dX12_parameter_20 ?_
      refine ac_aload_n Z.1 1 dX12_parameter_23 rfl ?_
      refine r_geti (v := (M5 47)) Z.1 Z.2.1 47 (by decide) rfl fX12_255 rfl rfl dX12_parameter_24 ?_
      refine r_calls (As := [.int (M5 38), .int (M5 47)]) (st := [.ref (r_h g)]) Z kX12_least lkX12_264 (by omega) (so_least   _ _ _ _ _ hw) rfl rfl (Nat.le_of_ble_eq_true rfl) dX12_parameter_27 (fun r6 M7 F7 hw => ?_)
      refine r_put Z.1 Z.2.1 38 (by decide) rfl rfl rfl fX12_271 rfl dX12_parameter_30 ?_
      refine ac_lv [1, 0] rfl ?_
      exact s_parameter_33 Z hret _ _ _ hw
