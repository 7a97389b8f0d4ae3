def w_count_167 (Q : (Nat → Int32) → (Nat → Nat → Int32) → Prop) (t1 : Int32) (M : Nat → Int32) (F : Nat → Nat → Int32) : Prop := w_push t1 M F (fun M6 F6 => (Q M6 F6))
set_option maxRecDepth 20000 in
theorem s_count_167 {x : ac_X} {g : r_S} {l : Launch} {Q : (Nat → Int32) → (Nat → Nat → Int32) → Prop} (Z : r_Cx x g l cX12_count 4 (4)) (hret : r_RV x g 4 cX12_count Q) (t1 : Int32) (M : Nat → Int32) (F : Nat → Nat → Int32) (hw : w_count_167 Q t1 M F) : ac_G x (r_R g) 4 (r_P g M F) 0 0 167 [(0, .ref (r_h g))] [.int t1, .ref (r_h g)] := by
  refine r_callv (As := [.int t1]) (st := []) Z kX12_push lkX12_456 (by omega) rfl (so_push   _ _ _ _ hw) rfl rfl (Nat.le_of_ble_eq_true rfl) dX12_count_167 (fun M6 F6 hw => ?_)
  refine ac_goto (tgt := 221) Z.1 dX12_count_170 (by decide) ?_
  exact hret _ _ _ _ dX12_count_221 hw
def w_count_148 (Q : (Nat → Int32) → (Nat → Nat → Int32) → Prop) (t1 : Int32) (M : Nat → Int32) (F : Nat → Nat → Int32) : Prop := w_push t1 M F (fun M11 F11 => (Q M11 F11))
set_option maxRecDepth 20000 in
theorem s_count_148 {x : ac_X} {g : r_S} {l : Launch} {Q : (Nat → Int32) → (Nat → Nat → Int32) → Prop} (Z : r_Cx x g l cX12_count 4 (4)) (hret : r_RV x g 4 cX12_count Q) (t1 : Int32) (M : Nat → Int32) (F : Nat → Nat → Int32) (hw : w_count_148 Q t1 M F) : ac_G x (r_R g) 4 (r_P g M F) 0 0 148 [(0, .ref (r_h g))] [.int t1, .ref (r_h g)] := by
  refine r_callv (As := [.int t1]) (st := []) Z kX12_push lkX12_456 (by omega) rfl (so_push   _ _ _ _ hw) rfl rfl (Nat.le_of_ble_eq_true rfl) dX12_count_148 (fun M11 F11 hw => ?_)
  refine ac_goto (tgt := 221) Z.1 dX12_count_151 (by decide) ?_
  exact hret _ _ _ _ dX12_count_221 hw
def w_count_184 (Q : (Nat → Int32) → (Nat → Nat → Int32) → Prop) (t1 : Int32) (M : Nat → Int32) (F : Nat → Nat → Int32) : Prop := w_push t1 M F (fun M12 F12 => (Q M12 F12))
set_option maxRecDepth 20000 in
theorem s_count_184 {x : ac_X} {g : r_S} {l : Launch} {Q : (Nat → Int32) → (Nat → Nat → Int32) → Prop} (Z : r_Cx x g l cX12_count 4 (4)) (hret : r_RV x g 4 cX12_count Q) (t1 : Int32) (M : Nat → Int32) (F : Nat → Nat → Int32) (hw : w_count_184 Q t1 M F) : ac_G x (r_R g) 4 (r_P g M F) 0 0 184 [(0, .ref (r_h g))] [.int t1, .ref (r_h g)] := by
  refine r_callv (As := [.int t1]) (st := []) Z kX12_push lkX12_456 (by omega) rfl (so_push   _ _ _ _ hw) rfl rfl (Nat.le_of_ble_eq_true rfl) dX12_count_184 (fun M12 F12 hw => ?_)
  refine ac_goto (tgt := 221) Z.1 dX12_count_187 (by decide) ?_
  exact hret _ _ _ _ dX12_count_221 hw
def w_count_201 (Q : (Nat → Int32) → (Nat → Nat → Int32) → Prop) (t1 : Int32) (M : Nat → Int32) (F : Nat → Nat → Int32) : Prop := w_push t1 M F (fun M13 F13 => (Q M13 F13))
set_option maxRecDepth 20000 in
theorem s_count_201 {x : ac_X} {g : r_S} {l : Launch} {Q : (Nat → Int32) → (Nat → Nat → Int32) → Prop} (Z : r_Cx x g l cX12_count 4 (4)) (hret : r_RV x g 4 cX12_count Q) (t1 : Int32) (M : Nat → Int32) (F : Nat → Nat → Int32) (hw : w_count_201 Q t1 M F) : ac_G x (r_R g) 4 (r_P g M F) 0 0 201 [(0, .ref (r_h g))] [.int t1, .ref (r_h g)] := by
  refine r_callv (As := [.int t1]) (st := []) Z kX12_push lkX12_456 (by omega) rfl (so_push   _ _ _ _ hw) rfl rfl (Nat.le_of_ble_eq_true rfl) dX12_count_201 (fun M13 F13 hw => ?_)
  refine ac_goto (tgt := 221) Z.1 dX12_count_204 (by decide) ?_
  exact hret _ _ _ _ dX12_count_221 hw
def w_count_218 (Q : (Nat → Int32) → (Nat → Nat → Int32) → Prop) (t1 : Int32) (M : Nat → Int32) (F : Nat → Nat → Int32) : Prop := w_push t1 M F (fun M14 F14 => (Q M14 F14))
set_option maxRecDepth 20000 in
theorem s_count_218 {x : ac_X} {g : r_S} {l : Launch} {Q : (Nat → Int32) → (Nat → Nat → Int32) → Prop} (Z : r_Cx x g l cX12_count 4 (4)) (hret : r_RV x g 4 cX12_count Q) (t1 : Int32) (M : Nat → Int32) (F : Nat → Nat → Int32) (hw : w_count_218 Q t1 M F) : ac_G x (r_R g) 4 (r_P g M F) 0 0 218 [(0, .ref (r_h g))] [.int t1, .ref (r_h g)] := by
  refine r_callv (As := [.int t1]) (st := []) Z kX12_push lkX12_456 (by omega) rfl (so_push   _ _ _ _ hw) rfl rfl (Nat.le_of_ble_eq_true rfl) dX12_count_218 (fun M14 F14 hw => ?_)
  exact hret _ _ _ _ dX12_count_221 hw
def w_count_35 (Q : (Nat → Int32) → (Nat → Nat → Int32) → Prop) (a1 : Int32) (a2 : Int32) (a3 : Int32) (M : Nat → Int32) (F : Nat → Nat → Int32) : Prop := (a1 = 37 → ((¬ a2 = (-1) → (¬ a2 = 0 ∧ (w_count_167 Q (a3 - a3 / a2 * a2) M F))) ∧ (a2 = (-1) → (w_count_167 Q 0 M F)))) ∧ (a1 = 42 → (w_push (a3 * a2) M F (fun M7 F7 => (Q M7 F7)))) ∧ (a1 = 43 → (w_push (a3 + a2) M F (fun M8 F8 => (Q M8 F8)))) ∧ (a1 = 45 → (w_push (a3 - a2) M F (fun M9 F9 => (Q M9 F9)))) ∧ (a1 = 47 → ((¬ a2 = (-1) → (¬ a2 = 0 ∧ (w_count_148 Q (a3 / a2) M F))) ∧ (a2 = (-1) → (w_count_148 Q (-a3) M F)))) ∧ (a1 = 60 → ((a2 ≤ a3 → (w_count_184 Q 0 M F)) ∧ (¬ a2 ≤ a3 → (w_count_184 Q 1 M F)))) ∧ (a1 = 300 → ((¬ a3 = a2 → (w_count_201 Q 0 M F)) ∧ (a3 = a2 → (w_count_201 Q 1 M F)))) ∧ (¬ a1 = 37 → ¬ a1 = 42 → ¬ a1 = 43 → ¬ a1 = 45 → ¬ a1 = 47 → ¬ a1 = 60 → ¬ a1 = 300 → ((a3 = a2 → (w_count_218 Q 0 M F)) ∧ (¬ a3 = a2 → (w_count_218 Q 1 M F))))
set_option maxRecDepth 20000 in
theorem s_count_35 {x : ac_X} {g : r_S} {l : Launch} {Q : (Nat → Int32) → (Nat → Nat → Int32) → Prop} (Z : r_Cx x g l cX12_count 4 (4)) (hret : r_RV x g 4 cX12_count Q) (a1 : Int32) (a2 : Int32) (a3 : Int32) (M : Nat → Int32) (F : Nat → Nat → Int32) (hw : w_count_35 Q a1 a2 a3 M F) : ac_G x (r_R g) 4 (r_P g M F) 0 0 35 [(0, .ref (r_h g)), (1, .int a1), (2, .int a2), (3, .int a3)] [] := by
  refine ac_iload_n Z.1 1 dX12_count_35 rfl ?_
  obtain ⟨hwk, hw⟩ := hw
  by_cases hk0 : a1 = 37
  · have hw := hwk hk0
    refine ac_lookup (off := 118) (tgt := 154) Z.1 dX12_count_36 (by decide) (by rw [hk0]; rfl) (by decide) ?_
    refine ac_aload_n Z.1 0 dX12_count_154 rfl ?_
    refine ac_iload_n Z.1 2 dX12_count_155 rfl ?_
    refine ac_iconst (v := (-1)) Z.1 dX12_count_156 (by decide) ?_
    obtain ⟨hwt, hwf⟩ := hw
    refine ac_icmp_ne (tgt := 164) Z.1 dX12_count_157 (by decide) (fun hc => ?_) (fun hc => ?_)
    · have hw := hwt hc
      refine ac_iload_n Z.1 3 dX12_count_164 rfl ?_
      refine ac_iload_n Z.1 2 dX12_count_165 rfl ?_
      obtain ⟨hb5, hw⟩ := hw
      refine ac_irem Z.1 dX12_count_166 hb5 ?_
      refine ac_lv [0] rfl ?_
      exact s_count_167 Z hret _ _ _ hw
    · have hw := hwf hc
      refine ac_iconst (v := 0) Z.1 dX12_count_160 (by decide) ?_
      refine ac_goto (tgt := 167) Z.1 dX12_count_161 (by decide) ?_
      refine ac_lv [0] rfl ?_
      exact s_count_167 Z hret _ _ _ hw
  obtain ⟨hwk, hw⟩ := hw
  by_cases hk1 : a1 = 42
  · have hw := hwk hk1
    refine ac_lookup (off := 88) (tgt := 124) Z.1 dX12_count_36 (by decide) (by rw [hk1]; rfl) (by decide) ?_
    refine ac_aload_n Z.1 0 dX12_count_124 rfl ?_
    refine ac_iload_n Z.1 3 dX12_count_125 rfl ?_
    refine ac_iload_n Z.1 2 dX12_count_126 rfl ?_
    refine ac_imul Z.1 dX12_count_127 ?_
    refine r_callv (As := [.int (a3 * a2)]) (st := []) Z kX12_push lkX12_456 (by omega) rfl (so_push   _ _ _ _ hw) rfl rfl (Nat.le_of_ble_eq_true rfl) dX12_count_128 (fun M7 F7 hw => ?_)
    refine ac_goto (tgt := 221) Z.1 dX12_count_131 (by decide) ?_
    exact hret _ _ _ _ dX12_count_221 hw
  obtain ⟨hwk, hw⟩ := hw
  by_cases hk2 : a1 = 43
  · have hw := hwk hk2
    refine ac_lookup (off := 68) (tgt := 104) Z.1 dX12_count_36 (by decide) (by rw [hk2]; rfl) (by decide) ?_
    refine ac_aload_n Z.1 0 dX12_count_104 rfl ?_
    refine ac_iload_n Z.1 3 dX12_count_105 rfl ?_
    refine ac_iload_n Z.1 2 dX12_count_106 rfl ?_
    refine ac_iadd Z.1 dX12_count_107 ?_
    refine r_callv (As := [.int (a3 + a2)]) (st := []) Z kX12_push lkX12_456 (by omega) rfl (so_push   _ _ _ _ hw) rfl rfl (Nat.le_of_ble_eq_true rfl) dX12_count_108 (fun M8 F8 hw => ?_)
    refine ac_goto (tgt := 221) Z.1 dX12_count_111 (by decide) ?_
    exact hret _ _ _ _ dX12_count_221 hw
  obtain ⟨hwk, hw⟩ := hw
  by_cases hk3 : a1 = 45
  · have hw := hwk hk3
    refine ac_lookup (off := 78) (tgt := 114) Z.1 dX12_count_36 (by decide) (by rw [hk3]; rfl) (by decide) ?_
    refine ac_aload_n Z.1 0 dX12_count_114 rfl ?_
    refine ac_iload_n Z.1 3 dX12_count_115 rfl ?_
    refine ac_iload_n Z.1 2 dX12_count_116 rfl ?_
    refine ac_isub Z.1 dX12_count_117 ?_
    refine r_callv (As := [.int (a3 - a2)]) (st := []) Z kX12_push lkX12_456 (by omega) rfl (so_push   _ _ _ _ hw) rfl rfl (Nat.le_of_ble_eq_true rfl) dX12_count_118 (fun M9 F9 hw => ?_)
    refine ac_goto (tgt := 221) Z.1 dX12_count_121 (by decide) ?_
    exact hret _ _ _ _ dX12_count_221 hw
  obtain ⟨hwk, hw⟩ := hw
  by_cases hk4 : a1 = 47
  · have hw := hwk hk4
    refine ac_lookup (off := 98) (tgt := 134) Z.1 dX12_count_36 (by decide) (by rw [hk4]; rfl) (by decide) ?_
    refine ac_aload_n Z.1 0 dX12_count_134 rfl ?_
    refine ac_iload_n Z.1 2 dX12_count_135 rfl ?_
    refine ac_iconst (v := (-1)) Z.1 dX12_count_136 (by decide) ?_
    obtain ⟨hwt, hwf⟩ := hw
    refine ac_icmp_ne (tgt := 145) Z.1 dX12_count_137 (by decide) (fun hc => ?_) (fun hc => ?_)
    · have hw := hwt hc
      refine ac_iload_n Z.1 3 dX12_count_145 rfl ?_
      refine ac_iload_n Z.1 2 dX12_count_146 rfl ?_
      obtain ⟨hb10, hw⟩ := hw
      refine ac_idiv Z.1 dX12_count_147 hb10 ?_
      refine ac_lv [0] rfl ?_
      exact s_count_148 Z hret _ _ _ hw
    · have hw := hwf hc
      refine ac_iload_n Z.1 3 dX12_count_140 rfl ?_
      refine ac_ineg Z.1 dX12_count_141 rfl ?_
      refine ac_goto (tgt := 148) Z.1 dX12_count_142 (by decide) ?_
      refine ac_lv [0] rfl ?_
      exact s_count_148 Z hret _ _ _ hw
  obtain ⟨hwk, hw⟩ := hw
  by_cases hk5 : a1 = 60
  · have hw := hwk hk5
    refine ac_lookup (off := 137) (tgt := 173) Z.1 dX12_count_36 (by decide) (by rw [hk5]; rfl) (by decide) ?_
    refine ac_aload_n Z.1 0 dX12_count_173 rfl ?_
    refine ac_iload_n Z.1 3 dX12_count_174 rfl ?_
    refine ac_iload_n Z.1 2 dX12_count_175 rfl ?_
    obtain ⟨hwt, hwf⟩ := hw
    refine ac_icmp_ge (tgt := 183) Z.1 dX12_count_176 (by decide) (fun hc => ?_) (fun hc => ?_)
    · have hw := hwt hc
      refine ac_iconst (v := 0) Z.1 dX12_count_183 (by decide) ?_
      refine ac_lv [0] rfl ?_
      exact s_count_184 Z hret _ _ _ hw
    · have hw := hwf hc
      refine ac_iconst (v := 1) Z.1 dX12_count_179 (by decide) ?_
      refine ac_goto (tgt := 184) Z.1 dX12_count_180 (by decide) ?_
      refine ac_lv [0] rfl ?_
      exact s_count_184 Z hret _ _ _ hw
  obtain ⟨hwk, hw⟩ := hw
  by_cases hk6 : a1 = 300
  · have hw := hwk hk6
    refine ac_lookup (off := 154) (tgt := 190) Z.1 dX12_count_36 (by decide) (by rw [hk6]; rfl) (by decide) ?_
    refine ac_aload_n Z.1 0 dX12_count_190 rfl ?_
    refine ac_iload_n Z.1 3 dX12_count_191 rfl ?_
    refine ac_iload_n Z.1 2 dX12_count_192 rfl ?_
    obtain ⟨hwt, hwf⟩ := hw
    refine ac_icmp_ne (tgt := 200) Z.1 dX12_count_193 (by decide) (fun hc => ?_) (fun hc => ?_)
    · have hw := hwt hc
      refine ac_iconst (v := 0) Z.1 dX12_count_200 (by decide) ?_
      refine ac_lv [0] rfl ?_
      exact s_count_201 Z hret _ _ _ hw
    · have hw := hwf hc
      refine ac_iconst (v := 1) Z.1 dX12_count_196 (by decide) ?_
      refine ac_goto (tgt := 201) Z.1 dX12_count_197 (by decide) ?_
      refine ac_lv [0] rfl ?_
      exact s_count_201 Z hret _ _ _ hw
  have hw := hw hk0 hk1 hk2 hk3 hk4 hk5 hk6
  refine ac_lookup (off := 171) (tgt := 207) Z.1 dX12_count_36 (by decide) ((lv_osw hk0 (show (37 : Int32).toInt = 37 by decide)).trans ((lv_osw hk1 (show (42 : Int32).toInt = 42 by decide)).trans ((lv_osw hk2 (show (43 : Int32).toInt = 43 by decide)).trans ((lv_osw hk3 (show (45 : Int32).toInt = 45 by decide)).trans ((lv_osw hk4 (show (47 : Int32).toInt = 47 by decide)).trans ((lv_osw hk5 (show (60 : Int32).toInt = 60 by decide)).trans ((lv_osw hk6 (show (300 : Int32).toInt = 300 by decide)).trans rfl))))))) (by decide) ?_
  refine ac_aload_n Z.1 0 dX12_count_207 rfl ?_
  refine ac_iload_n Z.1 3 dX12_count_208 rfl ?_
  refine ac_iload_n Z.1 2 dX12_count_209 rfl ?_
  obtain ⟨hwt, hwf⟩ := hw
  refine ac_icmp_eq (tgt := 217) Z.1 dX12_count_210 (by decide) (fun hc => ?_) (fun hc => ?_)
  · have hw := hwt hc
    refine ac_iconst (v := 0) Z.1 dX12_count_217 (by decide) ?_
    refine ac_lv [0] rfl ?_
    exact s_count_218 Z hret _ _ _ hw
  · have hw := hwf hc
    refine ac_iconst (v := 1) Z.1 dX12_count_213 (by decide) ?_
    refine ac_goto (tgt := 218) Z.1 dX12_count_214 (by decide) ?_
    refine ac_lv [0] rfl ?_
    exact s_count_218 Z hret _ _ _ hw
def w_count_22 (Q : (Nat → Int32) → (Nat → Nat → Int32) → Prop) (a1 : Int32) (a2 : Int32) (a3 : Int32) (M : Nat → Int32) (F : Nat → Nat → Int32) : Prop := (¬ a2 = 0 → (w_count_35 Q a1 a2 a3 M F)) ∧ (a2 = 0 → (w_raises 6 3 0 M F (fun M15 F15 => (Q M15 F15))))
set_option maxRecDepth 20000 in
theorem s_count_22 {x : ac_X} {g : r_S} {l : Launch} {Q : (Nat → Int32) → (Nat → Nat → Int32) → Prop} (Z : r_Cx x g l cX12_count 4 (4)) (hret : r_RV x g 4 cX12_count Q) (a1 : Int32) (a2 : Int32) (a3 : Int32) (M : Nat → Int32) (F : Nat → Nat → Int32) (hw : w_count_22 Q a1 a2 a3 M F) : ac_G x (r_R g) 4 (r_P g M F) 0 0 22 [(0, .ref (r_h g)), (1, .int a1), (2, .int a2), (3, .int a3)] [] := by
  refine ac_iload_n Z.1 2 dX12_count_22 rfl ?_
  obtain ⟨hwt, hwf⟩ := hw
  refine ac_if_ne (tgt := 35) Z.1 dX12_count_23 (by decide) (fun hc => ?_) (fun hc => ?_)
  · have hw := hwt hc
    exact s_count_35 Z hret _ _ _ _ _ hw
  · have hw := hwf hc
    refine ac_aload_n Z.1 0 dX12_count_26 rfl ?_
    refine ac_bipush (v := 6) Z.1 dX12_count_27 (by decide) ?_
    refine ac_iconst (v := 3) Z.1 dX12_count_29 (by decide) ?_
    refine ac_iconst (v := 0) Z.1 dX12_count_30 (by decide) ?_
    refine r_callv (As := [.int 6, .int 3, .int 0]) (st := []) Z kX12_raises lkX12_476 (by omega) rfl (so_raises   _ _ _ _ _ _ hw) rfl rfl (Nat.le_of_ble_eq_true rfl) dX12_count_31 (fun M15 F15 hw => ?_)
    exact hret _ _ _ _ dX12_count_34 hw
def w_count (p1 : Int32) (M : Nat → Int32) (F : Nat → Nat → Int32) (Q : (Nat → Int32) → (Nat → Nat → Int32) → Prop) : Prop := w_pop M F (fun r1 M2 F2 => (w_pop M2 F2 (fun r3 M4 F4 => ((p1 = 47 → (w_count_22 Q p1 r1 r3 M4 F4)) ∧ (¬ p1 = 47 → ((¬ p1 = 37 → (w_count_35 Q p1 r1 r3 M4 F4)) ∧ (p1 = 37 → (w_count_22 Q p1 r1 r3 M4 F4))))))))
set_option maxRecDepth 20000 in
theorem so_count {l : Launch} {g : r_S} (p1 : Int32) (M : Nat → Int32) (F : Nat → Nat → Int32) (Q : (Nat → Int32) → (Nat → Nat → Int32) → Prop) (hw : w_count p1 M F Q) : r_MetV l g yX12_count cX12_count 4 (4) [.ref (r_h g), .int p1] M F Q := by
  refine r_MetV.of (by decide) rfl (Nat.le_of_ble_eq_true rfl) (fun x Z hret => ?_)
  show ac_G x (r_R g) 4 (r_P g M F) 0 0 0 [(0, .ref (r_h g)), (1, .int p1)] []
  refine ac_aload_n Z.1 0 dX12_count_0 rfl ?_
  refine r_calli (As := []) (st := []) Z kX12_pop lkX12_459 (by omega) rfl (so_pop    _ _ _ hw) rfl rfl (Nat.le_of_ble_eq_true rfl) dX12_count_1 (fun r1 M2 F2 hw => ?_)
  refine ac_istore_n (lv' := [(2, .int r1), (0, .ref (r_h g)), (1, .int p1)]) Z.1 dX12_count_4 (by decide) rfl ?_
  refine ac_aload_n Z.1 1 dX12_count_5 rfl ?_
  refine r_calli (As := []) (st := []) Z kX12_pop lkX12_459 (by omega) rfl (so_pop    _ _ _ hw) rfl rfl (Nat.le_of_ble_eq_true rfl) dX12_count_6 (fun r3 M4 F4 hw => ?_)
  refine ac_istore_n (lv' := [(3, .int r3), (2, .int r1), (0, .ref (r_h g)), (1, .int p1)]) Z.1 dX12_count_9 (by decide) rfl ?_
  refine ac_iload_n Z.1 3 dX12_count_10 rfl ?_
  refine ac_bipush (v := 47) Z.1 dX12_count_11 (by decide) ?_
  obtain ⟨hwt, hwf⟩ := hw
  refine ac_icmp_eq (tgt := 22) Z.1 dX12_count_13 (by decide) (fun hc => ?_) (fun hc => ?_)
  · have hw := hwt hc
    refine ac_lv [2, 3, 1, 0] rfl ?_
    exact s_count_22 Z hret _ _ _ _ _ hw
  · have hw := hwf hc
    refine ac_iload_n Z.1 3 dX12_count_16 rfl ?_
    refine ac_bipush (v := 37) Z.1 dX12_count_17 (by decide) ?_
    obtain ⟨hwt, hwf⟩ := hw
    refine ac_icmp_ne (tgt := 35) Z.1 dX12_count_19 (by decide) (fun hc => ?_) (fun hc => ?_)
    · have hw := hwt hc
      refine ac_lv [2, 3, 1, 0] rfl ?_
      exact s_count_35 Z hret _ _ _ _ _ hw
    · have hw := hwf hc
      refine ac_lv [2, 3, 1, 0] rfl ?_
      exact s_count_22 Z hret _ _ _ _ _ hw
def w_ask (p1 : Int32) (p2 : Int32) (M : Nat → Int32) (F : Nat → Nat → Int32) (Q : (Nat → Int32) → (Nat → Nat → Int32) → Prop) : Prop := (¬ p1 = 0 → ((p2 = 0 → (vp_in p1 8001 ∧ (w_push ((F 49) (p1).toNatClampNeg) M F (fun M2 F2 => (Q M2 F2))))) ∧ (p2 = 1 → (vp_in p1 8001 ∧ ((¬ ((F 48) (p1).toNatClampNeg) = 2 → (w_raises 1 2 0 M F (fun M4 F4 => (Q M4 F4)))) ∧ (((F 48) (p1).toNatClampNeg) = 2 → (vp_in p1 8001 ∧ (w_push ((F 50) (p1).toNatClampNeg) M F (fun M6 F6 => (Q M6 F6)))))))) ∧ (p2 = 2 → (w_weight p1 M F (fun r7 M8 F8 => (w_push r7 M8 F8 (fun M9 F9 => (Q M9 F9)))))) ∧ (p2 = 3 → (w_many p1 M F (fun r10 M11 F11 => (w_push r10 M11 F11 (fun M12 F12 => (Q M12 F12)))))) ∧ (¬ p2 = 0 → ¬ p2 = 1 → ¬ p2 = 2 → ¬ p2 = 3 → (w_push p1 M F (fun M13 F13 => (Q M13 F13)))))) ∧ (p1 = 0 → (w_raises 3 1 0 M F (fun M14 F14 => (Q M14 F14))))
set_option maxRecDepth 20000 in
theorem so_ask {l : Launch} {g : r_S} (p1 : Int32) (p2 : Int32) (M : Nat → Int32) (F : Nat → Nat → Int32) (Q : (Nat → Int32) → (Nat → Nat → Int32) → Prop) (hw : w_ask p1 p2 M F Q) : r_MetV l g yX12_ask cX12_ask 3 (4) [.ref (r_h g), .int p1, .int p2] M F Q := by
  refine r_MetV.of (by decide) rfl (Nat.le_of_ble_eq_true rfl) (fun x Z hret => ?_)
  show ac_G x (r_R g) 3 (r_P g M F) 0 0 0 [(0, .ref (r_h g)), (1, .int p1), (2, .int p2)] []
  refine ac_iload_n Z.1 1 dX12_ask_0 rfl ?_
  obtain ⟨hwt, hwf⟩ := hw
  refine ac_if_ne (tgt := 12) Z.1 dX12_ask_1 (by decide) (fun hc => ?_) (fun hc => ?_)
  · have hw := hwt hc
    refine ac_iload_n Z.1 2 dX12_ask_12 rfl ?_
    obtain ⟨hwk, hw⟩ := hw
    by_cases hk0 : p2 = 0
    · have hw := hwk hk0
      refine ac_tableIn (off := 31) (tgt := 44) Z.1 dX12_ask_13 (by rw [hk0]; decide) (by rw [hk0]; decide) (by rw [hk0]; rfl) (by decide) ?_
      refine ac_aload_n Z.1 0 dX12_ask_44 rfl ?_
      refine ac_aload_n Z.1 0 dX12_ask_45 rfl ?_
      refine r_geta Z.1 Z.2.1 49 (by decide) rfl fX12_95 rfl dX12_ask_46 ?_
      refine ac_iload_n Z.1 1 dX12_ask_49 rfl ?_
      obtain ⟨hb1, hw⟩ := hw
      refine r_ald (v := ((F 49) (p1).toNatClampNeg)) Z.1 Z.2.1 25 49 8001 rfl rfl hb1 rfl dX12_ask_50 ?_
      refine r_callv (As := [.int ((F 49) (p1).toNatClampNeg)]) (st := []) Z kX12_push lkX12_456 (by omega) rfl (so_push   _ _ _ _ hw) rfl rfl (Nat.le_of_ble_eq_true rfl) dX12_ask_51 (fun M2 F2 hw => ?_)
      refine ac_goto (tgt := 119) Z.1 dX12_ask_54 (by decide) ?_
      exact hret _ _ _ _ dX12_ask_119 hw
    obtain ⟨hwk, hw⟩ := hw
    by_cases hk1 : p2 = 1
    · have hw := hwk hk1
      refine ac_tableIn (off := 44) (tgt := 57) Z.1 dX12_ask_13 (by rw [hk1]; decide) (by rw [hk1]; decide) (by rw [hk1]; rfl) (by decide) ?_
      refine ac_aload_n Z.1 0 dX12_ask_57 rfl ?_
      refine r_geta Z.1 Z.2.1 48 (by decide) rfl fX12_92 rfl dX12_ask_58 ?_
      refine ac_iload_n Z.1 1 dX12_ask_61 rfl ?_
      obtain ⟨hb3, hw⟩ := hw
      refine r_ald (v := ((F 48) (p1).toNatClampNeg)) Z.1 Z.2.1 24 48 8001 rfl rfl hb3 rfl dX12_ask_62 ?_
      refine ac_iconst (v := 2) Z.1 dX12_ask_63 (by decide) ?_
      obtain ⟨hwt, hwf⟩ := hw
      refine ac_icmp_ne (tgt := 80) Z.1 dX12_ask_64 (by decide) (fun hc => ?_) (fun hc => ?_)
      · have hw := hwt hc
        refine ac_aload_n Z.1 0 dX12_ask_80 rfl ?_
        refine ac_iconst (v := 1) Z.1 dX12_ask_81 (by decide) ?_
        refine ac_iconst (v := 2) Z.1 dX12_ask_82 (by decide) ?_
        refine ac_iconst (v := 0) Z.1 dX12_ask_83 (by decide) ?_
        refine r_callv (As := [.int 1, .int 2, .int 0]) (st := []) Z kX12_raises lkX12_476 (by omega) rfl (so_raises   _ _ _ _ _ _ hw) rfl rfl (Nat.le_of_ble_eq_true rfl) dX12_ask_84 (fun M4 F4 hw => ?_)
        refine ac_goto (tgt := 119) Z.1 dX12_ask_87 (by decide) ?_
        exact hret _ _ _ _ dX12_ask_119 hw
      · have hw := hwf hc
        refine ac_aload_n Z.1 0 dX12_ask_67 rfl ?_
        refine ac_aload_n Z.1 0 dX12_ask_68 rfl ?_
        refine r_geta Z.1 Z.2.1 50 (by decide) rfl fX12_98 rfl dX12_ask_69 ?_
        refine ac_iload_n Z.1 1 dX12_ask_72 rfl ?_
        obtain ⟨hb5, hw⟩ := hw
        refine r_ald (v := ((F 50) (p1).toNatClampNeg)) Z.1 Z.2.1 26 50 8001 rfl rfl hb5 rfl dX12_ask_73 ?_
        refine r_callv (As := [.int ((F 50) (p1).toNatClampNeg)]) (st := []) Z kX12_push lkX12_456 (by omega) rfl (so_push   _ _ _ _ hw) rfl rfl (Nat.le_of_ble_eq_true rfl) dX12_ask_74 (fun M6 F6 hw => ?_)
        refine ac_goto (tgt := 119) Z.1 dX12_ask_77 (by decide) ?_
        exact hret _ _ _ _ dX12_ask_119 hw
    obtain ⟨hwk, hw⟩ := hw
    by_cases hk2 : p2 = 2
    · have hw := hwk hk2
      refine ac_tableIn (off := 77) (tgt := 90) Z.1 dX12_ask_13 (by rw [hk2]; decide) (by rw [hk2]; decide) (by rw [hk2]; rfl) (by decide) ?_
      refine ac_aload_n Z.1 0 dX12_ask_90 rfl ?_
      refine ac_aload_n Z.1 0 dX12_ask_91 rfl ?_
      refine ac_iload_n Z.1 1 dX12_ask_92 rfl ?_
      refine r_calli (As := [.int p1]) (st := [.ref (r_h g)]) Z kX12_weight lkX12_491 (by omega) rfl (so_weight   _ _ _ _ hw) rfl rfl (Nat.le_of_ble_eq_true rfl) dX12_ask_93 (fun r7 M8 F8 hw => ?_)
      refine r_callv (As := [.int r7]) (st := []) Z kX12_push lkX12_456 (by omega) rfl (so_push   _ _ _ _ hw) rfl rfl (Nat.le_of_ble_eq_true rfl) dX12_ask_96 (fun M9 F9 hw => ?_)
      refine ac_goto (tgt := 119) Z.1 dX12_ask_99 (by decide) ?_
      exact hret _ _ _ _ dX12_ask_119 hw
    obtain ⟨hwk, hw⟩ := hw
    by_cases hk3 : p2 = 3
    · have hw := hwk hk3
      refine ac_tableIn (off := 89) (tgt := 102) Z.1 dX12_ask_13 (by rw [hk3]; decide) (by rw [hk3]; decide) (by rw [hk3]; rfl) (by decide) ?_
      refine ac_aload_n Z.1 0 dX12_ask_102 rfl ?_
      refine ac_aload_n Z.1 0 dX12_ask_103 rfl ?_
      refine ac_iload_n Z.1 1 dX12_ask_104 rfl ?_
      refine r_calli (As := [.int p1]) (st := [.ref (r_h g)]) Z kX12_many lkX12_494 (by omega) rfl (so_many   _ _ _ _ hw) rfl rfl (Nat.le_of_ble_eq_true rfl) dX12_ask_105 (fun r10 M11 F11 hw => ?_)
      refine r_callv (As := [.int r10]) (st := []) Z kX12_push lkX12_456 (by omega) rfl (so_push   _ _ _ _ hw) rfl rfl (Nat.le_of_ble_eq_true rfl) dX12_ask_108 (fun M12 F12 hw => ?_)
      refine ac_goto (tgt := 119) Z.1 dX12_ask_111 (by decide) ?_
      exact hret _ _ _ _ dX12_ask_119 hw
    have hw := hw hk0 hk1 hk2 hk3
    refine ac_tableOut (tgt := 114) Z.1 dX12_ask_13 (by have q0 := lv_neT hk0 (show (0 : Int32).toInt = 0 by decide); have q1 := lv_neT hk1 (show (1 : Int32).toInt = 1 by decide); have q2 := lv_neT hk2 (show (2 : Int32).toInt = 2 by decide); have q3 := lv_neT hk3 (show (3 : Int32).toInt = 3 by decide); omega) (by decide) ?_
    refine ac_aload_n Z.1 0 dX12_ask_114 rfl ?_
    refine ac_iload_n Z.1 1 dX12_ask_115 rfl ?_
    refine r_callv (As := [.int p1]) (st := []) Z kX12_push lkX12_456 (by omega) rfl (so_push   _ _ _ _ hw) rfl rfl (Nat.le_of_ble_eq_true rfl) dX12_ask_116 (fun M13 F13 hw => ?_)
    exact hret _ _ _ _ dX12_ask_119 hw
  · have hw := hwf hc
    refine ac_aload_n Z.1 0 dX12_ask_4 rfl ?_
    refine ac_iconst (v := 3) Z.1 dX12_ask_5 (by decide) ?_
    refine ac_iconst (v := 1) Z.1 dX12_ask_6 (by decide) ?_
    refine ac_iconst (v := 0) Z.1 dX12_ask_7 (by decide) ?_
    refine r_callv (As := [.int 3, .int 1, .int 0]) (st := []) Z kX12_raises lkX12_476 (by omega) rfl (so_raises   _ _ _ _ _ _ hw) rfl rfl (Nat.le_of_ble_eq_true rfl) dX12_ask_8 (fun M14 F14 hw => ?_)
    exact hret _ _ _ _ dX12_ask_11 hw
def w_joins (p1 : Int32) (p2 : Int32) (M : Nat → Int32) (F : Nat → Nat → Int32) (Q : (Nat → Int32) → (Nat → Nat → Int32) → Prop) : Prop := (¬ p1 = 0 → (vp_in p1 8001 ∧ ((((F 53) (p1).toNatClampNeg) = 0 → ((¬ p1 = p2 → (vp_in p1 8001 ∧ (vp_in p1 8001 ∧ (Q M (uf (uf F 52 p1 p2) 53 p1 (vp_nar .boolean 1)))))) ∧ (p1 = p2 → (w_raises 5 5 p1 (um M 56 ((M 56) + 1)) F (fun M4 F4 => (Q M4 F4)))))) ∧ (¬ ((F 53) (p1).toNatClampNeg) = 0 → (w_raises 2 4 p1 (um M 56 ((M 56) + 1)) F (fun M5 F5 => (Q M5 F5))))))) ∧ (p1 = 0 → (w_raises 3 1 0 M F (fun M6 F6 => (Q M6 F6))))
set_option maxRecDepth 20000 in
theorem so_joins {l : Launch} {g : r_S} (p1 : Int32) (p2 : Int32) (M : Nat → Int32) (F : Nat → Nat → Int32) (Q : (Nat → Int32) → (Nat → Nat → Int32) → Prop) (hw : w_joins p1 p2 M F Q) : r_MetV l g yX12_joins cX12_joins 3 (4) [.ref (r_h g), .int p1, .int p2] M F Q := by
  refine r_MetV.of (by decide) rfl (Nat.le_of_ble_eq_true rfl) (fun x Z hret => ?_)
  show ac_G x (r_R g) 3 (r_P g M F) 0 0 0 [(0, .ref (r_h g)), (1, .int p1), (2, .int p2)] []
  refine ac_iload_n Z.1 1 dX12_joins_0 rfl ?_
  obtain ⟨hwt, hwf⟩ := hw
  refine ac_if_ne (tgt := 14) Z.1 dX12_joins_1 (by decide) (fun hc => ?_) (fun hc => ?_)
  · have hw := hwt hc
    refine ac_aload_n Z.1 0 dX12_joins_14 rfl ?_
    refine r_geta Z.1 Z.2.1 53 (by decide) rfl fX12_107 rfl dX12_joins_15 ?_
    refine ac_iload_n Z.1 1 dX12_joins_18 rfl ?_
    obtain ⟨hb1, hw⟩ := hw
    refine r_zald (v := ((F 53) (p1).toNatClampNeg)) Z.1 Z.2.1 29 53 8001 rfl rfl hb1 rfl dX12_joins_19 ?_
    obtain ⟨hwt, hwf⟩ := hw
    refine ac_if_eq (tgt := 43) Z.1 dX12_joins_20 (by decide) (fun hc => ?_) (fun hc => ?_)
    · have hw := hwt hc
      refine ac_iload_n Z.1 1 dX12_joins_43 rfl ?_
      refine ac_iload_n Z.1 2 dX12_joins_44 rfl ?_
      obtain ⟨hwt, hwf⟩ := hw
      refine ac_icmp_ne (tgt := 68) Z.1 dX12_joins_45 (by decide) (fun hc => ?_) (fun hc => ?_)
      · have hw := hwt hc
        refine ac_aload_n Z.1 0 dX12_joins_68 rfl ?_
        refine r_geta Z.1 Z.2.1 52 (by decide) rfl fX12_104 rfl dX12_joins_69 ?_
        refine ac_iload_n Z.1 1 dX12_joins_72 rfl ?_
        refine ac_iload_n Z.1 2 dX12_joins_73 rfl ?_
        obtain ⟨hb2, hw⟩ := hw
        refine r_ast Z.1 Z.2.1 28 52 8001 rfl rfl hb2 dX12_joins_74 ?_
        refine ac_aload_n Z.1 0 dX12_joins_75 rfl ?_
        refine r_geta Z.1 Z.2.1 53 (by decide) rfl fX12_107 rfl dX12_joins_76 ?_
        refine ac_iload_n Z.1 1 dX12_joins_79 rfl ?_
        refine ac_iconst (v := 1) Z.1 dX12_joins_80 (by decide) ?_
        obtain ⟨hb3, hw⟩ := hw
        refine r_zast Z.1 Z.2.1 29 53 8001 rfl rfl hb3 rfl dX12_joins_81 ?_
        exact hret _ _ _ _ dX12_joins_82 hw
      · have hw := hwf hc
        refine ac_aload_n Z.1 0 dX12_joins_48 rfl ?_
        refine ac_dup Z.1 dX12_joins_49 rfl ?_
        refine r_geti (v := (M 56)) Z.1 Z.2.1 56 (by decide) rfl fX12_497 rfl rfl dX12_joins_50 ?_
        refine ac_iconst (v := 1) Z.1 dX12_joins_53 (by decide) ?_
        refine ac_iadd Z.1 dX12_joins_54 ?_
        refine r_put Z.1 Z.2.1 56 (by decide) rfl rfl rfl fX12_497 rfl dX12_joins_55 ?_
        refine ac_aload_n Z.1 0 dX12_joins_58 rfl ?_
        refine ac_iconst (v := 5) Z.1 dX12_joins_59 (by decide) ?_
        refine ac_iconst (v := 5) Z.1 dX12_joins_60 (by decide) ?_
        refine ac_iload_n Z.1 1 dX12_joins_61 rfl ?_
        refine r_callv (As := [.int 5, .int 5, .int p1]) (st := []) Z kX12_raises lkX12_476 (by omega) rfl (so_raises   _ _ _ _ _ _ hw) rfl rfl (Nat.le_of_ble_eq_true rfl) dX12_joins_62 (fun M4 F4 hw => ?_)
        refine ac_goto (tgt := 82) Z.1 dX12_joins_65 (by decide) ?_
        exact hret _ _ _ _ dX12_joins_82 hw
    · have hw := hwf hc
      refine ac_aload_n Z.1 0 dX12_joins_23 rfl ?_
      refine ac_dup Z.1 dX12_joins_24 rfl ?_
      refine r_geti (v := (M 56)) Z.1 Z.2.1 56 (by decide) rfl fX12_497 rfl rfl dX12_joins_25 ?_
      refine ac_iconst (v := 1) Z.1 dX12_joins_28 (by decide) ?_
      refine ac_iadd Z.1 dX12_joins_29 ?_
      refine r_put Z.1 Z.2.1 56 (by decide) rfl rfl rfl fX12_497 rfl dX12_joins_30 ?_
      refine ac_aload_n Z.1 0 dX12_joins_33 rfl ?_
      refine ac_iconst (v := 2) Z.1 dX12_joins_34 (by decide) ?_
      refine ac_iconst (v := 4) Z.1 dX12_joins_35 (by decide) ?_
      refine ac_iload_n Z.1 1 dX12_joins_36 rfl ?_
      refine r_callv (As := [.int 2, .int 4, .int p1]) (st := []) Z kX12_raises lkX12_476 (by omega) rfl (so_raises   _ _ _ _ _ _ hw) rfl rfl (Nat.le_of_ble_eq_true rfl) dX12_joins_37 (fun M5 F5 hw => ?_)
      refine ac_goto (tgt := 82) Z.1 dX12_joins_40 (by decide) ?_
      exact hret _ _ _ _ dX12_joins_82 hw
  · have hw := hwf hc
    refine ac_aload_n Z.1 0 dX12_joins_4 rfl ?_
    refine ac_iconst (v := 3) Z.1 dX12_joins_5 (by decide) ?_
    refine ac_iconst (v := 1) Z.1 dX12_joins_6 (by decide) ?_
    refine ac_iconst (v := 0) Z.1 dX12_joins_7 (by decide) ?_
    refine r_callv (As := [.int 3, .int 1, .int 0]) (st := []) Z kX12_raises lkX12_476 (by omega) rfl (so_raises   _ _ _ _ _ _ hw) rfl rfl (Nat.le_of_ble_eq_true rfl) dX12_joins_8 (fun M6 F6 hw => ?_)
    refine ac_goto (tgt := 82) Z.1 dX12_joins_11 (by decide) ?_
    exact hret _ _ _ _ dX12_joins_82 hw
def w_hears_56 (Q : (Nat → Int32) → (Nat → Nat → Int32) → Prop) : Nat → Int32 → Int32 → (Nat → Int32) → (Nat → Nat → Int32) → Prop
  | 0 => fun _ _ _ _ => False
  | n + 1 => fun a2 a4 M F => ((a2 ≤ a4 → (Q M F)) ∧ (¬ a2 ≤ a4 → (vp_in ((M 69) + a4) 64 ∧ (vp_in ((12 * ((M 62) - 1)) + a4) 144 ∧ (w_hears_56 Q n a2 (a4 + 1) M (uf F 57 ((12 * ((M 62) - 1)) + a4) ((F 68) (((M 69) + a4)).toNatClampNeg)))))))
set_option maxRecDepth 20000 in
theorem s_hears_56 {x : ac_X} {g : r_S} {l : Launch} {Q : (Nat → Int32) → (Nat → Nat → Int32) → Prop} (Z : r_Cx x g l cX12_hears 5 (1)) (hret : r_RV x g 5 cX12_hears Q) : ∀ (n : Nat) (a2 : Int32) (a4 : Int32) (M : Nat → Int32) (F : Nat → Nat → Int32), w_hears_56 Q n a2 a4 M F → ac_G x (r_R g) 5 (r_P g M F) 0 0 56 [(0, .ref (r_h g)), (2, .int a2), (4, .int a4)] [] := by
  intro n
  induction n with
  | zero => intro _ _ _ _ hw; exact hw.elim
  | succ n ih =>
    intro a2 a4 M F hw
    dsimp only [w_hears_56] at hw
    refine ac_iload Z.1 2 dX12_hears_56 rfl ?_
    refine ac_iload_n Z.1 1 dX12_hears_58 rfl ?_
    obtain ⟨hwt, hwf⟩ := hw
    refine ac_icmp_ge (tgt := 97) Z.1 dX12_hears_59 (by decide) (fun hc => ?_) (fun hc => ?_)
    · have hw := hwt hc
      exact hret _ _ _ _ dX12_hears_97 hw
    · have hw := hwf hc
      refine ac_aload_n Z.1 0 dX12_hears_62 rfl ?_
      refine r_geta Z.1 Z.2.1 57 (by decide) rfl fX12_111 rfl dX12_hears_63 ?_
      refine ac_bipush (v := 12) Z.1 dX12_hears_66 (by decide) ?_
      refine ac_aload_n Z.1 0 dX12_hears_68 rfl ?_
      refine r_geti (v := (M 62)) Z.1 Z.2.1 62 (by decide) rfl fX12_409 rfl rfl dX12_hears_69 ?_
      refine ac_iconst (v := 1) Z.1 dX12_hears_72 (by decide) ?_
      refine ac_isub Z.1 dX12_hears_73 ?_
      refine ac_imul Z.1 dX12_hears_74 ?_
      refine ac_iload Z.1 2 dX12_hears_75 rfl ?_
      refine ac_iadd Z.1 dX12_hears_77 ?_
      refine ac_aload_n Z.1 0 dX12_hears_78 rfl ?_
      refine r_geta Z.1 Z.2.1 68 (by decide) rfl fX12_138 rfl dX12_hears_79 ?_
      refine ac_aload_n Z.1 0 dX12_hears_82 rfl ?_
      refine r_geti (v := (M 69)) Z.1 Z.2.1 69 (by decide) rfl fX12_406 rfl rfl dX12_hears_83 ?_
      refine ac_iload Z.1 2 dX12_hears_86 rfl ?_
      refine ac_iadd Z.1 dX12_hears_88 ?_
      obtain ⟨hb4, hw⟩ := hw
      refine r_ald (v := ((F 68) (((M 69) + a4)).toNatClampNeg)) Z.1 Z.2.1 39 68 64 rfl rfl hb4 rfl dX12_hears_89 ?_
      obtain ⟨hb5, hw⟩ := hw
      refine r_ast Z.1 Z.2.1 30 57 144 rfl rfl hb5 dX12_hears_90 ?_
      refine ac_iinc (w := (a4 + 1)) (lv' := [(4, .int (a4 + 1)), (0, .ref (r_h g)), (2, .int a2)]) Z.1 2 dX12_hears_91 rfl rfl (by decide) rfl ?_
      refine ac_goto (tgt := 56) Z.1 dX12_hears_94 (by decide) ?_
      refine ac_lv [1, 2, 0] rfl ?_
      exact ih _ _ _ _ hw
def w_hears (p1 : Int32) (p2 : Int32) (p3 : Int32) (M : Nat → Int32) (F : Nat → Nat → Int32) (Q : (Nat → Int32) → (Nat → Nat → Int32) → Prop) : Prop := (¬ (M 62) = 12 → (vp_in (M 62) 12 ∧ (vp_in (M 62) 12 ∧ (w_begins p1 (um M 69 ((M 69) - p2)) (uf (uf F 59 (M 62) (M 70)) 60 (M 62) p3) (fun M3 F3 => (∃ e56, w_hears_56 Q e56 p2 0 M3 F3)))))) ∧ ((M 62) = 12 → (Q (um M 71 1) F))
set_option maxRecDepth 20000 in
theorem so_hears {l : Launch} {g : r_S} (p1 : Int32) (p2 : Int32) (p3 : Int32) (M : Nat → Int32) (F : Nat → Nat → Int32) (Q : (Nat → Int32) → (Nat → Nat → Int32) → Prop) (hw : w_hears p1 p2 p3 M F Q) : r_MetV l g yX12_hears cX12_hears 5 (1) [.ref (r_h g), .int p1, .int p2, .int p3] M F Q := by
  refine r_MetV.of (by decide) rfl (Nat.le_of_ble_eq_true rfl) (fun x Z hret => ?_)
  show ac_G x (r_R g) 5 (r_P g M F) 0 0 0 [(0, .ref (r_h g)), (1, .int p1), (2, .int p2), (3, .int p3)] []
  refine ac_aload_n Z.1 0 dX12_hears_0 rfl ?_
  refine r_geti (v := (M 62)) Z.1 Z.2.1 62 (by decide) rfl fX12_409 rfl rfl dX12_hears_1 ?_
  refine ac_bipush (v := 12) Z.1 dX12_hears_4 (by decide) ?_
  obtain ⟨hwt, hwf⟩ := hw
  refine ac_icmp_ne (tgt := 15) Z.1 dX12_hears_6 (by decide) (fun hc => ?_) (fun hc => ?_)
  · have hw := hwt hc
    refine ac_aload_n Z.1 0 dX12_hears_15 rfl ?_
    refine ac_dup Z.1 dX12_hears_16 rfl ?_
    refine r_geti (v := (M 69)) Z.1 Z.2.1 69 (by decide) rfl fX12_406 rfl rfl dX12_hears_17 ?_
    refine ac_iload_n Z.1 2 dX12_hears_20 rfl ?_
    refine ac_isub Z.1 dX12_hears_21 ?_
    refine r_put Z.1 Z.2.1 69 (by decide) rfl rfl rfl fX12_406 rfl dX12_hears_22 ?_
    refine ac_aload_n Z.1 0 dX12_hears_25 rfl ?_
    refine r_geta Z.1 Z.2.1 59 (by decide) rfl fX12_117 rfl dX12_hears_26 ?_
    refine ac_aload_n Z.1 0 dX12_hears_29 rfl ?_
    refine r_geti (v := (M 62)) Z.1 Z.2.1 62 (by decide) rfl fX12_409 rfl rfl dX12_hears_30 ?_
    refine ac_aload_n Z.1 0 dX12_hears_33 rfl ?_
    refine r_geti (v := (M 70)) Z.1 Z.2.1 70 (by decide) rfl fX12_418 rfl rfl dX12_hears_34 ?_
    obtain ⟨hb1, hw⟩ := hw
    refine r_ast Z.1 Z.2.1 32 59 12 rfl rfl hb1 dX12_hears_37 ?_
    refine ac_aload_n Z.1 0 dX12_hears_38 rfl ?_
    refine r_geta Z.1 Z.2.1 60 (by decide) rfl fX12_120 rfl dX12_hears_39 ?_
    refine ac_aload_n Z.1 0 dX12_hears_42 rfl ?_
    refine r_geti (v := (M 62)) Z.1 Z.2.1 62 (by decide) rfl fX12_409 rfl rfl dX12_hears_43 ?_
    refine ac_iload_n Z.1 3 dX12_hears_46 rfl ?_
    obtain ⟨hb2, hw⟩ := hw
    refine r_ast Z.1 Z.2.1 33 60 12 rfl rfl hb2 dX12_hears_47 ?_
    refine ac_aload_n Z.1 0 dX12_hears_48 rfl ?_
    refine ac_iload_n Z.1 1 dX12_hears_49 rfl ?_
    refine r_callv (As := [.int p1]) (st := []) Z kX12_begins lkX12_427 (by omega) rfl (so_begins   _ _ _ _ hw) rfl rfl (Nat.le_of_ble_eq_true rfl) dX12_hears_50 (fun M3 F3 hw => ?_)
    refine ac_iconst (v := 0) Z.1 dX12_hears_53 (by decide) ?_
    refine ac_istore (lv' := [(4, .int 0), (0, .ref (r_h g)), (1, .int p1), (2, .int p2), (3, .int p3)]) Z.1 dX12_hears_54 (by decide) rfl ?_
    obtain ⟨n, hw⟩ := hw
    refine ac_lv [1, 3, 0] rfl ?_
    exact s_hears_56 Z hret n _ _ _ _ hw
  · have hw := hwf hc
    refine ac_aload_n Z.1 0 dX12_hears_9 rfl ?_
    refine ac_iconst (v := 1) Z.1 dX12_hears_10 (by decide) ?_
    refine r_putZ Z.1 Z.2.1 71 (by decide) rfl rfl rfl fX12_398 rfl (by decide) dX12_hears_11 ?_
    exact hret _ _ _ _ dX12_hears_14 hw
def w_rest_0 (Q : (Nat → Int32) → (Nat → Nat → Int32) → Prop) : Nat → Int32 → (Nat → Int32) → (Nat → Nat → Int32) → Prop
  | 0 => fun _ _ _ => False
  | n + 1 => fun a1 M F => (vp_in ((M 62) - 1) 12 ∧ (((M 67) ≤ ((F 61) (((M 62) - 1)).toNatClampNeg) → ((¬ ((M 62) - 1) = 0 → (vp_in ((M 62) - 1) 12 ∧ (vp_in ((M 62) - 1) 12 ∧ ((((F 60) (((M 62) - 1)).toNatClampNeg) = (-1) → (Q (um (um M 62 ((M 62) - 1)) 70 ((F 59) (((M 62) - 1)).toNatClampNeg)) F)) ∧ (¬ ((F 60) (((M 62) - 1)).toNatClampNeg) = (-1) → (vp_in ((M 62) - 1) 12 ∧ (∀ v5, v5 = ((12 * (((M 62) - 1) - 1)) + ((F 60) (((M 62) - 1)).toNatClampNeg)) → (vp_in v5 144 ∧ (Q (um (um M 62 ((M 62) - 1)) 70 ((F 59) (((M 62) - 1)).toNatClampNeg)) (uf F 57 v5 a1)))))))))) ∧ (((M 62) - 1) = 0 → (Q (um (um (um M 62 ((M 62) - 1)) 74 a1) 72 1) F)))) ∧ (¬ (M 67) ≤ ((F 61) (((M 62) - 1)).toNatClampNeg) → (w_goesLastly ((M 67) - 1) 2 a1 M F (fun r7 M8 F8 => ((r7 = 0 → (w_rest_0 Q n a1 (um M8 67 ((M8 67) - 1)) F8)) ∧ (¬ r7 = 0 → (Q M8 F8))))))))
set_option maxRecDepth 20000 in
theorem s_rest_0 {x : ac_X} {g : r_S} {l : Launch} {Q : (Nat → Int32) → (Nat → Nat → Int32) → Prop} (Z : r_Cx x g l cX12_rest 2 (1)) (hret : r_RV x g 2 cX12_rest Q) : ∀ (n : Nat) (a1 : Int32) (M : Nat → Int32) (F : Nat → Nat → Int32), w_rest_0 Q n a1 M F → ac_G x (r_R g) 2 (r_P g M F) 0 0 0 [(0, .ref (r_h g)), (1, .int a1)] [] := by
  intro n
  induction n with
  | zero => intro _ _ _ hw; exact hw.elim
  | succ n ih =>
    intro a1 M F hw
    dsimp only [w_rest_0] at hw
    refine ac_aload_n Z.1 0 dX12_rest_0 rfl ?_
    refine r_geti (v := (M 67)) Z.1 Z.2.1 67 (by decide) rfl fX12_412 rfl rfl dX12_rest_1 ?_
    refine ac_aload_n Z.1 0 dX12_rest_4 rfl ?_
    refine r_geta Z.1 Z.2.1 61 (by decide) rfl fX12_123 rfl dX12_rest_5 ?_
    refine ac_aload_n Z.1 0 dX12_rest_8 rfl ?_
    refine r_geti (v := (M 62)) Z.1 Z.2.1 62 (by decide) rfl fX12_409 rfl rfl dX12_rest_9 ?_
    refine ac_iconst (v := 1) Z.1 dX12_rest_12 (by decide) ?_
    refine ac_isub Z.1 dX12_rest_13 ?_
    obtain ⟨hb1, hw⟩ := hw
    refine r_ald (v := ((F 61) (((M 62) - 1)).toNatClampNeg)) Z.1 Z.2.1 34 61 12 rfl rfl hb1 rfl dX12_rest_14 ?_
    obtain ⟨hwt, hwf⟩ := hw
    refine ac_icmp_le (tgt := 47) Z.1 dX12_rest_15 (by decide) (fun hc => ?_) (fun hc => ?_)
    · have hw := hwt hc
      refine ac_aload_n Z.1 0 dX12_rest_47 rfl ?_
      refine ac_dup Z.1 dX12_rest_48 rfl ?_
      refine r_geti (v := (M 62)) Z.1 Z.2.1 62 (by decide) rfl fX12_409 rfl rfl dX12_rest_49 ?_
      refine ac_iconst (v := 1) Z.1 dX12_rest_52 (by decide) ?_
      refine ac_isub Z.1 dX12_rest_53 ?_
      refine r_put Z.1 Z.2.1 62 (by decide) rfl rfl rfl fX12_409 rfl dX12_rest_54 ?_
      refine ac_aload_n Z.1 0 dX12_rest_57 rfl ?_
      refine r_geti (v := ((M 62) - 1)) Z.1 Z.2.1 62 (by decide) rfl fX12_409 rfl rfl dX12_rest_58 ?_
      obtain ⟨hwt, hwf⟩ := hw
      refine ac_if_ne (tgt := 75) Z.1 dX12_rest_61 (by decide) (fun hc => ?_) (fun hc => ?_)
      · have hw := hwt hc
        refine ac_aload_n Z.1 0 dX12_rest_75 rfl ?_
        refine ac_aload_n Z.1 0 dX12_rest_76 rfl ?_
        refine r_geta Z.1 Z.2.1 59 (by decide) rfl fX12_117 rfl dX12_rest_77 ?_
        refine ac_aload_n Z.1 0 dX12_rest_80 rfl ?_
        refine r_geti (v := ((M 62) - 1)) Z.1 Z.2.1 62 (by decide) rfl fX12_409 rfl rfl dX12_rest_81 ?_
        obtain ⟨hb2, hw⟩ := hw
        refine r_ald (v := ((F 59) (((M 62) - 1)).toNatClampNeg)) Z.1 Z.2.1 32 59 12 rfl rfl hb2 rfl dX12_rest_84 ?_
        refine r_put Z.1 Z.2.1 70 (by decide) rfl rfl rfl fX12_418 rfl dX12_rest_85 ?_
        refine ac_aload_n Z.1 0 dX12_rest_88 rfl ?_
        refine r_geta Z.1 Z.2.1 60 (by decide) rfl fX12_120 rfl dX12_rest_89 ?_
        refine ac_aload_n Z.1 0 dX12_rest_92 rfl ?_
        refine r_geti (v := ((M 62) - 1)) Z.1 Z.2.1 62 (by decide) rfl fX12_409 rfl rfl dX12_rest_93 ?_
        obtain ⟨hb3, hw⟩ := hw
        refine r_ald (v := ((F 60) (((M 62) - 1)).toNatClampNeg)) Z.1 Z.2.1 33 60 12 rfl rfl hb3 rfl dX12_rest_96 ?_
        refine ac_iconst (v := (-1)) Z.1 dX12_rest_97 (by decide) ?_
        obtain ⟨hwt, hwf⟩ := hw
        refine ac_icmp_eq (tgt := 126) Z.1 dX12_rest_98 (by decide) (fun hc => ?_) (fun hc => ?_)
        · have hw := hwt hc
          exact hret _ _ _ _ dX12_rest_126 hw
        · have hw := hwf hc
          refine ac_aload_n Z.1 0 dX12_rest_101 rfl ?_
          refine r_geta Z.1 Z.2.1 57 (by decide) rfl fX12_111 rfl dX12_rest_102 ?_
          refine ac_bipush (v := 12) Z.1 dX12_rest_105 (by decide) ?_
          refine ac_aload_n Z.1 0 dX12_rest_107 rfl ?_
          refine r_geti (v := ((M 62) - 1)) Z.1 Z.2.1 62 (by decide) rfl fX12_409 rfl rfl dX12_rest_108 ?_
          refine ac_iconst (v := 1) Z.1 dX12_rest_111 (by decide) ?_
          refine ac_isub Z.1 dX12_rest_112 ?_
          refine ac_imul Z.1 dX12_rest_113 ?_
          refine ac_aload_n Z.1 0 dX12_rest_114 rfl ?_
          refine r_geta Z.1 Z.2.1 60 (by decide) rfl fX12_120 rfl dX12_rest_115 ?_
          refine ac_aload_n Z.1 0 dX12_rest_118 rfl ?_
          refine r_geti (v := ((M 62) - 1)) Z.1 Z.2.1 62 (by decide) rfl fX12_409 rfl rfl dX12_rest_119 ?_
          obtain ⟨hb4, hw⟩ := hw
          refine r_ald (v := ((F 60) (((M 62) - 1)).toNatClampNeg)) Z.1 Z.2.1 33 60 12 rfl rfl hb4 rfl dX12_rest_122 ?_
          refine ac_iadd Z.1 dX12_rest_123 ?_
          refine ac_topi (fun v5 hv5 => ?_)
          have hw := hw v5 hv5
          refine ac_iload_n Z.1 1 dX12_rest_124 rfl ?_
          obtain ⟨hb6, hw⟩ := hw
          refine r_ast Z.1 Z.2.1 30 57 144 rfl rfl hb6 dX12_rest_125 ?_
          exact hret _ _ _ _ dX12_rest_126 hw
      · have hw := hwf hc
        refine ac_aload_n Z.1 0 dX12_rest_64 rfl ?_
        refine ac_iload_n Z.1 1 dX12_rest_65 rfl ?_
        refine r_put Z.1 Z.2.1 74 (by decide) rfl rfl rfl fX12_441 rfl dX12_rest_66 ?_
        refine ac_aload_n Z.1 0 dX12_rest_69 rfl ?_
        refine ac_iconst (v := 1) Z.1 dX12_rest_70 (by decide) ?_
        refine r_putZ Z.1 Z.2.1 72 (by decide) rfl rfl rfl fX12_424 rfl (by decide) dX12_rest_71 ?_
        exact hret _ _ _ _ dX12_rest_74 hw
    · have hw := hwf hc
      refine ac_aload_n Z.1 0 dX12_rest_18 rfl ?_
      refine ac_aload_n Z.1 0 dX12_rest_19 rfl ?_
      refine r_geti (v := (M 67)) Z.1 Z.2.1 67 (by decide) rfl fX12_412 rfl rfl dX12_rest_20 ?_
      refine ac_iconst (v := 1) Z.1 dX12_rest_23 (by decide) ?_
      refine ac_isub Z.1 dX12_rest_24 ?_
      refine ac_iconst (v := 2) Z.1 dX12_rest_25 (by decide) ?_
      refine ac_iload_n Z.1 1 dX12_rest_26 rfl ?_
      refine r_calli (As := [.int ((M 67) - 1), .int 2, .int a1]) (st := []) Z kX12_goesLastly lkX12_437 (by omega) rfl (so_goesLastly   _ _ _ _ _ _ hw) rfl rfl (Nat.le_of_ble_eq_true rfl) dX12_rest_27 (fun r7 M8 F8 hw => ?_)
      obtain ⟨hwt, hwf⟩ := hw
      refine ac_if_eq (tgt := 34) Z.1 dX12_rest_30 (by decide) (fun hc => ?_) (fun hc => ?_)
      · have hw := hwt hc
        refine ac_aload_n Z.1 0 dX12_rest_34 rfl ?_
        refine ac_dup Z.1 dX12_rest_35 rfl ?_
        refine r_geti (v := (M8 67)) Z.1 Z.2.1 67 (by decide) rfl fX12_412 rfl rfl dX12_rest_36 ?_
        refine ac_iconst (v := 1) Z.1 dX12_rest_39 (by decide) ?_
        refine ac_isub Z.1 dX12_rest_40 ?_
        refine r_put Z.1 Z.2.1 67 (by decide) rfl rfl rfl fX12_412 rfl dX12_rest_41 ?_
        refine ac_goto (tgt := 0) Z.1 dX12_rest_44 (by decide) ?_
        exact ih _ _ _ hw
      · have hw := hwf hc
        exact hret _ _ _ _ dX12_rest_33 hw
def w_rest (p1 : Int32) (M : Nat → Int32) (F : Nat → Nat → Int32) (Q : (Nat → Int32) → (Nat → Nat → Int32) → Prop) : Prop := ∃ e0, w_rest_0 Q e0 p1 M F
set_option maxRecDepth 20000 in
theorem so_rest {l : Launch} {g : r_S} (p1 : Int32) (M : Nat → Int32) (F : Nat → Nat → Int32) (Q : (Nat → Int32) → (Nat → Nat → Int32) → Prop) (hw : w_rest p1 M F Q) : r_MetV l g yX12_rest cX12_rest 2 (1) [.ref (r_h g), .int p1] M F Q := by
  refine r_MetV.of (by decide) rfl (Nat.le_of_ble_eq_true rfl) (fun x Z hret => ?_)
  show ac_G x (r_R g) 2 (r_P g M F) 0 0 0 [(0, .ref (r_h g)), (1, .int p1)] []
  obtain ⟨n, hw⟩ := hw
  exact s_rest_0 Z hret n _ _ _ hw
def w_more_183 (Q : (Nat → Int32) → (Nat → Nat → Int32) → Prop) (a2 : Int32) (t1 : Int32) (t2 : Int32) (t3 : Int32) (t4 : Int32) (t5 : Int32) (t6 : Int32) (M : Nat → Int32) (F : Nat → Nat → Int32) : Prop := w_makes t1 t2 t3 t4 t5 t6 M F (fun r19 M20 F20 => ((r19 ≤ 0 → (Q M20 F20)) ∧ (¬ r19 ≤ 0 → (w_hold_ a2 r19 M20 F20 (fun M21 F21 => (Q M21 F21))))))
set_option maxRecDepth 20000 in
theorem s_more_183 {x : ac_X} {g : r_S} {l : Launch} {Q : (Nat → Int32) → (Nat → Nat → Int32) → Prop} (Z : r_Cx x g l cX12_more 7 (5)) (hret : r_RV x g 7 cX12_more Q) (a2 : Int32) (t1 : Int32) (t2 : Int32) (t3 : Int32) (t4 : Int32) (t5 : Int32) (t6 : Int32) (M : Nat → Int32) (F : Nat → Nat → Int32) (hw : w_more_183 Q a2 t1 t2 t3 t4 t5 t6 M F) : ac_G x (r_R g) 7 (r_P g M F) 0 0 183 [(0, .ref (r_h g)), (2, .int a2)] [.int t6, .int t5, .int t4, .int t3, .int t2, .int t1, .ref (r_h g)] := by
  refine r_calli (As := [.int t1, .int t2, .int t3, .int t4, .int t5, .int t6]) (st := []) Z kX12_makes lkX12_444 (by omega) rfl (so_makes   _ _ _ _ _ _ _ _ _ hw) rfl rfl (Nat.le_of_ble_eq_true rfl) dX12_more_183 (fun r19 M20 F20 hw => ?_)
  refine ac_istore (lv' := [(6, .int r19), (0, .ref (r_h g)), (2, .int a2)]) Z.1 dX12_more_186 (by decide) rfl ?_
  refine ac_iload Z.1 0 dX12_more_188 rfl ?_
  obtain ⟨hwt, hwf⟩ := hw
  refine ac_if_le (tgt := 456) Z.1 dX12_more_190 (by decide) (fun hc => ?_) (fun hc => ?_)
  · have hw := hwt hc
    exact hret _ _ _ _ dX12_more_456 hw
  · have hw := hwf hc
    refine ac_aload_n Z.1 1 dX12_more_193 rfl ?_
    refine ac_iload_n Z.1 2 dX12_more_194 rfl ?_
    refine ac_iload Z.1 0 dX12_more_195 rfl ?_
    refine r_callv (As := [.int a2, .int r19]) (st := []) Z kX12_hold_ lkX12_471 (by omega) rfl (so_hold_   _ _ _ _ _ hw) rfl rfl (Nat.le_of_ble_eq_true rfl) dX12_more_197 (fun M21 F21 hw => ?_)
    refine ac_goto (tgt := 456) Z.1 dX12_more_200 (by decide) ?_
    exact hret _ _ _ _ dX12_more_456 hw
def w_more_148 (Q : (Nat → Int32) → (Nat → Nat → Int32) → Prop) (a1 : Int32) (a2 : Int32) (a3 : Int32) (a4 : Int32) (t0 : Int32) (M : Nat → Int32) (F : Nat → Nat → Int32) : Prop := vp_in a1 18000 ∧ (vp_in a1 18000 ∧ (vp_in a1 18000 ∧ ((((F 16) (a1).toNatClampNeg) = (-1) → (w_more_183 Q a2 ((F 15) (a1).toNatClampNeg) a4 a3 ((F 17) (a1).toNatClampNeg) t0 0 M F)) ∧ (¬ ((F 16) (a1).toNatClampNeg) = (-1) → (w_more_183 Q a2 ((F 15) (a1).toNatClampNeg) a4 a3 ((F 17) (a1).toNatClampNeg) t0 1 M F)))))
set_option maxRecDepth 20000 in
theorem s_more_148 {x : ac_X} {g : r_S} {l : Launch} {Q : (Nat → Int32) → (Nat → Nat → Int32) → Prop} (Z : r_Cx x g l cX12_more 7 (5)) (hret : r_RV x g 7 cX12_more Q) (a1 : Int32) (a2 : Int32) (a3 : Int32) (a4 : Int32) (t0 : Int32) (M : Nat → Int32) (F : Nat → Nat → Int32) (hw : w_more_148 Q a1 a2 a3 a4 t0 M F) : ac_G x (r_R g) 7 (r_P g M F) 0 0 148 [(0, .ref (r_h g)), (1, .int a1), (2, .int a2), (3, .int a3), (4, .int a4)] [.int t0] := by
  refine ac_istore (lv' := [(5, .int t0), (0, .ref (r_h g)), (1, .int a1), (2, .int a2), (3, .int a3), (4, .int a4)]) Z.1 dX12_more_148 (by decide) rfl ?_
  refine ac_aload_n Z.1 1 dX12_more_150 rfl ?_
  refine ac_aload_n Z.1 1 dX12_more_151 rfl ?_
  refine r_geta Z.1 Z.2.1 15 (by decide) rfl fX12_34 rfl dX12_more_152 ?_
  refine ac_iload_n Z.1 2 dX12_more_155 rfl ?_
  obtain ⟨hb16, hw⟩ := hw
  refine r_ald (v := ((F 15) (a1).toNatClampNeg)) Z.1 Z.2.1 8 15 18000 rfl rfl hb16 rfl dX12_more_156 ?_
  refine ac_iload Z.1 5 dX12_more_157 rfl ?_
  refine ac_iload_n Z.1 4 dX12_more_159 rfl ?_
  refine ac_aload_n Z.1 1 dX12_more_160 rfl ?_
  refine r_geta Z.1 Z.2.1 17 (by decide) rfl fX12_40 rfl dX12_more_161 ?_
  refine ac_iload_n Z.1 2 dX12_more_164 rfl ?_
  obtain ⟨hb17, hw⟩ := hw
  refine r_ald (v := ((F 17) (a1).toNatClampNeg)) Z.1 Z.2.1 10 17 18000 rfl rfl hb17 rfl dX12_more_165 ?_
  refine ac_iload Z.1 0 dX12_more_166 rfl ?_
  refine ac_aload_n Z.1 1 dX12_more_168 rfl ?_
  refine r_geta Z.1 Z.2.1 16 (by decide) rfl fX12_37 rfl dX12_more_169 ?_
  refine ac_iload_n Z.1 2 dX12_more_172 rfl ?_
  obtain ⟨hb18, hw⟩ := hw
  refine r_ald (v := ((F 16) (a1).toNatClampNeg)) Z.1 Z.2.1 9 16 18000 rfl rfl hb18 rfl dX12_more_173 ?_
  refine ac_iconst (v := (-1)) Z.1 dX12_more_174 (by decide) ?_
  obtain ⟨hwt, hwf⟩ := hw
  refine ac_icmp_eq (tgt := 182) Z.1 dX12_more_175 (by decide) (fun hc => ?_) (fun hc => ?_)
  · have hw := hwt hc
    refine ac_iconst (v := 0) Z.1 dX12_more_182 (by decide) ?_
    refine ac_lv [1, 3] rfl ?_
    exact s_more_183 Z hret _ _ _ _ _ _ _ _ _ hw
  · have hw := hwf hc
    refine ac_iconst (v := 1) Z.1 dX12_more_178 (by decide) ?_
    refine ac_goto (tgt := 183) Z.1 dX12_more_179 (by decide) ?_
    refine ac_lv [1, 3] rfl ?_
    exact s_more_183 Z hret _ _ _ _ _ _ _ _ _ hw
def w_more_263 (Q : (Nat → Int32) → (Nat → Nat → Int32) → Prop) (t1 : Int32) (t2 : Int32) (M : Nat → Int32) (F : Nat → Nat → Int32) : Prop := w_joins t1 t2 M F (fun M37 F37 => (Q M37 F37))
set_option maxRecDepth 20000 in
theorem s_more_263 {x : ac_X} {g : r_S} {l : Launch} {Q : (Nat → Int32) → (Nat → Nat → Int32) → Prop} (Z : r_Cx x g l cX12_more 7 (5)) (hret : r_RV x g 7 cX12_more Q) (t1 : Int32) (t2 : Int32) (M : Nat → Int32) (F : Nat → Nat → Int32) (hw : w_more_263 Q t1 t2 M F) : ac_G x (r_R g) 7 (r_P g M F) 0 0 263 [(0, .ref (r_h g))] [.int t2, .int t1, .ref (r_h g)] := by
  refine r_callv (As := [.int t1, .int t2]) (st := []) Z kX12_joins lkX12_480 (by omega) rfl (so_joins   _ _ _ _ _ hw) rfl rfl (Nat.le_of_ble_eq_true rfl) dX12_more_263 (fun M37 F37 hw => ?_)
  refine ac_goto (tgt := 456) Z.1 dX12_more_266 (by decide) ?_
  exact hret _ _ _ _ dX12_more_456 hw
def w_more (p1 : Int32) (p2 : Int32) (M : Nat → Int32) (F : Nat → Nat → Int32) (Q : (Nat → Int32) → (Nat → Nat → Int32) → Prop) : Prop := vp_in p1 18000 ∧ ((((F 13) (p1).toNatClampNeg) = 12 → (vp_in p1 18000 ∧ (w_obj ((F 15) (p1).toNatClampNeg) M F (fun r3 M4 F4 => ((¬ r3 = 0 → (vp_in p1 18000 ∧ (w_obj ((F4 15) (p1).toNatClampNeg) M4 F4 (fun r6 M7 F7 => (vp_in r6 8001 ∧ (w_hold_ p2 ((F7 52) (r6).toNatClampNeg) M7 F7 (fun M9 F9 => (Q M9 F9)))))))) ∧ (r3 = 0 → (w_raises 3 1 0 M4 F4 (fun M10 F10 => (Q M10 F10))))))))) ∧ (((F 13) (p1).toNatClampNeg) = 13 → (w_pop M F (fun r11 M12 F12 => (w_pop M12 F12 (fun r13 M14 F14 => (vp_in p1 18000 ∧ ((((F14 16) (p1).toNatClampNeg) < 0 → (w_more_148 Q p1 p2 r11 r13 0 M14 F14)) ∧ (¬ ((F14 16) (p1).toNatClampNeg) < 0 → (vp_in p1 18000 ∧ (w_obj ((F14 16) (p1).toNatClampNeg) M14 F14 (fun r23 M24 F24 => (w_more_148 Q p1 p2 r11 r13 r23 M24 F24)))))))))))) ∧ (((F 13) (p1).toNatClampNeg) = 14 → (w_obj p2 M F (fun r25 M26 F26 => ((¬ r25 = 0 → (w_obj p2 M26 F26 (fun r27 M28 F28 => (w_raise r27 M28 F28 (fun M29 F29 => (Q M29 F29)))))) ∧ (r25 = 0 → (w_raises 3 1 0 M26 F26 (fun M30 F30 => (Q M30 F30)))))))) ∧ (((F 13) (p1).toNatClampNeg) = 15 → (w_obj p2 M F (fun r31 M32 F32 => (vp_in p1 18000 ∧ ((¬ ((F32 15) (p1).toNatClampNeg) = (-1) → (vp_in p1 18000 ∧ (w_obj ((F32 15) (p1).toNatClampNeg) M32 F32 (fun r35 M36 F36 => (w_more_263 Q r31 r35 M36 F36))))) ∧ (((F32 15) (p1).toNatClampNeg) = (-1) → (w_more_263 Q r31 0 M32 F32))))))) ∧ (((F 13) (p1).toNatClampNeg) = 16 → (w_pop M F (fun r38 M39 F39 => (w_notes r38 M39 F39 (fun M40 F40 => (Q M40 F40)))))) ∧ (((F 13) (p1).toNatClampNeg) = 17 → (w_obj p2 M F (fun r41 M42 F42 => (w_notes r41 M42 F42 (fun M43 F43 => (Q M43 F43)))))) ∧ (((F 13) (p1).toNatClampNeg) = 18 → (vp_in p1 18000 ∧ (vp_in p1 18000 ∧ (w_hears p2 ((F 15) (p1).toNatClampNeg) ((F 16) (p1).toNatClampNeg) M F (fun M46 F46 => (Q M46 F46)))))) ∧ (((F 13) (p1).toNatClampNeg) = 19 → (w_pop M F (fun r47 M48 F48 => (w_rest r47 M48 F48 (fun M49 F49 => (Q M49 F49)))))) ∧ (((F 13) (p1).toNatClampNeg) = 20 → (vp_in ((M 67) - 1) 260 ∧ (vp_in ((M 67) - 1) 260 ∧ ((¬ ((F 65) (((M 67) - 1)).toNatClampNeg) = 1 → ((¬ ((F 65) (((M 67) - 1)).toNatClampNeg) = 2 → (Q (um M 67 ((M 67) - 1)) F)) ∧ (((F 65) (((M 67) - 1)).toNatClampNeg) = 2 → (w_rest ((F 66) (((M 67) - 1)).toNatClampNeg) (um M 67 ((M 67) - 1)) F (fun M52 F52 => (Q M52 F52)))))) ∧ (((F 65) (((M 67) - 1)).toNatClampNeg) = 1 → (w_raise ((F 66) (((M 67) - 1)).toNatClampNeg) (um M 67 ((M 67) - 1)) F (fun M53 F53 => (Q M53 F53)))))))) ∧ (((F 13) (p1).toNatClampNeg) = 21 → (vp_in ((M 67) - 1) 260 ∧ (vp_in ((M 67) - 1) 260 ∧ ((¬ ((F 65) (((M 67) - 1)).toNatClampNeg) = 1 → ((¬ ((F 65) (((M 67) - 1)).toNatClampNeg) = 2 → (Q (um M 67 ((M 67) - 1)) F)) ∧ (((F 65) (((M 67) - 1)).toNatClampNeg) = 2 → (w_rest ((F 66) (((M 67) - 1)).toNatClampNeg) (um M 67 ((M 67) - 1)) F (fun M56 F56 => (Q M56 F56)))))) ∧ (((F 65) (((M 67) - 1)).toNatClampNeg) = 1 → (w_raise ((F 66) (((M 67) - 1)).toNatClampNeg) (um M 67 ((M 67) - 1)) F (fun M57 F57 => (Q M57 F57)))))))) ∧ (((F 13) (p1).toNatClampNeg) = 22 → (vp_in (M 67) 260 ∧ (vp_in (M 67) 260 ∧ (Q (um M 67 ((M 67) + 1)) (uf (uf F 63 (M 67) p2) 64 (M 67) 0))))) ∧ (((F 13) (p1).toNatClampNeg) = 23 → (w_goesLastly ((M 67) - 1) 0 0 M F (fun r60 M61 F61 => ((r60 = 0 → (vp_in p2 800 ∧ (Q (um (um M61 67 ((M61 67) - 1)) 70 ((F61 22) (p2).toNatClampNeg)) F61))) ∧ (¬ r60 = 0 → (Q M61 F61)))))) ∧ (¬ ((F 13) (p1).toNatClampNeg) = 12 → ¬ ((F 13) (p1).toNatClampNeg) = 13 → ¬ ((F 13) (p1).toNatClampNeg) = 14 → ¬ ((F 13) (p1).toNatClampNeg) = 15 → ¬ ((F 13) (p1).toNatClampNeg) = 16 → ¬ ((F 13) (p1).toNatClampNeg) = 17 → ¬ ((F 13) (p1).toNatClampNeg) = 18 → ¬ ((F 13) (p1).toNatClampNeg) = 19 → ¬ ((F 13) (p1).toNatClampNeg) = 20 → ¬ ((F 13) (p1).toNatClampNeg) = 21 → ¬ ((F 13) (p1).toNatClampNeg) = 22 → ¬ ((F 13) (p1).toNatClampNeg) = 23 → (vp_in ((M 67) - 1) 260 ∧ (vp_in ((M 67) - 1) 260 ∧ ((¬ ((F 65) (((M 67) - 1)).toNatClampNeg) = 1 → ((¬ ((F 65) (((M 67) - 1)).toNatClampNeg) = 2 → (Q (um M 67 ((M 67) - 1)) F)) ∧ (((F 65) (((M 67) - 1)).toNatClampNeg) = 2 → (w_rest ((F 66) (((M 67) - 1)).toNatClampNeg) (um M 67 ((M 67) - 1)) F (fun M65 F65 => (Q M65 F65)))))) ∧ (((F 65) (((M 67) - 1)).toNatClampNeg) = 1 → (w_raise ((F 66) (((M 67) - 1)).toNatClampNeg) (um M 67 ((M 67) - 1)) F (fun M66 F66 => (Q M66 F66)))))))))
set_option maxRecDepth 20000 in
theorem so_more {l : Launch} {g : r_S} (p1 : Int32) (p2 : Int32) (M : Nat → Int32) (F : Nat → Nat → Int32) (Q : (Nat → Int32) → (Nat → Nat → Int32) → Prop) (hw : w_more p1 p2 M F Q) : r_MetV l g yX12_more cX12_more 7 (5) [.ref (r_h g), .int p1, .int p2] M F Q := by
  refine r_MetV.of (by decide) rfl (Nat.le_of_ble_eq_true rfl) (fun x Z hret => ?_)
  show ac_G x (r_R g) 7 (r_P g M F) 0 0 0 [(0, .ref (r_h g)), (1, .int p1), (2, .int p2)] []
  refine ac_aload_n Z.1 0 dX12_more_0 rfl ?_
  refine r_geta Z.1 Z.2.1 13 (by decide) rfl fX12_28 rfl dX12_more_1 ?_
  refine ac_iload_n Z.1 1 dX12_more_4 rfl ?_
  obtain ⟨hb1, hw⟩ := hw
  refine r_ald (v := ((F 13) (p1).toNatClampNeg)) Z.1 Z.2.1 6 13 18000 rfl rfl hb1 rfl dX12_more_5 ?_
  obtain ⟨hwk, hw⟩ := hw
  by_cases hk0 : ((F 13) (p1).toNatClampNeg) = 12
  · have hw := hwk hk0
    refine ac_tableIn (off := 62) (tgt := 68) Z.1 dX12_more_6 (by rw [hk0]; decide) (by rw [hk0]; decide) (by rw [hk0]; rfl) (by decide) ?_
    refine ac_aload_n Z.1 0 dX12_more_68 rfl ?_
    refine ac_aload_n Z.1 0 dX12_more_69 rfl ?_
    refine r_geta Z.1 Z.2.1 15 (by decide) rfl fX12_34 rfl dX12_more_70 ?_
    refine ac_iload_n Z.1 1 dX12_more_73 rfl ?_
    obtain ⟨hb2, hw⟩ := hw
    refine r_ald (v := ((F 15) (p1).toNatClampNeg)) Z.1 Z.2.1 8 15 18000 rfl rfl hb2 rfl dX12_more_74 ?_
    refine r_calli (As := [.int ((F 15) (p1).toNatClampNeg)]) (st := []) Z kX12_obj lkX12_465 (by omega) rfl (so_obj   _ _ _ _ hw) rfl rfl (Nat.le_of_ble_eq_true rfl) dX12_more_75 (fun r3 M4 F4 hw => ?_)
    obtain ⟨hwt, hwf⟩ := hw
    refine ac_if_ne (tgt := 91) Z.1 dX12_more_78 (by decide) (fun hc => ?_) (fun hc => ?_)
    · have hw := hwt hc
      refine ac_aload_n Z.1 0 dX12_more_91 rfl ?_
      refine ac_iload_n Z.1 2 dX12_more_92 rfl ?_
      refine ac_aload_n Z.1 0 dX12_more_93 rfl ?_
      refine r_geta Z.1 Z.2.1 52 (by decide) rfl fX12_104 rfl dX12_more_94 ?_
      refine ac_aload_n Z.1 0 dX12_more_97 rfl ?_
      refine ac_aload_n Z.1 0 dX12_more_98 rfl ?_
      refine r_geta Z.1 Z.2.1 15 (by decide) rfl fX12_34 rfl dX12_more_99 ?_
      refine ac_iload_n Z.1 1 dX12_more_102 rfl ?_
      obtain ⟨hb5, hw⟩ := hw
      refine r_ald (v := ((F4 15) (p1).toNatClampNeg)) Z.1 Z.2.1 8 15 18000 rfl rfl hb5 rfl dX12_more_103 ?_
      refine r_calli (As := [.int ((F4 15) (p1).toNatClampNeg)]) (st := [.ref (r_ad g 52), .int p2, .ref (r_h g)]) Z kX12_obj lkX12_465 (by omega) rfl (so_obj   _ _ _ _ hw) rfl rfl (Nat.le_of_ble_eq_true rfl) dX12_more_104 (fun r6 M7 F7 hw => ?_)
      obtain ⟨hb8, hw⟩ := hw
      refine r_ald (v := ((F7 52) (r6).toNatClampNeg)) Z.1 Z.2.1 28 52 8001 rfl rfl hb8 rfl dX12_more_107 ?_
      refine r_callv (As := [.int p2, .int ((F7 52) (r6).toNatClampNeg)]) (st := []) Z kX12_hold_ lkX12_471 (by omega) rfl (so_hold_   _ _ _ _ _ hw) rfl rfl (Nat.le_of_ble_eq_true rfl) dX12_more_108 (fun M9 F9 hw => ?_)
      refine ac_goto (tgt := 456) Z.1 dX12_more_111 (by decide) ?_
      exact hret _ _ _ _ dX12_more_456 hw
    · have hw := hwf hc
      refine ac_aload_n Z.1 0 dX12_more_81 rfl ?_
      refine ac_iconst (v := 3) Z.1 dX12_more_82 (by decide) ?_
      refine ac_iconst (v := 1) Z.1 dX12_more_83 (by decide) ?_
      refine ac_iconst (v := 0) Z.1 dX12_more_84 (by decide) ?_
      refine r_callv (As := [.int 3, .int 1, .int 0]) (st := []) Z kX12_raises lkX12_476 (by omega) rfl (so_raises   _ _ _ _ _ _ hw) rfl rfl (Nat.le_of_ble_eq_true rfl) dX12_more_85 (fun M10 F10 hw => ?_)
      refine ac_goto (tgt := 456) Z.1 dX12_more_88 (by decide) ?_
      exact hret _ _ _ _ dX12_more_456 hw
  obtain ⟨hwk, hw⟩ := hw
  by_cases hk1 : ((F 13) (p1).toNatClampNeg) = 13
  · have hw := hwk hk1
    refine ac_tableIn (off := 108) (tgt := 114) Z.1 dX12_more_6 (by rw [hk1]; decide) (by rw [hk1]; decide) (by rw [hk1]; rfl) (by decide) ?_
    refine ac_aload_n Z.1 0 dX12_more_114 rfl ?_
    refine r_calli (As := []) (st := []) Z kX12_pop lkX12_459 (by omega) rfl (so_pop    _ _ _ hw) rfl rfl (Nat.le_of_ble_eq_true rfl) dX12_more_115 (fun r11 M12 F12 hw => ?_)
    refine ac_istore_n (lv' := [(3, .int r11), (0, .ref (r_h g)), (1, .int p1), (2, .int p2)]) Z.1 dX12_more_118 (by decide) rfl ?_
    refine ac_aload_n Z.1 1 dX12_more_119 rfl ?_
    refine r_calli (As := []) (st := []) Z kX12_pop lkX12_459 (by omega) rfl (so_pop    _ _ _ hw) rfl rfl (Nat.le_of_ble_eq_true rfl) dX12_more_120 (fun r13 M14 F14 hw => ?_)
    refine ac_istore (lv' := [(4, .int r13), (3, .int r11), (0, .ref (r_h g)), (1, .int p1), (2, .int p2)]) Z.1 dX12_more_123 (by decide) rfl ?_
    refine ac_aload_n Z.1 2 dX12_more_125 rfl ?_
    refine r_geta Z.1 Z.2.1 16 (by decide) rfl fX12_37 rfl dX12_more_126 ?_
    refine ac_iload_n Z.1 3 dX12_more_129 rfl ?_
    obtain ⟨hb15, hw⟩ := hw
    refine r_ald (v := ((F14 16) (p1).toNatClampNeg)) Z.1 Z.2.1 9 16 18000 rfl rfl hb15 rfl dX12_more_130 ?_
    obtain ⟨hwt, hwf⟩ := hw
    refine ac_if_lt (tgt := 147) Z.1 dX12_more_131 (by decide) (fun hc => ?_) (fun hc => ?_)
    · have hw := hwt hc
      refine ac_iconst (v := 0) Z.1 dX12_more_147 (by decide) ?_
      refine ac_lv [2, 3, 4, 1, 0] rfl ?_
      exact s_more_148 Z hret _ _ _ _ _ _ _ hw
    · have hw := hwf hc
      refine ac_aload_n Z.1 2 dX12_more_134 rfl ?_
      refine ac_aload_n Z.1 2 dX12_more_135 rfl ?_
      refine r_geta Z.1 Z.2.1 16 (by decide) rfl fX12_37 rfl dX12_more_136 ?_
      refine ac_iload_n Z.1 3 dX12_more_139 rfl ?_
      obtain ⟨hb22, hw⟩ := hw
      refine r_ald (v := ((F14 16) (p1).toNatClampNeg)) Z.1 Z.2.1 9 16 18000 rfl rfl hb22 rfl dX12_more_140 ?_
      refine r_calli (As := [.int ((F14 16) (p1).toNatClampNeg)]) (st := []) Z kX12_obj lkX12_465 (by omega) rfl (so_obj   _ _ _ _ hw) rfl rfl (Nat.le_of_ble_eq_true rfl) dX12_more_141 (fun r23 M24 F24 hw => ?_)
      refine ac_goto (tgt := 148) Z.1 dX12_more_144 (by decide) ?_
      refine ac_lv [2, 3, 4, 1, 0] rfl ?_
      exact s_more_148 Z hret _ _ _ _ _ _ _ hw
  obtain ⟨hwk, hw⟩ := hw
  by_cases hk2 : ((F 13) (p1).toNatClampNeg) = 14
  · have hw := hwk hk2
    refine ac_tableIn (off := 197) (tgt := 203) Z.1 dX12_more_6 (by rw [hk2]; decide) (by rw [hk2]; decide) (by rw [hk2]; rfl) (by decide) ?_
    refine ac_aload_n Z.1 0 dX12_more_203 rfl ?_
    refine ac_iload_n Z.1 2 dX12_more_204 rfl ?_
    refine r_calli (As := [.int p2]) (st := []) Z kX12_obj lkX12_465 (by omega) rfl (so_obj   _ _ _ _ hw) rfl rfl (Nat.le_of_ble_eq_true rfl) dX12_more_205 (fun r25 M26 F26 hw => ?_)
    obtain ⟨hwt, hwf⟩ := hw
    refine ac_if_ne (tgt := 221) Z.1 dX12_more_208 (by decide) (fun hc => ?_) (fun hc => ?_)
    · have hw := hwt hc
      refine ac_aload_n Z.1 0 dX12_more_221 rfl ?_
      refine ac_aload_n Z.1 0 dX12_more_222 rfl ?_
      refine ac_iload_n Z.1 2 dX12_more_223 rfl ?_
      refine r_calli (As := [.int p2]) (st := [.ref (r_h g)]) Z kX12_obj lkX12_465 (by omega) rfl (so_obj   _ _ _ _ hw) rfl rfl (Nat.le_of_ble_eq_true rfl) dX12_more_224 (fun r27 M28 F28 hw => ?_)
      refine r_callv (As := [.int r27]) (st := []) Z kX12_raise lkX12_447 (by omega) rfl (so_raise   _ _ _ _ hw) rfl rfl (Nat.le_of_ble_eq_true rfl) dX12_more_227 (fun M29 F29 hw => ?_)
      refine ac_goto (tgt := 456) Z.1 dX12_more_230 (by decide) ?_
      exact hret _ _ _ _ dX12_more_456 hw
    · have hw := hwf hc
      refine ac_aload_n Z.1 0 dX12_more_211 rfl ?_
      refine ac_iconst (v := 3) Z.1 dX12_more_212 (by decide) ?_
      refine ac_iconst (v := 1) Z.1 dX12_more_213 (by decide) ?_
      refine ac_iconst (v := 0) Z.1 dX12_more_214 (by decide) ?_
      refine r_callv (As := [.int 3, .int 1, .int 0]) (st := []) Z kX12_raises lkX12_476 (by omega) rfl (so_raises   _ _ _ _ _ _ hw) rfl rfl (Nat.le_of_ble_eq_true rfl) dX12_more_215 (fun M30 F30 hw => ?_)
      refine ac_goto (tgt := 456) Z.1 dX12_more_218 (by decide) ?_
      exact hret _ _ _ _ dX12_more_456 hw
  obtain ⟨hwk, hw⟩ := hw
  by_cases hk3 : ((F 13) (p1).toNatClampNeg) = 15
  · have hw := hwk hk3
    refine ac_tableIn (off := 227) (tgt := 233) Z.1 dX12_more_6 (by rw [hk3]; decide) (by rw [hk3]; decide) (by rw [hk3]; rfl) (by decide) ?_
    refine ac_aload_n Z.1 0 dX12_more_233 rfl ?_
    refine ac_aload_n Z.1 0 dX12_more_234 rfl ?_
    refine ac_iload_n Z.1 2 dX12_more_235 rfl ?_
    refine r_calli (As := [.int p2]) (st := [.ref (r_h g)]) Z kX12_obj lkX12_465 (by omega) rfl (so_obj   _ _ _ _ hw) rfl rfl (Nat.le_of_ble_eq_true rfl) dX12_more_236 (fun r31 M32 F32 hw => ?_)
    refine ac_aload_n Z.1 0 dX12_more_239 rfl ?_
    refine r_geta Z.1 Z.2.1 15 (by decide) rfl fX12_34 rfl dX12_more_240 ?_
    refine ac_iload_n Z.1 1 dX12_more_243 rfl ?_
    obtain ⟨hb33, hw⟩ := hw
    refine r_ald (v := ((F32 15) (p1).toNatClampNeg)) Z.1 Z.2.1 8 15 18000 rfl rfl hb33 rfl dX12_more_244 ?_
    refine ac_iconst (v := (-1)) Z.1 dX12_more_245 (by decide) ?_
    obtain ⟨hwt, hwf⟩ := hw
    refine ac_icmp_ne (tgt := 253) Z.1 dX12_more_246 (by decide) (fun hc => ?_) (fun hc => ?_)
    · have hw := hwt hc
      refine ac_aload_n Z.1 0 dX12_more_253 rfl ?_
      refine ac_aload_n Z.1 0 dX12_more_254 rfl ?_
      refine r_geta Z.1 Z.2.1 15 (by decide) rfl fX12_34 rfl dX12_more_255 ?_
      refine ac_iload_n Z.1 1 dX12_more_258 rfl ?_
      obtain ⟨hb34, hw⟩ := hw
      refine r_ald (v := ((F32 15) (p1).toNatClampNeg)) Z.1 Z.2.1 8 15 18000 rfl rfl hb34 rfl dX12_more_259 ?_
      refine r_calli (As := [.int ((F32 15) (p1).toNatClampNeg)]) (st := [.int r31, .ref (r_h g)]) Z kX12_obj lkX12_465 (by omega) rfl (so_obj   _ _ _ _ hw) rfl rfl (Nat.le_of_ble_eq_true rfl) dX12_more_260 (fun r35 M36 F36 hw => ?_)
      refine ac_lv [0] rfl ?_
      exact s_more_263 Z hret _ _ _ _ hw
    · have hw := hwf hc
      refine ac_iconst (v := 0) Z.1 dX12_more_249 (by decide) ?_
      refine ac_goto (tgt := 263) Z.1 dX12_more_250 (by decide) ?_
      refine ac_lv [0] rfl ?_
      exact s_more_263 Z hret _ _ _ _ hw
  obtain ⟨hwk, hw⟩ := hw
  by_cases hk4 : ((F 13) (p1).toNatClampNeg) = 16
  · have hw := hwk hk4
    refine ac_tableIn (off := 263) (tgt := 269) Z.1 dX12_more_6 (by rw [hk4]; decide) (by rw [hk4]; decide) (by rw [hk4]; rfl) (by decide) ?_
    refine ac_aload_n Z.1 0 dX12_more_269 rfl ?_
    refine ac_aload_n Z.1 0 dX12_more_270 rfl ?_
    refine r_calli (As := []) (st := [.ref (r_h g)]) Z kX12_pop lkX12_459 (by omega) rfl (so_pop    _ _ _ hw) rfl rfl (Nat.le_of_ble_eq_true rfl) dX12_more_271 (fun r38 M39 F39 hw => ?_)
    refine r_callv (As := [.int r38]) (st := []) Z kX12_notes lkX12_483 (by omega) rfl (so_notes   _ _ _ _ hw) rfl rfl (Nat.le_of_ble_eq_true rfl) dX12_more_274 (fun M40 F40 hw => ?_)
    refine ac_goto (tgt := 456) Z.1 dX12_more_277 (by decide) ?_
    exact hret _ _ _ _ dX12_more_456 hw
  obtain ⟨hwk, hw⟩ := hw
  by_cases hk5 : ((F 13) (p1).toNatClampNeg) = 17
  · have hw := hwk hk5
    refine ac_tableIn (off := 274) (tgt := 280) Z.1 dX12_more_6 (by rw [hk5]; decide) (by rw [hk5]; decide) (by rw [hk5]; rfl) (by decide) ?_
    refine ac_aload_n Z.1 0 dX12_more_280 rfl ?_
    refine ac_aload_n Z.1 0 dX12_more_281 rfl ?_
    refine ac_iload_n Z.1 2 dX12_more_282 rfl ?_
    refine r_calli (As := [.int p2]) (st := [.ref (r_h g)]) Z kX12_obj lkX12_465 (by omega) rfl (so_obj   _ _ _ _ hw) rfl rfl (Nat.le_of_ble_eq_true rfl) dX12_more_283 (fun r41 M42 F42 hw => ?_)
    refine r_callv (As := [.int r41]) (st := []) Z kX12_notes lkX12_483 (by omega) rfl (so_notes   _ _ _ _ hw) rfl rfl (Nat.le_of_ble_eq_true rfl) dX12_more_286 (fun M43 F43 hw => ?_)
    refine ac_goto (tgt := 456) Z.1 dX12_more_289 (by decide) ?_
    exact hret _ _ _ _ dX12_more_456 hw
  obtain ⟨hwk, hw⟩ := hw
  by_cases hk6 : ((F 13) (p1).toNatClampNeg) = 18
  · have hw := hwk hk6
    refine ac_tableIn (off := 286) (tgt := 292) Z.1 dX12_more_6 (by rw [hk6]; decide) (by rw [hk6]; decide) (by rw [hk6]; rfl) (by decide) ?_
    refine ac_aload_n Z.1 0 dX12_more_292 rfl ?_
    refine ac_iload_n Z.1 2 dX12_more_293 rfl ?_
    refine ac_aload_n Z.1 0 dX12_more_294 rfl ?_
    refine r_geta Z.1 Z.2.1 15 (by decide) rfl fX12_34 rfl dX12_more_295 ?_
    refine ac_iload_n Z.1 1 dX12_more_298 rfl ?_
    obtain ⟨hb44, hw⟩ := hw
    refine r_ald (v := ((F 15) (p1).toNatClampNeg)) Z.1 Z.2.1 8 15 18000 rfl rfl hb44 rfl dX12_more_299 ?_
    refine ac_aload_n Z.1 0 dX12_more_300 rfl ?_
    refine r_geta Z.1 Z.2.1 16 (by decide) rfl fX12_37 rfl dX12_more_301 ?_
    refine ac_iload_n Z.1 1 dX12_more_304 rfl ?_
    obtain ⟨hb45, hw⟩ := hw
    refine r_ald (v := ((F 16) (p1).toNatClampNeg)) Z.1 Z.2.1 9 16 18000 rfl rfl hb45 rfl dX12_more_305 ?_
    refine r_callv (As := [.int p2, .int ((F 15) (p1).toNatClampNeg), .int ((F 16) (p1).toNatClampNeg)]) (st := []) Z kX12_hears lkX12_486 (by omega) rfl (so_hears   _ _ _ _ _ _ hw) rfl rfl (Nat.le_of_ble_eq_true rfl) dX12_more_306 (fun M46 F46 hw => ?_)
    refine ac_goto (tgt := 456) Z.1 dX12_more_309 (by decide) ?_
    exact hret _ _ _ _ dX12_more_456 hw
  obtain ⟨hwk, hw⟩ := hw
  by_cases hk7 : ((F 13) (p1).toNatClampNeg) = 19
  · have hw := hwk hk7
    refine ac_tableIn (off := 306) (tgt := 312) Z.1 dX12_more_6 (by rw [hk7]; decide) (by rw [hk7]; decide) (by rw [hk7]; rfl) (by decide) ?_
    refine ac_aload_n Z.1 0 dX12_more_312 rfl ?_
    refine ac_aload_n Z.1 0 dX12_more_313 rfl ?_
    refine r_calli (As := []) (st := [.ref (r_h g)]) Z kX12_pop lkX12_459 (by omega) rfl (so_pop    _ _ _ hw) rfl rfl (Nat.le_of_ble_eq_true rfl) dX12_more_314 (fun r47 M48 F48 hw => ?_)
    refine r_callv (As := [.int r47]) (st := []) Z kX12_rest lkX12_488 (by omega) rfl (so_rest   _ _ _ _ hw) rfl rfl (Nat.le_of_ble_eq_true rfl) dX12_more_317 (fun M49 F49 hw => ?_)
    refine ac_goto (tgt := 456) Z.1 dX12_more_320 (by decide) ?_
    exact hret _ _ _ _ dX12_more_456 hw
  obtain ⟨hwk, hw⟩ := hw
  by_cases hk8 : ((F 13) (p1).toNatClampNeg) = 20
  · have hw := hwk hk8
    refine ac_tableIn (off := 391) (tgt := 397) Z.1 dX12_more_6 (by rw [hk8]; decide) (by rw [hk8]; decide) (by rw [hk8]; rfl) (by decide) ?_
    refine ac_aload_n Z.1 0 dX12_more_397 rfl ?_
    refine ac_dup Z.1 dX12_more_398 rfl ?_
    refine r_geti (v := (M 67)) Z.1 Z.2.1 67 (by decide) rfl fX12_412 rfl rfl dX12_more_399 ?_
    refine ac_iconst (v := 1) Z.1 dX12_more_402 (by decide) ?_
    refine ac_isub Z.1 dX12_more_403 ?_
    refine r_put Z.1 Z.2.1 67 (by decide) rfl rfl rfl fX12_412 rfl dX12_more_404 ?_
    refine ac_aload_n Z.1 0 dX12_more_407 rfl ?_
    refine r_geta Z.1 Z.2.1 65 (by decide) rfl fX12_132 rfl dX12_more_408 ?_
    refine ac_aload_n Z.1 0 dX12_more_411 rfl ?_
    refine r_geti (v := ((M 67) - 1)) Z.1 Z.2.1 67 (by decide) rfl fX12_412 rfl rfl dX12_more_412 ?_
    obtain ⟨hb50, hw⟩ := hw
    refine r_ald (v := ((F 65) (((M 67) - 1)).toNatClampNeg)) Z.1 Z.2.1 37 65 260 rfl rfl hb50 rfl dX12_more_415 ?_
    refine ac_istore_n (lv' := [(3, .int ((F 65) (((M 67) - 1)).toNatClampNeg)), (0, .ref (r_h g)), (1, .int p1), (2, .int p2)]) Z.1 dX12_more_416 (by decide) rfl ?_
    refine ac_aload_n Z.1 1 dX12_more_417 rfl ?_
    refine r_geta Z.1 Z.2.1 66 (by decide) rfl fX12_135 rfl dX12_more_418 ?_
    refine ac_aload_n Z.1 1 dX12_more_421 rfl ?_
    refine r_geti (v := ((M 67) - 1)) Z.1 Z.2.1 67 (by decide) rfl fX12_412 rfl rfl dX12_more_422 ?_
    obtain ⟨hb51, hw⟩ := hw
    refine r_ald (v := ((F 66) (((M 67) - 1)).toNatClampNeg)) Z.1 Z.2.1 38 66 260 rfl rfl hb51 rfl dX12_more_425 ?_
    refine ac_istore (lv' := [(4, .int ((F 66) (((M 67) - 1)).toNatClampNeg)), (3, .int ((F 65) (((M 67) - 1)).toNatClampNeg)), (0, .ref (r_h g)), (1, .int p1), (2, .int p2)]) Z.1 dX12_more_426 (by decide) rfl ?_
    refine ac_iload_n Z.1 1 dX12_more_428 rfl ?_
    refine ac_iconst (v := 1) Z.1 dX12_more_429 (by decide) ?_
    obtain ⟨hwt, hwf⟩ := hw
    refine ac_icmp_ne (tgt := 442) Z.1 dX12_more_430 (by decide) (fun hc => ?_) (fun hc => ?_)
    · have hw := hwt hc
      refine ac_iload_n Z.1 1 dX12_more_442 rfl ?_
      refine ac_iconst (v := 2) Z.1 dX12_more_443 (by decide) ?_
      obtain ⟨hwt, hwf⟩ := hw
      refine ac_icmp_ne (tgt := 456) Z.1 dX12_more_444 (by decide) (fun hc => ?_) (fun hc => ?_)
      · have hw := hwt hc
        exact hret _ _ _ _ dX12_more_456 hw
      · have hw := hwf hc
        refine ac_aload_n Z.1 2 dX12_more_447 rfl ?_
        refine ac_iload Z.1 0 dX12_more_448 rfl ?_
        refine r_callv (As := [.int ((F 66) (((M 67) - 1)).toNatClampNeg)]) (st := []) Z kX12_rest lkX12_488 (by omega) rfl (so_rest   _ _ _ _ hw) rfl rfl (Nat.le_of_ble_eq_true rfl) dX12_more_450 (fun M52 F52 hw => ?_)
        refine ac_goto (tgt := 456) Z.1 dX12_more_453 (by decide) ?_
        exact hret _ _ _ _ dX12_more_456 hw
    · have hw := hwf hc
      refine ac_aload_n Z.1 2 dX12_more_433 rfl ?_
      refine ac_iload Z.1 0 dX12_more_434 rfl ?_
      refine r_callv (As := [.int ((F 66) (((M 67) - 1)).toNatClampNeg)]) (st := []) Z kX12_raise lkX12_447 (by omega) rfl (so_raise   _ _ _ _ hw) rfl rfl (Nat.le_of_ble_eq_true rfl) dX12_more_436 (fun M53 F53 hw => ?_)
      refine ac_goto (tgt := 456) Z.1 dX12_more_439 (by decide) ?_
      exact hret _ _ _ _ dX12_more_456 hw
  obtain ⟨hwk, hw⟩ := hw
  by_cases hk9 : ((F 13) (p1).toNatClampNeg) = 21
  · have hw := hwk hk9
    refine ac_tableIn (off := 391) (tgt := 397) Z.1 dX12_more_6 (by rw [hk9]; decide) (by rw [hk9]; decide) (by rw [hk9]; rfl) (by decide) ?_
    refine ac_aload_n Z.1 0 dX12_more_397 rfl ?_
    refine ac_dup Z.1 dX12_more_398 rfl ?_
    refine r_geti (v := (M 67)) Z.1 Z.2.1 67 (by decide) rfl fX12_412 rfl rfl dX12_more_399 ?_
    refine ac_iconst (v := 1) Z.1 dX12_more_402 (by decide) ?_
    refine ac_isub Z.1 dX12_more_403 ?_
    refine r_put Z.1 Z.2.1 67 (by decide) rfl rfl rfl fX12_412 rfl dX12_more_404 ?_
    refine ac_aload_n Z.1 0 dX12_more_407 rfl ?_
    refine r_geta Z.1 Z.2.1 65 (by decide) rfl fX12_132 rfl dX12_more_408 ?_
    refine ac_aload_n Z.1 0 dX12_more_411 rfl ?_
    refine r_geti (v := ((M 67) - 1)) Z.1 Z.2.1 67 (by decide) rfl fX12_412 rfl rfl dX12_more_412 ?_
    obtain ⟨hb54, hw⟩ := hw
    refine r_ald (v := ((F 65) (((M 67) - 1)).toNatClampNeg)) Z.1 Z.2.1 37 65 260 rfl rfl hb54 rfl dX12_more_415 ?_
    refine ac_istore_n (lv' := [(3, .int ((F 65) (((M 67) - 1)).toNatClampNeg)), (0, .ref (r_h g)), (1, .int p1), (2, .int p2)]) Z.1 dX12_more_416 (by decide) rfl ?_
    refine ac_aload_n Z.1 1 dX12_more_417 rfl ?_
    refine r_geta Z.1 Z.2.1 66 (by decide) rfl fX12_135 rfl dX12_more_418 ?_
    refine ac_aload_n Z.1 1 dX12_more_421 rfl ?_
    refine r_geti (v := ((M 67) - 1)) Z.1 Z.2.1 67 (by decide) rfl fX12_412 rfl rfl dX12_more_422 ?_
    obtain ⟨hb55, hw⟩ := hw
    refine r_ald (v := ((F 66) (((M 67) - 1)).toNatClampNeg)) Z.1 Z.2.1 38 66 260 rfl rfl hb55 rfl dX12_more_425 ?_
    refine ac_istore (lv' := [(4, .int ((F 66) (((M 67) - 1)).toNatClampNeg)), (3, .int ((F 65) (((M 67) - 1)).toNatClampNeg)), (0, .ref (r_h g)), (1, .int p1), (2, .int p2)]) Z.1 dX12_more_426 (by decide) rfl ?_
    refine ac_iload_n Z.1 1 dX12_more_428 rfl ?_
    refine ac_iconst (v := 1) Z.1 dX12_more_429 (by decide) ?_
    obtain ⟨hwt, hwf⟩ := hw
    refine ac_icmp_ne (tgt := 442) Z.1 dX12_more_430 (by decide) (fun hc => ?_) (fun hc => ?_)
    · have hw := hwt hc
      refine ac_iload_n Z.1 1 dX12_more_442 rfl ?_
      refine ac_iconst (v := 2) Z.1 dX12_more_443 (by decide) ?_
      obtain ⟨hwt, hwf⟩ := hw
      refine ac_icmp_ne (tgt := 456) Z.1 dX12_more_444 (by decide) (fun hc => ?_) (fun hc => ?_)
      · have hw := hwt hc
        exact hret _ _ _ _ dX12_more_456 hw
      · have hw := hwf hc
        refine ac_aload_n Z.1 2 dX12_more_447 rfl ?_
        refine ac_iload Z.1 0 dX12_more_448 rfl ?_
        refine r_callv (As := [.int ((F 66) (((M 67) - 1)).toNatClampNeg)]) (st := []) Z kX12_rest lkX12_488 (by omega) rfl (so_rest   _ _ _ _ hw) rfl rfl (Nat.le_of_ble_eq_true rfl) dX12_more_450 (fun M56 F56 hw => ?_)
        refine ac_goto (tgt := 456) Z.1 dX12_more_453 (by decide) ?_
        exact hret _ _ _ _ dX12_more_456 hw
    · have hw := hwf hc
      refine ac_aload_n Z.1 2 dX12_more_433 rfl ?_
      refine ac_iload Z.1 0 dX12_more_434 rfl ?_
      refine r_callv (As := [.int ((F 66) (((M 67) - 1)).toNatClampNeg)]) (st := []) Z kX12_raise lkX12_447 (by omega) rfl (so_raise   _ _ _ _ hw) rfl rfl (Nat.le_of_ble_eq_true rfl) dX12_more_436 (fun M57 F57 hw => ?_)
      refine ac_goto (tgt := 456) Z.1 dX12_more_439 (by decide) ?_
      exact hret _ _ _ _ dX12_more_456 hw
  obtain ⟨hwk, hw⟩ := hw
  by_cases hk10 : ((F 13) (p1).toNatClampNeg) = 22
  · have hw := hwk hk10
    refine ac_tableIn (off := 317) (tgt := 323) Z.1 dX12_more_6 (by rw [hk10]; decide) (by rw [hk10]; decide) (by rw [hk10]; rfl) (by decide) ?_
    refine ac_aload_n Z.1 0 dX12_more_323 rfl ?_
    refine r_geta Z.1 Z.2.1 63 (by decide) rfl fX12_126 rfl dX12_more_324 ?_
    refine ac_aload_n Z.1 0 dX12_more_327 rfl ?_
    refine r_geti (v := (M 67)) Z.1 Z.2.1 67 (by decide) rfl fX12_412 rfl rfl dX12_more_328 ?_
    refine ac_iload_n Z.1 2 dX12_more_331 rfl ?_
    obtain ⟨hb58, hw⟩ := hw
    refine r_ast Z.1 Z.2.1 35 63 260 rfl rfl hb58 dX12_more_332 ?_
    refine ac_aload_n Z.1 0 dX12_more_333 rfl ?_
    refine r_geta Z.1 Z.2.1 64 (by decide) rfl fX12_129 rfl dX12_more_334 ?_
    refine ac_aload_n Z.1 0 dX12_more_337 rfl ?_
    refine r_geti (v := (M 67)) Z.1 Z.2.1 67 (by decide) rfl fX12_412 rfl rfl dX12_more_338 ?_
    refine ac_iconst (v := 0) Z.1 dX12_more_341 (by decide) ?_
    obtain ⟨hb59, hw⟩ := hw
    refine r_ast Z.1 Z.2.1 36 64 260 rfl rfl hb59 dX12_more_342 ?_
    refine ac_aload_n Z.1 0 dX12_more_343 rfl ?_
    refine ac_dup Z.1 dX12_more_344 rfl ?_
    refine r_geti (v := (M 67)) Z.1 Z.2.1 67 (by decide) rfl fX12_412 rfl rfl dX12_more_345 ?_
    refine ac_iconst (v := 1) Z.1 dX12_more_348 (by decide) ?_
    refine ac_iadd Z.1 dX12_more_349 ?_
    refine r_put Z.1 Z.2.1 67 (by decide) rfl rfl rfl fX12_412 rfl dX12_more_350 ?_
    refine ac_goto (tgt := 456) Z.1 dX12_more_353 (by decide) ?_
    exact hret _ _ _ _ dX12_more_456 hw
  obtain ⟨hwk, hw⟩ := hw
  by_cases hk11 : ((F 13) (p1).toNatClampNeg) = 23
  · have hw := hwk hk11
    refine ac_tableIn (off := 350) (tgt := 356) Z.1 dX12_more_6 (by rw [hk11]; decide) (by rw [hk11]; decide) (by rw [hk11]; rfl) (by decide) ?_
    refine ac_aload_n Z.1 0 dX12_more_356 rfl ?_
    refine ac_aload_n Z.1 0 dX12_more_357 rfl ?_
    refine r_geti (v := (M 67)) Z.1 Z.2.1 67 (by decide) rfl fX12_412 rfl rfl dX12_more_358 ?_
    refine ac_iconst (v := 1) Z.1 dX12_more_361 (by decide) ?_
    refine ac_isub Z.1 dX12_more_362 ?_
    refine ac_iconst (v := 0) Z.1 dX12_more_363 (by decide) ?_
    refine ac_iconst (v := 0) Z.1 dX12_more_364 (by decide) ?_
    refine r_calli (As := [.int ((M 67) - 1), .int 0, .int 0]) (st := []) Z kX12_goesLastly lkX12_437 (by omega) rfl (so_goesLastly   _ _ _ _ _ _ hw) rfl rfl (Nat.le_of_ble_eq_true rfl) dX12_more_365 (fun r60 M61 F61 hw => ?_)
    obtain ⟨hwt, hwf⟩ := hw
    refine ac_if_eq (tgt := 374) Z.1 dX12_more_368 (by decide) (fun hc => ?_) (fun hc => ?_)
    · have hw := hwt hc
      refine ac_aload_n Z.1 0 dX12_more_374 rfl ?_
      refine ac_dup Z.1 dX12_more_375 rfl ?_
      refine r_geti (v := (M61 67)) Z.1 Z.2.1 67 (by decide) rfl fX12_412 rfl rfl dX12_more_376 ?_
      refine ac_iconst (v := 1) Z.1 dX12_more_379 (by decide) ?_
      refine ac_isub Z.1 dX12_more_380 ?_
      refine r_put Z.1 Z.2.1 67 (by decide) rfl rfl rfl fX12_412 rfl dX12_more_381 ?_
      refine ac_aload_n Z.1 0 dX12_more_384 rfl ?_
      refine ac_aload_n Z.1 0 dX12_more_385 rfl ?_
      refine r_geta Z.1 Z.2.1 22 (by decide) rfl fX12_55 rfl dX12_more_386 ?_
      refine ac_iload_n Z.1 2 dX12_more_389 rfl ?_
      obtain ⟨hb62, hw⟩ := hw
      refine r_ald (v := ((F61 22) (p2).toNatClampNeg)) Z.1 Z.2.1 15 22 800 rfl rfl hb62 rfl dX12_more_390 ?_
      refine r_put Z.1 Z.2.1 70 (by decide) rfl rfl rfl fX12_418 rfl dX12_more_391 ?_
      refine ac_goto (tgt := 456) Z.1 dX12_more_394 (by decide) ?_
      exact hret _ _ _ _ dX12_more_456 hw
    · have hw := hwf hc
      refine ac_goto (tgt := 456) Z.1 dX12_more_371 (by decide) ?_
      exact hret _ _ _ _ dX12_more_456 hw
  have hw := hw hk0 hk1 hk2 hk3 hk4 hk5 hk6 hk7 hk8 hk9 hk10 hk11
  refine ac_tableOut (tgt := 397) Z.1 dX12_more_6 (by have q0 := lv_neT hk0 (show (12 : Int32).toInt = 12 by decide); have q1 := lv_neT hk1 (show (13 : Int32).toInt = 13 by decide); have q2 := lv_neT hk2 (show (14 : Int32).toInt = 14 by decide); have q3 := lv_neT hk3 (show (15 : Int32).toInt = 15 by decide); have q4 := lv_neT hk4 (show (16 : Int32).toInt = 16 by decide); have q5 := lv_neT hk5 (show (17 : Int32).toInt = 17 by decide); have q6 := lv_neT hk6 (show (18 : Int32).toInt = 18 by decide); have q7 := lv_neT hk7 (show (19 : Int32).toInt = 19 by decide); have q8 := lv_neT hk8 (show (20 : Int32).toInt = 20 by decide); have q9 := lv_neT hk9 (show (21 : Int32).toInt = 21 by decide); have q10 := lv_neT hk10 (show (22 : Int32).toInt = 22 by decide); have q11 := lv_neT hk11 (show (23 : Int32).toInt = 23 by decide); omega) (by decide) ?_
  refine ac_aload_n Z.1 0 dX12_more_397 rfl ?_
  refine ac_dup Z.1 dX12_more_398 rfl ?_
  refine r_geti (v := (M 67)) Z.1 Z.2.1 67 (by decide) rfl fX12_412 rfl rfl dX12_more_399 ?_
  refine ac_iconst (v := 1) Z.1 dX12_more_402 (by decide) ?_
  refine ac_isub Z.1 dX12_more_403 ?_
  refine r_put Z.1 Z.2.1 67 (by decide) rfl rfl rfl fX12_412 rfl dX12_more_404 ?_
  refine ac_aload_n Z.1 0 dX12_more_407 rfl ?_
  refine r_geta Z.1 Z.2.1 65 (by decide) rfl fX12_132 rfl dX12_more_408 ?_
  refine ac_aload_n Z.1 0 dX12_more_411 rfl ?_
  refine r_geti (v := ((M 67) - 1)) Z.1 Z.2.1 67 (by decide) rfl fX12_412 rfl rfl dX12_more_412 ?_
  obtain ⟨hb63, hw⟩ := hw
  refine r_ald (v := ((F 65) (((M 67) - 1)).toNatClampNeg)) Z.1 Z.2.1 37 65 260 rfl rfl hb63 rfl dX12_more_415 ?_
  refine ac_istore_n (lv' := [(3, .int ((F 65) (((M 67) - 1)).toNatClampNeg)), (0, .ref (r_h g)), (1, .int p1), (2, .int p2)]) Z.1 dX12_more_416 (by decide) rfl ?_
  refine ac_aload_n Z.1 1 dX12_more_417 rfl ?_
  refine r_geta Z.1 Z.2.1 66 (by decide) rfl fX12_135 rfl dX12_more_418 ?_
  refine ac_aload_n Z.1 1 dX12_more_421 rfl ?_
  refine r_geti (v := ((M 67) - 1)) Z.1 Z.2.1 67 (by decide) rfl fX12_412 rfl rfl dX12_more_422 ?_
  obtain ⟨hb64, hw⟩ := hw
  refine r_ald (v := ((F 66) (((M 67) - 1)).toNatClampNeg)) Z.1 Z.2.1 38 66 260 rfl rfl hb64 rfl dX12_more_425 ?_
  refine ac_istore (lv' := [(4, .int ((F 66) (((M 67) - 1)).toNatClampNeg)), (3, .int ((F 65) (((M 67) - 1)).toNatClampNeg)), (0, .ref (r_h g)), (1, .int p1), (2, .int p2)]) Z.1 dX12_more_426 (by decide) rfl ?_
  refine ac_iload_n Z.1 1 dX12_more_428 rfl ?_
  refine ac_iconst (v := 1) Z.1 dX12_more_429 (by decide) ?_
  obtain ⟨hwt, hwf⟩ := hw
  refine ac_icmp_ne (tgt := 442) Z.1 dX12_more_430 (by decide) (fun hc => ?_) (fun hc => ?_)
  · have hw := hwt hc
    refine ac_iload_n Z.1 1 dX12_more_442 rfl ?_
    refine ac_iconst (v := 2) Z.1 dX12_more_443 (by decide) ?_
    obtain ⟨hwt, hwf⟩ := hw
    refine ac_icmp_ne (tgt := 456) Z.1 dX12_more_444 (by decide) (fun hc => ?_) (fun hc => ?_)
    · have hw := hwt hc
      exact hret _ _ _ _ dX12_more_456 hw
    · have hw := hwf hc
      refine ac_aload_n Z.1 2 dX12_more_447 rfl ?_
      refine ac_iload Z.1 0 dX12_more_448 rfl ?_
      refine r_callv (As := [.int ((F 66) (((M 67) - 1)).toNatClampNeg)]) (st := []) Z kX12_rest lkX12_488 (by omega) rfl (so_rest   _ _ _ _ hw) rfl rfl (Nat.le_of_ble_eq_true rfl) dX12_more_450 (fun M65 F65 hw => ?_)
      refine ac_goto (tgt := 456) Z.1 dX12_more_453 (by decide) ?_
      exact hret _ _ _ _ dX12_more_456 hw
  · have hw := hwf hc
    refine ac_aload_n Z.1 2 dX12_more_433 rfl ?_
    refine ac_iload Z.1 0 dX12_more_434 rfl ?_
    refine r_callv (As := [.int ((F 66) (((M 67) - 1)).toNatClampNeg)]) (st := []) Z kX12_raise lkX12_447 (by omega) rfl (so_raise   _ _ _ _ hw) rfl rfl (Nat.le_of_ble_eq_true rfl) dX12_more_436 (fun M66 F66 hw => ?_)
    refine ac_goto (tgt := 456) Z.1 dX12_more_439 (by decide) ?_
    exact hret _ _ _ _ dX12_more_456 hw
def w_act_292 (Q : (Nat → Int32) → (Nat → Nat → Int32) → Prop) (t1 : Int32) (M : Nat → Int32) (F : Nat → Nat → Int32) : Prop := w_push t1 M F (fun M22 F22 => (Q M22 F22))
set_option maxRecDepth 20000 in
theorem s_act_292 {x : ac_X} {g : r_S} {l : Launch} {Q : (Nat → Int32) → (Nat → Nat → Int32) → Prop} (Z : r_Cx x g l cX12_act 3 (6)) (hret : r_RV x g 3 cX12_act Q) (t1 : Int32) (M : Nat → Int32) (F : Nat → Nat → Int32) (hw : w_act_292 Q t1 M F) : ac_G x (r_R g) 3 (r_P g M F) 0 0 292 [(0, .ref (r_h g))] [.int t1, .ref (r_h g)] := by
  refine r_callv (As := [.int t1]) (st := []) Z kX12_push lkX12_456 (by omega) rfl (so_push   _ _ _ _ hw) rfl rfl (Nat.le_of_ble_eq_true rfl) dX12_act_292 (fun M22 F22 hw => ?_)
  refine ac_goto (tgt := 384) Z.1 dX12_act_295 (by decide) ?_
  exact hret _ _ _ _ dX12_act_384 hw
def w_act_291 (Q : (Nat → Int32) → (Nat → Nat → Int32) → Prop) (M : Nat → Int32) (F : Nat → Nat → Int32) : Prop := w_act_292 Q 0 M F
set_option maxRecDepth 20000 in
theorem s_act_291 {x : ac_X} {g : r_S} {l : Launch} {Q : (Nat → Int32) → (Nat → Nat → Int32) → Prop} (Z : r_Cx x g l cX12_act 3 (6)) (hret : r_RV x g 3 cX12_act Q) (M : Nat → Int32) (F : Nat → Nat → Int32) (hw : w_act_291 Q M F) : ac_G x (r_R g) 3 (r_P g M F) 0 0 291 [(0, .ref (r_h g))] [.ref (r_h g)] := by
  refine ac_iconst (v := 0) Z.1 dX12_act_291 (by decide) ?_
  exact s_act_292 Z hret _ _ _ hw
def w_act_322 (Q : (Nat → Int32) → (Nat → Nat → Int32) → Prop) (t1 : Int32) (M : Nat → Int32) (F : Nat → Nat → Int32) : Prop := w_push t1 M F (fun M34 F34 => (Q M34 F34))
set_option maxRecDepth 20000 in
theorem s_act_322 {x : ac_X} {g : r_S} {l : Launch} {Q : (Nat → Int32) → (Nat → Nat → Int32) → Prop} (Z : r_Cx x g l cX12_act 3 (6)) (hret : r_RV x g 3 cX12_act Q) (t1 : Int32) (M : Nat → Int32) (F : Nat → Nat → Int32) (hw : w_act_322 Q t1 M F) : ac_G x (r_R g) 3 (r_P g M F) 0 0 322 [(0, .ref (r_h g))] [.int t1, .ref (r_h g)] := by
  refine r_callv (As := [.int t1]) (st := []) Z kX12_push lkX12_456 (by omega) rfl (so_push   _ _ _ _ hw) rfl rfl (Nat.le_of_ble_eq_true rfl) dX12_act_322 (fun M34 F34 hw => ?_)
  refine ac_goto (tgt := 384) Z.1 dX12_act_325 (by decide) ?_
  exact hret _ _ _ _ dX12_act_384 hw
def w_act (M : Nat → Int32) (F : Nat → Nat → Int32) (Q : (Nat → Int32) → (Nat → Nat → Int32) → Prop) : Prop := vp_in (M 70) 18000 ∧ (vp_in (M 70) 18000 ∧ ((((F 13) ((M 70)).toNatClampNeg) = 0 → ((¬ (M 78) = (M 79) → (Q (um (um M 70 ((M 70) + 1)) 78 ((M 78) + 1)) F)) ∧ ((M 78) = (M 79) → (Q (um (um M 70 ((M 70) + 1)) 71 1) F)))) ∧ (((F 13) ((M 70)).toNatClampNeg) = 1 → (w_push ((F 14) ((M 70)).toNatClampNeg) (um M 70 ((M 70) + 1)) F (fun M3 F3 => (Q M3 F3)))) ∧ (((F 13) ((M 70)).toNatClampNeg) = 2 → (∀ v4, v4 = ((12 * ((M 62) - 1)) + ((F 14) ((M 70)).toNatClampNeg)) → (vp_in v4 144 ∧ (w_push ((F 57) (v4).toNatClampNeg) (um M 70 ((M 70) + 1)) F (fun M6 F6 => (Q M6 F6)))))) ∧ (((F 13) ((M 70)).toNatClampNeg) = 3 → (∀ v7, v7 = ((12 * ((M 62) - 1)) + ((F 14) ((M 70)).toNatClampNeg)) → (w_pop (um M 70 ((M 70) + 1)) F (fun r8 M9 F9 => (vp_in v7 144 ∧ (Q M9 (uf F9 57 v7 r8))))))) ∧ (((F 13) ((M 70)).toNatClampNeg) = 4 → (w_pop (um M 70 ((M 70) + 1)) F (fun r11 M12 F12 => (w_push (-r11) M12 F12 (fun M13 F13 => (Q M13 F13)))))) ∧ (((F 13) ((M 70)).toNatClampNeg) = 5 → (w_more (M 70) ((F 14) ((M 70)).toNatClampNeg) (um M 70 ((M 70) + 1)) F (fun M14 F14 => (Q M14 F14)))) ∧ (((F 13) ((M 70)).toNatClampNeg) = 6 → (w_count ((F 14) ((M 70)).toNatClampNeg) (um M 70 ((M 70) + 1)) F (fun M15 F15 => (Q M15 F15)))) ∧ (((F 13) ((M 70)).toNatClampNeg) = 7 → (w_obj ((F 14) ((M 70)).toNatClampNeg) (um M 70 ((M 70) + 1)) F (fun r16 M17 F17 => (vp_in (M 70) 18000 ∧ (w_ask r16 ((F17 15) ((M 70)).toNatClampNeg) M17 F17 (fun M19 F19 => (Q M19 F19))))))) ∧ (((F 13) ((M 70)).toNatClampNeg) = 8 → (w_obj ((F 14) ((M 70)).toNatClampNeg) (um M 70 ((M 70) + 1)) F (fun r20 M21 F21 => ((r20 ≤ 0 → (w_act_291 Q M21 F21)) ∧ (¬ r20 ≤ 0 → (w_obj ((F 14) ((M 70)).toNatClampNeg) M21 F21 (fun r23 M24 F24 => (vp_in r23 8001 ∧ (vp_in (M 70) 18000 ∧ (w_isKind ((F24 48) (r23).toNatClampNeg) ((F24 15) ((M 70)).toNatClampNeg) M24 F24 (fun r27 M28 F28 => ((r27 = 0 → (w_act_291 Q M28 F28)) ∧ (¬ r27 = 0 → (w_act_292 Q 1 M28 F28)))))))))))))) ∧ (((F 13) ((M 70)).toNatClampNeg) = 9 → (w_obj ((F 14) ((M 70)).toNatClampNeg) (um M 70 ((M 70) + 1)) F (fun r29 M30 F30 => (vp_in (M 70) 18000 ∧ (w_obj ((F30 15) ((M 70)).toNatClampNeg) M30 F30 (fun r32 M33 F33 => ((¬ r29 = r32 → (w_act_322 Q 0 M33 F33)) ∧ (r29 = r32 → (w_act_322 Q 1 M33 F33))))))))) ∧ (((F 13) ((M 70)).toNatClampNeg) = 10 → (vp_in (M 70) 18000 ∧ (w_obj ((F 15) ((M 70)).toNatClampNeg) (um M 70 ((M 70) + 1)) F (fun r36 M37 F37 => (w_hold_ ((F 14) ((M 70)).toNatClampNeg) r36 M37 F37 (fun M38 F38 => (Q M38 F38))))))) ∧ (((F 13) ((M 70)).toNatClampNeg) = 11 → (w_hold_ ((F 14) ((M 70)).toNatClampNeg) 0 (um M 70 ((M 70) + 1)) F (fun M39 F39 => (Q M39 F39)))) ∧ (((F 13) ((M 70)).toNatClampNeg) = 12 → (w_more (M 70) ((F 14) ((M 70)).toNatClampNeg) (um M 70 ((M 70) + 1)) F (fun M40 F40 => (Q M40 F40)))) ∧ (((F 13) ((M 70)).toNatClampNeg) = 13 → (w_more (M 70) ((F 14) ((M 70)).toNatClampNeg) (um M 70 ((M 70) + 1)) F (fun M41 F41 => (Q M41 F41)))) ∧ (((F 13) ((M 70)).toNatClampNeg) = 14 → (w_more (M 70) ((F 14) ((M 70)).toNatClampNeg) (um M 70 ((M 70) + 1)) F (fun M42 F42 => (Q M42 F42)))) ∧ (((F 13) ((M 70)).toNatClampNeg) = 15 → (w_more (M 70) ((F 14) ((M 70)).toNatClampNeg) (um M 70 ((M 70) + 1)) F (fun M43 F43 => (Q M43 F43)))) ∧ (((F 13) ((M 70)).toNatClampNeg) = 16 → (w_more (M 70) ((F 14) ((M 70)).toNatClampNeg) (um M 70 ((M 70) + 1)) F (fun M44 F44 => (Q M44 F44)))) ∧ (((F 13) ((M 70)).toNatClampNeg) = 17 → (w_more (M 70) ((F 14) ((M 70)).toNatClampNeg) (um M 70 ((M 70) + 1)) F (fun M45 F45 => (Q M45 F45)))) ∧ (((F 13) ((M 70)).toNatClampNeg) = 18 → (w_more (M 70) ((F 14) ((M 70)).toNatClampNeg) (um M 70 ((M 70) + 1)) F (fun M46 F46 => (Q M46 F46)))) ∧ (((F 13) ((M 70)).toNatClampNeg) = 19 → (w_more (M 70) ((F 14) ((M 70)).toNatClampNeg) (um M 70 ((M 70) + 1)) F (fun M47 F47 => (Q M47 F47)))) ∧ (((F 13) ((M 70)).toNatClampNeg) = 20 → (Q (um (um M 70 ((M 70) + 1)) 70 ((F 14) ((M 70)).toNatClampNeg)) F)) ∧ (((F 13) ((M 70)).toNatClampNeg) = 21 → (w_pop (um M 70 ((M 70) + 1)) F (fun r48 M49 F49 => ((¬ r48 = 0 → (Q M49 F49)) ∧ (r48 = 0 → (Q (um M49 70 ((F 14) ((M 70)).toNatClampNeg)) F49)))))) ∧ (¬ ((F 13) ((M 70)).toNatClampNeg) = 0 → ¬ ((F 13) ((M 70)).toNatClampNeg) = 1 → ¬ ((F 13) ((M 70)).toNatClampNeg) = 2 → ¬ ((F 13) ((M 70)).toNatClampNeg) = 3 → ¬ ((F 13) ((M 70)).toNatClampNeg) = 4 → ¬ ((F 13) ((M 70)).toNatClampNeg) = 5 → ¬ ((F 13) ((M 70)).toNatClampNeg) = 6 → ¬ ((F 13) ((M 70)).toNatClampNeg) = 7 → ¬ ((F 13) ((M 70)).toNatClampNeg) = 8 → ¬ ((F 13) ((M 70)).toNatClampNeg) = 9 → ¬ ((F 13) ((M 70)).toNatClampNeg) = 10 → ¬ ((F 13) ((M 70)).toNatClampNeg) = 11 → ¬ ((F 13) ((M 70)).toNatClampNeg) = 12 → ¬ ((F 13) ((M 70)).toNatClampNeg) = 13 → ¬ ((F 13) ((M 70)).toNatClampNeg) = 14 → ¬ ((F 13) ((M 70)).toNatClampNeg) = 15 → ¬ ((F 13) ((M 70)).toNatClampNeg) = 16 → ¬ ((F 13) ((M 70)).toNatClampNeg) = 17 → ¬ ((F 13) ((M 70)).toNatClampNeg) = 18 → ¬ ((F 13) ((M 70)).toNatClampNeg) = 19 → ¬ ((F 13) ((M 70)).toNatClampNeg) = 20 → ¬ ((F 13) ((M 70)).toNatClampNeg) = 21 → (w_more (M 70) ((F 14) ((M 70)).toNatClampNeg) (um M 70 ((M 70) + 1)) F (fun M50 F50 => (Q M50 F50))))))
set_option maxRecDepth 20000 in
theorem so_act {l : Launch} {g : r_S} (M : Nat → Int32) (F : Nat → Nat → Int32) (Q : (Nat → Int32) → (Nat → Nat → Int32) → Prop) (hw : w_act  M F Q) : r_MetV l g yX12_act cX12_act 3 (6) [.ref (r_h g)] M F Q := by
  refine r_MetV.of (by decide) rfl (Nat.le_of_ble_eq_true rfl) (fun x Z hret => ?_)
  show ac_G x (r_R g) 3 (r_P g M F) 0 0 0 [(0, .ref (r_h g))] []
  refine ac_aload_n Z.1 0 dX12_act_0 rfl ?_
  refine r_geti (v := (M 70)) Z.1 Z.2.1 70 (by decide) rfl fX12_418 rfl rfl dX12_act_1 ?_
  refine ac_istore_n (lv' := [(1, .int (M 70)), (0, .ref (r_h g))]) Z.1 dX12_act_4 (by decide) rfl ?_
  refine ac_aload_n Z.1 1 dX12_act_5 rfl ?_
  refine ac_dup Z.1 dX12_act_6 rfl ?_
  refine r_geti (v := (M 70)) Z.1 Z.2.1 70 (by decide) rfl fX12_418 rfl rfl dX12_act_7 ?_
  refine ac_iconst (v := 1) Z.1 dX12_act_10 (by decide) ?_
  refine ac_iadd Z.1 dX12_act_11 ?_
  refine r_put Z.1 Z.2.1 70 (by decide) rfl rfl rfl fX12_418 rfl dX12_act_12 ?_
  refine ac_aload_n Z.1 1 dX12_act_15 rfl ?_
  refine r_geta Z.1 Z.2.1 14 (by decide) rfl fX12_31 rfl dX12_act_16 ?_
  refine ac_iload_n Z.1 0 dX12_act_19 rfl ?_
  obtain ⟨hb1, hw⟩ := hw
  refine r_ald (v := ((F 14) ((M 70)).toNatClampNeg)) Z.1 Z.2.1 7 14 18000 rfl rfl hb1 rfl dX12_act_20 ?_
  refine ac_istore_n (lv' := [(2, .int ((F 14) ((M 70)).toNatClampNeg)), (1, .int (M 70)), (0, .ref (r_h g))]) Z.1 dX12_act_21 (by decide) rfl ?_
  refine ac_aload_n Z.1 2 dX12_act_22 rfl ?_
  refine r_geta Z.1 Z.2.1 13 (by decide) rfl fX12_28 rfl dX12_act_23 ?_
  refine ac_iload_n Z.1 1 dX12_act_26 rfl ?_
  obtain ⟨hb2, hw⟩ := hw
  refine r_ald (v := ((F 13) ((M 70)).toNatClampNeg)) Z.1 Z.2.1 6 13 18000 rfl rfl hb2 rfl dX12_act_27 ?_
  obtain ⟨hwk, hw⟩ := hw
  by_cases hk0 : ((F 13) ((M 70)).toNatClampNeg) = 0
  · have hw := hwk hk0
    refine ac_tableIn (off := 104) (tgt := 132) Z.1 dX12_act_28 (by rw [hk0]; decide) (by rw [hk0]; decide) (by rw [hk0]; rfl) (by decide) ?_
    refine ac_aload_n Z.1 2 dX12_act_132 rfl ?_
    refine r_geti (v := (M 78)) Z.1 Z.2.1 78 (by decide) rfl fX12_450 rfl rfl dX12_act_133 ?_
    refine ac_aload_n Z.1 2 dX12_act_136 rfl ?_
    refine r_geti (v := (M 79)) Z.1 Z.2.1 79 (by decide) rfl fX12_453 rfl rfl dX12_act_137 ?_
    obtain ⟨hwt, hwf⟩ := hw
    refine ac_icmp_ne (tgt := 151) Z.1 dX12_act_140 (by decide) (fun hc => ?_) (fun hc => ?_)
    · have hw := hwt hc
      refine ac_aload_n Z.1 2 dX12_act_151 rfl ?_
      refine ac_dup Z.1 dX12_act_152 rfl ?_
      refine r_geti (v := (M 78)) Z.1 Z.2.1 78 (by decide) rfl fX12_450 rfl rfl dX12_act_153 ?_
      refine ac_iconst (v := 1) Z.1 dX12_act_156 (by decide) ?_
      refine ac_iadd Z.1 dX12_act_157 ?_
      refine r_put Z.1 Z.2.1 78 (by decide) rfl rfl rfl fX12_450 rfl dX12_act_158 ?_
      refine ac_goto (tgt := 384) Z.1 dX12_act_161 (by decide) ?_
      exact hret _ _ _ _ dX12_act_384 hw
    · have hw := hwf hc
      refine ac_aload_n Z.1 2 dX12_act_143 rfl ?_
      refine ac_iconst (v := 1) Z.1 dX12_act_144 (by decide) ?_
      refine r_putZ Z.1 Z.2.1 71 (by decide) rfl rfl rfl fX12_398 rfl (by decide) dX12_act_145 ?_
      refine ac_goto (tgt := 384) Z.1 dX12_act_148 (by decide) ?_
      exact hret _ _ _ _ dX12_act_384 hw
  obtain ⟨hwk, hw⟩ := hw
  by_cases hk1 : ((F 13) ((M 70)).toNatClampNeg) = 1
  · have hw := hwk hk1
    refine ac_tableIn (off := 136) (tgt := 164) Z.1 dX12_act_28 (by rw [hk1]; decide) (by rw [hk1]; decide) (by rw [hk1]; rfl) (by decide) ?_
    refine ac_aload_n Z.1 2 dX12_act_164 rfl ?_
    refine ac_iload_n Z.1 0 dX12_act_165 rfl ?_
    refine r_callv (As := [.int ((F 14) ((M 70)).toNatClampNeg)]) (st := []) Z kX12_push lkX12_456 (by omega) rfl (so_push   _ _ _ _ hw) rfl rfl (Nat.le_of_ble_eq_true rfl) dX12_act_166 (fun M3 F3 hw => ?_)
    refine ac_goto (tgt := 384) Z.1 dX12_act_169 (by decide) ?_
    exact hret _ _ _ _ dX12_act_384 hw
  obtain ⟨hwk, hw⟩ := hw
  by_cases hk2 : ((F 13) ((M 70)).toNatClampNeg) = 2
  · have hw := hwk hk2
    refine ac_tableIn (off := 144) (tgt := 172) Z.1 dX12_act_28 (by rw [hk2]; decide) (by rw [hk2]; decide) (by rw [hk2]; rfl) (by decide) ?_
    refine ac_aload_n Z.1 2 dX12_act_172 rfl ?_
    refine ac_aload_n Z.1 2 dX12_act_173 rfl ?_
    refine r_geta Z.1 Z.2.1 57 (by decide) rfl fX12_111 rfl dX12_act_174 ?_
    refine ac_bipush (v := 12) Z.1 dX12_act_177 (by decide) ?_
    refine ac_aload_n Z.1 2 dX12_act_179 rfl ?_
    refine r_geti (v := (M 62)) Z.1 Z.2.1 62 (by decide) rfl fX12_409 rfl rfl dX12_act_180 ?_
    refine ac_iconst (v := 1) Z.1 dX12_act_183 (by decide) ?_
    refine ac_isub Z.1 dX12_act_184 ?_
    refine ac_imul Z.1 dX12_act_185 ?_
    refine ac_iload_n Z.1 0 dX12_act_186 rfl ?_
    refine ac_iadd Z.1 dX12_act_187 ?_
    refine ac_topi (fun v4 hv4 => ?_)
    have hw := hw v4 hv4
    obtain ⟨hb5, hw⟩ := hw
    refine r_ald (v := ((F 57) (v4).toNatClampNeg)) Z.1 Z.2.1 30 57 144 rfl rfl hb5 rfl dX12_act_188 ?_
    refine r_callv (As := [.int ((F 57) (v4).toNatClampNeg)]) (st := []) Z kX12_push lkX12_456 (by omega) rfl (so_push   _ _ _ _ hw) rfl rfl (Nat.le_of_ble_eq_true rfl) dX12_act_189 (fun M6 F6 hw => ?_)
    refine ac_goto (tgt := 384) Z.1 dX12_act_192 (by decide) ?_
    exact hret _ _ _ _ dX12_act_384 hw
  obtain ⟨hwk, hw⟩ := hw
  by_cases hk3 : ((F 13) ((M 70)).toNatClampNeg) = 3
  · have hw := hwk hk3
    refine ac_tableIn (off := 167) (tgt := 195) Z.1 dX12_act_28 (by rw [hk3]; decide) (by rw [hk3]; decide) (by rw [hk3]; rfl) (by decide) ?_
    refine ac_aload_n Z.1 2 dX12_act_195 rfl ?_
    refine r_geta Z.1 Z.2.1 57 (by decide) rfl fX12_111 rfl dX12_act_196 ?_
    refine ac_bipush (v := 12) Z.1 dX12_act_199 (by decide) ?_
    refine ac_aload_n Z.1 2 dX12_act_201 rfl ?_
    refine r_geti (v := (M 62)) Z.1 Z.2.1 62 (by decide) rfl fX12_409 rfl rfl dX12_act_202 ?_
    refine ac_iconst (v := 1) Z.1 dX12_act_205 (by decide) ?_
    refine ac_isub Z.1 dX12_act_206 ?_
    refine ac_imul Z.1 dX12_act_207 ?_
    refine ac_iload_n Z.1 0 dX12_act_208 rfl ?_
    refine ac_iadd Z.1 dX12_act_209 ?_
    refine ac_topi (fun v7 hv7 => ?_)
    have hw := hw v7 hv7
    refine ac_aload_n Z.1 2 dX12_act_210 rfl ?_
    refine r_calli (As := []) (st := [.int v7, .ref (r_ad g 57)]) Z kX12_pop lkX12_459 (by omega) rfl (so_pop    _ _ _ hw) rfl rfl (Nat.le_of_ble_eq_true rfl) dX12_act_211 (fun r8 M9 F9 hw => ?_)
    obtain ⟨hb10, hw⟩ := hw
    refine r_ast Z.1 Z.2.1 30 57 144 rfl rfl hb10 dX12_act_214 ?_
    refine ac_goto (tgt := 384) Z.1 dX12_act_215 (by decide) ?_
    exact hret _ _ _ _ dX12_act_384 hw
  obtain ⟨hwk, hw⟩ := hw
  by_cases hk4 : ((F 13) ((M 70)).toNatClampNeg) = 4
  · have hw := hwk hk4
    refine ac_tableIn (off := 190) (tgt := 218) Z.1 dX12_act_28 (by rw [hk4]; decide) (by rw [hk4]; decide) (by rw [hk4]; rfl) (by decide) ?_
    refine ac_aload_n Z.1 2 dX12_act_218 rfl ?_
    refine ac_aload_n Z.1 2 dX12_act_219 rfl ?_
    refine r_calli (As := []) (st := [.ref (r_h g)]) Z kX12_pop lkX12_459 (by omega) rfl (so_pop    _ _ _ hw) rfl rfl (Nat.le_of_ble_eq_true rfl) dX12_act_220 (fun r11 M12 F12 hw => ?_)
    refine ac_ineg Z.1 dX12_act_223 rfl ?_
    refine r_callv (As := [.int (-r11)]) (st := []) Z kX12_push lkX12_456 (by omega) rfl (so_push   _ _ _ _ hw) rfl rfl (Nat.le_of_ble_eq_true rfl) dX12_act_224 (fun M13 F13 hw => ?_)
    refine ac_goto (tgt := 384) Z.1 dX12_act_227 (by decide) ?_
    exact hret _ _ _ _ dX12_act_384 hw
  obtain ⟨hwk, hw⟩ := hw
  by_cases hk5 : ((F 13) ((M 70)).toNatClampNeg) = 5
  · have hw := hwk hk5
    refine ac_tableIn (off := 350) (tgt := 378) Z.1 dX12_act_28 (by rw [hk5]; decide) (by rw [hk5]; decide) (by rw [hk5]; rfl) (by decide) ?_
    refine ac_aload_n Z.1 2 dX12_act_378 rfl ?_
    refine ac_iload_n Z.1 1 dX12_act_379 rfl ?_
    refine ac_iload_n Z.1 0 dX12_act_380 rfl ?_
    refine r_callv (As := [.int (M 70), .int ((F 14) ((M 70)).toNatClampNeg)]) (st := []) Z kX12_more lkX12_473 (by omega) rfl (so_more   _ _ _ _ _ hw) rfl rfl (Nat.le_of_ble_eq_true rfl) dX12_act_381 (fun M14 F14 hw => ?_)
    exact hret _ _ _ _ dX12_act_384 hw
  obtain ⟨hwk, hw⟩ := hw
  by_cases hk6 : ((F 13) ((M 70)).toNatClampNeg) = 6
  · have hw := hwk hk6
    refine ac_tableIn (off := 202) (tgt := 230) Z.1 dX12_act_28 (by rw [hk6]; decide) (by rw [hk6]; decide) (by rw [hk6]; rfl) (by decide) ?_
    refine ac_aload_n Z.1 2 dX12_act_230 rfl ?_
    refine ac_iload_n Z.1 0 dX12_act_231 rfl ?_
    refine r_callv (As := [.int ((F 14) ((M 70)).toNatClampNeg)]) (st := []) Z kX12_count lkX12_462 (by omega) rfl (so_count   _ _ _ _ hw) rfl rfl (Nat.le_of_ble_eq_true rfl) dX12_act_232 (fun M15 F15 hw => ?_)
    refine ac_goto (tgt := 384) Z.1 dX12_act_235 (by decide) ?_
    exact hret _ _ _ _ dX12_act_384 hw
  obtain ⟨hwk, hw⟩ := hw
  by_cases hk7 : ((F 13) ((M 70)).toNatClampNeg) = 7
  · have hw := hwk hk7
    refine ac_tableIn (off := 210) (tgt := 238) Z.1 dX12_act_28 (by rw [hk7]; decide) (by rw [hk7]; decide) (by rw [hk7]; rfl) (by decide) ?_
    refine ac_aload_n Z.1 2 dX12_act_238 rfl ?_
    refine ac_aload_n Z.1 2 dX12_act_239 rfl ?_
    refine ac_iload_n Z.1 0 dX12_act_240 rfl ?_
    refine r_calli (As := [.int ((F 14) ((M 70)).toNatClampNeg)]) (st := [.ref (r_h g)]) Z kX12_obj lkX12_465 (by omega) rfl (so_obj   _ _ _ _ hw) rfl rfl (Nat.le_of_ble_eq_true rfl) dX12_act_241 (fun r16 M17 F17 hw => ?_)
    refine ac_aload_n Z.1 2 dX12_act_244 rfl ?_
    refine r_geta Z.1 Z.2.1 15 (by decide) rfl fX12_34 rfl dX12_act_245 ?_
    refine ac_iload_n Z.1 1 dX12_act_248 rfl ?_
    obtain ⟨hb18, hw⟩ := hw
    refine r_ald (v := ((F17 15) ((M 70)).toNatClampNeg)) Z.1 Z.2.1 8 15 18000 rfl rfl hb18 rfl dX12_act_249 ?_
    refine r_callv (As := [.int r16, .int ((F17 15) ((M 70)).toNatClampNeg)]) (st := []) Z kX12_ask lkX12_468 (by omega) rfl (so_ask   _ _ _ _ _ hw) rfl rfl (Nat.le_of_ble_eq_true rfl) dX12_act_250 (fun M19 F19 hw => ?_)
    refine ac_goto (tgt := 384) Z.1 dX12_act_253 (by decide) ?_
    exact hret _ _ _ _ dX12_act_384 hw
  obtain ⟨hwk, hw⟩ := hw
  by_cases hk8 : ((F 13) ((M 70)).toNatClampNeg) = 8
  · have hw := hwk hk8
    refine ac_tableIn (off := 228) (tgt := 256) Z.1 dX12_act_28 (by rw [hk8]; decide) (by rw [hk8]; decide) (by rw [hk8]; rfl) (by decide) ?_
    refine ac_aload_n Z.1 2 dX12_act_256 rfl ?_
    refine ac_aload_n Z.1 2 dX12_act_257 rfl ?_
    refine ac_iload_n Z.1 0 dX12_act_258 rfl ?_
    refine r_calli (As := [.int ((F 14) ((M 70)).toNatClampNeg)]) (st := [.ref (r_h g)]) Z kX12_obj lkX12_465 (by omega) rfl (so_obj   _ _ _ _ hw) rfl rfl (Nat.le_of_ble_eq_true rfl) dX12_act_259 (fun r20 M21 F21 hw => ?_)
    obtain ⟨hwt, hwf⟩ := hw
    refine ac_if_le (tgt := 291) Z.1 dX12_act_262 (by decide) (fun hc => ?_) (fun hc => ?_)
    · have hw := hwt hc
      refine ac_lv [2] rfl ?_
      exact s_act_291 Z hret _ _ hw
    · have hw := hwf hc
      refine ac_aload_n Z.1 2 dX12_act_265 rfl ?_
      refine r_geta Z.1 Z.2.1 48 (by decide) rfl fX12_92 rfl dX12_act_266 ?_
      refine ac_aload_n Z.1 2 dX12_act_269 rfl ?_
      refine ac_iload_n Z.1 0 dX12_act_270 rfl ?_
      refine r_calli (As := [.int ((F 14) ((M 70)).toNatClampNeg)]) (st := [.ref (r_ad g 48), .ref (r_h g)]) Z kX12_obj lkX12_465 (by omega) rfl (so_obj   _ _ _ _ hw) rfl rfl (Nat.le_of_ble_eq_true rfl) dX12_act_271 (fun r23 M24 F24 hw => ?_)
      obtain ⟨hb25, hw⟩ := hw
      refine r_ald (v := ((F24 48) (r23).toNatClampNeg)) Z.1 Z.2.1 24 48 8001 rfl rfl hb25 rfl dX12_act_274 ?_
      refine ac_aload_n Z.1 2 dX12_act_275 rfl ?_
      refine r_geta Z.1 Z.2.1 15 (by decide) rfl fX12_34 rfl dX12_act_276 ?_
      refine ac_iload_n Z.1 1 dX12_act_279 rfl ?_
      obtain ⟨hb26, hw⟩ := hw
      refine r_ald (v := ((F24 15) ((M 70)).toNatClampNeg)) Z.1 Z.2.1 8 15 18000 rfl rfl hb26 rfl dX12_act_280 ?_
      refine r_calls (As := [.int ((F24 48) (r23).toNatClampNeg), .int ((F24 15) ((M 70)).toNatClampNeg)]) (st := [.ref (r_h g)]) Z kX12_isKind lkX12_433 (by omega) (so_isKind   _ _ _ _ _ hw) rfl rfl (Nat.le_of_ble_eq_true rfl) dX12_act_281 (fun r27 M28 F28 hw => ?_)
      obtain ⟨hwt, hwf⟩ := hw
      refine ac_if_eq (tgt := 291) Z.1 dX12_act_284 (by decide) (fun hc => ?_) (fun hc => ?_)
      · have hw := hwt hc
        refine ac_lv [2] rfl ?_
        exact s_act_291 Z hret _ _ hw
      · have hw := hwf hc
        refine ac_iconst (v := 1) Z.1 dX12_act_287 (by decide) ?_
        refine ac_goto (tgt := 292) Z.1 dX12_act_288 (by decide) ?_
        refine ac_lv [2] rfl ?_
        exact s_act_292 Z hret _ _ _ hw
  obtain ⟨hwk, hw⟩ := hw
  by_cases hk9 : ((F 13) ((M 70)).toNatClampNeg) = 9
  · have hw := hwk hk9
    refine ac_tableIn (off := 270) (tgt := 298) Z.1 dX12_act_28 (by rw [hk9]; decide) (by rw [hk9]; decide) (by rw [hk9]; rfl) (by decide) ?_
    refine ac_aload_n Z.1 2 dX12_act_298 rfl ?_
    refine ac_aload_n Z.1 2 dX12_act_299 rfl ?_
    refine ac_iload_n Z.1 0 dX12_act_300 rfl ?_
    refine r_calli (As := [.int ((F 14) ((M 70)).toNatClampNeg)]) (st := [.ref (r_h g)]) Z kX12_obj lkX12_465 (by omega) rfl (so_obj   _ _ _ _ hw) rfl rfl (Nat.le_of_ble_eq_true rfl) dX12_act_301 (fun r29 M30 F30 hw => ?_)
    refine ac_aload_n Z.1 2 dX12_act_304 rfl ?_
    refine ac_aload_n Z.1 2 dX12_act_305 rfl ?_
    refine r_geta Z.1 Z.2.1 15 (by decide) rfl fX12_34 rfl dX12_act_306 ?_
    refine ac_iload_n Z.1 1 dX12_act_309 rfl ?_
    obtain ⟨hb31, hw⟩ := hw
    refine r_ald (v := ((F30 15) ((M 70)).toNatClampNeg)) Z.1 Z.2.1 8 15 18000 rfl rfl hb31 rfl dX12_act_310 ?_
    refine r_calli (As := [.int ((F30 15) ((M 70)).toNatClampNeg)]) (st := [.int r29, .ref (r_h g)]) Z kX12_obj lkX12_465 (by omega) rfl (so_obj   _ _ _ _ hw) rfl rfl (Nat.le_of_ble_eq_true rfl) dX12_act_311 (fun r32 M33 F33 hw => ?_)
    obtain ⟨hwt, hwf⟩ := hw
    refine ac_icmp_ne (tgt := 321) Z.1 dX12_act_314 (by decide) (fun hc => ?_) (fun hc => ?_)
    · have hw := hwt hc
      refine ac_iconst (v := 0) Z.1 dX12_act_321 (by decide) ?_
      refine ac_lv [2] rfl ?_
      exact s_act_322 Z hret _ _ _ hw
    · have hw := hwf hc
      refine ac_iconst (v := 1) Z.1 dX12_act_317 (by decide) ?_
      refine ac_goto (tgt := 322) Z.1 dX12_act_318 (by decide) ?_
      refine ac_lv [2] rfl ?_
      exact s_act_322 Z hret _ _ _ hw
  obtain ⟨hwk, hw⟩ := hw
  by_cases hk10 : ((F 13) ((M 70)).toNatClampNeg) = 10
  · have hw := hwk hk10
    refine ac_tableIn (off := 300) (tgt := 328) Z.1 dX12_act_28 (by rw [hk10]; decide) (by rw [hk10]; decide) (by rw [hk10]; rfl) (by decide) ?_
    refine ac_aload_n Z.1 2 dX12_act_328 rfl ?_
    refine ac_iload_n Z.1 0 dX12_act_329 rfl ?_
    refine ac_aload_n Z.1 2 dX12_act_330 rfl ?_
    refine ac_aload_n Z.1 2 dX12_act_331 rfl ?_
    refine r_geta Z.1 Z.2.1 15 (by decide) rfl fX12_34 rfl dX12_act_332 ?_
    refine ac_iload_n Z.1 1 dX12_act_335 rfl ?_
    obtain ⟨hb35, hw⟩ := hw
    refine r_ald (v := ((F 15) ((M 70)).toNatClampNeg)) Z.1 Z.2.1 8 15 18000 rfl rfl hb35 rfl dX12_act_336 ?_
    refine r_calli (As := [.int ((F 15) ((M 70)).toNatClampNeg)]) (st := [.int ((F 14) ((M 70)).toNatClampNeg), .ref (r_h g)]) Z kX12_obj lkX12_465 (by omega) rfl (so_obj   _ _ _ _ hw) rfl rfl (Nat.le_of_ble_eq_true rfl) dX12_act_337 (fun r36 M37 F37 hw => ?_)
    refine r_callv (As := [.int ((F 14) ((M 70)).toNatClampNeg), .int r36]) (st := []) Z kX12_hold_ lkX12_471 (by omega) rfl (so_hold_   _ _ _ _ _ hw) rfl rfl (Nat.le_of_ble_eq_true rfl) dX12_act_340 (fun M38 F38 hw => ?_)
    refine ac_goto (tgt := 384) Z.1 dX12_act_343 (by decide) ?_
    exact hret _ _ _ _ dX12_act_384 hw
  obtain ⟨hwk, hw⟩ := hw
  by_cases hk11 : ((F 13) ((M 70)).toNatClampNeg) = 11
  · have hw := hwk hk11
    refine ac_tableIn (off := 318) (tgt := 346) Z.1 dX12_act_28 (by rw [hk11]; decide) (by rw [hk11]; decide) (by rw [hk11]; rfl) (by decide) ?_
    refine ac_aload_n Z.1 2 dX12_act_346 rfl ?_
    refine ac_iload_n Z.1 0 dX12_act_347 rfl ?_
    refine ac_iconst (v := 0) Z.1 dX12_act_348 (by decide) ?_
    refine r_callv (As := [.int ((F 14) ((M 70)).toNatClampNeg), .int 0]) (st := []) Z kX12_hold_ lkX12_471 (by omega) rfl (so_hold_   _ _ _ _ _ hw) rfl rfl (Nat.le_of_ble_eq_true rfl) dX12_act_349 (fun M39 F39 hw => ?_)
    refine ac_goto (tgt := 384) Z.1 dX12_act_352 (by decide) ?_
    exact hret _ _ _ _ dX12_act_384 hw
  obtain ⟨hwk, hw⟩ := hw
  by_cases hk12 : ((F 13) ((M 70)).toNatClampNeg) = 12
  · have hw := hwk hk12
    refine ac_tableIn (off := 350) (tgt := 378) Z.1 dX12_act_28 (by rw [hk12]; decide) (by rw [hk12]; decide) (by rw [hk12]; rfl) (by decide) ?_
    refine ac_aload_n Z.1 2 dX12_act_378 rfl ?_
    refine ac_iload_n Z.1 1 dX12_act_379 rfl ?_
    refine ac_iload_n Z.1 0 dX12_act_380 rfl ?_
    refine r_callv (As := [.int (M 70), .int ((F 14) ((M 70)).toNatClampNeg)]) (st := []) Z kX12_more lkX12_473 (by omega) rfl (so_more   _ _ _ _ _ hw) rfl rfl (Nat.le_of_ble_eq_true rfl) dX12_act_381 (fun M40 F40 hw => ?_)
    exact hret _ _ _ _ dX12_act_384 hw
  obtain ⟨hwk, hw⟩ := hw
  by_cases hk13 : ((F 13) ((M 70)).toNatClampNeg) = 13
  · have hw := hwk hk13
    refine ac_tableIn (off := 350) (tgt := 378) Z.1 dX12_act_28 (by rw [hk13]; decide) (by rw [hk13]; decide) (by rw [hk13]; rfl) (by decide) ?_
    refine ac_aload_n Z.1 2 dX12_act_378 rfl ?_
    refine ac_iload_n Z.1 1 dX12_act_379 rfl ?_
    refine ac_iload_n Z.1 0 dX12_act_380 rfl ?_
    refine r_callv (As := [.int (M 70), .int ((F 14) ((M 70)).toNatClampNeg)]) (st := []) Z kX12_more lkX12_473 (by omega) rfl (so_more   _ _ _ _ _ hw) rfl rfl (Nat.le_of_ble_eq_true rfl) dX12_act_381 (fun M41 F41 hw => ?_)
    exact hret _ _ _ _ dX12_act_384 hw
  obtain ⟨hwk, hw⟩ := hw
  by_cases hk14 : ((F 13) ((M 70)).toNatClampNeg) = 14
  · have hw := hwk hk14
    refine ac_tableIn (off := 350) (tgt := 378) Z.1 dX12_act_28 (by rw [hk14]; decide) (by rw [hk14]; decide) (by rw [hk14]; rfl) (by decide) ?_
    refine ac_aload_n Z.1 2 dX12_act_378 rfl ?_
    refine ac_iload_n Z.1 1 dX12_act_379 rfl ?_
    refine ac_iload_n Z.1 0 dX12_act_380 rfl ?_
    refine r_callv (As := [.int (M 70), .int ((F 14) ((M 70)).toNatClampNeg)]) (st := []) Z kX12_more lkX12_473 (by omega) rfl (so_more   _ _ _ _ _ hw) rfl rfl (Nat.le_of_ble_eq_true rfl) dX12_act_381 (fun M42 F42 hw => ?_)
    exact hret _ _ _ _ dX12_act_384 hw
  obtain ⟨hwk, hw⟩ := hw
  by_cases hk15 : ((F 13) ((M 70)).toNatClampNeg) = 15
  · have hw := hwk hk15
    refine ac_tableIn (off := 350) (tgt := 378) Z.1 dX12_act_28 (by rw [hk15]; decide) (by rw [hk15]; decide) (by rw [hk15]; rfl) (by decide) ?_
    refine ac_aload_n Z.1 2 dX12_act_378 rfl ?_
    refine ac_iload_n Z.1 1 dX12_act_379 rfl ?_
    refine ac_iload_n Z.1 0 dX12_act_380 rfl ?_
    refine r_callv (As := [.int (M 70), .int ((F 14) ((M 70)).toNatClampNeg)]) (st := []) Z kX12_more lkX12_473 (by omega) rfl (so_more   _ _ _ _ _ hw) rfl rfl (Nat.le_of_ble_eq_true rfl) dX12_act_381 (fun M43 F43 hw => ?_)
    exact hret _ _ _ _ dX12_act_384 hw
  obtain ⟨hwk, hw⟩ := hw
  by_cases hk16 : ((F 13) ((M 70)).toNatClampNeg) = 16
  · have hw := hwk hk16
    refine ac_tableIn (off := 350) (tgt := 378) Z.1 dX12_act_28 (by rw [hk16]; decide) (by rw [hk16]; decide) (by rw [hk16]; rfl) (by decide) ?_
    refine ac_aload_n Z.1 2 dX12_act_378 rfl ?_
    refine ac_iload_n Z.1 1 dX12_act_379 rfl ?_
    refine ac_iload_n Z.1 0 dX12_act_380 rfl ?_
    refine r_callv (As := [.int (M 70), .int ((F 14) ((M 70)).toNatClampNeg)]) (st := []) Z kX12_more lkX12_473 (by omega) rfl (so_more   _ _ _ _ _ hw) rfl rfl (Nat.le_of_ble_eq_true rfl) dX12_act_381 (fun M44 F44 hw => ?_)
    exact hret _ _ _ _ dX12_act_384 hw
  obtain ⟨hwk, hw⟩ := hw
  by_cases hk17 : ((F 13) ((M 70)).toNatClampNeg) = 17
  · have hw := hwk hk17
    refine ac_tableIn (off := 350) (tgt := 378) Z.1 dX12_act_28 (by rw [hk17]; decide) (by rw [hk17]; decide) (by rw [hk17]; rfl) (by decide) ?_
    refine ac_aload_n Z.1 2 dX12_act_378 rfl ?_
    refine ac_iload_n Z.1 1 dX12_act_379 rfl ?_
    refine ac_iload_n Z.1 0 dX12_act_380 rfl ?_
    refine r_callv (As := [.int (M 70), .int ((F 14) ((M 70)).toNatClampNeg)]) (st := []) Z kX12_more lkX12_473 (by omega) rfl (so_more   _ _ _ _ _ hw) rfl rfl (Nat.le_of_ble_eq_true rfl) dX12_act_381 (fun M45 F45 hw => ?_)
    exact hret _ _ _ _ dX12_act_384 hw
  obtain ⟨hwk, hw⟩ := hw
  by_cases hk18 : ((F 13) ((M 70)).toNatClampNeg) = 18
  · have hw := hwk hk18
    refine ac_tableIn (off := 350) (tgt := 378) Z.1 dX12_act_28 (by rw [hk18]; decide) (by rw [hk18]; decide) (by rw [hk18]; rfl) (by decide) ?_
    refine ac_aload_n Z.1 2 dX12_act_378 rfl ?_
    refine ac_iload_n Z.1 1 dX12_act_379 rfl ?_
    refine ac_iload_n Z.1 0 dX12_act_380 rfl ?_
    refine r_callv (As := [.int (M 70), .int ((F 14) ((M 70)).toNatClampNeg)]) (st := []) Z kX12_more lkX12_473 (by omega) rfl (so_more   _ _ _ _ _ hw) rfl rfl (Nat.le_of_ble_eq_true rfl) dX12_act_381 (fun M46 F46 hw => ?_)
    exact hret _ _ _ _ dX12_act_384 hw
  obtain ⟨hwk, hw⟩ := hw
  by_cases hk19 : ((F 13) ((M 70)).toNatClampNeg) = 19
  · have hw := hwk hk19
    refine ac_tableIn (off := 350) (tgt := 378) Z.1 dX12_act_28 (by rw [hk19]; decide) (by rw [hk19]; decide) (by rw [hk19]; rfl) (by decide) ?_
    refine ac_aload_n Z.1 2 dX12_act_378 rfl ?_
    refine ac_iload_n Z.1 1 dX12_act_379 rfl ?_
    refine ac_iload_n Z.1 0 dX12_act_380 rfl ?_
    refine r_callv (As := [.int (M 70), .int ((F 14) ((M 70)).toNatClampNeg)]) (st := []) Z kX12_more lkX12_473 (by omega) rfl (so_more   _ _ _ _ _ hw) rfl rfl (Nat.le_of_ble_eq_true rfl) dX12_act_381 (fun M47 F47 hw => ?_)
    exact hret _ _ _ _ dX12_act_384 hw
  obtain ⟨hwk, hw⟩ := hw
  by_cases hk20 : ((F 13) ((M 70)).toNatClampNeg) = 20
  · have hw := hwk hk20
    refine ac_tableIn (off := 327) (tgt := 355) Z.1 dX12_act_28 (by rw [hk20]; decide) (by rw [hk20]; decide) (by rw [hk20]; rfl) (by decide) ?_
    refine ac_aload_n Z.1 2 dX12_act_355 rfl ?_
    refine ac_iload_n Z.1 0 dX12_act_356 rfl ?_
    refine r_put Z.1 Z.2.1 70 (by decide) rfl rfl rfl fX12_418 rfl dX12_act_357 ?_
    refine ac_goto (tgt := 384) Z.1 dX12_act_360 (by decide) ?_
    exact hret _ _ _ _ dX12_act_384 hw
  obtain ⟨hwk, hw⟩ := hw
  by_cases hk21 : ((F 13) ((M 70)).toNatClampNeg) = 21
  · have hw := hwk hk21
    refine ac_tableIn (off := 335) (tgt := 363) Z.1 dX12_act_28 (by rw [hk21]; decide) (by rw [hk21]; decide) (by rw [hk21]; rfl) (by decide) ?_
    refine ac_aload_n Z.1 2 dX12_act_363 rfl ?_
    refine r_calli (As := []) (st := []) Z kX12_pop lkX12_459 (by omega) rfl (so_pop    _ _ _ hw) rfl rfl (Nat.le_of_ble_eq_true rfl) dX12_act_364 (fun r48 M49 F49 hw => ?_)
    obtain ⟨hwt, hwf⟩ := hw
    refine ac_if_ne (tgt := 384) Z.1 dX12_act_367 (by decide) (fun hc => ?_) (fun hc => ?_)
    · have hw := hwt hc
      exact hret _ _ _ _ dX12_act_384 hw
    · have hw := hwf hc
      refine ac_aload_n Z.1 2 dX12_act_370 rfl ?_
      refine ac_iload_n Z.1 0 dX12_act_371 rfl ?_
      refine r_put Z.1 Z.2.1 70 (by decide) rfl rfl rfl fX12_418 rfl dX12_act_372 ?_
      refine ac_goto (tgt := 384) Z.1 dX12_act_375 (by decide) ?_
      exact hret _ _ _ _ dX12_act_384 hw
  have hw := hw hk0 hk1 hk2 hk3 hk4 hk5 hk6 hk7 hk8 hk9 hk10 hk11 hk12 hk13 hk14 hk15 hk16 hk17 hk18 hk19 hk20 hk21
  refine ac_tableOut (tgt := 378) Z.1 dX12_act_28 (by have q0 := lv_neT hk0 (show (0 : Int32).toInt = 0 by decide); have q1 := lv_neT hk1 (show (1 : Int32).toInt = 1 by decide); have q2 := lv_neT hk2 (show (2 : Int32).toInt = 2 by decide); have q3 := lv_neT hk3 (show (3 : Int32).toInt = 3 by decide); have q4 := lv_neT hk4 (show (4 : Int32).toInt = 4 by decide); have q5 := lv_neT hk5 (show (5 : Int32).toInt = 5 by decide); have q6 := lv_neT hk6 (show (6 : Int32).toInt = 6 by decide); have q7 := lv_neT hk7 (show (7 : Int32).toInt = 7 by decide); have q8 := lv_neT hk8 (show (8 : Int32).toInt = 8 by decide); have q9 := lv_neT hk9 (show (9 : Int32).toInt = 9 by decide); have q10 := lv_neT hk10 (show (10 : Int32).toInt = 10 by decide); have q11 := lv_neT hk11 (show (11 : Int32).toInt = 11 by decide); have q12 := lv_neT hk12 (show (12 : Int32).toInt = 12 by decide); have q13 := lv_neT hk13 (show (13 : Int32).toInt = 13 by decide); have q14 := lv_neT hk14 (show (14 : Int32).toInt = 14 by decide); have q15 := lv_neT hk15 (show (15 : Int32).toInt = 15 by decide); have q16 := lv_neT hk16 (show (16 : Int32).toInt = 16 by decide); have q17 := lv_neT hk17 (show (17 : Int32).toInt = 17 by decide); have q18 := lv_neT hk18 (show (18 : Int32).toInt = 18 by decide); have q19 := lv_neT hk19 (show (19 : Int32).toInt = 19 by decide); have q20 := lv_neT hk20 (show (20 : Int32).toInt = 20 by decide); have q21 := lv_neT hk21 (show (21 : Int32).toInt = 21 by decide); omega) (by decide) ?_
  refine ac_aload_n Z.1 2 dX12_act_378 rfl ?_
  refine ac_iload_n Z.1 1 dX12_act_379 rfl ?_
  refine ac_iload_n Z.1 0 dX12_act_380 rfl ?_
  refine r_callv (As := [.int (M 70), .int ((F 14) ((M 70)).toNatClampNeg)]) (st := []) Z kX12_more lkX12_473 (by omega) rfl (so_more   _ _ _ _ _ hw) rfl rfl (Nat.le_of_ble_eq_true rfl) dX12_act_381 (fun M50 F50 hw => ?_)
  exact hret _ _ _ _ dX12_act_384 hw
def w_holds_63 (Q : (Nat → Int32) → (Nat → Nat → Int32) → Prop) : Nat → (Nat → Int32) → (Nat → Nat → Int32) → Prop
  | 0 => fun _ _ => False
  | n + 1 => fun M F => ((¬ (M 72) = 0 → (Q M F)) ∧ ((M 72) = 0 → ((¬ (M 71) = 0 → (Q M F)) ∧ ((M 71) = 0 → (w_act M F (fun M4 F4 => (w_holds_63 Q n M4 F4)))))))
set_option maxRecDepth 20000 in
theorem s_holds_63 {x : ac_X} {g : r_S} {l : Launch} {Q : (Nat → Int32) → (Nat → Nat → Int32) → Prop} (Z : r_Cx x g l cX12_holds 4 (7)) (hret : r_RV x g 4 cX12_holds Q) : ∀ (n : Nat) (M : Nat → Int32) (F : Nat → Nat → Int32), w_holds_63 Q n M F → ac_G x (r_R g) 4 (r_P g M F) 0 0 63 [(0, .ref (r_h g))] [] := by
  intro n
  induction n with
  | zero => intro _ _ hw; exact hw.elim
  | succ n ih =>
    intro M F hw
    dsimp only [w_holds_63] at hw
    refine ac_aload_n Z.1 0 dX12_holds_63 rfl ?_
    refine r_geti (v := (M 72)) Z.1 Z.2.1 72 (by decide) rfl fX12_424 rfl rfl dX12_holds_64 ?_
    obtain ⟨hwt, hwf⟩ := hw
    refine ac_if_ne (tgt := 84) Z.1 dX12_holds_67 (by decide) (fun hc => ?_) (fun hc => ?_)
    · have hw := hwt hc
      exact hret _ _ _ _ dX12_holds_84 hw
    · have hw := hwf hc
      refine ac_aload_n Z.1 0 dX12_holds_70 rfl ?_
      refine r_geti (v := (M 71)) Z.1 Z.2.1 71 (by decide) rfl fX12_398 rfl rfl dX12_holds_71 ?_
      obtain ⟨hwt, hwf⟩ := hw
      refine ac_if_ne (tgt := 84) Z.1 dX12_holds_74 (by decide) (fun hc => ?_) (fun hc => ?_)
      · have hw := hwt hc
        exact hret _ _ _ _ dX12_holds_84 hw
      · have hw := hwf hc
        refine ac_aload_n Z.1 0 dX12_holds_77 rfl ?_
        refine r_callv (As := []) (st := []) Z kX12_act lkX12_430 (by omega) rfl (so_act    _ _ _ hw) rfl rfl (Nat.le_of_ble_eq_true rfl) dX12_holds_78 (fun M4 F4 hw => ?_)
        refine ac_goto (tgt := 63) Z.1 dX12_holds_81 (by decide) ?_
        exact ih _ _ hw
def w_holds_46 (Q : (Nat → Int32) → (Nat → Nat → Int32) → Prop) (a1 : Int32) (a3 : Int32) (M : Nat → Int32) (F : Nat → Nat → Int32) : Prop := vp_in a1 800 ∧ ((((F 19) (a1).toNatClampNeg) ≤ 1 → (∃ e63, w_holds_63 Q e63 M F)) ∧ (¬ ((F 19) (a1).toNatClampNeg) ≤ 1 → (vp_in 1 144 ∧ (∃ e63, w_holds_63 Q e63 M (uf F 57 1 a3)))))
set_option maxRecDepth 20000 in
theorem s_holds_46 {x : ac_X} {g : r_S} {l : Launch} {Q : (Nat → Int32) → (Nat → Nat → Int32) → Prop} (Z : r_Cx x g l cX12_holds 4 (7)) (hret : r_RV x g 4 cX12_holds Q) (a1 : Int32) (a3 : Int32) (M : Nat → Int32) (F : Nat → Nat → Int32) (hw : w_holds_46 Q a1 a3 M F) : ac_G x (r_R g) 4 (r_P g M F) 0 0 46 [(0, .ref (r_h g)), (1, .int a1), (3, .int a3)] [] := by
  refine ac_aload_n Z.1 0 dX12_holds_46 rfl ?_
  refine r_geta Z.1 Z.2.1 19 (by decide) rfl fX12_46 rfl dX12_holds_47 ?_
  refine ac_iload_n Z.1 1 dX12_holds_50 rfl ?_
  obtain ⟨hb3, hw⟩ := hw
  refine r_ald (v := ((F 19) (a1).toNatClampNeg)) Z.1 Z.2.1 12 19 800 rfl rfl hb3 rfl dX12_holds_51 ?_
  refine ac_iconst (v := 1) Z.1 dX12_holds_52 (by decide) ?_
  obtain ⟨hwt, hwf⟩ := hw
  refine ac_icmp_le (tgt := 63) Z.1 dX12_holds_53 (by decide) (fun hc => ?_) (fun hc => ?_)
  · have hw := hwt hc
    obtain ⟨n, hw⟩ := hw
    refine ac_lv [0] rfl ?_
    exact s_holds_63 Z hret n _ _ hw
  · have hw := hwf hc
    refine ac_aload_n Z.1 0 dX12_holds_56 rfl ?_
    refine r_geta Z.1 Z.2.1 57 (by decide) rfl fX12_111 rfl dX12_holds_57 ?_
    refine ac_iconst (v := 1) Z.1 dX12_holds_60 (by decide) ?_
    refine ac_iload_n Z.1 2 dX12_holds_61 rfl ?_
    obtain ⟨hb5, hw⟩ := hw
    refine r_ast Z.1 Z.2.1 30 57 144 rfl rfl hb5 dX12_holds_62 ?_
    obtain ⟨n, hw⟩ := hw
    refine ac_lv [0] rfl ?_
    exact s_holds_63 Z hret n _ _ hw
def w_holds (p1 : Int32) (p2 : Int32) (p3 : Int32) (M : Nat → Int32) (F : Nat → Nat → Int32) (Q : (Nat → Int32) → (Nat → Nat → Int32) → Prop) : Prop := w_begins p1 (um (um (um (um (um M 62 0) 67 0) 69 0) 73 0) 72 0) F (fun M1 F1 => (vp_in p1 800 ∧ ((((F1 19) (p1).toNatClampNeg) ≤ 0 → (w_holds_46 Q p1 p3 M1 F1)) ∧ (¬ ((F1 19) (p1).toNatClampNeg) ≤ 0 → (vp_in 0 144 ∧ (w_holds_46 Q p1 p3 M1 (uf F1 57 0 p2)))))))
set_option maxRecDepth 20000 in
theorem so_holds {l : Launch} {g : r_S} (p1 : Int32) (p2 : Int32) (p3 : Int32) (M : Nat → Int32) (F : Nat → Nat → Int32) (Q : (Nat → Int32) → (Nat → Nat → Int32) → Prop) (hw : w_holds p1 p2 p3 M F Q) : r_MetV l g yX12_holds cX12_holds 4 (7) [.ref (r_h g), .int p1, .int p2, .int p3] M F Q := by
  refine r_MetV.of (by decide) rfl (Nat.le_of_ble_eq_true rfl) (fun x Z hret => ?_)
  show ac_G x (r_R g) 4 (r_P g M F) 0 0 0 [(0, .ref (r_h g)), (1, .int p1), (2, .int p2), (3, .int p3)] []
  refine ac_aload_n Z.1 0 dX12_holds_0 rfl ?_
  refine ac_iconst (v := 0) Z.1 dX12_holds_1 (by decide) ?_
  refine r_put Z.1 Z.2.1 62 (by decide) rfl rfl rfl fX12_409 rfl dX12_holds_2 ?_
  refine ac_aload_n Z.1 0 dX12_holds_5 rfl ?_
  refine ac_iconst (v := 0) Z.1 dX12_holds_6 (by decide) ?_
  refine r_put Z.1 Z.2.1 67 (by decide) rfl rfl rfl fX12_412 rfl dX12_holds_7 ?_
  refine ac_aload_n Z.1 0 dX12_holds_10 rfl ?_
  refine ac_iconst (v := 0) Z.1 dX12_holds_11 (by decide) ?_
  refine r_put Z.1 Z.2.1 69 (by decide) rfl rfl rfl fX12_406 rfl dX12_holds_12 ?_
  refine ac_aload_n Z.1 0 dX12_holds_15 rfl ?_
  refine ac_iconst (v := 0) Z.1 dX12_holds_16 (by decide) ?_
  refine r_put Z.1 Z.2.1 73 (by decide) rfl rfl rfl fX12_421 rfl dX12_holds_17 ?_
  refine ac_aload_n Z.1 0 dX12_holds_20 rfl ?_
  refine ac_iconst (v := 0) Z.1 dX12_holds_21 (by decide) ?_
  refine r_putZ Z.1 Z.2.1 72 (by decide) rfl rfl rfl fX12_424 rfl (by decide) dX12_holds_22 ?_
  refine ac_aload_n Z.1 0 dX12_holds_25 rfl ?_
  refine ac_iload_n Z.1 1 dX12_holds_26 rfl ?_
  refine r_callv (As := [.int p1]) (st := []) Z kX12_begins lkX12_427 (by omega) rfl (so_begins   _ _ _ _ hw) rfl rfl (Nat.le_of_ble_eq_true rfl) dX12_holds_27 (fun M1 F1 hw => ?_)
  refine ac_aload_n Z.1 0 dX12_holds_30 rfl ?_
  refine r_geta Z.1 Z.2.1 19 (by decide) rfl fX12_46 rfl dX12_holds_31 ?_
  refine ac_iload_n Z.1 1 dX12_holds_34 rfl ?_
  obtain ⟨hb2, hw⟩ := hw
  refine r_ald (v := ((F1 19) (p1).toNatClampNeg)) Z.1 Z.2.1 12 19 800 rfl rfl hb2 rfl dX12_holds_35 ?_
  obtain ⟨hwt, hwf⟩ := hw
  refine ac_if_le (tgt := 46) Z.1 dX12_holds_36 (by decide) (fun hc => ?_) (fun hc => ?_)
  · have hw := hwt hc
    refine ac_lv [0, 1, 3] rfl ?_
    exact s_holds_46 Z hret _ _ _ _ hw
  · have hw := hwf hc
    refine ac_aload_n Z.1 0 dX12_holds_39 rfl ?_
    refine r_geta Z.1 Z.2.1 57 (by decide) rfl fX12_111 rfl dX12_holds_40 ?_
    refine ac_iconst (v := 0) Z.1 dX12_holds_43 (by decide) ?_
    refine ac_iload_n Z.1 2 dX12_holds_44 rfl ?_
    obtain ⟨hb6, hw⟩ := hw
    refine r_ast Z.1 Z.2.1 30 57 144 rfl rfl hb6 dX12_holds_45 ?_
    refine ac_lv [0, 1, 3] rfl ?_
    exact s_holds_46 Z hret _ _ _ _ hw
def w_below (WD : Int32 → Int32 → Int32 → Int32 → (Nat → Int32) → (Nat → Nat → Int32) → ((Nat → Int32) → (Nat → Nat → Int32) → Prop) → Prop) (p1 : Int32) (p2 : Int32) (p3 : Int32) (p4 : Int32) (M : Nat → Int32) (F : Nat → Nat → Int32) (Q : (Nat → Int32) → (Nat → Nat → Int32) → Prop) : Prop := (¬ p1 = 0 → (WD (p1 - 1) p2 p3 p4 M F (fun M1 F1 => (Q M1 F1)))) ∧ (p1 = 0 → (w_holds p2 p3 p4 M F (fun M2 F2 => (Q M2 F2))))
set_option maxRecDepth 20000 in
theorem so_below {l : Launch} {g : r_S} {WD : Int32 → Int32 → Int32 → Int32 → (Nat → Int32) → (Nat → Nat → Int32) → ((Nat → Int32) → (Nat → Nat → Int32) → Prop) → Prop} {rkD : Nat} (hWD : ∀ (p0 p1 p2 p3 : Int32) (M : Nat → Int32) (F : Nat → Nat → Int32) (Q : (Nat → Int32) → (Nat → Nat → Int32) → Prop), WD p0 p1 p2 p3 M F Q → r_MetV l g yX12_deals cX12_deals 8 rkD [.ref (r_h g), .int p0, .int p1, .int p2, .int p3] M F Q) (p1 : Int32) (p2 : Int32) (p3 : Int32) (p4 : Int32) (M : Nat → Int32) (F : Nat → Nat → Int32) (Q : (Nat → Int32) → (Nat → Nat → Int32) → Prop) (hw : w_below WD p1 p2 p3 p4 M F Q) : r_MetV l g yX12_below cX12_below 5 (rkD + 8) [.ref (r_h g), .int p1, .int p2, .int p3, .int p4] M F Q := by
  refine r_MetV.of (by decide) rfl (Nat.le_of_ble_eq_true rfl) (fun x Z hret => ?_)
  show ac_G x (r_R g) 5 (r_P g M F) 0 0 0 [(0, .ref (r_h g)), (1, .int p1), (2, .int p2), (3, .int p3), (4, .int p4)] []
  refine ac_iload_n Z.1 1 dX12_below_0 rfl ?_
  obtain ⟨hwt, hwf⟩ := hw
  refine ac_if_ne (tgt := 15) Z.1 dX12_below_1 (by decide) (fun hc => ?_) (fun hc => ?_)
  · have hw := hwt hc
    refine ac_aload_n Z.1 0 dX12_below_15 rfl ?_
    refine ac_iload_n Z.1 1 dX12_below_16 rfl ?_
    refine ac_iconst (v := 1) Z.1 dX12_below_17 (by decide) ?_
    refine ac_isub Z.1 dX12_below_18 ?_
    refine ac_iload_n Z.1 2 dX12_below_19 rfl ?_
    refine ac_iload_n Z.1 3 dX12_below_20 rfl ?_
    refine ac_iload Z.1 4 dX12_below_21 rfl ?_
    refine r_callv (As := [.int (p1 - 1), .int p2, .int p3, .int p4]) (st := []) Z kX12_deals lkX12_505 (by omega) rfl (hWD _ _ _ _ _ _ _ hw) rfl rfl (Nat.le_of_ble_eq_true rfl) dX12_below_23 (fun M1 F1 hw => ?_)
    exact hret _ _ _ _ dX12_below_26 hw
  · have hw := hwf hc
    refine ac_aload_n Z.1 0 dX12_below_4 rfl ?_
    refine ac_iload_n Z.1 2 dX12_below_5 rfl ?_
    refine ac_iload_n Z.1 3 dX12_below_6 rfl ?_
    refine ac_iload Z.1 4 dX12_below_7 rfl ?_
    refine r_callv (As := [.int p2, .int p3, .int p4]) (st := []) Z kX12_holds lkX12_502 (by omega) rfl (so_holds   _ _ _ _ _ _ hw) rfl rfl (Nat.le_of_ble_eq_true rfl) dX12_below_9 (fun M2 F2 hw => ?_)
    refine ac_goto (tgt := 26) Z.1 dX12_below_12 (by decide) ?_
    exact hret _ _ _ _ dX12_below_26 hw
def w_deals_74 (WD : Int32 → Int32 → Int32 → Int32 → (Nat → Int32) → (Nat → Nat → Int32) → ((Nat → Int32) → (Nat → Nat → Int32) → Prop) → Prop) (Q : (Nat → Int32) → (Nat → Nat → Int32) → Prop) (a1 : Int32) (a2 : Int32) (a3 : Int32) (a4 : Int32) (a5 : Int32) (M : Nat → Int32) (F : Nat → Nat → Int32) : Prop := (¬ a5 = (-1) → (vp_in ((7 * a1) + a5) 21 ∧ (∀ v4, v4 = (((F 85) (((7 * a1) + a5)).toNatClampNeg) - 1) → (vp_in ((7 * a1) + a5) 21 ∧ ((v4 = 0 → (Q M F)) ∧ (v4 = 1 → (Q (um M 77 a1) F)) ∧ (v4 = 2 → (vp_in (M 73) 8001 ∧ (w_makes ((F 86) (((7 * a1) + a5)).toNatClampNeg) ((F 49) ((M 73)).toNatClampNeg) 0 (-1) (M 73) 1 M F (fun r7 M8 F8 => (Q (um M8 73 r7) F8))))) ∧ (v4 = 3 → (w_below WD a1 a2 a3 a4 (um M 81 ((M 81) + 1)) F (fun M9 F9 => (Q M9 F9)))) ∧ (v4 = 4 → (w_enters a1 M F (fun M10 F10 => (Q M10 F10)))) ∧ (¬ v4 = 0 → ¬ v4 = 1 → ¬ v4 = 2 → ¬ v4 = 3 → ¬ v4 = 4 → (w_weight (M 73) M F (fun r11 M12 F12 => ((((F 86) (((7 * a1) + a5)).toNatClampNeg) ≤ r11 → (Q M12 F12)) ∧ (¬ ((F 86) (((7 * a1) + a5)).toNatClampNeg) ≤ r11 → (Q (um M12 77 a1) F12))))))))))) ∧ (a5 = (-1) → (Q M F))
set_option maxRecDepth 20000 in
theorem s_deals_74 {x : ac_X} {g : r_S} {l : Launch} {WD : Int32 → Int32 → Int32 → Int32 → (Nat → Int32) → (Nat → Nat → Int32) → ((Nat → Int32) → (Nat → Nat → Int32) → Prop) → Prop} {rkD : Nat} {Q : (Nat → Int32) → (Nat → Nat → Int32) → Prop} (Z : r_Cx x g l cX12_deals 8 (rkD + 9)) (hret : r_RV x g 8 cX12_deals Q) (hWD : ∀ (p0 p1 p2 p3 : Int32) (M : Nat → Int32) (F : Nat → Nat → Int32) (Q : (Nat → Int32) → (Nat → Nat → Int32) → Prop), WD p0 p1 p2 p3 M F Q → r_MetV l g yX12_deals cX12_deals 8 rkD [.ref (r_h g), .int p0, .int p1, .int p2, .int p3] M F Q) (a1 : Int32) (a2 : Int32) (a3 : Int32) (a4 : Int32) (a5 : Int32) (M : Nat → Int32) (F : Nat → Nat → Int32) (hw : w_deals_74 WD Q a1 a2 a3 a4 a5 M F) : ac_G x (r_R g) 8 (r_P g M F) 0 0 74 [(0, .ref (r_h g)), (1, .int a1), (2, .int a2), (3, .int a3), (4, .int a4), (5, .int a5)] [] := by
  refine ac_iload Z.1 5 dX12_deals_74 rfl ?_
  refine ac_iconst (v := (-1)) Z.1 dX12_deals_76 (by decide) ?_
  obtain ⟨hwt, hwf⟩ := hw
  refine ac_icmp_ne (tgt := 81) Z.1 dX12_deals_77 (by decide) (fun hc => ?_) (fun hc => ?_)
  · have hw := hwt hc
    refine ac_aload_n Z.1 0 dX12_deals_81 rfl ?_
    refine r_geta Z.1 Z.2.1 85 (by decide) rfl fX12_150 rfl dX12_deals_82 ?_
    refine ac_bipush (v := 7) Z.1 dX12_deals_85 (by decide) ?_
    refine ac_iload_n Z.1 1 dX12_deals_87 rfl ?_
    refine ac_imul Z.1 dX12_deals_88 ?_
    refine ac_iload Z.1 5 dX12_deals_89 rfl ?_
    refine ac_iadd Z.1 dX12_deals_91 ?_
    obtain ⟨hb3, hw⟩ := hw
    refine r_ald (v := ((F 85) (((7 * a1) + a5)).toNatClampNeg)) Z.1 Z.2.1 41 85 21 rfl rfl hb3 rfl dX12_deals_92 ?_
    refine ac_iconst (v := 1) Z.1 dX12_deals_93 (by decide) ?_
    refine ac_isub Z.1 dX12_deals_94 ?_
    refine ac_topi (fun v4 hv4 => ?_)
    have hw := hw v4 hv4
    refine ac_istore (lv' := [(6, .int v4), (0, .ref (r_h g)), (1, .int a1), (2, .int a2), (3, .int a3), (4, .int a4), (5, .int a5)]) Z.1 dX12_deals_95 (by decide) rfl ?_
    refine ac_aload_n Z.1 1 dX12_deals_97 rfl ?_
    refine r_geta Z.1 Z.2.1 86 (by decide) rfl fX12_153 rfl dX12_deals_98 ?_
    refine ac_bipush (v := 7) Z.1 dX12_deals_101 (by decide) ?_
    refine ac_iload_n Z.1 2 dX12_deals_103 rfl ?_
    refine ac_imul Z.1 dX12_deals_104 ?_
    refine ac_iload Z.1 6 dX12_deals_105 rfl ?_
    refine ac_iadd Z.1 dX12_deals_107 ?_
    obtain ⟨hb5, hw⟩ := hw
    refine r_ald (v := ((F 86) (((7 * a1) + a5)).toNatClampNeg)) Z.1 Z.2.1 42 86 21 rfl rfl hb5 rfl dX12_deals_108 ?_
    refine ac_istore (lv' := [(7, .int ((F 86) (((7 * a1) + a5)).toNatClampNeg)), (6, .int v4), (0, .ref (r_h g)), (1, .int a1), (2, .int a2), (3, .int a3), (4, .int a4), (5, .int a5)]) Z.1 dX12_deals_109 (by decide) rfl ?_
    refine ac_iload Z.1 1 dX12_deals_111 rfl ?_
    obtain ⟨hwk, hw⟩ := hw
    by_cases hk0 : v4 = 0
    · have hw := hwk hk0
      refine ac_tableIn (off := 35) (tgt := 148) Z.1 dX12_deals_113 (by rw [hk0]; decide) (by rw [hk0]; decide) (by rw [hk0]; rfl) (by decide) ?_
      refine ac_goto (tgt := 236) Z.1 dX12_deals_148 (by decide) ?_
      exact hret _ _ _ _ dX12_deals_236 hw
    obtain ⟨hwk, hw⟩ := hw
    by_cases hk1 : v4 = 1
    · have hw := hwk hk1
      refine ac_tableIn (off := 38) (tgt := 151) Z.1 dX12_deals_113 (by rw [hk1]; decide) (by rw [hk1]; decide) (by rw [hk1]; rfl) (by decide) ?_
      refine ac_aload_n Z.1 2 dX12_deals_151 rfl ?_
      refine ac_iload_n Z.1 3 dX12_deals_152 rfl ?_
      refine r_put Z.1 Z.2.1 77 (by decide) rfl rfl rfl fX12_144 rfl dX12_deals_153 ?_
      refine ac_goto (tgt := 236) Z.1 dX12_deals_156 (by decide) ?_
      exact hret _ _ _ _ dX12_deals_236 hw
    obtain ⟨hwk, hw⟩ := hw
    by_cases hk2 : v4 = 2
    · have hw := hwk hk2
      refine ac_tableIn (off := 46) (tgt := 159) Z.1 dX12_deals_113 (by rw [hk2]; decide) (by rw [hk2]; decide) (by rw [hk2]; rfl) (by decide) ?_
      refine ac_aload_n Z.1 2 dX12_deals_159 rfl ?_
      refine ac_aload_n Z.1 2 dX12_deals_160 rfl ?_
      refine ac_iload Z.1 0 dX12_deals_161 rfl ?_
      refine ac_aload_n Z.1 2 dX12_deals_163 rfl ?_
      refine r_geta Z.1 Z.2.1 49 (by decide) rfl fX12_95 rfl dX12_deals_164 ?_
      refine ac_aload_n Z.1 2 dX12_deals_167 rfl ?_
      refine r_geti (v := (M 73)) Z.1 Z.2.1 73 (by decide) rfl fX12_421 rfl rfl dX12_deals_168 ?_
      obtain ⟨hb6, hw⟩ := hw
      refine r_ald (v := ((F 49) ((M 73)).toNatClampNeg)) Z.1 Z.2.1 25 49 8001 rfl rfl hb6 rfl dX12_deals_171 ?_
      refine ac_iconst (v := 0) Z.1 dX12_deals_172 (by decide) ?_
      refine ac_iconst (v := (-1)) Z.1 dX12_deals_173 (by decide) ?_
      refine ac_aload_n Z.1 2 dX12_deals_174 rfl ?_
      refine r_geti (v := (M 73)) Z.1 Z.2.1 73 (by decide) rfl fX12_421 rfl rfl dX12_deals_175 ?_
      refine ac_iconst (v := 1) Z.1 dX12_deals_178 (by decide) ?_
      refine r_calli (As := [.int ((F 86) (((7 * a1) + a5)).toNatClampNeg), .int ((F 49) ((M 73)).toNatClampNeg), .int 0, .int (-1), .int (M 73), .int 1]) (st := [.ref (r_h g)]) Z kX12_makes lkX12_444 (by omega) rfl (so_makes   _ _ _ _ _ _ _ _ _ hw) rfl rfl (Nat.le_of_ble_eq_true rfl) dX12_deals_179 (fun r7 M8 F8 hw => ?_)
      refine r_put Z.1 Z.2.1 73 (by decide) rfl rfl rfl fX12_421 rfl dX12_deals_182 ?_
      refine ac_goto (tgt := 236) Z.1 dX12_deals_185 (by decide) ?_
      exact hret _ _ _ _ dX12_deals_236 hw
    obtain ⟨hwk, hw⟩ := hw
    by_cases hk3 : v4 = 3
    · have hw := hwk hk3
      refine ac_tableIn (off := 75) (tgt := 188) Z.1 dX12_deals_113 (by rw [hk3]; decide) (by rw [hk3]; decide) (by rw [hk3]; rfl) (by decide) ?_
      refine ac_aload_n Z.1 2 dX12_deals_188 rfl ?_
      refine ac_dup Z.1 dX12_deals_189 rfl ?_
      refine r_geti (v := (M 81)) Z.1 Z.2.1 81 (by decide) rfl fX12_512 rfl rfl dX12_deals_190 ?_
      refine ac_iconst (v := 1) Z.1 dX12_deals_193 (by decide) ?_
      refine ac_iadd Z.1 dX12_deals_194 ?_
      refine r_put Z.1 Z.2.1 81 (by decide) rfl rfl rfl fX12_512 rfl dX12_deals_195 ?_
      refine ac_aload_n Z.1 2 dX12_deals_198 rfl ?_
      refine ac_iload_n Z.1 3 dX12_deals_199 rfl ?_
      refine ac_iload_n Z.1 4 dX12_deals_200 rfl ?_
      refine ac_iload_n Z.1 5 dX12_deals_201 rfl ?_
      refine ac_iload Z.1 6 dX12_deals_202 rfl ?_
      refine r_callv (As := [.int a1, .int a2, .int a3, .int a4]) (st := []) Z kX12_below lkX12_509 (by omega) rfl (so_below hWD  _ _ _ _ _ _ _ hw) rfl rfl (Nat.le_of_ble_eq_true rfl) dX12_deals_204 (fun M9 F9 hw => ?_)
      refine ac_goto (tgt := 236) Z.1 dX12_deals_207 (by decide) ?_
      exact hret _ _ _ _ dX12_deals_236 hw
    obtain ⟨hwk, hw⟩ := hw
    by_cases hk4 : v4 = 4
    · have hw := hwk hk4
      refine ac_tableIn (off := 97) (tgt := 210) Z.1 dX12_deals_113 (by rw [hk4]; decide) (by rw [hk4]; decide) (by rw [hk4]; rfl) (by decide) ?_
      refine ac_aload_n Z.1 2 dX12_deals_210 rfl ?_
      refine ac_iload_n Z.1 3 dX12_deals_211 rfl ?_
      refine r_callv (As := [.int a1]) (st := []) Z kX12_enters lkX12_515 (by omega) rfl (so_enters   _ _ _ _ hw) rfl rfl (Nat.le_of_ble_eq_true rfl) dX12_deals_212 (fun M10 F10 hw => ?_)
      refine ac_goto (tgt := 236) Z.1 dX12_deals_215 (by decide) ?_
      exact hret _ _ _ _ dX12_deals_236 hw
    have hw := hw hk0 hk1 hk2 hk3 hk4
    refine ac_tableOut (tgt := 218) Z.1 dX12_deals_113 (by have q0 := lv_neT hk0 (show (0 : Int32).toInt = 0 by decide); have q1 := lv_neT hk1 (show (1 : Int32).toInt = 1 by decide); have q2 := lv_neT hk2 (show (2 : Int32).toInt = 2 by decide); have q3 := lv_neT hk3 (show (3 : Int32).toInt = 3 by decide); have q4 := lv_neT hk4 (show (4 : Int32).toInt = 4 by decide); omega) (by decide) ?_
    refine ac_aload_n Z.1 2 dX12_deals_218 rfl ?_
    refine ac_aload_n Z.1 2 dX12_deals_219 rfl ?_
    refine r_geti (v := (M 73)) Z.1 Z.2.1 73 (by decide) rfl fX12_421 rfl rfl dX12_deals_220 ?_
    refine r_calli (As := [.int (M 73)]) (st := []) Z kX12_weight lkX12_491 (by omega) rfl (so_weight   _ _ _ _ hw) rfl rfl (Nat.le_of_ble_eq_true rfl) dX12_deals_223 (fun r11 M12 F12 hw => ?_)
    refine ac_iload Z.1 0 dX12_deals_226 rfl ?_
    obtain ⟨hwt, hwf⟩ := hw
    refine ac_icmp_ge (tgt := 236) Z.1 dX12_deals_228 (by decide) (fun hc => ?_) (fun hc => ?_)
    · have hw := hwt hc
      exact hret _ _ _ _ dX12_deals_236 hw
    · have hw := hwf hc
      refine ac_aload_n Z.1 2 dX12_deals_231 rfl ?_
      refine ac_iload_n Z.1 3 dX12_deals_232 rfl ?_
      refine r_put Z.1 Z.2.1 77 (by decide) rfl rfl rfl fX12_144 rfl dX12_deals_233 ?_
      exact hret _ _ _ _ dX12_deals_236 hw
  · have hw := hwf hc
    exact hret _ _ _ _ dX12_deals_80 hw
def w_deals_43 (WD : Int32 → Int32 → Int32 → Int32 → (Nat → Int32) → (Nat → Nat → Int32) → ((Nat → Int32) → (Nat → Nat → Int32) → Prop) → Prop) (Q : (Nat → Int32) → (Nat → Nat → Int32) → Prop) : Nat → Int32 → Int32 → Int32 → Int32 → Int32 → (Nat → Int32) → (Nat → Nat → Int32) → Prop
  | 0 => fun _ _ _ _ _ _ _ => False
  | n + 1 => fun a1 a2 a3 a4 a5 M F => ((a5 = (-1) → (w_deals_74 WD Q a1 a2 a3 a4 a5 M F)) ∧ (¬ a5 = (-1) → (vp_in ((7 * a1) + a5) 21 ∧ ((¬ ((F 85) (((7 * a1) + a5)).toNatClampNeg) = 0 → (w_deals_74 WD Q a1 a2 a3 a4 a5 M F)) ∧ (((F 85) (((7 * a1) + a5)).toNatClampNeg) = 0 → (w_above a5 M F (fun r14 M15 F15 => (w_deals_43 WD Q n a1 a2 a3 a4 r14 M15 F15))))))))
set_option maxRecDepth 20000 in
theorem s_deals_43 {x : ac_X} {g : r_S} {l : Launch} {WD : Int32 → Int32 → Int32 → Int32 → (Nat → Int32) → (Nat → Nat → Int32) → ((Nat → Int32) → (Nat → Nat → Int32) → Prop) → Prop} {rkD : Nat} {Q : (Nat → Int32) → (Nat → Nat → Int32) → Prop} (Z : r_Cx x g l cX12_deals 8 (rkD + 9)) (hret : r_RV x g 8 cX12_deals Q) (hWD : ∀ (p0 p1 p2 p3 : Int32) (M : Nat → Int32) (F : Nat → Nat → Int32) (Q : (Nat → Int32) → (Nat → Nat → Int32) → Prop), WD p0 p1 p2 p3 M F Q → r_MetV l g yX12_deals cX12_deals 8 rkD [.ref (r_h g), .int p0, .int p1, .int p2, .int p3] M F Q) : ∀ (n : Nat) (a1 : Int32) (a2 : Int32) (a3 : Int32) (a4 : Int32) (a5 : Int32) (M : Nat → Int32) (F : Nat → Nat → Int32), w_deals_43 WD Q n a1 a2 a3 a4 a5 M F → ac_G x (r_R g) 8 (r_P g M F) 0 0 43 [(0, .ref (r_h g)), (1, .int a1), (2, .int a2), (3, .int a3), (4, .int a4), (5, .int a5)] [] := by
  intro n
  induction n with
  | zero => intro _ _ _ _ _ _ _ hw; exact hw.elim
  | succ n ih =>
    intro a1 a2 a3 a4 a5 M F hw
    dsimp only [w_deals_43] at hw
    refine ac_iload Z.1 5 dX12_deals_43 rfl ?_
    refine ac_iconst (v := (-1)) Z.1 dX12_deals_45 (by decide) ?_
    obtain ⟨hwt, hwf⟩ := hw
    refine ac_icmp_eq (tgt := 74) Z.1 dX12_deals_46 (by decide) (fun hc => ?_) (fun hc => ?_)
    · have hw := hwt hc
      exact s_deals_74 Z hret hWD _ _ _ _ _ _ _ hw
    · have hw := hwf hc
      refine ac_aload_n Z.1 0 dX12_deals_49 rfl ?_
      refine r_geta Z.1 Z.2.1 85 (by decide) rfl fX12_150 rfl dX12_deals_50 ?_
      refine ac_bipush (v := 7) Z.1 dX12_deals_53 (by decide) ?_
      refine ac_iload_n Z.1 1 dX12_deals_55 rfl ?_
      refine ac_imul Z.1 dX12_deals_56 ?_
      refine ac_iload Z.1 5 dX12_deals_57 rfl ?_
      refine ac_iadd Z.1 dX12_deals_59 ?_
      obtain ⟨hb13, hw⟩ := hw
      refine r_ald (v := ((F 85) (((7 * a1) + a5)).toNatClampNeg)) Z.1 Z.2.1 41 85 21 rfl rfl hb13 rfl dX12_deals_60 ?_
      obtain ⟨hwt, hwf⟩ := hw
      refine ac_if_ne (tgt := 74) Z.1 dX12_deals_61 (by decide) (fun hc => ?_) (fun hc => ?_)
      · have hw := hwt hc
        exact s_deals_74 Z hret hWD _ _ _ _ _ _ _ hw
      · have hw := hwf hc
        refine ac_iload Z.1 5 dX12_deals_64 rfl ?_
        refine r_calls (As := [.int a5]) (st := []) Z kX12_above lkX12_389 (by omega) (so_above   _ _ _ _ hw) rfl rfl (Nat.le_of_ble_eq_true rfl) dX12_deals_66 (fun r14 M15 F15 hw => ?_)
        refine ac_istore (lv' := [(5, .int r14), (0, .ref (r_h g)), (1, .int a1), (2, .int a2), (3, .int a3), (4, .int a4)]) Z.1 dX12_deals_69 (by decide) rfl ?_
        refine ac_goto (tgt := 43) Z.1 dX12_deals_71 (by decide) ?_
        refine ac_lv [1, 2, 3, 4, 5, 0] rfl ?_
        exact ih _ _ _ _ _ _ _ hw
def w_deals (WD : Int32 → Int32 → Int32 → Int32 → (Nat → Int32) → (Nat → Nat → Int32) → ((Nat → Int32) → (Nat → Nat → Int32) → Prop) → Prop) (p1 : Int32) (p2 : Int32) (p3 : Int32) (p4 : Int32) (M : Nat → Int32) (F : Nat → Nat → Int32) (Q : (Nat → Int32) → (Nat → Nat → Int32) → Prop) : Prop := w_below WD p1 p2 p3 p4 M F (fun M1 F1 => ((¬ (M1 71) = 0 → (Q M1 F1)) ∧ ((M1 71) = 0 → (((M1 73) = 0 → (Q M1 F1)) ∧ (¬ (M1 73) = 0 → (((M1 77) = (-1) → (vp_in (M1 73) 8001 ∧ (∃ e43, w_deals_43 WD Q e43 p1 p2 p3 p4 ((F1 48) ((M1 73)).toNatClampNeg) M1 F1))) ∧ (¬ (M1 77) = (-1) → (Q M1 F1))))))))
set_option maxRecDepth 20000 in
theorem so_deals {l : Launch} {g : r_S} {WD : Int32 → Int32 → Int32 → Int32 → (Nat → Int32) → (Nat → Nat → Int32) → ((Nat → Int32) → (Nat → Nat → Int32) → Prop) → Prop} {rkD : Nat} (hWD : ∀ (p0 p1 p2 p3 : Int32) (M : Nat → Int32) (F : Nat → Nat → Int32) (Q : (Nat → Int32) → (Nat → Nat → Int32) → Prop), WD p0 p1 p2 p3 M F Q → r_MetV l g yX12_deals cX12_deals 8 rkD [.ref (r_h g), .int p0, .int p1, .int p2, .int p3] M F Q) (p1 : Int32) (p2 : Int32) (p3 : Int32) (p4 : Int32) (M : Nat → Int32) (F : Nat → Nat → Int32) (Q : (Nat → Int32) → (Nat → Nat → Int32) → Prop) (hw : w_deals WD p1 p2 p3 p4 M F Q) : r_MetV l g yX12_deals cX12_deals 8 (rkD + 9) [.ref (r_h g), .int p1, .int p2, .int p3, .int p4] M F Q := by
  refine r_MetV.of (by decide) rfl (Nat.le_of_ble_eq_true rfl) (fun x Z hret => ?_)
  show ac_G x (r_R g) 8 (r_P g M F) 0 0 0 [(0, .ref (r_h g)), (1, .int p1), (2, .int p2), (3, .int p3), (4, .int p4)] []
  refine ac_aload_n Z.1 0 dX12_deals_0 rfl ?_
  refine ac_iload_n Z.1 1 dX12_deals_1 rfl ?_
  refine ac_iload_n Z.1 2 dX12_deals_2 rfl ?_
  refine ac_iload_n Z.1 3 dX12_deals_3 rfl ?_
  refine ac_iload Z.1 4 dX12_deals_4 rfl ?_
  refine r_callv (As := [.int p1, .int p2, .int p3, .int p4]) (st := []) Z kX12_below lkX12_509 (by omega) rfl (so_below hWD  _ _ _ _ _ _ _ hw) rfl rfl (Nat.le_of_ble_eq_true rfl) dX12_deals_6 (fun M1 F1 hw => ?_)
  refine ac_aload_n Z.1 0 dX12_deals_9 rfl ?_
  refine r_geti (v := (M1 71)) Z.1 Z.2.1 71 (by decide) rfl fX12_398 rfl rfl dX12_deals_10 ?_
  obtain ⟨hwt, hwf⟩ := hw
  refine ac_if_ne (tgt := 31) Z.1 dX12_deals_13 (by decide) (fun hc => ?_) (fun hc => ?_)
  · have hw := hwt hc
    exact hret _ _ _ _ dX12_deals_31 hw
  · have hw := hwf hc
    refine ac_aload_n Z.1 0 dX12_deals_16 rfl ?_
    refine r_geti (v := (M1 73)) Z.1 Z.2.1 73 (by decide) rfl fX12_421 rfl rfl dX12_deals_17 ?_
    obtain ⟨hwt, hwf⟩ := hw
    refine ac_if_eq (tgt := 31) Z.1 dX12_deals_20 (by decide) (fun hc => ?_) (fun hc => ?_)
    · have hw := hwt hc
      exact hret _ _ _ _ dX12_deals_31 hw
    · have hw := hwf hc
      refine ac_aload_n Z.1 0 dX12_deals_23 rfl ?_
      refine r_geti (v := (M1 77)) Z.1 Z.2.1 77 (by decide) rfl fX12_144 rfl rfl dX12_deals_24 ?_
      refine ac_iconst (v := (-1)) Z.1 dX12_deals_27 (by decide) ?_
      obtain ⟨hwt, hwf⟩ := hw
      refine ac_icmp_eq (tgt := 32) Z.1 dX12_deals_28 (by decide) (fun hc => ?_) (fun hc => ?_)
      · have hw := hwt hc
        refine ac_aload_n Z.1 0 dX12_deals_32 rfl ?_
        refine r_geta Z.1 Z.2.1 48 (by decide) rfl fX12_92 rfl dX12_deals_33 ?_
        refine ac_aload_n Z.1 0 dX12_deals_36 rfl ?_
        refine r_geti (v := (M1 73)) Z.1 Z.2.1 73 (by decide) rfl fX12_421 rfl rfl dX12_deals_37 ?_
        obtain ⟨hb2, hw⟩ := hw
        refine r_ald (v := ((F1 48) ((M1 73)).toNatClampNeg)) Z.1 Z.2.1 24 48 8001 rfl rfl hb2 rfl dX12_deals_40 ?_
        refine ac_istore (lv' := [(5, .int ((F1 48) ((M1 73)).toNatClampNeg)), (0, .ref (r_h g)), (1, .int p1), (2, .int p2), (3, .int p3), (4, .int p4)]) Z.1 dX12_deals_41 (by decide) rfl ?_
        obtain ⟨n, hw⟩ := hw
        refine ac_lv [1, 2, 3, 4, 5, 0] rfl ?_
        exact s_deals_43 Z hret hWD n _ _ _ _ _ _ _ hw
      · have hw := hwf hc
        exact hret _ _ _ _ dX12_deals_31 hw
def w_trial_186 (WD : Int32 → Int32 → Int32 → Int32 → (Nat → Int32) → (Nat → Nat → Int32) → ((Nat → Int32) → (Nat → Nat → Int32) → Prop) → Prop) (Q : Int32 → (Nat → Int32) → (Nat → Nat → Int32) → Prop) (t1 : Int32) (M : Nat → Int32) (F : Nat → Nat → Int32) : Prop := Q (M 75) (um M 83 t1) F
set_option maxRecDepth 20000 in
theorem s_trial_186 {x : ac_X} {g : r_S} {l : Launch} {WD : Int32 → Int32 → Int32 → Int32 → (Nat → Int32) → (Nat → Nat → Int32) → ((Nat → Int32) → (Nat → Nat → Int32) → Prop) → Prop} {rkD : Nat} {Q : Int32 → (Nat → Int32) → (Nat → Nat → Int32) → Prop} (Z : r_Cx x g l cX12_trial 5 (rkD + 1)) (hret : r_RI x g 5 cX12_trial .int Q) (hWD : ∀ (p0 p1 p2 p3 : Int32) (M : Nat → Int32) (F : Nat → Nat → Int32) (Q : (Nat → Int32) → (Nat → Nat → Int32) → Prop), WD p0 p1 p2 p3 M F Q → r_MetV l g yX12_deals cX12_deals 8 rkD [.ref (r_h g), .int p0, .int p1, .int p2, .int p3] M F Q) (t1 : Int32) (M : Nat → Int32) (F : Nat → Nat → Int32) (hw : w_trial_186 WD Q t1 M F) : ac_G x (r_R g) 5 (r_P g M F) 0 0 186 [(0, .ref (r_h g))] [.int t1, .ref (r_h g)] := by
  refine r_put Z.1 Z.2.1 83 (by decide) rfl rfl rfl fX12_521 rfl dX12_trial_186 ?_
  refine ac_aload_n Z.1 0 dX12_trial_189 rfl ?_
  refine r_geti (v := (M 75)) Z.1 Z.2.1 75 (by decide) rfl fX12_141 rfl rfl dX12_trial_190 ?_
  exact hret _ _ _ _ _ dX12_trial_193 rfl hw
def w_trial_178 (WD : Int32 → Int32 → Int32 → Int32 → (Nat → Int32) → (Nat → Nat → Int32) → ((Nat → Int32) → (Nat → Nat → Int32) → Prop) → Prop) (Q : Int32 → (Nat → Int32) → (Nat → Nat → Int32) → Prop) (M : Nat → Int32) (F : Nat → Nat → Int32) : Prop := w_trial_186 WD Q (M 73) M F
set_option maxRecDepth 20000 in
theorem s_trial_178 {x : ac_X} {g : r_S} {l : Launch} {WD : Int32 → Int32 → Int32 → Int32 → (Nat → Int32) → (Nat → Nat → Int32) → ((Nat → Int32) → (Nat → Nat → Int32) → Prop) → Prop} {rkD : Nat} {Q : Int32 → (Nat → Int32) → (Nat → Nat → Int32) → Prop} (Z : r_Cx x g l cX12_trial 5 (rkD + 1)) (hret : r_RI x g 5 cX12_trial .int Q) (hWD : ∀ (p0 p1 p2 p3 : Int32) (M : Nat → Int32) (F : Nat → Nat → Int32) (Q : (Nat → Int32) → (Nat → Nat → Int32) → Prop), WD p0 p1 p2 p3 M F Q → r_MetV l g yX12_deals cX12_deals 8 rkD [.ref (r_h g), .int p0, .int p1, .int p2, .int p3] M F Q) (M : Nat → Int32) (F : Nat → Nat → Int32) (hw : w_trial_178 WD Q M F) : ac_G x (r_R g) 5 (r_P g M F) 0 0 178 [(0, .ref (r_h g))] [.ref (r_h g)] := by
  refine ac_aload_n Z.1 0 dX12_trial_178 rfl ?_
  refine r_geti (v := (M 73)) Z.1 Z.2.1 73 (by decide) rfl fX12_421 rfl rfl dX12_trial_179 ?_
  refine ac_goto (tgt := 186) Z.1 dX12_trial_182 (by decide) ?_
  exact s_trial_186 Z hret hWD _ _ _ hw
def w_trial_158 (WD : Int32 → Int32 → Int32 → Int32 → (Nat → Int32) → (Nat → Nat → Int32) → ((Nat → Int32) → (Nat → Nat → Int32) → Prop) → Prop) (Q : Int32 → (Nat → Int32) → (Nat → Nat → Int32) → Prop) (t1 : Int32) (M : Nat → Int32) (F : Nat → Nat → Int32) : Prop := ((M 75) = 1 → (w_trial_178 WD Q (um M 76 t1) F)) ∧ (¬ (M 75) = 1 → ((¬ (M 75) = 2 → (w_trial_186 WD Q 0 (um M 76 t1) F)) ∧ ((M 75) = 2 → (w_trial_178 WD Q (um M 76 t1) F))))
set_option maxRecDepth 20000 in
theorem s_trial_158 {x : ac_X} {g : r_S} {l : Launch} {WD : Int32 → Int32 → Int32 → Int32 → (Nat → Int32) → (Nat → Nat → Int32) → ((Nat → Int32) → (Nat → Nat → Int32) → Prop) → Prop} {rkD : Nat} {Q : Int32 → (Nat → Int32) → (Nat → Nat → Int32) → Prop} (Z : r_Cx x g l cX12_trial 5 (rkD + 1)) (hret : r_RI x g 5 cX12_trial .int Q) (hWD : ∀ (p0 p1 p2 p3 : Int32) (M : Nat → Int32) (F : Nat → Nat → Int32) (Q : (Nat → Int32) → (Nat → Nat → Int32) → Prop), WD p0 p1 p2 p3 M F Q → r_MetV l g yX12_deals cX12_deals 8 rkD [.ref (r_h g), .int p0, .int p1, .int p2, .int p3] M F Q) (t1 : Int32) (M : Nat → Int32) (F : Nat → Nat → Int32) (hw : w_trial_158 WD Q t1 M F) : ac_G x (r_R g) 5 (r_P g M F) 0 0 158 [(0, .ref (r_h g))] [.int t1, .ref (r_h g)] := by
  refine r_put Z.1 Z.2.1 76 (by decide) rfl rfl rfl fX12_518 rfl dX12_trial_158 ?_
  refine ac_aload_n Z.1 0 dX12_trial_161 rfl ?_
  refine ac_aload_n Z.1 0 dX12_trial_162 rfl ?_
  refine r_geti (v := (M 75)) Z.1 Z.2.1 75 (by decide) rfl fX12_141 rfl rfl dX12_trial_163 ?_
  refine ac_iconst (v := 1) Z.1 dX12_trial_166 (by decide) ?_
  obtain ⟨hwt, hwf⟩ := hw
  refine ac_icmp_eq (tgt := 178) Z.1 dX12_trial_167 (by decide) (fun hc => ?_) (fun hc => ?_)
  · have hw := hwt hc
    exact s_trial_178 Z hret hWD _ _ hw
  · have hw := hwf hc
    refine ac_aload_n Z.1 0 dX12_trial_170 rfl ?_
    refine r_geti (v := (M 75)) Z.1 Z.2.1 75 (by decide) rfl fX12_141 rfl rfl dX12_trial_171 ?_
    refine ac_iconst (v := 2) Z.1 dX12_trial_174 (by decide) ?_
    obtain ⟨hwt, hwf⟩ := hw
    refine ac_icmp_ne (tgt := 185) Z.1 dX12_trial_175 (by decide) (fun hc => ?_) (fun hc => ?_)
    · have hw := hwt hc
      refine ac_iconst (v := 0) Z.1 dX12_trial_185 (by decide) ?_
      exact s_trial_186 Z hret hWD _ _ _ hw
    · have hw := hwf hc
      exact s_trial_178 Z hret hWD _ _ hw
def w_trial_142 (WD : Int32 → Int32 → Int32 → Int32 → (Nat → Int32) → (Nat → Nat → Int32) → ((Nat → Int32) → (Nat → Nat → Int32) → Prop) → Prop) (Q : Int32 → (Nat → Int32) → (Nat → Nat → Int32) → Prop) (M : Nat → Int32) (F : Nat → Nat → Int32) : Prop := (¬ (M 75) = 0 → (w_trial_158 WD Q 0 M F)) ∧ ((M 75) = 0 → (w_trial_158 WD Q (M 74) M F))
set_option maxRecDepth 20000 in
theorem s_trial_142 {x : ac_X} {g : r_S} {l : Launch} {WD : Int32 → Int32 → Int32 → Int32 → (Nat → Int32) → (Nat → Nat → Int32) → ((Nat → Int32) → (Nat → Nat → Int32) → Prop) → Prop} {rkD : Nat} {Q : Int32 → (Nat → Int32) → (Nat → Nat → Int32) → Prop} (Z : r_Cx x g l cX12_trial 5 (rkD + 1)) (hret : r_RI x g 5 cX12_trial .int Q) (hWD : ∀ (p0 p1 p2 p3 : Int32) (M : Nat → Int32) (F : Nat → Nat → Int32) (Q : (Nat → Int32) → (Nat → Nat → Int32) → Prop), WD p0 p1 p2 p3 M F Q → r_MetV l g yX12_deals cX12_deals 8 rkD [.ref (r_h g), .int p0, .int p1, .int p2, .int p3] M F Q) (M : Nat → Int32) (F : Nat → Nat → Int32) (hw : w_trial_142 WD Q M F) : ac_G x (r_R g) 5 (r_P g M F) 0 0 142 [(0, .ref (r_h g))] [] := by
  refine ac_aload_n Z.1 0 dX12_trial_142 rfl ?_
  refine ac_aload_n Z.1 0 dX12_trial_143 rfl ?_
  refine r_geti (v := (M 75)) Z.1 Z.2.1 75 (by decide) rfl fX12_141 rfl rfl dX12_trial_144 ?_
  obtain ⟨hwt, hwf⟩ := hw
  refine ac_if_ne (tgt := 157) Z.1 dX12_trial_147 (by decide) (fun hc => ?_) (fun hc => ?_)
  · have hw := hwt hc
    refine ac_iconst (v := 0) Z.1 dX12_trial_157 (by decide) ?_
    exact s_trial_158 Z hret hWD _ _ _ hw
  · have hw := hwf hc
    refine ac_aload_n Z.1 0 dX12_trial_150 rfl ?_
    refine r_geti (v := (M 74)) Z.1 Z.2.1 74 (by decide) rfl fX12_441 rfl rfl dX12_trial_151 ?_
    refine ac_goto (tgt := 158) Z.1 dX12_trial_154 (by decide) ?_
    exact s_trial_158 Z hret hWD _ _ _ hw
def w_trial_127 (WD : Int32 → Int32 → Int32 → Int32 → (Nat → Int32) → (Nat → Nat → Int32) → ((Nat → Int32) → (Nat → Nat → Int32) → Prop) → Prop) (Q : Int32 → (Nat → Int32) → (Nat → Nat → Int32) → Prop) (t1 : Int32) (M : Nat → Int32) (F : Nat → Nat → Int32) : Prop := ((M 71) = 0 → (w_trial_142 WD Q (um M 75 t1) F)) ∧ (¬ (M 71) = 0 → (w_trial_142 WD Q (um (um M 75 t1) 77 (-1)) F))
set_option maxRecDepth 20000 in
theorem s_trial_127 {x : ac_X} {g : r_S} {l : Launch} {WD : Int32 → Int32 → Int32 → Int32 → (Nat → Int32) → (Nat → Nat → Int32) → ((Nat → Int32) → (Nat → Nat → Int32) → Prop) → Prop} {rkD : Nat} {Q : Int32 → (Nat → Int32) → (Nat → Nat → Int32) → Prop} (Z : r_Cx x g l cX12_trial 5 (rkD + 1)) (hret : r_RI x g 5 cX12_trial .int Q) (hWD : ∀ (p0 p1 p2 p3 : Int32) (M : Nat → Int32) (F : Nat → Nat → Int32) (Q : (Nat → Int32) → (Nat → Nat → Int32) → Prop), WD p0 p1 p2 p3 M F Q → r_MetV l g yX12_deals cX12_deals 8 rkD [.ref (r_h g), .int p0, .int p1, .int p2, .int p3] M F Q) (t1 : Int32) (M : Nat → Int32) (F : Nat → Nat → Int32) (hw : w_trial_127 WD Q t1 M F) : ac_G x (r_R g) 5 (r_P g M F) 0 0 127 [(0, .ref (r_h g))] [.int t1, .ref (r_h g)] := by
  refine r_put Z.1 Z.2.1 75 (by decide) rfl rfl rfl fX12_141 rfl dX12_trial_127 ?_
  refine ac_aload_n Z.1 0 dX12_trial_130 rfl ?_
  refine r_geti (v := (M 71)) Z.1 Z.2.1 71 (by decide) rfl fX12_398 rfl rfl dX12_trial_131 ?_
  obtain ⟨hwt, hwf⟩ := hw
  refine ac_if_eq (tgt := 142) Z.1 dX12_trial_134 (by decide) (fun hc => ?_) (fun hc => ?_)
  · have hw := hwt hc
    exact s_trial_142 Z hret hWD _ _ hw
  · have hw := hwf hc
    refine ac_aload_n Z.1 0 dX12_trial_137 rfl ?_
    refine ac_iconst (v := (-1)) Z.1 dX12_trial_138 (by decide) ?_
    refine r_put Z.1 Z.2.1 77 (by decide) rfl rfl rfl fX12_144 rfl dX12_trial_139 ?_
    exact s_trial_142 Z hret hWD _ _ hw
def w_trial (WD : Int32 → Int32 → Int32 → Int32 → (Nat → Int32) → (Nat → Nat → Int32) → ((Nat → Int32) → (Nat → Nat → Int32) → Prop) → Prop) (p1 : Int32) (p2 : Int32) (p3 : Int32) (p4 : Int32) (M : Nat → Int32) (F : Nat → Nat → Int32) (Q : Int32 → (Nat → Int32) → (Nat → Nat → Int32) → Prop) : Prop := (p1 < 0 → (Q (-1) M F)) ∧ (¬ p1 < 0 → (((M 28) ≤ p1 → (Q (-1) M F)) ∧ (¬ (M 28) ≤ p1 → ((p4 < 1 → (Q (-1) M F)) ∧ (¬ p4 < 1 → ((p4 ≤ 5000 → (WD 2 ((400 * (M 27)) + p1) p2 p3 (um (um (um (um (um (um (um (um (um M 78 0) 79 p4) 80 0) 81 0) 82 0) 55 0) 71 0) 77 (-1)) 74 0) F (fun M1 F1 => (((M1 71) = 0 → (((M1 77) = (-1) → (((M1 73) = 0 → (w_trial_127 WD Q 0 M1 F1)) ∧ (¬ (M1 73) = 0 → (w_trial_127 WD Q 2 M1 F1)))) ∧ (¬ (M1 77) = (-1) → (w_trial_127 WD Q 1 M1 F1)))) ∧ (¬ (M1 71) = 0 → (w_trial_127 WD Q 3 M1 F1)))))) ∧ (¬ p4 ≤ 5000 → (Q (-1) M F))))))))
set_option maxRecDepth 20000 in
theorem so_trial {l : Launch} {g : r_S} {WD : Int32 → Int32 → Int32 → Int32 → (Nat → Int32) → (Nat → Nat → Int32) → ((Nat → Int32) → (Nat → Nat → Int32) → Prop) → Prop} {rkD : Nat} (hWD : ∀ (p0 p1 p2 p3 : Int32) (M : Nat → Int32) (F : Nat → Nat → Int32) (Q : (Nat → Int32) → (Nat → Nat → Int32) → Prop), WD p0 p1 p2 p3 M F Q → r_MetV l g yX12_deals cX12_deals 8 rkD [.ref (r_h g), .int p0, .int p1, .int p2, .int p3] M F Q) (p1 : Int32) (p2 : Int32) (p3 : Int32) (p4 : Int32) (M : Nat → Int32) (F : Nat → Nat → Int32) (Q : Int32 → (Nat → Int32) → (Nat → Nat → Int32) → Prop) (hw : w_trial WD p1 p2 p3 p4 M F Q) : r_MetI l g yX12_trial cX12_trial 5 .int (rkD + 1) [.ref (r_h g), .int p1, .int p2, .int p3, .int p4] M F Q := by
  refine r_MetI.of (by decide) rfl (Nat.le_of_ble_eq_true rfl) (fun x Z hret => ?_)
  show ac_G x (r_R g) 5 (r_P g M F) 0 0 0 [(0, .ref (r_h g)), (1, .int p1), (2, .int p2), (3, .int p3), (4, .int p4)] []
  refine ac_iload_n Z.1 1 dX12_trial_0 rfl ?_
  obtain ⟨hwt, hwf⟩ := hw
  refine ac_if_lt (tgt := 26) Z.1 dX12_trial_1 (by decide) (fun hc => ?_) (fun hc => ?_)
  · have hw := hwt hc
    refine ac_iconst (v := (-1)) Z.1 dX12_trial_26 (by decide) ?_
    exact hret _ _ _ _ _ dX12_trial_27 rfl hw
  · have hw := hwf hc
    refine ac_iload_n Z.1 1 dX12_trial_4 rfl ?_
    refine ac_aload_n Z.1 0 dX12_trial_5 rfl ?_
    refine r_geti (v := (M 28)) Z.1 Z.2.1 28 (by decide) rfl fX12_386 rfl rfl dX12_trial_6 ?_
    obtain ⟨hwt, hwf⟩ := hw
    refine ac_icmp_ge (tgt := 26) Z.1 dX12_trial_9 (by decide) (fun hc => ?_) (fun hc => ?_)
    · have hw := hwt hc
      refine ac_iconst (v := (-1)) Z.1 dX12_trial_26 (by decide) ?_
      exact hret _ _ _ _ _ dX12_trial_27 rfl hw
    · have hw := hwf hc
      refine ac_iload Z.1 4 dX12_trial_12 rfl ?_
      refine ac_iconst (v := 1) Z.1 dX12_trial_14 (by decide) ?_
      obtain ⟨hwt, hwf⟩ := hw
      refine ac_icmp_lt (tgt := 26) Z.1 dX12_trial_15 (by decide) (fun hc => ?_) (fun hc => ?_)
      · have hw := hwt hc
        refine ac_iconst (v := (-1)) Z.1 dX12_trial_26 (by decide) ?_
        exact hret _ _ _ _ _ dX12_trial_27 rfl hw
      · have hw := hwf hc
        refine ac_iload Z.1 4 dX12_trial_18 rfl ?_
        refine ac_sipush (v := 5000) Z.1 dX12_trial_20 (by decide) ?_
        obtain ⟨hwt, hwf⟩ := hw
        refine ac_icmp_le (tgt := 28) Z.1 dX12_trial_23 (by decide) (fun hc => ?_) (fun hc => ?_)
        · have hw := hwt hc
          refine ac_aload_n Z.1 0 dX12_trial_28 rfl ?_
          refine ac_iconst (v := 0) Z.1 dX12_trial_29 (by decide) ?_
          refine r_put Z.1 Z.2.1 78 (by decide) rfl rfl rfl fX12_450 rfl dX12_trial_30 ?_
          refine ac_aload_n Z.1 0 dX12_trial_33 rfl ?_
          refine ac_iload Z.1 4 dX12_trial_34 rfl ?_
          refine r_put Z.1 Z.2.1 79 (by decide) rfl rfl rfl fX12_453 rfl dX12_trial_36 ?_
          refine ac_aload_n Z.1 0 dX12_trial_39 rfl ?_
          refine ac_iconst (v := 0) Z.1 dX12_trial_40 (by decide) ?_
          refine r_put Z.1 Z.2.1 80 (by decide) rfl rfl rfl fX12_500 rfl dX12_trial_41 ?_
          refine ac_aload_n Z.1 0 dX12_trial_44 rfl ?_
          refine ac_iconst (v := 0) Z.1 dX12_trial_45 (by decide) ?_
          refine r_put Z.1 Z.2.1 81 (by decide) rfl rfl rfl fX12_512 rfl dX12_trial_46 ?_
          refine ac_aload_n Z.1 0 dX12_trial_49 rfl ?_
          refine ac_iconst (v := 0) Z.1 dX12_trial_50 (by decide) ?_
          refine r_put Z.1 Z.2.1 82 (by decide) rfl rfl rfl fX12_415 rfl dX12_trial_51 ?_
          refine ac_aload_n Z.1 0 dX12_trial_54 rfl ?_
          refine ac_iconst (v := 0) Z.1 dX12_trial_55 (by decide) ?_
          refine r_put Z.1 Z.2.1 55 (by decide) rfl rfl rfl fX12_392 rfl dX12_trial_56 ?_
          refine ac_aload_n Z.1 0 dX12_trial_59 rfl ?_
          refine ac_iconst (v := 0) Z.1 dX12_trial_60 (by decide) ?_
          refine r_putZ Z.1 Z.2.1 71 (by decide) rfl rfl rfl fX12_398 rfl (by decide) dX12_trial_61 ?_
          refine ac_aload_n Z.1 0 dX12_trial_64 rfl ?_
          refine ac_iconst (v := (-1)) Z.1 dX12_trial_65 (by decide) ?_
          refine r_put Z.1 Z.2.1 77 (by decide) rfl rfl rfl fX12_144 rfl dX12_trial_66 ?_
          refine ac_aload_n Z.1 0 dX12_trial_69 rfl ?_
          refine ac_iconst (v := 0) Z.1 dX12_trial_70 (by decide) ?_
          refine r_put Z.1 Z.2.1 74 (by decide) rfl rfl rfl fX12_441 rfl dX12_trial_71 ?_
          refine ac_aload_n Z.1 0 dX12_trial_74 rfl ?_
          refine ac_iconst (v := 2) Z.1 dX12_trial_75 (by decide) ?_
          refine ac_sipush (v := 400) Z.1 dX12_trial_76 (by decide) ?_
          refine ac_aload_n Z.1 0 dX12_trial_79 rfl ?_
          refine r_geti (v := (M 27)) Z.1 Z.2.1 27 (by decide) rfl fX12_70 rfl rfl dX12_trial_80 ?_
          refine ac_imul Z.1 dX12_trial_83 ?_
          refine ac_iload_n Z.1 1 dX12_trial_84 rfl ?_
          refine ac_iadd Z.1 dX12_trial_85 ?_
          refine ac_iload_n Z.1 2 dX12_trial_86 rfl ?_
          refine ac_iload_n Z.1 3 dX12_trial_87 rfl ?_
          refine r_callv (As := [.int 2, .int ((400 * (M 27)) + p1), .int p2, .int p3]) (st := []) Z kX12_deals lkX12_505 (by omega) rfl (hWD _ _ _ _ _ _ _ hw) rfl rfl (Nat.le_of_ble_eq_true rfl) dX12_trial_88 (fun M1 F1 hw => ?_)
          refine ac_aload_n Z.1 0 dX12_trial_91 rfl ?_
          refine ac_aload_n Z.1 0 dX12_trial_92 rfl ?_
          refine r_geti (v := (M1 71)) Z.1 Z.2.1 71 (by decide) rfl fX12_398 rfl rfl dX12_trial_93 ?_
          obtain ⟨hwt, hwf⟩ := hw
          refine ac_if_eq (tgt := 103) Z.1 dX12_trial_96 (by decide) (fun hc => ?_) (fun hc => ?_)
          · have hw := hwt hc
            refine ac_aload_n Z.1 0 dX12_trial_103 rfl ?_
            refine r_geti (v := (M1 77)) Z.1 Z.2.1 77 (by decide) rfl fX12_144 rfl rfl dX12_trial_104 ?_
            refine ac_iconst (v := (-1)) Z.1 dX12_trial_107 (by decide) ?_
            obtain ⟨hwt, hwf⟩ := hw
            refine ac_icmp_eq (tgt := 115) Z.1 dX12_trial_108 (by decide) (fun hc => ?_) (fun hc => ?_)
            · have hw := hwt hc
              refine ac_aload_n Z.1 0 dX12_trial_115 rfl ?_
              refine r_geti (v := (M1 73)) Z.1 Z.2.1 73 (by decide) rfl fX12_421 rfl rfl dX12_trial_116 ?_
              obtain ⟨hwt, hwf⟩ := hw
              refine ac_if_eq (tgt := 126) Z.1 dX12_trial_119 (by decide) (fun hc => ?_) (fun hc => ?_)
              · have hw := hwt hc
                refine ac_iconst (v := 0) Z.1 dX12_trial_126 (by decide) ?_
                refine ac_lv [0] rfl ?_
                exact s_trial_127 Z hret hWD _ _ _ hw
              · have hw := hwf hc
                refine ac_iconst (v := 2) Z.1 dX12_trial_122 (by decide) ?_
                refine ac_goto (tgt := 127) Z.1 dX12_trial_123 (by decide) ?_
                refine ac_lv [0] rfl ?_
                exact s_trial_127 Z hret hWD _ _ _ hw
            · have hw := hwf hc
              refine ac_iconst (v := 1) Z.1 dX12_trial_111 (by decide) ?_
              refine ac_goto (tgt := 127) Z.1 dX12_trial_112 (by decide) ?_
              refine ac_lv [0] rfl ?_
              exact s_trial_127 Z hret hWD _ _ _ hw
          · have hw := hwf hc
            refine ac_iconst (v := 3) Z.1 dX12_trial_99 (by decide) ?_
            refine ac_goto (tgt := 127) Z.1 dX12_trial_100 (by decide) ?_
            refine ac_lv [0] rfl ?_
            exact s_trial_127 Z hret hWD _ _ _ hw
        · have hw := hwf hc
          refine ac_iconst (v := (-1)) Z.1 dX12_trial_26 (by decide) ?_
          exact hret _ _ _ _ _ dX12_trial_27 rfl hw
