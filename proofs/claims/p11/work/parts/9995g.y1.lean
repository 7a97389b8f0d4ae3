def wY_X11_putBytes_3 (N : Nat → Nat) (Q : f_S3 → Nat × Nat → Prop) : Nat → Int32 → Int32 → f_S3 → Nat × Nat → Prop
  | 0 => fun _ _ _ _ => False
  | n + 1 => fun a1 a2 M O => ((a2 < 0 → (Q M O)) ∧ (¬ a2 < 0 → (((nI (N 10)) ≤ (M.1 1) → (Q M O)) ∧ (¬ (nI (N 10)) ≤ (M.1 1) → (vp_in (M.1 1) (N 10) ∧ (wY_X11_putBytes_3 N Q n a1 (a2 + (-8)) (fm (ff M 10 (M.1 1) (vp_nar .byte ((f_ushr a1 a2).toInt8.toInt32))) 1 ((M.1 1) + 1)) O))))))
set_option maxRecDepth 20000 in
theorem sY_X11_putBytes_3 {x : ac_X} {g : b_S} {c : Nat} (hg : g.1 = tb_T c) {l : Launch} {O0 : Nat × Nat} {Q : f_S3 → Nat × Nat → Prop} (Z : b_Cx x g l RX11 cX11_putBytes 3 (0) O0) (hret : f_RV x g 3 cX11_putBytes O0 Q) : ∀ (n : Nat) (a1 : Int32) (a2 : Int32) (M : f_S3) (O : Nat × Nat), wY_X11_putBytes_3 (b_N g) Q n a1 a2 M O → f_G x g 3 O0 M O 3 [(0, .ref (b_o g 0)), (1, .int a1), (2, .int a2)] [] := by
  intro n
  induction n with
  | zero => intro _ _ _ _ hw; exact hw.elim
  | succ n ih =>
    intro a1 a2 M O hw
    dsimp only [wY_X11_putBytes_3] at hw
    refine ac_iload_n Z.1 2 dX11_putBytes_3 rfl ?_
    obtain ⟨hwt, hwf⟩ := hw
    refine ac_if_lt (tgt := 48) Z.1 dX11_putBytes_4 (by decide) (fun hc => ?_) (fun hc => ?_)
    · have hw := hwt hc
      exact hret _ _ _ _ dX11_putBytes_48 hw
    · have hw := hwf hc
      refine ac_aload_n Z.1 0 dX11_putBytes_7 rfl ?_
      refine f_geti Z b_X11 0 (oT_0 hg) 1 (by decide) (by decide) (fT_1 hg) fX11_61 rfl (v := (M.1 1)) rfl dX11_putBytes_8 ?_
      refine ac_aload_n Z.1 0 dX11_putBytes_11 rfl ?_
      refine f_getr Z b_X11 0 (oT_0 hg) 0 (by decide) (by decide) (fT_0 hg) fX11_9 rfl (h2 := (b_o g 10)) rfl dX11_putBytes_12 ?_
      refine f_alen Z 0 (aT_10 hg) rfl (v := (nI (b_N g 10))) rfl dX11_putBytes_15 (by decide) ?_
      obtain ⟨hwt, hwf⟩ := hw
      refine ac_icmp_ge (tgt := 48) Z.1 dX11_putBytes_16 (by decide) (fun hc => ?_) (fun hc => ?_)
      · have hw := hwt hc
        exact hret _ _ _ _ dX11_putBytes_48 hw
      · have hw := hwf hc
        refine ac_aload_n Z.1 0 dX11_putBytes_19 rfl ?_
        refine f_getr Z b_X11 0 (oT_0 hg) 0 (by decide) (by decide) (fT_0 hg) fX11_9 rfl (h2 := (b_o g 10)) rfl dX11_putBytes_20 ?_
        refine ac_aload_n Z.1 0 dX11_putBytes_23 rfl ?_
        refine f_geti Z b_X11 0 (oT_0 hg) 1 (by decide) (by decide) (fT_1 hg) fX11_61 rfl (v := (M.1 1)) rfl dX11_putBytes_24 ?_
        refine ac_iload_n Z.1 1 dX11_putBytes_27 rfl ?_
        refine ac_iload_n Z.1 2 dX11_putBytes_28 rfl ?_
        refine fv_iushr Z.1 dX11_putBytes_29 ?_
        refine fv_i2b Z.1 dX11_putBytes_30 ?_
        obtain ⟨hb1, hw⟩ := hw
        refine f_bast Z 0 (aT_10 hg) rfl hb1 dX11_putBytes_31 ?_
        refine ac_aload_n Z.1 0 dX11_putBytes_32 rfl ?_
        refine ac_dup Z.1 dX11_putBytes_33 rfl ?_
        refine f_geti Z b_X11 0 (oT_0 hg) 1 (by decide) (by decide) (fT_1 hg) fX11_61 rfl (v := (M.1 1)) rfl dX11_putBytes_34 ?_
        refine ac_iconst (v := 1) Z.1 dX11_putBytes_37 (by decide) ?_
        refine ac_iadd Z.1 dX11_putBytes_38 ?_
        refine f_put Z b_X11 0 (oT_0 hg) 1 (by decide) (by decide) (fT_1 hg) rfl rfl fX11_61 rfl (I := 1) rfl dX11_putBytes_39 ?_
        refine ac_iinc (w := (a2 + (-8))) (lv' := [(2, .int (a2 + (-8))), (0, .ref (b_o g 0)), (1, .int a1)]) Z.1 2 dX11_putBytes_42 rfl rfl (by decide) rfl ?_
        refine ac_goto (tgt := 3) Z.1 dX11_putBytes_45 (by decide) ?_
        refine ac_lv [1, 2, 0] rfl ?_
        exact ih _ _ _ _ hw
def wY_X11_putBytes (N : Nat → Nat) (p1 : Int32) (M : f_S3) (O : Nat × Nat) (Q : f_S3 → Nat × Nat → Prop) : Prop := ∃ e3, wY_X11_putBytes_3 N Q e3 p1 24 M O
set_option maxRecDepth 20000 in
theorem soY_X11_putBytes {l : Launch} {g : b_S} {c : Nat} (hg : g.1 = tb_T c) (p1 : Int32) (M : f_S3) (O : Nat × Nat) (Q : f_S3 → Nat × Nat → Prop) (hw : wY_X11_putBytes (b_N g) p1 M O Q) : f_MetV l g yX11_putBytes cX11_putBytes 3 (0) [.ref (b_o g 0), .int p1] M O Q := by
  refine f_MetV.of (C := RX11) (by decide) rfl (Nat.le_of_ble_eq_true rfl) (fun x Z hret => ?_)
  show f_G x g 3 O M O 0 [(0, .ref (b_o g 0)), (1, .int p1)] []
  refine ac_bipush (v := 24) Z.1 dX11_putBytes_0 (by decide) ?_
  refine ac_istore_n (lv' := [(2, .int 24), (0, .ref (b_o g 0)), (1, .int p1)]) Z.1 dX11_putBytes_2 (by decide) rfl ?_
  obtain ⟨n, hw⟩ := hw
  refine ac_lv [1, 2, 0] rfl ?_
  exact sY_X11_putBytes_3 hg Z hret n _ _ _ _ hw
def wY_X11_feed (N : Nat → Nat) (p1 : Int32) (p2 : Int32) (p3 : Int32) (p4 : Int32) (p5 : Int32) (M : f_S3) (O : Nat × Nat) (Q : Int32 → f_S3 → Nat × Nat → Prop) : Prop := (((M.1 1) + 20) ≤ 4000 → (wY_X11_putBytes N p1 M O (fun M1 O1 => (wY_X11_putBytes N p2 M1 O1 (fun M2 O2 => (wY_X11_putBytes N p3 M2 O2 (fun M3 O3 => (wY_X11_putBytes N p4 M3 O3 (fun M4 O4 => (wY_X11_putBytes N p5 M4 O4 (fun M5 O5 => (Q (M5.1 1) M5 O5)))))))))))) ∧ (¬ ((M.1 1) + 20) ≤ 4000 → (Q (-1) M O))
set_option maxRecDepth 20000 in
theorem soY_X11_feed {l : Launch} {g : b_S} {c : Nat} (hg : g.1 = tb_T c) (p1 : Int32) (p2 : Int32) (p3 : Int32) (p4 : Int32) (p5 : Int32) (M : f_S3) (O : Nat × Nat) (Q : Int32 → f_S3 → Nat × Nat → Prop) (hw : wY_X11_feed (b_N g) p1 p2 p3 p4 p5 M O Q) : f_MetI l g yX11_feed cX11_feed 6 .int (1) [.ref (b_o g 0), .int p1, .int p2, .int p3, .int p4, .int p5] M O Q := by
  refine f_MetI.of (C := RX11) (by decide) rfl (Nat.le_of_ble_eq_true rfl) (fun x Z hret => ?_)
  show f_G x g 6 O M O 0 [(0, .ref (b_o g 0)), (1, .int p1), (2, .int p2), (3, .int p3), (4, .int p4), (5, .int p5)] []
  refine ac_aload_n Z.1 0 dX11_feed_0 rfl ?_
  refine f_geti Z b_X11 0 (oT_0 hg) 1 (by decide) (by decide) (fT_1 hg) fX11_61 rfl (v := (M.1 1)) rfl dX11_feed_1 ?_
  refine ac_bipush (v := 20) Z.1 dX11_feed_4 (by decide) ?_
  refine ac_iadd Z.1 dX11_feed_6 ?_
  refine ac_sipush (v := 4000) Z.1 dX11_feed_7 (by decide) ?_
  obtain ⟨hwt, hwf⟩ := hw
  refine ac_icmp_le (tgt := 15) Z.1 dX11_feed_10 (by decide) (fun hc => ?_) (fun hc => ?_)
  · have hw := hwt hc
    refine ac_aload_n Z.1 0 dX11_feed_15 rfl ?_
    refine ac_iload_n Z.1 1 dX11_feed_16 rfl ?_
    refine f_callv (As := [.int p1]) (st := []) Z b_X11.1 0 (oT_0 hg) rfl kX11_putBytes lkX11_64 (by omega) (soY_X11_putBytes hg  _ _ _ _ hw) rfl rfl (Nat.le_of_ble_eq_true rfl) dX11_feed_17 (fun M1 O1 hw => ?_)
    refine ac_aload_n Z.1 0 dX11_feed_20 rfl ?_
    refine ac_iload_n Z.1 2 dX11_feed_21 rfl ?_
    refine f_callv (As := [.int p2]) (st := []) Z b_X11.1 0 (oT_0 hg) rfl kX11_putBytes lkX11_64 (by omega) (soY_X11_putBytes hg  _ _ _ _ hw) rfl rfl (Nat.le_of_ble_eq_true rfl) dX11_feed_22 (fun M2 O2 hw => ?_)
    refine ac_aload_n Z.1 0 dX11_feed_25 rfl ?_
    refine ac_iload_n Z.1 3 dX11_feed_26 rfl ?_
    refine f_callv (As := [.int p3]) (st := []) Z b_X11.1 0 (oT_0 hg) rfl kX11_putBytes lkX11_64 (by omega) (soY_X11_putBytes hg  _ _ _ _ hw) rfl rfl (Nat.le_of_ble_eq_true rfl) dX11_feed_27 (fun M3 O3 hw => ?_)
    refine ac_aload_n Z.1 0 dX11_feed_30 rfl ?_
    refine ac_iload Z.1 4 dX11_feed_31 rfl ?_
    refine f_callv (As := [.int p4]) (st := []) Z b_X11.1 0 (oT_0 hg) rfl kX11_putBytes lkX11_64 (by omega) (soY_X11_putBytes hg  _ _ _ _ hw) rfl rfl (Nat.le_of_ble_eq_true rfl) dX11_feed_33 (fun M4 O4 hw => ?_)
    refine ac_aload_n Z.1 0 dX11_feed_36 rfl ?_
    refine ac_iload Z.1 5 dX11_feed_37 rfl ?_
    refine f_callv (As := [.int p5]) (st := []) Z b_X11.1 0 (oT_0 hg) rfl kX11_putBytes lkX11_64 (by omega) (soY_X11_putBytes hg  _ _ _ _ hw) rfl rfl (Nat.le_of_ble_eq_true rfl) dX11_feed_39 (fun M5 O5 hw => ?_)
    refine ac_aload_n Z.1 0 dX11_feed_42 rfl ?_
    refine f_geti Z b_X11 0 (oT_0 hg) 1 (by decide) (by decide) (fT_1 hg) fX11_61 rfl (v := (M5.1 1)) rfl dX11_feed_43 ?_
    exact hret _ _ _ _ _ dX11_feed_46 rfl hw
  · have hw := hwf hc
    refine ac_iconst (v := (-1)) Z.1 dX11_feed_13 (by decide) ?_
    exact hret _ _ _ _ _ dX11_feed_14 rfl hw
