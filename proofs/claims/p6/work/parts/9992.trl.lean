/-! THE CLASS'S TRIAL: the session takes the text. -/
def b_5 (g : b_S) : b_S := (tb_T 5, g.2)
set_option maxRecDepth 20000 in
theorem b_putp {x : ac_X} {g : b_S} {l : Launch} {cc : ByteArray} {nL rk c : Nat} {O0 O : Nat × Nat} {M : Nat → Int32} {pc : Nat} {lv : List (Nat × Value)} {st : List Value} (hg : g.1 = tb_T c) (Z : b_Cx x g l RX8 cc nL rk O0) {h4 h5 : Nat} (e4 : b_c g O 4 = h4) (e5 : b_c g O 5 = h5) (hd : decode cc pc = .ok (.putfield 32, 3)) (kk : ac_G x (b_A g) nL (b_P (b_5 g) O0 M O) (b_cc O0 O) (b_cs O0 O) (pc + 3) lv st) : b_G x g nL O0 M O pc lv (.ref h5 :: .ref h4 :: st) := by
  obtain ⟨p, l', e, R, s, m, args, below, meth, cd, Q⟩ := x
  obtain ⟨t, D, ad, NN, cT, adK, adV, A, up⟩ := g
  have hg : t = tb_T c := hg
  subst hg
  obtain ⟨CC, K, -⟩ := Z
  cases e4
  cases e5
  intro H locs ls hP hS hlv
  obtain ⟨⟨F, J, hP1⟩, hP2, hP3⟩ := hP
  obtain ⟨b1, b2, b3, b4, b5⟩ := b_X8
  refine va_put (C := RX8) (T := TX8) (N := 16) (ty := tyX8 7) CC.1 CC.2.1 CC.2.2.2.2 b2 tyX8 b3 b4 CC.2.2.2.1 K.2.1 hP1 (b_Dgo hP2) hS 4 (b_Wobj _ _ _ _ _ _ _ (rfl : (tb_T c).1[4]? = some (4, 8, 40, 16))) b1 7 (by decide) (CC.2.2.2.2 _ fX8_32) (fun q h9 => by rw [b5 7 (by decide)] at h9; exact h9) rfl (b3 7 (by decide)) rfl rfl (by rw [b_fs_len]; decide) hd (fun H1 locs1 hP9 _ hS1 => ?_)
  have hw : (b_W (tb_T c) (b_ad ad O) (b_ln NN O) cT M F J).set 4 (b_ad ad O 4, .inr (8, (b_fs (tb_T c) (b_ad ad O) M 40 16).set 7 (.ref (b_ad ad O 5)))) = b_W (tb_T 5) (b_ad ad O) (b_ln NN O) cT M F J := rfl
  have hP9 : va_P D ac_cl ((b_W (tb_T c) (b_ad ad O) (b_ln NN O) cT M F J).set 4 (b_ad ad O 4, .inr (8, (b_fs (tb_T c) (b_ad ad O) M 40 16).set 7 (.ref (b_ad ad O 5))))) H1 := hP9
  rw [hw] at hP9
  have hm : (b_W (tb_T c) (b_ad ad O) (b_ln NN O) cT (fun _ => 0) (fun _ _ => 0) (fun _ _ => 0)).map (·.1) = (b_W (tb_T 5) (b_ad ad O) (b_ln NN O) cT (fun _ => 0) (fun _ _ => 0) (fun _ _ => 0)).map (·.1) := rfl
  exact kk H1 locs1 ls ⟨⟨F, J, hP9⟩, r_Dmap hm hP2, hP3⟩ hS1 hlv
theorem b_5Z {x : ac_X} {g : b_S} {l : Launch} {C : String} {cc : ByteArray} {nL rk : Nat} {O0 : Nat × Nat} (Z : b_Cx x g l C cc nL rk O0) : b_Cx x (b_5 g) l C cc nL rk O0 := by
  obtain ⟨p, l', e, R, s, m, args, below, meth, cd, Q⟩ := x
  obtain ⟨t, D, ad, NN, cT, adK, adV, A, up⟩ := g
  obtain ⟨CC, K, hR⟩ := Z
  exact ⟨CC, ⟨okT 5, K.2⟩, hR⟩
theorem so_open {l : Launch} {g : b_S} {c : Nat} (hg : g.1 = tb_T c) (v : Int32) (M : Nat → Int32) (O : Nat × Nat) (sz sm : Nat) : Met l yX8_open (.code yX8_open cX8_open 3 none :: ac_tbl) (b_room 0 O) (va_Pc [.ref (b_o g 4), .ref (b_o g 5), .int v] (b_Pre g sz sm M O)) (va_Qv (fun (_ : Unit) => True) (fun _ t => b_Post (b_5 g) sz sm O (um M 48 v, O) t) (b_A g)) (b_mc O) (b_ms O) (b_A g) := by
  refine Met.ofW (cc := cX8_open) (maxL := 3) (ret := none) (by decide) rfl ?_
  intro p e s m args below meth cd s₁ B hml hv
  obtain ⟨rfl, hP, hK, rfl, rfl⟩ := hv
  have hts := atoms_spec (ws := .code yX8_open cX8_open 3 none :: ac_tbl) B.pre
  have hown : s.vm.findClass RX8 = some m.cls := findClass_of_methodNamed B.named
  have hl := lv_entry [.ref (b_o g 4), .ref (b_o g 5), .int v] (n := 3) (Nat.le_of_ble_eq_true rfl)
  rw [lg_entry_eq]
  refine ac_zero O ?_
  have key : ∀ Qx : State → Prop, (∀ (H : Heap) (locs : List Loc) (ls : Array Slot), b_P (b_5 g) O (um M 48 v) O H → va_S (b_A g) s.heap H locs → W p l e (b_room 0 O) s m [.ref (b_o g 4), .ref (b_o g 5), .int v].toArray below meth cd H locs (b_cc O O) (b_cs O O) Qx (F0 m 10 ls [])) → ac_G (p, l, e, b_room 0 O, s, m, [.ref (b_o g 4), .ref (b_o g 5), .int v].toArray, below, meth, cd, Qx) (b_A g) 3 (b_P g O M O) (b_cc O O) (b_cs O O) 0 [(0, .ref (b_o g 4)), (1, .ref (b_o g 5)), (2, .int v)] [] := by
    intro Qx hend
    have Z : b_Cx (p, l, e, b_room 0 O, s, m, [.ref (b_o g 4), .ref (b_o g 5), .int v].toArray, below, meth, cd, Qx) g l RX8 cX8_open 3 0 O := ⟨⟨B.exec, B.bytes, hml, hown, fun w hw => hts w (List.mem_cons_of_mem _ hw)⟩, hK, rfl, rfl⟩
    refine ac_aload_n Z.1 0 dX8_open_0 rfl ?_
    refine ac_aload_n Z.1 1 dX8_open_1 rfl ?_
    refine b_putp hg Z rfl rfl dX8_open_2 ?_
    refine ac_aload_n Z.1 0 dX8_open_5 rfl ?_
    refine ac_iload_n Z.1 2 dX8_open_6 rfl ?_
    refine b_put (g := b_5 g) (b_5Z Z) b_X8 4 rfl 8 (by decide) (by decide) rfl rfl rfl fX8_44 rfl (I := 48) rfl dX8_open_7 ?_
    intro H locs ls hP' hS' _
    exact hend H locs ls hP' hS'
  refine key _ (fun H locs ls hP' hS' => ?_) s.heap [] _ hP va_S.rf hl
  refine ac_know (fun k1 k2 => ?_)
  have hwd := b_wid hP'
  refine W.widen hwd.1 hwd.2 ?_
  exact W.vret B.exec B.bytes B.returns (fun t ht hW => ⟨⟨(), rfl, trivial, by show b_Post (b_5 g) s.heap.size (hsum s.heap) O (um M 48 v, O) t; unfold b_Post; rw [ht]; exact ⟨hP', k1, k2⟩⟩, by rw [va_F, ht]; exact ⟨hS'.1, hS'.2.1⟩⟩) hS'.2.2 dX8_open_10
theorem b_callo {x : ac_X} {g : b_S} {l : Launch} {cc0 : ByteArray} {nL0 rk0 c : Nat} {O0 O : Nat × Nat} {M : Nat → Int32} {pc : Nat} {lv : List (Nat × Value)} {st : List Value} (hg : g.1 = tb_T c) (Z : b_Cx x g l RX11 cc0 nL0 rk0 O0) {v : Int32} (hk : 1 ≤ rk0) (hr : (st.map fun v => v.category).sum ≤ 8) (hd : decode cc0 pc = .ok (.invokevirtual 101, 3)) (kk : ac_G x (b_A g) nL0 (b_P (b_5 g) O0 (um M 48 v) O) (b_cc O0 O) (b_cs O0 O) (pc + 3) lv st) : b_G x g nL0 O0 M O pc lv (.int v :: .ref (b_o g 5) :: .ref (b_o g 4) :: st) := by
  obtain ⟨p, l', e, R, s, m, args, below, meth, c9, Q0⟩ := x
  obtain ⟨C, K, hR, rfl⟩ := Z
  obtain ⟨w1, w2, w3, w4, w5, w6, w7, w8, w9⟩ := kX8_open
  have hb := b_callB (O := O) (own := RX11) (index := 101) (rk := 0) C.2.2.2.2 hR (by omega) (by rw [w1]; exact w2) (by rw [w1]; exact w3) w4 w5 (by rw [w1]; exact w8) w9 lX11_101
  have K : b_K g s := K
  intro H locs ls hP hS hlv
  obtain ⟨p1, p2, p3⟩ := b_Pin hP
  have hsm := b_sum p2 p3
  have hRc : R.cells = b_mc O0 ∧ R.slots = b_ms O0 := by rw [show R = b_room rk0 O0 from hR]; exact ⟨rfl, rfl⟩
  refine ac_know (fun k1 k2 => ?_)
  refine va_callv (va_runV (As := [.ref (b_o g 5), .int v]) (rest := st) (b := b_o g 4) C (so_open hg v M O H.size (hsum H)) ⟨hb, C.2.2.2.2 _ w6, C.2.2.2.2 _ w7⟩ (by exact ⟨b_blind, b_recv K hP (ci := 8) rfl (i := 4) (c := 4) (off := 40) (n := 16) (by rw [hg]; rfl) rfl, fun U hU hW => ⟨rfl, by show b_P g O M O U.heap; rw [hU]; exact p1, b_K.go hW (by rw [hU]; exact hS.1) (by rw [hU]; exact hS.2.1) K, by rw [hU], by rw [hU]⟩⟩) rfl rfl hlv.1 rfl (lv_room hr) hd ⟨by rw [hRc.1]; exact hsm.1, by rw [hRc.2]; exact hsm.2⟩) hS (fun q _ h9 => h9) (fun q h9 => h9) (fun u t H1 locs1 ht hvm hq hB hz1 hk1 hS1 => ?_)
  obtain ⟨q1, q2, q3⟩ := hB
  rw [ht] at q1 q2 q3
  have q2' : H1.size ≤ H.size + b_cc O O := q2
  have q3' : hsum H1 ≤ hsum H + b_cs O O := q3
  rw [b_cc0] at q2'
  rw [b_cs0] at q3'
  refine ac_recount (b_cc O0 O) (b_cs O0 O) (by omega) (by omega) ?_
  exact kk H1 locs1 ls (b_Pup p2 q1) hS1 hlv
theorem s_trialX {x : ac_X} {g : b_S} {l : Launch} {c : Nat} (hg : g.1 = tb_T c) (hN : tN (b_N g)) {M : Nat → Int32} {O : Nat × Nat} (hI : tI (b_N g) M O) (Z : b_Cx x g l RX11 cX11_trial 5 16 O) (p1 p2 p3 p4 : Int32) (hr0 : ∀ (pc : Nat) (lv : List (Nat × Value)) (r : Int32), decode cX11_trial pc = .ok (.ireturn, 1) → b_G x g 5 O M O pc lv [.int r]) (hr5 : ∀ (pc : Nat) (lv : List (Nat × Value)) (r : Int32) (M' : Nat → Int32) (O' : Nat × Nat), decode cX11_trial pc = .ok (.ireturn, 1) → tI (b_N g) M' O' → M' 1 = M 1 → ac_G x (b_A g) 5 (b_P (b_5 g) O M' O') (b_cc O O') (b_cs O O') pc lv [.int r]) : b_G x g 5 O M O 0 [(0, .ref (b_o g 0)), (1, .int p1), (2, .int p2), (3, .int p3), (4, .int p4)] [] := by
  have h29 : b_G x g 5 O M O 29 [(0, .ref (b_o g 0)), (1, .int p1), (2, .int p2), (3, .int p3), (4, .int p4)] [] := by
    refine ac_iconst (v := (-1)) Z.1 dX11_trial_29 (by decide) ?_
    exact hr0 _ _ _ dX11_trial_30
  refine ac_iload_n Z.1 1 dX11_trial_0 rfl ?_
  refine ac_if_lt (tgt := 29) Z.1 dX11_trial_1 (by decide) (fun _ => h29) (fun _ => ?_)
  refine ac_iload_n Z.1 1 dX11_trial_4 rfl ?_
  refine ac_aload_n Z.1 0 dX11_trial_5 rfl ?_
  refine b_getr Z b_X11 0 (oT_0 hg) 2 (by decide) (by decide) (fT_2 hg) fX11_18 rfl rfl dX11_trial_6 ?_
  refine b_geti Z b_X6 5 (oT_5 hg) 4 (by decide) (by decide) (fT_64 hg) fX11_92 rfl (v := M 64) rfl dX11_trial_9 ?_
  refine ac_icmp_ge (tgt := 29) Z.1 dX11_trial_12 (by decide) (fun _ => h29) (fun _ => ?_)
  refine ac_iload Z.1 4 dX11_trial_15 rfl ?_
  refine ac_iconst (v := 1) Z.1 dX11_trial_17 (by decide) ?_
  refine ac_icmp_lt (tgt := 29) Z.1 dX11_trial_18 (by decide) (fun _ => h29) (fun _ => ?_)
  refine ac_iload Z.1 4 dX11_trial_21 rfl ?_
  refine ac_sipush (v := 5000) Z.1 dX11_trial_23 (by decide) ?_
  refine ac_icmp_le (tgt := 31) Z.1 dX11_trial_26 (by decide) (fun _ => ?_) (fun _ => h29)
  refine ac_aload_n Z.1 0 dX11_trial_31 rfl ?_
  refine b_getr Z b_X11 0 (oT_0 hg) 6 (by decide) (by decide) (fT_6 hg) fX11_39 rfl rfl dX11_trial_32 ?_
  refine b_callv Z (ci := 5) rfl 3 (oT_3 hg) rfl kX5_open lX11_95 (rk := 0) (by decide) (As := []) (soT_X5_open hg M O _ (spT_X5_open hN hI (fun M' O' i k => (show tI (b_N g) M' O' ∧ M' 1 = M 1 from ⟨i, k⟩)))) rfl rfl (Nat.zero_le _) dX11_trial_35 (fun M1 O1 h1 => ?_)
  refine ac_aload_n Z.1 0 dX11_trial_38 rfl ?_
  refine b_getr Z b_X11 0 (oT_0 hg) 5 (by decide) (by decide) (fT_5 hg) fX11_32 rfl rfl dX11_trial_39 ?_
  refine b_callv Z (ci := 2) rfl 2 (oT_2 hg) rfl kX2_openTrial lX11_98 (rk := 0) (by decide) (As := []) (soT_X2_openTrial hg M1 O1 _ (spT_X2_openTrial hN h1.1 (fun M' O' i k => (show tI (b_N g) M' O' ∧ M' 1 = M 1 from ⟨i, k.trans h1.2⟩)))) rfl rfl (Nat.zero_le _) dX11_trial_42 (fun M2 O2 h2 => ?_)
  refine ac_aload_n Z.1 0 dX11_trial_45 rfl ?_
  refine b_getr Z b_X11 0 (oT_0 hg) 7 (by decide) (by decide) (fT_7 hg) fX11_48 rfl rfl dX11_trial_46 ?_
  refine ac_aload_n Z.1 0 dX11_trial_49 rfl ?_
  refine b_getr Z b_X11 0 (oT_0 hg) 2 (by decide) (by decide) (fT_2 hg) fX11_18 rfl rfl dX11_trial_50 ?_
  refine ac_iload Z.1 4 dX11_trial_53 rfl ?_
  refine b_callo hg Z (by decide) (Nat.zero_le _) dX11_trial_55 ?_
  have Z5 := b_5Z Z
  have hI5 : tI (b_N g) (um M2 48 p4) O2 := h2.1
  refine ac_aload_n Z.1 0 dX11_trial_58 rfl ?_
  refine b_getr (g := b_5 g) Z5 b_X11 0 rfl 8 (by decide) (by decide) rfl fX11_57 rfl rfl dX11_trial_59 ?_
  refine ac_iload_n Z.1 1 dX11_trial_62 rfl ?_
  refine ac_iload_n Z.1 2 dX11_trial_63 rfl ?_
  refine ac_iload_n Z.1 3 dX11_trial_64 rfl ?_
  refine b_callv (g := b_5 g) Z5 (ci := 0) rfl 1 rfl rfl kX0_conduct lX11_104 (rk := 14) (by decide) (As := [.int p1, .int p2, .int p3]) (soT_X0_conduct (g := b_5 g) rfl p1 p2 p3 (um M2 48 p4) O2 _ (spT_X0_conduct hN p1 p2 p3 hI5 (fun M' O' i k => (show tI (b_N g) M' O' ∧ M' 1 = M 1 from ⟨i, k.trans h2.2⟩)))) rfl rfl (Nat.zero_le _) dX11_trial_65 (fun M3 O3 h3 => ?_)
  refine ac_aload_n Z.1 0 dX11_trial_68 rfl ?_
  refine b_getr (g := b_5 g) Z5 b_X11 0 rfl 6 (by decide) (by decide) rfl fX11_39 rfl rfl dX11_trial_69 ?_
  refine b_geti (g := b_5 g) Z5 b_X5 3 rfl 2 (by decide) (by decide) rfl fX11_108 rfl (v := M3 32) rfl dX11_trial_72 ?_
  exact hr5 _ _ _ M3 O3 dX11_trial_75 h3.1 h3.2
theorem cl_trial {l : Launch} {D : va_G} {cT : Nat → ClassId} {adK adV : Nat → Nat} {h : Nat} {u : cl_S} (ok : cl_ok h u) (p1 p2 p3 p4 : Int32) : cl_Met l D cT adK adV yX11_trial cX11_trial 5 .int 16 (b_mc (cl_O u)) (b_ms (cl_O u)) 0 0 h [.int p1, .int p2, .int p3, .int p4] u (fun _ f => f = cl_f u) := by
  intro sz sm
  have := ok.1
  subst this
  refine Met.ofW (cc := cX11_trial) (maxL := 5) (ret := some .int) (by decide) rfl ?_
  intro p e s m args below meth cd s₁ B hml hv
  obtain ⟨rfl, hv⟩ := hv
  obtain ⟨hP, hK, rfl, rfl⟩ := cl_pre ok hv
  have hts := atoms_spec (ws := .code yX11_trial cX11_trial 5 (some .int) :: ac_tbl) B.pre
  have hown : s.vm.findClass RX11 = some m.cls := findClass_of_methodNamed B.named
  have hl := lv_entry [.ref (u.2.1 0), .int p1, .int p2, .int p3, .int p4] (n := 5) (Nat.le_of_ble_eq_true rfl)
  rw [lg_entry_eq]
  refine ac_zero (cl_O u) ?_
  refine s_trialX (x := (p, l, e, b_room 16 (cl_O u), s, m, _, below, meth, cd, _)) (g := cl_g D cT adK adV u s.heap.size) (c := u.1) rfl ok.2.1 ok.2.2 ⟨⟨B.exec, B.bytes, hml, hown, fun w hw => hts w (List.mem_cons_of_mem _ hw)⟩, hK, rfl, rfl⟩ p1 p2 p3 p4 ?_ ?_ s.heap [] _ hP va_S.rf hl
  · intro pc lv r hd H locs ls hP' hS' _
    refine ac_know (fun k1 k2 => ?_)
    have hwd := b_wid hP'
    refine W.widen hwd.1 hwd.2 ?_
    obtain ⟨⟨F', J', hP1⟩, hD1, hO, hO7⟩ := hP'
    exact W.zret (v := r) (ty := .int) B.exec B.bytes B.returns rfl (fun t ht hW => ⟨⟨r, (u.1, u.2.1, cl_N u, cl_M u, F', J', cl_O u), rfl, ⟨ok, rfl⟩, ⟨by rw [ht]; exact hP1, b_Dgo hD1⟩, Nat.le_refl _, by rw [ht]; exact k1, by rw [ht]; exact k2⟩, by rw [va_F, ht]; exact ⟨hS'.1, hS'.2.1⟩⟩) hS'.2.2 hd
  · intro pc lv r M' O' hd hI' hf H locs ls hP' hS' _
    refine ac_know (fun k1 k2 => ?_)
    have hwd := b_wid hP'
    refine W.widen hwd.1 hwd.2 ?_
    obtain ⟨⟨F', J', hP1⟩, hD1, hO, hO7⟩ := hP'
    exact W.zret (v := r) (ty := .int) B.exec B.bytes B.returns rfl (fun t ht hW => ⟨⟨r, (5, u.2.1, cl_N u, M', F', J', O'), rfl, ⟨⟨rfl, ok.2.1, hI'⟩, hf⟩, ⟨by rw [ht]; exact hP1, b_Dgo hD1⟩, hO, by rw [ht]; exact k1, by rw [ht]; exact k2⟩, by rw [va_F, ht]; exact ⟨hS'.1, hS'.2.1⟩⟩) hS'.2.2 hd
