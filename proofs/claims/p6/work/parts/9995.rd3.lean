set_option maxRecDepth 40000 in
theorem s_readX {x : ac_X} {D : va_G} {cT : Nat → ClassId} {A : Nat → Prop} {l : Launch} {adK adV : Nat → Nat} {c n : Nat} {ad N : Nat → Nat} {O : Nat × Nat} {M : Nat → Int32} {F : Nat → Nat → Int32} {J : Nat → Nat → Int64} (Z : nw_Cx x D cT A l RX11 cX11_read 4 (nw_room 320 19 (15 + rd_ms n))) (E : rd_env x adK adV A) (hn : n ≤ 4000) (hle : (n : Int) ≤ (M 1).toInt) (hN : tN N) (hI : tI N M O)
    (hend : ∀ (u : cl_S) (r : Int32) (lv : List (Nat × Value)), cl_ok (ad 0) u → cl_f u = 0 → cl_O u = O → ac_G x A 4 (nw_P D A (cl_w cT u)) 19 (15 + rd_ms n) 73 lv [.int r]) :
    ac_G x A 4 (nw_P D A (b_W (tb_T c) (b_ad ad O) (b_ln N O) cT M F J)) 0 0 0 [(0, .ref (ad 0)), (1, .int (nI n))] [] := by
  have en : (nI n).toInt = (n : Int) := nI_toInt (by omega)
  refine ac_iload_n Z.1 1 dX11_read_0 rfl ?_
  refine ac_if_lt (tgt := 12) Z.1 dX11_read_1 (by decide) (fun hc => absurd hc (nI_pos (by omega))) (fun _ => ?_)
  refine ac_iload_n Z.1 1 dX11_read_4 rfl ?_
  refine ac_aload_n Z.1 0 dX11_read_5 rfl ?_
  refine nw_get Z b_X11 0 rfl 1 (by decide) fX11_61 (v := .int (M 1)) rfl dX11_read_6 ?_
  refine ac_icmp_le (tgt := 14) Z.1 dX11_read_9 (by decide) (fun _ => ?_) (fun hc => absurd (Int32.le_iff_toInt_le.mpr (by omega)) hc)
  refine nw_new (fs := [.null, .null, .null, .null, .null, .null, .null, .null, .int 0, .int 0, .int 0, .int 0, .int 0, .int 0, .int 0]) Z b_X7 cX11_67 niX7 nzX7 ndfX7 (by show _ ≤ 19; omega) (by show _ ≤ 15 + rd_ms n; omega) dX11_read_14 (fun q => ?_)
  refine ac_dup Z.1 dX11_read_17 rfl ?_
  refine ac_aload_n Z.1 0 dX11_read_18 rfl ?_
  refine nw_get Z b_X11 0 rfl 0 (by decide) fX11_9 (v := .ref (ad 10)) rfl dX11_read_19 ?_
  refine ac_iload_n Z.1 1 dX11_read_22 rfl ?_
  refine nw_ctor (wr := b_W (tb_T c) (b_ad ad O) (b_ln N O) cT M F J) Z (ck_X7_init l D cT q (ad 10) n (by omega)) nkX7 lX11_69 (Nat.le_of_ble_eq_true rfl) (Nat.le_of_ble_eq_true rfl) (by show _ ≤ 19; omega) (by show _ ≤ 15 + rd_ms n; unfold rd_ms; omega) rfl rfl (Nat.le_of_ble_eq_true rfl) dX11_read_23 (fun v => ?_)
  refine nw_cnt (cs' := 19) (ss' := 15 + rd_ms n) rfl (by unfold rd_ms; omega) ?_
  refine ac_astore_n (lv' := [(2, .ref q), (0, .ref (ad 0)), (1, .int (nI n))]) Z.1 dX11_read_26 (by decide) rfl ?_
  refine nw_perm [0, 1, 2, 3, 4, 5, 7, 8, 9, 10, 11, 12, 13, 14, 15, 16, 17, 18, 19, 20, 22, 26, 30, 6, 23, 24, 25, 28, 29, 27, 33, 31, 32, 34, 35, 36, 37, 38, 21] (nw_fm (rd_reg rfl)) (by decide) (rd_reg rfl) ?_
  have hRN : rN (rd_N (N 10) n) := rd_rN hN.1 hn
  refine ac_aload_n Z.1 0 dX11_read_27 rfl ?_
  refine nw_cbR (ad := rd_ad q (ad 10) v) (N := rd_N (N 10) n) (k0 := 3) (rt := .object "AppealCourt$Program") (rk := 6 * 22 + 60 + 5 * 22 + 11) (Q := fun M' O' => rI (rd_N (N 10) n) M' O') (As := []) (n := 0) Z E (fun A' up => ck_readText (g := (tb_R, D, rd_ad q (ad 10) v, rd_N (N 10) n, cT, adK, adV, A', up)) rfl hRN (rd_M n) (0, 7) (rd_rI hn) rfl) kX7_readText lX11_72 (by show _ ≤ 320; omega) (by show _ ≤ 40 * 320; omega) (by show _ ≤ 19; omega) (by show _ ≤ 15 + rd_ms n; omega) rfl rfl (Nat.zero_le _) dX11_read_28 (fun M1 F1 J1 h1 => ?_)
  obtain ⟨O1, h1⟩ := h1
  refine ac_astore_n (lv' := [(3, .ref (v.1 9)), (2, .ref q), (0, .ref (ad 0)), (1, .int (nI n))]) Z.1 dX11_read_31 (by decide) rfl ?_
  refine ac_aload_n Z.1 2 dX11_read_32 rfl ?_
  refine ac_iconst (v := 0) Z.1 dX11_read_33 (by decide) ?_
  refine nw_put Z b_X11 0 (h := ad 0) (fs := b_fs (rd_tb c) (b_ad ad O) M 0 9) rfl 1 (by decide) fX11_61 rfl rfl rfl (by rw [b_fs_len]; decide) dX11_read_34 (rd_put 0 (Or.inl rfl)) ?_
  refine ac_aload_n Z.1 2 dX11_read_37 rfl ?_
  refine ac_aload_n Z.1 1 dX11_read_38 rfl ?_
  refine nw_cbI (ad := rd_ad q (ad 10) v) (N := rd_N (N 10) n) (rk := 0) (As := []) (n := 0) Z E (fun A' up => soR_X7_faultFound (g := (tb_R, D, rd_ad q (ad 10) v, rd_N (N 10) n, cT, adK, adV, A', up)) rfl M1 (0, 7) _ (spR_X7_faultFound hRN h1 (fun r => (show rI (rd_N (N 10) n) M1 (0, 7) from h1)))) kX7_faultFound lX11_76 (by show _ ≤ 320; omega) (by show _ ≤ 40 * 320; omega) (by show _ ≤ 19; omega) (by show _ ≤ 15 + rd_ms n; omega) rfl rfl (Nat.le_of_ble_eq_true rfl) dX11_read_39 (fun r2 M2 F2 J2 h2 => ?_)
  obtain ⟨O2, h2⟩ := h2
  refine nw_put Z b_X11 0 (h := ad 0) (fs := b_fs (rd_tb c) (b_ad ad O) (um M 1 0) 0 9) rfl 3 (by decide) fX11_22 rfl rfl rfl (by rw [b_fs_len]; decide) dX11_read_42 (rd_put r2 (Or.inr (Or.inl rfl))) ?_
  refine ac_aload_n Z.1 2 dX11_read_45 rfl ?_
  refine ac_aload_n Z.1 1 dX11_read_46 rfl ?_
  refine ac_aload_n Z.1 2 dX11_read_47 rfl ?_
  refine nw_get Z b_X11 0 rfl 3 (by decide) fX11_22 (v := .int r2) rfl dX11_read_48 ?_
  refine nw_cbI (ad := rd_ad q (ad 10) v) (N := rd_N (N 10) n) (rk := 0) (As := [.int r2]) (n := 1) Z E (fun A' up => soR_X7_placeOfFault (g := (tb_R, D, rd_ad q (ad 10) v, rd_N (N 10) n, cT, adK, adV, A', up)) rfl r2 M2 (0, 7) _ (spR_X7_placeOfFault hRN r2 h2 (fun r => (show rI (rd_N (N 10) n) M2 (0, 7) from h2)))) kX7_placeOfFault lX11_80 (by show _ ≤ 320; omega) (by show _ ≤ 40 * 320; omega) (by show _ ≤ 19; omega) (by show _ ≤ 15 + rd_ms n; omega) rfl rfl (Nat.le_of_ble_eq_true rfl) dX11_read_51 (fun r3 M3 F3 J3 h3 => ?_)
  obtain ⟨O3, h3⟩ := h3
  refine nw_put Z b_X11 0 (h := ad 0) (fs := b_fs (rd_tb c) (b_ad ad O) (um (um M 1 0) 3 r2) 0 9) rfl 4 (by decide) fX11_26 rfl rfl rfl (by rw [b_fs_len]; decide) dX11_read_54 (rd_put r3 (Or.inr (Or.inr rfl))) ?_
  have z0 : (0 : Int32).toInt = 0 := by decide
  obtain ⟨n1, n2, n3, n4, n5, n6, n7, n8, n9, n10, n11, n12, n13⟩ := (show tN N from hN)
  obtain ⟨i1, i2, i3, i4, i5, i6, i7⟩ := (show tI N M O from hI)
  refine ac_aload_n Z.1 2 dX11_read_57 rfl ?_
  refine nw_get Z b_X11 0 rfl 3 (by decide) fX11_22 (v := .int r2) rfl dX11_read_58 ?_
  refine ac_if_ne (tgt := 69) Z.1 dX11_read_61 (by decide) (fun _ => ?_) (fun _ => ?_)
  · refine ac_aload_n Z.1 2 dX11_read_69 rfl ?_
    refine nw_get Z b_X11 0 rfl 3 (by decide) fX11_22 (v := .int r2) rfl dX11_read_70 ?_
    refine nw_perm [0, 1, 2, 3, 4, 5, 23, 6, 7, 8, 9, 10, 11, 12, 13, 14, 15, 16, 17, 18] (nw_fm rd_bk0) (by decide) rd_bk0 ?_
    exact hend (c, ad, N, um (um (um M 1 0) 3 r2) 4 r3, rd_F1 F F3, J, O) r2 _ ⟨rfl, hN, ⟨(show 0 ≤ (0 : Int32).toInt ∧ (0 : Int32).toInt ≤ 4000 from by decide), i2, i3, i4, i5, i6, i7⟩⟩ rfl rfl
  · refine ac_aload_n Z.1 2 dX11_read_64 rfl ?_
    refine ac_aload_n Z.1 0 dX11_read_65 rfl ?_
    refine nw_put Z b_X11 0 (h := ad 0) (fs := b_fs (rd_tb c) (b_ad ad O) (um (um (um M 1 0) 3 r2) 4 r3) 0 9) rfl 2 (by decide) fX11_18 rfl rfl rfl (by rw [b_fs_len]; decide) dX11_read_66 rfl ?_
    refine ac_aload_n Z.1 2 dX11_read_69 rfl ?_
    refine nw_get Z b_X11 0 rfl 3 (by decide) fX11_22 (v := .int r2) rfl dX11_read_70 ?_
    refine nw_perm [0, 1, 2, 3, 4, 22, 23, 6, 7, 8, 9, 10, 11, 12, 13, 14, 15, 30, 31, 32] (nw_fm rd_bk1) (by decide) rd_bk1 ?_
    refine hend (6, rd_a2 c ad O v, rd_N2 N n, rd_M2 (um (um (um M 1 0) 3 r2) 4 r3) M3, rd_F2 F F3, J, O) r2 _ ⟨rfl, ?_, ?_⟩ rfl rfl
    · exact ⟨n1, n2, n3, n4, n5, n6, n7, n8, n9, n10, (show 2 * n + 16 < 1000000 from by omega), rfl, rfl⟩
    · exact ⟨(show 0 ≤ (0 : Int32).toInt ∧ (0 : Int32).toInt ≤ 4000 from by decide), i2, i3, i4, i5, h3.2.2.2.2.2.1, i7⟩
theorem cl_read1 {l : Launch} {D : va_G} {cT : Nat → ClassId} {adK adV : Nat → Nat} {h : Nat} {u : cl_S} (ok : cl_ok h u) (n : Nat) (hle : (n : Int) ≤ (cl_f u).toInt) : cl_Met l D cT adK adV yX11_read cX11_read 4 .int 320 19 (15 + rd_ms n) 19 (15 + rd_ms n) h [.int (nI n)] u (fun _ f => f = 0) := by
  intro sz sm
  have := ok.1
  subst this
  refine Met.ofW (cc := cX11_read) (maxL := 4) (ret := some .int) (by decide) rfl ?_
  intro p e s m args below meth cd s₁ B hml hv
  obtain ⟨rfl, ⟨hP, hD⟩, hK, hSt, hKt, hNe, rfl, rfl⟩ := hv
  have hts := atoms_spec (ws := .code yX11_read cX11_read 4 (some .int) :: ac_tbl) B.pre
  have hown : s.vm.findClass RX11 = some m.cls := findClass_of_methodNamed B.named
  have hl := lv_entry [.ref (u.2.1 0), .int (nI n)] (n := 4) (Nat.le_of_ble_eq_true rfl)
  rw [lg_entry_eq]
  have hfle : (cl_f u).toInt ≤ 4000 := ok.2.2.1.2
  refine s_readX (x := (p, l, e, nw_room 320 19 (15 + rd_ms n), s, m, _, below, meth, cd, _)) (A := va_A (cl_w cT u) s.heap.size) (D := D) (cT := cT) (adK := adK) (adV := adV) (c := u.1) (ad := u.2.1) (N := cl_N u) (O := cl_O u) (M := cl_M u) (F := u.2.2.2.2.1) (J := u.2.2.2.2.2.1) ⟨⟨B.exec, B.bytes, hml, hown, fun w hw => hts w (List.mem_cons_of_mem _ hw)⟩, ⟨hK, ⟨fun q h => Or.inr h, hNe⟩, rfl⟩, rfl⟩ ⟨hSt, hKt⟩ (by omega) hle ok.2.1 ok.2.2 ?_ s.heap [] _ ⟨hP, hD.self⟩ va_S.rf hl
  intro u' r lv hok hf hO H locs ls hP' hS' _
  refine ac_know (fun k1 k2 => ?_)
  exact W.zret (v := r) (ty := .int) B.exec B.bytes B.returns rfl (fun t ht hW => ⟨⟨r, u', rfl, ⟨hok, hf⟩, ⟨by rw [ht]; exact hP'.1, hP'.2⟩, by rw [hO]; exact Nat.le_refl _, by rw [ht, hO, b_cc0]; exact k1, by rw [ht, hO, b_cs0]; exact k2⟩, by rw [va_F, ht]; exact ⟨hS'.1, hS'.2.1⟩⟩) hS'.2.2 dX11_read_73
theorem cl_read0 {l : Launch} {D : va_G} {cT : Nat → ClassId} {adK adV : Nat → Nat} {h : Nat} {u : cl_S} (ok : cl_ok h u) (a : Int32) (hr : a.toInt < 0 ∨ (cl_f u).toInt < a.toInt) : cl_Met l D cT adK adV yX11_read cX11_read 4 .int 0 0 0 0 0 h [.int a] u (fun _ f => f = cl_f u) := by
  intro sz sm
  have := ok.1
  subst this
  refine Met.ofW (cc := cX11_read) (maxL := 4) (ret := some .int) (by decide) rfl ?_
  intro p e s m args below meth cd s₁ B hml hv
  obtain ⟨rfl, ⟨hP, hD⟩, hK, hSt, hKt, hNe, rfl, rfl⟩ := hv
  have hts := atoms_spec (ws := .code yX11_read cX11_read 4 (some .int) :: ac_tbl) B.pre
  have hown : s.vm.findClass RX11 = some m.cls := findClass_of_methodNamed B.named
  have hl := lv_entry [.ref (u.2.1 0), .int a] (n := 4) (Nat.le_of_ble_eq_true rfl)
  rw [lg_entry_eq]
  have key : ∀ Qx : State → Prop, (∀ (H : Heap) (locs : List Loc) (ls : Array Slot), nw_P D (va_A (cl_w cT u) s.heap.size) (cl_w cT u) H → va_S (va_A (cl_w cT u) s.heap.size) s.heap H locs → W p l e (nw_room 0 0 0) s m [.ref (u.2.1 0), .int a].toArray below meth cd H locs 0 0 Qx (F0 m 13 ls [.int (-1)])) → ac_G (p, l, e, nw_room 0 0 0, s, m, [.ref (u.2.1 0), .int a].toArray, below, meth, cd, Qx) (va_A (cl_w cT u) s.heap.size) 4 (nw_P D (va_A (cl_w cT u) s.heap.size) (cl_w cT u)) 0 0 0 [(0, .ref (u.2.1 0)), (1, .int a)] [] := by
    intro Qx hend
    have Z : nw_Cx (p, l, e, nw_room 0 0 0, s, m, [.ref (u.2.1 0), .int a].toArray, below, meth, cd, Qx) D cT (va_A (cl_w cT u) s.heap.size) l RX11 cX11_read 4 (nw_room 0 0 0) := ⟨⟨B.exec, B.bytes, hml, hown, fun w hw => hts w (List.mem_cons_of_mem _ hw)⟩, ⟨hK, ⟨fun q h => Or.inr h, hNe⟩, rfl⟩, rfl⟩
    have h12 : ac_G (p, l, e, nw_room 0 0 0, s, m, [.ref (u.2.1 0), .int a].toArray, below, meth, cd, Qx) (va_A (cl_w cT u) s.heap.size) 4 (nw_P D (va_A (cl_w cT u) s.heap.size) (cl_w cT u)) 0 0 12 [(0, .ref (u.2.1 0)), (1, .int a)] [] := by
      refine ac_iconst (v := (-1)) Z.1 dX11_read_12 (by decide) ?_
      intro H locs ls hP' hS' _
      exact hend H locs ls hP' hS'
    refine ac_iload_n Z.1 1 dX11_read_0 rfl ?_
    refine ac_if_lt (tgt := 12) Z.1 dX11_read_1 (by decide) (fun _ => h12) (fun hc => ?_)
    refine ac_iload_n Z.1 1 dX11_read_4 rfl ?_
    refine ac_aload_n Z.1 0 dX11_read_5 rfl ?_
    refine nw_get Z b_X11 0 (h := u.2.1 0) (fs := b_fs (tb_T u.1) (b_ad u.2.1 (cl_O u)) (cl_M u) 0 9) rfl 1 (by decide) fX11_61 (v := .int (cl_M u 1)) rfl dX11_read_6 ?_
    refine ac_icmp_le (tgt := 14) Z.1 dX11_read_9 (by decide) (fun hc2 => ?_) (fun _ => h12)
    have g1 := ti_nlt hc
    have g2 := Int32.le_iff_toInt_le.mp hc2
    have z0 : (0 : Int32).toInt = 0 := by decide
    have g3 : a.toInt ≤ (cl_f u).toInt := g2
    omega
  refine key _ (fun H locs ls hP' hS' => ?_) s.heap [] _ ⟨hP, hD.self⟩ va_S.rf hl
  refine ac_know (fun k1 k2 => ?_)
  exact W.zret (v := (-1)) (ty := .int) B.exec B.bytes B.returns rfl (fun t ht hW => ⟨⟨-1, u, rfl, ⟨ok, rfl⟩, ⟨by rw [ht]; exact hP'.1, hP'.2⟩, Nat.le_refl _, by rw [ht, b_cc0]; exact k1, by rw [ht, b_cs0]; exact k2⟩, by rw [va_F, ht]; exact ⟨hS'.1, hS'.2.1⟩⟩) hS'.2.2 dX11_read_13
