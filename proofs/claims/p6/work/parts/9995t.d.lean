/-! THE CLASS'S READ, with what it leaves. -/
theorem ckF_readTextG {bk : Nat} (hbk : bk ≤ 1) {l : Launch} {D : va_G} {cT : Nat → ClassId} {adK adV ad : Nat → Nat} {A : Nat → Prop} {up n q b : Nat} {v : nw_U} {fb : Nat → Int32} (hb : b = 4000) (hn : n ≤ 4000) : f_MetR l (tb_R, D, rd_ad q (ad 10) v, rd_N b n, cT, adK, adV, A, up) 3 (.object "AppealCourt$Program") yX7_readText cX7_readText 2 (6 * 22 + 60 + 5 * 22 + 11) [.ref q] (rd_M n, rd_F (v.1, fun _ _ => -1) fb, fun _ _ => 0) (0, 7) (fun s' _ => ∃ x' : y_X, c_fin (rd_N b n) s' (yx x') ∧ finC s' x' ∧ e_fin x' ∧ ∀ r, is_a (yx x') r → RDG (fun i => fb i &&& 255) n bk r x') := by
  refine soF_X7_readText (g := (tb_R, D, rd_ad q (ad 10) v, rd_N b n, cT, adK, adV, A, up)) rfl (so_cb (g := (tb_R, D, rd_ad q (ad 10) v, rd_N b n, cT, adK, adV, A, up)) rfl 22) _ _ _ ?_
  refine c_readTextG hbk (N := rd_N b n) (T := fun i => fb i &&& 255) (n := n) ⟨rfl, hn, hb, fun i _ => rfl⟩ (fun i => x_255r _) ⟨rfl, rfl, rfl, ?_⟩ ⟨rfl, ?_, rfl, rfl, ?_⟩ ⟨?_, rfl, rfl, rfl, rfl, rfl⟩ ⟨rfl, Nat.zero_le _, rfl, rfl, ?_, fun i hi => absurd hi (by simp), fun j _ => rfl, fun i hi => absurd hi (by simp)⟩ rfl rfl (by show ¬ (0 : Int32) = 137; decide) rfl rfl rfl rfl rfl (fun _ => rfl) (fun _ => rfl) (fun _ => rfl) (fun s' x' h1 h2 h3 h4 => ⟨x', h1, h2, h3, h4⟩)
  · show 33 + n / 2 + 1 = 34 + n / 2; omega
  · show 2 * n + 16 < 1000000; omega
  · show 33 + n / 2 + 1 < 1000000; omega
  · show 33 + n / 2 + 1 = 34 + n / 2; omega
  · show 33 + n / 2 + 1 < 1000000; omega
/-- what a read leaves of the class's cells -/
def rd_post (bk n : Nat) (N : Nat → Nat) (M : Nat → Int32) (F : Nat → Nat → Int32) (r : Int32) (u : cl_S) : Prop := ∃ y : y_X, e_fin y ∧ RDG (fun i => F 10 i &&& 255) n bk r y ∧ ((∀ j, j ≠ 1 → j ≠ 3 → j ≠ 4 → j ≠ 63 → j ≠ 64 → cl_M u j = M j) ∧ ∀ k, k ≠ 10 → k ≠ 20 → k ≠ 21 → k ≠ 22 → u.2.2.2.2.1 k = F k) ∧ (¬ r = 0 → cl_M u 63 = M 63 ∧ cl_M u 64 = M 64 ∧ (u.2.2.2.2.1 20 = F 20 ∧ u.2.2.2.2.1 21 = F 21 ∧ u.2.2.2.2.1 22 = F 22) ∧ cl_N u = N) ∧ (r = 0 → finC (cl_M u, u.2.2.2.2.1, u.2.2.2.2.2.1) y ∧ (0 ≤ (cl_M u 63).toInt ∧ (cl_M u 63).toInt ≤ cl_N u 20))
theorem rd_F1_ne {F FR : Nat → Nat → Int32} {k : Nat} (h : k ≠ 10) : rd_F1 F FR k = F k := by
  have e : Nat.beq k 10 = false := by
    cases q : Nat.beq k 10 with
    | true => exact absurd (Nat.eq_of_beq_eq_true q) h
    | false => rfl
  unfold rd_F1
  rw [e]; rfl
theorem rd_beq {k j : Nat} (h : k ≠ j) : Nat.beq k j = false := by
  cases q : Nat.beq k j with
  | true => exact absurd (Nat.eq_of_beq_eq_true q) h
  | false => rfl
theorem rd_F2_ne {F FR : Nat → Nat → Int32} {k : Nat} (h : k ≠ 10) (h20 : k ≠ 20) (h21 : k ≠ 21) (h22 : k ≠ 22) : rd_F2 F FR k = F k := by
  unfold rd_F2
  rw [rd_beq h, rd_beq h20, rd_beq h21, rd_beq h22]; rfl
theorem rd_M2_ne {M MR : Nat → Int32} {k : Nat} (h : k ≠ 63) (h' : k ≠ 64) : rd_M2 M MR k = M k := by
  unfold rd_M2
  rw [rd_beq h, rd_beq h']; rfl
theorem rd_nz {r : Int32} (h : ¬ r = 0) : ¬ r = 0 := h
theorem rd_zz {r : Int32} (h : r = 0) : r = 0 := h
set_option maxRecDepth 40000 in
theorem s_readW {bk : Nat} (hbk : bk ≤ 1) {x : ac_X} {D : va_G} {cT : Nat → ClassId} {A : Nat → Prop} {l : Launch} {adK adV : Nat → Nat} {c n : Nat} {ad N : Nat → Nat} {O : Nat × Nat} {M : Nat → Int32} {F : Nat → Nat → Int32} {J : Nat → Nat → Int64} (Z : nw_Cx x D cT A l RX11 cX11_read 4 (nw_room 320 19 (15 + rd_ms n))) (E : rd_env x adK adV A) (hn : n ≤ 4000) (hle : (n : Int) ≤ (M 1).toInt) (hN : tN N) (hI : tI N M O)
    (hend : ∀ (u : cl_S) (r : Int32) (lv : List (Nat × Value)), cl_ok (ad 0) u → cl_f u = 0 → cl_O u = O → rd_post bk n N M F r u → ac_G x A 4 (nw_P D A (cl_w cT u)) 19 (15 + rd_ms n) 73 lv [.int r]) :
    ac_G x A 4 (nw_P D A (b_W (tb_T c) (b_ad ad O) (b_ln N O) cT M F J)) 0 0 0 [(0, .ref (ad 0)), (1, .int (nI n))] [] := by
  have en : (nI n).toInt = (n : Int) := nI_toInt (by omega)
  refine ac_iload_n Z.1 1 dX11_read_0 rfl ?_
  refine ac_if_lt (tgt := 12) Z.1 dX11_read_1 (by decide) (fun hc => absurd hc (nI_pos (by omega))) (fun _ => ?_)
  refine ac_iload_n Z.1 1 dX11_read_4 rfl ?_
  refine ac_aload_n Z.1 0 dX11_read_5 rfl ?_
  refine nw_get Z b_X11 0 rfl 1 (by decide) fX11_61 (v := .int (M 1)) rfl dX11_read_6 ?_
  refine ac_icmp_le (tgt := 14) Z.1 dX11_read_9 (by decide) (fun _ => ?_) (fun hc => absurd (Int32.le_iff_toInt_le.mpr (by omega)) hc)
  refine nw_new (fs := [.null, .null, .null, .null, .null, .null, .null, .null, .int 0, .int 0, .int 0, .int 0, .int 0, .int 0, .int 0]) Z b_X7 cX11_67 niX7 nzX7 ndfX7 (by show _ ≤ 19; omega) (by show _ ≤ 15 + rd_ms n; omega) dX11_read_14 (fun q => ?_)
  refine ac_dup Z.1 dX11_read_17 rfl ?_
  refine ac_aload_n Z.1 0 dX11_read_18 rfl ?_
  refine nw_get Z b_X11 0 rfl 0 (by decide) fX11_9 (v := .ref (ad 10)) rfl dX11_read_19 ?_
  refine ac_iload_n Z.1 1 dX11_read_22 rfl ?_
  refine nw_ctor (wr := b_W (tb_T c) (b_ad ad O) (b_ln N O) cT M F J) Z (ckV_X7_init l D cT q (ad 10) n (by omega)) nkX7 lX11_69 (Nat.le_of_ble_eq_true rfl) (Nat.le_of_ble_eq_true rfl) (by show _ ≤ 19; omega) (by show _ ≤ 15 + rd_ms n; unfold rd_ms; omega) rfl rfl (Nat.le_of_ble_eq_true rfl) dX11_read_23 (fun v => ?_)
  refine nw_cnt (cs' := 19) (ss' := 15 + rd_ms n) rfl (by unfold rd_ms; omega) ?_
  refine ac_astore_n (lv' := [(2, .ref q), (0, .ref (ad 0)), (1, .int (nI n))]) Z.1 dX11_read_26 (by decide) rfl ?_
  refine nw_perm [0, 1, 2, 3, 4, 5, 7, 8, 9, 10, 11, 12, 13, 14, 15, 16, 17, 18, 19, 20, 22, 26, 30, 6, 23, 24, 25, 28, 29, 27, 33, 31, 32, 34, 35, 36, 37, 38, 21] (nw_fm (rd_reg (v := (v.1, fun _ _ => (-1 : Int32))) rfl)) (by decide) (rd_reg (v := (v.1, fun _ _ => (-1 : Int32))) rfl) ?_
  have hRN : rN (rd_N (N 10) n) := rd_rN hN.1 hn
  refine ac_aload_n Z.1 0 dX11_read_27 rfl ?_
  refine nw_cfR (ad := rd_ad q (ad 10) (v.1, fun _ _ => (-1 : Int32))) (N := rd_N (N 10) n) (M := rd_M n) (F := rd_F (v.1, fun _ _ => (-1 : Int32)) (F 10)) (J := fun _ _ => 0) (k0 := 3) (rt := .object "AppealCourt$Program") (rk := 6 * 22 + 60 + 5 * 22 + 11) (Q := fun s' _ => ∃ x' : y_X, c_fin (rd_N (N 10) n) s' (yx x') ∧ finC s' x' ∧ e_fin x' ∧ ∀ r, is_a (yx x') r → RDG (fun i => F 10 i &&& 255) n bk r x') (As := []) (n := 0) Z E (fun A' up => ckF_readTextG hbk (v := (v.1, fun _ _ => (-1 : Int32))) hN.1 hn) kX7_readText lX11_72 (by show _ ≤ 320; omega) (by show _ ≤ 40 * 320; omega) (by show _ ≤ 19; omega) (by show _ ≤ 15 + rd_ms n; omega) rfl rfl (Nat.zero_le _) dX11_read_28 (fun S1 h1 => ?_)
  obtain ⟨O1, x', hfin, hfc, hef, hRD⟩ := h1
  refine ac_astore_n (lv' := [(3, .ref (v.1 9)), (2, .ref q), (0, .ref (ad 0)), (1, .int (nI n))]) Z.1 dX11_read_31 (by decide) rfl ?_
  refine ac_aload_n Z.1 2 dX11_read_32 rfl ?_
  refine ac_iconst (v := 0) Z.1 dX11_read_33 (by decide) ?_
  refine nw_put Z b_X11 0 (h := ad 0) (fs := b_fs (rd_tb c) (b_ad ad O) M 0 9) rfl 1 (by decide) fX11_61 rfl rfl rfl (by rw [b_fs_len]; decide) dX11_read_34 (rd_put 0 (Or.inl rfl)) ?_
  refine ac_aload_n Z.1 2 dX11_read_37 rfl ?_
  refine ac_aload_n Z.1 1 dX11_read_38 rfl ?_
  refine nw_cfI (ad := rd_ad q (ad 10) (v.1, fun _ _ => (-1 : Int32))) (N := rd_N (N 10) n) (M := S1.1) (F := S1.2.1) (J := S1.2.2) (Q := fun r s' _ => is_a (yx x') r ∧ s' = S1) (rk := 0) (As := []) (n := 0) Z E (fun A' up => soF_X7_faultFound (g := (tb_R, D, rd_ad q (ad 10) (v.1, fun _ _ => (-1 : Int32)), rd_N (N 10) n, cT, adK, adV, A', up)) rfl S1 (0, 7) _ (c_fault rfl hfin (fun r hr => ⟨hr, rfl⟩))) kX7_faultFound lX11_76 (by show _ ≤ 320; omega) (by show _ ≤ 40 * 320; omega) (by show _ ≤ 19; omega) (by show _ ≤ 15 + rd_ms n; omega) rfl rfl (Nat.le_of_ble_eq_true rfl) dX11_read_39 (fun r2 S2 h2 => ?_)
  obtain ⟨O2, ha, e2⟩ := h2
  subst e2
  refine nw_put Z b_X11 0 (h := ad 0) (fs := b_fs (rd_tb c) (b_ad ad O) (um M 1 0) 0 9) rfl 3 (by decide) fX11_22 rfl rfl rfl (by rw [b_fs_len]; decide) dX11_read_42 (rd_put r2 (Or.inr (Or.inl rfl))) ?_
  refine ac_aload_n Z.1 2 dX11_read_45 rfl ?_
  refine ac_aload_n Z.1 1 dX11_read_46 rfl ?_
  refine ac_aload_n Z.1 2 dX11_read_47 rfl ?_
  refine nw_get Z b_X11 0 rfl 3 (by decide) fX11_22 (v := .int r2) rfl dX11_read_48 ?_
  refine nw_cfI (ad := rd_ad q (ad 10) (v.1, fun _ _ => (-1 : Int32))) (N := rd_N (N 10) n) (M := S2.1) (F := S2.2.1) (J := S2.2.2) (Q := fun _ s' _ => s' = S2) (rk := 0) (As := [.int r2]) (n := 1) Z E (fun A' up => soF_X7_placeOfFault (g := (tb_R, D, rd_ad q (ad 10) (v.1, fun _ _ => (-1 : Int32)), rd_N (N 10) n, cT, adK, adV, A', up)) rfl r2 S2 (0, 7) _ (c_place rfl (fun r => rfl))) kX7_placeOfFault lX11_80 (by show _ ≤ 320; omega) (by show _ ≤ 40 * 320; omega) (by show _ ≤ 19; omega) (by show _ ≤ 15 + rd_ms n; omega) rfl rfl (Nat.le_of_ble_eq_true rfl) dX11_read_51 (fun r3 S3 h3 => ?_)
  obtain ⟨O3, e3⟩ := h3
  subst e3
  refine nw_put Z b_X11 0 (h := ad 0) (fs := b_fs (rd_tb c) (b_ad ad O) (um (um M 1 0) 3 r2) 0 9) rfl 4 (by decide) fX11_26 rfl rfl rfl (by rw [b_fs_len]; decide) dX11_read_54 (rd_put r3 (Or.inr (Or.inr rfl))) ?_
  have z0 : (0 : Int32).toInt = 0 := by decide
  obtain ⟨n1, n2, n3, n4, n5, n6, n7, n8, n9, n10, n11, n12, n13⟩ := (show tN N from hN)
  obtain ⟨i1, i2, i3, i4, i5, i6, i7⟩ := (show tI N M O from hI)
  refine ac_aload_n Z.1 2 dX11_read_57 rfl ?_
  refine nw_get Z b_X11 0 rfl 3 (by decide) fX11_22 (v := .int r2) rfl dX11_read_58 ?_
  refine ac_if_ne (tgt := 69) Z.1 dX11_read_61 (by decide) (fun hc => ?_) (fun hc => ?_)
  · refine ac_aload_n Z.1 2 dX11_read_69 rfl ?_
    refine nw_get Z b_X11 0 rfl 3 (by decide) fX11_22 (v := .int r2) rfl dX11_read_70 ?_
    refine nw_perm [0, 1, 2, 3, 4, 5, 23, 6, 7, 8, 9, 10, 11, 12, 13, 14, 15, 16, 17, 18] (nw_fm (rd_bk0 (v := (v.1, fun _ _ => (-1 : Int32))))) (by decide) (rd_bk0 (v := (v.1, fun _ _ => (-1 : Int32)))) ?_
    exact hend (c, ad, N, um (um (um M 1 0) 3 r2) 4 r3, rd_F1 F S3.2.1, J, O) r2 _ ⟨rfl, hN, ⟨(show 0 ≤ (0 : Int32).toInt ∧ (0 : Int32).toInt ≤ 4000 from by decide), i2, i3, i4, i5, i6, i7⟩⟩ rfl rfl ⟨x', hef, hRD r2 ha, ⟨fun j h1 h3 h4 _ _ => by show um (um (um M 1 0) 3 r2) 4 r3 j = M j; rw [um_ne h4, um_ne h3, um_ne h1], fun k h10 _ _ _ => rd_F1_ne h10⟩, fun _ => ⟨rfl, rfl, ⟨rfl, rfl, rfl⟩, rfl⟩, fun z => absurd z (rd_nz hc)⟩
  · refine ac_aload_n Z.1 2 dX11_read_64 rfl ?_
    refine ac_aload_n Z.1 0 dX11_read_65 rfl ?_
    refine nw_put Z b_X11 0 (h := ad 0) (fs := b_fs (rd_tb c) (b_ad ad O) (um (um (um M 1 0) 3 r2) 4 r3) 0 9) rfl 2 (by decide) fX11_18 rfl rfl rfl (by rw [b_fs_len]; decide) dX11_read_66 rfl ?_
    refine ac_aload_n Z.1 2 dX11_read_69 rfl ?_
    refine nw_get Z b_X11 0 rfl 3 (by decide) fX11_22 (v := .int r2) rfl dX11_read_70 ?_
    refine nw_perm [0, 1, 2, 3, 4, 22, 23, 6, 7, 8, 9, 10, 11, 12, 13, 14, 15, 30, 31, 32] (nw_fm (rd_bk1 (v := (v.1, fun _ _ => (-1 : Int32))))) (by decide) (rd_bk1 (v := (v.1, fun _ _ => (-1 : Int32)))) ?_
    refine hend (6, rd_a2 c ad O (v.1, fun _ _ => (-1 : Int32)), rd_N2 N n, rd_M2 (um (um (um M 1 0) 3 r2) 4 r3) S3.1, rd_F2 F S3.2.1, J, O) r2 _ ⟨rfl, ?_, ?_⟩ rfl rfl ⟨x', hef, hRD r2 ha, ⟨fun j h1 h3 h4 h63 h64 => (rd_M2_ne h63 h64).trans (by rw [um_ne h4, um_ne h3, um_ne h1]), fun k h10 h20 h21 h22 => rd_F2_ne h10 h20 h21 h22⟩, fun z => absurd (rd_zz hc) z, fun _ => ⟨fun n => hfc n, hfin.1⟩⟩
    · exact ⟨n1, n2, n3, n4, n5, n6, n7, n8, n9, n10, (show 2 * n + 16 < 1000000 from by omega), rfl, rfl⟩
    · exact ⟨(show 0 ≤ (0 : Int32).toInt ∧ (0 : Int32).toInt ≤ 4000 from by decide), i2, i3, i4, i5, hfin.1, i7⟩
theorem cl_read1W {bk : Nat} (hbk : bk ≤ 1) {l : Launch} {D : va_G} {cT : Nat → ClassId} {adK adV : Nat → Nat} {h : Nat} {u : cl_S} (ok : cl_ok h u) (n : Nat) (hle : (n : Int) ≤ (cl_f u).toInt) : cl_MetS l D cT adK adV yX11_read cX11_read 4 .int 320 19 (15 + rd_ms n) 19 (15 + rd_ms n) h [.int (nI n)] u (fun r u' => cl_f u' = 0 ∧ cl_O u' = cl_O u ∧ rd_post bk n (cl_N u) (cl_M u) u.2.2.2.2.1 r u') := by
  intro sz sm
  have := ok.1
  subst this
  refine Met.ofW (cc := cX11_read) (maxL := 4) (ret := some .int) (by decide) rfl ?_
  intro p e s m args below meth cd s₁ B hml hv
  obtain ⟨rfl, ⟨hP, hD⟩, hK, hSt, hKt, hNe, rfl, rfl⟩ := hv
  have hts := atoms_spec (ws := .code yX11_read cX11_read 4 (some .int) :: ac_tbl) B.pre
  have hown : s.vm.findClass RX11 = some m.cls := findClass_of_methodNamed B.named
  have hl := lv_entry [.ref (u.2.1 0), .int (nI n)] (n := 4) (Nat.le_of_ble_eq_true rfl)
  rw [lg_entry_eq]
  have hfle : (cl_f u).toInt ≤ 4000 := ok.2.2.1.2
  refine s_readW hbk (x := (p, l, e, nw_room 320 19 (15 + rd_ms n), s, m, _, below, meth, cd, _)) (A := va_A (cl_w cT u) s.heap.size) (D := D) (cT := cT) (adK := adK) (adV := adV) (c := u.1) (ad := u.2.1) (N := cl_N u) (O := cl_O u) (M := cl_M u) (F := u.2.2.2.2.1) (J := u.2.2.2.2.2.1) ⟨⟨B.exec, B.bytes, hml, hown, fun w hw => hts w (List.mem_cons_of_mem _ hw)⟩, ⟨hK, ⟨fun q h => Or.inr h, hNe⟩, rfl⟩, rfl⟩ ⟨hSt, hKt⟩ (by omega) hle ok.2.1 ok.2.2 ?_ s.heap [] _ ⟨hP, hD.self⟩ va_S.rf hl
  intro u' r lv hok hf hO hRD H locs ls hP' hS' _
  refine ac_know (fun k1 k2 => ?_)
  exact W.zret (v := r) (ty := .int) B.exec B.bytes B.returns rfl (fun t ht hW => ⟨⟨r, u', rfl, ⟨hok, hf, hO, hRD⟩, ⟨by rw [ht]; exact hP'.1, hP'.2⟩, by rw [hO]; exact Nat.le_refl _, by rw [ht, hO, b_cc0]; exact k1, by rw [ht, hO, b_cs0]; exact k2⟩, by rw [va_F, ht]; exact ⟨hS'.1, hS'.2.1⟩⟩) hS'.2.2 dX11_read_73
