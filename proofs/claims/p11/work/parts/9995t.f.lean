/-! THE CLASS'S CALLS WITH WHAT THEY LEAVE, between calls (the height of the session's values is nobody's business there). -/
section ZF1
def tJ (N : Nat → Nat) (M : Nat → Int32) (O : Nat × Nat) : Prop := tI N (um M 52 0) O
def cl_okJ (h : Nat) (u : cl_S) : Prop := u.2.1 0 = h ∧ tN (cl_N u) ∧ tJ (cl_N u) (cl_M u) (cl_O u)
theorem tJ_1 {N : Nat → Nat} {M M' : Nat → Int32} {O : Nat × Nat} (h : ∀ k, k ≠ 1 → M' k = M k) (h1 : 0 ≤ (M' 1).toInt ∧ (M' 1).toInt ≤ 4000) (hI : tJ N M O) : tJ N M' O := tI_1 (M := um M 52 0) (M' := um M' 52 0) (fun k hk => by
  by_cases q : k = 52
  · subst q; rfl
  · rw [um_ne q, um_ne q]; exact h k hk) h1 hI
/-- what both hold gives the class's bounds -/
theorem tJ_Ro {K : k_K} {N : Nat → Nat} {s : f_S3} {O : Nat × Nat} {M : e_M} {F : e_F} (hN : tN N) (hV : e_INV M F) (R : R_o K s O M F) (hz : K_z K ≤ N 20) (f1 : 0 ≤ (s.1 1).toInt ∧ (s.1 1).toInt ≤ 4000) : tJ N s.1 O := by
  obtain ⟨⟨⟨d1, d2⟩, ⟨d3, d4, d5⟩, -⟩, ⟨-, ⟨-, m2, -⟩, -⟩, -, -, -, c1, -⟩ := R
  have h20 := hN.2.2.2.2.2.2.2.2.2.2.1
  have o7 := hV.2.2.2.2.2.2.2.2.1
  refine ⟨f1, (show 0 ≤ (s.1 22).toInt ∧ (s.1 22).toInt ≤ 8000 by rw [d1]; exact d3), (show 7 * (s.1 22).toInt ≤ _ by rw [d1]; exact d4), (show 0 ≤ (s.1 31).toInt ∧ (s.1 31).toInt ≤ 200 by rw [m2]; exact o7), (by decide : 0 ≤ (0 : Int32).toInt ∧ (0 : Int32).toInt ≤ 128), (show 0 ≤ (s.1 63).toInt ∧ (s.1 63).toInt ≤ (N 20 : Int) by rw [c1, fs_nI (by omega)]; omega), d5⟩
abbrev cl_s (u : cl_S) : f_S3 := (cl_M u, u.2.2.2.2.1, u.2.2.2.2.2.1)
/-- a call of the class; Post: of the answer and of its cells behind -/
def cl_MetJ (l : Launch) (D : va_G) (cT : Nat → ClassId) (adK adV : Nat → Nat) (y : MethodName) (cc : ByteArray) (nL : Nat) (ret : FieldType) (rk mc ms kc ks : Nat) (h : Nat) (As : List Value) (u : cl_S) (Post : Int32 → cl_S → Prop) : Prop := ∀ sz sm : Nat, Met l y (.code y cc nL (some ret) :: ac_tbl) (nw_room rk mc ms) (va_Pc (.ref h :: As) (cl_Pre D cT adK adV u sz sm)) (va_Qi (fun r u' => cl_okJ h u' ∧ Post r u') (cl_B D cT u sz sm kc ks) (va_A (cl_w cT u) sz)) mc ms (va_A (cl_w cT u) sz)
theorem cl_ofJ {l : Launch} {D : va_G} {cT : Nat → ClassId} {adK adV : Nat → Nat} {y : MethodName} {cc : ByteArray} {nL : Nat} {ret : FieldType} {rk h : Nat} {As : List Value} {u : cl_S} (ok : cl_okJ h u) {Q : Int32 → f_S3 → Nat × Nat → Prop} (hM : ∀ sz, f_MetI l (cl_g D cT adK adV u sz) y cc nL ret rk (.ref h :: As) (cl_s u) (cl_O u) (fun r s' O' => tJ (cl_N u) s'.1 O' ∧ Q r s' O')) : cl_MetJ l D cT adK adV y cc nL ret rk (b_mc (cl_O u)) (b_ms (cl_O u)) 0 0 h As u (fun r u' => cl_N u' = cl_N u ∧ Q r (cl_s u') (cl_O u')) := by
  intro sz sm
  refine Met.mono (hM sz sz sm) (fun a s hp => ⟨hp.1, ?_⟩) (fun a st o t _ hq => ?_)
  · obtain ⟨⟨hP, hD⟩, hK, hS, hT, hN, h1, h2⟩ := hp.2
    exact ⟨⟨hP, b_Dgo (hD.self (sz := sz)), Nat.le_refl _, ok.2.2.2.2.2.2.2.2⟩, ⟨okT _, hK, fun q h => Or.inr h, hS, hT, by rw [h1]; exact Nat.le_refl _⟩, h1, h2⟩
  · obtain ⟨⟨r, ⟨s', O'⟩, e1, ⟨hv1, hv2⟩, hB'⟩, hF⟩ := hq
    obtain ⟨⟨hP, hD, hO, hO7⟩, z1, z2⟩ := hB'
    exact ⟨⟨r, (u.1, u.2.1, cl_N u, s'.1, s'.2.1, s'.2.2, O'), e1, ⟨⟨ok.1, ok.2.1, hv1⟩, rfl, hv2⟩, ⟨hP, b_Dgo hD⟩, hO, z1, z2⟩, hF⟩
theorem cl_feedJ {l : Launch} {D : va_G} {cT : Nat → ClassId} {adK adV : Nat → Nat} {h : Nat} {u : cl_S} (ok : cl_okJ h u) (a b c d e : Int32) {B : Nat → Int32} {cc : Nat} (hB : y_B (cl_s u) B cc) (hc : cc ≤ 4000) : cl_MetJ l D cT adK adV yX11_feed cX11_feed 6 .int 1 (b_mc (cl_O u)) (b_ms (cl_O u)) 0 0 h [.int a, .int b, .int c, .int d, .int e] u (fun r u' => cl_N u' = cl_N u ∧ (cl_O u' = cl_O u ∧ y_only (cl_s u) (cl_s u')) ∧ ((cc + 20 ≤ 4000 ∧ r = nI (cc + 20) ∧ y_B (cl_s u') (x_fd B cc a b c d e) (cc + 20)) ∨ (4000 < cc + 20 ∧ r = -1 ∧ y_B (cl_s u') B cc))) := by
  refine cl_ofJ ok (Q := fun r s' O' => (O' = cl_O u ∧ y_only (cl_s u) s') ∧ ((cc + 20 ≤ 4000 ∧ r = nI (cc + 20) ∧ y_B s' (x_fd B cc a b c d e) (cc + 20)) ∨ (4000 < cc + 20 ∧ r = -1 ∧ y_B s' B cc))) (fun sz => ?_)
  have e0 := ok.1
  subst e0
  exact soY_X11_feed (l := l) (g := cl_g D cT adK adV u sz) rfl a b c d e (cl_s u) (cl_O u) _ (y_feed ok.2.1.1 hB hc a b c d e (fun h1 s' y1 y2 => ⟨tJ_1 (fun k hk => y2.1 k hk) (by rw [y1.1, fs_nI (by omega)]; omega) ok.2.2, ⟨rfl, y2⟩, Or.inl ⟨h1, rfl, y1⟩⟩) (fun h1 => ⟨ok.2.2, ⟨rfl, ⟨fun _ _ => rfl, fun _ _ _ => rfl, rfl⟩⟩, Or.inr ⟨h1, rfl, hB⟩⟩))
theorem cl_read0J {l : Launch} {D : va_G} {cT : Nat → ClassId} {adK adV : Nat → Nat} {h : Nat} {u : cl_S} (ok : cl_okJ h u) (a : Int32) (hr : a.toInt < 0 ∨ (cl_f u).toInt < a.toInt) : cl_MetJ l D cT adK adV yX11_read cX11_read 4 .int 0 0 0 0 0 h [.int a] u (fun r u' => r = -1 ∧ u' = u) := by
  intro sz sm
  have := ok.1
  subst this
  refine Met.ofW (cc := cX11_read) (maxL := 4) (ret := some .int) (by decide) rfl ?_
  intro p e s m args below meth cd s₁ B hml hv
  obtain ⟨rfl, ⟨hP, hD⟩, hK, hSt, hKt, hNe, rfl, rfl⟩ := hv
  have hts := atoms_spec (ws := .code yX11_read cX11_read 4 (some .int) :: ac_tbl) B.pre
  have hown : s.vm.findClass RX11 = some m.cls := findClass_of_methodNamed B.named
  have hl := lv_entry [.ref (u.2.1 0), .int a] (n := 4) (Nat.le_of_ble_eq_true rfl)
  rw [lg_entry_eq]
  have key : ∀ Qx : State → Prop, (∀ (H : Heap) (locs : List Loc) (ls : Array Slot), nw_P D (va_A (cl_w cT u) s.heap.size) (cl_w cT u) H → va_S (va_A (cl_w cT u) s.heap.size) s.heap H locs → W p l e (nw_room 0 0 0) s m [.ref (u.2.1 0), .int a].toArray below meth cd H locs 0 0 Qx (F0 m 13 ls [.int (-1)])) → ac_G (p, l, e, nw_room 0 0 0, s, m, [.ref (u.2.1 0), .int a].toArray, below, meth, cd, Qx) (va_A (cl_w cT u) s.heap.size) 4 (nw_P D (va_A (cl_w cT u) s.heap.size) (cl_w cT u)) 0 0 0 [(0, .ref (u.2.1 0)), (1, .int a)] [] := by
    intro Qx hend
    have Z : nw_Cx (p, l, e, nw_room 0 0 0, s, m, [.ref (u.2.1 0), .int a].toArray, below, meth, cd, Qx) D cT (va_A (cl_w cT u) s.heap.size) l RX11 cX11_read 4 (nw_room 0 0 0) := ⟨⟨B.exec, B.bytes, hml, hown, fun w hw => hts w (List.mem_cons_of_mem _ hw)⟩, ⟨hK, ⟨fun q h => Or.inr h, hNe⟩, rfl⟩, rfl⟩
    have h12 : ac_G (p, l, e, nw_room 0 0 0, s, m, [.ref (u.2.1 0), .int a].toArray, below, meth, cd, Qx) (va_A (cl_w cT u) s.heap.size) 4 (nw_P D (va_A (cl_w cT u) s.heap.size) (cl_w cT u)) 0 0 12 [(0, .ref (u.2.1 0)), (1, .int a)] [] := by
      refine ac_iconst (v := (-1)) Z.1 dX11_read_12 (by decide) ?_
      intro H locs ls hP' hS' _
      exact hend H locs ls hP' hS'
    refine ac_iload_n Z.1 1 dX11_read_0 rfl ?_
    refine ac_if_lt (tgt := 12) Z.1 dX11_read_1 (by decide) (fun _ => h12) (fun hc => ?_)
    refine ac_iload_n Z.1 1 dX11_read_4 rfl ?_
    refine ac_aload_n Z.1 0 dX11_read_5 rfl ?_
    refine nw_get Z b_X11 0 (h := u.2.1 0) (fs := b_fs (tb_T u.1) (b_ad u.2.1 (cl_O u)) (cl_M u) 0 9) rfl 1 (by decide) fX11_61 (v := .int (cl_M u 1)) rfl dX11_read_6 ?_
    refine ac_icmp_le (tgt := 14) Z.1 dX11_read_9 (by decide) (fun hc2 => ?_) (fun _ => h12)
    have g1 := ti_nlt hc
    have g2 := Int32.le_iff_toInt_le.mp hc2
    have z0 : (0 : Int32).toInt = 0 := by decide
    have g3 : a.toInt ≤ (cl_f u).toInt := g2
    omega
  refine key _ (fun H locs ls hP' hS' => ?_) s.heap [] _ ⟨hP, hD.self⟩ va_S.rf hl
  refine ac_know (fun k1 k2 => ?_)
  exact W.zret (v := (-1)) (ty := .int) B.exec B.bytes B.returns rfl (fun t ht hW => ⟨⟨-1, u, rfl, ⟨ok, rfl, rfl⟩, ⟨by rw [ht]; exact hP'.1, hP'.2⟩, Nat.le_refl _, by rw [ht, b_cc0]; exact k1, by rw [ht, b_cs0]; exact k2⟩, by rw [va_F, ht]; exact ⟨hS'.1, hS'.2.1⟩⟩) hS'.2.2 dX11_read_13
set_option maxRecDepth 40000 in
theorem s_readJ {bk : Nat} (hbk : bk ≤ 1) {x : ac_X} {D : va_G} {cT : Nat → ClassId} {A : Nat → Prop} {l : Launch} {adK adV : Nat → Nat} {c n : Nat} {ad N : Nat → Nat} {O : Nat × Nat} {M : Nat → Int32} {F : Nat → Nat → Int32} {J : Nat → Nat → Int64} (Z : nw_Cx x D cT A l RX11 cX11_read 4 (nw_room 320 19 (15 + rd_ms n))) (E : rd_env x adK adV A) (hn : n ≤ 4000) (hle : (n : Int) ≤ (M 1).toInt) (hN : tN N) (hI : tJ N M O)
    (hend : ∀ (u : cl_S) (r : Int32) (lv : List (Nat × Value)), cl_okJ (ad 0) u → cl_f u = 0 → cl_O u = O → rd_post bk n N M F r u → ac_G x A 4 (nw_P D A (cl_w cT u)) 19 (15 + rd_ms n) 73 lv [.int r]) :
    ac_G x A 4 (nw_P D A (b_W (tb_T c) (b_ad ad O) (b_ln N O) cT M F J)) 0 0 0 [(0, .ref (ad 0)), (1, .int (nI n))] [] := by
  have en : (nI n).toInt = (n : Int) := nI_toInt (by omega)
  refine ac_iload_n Z.1 1 dX11_read_0 rfl ?_
  refine ac_if_lt (tgt := 12) Z.1 dX11_read_1 (by decide) (fun hc => absurd hc (nI_pos (by omega))) (fun _ => ?_)
  refine ac_iload_n Z.1 1 dX11_read_4 rfl ?_
  refine ac_aload_n Z.1 0 dX11_read_5 rfl ?_
  refine nw_get Z b_X11 0 rfl 1 (by decide) fX11_61 (v := .int (M 1)) rfl dX11_read_6 ?_
  refine ac_icmp_le (tgt := 14) Z.1 dX11_read_9 (by decide) (fun _ => ?_) (fun hc => absurd (Int32.le_iff_toInt_le.mpr (by omega)) hc)
  refine nw_new (fs := [.null, .null, .null, .null, .null, .null, .null, .null, .int 0, .int 0, .int 0, .int 0, .int 0, .int 0, .int 0]) Z b_X7 cX11_67 niX7 nzX7 ndfX7 (by show _ ≤ 19; omega) (by show _ ≤ 15 + rd_ms n; omega) dX11_read_14 (fun q => ?_)
  refine ac_dup Z.1 dX11_read_17 rfl ?_
  refine ac_aload_n Z.1 0 dX11_read_18 rfl ?_
  refine nw_get Z b_X11 0 rfl 0 (by decide) fX11_9 (v := .ref (ad 10)) rfl dX11_read_19 ?_
  refine ac_iload_n Z.1 1 dX11_read_22 rfl ?_
  refine nw_ctor (wr := b_W (tb_T c) (b_ad ad O) (b_ln N O) cT M F J) Z (ckV_X7_init l D cT q (ad 10) n (by omega)) nkX7 lX11_69 (Nat.le_of_ble_eq_true rfl) (Nat.le_of_ble_eq_true rfl) (by show _ ≤ 19; omega) (by show _ ≤ 15 + rd_ms n; unfold rd_ms; omega) rfl rfl (Nat.le_of_ble_eq_true rfl) dX11_read_23 (fun v => ?_)
  refine nw_cnt (cs' := 19) (ss' := 15 + rd_ms n) rfl (by unfold rd_ms; omega) ?_
  refine ac_astore_n (lv' := [(2, .ref q), (0, .ref (ad 0)), (1, .int (nI n))]) Z.1 dX11_read_26 (by decide) rfl ?_
  refine nw_perm [0, 1, 2, 3, 4, 5, 7, 8, 9, 10, 11, 12, 13, 14, 15, 16, 17, 18, 19, 20, 22, 26, 30, 6, 23, 24, 25, 28, 29, 27, 33, 31, 32, 34, 35, 36, 37, 38, 21] (nw_fm (rd_reg (v := (v.1, fun _ _ => (-1 : Int32))) rfl)) (by decide) (rd_reg (v := (v.1, fun _ _ => (-1 : Int32))) rfl) ?_
  have hRN : rN (rd_N (N 10) n) := rd_rN hN.1 hn
  refine ac_aload_n Z.1 0 dX11_read_27 rfl ?_
  refine nw_cfR (ad := rd_ad q (ad 10) (v.1, fun _ _ => (-1 : Int32))) (N := rd_N (N 10) n) (M := rd_M n) (F := rd_F (v.1, fun _ _ => (-1 : Int32)) (F 10)) (J := fun _ _ => 0) (k0 := 3) (rt := .object "AppealCourt$Program") (rk := 6 * 22 + 60 + 5 * 22 + 11) (Q := fun s' _ => ∃ x' : y_X, c_fin (rd_N (N 10) n) s' (yx x') ∧ finC s' x' ∧ e_fin x' ∧ ∀ r, is_a (yx x') r → RDG (fun i => F 10 i &&& 255) n bk r x') (As := []) (n := 0) Z E (fun A' up => ckF_readTextG hbk (v := (v.1, fun _ _ => (-1 : Int32))) hN.1 hn) kX7_readText lX11_72 (by show _ ≤ 320; omega) (by show _ ≤ 40 * 320; omega) (by show _ ≤ 19; omega) (by show _ ≤ 15 + rd_ms n; omega) rfl rfl (Nat.zero_le _) dX11_read_28 (fun S1 h1 => ?_)
  obtain ⟨O1, x', hfin, hfc, hef, hRD⟩ := h1
  refine ac_astore_n (lv' := [(3, .ref (v.1 9)), (2, .ref q), (0, .ref (ad 0)), (1, .int (nI n))]) Z.1 dX11_read_31 (by decide) rfl ?_
  refine ac_aload_n Z.1 2 dX11_read_32 rfl ?_
  refine ac_iconst (v := 0) Z.1 dX11_read_33 (by decide) ?_
  refine nw_put Z b_X11 0 (h := ad 0) (fs := b_fs (rd_tb c) (b_ad ad O) M 0 9) rfl 1 (by decide) fX11_61 rfl rfl rfl (by rw [b_fs_len]; decide) dX11_read_34 (rd_put 0 (Or.inl rfl)) ?_
  refine ac_aload_n Z.1 2 dX11_read_37 rfl ?_
  refine ac_aload_n Z.1 1 dX11_read_38 rfl ?_
  refine nw_cfI (ad := rd_ad q (ad 10) (v.1, fun _ _ => (-1 : Int32))) (N := rd_N (N 10) n) (M := S1.1) (F := S1.2.1) (J := S1.2.2) (Q := fun r s' _ => is_a (yx x') r ∧ s' = S1) (rk := 0) (As := []) (n := 0) Z E (fun A' up => soF_X7_faultFound (g := (tb_R, D, rd_ad q (ad 10) (v.1, fun _ _ => (-1 : Int32)), rd_N (N 10) n, cT, adK, adV, A', up)) rfl S1 (0, 7) _ (c_fault rfl hfin (fun r hr => ⟨hr, rfl⟩))) kX7_faultFound lX11_76 (by show _ ≤ 320; omega) (by show _ ≤ 40 * 320; omega) (by show _ ≤ 19; omega) (by show _ ≤ 15 + rd_ms n; omega) rfl rfl (Nat.le_of_ble_eq_true rfl) dX11_read_39 (fun r2 S2 h2 => ?_)
  obtain ⟨O2, ha, e2⟩ := h2
  subst e2
  refine nw_put Z b_X11 0 (h := ad 0) (fs := b_fs (rd_tb c) (b_ad ad O) (um M 1 0) 0 9) rfl 3 (by decide) fX11_22 rfl rfl rfl (by rw [b_fs_len]; decide) dX11_read_42 (rd_put r2 (Or.inr (Or.inl rfl))) ?_
  refine ac_aload_n Z.1 2 dX11_read_45 rfl ?_
  refine ac_aload_n Z.1 1 dX11_read_46 rfl ?_
  refine ac_aload_n Z.1 2 dX11_read_47 rfl ?_
  refine nw_get Z b_X11 0 rfl 3 (by decide) fX11_22 (v := .int r2) rfl dX11_read_48 ?_
  refine nw_cfI (ad := rd_ad q (ad 10) (v.1, fun _ _ => (-1 : Int32))) (N := rd_N (N 10) n) (M := S2.1) (F := S2.2.1) (J := S2.2.2) (Q := fun _ s' _ => s' = S2) (rk := 0) (As := [.int r2]) (n := 1) Z E (fun A' up => soF_X7_placeOfFault (g := (tb_R, D, rd_ad q (ad 10) (v.1, fun _ _ => (-1 : Int32)), rd_N (N 10) n, cT, adK, adV, A', up)) rfl r2 S2 (0, 7) _ (c_place rfl (fun r => rfl))) kX7_placeOfFault lX11_80 (by show _ ≤ 320; omega) (by show _ ≤ 40 * 320; omega) (by show _ ≤ 19; omega) (by show _ ≤ 15 + rd_ms n; omega) rfl rfl (Nat.le_of_ble_eq_true rfl) dX11_read_51 (fun r3 S3 h3 => ?_)
  obtain ⟨O3, e3⟩ := h3
  subst e3
  refine nw_put Z b_X11 0 (h := ad 0) (fs := b_fs (rd_tb c) (b_ad ad O) (um (um M 1 0) 3 r2) 0 9) rfl 4 (by decide) fX11_26 rfl rfl rfl (by rw [b_fs_len]; decide) dX11_read_54 (rd_put r3 (Or.inr (Or.inr rfl))) ?_
  have z0 : (0 : Int32).toInt = 0 := by decide
  obtain ⟨n1, n2, n3, n4, n5, n6, n7, n8, n9, n10, n11, n12, n13⟩ := (show tN N from hN)
  obtain ⟨i1, i2, i3, i4, i5, i6, i7⟩ := (show tI N (um M 52 0) O from hI)
  refine ac_aload_n Z.1 2 dX11_read_57 rfl ?_
  refine nw_get Z b_X11 0 rfl 3 (by decide) fX11_22 (v := .int r2) rfl dX11_read_58 ?_
  refine ac_if_ne (tgt := 69) Z.1 dX11_read_61 (by decide) (fun hc => ?_) (fun hc => ?_)
  · refine ac_aload_n Z.1 2 dX11_read_69 rfl ?_
    refine nw_get Z b_X11 0 rfl 3 (by decide) fX11_22 (v := .int r2) rfl dX11_read_70 ?_
    refine nw_perm [0, 1, 2, 3, 4, 5, 23, 6, 7, 8, 9, 10, 11, 12, 13, 14, 15, 16, 17, 18] (nw_fm (rd_bk0 (v := (v.1, fun _ _ => (-1 : Int32))))) (by decide) (rd_bk0 (v := (v.1, fun _ _ => (-1 : Int32)))) ?_
    exact hend (c, ad, N, um (um (um M 1 0) 3 r2) 4 r3, rd_F1 F S3.2.1, J, O) r2 _ ⟨rfl, hN, ⟨(show 0 ≤ (0 : Int32).toInt ∧ (0 : Int32).toInt ≤ 4000 from by decide), i2, i3, i4, i5, i6, i7⟩⟩ rfl rfl ⟨x', hef, hRD r2 ha, ⟨fun j h1 h3 h4 _ _ => by show um (um (um M 1 0) 3 r2) 4 r3 j = M j; rw [um_ne h4, um_ne h3, um_ne h1], fun k h10 _ _ _ => rd_F1_ne h10⟩, fun _ => ⟨rfl, rfl, ⟨rfl, rfl, rfl⟩, rfl⟩, fun z => absurd z (rd_nz hc)⟩
  · refine ac_aload_n Z.1 2 dX11_read_64 rfl ?_
    refine ac_aload_n Z.1 0 dX11_read_65 rfl ?_
    refine nw_put Z b_X11 0 (h := ad 0) (fs := b_fs (rd_tb c) (b_ad ad O) (um (um (um M 1 0) 3 r2) 4 r3) 0 9) rfl 2 (by decide) fX11_18 rfl rfl rfl (by rw [b_fs_len]; decide) dX11_read_66 rfl ?_
    refine ac_aload_n Z.1 2 dX11_read_69 rfl ?_
    refine nw_get Z b_X11 0 rfl 3 (by decide) fX11_22 (v := .int r2) rfl dX11_read_70 ?_
    refine nw_perm [0, 1, 2, 3, 4, 22, 23, 6, 7, 8, 9, 10, 11, 12, 13, 14, 15, 30, 31, 32] (nw_fm (rd_bk1 (v := (v.1, fun _ _ => (-1 : Int32))))) (by decide) (rd_bk1 (v := (v.1, fun _ _ => (-1 : Int32)))) ?_
    refine hend (6, rd_a2 c ad O (v.1, fun _ _ => (-1 : Int32)), rd_N2 N n, rd_M2 (um (um (um M 1 0) 3 r2) 4 r3) S3.1, rd_F2 F S3.2.1, J, O) r2 _ ⟨rfl, ?_, ?_⟩ rfl rfl ⟨x', hef, hRD r2 ha, ⟨fun j h1 h3 h4 h63 h64 => (rd_M2_ne h63 h64).trans (by rw [um_ne h4, um_ne h3, um_ne h1]), fun k h10 h20 h21 h22 => rd_F2_ne h10 h20 h21 h22⟩, fun z => absurd (rd_zz hc) z, fun _ => ⟨fun n => hfc n, hfin.1⟩⟩
    · exact ⟨n1, n2, n3, n4, n5, n6, n7, n8, n9, n10, (show 2 * n + 16 < 1000000 from by omega), rfl, rfl⟩
    · exact ⟨(show 0 ≤ (0 : Int32).toInt ∧ (0 : Int32).toInt ≤ 4000 from by decide), i2, i3, i4, i5, hfin.1, i7⟩
theorem cl_read1J {bk : Nat} (hbk : bk ≤ 1) {l : Launch} {D : va_G} {cT : Nat → ClassId} {adK adV : Nat → Nat} {h : Nat} {u : cl_S} (ok : cl_okJ h u) (n : Nat) (hle : (n : Int) ≤ (cl_f u).toInt) : cl_MetJ l D cT adK adV yX11_read cX11_read 4 .int 320 19 (15 + rd_ms n) 19 (15 + rd_ms n) h [.int (nI n)] u (fun r u' => cl_f u' = 0 ∧ cl_O u' = cl_O u ∧ rd_post bk n (cl_N u) (cl_M u) u.2.2.2.2.1 r u') := by
  intro sz sm
  have := ok.1
  subst this
  refine Met.ofW (cc := cX11_read) (maxL := 4) (ret := some .int) (by decide) rfl ?_
  intro p e s m args below meth cd s₁ B hml hv
  obtain ⟨rfl, ⟨hP, hD⟩, hK, hSt, hKt, hNe, rfl, rfl⟩ := hv
  have hts := atoms_spec (ws := .code yX11_read cX11_read 4 (some .int) :: ac_tbl) B.pre
  have hown : s.vm.findClass RX11 = some m.cls := findClass_of_methodNamed B.named
  have hl := lv_entry [.ref (u.2.1 0), .int (nI n)] (n := 4) (Nat.le_of_ble_eq_true rfl)
  rw [lg_entry_eq]
  have hfle : (cl_f u).toInt ≤ 4000 := ok.2.2.1.2
  refine s_readJ hbk (x := (p, l, e, nw_room 320 19 (15 + rd_ms n), s, m, _, below, meth, cd, _)) (A := va_A (cl_w cT u) s.heap.size) (D := D) (cT := cT) (adK := adK) (adV := adV) (c := u.1) (ad := u.2.1) (N := cl_N u) (O := cl_O u) (M := cl_M u) (F := u.2.2.2.2.1) (J := u.2.2.2.2.2.1) ⟨⟨B.exec, B.bytes, hml, hown, fun w hw => hts w (List.mem_cons_of_mem _ hw)⟩, ⟨hK, ⟨fun q h => Or.inr h, hNe⟩, rfl⟩, rfl⟩ ⟨hSt, hKt⟩ (by omega) hle ok.2.1 ok.2.2 ?_ s.heap [] _ ⟨hP, hD.self⟩ va_S.rf hl
  intro u' r lv hok hf hO hRD H locs ls hP' hS' _
  refine ac_know (fun k1 k2 => ?_)
  exact W.zret (v := r) (ty := .int) B.exec B.bytes B.returns rfl (fun t ht hW => ⟨⟨r, u', rfl, ⟨hok, hf, hO, hRD⟩, ⟨by rw [ht]; exact hP'.1, hP'.2⟩, by rw [hO]; exact Nat.le_refl _, by rw [ht, hO, b_cc0]; exact k1, by rw [ht, hO, b_cs0]; exact k2⟩, by rw [va_F, ht]; exact ⟨hS'.1, hS'.2.1⟩⟩) hS'.2.2 dX11_read_73
set_option maxRecDepth 20000 in
theorem f_putp {x : ac_X} {g : b_S} {l : Launch} {cc : ByteArray} {nL rk c : Nat} {O0 O : Nat × Nat} {M : f_S3} {pc : Nat} {lv : List (Nat × Value)} {st : List Value} (hg : g.1 = tb_T c) (Z : b_Cx x g l RX8 cc nL rk O0) {h4 h5 : Nat} (e4 : b_c g O 4 = h4) (e5 : b_c g O 5 = h5) (hd : decode cc pc = .ok (.putfield 32, 3)) (kk : ac_G x (b_A g) nL (f_P (b_5 g) O0 M O) (b_cc O0 O) (b_cs O0 O) (pc + 3) lv st) : f_G x g nL O0 M O pc lv (.ref h5 :: .ref h4 :: st) := by
  obtain ⟨p, l', e, R, s, m, args, below, meth, cd, Q⟩ := x
  obtain ⟨t, D, ad, NN, cT, adK, adV, A, up⟩ := g
  have hg : t = tb_T c := hg
  subst hg
  obtain ⟨CC, K, -⟩ := Z
  cases e4
  cases e5
  intro H locs ls hP hS hlv
  obtain ⟨hP1, hP2, hP3⟩ := hP
  obtain ⟨b1, b2, b3, b4, b5⟩ := b_X8
  refine va_put (C := RX8) (T := TX8) (N := 16) (ty := tyX8 7) CC.1 CC.2.1 CC.2.2.2.2 b2 tyX8 b3 b4 CC.2.2.2.1 K.2.1 hP1 (b_Dgo hP2) hS 4 (b_Wobj _ _ _ _ _ _ _ (rfl : (tb_T c).1[4]? = some (4, 8, 40, 16))) b1 7 (by decide) (CC.2.2.2.2 _ fX8_32) (fun q h9 => by rw [b5 7 (by decide)] at h9; exact h9) rfl (b3 7 (by decide)) rfl rfl (by rw [b_fs_len]; decide) hd (fun H1 locs1 hP9 _ hS1 => ?_)
  have hw : (b_W (tb_T c) (b_ad ad O) (b_ln NN O) cT M.1 M.2.1 M.2.2).set 4 (b_ad ad O 4, .inr (8, (b_fs (tb_T c) (b_ad ad O) M.1 40 16).set 7 (.ref (b_ad ad O 5)))) = b_W (tb_T 5) (b_ad ad O) (b_ln NN O) cT M.1 M.2.1 M.2.2 := rfl
  have hP9 : va_P D ac_cl ((b_W (tb_T c) (b_ad ad O) (b_ln NN O) cT M.1 M.2.1 M.2.2).set 4 (b_ad ad O 4, .inr (8, (b_fs (tb_T c) (b_ad ad O) M.1 40 16).set 7 (.ref (b_ad ad O 5))))) H1 := hP9
  rw [hw] at hP9
  have hm : (b_W (tb_T c) (b_ad ad O) (b_ln NN O) cT (fun _ => 0) (fun _ _ => 0) (fun _ _ => 0)).map (·.1) = (b_W (tb_T 5) (b_ad ad O) (b_ln NN O) cT (fun _ => 0) (fun _ _ => 0) (fun _ _ => 0)).map (·.1) := rfl
  exact kk H1 locs1 ls ⟨hP9, r_Dmap hm hP2, hP3⟩ hS1 hlv
theorem so_openF {l : Launch} {g : b_S} {c : Nat} (hg : g.1 = tb_T c) (v : Int32) (M : f_S3) (O : Nat × Nat) (sz sm : Nat) : Met l yX8_open (.code yX8_open cX8_open 3 none :: ac_tbl) (b_room 0 O) (va_Pc [.ref (b_o g 4), .ref (b_o g 5), .int v] (f_Pre g sz sm M O)) (va_Qv (fun (_ : Unit) => True) (fun _ t => f_Post (b_5 g) sz sm O (fm M 48 v, O) t) (b_A g)) (b_mc O) (b_ms O) (b_A g) := by
  refine Met.ofW (cc := cX8_open) (maxL := 3) (ret := none) (by decide) rfl ?_
  intro p e s m args below meth cd s₁ B hml hv
  obtain ⟨rfl, hP, hK, rfl, rfl⟩ := hv
  have hts := atoms_spec (ws := .code yX8_open cX8_open 3 none :: ac_tbl) B.pre
  have hown : s.vm.findClass RX8 = some m.cls := findClass_of_methodNamed B.named
  have hl := lv_entry [.ref (b_o g 4), .ref (b_o g 5), .int v] (n := 3) (Nat.le_of_ble_eq_true rfl)
  rw [lg_entry_eq]
  refine ac_zero O ?_
  have key : ∀ Qx : State → Prop, (∀ (H : Heap) (locs : List Loc) (ls : Array Slot), f_P (b_5 g) O (fm M 48 v) O H → va_S (b_A g) s.heap H locs → W p l e (b_room 0 O) s m [.ref (b_o g 4), .ref (b_o g 5), .int v].toArray below meth cd H locs (b_cc O O) (b_cs O O) Qx (F0 m 10 ls [])) → ac_G (p, l, e, b_room 0 O, s, m, [.ref (b_o g 4), .ref (b_o g 5), .int v].toArray, below, meth, cd, Qx) (b_A g) 3 (f_P g O M O) (b_cc O O) (b_cs O O) 0 [(0, .ref (b_o g 4)), (1, .ref (b_o g 5)), (2, .int v)] [] := by
    intro Qx hend
    have Z : b_Cx (p, l, e, b_room 0 O, s, m, [.ref (b_o g 4), .ref (b_o g 5), .int v].toArray, below, meth, cd, Qx) g l RX8 cX8_open 3 0 O := ⟨⟨B.exec, B.bytes, hml, hown, fun w hw => hts w (List.mem_cons_of_mem _ hw)⟩, hK, rfl, rfl⟩
    refine ac_aload_n Z.1 0 dX8_open_0 rfl ?_
    refine ac_aload_n Z.1 1 dX8_open_1 rfl ?_
    refine f_putp hg Z rfl rfl dX8_open_2 ?_
    refine ac_aload_n Z.1 0 dX8_open_5 rfl ?_
    refine ac_iload_n Z.1 2 dX8_open_6 rfl ?_
    refine f_put (g := b_5 g) (b_5Z Z) b_X8 4 rfl 8 (by decide) (by decide) rfl rfl rfl fX8_44 rfl (I := 48) rfl dX8_open_7 ?_
    intro H locs ls hP' hS' _
    exact hend H locs ls hP' hS'
  refine key _ (fun H locs ls hP' hS' => ?_) s.heap [] _ hP va_S.rf hl
  refine ac_know (fun k1 k2 => ?_)
  have hwd := f_wid hP'
  refine W.widen hwd.1 hwd.2 ?_
  exact W.vret B.exec B.bytes B.returns (fun t ht hW => ⟨⟨(), rfl, trivial, by show f_Post (b_5 g) s.heap.size (hsum s.heap) O (fm M 48 v, O) t; unfold f_Post; rw [ht]; exact ⟨hP', k1, k2⟩⟩, by rw [va_F, ht]; exact ⟨hS'.1, hS'.2.1⟩⟩) hS'.2.2 dX8_open_10
theorem f_callo {x : ac_X} {g : b_S} {l : Launch} {cc0 : ByteArray} {nL0 rk0 c : Nat} {O0 O : Nat × Nat} {M : f_S3} {pc : Nat} {lv : List (Nat × Value)} {st : List Value} (hg : g.1 = tb_T c) (Z : b_Cx x g l RX11 cc0 nL0 rk0 O0) {v : Int32} (hk : 1 ≤ rk0) (hr : (st.map fun v => v.category).sum ≤ 8) (hd : decode cc0 pc = .ok (.invokevirtual 101, 3)) (kk : ac_G x (b_A g) nL0 (f_P (b_5 g) O0 (fm M 48 v) O) (b_cc O0 O) (b_cs O0 O) (pc + 3) lv st) : f_G x g nL0 O0 M O pc lv (.int v :: .ref (b_o g 5) :: .ref (b_o g 4) :: st) := by
  obtain ⟨p, l', e, R, s, m, args, below, meth, c9, Q0⟩ := x
  obtain ⟨C, K, hR, rfl⟩ := Z
  obtain ⟨w1, w2, w3, w4, w5, w6, w7, w8, w9⟩ := kX8_open
  have hb := b_callB (O := O) (own := RX11) (index := 101) (rk := 0) C.2.2.2.2 hR (by omega) (by rw [w1]; exact w2) (by rw [w1]; exact w3) w4 w5 (by rw [w1]; exact w8) w9 lX11_101
  have K : b_K g s := K
  intro H locs ls hP hS hlv
  obtain ⟨p1, p2, p3⟩ := f_Pin hP
  have hsm := b_sum p2 p3
  have hRc : R.cells = b_mc O0 ∧ R.slots = b_ms O0 := by rw [show R = b_room rk0 O0 from hR]; exact ⟨rfl, rfl⟩
  refine ac_know (fun k1 k2 => ?_)
  refine va_callv (va_runV (As := [.ref (b_o g 5), .int v]) (rest := st) (b := b_o g 4) C (so_openF hg v M O H.size (hsum H)) ⟨hb, C.2.2.2.2 _ w6, C.2.2.2.2 _ w7⟩ (by exact ⟨f_blind, f_recv K hP (ci := 8) rfl (i := 4) (c := 4) (off := 40) (n := 16) (by rw [hg]; rfl) rfl, fun U hU hW => ⟨rfl, by show f_P g O M O U.heap; rw [hU]; exact p1, b_K.go hW (by rw [hU]; exact hS.1) (by rw [hU]; exact hS.2.1) K, by rw [hU], by rw [hU]⟩⟩) rfl rfl hlv.1 rfl (lv_room hr) hd ⟨by rw [hRc.1]; exact hsm.1, by rw [hRc.2]; exact hsm.2⟩) hS (fun q _ h9 => h9) (fun q h9 => h9) (fun u t H1 locs1 ht hvm hq hB hz1 hk1 hS1 => ?_)
  obtain ⟨q1, q2, q3⟩ := hB
  rw [ht] at q1 q2 q3
  have q2' : H1.size ≤ H.size + b_cc O O := q2
  have q3' : hsum H1 ≤ hsum H + b_cs O O := q3
  rw [b_cc0] at q2'
  rw [b_cs0] at q3'
  refine ac_recount (b_cc O0 O) (b_cs O0 O) (by omega) (by omega) ?_
  exact kk H1 locs1 ls (f_Pup p2 q1) hS1 hlv
theorem s_trialY {x : ac_X} {g : b_S} {l : Launch} {c : Nat} (hg : g.1 = tb_T c) {M : f_S3} {O : Nat × Nat} (Z : b_Cx x g l RX11 cX11_trial 5 16 O) (p1 p2 p3 p4 : Int32) {Q : Int32 → f_S3 → Nat × Nat → Prop} (hr0 : ∀ (pc : Nat) (lv : List (Nat × Value)) (r : Int32), decode cX11_trial pc = .ok (.ireturn, 1) → Q r M O → f_G x g 5 O M O pc lv [.int r]) (hr5 : ∀ (pc : Nat) (lv : List (Nat × Value)) (r : Int32) (M' : f_S3) (O' : Nat × Nat), decode cX11_trial pc = .ok (.ireturn, 1) → Q r M' O' → ac_G x (b_A g) 5 (f_P (b_5 g) O M' O') (b_cc O O') (b_cs O O') pc lv [.int r]) (hw : wY_trial (b_N g) p1 p2 p3 p4 M O Q) : f_G x g 5 O M O 0 [(0, .ref (b_o g 0)), (1, .int p1), (2, .int p2), (3, .int p3), (4, .int p4)] [] := by
  have h29 : Q (-1) M O → f_G x g 5 O M O 29 [(0, .ref (b_o g 0)), (1, .int p1), (2, .int p2), (3, .int p3), (4, .int p4)] [] := fun hq => by
    refine ac_iconst (v := (-1)) Z.1 dX11_trial_29 (by decide) ?_
    exact hr0 _ _ _ dX11_trial_30 hq
  refine ac_iload_n Z.1 1 dX11_trial_0 rfl ?_
  refine ac_if_lt (tgt := 29) Z.1 dX11_trial_1 (by decide) (fun c1 => h29 (hw.1 c1)) (fun c1 => ?_)
  refine ac_iload_n Z.1 1 dX11_trial_4 rfl ?_
  refine ac_aload_n Z.1 0 dX11_trial_5 rfl ?_
  refine f_getr Z b_X11 0 (oT_0 hg) 2 (by decide) (by decide) (fT_2 hg) fX11_18 rfl rfl dX11_trial_6 ?_
  refine f_geti Z b_X6 5 (oT_5 hg) 4 (by decide) (by decide) (fT_64 hg) fX11_92 rfl (v := M.1 64) rfl dX11_trial_9 ?_
  refine ac_icmp_ge (tgt := 29) Z.1 dX11_trial_12 (by decide) (fun c2 => h29 ((hw.2 c1).1 c2)) (fun c2 => ?_)
  refine ac_iload Z.1 4 dX11_trial_15 rfl ?_
  refine ac_iconst (v := 1) Z.1 dX11_trial_17 (by decide) ?_
  refine ac_icmp_lt (tgt := 29) Z.1 dX11_trial_18 (by decide) (fun c3 => h29 (((hw.2 c1).2 c2).1 c3)) (fun c3 => ?_)
  refine ac_iload Z.1 4 dX11_trial_21 rfl ?_
  refine ac_sipush (v := 5000) Z.1 dX11_trial_23 (by decide) ?_
  refine ac_icmp_le (tgt := 31) Z.1 dX11_trial_26 (by decide) (fun c4 => ?_) (fun c4 => h29 ((((hw.2 c1).2 c2).2 c3).2 c4))
  have hw := (((hw.2 c1).2 c2).2 c3).1 c4
  refine ac_aload_n Z.1 0 dX11_trial_31 rfl ?_
  refine f_getr Z b_X11 0 (oT_0 hg) 6 (by decide) (by decide) (fT_6 hg) fX11_39 rfl rfl dX11_trial_32 ?_
  refine f_callv Z (ci := 5) rfl 3 (oT_3 hg) rfl kX5_open lX11_95 (rk := 0) (by decide) (As := []) (soY_X5_open hg M O _ hw) rfl rfl (Nat.zero_le _) dX11_trial_35 (fun M1 O1 h1 => ?_)
  refine ac_aload_n Z.1 0 dX11_trial_38 rfl ?_
  refine f_getr Z b_X11 0 (oT_0 hg) 5 (by decide) (by decide) (fT_5 hg) fX11_32 rfl rfl dX11_trial_39 ?_
  refine f_callv Z (ci := 2) rfl 2 (oT_2 hg) rfl kX2_openTrial lX11_98 (rk := 0) (by decide) (As := []) (soY_X2_openTrial hg M1 O1 _ h1) rfl rfl (Nat.zero_le _) dX11_trial_42 (fun M2 O2 h2 => ?_)
  refine ac_aload_n Z.1 0 dX11_trial_45 rfl ?_
  refine f_getr Z b_X11 0 (oT_0 hg) 7 (by decide) (by decide) (fT_7 hg) fX11_48 rfl rfl dX11_trial_46 ?_
  refine ac_aload_n Z.1 0 dX11_trial_49 rfl ?_
  refine f_getr Z b_X11 0 (oT_0 hg) 2 (by decide) (by decide) (fT_2 hg) fX11_18 rfl rfl dX11_trial_50 ?_
  refine ac_iload Z.1 4 dX11_trial_53 rfl ?_
  refine f_callo hg Z (by decide) (Nat.zero_le _) dX11_trial_55 ?_
  have Z5 := b_5Z Z
  refine ac_aload_n Z.1 0 dX11_trial_58 rfl ?_
  refine f_getr (g := b_5 g) Z5 b_X11 0 rfl 8 (by decide) (by decide) rfl fX11_57 rfl rfl dX11_trial_59 ?_
  refine ac_iload_n Z.1 1 dX11_trial_62 rfl ?_
  refine ac_iload_n Z.1 2 dX11_trial_63 rfl ?_
  refine ac_iload_n Z.1 3 dX11_trial_64 rfl ?_
  refine f_callv (g := b_5 g) Z5 (ci := 0) rfl 1 rfl rfl kX0_conduct lX11_104 (rk := 14) (by decide) (As := [.int p1, .int p2, .int p3]) (soY_X0_conduct (g := b_5 g) rfl p1 p2 p3 (fm M2 48 p4) O2 _ h2) rfl rfl (Nat.zero_le _) dX11_trial_65 (fun M3 O3 h3 => ?_)
  refine ac_aload_n Z.1 0 dX11_trial_68 rfl ?_
  refine f_getr (g := b_5 g) Z5 b_X11 0 rfl 6 (by decide) (by decide) rfl fX11_39 rfl rfl dX11_trial_69 ?_
  refine f_geti (g := b_5 g) Z5 b_X5 3 rfl 2 (by decide) (by decide) rfl fX11_108 rfl (v := M3.1 32) rfl dX11_trial_72 ?_
  exact hr5 _ _ _ M3 O3 dX11_trial_75 h3
theorem cl_trialJ {l : Launch} {D : va_G} {cT : Nat → ClassId} {adK adV : Nat → Nat} {h : Nat} {u : cl_S} (ok : cl_okJ h u) (p1 p2 p3 p4 : Int32) {Q : Int32 → f_S3 → Nat × Nat → Prop} (hw : wY_trial (cl_N u) p1 p2 p3 p4 (cl_s u) (cl_O u) (fun r s' O' => tJ (cl_N u) s'.1 O' ∧ Q r s' O')) : cl_MetJ l D cT adK adV yX11_trial cX11_trial 5 .int 16 (b_mc (cl_O u)) (b_ms (cl_O u)) 0 0 h [.int p1, .int p2, .int p3, .int p4] u (fun r u' => cl_N u' = cl_N u ∧ Q r (cl_s u') (cl_O u')) := by
  intro sz sm
  have := ok.1
  subst this
  refine Met.ofW (cc := cX11_trial) (maxL := 5) (ret := some .int) (by decide) rfl ?_
  intro p e s m args below meth cd s₁ B hml hv
  obtain ⟨rfl, hv⟩ := hv
  have hv : f_Pre (cl_g D cT adK adV u sz) sz sm (cl_s u) (cl_O u) s := by
    obtain ⟨⟨hP, hD⟩, hK, hS, hT, hN, h1, h2⟩ := hv
    exact ⟨⟨hP, b_Dgo (hD.self (sz := sz)), Nat.le_refl _, ok.2.2.2.2.2.2.2.2⟩, ⟨okT _, hK, fun q h => Or.inr h, hS, hT, by rw [h1]; exact Nat.le_refl _⟩, h1, h2⟩
  obtain ⟨hP, hK, rfl, rfl⟩ := hv
  have hts := atoms_spec (ws := .code yX11_trial cX11_trial 5 (some .int) :: ac_tbl) B.pre
  have hown : s.vm.findClass RX11 = some m.cls := findClass_of_methodNamed B.named
  have hl := lv_entry [.ref (u.2.1 0), .int p1, .int p2, .int p3, .int p4] (n := 5) (Nat.le_of_ble_eq_true rfl)
  rw [lg_entry_eq]
  refine ac_zero (cl_O u) ?_
  refine s_trialY (x := (p, l, e, b_room 16 (cl_O u), s, m, _, below, meth, cd, _)) (g := cl_g D cT adK adV u s.heap.size) (c := u.1) rfl ⟨⟨B.exec, B.bytes, hml, hown, fun w hw => hts w (List.mem_cons_of_mem _ hw)⟩, hK, rfl, rfl⟩ p1 p2 p3 p4 ?_ ?_ hw s.heap [] _ hP va_S.rf hl
  · intro pc lv r hd hq H locs ls hP' hS' _
    refine ac_know (fun k1 k2 => ?_)
    have hwd := f_wid hP'
    refine W.widen hwd.1 hwd.2 ?_
    obtain ⟨hP1, hD1, hO, hO7⟩ := hP'
    exact W.zret (v := r) (ty := .int) B.exec B.bytes B.returns rfl (fun t ht hW => ⟨⟨r, (u.1, u.2.1, cl_N u, cl_M u, u.2.2.2.2.1, u.2.2.2.2.2.1, cl_O u), rfl, ⟨⟨rfl, ok.2.1, hq.1⟩, rfl, hq.2⟩, ⟨by rw [ht]; exact hP1, b_Dgo hD1⟩, Nat.le_refl _, by rw [ht]; exact k1, by rw [ht]; exact k2⟩, by rw [va_F, ht]; exact ⟨hS'.1, hS'.2.1⟩⟩) hS'.2.2 hd
  · intro pc lv r M' O' hd hq H locs ls hP' hS' _
    refine ac_know (fun k1 k2 => ?_)
    have hwd := f_wid hP'
    refine W.widen hwd.1 hwd.2 ?_
    obtain ⟨hP1, hD1, hO, hO7⟩ := hP'
    exact W.zret (v := r) (ty := .int) B.exec B.bytes B.returns rfl (fun t ht hW => ⟨⟨r, (5, u.2.1, cl_N u, M'.1, M'.2.1, M'.2.2, O'), rfl, ⟨⟨rfl, ok.2.1, hq.1⟩, rfl, hq.2⟩, ⟨by rw [ht]; exact hP1, b_Dgo hD1⟩, hO, by rw [ht]; exact k1, by rw [ht]; exact k2⟩, by rw [va_F, ht]; exact ⟨hS'.1, hS'.2.1⟩⟩) hS'.2.2 hd
end ZF1
