/-! DOCKET'S make, WITH WHAT ITS ROW HOLDS. -/
def cp_x (f : Nat → Int32) (n : Nat) : Nat → Int32 := fun j => if j < n then f j else 0
theorem cp_x_e (f : Nat → Int32) (n : Nat) : va_cpy f (fun _ => 0) 0 0 n = cp_x f n := by
  funext j
  unfold va_cpy cp_x
  by_cases h : j < n
  · rw [if_pos ⟨Nat.zero_le _, by omega⟩, if_pos h, Nat.zero_add, Nat.sub_zero]
  · rw [if_neg (fun q => h (by omega)), if_neg h]
/-- Arrays.copyOf to another length -/
theorem c_copyOfV (l : Launch) (D : va_G) (a n m sz sm : Nat) (cI : ClassId) (f : Nat → Int32) (hn : n < 2 ^ 27) (hm : m < 2 ^ 27) (hne : n < m) : Met l yJ7_copyOf_59c91 (.code yJ7_copyOf_59c91 cJ7_copyOf_59c91 3 (some (.array .int)) :: ac_tbl) (cp_room m)
    (va_Pc [.ref a, .int (nI m)] (fun U => va_P D ac_cl [(a, .inl (cI, n, .inl f))] U.heap ∧ va_K D ac_cl [(cI, .int)] U ∧ U.heap.size = sz ∧ hsum U.heap = sm ∧ a < sz))
    (va_Qr (fun _ : Unit => True) (fun _ r t => sz ≤ r ∧ va_P D ac_cl [(a, .inl (cI, n, .inl f)), (r, .inl (cI, m, .inl (cp_x f n)))] t.heap ∧ t.heap.size ≤ sz + 1 ∧ hsum t.heap ≤ sm + m) (cp_A a sz)) 1 m (cp_A a sz) := by
  refine Met.ofW (cc := cJ7_copyOf_59c91) (maxL := 3) (ret := some (.array .int)) (by decide) rfl ?_
  intro p e s m9 args below meth c s₁ B hml hv
  obtain ⟨rfl, hP, hK, rfl, rfl, hlt⟩ := hv
  have hx := B.exec
  have hb := B.bytes
  have hts9 := atoms_spec (ws := .code yJ7_copyOf_59c91 cJ7_copyOf_59c91 3 (some (.array .int)) :: ac_tbl) B.pre
  have hts : ∀ w ∈ ac_tbl, w.before _ s = true := fun w hw => hts9 w (List.mem_cons_of_mem _ hw)
  have hown : s.vm.findClass RJ7 = some m9.cls := findClass_of_methodNamed B.named
  have hlocks := B.notSynchronized
  have hl := lv_entry ([.ref a, .int (nI m)]) (n := 3) (Nat.le_of_ble_eq_true rfl)
  rw [lg_entry_eq]
  generalize (lg_sl ([.ref a, .int (nI m)]) ++ List.replicate (3 - (lg_sl ([.ref a, .int (nI m)])).length) Slot.unset).toArray = ls at hl ⊢
  have hl : lv_has ls 3 [(0, .ref a), (1, .int (nI m))] := hl
  have hD : va_D (cp_A a s.heap.size) [(a, .inl (cI, n, .inl f))] := by
    refine ⟨fun i j p q hi hj _ => ?_, fun k q hk => ?_⟩
    · have h1 := (List.getElem?_eq_some_iff.mp hi).1
      have h2 := (List.getElem?_eq_some_iff.mp hj).1
      simp at h1 h2
      omega
    · have h1 := (List.getElem?_eq_some_iff.mp hk).1
      simp at h1
      subst h1
      cases hk
      exact Or.inl rfl
  have hS : va_S (cp_A a s.heap.size) s.heap s.heap [] := va_S.rf
  have hA : ∀ q : Nat, s.heap.size ≤ q → cp_A a s.heap.size q := fun q h => Or.inr h
  refine lv_iload_n hx hb dJ7_copyOf_59c91_0 rfl (lv_at hl 1 rfl) ?_
  refine lv_aload_n hx hb dJ7_copyOf_59c91_1 rfl (lv_at hl 0 rfl) ?_
  refine va_alen hx hb hK hP 0 0 rfl rfl (v := nI n) rfl dJ7_copyOf_59c91_2 ?_
  refine lv_icmp_ne (tgt := 14) hx hb dJ7_copyOf_59c91_3 (by decide) (fun _ => ?_) (fun hc => ?_)
  rotate_left
  · exact absurd ((nI_eq (by omega) (by omega)).mp hc).symm (Nat.ne_of_lt hne)
  refine lv_iload_n hx hb dJ7_copyOf_59c91_14 rfl (lv_at hl 1 rfl) ?_
  refine va_newa (atype := .int) (ty := .int) (N' := m) (a0 := (m, .inl (fun _ => 0))) hx hb (hts _ arJ_int) rfl hK hP hD hS hA (fun _ => rfl) (nI_pos (by omega)) (nI_clamp (by omega)) (by show m * 4 ≤ _; omega) (Nat.le_refl 1) (by show 0 + m ≤ m; omega) dJ7_copyOf_59c91_15 (fun q cA H1 hK1 hP1 hD1 hS1 => ?_)
  have hcA : cA = cI := by
    have h1 := (hK1.2 0 _ rfl).2
    have h2 := (hK1.2 1 _ rfl).2
    have h3 : s.vm.findClass ("[" ++ FieldType.int.toString) = some cI := h1
    have h4 : s.vm.findClass ("[" ++ FieldType.int.toString) = some cA := h2
    rw [h3] at h4
    exact (Option.some.inj h4).symm
  subst hcA
  have hqs : s.heap.size ≤ q := by
    rcases hD1.2 1 _ rfl with h | h
    · exact absurd (hD1.1 0 1 _ _ rfl rfl h.symm) (by decide)
    · exact h
  refine lv_astore_n (lv' := [(2, .ref q), (0, .ref a), (1, .int (nI m))]) hx hb dJ7_copyOf_59c91_17 rfl hl (by decide) rfl (fun ls hl => ?_)
  refine lv_aload_n hx hb dJ7_copyOf_59c91_18 rfl (lv_at hl 1 rfl) ?_
  refine lv_iconst (v := 0) hx hb dJ7_copyOf_59c91_19 (by decide) ?_
  refine lv_aload_n hx hb dJ7_copyOf_59c91_20 rfl (lv_at hl 0 rfl) ?_
  refine lv_iconst (v := 0) hx hb dJ7_copyOf_59c91_21 (by decide) ?_
  refine lv_aload_n hx hb dJ7_copyOf_59c91_22 rfl (lv_at hl 1 rfl) ?_
  refine va_alen hx hb hK1 hP1 0 0 rfl rfl (v := nI n) rfl dJ7_copyOf_59c91_23 ?_
  refine lv_iload_n hx hb dJ7_copyOf_59c91_24 rfl (lv_at hl 2 rfl) ?_
  refine va_mmin hx hb (hml.trans hl.1.symm) hown (hts _ lkJ7_304) (hts _ stJ_min) (hts _ inJ_math) (hts _ cdJ_min) (by show 1 ≤ 3; omega) (Nat.le_of_ble_eq_true rfl) (Nat.le_refl _) (by show 0 + m ≤ m; omega) dJ7_copyOf_59c91_25 ?_
  have hmin : (if nI m < nI n then nI m else nI n) = nI n := if_neg (nI_nlt (by omega) (by omega))
  have hk1 : n ≤ n := Nat.le_refl n
  have hk2 : n ≤ m := by omega
  rw [hmin]
  have hkc : (nI n).toNatClampNeg = n := nI_clamp (by omega)
  refine va_copyi hx hb (hml.trans hl.1.symm) hown (hts _ lkJ7_150) (hts _ ntJ_ac) (hts _ stJ_ac) (hts _ inJ_sys) hK1 hP1 hD1 hS1 0 1 0 1 rfl rfl rfl rfl rfl (by decide) (by decide) (nI_pos (by omega)) (by rw [hkc]; show 0 + n ≤ n; omega) (by rw [hkc]; show 0 + n ≤ m; omega) (fun i hi => rfl) (by show 1 ≤ 3; omega) (Nat.le_of_ble_eq_true rfl) dJ7_copyOf_59c91_28 (fun H2 locs2 hP2 hD2 hS2 => ?_)
  have e9 : va_cpy f (fun _ => (0 : Int32)) (0 : Int32).toNatClampNeg (0 : Int32).toNatClampNeg (nI n).toNatClampNeg = cp_x f n := by rw [hkc]; exact cp_x_e f n
  rw [e9] at hP2
  refine lv_aload_n hx hb dJ7_copyOf_59c91_31 rfl (lv_at hl 0 rfl) ?_
  refine ac_know (fun k1 k2 => ?_)
  have k1 : H2.size ≤ s.heap.size + 1 := k1
  have k2 : hsum H2 ≤ hsum s.heap + m := by omega
  refine W.widen (k := 1) (n := m) (Nat.le_refl 1) (by omega) ?_
  exact W.aret (v := .ref q) hx hb B.returns (Or.inr ⟨.int, rfl⟩) (Or.inr ⟨q, rfl⟩) (fun t ht hW => ⟨⟨(), q, rfl, trivial, hqs, by rw [ht]; exact hP2, by rw [ht]; exact k1, by rw [ht]; exact k2⟩, by rw [va_F, ht]; exact ⟨hS2.1, hS2.2.1⟩⟩) hS2.2.2 dJ7_copyOf_59c91_32
def fg (M : f_S3) (n : Nat) : f_S3 := (M.1, b_uF M.2.1 99 (cp_x (M.2.1 99) n), M.2.2)
theorem f_grow {x : ac_X} {g : b_S} {c : Nat} (hg : g.1 = tb_T c) {l : Launch} {cc0 : ByteArray} {nL0 rk0 : Nat} {O0 O : Nat × Nat} {M : f_S3} {pc : Nat} {lv : List (Nat × Value)} {st : List Value} (Z : b_Cx x g l RX2 cc0 nL0 rk0 O0) (hk : 4 ≤ rk0) (h7 : O.2 + 1 ≤ 7) {v : Int32} (hv : v = nI (448 * 2 ^ (O.2 + 1))) (hr : (st.map fun v => v.category).sum + 1 ≤ 8) (hd : decode cc0 pc = .ok (.invokestatic 22, 3)) (hd2 : decode cc0 (pc + 3) = .ok (.putfield 11, 3))
    (kk : ∀ O' : Nat × Nat, O'.2 = O.2 + 1 → f_G x g nL0 O0 (fg M (448 * 2 ^ O.2)) O' (pc + 6) lv st) : f_G x g nL0 O0 M O pc lv (.int v :: .ref O.1 :: .ref (b_o g 2) :: st) := by
  obtain ⟨p, l', e, R, s, m, args, below, meth, cd, Q⟩ := x
  obtain ⟨t, D, ad, NN, cT, adK, adV, A, up⟩ := g
  have hg : t = tb_T c := hg
  subst hg
  obtain ⟨CC, K, hR, rfl⟩ := Z
  have hR : R = b_room rk0 O0 := hR
  obtain ⟨w1, w2, w3, w4, w5, w6, w8, w9⟩ := kJ7_copyOf
  intro H locs ls hP hS hlv
  obtain ⟨hP1, hP2, h1, h2⟩ := hP
  subst hv
  refine ac_know (fun k1 k2 => ?_)
  have a1 := b_pow h1
  have a2 := b_le7 h7
  have e2 : 2 ^ (O.2 + 1) = 2 * 2 ^ O.2 := by rw [Nat.pow_succ]; omega
  have hp0 : 0 < 2 ^ O.2 := Nat.pow_pos (by decide)
  have hcell : (b_W (tb_T c) (b_ad ad O) (b_ln NN O) cT M.1 M.2.1 M.2.2)[6 + 4]? = some (O.1, .inl (cT 0, 448 * 2 ^ O.2, .inl (M.2.1 99))) := rfl
  have hPr : va_P D ac_cl [(O.1, .inl (cT 0, 448 * 2 ^ O.2, .inl (M.2.1 99)))] H := by
    intro k q hk
    have hk1 : k < 1 := (List.getElem?_eq_some_iff.mp hk).1
    have hk0 : k = 0 := by omega
    subst hk0
    cases hk
    exact hP1 _ _ hcell
  have hOlt : O.1 < H.size := (hPr 0 _ rfl).lt
  have hKr : va_K D ac_cl [(cT 0, .int)] s := ⟨K.2.1.1, fun k q hk => by
    have hk1 : k < 1 := (List.getElem?_eq_some_iff.mp hk).1
    have hk0 : k = 0 := by omega
    subst hk0
    cases hk
    exact K.2.1.2 0 _ rfl⟩
  have hsz : up ≤ H.size := Nat.le_trans K.2.2.2.2.2 hS.1
  have hAup : ∀ q, H.size ≤ q → A q := fun q h => K.2.2.1 q (Nat.le_trans hsz h)
  have hOA : A O.1 := hP2.2 10 _ rfl
  have hM := c_copyOfV l' D O.1 (448 * 2 ^ O.2) (448 * 2 ^ (O.2 + 1)) H.size (hsum H) (cT 0) (M.2.1 99) (by omega) (by omega) (by omega)
  have hRc : R.cells = b_mc O0 ∧ R.slots = b_ms O0 ∧ R.frames = rk0 ∧ R.locals = 40 * rk0 := by rw [hR]; exact ⟨rfl, rfl, rfl, rfl⟩
  have hcb : CallB R s args RX2 22 yJ7_copyOf_59c91 cJ7_copyOf_59c91 3 (some (.array .int)) (.code yJ7_copyOf_59c91 cJ7_copyOf_59c91 3 (some (.array .int)) :: ac_tbl) (cp_room (448 * 2 ^ (O.2 + 1))) 1 (448 * 2 ^ (O.2 + 1)) 2 := by
    refine ⟨rfl, rfl, by rw [hRc.2.2.1]; exact hk, by rw [hRc.2.2.2]; show 8 + (3 + 11) + 120 ≤ _; omega, ac_pay CC.2.2.2.2 w9, List.mem_cons_self, CC.2.2.2.2 _ w9, CC.2.2.2.2 _ w8, ⟨by rw [w1]; exact w2, by rw [w1]; exact w3⟩, fun sig h => ?_, CC.2.2.2.2 _ lkX2_22⟩
    rw [h] at w4
    exact (Option.some.inj w4).symm
  have hbud : b_cc O0 O + 1 ≤ R.cells ∧ b_cs O0 O + 448 * 2 ^ (O.2 + 1) ≤ R.slots := by
    rw [hRc.1, hRc.2.1]
    unfold b_cc b_cs b_mc b_ms
    omega
  have hbl : FrameBlind (va_Pc [.ref O.1, .int (nI (448 * 2 ^ (O.2 + 1)))] (fun U => va_P D ac_cl [(O.1, .inl (cT 0, 448 * 2 ^ O.2, .inl (M.2.1 99)))] U.heap ∧ va_K D ac_cl [(cT 0, .int)] U ∧ U.heap.size = H.size ∧ hsum U.heap = hsum H ∧ O.1 < H.size)) := fun a U g9 mk q => ⟨q.1, q.2.1, va_K.moved (u := U) (U := U.calling g9 mk a) (Vm.Alike.refl U.vm) q.2.2.1, q.2.2.2.1, q.2.2.2.2.1, q.2.2.2.2.2⟩
  refine va_callr (va_runS (As := [.ref O.1, .int (nI (448 * 2 ^ (O.2 + 1)))]) (rest := .ref (ad 2) :: st) CC hM ⟨hcb, CC.2.2.2.2 _ w6⟩ ⟨hbl, fun U hU hW => ⟨rfl, by rw [hU]; exact hPr, va_K.moved hW.alike hKr, by rw [hU], by rw [hU], hOlt⟩⟩ rfl rfl hlv.1 rfl (lv_room (by show 1 + (st.map fun v => v.category).sum ≤ 8; omega)) hd hbud) hS (fun q _ h9 => ?_) (fun q h9 => ?_) (fun u ra t H1 locs1 ht hvm hq hB hz1 hk1 hS1 => ?_)
  · rcases h9 with h | h
    · rw [h]; exact hOA
    · exact hAup q h
  · rcases h9 with h | h
    · rw [h]; exact hOA
    · exact hAup q h
  obtain ⟨q1, q2, q3, q4⟩ := hB
  rw [ht] at q2 q3 q4
  have hP3 : va_P D ac_cl (b_W (tb_T c) (b_ad ad O) (b_ln NN O) cT M.1 M.2.1 M.2.2 ++ [ac_cellN ra (cT 0) (448 * 2 ^ (O.2 + 1)) (cp_x (M.2.1 99) (448 * 2 ^ O.2))]) H1 := by
    refine va_P.app (fun k q hk => ?_) (fun k q hk => ?_)
    · by_cases hq9 : q.1 = O.1
      · have hkk : k = 6 + 4 := by
          have hDD := b_Dgo (M' := M.1) (F' := M.2.1) (J' := M.2.2) hP2
          exact hDD.1 k (6 + 4) _ _ hk hcell hq9
        subst hkk
        have e9 : q = (O.1, .inl (cT 0, 448 * 2 ^ O.2, .inl (M.2.1 99))) := Option.some.inj (hk.symm.trans hcell)
        subst e9
        exact q2 0 _ rfl
      · have hlt9 := (hP1 k q hk).lt
        exact (hP1 k q hk).kept (hk1 q.1 hlt9 (fun h => by
          rcases h with h | h
          · exact hq9 h
          · omega))
    · have hk1 : k < 1 := (List.getElem?_eq_some_iff.mp hk).1
      have hk0 : k = 0 := by omega
      subst hk0
      cases hk
      exact q2 1 _ rfl
  have hD3 : va_D A (b_W (tb_T c) (b_ad ad O) (b_ln NN O) cT M.1 M.2.1 M.2.2 ++ [ac_cellN ra (cT 0) (448 * 2 ^ (O.2 + 1)) (cp_x (M.2.1 99) (448 * 2 ^ O.2))]) := by
    refine va_D.app (b_Dgo hP2) ⟨fun i j p q hi hj _ => ?_, fun k q hk => ?_⟩ (fun i j p q hi hj hpq => ?_)
    · have h1 := (List.getElem?_eq_some_iff.mp hi).1
      have h2 := (List.getElem?_eq_some_iff.mp hj).1
      simp at h1 h2
      omega
    · have h1 := (List.getElem?_eq_some_iff.mp hk).1
      simp at h1
      subst h1
      cases hk
      exact hAup _ q1
    · have h1 := (List.getElem?_eq_some_iff.mp hj).1
      simp at h1
      subst h1
      cases hj
      have hlt9 := (hP1 i p hi).lt
      have e9 : p.1 = ra := hpq
      omega
  have hobj : (b_W (tb_T c) (b_ad ad O) (b_ln NN O) cT M.1 M.2.1 M.2.2 ++ [ac_cellN ra (cT 0) (448 * 2 ^ (O.2 + 1)) (cp_x (M.2.1 99) (448 * 2 ^ O.2))])[2]? = some (ad 2, .inr (2, b_fs (tb_T c) (b_ad ad O) M.1 20 4)) := rfl
  refine va_put (C := RX2) (T := TX2) (N := 4) (ty := .array .int) CC.1 CC.2.1 CC.2.2.2.2 b_X2.2.1 tyX2 b_X2.2.2.1 b_X2.2.2.2.1 CC.2.2.2.1 K.2.1 hP3 hD3 hS1 2 hobj b_X2.1 0 (by decide) (CC.2.2.2.2 _ fX2_11) (fun q h9 => by rw [b_X2.2.2.2.2 0 (by decide)] at h9; exact h9) rfl rfl rfl rfl (by rw [b_fs_len]; decide) hd2 (fun H2 locs2 hP9 hD9 hS2 => ?_)
  have hfin := b_grown hP9
  have hcnt : b_cc O0 O + 1 = b_cc O0 (ra, O.2 + 1) ∧ b_cs O0 O + 448 * 2 ^ (O.2 + 1) = b_cs O0 (ra, O.2 + 1) := by
    show O.2 - O0.2 + 1 = (O.2 + 1) - O0.2 ∧ 896 * 2 ^ O.2 - 896 * 2 ^ O0.2 + 448 * 2 ^ (O.2 + 1) = 896 * 2 ^ (O.2 + 1) - 896 * 2 ^ O0.2
    omega
  rw [hcnt.1, hcnt.2]
  exact kk (ra, O.2 + 1) rfl H2 locs2 ls ⟨hfin, b_grownD hD3, by show O0.2 ≤ O.2 + 1; omega, h7⟩ hS2 hlv
/-- what a make leaves -/
def fmk (kind ground days place : Int32) (M : f_S3) (n : Int32) : f_S3 := ff (ff (ff (ff (ff (fm M 22 (n + 1)) 99 (n * 7 + 0) kind) 99 (n * 7 + 1) ground) 99 (n * 7 + 2) days) 99 (n * 7 + 3) (n + 1)) 99 (n * 7 + 4) place
def wY_X2_make (_N : Nat → Nat) (kind ground days place : Int32) (M : f_S3) (O : Nat × Nat) (Q : Int32 → f_S3 → Nat × Nat → Prop) : Prop :=
  0 ≤ (M.1 22).toInt ∧ (M.1 22).toInt ≤ 8000 ∧ 7 * (M.1 22).toInt ≤ ((448 * 2 ^ O.2 : Nat) : Int) ∧ (¬ M.1 22 < 8000 → Q 0 M O) ∧ (M.1 22 < 8000 → ∀ (M1 : f_S3) (O' : Nat × Nat), ((O' = O ∧ M1 = M) ∨ (O'.2 = O.2 + 1 ∧ M1 = fg M (448 * 2 ^ O.2))) → O'.2 ≤ 7 → 7 * ((M.1 22).toInt + 1) ≤ ((448 * 2 ^ O'.2 : Nat) : Int) → Q (M.1 22 + 1) (fmk kind ground days place M1 (M.1 22)) O')
theorem soY_X2_make {l : Launch} {g : b_S} {c : Nat} (hg : g.1 = tb_T c) (p1 p2 p3 p4 : Int32) (M : f_S3) (O : Nat × Nat) (Q : Int32 → f_S3 → Nat × Nat → Prop) (hw : wY_X2_make (b_N g) p1 p2 p3 p4 M O Q) : f_MetI l g yX2_make cX2_make 6 .int 8 [.ref (b_o g 2), .int p1, .int p2, .int p3, .int p4] M O Q := by
  obtain ⟨m1, m2, m3, hq0, hq⟩ := hw
  obtain ⟨mk, hmk1, hmk⟩ := nI_of (x := M.1 22) (fun h => by
    have := Int32.lt_iff_toInt_lt.mp h
    simp at this
    omega)
  have hmi : (M.1 22).toInt = mk := by rw [hmk]; exact nI_toInt hmk1
  rw [hmi] at m1 m2 m3 hq
  have hmk2 : mk ≤ 8000 := by omega
  refine f_MetI.of (C := RX2) (by decide) rfl (Nat.le_of_ble_eq_true rfl) (fun x Z hret => ?_)
  show f_G x g 6 O M O 0 [(0, .ref (b_o g 2)), (1, .int p1), (2, .int p2), (3, .int p3), (4, .int p4)] []
  refine ac_aload_n Z.1 0 dX2_make_0 rfl ?_
  refine f_geti Z b_X2 2 (oT_2 hg) 2 (by decide) (by decide) (fT_22 hg) fX2_15 rfl (v := M.1 22) rfl dX2_make_1 ?_
  refine ac_sipush (v := 8000) Z.1 dX2_make_4 (by decide) ?_
  refine ac_icmp_lt (tgt := 12) Z.1 dX2_make_7 (by decide) (fun hc => ?_) (fun hc => ?_)
  rotate_left
  · refine ac_iconst (v := 0) Z.1 dX2_make_10 (by decide) ?_
    exact hret _ _ _ _ _ dX2_make_11 rfl (hq0 hc)
  have hc8 := hc
  have hlt : mk < 8000 := by
    rcases Nat.lt_or_ge mk 8000 with q | q
    · exact q
    · have h8 : mk = 8000 := by omega
      rw [hmk, h8] at hc
      exact absurd hc (by decide)
  refine ac_aload_n Z.1 0 dX2_make_12 rfl ?_
  refine f_geti Z b_X2 2 (oT_2 hg) 2 (by decide) (by decide) (fT_22 hg) fX2_15 rfl (v := M.1 22) rfl dX2_make_13 ?_
  refine ac_bipush (v := 7) Z.1 dX2_make_16 (by decide) ?_
  refine ac_imul Z.1 dX2_make_18 ?_
  refine ac_topi (fun v hv => ?_)
  have hv0 : v = M.1 22 * 7 := hv
  have hv : v = nI (mk * 7) := by rw [hv, hmk]; exact pk_mul mk 7
  refine ac_istore (lv' := [(5, .int v), (0, .ref (b_o g 2)), (1, .int p1), (2, .int p2), (3, .int p3), (4, .int p4)]) Z.1 dX2_make_19 (by decide) rfl ?_
  have tail : ∀ (M1 : f_S3) (O' : Nat × Nat), ((O' = O ∧ M1 = M) ∨ (O'.2 = O.2 + 1 ∧ M1 = fg M (448 * 2 ^ O.2))) → O'.2 ≤ 7 → 7 * (mk + 1) ≤ 448 * 2 ^ O'.2 → f_G x g 6 O M1 O' 52 [(5, .int v), (0, .ref (b_o g 2)), (1, .int p1), (2, .int p2), (3, .int p3), (4, .int p4)] [] := by
    intro M1 O' ho h7 hle
    have e22 : M1.1 22 = M.1 22 := by rcases ho with ⟨-, rfl⟩ | ⟨-, rfl⟩ <;> rfl
    have a2 := b_le7 h7
    have hix : ∀ j : Nat, j < 7 → vp_in (v + nI j) (448 * 2 ^ O'.2) := by
      intro j hj
      rw [hv, nI_add]
      exact vp_in_nI (by omega) (by omega)
    refine ac_aload_n Z.1 1 dX2_make_52 rfl ?_
    refine ac_dup Z.1 dX2_make_53 rfl ?_
    refine f_geti Z b_X2 2 (oT_2 hg) 2 (by decide) (by decide) (fT_22 hg) fX2_15 rfl (v := M.1 22) e22 dX2_make_54 ?_
    refine ac_iconst (v := 1) Z.1 dX2_make_57 (by decide) ?_
    refine ac_iadd Z.1 dX2_make_58 ?_
    refine f_put Z b_X2 2 (oT_2 hg) 2 (by decide) (by decide) (fT_22 hg) rfl rfl fX2_15 rfl (I := 22) rfl dX2_make_59 ?_
    refine ac_aload_n Z.1 1 dX2_make_62 rfl ?_
    refine f_getr Z b_X2 2 (oT_2 hg) 0 (by decide) (by decide) (fT_20 hg) fX2_11 rfl (h2 := O'.1) rfl dX2_make_63 ?_
    refine ac_iload Z.1 0 dX2_make_66 rfl ?_
    refine ac_iconst (v := 0) Z.1 dX2_make_68 (by decide) ?_
    refine ac_iadd Z.1 dX2_make_69 ?_
    refine ac_iload_n Z.1 2 dX2_make_70 rfl ?_
    refine f_ast Z 4 (aT_99 hg) rfl (hix 0 (by omega)) dX2_make_71 ?_
    refine ac_aload_n Z.1 1 dX2_make_72 rfl ?_
    refine f_getr Z b_X2 2 (oT_2 hg) 0 (by decide) (by decide) (fT_20 hg) fX2_11 rfl (h2 := O'.1) rfl dX2_make_73 ?_
    refine ac_iload Z.1 0 dX2_make_76 rfl ?_
    refine ac_iconst (v := 1) Z.1 dX2_make_78 (by decide) ?_
    refine ac_iadd Z.1 dX2_make_79 ?_
    refine ac_iload_n Z.1 3 dX2_make_80 rfl ?_
    refine f_ast Z 4 (aT_99 hg) rfl (hix 1 (by omega)) dX2_make_81 ?_
    refine ac_aload_n Z.1 1 dX2_make_82 rfl ?_
    refine f_getr Z b_X2 2 (oT_2 hg) 0 (by decide) (by decide) (fT_20 hg) fX2_11 rfl (h2 := O'.1) rfl dX2_make_83 ?_
    refine ac_iload Z.1 0 dX2_make_86 rfl ?_
    refine ac_iconst (v := 2) Z.1 dX2_make_88 (by decide) ?_
    refine ac_iadd Z.1 dX2_make_89 ?_
    refine ac_iload_n Z.1 4 dX2_make_90 rfl ?_
    refine f_ast Z 4 (aT_99 hg) rfl (hix 2 (by omega)) dX2_make_91 ?_
    refine ac_aload_n Z.1 1 dX2_make_92 rfl ?_
    refine f_getr Z b_X2 2 (oT_2 hg) 0 (by decide) (by decide) (fT_20 hg) fX2_11 rfl (h2 := O'.1) rfl dX2_make_93 ?_
    refine ac_iload Z.1 0 dX2_make_96 rfl ?_
    refine ac_iconst (v := 3) Z.1 dX2_make_98 (by decide) ?_
    refine ac_iadd Z.1 dX2_make_99 ?_
    refine ac_aload_n Z.1 1 dX2_make_100 rfl ?_
    refine f_geti Z b_X2 2 (oT_2 hg) 2 (by decide) (by decide) (fT_22 hg) fX2_15 rfl (v := M.1 22 + 1) rfl dX2_make_101 ?_
    refine f_ast Z 4 (aT_99 hg) rfl (hix 3 (by omega)) dX2_make_104 ?_
    refine ac_aload_n Z.1 1 dX2_make_105 rfl ?_
    refine f_getr Z b_X2 2 (oT_2 hg) 0 (by decide) (by decide) (fT_20 hg) fX2_11 rfl (h2 := O'.1) rfl dX2_make_106 ?_
    refine ac_iload Z.1 0 dX2_make_109 rfl ?_
    refine ac_iconst (v := 4) Z.1 dX2_make_111 (by decide) ?_
    refine ac_iadd Z.1 dX2_make_112 ?_
    refine ac_iload Z.1 5 dX2_make_113 rfl ?_
    refine f_ast Z 4 (aT_99 hg) rfl (hix 4 (by omega)) dX2_make_115 ?_
    refine ac_aload_n Z.1 1 dX2_make_116 rfl ?_
    refine f_geti Z b_X2 2 (oT_2 hg) 2 (by decide) (by decide) (fT_22 hg) fX2_15 rfl (v := M.1 22 + 1) rfl dX2_make_117 ?_
    exact hret _ _ _ _ _ dX2_make_120 rfl (by rw [hv0]; exact hq hc8 M1 O' ho h7 (by omega))
  refine ac_iload Z.1 0 dX2_make_21 rfl ?_
  refine ac_bipush (v := 7) Z.1 dX2_make_23 (by decide) ?_
  refine ac_iadd Z.1 dX2_make_25 ?_
  refine ac_aload_n Z.1 1 dX2_make_26 rfl ?_
  refine f_getr Z b_X2 2 (oT_2 hg) 0 (by decide) (by decide) (fT_20 hg) fX2_11 rfl (h2 := O.1) rfl dX2_make_27 ?_
  refine f_alen Z 4 (aT_99 hg) rfl (v := nI (448 * 2 ^ O.2)) rfl dX2_make_30 (by decide) ?_
  intro H locs ls hP hS hlv
  revert H locs ls
  have goal : O.2 ≤ 7 → f_G x g 6 O M O 31 [(5, .int v), (0, .ref (b_o g 2)), (1, .int p1), (2, .int p2), (3, .int p3), (4, .int p4)] [.int (nI (448 * 2 ^ O.2)), .int (v + 7)] := by
    intro hO7
    have a2 := b_le7 hO7
    have hp0 : 0 < 2 ^ O.2 := Nat.pow_pos (by decide)
    have e7 : v + 7 = nI (mk * 7 + 7) := by rw [hv]; exact nI_add _ 7
    refine ac_icmp_le (tgt := 52) Z.1 dX2_make_31 (by decide) (fun hc => ?_) (fun hc => ?_)
    · refine tail M O (Or.inl ⟨rfl, rfl⟩) hO7 ?_
      rw [e7] at hc
      have := (nI_leI (by omega) (by omega)).mp hc
      omega
    · have hgt : 448 * 2 ^ O.2 < mk * 7 + 7 := by
        rcases Nat.lt_or_ge (448 * 2 ^ O.2) (mk * 7 + 7) with q | q
        · exact q
        · exact absurd (by rw [e7]; exact nI_le q (by omega)) hc
      have h6 : O.2 + 1 ≤ 7 := by
        rcases Nat.lt_or_ge O.2 7 with q | q
        · omega
        · have := b_pow q
          omega
      have e2 : 2 ^ (O.2 + 1) = 2 * 2 ^ O.2 := by rw [Nat.pow_succ]; omega
      refine ac_aload_n Z.1 1 dX2_make_34 rfl ?_
      refine ac_aload_n Z.1 1 dX2_make_35 rfl ?_
      refine f_getr Z b_X2 2 (oT_2 hg) 0 (by decide) (by decide) (fT_20 hg) fX2_11 rfl (h2 := O.1) rfl dX2_make_36 ?_
      refine ac_aload_n Z.1 1 dX2_make_39 rfl ?_
      refine f_getr Z b_X2 2 (oT_2 hg) 0 (by decide) (by decide) (fT_20 hg) fX2_11 rfl (h2 := O.1) rfl dX2_make_40 ?_
      refine f_alen Z 4 (aT_99 hg) rfl (v := nI (448 * 2 ^ O.2)) rfl dX2_make_43 (by decide) ?_
      refine ac_iconst (v := 2) Z.1 dX2_make_44 (by decide) ?_
      refine ac_imul Z.1 dX2_make_45 ?_
      refine f_grow hg Z (by omega) h6 (by rw [show (2 : Int32) = nI 2 from rfl, pk_mul, e2]; congr 1; omega) (Nat.le_of_ble_eq_true rfl) dX2_make_46 dX2_make_49 (fun O' ho => ?_)
      exact tail _ O' (Or.inr ⟨ho, rfl⟩) (by omega) (by rw [ho, e2]; omega)
  intro H locs ls hP hS hlv
  exact goal (f_Pin hP).2.2 H locs ls hP hS hlv
