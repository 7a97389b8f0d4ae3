theorem dJ0_length_8abf5_0 : decode cJ0_length_8abf5 0 = .ok (.aload_n 0, 1) := by decide +kernel
theorem dJ0_length_8abf5_1 : decode cJ0_length_8abf5 1 = .ok (.getfield 9, 3) := by decide +kernel
theorem dJ0_length_8abf5_4 : decode cJ0_length_8abf5 4 = .ok (.arraylength, 1) := by decide +kernel
theorem dJ0_length_8abf5_5 : decode cJ0_length_8abf5 5 = .ok (.aload_n 0, 1) := by decide +kernel
theorem dJ0_length_8abf5_6 : decode cJ0_length_8abf5 6 = .ok (.invokevirtual 335, 3) := by decide +kernel
theorem dJ0_length_8abf5_9 : decode cJ0_length_8abf5 9 = .ok (.ishr, 1) := by decide +kernel
theorem dJ0_length_8abf5_10 : decode cJ0_length_8abf5 10 = .ok (.ireturn, 1) := by decide +kernel
theorem kJ0_length_8abf5 : ac_vw RJ0 yJ0_length_8abf5 cJ0_length_8abf5 1 (some .int) 0 := ⟨rfl, by decide, by decide, by decide +kernel, by decide, ac_in 524 (by decide +kernel) (by decide +kernel), ac_in 525 (by decide +kernel) (by decide +kernel), ac_in 173 (by decide +kernel) (by decide +kernel), ac_in 526 (by decide +kernel) (by decide +kernel)⟩
theorem dJ0_coder_7d493_0 : decode cJ0_coder_7d493 0 = .ok (.getstatic 38, 3) := by decide +kernel
theorem dJ0_coder_7d493_3 : decode cJ0_coder_7d493 3 = .ok (.ifCond .eq 10, 3) := by decide +kernel
theorem dJ0_coder_7d493_6 : decode cJ0_coder_7d493 6 = .ok (.aload_n 0, 1) := by decide +kernel
theorem dJ0_coder_7d493_7 : decode cJ0_coder_7d493 7 = .ok (.getfield 15, 3) := by decide +kernel
theorem dJ0_coder_7d493_10 : decode cJ0_coder_7d493 10 = .ok (.goto 4, 3) := by decide +kernel
theorem dJ0_coder_7d493_14 : decode cJ0_coder_7d493 14 = .ok (.ireturn, 1) := by decide +kernel
theorem kJ0_coder_7d493 : ac_vw RJ0 yJ0_coder_7d493 cJ0_coder_7d493 1 (some .byte) 0 := ⟨rfl, by decide, by decide, by decide +kernel, by decide, ac_in 528 (by decide +kernel) (by decide +kernel), ac_in 529 (by decide +kernel) (by decide +kernel), ac_in 173 (by decide +kernel) (by decide +kernel), ac_in 530 (by decide +kernel) (by decide +kernel)⟩
theorem dJ0_isLatin1_aae02_0 : decode cJ0_isLatin1_aae02 0 = .ok (.getstatic 38, 3) := by decide +kernel
theorem dJ0_isLatin1_aae02_3 : decode cJ0_isLatin1_aae02 3 = .ok (.ifCond .eq 14, 3) := by decide +kernel
theorem dJ0_isLatin1_aae02_6 : decode cJ0_isLatin1_aae02 6 = .ok (.aload_n 0, 1) := by decide +kernel
theorem dJ0_isLatin1_aae02_7 : decode cJ0_isLatin1_aae02 7 = .ok (.getfield 15, 3) := by decide +kernel
theorem dJ0_isLatin1_aae02_10 : decode cJ0_isLatin1_aae02 10 = .ok (.ifCond .ne 7, 3) := by decide +kernel
theorem dJ0_isLatin1_aae02_13 : decode cJ0_isLatin1_aae02 13 = .ok (.iconst 1, 1) := by decide +kernel
theorem dJ0_isLatin1_aae02_14 : decode cJ0_isLatin1_aae02 14 = .ok (.goto 4, 3) := by decide +kernel
theorem dJ0_isLatin1_aae02_18 : decode cJ0_isLatin1_aae02 18 = .ok (.ireturn, 1) := by decide +kernel
theorem kJ0_isLatin1_aae02 : ac_vw RJ0 yJ0_isLatin1_aae02 cJ0_isLatin1_aae02 1 (some .boolean) 0 := ⟨rfl, by decide, by decide, by decide +kernel, by decide, ac_in 538 (by decide +kernel) (by decide +kernel), ac_in 539 (by decide +kernel) (by decide +kernel), ac_in 173 (by decide +kernel) (by decide +kernel), ac_in 540 (by decide +kernel) (by decide +kernel)⟩
theorem dJ0_charAt_5068e_0 : decode cJ0_charAt_5068e 0 = .ok (.aload_n 0, 1) := by decide +kernel
theorem dJ0_charAt_5068e_1 : decode cJ0_charAt_5068e 1 = .ok (.invokevirtual 492, 3) := by decide +kernel
theorem dJ0_charAt_5068e_4 : decode cJ0_charAt_5068e 4 = .ok (.ifCond .eq 12, 3) := by decide +kernel
theorem dJ0_charAt_5068e_7 : decode cJ0_charAt_5068e 7 = .ok (.aload_n 0, 1) := by decide +kernel
theorem dJ0_charAt_5068e_8 : decode cJ0_charAt_5068e 8 = .ok (.getfield 9, 3) := by decide +kernel
theorem dJ0_charAt_5068e_11 : decode cJ0_charAt_5068e 11 = .ok (.iload_n 1, 1) := by decide +kernel
theorem dJ0_charAt_5068e_12 : decode cJ0_charAt_5068e 12 = .ok (.invokestatic 495, 3) := by decide +kernel
theorem dJ0_charAt_5068e_15 : decode cJ0_charAt_5068e 15 = .ok (.ireturn, 1) := by decide +kernel
theorem kJ0_charAt_5068e : ac_vw RJ0 yJ0_charAt_5068e cJ0_charAt_5068e 2 (some .char) 1 := ⟨rfl, by decide, by decide, by decide +kernel, by decide, ac_in 534 (by decide +kernel) (by decide +kernel), ac_in 535 (by decide +kernel) (by decide +kernel), ac_in 173 (by decide +kernel) (by decide +kernel), ac_in 536 (by decide +kernel) (by decide +kernel)⟩
theorem dJ1_charAt_3b067_0 : decode cJ1_charAt_3b067 0 = .ok (.iload_n 1, 1) := by decide +kernel
theorem dJ1_charAt_3b067_1 : decode cJ1_charAt_3b067 1 = .ok (.aload_n 0, 1) := by decide +kernel
theorem dJ1_charAt_3b067_2 : decode cJ1_charAt_3b067 2 = .ok (.arraylength, 1) := by decide +kernel
theorem dJ1_charAt_3b067_3 : decode cJ1_charAt_3b067 3 = .ok (.invokestatic 9, 3) := by decide +kernel
theorem dJ1_charAt_3b067_6 : decode cJ1_charAt_3b067 6 = .ok (.aload_n 0, 1) := by decide +kernel
theorem dJ1_charAt_3b067_7 : decode cJ1_charAt_3b067 7 = .ok (.iload_n 1, 1) := by decide +kernel
theorem dJ1_charAt_3b067_8 : decode cJ1_charAt_3b067 8 = .ok (.baload, 1) := by decide +kernel
theorem dJ1_charAt_3b067_9 : decode cJ1_charAt_3b067 9 = .ok (.sipush 255, 3) := by decide +kernel
theorem dJ1_charAt_3b067_12 : decode cJ1_charAt_3b067 12 = .ok (.iand, 1) := by decide +kernel
theorem dJ1_charAt_3b067_13 : decode cJ1_charAt_3b067 13 = .ok (.i2c, 1) := by decide +kernel
theorem dJ1_charAt_3b067_14 : decode cJ1_charAt_3b067 14 = .ok (.ireturn, 1) := by decide +kernel
theorem kJ1_charAt_3b067 : ac_sw RJ1 yJ1_charAt_3b067 cJ1_charAt_3b067 2 (some .char) 2 := ⟨rfl, by decide, by decide, by decide +kernel, by decide, ac_in 542 (by decide +kernel) (by decide +kernel), ac_in 174 (by decide +kernel) (by decide +kernel), ac_in 543 (by decide +kernel) (by decide +kernel)⟩
theorem dJ0_checkIndex_df160_0 : decode cJ0_checkIndex_df160 0 = .ok (.iload_n 0, 1) := by decide +kernel
theorem dJ0_checkIndex_df160_1 : decode cJ0_checkIndex_df160 1 = .ok (.iload_n 1, 1) := by decide +kernel
theorem dJ0_checkIndex_df160_2 : decode cJ0_checkIndex_df160 2 = .ok (.getstatic 1053, 3) := by decide +kernel
theorem dJ0_checkIndex_df160_5 : decode cJ0_checkIndex_df160 5 = .ok (.invokestatic 1059, 3) := by decide +kernel
theorem dJ0_checkIndex_df160_8 : decode cJ0_checkIndex_df160 8 = .ok (.pop, 1) := by decide +kernel
theorem dJ0_checkIndex_df160_9 : decode cJ0_checkIndex_df160 9 = .ok (.return_, 1) := by decide +kernel
theorem kJ0_checkIndex_df160 : ac_sw RJ0 yJ0_checkIndex_df160 cJ0_checkIndex_df160 2 none 2 := ⟨rfl, by decide, by decide, by decide +kernel, by decide, ac_in 545 (by decide +kernel) (by decide +kernel), ac_in 173 (by decide +kernel) (by decide +kernel), ac_in 546 (by decide +kernel) (by decide +kernel)⟩
theorem dJ3_checkIndex_8e157_0 : decode cJ3_checkIndex_8e157 0 = .ok (.iload_n 0, 1) := by decide +kernel
theorem dJ3_checkIndex_8e157_1 : decode cJ3_checkIndex_8e157 1 = .ok (.ifCond .lt 8, 3) := by decide +kernel
theorem dJ3_checkIndex_8e157_4 : decode cJ3_checkIndex_8e157 4 = .ok (.iload_n 0, 1) := by decide +kernel
theorem dJ3_checkIndex_8e157_5 : decode cJ3_checkIndex_8e157 5 = .ok (.iload_n 1, 1) := by decide +kernel
theorem dJ3_checkIndex_8e157_6 : decode cJ3_checkIndex_8e157 6 = .ok (.if_icmp .lt 10, 3) := by decide +kernel
theorem dJ3_checkIndex_8e157_16 : decode cJ3_checkIndex_8e157 16 = .ok (.iload_n 0, 1) := by decide +kernel
theorem dJ3_checkIndex_8e157_17 : decode cJ3_checkIndex_8e157 17 = .ok (.ireturn, 1) := by decide +kernel
theorem kJ3_checkIndex_8e157 : ac_sw RJ3 yJ3_checkIndex_8e157 cJ3_checkIndex_8e157 3 (some .int) 3 := ⟨rfl, by decide, by decide, by decide +kernel, by decide, ac_in 550 (by decide +kernel) (by decide +kernel), ac_in 175 (by decide +kernel) (by decide +kernel), ac_in 551 (by decide +kernel) (by decide +kernel)⟩
theorem lkJ_coder : Cond.methodLink RJ0 335 yJ0_coder_7d493 ∈ ac_tbl := ac_in 527 (by decide +kernel) (by decide +kernel)
theorem lkJ_isLatin1 : Cond.methodLink RJ0 492 yJ0_isLatin1_aae02 ∈ ac_tbl := ac_in 537 (by decide +kernel) (by decide +kernel)
theorem lkJ_lcharAt : Cond.methodLink RJ0 495 yJ1_charAt_3b067 ∈ ac_tbl := ac_in 541 (by decide +kernel) (by decide +kernel)
theorem lkJ_check : Cond.methodLink RJ1 9 yJ0_checkIndex_df160 ∈ ac_tbl := ac_in 544 (by decide +kernel) (by decide +kernel)
theorem lkJ_pcheck : Cond.methodLink RJ0 1059 yJ3_checkIndex_8e157 ∈ ac_tbl := ac_in 549 (by decide +kernel) (by decide +kernel)
theorem lkS_185 : Cond.methodLink RX12 185 yJ0_length_8abf5 ∈ ac_tbl := ac_in 1543 (by decide +kernel) (by decide +kernel)
theorem lkS_190 : Cond.methodLink RX12 190 yJ0_charAt_5068e ∈ ac_tbl := ac_in 1544 (by decide +kernel) (by decide +kernel)
theorem fJ_value : Cond.fieldLink RJ0 9 "java/lang/String" "value" "[B" ∈ ac_tbl := ac_in 1842 (by decide +kernel) (by decide +kernel)
theorem fJ_coder : Cond.fieldLink RJ0 15 "java/lang/String" "coder" "B" ∈ ac_tbl := ac_in 1843 (by decide +kernel) (by decide +kernel)
theorem fJ_compact : Cond.fieldLink RJ0 38 "java/lang/String" "COMPACT_STRINGS" "Z" ∈ ac_tbl := ac_in 531 (by decide +kernel) (by decide +kernel)
theorem fJ_sioobe : Cond.fieldLink RJ0 1053 "jdk/internal/util/Preconditions" "SIOOBE_FORMATTER" "Ljava/util/function/BiFunction;" ∈ ac_tbl := ac_in 547 (by decide +kernel) (by decide +kernel)
/-! the JDK's own methods of a text: they read, and change nothing -/
theorem st_K.narrow {adK adV : Nat → Nat} {A B : Nat → Prop} {U : State} {H : Heap} (h : st_K adK adV A U H) (hAB : ∀ q, B q → A q) : st_K adK adV B U H := by
  refine ⟨h.1.narrow hAB, h.2.1, h.2.2.1.narrow hAB, ?_⟩
  rcases h.2.2.2 with q | ⟨t, q⟩
  · exact Or.inl (q.narrow hAB)
  · exact Or.inr ⟨t, q.narrow hAB⟩
abbrev s_S : Type := (Nat → Nat) × (Nat → Nat)
def s_no : Nat → Prop := fun _ => False
def s_Pre (g : s_S) (U : State) : Prop := st_K g.1 g.2 s_no U U.heap
def s_MetI (l : Launch) (g : s_S) (y : MethodName) (cc : ByteArray) (nL : Nat) (ret : FieldType) (rk : Nat) (av : List Value) (r : Int32) : Prop :=
  Met l y (.code y cc nL (some ret) :: ac_tbl) (ac_room rk) (va_Pc av (s_Pre g)) (vp_Si (fun v => v = r)) 0 0 s_no
def s_MetV (l : Launch) (g : s_S) (y : MethodName) (cc : ByteArray) (nL : Nat) (rk : Nat) (av : List Value) : Prop :=
  Met l y (.code y cc nL none :: ac_tbl) (ac_room rk) (va_Pc av (s_Pre g)) (va_Sv (fun _ => True)) 0 0 s_no
def s_KX (g : s_S) (x : ac_X) : Prop := match x with
  | (_, _, _, _, s, _) => s_Pre g s
def s_P (x : ac_X) (H : Heap) : Prop := match x with
  | (_, _, _, _, s, _) => H = s.heap
def s_Cx (x : ac_X) (g : s_S) (l : Launch) (own : String) (cc : ByteArray) (nL rk : Nat) : Prop := ac_C x cc nL own ∧ s_KX g x ∧ ac_Rk x rk ∧ x.2.1 = l
def s_RI (x : ac_X) (nL : Nat) (cc : ByteArray) (ret : FieldType) (r : Int32) : Prop := ∀ (pc : Nat) (lv : List (Nat × Value)) (v : Int32), decode cc pc = .ok (.ireturn, 1) → narrow ret (.int v) = .int v → v = r → ac_G x s_no nL (s_P x) 0 0 pc lv [.int v]
def s_RV (x : ac_X) (nL : Nat) (cc : ByteArray) : Prop := ∀ (pc : Nat) (lv : List (Nat × Value)), decode cc pc = .ok (.return_, 1) → ac_G x s_no nL (s_P x) 0 0 pc lv []
theorem s_MetI.of {l : Launch} {g : s_S} {y : MethodName} {cc : ByteArray} {nL : Nat} {ret : FieldType} {rk : Nat} {av : List Value} {r : Int32} (hy : plainName y.cls = true) (hn : (lg_sl av).length ≤ nL)
    (body : ∀ x : ac_X, s_Cx x g l y.cls cc nL rk → s_RI x nL cc ret r → ac_G x s_no nL (s_P x) 0 0 0 (lv_args 0 av) []) : s_MetI l g y cc nL ret rk av r := by
  refine Met.ofW (cc := cc) (maxL := nL) (ret := some ret) hy rfl ?_
  intro p e s m args below meth c s₁ B hml hv
  obtain ⟨rfl, hK⟩ := hv
  have hts := atoms_spec (ws := .code y cc nL (some ret) :: ac_tbl) B.pre
  have hown : s.vm.findClass y.cls = some m.cls := findClass_of_methodNamed B.named
  have hlocks := B.notSynchronized
  have hl := lv_entry av (n := nL) hn
  rw [lg_entry_eq]
  refine body (p, l, e, _, s, m, _, below, meth, c, _) ⟨⟨B.exec, B.bytes, hml, hown, fun w hw => hts w (List.mem_cons_of_mem _ hw)⟩, hK, rfl, rfl⟩ ?_ s.heap [] _ rfl va_S.rf hl
  intro pc lv v hd hn9 hq H locs ls hP' hS' _
  exact W.zret (v := v) (ty := ret) B.exec B.bytes B.returns hn9 (fun t ht hW => ⟨v, rfl, hq, ht.trans hP'⟩) hS'.2.2 hd
theorem s_MetV.of {l : Launch} {g : s_S} {y : MethodName} {cc : ByteArray} {nL : Nat} {rk : Nat} {av : List Value} (hy : plainName y.cls = true) (hn : (lg_sl av).length ≤ nL)
    (body : ∀ x : ac_X, s_Cx x g l y.cls cc nL rk → s_RV x nL cc → ac_G x s_no nL (s_P x) 0 0 0 (lv_args 0 av) []) : s_MetV l g y cc nL rk av := by
  refine Met.ofW (cc := cc) (maxL := nL) (ret := none) hy rfl ?_
  intro p e s m args below meth c s₁ B hml hv
  obtain ⟨rfl, hK⟩ := hv
  have hts := atoms_spec (ws := .code y cc nL none :: ac_tbl) B.pre
  have hown : s.vm.findClass y.cls = some m.cls := findClass_of_methodNamed B.named
  have hlocks := B.notSynchronized
  have hl := lv_entry av (n := nL) hn
  rw [lg_entry_eq]
  refine body (p, l, e, _, s, m, _, below, meth, c, _) ⟨⟨B.exec, B.bytes, hml, hown, fun w hw => hts w (List.mem_cons_of_mem _ hw)⟩, hK, rfl, rfl⟩ ?_ s.heap [] _ rfl va_S.rf hl
  intro pc lv hd H locs ls hP' hS' _
  exact W.vret B.exec B.bytes B.returns (fun t ht hW => ⟨rfl, trivial, ht.trans hP'⟩) hS'.2.2 hd
section SC
variable {p : Program} {l : Launch} {e : Env} {R : Room} {s : State} {m : MethodId} {args : Array Value} {below : List Frame} {meth : Method} {c : Code} {H : Heap} {locs : List Loc} {cells slots : Nat} {Q : State → Prop} {pc : Nat} {ls : Array Slot} {rest st0 : List Value} {a : Array Value}
theorem s_ci {post : Int32 → Prop} (hr : va_Run p l e R s m args below meth c H locs cells slots 0 0 (F0 m pc ls st0) rest (vp_Si post a) s_no) (kk : ∀ r, post r → W p l e R s m args below meth c H locs cells slots Q (F0 m (pc + 3) ls (.int r :: rest))) : W p l e R s m args below meth c H locs cells slots Q (F0 m pc ls st0) := by
  intro T hT X
  obtain ⟨v, st₀, t, T', L, h0, X', hL, e1, e2, ⟨r, hv, hp, hh⟩, st⟩ := hr T hT X
  cases hv
  have hL0 : L = [] := List.eq_nil_iff_forall_not_mem.mpr (fun q hq => hL q hq)
  subst hL0
  rw [List.append_nil] at X'
  obtain ⟨t2, a1, b1⟩ := kk r hp T' (by rw [e1, hh, h0]) X'
  exact ⟨t2, st t2 a1, b1⟩
theorem s_cv {post : Unit → Prop} (hr : va_Run p l e R s m args below meth c H locs cells slots 0 0 (F0 m pc ls st0) rest (va_Sv post a) s_no) (kk : W p l e R s m args below meth c H locs cells slots Q (F0 m (pc + 3) ls rest)) : W p l e R s m args below meth c H locs cells slots Q (F0 m pc ls st0) := by
  intro T hT X
  obtain ⟨v, st₀, t, T', L, h0, X', hL, e1, e2, ⟨hv, hp, hh⟩, st⟩ := hr T hT X
  cases hv
  have hL0 : L = [] := List.eq_nil_iff_forall_not_mem.mpr (fun q hq => hL q hq)
  subst hL0
  rw [List.append_nil] at X'
  obtain ⟨t2, a1, b1⟩ := kk T' (by rw [e1, hh, h0]) X'
  exact ⟨t2, st t2 a1, b1⟩
end SC
section SR
variable {x : ac_X} {g : s_S} {l : Launch} {own : String} {cc0 : ByteArray} {nL0 rk0 : Nat} {pc : Nat} {lv : List (Nat × Value)} {st st0 : List Value} {y : MethodName} {cc : ByteArray} {nL rk n index : Nat} {As : List Value}
theorem s_blind {av : List Value} : FrameBlind (va_Pc av (s_Pre g)) := fun a U g9 mk q => ⟨q.1, st_K.go (U := U.calling g9 mk a) (State.WarmedH.refl U) (fun _ _ _ => rfl) q.2⟩
theorem s_pre {s U : State} (K : s_Pre g s) (hU : U.heap = s.heap) (hW : s.WarmedH U.vm) : s_Pre g U := by
  show st_K _ _ _ U U.heap
  rw [hU]
  exact st_K.go hW (fun _ _ _ => rfl) K
/-- a method of a text called by a method of the JDK's own -/
theorem s_calli (Z : s_Cx x g l own cc0 nL0 rk0) {ret : FieldType} {r : Int32} {i : Nat} (hi : i < 4) (hw : ac_vw RJ0 y cc nL (some ret) n) (hl : Cond.methodLink own index y ∈ ac_tbl) (hk : rk + 1 ≤ rk0) (hM : s_MetI l g y cc nL ret rk (.ref (g.1 i) :: As) r) (hn : As.length = n) (hs : st0 = As.reverse ++ .ref (g.1 i) :: st) (hr : (st.map fun v => v.category).sum ≤ 8) (hd : decode cc0 pc = .ok (.invokevirtual index, 3))
    (kk : ac_G x s_no nL0 (s_P x) 0 0 (pc + 3) lv (.int r :: st)) : ac_G x s_no nL0 (s_P x) 0 0 pc lv st0 := by
  obtain ⟨p, l', e, R, s, m, args, below, meth, c, Q0⟩ := x
  obtain ⟨C, K, hR, rfl⟩ := Z
  obtain ⟨w1, w2, w3, w4, w5, w6, w7, w8, w9⟩ := hw
  have hb := ac_callB (own := own) (index := index) C.2.2.2.2 hR hk (by rw [w1]; exact w2) (by rw [w1]; exact w3) w4 w5 (by rw [w1]; exact w8) w9 hl
  intro H locs ls hP hS hlv
  cases hP
  refine s_ci (va_runV (C := RJ0) (As := As) (rest := st) C hM ⟨hb, C.2.2.2.2 _ w6, C.2.2.2.2 _ w7⟩ ⟨s_blind, vk_recv K.1 hi hS, fun U hU hW => ⟨rfl, s_pre K hU hW⟩⟩ rfl hn hlv.1 hs (lv_room hr) hd ⟨Nat.zero_le _, Nat.zero_le _⟩) (fun v hv => ?_)
  subst hv
  exact kk _ locs ls rfl hS hlv
theorem s_calls (Z : s_Cx x g l own cc0 nL0 rk0) {ret : FieldType} {r : Int32} {C1 : String} (hw : ac_sw C1 y cc nL (some ret) n) (hl : Cond.methodLink own index y ∈ ac_tbl) (hk : rk + 1 ≤ rk0) (hM : s_MetI l g y cc nL ret rk As r) (hn : As.length = n) (hs : st0 = As.reverse ++ st) (hr : (st.map fun v => v.category).sum ≤ 8) (hd : decode cc0 pc = .ok (.invokestatic index, 3))
    (kk : ac_G x s_no nL0 (s_P x) 0 0 (pc + 3) lv (.int r :: st)) : ac_G x s_no nL0 (s_P x) 0 0 pc lv st0 := by
  obtain ⟨p, l', e, R, s, m, args, below, meth, c, Q0⟩ := x
  obtain ⟨C, K, hR, rfl⟩ := Z
  obtain ⟨w1, w2, w3, w4, w5, w6, w8, w9⟩ := hw
  have hb := ac_callB (own := own) (index := index) C.2.2.2.2 hR hk (by rw [w1]; exact w2) (by rw [w1]; exact w3) w4 w5 (by rw [w1]; exact w8) w9 hl
  intro H locs ls hP hS hlv
  cases hP
  refine s_ci (va_runS (As := As) (rest := st) C hM ⟨hb, C.2.2.2.2 _ w6⟩ ⟨s_blind, fun U hU hW => ⟨rfl, s_pre K hU hW⟩⟩ rfl hn hlv.1 hs (lv_room hr) hd ⟨Nat.zero_le _, Nat.zero_le _⟩) (fun v hv => ?_)
  subst hv
  exact kk _ locs ls rfl hS hlv
theorem s_callsv (Z : s_Cx x g l own cc0 nL0 rk0) {C1 : String} (hw : ac_sw C1 y cc nL none n) (hl : Cond.methodLink own index y ∈ ac_tbl) (hk : rk + 1 ≤ rk0) (hM : s_MetV l g y cc nL rk As) (hn : As.length = n) (hs : st0 = As.reverse ++ st) (hr : (st.map fun v => v.category).sum ≤ 8) (hd : decode cc0 pc = .ok (.invokestatic index, 3))
    (kk : ac_G x s_no nL0 (s_P x) 0 0 (pc + 3) lv st) : ac_G x s_no nL0 (s_P x) 0 0 pc lv st0 := by
  obtain ⟨p, l', e, R, s, m, args, below, meth, c, Q0⟩ := x
  obtain ⟨C, K, hR, rfl⟩ := Z
  obtain ⟨w1, w2, w3, w4, w5, w6, w8, w9⟩ := hw
  have hb := ac_callB (own := own) (index := index) C.2.2.2.2 hR hk (by rw [w1]; exact w2) (by rw [w1]; exact w3) w4 w5 (by rw [w1]; exact w8) w9 hl
  intro H locs ls hP hS hlv
  cases hP
  refine s_cv (va_runS (As := As) (rest := st) C hM ⟨hb, C.2.2.2.2 _ w6⟩ ⟨s_blind, fun U hU hW => ⟨rfl, s_pre K hU hW⟩⟩ rfl hn hlv.1 hs (lv_room hr) hd ⟨Nat.zero_le _, Nat.zero_le _⟩) ?_
  exact kk _ locs ls rfl hS hlv
theorem s_value (Z : s_Cx x g l RJ0 cc0 nL0 rk0) {i : Nat} (hi : i < 4) (hd : decode cc0 pc = .ok (.getfield 9, 3)) (kk : ac_G x s_no nL0 (s_P x) 0 0 (pc + 3) lv (.ref (g.2 i) :: st)) : ac_G x s_no nL0 (s_P x) 0 0 pc lv (.ref (g.1 i) :: st) := by
  obtain ⟨p, l', e, R, s, m, args, below, meth, c, Q0⟩ := x
  obtain ⟨C, K, hR, rfl⟩ := Z
  exact fun H locs ls hP hS hlv => vk_getf C.1 C.2.1 (K.1.1 i hi).2.2.1 hS C.2.2.2.1 (C.2.2.2.2 _ fJ_value) (fun _ h => h) hd (kk H locs ls hP hS hlv)
theorem s_coder (Z : s_Cx x g l RJ0 cc0 nL0 rk0) {i : Nat} (hi : i < 4) (hd : decode cc0 pc = .ok (.getfield 15, 3)) (kk : ac_G x s_no nL0 (s_P x) 0 0 (pc + 3) lv (.int 0 :: st)) : ac_G x s_no nL0 (s_P x) 0 0 pc lv (.ref (g.1 i) :: st) := by
  obtain ⟨p, l', e, R, s, m, args, below, meth, c, Q0⟩ := x
  obtain ⟨C, K, hR, rfl⟩ := Z
  exact fun H locs ls hP hS hlv => vk_getf C.1 C.2.1 (K.1.1 i hi).2.1 hS C.2.2.2.1 (C.2.2.2.2 _ fJ_coder) (fun _ h => h) hd (kk H locs ls hP hS hlv)
theorem s_compact (Z : s_Cx x g l RJ0 cc0 nL0 rk0) (hd : decode cc0 pc = .ok (.getstatic 38, 3)) (kk : ac_G x s_no nL0 (s_P x) 0 0 (pc + 3) lv (.int 1 :: st)) : ac_G x s_no nL0 (s_P x) 0 0 pc lv st := by
  obtain ⟨p, l', e, R, s, m, args, below, meth, c, Q0⟩ := x
  obtain ⟨C, K, hR, rfl⟩ := Z
  exact fun H locs ls hP hS hlv => va_gets C.1 C.2.1 K.2.2.1 hS C.2.2.2.1 (C.2.2.2.2 _ fJ_compact) (fun _ h => h) hd (kk H locs ls hP hS hlv)
theorem s_sioobe (Z : s_Cx x g l RJ0 cc0 nL0 rk0) (hd : decode cc0 pc = .ok (.getstatic 1053, 3)) (kk : ∀ v : Value, v.category = 1 → ac_G x s_no nL0 (s_P x) 0 0 (pc + 3) lv (v :: st)) : ac_G x s_no nL0 (s_P x) 0 0 pc lv st := by
  obtain ⟨p, l', e, R, s, m, args, below, meth, c, Q0⟩ := x
  obtain ⟨C, K, hR, rfl⟩ := Z
  intro H locs ls hP hS hlv
  rcases K.2.2.2 with q | ⟨t, q⟩
  · exact va_gets C.1 C.2.1 q hS C.2.2.2.1 (C.2.2.2.2 _ fJ_sioobe) (fun _ h => h) hd (kk _ rfl H locs ls hP hS hlv)
  · exact va_gets C.1 C.2.1 q hS C.2.2.2.1 (C.2.2.2.2 _ fJ_sioobe) (fun _ h => h) hd (kk _ rfl H locs ls hP hS hlv)
theorem s_alen (Z : s_Cx x g l own cc0 nL0 rk0) {i : Nat} (hi : i < 4) (hd : decode cc0 pc = .ok (.arraylength, 1)) (kk : ac_G x s_no nL0 (s_P x) 0 0 (pc + 1) lv (.int (nI (s_len.getD i 0)) :: st)) : ac_G x s_no nL0 (s_P x) 0 0 pc lv (.ref (g.2 i) :: st) := by
  obtain ⟨p, l', e, R, s, m, args, below, meth, c, Q0⟩ := x
  obtain ⟨C, K, hR, rfl⟩ := Z
  exact fun H locs ls hP hS hlv => va_tlen C.1 C.2.1 (K.1.1 i hi).2.2.2 hS rfl hd (kk H locs ls hP hS hlv)
theorem s_bald (Z : s_Cx x g l own cc0 nL0 rk0) {i : Nat} (hi : i < 4) {j : Int32} (hj : vp_in j (s_len.getD i 0)) (hd : decode cc0 pc = .ok (.baload, 1)) (kk : ac_G x s_no nL0 (s_P x) 0 0 (pc + 1) lv (.int ((s_byt.getD i []).getD j.toNatClampNeg 0) :: st)) : ac_G x s_no nL0 (s_P x) 0 0 pc lv (.int j :: .ref (g.2 i) :: st) := by
  obtain ⟨p, l', e, R, s, m, args, below, meth, c, Q0⟩ := x
  obtain ⟨C, K, hR, rfl⟩ := Z
  exact fun H locs ls hP hS hlv => va_tb C.1 C.2.1 (K.1.1 i hi).2.2.2 hS hj rfl hd (kk H locs ls hP hS hlv)
end SR
theorem ac_i2c {x : ac_X} {A : Nat → Prop} {nL : Nat} {P : Heap → Prop} {cs ss pc : Nat} {lv : List (Nat × Value)} {st : List Value} {cc : ByteArray} {own : String} (C : ac_C x cc nL own) {a v : Int32} (hd : decode cc pc = .ok (.i2c, 1)) (hv : (a.toUInt32 % 65536).toInt32 = v) (k : ac_G x A nL P cs ss (pc + 1) lv (.int v :: st)) : ac_G x A nL P cs ss pc lv (.int a :: st) := by
  obtain ⟨p, l, e, R, s, m, args, below, meth, c, Q⟩ := x
  exact fun H locs ls hP hS h => lv_i2c C.1 C.2.1 hd hv (k H locs ls hP hS h)
/-- the sign at j of text i -/
def s_ch (i : Nat) (j : Int32) : Int32 := (s_byt.getD i []).getD j.toNatClampNeg 0
theorem s_small : ∀ i, i < 4 → ∀ b ∈ s_byt.getD i [], ((b &&& 255).toUInt32 % 65536).toInt32 = b ∧ narrow .char (.int b) = .int b := by decide +kernel
theorem s_lens : ∀ i, i < 4 → s_len.getD i 0 = (s_byt.getD i []).length ∧ s_len.getD i 0 < 1000 := by decide +kernel
theorem s_ch_ok {i : Nat} (hi : i < 4) {j : Int32} (hj : vp_in j (s_len.getD i 0)) : ((s_ch i j &&& 255).toUInt32 % 65536).toInt32 = s_ch i j ∧ narrow .char (.int (s_ch i j)) = .int (s_ch i j) := by
  have h1 := (vp_in_iff.mp hj)
  have h2 := (s_lens i hi).1
  have h3 : j.toNatClampNeg < (s_byt.getD i []).length := by
    rw [← h2]
    show j.toInt.toNat < _
    omega
  refine s_small i hi _ ?_
  unfold s_ch
  generalize s_byt.getD i [] = L at h3 ⊢
  rw [List.getD_eq_getElem?_getD, List.getElem?_eq_getElem h3]
  exact List.getElem_mem h3
theorem s_coder_m {l : Launch} {g : s_S} {i : Nat} (hi : i < 4) : s_MetI l g yJ0_coder_7d493 cJ0_coder_7d493 1 .byte 0 [.ref (g.1 i)] 0 := by
  refine s_MetI.of (by decide) (Nat.le_of_ble_eq_true rfl) (fun x Z hret => ?_)
  show ac_G x s_no 1 (s_P x) 0 0 0 [(0, .ref (g.1 i))] []
  refine s_compact Z dJ0_coder_7d493_0 ?_
  refine ac_if_eq (tgt := 13) Z.1 dJ0_coder_7d493_3 (by decide) (fun hc => absurd hc (by decide)) (fun hc => ?_)
  refine ac_aload_n Z.1 0 dJ0_coder_7d493_6 rfl ?_
  refine s_coder Z hi dJ0_coder_7d493_7 ?_
  refine ac_goto (tgt := 14) Z.1 dJ0_coder_7d493_10 (by decide) ?_
  exact hret _ _ _ dJ0_coder_7d493_14 rfl rfl
theorem s_isLatin1_m {l : Launch} {g : s_S} {i : Nat} (hi : i < 4) : s_MetI l g yJ0_isLatin1_aae02 cJ0_isLatin1_aae02 1 .boolean 0 [.ref (g.1 i)] 1 := by
  refine s_MetI.of (by decide) (Nat.le_of_ble_eq_true rfl) (fun x Z hret => ?_)
  show ac_G x s_no 1 (s_P x) 0 0 0 [(0, .ref (g.1 i))] []
  refine s_compact Z dJ0_isLatin1_aae02_0 ?_
  refine ac_if_eq (tgt := 17) Z.1 dJ0_isLatin1_aae02_3 (by decide) (fun hc => absurd hc (by decide)) (fun hc => ?_)
  refine ac_aload_n Z.1 0 dJ0_isLatin1_aae02_6 rfl ?_
  refine s_coder Z hi dJ0_isLatin1_aae02_7 ?_
  refine ac_if_ne (tgt := 17) Z.1 dJ0_isLatin1_aae02_10 (by decide) (fun hc => absurd rfl hc) (fun hc => ?_)
  refine ac_iconst (v := 1) Z.1 dJ0_isLatin1_aae02_13 (by decide) ?_
  refine ac_goto (tgt := 18) Z.1 dJ0_isLatin1_aae02_14 (by decide) ?_
  exact hret _ _ _ dJ0_isLatin1_aae02_18 rfl rfl
theorem s_length_m {l : Launch} {g : s_S} {i : Nat} (hi : i < 4) : s_MetI l g yJ0_length_8abf5 cJ0_length_8abf5 1 .int 1 [.ref (g.1 i)] (nI (s_len.getD i 0)) := by
  refine s_MetI.of (by decide) (Nat.le_of_ble_eq_true rfl) (fun x Z hret => ?_)
  show ac_G x s_no 1 (s_P x) 0 0 0 [(0, .ref (g.1 i))] []
  refine ac_aload_n Z.1 0 dJ0_length_8abf5_0 rfl ?_
  refine s_value Z hi dJ0_length_8abf5_1 ?_
  refine s_alen Z hi dJ0_length_8abf5_4 ?_
  refine ac_aload_n Z.1 0 dJ0_length_8abf5_5 rfl ?_
  refine s_calli (As := []) (st := [.int (nI (s_len.getD i 0))]) Z hi kJ0_coder_7d493 lkJ_coder (by omega) (s_coder_m hi) rfl rfl (Nat.le_of_ble_eq_true rfl) dJ0_length_8abf5_6 ?_
  refine ac_ishr Z.1 dJ0_length_8abf5_9 rfl ?_
  exact hret _ _ _ dJ0_length_8abf5_10 rfl (sb_shr0 _)
theorem s_pcheck_m {l : Launch} {g : s_S} {a b : Int32} {v : Value} (hv : v.category = 1) (h1 : ¬ a < 0) (h2 : a < b) : s_MetI l g yJ3_checkIndex_8e157 cJ3_checkIndex_8e157 3 .int 0 [.int a, .int b, v] a := by
  refine s_MetI.of (by decide) (by cases v <;> first | (exact Nat.le_of_ble_eq_true rfl) | (exact absurd hv (by decide)) | (cases hv)) (fun x Z hret => ?_)
  show ac_G x s_no 3 (s_P x) 0 0 0 [(0, .int a), (1, .int b), (2, v)] []
  refine ac_iload_n Z.1 0 dJ3_checkIndex_8e157_0 rfl ?_
  refine ac_if_lt (tgt := 9) Z.1 dJ3_checkIndex_8e157_1 (by decide) (fun hc => absurd hc h1) (fun hc => ?_)
  refine ac_iload_n Z.1 0 dJ3_checkIndex_8e157_4 rfl ?_
  refine ac_iload_n Z.1 1 dJ3_checkIndex_8e157_5 rfl ?_
  refine ac_icmp_lt (tgt := 16) Z.1 dJ3_checkIndex_8e157_6 (by decide) (fun hc => ?_) (fun hc => absurd h2 hc)
  refine ac_iload_n Z.1 0 dJ3_checkIndex_8e157_16 rfl ?_
  exact hret _ _ _ dJ3_checkIndex_8e157_17 rfl rfl
theorem s_check_m {l : Launch} {g : s_S} {a b : Int32} (h1 : ¬ a < 0) (h2 : a < b) : s_MetV l g yJ0_checkIndex_df160 cJ0_checkIndex_df160 2 1 [.int a, .int b] := by
  refine s_MetV.of (by decide) (Nat.le_of_ble_eq_true rfl) (fun x Z hret => ?_)
  show ac_G x s_no 2 (s_P x) 0 0 0 [(0, .int a), (1, .int b)] []
  refine ac_iload_n Z.1 0 dJ0_checkIndex_df160_0 rfl ?_
  refine ac_iload_n Z.1 1 dJ0_checkIndex_df160_1 rfl ?_
  refine s_sioobe Z dJ0_checkIndex_df160_2 (fun v hv => ?_)
  refine s_calls (As := [.int a, .int b, v]) (st := []) Z kJ3_checkIndex_8e157 lkJ_pcheck (by omega) (s_pcheck_m hv h1 h2) rfl rfl (Nat.le_of_ble_eq_true rfl) dJ0_checkIndex_df160_5 ?_
  refine ac_pop Z.1 dJ0_checkIndex_df160_8 rfl ?_
  exact hret _ _ dJ0_checkIndex_df160_9
theorem s_lcharAt_m {l : Launch} {g : s_S} {i : Nat} (hi : i < 4) {j : Int32} (hj : vp_in j (s_len.getD i 0)) : s_MetI l g yJ1_charAt_3b067 cJ1_charAt_3b067 2 .char 2 [.ref (g.2 i), .int j] (s_ch i j) := by
  have hb := vp_in_iff.mp hj
  have hlt := (s_lens i hi).2
  refine s_MetI.of (by decide) (Nat.le_of_ble_eq_true rfl) (fun x Z hret => ?_)
  show ac_G x s_no 2 (s_P x) 0 0 0 [(0, .ref (g.2 i)), (1, .int j)] []
  refine ac_iload_n Z.1 1 dJ1_charAt_3b067_0 rfl ?_
  refine ac_aload_n Z.1 0 dJ1_charAt_3b067_1 rfl ?_
  refine s_alen Z hi dJ1_charAt_3b067_2 ?_
  refine s_callsv (As := [.int j, .int (nI (s_len.getD i 0))]) (st := []) Z kJ0_checkIndex_df160 lkJ_check (by omega) (s_check_m ?_ ?_) rfl rfl (Nat.le_of_ble_eq_true rfl) dJ1_charAt_3b067_3 ?_
  · intro h
    have := Int32.lt_iff_toInt_lt.mp h
    simp at this
    omega
  · refine Int32.lt_iff_toInt_lt.mpr ?_
    rw [nI_toInt (by omega)]
    omega
  refine ac_aload_n Z.1 0 dJ1_charAt_3b067_6 rfl ?_
  refine ac_iload_n Z.1 1 dJ1_charAt_3b067_7 rfl ?_
  refine s_bald Z hi hj dJ1_charAt_3b067_8 ?_
  refine ac_sipush (v := 255) Z.1 dJ1_charAt_3b067_9 (by decide) ?_
  refine ac_iand Z.1 dJ1_charAt_3b067_12 ?_
  refine ac_i2c (v := s_ch i j) Z.1 dJ1_charAt_3b067_13 (s_ch_ok hi hj).1 ?_
  exact hret _ _ _ dJ1_charAt_3b067_14 (s_ch_ok hi hj).2 rfl
theorem s_charAt_m {l : Launch} {g : s_S} {i : Nat} (hi : i < 4) {j : Int32} (hj : vp_in j (s_len.getD i 0)) : s_MetI l g yJ0_charAt_5068e cJ0_charAt_5068e 2 .char 3 [.ref (g.1 i), .int j] (s_ch i j) := by
  refine s_MetI.of (by decide) (Nat.le_of_ble_eq_true rfl) (fun x Z hret => ?_)
  show ac_G x s_no 2 (s_P x) 0 0 0 [(0, .ref (g.1 i)), (1, .int j)] []
  refine ac_aload_n Z.1 0 dJ0_charAt_5068e_0 rfl ?_
  refine s_calli (As := []) (st := []) Z hi kJ0_isLatin1_aae02 lkJ_isLatin1 (by omega) (s_isLatin1_m hi) rfl rfl (Nat.le_of_ble_eq_true rfl) dJ0_charAt_5068e_1 ?_
  refine ac_if_eq (tgt := 16) Z.1 dJ0_charAt_5068e_4 (by decide) (fun hc => absurd hc (by decide)) (fun hc => ?_)
  refine ac_aload_n Z.1 0 dJ0_charAt_5068e_7 rfl ?_
  refine s_value Z hi dJ0_charAt_5068e_8 ?_
  refine ac_iload_n Z.1 1 dJ0_charAt_5068e_11 rfl ?_
  refine s_calls (As := [.ref (g.2 i), .int j]) (st := []) Z kJ1_charAt_3b067 lkJ_lcharAt (by omega) (s_lcharAt_m hi hj) rfl rfl (Nat.le_of_ble_eq_true rfl) dJ0_charAt_5068e_12 ?_
  exact hret _ _ _ dJ0_charAt_5068e_15 (s_ch_ok hi hj).2 rfl
/-- a text's methods called by the reference -/
def r_sK (g : r_S) : Nat → Nat := g.2.2.2.2.2.1
section RST
variable {x : ac_X} {g : r_S} {l : Launch} {cc0 : ByteArray} {nL0 rk0 : Nat} {M : Nat → Int32} {F : Nat → Nat → Int32} {pc : Nat} {lv : List (Nat × Value)} {st st0 : List Value} {index : Nat}
theorem r_sPre {D : va_G} {h0 : Nat} {ad : Nat → Nat} {cI cZ : ClassId} {adK adV : Nat → Nat} {s U : State} {H : Heap} {locs : List Loc} (K : r_K (D, h0, ad, cI, cZ, adK, adV) s) (hS : va_S (r_A h0 ad) s.heap H locs) (hU : U.heap = H) (hW : s.WarmedH U.vm) : s_Pre (adK, adV) U := by
  have h1 : st_K adK adV (r_A h0 ad) U U.heap := K.2.2.go hW (by rw [hU]; exact hS.2.1)
  exact h1.narrow (fun q h => h.elim)
theorem r_slen (Z : r_Cx x g l cc0 nL0 rk0) {si : Nat} (hi : si < 4) (hk : 2 ≤ rk0) (hl : Cond.methodLink RX12 index yJ0_length_8abf5 ∈ ac_tbl) (hd : decode cc0 pc = .ok (.invokevirtual index, 3)) (hr : (st.map fun v => v.category).sum ≤ 8)
    (kk : ac_G x (r_R g) nL0 (r_P g M F) 0 0 (pc + 3) lv (.int (nI (s_len.getD si 0)) :: st)) : ac_G x (r_R g) nL0 (r_P g M F) 0 0 pc lv (.ref (r_sK g si) :: st) := by
  obtain ⟨p, l', e, R, s, m, args, below, meth, c, Q0⟩ := x
  obtain ⟨C, K, hR, rfl⟩ := Z
  obtain ⟨D, h0, ad, cI, cZ, adK, adV⟩ := g
  obtain ⟨w1, w2, w3, w4, w5, w6, w7, w8, w9⟩ := kJ0_length_8abf5
  have hb := ac_callB (own := RX12) (index := index) (rk := 1) C.2.2.2.2 hR hk (by rw [w1]; exact w2) (by rw [w1]; exact w3) w4 w5 (by rw [w1]; exact w8) w9 hl
  intro H locs ls hP hS hlv
  refine s_ci (va_runV (C := RJ0) (As := []) (rest := st) C (s_length_m (g := (adK, adV)) hi) ⟨hb, C.2.2.2.2 _ w6, C.2.2.2.2 _ w7⟩ ⟨s_blind, vk_recv K.2.2.1 hi hS, fun U hU hW => ⟨rfl, r_sPre K hS hU hW⟩⟩ rfl rfl hlv.1 rfl (lv_room hr) hd ⟨Nat.zero_le _, Nat.zero_le _⟩) (fun v hv => ?_)
  subst hv
  exact kk H locs ls hP hS hlv
theorem r_schar (Z : r_Cx x g l cc0 nL0 rk0) {si : Nat} (hi : si < 4) (hk : 4 ≤ rk0) (hl : Cond.methodLink RX12 index yJ0_charAt_5068e ∈ ac_tbl) {j : Int32} (hj : vp_in j (s_len.getD si 0)) (hd : decode cc0 pc = .ok (.invokevirtual index, 3)) (hr : (st.map fun v => v.category).sum ≤ 8)
    (kk : ac_G x (r_R g) nL0 (r_P g M F) 0 0 (pc + 3) lv (.int (s_ch si j) :: st)) : ac_G x (r_R g) nL0 (r_P g M F) 0 0 pc lv (.int j :: .ref (r_sK g si) :: st) := by
  obtain ⟨p, l', e, R, s, m, args, below, meth, c, Q0⟩ := x
  obtain ⟨C, K, hR, rfl⟩ := Z
  obtain ⟨D, h0, ad, cI, cZ, adK, adV⟩ := g
  obtain ⟨w1, w2, w3, w4, w5, w6, w7, w8, w9⟩ := kJ0_charAt_5068e
  have hb := ac_callB (own := RX12) (index := index) (rk := 3) C.2.2.2.2 hR hk (by rw [w1]; exact w2) (by rw [w1]; exact w3) w4 w5 (by rw [w1]; exact w8) w9 hl
  intro H locs ls hP hS hlv
  refine s_ci (va_runV (C := RJ0) (As := [.int j]) (rest := st) C (s_charAt_m (g := (adK, adV)) hi hj) ⟨hb, C.2.2.2.2 _ w6, C.2.2.2.2 _ w7⟩ ⟨s_blind, vk_recv K.2.2.1 hi hS, fun U hU hW => ⟨rfl, r_sPre K hS hU hW⟩⟩ rfl rfl hlv.1 rfl (lv_room hr) hd ⟨Nat.zero_le _, Nat.zero_le _⟩) (fun v hv => ?_)
  subst hv
  exact kk H locs ls hP hS hlv
theorem r_ldcS (Z : r_Cx x g l cc0 nL0 rk0) (si : Nat) (hi : si < 4) (ho : s_own si = RX12) (hx : s_ix si = index) (hd : decode cc0 pc = .ok (.ldc index, 2))
    (kk : ac_G x (r_R g) nL0 (r_P g M F) 0 0 (pc + 2) lv (.ref (r_sK g si) :: st)) : ac_G x (r_R g) nL0 (r_P g M F) 0 0 pc lv st := by
  obtain ⟨p, l', e, R, s, m, args, below, meth, c, Q0⟩ := x
  obtain ⟨C, K, hR, rfl⟩ := Z
  obtain ⟨D, h0, ad, cI, cZ, adK, adV⟩ := g
  have hz := K.2.2.2.1 si hi
  rw [ho, hx] at hz
  exact fun H locs ls hP hS hlv => va_ldcS C.1 C.2.1 C.2.2.2.1 hz hd (kk H locs ls hP hS hlv)
end RST
