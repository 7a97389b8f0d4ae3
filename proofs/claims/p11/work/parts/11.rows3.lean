theorem dJ0_indexOf_0f7a4_0 : decode cJ0_indexOf_0f7a4 0 = .ok (.aload_n 0, 1) := by decide +kernel
theorem dJ0_indexOf_0f7a4_1 : decode cJ0_indexOf_0f7a4 1 = .ok (.iload_n 1, 1) := by decide +kernel
theorem dJ0_indexOf_0f7a4_2 : decode cJ0_indexOf_0f7a4 2 = .ok (.iconst 0, 1) := by decide +kernel
theorem dJ0_indexOf_0f7a4_3 : decode cJ0_indexOf_0f7a4 3 = .ok (.invokevirtual 633, 3) := by decide +kernel
theorem dJ0_indexOf_0f7a4_6 : decode cJ0_indexOf_0f7a4 6 = .ok (.ireturn, 1) := by decide +kernel
theorem kJ0_indexOf_0f7a4 : ac_vw RJ0 yJ0_indexOf_0f7a4 cJ0_indexOf_0f7a4 2 (some .int) 1 := ⟨rfl, by decide, by decide, by decide +kernel, by decide, ac_in 623 (by decide +kernel) (by decide +kernel), ac_in 624 (by decide +kernel) (by decide +kernel), ac_in 173 (by decide +kernel) (by decide +kernel), ac_in 625 (by decide +kernel) (by decide +kernel)⟩
theorem dJ0_indexOf_7cf53_0 : decode cJ0_indexOf_7cf53 0 = .ok (.aload_n 0, 1) := by decide +kernel
theorem dJ0_indexOf_7cf53_1 : decode cJ0_indexOf_7cf53 1 = .ok (.invokevirtual 492, 3) := by decide +kernel
theorem dJ0_indexOf_7cf53_4 : decode cJ0_indexOf_7cf53 4 = .ok (.ifCond .eq 19, 3) := by decide +kernel
theorem dJ0_indexOf_7cf53_7 : decode cJ0_indexOf_7cf53 7 = .ok (.aload_n 0, 1) := by decide +kernel
theorem dJ0_indexOf_7cf53_8 : decode cJ0_indexOf_7cf53 8 = .ok (.getfield 9, 3) := by decide +kernel
theorem dJ0_indexOf_7cf53_11 : decode cJ0_indexOf_7cf53 11 = .ok (.iload_n 1, 1) := by decide +kernel
theorem dJ0_indexOf_7cf53_12 : decode cJ0_indexOf_7cf53 12 = .ok (.iload_n 2, 1) := by decide +kernel
theorem dJ0_indexOf_7cf53_13 : decode cJ0_indexOf_7cf53 13 = .ok (.aload_n 0, 1) := by decide +kernel
theorem dJ0_indexOf_7cf53_14 : decode cJ0_indexOf_7cf53 14 = .ok (.invokevirtual 505, 3) := by decide +kernel
theorem dJ0_indexOf_7cf53_17 : decode cJ0_indexOf_7cf53 17 = .ok (.invokestatic 637, 3) := by decide +kernel
theorem dJ0_indexOf_7cf53_20 : decode cJ0_indexOf_7cf53 20 = .ok (.goto 16, 3) := by decide +kernel
theorem dJ0_indexOf_7cf53_36 : decode cJ0_indexOf_7cf53 36 = .ok (.ireturn, 1) := by decide +kernel
theorem kJ0_indexOf_7cf53 : ac_vw RJ0 yJ0_indexOf_7cf53 cJ0_indexOf_7cf53 3 (some .int) 2 := ⟨rfl, by decide, by decide, by decide +kernel, by decide, ac_in 627 (by decide +kernel) (by decide +kernel), ac_in 628 (by decide +kernel) (by decide +kernel), ac_in 173 (by decide +kernel) (by decide +kernel), ac_in 629 (by decide +kernel) (by decide +kernel)⟩
theorem dJ1_indexOf_4cfef_0 : decode cJ1_indexOf_4cfef 0 = .ok (.iload_n 1, 1) := by decide +kernel
theorem dJ1_indexOf_4cfef_1 : decode cJ1_indexOf_4cfef 1 = .ok (.invokestatic 88, 3) := by decide +kernel
theorem dJ1_indexOf_4cfef_4 : decode cJ1_indexOf_4cfef 4 = .ok (.ifCond .ne 5, 3) := by decide +kernel
theorem dJ1_indexOf_4cfef_7 : decode cJ1_indexOf_4cfef 7 = .ok (.iconst (-1), 1) := by decide +kernel
theorem dJ1_indexOf_4cfef_8 : decode cJ1_indexOf_4cfef 8 = .ok (.ireturn, 1) := by decide +kernel
theorem dJ1_indexOf_4cfef_9 : decode cJ1_indexOf_4cfef 9 = .ok (.iload_n 2, 1) := by decide +kernel
theorem dJ1_indexOf_4cfef_10 : decode cJ1_indexOf_4cfef 10 = .ok (.iconst 0, 1) := by decide +kernel
theorem dJ1_indexOf_4cfef_11 : decode cJ1_indexOf_4cfef 11 = .ok (.invokestatic 92, 3) := by decide +kernel
theorem dJ1_indexOf_4cfef_14 : decode cJ1_indexOf_4cfef 14 = .ok (.istore_n 2, 1) := by decide +kernel
theorem dJ1_indexOf_4cfef_15 : decode cJ1_indexOf_4cfef 15 = .ok (.iload_n 3, 1) := by decide +kernel
theorem dJ1_indexOf_4cfef_16 : decode cJ1_indexOf_4cfef 16 = .ok (.aload_n 0, 1) := by decide +kernel
theorem dJ1_indexOf_4cfef_17 : decode cJ1_indexOf_4cfef 17 = .ok (.arraylength, 1) := by decide +kernel
theorem dJ1_indexOf_4cfef_18 : decode cJ1_indexOf_4cfef 18 = .ok (.invokestatic 38, 3) := by decide +kernel
theorem dJ1_indexOf_4cfef_21 : decode cJ1_indexOf_4cfef 21 = .ok (.istore_n 3, 1) := by decide +kernel
theorem dJ1_indexOf_4cfef_22 : decode cJ1_indexOf_4cfef 22 = .ok (.iload_n 2, 1) := by decide +kernel
theorem dJ1_indexOf_4cfef_23 : decode cJ1_indexOf_4cfef 23 = .ok (.iload_n 3, 1) := by decide +kernel
theorem dJ1_indexOf_4cfef_24 : decode cJ1_indexOf_4cfef 24 = .ok (.if_icmp .lt 5, 3) := by decide +kernel
theorem dJ1_indexOf_4cfef_29 : decode cJ1_indexOf_4cfef 29 = .ok (.aload_n 0, 1) := by decide +kernel
theorem dJ1_indexOf_4cfef_30 : decode cJ1_indexOf_4cfef 30 = .ok (.iload_n 1, 1) := by decide +kernel
theorem dJ1_indexOf_4cfef_31 : decode cJ1_indexOf_4cfef 31 = .ok (.iload_n 2, 1) := by decide +kernel
theorem dJ1_indexOf_4cfef_32 : decode cJ1_indexOf_4cfef 32 = .ok (.iload_n 3, 1) := by decide +kernel
theorem dJ1_indexOf_4cfef_33 : decode cJ1_indexOf_4cfef 33 = .ok (.invokestatic 95, 3) := by decide +kernel
theorem dJ1_indexOf_4cfef_36 : decode cJ1_indexOf_4cfef 36 = .ok (.ireturn, 1) := by decide +kernel
theorem kJ1_indexOf_4cfef : ac_sw RJ1 yJ1_indexOf_4cfef cJ1_indexOf_4cfef 4 (some .int) 4 := ⟨rfl, by decide, by decide, by decide +kernel, by decide, ac_in 632 (by decide +kernel) (by decide +kernel), ac_in 174 (by decide +kernel) (by decide +kernel), ac_in 633 (by decide +kernel) (by decide +kernel)⟩
theorem dJ1_canEncode_9a6ad_0 : decode cJ1_canEncode_9a6ad 0 = .ok (.iload_n 0, 1) := by decide +kernel
theorem dJ1_canEncode_9a6ad_1 : decode cJ1_canEncode_9a6ad 1 = .ok (.ifCond .lt 14, 3) := by decide +kernel
theorem dJ1_canEncode_9a6ad_4 : decode cJ1_canEncode_9a6ad 4 = .ok (.iload_n 0, 1) := by decide +kernel
theorem dJ1_canEncode_9a6ad_5 : decode cJ1_canEncode_9a6ad 5 = .ok (.sipush 255, 3) := by decide +kernel
theorem dJ1_canEncode_9a6ad_8 : decode cJ1_canEncode_9a6ad 8 = .ok (.if_icmp .gt 7, 3) := by decide +kernel
theorem dJ1_canEncode_9a6ad_11 : decode cJ1_canEncode_9a6ad 11 = .ok (.iconst 1, 1) := by decide +kernel
theorem dJ1_canEncode_9a6ad_12 : decode cJ1_canEncode_9a6ad 12 = .ok (.goto 4, 3) := by decide +kernel
theorem dJ1_canEncode_9a6ad_15 : decode cJ1_canEncode_9a6ad 15 = .ok (.iconst 0, 1) := by decide +kernel
theorem dJ1_canEncode_9a6ad_16 : decode cJ1_canEncode_9a6ad 16 = .ok (.ireturn, 1) := by decide +kernel
theorem kJ1_canEncode_9a6ad : ac_sw RJ1 yJ1_canEncode_9a6ad cJ1_canEncode_9a6ad 1 (some .boolean) 1 := ⟨rfl, by decide, by decide, by decide +kernel, by decide, ac_in 635 (by decide +kernel) (by decide +kernel), ac_in 174 (by decide +kernel) (by decide +kernel), ac_in 636 (by decide +kernel) (by decide +kernel)⟩
theorem dJ1_indexOfChar_4cfef_0 : decode cJ1_indexOfChar_4cfef 0 = .ok (.iload_n 1, 1) := by decide +kernel
theorem dJ1_indexOfChar_4cfef_1 : decode cJ1_indexOfChar_4cfef 1 = .ok (.i2b, 1) := by decide +kernel
theorem dJ1_indexOfChar_4cfef_2 : decode cJ1_indexOfChar_4cfef 2 = .ok (.istore 4, 2) := by decide +kernel
theorem dJ1_indexOfChar_4cfef_4 : decode cJ1_indexOfChar_4cfef 4 = .ok (.iload_n 2, 1) := by decide +kernel
theorem dJ1_indexOfChar_4cfef_5 : decode cJ1_indexOfChar_4cfef 5 = .ok (.istore 5, 2) := by decide +kernel
theorem dJ1_indexOfChar_4cfef_7 : decode cJ1_indexOfChar_4cfef 7 = .ok (.iload 5, 2) := by decide +kernel
theorem dJ1_indexOfChar_4cfef_9 : decode cJ1_indexOfChar_4cfef 9 = .ok (.iload_n 3, 1) := by decide +kernel
theorem dJ1_indexOfChar_4cfef_10 : decode cJ1_indexOfChar_4cfef 10 = .ok (.if_icmp .ge 21, 3) := by decide +kernel
theorem dJ1_indexOfChar_4cfef_13 : decode cJ1_indexOfChar_4cfef 13 = .ok (.aload_n 0, 1) := by decide +kernel
theorem dJ1_indexOfChar_4cfef_14 : decode cJ1_indexOfChar_4cfef 14 = .ok (.iload 5, 2) := by decide +kernel
theorem dJ1_indexOfChar_4cfef_16 : decode cJ1_indexOfChar_4cfef 16 = .ok (.baload, 1) := by decide +kernel
theorem dJ1_indexOfChar_4cfef_17 : decode cJ1_indexOfChar_4cfef 17 = .ok (.iload 4, 2) := by decide +kernel
theorem dJ1_indexOfChar_4cfef_19 : decode cJ1_indexOfChar_4cfef 19 = .ok (.if_icmp .ne 6, 3) := by decide +kernel
theorem dJ1_indexOfChar_4cfef_22 : decode cJ1_indexOfChar_4cfef 22 = .ok (.iload 5, 2) := by decide +kernel
theorem dJ1_indexOfChar_4cfef_24 : decode cJ1_indexOfChar_4cfef 24 = .ok (.ireturn, 1) := by decide +kernel
theorem dJ1_indexOfChar_4cfef_25 : decode cJ1_indexOfChar_4cfef 25 = .ok (.iinc 5 1, 3) := by decide +kernel
theorem dJ1_indexOfChar_4cfef_28 : decode cJ1_indexOfChar_4cfef 28 = .ok (.goto (-21), 3) := by decide +kernel
theorem dJ1_indexOfChar_4cfef_31 : decode cJ1_indexOfChar_4cfef 31 = .ok (.iconst (-1), 1) := by decide +kernel
theorem dJ1_indexOfChar_4cfef_32 : decode cJ1_indexOfChar_4cfef 32 = .ok (.ireturn, 1) := by decide +kernel
theorem kJ1_indexOfChar_4cfef : ac_sw RJ1 yJ1_indexOfChar_4cfef cJ1_indexOfChar_4cfef 6 (some .int) 4 := ⟨rfl, by decide, by decide, by decide +kernel, by decide, ac_in 644 (by decide +kernel) (by decide +kernel), ac_in 174 (by decide +kernel) (by decide +kernel), ac_in 645 (by decide +kernel) (by decide +kernel)⟩
theorem dJ9_floorMod_f86c9_0 : decode cJ9_floorMod_f86c9 0 = .ok (.lload_n 0, 1) := by decide +kernel
theorem dJ9_floorMod_f86c9_1 : decode cJ9_floorMod_f86c9 1 = .ok (.lload_n 2, 1) := by decide +kernel
theorem dJ9_floorMod_f86c9_2 : decode cJ9_floorMod_f86c9 2 = .ok (.lrem, 1) := by decide +kernel
theorem dJ9_floorMod_f86c9_3 : decode cJ9_floorMod_f86c9 3 = .ok (.lstore 4, 2) := by decide +kernel
theorem dJ9_floorMod_f86c9_5 : decode cJ9_floorMod_f86c9 5 = .ok (.lload_n 0, 1) := by decide +kernel
theorem dJ9_floorMod_f86c9_6 : decode cJ9_floorMod_f86c9 6 = .ok (.lload_n 2, 1) := by decide +kernel
theorem dJ9_floorMod_f86c9_7 : decode cJ9_floorMod_f86c9 7 = .ok (.lxor, 1) := by decide +kernel
theorem dJ9_floorMod_f86c9_8 : decode cJ9_floorMod_f86c9 8 = .ok (.lconst 0, 1) := by decide +kernel
theorem dJ9_floorMod_f86c9_9 : decode cJ9_floorMod_f86c9 9 = .ok (.lcmp, 1) := by decide +kernel
theorem dJ9_floorMod_f86c9_10 : decode cJ9_floorMod_f86c9 10 = .ok (.ifCond .ge 15, 3) := by decide +kernel
theorem dJ9_floorMod_f86c9_13 : decode cJ9_floorMod_f86c9 13 = .ok (.lload 4, 2) := by decide +kernel
theorem dJ9_floorMod_f86c9_15 : decode cJ9_floorMod_f86c9 15 = .ok (.lconst 0, 1) := by decide +kernel
theorem dJ9_floorMod_f86c9_16 : decode cJ9_floorMod_f86c9 16 = .ok (.lcmp, 1) := by decide +kernel
theorem dJ9_floorMod_f86c9_17 : decode cJ9_floorMod_f86c9 17 = .ok (.ifCond .eq 8, 3) := by decide +kernel
theorem dJ9_floorMod_f86c9_20 : decode cJ9_floorMod_f86c9 20 = .ok (.lload 4, 2) := by decide +kernel
theorem dJ9_floorMod_f86c9_22 : decode cJ9_floorMod_f86c9 22 = .ok (.lload_n 2, 1) := by decide +kernel
theorem dJ9_floorMod_f86c9_23 : decode cJ9_floorMod_f86c9 23 = .ok (.ladd, 1) := by decide +kernel
theorem dJ9_floorMod_f86c9_24 : decode cJ9_floorMod_f86c9 24 = .ok (.lreturn, 1) := by decide +kernel
theorem dJ9_floorMod_f86c9_25 : decode cJ9_floorMod_f86c9 25 = .ok (.lload 4, 2) := by decide +kernel
theorem dJ9_floorMod_f86c9_27 : decode cJ9_floorMod_f86c9 27 = .ok (.lreturn, 1) := by decide +kernel
theorem kJ9_floorMod_f86c9 : ac_sw RJ9 yJ9_floorMod_f86c9 cJ9_floorMod_f86c9 6 (some .long) 2 := ⟨rfl, by decide, by decide, by decide +kernel, by decide, ac_in 577 (by decide +kernel) (by decide +kernel), ac_in 177 (by decide +kernel) (by decide +kernel), ac_in 578 (by decide +kernel) (by decide +kernel)⟩
theorem lkJ_633 : Cond.methodLink RJ0 633 yJ0_indexOf_7cf53 ∈ ac_tbl := ac_in 626 (by decide +kernel) (by decide +kernel)
theorem lkJ_505 : Cond.methodLink RJ0 505 yJ0_length_8abf5 ∈ ac_tbl := ac_in 630 (by decide +kernel) (by decide +kernel)
theorem lkJ_637 : Cond.methodLink RJ0 637 yJ1_indexOf_4cfef ∈ ac_tbl := ac_in 631 (by decide +kernel) (by decide +kernel)
theorem lkJ_88 : Cond.methodLink RJ1 88 yJ1_canEncode_9a6ad ∈ ac_tbl := ac_in 634 (by decide +kernel) (by decide +kernel)
theorem lkJ_95 : Cond.methodLink RJ1 95 yJ1_indexOfChar_4cfef ∈ ac_tbl := ac_in 643 (by decide +kernel) (by decide +kernel)
theorem lkJ_max : Cond.methodLink RJ1 92 Lib.Math.max.name ∈ ac_tbl := ac_in 637 (by decide +kernel) (by decide +kernel)
theorem stJ_max : Cond.static Lib.Math.max.name ∈ ac_tbl := ac_in 638 (by decide +kernel) (by decide +kernel)
theorem cdJ_max : Cond.code Lib.Math.max.name Lib.Math.max.code 2 (some .int) ∈ ac_tbl := ac_in 639 (by decide +kernel) (by decide +kernel)
theorem lkJ_min : Cond.methodLink RJ1 38 Lib.Math.min.name ∈ ac_tbl := ac_in 640 (by decide +kernel) (by decide +kernel)
theorem stJ_min : Cond.static Lib.Math.min.name ∈ ac_tbl := ac_in 641 (by decide +kernel) (by decide +kernel)
theorem cdJ_min : Cond.code Lib.Math.min.name Lib.Math.min.code 2 (some .int) ∈ ac_tbl := ac_in 642 (by decide +kernel) (by decide +kernel)
theorem inJ_math : Cond.initialized "java/lang/Math" ∈ ac_tbl := ac_in 177 (by decide +kernel) (by decide +kernel)
theorem lkX4_52 : Cond.methodLink RX4 52 yJ9_floorMod_f86c9 ∈ ac_tbl := ac_in 576 (by decide +kernel) (by decide +kernel)
section AC3
variable {x : ac_X} {A : Nat → Prop} {nL : Nat} {P : Heap → Prop} {cs ss pc : Nat} {lv : List (Nat × Value)} {st : List Value} {cc : ByteArray} {own : String}
theorem ac_ldc2 (C : ac_C x cc nL own) {index : Nat} {v : Int64} (hm : Cond.constantLong own index v ∈ ac_tbl) (hd : decode cc pc = .ok (.ldc2_w index, 3)) (k : ac_G x A nL P cs ss (pc + 3) lv (.long v :: st)) : ac_G x A nL P cs ss pc lv st := by
  obtain ⟨p, l, e, R, s, m, args, below, meth, c, Q⟩ := x
  exact fun H locs ls hP hS h => lv_ldc2 C.1 C.2.1 C.2.2.2.1 (C.2.2.2.2 _ hm) hd (k H locs ls hP hS h)
theorem ac_l2i (C : ac_C x cc nL own) {a : Int64} {v : Int32} (hd : decode cc pc = .ok (.l2i, 1)) (hv : a.toInt32 = v) (k : ac_G x A nL P cs ss (pc + 1) lv (.int v :: st)) : ac_G x A nL P cs ss pc lv (.long a :: st) := by
  obtain ⟨p, l, e, R, s, m, args, below, meth, c, Q⟩ := x
  exact fun H locs ls hP hS h => lv_l2i C.1 C.2.1 hd hv (k H locs ls hP hS h)
theorem ac_lcmp (C : ac_C x cc nL own) {a b : Int64} (hd : decode cc pc = .ok (.lcmp, 1)) (k : ac_G x A nL P cs ss (pc + 1) lv (.int (lg_cmp a b) :: st)) : ac_G x A nL P cs ss pc lv (.long b :: .long a :: st) := by
  obtain ⟨p, l, e, R, s, m, args, below, meth, c, Q⟩ := x
  exact fun H locs ls hP hS h => W.lcmp C.1 C.2.1 hd (k H locs ls hP hS h)
theorem ac_lrem (C : ac_C x cc nL own) {a b : Int64} (hd : decode cc pc = .ok (.lrem, 1)) (hne : ¬ b = 0) (k : ac_G x A nL P cs ss (pc + 1) lv (.long (a - a / b * b) :: st)) : ac_G x A nL P cs ss pc lv (.long b :: .long a :: st) := by
  obtain ⟨p, l, e, R, s, m, args, below, meth, c, Q⟩ := x
  exact fun H locs ls hP hS h => lv_lrem C.1 C.2.1 hd hne (k H locs ls hP hS h)
theorem ac_lxor (C : ac_C x cc nL own) {a b : Int64} (hd : decode cc pc = .ok (.lxor, 1)) (k : ac_G x A nL P cs ss (pc + 1) lv (.long (a ^^^ b) :: st)) : ac_G x A nL P cs ss pc lv (.long b :: .long a :: st) := by
  obtain ⟨p, l, e, R, s, m, args, below, meth, c, Q⟩ := x
  exact fun H locs ls hP hS h => lv_lxor C.1 C.2.1 hd (k H locs ls hP hS h)
theorem ac_ladd (C : ac_C x cc nL own) {a b : Int64} (hd : decode cc pc = .ok (.ladd, 1)) (k : ac_G x A nL P cs ss (pc + 1) lv (.long (a + b) :: st)) : ac_G x A nL P cs ss pc lv (.long b :: .long a :: st) := by
  obtain ⟨p, l, e, R, s, m, args, below, meth, c, Q⟩ := x
  exact fun H locs ls hP hS h => lv_ladd C.1 C.2.1 hd (k H locs ls hP hS h)
end AC3
/-- a method whose answer is one of the world's objects -/
def b_MetR (l : Launch) (g : b_S) (c : Nat) (rt : FieldType) (y : MethodName) (cc : ByteArray) (nL : Nat) (rk : Nat) (av : List Value) (M : Nat → Int32) (O : Nat × Nat) (Q : (Nat → Int32) → Nat × Nat → Prop) : Prop := ∀ sz sm : Nat,
  Met l y (.code y cc nL (some rt) :: ac_tbl) (b_room rk O) (va_Pc av (b_Pre g sz sm M O)) (va_Qr (fun (u : b_St) => Q u.1 u.2) (fun u a t => a = b_o g c ∧ b_Post g sz sm O u t) (b_A g)) (b_mc O) (b_ms O) (b_A g)
def b_RR (x : ac_X) (g : b_S) (c : Nat) (nL : Nat) (cc : ByteArray) (O0 : Nat × Nat) (Q : (Nat → Int32) → Nat × Nat → Prop) : Prop := ∀ (pc : Nat) (lv : List (Nat × Value)) (M : Nat → Int32) (O : Nat × Nat), decode cc pc = .ok (.areturn, 1) → Q M O → b_G x g nL O0 M O pc lv [.ref (b_o g c)]
theorem b_MetR.of {l : Launch} {g : b_S} {c0 : Nat} {rn : String} {y : MethodName} {C : String} {cc : ByteArray} {nL : Nat} {rk : Nat} {av : List Value} {M : Nat → Int32} {O : Nat × Nat} {Q : (Nat → Int32) → Nat × Nat → Prop} (hy : plainName y.cls = true) (ho : y.cls = C) (hn : (lg_sl av).length ≤ nL)
    (body : ∀ x : ac_X, b_Cx x g l C cc nL rk O → b_RR x g c0 nL cc O Q → b_G x g nL O M O 0 (lv_args 0 av) []) : b_MetR l g c0 (.object rn) y cc nL rk av M O Q := by
  intro sz sm
  refine Met.ofW (cc := cc) (maxL := nL) (ret := some (.object rn)) hy rfl ?_
  intro p e s m args below meth c s₁ B hml hv
  obtain ⟨rfl, hP, hK, rfl, rfl⟩ := hv
  have hts := atoms_spec (ws := .code y cc nL (some (.object rn)) :: ac_tbl) B.pre
  have hown : s.vm.findClass C = some m.cls := by rw [← ho]; exact findClass_of_methodNamed B.named
  have hlocks := B.notSynchronized
  have hl := lv_entry av (n := nL) hn
  rw [lg_entry_eq]
  refine ac_zero O ?_
  refine body (p, l, e, _, s, m, _, below, meth, c, _) ⟨⟨B.exec, B.bytes, hml, hown, fun w hw => hts w (List.mem_cons_of_mem _ hw)⟩, hK, rfl, rfl⟩ ?_ s.heap [] _ hP va_S.rf hl
  intro pc lv M' O' hd hq H locs ls hP' hS' _
  refine ac_know (fun k1 k2 => ?_)
  have hwd := b_wid hP'
  refine W.widen hwd.1 hwd.2 ?_
  exact W.aret (v := .ref (b_o g c0)) B.exec B.bytes B.returns (Or.inl ⟨rn, rfl⟩) (Or.inr ⟨_, rfl⟩) (fun t ht hW => ⟨⟨(M', O'), b_o g c0, rfl, hq, rfl, by show b_Post g s.heap.size (hsum s.heap) O (M', O') t; unfold b_Post; rw [ht]; exact ⟨hP', k1, k2⟩⟩, by rw [va_F, ht]; exact ⟨hS'.1, hS'.2.1⟩⟩) hS'.2.2 hd
/-! texts' methods called by the class -/
def b_sK (g : b_S) : Nat → Nat := g.2.2.2.2.2.1
theorem b_callB0 {R : Room} {s : State} {args : Array Value} {own : String} {index : Nat} {y : MethodName} {cc : ByteArray} {nL : Nat} {ret : Option FieldType} {n rk rk0 : Nat} {O0 : Nat × Nat} (hts : ∀ w ∈ ac_tbl, w.before args s = true) (hR : R = b_room rk0 O0) (hk : rk + 1 ≤ rk0) (h1 : y.cls ≠ "java/lang/invoke/MethodHandle") (h2 : y.cls ≠ "java/lang/invoke/VarHandle") (h3 : (parseMethodDescriptor y.desc).map (fun d => d.parameters.length) = some n) (h4 : nL ≤ 21) (h5 : Cond.initialized y.cls ∈ ac_tbl) (h6 : Cond.code y cc nL ret ∈ ac_tbl) (hl : Cond.methodLink own index y ∈ ac_tbl) : CallB R s args own index y cc nL ret (.code y cc nL ret :: ac_tbl) (ac_room rk) 0 0 n := by
  subst hR
  refine ⟨rfl, rfl, hk, ?_, ac_pay hts h6, List.mem_cons_self, hts _ h6, hts _ h5, ⟨h1, h2⟩, fun sig h => ?_, hts _ hl⟩
  · show 8 + (nL + 11) + 40 * rk ≤ 40 * rk0
    omega
  · rw [h] at h3
    exact (Option.some.inj h3).symm
theorem b_sPre {g : b_S} {s U : State} {H : Heap} {locs : List Loc} (K : b_K g s) (hS : va_S (b_A g) s.heap H locs) (hU : U.heap = H) (hW : s.WarmedH U.vm) : s_Pre (g.2.2.2.2.2.1, g.2.2.2.2.2.2.1) U := by
  obtain ⟨t, D, ad, NN, cT, adK, adV, A, up⟩ := g
  have h1 : st_K adK adV A U U.heap := K.2.2.2.1.go hW (by rw [hU]; exact hS.2.1)
  exact h1.narrow (fun q h => h.elim)
theorem b_sRecv {g : b_S} {s : State} {H : Heap} {locs : List Loc} (K : b_K g s) (hS : va_S (b_A g) s.heap H locs) {si : Nat} (hi : si < 4) : ∃ cell : Cell, H[b_sK g si]? = some cell ∧ cell.vm.isStatics = false ∧ s.vm.findClass "java/lang/String" = some cell.cls := by
  obtain ⟨t, D, ad, NN, cT, adK, adV, A, up⟩ := g
  exact vk_recv K.2.2.2.1.1 hi hS
/-- an answer of which nothing is told -/
def s_MetE (l : Launch) (g : s_S) (y : MethodName) (cc : ByteArray) (nL : Nat) (ret : FieldType) (rk : Nat) (av : List Value) : Prop :=
  Met l y (.code y cc nL (some ret) :: ac_tbl) (ac_room rk) (va_Pc av (s_Pre g)) (vp_Si (fun _ => True)) 0 0 s_no
def s_RE (x : ac_X) (nL : Nat) (cc : ByteArray) (ret : FieldType) : Prop := ∀ (pc : Nat) (lv : List (Nat × Value)) (v : Int32), decode cc pc = .ok (.ireturn, 1) → narrow ret (.int v) = .int v → ac_G x s_no nL (s_P x) 0 0 pc lv [.int v]
theorem s_MetE.of {l : Launch} {g : s_S} {y : MethodName} {cc : ByteArray} {nL : Nat} {ret : FieldType} {rk : Nat} {av : List Value} (hy : plainName y.cls = true) (hn : (lg_sl av).length ≤ nL)
    (body : ∀ x : ac_X, s_Cx x g l y.cls cc nL rk → s_RE x nL cc ret → ac_G x s_no nL (s_P x) 0 0 0 (lv_args 0 av) []) : s_MetE l g y cc nL ret rk av := by
  refine Met.ofW (cc := cc) (maxL := nL) (ret := some ret) hy rfl ?_
  intro p e s m args below meth c s₁ B hml hv
  obtain ⟨rfl, hK⟩ := hv
  have hts := atoms_spec (ws := .code y cc nL (some ret) :: ac_tbl) B.pre
  have hown : s.vm.findClass y.cls = some m.cls := findClass_of_methodNamed B.named
  have hlocks := B.notSynchronized
  have hl := lv_entry av (n := nL) hn
  rw [lg_entry_eq]
  refine body (p, l, e, _, s, m, _, below, meth, c, _) ⟨⟨B.exec, B.bytes, hml, hown, fun w hw => hts w (List.mem_cons_of_mem _ hw)⟩, hK, rfl, rfl⟩ ?_ s.heap [] _ rfl va_S.rf hl
  intro pc lv v hd hn9 H locs ls hP' hS' _
  exact W.zret (v := v) (ty := ret) B.exec B.bytes B.returns hn9 (fun t ht hW => ⟨v, rfl, trivial, ht.trans hP'⟩) hS'.2.2 hd
section SE
variable {x : ac_X} {g : s_S} {l : Launch} {own : String} {cc0 : ByteArray} {nL0 rk0 : Nat} {pc : Nat} {lv : List (Nat × Value)} {st st0 : List Value} {y : MethodName} {cc : ByteArray} {nL rk n index : Nat} {As : List Value}
theorem s_max (Z : s_Cx x g l RJ1 cc0 nL0 rk0) (hk : 1 ≤ rk0) {a b : Int32} (hr : (st.map fun v => v.category).sum ≤ 8) (hd : decode cc0 pc = .ok (.invokestatic 92, 3)) (kk : ac_G x s_no nL0 (s_P x) 0 0 (pc + 3) lv (.int (if a < b then b else a) :: st)) : ac_G x s_no nL0 (s_P x) 0 0 pc lv (.int b :: .int a :: st) := by
  obtain ⟨p, l', e, R, s, m, args, below, meth, c, Q0⟩ := x
  obtain ⟨C, K, hR, rfl⟩ := Z
  have hR : R = ac_room rk0 := hR
  subst hR
  intro H locs ls hP hS hlv
  exact va_mmax C.1 C.2.1 (C.2.2.1.trans hlv.1.symm) C.2.2.2.1 (C.2.2.2.2 _ lkJ_max) (C.2.2.2.2 _ stJ_max) (C.2.2.2.2 _ inJ_math) (C.2.2.2.2 _ cdJ_max) hk (by show _ ≤ 40 * rk0; omega) (Nat.zero_le _) (Nat.zero_le _) hd (kk H locs ls hP hS hlv)
theorem s_min (Z : s_Cx x g l RJ1 cc0 nL0 rk0) (hk : 1 ≤ rk0) {a b : Int32} (hr : (st.map fun v => v.category).sum ≤ 8) (hd : decode cc0 pc = .ok (.invokestatic 38, 3)) (kk : ac_G x s_no nL0 (s_P x) 0 0 (pc + 3) lv (.int (if b < a then b else a) :: st)) : ac_G x s_no nL0 (s_P x) 0 0 pc lv (.int b :: .int a :: st) := by
  obtain ⟨p, l', e, R, s, m, args, below, meth, c, Q0⟩ := x
  obtain ⟨C, K, hR, rfl⟩ := Z
  have hR : R = ac_room rk0 := hR
  subst hR
  intro H locs ls hP hS hlv
  exact va_mmin C.1 C.2.1 (C.2.2.1.trans hlv.1.symm) C.2.2.2.1 (C.2.2.2.2 _ lkJ_min) (C.2.2.2.2 _ stJ_min) (C.2.2.2.2 _ inJ_math) (C.2.2.2.2 _ cdJ_min) hk (by show _ ≤ 40 * rk0; omega) (Nat.zero_le _) (Nat.zero_le _) hd (kk H locs ls hP hS hlv)
end SE
/-- Math.floorMod by 127: from 0 to 126 -/
theorem s_fm (a : Int64) : (-127 < (a - a / 127 * 127).toInt ∧ (a - a / 127 * 127).toInt < 127) ∧ (0 ≤ a.toInt → 0 ≤ (a - a / 127 * 127).toInt) ∧ (a.toInt < 0 → (a - a / 127 * 127).toInt ≤ 0) := by
  obtain ⟨q, hq1, hq2⟩ : ∃ q : Int, a.toInt.tdiv 127 = q ∧ ((0 ≤ a.toInt ∧ 127 * q ≤ a.toInt ∧ a.toInt < 127 * q + 127 ∧ 0 ≤ q) ∨ (a.toInt < 0 ∧ a.toInt ≤ 127 * q ∧ 127 * q - 127 < a.toInt ∧ q ≤ 0)) := by
    cases h : a.toInt with
    | ofNat n =>
      refine ⟨((n / 127 : Nat) : Int), rfl, Or.inl ?_⟩
      have e : Int.ofNat n = (n : Int) := rfl
      rw [e]
      omega
    | negSucc m =>
      refine ⟨-(((m + 1) / 127 : Nat) : Int), rfl, Or.inr ?_⟩
      have e : Int.negSucc m = -((m : Int) + 1) := rfl
      rw [e]
      omega
  have h127 : (127 : Int64).toInt = 127 := by decide
  have e1 : (a / 127).toInt = q := by
    rw [Int64.toInt_div_of_ne_right a 127 (by decide), h127, hq1]
  have hb := Int64.le_toInt a
  have hb2 := Int64.toInt_lt a
  have e2 : (a / 127 * 127).toInt = q * 127 := by
    rw [Int64.toInt_mul, e1, h127]
    apply Int.bmod_eq_of_le <;> omega
  have e3 : (a - a / 127 * 127).toInt = a.toInt - q * 127 := by
    rw [Int64.toInt_sub, e2]
    apply Int.bmod_eq_of_le <;> omega
  omega
def s_MetLq (l : Launch) (g : s_S) (y : MethodName) (cc : ByteArray) (nL : Nat) (rk : Nat) (av : List Value) (post : Int64 → Prop) : Prop :=
  Met l y (.code y cc nL (some .long) :: ac_tbl) (ac_room rk) (va_Pc av (s_Pre g)) (vp_Sl post) 0 0 s_no
theorem s_msb (x : BitVec 64) : (x.toInt < 0) ↔ x.msb = true := by
  first
    | (rw [BitVec.toInt_eq_msb_cond]; have h := x.isLt; cases hm : x.msb <;> simp <;> omega)
    | (rw [BitVec.toInt_eq_msb_cond]; have h := x.isLt; cases hm : x.msb
       · simp
       · simp; omega)
    | (have h := BitVec.toInt_neg_iff (x := x); have h2 := BitVec.msb_eq_decide x; rw [h, h2]; simp; omega)
    | (have h2 := BitVec.msb_eq_decide x; rw [h2]; unfold BitVec.toInt; have h := x.isLt; split <;> simp <;> omega)
theorem s_msbx (x : BitVec 64) : (x ^^^ 127#64).msb = x.msb := by
  first
    | (rw [BitVec.msb_xor]; simp; done)
    | (simp; done)
    | (rw [BitVec.msb_xor]; have e : (127#64).msb = false := by decide
       rw [e]; cases x.msb <;> rfl)
    | (have e : (127#64).msb = false := by decide
       simp [e]; done)
    | (unfold BitVec.msb BitVec.getMsbD; rw [BitVec.getLsbD_xor]; have e : (127#64).getLsbD 63 = false := by decide
       simp [e]; done)
theorem s_xor (a : Int64) : (a ^^^ 127).toInt < 0 ↔ a.toInt < 0 := by
  have h1 := s_msb (a ^^^ 127).toBitVec
  have h2 := s_msb a.toBitVec
  have h3 : (a ^^^ 127).toBitVec.msb = a.toBitVec.msb := s_msbx a.toBitVec
  rw [h3] at h1
  exact h1.trans h2.symm
def s_RLq (x : ac_X) (nL : Nat) (cc : ByteArray) (post : Int64 → Prop) : Prop := ∀ (pc : Nat) (lv : List (Nat × Value)) (v : Int64), decode cc pc = .ok (.lreturn, 1) → post v → ac_G x s_no nL (s_P x) 0 0 pc lv [.long v]
theorem Met.ofRF {l : Launch} {y : MethodName} {ws ws' : List Cond} {rm : Room} {Pc : Array Value → State → Prop} {Qc : Array Value → State → Outcome → State → Prop} {mc ms : Nat} {free : Addr → Prop} {cc : ByteArray} {maxL : Nat} {ret : Option FieldType}
    (hy : plainFor y = true) (hw : ws = Cond.code y cc maxL ret :: ws')
    (body : ∀ p e s m args below meth c s₁, BodyLoose p l y (headSpec ws rm) cc maxL ret e s m args below meth c s₁ → c.maxLocals = maxL → Pc args s →
      W p l e (headSpec ws rm).room s m args below meth c s.heap [] 0 0 (MQ below Qc args s mc ms free) (entryFrame m args maxL)) : Met l y ws rm Pc Qc mc ms free := by
  refine MetFree.of_bodyRF (code := cc) (maxLocals := maxL) (ret := ret) hy ?_ ?_
  · intro args s m h hn
    obtain ⟨meth, c, h1, h2, h3, h4, h5, h6, -, -⟩ := Cond.code_spec hn (atoms_spec (ws := ws) h _ (by rw [hw]; exact List.mem_cons_self))
    exact ⟨meth, c, h1, h2, h3, h4, h5, h6⟩
  · intro p e s m args below meth c s₁ B hml hP _ hst
    have hh0 : s₁.heap = s.heap := by rw [B.state]; rfl
    obtain ⟨t, a1, o, b1, b2, b3⟩ := body p e s m args below meth c s₁ B hml hP s₁ hh0 (Stand.of_body B)
    exact ⟨t, o, hst.trans a1, b1, b2, ⟨b3.1, b3.2⟩⟩
theorem s_MetLq.of {l : Launch} {g : s_S} {y : MethodName} {cc : ByteArray} {nL : Nat} {rk : Nat} {av : List Value} {post : Int64 → Prop} (hy : plainFor y = true) (hn : (lg_sl av).length ≤ nL)
    (body : ∀ x : ac_X, s_Cx x g l y.cls cc nL rk → s_RLq x nL cc post → ac_G x s_no nL (s_P x) 0 0 0 (lv_args 0 av) []) : s_MetLq l g y cc nL rk av post := by
  refine Met.ofRF (cc := cc) (maxL := nL) (ret := some .long) hy rfl ?_
  intro p e s m args below meth c s₁ B hml hv
  obtain ⟨rfl, hK⟩ := hv
  have hts := atoms_spec (ws := .code y cc nL (some .long) :: ac_tbl) B.pre
  have hown : s.vm.findClass y.cls = some m.cls := findClass_of_methodNamed B.named
  have hlocks := B.notSynchronized
  have hl := lv_entry av (n := nL) hn
  rw [lg_entry_eq]
  refine body (p, l, e, _, s, m, _, below, meth, c, _) ⟨⟨B.exec, B.bytes, hml, hown, fun w hw => hts w (List.mem_cons_of_mem _ hw)⟩, hK, rfl, rfl⟩ ?_ s.heap [] _ rfl va_S.rf hl
  intro pc lv v hd hq H locs ls hP' hS' _
  exact W.lret (v := v) B.exec B.bytes B.returns (fun t ht hW => ⟨v, rfl, hq, ht.trans hP'⟩) hS'.2.2 hd
theorem s_cl {p : Program} {l : Launch} {e : Env} {R : Room} {s : State} {m : MethodId} {args : Array Value} {below : List Frame} {meth : Method} {c : Code} {H : Heap} {locs : List Loc} {cells slots : Nat} {Q : State → Prop} {pc : Nat} {ls : Array Slot} {rest st0 : List Value} {a : Array Value} {post : Int64 → Prop} (hr : va_Run p l e R s m args below meth c H locs cells slots 0 0 (F0 m pc ls st0) rest (vp_Sl post a) s_no) (kk : ∀ r, post r → W p l e R s m args below meth c H locs cells slots Q (F0 m (pc + 3) ls (.long r :: rest))) : W p l e R s m args below meth c H locs cells slots Q (F0 m pc ls st0) := by
  intro T hT X
  obtain ⟨v, st₀, t, T', L, h0, X', hL, e1, e2, ⟨r, hv, hp, hh⟩, st⟩ := hr T hT X
  cases hv
  have hL0 : L = [] := List.eq_nil_iff_forall_not_mem.mpr (fun q hq => hL q hq)
  subst hL0
  rw [List.append_nil] at X'
  obtain ⟨t2, a1, b1⟩ := kk r hp T' (by rw [e1, hh, h0]) X'
  exact ⟨t2, st t2 a1, b1⟩
section BST
variable {x : ac_X} {g : b_S} {l : Launch} {own : String} {cc0 : ByteArray} {nL0 rk0 : Nat} {O0 O : Nat × Nat} {M : Nat → Int32} {pc : Nat} {lv : List (Nat × Value)} {st : List Value} {index : Nat}
end BST

