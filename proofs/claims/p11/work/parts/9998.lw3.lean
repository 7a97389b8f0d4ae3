/-! THE LAW: its loop, and its start. -/
section LWS
variable {x : ac_X} {D : va_G} {cT : Nat → ClassId} {A : Nat → Prop} {l : Launch} {adK adV : Nat → Nat} {b L : Nat} {xs : Nat → Int32} {h1 h2 : Nat} {ad : Nat → Nat}
/-- from the head of the loop, with t rounds made -/
theorem lw_loop (Z : lw_Cx x D cT A l adK adV b L xs) (hend : ∀ (P : Heap → Prop) (lv : List (Nat × Value)), ac_G x A 4 P 20000 2000000 474 lv []) : ∀ (d t : Nat) (u : cl_S) (M : Nat → Int32) (F : Nat → Nat → Int32) (ks : Nat), L ≤ 6 * t + d → 6 * t ≤ L → cl_okJ h1 u → lw_V u M F → ks + 8 * (cl_f u).toInt.toNat ≤ 171000 + 600 * t → ac_G x A 4 (lw_I (ac_s x) D cT A (r_W h2 ad (cT 0) (cT 1) M F) u (80 + 20 * t) ks) 20000 2000000 18 (lw_lv b h1 h2 t) [] := by
  have hL := Z.2.2.2.2.2
  intro d
  induction d with
  | zero =>
    intro t u M F ks hd htL ok hV hks
    refine ac_iload_n Z.1.1 0 dL_law_18 rfl ?_
    refine ac_aload_n Z.1.1 3 dL_law_19 rfl ?_
    refine lw_slen Z dL_law_20 ?_
    refine ac_bipush (v := 6) Z.1.1 dL_law_21 (by decide) ?_
    refine ac_isub Z.1.1 dL_law_23 ?_
    refine ac_icmp_gt (tgt := 474) Z.1.1 dL_law_24 (by decide) (fun _ => hend _ _) (fun hc => ?_)
    have e1 := ti_nlt hc
    have e2 := lw_nI (n := L) (by omega)
    have e3 := lw_nI (n := 6 * t) (by omega)
    have e4 : (6 : Int32).toInt = 6 := by decide
    have e5 := ti_subx (nI L) 6 (by omega)
    omega
  | succ d ih =>
    intro t u M F ks hd htL ok hV hks
    refine ac_iload_n Z.1.1 0 dL_law_18 rfl ?_
    refine ac_aload_n Z.1.1 3 dL_law_19 rfl ?_
    refine lw_slen Z dL_law_20 ?_
    refine ac_bipush (v := 6) Z.1.1 dL_law_21 (by decide) ?_
    refine ac_isub Z.1.1 dL_law_23 ?_
    refine ac_icmp_gt (tgt := 474) Z.1.1 dL_law_24 (by decide) (fun _ => hend _ _) (fun hc => ?_)
    have e1 := ti_nlt hc
    have e2 := lw_nI (n := L) (by omega)
    have e3 := lw_nI (n := 6 * t) (by omega)
    have e4 : (6 : Int32).toInt = 6 := by decide
    have e5 := ti_subx (nI L) 6 (by omega)
    have ht : 6 * t + 6 ≤ L := by omega
    have hE : lw_En x D cT A b h1 h2 ad t := by
      intro u M F ks ok hV hks
      refine ac_iinc Z.1.1 0 dL_law_468 rfl (w := nI (6 * (t + 1))) (by rw [show Int32.ofInt 6 = nI 6 from by decide]; exact ni_add) (by decide) rfl ?_
      refine ac_goto (tgt := 18) Z.1.1 dL_law_471 (by decide) ?_
      exact ih (t + 1) u M F ks (by omega) (by omega) ok hV hks
    refine ac_aload_n Z.1.1 3 dL_law_27 rfl ?_
    refine ac_iload_n Z.1.1 0 dL_law_28 rfl ?_
    refine lw_sld Z rfl (by omega) dL_law_29 ?_
    refine ac_bipush (v := 15) Z.1.1 dL_law_30 (by decide) ?_
    refine ac_iand Z.1.1 dL_law_32 ?_
    generalize xs (6 * t) &&& 15 = v
    by_cases hv : v.toInt < 0 ∨ 9 < v.toInt
    · refine ac_tableOut (tgt := 468) Z.1.1 dL_law_33 hv (by decide) ?_
      exact lw_I.mono (by omega) (Nat.le_refl _) (hE u M F ks ok hV (by omega))
    have hv2 : v.toInt = 0 ∨ v.toInt = 1 ∨ v.toInt = 2 ∨ v.toInt = 3 ∨ v.toInt = 4 ∨ v.toInt = 5 ∨ v.toInt = 6 ∨ v.toInt = 7 ∨ v.toInt = 8 ∨ v.toInt = 9 := by omega
    rcases hv2 with h | h | h | h | h | h | h | h | h | h
    · exact ac_tableIn (off := 55) (tgt := 88) Z.1.1 dL_law_33 (by omega) (by omega) (by rw [h]; rfl) (by decide) (lw_c0 Z ht ok hV hks hE)
    · exact ac_tableIn (off := 118) (tgt := 151) Z.1.1 dL_law_33 (by omega) (by omega) (by rw [h]; rfl) (by decide) (lw_c1 Z ht ok hV hks hE)
    · exact ac_tableIn (off := 141) (tgt := 174) Z.1.1 dL_law_33 (by omega) (by omega) (by rw [h]; rfl) (by decide) (lw_c2 Z ht ok hV hks hE)
    · exact ac_tableIn (off := 164) (tgt := 197) Z.1.1 dL_law_33 (by omega) (by omega) (by rw [h]; rfl) (by decide) (lw_c3 Z ht ok hV hks hE)
    · exact ac_tableIn (off := 217) (tgt := 250) Z.1.1 dL_law_33 (by omega) (by omega) (by rw [h]; rfl) (by decide) (lw_c4 Z ht ok hV hks hE)
    · exact ac_tableIn (off := 260) (tgt := 293) Z.1.1 dL_law_33 (by omega) (by omega) (by rw [h]; rfl) (by decide) (lw_c5 Z ht ok hV hks hE)
    · exact ac_tableIn (off := 313) (tgt := 346) Z.1.1 dL_law_33 (by omega) (by omega) (by rw [h]; rfl) (by decide) (lw_c6 Z ht ok hV hks hE)
    · exact ac_tableIn (off := 336) (tgt := 369) Z.1.1 dL_law_33 (by omega) (by omega) (by rw [h]; rfl) (by decide) (lw_c7 Z ht ok hV hks hE)
    · exact ac_tableIn (off := 359) (tgt := 392) Z.1.1 dL_law_33 (by omega) (by omega) (by rw [h]; rfl) (by decide) (lw_c8 Z ht ok hV hks hE)
    · exact ac_tableIn (off := 392) (tgt := 425) Z.1.1 dL_law_33 (by omega) (by omega) (by rw [h]; rfl) (by decide) (lw_c9 Z ht ok hV hks hE)
def lw_ad0 (v : nw_U) : Nat → Nat := fun k => v.1 (([0, 0, 0, 0, 0, 0, 0, 1, 2, 3, 4, 5, 0, 6, 7, 8, 9, 10, 11, 12, 13, 14, 15, 16, 17, 18, 19, 0, 0, 0, 0, 0, 0, 0, 0, 0, 0, 0, 0, 0, 0, 0, 20, 21, 22, 23, 0, 0, 24, 25, 26, 27, 28, 29, 0, 0, 0, 30, 31, 32, 33, 34, 0, 35, 36, 37, 38, 0, 39, 0, 0, 0, 0, 0, 0, 0, 0, 0, 0, 0, 0, 0, 0, 0, 40, 41, 42, 43] : List Nat).getD k 0)
set_option maxRecDepth 20000 in
theorem lw_go (Z : lw_Cx x D cT A l adK adV b L xs) (hend : ∀ (P : Heap → Prop) (lv : List (Nat × Value)), ac_G x A 4 P 20000 2000000 474 lv []) : ac_G x A 4 (nw_P D A []) 0 0 0 [(0, .ref b)] [] := by
  refine nw_new Z.1 b_X11 cL_7 niX11 nzX11 ndfX11 (by decide) (by decide) dL_law_0 (fun q1 => ?_)
  refine ac_dup Z.1.1 dL_law_3 rfl ?_
  refine nw_ctor Z.1 (wr := []) (ckV_X11_init l D cT q1) nkX11 lL_9 (by decide) (by decide) (by decide) (by decide) rfl rfl (Nat.le_of_ble_eq_true rfl) dL_law_4 (fun v1 => ?_)
  refine ac_astore_n Z.1.1 dL_law_7 (by decide) rfl ?_
  refine nw_perm (ws' := cl_w cT (lw_u0 q1 v1)) [0, 20, 6, 8, 10, 2, 1, 21, 22, 23, 7, 9, 11, 12, 13, 14, 15, 5, 3, 4] (nw_fm rfl) (by decide) rfl ?_
  refine nw_new Z.1 b_X12 cL_10 niX12 nzX12 ndfX12 (by decide) (by decide) dL_law_8 (fun q2 => ?_)
  refine ac_dup Z.1.1 dL_law_11 rfl ?_
  refine nw_ctor Z.1 (wr := cl_w cT (lw_u0 q1 v1)) (ck_X12_init l D cT q2) nkX12 lL_12 (by decide) (by decide) (by decide) (by decide) rfl rfl (Nat.le_of_ble_eq_true rfl) dL_law_12 (fun v2 => ?_)
  refine ac_astore_n Z.1.1 dL_law_15 (by decide) rfl ?_
  refine ac_iconst (v := nI (6 * 0)) Z.1.1 dL_law_16 (by decide) ?_
  refine ac_istore_n Z.1.1 dL_law_17 (by decide) rfl ?_
  refine nw_eq (ws' := cl_w cT (lw_u0 q1 v1) ++ r_W q2 (lw_ad0 v2) (cT 0) (cT 1) lw_M0 (fun _ _ => 0)) (congrArg (cl_w cT (lw_u0 q1 v1) ++ ·) rfl) ?_
  have hgo := lw_loop (h1 := q1) (h2 := q2) (ad := lw_ad0 v2) Z hend L 0 (lw_u0 q1 v1) lw_M0 (fun _ _ => 0) 171000 (by omega) (by omega) (lw_u0ok q1 v1) (lw_V0 q1 v1) (by show 171000 + 8 * (0 : Int32).toInt.toNat ≤ 171000 + 600 * 0; decide)
  obtain ⟨p, l', e9, R, s, m, args, below, meth, c, Q0⟩ := x
  intro H locs ls hP hS hlv
  refine ac_know (fun k1 k2 => ?_)
  refine ac_recount 20000 2000000 (by omega) (by omega) ?_
  refine hgo H locs ls ⟨nw_comm hP, ?_, ?_⟩ hS hlv
  · show H.size ≤ s.heap.size + (80 + 20 * 0 + 0)
    omega
  · show hsum H ≤ hsum s.heap + (171000 + 896 * 2 ^ 0)
    omega
end LWS
