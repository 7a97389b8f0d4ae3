/-! THE CLASS'S READ, walked with what its rows hold. -/
section RDF
variable {x : ac_X} {D : va_G} {cT : Nat → ClassId} {A : Nat → Prop} {l : Launch} {own : String} {cc0 : ByteArray} {nL0 : Nat} {rm : Room} {wr : va_W} {cs ss pc : Nat} {lv : List (Nat × Value)} {st st0 : List Value} {adK adV ad N : Nat → Nat} {M : Nat → Int32} {F : Nat → Nat → Int32} {J : Nat → Nat → Int64} {y : MethodName} {cc : ByteArray} {nL rk n index : Nat} {As : List Value}
theorem rd_preF {s U : State} {H : Heap} {locs : List Loc} (K : va_K D ac_cl (b_tys cT) s) (hA : ∀ q, s.heap.size ≤ q → A q) (E : st_K adK adV A s s.heap ∧ k_T A s s.heap) (hP : nw_P D A (wr ++ rd_W cT ad N M F J) H) (hS : va_S A s.heap H locs) (hU : U.heap = H) (hW : s.WarmedH U.vm) : f_Pre (tb_R, D, ad, N, cT, adK, adV, va_A (rd_W cT ad N M F J) H.size, H.size) H.size (hsum H) (M, F, J) (0, 7) U := by
  have hin2 : ∀ (k : Nat) (q : Nat × va_E), (rd_W cT ad N M F J)[k]? = some q → (wr ++ rd_W cT ad N M F J)[wr.length + k]? = some q := fun k q hq => by
    rw [List.getElem?_append_right (by omega), Nat.add_sub_cancel_left]; exact hq
  have hsub : ∀ q, va_A (rd_W cT ad N M F J) H.size q → A q := by
    intro q hq
    rcases hq with ⟨k, e, h⟩ | h
    · exact hP.2.2 _ _ (hin2 k _ h)
    · exact hA q (Nat.le_trans hS.1 h)
  have hPR : va_P D ac_cl (rd_W cT ad N M F J) H := fun k q hq => hP.1 _ q (hin2 k q hq)
  have hDR : va_D (va_A (rd_W cT ad N M F J) H.size) (rd_W cT ad N M F J) := ⟨fun i j p q hi hj hpq => by have := hP.2.1 _ _ p q (hin2 i p hi) (hin2 j q hj) hpq; omega, fun k q hk => va_A.in hk⟩
  have hh : ∀ a : Nat, a < s.heap.size → ¬ A a → U.heap[a]? = s.heap[a]? := by rw [hU]; exact hS.2.1
  refine ⟨⟨by rw [hU]; exact hPR, b_Dgo hDR, Nat.le_refl _, Nat.le_refl _⟩, ⟨okR, va_K.moved hW.alike K, fun q h => Or.inr h, (E.1.go hW hh).narrow hsub, (E.2.go hW hh).narrow hsub, by rw [hU]; exact Nat.le_refl _⟩, by rw [hU], by rw [hU]⟩
theorem nw_cfI (Z : nw_Cx x D cT A l own cc0 nL0 rm) (E : rd_env x adK adV A) {ret : FieldType} {Q : Int32 → f_S3 → Nat × Nat → Prop} (hM : ∀ (A' : Nat → Prop) (up : Nat), f_MetI l (tb_R, D, ad, N, cT, adK, adV, A', up) y cc nL ret rk (.ref (ad 0) :: As) (M, F, J) (0, 7) Q) (hw : ac_vw RX7 y cc nL (some ret) n) (hl : Cond.methodLink own index y ∈ ac_tbl) (hk : rk + 1 ≤ rm.frames) (hk2 : 40 * rk + 40 ≤ rm.locals) (hc : cs ≤ rm.cells) (hsl : ss ≤ rm.slots) (hn : As.length = n) (hs : st0 = As.reverse ++ .ref (ad 0) :: st) (hr : (st.map fun v => v.category).sum ≤ 8) (hd : decode cc0 pc = .ok (.invokevirtual index, 3))
    (kk : ∀ (r : Int32) (S : f_S3), (∃ O', Q r S O') → ac_G x A nL0 (nw_P D A (wr ++ rd_W cT ad N S.1 S.2.1 S.2.2)) cs ss (pc + 3) lv (.int r :: st)) : ac_G x A nL0 (nw_P D A (wr ++ rd_W cT ad N M F J)) cs ss pc lv st0 := by
  obtain ⟨p, l', e9, R, s, m, args, below, meth, c, Q0⟩ := x
  obtain ⟨C0, ⟨K, ⟨hA, hNe⟩, hR⟩, rfl⟩ := Z
  obtain ⟨w1, w2, w3, w4, w5, w6, w7, w8, w9⟩ := hw
  have hb := nw_callB (R := R) (own := own) (index := index) (rk := rk) (mc := b_mc (0, 7)) (ms := b_ms (0, 7)) C0.2.2.2.2 (by rw [hR]; exact hk) (by rw [hR]; exact hk2) (by rw [w1]; exact w2) (by rw [w1]; exact w3) w4 w5 (by rw [w1]; exact w8) w9 hl
  intro H locs ls hP hS hlv
  have hin2 : ∀ (k : Nat) (q : Nat × va_E), (rd_W cT ad N M F J)[k]? = some q → (wr ++ rd_W cT ad N M F J)[wr.length + k]? = some q := fun k q hq => by
    rw [List.getElem?_append_right (by omega), Nat.add_sub_cancel_left]; exact hq
  have hsub : ∀ q, va_A (rd_W cT ad N M F J) H.size q → A q := by
    intro q hq
    rcases hq with ⟨k, e, h⟩ | h
    · exact hP.2.2 _ _ (hin2 k _ h)
    · exact hA q (Nat.le_trans hS.1 h)
  refine va_calli (va_runV (As := As) (rest := st) C0 (hM (va_A (rd_W cT ad N M F J) H.size) H.size H.size (hsum H)) ⟨hb, C0.2.2.2.2 _ w6, C0.2.2.2.2 _ w7⟩ ⟨f_blind, va_recv K hP.1 (ci := 7) (q0 := wr.length + 0) rfl (hin2 0 _ rfl), fun U hU hW => ⟨rfl, rd_preF K hA E hP hS hU hW⟩⟩ rfl hn hlv.1 hs (lv_room hr) hd ⟨by rw [hR]; exact hc, by rw [hR]; exact hsl⟩) hS (fun q _ h9 => hsub q h9) hsub (fun r v t H1 locs1 ht hvm hq hB hz1 hk1 hS1 => ?_)
  obtain ⟨⟨hP1, hD1, -⟩, -⟩ := hB
  rw [ht, rd_O v.2] at hP1
  rw [rd_O v.2] at hD1
  have hD2 : va_D (va_A (rd_W cT ad N M F J) H.size) (rd_W cT ad N v.1.1 v.1.2.1 v.1.2.2) := b_Dgo (t := tb_R) (a := b_ad ad (0, 7)) (N := b_ln N (0, 7)) hD1
  exact kk r v.1 ⟨_, hq⟩ H1 locs1 ls (nw_joinL hP.1 hP.2 hk1 hsub hP1 hD2) hS1 hlv
theorem nw_cfR (Z : nw_Cx x D cT A l own cc0 nL0 rm) (E : rd_env x adK adV A) {rt : FieldType} {k0 : Nat} {Q : f_S3 → Nat × Nat → Prop} (hM : ∀ (A' : Nat → Prop) (up : Nat), f_MetR l (tb_R, D, ad, N, cT, adK, adV, A', up) k0 rt y cc nL rk (.ref (ad 0) :: As) (M, F, J) (0, 7) Q) (hw : ac_vw RX7 y cc nL (some rt) n) (hl : Cond.methodLink own index y ∈ ac_tbl) (hk : rk + 1 ≤ rm.frames) (hk2 : 40 * rk + 40 ≤ rm.locals) (hc : cs ≤ rm.cells) (hsl : ss ≤ rm.slots) (hn : As.length = n) (hs : st0 = As.reverse ++ .ref (ad 0) :: st) (hr : (st.map fun v => v.category).sum ≤ 8) (hd : decode cc0 pc = .ok (.invokevirtual index, 3))
    (kk : ∀ (S : f_S3), (∃ O', Q S O') → ac_G x A nL0 (nw_P D A (wr ++ rd_W cT ad N S.1 S.2.1 S.2.2)) cs ss (pc + 3) lv (.ref (ad k0) :: st)) : ac_G x A nL0 (nw_P D A (wr ++ rd_W cT ad N M F J)) cs ss pc lv st0 := by
  obtain ⟨p, l', e9, R, s, m, args, below, meth, c, Q0⟩ := x
  obtain ⟨C0, ⟨K, ⟨hA, hNe⟩, hR⟩, rfl⟩ := Z
  obtain ⟨w1, w2, w3, w4, w5, w6, w7, w8, w9⟩ := hw
  have hb := nw_callB (R := R) (own := own) (index := index) (rk := rk) (mc := b_mc (0, 7)) (ms := b_ms (0, 7)) C0.2.2.2.2 (by rw [hR]; exact hk) (by rw [hR]; exact hk2) (by rw [w1]; exact w2) (by rw [w1]; exact w3) w4 w5 (by rw [w1]; exact w8) w9 hl
  intro H locs ls hP hS hlv
  have hin2 : ∀ (k : Nat) (q : Nat × va_E), (rd_W cT ad N M F J)[k]? = some q → (wr ++ rd_W cT ad N M F J)[wr.length + k]? = some q := fun k q hq => by
    rw [List.getElem?_append_right (by omega), Nat.add_sub_cancel_left]; exact hq
  have hsub : ∀ q, va_A (rd_W cT ad N M F J) H.size q → A q := by
    intro q hq
    rcases hq with ⟨k, e, h⟩ | h
    · exact hP.2.2 _ _ (hin2 k _ h)
    · exact hA q (Nat.le_trans hS.1 h)
  refine va_callr (va_runV (As := As) (rest := st) C0 (hM (va_A (rd_W cT ad N M F J) H.size) H.size H.size (hsum H)) ⟨hb, C0.2.2.2.2 _ w6, C0.2.2.2.2 _ w7⟩ ⟨f_blind, va_recv K hP.1 (ci := 7) (q0 := wr.length + 0) rfl (hin2 0 _ rfl), fun U hU hW => ⟨rfl, rd_preF K hA E hP hS hU hW⟩⟩ rfl hn hlv.1 hs (lv_room hr) hd ⟨by rw [hR]; exact hc, by rw [hR]; exact hsl⟩) hS (fun q _ h9 => hsub q h9) hsub (fun v ra t H1 locs1 ht hvm hq hB hz1 hk1 hS1 => ?_)
  obtain ⟨hra, ⟨hP1, hD1, -⟩, -⟩ := hB
  rw [ht, rd_O v.2] at hP1
  rw [rd_O v.2] at hD1
  have hD2 : va_D (va_A (rd_W cT ad N M F J) H.size) (rd_W cT ad N v.1.1 v.1.2.1 v.1.2.2) := b_Dgo (t := tb_R) (a := b_ad ad (0, 7)) (N := b_ln N (0, 7)) hD1
  rw [hra]
  exact kk v.1 ⟨_, hq⟩ H1 locs1 ls (nw_joinL hP.1 hP.2 hk1 hsub hP1 hD2) hS1 hlv
end RDF
theorem c_place {N : Nat → Nat} (hN : N 28 = 5) {s : f_S3} {O : Nat × Nat} {p : Int32} {Q : Int32 → f_S3 → Nat × Nat → Prop} (hQ : ∀ r, Q r s O) : wF_X7_placeOfFault N p s O Q := by
  refine ⟨fun _ => hQ _, fun a => ⟨fun _ => hQ _, fun b => ⟨?_, hQ _⟩⟩⟩
  have a := ti_nlt a
  have b := ti_nlt b
  have e1 : (1 : Int32).toInt = 1 := by decide
  have e4 : (4 : Int32).toInt = 4 := by decide
  rw [hN]
  exact vp_in_iff.mpr (by omega)
theorem x_255r (a : Int32) : 0 ≤ (a &&& 255).toInt ∧ (a &&& 255).toInt ≤ 255 := by
  have h : (a &&& 255).toBitVec = a.toBitVec &&& 255#32 := rfl
  have e : (a &&& 255).toInt = (a &&& 255).toBitVec.toInt := rfl
  have hl : (a.toBitVec &&& 255#32).toNat ≤ 255 := by
    rw [BitVec.toNat_and]
    exact Nat.and_le_right
  rw [e, h, BitVec.toInt_eq_toNat_cond]
  split <;> omega
