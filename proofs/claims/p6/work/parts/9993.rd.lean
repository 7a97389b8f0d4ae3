/-! THE CLASS'S READ: a Reader is made, reads, is forgotten; its Program stays if there is no fault. -/
theorem nw_perm {x : ac_X} {D : va_G} {A : Nat → Prop} {nL : Nat} {ws ws' : va_W} {cs ss pc : Nat} {lv : List (Nat × Value)} {st : List Value} (is : List Nat) (h1 : is.filterMap (fun i => ws[i]?) = ws') (h2 : va_nd is = true) (h3 : is.map (fun i => ws[i]?) = ws'.map some) (k : ac_G x A nL (nw_P D A ws') cs ss pc lv st) : ac_G x A nL (nw_P D A ws) cs ss pc lv st := by
  obtain ⟨p, l', e, R, s, m, args, below, meth, c, Q⟩ := x
  exact fun H locs ls hP hS hlv => k H locs ls ⟨hP.1.sub is h1, hP.2.sub is h2 h3⟩ hS hlv
theorem nw_joinL {A0 : Nat → Prop} {D : va_G} {wr wc w1 : va_W} {H H1 : Heap} (hP : va_P D ac_cl (wr ++ wc) H) (hD : va_D A0 (wr ++ wc)) (hk : ∀ q : Nat, q < H.size → ¬ va_A wc H.size q → H1[q]? = H[q]?) (hF : ∀ q, va_A wc H.size q → A0 q) (hP1 : va_P D ac_cl w1 H1) (hD1 : va_D (va_A wc H.size) w1) : va_P D ac_cl (wr ++ w1) H1 ∧ va_D A0 (wr ++ w1) := by
  have hin : ∀ (k : Nat) (q : Nat × va_E), wr[k]? = some q → (wr ++ wc)[k]? = some q := fun k q hq => by
    rw [List.getElem?_append_left (List.getElem?_eq_some_iff.mp hq).1]; exact hq
  have hin2 : ∀ (k : Nat) (q : Nat × va_E), wc[k]? = some q → (wr ++ wc)[wr.length + k]? = some q := fun k q hq => by
    rw [List.getElem?_append_right (by omega), Nat.add_sub_cancel_left]; exact hq
  have apart : ∀ (k : Nat) (q : Nat × va_E), wr[k]? = some q → q.1 < H.size ∧ ¬ va_A wc H.size q.1 := by
    intro k q hq
    have hl := (hP k q (hin k q hq)).lt
    refine ⟨hl, fun h => ?_⟩
    rcases h with ⟨k2, e, h⟩ | h
    · have := hD.1 k (wr.length + k2) q (q.1, e) (hin k q hq) (hin2 k2 _ h) rfl
      have := (List.getElem?_eq_some_iff.mp hq).1
      omega
    · omega
  refine ⟨va_P.app (fun k q hq => ?_) hP1, va_D.app ⟨fun i j p q hi hj hpq => hD.1 i j p q (hin i p hi) (hin j q hj) hpq, fun k q hq => hD.2 k q (hin k q hq)⟩ (hD1.weaken (fun k q _ h => hF q.1 h)) (fun i j a b ha hb hab => ?_)⟩
  · obtain ⟨g1, g2⟩ := apart k q hq
    exact (hP k q (hin k q hq)).kept (hk q.1 g1 g2)
  · exact (apart i a ha).2 (by rw [hab]; exact hD1.2 j b hb)
theorem k_T.narrow {A B : Nat → Prop} {U : State} {H : Heap} (h : k_T A U H) (hAB : ∀ q, B q → A q) : k_T B U H := by
  obtain ⟨t, f, h1, h2, h3⟩ := h
  exact ⟨t, f, h1.narrow hAB, h2.narrow hAB, h3⟩
def rd_env (x : ac_X) (adK adV : Nat → Nat) (A : Nat → Prop) : Prop := match x with
  | (_, _, _, _, s, _) => st_K adK adV A s s.heap ∧ k_T A s s.heap
def rd_W (cT : Nat → ClassId) (ad N : Nat → Nat) (M : Nat → Int32) (F : Nat → Nat → Int32) (J : Nat → Nat → Int64) : va_W := b_W tb_R (b_ad ad (0, 7)) (b_ln N (0, 7)) cT M F J
theorem rd_O {cT : Nat → ClassId} {ad N : Nat → Nat} {M : Nat → Int32} {F : Nat → Nat → Int32} {J : Nat → Nat → Int64} (O : Nat × Nat) : b_W tb_R (b_ad ad O) (b_ln N O) cT M F J = rd_W cT ad N M F J := rfl
section RDC
variable {x : ac_X} {D : va_G} {cT : Nat → ClassId} {A : Nat → Prop} {l : Launch} {own : String} {cc0 : ByteArray} {nL0 : Nat} {rm : Room} {wr : va_W} {cs ss pc : Nat} {lv : List (Nat × Value)} {st st0 : List Value} {adK adV ad N : Nat → Nat} {M : Nat → Int32} {F : Nat → Nat → Int32} {J : Nat → Nat → Int64} {y : MethodName} {cc : ByteArray} {nL rk n index : Nat} {As : List Value}
theorem rd_pre {s U : State} {H : Heap} {locs : List Loc} (K : va_K D ac_cl (b_tys cT) s) (hA : ∀ q, s.heap.size ≤ q → A q) (E : st_K adK adV A s s.heap ∧ k_T A s s.heap) (hP : nw_P D A (wr ++ rd_W cT ad N M F J) H) (hS : va_S A s.heap H locs) (hU : U.heap = H) (hW : s.WarmedH U.vm) : b_Pre (tb_R, D, ad, N, cT, adK, adV, va_A (rd_W cT ad N M F J) H.size, H.size) H.size (hsum H) M (0, 7) U := by
  have hin2 : ∀ (k : Nat) (q : Nat × va_E), (rd_W cT ad N M F J)[k]? = some q → (wr ++ rd_W cT ad N M F J)[wr.length + k]? = some q := fun k q hq => by
    rw [List.getElem?_append_right (by omega), Nat.add_sub_cancel_left]; exact hq
  have hsub : ∀ q, va_A (rd_W cT ad N M F J) H.size q → A q := by
    intro q hq
    rcases hq with ⟨k, e, h⟩ | h
    · exact hP.2.2 _ _ (hin2 k _ h)
    · exact hA q (Nat.le_trans hS.1 h)
  have hPR : va_P D ac_cl (rd_W cT ad N M F J) H := fun k q hq => hP.1 _ q (hin2 k q hq)
  have hDR : va_D (va_A (rd_W cT ad N M F J) H.size) (rd_W cT ad N M F J) := ⟨fun i j p q hi hj hpq => by have := hP.2.1 _ _ p q (hin2 i p hi) (hin2 j q hj) hpq; omega, fun k q hk => va_A.in hk⟩
  have hh : ∀ a : Nat, a < s.heap.size → ¬ A a → U.heap[a]? = s.heap[a]? := by rw [hU]; exact hS.2.1
  refine ⟨⟨⟨F, J, by rw [hU]; exact hPR⟩, b_Dgo hDR, Nat.le_refl _, Nat.le_refl _⟩, ⟨okR, va_K.moved hW.alike K, fun q h => Or.inr h, (E.1.go hW hh).narrow hsub, (E.2.go hW hh).narrow hsub, by rw [hU]; exact Nat.le_refl _⟩, by rw [hU], by rw [hU]⟩
theorem nw_cbI (Z : nw_Cx x D cT A l own cc0 nL0 rm) (E : rd_env x adK adV A) {ret : FieldType} {Q : Int32 → (Nat → Int32) → Nat × Nat → Prop} (hM : ∀ (A' : Nat → Prop) (up : Nat), b_MetI l (tb_R, D, ad, N, cT, adK, adV, A', up) y cc nL ret rk (.ref (ad 0) :: As) M (0, 7) Q) (hw : ac_vw RX7 y cc nL (some ret) n) (hl : Cond.methodLink own index y ∈ ac_tbl) (hk : rk + 1 ≤ rm.frames) (hk2 : 40 * rk + 40 ≤ rm.locals) (hc : cs ≤ rm.cells) (hsl : ss ≤ rm.slots) (hn : As.length = n) (hs : st0 = As.reverse ++ .ref (ad 0) :: st) (hr : (st.map fun v => v.category).sum ≤ 8) (hd : decode cc0 pc = .ok (.invokevirtual index, 3))
    (kk : ∀ (r : Int32) (M' : Nat → Int32) (F' : Nat → Nat → Int32) (J' : Nat → Nat → Int64), (∃ O', Q r M' O') → ac_G x A nL0 (nw_P D A (wr ++ rd_W cT ad N M' F' J')) cs ss (pc + 3) lv (.int r :: st)) : ac_G x A nL0 (nw_P D A (wr ++ rd_W cT ad N M F J)) cs ss pc lv st0 := by
  obtain ⟨p, l', e9, R, s, m, args, below, meth, c, Q0⟩ := x
  obtain ⟨C0, ⟨K, ⟨hA, hNe⟩, hR⟩, rfl⟩ := Z
  obtain ⟨w1, w2, w3, w4, w5, w6, w7, w8, w9⟩ := hw
  have hb := nw_callB (R := R) (own := own) (index := index) (rk := rk) (mc := b_mc (0, 7)) (ms := b_ms (0, 7)) C0.2.2.2.2 (by rw [hR]; exact hk) (by rw [hR]; exact hk2) (by rw [w1]; exact w2) (by rw [w1]; exact w3) w4 w5 (by rw [w1]; exact w8) w9 hl
  intro H locs ls hP hS hlv
  have hin2 : ∀ (k : Nat) (q : Nat × va_E), (rd_W cT ad N M F J)[k]? = some q → (wr ++ rd_W cT ad N M F J)[wr.length + k]? = some q := fun k q hq => by
    rw [List.getElem?_append_right (by omega), Nat.add_sub_cancel_left]; exact hq
  have hsub : ∀ q, va_A (rd_W cT ad N M F J) H.size q → A q := by
    intro q hq
    rcases hq with ⟨k, e, h⟩ | h
    · exact hP.2.2 _ _ (hin2 k _ h)
    · exact hA q (Nat.le_trans hS.1 h)
  refine va_calli (va_runV (As := As) (rest := st) C0 (hM (va_A (rd_W cT ad N M F J) H.size) H.size H.size (hsum H)) ⟨hb, C0.2.2.2.2 _ w6, C0.2.2.2.2 _ w7⟩ ⟨b_blind, va_recv K hP.1 (ci := 7) (q0 := wr.length + 0) rfl (hin2 0 _ rfl), fun U hU hW => ⟨rfl, rd_pre K hA E hP hS hU hW⟩⟩ rfl hn hlv.1 hs (lv_room hr) hd ⟨by rw [hR]; exact hc, by rw [hR]; exact hsl⟩) hS (fun q _ h9 => hsub q h9) hsub (fun r v t H1 locs1 ht hvm hq hB hz1 hk1 hS1 => ?_)
  obtain ⟨⟨⟨F', J', hP1⟩, hD1, -⟩, -⟩ := hB
  rw [ht, rd_O v.2] at hP1
  rw [rd_O v.2] at hD1
  have hD2 : va_D (va_A (rd_W cT ad N M F J) H.size) (rd_W cT ad N v.1 F' J') := b_Dgo (t := tb_R) (a := b_ad ad (0, 7)) (N := b_ln N (0, 7)) hD1
  exact kk r v.1 F' J' ⟨_, hq⟩ H1 locs1 ls (nw_joinL hP.1 hP.2 hk1 hsub hP1 hD2) hS1 hlv
theorem nw_cbR (Z : nw_Cx x D cT A l own cc0 nL0 rm) (E : rd_env x adK adV A) {rt : FieldType} {k0 : Nat} {Q : (Nat → Int32) → Nat × Nat → Prop} (hM : ∀ (A' : Nat → Prop) (up : Nat), b_MetR l (tb_R, D, ad, N, cT, adK, adV, A', up) k0 rt y cc nL rk (.ref (ad 0) :: As) M (0, 7) Q) (hw : ac_vw RX7 y cc nL (some rt) n) (hl : Cond.methodLink own index y ∈ ac_tbl) (hk : rk + 1 ≤ rm.frames) (hk2 : 40 * rk + 40 ≤ rm.locals) (hc : cs ≤ rm.cells) (hsl : ss ≤ rm.slots) (hn : As.length = n) (hs : st0 = As.reverse ++ .ref (ad 0) :: st) (hr : (st.map fun v => v.category).sum ≤ 8) (hd : decode cc0 pc = .ok (.invokevirtual index, 3))
    (kk : ∀ (M' : Nat → Int32) (F' : Nat → Nat → Int32) (J' : Nat → Nat → Int64), (∃ O', Q M' O') → ac_G x A nL0 (nw_P D A (wr ++ rd_W cT ad N M' F' J')) cs ss (pc + 3) lv (.ref (ad k0) :: st)) : ac_G x A nL0 (nw_P D A (wr ++ rd_W cT ad N M F J)) cs ss pc lv st0 := by
  obtain ⟨p, l', e9, R, s, m, args, below, meth, c, Q0⟩ := x
  obtain ⟨C0, ⟨K, ⟨hA, hNe⟩, hR⟩, rfl⟩ := Z
  obtain ⟨w1, w2, w3, w4, w5, w6, w7, w8, w9⟩ := hw
  have hb := nw_callB (R := R) (own := own) (index := index) (rk := rk) (mc := b_mc (0, 7)) (ms := b_ms (0, 7)) C0.2.2.2.2 (by rw [hR]; exact hk) (by rw [hR]; exact hk2) (by rw [w1]; exact w2) (by rw [w1]; exact w3) w4 w5 (by rw [w1]; exact w8) w9 hl
  intro H locs ls hP hS hlv
  have hin2 : ∀ (k : Nat) (q : Nat × va_E), (rd_W cT ad N M F J)[k]? = some q → (wr ++ rd_W cT ad N M F J)[wr.length + k]? = some q := fun k q hq => by
    rw [List.getElem?_append_right (by omega), Nat.add_sub_cancel_left]; exact hq
  have hsub : ∀ q, va_A (rd_W cT ad N M F J) H.size q → A q := by
    intro q hq
    rcases hq with ⟨k, e, h⟩ | h
    · exact hP.2.2 _ _ (hin2 k _ h)
    · exact hA q (Nat.le_trans hS.1 h)
  refine va_callr (va_runV (As := As) (rest := st) C0 (hM (va_A (rd_W cT ad N M F J) H.size) H.size H.size (hsum H)) ⟨hb, C0.2.2.2.2 _ w6, C0.2.2.2.2 _ w7⟩ ⟨b_blind, va_recv K hP.1 (ci := 7) (q0 := wr.length + 0) rfl (hin2 0 _ rfl), fun U hU hW => ⟨rfl, rd_pre K hA E hP hS hU hW⟩⟩ rfl hn hlv.1 hs (lv_room hr) hd ⟨by rw [hR]; exact hc, by rw [hR]; exact hsl⟩) hS (fun q _ h9 => hsub q h9) hsub (fun v ra t H1 locs1 ht hvm hq hB hz1 hk1 hS1 => ?_)
  obtain ⟨hra, ⟨⟨F', J', hP1⟩, hD1, -⟩, -⟩ := hB
  rw [ht, rd_O v.2] at hP1
  rw [rd_O v.2] at hD1
  have hD2 : va_D (va_A (rd_W cT ad N M F J) H.size) (rd_W cT ad N v.1 F' J') := b_Dgo (t := tb_R) (a := b_ad ad (0, 7)) (N := b_ln N (0, 7)) hD1
  rw [hra]
  exact kk v.1 F' J' ⟨_, hq⟩ H1 locs1 ls (nw_joinL hP.1 hP.2 hk1 hsub hP1 hD2) hS1 hlv
end RDC
