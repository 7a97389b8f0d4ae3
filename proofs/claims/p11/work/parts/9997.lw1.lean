/-! THE LAW'S CALLS: of the class and of the reference, over one world that holds both. -/
section LWC
abbrev ac_s (x : ac_X) : State := x.2.2.2.2.1
/-- the reference's cells, then the class's; how big the heap is -/
def lw_I (s : State) (D : va_G) (cT : Nat → ClassId) (A : Nat → Prop) (wr : va_W) (u : cl_S) (kc ks : Nat) (H : Heap) : Prop := nw_P D A (wr ++ cl_w cT u) H ∧ H.size ≤ s.heap.size + (kc + (cl_O u).2) ∧ hsum H ≤ hsum s.heap + (ks + 896 * 2 ^ (cl_O u).2)
theorem lw_I.mono {x : ac_X} {s0 : State} {D : va_G} {cT : Nat → ClassId} {A : Nat → Prop} {wr : va_W} {u : cl_S} {kc ks kc' ks' nL cs ss pc : Nat} {lv : List (Nat × Value)} {st : List Value} (h1 : kc ≤ kc') (h2 : ks ≤ ks') (k : ac_G x A nL (lw_I s0 D cT A wr u kc' ks') cs ss pc lv st) : ac_G x A nL (lw_I s0 D cT A wr u kc ks) cs ss pc lv st := by
  obtain ⟨p, l', e9, R, s, m, args, below, meth, c, Q0⟩ := x
  exact fun H locs ls hP hS hlv => k H locs ls ⟨hP.1, Nat.le_trans hP.2.1 (by omega), Nat.le_trans hP.2.2 (by omega)⟩ hS hlv
theorem cl_blind {D : va_G} {cT : Nat → ClassId} {adK adV : Nat → Nat} {u : cl_S} {sz sm : Nat} {av : List Value} : FrameBlind (va_Pc av (cl_Pre D cT adK adV u sz sm)) := fun a U g9 mk q => ⟨q.1, q.2.1, va_K.moved (u := U) (U := U.calling g9 mk a) (Vm.Alike.refl U.vm) q.2.2.1, q.2.2.2.1.go (U := U.calling g9 mk a) (State.WarmedH.refl U) (fun _ _ _ => rfl), q.2.2.2.2.1.go (U := U.calling g9 mk a) (State.WarmedH.refl U) (fun _ _ _ => rfl), q.2.2.2.2.2.1.go (U := U.calling g9 mk a) (State.WarmedH.refl U), q.2.2.2.2.2.2⟩
theorem nw_comm {D : va_G} {A : Nat → Prop} {a b : va_W} {H : Heap} (h : nw_P D A (a ++ b) H) : nw_P D A (b ++ a) H := by
  have hin : ∀ (k : Nat) (q : Nat × va_E), a[k]? = some q → (a ++ b)[k]? = some q := fun k q hq => by
    rw [List.getElem?_append_left (List.getElem?_eq_some_iff.mp hq).1]; exact hq
  have hin2 : ∀ (k : Nat) (q : Nat × va_E), b[k]? = some q → (a ++ b)[a.length + k]? = some q := fun k q hq => by
    rw [List.getElem?_append_right (by omega), Nat.add_sub_cancel_left]; exact hq
  refine ⟨va_P.app (fun k q hq => h.1 _ q (hin2 k q hq)) (fun k q hq => h.1 _ q (hin k q hq)), va_D.app ⟨fun i j p q hi hj hpq => by have := h.2.1 _ _ p q (hin2 i p hi) (hin2 j q hj) hpq; omega, fun k q hq => h.2.2 _ q (hin2 k q hq)⟩ ⟨fun i j p q hi hj hpq => h.2.1 _ _ p q (hin i p hi) (hin j q hj) hpq, fun k q hq => h.2.2 _ q (hin k q hq)⟩ (fun i j p q hi hj hpq => ?_)⟩
  have := h.2.1 _ _ p q (hin2 i p hi) (hin j q hj) hpq
  have := (List.getElem?_eq_some_iff.mp hj).1
  omega
variable {x : ac_X} {D : va_G} {cT : Nat → ClassId} {A : Nat → Prop} {l : Launch} {own : String} {cc0 : ByteArray} {nL0 : Nat} {rm : Room} {wr : va_W} {cs ss pc : Nat} {lv : List (Nat × Value)} {st st0 : List Value} {adK adV : Nat → Nat} {y : MethodName} {cc : ByteArray} {nL rk n index kc ks : Nat} {As : List Value}
theorem lw_cj (Z : nw_Cx x D cT A l own cc0 nL0 rm) (E : rd_env x adK adV A) {u : cl_S} {h mc ms kc' ks' : Nat} {Post : Int32 → cl_S → Prop} {ret : FieldType} (ok : cl_okJ h u) (hM : cl_MetJ l D cT adK adV y cc nL ret rk mc ms kc' ks' h As u Post) (hw : ac_vw RX11 y cc nL (some ret) n) (hl : Cond.methodLink own index y ∈ ac_tbl) (hk : rk + 1 ≤ rm.frames) (hk2 : 40 * rk + 40 ≤ rm.locals) (hc : cs + mc ≤ rm.cells) (hsl : ss + ms ≤ rm.slots) (hn : As.length = n) (hs : st0 = As.reverse ++ .ref h :: st) (hr : (st.map fun v => v.category).sum ≤ 8) (hd : decode cc0 pc = .ok (.invokevirtual index, 3)) (hkc : kc + kc' + 7 ≤ cs) (hks : ks + ks' + 114688 ≤ ss)
    (kk : ∀ (r : Int32) (u' : cl_S), cl_okJ h u' → Post r u' → ac_G x A nL0 (lw_I (ac_s x) D cT A wr u' (kc + kc') (ks + ks')) cs ss (pc + 3) lv (.int r :: st)) : ac_G x A nL0 (lw_I (ac_s x) D cT A wr u kc ks) cs ss pc lv st0 := by
  have e0 := ok.1
  subst e0
  obtain ⟨p, l', e9, R, s, m, args, below, meth, c, Q0⟩ := x
  obtain ⟨C0, ⟨K, ⟨hA, hNe⟩, hR⟩, rfl⟩ := Z
  obtain ⟨w1, w2, w3, w4, w5, w6, w7, w8, w9⟩ := hw
  have hb := nw_callB (R := R) (own := own) (index := index) (rk := rk) (mc := mc) (ms := ms) C0.2.2.2.2 (by rw [hR]; exact hk) (by rw [hR]; exact hk2) (by rw [w1]; exact w2) (by rw [w1]; exact w3) w4 w5 (by rw [w1]; exact w8) w9 hl
  intro H locs ls hI hS hlv
  obtain ⟨hP, hz, hzs⟩ := hI
  have hz : H.size ≤ s.heap.size + (kc + (cl_O u).2) := hz
  have hzs : hsum H ≤ hsum s.heap + (ks + 896 * 2 ^ (cl_O u).2) := hzs
  have hin2 : ∀ (k : Nat) (q : Nat × va_E), (cl_w cT u)[k]? = some q → (wr ++ cl_w cT u)[wr.length + k]? = some q := fun k q hq => by
    rw [List.getElem?_append_right (by omega), Nat.add_sub_cancel_left]; exact hq
  have hsub : ∀ q, va_A (cl_w cT u) H.size q → A q := by
    intro q hq
    rcases hq with ⟨k, e, h⟩ | h
    · exact hP.2.2 _ _ (hin2 k _ h)
    · exact hA q (Nat.le_trans hS.1 h)
  have hPR : va_P D ac_cl (cl_w cT u) H := fun k q hq => hP.1 _ q (hin2 k q hq)
  have hDR : va_D (fun _ => True) (cl_w cT u) := ⟨fun i j p q hi hj hpq => by have := hP.2.1 _ _ p q (hin2 i p hi) (hin2 j q hj) hpq; omega, fun k q hk => trivial⟩
  refine va_calli (va_runV (As := As) (rest := st) C0 (hM H.size (hsum H)) ⟨hb, C0.2.2.2.2 _ w6, C0.2.2.2.2 _ w7⟩ ⟨cl_blind, va_recv K hP.1 (ci := 11) (q0 := wr.length + 0) rfl (hin2 0 _ rfl), fun U hU hW => ⟨rfl, ?_⟩⟩ rfl hn hlv.1 hs (lv_room hr) hd ⟨by rw [hR]; exact hc, by rw [hR]; exact hsl⟩) hS (fun q _ h9 => hsub q h9) hsub (fun r v t H1 locs1 ht hvm hq hB hz1 hk1 hS1 => ?_)
  · have hh : ∀ a : Nat, a < s.heap.size → ¬ A a → U.heap[a]? = s.heap[a]? := by rw [hU]; exact hS.2.1
    exact ⟨⟨by rw [hU]; exact hPR, hDR⟩, va_K.moved hW.alike K, (E.1.go hW hh).narrow hsub, (E.2.go hW hh).narrow hsub, hNe.go hW, by rw [hU], by rw [hU]⟩
  · obtain ⟨⟨hP1, hD1⟩, hO, z1, z2⟩ := hB
    rw [ht] at hP1 z1 z2
    have h7 : (cl_O v).2 ≤ 7 := hq.1.2.2.2.2.2.2.2.2
    have b1 : 2 ^ (cl_O u).2 ≤ 2 ^ (cl_O v).2 := b_pow hO
    have b2 : 2 ^ (cl_O v).2 ≤ 2 ^ 7 := b_pow h7
    have b3 : (2 : Nat) ^ 7 = 128 := by decide
    unfold b_cc at z1
    unfold b_cs at z2
    have c1 : H1.size ≤ s.heap.size + (kc + kc' + (cl_O v).2) := by omega
    have c2 : hsum H1 ≤ hsum s.heap + (ks + ks' + 896 * 2 ^ (cl_O v).2) := by omega
    have d1 : H1.size ≤ s.heap.size + cs := by omega
    have d2 : hsum H1 ≤ hsum s.heap + ss := by omega
    exact ac_recount cs ss d1 d2 (kk r v hq.1 hq.2 H1 locs1 ls ⟨nw_joinL hP.1 hP.2 hk1 hsub hP1 hD1, c1, c2⟩ hS1 hlv)
theorem r_Ain {h : Nat} {ad : Nat → Nat} {q : Nat} (hq : r_A h ad q) (cI cZ : ClassId) (M : Nat → Int32) (F : Nat → Nat → Int32) : ∃ (k : Nat) (e : Nat × va_E), (r_W h ad cI cZ M F)[k]? = some e ∧ e.1 = q := by
  have : q ∈ (r_W h ad cI cZ M F).map (·.1) := by simpa [r_W, r_ent, r_A] using hq
  obtain ⟨e, he, rfl⟩ := List.mem_map.mp this
  obtain ⟨k, hk⟩ := List.getElem?_of_mem he
  exact ⟨k, e, hk, rfl⟩
theorem lw_rc (Z : nw_Cx x D cT A l own cc0 nL0 rm) (E : rd_env x adK adV A) {u : cl_S} {h : Nat} {ad : Nat → Nat} {M : Nat → Int32} {F : Nat → Nat → Int32} {Qc : Int32 → (Nat → Int32) → (Nat → Nat → Int32) → Prop} {ret : FieldType} (hM : r_MetI l (D, h, ad, cT 0, cT 1, adK, adV) y cc nL ret rk (.ref h :: As) M F Qc) (hw : ac_vw RX12 y cc nL (some ret) n) (hl : Cond.methodLink own index y ∈ ac_tbl) (hk : rk + 1 ≤ rm.frames) (hk2 : 40 * rk + 40 ≤ rm.locals) (hc : cs ≤ rm.cells) (hsl : ss ≤ rm.slots) (hn : As.length = n) (hs : st0 = As.reverse ++ .ref h :: st) (hr : (st.map fun v => v.category).sum ≤ 8) (hd : decode cc0 pc = .ok (.invokevirtual index, 3)) (hkc : kc + 7 ≤ cs) (hks : ks + 114688 ≤ ss) (hO : (cl_O u).2 ≤ 7)
    (kk : ∀ (r : Int32) (M' : Nat → Int32) (F' : Nat → Nat → Int32), Qc r M' F' → ac_G x A nL0 (lw_I (ac_s x) D cT A (r_W h ad (cT 0) (cT 1) M' F') u kc ks) cs ss (pc + 3) lv (.int r :: st)) : ac_G x A nL0 (lw_I (ac_s x) D cT A (r_W h ad (cT 0) (cT 1) M F) u kc ks) cs ss pc lv st0 := by
  obtain ⟨p, l', e9, R, s, m, args, below, meth, c, Q0⟩ := x
  obtain ⟨C0, ⟨K, ⟨hA, hNe⟩, hR⟩, rfl⟩ := Z
  obtain ⟨w1, w2, w3, w4, w5, w6, w7, w8, w9⟩ := hw
  have hb := nw_callB (R := R) (own := own) (index := index) (rk := rk) (mc := 0) (ms := 0) C0.2.2.2.2 (by rw [hR]; exact hk) (by rw [hR]; exact hk2) (by rw [w1]; exact w2) (by rw [w1]; exact w3) w4 w5 (by rw [w1]; exact w8) w9 hl
  intro H locs ls hI hS hlv
  obtain ⟨hP, hz, hzs⟩ := hI
  have b2 : 2 ^ (cl_O u).2 ≤ 2 ^ 7 := b_pow hO
  have b3 : (2 : Nat) ^ 7 = 128 := by decide
  have hc' : cs ≤ R.cells := by rw [hR]; exact hc
  have hsl' : ss ≤ R.slots := by rw [hR]; exact hsl
  refine ac_recount (kc + (cl_O u).2) (ks + 896 * 2 ^ (cl_O u).2) hz hzs ?_
  have hin : ∀ (k : Nat) (q : Nat × va_E), (r_W h ad (cT 0) (cT 1) M F)[k]? = some q → (r_W h ad (cT 0) (cT 1) M F ++ cl_w cT u)[k]? = some q := fun k q hq => by
    rw [List.getElem?_append_left (List.getElem?_eq_some_iff.mp hq).1]; exact hq
  have hin2 : ∀ (k : Nat) (q : Nat × va_E), (cl_w cT u)[k]? = some q → (r_W h ad (cT 0) (cT 1) M F ++ cl_w cT u)[(r_W h ad (cT 0) (cT 1) M F).length + k]? = some q := fun k q hq => by
    rw [List.getElem?_append_right (by omega), Nat.add_sub_cancel_left]; exact hq
  have hsub : ∀ q, r_A h ad q → A q := by
    intro q hq
    obtain ⟨k, e, h1, rfl⟩ := r_Ain hq (cT 0) (cT 1) M F
    exact hP.2.2 _ _ (hin k _ h1)
  have hPR : va_P D ac_cl (r_W h ad (cT 0) (cT 1) M F) H := fun k q hq => hP.1 _ q (hin k q hq)
  have hDR : va_D (fun _ => True) (r_W h ad (cT 0) (cT 1) M F) := ⟨fun i j p q hi hj hpq => hP.2.1 _ _ p q (hin i p hi) (hin j q hj) hpq, fun k q hk => trivial⟩
  refine va_calli (va_runV (As := As) (rest := st) C0 hM ⟨hb, C0.2.2.2.2 _ w6, C0.2.2.2.2 _ w7⟩ ⟨r_blind, va_recv K hP.1 (ci := 12) (q0 := 0) rfl (hin 0 _ rfl), fun U hU hW => ⟨rfl, ?_⟩⟩ rfl hn hlv.1 hs (lv_room hr) hd ⟨by omega, by omega⟩) hS (fun q _ h9 => hsub q h9) hsub (fun r v t H1 locs1 ht hvm hq hB hz1 hk1 hS1 => ?_)
  · have hh : ∀ a : Nat, a < s.heap.size → ¬ A a → U.heap[a]? = s.heap[a]? := by rw [hU]; exact hS.2.1
    refine ⟨by show va_P D ac_cl (r_W h ad (cT 0) (cT 1) M F) U.heap; rw [hU]; exact hPR, (va_K.moved hW.alike K).sub [0, 1] rfl, r_Dmap (r_Wmap h ad (cT 0) (cT 1) _ _ _ _) (r_DA hDR), (E.1.go hW hh).narrow hsub⟩
  · have hP1 : va_P D ac_cl (r_W h ad (cT 0) (cT 1) v.1 v.2) H1 := by rw [← ht]; exact hB
    refine ac_know (fun k1 k2 => ?_)
    refine ac_recount cs ss (by omega) (by omega) ?_
    refine kk r v.1 v.2 hq H1 locs1 ls ⟨⟨va_P.app hP1 (fun k q hq => ?_), r_Dmap (w1 := r_W h ad (cT 0) (cT 1) M F ++ cl_w cT u) (by rw [List.map_append, List.map_append, r_Wmap h ad (cT 0) (cT 1) M v.1 F v.2]) hP.2⟩, k1, k2⟩ hS1 hlv
    have h1 := hP.1 _ q (hin2 k q hq)
    refine h1.kept (hk1 q.1 h1.lt (fun hr => ?_))
    obtain ⟨k2, e2, h2, h3⟩ := r_Ain hr (cT 0) (cT 1) M F
    have := hP.2.1 _ _ e2 q (hin k2 e2 h2) (hin2 k q hq) h3
    have := (List.getElem?_eq_some_iff.mp h2).1
    omega
end LWC
