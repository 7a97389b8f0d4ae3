/-! ARRAYS.FILL, WITH ITS ANSWER. -/
section NWV
variable {x : ac_X} {D : va_G} {cT : Nat → ClassId} {A : Nat → Prop} {l : Launch} {own : String} {cc : ByteArray} {nL : Nat} {rm : Room} {ws : va_W} {cs ss pc : Nat} {lv : List (Nat × Value)} {st : List Value}
theorem nw_astV (Z : nw_Cx x D cT A l own cc nL rm) (i : Nat) {a N : Nat} {f : Nat → Int32} (he : ws[i]? = some (a, .inl (cT 0, N, .inl f))) {j v : Int32} (hj : vp_in j N) (hd : decode cc pc = .ok (.iastore, 1)) (kk : ac_G x A nL (nw_P D A (ws.set i (a, .inl (cT 0, N, .inl (upd f j.toNatClampNeg v))))) cs ss (pc + 1) lv st) : ac_G x A nL (nw_P D A ws) cs ss pc lv (.int v :: .int j :: .ref a :: st) := by
  obtain ⟨p, l', e, R, s, m, args, below, meth, c, Q⟩ := x
  obtain ⟨C0, ⟨K, ⟨hA, hNe⟩, hR⟩, hl'⟩ := Z
  intro H locs ls hP hS hlv
  exact va_iast C0.1 C0.2.1 K hP.1 hP.2 hS i 0 he rfl hj hd (fun H1 locs1 hP1 hD1 hS1 => kk H1 locs1 ls ⟨hP1, hD1⟩ hS1 hlv)
end NWV
theorem c_fillV (l : Launch) (D : va_G) (cT : Nat → ClassId) (a N : Nat) (f : Nat → Int32) (v : Int32) (hN : N < 2 ^ 27) (sz : Nat) : Met l yJ7_fill_53178 (.code yJ7_fill_53178 cJ7_fill_53178 4 none :: ac_tbl) (nw_room 0 0 0) (va_Pc [.ref a, .int v] (nw_Pre D cT [(a, .inl (cT 0, N, .inl f))] sz)) (va_Qv (fun (f9 : Nat → Int32) => ∀ i, i < N → f9 i = v) (fun f' t => va_P D ac_cl [(a, .inl (cT 0, N, .inl f'))] t.heap) (va_A [(a, .inl (cT 0, N, .inl f))] sz)) 0 0 (va_A [(a, .inl (cT 0, N, .inl f))] sz) := by
  refine Met.ofW (cc := cJ7_fill_53178) (maxL := 4) (ret := none) (by decide) rfl ?_
  intro p e s m args below meth c s₁ B hml hv
  obtain ⟨rfl, rfl, hP, hD, hK, hNe⟩ := hv
  have hts := atoms_spec (ws := .code yJ7_fill_53178 cJ7_fill_53178 4 none :: ac_tbl) B.pre
  have hown : s.vm.findClass RJ7 = some m.cls := findClass_of_methodNamed B.named
  have hl := lv_entry [.ref a, .int v] (n := 4) (Nat.le_of_ble_eq_true rfl)
  rw [lg_entry_eq]
  generalize hA : va_A [(a, .inl (cT 0, N, .inl f))] s.heap.size = A
  have hA0 : ∀ q, s.heap.size ≤ q → A q := fun q h => by rw [← hA]; exact Or.inr h
  have hDA : va_D A [(a, .inl (cT 0, N, .inl f))] := by rw [← hA]; exact hD.self
  have key : ∀ (Qx : State → Prop), (∀ (f' : Nat → Int32) (H : Heap) (locs : List Loc) (ls : Array Slot), (∀ i, i < N → f' i = v) → va_P D ac_cl [(a, .inl (cT 0, N, .inl f'))] H → va_S A s.heap H locs → W p l e (nw_room 0 0 0) s m [.ref a, .int v].toArray below meth c H locs 0 0 Qx (F0 m 20 ls [])) → W p l e (nw_room 0 0 0) s m [.ref a, .int v].toArray below meth c s.heap [] 0 0 Qx (F0 m 0 (lg_sl [.ref a, .int v] ++ List.replicate (4 - (lg_sl [.ref a, .int v]).length) Slot.unset).toArray []) := by
    intro Qx hend
    have Z : nw_Cx (p, l, e, nw_room 0 0 0, s, m, [.ref a, .int v].toArray, below, meth, c, Qx) D cT A l RJ7 cJ7_fill_53178 4 (nw_room 0 0 0) := ⟨⟨B.exec, B.bytes, hml, hown, fun w hw => hts w (List.mem_cons_of_mem _ hw)⟩, ⟨hK, ⟨hA0, hNe⟩, rfl⟩, rfl⟩
    have loop : ∀ (k i : Nat) (f' : Nat → Int32), i ≤ N → N - i < k → (∀ j, j < i → f' j = v) → ac_G (p, l, e, nw_room 0 0 0, s, m, [.ref a, .int v].toArray, below, meth, c, Qx) A 4 (nw_P D A [(a, .inl (cT 0, N, .inl f'))]) 0 0 5 [(0, .ref a), (1, .int v), (2, .int (nI i)), (3, .int (nI N))] [] := by
      intro k
      induction k with
      | zero => intro i f' _ h _; exact absurd h (by omega)
      | succ k ih =>
        intro i f' hi hk hf
        refine ac_iload_n Z.1 2 dJ7_fill_5 rfl ?_
        refine ac_iload_n Z.1 3 dJ7_fill_6 rfl ?_
        refine ac_icmp_ge (tgt := 20) Z.1 dJ7_fill_7 (by decide) (fun hge => ?_) (fun hc => ?_)
        · intro H locs ls hP' hS' _
          have hge := Int32.le_iff_toInt_le.mp hge
          rw [fs_nI (by omega), fs_nI (by omega)] at hge
          exact hend f' H locs ls (fun j hj => hf j (by omega)) hP'.1 hS'
        · have hlt : i < N := by
            rcases Nat.lt_or_ge i N with q | q
            · exact q
            · exact absurd (nI_le q (by omega)) hc
          refine ac_aload_n Z.1 0 dJ7_fill_10 rfl ?_
          refine ac_iload_n Z.1 2 dJ7_fill_11 rfl ?_
          refine ac_iload_n Z.1 1 dJ7_fill_12 rfl ?_
          refine nw_astV Z 0 rfl (vp_in_nI hlt (by omega)) dJ7_fill_13 ?_
          refine ac_iinc (w := nI (i + 1)) (lv' := [(2, .int (nI (i + 1))), (0, .ref a), (1, .int v), (3, .int (nI N))]) Z.1 2 dJ7_fill_14 rfl (by rw [nI_succ]; rfl) (by decide) rfl ?_
          refine ac_goto (tgt := 5) Z.1 dJ7_fill_17 (by decide) ?_
          refine ac_lv [1, 2, 0, 3] rfl ?_
          refine ih (i + 1) _ (by omega) (by omega) (fun j hj => ?_)
          unfold upd
          rw [nI_clamp (by omega)]
          by_cases q : j = i
          · subst q; simp
          · simp only [q]; exact hf j (by omega)
    have body : ac_G (p, l, e, nw_room 0 0 0, s, m, [.ref a, .int v].toArray, below, meth, c, Qx) A 4 (nw_P D A [(a, .inl (cT 0, N, .inl f))]) 0 0 0 [(0, .ref a), (1, .int v)] [] := by
      refine ac_iconst (v := 0) Z.1 dJ7_fill_0 (by decide) ?_
      refine ac_istore_n (lv' := [(2, .int 0), (0, .ref a), (1, .int v)]) Z.1 dJ7_fill_1 (by decide) rfl ?_
      refine ac_aload_n Z.1 1 dJ7_fill_2 rfl ?_
      refine nw_alen Z 0 rfl rfl dJ7_fill_3 ?_
      refine ac_istore_n (lv' := [(3, .int (nI N)), (2, .int 0), (0, .ref a), (1, .int v)]) Z.1 dJ7_fill_4 (by decide) rfl ?_
      refine ac_lv [2, 3, 1, 0] rfl ?_
      exact loop (N + 1) 0 f (Nat.zero_le _) (by omega) (fun j hj => by omega)
    exact body s.heap [] _ ⟨hP, hDA⟩ va_S.rf hl
  refine key _ (fun f' H locs ls hf' hP' hS' => ?_)
  exact W.vret B.exec B.bytes B.returns (fun t ht hW => ⟨⟨f', rfl, hf', by show va_P D ac_cl _ t.heap; rw [ht]; exact hP'⟩, by rw [va_F, ht]; exact ⟨hS'.1, hS'.2.1⟩⟩) hS'.2.2 dJ7_fill_20
theorem nw_fillV {x : ac_X} {D : va_G} {cT : Nat → ClassId} {A : Nat → Prop} {l : Launch} {own : String} {cc0 : ByteArray} {nL0 : Nat} {rm : Room} {ws : va_W} {cs ss pc : Nat} {lv : List (Nat × Value)} {st : List Value} (Z : nw_Cx x D cT A l own cc0 nL0 rm) (i : Nat) {a N : Nat} {f : Nat → Int32} (he : ws[i]? = some (a, .inl (cT 0, N, .inl f))) (hN : N < 2 ^ 27) {v : Int32} {index : Nat} (hl : Cond.methodLink own index yJ7_fill_53178 ∈ ac_tbl) (hk : 1 ≤ rm.frames) (hk2 : 40 ≤ rm.locals) (hc : cs ≤ rm.cells) (hsl : ss ≤ rm.slots) (hr : (st.map fun v => v.category).sum ≤ 8) (hd : decode cc0 pc = .ok (.invokestatic index, 3))
    (kk : ∀ f' : Nat → Int32, (∀ i, i < N → f' i = v) → ac_G x A nL0 (nw_P D A (ws.set i (a, .inl (cT 0, N, .inl f')))) cs ss (pc + 3) lv st) : ac_G x A nL0 (nw_P D A ws) cs ss pc lv (.int v :: .ref a :: st) := by
  obtain ⟨p, l', e9, R, s, m, args, below, meth, c, Q⟩ := x
  obtain ⟨C0, ⟨K, ⟨hA, hNe⟩, hR⟩, rfl⟩ := Z
  obtain ⟨w1, w2, w3, w4, w5, w6, w7, w8⟩ := kJ7_fill
  have hb := nw_callB (R := R) (own := own) (index := index) (rk := 0) (mc := 0) (ms := 0) C0.2.2.2.2 (by rw [hR]; exact hk) (by rw [hR]; omega) w2 w3 w4 w5 w7 w8 hl
  intro H locs ls hP hS hlv
  have hin : ∀ q, va_A [(a, .inl (cT 0, N, .inl f))] H.size q → A q := by
    intro q hq
    rcases hq with ⟨k2, e2, h2⟩ | h2
    · have hz : k2 < 1 := (List.getElem?_eq_some_iff.mp h2).1
      have : k2 = 0 := by omega
      subst this
      have ho : (a, Sum.inl (cT 0, N, Sum.inl f)) = (q, e2) := Option.some.inj h2
      have := hP.2.2 i _ he
      cases ho
      exact this
    · exact hA q (Nat.le_trans hS.1 h2)
  have hPl : va_P D ac_cl [(a, .inl (cT 0, N, .inl f))] H := fun k q hq => by
    have hz : k < 1 := (List.getElem?_eq_some_iff.mp hq).1
    have : k = 0 := by omega
    subst this
    cases hq
    exact hP.1 i _ he
  have hDl : va_D (fun _ => True) [(a, (.inl (cT 0, N, .inl f) : va_E))] := ⟨fun i j p q hi hj _ => by
    have := (List.getElem?_eq_some_iff.mp hi).1
    have := (List.getElem?_eq_some_iff.mp hj).1
    simp at *
    omega, fun _ _ _ => trivial⟩
  refine va_callv (va_runS (As := [.ref a, .int v]) (rest := st) C0 (c_fillV _ D cT a N f v hN H.size) ⟨hb, C0.2.2.2.2 _ w6⟩ ⟨nw_blind, fun U hU hW => ⟨rfl, by rw [hU], by rw [hU]; exact hPl, hDl, va_K.moved hW.alike K, hNe.go hW⟩⟩ rfl rfl hlv.1 rfl (lv_room hr) hd ⟨by rw [hR]; exact hc, by rw [hR]; exact hsl⟩) hS (fun q _ h9 => hin q h9) hin (fun f' t H1 locs1 ht hvm hf9 hB hz1 hk1 hS1 => ?_)
  rw [ht] at hB
  refine kk f' hf9 H1 locs1 ls ⟨fun k q hq => ?_, hP.2.set he⟩ hS1 hlv
  rw [List.getElem?_set] at hq
  by_cases hik : i = k
  · rw [if_pos hik] at hq
    split at hq
    · cases hq
      exact hB 0 _ rfl
    · cases hq
  · rw [if_neg hik] at hq
    have hl9 := (hP.1 k q hq).lt
    refine (hP.1 k q hq).kept (hk1 q.1 hl9 (fun h => ?_))
    rcases h with ⟨k2, e2, h2⟩ | h2
    · have hz : k2 < 1 := (List.getElem?_eq_some_iff.mp h2).1
      have : k2 = 0 := by omega
      subst this
      have ho : (a, Sum.inl (cT 0, N, Sum.inl f)) = (q.1, e2) := Option.some.inj h2
      have h1 : q.1 = a := by cases ho; rfl
      exact hik (hP.2.1 i k _ q he hq h1.symm)
    · omega
