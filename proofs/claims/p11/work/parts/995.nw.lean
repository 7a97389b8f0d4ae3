/-! MAKING OBJECTS: walks over a world that is a list of cells. -/
def nw_P (D : va_G) (A : Nat → Prop) (ws : va_W) (H : Heap) : Prop := va_P D ac_cl ws H ∧ va_D A ws
/-- two constructors are private: what their nest says of them -/
def nw_nest (U : State) : Prop := va_Nw (.methodLinkNest RX11 31 yX2_init RX11) U ∧ va_Nw (.methodLinkNest RX11 38 yX5_init RX11) U
theorem nw_nest.go {s U : State} (hW : s.WarmedH U.vm) (h : nw_nest s) : nw_nest U := ⟨va_Nw.warmM hW h.1, va_Nw.warmM hW h.2⟩
def nw_room (rk mc ms : Nat) : Room := { frames := rk, cells := mc, slots := ms, locals := 40 * rk }
def nw_KX (x : ac_X) (D : va_G) (cT : Nat → ClassId) (A : Nat → Prop) (rm : Room) : Prop := match x with
  | (_, _, _, R, s, _) => va_K D ac_cl (b_tys cT) s ∧ ((∀ q, s.heap.size ≤ q → A q) ∧ nw_nest s) ∧ R = rm
def nw_Cx (x : ac_X) (D : va_G) (cT : Nat → ClassId) (A : Nat → Prop) (l : Launch) (own : String) (cc : ByteArray) (nL : Nat) (rm : Room) : Prop := ac_C x cc nL own ∧ nw_KX x D cT A rm ∧ x.2.1 = l
/-- it is a constructor -/
def nw_ini (x : ac_X) : Prop := match x with
  | (_, _, _, _, _, _, _, _, meth, _, _) => meth.name = "<init>"
theorem nw_RA {s : State} {c1 c2 : ClassId} {ty : FieldType} (h1 : va_RA s c1 ty) (h2 : va_RA s c2 ty) : c1 = c2 := by
  cases ty with
  | object C =>
    obtain ⟨-, -, -, -, -, g1⟩ := h1
    obtain ⟨-, -, -, -, -, g2⟩ := h2
    exact Option.some.inj (g1.symm.trans g2)
  | _ => exact Option.some.inj (h1.symm.trans h2)
section NW
variable {x : ac_X} {D : va_G} {cT : Nat → ClassId} {A : Nat → Prop} {l : Launch} {own : String} {cc : ByteArray} {nL : Nat} {rm : Room} {ws : va_W} {cs ss pc : Nat} {lv : List (Nat × Value)} {st : List Value}
theorem nw_newa (Z : nw_Cx x D cT A l own cc nL rm) (t0 : Nat) {ty : FieldType} (ht : (b_tys cT)[t0]? = some (cT t0, ty)) {atype : ArrayType} (hty : newarray.typeOf atype = ty) (harr : Cond.arrayClass (newarray.typeOf atype) ∈ ac_tbl) {n : Int32} {N : Nat} {a0 : vp_A} (ha : ∀ cA : ClassId, vp_cell cA a0 = arrV cA N (fun _ => defaultValue ty)) (hn : ¬ n < 0) (hN : n.toNatClampNeg = N) (hby : N * componentBytes ty ≤ 536870912) (hc : cs + 1 ≤ rm.cells) (hs : ss + N ≤ rm.slots) (hd : decode cc pc = .ok (.newarray atype, 2))
    (k : ∀ q : Nat, ac_G x A nL (nw_P D A (ws ++ [(q, .inl (cT t0, a0))])) (cs + 1) (ss + N) (pc + 2) lv (.ref q :: st)) : ac_G x A nL (nw_P D A ws) cs ss pc lv (.int n :: st) := by
  obtain ⟨p, l', e, R, s, m, args, below, meth, c, Q⟩ := x
  obtain ⟨C, ⟨K, ⟨hA, hNe⟩, hR⟩, hl⟩ := Z
  intro H locs ls hP hS hlv
  refine va_newa C.1 C.2.1 (C.2.2.2.2 _ harr) hty K hP.1 hP.2 hS hA ha hn hN hby (by rw [hR]; exact hc) (by rw [hR]; exact hs) hd (fun q cA H1 hK1 hP1 hD1 hS1 => ?_)
  have e1 : cA = cT t0 := nw_RA (hK1.2 4 (cA, ty) rfl).2 (K.2 t0 _ ht).2
  subst e1
  exact k q H1 locs ls ⟨hP1, hD1⟩ hS1 hlv
theorem nw_put (Z : nw_Cx x D cT A l own cc nL rm) {ci : Nat} {C : String} {T : u_T} {N : Nat} {ty : Nat → FieldType} (B : b_cls ci C T N ty) (i : Nat) {h : Nat} {fs : List Value} (he : ws[i]? = some (h, .inr (ci, fs))) (k : Nat) (hk : k < N) {index : Nat} (hl : Cond.fieldLink own index C (T k).2.1 (T k).2.2.1 ∈ ac_tbl) (hf : (T k).2.2.2 = false) {v : Value} (hn : narrow (ty k) v = v) (hfit : fits (ty k) v = true) (hlen : k < fs.length) (hd : decode cc pc = .ok (.putfield index, 3)) {ws' : va_W} (hw : ws.set i (h, .inr (ci, fs.set k v)) = ws')
    (kk : ac_G x A nL (nw_P D A ws') cs ss (pc + 3) lv st) : ac_G x A nL (nw_P D A ws) cs ss pc lv (v :: .ref h :: st) := by
  obtain ⟨p, l', e, R, s, m, args, below, meth, c, Q⟩ := x
  obtain ⟨C0, ⟨K, ⟨hA, hNe⟩, hR⟩, hl'⟩ := Z
  obtain ⟨b1, b2, b3, b4, b5⟩ := B
  subst hw
  intro H locs ls hP hS hlv
  exact va_put (C := C) (T := T) (N := N) C0.1 C0.2.1 C0.2.2.2.2 b2 ty b3 b4 C0.2.2.2.1 K hP.1 hP.2 hS i he b1 k hk (C0.2.2.2.2 _ hl) (fun q h9 => by rw [b5 k hk] at h9; exact h9) hf (b3 k hk) hn hfit hlen hd (fun H1 locs1 hP1 hD1 hS1 => kk H1 locs1 ls ⟨hP1, hD1⟩ hS1 hlv)
theorem nw_putF (Z : nw_Cx x D cT A l own cc nL rm) (hI : nw_ini x) {ci : Nat} {T : u_T} {N : Nat} {ty : Nat → FieldType} (B : b_cls ci own T N ty) (i : Nat) {h : Nat} {fs : List Value} (he : ws[i]? = some (h, .inr (ci, fs))) (k : Nat) (hk : k < N) {index : Nat} (hl : Cond.fieldLink own index own (T k).2.1 (T k).2.2.1 ∈ ac_tbl) (hf : (T k).2.2.2 = true) {v : Value} (hn : narrow (ty k) v = v) (hfit : fits (ty k) v = true) (hlen : k < fs.length) (hd : decode cc pc = .ok (.putfield index, 3)) {ws' : va_W} (hw : ws.set i (h, .inr (ci, fs.set k v)) = ws')
    (kk : ac_G x A nL (nw_P D A ws') cs ss (pc + 3) lv st) : ac_G x A nL (nw_P D A ws) cs ss pc lv (v :: .ref h :: st) := by
  obtain ⟨p, l', e, R, s, m, args, below, meth, c, Q⟩ := x
  obtain ⟨C0, ⟨K, ⟨hA, hNe⟩, hR⟩, hl'⟩ := Z
  obtain ⟨b1, b2, b3, b4, b5⟩ := B
  subst hw
  intro H locs ls hP hS hlv
  exact va_putF (C := own) (T := T) (N := N) C0.1 C0.2.1 C0.2.2.2.2 b2 ty b3 b4 C0.2.2.2.1 K hP.1 hP.2 hS i he b1 k hk (C0.2.2.2.2 _ hl) (fun q h9 => by rw [b5 k hk] at h9; exact h9) hf hI (b5 k hk) (b3 k hk) hn hfit hlen hd (fun H1 locs1 hP1 hD1 hS1 => kk H1 locs1 ls ⟨hP1, hD1⟩ hS1 hlv)
theorem nw_get (Z : nw_Cx x D cT A l own cc nL rm) {ci : Nat} {C : String} {T : u_T} {N : Nat} {ty : Nat → FieldType} (B : b_cls ci C T N ty) (i : Nat) {h : Nat} {fs : List Value} (he : ws[i]? = some (h, .inr (ci, fs))) (k : Nat) (hk : k < N) {index : Nat} (hl : Cond.fieldLink own index C (T k).2.1 (T k).2.2.1 ∈ ac_tbl) {v : Value} (hv : fs[k]? = some v) (hd : decode cc pc = .ok (.getfield index, 3))
    (kk : ac_G x A nL (nw_P D A ws) cs ss (pc + 3) lv (v :: st)) : ac_G x A nL (nw_P D A ws) cs ss pc lv (.ref h :: st) := by
  obtain ⟨p, l', e, R, s, m, args, below, meth, c, Q⟩ := x
  obtain ⟨C0, ⟨K, ⟨hA, hNe⟩, hR⟩, hl'⟩ := Z
  obtain ⟨b1, b2, b3, b4, b5⟩ := B
  intro H locs ls hP hS hlv
  exact va_get (C := C) (T := T) (N := N) C0.1 C0.2.1 C0.2.2.2.2 b2 C0.2.2.2.1 K hP.1 i he b1 k hk (C0.2.2.2.2 _ hl) (fun q h9 => by rw [b5 k hk] at h9; exact h9) hv hd (kk H locs ls hP hS hlv)
theorem nw_new (Z : nw_Cx x D cT A l own cc nL rm) {ci : Nat} {C : String} {T : u_T} {N : Nat} {ty : Nat → FieldType} (B : b_cls ci C T N ty) {index : Nat} (hcl : Cond.classLink own index C ∈ ac_tbl) (hin : Cond.instantiable C N ∈ ac_tbl) (hini : Cond.initialized C ∈ ac_tbl) {fs : List Value} (hfs : ∀ j, j < N → defaultValue (ty j) = vp_V fs j) (hc : cs + 1 ≤ rm.cells) (hs : ss + N ≤ rm.slots) (hd : decode cc pc = .ok (.new index, 3))
    (k : ∀ q : Nat, ac_G x A nL (nw_P D A (ws ++ [(q, .inr (ci, fs))])) (cs + 1) (ss + N) (pc + 3) lv (.ref q :: st)) : ac_G x A nL (nw_P D A ws) cs ss pc lv st := by
  obtain ⟨p, l', e, R, s, m, args, below, meth, c, Q⟩ := x
  obtain ⟨C0, ⟨K, ⟨hA, hNe⟩, hR⟩, hl'⟩ := Z
  obtain ⟨b1, b2, b3, b4, b5⟩ := B
  intro H locs ls hP hS hlv
  exact va_new (C := C) (T := T) (N := N) C0.1 C0.2.1 C0.2.2.2.2 b2 ty b3 C0.2.2.2.1 (C0.2.2.2.2 _ hcl) (C0.2.2.2.2 _ hin) (C0.2.2.2.2 _ hini) K hP.1 hP.2 hS hA b1 hfs (by rw [hR]; exact hc) (by rw [hR]; exact hs) hd (fun q H1 hP1 hD1 hS1 => k q H1 locs ls ⟨hP1, hD1⟩ hS1 hlv)
theorem nw_obj0 (Z : nw_Cx x D cT A l own cc nL rm) {idx : Nat} (hl : Cond.methodLink own idx Lib.objectInit ∈ ac_tbl) (hi : Cond.instanceMethod Lib.objectInit ∈ ac_tbl) (hco : Cond.code Lib.objectInit ⟨#[0xb1]⟩ 1 none ∈ ac_tbl) {h : Nat} (hf : 1 ≤ rm.frames) (hlo : 20 ≤ rm.locals) (hr : (st.map fun v => v.category).sum ≤ 8) (hd : decode cc pc = .ok (.invokespecial idx, 3))
    (k : ac_G x A nL (nw_P D A ws) cs ss (pc + 3) lv st) : ac_G x A nL (nw_P D A ws) cs ss pc lv (.ref h :: st) := by
  obtain ⟨p, l', e, R, s, m, args, below, meth, c, Q⟩ := x
  obtain ⟨C0, ⟨K, ⟨hA, hNe⟩, hR⟩, hl'⟩ := Z
  intro H locs ls hP hS hlv
  refine W.objInit C0.1 C0.2.1 C0.2.2.2.1 (C0.2.2.2.2 _ hl) (C0.2.2.2.2 _ hi) (C0.2.2.2.2 _ hco) rfl (by rw [C0.2.2.1]; exact hlv.1) rfl hd (by rw [hR]; exact hf) ?_ (k H locs ls hP hS hlv)
  have := lv_room (m := m) (pc := pc) (ls := ls) (rest := .ref h :: st) hr
  rw [hR]
  omega
end NW
def nw_Pre (D : va_G) (cT : Nat → ClassId) (ws0 : va_W) (sz : Nat) (U : State) : Prop := U.heap.size = sz ∧ va_P D ac_cl ws0 U.heap ∧ va_D (fun _ => True) ws0 ∧ va_K D ac_cl (b_tys cT) U ∧ nw_nest U
abbrev nw_U : Type := (Nat → Nat) × (Nat → Nat → Int32)
/-- a constructor: its object's cell before, the cells behind it; q: where the new ones lie -/
def nw_Met (l : Launch) (D : va_G) (cT : Nat → ClassId) (y : MethodName) (cc : ByteArray) (nL rk mc ms : Nat) (av : List Value) (o : Nat × va_E) (Wn : nw_U → va_W) : Prop := ∀ sz : Nat, Met l y (.code y cc nL none :: ac_tbl) (nw_room rk mc ms) (va_Pc av (nw_Pre D cT [o] sz)) (va_Qv (fun (_ : nw_U) => True) (fun q t => va_P D ac_cl (Wn q) t.heap ∧ va_D (va_A [o] sz) (Wn q)) (va_A [o] sz)) mc ms (va_A [o] sz)
def nw_RV (x : ac_X) (D : va_G) (A : Nat → Prop) (nL : Nat) (cc : ByteArray) (mc ms : Nat) (Wn : nw_U → va_W) : Prop := ∀ (pc : Nat) (lv : List (Nat × Value)) (q : nw_U), decode cc pc = .ok (.return_, 1) → ac_G x A nL (nw_P D A (Wn q)) mc ms pc lv []
theorem nw_Met.of {l : Launch} {D : va_G} {cT : Nat → ClassId} {y : MethodName} {C : String} {cc : ByteArray} {nL rk mc ms : Nat} {av : List Value} {o : Nat × va_E} {Wn : nw_U → va_W} (hy : plainName y.cls = true) (ho : y.cls = C) (hn0 : y.name = "<init>") (hn : (lg_sl av).length ≤ nL)
    (body : ∀ (x : ac_X) (A : Nat → Prop), nw_Cx x D cT A l C cc nL (nw_room rk mc ms) → nw_ini x → nw_RV x D A nL cc mc ms Wn → ac_G x A nL (nw_P D A [o]) 0 0 0 (lv_args 0 av) []) : nw_Met l D cT y cc nL rk mc ms av o Wn := by
  intro sz
  refine Met.ofW (cc := cc) (maxL := nL) (ret := none) hy rfl ?_
  intro p e s m args below meth c s₁ B hml hv
  obtain ⟨rfl, rfl, hP, hD, hK, hNe⟩ := hv
  have hts := atoms_spec (ws := .code y cc nL none :: ac_tbl) B.pre
  have hown : s.vm.findClass C = some m.cls := by rw [← ho]; exact findClass_of_methodNamed B.named
  have hin : meth.name = "<init>" := by rw [← hn0]; exact (name_of_methodNamed B.named B.method).1
  have hl := lv_entry av (n := nL) hn
  rw [lg_entry_eq]
  refine body (p, l, e, _, s, m, _, below, meth, c, _) (va_A [o] s.heap.size) ⟨⟨B.exec, B.bytes, hml, hown, fun w hw => hts w (List.mem_cons_of_mem _ hw)⟩, ⟨hK, ⟨fun q h => Or.inr h, hNe⟩, rfl⟩, rfl⟩ hin ?_ s.heap [] _ ⟨hP, hD.self⟩ va_S.rf hl
  intro pc lv q hd H locs ls hP' hS' _
  exact W.vret B.exec B.bytes B.returns (fun t ht hW => ⟨⟨q, rfl, trivial, by show va_P D ac_cl (Wn q) t.heap ∧ _; rw [ht]; exact hP'⟩, by rw [va_F, ht]; exact ⟨hS'.1, hS'.2.1⟩⟩) hS'.2.2 hd
theorem nw_join {A0 : Nat → Prop} {D : va_G} {wr w1 : va_W} {o : Nat × va_E} {H H1 : Heap} (hP : va_P D ac_cl (wr ++ [o]) H) (hD : va_D A0 (wr ++ [o])) (hk : ∀ q : Nat, q < H.size → ¬ va_A [o] H.size q → H1[q]? = H[q]?) (hF : ∀ q, va_A [o] H.size q → A0 q) (hP1 : va_P D ac_cl w1 H1) (hD1 : va_D (va_A [o] H.size) w1) : va_P D ac_cl (wr ++ w1) H1 ∧ va_D A0 (wr ++ w1) := by
  have hin : ∀ (k : Nat) (q : Nat × va_E), wr[k]? = some q → (wr ++ [o])[k]? = some q := fun k q hq => by
    rw [List.getElem?_append_left (List.getElem?_eq_some_iff.mp hq).1]; exact hq
  have hlast : (wr ++ [o])[wr.length]? = some o := by simp
  have apart : ∀ (k : Nat) (q : Nat × va_E), wr[k]? = some q → q.1 < H.size ∧ ¬ va_A [o] H.size q.1 := by
    intro k q hq
    have hl := (hP k q (hin k q hq)).lt
    refine ⟨hl, fun h => ?_⟩
    rcases h with ⟨k2, e, h⟩ | h
    · have hz : k2 < 1 := (List.getElem?_eq_some_iff.mp h).1
      have : k2 = 0 := by omega
      subst this
      have ho : o = (q.1, e) := Option.some.inj h
      have := hD.1 k wr.length q o (hin k q hq) hlast (by rw [ho])
      have := (List.getElem?_eq_some_iff.mp hq).1
      omega
    · omega
  refine ⟨va_P.app (fun k q hq => ?_) hP1, va_D.app ⟨fun i j p q hi hj hpq => hD.1 i j p q (hin i p hi) (hin j q hj) hpq, fun k q hq => hD.2 k q (hin k q hq)⟩ (hD1.weaken (fun k q _ h => hF q.1 h)) (fun i j a b ha hb hab => ?_)⟩
  · obtain ⟨g1, g2⟩ := apart k q hq
    exact (hP k q (hin k q hq)).kept (hk q.1 g1 g2)
  · exact (apart i a ha).2 (by rw [hab]; exact hD1.2 j b hb)
/-- the words of a constructor -/
def nw_cw (y : MethodName) (cc : ByteArray) (nL n : Nat) : Prop := y.name = "<init>" ∧ y.cls ≠ "java/lang/invoke/MethodHandle" ∧ y.cls ≠ "java/lang/invoke/VarHandle" ∧ (parseMethodDescriptor y.desc).map (fun d => d.parameters.length) = some n ∧ nL ≤ 21 ∧ Cond.instanceMethod y ∈ ac_tbl ∧ Cond.initialized y.cls ∈ ac_tbl ∧ Cond.code y cc nL none ∈ ac_tbl
theorem nw_callB {R : Room} {s : State} {args : Array Value} {own : String} {index : Nat} {y : MethodName} {cc : ByteArray} {nL : Nat} {ret : Option FieldType} {n rk mc ms : Nat} (hts : ∀ w ∈ ac_tbl, w.before args s = true) (hk : rk + 1 ≤ R.frames) (hk2 : 40 * rk + 40 ≤ R.locals) (h1 : y.cls ≠ "java/lang/invoke/MethodHandle") (h2 : y.cls ≠ "java/lang/invoke/VarHandle") (h3 : (parseMethodDescriptor y.desc).map (fun d => d.parameters.length) = some n) (h4 : nL ≤ 21) (h5 : Cond.initialized y.cls ∈ ac_tbl) (h6 : Cond.code y cc nL ret ∈ ac_tbl) (hl : Cond.methodLink own index y ∈ ac_tbl) : CallB R s args own index y cc nL ret (.code y cc nL ret :: ac_tbl) (nw_room rk mc ms) mc ms n := by
  refine ⟨rfl, rfl, hk, ?_, ac_pay hts h6, List.mem_cons_self, hts _ h6, hts _ h5, ⟨h1, h2⟩, fun sig h => ?_, hts _ hl⟩
  · show 8 + (nL + 11) + 40 * rk ≤ R.locals
    omega
  · rw [h] at h3
    exact (Option.some.inj h3).symm
theorem nw_blind {D : va_G} {cT : Nat → ClassId} {ws0 : va_W} {sz : Nat} {av : List Value} : FrameBlind (va_Pc av (nw_Pre D cT ws0 sz)) := fun a U g9 mk q => ⟨q.1, q.2.1, q.2.2.1, q.2.2.2.1, va_K.moved (u := U) (U := U.calling g9 mk a) (Vm.Alike.refl U.vm) q.2.2.2.2.1, q.2.2.2.2.2.go (U := U.calling g9 mk a) (State.WarmedH.refl U)⟩
theorem nw_ctor {x : ac_X} {D : va_G} {cT : Nat → ClassId} {A : Nat → Prop} {l : Launch} {own : String} {cc0 : ByteArray} {nL0 : Nat} {rm : Room} {wr : va_W} {cs ss pc : Nat} {lv : List (Nat × Value)} {st st0 : List Value} (Z : nw_Cx x D cT A l own cc0 nL0 rm) {y : MethodName} {cc : ByteArray} {nL rk mc ms n index h : Nat} {As : List Value} {e : va_E} {Wn : nw_U → va_W} (hM : nw_Met l D cT y cc nL rk mc ms (.ref h :: As) (h, e) Wn) (hw : nw_cw y cc nL n) (hl : Cond.methodLink own index y ∈ ac_tbl) (hk : rk + 1 ≤ rm.frames) (hk2 : 40 * rk + 40 ≤ rm.locals) (hc : cs + mc ≤ rm.cells) (hsl : ss + ms ≤ rm.slots) (hn : As.length = n) (hs : st0 = As.reverse ++ .ref h :: st) (hr : (st.map fun v => v.category).sum ≤ 8) (hd : decode cc0 pc = .ok (.invokespecial index, 3))
    (kk : ∀ q : nw_U, ac_G x A nL0 (nw_P D A (wr ++ Wn q)) (cs + mc) (ss + ms) (pc + 3) lv st) : ac_G x A nL0 (nw_P D A (wr ++ [(h, e)])) cs ss pc lv st0 := by
  obtain ⟨p, l', e9, R, s, m, args, below, meth, c, Q⟩ := x
  obtain ⟨C0, ⟨K, ⟨hA, hNe⟩, hR⟩, rfl⟩ := Z
  obtain ⟨w1, w2, w3, w4, w5, w6, w7, w8⟩ := hw
  have hb := nw_callB (R := R) (own := own) (index := index) (mc := mc) (ms := ms) C0.2.2.2.2 (by rw [hR]; exact hk) (by rw [hR]; exact hk2) w2 w3 w4 w5 w7 w8 hl
  intro H locs ls hP hS hlv
  have hin : ∀ q, va_A [(h, e)] H.size q → A q := by
    intro q hq
    rcases hq with ⟨k2, e2, h2⟩ | h2
    · have hz : k2 < 1 := (List.getElem?_eq_some_iff.mp h2).1
      have : k2 = 0 := by omega
      subst this
      have ho : (h, e) = (q, e2) := Option.some.inj h2
      have := hP.2.2 wr.length (h, e) (by simp)
      cases ho
      exact this
    · exact hA q (Nat.le_trans hS.1 h2)
  have hPl : va_P D ac_cl [(h, e)] H := fun k q hq => hP.1 (wr.length + k) q (by rw [List.getElem?_append_right (by omega)]; simpa using hq)
  have hDl : va_D (fun _ => True) [(h, e)] := ⟨fun i j p q hi hj _ => by
    have := (List.getElem?_eq_some_iff.mp hi).1
    have := (List.getElem?_eq_some_iff.mp hj).1
    simp at *
    omega, fun _ _ _ => trivial⟩
  refine va_callv (va_runI (As := As) (rest := st) C0 (hM H.size) ⟨hb, w1, C0.2.2.2.2 _ w6⟩ ⟨nw_blind, fun U hU hW => ⟨rfl, by rw [hU], by rw [hU]; exact hPl, hDl, va_K.moved hW.alike K, hNe.go hW⟩⟩ rfl hn hlv.1 hs (lv_room hr) hd ⟨by rw [hR]; exact hc, by rw [hR]; exact hsl⟩) hS (fun q _ h9 => hin q h9) hin (fun q t H1 locs1 ht hvm _ hB hz1 hk1 hS1 => ?_)
  rw [ht] at hB
  exact kk q H1 locs1 ls (nw_join hP.1 hP.2 hk1 hin hB.1 hB.2) hS1 hlv
theorem nw_ctorN {x : ac_X} {D : va_G} {cT : Nat → ClassId} {A : Nat → Prop} {l : Launch} {own : String} {cc0 : ByteArray} {nL0 : Nat} {rm : Room} {wr : va_W} {cs ss pc : Nat} {lv : List (Nat × Value)} {st st0 : List Value} (Z : nw_Cx x D cT A l own cc0 nL0 rm) {y : MethodName} {cc : ByteArray} {nL rk mc ms n index h : Nat} {As : List Value} {e : va_E} {Wn : nw_U → va_W} (hM : nw_Met l D cT y cc nL rk mc ms (.ref h :: As) (h, e) Wn) (hw : nw_cw y cc nL n) {host : String} (hl : ∀ U, nw_nest U → va_Nw (.methodLinkNest own index y host) U) (hk : rk + 1 ≤ rm.frames) (hk2 : 40 * rk + 40 ≤ rm.locals) (hc : cs + mc ≤ rm.cells) (hsl : ss + ms ≤ rm.slots) (hn : As.length = n) (hs : st0 = As.reverse ++ .ref h :: st) (hr : (st.map fun v => v.category).sum ≤ 8) (hd : decode cc0 pc = .ok (.invokespecial index, 3))
    (kk : ∀ q : nw_U, ac_G x A nL0 (nw_P D A (wr ++ Wn q)) (cs + mc) (ss + ms) (pc + 3) lv st) : ac_G x A nL0 (nw_P D A (wr ++ [(h, e)])) cs ss pc lv st0 := by
  obtain ⟨p, l', e9, R, s, m, args, below, meth, c, Q⟩ := x
  obtain ⟨C0, ⟨K, ⟨hA, hNe⟩, hR⟩, rfl⟩ := Z
  obtain ⟨w1, w2, w3, w4, w5, w6, w7, w8⟩ := hw
  have hb : va_CN R s args own index y host cc nL none (.code y cc nL none :: ac_tbl) (nw_room rk mc ms) mc ms n := by
    refine ⟨⟨rfl, rfl, by rw [hR]; exact hk, ?_, ac_pay C0.2.2.2.2 w8, List.mem_cons_self⟩, C0.2.2.2.2 _ w8, C0.2.2.2.2 _ w7, ⟨w2, w3⟩, fun sig h => ?_, va_Nw.use rfl (hl s hNe)⟩
    · show 8 + (nL + 11) + 40 * rk ≤ R.locals
      rw [hR]
      omega
    · rw [h] at w4
      exact (Option.some.inj w4).symm
  intro H locs ls hP hS hlv
  have hin : ∀ q, va_A [(h, e)] H.size q → A q := by
    intro q hq
    rcases hq with ⟨k2, e2, h2⟩ | h2
    · have hz : k2 < 1 := (List.getElem?_eq_some_iff.mp h2).1
      have : k2 = 0 := by omega
      subst this
      have ho : (h, e) = (q, e2) := Option.some.inj h2
      have := hP.2.2 wr.length (h, e) (by simp)
      cases ho
      exact this
    · exact hA q (Nat.le_trans hS.1 h2)
  have hPl : va_P D ac_cl [(h, e)] H := fun k q hq => hP.1 (wr.length + k) q (by rw [List.getElem?_append_right (by omega)]; simpa using hq)
  have hDl : va_D (fun _ => True) [(h, e)] := ⟨fun i j p q hi hj _ => by
    have := (List.getElem?_eq_some_iff.mp hi).1
    have := (List.getElem?_eq_some_iff.mp hj).1
    simp at *
    omega, fun _ _ _ => trivial⟩
  refine va_callv (va_runIN (As := As) (rest := st) C0 (hM H.size) ⟨hb, w1, C0.2.2.2.2 _ w6⟩ ⟨nw_blind, fun U hU hW => ⟨rfl, by rw [hU], by rw [hU]; exact hPl, hDl, va_K.moved hW.alike K, hNe.go hW⟩⟩ rfl hn hlv.1 hs (lv_room hr) hd ⟨by rw [hR]; exact hc, by rw [hR]; exact hsl⟩) hS (fun q _ h9 => hin q h9) hin (fun q t H1 locs1 ht hvm _ hB hz1 hk1 hS1 => ?_)
  rw [ht] at hB
  exact kk q H1 locs1 ls (nw_join hP.1 hP.2 hk1 hin hB.1 hB.2) hS1 hlv
theorem nw_eq {x : ac_X} {D : va_G} {A : Nat → Prop} {nL : Nat} {ws ws' : va_W} {cs ss pc : Nat} {lv : List (Nat × Value)} {st : List Value} (h : ws = ws') (k : ac_G x A nL (nw_P D A ws') cs ss pc lv st) : ac_G x A nL (nw_P D A ws) cs ss pc lv st := h ▸ k
theorem nw_cnt {x : ac_X} {A : Nat → Prop} {P : Heap → Prop} {nL cs ss cs' ss' pc : Nat} {lv : List (Nat × Value)} {st : List Value} (h1 : cs = cs') (h2 : ss = ss') (k : ac_G x A nL P cs' ss' pc lv st) : ac_G x A nL P cs ss pc lv st := by
  subst h1; subst h2; exact k
theorem ac_top {x : ac_X} {A : Nat → Prop} {P : Heap → Prop} {nL cs ss pc : Nat} {lv : List (Nat × Value)} {st : List Value} {v v' : Int32} (h : v = v') (k : ac_G x A nL P cs ss pc lv (.int v' :: st)) : ac_G x A nL P cs ss pc lv (.int v :: st) := h ▸ k
theorem ni_add {a b : Nat} : nI a + nI b = nI (a + b) := (Int32.ofNat_add a b).symm
theorem ni_mul {a b : Nat} : nI a * nI b = nI (a * b) := (Int32.ofNat_mul a b).symm
theorem ni_div {a b : Nat} (ha : a < 2 ^ 31) (hb : b < 2 ^ 31) (h0 : 0 < b) : nI a / nI b = nI (a / b) := by
  apply Int32.toInt_inj.mp
  have hd : a / b ≤ a := Nat.div_le_self a b
  rw [Int32.toInt_div, nI_toInt ha, nI_toInt hb, nI_toInt (by omega)]
  show ((a / b : Nat) : Int).bmod (2 ^ 32) = _
  generalize a / b = z at hd ⊢
  apply Int.bmod_eq_of_le <;> omega
