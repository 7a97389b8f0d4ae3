/-! A walk of a method as ONE judgement, ac_G: at pc, with these locals, this stack and a heap that holds P, the machine comes to its end. x: all that stays the same during the walk. -/
section ACF
abbrev ac_X : Type := Program × Launch × Env × Room × State × MethodId × Array Value × List Frame × Method × Code × (State → Prop)
def ac_tbl : List Cond := lw_tbl.filter goodWord
theorem ac_in (i : Nat) {w : Cond} (h : lw_tbl[i]? = some w) (hg : goodWord w = true) : w ∈ ac_tbl := List.mem_filter.mpr ⟨List.mem_of_getElem? h, hg⟩
theorem ac_tbl_good {w : Cond} (h : w ∈ ac_tbl) : (w.onTables && w.keeps) = true ∨ ∃ ty, w = .arrayClass ty := good_of_word (List.mem_filter.mp h).2
def ac_C (x : ac_X) (cc : ByteArray) (nL : Nat) (own : String) : Prop := match x with
  | (p, _, _, _, s, m, args, _, _, c, _) => CallFix p m c cc nL s args ac_tbl own
def ac_G (x : ac_X) (A : Nat → Prop) (nL : Nat) (P : Heap → Prop) (cs ss pc : Nat) (lv : List (Nat × Value)) (st : List Value) : Prop := match x with
  | (p, l, e, R, s, m, args, below, meth, c, Q) => ∀ (H : Heap) (locs : List Loc) (ls : Array Slot), P H → va_S A s.heap H locs → lv_has ls nL lv → W p l e R s m args below meth c H locs cs ss Q (F0 m pc ls st)
variable {x : ac_X} {A : Nat → Prop} {nL : Nat} {P : Heap → Prop} {cs ss pc : Nat} {lv : List (Nat × Value)} {st : List Value} {cc : ByteArray} {own : String}
theorem ac_lv {lv' : List (Nat × Value)} (ks : List Nat) (hl : lv_pick lv ks = lv') (k : ac_G x A nL P cs ss pc lv' st) : ac_G x A nL P cs ss pc lv st := by
  obtain ⟨p, l, e, R, s, m, args, below, meth, c, Q⟩ := x
  exact fun H locs ls hP hS h => k H locs ls hP hS (lv_sub h ks hl)
theorem ac_iconst (C : ac_C x cc nL own) {n : Int} {v : Int32} (hd : decode cc pc = .ok (.iconst n, 1)) (hv : Int32.ofInt n = v) (k : ac_G x A nL P cs ss (pc + 1) lv (.int v :: st)) : ac_G x A nL P cs ss pc lv st := by
  obtain ⟨p, l, e, R, s, m, args, below, meth, c, Q⟩ := x
  exact fun H locs ls hP hS h => lv_iconst C.1 C.2.1 hd hv (k H locs ls hP hS h)
theorem ac_bipush (C : ac_C x cc nL own) {n : Int} {v : Int32} (hd : decode cc pc = .ok (.bipush n, 2)) (hv : (Int8.ofInt n).toInt32 = v) (k : ac_G x A nL P cs ss (pc + 2) lv (.int v :: st)) : ac_G x A nL P cs ss pc lv st := by
  obtain ⟨p, l, e, R, s, m, args, below, meth, c, Q⟩ := x
  exact fun H locs ls hP hS h => lv_bipush C.1 C.2.1 hd hv (k H locs ls hP hS h)
theorem ac_sipush (C : ac_C x cc nL own) {n : Int} {v : Int32} (hd : decode cc pc = .ok (.sipush n, 3)) (hv : (Int16.ofInt n).toInt32 = v) (k : ac_G x A nL P cs ss (pc + 3) lv (.int v :: st)) : ac_G x A nL P cs ss pc lv st := by
  obtain ⟨p, l, e, R, s, m, args, below, meth, c, Q⟩ := x
  exact fun H locs ls hP hS h => lv_sipush C.1 C.2.1 hd hv (k H locs ls hP hS h)
theorem ac_ldc (C : ac_C x cc nL own) {index : Nat} {v : Int32} (hm : Cond.constant own index v ∈ ac_tbl) (hd : decode cc pc = .ok (.ldc index, 2)) (k : ac_G x A nL P cs ss (pc + 2) lv (.int v :: st)) : ac_G x A nL P cs ss pc lv st := by
  obtain ⟨p, l, e, R, s, m, args, below, meth, c, Q⟩ := x
  exact fun H locs ls hP hS h => lv_ldc C.1 C.2.1 C.2.2.2.1 (C.2.2.2.2 _ hm) hd (k H locs ls hP hS h)
theorem ac_iload_n (C : ac_C x cc nL own) (j : Nat) {i : Fin 4} {v : Int32} (hd : decode cc pc = .ok (.iload_n i, 1)) (hj : lv[j]? = some (i.val, .int v)) (k : ac_G x A nL P cs ss (pc + 1) lv (.int v :: st)) : ac_G x A nL P cs ss pc lv st := by
  obtain ⟨p, l, e, R, s, m, args, below, meth, c, Q⟩ := x
  exact fun H locs ls hP hS h => lv_iload_n C.1 C.2.1 hd rfl (lv_at h j hj) (k H locs ls hP hS h)
theorem ac_iload (C : ac_C x cc nL own) (j : Nat) {i : Nat} {v : Int32} (hd : decode cc pc = .ok (.iload i, 2)) (hj : lv[j]? = some (i, .int v)) (k : ac_G x A nL P cs ss (pc + 2) lv (.int v :: st)) : ac_G x A nL P cs ss pc lv st := by
  obtain ⟨p, l, e, R, s, m, args, below, meth, c, Q⟩ := x
  exact fun H locs ls hP hS h => lv_iload C.1 C.2.1 hd (lv_at h j hj) (k H locs ls hP hS h)
theorem ac_aload_n (C : ac_C x cc nL own) (j : Nat) {i : Fin 4} {v : Nat} (hd : decode cc pc = .ok (.aload_n i, 1)) (hj : lv[j]? = some (i.val, .ref v)) (k : ac_G x A nL P cs ss (pc + 1) lv (.ref v :: st)) : ac_G x A nL P cs ss pc lv st := by
  obtain ⟨p, l, e, R, s, m, args, below, meth, c, Q⟩ := x
  exact fun H locs ls hP hS h => lv_aload_n C.1 C.2.1 hd rfl (lv_at h j hj) (k H locs ls hP hS h)
/-- what a store of a value of one word leaves in the list of locals -/
def ac_put (lv : List (Nat × Value)) (i : Nat) (v : Value) : List (Nat × Value) := (i, v) :: lv.filter (fun q => !(q.1 == i) && !(q.1 + 1 == i && q.2.category == 2))
theorem ac_istore_n (C : ac_C x cc nL own) {i : Fin 4} {v : Int32} {lv' : List (Nat × Value)} (hd : decode cc pc = .ok (.istore_n i, 1)) (hn : i.val < nL) (hl : ac_put lv i.val (.int v) = lv') (k : ac_G x A nL P cs ss (pc + 1) lv' st) : ac_G x A nL P cs ss pc lv (.int v :: st) := by
  obtain ⟨p, l, e, R, s, m, args, below, meth, c, Q⟩ := x
  exact fun H locs ls hP hS h => lv_istore_n C.1 C.2.1 hd rfl h hn hl (fun ls' h' => k H locs ls' hP hS h')
theorem ac_istore (C : ac_C x cc nL own) {i : Nat} {v : Int32} {lv' : List (Nat × Value)} (hd : decode cc pc = .ok (.istore i, 2)) (hn : i < nL) (hl : ac_put lv i (.int v) = lv') (k : ac_G x A nL P cs ss (pc + 2) lv' st) : ac_G x A nL P cs ss pc lv (.int v :: st) := by
  obtain ⟨p, l, e, R, s, m, args, below, meth, c, Q⟩ := x
  exact fun H locs ls hP hS h => lv_istore C.1 C.2.1 hd h hn hl (fun ls' h' => k H locs ls' hP hS h')
theorem ac_astore_n (C : ac_C x cc nL own) {i : Fin 4} {v : Nat} {lv' : List (Nat × Value)} (hd : decode cc pc = .ok (.astore_n i, 1)) (hn : i.val < nL) (hl : ac_put lv i.val (.ref v) = lv') (k : ac_G x A nL P cs ss (pc + 1) lv' st) : ac_G x A nL P cs ss pc lv (.ref v :: st) := by
  obtain ⟨p, l, e, R, s, m, args, below, meth, c, Q⟩ := x
  exact fun H locs ls hP hS h => lv_astore_n C.1 C.2.1 hd rfl h hn hl (fun ls' h' => k H locs ls' hP hS h')
theorem ac_iinc (C : ac_C x cc nL own) (j : Nat) {i : Nat} {n : Int} {v w : Int32} {lv' : List (Nat × Value)} (hd : decode cc pc = .ok (.iinc i n, 3)) (hj : lv[j]? = some (i, .int v)) (hw : v + Int32.ofInt n = w) (hn : i < nL) (hl : ac_put lv i (.int w) = lv') (k : ac_G x A nL P cs ss (pc + 3) lv' st) : ac_G x A nL P cs ss pc lv st := by
  obtain ⟨p, l, e, R, s, m, args, below, meth, c, Q⟩ := x
  exact fun H locs ls hP hS h => lv_iinc C.1 C.2.1 hd h hj hw hn hl (fun ls' h' => k H locs ls' hP hS h')
theorem ac_iadd (C : ac_C x cc nL own) {a b : Int32} (hd : decode cc pc = .ok (.iadd, 1)) (k : ac_G x A nL P cs ss (pc + 1) lv (.int (a + b) :: st)) : ac_G x A nL P cs ss pc lv (.int b :: .int a :: st) := by
  obtain ⟨p, l, e, R, s, m, args, below, meth, c, Q⟩ := x
  exact fun H locs ls hP hS h => lv_iadd C.1 C.2.1 hd (k H locs ls hP hS h)
theorem ac_isub (C : ac_C x cc nL own) {a b : Int32} (hd : decode cc pc = .ok (.isub, 1)) (k : ac_G x A nL P cs ss (pc + 1) lv (.int (a - b) :: st)) : ac_G x A nL P cs ss pc lv (.int b :: .int a :: st) := by
  obtain ⟨p, l, e, R, s, m, args, below, meth, c, Q⟩ := x
  exact fun H locs ls hP hS h => lv_isub C.1 C.2.1 hd (k H locs ls hP hS h)
theorem ac_imul (C : ac_C x cc nL own) {a b : Int32} (hd : decode cc pc = .ok (.imul, 1)) (k : ac_G x A nL P cs ss (pc + 1) lv (.int (a * b) :: st)) : ac_G x A nL P cs ss pc lv (.int b :: .int a :: st) := by
  obtain ⟨p, l, e, R, s, m, args, below, meth, c, Q⟩ := x
  exact fun H locs ls hP hS h => lv_imul C.1 C.2.1 hd (k H locs ls hP hS h)
theorem ac_iand (C : ac_C x cc nL own) {a b : Int32} (hd : decode cc pc = .ok (.iand, 1)) (k : ac_G x A nL P cs ss (pc + 1) lv (.int (a &&& b) :: st)) : ac_G x A nL P cs ss pc lv (.int b :: .int a :: st) := by
  obtain ⟨p, l, e, R, s, m, args, below, meth, c, Q⟩ := x
  exact fun H locs ls hP hS h => lv_iand C.1 C.2.1 hd (k H locs ls hP hS h)
theorem ac_ior (C : ac_C x cc nL own) {a b : Int32} (hd : decode cc pc = .ok (.ior, 1)) (k : ac_G x A nL P cs ss (pc + 1) lv (.int (a ||| b) :: st)) : ac_G x A nL P cs ss pc lv (.int b :: .int a :: st) := by
  obtain ⟨p, l, e, R, s, m, args, below, meth, c, Q⟩ := x
  exact fun H locs ls hP hS h => lv_ior C.1 C.2.1 hd (k H locs ls hP hS h)
theorem ac_idiv (C : ac_C x cc nL own) {a b : Int32} (hd : decode cc pc = .ok (.idiv, 1)) (hne : ¬ b = 0) (k : ac_G x A nL P cs ss (pc + 1) lv (.int (a / b) :: st)) : ac_G x A nL P cs ss pc lv (.int b :: .int a :: st) := by
  obtain ⟨p, l, e, R, s, m, args, below, meth, c, Q⟩ := x
  exact fun H locs ls hP hS h => lv_idiv C.1 C.2.1 hd hne (k H locs ls hP hS h)
theorem ac_irem (C : ac_C x cc nL own) {a b : Int32} (hd : decode cc pc = .ok (.irem, 1)) (hne : ¬ b = 0) (k : ac_G x A nL P cs ss (pc + 1) lv (.int (a - a / b * b) :: st)) : ac_G x A nL P cs ss pc lv (.int b :: .int a :: st) := by
  obtain ⟨p, l, e, R, s, m, args, below, meth, c, Q⟩ := x
  exact fun H locs ls hP hS h => lv_irem C.1 C.2.1 hd hne (k H locs ls hP hS h)
theorem ac_ineg (C : ac_C x cc nL own) {a b : Int32} (hd : decode cc pc = .ok (.ineg, 1)) (hb : -a = b) (k : ac_G x A nL P cs ss (pc + 1) lv (.int b :: st)) : ac_G x A nL P cs ss pc lv (.int a :: st) := by
  obtain ⟨p, l, e, R, s, m, args, below, meth, c, Q⟩ := x
  subst hb
  exact fun H locs ls hP hS h => lv_ineg C.1 C.2.1 hd (k H locs ls hP hS h)
theorem ac_ishl (C : ac_C x cc nL own) {a b d : Int32} (hd : decode cc pc = .ok (.ishl, 1)) (hb : a <<< (b &&& 31) = d) (k : ac_G x A nL P cs ss (pc + 1) lv (.int d :: st)) : ac_G x A nL P cs ss pc lv (.int b :: .int a :: st) := by
  obtain ⟨p, l, e, R, s, m, args, below, meth, c, Q⟩ := x
  subst hb
  exact fun H locs ls hP hS h => lv_ishl C.1 C.2.1 hd (k H locs ls hP hS h)
theorem ac_ishr (C : ac_C x cc nL own) {a b d : Int32} (hd : decode cc pc = .ok (.ishr, 1)) (hb : a >>> (b &&& 31) = d) (k : ac_G x A nL P cs ss (pc + 1) lv (.int d :: st)) : ac_G x A nL P cs ss pc lv (.int b :: .int a :: st) := by
  obtain ⟨p, l, e, R, s, m, args, below, meth, c, Q⟩ := x
  subst hb
  exact fun H locs ls hP hS h => lv_ishr C.1 C.2.1 hd (k H locs ls hP hS h)
theorem ac_dup (C : ac_C x cc nL own) {v : Value} (hd : decode cc pc = .ok (.dup, 1)) (hc : v.category = 1) (k : ac_G x A nL P cs ss (pc + 1) lv (v :: v :: st)) : ac_G x A nL P cs ss pc lv (v :: st) := by
  obtain ⟨p, l, e, R, s, m, args, below, meth, c, Q⟩ := x
  exact fun H locs ls hP hS h => lv_dup C.1 C.2.1 hd hc (k H locs ls hP hS h)
theorem ac_pop (C : ac_C x cc nL own) {v : Value} (hd : decode cc pc = .ok (.pop, 1)) (hc : v.category = 1) (k : ac_G x A nL P cs ss (pc + 1) lv st) : ac_G x A nL P cs ss pc lv (v :: st) := by
  obtain ⟨p, l, e, R, s, m, args, below, meth, c, Q⟩ := x
  exact fun H locs ls hP hS h => lv_pop C.1 C.2.1 hd hc (k H locs ls hP hS h)
theorem ac_goto (C : ac_C x cc nL own) {off : Int} {tgt : Nat} (hd : decode cc pc = .ok (.goto off, 3)) (ht : (pc : Int) + off = (tgt : Int)) (k : ac_G x A nL P cs ss tgt lv st) : ac_G x A nL P cs ss pc lv st := by
  obtain ⟨p, l, e, R, s, m, args, below, meth, c, Q⟩ := x
  exact fun H locs ls hP hS h => lv_goto C.1 C.2.1 hd ht (k H locs ls hP hS h)
theorem ac_tableOut (C : ac_C x cc nL own) {dflt lo hi : Int} {offs : Array Int} {len : Nat} {v : Int32} {tgt : Nat} (hd : decode cc pc = .ok (.tableswitch dflt lo hi offs, len)) (h9 : v.toInt < lo ∨ hi < v.toInt) (ht : (pc : Int) + dflt = (tgt : Int)) (k : ac_G x A nL P cs ss tgt lv st) : ac_G x A nL P cs ss pc lv (.int v :: st) := by
  obtain ⟨p, l, e, R, s, m, args, below, meth, c, Q⟩ := x
  exact fun H locs ls hP hS h => lv_tableOut C.1 C.2.1 hd h9 ht (k H locs ls hP hS h)
theorem ac_tableIn (C : ac_C x cc nL own) {dflt lo hi : Int} {offs : Array Int} {len : Nat} {v : Int32} {off : Int} {tgt : Nat} (hd : decode cc pc = .ok (.tableswitch dflt lo hi offs, len)) (h1 : ¬ v.toInt < lo) (h2 : ¬ hi < v.toInt) (ho : offs[(v.toInt - lo).toNat]? = some off) (ht : (pc : Int) + off = (tgt : Int)) (k : ac_G x A nL P cs ss tgt lv st) : ac_G x A nL P cs ss pc lv (.int v :: st) := by
  obtain ⟨p, l, e, R, s, m, args, below, meth, c, Q⟩ := x
  exact fun H locs ls hP hS h => lv_tableIn C.1 C.2.1 hd h1 h2 ho ht (k H locs ls hP hS h)
theorem ac_lookup (C : ac_C x cc nL own) {dflt : Int} {ps : Array (Int × Int)} {len : Nat} {v : Int32} {off : Int} {tgt : Nat} (hd : decode cc pc = .ok (.lookupswitch dflt ps, len)) (hp : (ps.toList.zip (ps.toList.drop 1)).all (fun (a, next) => a.1 < next.1) = true) (ho : Op.lookupswitch.offset ps.toList dflt v.toInt = off) (ht : (pc : Int) + off = (tgt : Int)) (k : ac_G x A nL P cs ss tgt lv st) : ac_G x A nL P cs ss pc lv (.int v :: st) := by
  obtain ⟨p, l, e, R, s, m, args, below, meth, c, Q⟩ := x
  exact fun H locs ls hP hS h => lv_lookup C.1 C.2.1 hd hp ho ht (k H locs ls hP hS h)
theorem ac_if_eq (C : ac_C x cc nL own) {a : Int32} {off : Int} {tgt : Nat} (hd : decode cc pc = .ok (.ifCond .eq off, 3)) (ht : (pc : Int) + off = (tgt : Int)) (kt : a = 0 → ac_G x A nL P cs ss tgt lv st) (kf : ¬ a = 0 → ac_G x A nL P cs ss (pc + 3) lv st) : ac_G x A nL P cs ss pc lv (.int a :: st) := by
  obtain ⟨p, l, e, R, s, m, args, below, meth, c, Q⟩ := x
  exact fun H locs ls hP hS h => lv_if_eq C.1 C.2.1 hd ht (fun q => kt q H locs ls hP hS h) (fun q => kf q H locs ls hP hS h)
theorem ac_if_ne (C : ac_C x cc nL own) {a : Int32} {off : Int} {tgt : Nat} (hd : decode cc pc = .ok (.ifCond .ne off, 3)) (ht : (pc : Int) + off = (tgt : Int)) (kt : ¬ a = 0 → ac_G x A nL P cs ss tgt lv st) (kf : a = 0 → ac_G x A nL P cs ss (pc + 3) lv st) : ac_G x A nL P cs ss pc lv (.int a :: st) := by
  obtain ⟨p, l, e, R, s, m, args, below, meth, c, Q⟩ := x
  exact fun H locs ls hP hS h => lv_if_ne C.1 C.2.1 hd ht (fun q => kt q H locs ls hP hS h) (fun q => kf q H locs ls hP hS h)
theorem ac_if_lt (C : ac_C x cc nL own) {a : Int32} {off : Int} {tgt : Nat} (hd : decode cc pc = .ok (.ifCond .lt off, 3)) (ht : (pc : Int) + off = (tgt : Int)) (kt : a < 0 → ac_G x A nL P cs ss tgt lv st) (kf : ¬ a < 0 → ac_G x A nL P cs ss (pc + 3) lv st) : ac_G x A nL P cs ss pc lv (.int a :: st) := by
  obtain ⟨p, l, e, R, s, m, args, below, meth, c, Q⟩ := x
  exact fun H locs ls hP hS h => lv_if_lt C.1 C.2.1 hd ht (fun q => kt q H locs ls hP hS h) (fun q => kf q H locs ls hP hS h)
theorem ac_if_ge (C : ac_C x cc nL own) {a : Int32} {off : Int} {tgt : Nat} (hd : decode cc pc = .ok (.ifCond .ge off, 3)) (ht : (pc : Int) + off = (tgt : Int)) (kt : 0 ≤ a → ac_G x A nL P cs ss tgt lv st) (kf : ¬ 0 ≤ a → ac_G x A nL P cs ss (pc + 3) lv st) : ac_G x A nL P cs ss pc lv (.int a :: st) := by
  obtain ⟨p, l, e, R, s, m, args, below, meth, c, Q⟩ := x
  exact fun H locs ls hP hS h => lv_if_ge C.1 C.2.1 hd ht (fun q => kt q H locs ls hP hS h) (fun q => kf q H locs ls hP hS h)
theorem ac_if_le (C : ac_C x cc nL own) {a : Int32} {off : Int} {tgt : Nat} (hd : decode cc pc = .ok (.ifCond .le off, 3)) (ht : (pc : Int) + off = (tgt : Int)) (kt : a ≤ 0 → ac_G x A nL P cs ss tgt lv st) (kf : ¬ a ≤ 0 → ac_G x A nL P cs ss (pc + 3) lv st) : ac_G x A nL P cs ss pc lv (.int a :: st) := by
  obtain ⟨p, l, e, R, s, m, args, below, meth, c, Q⟩ := x
  exact fun H locs ls hP hS h => lv_if_le C.1 C.2.1 hd ht (fun q => kt q H locs ls hP hS h) (fun q => kf q H locs ls hP hS h)
theorem ac_icmp_eq (C : ac_C x cc nL own) {a b : Int32} {off : Int} {tgt : Nat} (hd : decode cc pc = .ok (.if_icmp .eq off, 3)) (ht : (pc : Int) + off = (tgt : Int)) (kt : a = b → ac_G x A nL P cs ss tgt lv st) (kf : ¬ a = b → ac_G x A nL P cs ss (pc + 3) lv st) : ac_G x A nL P cs ss pc lv (.int b :: .int a :: st) := by
  obtain ⟨p, l, e, R, s, m, args, below, meth, c, Q⟩ := x
  exact fun H locs ls hP hS h => lv_icmp_eq C.1 C.2.1 hd ht (fun q => kt q H locs ls hP hS h) (fun q => kf q H locs ls hP hS h)
theorem ac_icmp_ne (C : ac_C x cc nL own) {a b : Int32} {off : Int} {tgt : Nat} (hd : decode cc pc = .ok (.if_icmp .ne off, 3)) (ht : (pc : Int) + off = (tgt : Int)) (kt : ¬ a = b → ac_G x A nL P cs ss tgt lv st) (kf : a = b → ac_G x A nL P cs ss (pc + 3) lv st) : ac_G x A nL P cs ss pc lv (.int b :: .int a :: st) := by
  obtain ⟨p, l, e, R, s, m, args, below, meth, c, Q⟩ := x
  exact fun H locs ls hP hS h => lv_icmp_ne C.1 C.2.1 hd ht (fun q => kt q H locs ls hP hS h) (fun q => kf q H locs ls hP hS h)
theorem ac_icmp_lt (C : ac_C x cc nL own) {a b : Int32} {off : Int} {tgt : Nat} (hd : decode cc pc = .ok (.if_icmp .lt off, 3)) (ht : (pc : Int) + off = (tgt : Int)) (kt : a < b → ac_G x A nL P cs ss tgt lv st) (kf : ¬ a < b → ac_G x A nL P cs ss (pc + 3) lv st) : ac_G x A nL P cs ss pc lv (.int b :: .int a :: st) := by
  obtain ⟨p, l, e, R, s, m, args, below, meth, c, Q⟩ := x
  exact fun H locs ls hP hS h => lv_icmp_lt C.1 C.2.1 hd ht (fun q => kt q H locs ls hP hS h) (fun q => kf q H locs ls hP hS h)
theorem ac_icmp_ge (C : ac_C x cc nL own) {a b : Int32} {off : Int} {tgt : Nat} (hd : decode cc pc = .ok (.if_icmp .ge off, 3)) (ht : (pc : Int) + off = (tgt : Int)) (kt : b ≤ a → ac_G x A nL P cs ss tgt lv st) (kf : ¬ b ≤ a → ac_G x A nL P cs ss (pc + 3) lv st) : ac_G x A nL P cs ss pc lv (.int b :: .int a :: st) := by
  obtain ⟨p, l, e, R, s, m, args, below, meth, c, Q⟩ := x
  exact fun H locs ls hP hS h => lv_icmp_ge C.1 C.2.1 hd ht (fun q => kt q H locs ls hP hS h) (fun q => kf q H locs ls hP hS h)
theorem ac_icmp_gt (C : ac_C x cc nL own) {a b : Int32} {off : Int} {tgt : Nat} (hd : decode cc pc = .ok (.if_icmp .gt off, 3)) (ht : (pc : Int) + off = (tgt : Int)) (kt : b < a → ac_G x A nL P cs ss tgt lv st) (kf : ¬ b < a → ac_G x A nL P cs ss (pc + 3) lv st) : ac_G x A nL P cs ss pc lv (.int b :: .int a :: st) := by
  obtain ⟨p, l, e, R, s, m, args, below, meth, c, Q⟩ := x
  exact fun H locs ls hP hS h => lv_icmp_gt C.1 C.2.1 hd ht (fun q => kt q H locs ls hP hS h) (fun q => kf q H locs ls hP hS h)
theorem ac_icmp_le (C : ac_C x cc nL own) {a b : Int32} {off : Int} {tgt : Nat} (hd : decode cc pc = .ok (.if_icmp .le off, 3)) (ht : (pc : Int) + off = (tgt : Int)) (kt : a ≤ b → ac_G x A nL P cs ss tgt lv st) (kf : ¬ a ≤ b → ac_G x A nL P cs ss (pc + 3) lv st) : ac_G x A nL P cs ss pc lv (.int b :: .int a :: st) := by
  obtain ⟨p, l, e, R, s, m, args, below, meth, c, Q⟩ := x
  exact fun H locs ls hP hS h => lv_icmp_le C.1 C.2.1 hd ht (fun q => kt q H locs ls hP hS h) (fun q => kf q H locs ls hP hS h)
end ACF
