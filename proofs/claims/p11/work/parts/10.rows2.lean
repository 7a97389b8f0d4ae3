section AC2
variable {x : ac_X} {A : Nat → Prop} {nL : Nat} {P : Heap → Prop} {cs ss pc : Nat} {lv : List (Nat × Value)} {st : List Value} {cc : ByteArray} {own : String}
theorem ac_topi {a : Int32} (k : ∀ z : Int32, z = a → ac_G x A nL P cs ss pc lv (.int z :: st)) : ac_G x A nL P cs ss pc lv (.int a :: st) := k a rfl
theorem ac_lconst (C : ac_C x cc nL own) {n : Fin 2} {v : Int64} (hd : decode cc pc = .ok (.lconst n, 1)) (hv : Int64.ofNat (n : Nat) = v) (k : ac_G x A nL P cs ss (pc + 1) lv (.long v :: st)) : ac_G x A nL P cs ss pc lv st := by
  obtain ⟨p, l, e, R, s, m, args, below, meth, c, Q⟩ := x
  exact fun H locs ls hP hS h => lv_lconst C.1 C.2.1 hd hv (k H locs ls hP hS h)
theorem ac_lload_n (C : ac_C x cc nL own) (j : Nat) {i : Fin 4} {v : Int64} (hd : decode cc pc = .ok (.lload_n i, 1)) (hj : lv[j]? = some (i.val, .long v)) (k : ac_G x A nL P cs ss (pc + 1) lv (.long v :: st)) : ac_G x A nL P cs ss pc lv st := by
  obtain ⟨p, l, e, R, s, m, args, below, meth, c, Q⟩ := x
  exact fun H locs ls hP hS h => lv_lload_n C.1 C.2.1 hd rfl (lv_at h j hj) (k H locs ls hP hS h)
theorem ac_lload (C : ac_C x cc nL own) (j : Nat) {i : Nat} {v : Int64} (hd : decode cc pc = .ok (.lload i, 2)) (hj : lv[j]? = some (i, .long v)) (k : ac_G x A nL P cs ss (pc + 2) lv (.long v :: st)) : ac_G x A nL P cs ss pc lv st := by
  obtain ⟨p, l, e, R, s, m, args, below, meth, c, Q⟩ := x
  exact fun H locs ls hP hS h => lv_lload C.1 C.2.1 hd (lv_at h j hj) (k H locs ls hP hS h)
def ac_putL (lv : List (Nat × Value)) (i : Nat) (v : Value) : List (Nat × Value) := (i, v) :: lv.filter (fun q => !(q.1 == i) && (!(q.1 == i + 1) && !(q.1 + 1 == i && q.2.category == 2)))
theorem ac_lstore_n (C : ac_C x cc nL own) {i : Fin 4} {v : Int64} {lv' : List (Nat × Value)} (hd : decode cc pc = .ok (.lstore_n i, 1)) (hn : i.val + 1 < nL) (hl : ac_putL lv i.val (.long v) = lv') (k : ac_G x A nL P cs ss (pc + 1) lv' st) : ac_G x A nL P cs ss pc lv (.long v :: st) := by
  obtain ⟨p, l, e, R, s, m, args, below, meth, c, Q⟩ := x
  exact fun H locs ls hP hS h => lv_lstore_n C.1 C.2.1 hd rfl h hn hl (fun ls' h' => k H locs ls' hP hS h')
theorem ac_lstore (C : ac_C x cc nL own) {i : Nat} {v : Int64} {lv' : List (Nat × Value)} (hd : decode cc pc = .ok (.lstore i, 2)) (hn : i + 1 < nL) (hl : ac_putL lv i (.long v) = lv') (k : ac_G x A nL P cs ss (pc + 2) lv' st) : ac_G x A nL P cs ss pc lv (.long v :: st) := by
  obtain ⟨p, l, e, R, s, m, args, below, meth, c, Q⟩ := x
  exact fun H locs ls hP hS h => lv_lstore C.1 C.2.1 hd h hn hl (fun ls' h' => k H locs ls' hP hS h')
end AC2
