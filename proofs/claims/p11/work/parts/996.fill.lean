theorem dJ7_fill_0 : decode cJ7_fill_53178 0 = .ok (.iconst 0, 1) := by decide +kernel
theorem dJ7_fill_1 : decode cJ7_fill_53178 1 = .ok (.istore_n 2, 1) := by decide +kernel
theorem dJ7_fill_2 : decode cJ7_fill_53178 2 = .ok (.aload_n 0, 1) := by decide +kernel
theorem dJ7_fill_3 : decode cJ7_fill_53178 3 = .ok (.arraylength, 1) := by decide +kernel
theorem dJ7_fill_4 : decode cJ7_fill_53178 4 = .ok (.istore_n 3, 1) := by decide +kernel
theorem dJ7_fill_5 : decode cJ7_fill_53178 5 = .ok (.iload_n 2, 1) := by decide +kernel
theorem dJ7_fill_6 : decode cJ7_fill_53178 6 = .ok (.iload_n 3, 1) := by decide +kernel
theorem dJ7_fill_7 : decode cJ7_fill_53178 7 = .ok (.if_icmp .ge 13, 3) := by decide +kernel
theorem dJ7_fill_10 : decode cJ7_fill_53178 10 = .ok (.aload_n 0, 1) := by decide +kernel
theorem dJ7_fill_11 : decode cJ7_fill_53178 11 = .ok (.iload_n 2, 1) := by decide +kernel
theorem dJ7_fill_12 : decode cJ7_fill_53178 12 = .ok (.iload_n 1, 1) := by decide +kernel
theorem dJ7_fill_13 : decode cJ7_fill_53178 13 = .ok (.iastore, 1) := by decide +kernel
theorem dJ7_fill_14 : decode cJ7_fill_53178 14 = .ok (.iinc 2 1, 3) := by decide +kernel
theorem dJ7_fill_17 : decode cJ7_fill_53178 17 = .ok (.goto (-12), 3) := by decide +kernel
theorem dJ7_fill_20 : decode cJ7_fill_53178 20 = .ok (.return_, 1) := by decide +kernel
theorem kJ7_fill : ac_sw RJ7 yJ7_fill_53178 cJ7_fill_53178 4 none 2 := ⟨rfl, by decide, by decide, by decide +kernel, by decide, ac_in 341 (by decide +kernel) (by decide +kernel), ac_in 168 (by decide +kernel) (by decide +kernel), ac_in 342 (by decide +kernel) (by decide +kernel)⟩
section NWF
variable {x : ac_X} {D : va_G} {cT : Nat → ClassId} {A : Nat → Prop} {l : Launch} {own : String} {cc : ByteArray} {nL : Nat} {rm : Room} {ws : va_W} {cs ss pc : Nat} {lv : List (Nat × Value)} {st : List Value}
theorem nw_alen (Z : nw_Cx x D cT A l own cc nL rm) (i : Nat) {a N : Nat} {f : Nat → Int32} (he : ws[i]? = some (a, .inl (cT 0, N, .inl f))) {v : Int32} (hv : nI N = v) (hd : decode cc pc = .ok (.arraylength, 1)) (kk : ac_G x A nL (nw_P D A ws) cs ss (pc + 1) lv (.int v :: st)) : ac_G x A nL (nw_P D A ws) cs ss pc lv (.ref a :: st) := by
  obtain ⟨p, l', e, R, s, m, args, below, meth, c, Q⟩ := x
  obtain ⟨C0, ⟨K, ⟨hA, hNe⟩, hR⟩, hl'⟩ := Z
  intro H locs ls hP hS hlv
  exact va_alen C0.1 C0.2.1 K hP.1 i 0 he rfl hv hd (kk H locs ls hP hS hlv)
end NWF
