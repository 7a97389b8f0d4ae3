def b_o (g : b_S) (c : Nat) : Nat := g.2.2.1 c
def b_N (g : b_S) : Nat → Nat := g.2.2.2.1
theorem b_Dgo {t : b_T} {a N : Nat → Nat} {cT : Nat → ClassId} {A : Nat → Prop} {M M' : Nat → Int32} {F F' : Nat → Nat → Int32} {J J' : Nat → Nat → Int64} (h : va_D A (b_W t a N cT M F J)) : va_D A (b_W t a N cT M' F' J') := by
  refine r_Dmap ?_ h
  unfold b_W
  simp only [List.map_append, List.map_map]
  rfl
section BR
variable {x : ac_X} {g : b_S} {l : Launch} {own : String} {cc : ByteArray} {nL rk : Nat} {O0 O : Nat × Nat} {M : Nat → Int32} {pc : Nat} {lv : List (Nat × Value)} {st : List Value}
end BR
theorem b_callB {R : Room} {s : State} {args : Array Value} {own : String} {index : Nat} {y : MethodName} {cc : ByteArray} {nL : Nat} {ret : Option FieldType} {n rk rk0 : Nat} {O0 O : Nat × Nat} (hts : ∀ w ∈ ac_tbl, w.before args s = true) (hR : R = b_room rk0 O0) (hk : rk + 1 ≤ rk0) (h1 : y.cls ≠ "java/lang/invoke/MethodHandle") (h2 : y.cls ≠ "java/lang/invoke/VarHandle") (h3 : (parseMethodDescriptor y.desc).map (fun d => d.parameters.length) = some n) (h4 : nL ≤ 21) (h5 : Cond.initialized y.cls ∈ ac_tbl) (h6 : Cond.code y cc nL ret ∈ ac_tbl) (hl : Cond.methodLink own index y ∈ ac_tbl) : CallB R s args own index y cc nL ret (.code y cc nL ret :: ac_tbl) (b_room rk O) (b_mc O) (b_ms O) n := by
  subst hR
  refine ⟨rfl, rfl, hk, ?_, ac_pay hts h6, List.mem_cons_self, hts _ h6, hts _ h5, ⟨h1, h2⟩, fun sig h => ?_, hts _ hl⟩
  · show 8 + (nL + 11) + 40 * rk ≤ 40 * rk0
    omega
  · rw [h] at h3
    exact (Option.some.inj h3).symm
theorem b_sum {O0 O : Nat × Nat} (h1 : O0.2 ≤ O.2) (h2 : O.2 ≤ 7) : b_cc O0 O + b_mc O ≤ b_mc O0 ∧ b_cs O0 O + b_ms O ≤ b_ms O0 := by
  have a1 := b_pow h1
  have a2 := b_le7 h2
  unfold b_cc b_cs b_mc b_ms
  omega
theorem b_sum2 {O0 O O1 : Nat × Nat} (h1 : O0.2 ≤ O.2) (h2 : O.2 ≤ O1.2) : b_cc O0 O + b_cc O O1 = b_cc O0 O1 ∧ b_cs O0 O + b_cs O O1 = b_cs O0 O1 := by
  have a1 := b_pow h1
  have a2 := b_pow h2
  unfold b_cc b_cs
  omega
section BC
variable {x : ac_X} {g : b_S} {l : Launch} {own : String} {cc0 : ByteArray} {nL0 rk0 : Nat} {O0 O : Nat × Nat} {M : Nat → Int32} {pc : Nat} {lv : List (Nat × Value)} {st st0 : List Value} {y : MethodName} {cc : ByteArray} {nL rk n index : Nat} {As : List Value}
end BC
