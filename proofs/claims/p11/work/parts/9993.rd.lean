/-! THE CLASS'S READ: a Reader is made, reads, is forgotten; its Program stays if there is no fault. -/
theorem nw_perm {x : ac_X} {D : va_G} {A : Nat → Prop} {nL : Nat} {ws ws' : va_W} {cs ss pc : Nat} {lv : List (Nat × Value)} {st : List Value} (is : List Nat) (h1 : is.filterMap (fun i => ws[i]?) = ws') (h2 : va_nd is = true) (h3 : is.map (fun i => ws[i]?) = ws'.map some) (k : ac_G x A nL (nw_P D A ws') cs ss pc lv st) : ac_G x A nL (nw_P D A ws) cs ss pc lv st := by
  obtain ⟨p, l', e, R, s, m, args, below, meth, c, Q⟩ := x
  exact fun H locs ls hP hS hlv => k H locs ls ⟨hP.1.sub is h1, hP.2.sub is h2 h3⟩ hS hlv
theorem nw_joinL {A0 : Nat → Prop} {D : va_G} {wr wc w1 : va_W} {H H1 : Heap} (hP : va_P D ac_cl (wr ++ wc) H) (hD : va_D A0 (wr ++ wc)) (hk : ∀ q : Nat, q < H.size → ¬ va_A wc H.size q → H1[q]? = H[q]?) (hF : ∀ q, va_A wc H.size q → A0 q) (hP1 : va_P D ac_cl w1 H1) (hD1 : va_D (va_A wc H.size) w1) : va_P D ac_cl (wr ++ w1) H1 ∧ va_D A0 (wr ++ w1) := by
  have hin : ∀ (k : Nat) (q : Nat × va_E), wr[k]? = some q → (wr ++ wc)[k]? = some q := fun k q hq => by
    rw [List.getElem?_append_left (List.getElem?_eq_some_iff.mp hq).1]; exact hq
  have hin2 : ∀ (k : Nat) (q : Nat × va_E), wc[k]? = some q → (wr ++ wc)[wr.length + k]? = some q := fun k q hq => by
    rw [List.getElem?_append_right (by omega), Nat.add_sub_cancel_left]; exact hq
  have apart : ∀ (k : Nat) (q : Nat × va_E), wr[k]? = some q → q.1 < H.size ∧ ¬ va_A wc H.size q.1 := by
    intro k q hq
    have hl := (hP k q (hin k q hq)).lt
    refine ⟨hl, fun h => ?_⟩
    rcases h with ⟨k2, e, h⟩ | h
    · have := hD.1 k (wr.length + k2) q (q.1, e) (hin k q hq) (hin2 k2 _ h) rfl
      have := (List.getElem?_eq_some_iff.mp hq).1
      omega
    · omega
  refine ⟨va_P.app (fun k q hq => ?_) hP1, va_D.app ⟨fun i j p q hi hj hpq => hD.1 i j p q (hin i p hi) (hin j q hj) hpq, fun k q hq => hD.2 k q (hin k q hq)⟩ (hD1.weaken (fun k q _ h => hF q.1 h)) (fun i j a b ha hb hab => ?_)⟩
  · obtain ⟨g1, g2⟩ := apart k q hq
    exact (hP k q (hin k q hq)).kept (hk q.1 g1 g2)
  · exact (apart i a ha).2 (by rw [hab]; exact hD1.2 j b hb)
theorem k_T.narrow {A B : Nat → Prop} {U : State} {H : Heap} (h : k_T A U H) (hAB : ∀ q, B q → A q) : k_T B U H := by
  obtain ⟨t, f, h1, h2, h3⟩ := h
  exact ⟨t, f, h1.narrow hAB, h2.narrow hAB, h3⟩
def rd_env (x : ac_X) (adK adV : Nat → Nat) (A : Nat → Prop) : Prop := match x with
  | (_, _, _, _, s, _) => st_K adK adV A s s.heap ∧ k_T A s s.heap
def rd_W (cT : Nat → ClassId) (ad N : Nat → Nat) (M : Nat → Int32) (F : Nat → Nat → Int32) (J : Nat → Nat → Int64) : va_W := b_W tb_R (b_ad ad (0, 7)) (b_ln N (0, 7)) cT M F J
theorem rd_O {cT : Nat → ClassId} {ad N : Nat → Nat} {M : Nat → Int32} {F : Nat → Nat → Int32} {J : Nat → Nat → Int64} (O : Nat × Nat) : b_W tb_R (b_ad ad O) (b_ln N O) cT M F J = rd_W cT ad N M F J := rfl
section RDC
variable {x : ac_X} {D : va_G} {cT : Nat → ClassId} {A : Nat → Prop} {l : Launch} {own : String} {cc0 : ByteArray} {nL0 : Nat} {rm : Room} {wr : va_W} {cs ss pc : Nat} {lv : List (Nat × Value)} {st st0 : List Value} {adK adV ad N : Nat → Nat} {M : Nat → Int32} {F : Nat → Nat → Int32} {J : Nat → Nat → Int64} {y : MethodName} {cc : ByteArray} {nL rk n index : Nat} {As : List Value}
end RDC
