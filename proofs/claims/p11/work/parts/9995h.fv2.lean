section FV2
theorem fv_cell (cA : ClassId) (N : Nat) {f g : Nat → Int32} (h : ∀ i, i < N → f i = g i) : vp_cell cA (N, .inl f) = vp_cell cA (N, .inl g) := by
  show arrV cA N (fun j => .int (f j)) = arrV cA N (fun j => .int (g j))
  unfold arrV
  have : (fun j : Fin N => Value.int (f j.val)) = (fun j : Fin N => Value.int (g j.val)) := funext fun j => by rw [h j.val j.isLt]
  rw [this]
theorem nw_row {D : va_G} {A : Nat → Prop} {cA : ClassId} {ws : va_W} {i a N : Nat} {f g : Nat → Int32} {H : Heap} (h : ∀ i, i < N → f i = g i) (hl : i < ws.length) (hP : nw_P D A (ws.set i (a, .inl (cA, N, .inl f))) H) : nw_P D A (ws.set i (a, .inl (cA, N, .inl g))) H := by
  refine ⟨fun k q hq => ?_, r_Dmap (by simp [List.map_set]) hP.2⟩
  by_cases hik : i = k
  · subst hik
    rw [List.getElem?_set_self hl] at hq
    cases hq
    have := hP.1 i _ (List.getElem?_set_self hl)
    show H[a]? = some (vp_cell cA (N, .inl g))
    rw [← fv_cell cA N h]
    exact this
  · rw [List.getElem?_set_ne hik] at hq
    exact hP.1 k q (by rw [List.getElem?_set_ne hik]; exact hq)
theorem nw_fillC {x : ac_X} {D : va_G} {cT : Nat → ClassId} {A : Nat → Prop} {l : Launch} {own : String} {cc0 : ByteArray} {nL0 : Nat} {rm : Room} {ws : va_W} {cs ss pc : Nat} {lv : List (Nat × Value)} {st : List Value} (Z : nw_Cx x D cT A l own cc0 nL0 rm) (i : Nat) {a N : Nat} {f : Nat → Int32} (he : ws[i]? = some (a, .inl (cT 0, N, .inl f))) (hN : N < 2 ^ 27) {v : Int32} {index : Nat} (hl : Cond.methodLink own index yJ7_fill_53178 ∈ ac_tbl) (hk : 1 ≤ rm.frames) (hk2 : 40 ≤ rm.locals) (hc : cs ≤ rm.cells) (hsl : ss ≤ rm.slots) (hr : (st.map fun v => v.category).sum ≤ 8) (hd : decode cc0 pc = .ok (.invokestatic index, 3))
    (kk : ac_G x A nL0 (nw_P D A (ws.set i (a, .inl (cT 0, N, .inl (fun _ => v))))) cs ss (pc + 3) lv st) : ac_G x A nL0 (nw_P D A ws) cs ss pc lv (.int v :: .ref a :: st) := by
  have hlen := (List.getElem?_eq_some_iff.mp he).1
  refine nw_fillV Z i he hN hl hk hk2 hc hsl hr hd (fun f' hf => ?_)
  obtain ⟨p, l', e9, R, s, m, args, below, meth, c, Q⟩ := x
  exact fun H locs ls hP hS hlv => kk H locs ls (nw_row hf hlen hP) hS hlv
end FV2
