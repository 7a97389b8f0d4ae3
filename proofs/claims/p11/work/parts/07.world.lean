/-! WORLDS OF SEVERAL OBJECTS (the class's): a table of cells. M: the fields of numbers, by one numbering; what rows hold is not told (nothing of it is needed), but their lengths are. O: where the growing row (cell 99) lies, and how often it has doubled. -/
abbrev b_T : Type := List (Nat × Nat × Nat × Nat) × List (Nat × Nat) × (Nat → Option Nat)
def b_ad (ad : Nat → Nat) (O : Nat × Nat) (c : Nat) : Nat := bif Nat.beq c 99 then O.1 else ad c
def b_ln (N : Nat → Nat) (O : Nat × Nat) (c : Nat) : Nat := bif Nat.beq c 99 then 448 * 2 ^ O.2 else N c
def b_val (t : b_T) (a : Nat → Nat) (M : Nat → Int32) (I : Nat) : Value := match t.2.2 I with
  | some c => .ref (a c)
  | none => .int (M I)
def b_fs (t : b_T) (a : Nat → Nat) (M : Nat → Int32) (off n : Nat) : List Value := (List.range n).map (fun j => b_val t a M (off + j))
def b_obj (t : b_T) (a : Nat → Nat) (M : Nat → Int32) (q : Nat × Nat × Nat × Nat) : Nat × va_E := (a q.1, .inr (q.2.1, b_fs t a M q.2.2.1 q.2.2.2))
def b_con (J : Nat → Nat → Int64) (F : Nat → Nat → Int32) (ty c : Nat) : (Nat → Int32) ⊕ (Nat → Int64) ⊕ (Nat → UInt32) ⊕ (Nat → UInt64) ⊕ (Nat → Option Nat) := bif Nat.beq ty 3 then .inr (.inl (J c)) else .inl (F c)
def b_arr (a N : Nat → Nat) (cT : Nat → ClassId) (F : Nat → Nat → Int32) (J : Nat → Nat → Int64) (q : Nat × Nat) : Nat × va_E := (a q.1, .inl (cT q.2, N q.1, b_con J F q.2 q.1))
def b_W (t : b_T) (a N : Nat → Nat) (cT : Nat → ClassId) (M : Nat → Int32) (F : Nat → Nat → Int32) (J : Nat → Nat → Int64) : va_W := t.1.map (b_obj t a M) ++ t.2.1.map (b_arr a N cT F J)
def b_ty (k : Nat) : FieldType := match k with
  | 0 => .int
  | 1 => .boolean
  | 2 => .byte
  | _ => .long
def b_tys (cT : Nat → ClassId) : List (ClassId × FieldType) := [(cT 0, .int), (cT 1, .boolean), (cT 2, .byte), (cT 3, .long)]
/-- the table is in order: no field has two numbers, no cell stands twice among the rows -/
def b_ok (t : b_T) : Prop := (∀ (i j : Nat) (p q : Nat × Nat × Nat × Nat), t.1[i]? = some p → t.1[j]? = some q → i ≠ j → ∀ I, ¬ (p.2.2.1 ≤ I ∧ I < p.2.2.1 + p.2.2.2 ∧ q.2.2.1 ≤ I ∧ I < q.2.2.1 + q.2.2.2)) ∧ ∀ (i j : Nat) (p q : Nat × Nat), t.2.1[i]? = some p → t.2.1[j]? = some q → p.1 = q.1 → i = j
theorem b_fs_len (t : b_T) (a : Nat → Nat) (M : Nat → Int32) (off n : Nat) : (b_fs t a M off n).length = n := by simp [b_fs]
theorem b_fs_at (t : b_T) (a : Nat → Nat) (M : Nat → Int32) {off n k : Nat} (hk : k < n) : (b_fs t a M off n)[k]? = some (b_val t a M (off + k)) := by simp [b_fs, hk]
theorem b_fs_set (t : b_T) (a : Nat → Nat) (M : Nat → Int32) {off n k : Nat} (hr : t.2.2 (off + k) = none) (v : Int32) : (b_fs t a M off n).set k (.int v) = b_fs t a (um M (off + k) v) off n := by
  apply List.ext_getElem?
  intro j
  by_cases hj : j < n
  · rw [List.getElem?_set, b_fs_at t a _ hj, b_fs_at t a _ hj, b_fs_len]
    by_cases hjk : k = j
    · subst hjk
      simp [hj, b_val, hr, um_at]
    · rw [if_neg hjk]
      have : ¬ off + j = off + k := by omega
      simp only [b_val, um_at, if_neg this]
  · rw [List.getElem?_eq_none (by simp [b_fs_len]; omega), List.getElem?_eq_none (by simp [b_fs_len]; omega)]
theorem b_Wobj (t : b_T) (a N : Nat → Nat) (cT : Nat → ClassId) (M : Nat → Int32) (F : Nat → Nat → Int32) (J : Nat → Nat → Int64) {i : Nat} {q : Nat × Nat × Nat × Nat} (hi : t.1[i]? = some q) : (b_W t a N cT M F J)[i]? = some (b_obj t a M q) := by
  have hl := (List.getElem?_eq_some_iff.mp hi).1
  rw [b_W, List.getElem?_append_left (by simpa using hl)]
  simp [hi]
theorem b_Warr (t : b_T) (a N : Nat → Nat) (cT : Nat → ClassId) (M : Nat → Int32) (F : Nat → Nat → Int32) (J : Nat → Nat → Int64) {i : Nat} {q : Nat × Nat} (hi : t.2.1[i]? = some q) : (b_W t a N cT M F J)[t.1.length + i]? = some (b_arr a N cT F J q) := by
  rw [b_W, List.getElem?_append_right (by simp)]
  simp [hi]
theorem b_Wput {t : b_T} (ht : b_ok t) (a N : Nat → Nat) (cT : Nat → ClassId) (M : Nat → Int32) (F : Nat → Nat → Int32) (J : Nat → Nat → Int64) {i c ci off n k : Nat} (hi : t.1[i]? = some (c, ci, off, n)) (hk : k < n) (hr : t.2.2 (off + k) = none) (v : Int32) : (b_W t a N cT M F J).set i (a c, .inr (ci, (b_fs t a M off n).set k (.int v))) = b_W t a N cT (um M (off + k) v) F J := by
  have hl := (List.getElem?_eq_some_iff.mp hi).1
  rw [b_W, List.set_append, if_pos (by simpa using hl), b_W]
  congr 1
  apply List.ext_getElem?
  intro j
  rw [List.getElem?_set]
  by_cases hij : i = j
  · subst hij
    rw [if_pos rfl, if_pos (by simpa using hl), List.getElem?_map, hi]
    simp [b_obj, b_fs_set t a M hr]
  · rw [if_neg hij]
    simp only [List.getElem?_map]
    cases hj : t.1[j]? with
    | none => rfl
    | some q =>
      have hd := ht.1 i j _ q hi hj hij (off + k)
      simp only [Option.map_some, Option.some.injEq, b_obj, Prod.mk.injEq, true_and, Sum.inr.injEq]
      apply List.ext_getElem?
      intro z
      by_cases hz : z < q.2.2.2
      · rw [b_fs_at _ _ _ hz, b_fs_at _ _ _ hz]
        have hne : ¬ q.2.2.1 + z = off + k := fun e => hd ⟨by show off ≤ off + k; omega, by show off + k < off + n; omega, by omega, by omega⟩
        simp only [b_val, um_at, if_neg hne]
      · rw [List.getElem?_eq_none (by simp [b_fs_len]; omega), List.getElem?_eq_none (by simp [b_fs_len]; omega)]
def b_uF (F : Nat → Nat → Int32) (c : Nat) (f : Nat → Int32) : Nat → Nat → Int32 := fun j => if j = c then f else F j
def b_uJ (F : Nat → Nat → Int64) (c : Nat) (f : Nat → Int64) : Nat → Nat → Int64 := fun j => if j = c then f else F j
theorem b_Wast {t : b_T} (ht : b_ok t) (a N : Nat → Nat) (cT : Nat → ClassId) (M : Nat → Int32) (F : Nat → Nat → Int32) (J : Nat → Nat → Int64) {i c ty : Nat} (hi : t.2.1[i]? = some (c, ty)) (hty : Nat.beq ty 3 = false) (f : Nat → Int32) : (b_W t a N cT M F J).set (t.1.length + i) (a c, .inl (cT ty, N c, .inl f)) = b_W t a N cT M (b_uF F c f) J := by
  have hl := (List.getElem?_eq_some_iff.mp hi).1
  rw [b_W, List.set_append, if_neg (by simp), b_W]
  congr 1
  apply List.ext_getElem?
  intro j
  rw [List.getElem?_set]
  simp only [List.length_map, Nat.add_sub_cancel_left]
  by_cases hij : i = j
  · subst hij
    rw [if_pos rfl, if_pos hl, List.getElem?_map, hi]
    simp [b_arr, b_con, hty, b_uF]
  · rw [if_neg hij]
    simp only [List.getElem?_map]
    cases hj : t.2.1[j]? with
    | none => rfl
    | some q =>
      have hne : ¬ q.1 = c := fun e => hij (ht.2 i j _ q hi hj e.symm)
      simp [b_arr, b_con, b_uF, hne]
theorem b_WastL {t : b_T} (ht : b_ok t) (a N : Nat → Nat) (cT : Nat → ClassId) (M : Nat → Int32) (F : Nat → Nat → Int32) (J : Nat → Nat → Int64) {i c ty : Nat} (hi : t.2.1[i]? = some (c, ty)) (hty : Nat.beq ty 3 = true) (f : Nat → Int64) : (b_W t a N cT M F J).set (t.1.length + i) (a c, .inl (cT ty, N c, .inr (.inl f))) = b_W t a N cT M F (b_uJ J c f) := by
  have hl := (List.getElem?_eq_some_iff.mp hi).1
  rw [b_W, List.set_append, if_neg (by simp), b_W]
  congr 1
  apply List.ext_getElem?
  intro j
  rw [List.getElem?_set]
  simp only [List.length_map, Nat.add_sub_cancel_left]
  by_cases hij : i = j
  · subst hij
    rw [if_pos rfl, if_pos hl, List.getElem?_map, hi]
    simp [b_arr, b_con, hty, b_uJ]
  · rw [if_neg hij]
    simp only [List.getElem?_map]
    cases hj : t.2.1[j]? with
    | none => rfl
    | some q =>
      have hne : ¬ q.1 = c := fun e => hij (ht.2 i j _ q hi hj e.symm)
      simp [b_arr, b_con, b_uJ, hne]
/-- how many slots a heap has -/
def hsum (H : Heap) : Nat := (H.toList.map (·.slots.size)).sum
theorem hsum_take {H0 H : Heap} (hz : H0.size ≤ H.size) (h : ∀ (a : Nat) (c : Cell), H0[a]? = some c → ∃ c', H[a]? = some c' ∧ c'.slots.size = c.slots.size) : hsum H = hsum H0 + ((H.toList.drop H0.size).map (·.slots.size)).sum := by
  have e : (H.toList.take H0.size).map (·.slots.size) = H0.toList.map (·.slots.size) := by
    apply List.ext_getElem?
    intro a
    by_cases ha : a < H0.size
    · obtain ⟨c', h1, h2⟩ := h a H0[a] (Array.getElem?_eq_getElem ha)
      have hx : H.toList[a]? = some c' := by rw [Array.getElem?_toList]; exact h1
      have hy : H0.toList[a]? = some H0[a] := by rw [Array.getElem?_toList]; exact Array.getElem?_eq_getElem ha
      simp [List.getElem?_take, ha, hx, hy, h2]
    · rw [List.getElem?_eq_none (by simp; omega), List.getElem?_eq_none (by simp; omega)]
  unfold hsum
  rw [← e]
  conv => lhs; rw [← List.take_append_drop H0.size H.toList]
  rw [List.map_append, List.sum_append]
theorem ac_recount {p : Program} {l : Launch} {e : Env} {R : Room} {s : State} {m : MethodId} {args : Array Value} {below : List Frame} {meth : Method} {c : Code} {H : Heap} {locs : List Loc} {cells slots : Nat} {Q : State → Prop} {g : JFrame} (c' s' : Nat) (hc : H.size ≤ s.heap.size + c') (hs : hsum H ≤ hsum s.heap + s') (k : W p l e R s m args below meth c H locs c' s' Q g) : W p l e R s m args below meth c H locs cells slots Q g := by
  intro T hT X
  refine k T hT { X with same := ?_ }
  obtain ⟨h1, h2, h3, h4, h5, h6⟩ := X.same
  subst hT
  refine ⟨h1, h2, hc, h4, ?_, h6⟩
  have h7 : hsum T.heap = hsum s.heap + ((T.heap.toList.drop s.heap.size).map (·.slots.size)).sum := hsum_take h2 (fun a c h => by
    obtain ⟨c', q1, q2, q3, -⟩ := h6 a c h
    exact ⟨c', q1, q3⟩)
  show ((T.heap.toList.drop s.heap.size).map (·.slots.size)).sum ≤ s'
  omega
theorem ac_know {p : Program} {l : Launch} {e : Env} {R : Room} {s : State} {m : MethodId} {args : Array Value} {below : List Frame} {meth : Method} {c : Code} {H : Heap} {locs : List Loc} {cells slots : Nat} {Q : State → Prop} {g : JFrame} (k : H.size ≤ s.heap.size + cells → hsum H ≤ hsum s.heap + slots → W p l e R s m args below meth c H locs cells slots Q g) : W p l e R s m args below meth c H locs cells slots Q g := by
  intro T hT X
  obtain ⟨h1, h2, h3, h4, h5, h6⟩ := X.same
  have h7 : hsum T.heap = hsum s.heap + ((T.heap.toList.drop s.heap.size).map (·.slots.size)).sum := hsum_take h2 (fun a c h => by
    obtain ⟨c', q1, q2, q3, -⟩ := h6 a c h
    exact ⟨c', q1, q3⟩)
  have h5' : ((T.heap.toList.drop s.heap.size).map (·.slots.size)).sum ≤ slots := h5
  have h3' : T.heap.size ≤ s.heap.size + cells := h3
  exact k (by rw [← hT]; exact h3') (by rw [← hT]; omega) T hT X
/-- the statics: table, classes' places, cells, lengths, array classes, texts, what may be written, from where on all may -/
abbrev b_S : Type := b_T × va_G × (Nat → Nat) × (Nat → Nat) × (Nat → ClassId) × (Nat → Nat) × (Nat → Nat) × (Nat → Prop) × Nat
def b_A (g : b_S) : Nat → Prop := g.2.2.2.2.2.2.2.1
def b_c (g : b_S) (O : Nat × Nat) (c : Nat) : Nat := b_ad g.2.2.1 O c
def b_n (g : b_S) (O : Nat × Nat) (c : Nat) : Nat := b_ln g.2.2.2.1 O c
def b_P (g : b_S) (O0 : Nat × Nat) (M : Nat → Int32) (O : Nat × Nat) (H : Heap) : Prop := match g with
  | (t, D, ad, N, cT, _, _, A, _) => (∃ F J, va_P D ac_cl (b_W t (b_ad ad O) (b_ln N O) cT M F J) H) ∧ va_D A (b_W t (b_ad ad O) (b_ln N O) cT (fun _ => 0) (fun _ _ => 0) (fun _ _ => 0)) ∧ O0.2 ≤ O.2 ∧ O.2 ≤ 7
/-- a table of seven numbers, the kinds' heirs -/
def k_one (j : Nat) : Int32 := ([-1, 0, 1, 1, 0, 4, 4] : List Int32).getD j 0
def k_T (A : Nat → Prop) (U : State) (H : Heap) : Prop := ∃ t f, va_Z "AppealCourt$Kind" "ONE_OF" "[I" (.ref t) A U H ∧ va_T .int t 7 f A U H ∧ ∀ j, j < 7 → f j = .int (k_one j)
theorem k_T.go {A : Nat → Prop} {u U : State} {H H1 : Heap} (hW : u.WarmedH U.vm) (hh : ∀ a : Nat, a < H.size → ¬ A a → H1[a]? = H[a]?) (h : k_T A u H) : k_T A U H1 := by
  obtain ⟨t, f, h1, h2, h3⟩ := h
  exact ⟨t, f, (h1.moved hW.alike).kept hh, (h2.moved hW.alike).kept hh, h3⟩
def b_K (g : b_S) (U : State) : Prop := match g with
  | (t, D, _, _, cT, adK, adV, A, up) => b_ok t ∧ va_K D ac_cl (b_tys cT) U ∧ (∀ q, up ≤ q → A q) ∧ st_K adK adV A U U.heap ∧ k_T A U U.heap ∧ up ≤ U.heap.size
theorem b_K.go {g : b_S} {u U : State} (hW : u.WarmedH U.vm) (hz : u.heap.size ≤ U.heap.size) (hh : ∀ a : Nat, a < u.heap.size → ¬ b_A g a → U.heap[a]? = u.heap[a]?) (h : b_K g u) : b_K g U := by
  obtain ⟨t, D, ad, N, cT, adK, adV, A, up⟩ := g
  exact ⟨h.1, va_K.moved hW.alike h.2.1, h.2.2.1, h.2.2.2.1.go hW hh, h.2.2.2.2.1.go hW hh, Nat.le_trans h.2.2.2.2.2 hz⟩
def b_mc (O : Nat × Nat) : Nat := 7 - O.2
def b_ms (O : Nat × Nat) : Nat := 114688 - 896 * 2 ^ O.2
def b_cc (O0 O : Nat × Nat) : Nat := O.2 - O0.2
def b_cs (O0 O : Nat × Nat) : Nat := 896 * 2 ^ O.2 - 896 * 2 ^ O0.2
theorem b_cc0 (O : Nat × Nat) : b_cc O O = 0 := Nat.sub_self _
theorem b_cs0 (O : Nat × Nat) : b_cs O O = 0 := Nat.sub_self _
theorem ac_zero {p : Program} {l : Launch} {e : Env} {R : Room} {s : State} {m : MethodId} {args : Array Value} {below : List Frame} {meth : Method} {c : Code} {H : Heap} {locs : List Loc} {Q : State → Prop} {g : JFrame} (O : Nat × Nat) (k : W p l e R s m args below meth c H locs (b_cc O O) (b_cs O O) Q g) : W p l e R s m args below meth c H locs 0 0 Q g := by
  rw [b_cc0, b_cs0] at k
  exact k
theorem b_pow {a b : Nat} (h : a ≤ b) : 2 ^ a ≤ 2 ^ b := Nat.pow_le_pow_right (by decide) h
theorem b_le7 {a : Nat} (h : a ≤ 7) : 896 * 2 ^ a ≤ 114688 := by
  have := b_pow h
  omega
def b_room (rk : Nat) (O : Nat × Nat) : Room := { frames := rk, cells := b_mc O, slots := b_ms O, locals := 40 * rk }
def b_KX (g : b_S) (x : ac_X) : Prop := match x with
  | (_, _, _, _, s, _) => b_K g s
def b_Rk (x : ac_X) (rk : Nat) (O : Nat × Nat) : Prop := match x with
  | (_, _, _, R, _) => R = b_room rk O
/-- what a walk of a method of the class C has at hand; O0: the row's state at its entry -/
def b_Cx (x : ac_X) (g : b_S) (l : Launch) (C : String) (cc : ByteArray) (nL rk : Nat) (O0 : Nat × Nat) : Prop := ac_C x cc nL C ∧ b_KX g x ∧ b_Rk x rk O0 ∧ x.2.1 = l
/-- the judgement of a walk over such a world -/
abbrev b_G (x : ac_X) (g : b_S) (nL : Nat) (O0 : Nat × Nat) (M : Nat → Int32) (O : Nat × Nat) (pc : Nat) (lv : List (Nat × Value)) (st : List Value) : Prop := ac_G x (b_A g) nL (b_P g O0 M O) (b_cc O0 O) (b_cs O0 O) pc lv st
/-- a class: its number, name, fields -/
def b_cls (ci : Nat) (C : String) (T : u_T) (N : Nat) (ty : Nat → FieldType) : Prop := ac_cl[ci]? = some (C, T, N) ∧ (∀ w ∈ u_ws C T N, w ∈ ac_tbl) ∧ (∀ k, k < N → parseFieldDescriptor (T k).2.2.1 = some (ty k)) ∧ (∀ a, a < N → ∀ b, b < N → a ≠ b → (T a).2.1 ≠ (T b).2.1) ∧ ∀ k, k < N → (T k).1 = C
abbrev b_St : Type := (Nat → Int32) × (Nat × Nat)
def b_Pre (g : b_S) (sz sm : Nat) (M : Nat → Int32) (O : Nat × Nat) (U : State) : Prop := b_P g O M O U.heap ∧ b_K g U ∧ U.heap.size = sz ∧ hsum U.heap = sm
def b_Post (g : b_S) (sz sm : Nat) (O0 : Nat × Nat) (u : b_St) (t : State) : Prop := b_P g O0 u.1 u.2 t.heap ∧ t.heap.size ≤ sz + b_cc O0 u.2 ∧ hsum t.heap ≤ sm + b_cs O0 u.2
def b_MetI (l : Launch) (g : b_S) (y : MethodName) (cc : ByteArray) (nL : Nat) (ret : FieldType) (rk : Nat) (av : List Value) (M : Nat → Int32) (O : Nat × Nat) (Q : Int32 → (Nat → Int32) → Nat × Nat → Prop) : Prop := ∀ sz sm : Nat,
  Met l y (.code y cc nL (some ret) :: ac_tbl) (b_room rk O) (va_Pc av (b_Pre g sz sm M O)) (va_Qi (fun r (u : b_St) => Q r u.1 u.2) (b_Post g sz sm O) (b_A g)) (b_mc O) (b_ms O) (b_A g)
def b_MetL (l : Launch) (g : b_S) (y : MethodName) (cc : ByteArray) (nL : Nat) (rk : Nat) (av : List Value) (M : Nat → Int32) (O : Nat × Nat) (Q : Int64 → (Nat → Int32) → Nat × Nat → Prop) : Prop := ∀ sz sm : Nat,
  Met l y (.code y cc nL (some .long) :: ac_tbl) (b_room rk O) (va_Pc av (b_Pre g sz sm M O)) (va_Ql (fun r (u : b_St) => Q r u.1 u.2) (b_Post g sz sm O) (b_A g)) (b_mc O) (b_ms O) (b_A g)
def b_MetV (l : Launch) (g : b_S) (y : MethodName) (cc : ByteArray) (nL : Nat) (rk : Nat) (av : List Value) (M : Nat → Int32) (O : Nat × Nat) (Q : (Nat → Int32) → Nat × Nat → Prop) : Prop := ∀ sz sm : Nat,
  Met l y (.code y cc nL none :: ac_tbl) (b_room rk O) (va_Pc av (b_Pre g sz sm M O)) (va_Qv (fun (u : b_St) => Q u.1 u.2) (b_Post g sz sm O) (b_A g)) (b_mc O) (b_ms O) (b_A g)
/-- the rules of the ends of a walk -/
def b_RI (x : ac_X) (g : b_S) (nL : Nat) (cc : ByteArray) (ret : FieldType) (O0 : Nat × Nat) (Q : Int32 → (Nat → Int32) → Nat × Nat → Prop) : Prop := ∀ (pc : Nat) (lv : List (Nat × Value)) (r : Int32) (M : Nat → Int32) (O : Nat × Nat), decode cc pc = .ok (.ireturn, 1) → narrow ret (.int r) = .int r → Q r M O → b_G x g nL O0 M O pc lv [.int r]
def b_RL (x : ac_X) (g : b_S) (nL : Nat) (cc : ByteArray) (O0 : Nat × Nat) (Q : Int64 → (Nat → Int32) → Nat × Nat → Prop) : Prop := ∀ (pc : Nat) (lv : List (Nat × Value)) (r : Int64) (M : Nat → Int32) (O : Nat × Nat), decode cc pc = .ok (.lreturn, 1) → Q r M O → b_G x g nL O0 M O pc lv [.long r]
def b_RV (x : ac_X) (g : b_S) (nL : Nat) (cc : ByteArray) (O0 : Nat × Nat) (Q : (Nat → Int32) → Nat × Nat → Prop) : Prop := ∀ (pc : Nat) (lv : List (Nat × Value)) (M : Nat → Int32) (O : Nat × Nat), decode cc pc = .ok (.return_, 1) → Q M O → b_G x g nL O0 M O pc lv []
theorem b_wid {g : b_S} {O0 O : Nat × Nat} {M : Nat → Int32} {H : Heap} (h : b_P g O0 M O H) : b_cc O0 O ≤ b_mc O0 ∧ b_cs O0 O ≤ b_ms O0 := by
  obtain ⟨t, D, ad, N, cT, adK, adV, A, up⟩ := g
  obtain ⟨-, -, h1, h2⟩ := h
  have := b_le7 h2
  unfold b_cc b_cs b_mc b_ms
  omega
theorem b_MetI.of {l : Launch} {g : b_S} {y : MethodName} {C : String} {cc : ByteArray} {nL : Nat} {ret : FieldType} {rk : Nat} {av : List Value} {M : Nat → Int32} {O : Nat × Nat} {Q : Int32 → (Nat → Int32) → Nat × Nat → Prop} (hy : plainName y.cls = true) (ho : y.cls = C) (hn : (lg_sl av).length ≤ nL)
    (body : ∀ x : ac_X, b_Cx x g l C cc nL rk O → b_RI x g nL cc ret O Q → b_G x g nL O M O 0 (lv_args 0 av) []) : b_MetI l g y cc nL ret rk av M O Q := by
  intro sz sm
  refine Met.ofW (cc := cc) (maxL := nL) (ret := some ret) hy rfl ?_
  intro p e s m args below meth c s₁ B hml hv
  obtain ⟨rfl, hP, hK, rfl, rfl⟩ := hv
  have hts := atoms_spec (ws := .code y cc nL (some ret) :: ac_tbl) B.pre
  have hown : s.vm.findClass C = some m.cls := by rw [← ho]; exact findClass_of_methodNamed B.named
  have hlocks := B.notSynchronized
  have hl := lv_entry av (n := nL) hn
  rw [lg_entry_eq]
  refine ac_zero O ?_
  refine body (p, l, e, _, s, m, _, below, meth, c, _) ⟨⟨B.exec, B.bytes, hml, hown, fun w hw => hts w (List.mem_cons_of_mem _ hw)⟩, hK, rfl, rfl⟩ ?_ s.heap [] _ hP va_S.rf hl
  intro pc lv r M' O' hd hn9 hq H locs ls hP' hS' _
  refine ac_know (fun k1 k2 => ?_)
  have hwd := b_wid hP'
  refine W.widen hwd.1 hwd.2 ?_
  exact W.zret (v := r) (ty := ret) B.exec B.bytes B.returns hn9 (fun t ht hW => ⟨⟨r, (M', O'), rfl, hq, by show b_Post g s.heap.size (hsum s.heap) O (M', O') t; unfold b_Post; rw [ht]; exact ⟨hP', k1, k2⟩⟩, by rw [va_F, ht]; exact ⟨hS'.1, hS'.2.1⟩⟩) hS'.2.2 hd
theorem b_MetL.of {l : Launch} {g : b_S} {y : MethodName} {C : String} {cc : ByteArray} {nL : Nat} {rk : Nat} {av : List Value} {M : Nat → Int32} {O : Nat × Nat} {Q : Int64 → (Nat → Int32) → Nat × Nat → Prop} (hy : plainName y.cls = true) (ho : y.cls = C) (hn : (lg_sl av).length ≤ nL)
    (body : ∀ x : ac_X, b_Cx x g l C cc nL rk O → b_RL x g nL cc O Q → b_G x g nL O M O 0 (lv_args 0 av) []) : b_MetL l g y cc nL rk av M O Q := by
  intro sz sm
  refine Met.ofW (cc := cc) (maxL := nL) (ret := some .long) hy rfl ?_
  intro p e s m args below meth c s₁ B hml hv
  obtain ⟨rfl, hP, hK, rfl, rfl⟩ := hv
  have hts := atoms_spec (ws := .code y cc nL (some .long) :: ac_tbl) B.pre
  have hown : s.vm.findClass C = some m.cls := by rw [← ho]; exact findClass_of_methodNamed B.named
  have hlocks := B.notSynchronized
  have hl := lv_entry av (n := nL) hn
  rw [lg_entry_eq]
  refine ac_zero O ?_
  refine body (p, l, e, _, s, m, _, below, meth, c, _) ⟨⟨B.exec, B.bytes, hml, hown, fun w hw => hts w (List.mem_cons_of_mem _ hw)⟩, hK, rfl, rfl⟩ ?_ s.heap [] _ hP va_S.rf hl
  intro pc lv r M' O' hd hq H locs ls hP' hS' _
  refine ac_know (fun k1 k2 => ?_)
  have hwd := b_wid hP'
  refine W.widen hwd.1 hwd.2 ?_
  exact W.lret (v := r) B.exec B.bytes B.returns (fun t ht hW => ⟨⟨r, (M', O'), rfl, hq, by show b_Post g s.heap.size (hsum s.heap) O (M', O') t; unfold b_Post; rw [ht]; exact ⟨hP', k1, k2⟩⟩, by rw [va_F, ht]; exact ⟨hS'.1, hS'.2.1⟩⟩) hS'.2.2 hd
theorem b_MetV.of {l : Launch} {g : b_S} {y : MethodName} {C : String} {cc : ByteArray} {nL : Nat} {rk : Nat} {av : List Value} {M : Nat → Int32} {O : Nat × Nat} {Q : (Nat → Int32) → Nat × Nat → Prop} (hy : plainName y.cls = true) (ho : y.cls = C) (hn : (lg_sl av).length ≤ nL)
    (body : ∀ x : ac_X, b_Cx x g l C cc nL rk O → b_RV x g nL cc O Q → b_G x g nL O M O 0 (lv_args 0 av) []) : b_MetV l g y cc nL rk av M O Q := by
  intro sz sm
  refine Met.ofW (cc := cc) (maxL := nL) (ret := none) hy rfl ?_
  intro p e s m args below meth c s₁ B hml hv
  obtain ⟨rfl, hP, hK, rfl, rfl⟩ := hv
  have hts := atoms_spec (ws := .code y cc nL (none) :: ac_tbl) B.pre
  have hown : s.vm.findClass C = some m.cls := by rw [← ho]; exact findClass_of_methodNamed B.named
  have hlocks := B.notSynchronized
  have hl := lv_entry av (n := nL) hn
  rw [lg_entry_eq]
  refine ac_zero O ?_
  refine body (p, l, e, _, s, m, _, below, meth, c, _) ⟨⟨B.exec, B.bytes, hml, hown, fun w hw => hts w (List.mem_cons_of_mem _ hw)⟩, hK, rfl, rfl⟩ ?_ s.heap [] _ hP va_S.rf hl
  intro pc lv M' O' hd hq H locs ls hP' hS' _
  refine ac_know (fun k1 k2 => ?_)
  have hwd := b_wid hP'
  refine W.widen hwd.1 hwd.2 ?_
  exact W.vret B.exec B.bytes B.returns (fun t ht hW => ⟨⟨(M', O'), rfl, hq, by show b_Post g s.heap.size (hsum s.heap) O (M', O') t; unfold b_Post; rw [ht]; exact ⟨hP', k1, k2⟩⟩, by rw [va_F, ht]; exact ⟨hS'.1, hS'.2.1⟩⟩) hS'.2.2 hd

