def b_o (g : b_S) (c : Nat) : Nat := g.2.2.1 c
def b_N (g : b_S) : Nat → Nat := g.2.2.2.1
theorem b_Dgo {t : b_T} {a N : Nat → Nat} {cT : Nat → ClassId} {A : Nat → Prop} {M M' : Nat → Int32} {F F' : Nat → Nat → Int32} {J J' : Nat → Nat → Int64} (h : va_D A (b_W t a N cT M F J)) : va_D A (b_W t a N cT M' F' J') := by
  refine r_Dmap ?_ h
  unfold b_W
  simp only [List.map_append, List.map_map]
  rfl
theorem b_tyat (cT : Nat → ClassId) : (b_tys cT)[0]? = some (cT 0, .int) ∧ (b_tys cT)[2]? = some (cT 2, .byte) ∧ (b_tys cT)[3]? = some (cT 3, .long) := ⟨rfl, rfl, rfl⟩
section BR
variable {x : ac_X} {g : b_S} {l : Launch} {own : String} {cc : ByteArray} {nL rk : Nat} {O0 O : Nat × Nat} {M : Nat → Int32} {pc : Nat} {lv : List (Nat × Value)} {st : List Value}
theorem b_geti (Z : b_Cx x g l own cc nL rk O0) {ci : Nat} {C : String} {T : u_T} {N : Nat} {ty : Nat → FieldType} (B : b_cls ci C T N ty) (i : Nat) {c off n : Nat} (hi : g.1.1[i]? = some (c, ci, off, n)) (k : Nat) (hk : k < n) (hn : k < N) (hr : g.1.2.2 (off + k) = none) {index : Nat} (hl : Cond.fieldLink own index C (T k).2.1 (T k).2.2.1 ∈ ac_tbl) {h : Nat} (hh : b_c g O c = h) {v : Int32} (hv : M (off + k) = v) (hd : decode cc pc = .ok (.getfield index, 3))
    (kk : b_G x g nL O0 M O (pc + 3) lv (.int v :: st)) : b_G x g nL O0 M O pc lv (.ref h :: st) := by
  obtain ⟨p, l', e, R, s, m, args, below, meth, cd, Q⟩ := x
  obtain ⟨t, D, ad, NN, cT, adK, adV, A, up⟩ := g
  obtain ⟨CC, K, -⟩ := Z
  have hr : t.2.2 (off + k) = none := hr
  cases hh
  subst hv
  intro H locs ls hP hS hlv
  obtain ⟨⟨F, J, hP1⟩, hP2⟩ := hP
  exact va_get (C := C) (T := T) (N := N) CC.1 CC.2.1 CC.2.2.2.2 B.2.1 CC.2.2.2.1 K.2.1 hP1 i (b_Wobj _ _ _ _ _ _ _ hi) B.1 k hn (CC.2.2.2.2 _ hl) (fun q h9 => by rw [B.2.2.2.2 k hn] at h9; exact h9) (v := .int (M (off + k))) (by rw [b_fs_at _ _ _ hk]; unfold b_val; rw [hr]) hd (kk H locs ls ⟨⟨F, J, hP1⟩, hP2⟩ hS hlv)
theorem b_getr (Z : b_Cx x g l own cc nL rk O0) {ci : Nat} {C : String} {T : u_T} {N : Nat} {ty : Nat → FieldType} (B : b_cls ci C T N ty) (i : Nat) {c off n : Nat} (hi : g.1.1[i]? = some (c, ci, off, n)) (k : Nat) (hk : k < n) (hn : k < N) {c2 : Nat} (hr : g.1.2.2 (off + k) = some c2) {index : Nat} (hl : Cond.fieldLink own index C (T k).2.1 (T k).2.2.1 ∈ ac_tbl) {h h2 : Nat} (hh : b_c g O c = h) (hh2 : b_c g O c2 = h2) (hd : decode cc pc = .ok (.getfield index, 3))
    (kk : b_G x g nL O0 M O (pc + 3) lv (.ref h2 :: st)) : b_G x g nL O0 M O pc lv (.ref h :: st) := by
  obtain ⟨p, l', e, R, s, m, args, below, meth, cd, Q⟩ := x
  obtain ⟨t, D, ad, NN, cT, adK, adV, A, up⟩ := g
  obtain ⟨CC, K, -⟩ := Z
  have hr : t.2.2 (off + k) = some c2 := hr
  cases hh
  cases hh2
  intro H locs ls hP hS hlv
  obtain ⟨⟨F, J, hP1⟩, hP2⟩ := hP
  exact va_get (C := C) (T := T) (N := N) CC.1 CC.2.1 CC.2.2.2.2 B.2.1 CC.2.2.2.1 K.2.1 hP1 i (b_Wobj _ _ _ _ _ _ _ hi) B.1 k hn (CC.2.2.2.2 _ hl) (fun q h9 => by rw [B.2.2.2.2 k hn] at h9; exact h9) (v := .ref (b_ad ad O c2)) (by rw [b_fs_at _ _ _ hk]; unfold b_val; rw [hr]) hd (kk H locs ls ⟨⟨F, J, hP1⟩, hP2⟩ hS hlv)
theorem b_put (Z : b_Cx x g l own cc nL rk O0) {ci : Nat} {C : String} {T : u_T} {N : Nat} {ty : Nat → FieldType} (B : b_cls ci C T N ty) (i : Nat) {c off n : Nat} (hi : g.1.1[i]? = some (c, ci, off, n)) (k : Nat) (hk : k < n) (hn : k < N) (hr : g.1.2.2 (off + k) = none) (hf : (T k).2.2.2 = false) (ht : ty k = .int) {index : Nat} (hl : Cond.fieldLink own index C (T k).2.1 (T k).2.2.1 ∈ ac_tbl) {h : Nat} (hh : b_c g O c = h) {I : Nat} (hI : off + k = I) {v : Int32} (hd : decode cc pc = .ok (.putfield index, 3))
    (kk : b_G x g nL O0 (um M I v) O (pc + 3) lv st) : b_G x g nL O0 M O pc lv (.int v :: .ref h :: st) := by
  obtain ⟨p, l', e, R, s, m, args, below, meth, cd, Q⟩ := x
  obtain ⟨t, D, ad, NN, cT, adK, adV, A, up⟩ := g
  obtain ⟨CC, K, -⟩ := Z
  have hr : t.2.2 (off + k) = none := hr
  cases hh
  subst hI
  intro H locs ls hP hS hlv
  obtain ⟨⟨F, J, hP1⟩, hP2, hP3⟩ := hP
  refine va_put (C := C) (T := T) (N := N) (ty := .int) CC.1 CC.2.1 CC.2.2.2.2 B.2.1 ty B.2.2.1 B.2.2.2.1 CC.2.2.2.1 K.2.1 hP1 (b_Dgo hP2) hS i (b_Wobj _ _ _ _ _ _ _ hi) B.1 k hn (CC.2.2.2.2 _ hl) (fun q h9 => by rw [B.2.2.2.2 k hn] at h9; exact h9) hf (by rw [B.2.2.1 k hn, ht]) rfl rfl (by rw [b_fs_len]; exact hk) hd (fun H1 locs1 hP9 _ hS1 => ?_)
  have hw := b_Wput K.1 (b_ad ad O) (b_ln NN O) cT M F J hi hk hr v
  exact kk H1 locs1 ls ⟨⟨F, J, by rw [← hw]; exact hP9⟩, hP2, hP3⟩ hS1 hlv
theorem b_alen (Z : b_Cx x g l own cc nL rk O0) (i : Nat) {c tt : Nat} (hi : g.1.2.1[i]? = some (c, tt)) {h : Nat} (hh : b_c g O c = h) {v : Int32} (hv : nI (b_n g O c) = v) (hd : decode cc pc = .ok (.arraylength, 1)) (h9 : tt < 4)
    (kk : b_G x g nL O0 M O (pc + 1) lv (.int v :: st)) : b_G x g nL O0 M O pc lv (.ref h :: st) := by
  obtain ⟨p, l', e, R, s, m, args, below, meth, cd, Q⟩ := x
  obtain ⟨t, D, ad, NN, cT, adK, adV, A, up⟩ := g
  obtain ⟨CC, K, -⟩ := Z
  cases hh
  intro H locs ls hP hS hlv
  obtain ⟨⟨F, J, hP1⟩, hP2⟩ := hP
  have ht : (b_tys cT)[tt]? = some (cT tt, b_ty tt) := by
    match tt, h9 with
    | 0, _ => rfl
    | 1, _ => rfl
    | 2, _ => rfl
    | 3, _ => rfl
  exact va_alen CC.1 CC.2.1 K.2.1 hP1 _ tt (b_Warr _ _ _ _ _ _ _ hi) ht hv hd (kk H locs ls ⟨⟨F, J, hP1⟩, hP2⟩ hS hlv)

theorem b_ald (Z : b_Cx x g l own cc nL rk O0) (i : Nat) {c : Nat} (hi : g.1.2.1[i]? = some (c, 0)) {h : Nat} (hh : b_c g O c = h) {j : Int32} (hj : vp_in j (b_n g O c)) (hd : decode cc pc = .ok (.iaload, 1))
    (kk : ∀ v : Int32, b_G x g nL O0 M O (pc + 1) lv (.int v :: st)) : b_G x g nL O0 M O pc lv (.int j :: .ref h :: st) := by
  obtain ⟨p, l', e, R, s, m, args, below, meth, cd, Q⟩ := x
  obtain ⟨t, D, ad, NN, cT, adK, adV, A, up⟩ := g
  obtain ⟨CC, K, -⟩ := Z
  cases hh
  intro H locs ls hP hS hlv
  obtain ⟨⟨F, J, hP1⟩, hP2⟩ := hP
  exact va_iald CC.1 CC.2.1 K.2.1 hP1 _ 0 (b_Warr _ _ _ _ _ _ _ hi) rfl hj hd (kk _ H locs ls ⟨⟨F, J, hP1⟩, hP2⟩ hS hlv)
theorem b_bald (Z : b_Cx x g l own cc nL rk O0) (i : Nat) {c : Nat} (hi : g.1.2.1[i]? = some (c, 2)) {h : Nat} (hh : b_c g O c = h) {j : Int32} (hj : vp_in j (b_n g O c)) (hd : decode cc pc = .ok (.baload, 1))
    (kk : ∀ v : Int32, b_G x g nL O0 M O (pc + 1) lv (.int v :: st)) : b_G x g nL O0 M O pc lv (.int j :: .ref h :: st) := by
  obtain ⟨p, l', e, R, s, m, args, below, meth, cd, Q⟩ := x
  obtain ⟨t, D, ad, NN, cT, adK, adV, A, up⟩ := g
  obtain ⟨CC, K, -⟩ := Z
  cases hh
  intro H locs ls hP hS hlv
  obtain ⟨⟨F, J, hP1⟩, hP2⟩ := hP
  exact va_bald CC.1 CC.2.1 K.2.1 hP1 _ 2 (b_Warr _ _ _ _ _ _ _ hi) rfl hj hd (kk _ H locs ls ⟨⟨F, J, hP1⟩, hP2⟩ hS hlv)
theorem b_lald (Z : b_Cx x g l own cc nL rk O0) (i : Nat) {c : Nat} (hi : g.1.2.1[i]? = some (c, 3)) {h : Nat} (hh : b_c g O c = h) {j : Int32} (hj : vp_in j (b_n g O c)) (hd : decode cc pc = .ok (.laload, 1))
    (kk : ∀ v : Int64, b_G x g nL O0 M O (pc + 1) lv (.long v :: st)) : b_G x g nL O0 M O pc lv (.int j :: .ref h :: st) := by
  obtain ⟨p, l', e, R, s, m, args, below, meth, cd, Q⟩ := x
  obtain ⟨t, D, ad, NN, cT, adK, adV, A, up⟩ := g
  obtain ⟨CC, K, -⟩ := Z
  cases hh
  intro H locs ls hP hS hlv
  obtain ⟨⟨F, J, hP1⟩, hP2⟩ := hP
  exact va_lald CC.1 CC.2.1 K.2.1 hP1 _ 3 (b_Warr _ _ _ _ _ _ _ hi) rfl hj hd (kk _ H locs ls ⟨⟨F, J, hP1⟩, hP2⟩ hS hlv)
theorem b_ast (Z : b_Cx x g l own cc nL rk O0) (i : Nat) {c : Nat} (hi : g.1.2.1[i]? = some (c, 0)) {h : Nat} (hh : b_c g O c = h) {j : Int32} {v : Int32} (hj : vp_in j (b_n g O c)) (hd : decode cc pc = .ok (.iastore, 1))
    (kk : b_G x g nL O0 M O (pc + 1) lv st) : b_G x g nL O0 M O pc lv (.int v :: .int j :: .ref h :: st) := by
  obtain ⟨p, l', e, R, s, m, args, below, meth, cd, Q⟩ := x
  obtain ⟨t, D, ad, NN, cT, adK, adV, A, up⟩ := g
  obtain ⟨CC, K, -⟩ := Z
  cases hh
  intro H locs ls hP hS hlv
  obtain ⟨⟨F, J, hP1⟩, hP2, hP3⟩ := hP
  refine va_iast CC.1 CC.2.1 K.2.1 hP1 (b_Dgo hP2) hS _ 0 (b_Warr _ _ _ _ _ _ _ hi) rfl hj hd (fun H1 locs1 hP9 _ hS1 => ?_)
  exact kk H1 locs1 ls ⟨⟨_, J, by have hw := b_Wast K.1 (b_ad ad O) (b_ln NN O) cT M F J hi rfl; rw [hw] at hP9; exact hP9⟩, hP2, hP3⟩ hS1 hlv
theorem b_bast (Z : b_Cx x g l own cc nL rk O0) (i : Nat) {c : Nat} (hi : g.1.2.1[i]? = some (c, 2)) {h : Nat} (hh : b_c g O c = h) {j : Int32} {v : Int32} (hj : vp_in j (b_n g O c)) (hd : decode cc pc = .ok (.bastore, 1))
    (kk : b_G x g nL O0 M O (pc + 1) lv st) : b_G x g nL O0 M O pc lv (.int v :: .int j :: .ref h :: st) := by
  obtain ⟨p, l', e, R, s, m, args, below, meth, cd, Q⟩ := x
  obtain ⟨t, D, ad, NN, cT, adK, adV, A, up⟩ := g
  obtain ⟨CC, K, -⟩ := Z
  cases hh
  intro H locs ls hP hS hlv
  obtain ⟨⟨F, J, hP1⟩, hP2, hP3⟩ := hP
  refine va_bast CC.1 CC.2.1 K.2.1 hP1 (b_Dgo hP2) hS _ 2 (b_Warr _ _ _ _ _ _ _ hi) rfl hj hd (fun H1 locs1 hP9 _ hS1 => ?_)
  exact kk H1 locs1 ls ⟨⟨_, J, by have hw := b_Wast K.1 (b_ad ad O) (b_ln NN O) cT M F J hi rfl; rw [hw] at hP9; exact hP9⟩, hP2, hP3⟩ hS1 hlv
theorem b_last (Z : b_Cx x g l own cc nL rk O0) (i : Nat) {c : Nat} (hi : g.1.2.1[i]? = some (c, 3)) {h : Nat} (hh : b_c g O c = h) {j : Int32} {v : Int64} (hj : vp_in j (b_n g O c)) (hd : decode cc pc = .ok (.lastore, 1))
    (kk : b_G x g nL O0 M O (pc + 1) lv st) : b_G x g nL O0 M O pc lv (.long v :: .int j :: .ref h :: st) := by
  obtain ⟨p, l', e, R, s, m, args, below, meth, cd, Q⟩ := x
  obtain ⟨t, D, ad, NN, cT, adK, adV, A, up⟩ := g
  obtain ⟨CC, K, -⟩ := Z
  cases hh
  intro H locs ls hP hS hlv
  obtain ⟨⟨F, J, hP1⟩, hP2, hP3⟩ := hP
  refine va_last CC.1 CC.2.1 K.2.1 hP1 (b_Dgo hP2) hS _ 3 (b_Warr _ _ _ _ _ _ _ hi) rfl hj hd (fun H1 locs1 hP9 _ hS1 => ?_)
  exact kk H1 locs1 ls ⟨⟨F, _, by have hw := b_WastL K.1 (b_ad ad O) (b_ln NN O) cT M F J hi rfl; rw [hw] at hP9; exact hP9⟩, hP2, hP3⟩ hS1 hlv
/-- the kinds' table -/
theorem b_kind (Z : b_Cx x g l own cc nL rk O0) {index : Nat} (hl : Cond.fieldLink own index "AppealCourt$Kind" "ONE_OF" "[I" ∈ ac_tbl) (hd : decode cc pc = .ok (.getstatic index, 3))
    (kk : ∀ a : Nat, (∀ (pc : Nat) (st : List Value) (j : Int32), vp_in j 7 → decode cc pc = .ok (.iaload, 1) → (∀ v : Int32, b_G x g nL O0 M O (pc + 1) lv (.int v :: st)) → b_G x g nL O0 M O pc lv (.int j :: .ref a :: st)) → (∀ (pc : Nat) (st : List Value), decode cc pc = .ok (.arraylength, 1) → b_G x g nL O0 M O (pc + 1) lv (.int 7 :: st) → b_G x g nL O0 M O pc lv (.ref a :: st)) → b_G x g nL O0 M O (pc + 3) lv (.ref a :: st)) : b_G x g nL O0 M O pc lv st := by
  obtain ⟨p, l', e, R, s, m, args, below, meth, cd, Q⟩ := x
  obtain ⟨t, D, ad, NN, cT, adK, adV, A, up⟩ := g
  obtain ⟨CC, K, -⟩ := Z
  obtain ⟨a, f, h1, h2, h3⟩ := K.2.2.2.2.1
  have kk' := kk a (fun pc' st' j hj hd' kv H locs ls hP hS hlv => by
    have hjn : j.toNatClampNeg < 7 := Nat.not_le.mp fun q => hj (Or.inr q)
    have hv := h3 _ hjn
    exact va_ti CC.1 CC.2.1 h2 hS hj hv hd' (kv _ H locs ls hP hS hlv)) (fun pc' st' hd' kv H locs ls hP hS hlv => va_tlen CC.1 CC.2.1 h2 hS rfl hd' (kv H locs ls hP hS hlv))
  exact fun H locs ls hP hS hlv => va_gets CC.1 CC.2.1 h1 hS CC.2.2.2.1 (CC.2.2.2.2 _ hl) (fun _ h => h) hd (kk' H locs ls hP hS hlv)
end BR
theorem b_callB {R : Room} {s : State} {args : Array Value} {own : String} {index : Nat} {y : MethodName} {cc : ByteArray} {nL : Nat} {ret : Option FieldType} {n rk rk0 : Nat} {O0 O : Nat × Nat} (hts : ∀ w ∈ ac_tbl, w.before args s = true) (hR : R = b_room rk0 O0) (hk : rk + 1 ≤ rk0) (h1 : y.cls ≠ "java/lang/invoke/MethodHandle") (h2 : y.cls ≠ "java/lang/invoke/VarHandle") (h3 : (parseMethodDescriptor y.desc).map (fun d => d.parameters.length) = some n) (h4 : nL ≤ 21) (h5 : Cond.initialized y.cls ∈ ac_tbl) (h6 : Cond.code y cc nL ret ∈ ac_tbl) (hl : Cond.methodLink own index y ∈ ac_tbl) : CallB R s args own index y cc nL ret (.code y cc nL ret :: ac_tbl) (b_room rk O) (b_mc O) (b_ms O) n := by
  subst hR
  refine ⟨rfl, rfl, hk, ?_, ac_pay hts h6, List.mem_cons_self, hts _ h6, hts _ h5, ⟨h1, h2⟩, fun sig h => ?_, hts _ hl⟩
  · show 8 + (nL + 11) + 40 * rk ≤ 40 * rk0
    omega
  · rw [h] at h3
    exact (Option.some.inj h3).symm
theorem b_sum {O0 O : Nat × Nat} (h1 : O0.2 ≤ O.2) (h2 : O.2 ≤ 7) : b_cc O0 O + b_mc O ≤ b_mc O0 ∧ b_cs O0 O + b_ms O ≤ b_ms O0 := by
  have a1 := b_pow h1
  have a2 := b_le7 h2
  unfold b_cc b_cs b_mc b_ms
  omega
theorem b_sum2 {O0 O O1 : Nat × Nat} (h1 : O0.2 ≤ O.2) (h2 : O.2 ≤ O1.2) : b_cc O0 O + b_cc O O1 = b_cc O0 O1 ∧ b_cs O0 O + b_cs O O1 = b_cs O0 O1 := by
  have a1 := b_pow h1
  have a2 := b_pow h2
  unfold b_cc b_cs
  omega
theorem b_Pup {g : b_S} {O0 O O1 : Nat × Nat} {M : Nat → Int32} {H : Heap} (h0 : O0.2 ≤ O.2) (h : b_P g O M O1 H) : b_P g O0 M O1 H := by
  obtain ⟨t, D, ad, NN, cT, adK, adV, A, up⟩ := g
  exact ⟨h.1, h.2.1, Nat.le_trans h0 h.2.2.1, h.2.2.2⟩
theorem b_Pin {g : b_S} {O0 O : Nat × Nat} {M : Nat → Int32} {H : Heap} (h : b_P g O0 M O H) : b_P g O M O H ∧ O0.2 ≤ O.2 ∧ O.2 ≤ 7 := by
  obtain ⟨t, D, ad, NN, cT, adK, adV, A, up⟩ := g
  exact ⟨⟨h.1, h.2.1, Nat.le_refl _, h.2.2.2⟩, h.2.2.1, h.2.2.2⟩
theorem b_Ple {g : b_S} {O0 O : Nat × Nat} {M : Nat → Int32} {H : Heap} (h : b_P g O0 M O H) : O0.2 ≤ O.2 := (b_Pin h).2.1
theorem b_recv {g : b_S} {s : State} {O0 O : Nat × Nat} {M : Nat → Int32} {H : Heap} (K : b_K g s) (hP : b_P g O0 M O H) {ci : Nat} {C : String} {T : u_T} {N : Nat} (hc : ac_cl[ci]? = some (C, T, N)) {i c off n : Nat} (hi : g.1.1[i]? = some (c, ci, off, n)) {h : Nat} (hh : b_c g O c = h) : ∃ cell : Cell, H[h]? = some cell ∧ cell.vm.isStatics = false ∧ s.vm.findClass C = some cell.cls := by
  obtain ⟨t, D, ad, NN, cT, adK, adV, A, up⟩ := g
  cases hh
  obtain ⟨⟨F, J, hP1⟩, -⟩ := hP
  exact va_recv K.2.1 hP1 (ci := ci) (q0 := i) hc (b_Wobj _ _ _ _ _ _ _ hi)
section BC
variable {x : ac_X} {g : b_S} {l : Launch} {own : String} {cc0 : ByteArray} {nL0 rk0 : Nat} {O0 O : Nat × Nat} {M : Nat → Int32} {pc : Nat} {lv : List (Nat × Value)} {st st0 : List Value} {y : MethodName} {cc : ByteArray} {nL rk n index : Nat} {As : List Value}
theorem b_calli (Z : b_Cx x g l own cc0 nL0 rk0 O0) {ret : FieldType} {Q : Int32 → (Nat → Int32) → Nat × Nat → Prop} {ci : Nat} {C1 : String} {T1 : u_T} {N1 : Nat} (hc : ac_cl[ci]? = some (C1, T1, N1)) (i : Nat) {c off nf : Nat} (hi : g.1.1[i]? = some (c, ci, off, nf)) {h : Nat} (hh : b_c g O c = h) (hw : ac_vw C1 y cc nL (some ret) n) (hl : Cond.methodLink own index y ∈ ac_tbl) (hk : rk + 1 ≤ rk0) (hM : b_MetI l g y cc nL ret rk (.ref h :: As) M O Q) (hn : As.length = n) (hs : st0 = As.reverse ++ .ref h :: st) (hr : (st.map fun v => v.category).sum ≤ 8) (hd : decode cc0 pc = .ok (.invokevirtual index, 3))
    (kk : ∀ r M' O', Q r M' O' → b_G x g nL0 O0 M' O' (pc + 3) lv (.int r :: st)) : b_G x g nL0 O0 M O pc lv st0 := by
  obtain ⟨p, l', e, R, s, m, args, below, meth, c9, Q0⟩ := x
  obtain ⟨C, K, hR, rfl⟩ := Z
  obtain ⟨w1, w2, w3, w4, w5, w6, w7, w8, w9⟩ := hw
  have hb := b_callB (O := O) (own := own) (index := index) C.2.2.2.2 hR hk (by rw [w1]; exact w2) (by rw [w1]; exact w3) w4 w5 (by rw [w1]; exact w8) w9 hl
  have K : b_K g s := K
  intro H locs ls hP hS hlv
  obtain ⟨p1, p2, p3⟩ := b_Pin hP
  have hsm := b_sum p2 p3
  have hRc : R.cells = b_mc O0 ∧ R.slots = b_ms O0 := by rw [show R = b_room rk0 O0 from hR]; exact ⟨rfl, rfl⟩
  refine ac_know (fun k1 k2 => ?_)
  refine va_calli (va_runV (As := As) (rest := st) C (hM H.size (hsum H)) ⟨hb, C.2.2.2.2 _ w6, C.2.2.2.2 _ w7⟩ (by exact ⟨b_blind, b_recv K hP hc hi hh, fun U hU hW => ⟨rfl, by show b_P g O M O U.heap; rw [hU]; exact p1, b_K.go hW (by rw [hU]; exact hS.1) (by rw [hU]; exact hS.2.1) K, by rw [hU], by rw [hU]⟩⟩) rfl hn hlv.1 hs (lv_room hr) hd ⟨by rw [hRc.1]; exact hsm.1, by rw [hRc.2]; exact hsm.2⟩) hS (fun q _ h9 => h9) (fun q h9 => h9) (fun r u t H1 locs1 ht hvm hq hB hz1 hk1 hS1 => ?_)
  obtain ⟨q1, q2, q3⟩ := hB
  rw [ht] at q1 q2 q3
  have hle := b_Ple q1
  have hsum2 := b_sum2 p2 hle
  refine ac_recount (b_cc O0 u.2) (b_cs O0 u.2) (by omega) (by omega) ?_
  exact kk r u.1 u.2 hq H1 locs1 ls (b_Pup p2 q1) hS1 hlv
theorem b_calliS (Z : b_Cx x g l own cc0 nL0 rk0 O0) {ret : FieldType} {Q : Int32 → (Nat → Int32) → Nat × Nat → Prop} {C1 : String} (hw : ac_sw C1 y cc nL (some ret) n) (hl : Cond.methodLink own index y ∈ ac_tbl) (hk : rk + 1 ≤ rk0) (hM : b_MetI l g y cc nL ret rk As M O Q) (hn : As.length = n) (hs : st0 = As.reverse ++ st) (hr : (st.map fun v => v.category).sum ≤ 8) (hd : decode cc0 pc = .ok (.invokestatic index, 3))
    (kk : ∀ r M' O', Q r M' O' → b_G x g nL0 O0 M' O' (pc + 3) lv (.int r :: st)) : b_G x g nL0 O0 M O pc lv st0 := by
  obtain ⟨p, l', e, R, s, m, args, below, meth, c9, Q0⟩ := x
  obtain ⟨C, K, hR, rfl⟩ := Z
  obtain ⟨w1, w2, w3, w4, w5, w6, w8, w9⟩ := hw
  have hb := b_callB (O := O) (own := own) (index := index) C.2.2.2.2 hR hk (by rw [w1]; exact w2) (by rw [w1]; exact w3) w4 w5 (by rw [w1]; exact w8) w9 hl
  have K : b_K g s := K
  intro H locs ls hP hS hlv
  obtain ⟨p1, p2, p3⟩ := b_Pin hP
  have hsm := b_sum p2 p3
  have hRc : R.cells = b_mc O0 ∧ R.slots = b_ms O0 := by rw [show R = b_room rk0 O0 from hR]; exact ⟨rfl, rfl⟩
  refine ac_know (fun k1 k2 => ?_)
  refine va_calli (va_runS (As := As) (rest := st) C (hM H.size (hsum H)) ⟨hb, C.2.2.2.2 _ w6⟩ (by exact ⟨b_blind, fun U hU hW => ⟨rfl, by show b_P g O M O U.heap; rw [hU]; exact p1, b_K.go hW (by rw [hU]; exact hS.1) (by rw [hU]; exact hS.2.1) K, by rw [hU], by rw [hU]⟩⟩) rfl hn hlv.1 hs (lv_room hr) hd ⟨by rw [hRc.1]; exact hsm.1, by rw [hRc.2]; exact hsm.2⟩) hS (fun q _ h9 => h9) (fun q h9 => h9) (fun r u t H1 locs1 ht hvm hq hB hz1 hk1 hS1 => ?_)
  obtain ⟨q1, q2, q3⟩ := hB
  rw [ht] at q1 q2 q3
  have hle := b_Ple q1
  have hsum2 := b_sum2 p2 hle
  refine ac_recount (b_cc O0 u.2) (b_cs O0 u.2) (by omega) (by omega) ?_
  exact kk r u.1 u.2 hq H1 locs1 ls (b_Pup p2 q1) hS1 hlv
theorem b_calll (Z : b_Cx x g l own cc0 nL0 rk0 O0) {Q : Int64 → (Nat → Int32) → Nat × Nat → Prop} {ci : Nat} {C1 : String} {T1 : u_T} {N1 : Nat} (hc : ac_cl[ci]? = some (C1, T1, N1)) (i : Nat) {c off nf : Nat} (hi : g.1.1[i]? = some (c, ci, off, nf)) {h : Nat} (hh : b_c g O c = h) (hw : ac_vw C1 y cc nL (some .long) n) (hl : Cond.methodLink own index y ∈ ac_tbl) (hk : rk + 1 ≤ rk0) (hM : b_MetL l g y cc nL rk (.ref h :: As) M O Q) (hn : As.length = n) (hs : st0 = As.reverse ++ .ref h :: st) (hr : (st.map fun v => v.category).sum ≤ 8) (hd : decode cc0 pc = .ok (.invokevirtual index, 3))
    (kk : ∀ r M' O', Q r M' O' → b_G x g nL0 O0 M' O' (pc + 3) lv (.long r :: st)) : b_G x g nL0 O0 M O pc lv st0 := by
  obtain ⟨p, l', e, R, s, m, args, below, meth, c9, Q0⟩ := x
  obtain ⟨C, K, hR, rfl⟩ := Z
  obtain ⟨w1, w2, w3, w4, w5, w6, w7, w8, w9⟩ := hw
  have hb := b_callB (O := O) (own := own) (index := index) C.2.2.2.2 hR hk (by rw [w1]; exact w2) (by rw [w1]; exact w3) w4 w5 (by rw [w1]; exact w8) w9 hl
  have K : b_K g s := K
  intro H locs ls hP hS hlv
  obtain ⟨p1, p2, p3⟩ := b_Pin hP
  have hsm := b_sum p2 p3
  have hRc : R.cells = b_mc O0 ∧ R.slots = b_ms O0 := by rw [show R = b_room rk0 O0 from hR]; exact ⟨rfl, rfl⟩
  refine ac_know (fun k1 k2 => ?_)
  refine va_calll (va_runV (As := As) (rest := st) C (hM H.size (hsum H)) ⟨hb, C.2.2.2.2 _ w6, C.2.2.2.2 _ w7⟩ (by exact ⟨b_blind, b_recv K hP hc hi hh, fun U hU hW => ⟨rfl, by show b_P g O M O U.heap; rw [hU]; exact p1, b_K.go hW (by rw [hU]; exact hS.1) (by rw [hU]; exact hS.2.1) K, by rw [hU], by rw [hU]⟩⟩) rfl hn hlv.1 hs (lv_room hr) hd ⟨by rw [hRc.1]; exact hsm.1, by rw [hRc.2]; exact hsm.2⟩) hS (fun q _ h9 => h9) (fun q h9 => h9) (fun r u t H1 locs1 ht hvm hq hB hz1 hk1 hS1 => ?_)
  obtain ⟨q1, q2, q3⟩ := hB
  rw [ht] at q1 q2 q3
  have hle := b_Ple q1
  have hsum2 := b_sum2 p2 hle
  refine ac_recount (b_cc O0 u.2) (b_cs O0 u.2) (by omega) (by omega) ?_
  exact kk r u.1 u.2 hq H1 locs1 ls (b_Pup p2 q1) hS1 hlv
theorem b_calllS (Z : b_Cx x g l own cc0 nL0 rk0 O0) {Q : Int64 → (Nat → Int32) → Nat × Nat → Prop} {C1 : String} (hw : ac_sw C1 y cc nL (some .long) n) (hl : Cond.methodLink own index y ∈ ac_tbl) (hk : rk + 1 ≤ rk0) (hM : b_MetL l g y cc nL rk As M O Q) (hn : As.length = n) (hs : st0 = As.reverse ++ st) (hr : (st.map fun v => v.category).sum ≤ 8) (hd : decode cc0 pc = .ok (.invokestatic index, 3))
    (kk : ∀ r M' O', Q r M' O' → b_G x g nL0 O0 M' O' (pc + 3) lv (.long r :: st)) : b_G x g nL0 O0 M O pc lv st0 := by
  obtain ⟨p, l', e, R, s, m, args, below, meth, c9, Q0⟩ := x
  obtain ⟨C, K, hR, rfl⟩ := Z
  obtain ⟨w1, w2, w3, w4, w5, w6, w8, w9⟩ := hw
  have hb := b_callB (O := O) (own := own) (index := index) C.2.2.2.2 hR hk (by rw [w1]; exact w2) (by rw [w1]; exact w3) w4 w5 (by rw [w1]; exact w8) w9 hl
  have K : b_K g s := K
  intro H locs ls hP hS hlv
  obtain ⟨p1, p2, p3⟩ := b_Pin hP
  have hsm := b_sum p2 p3
  have hRc : R.cells = b_mc O0 ∧ R.slots = b_ms O0 := by rw [show R = b_room rk0 O0 from hR]; exact ⟨rfl, rfl⟩
  refine ac_know (fun k1 k2 => ?_)
  refine va_calll (va_runS (As := As) (rest := st) C (hM H.size (hsum H)) ⟨hb, C.2.2.2.2 _ w6⟩ (by exact ⟨b_blind, fun U hU hW => ⟨rfl, by show b_P g O M O U.heap; rw [hU]; exact p1, b_K.go hW (by rw [hU]; exact hS.1) (by rw [hU]; exact hS.2.1) K, by rw [hU], by rw [hU]⟩⟩) rfl hn hlv.1 hs (lv_room hr) hd ⟨by rw [hRc.1]; exact hsm.1, by rw [hRc.2]; exact hsm.2⟩) hS (fun q _ h9 => h9) (fun q h9 => h9) (fun r u t H1 locs1 ht hvm hq hB hz1 hk1 hS1 => ?_)
  obtain ⟨q1, q2, q3⟩ := hB
  rw [ht] at q1 q2 q3
  have hle := b_Ple q1
  have hsum2 := b_sum2 p2 hle
  refine ac_recount (b_cc O0 u.2) (b_cs O0 u.2) (by omega) (by omega) ?_
  exact kk r u.1 u.2 hq H1 locs1 ls (b_Pup p2 q1) hS1 hlv
theorem b_callv (Z : b_Cx x g l own cc0 nL0 rk0 O0) {Q : (Nat → Int32) → Nat × Nat → Prop} {ci : Nat} {C1 : String} {T1 : u_T} {N1 : Nat} (hc : ac_cl[ci]? = some (C1, T1, N1)) (i : Nat) {c off nf : Nat} (hi : g.1.1[i]? = some (c, ci, off, nf)) {h : Nat} (hh : b_c g O c = h) (hw : ac_vw C1 y cc nL none n) (hl : Cond.methodLink own index y ∈ ac_tbl) (hk : rk + 1 ≤ rk0) (hM : b_MetV l g y cc nL rk (.ref h :: As) M O Q) (hn : As.length = n) (hs : st0 = As.reverse ++ .ref h :: st) (hr : (st.map fun v => v.category).sum ≤ 8) (hd : decode cc0 pc = .ok (.invokevirtual index, 3))
    (kk : ∀ M' O', Q M' O' → b_G x g nL0 O0 M' O' (pc + 3) lv (st)) : b_G x g nL0 O0 M O pc lv st0 := by
  obtain ⟨p, l', e, R, s, m, args, below, meth, c9, Q0⟩ := x
  obtain ⟨C, K, hR, rfl⟩ := Z
  obtain ⟨w1, w2, w3, w4, w5, w6, w7, w8, w9⟩ := hw
  have hb := b_callB (O := O) (own := own) (index := index) C.2.2.2.2 hR hk (by rw [w1]; exact w2) (by rw [w1]; exact w3) w4 w5 (by rw [w1]; exact w8) w9 hl
  have K : b_K g s := K
  intro H locs ls hP hS hlv
  obtain ⟨p1, p2, p3⟩ := b_Pin hP
  have hsm := b_sum p2 p3
  have hRc : R.cells = b_mc O0 ∧ R.slots = b_ms O0 := by rw [show R = b_room rk0 O0 from hR]; exact ⟨rfl, rfl⟩
  refine ac_know (fun k1 k2 => ?_)
  refine va_callv (va_runV (As := As) (rest := st) C (hM H.size (hsum H)) ⟨hb, C.2.2.2.2 _ w6, C.2.2.2.2 _ w7⟩ (by exact ⟨b_blind, b_recv K hP hc hi hh, fun U hU hW => ⟨rfl, by show b_P g O M O U.heap; rw [hU]; exact p1, b_K.go hW (by rw [hU]; exact hS.1) (by rw [hU]; exact hS.2.1) K, by rw [hU], by rw [hU]⟩⟩) rfl hn hlv.1 hs (lv_room hr) hd ⟨by rw [hRc.1]; exact hsm.1, by rw [hRc.2]; exact hsm.2⟩) hS (fun q _ h9 => h9) (fun q h9 => h9) (fun u t H1 locs1 ht hvm hq hB hz1 hk1 hS1 => ?_)
  obtain ⟨q1, q2, q3⟩ := hB
  rw [ht] at q1 q2 q3
  have hle := b_Ple q1
  have hsum2 := b_sum2 p2 hle
  refine ac_recount (b_cc O0 u.2) (b_cs O0 u.2) (by omega) (by omega) ?_
  exact kk u.1 u.2 hq H1 locs1 ls (b_Pup p2 q1) hS1 hlv
theorem b_callvS (Z : b_Cx x g l own cc0 nL0 rk0 O0) {Q : (Nat → Int32) → Nat × Nat → Prop} {C1 : String} (hw : ac_sw C1 y cc nL none n) (hl : Cond.methodLink own index y ∈ ac_tbl) (hk : rk + 1 ≤ rk0) (hM : b_MetV l g y cc nL rk As M O Q) (hn : As.length = n) (hs : st0 = As.reverse ++ st) (hr : (st.map fun v => v.category).sum ≤ 8) (hd : decode cc0 pc = .ok (.invokestatic index, 3))
    (kk : ∀ M' O', Q M' O' → b_G x g nL0 O0 M' O' (pc + 3) lv (st)) : b_G x g nL0 O0 M O pc lv st0 := by
  obtain ⟨p, l', e, R, s, m, args, below, meth, c9, Q0⟩ := x
  obtain ⟨C, K, hR, rfl⟩ := Z
  obtain ⟨w1, w2, w3, w4, w5, w6, w8, w9⟩ := hw
  have hb := b_callB (O := O) (own := own) (index := index) C.2.2.2.2 hR hk (by rw [w1]; exact w2) (by rw [w1]; exact w3) w4 w5 (by rw [w1]; exact w8) w9 hl
  have K : b_K g s := K
  intro H locs ls hP hS hlv
  obtain ⟨p1, p2, p3⟩ := b_Pin hP
  have hsm := b_sum p2 p3
  have hRc : R.cells = b_mc O0 ∧ R.slots = b_ms O0 := by rw [show R = b_room rk0 O0 from hR]; exact ⟨rfl, rfl⟩
  refine ac_know (fun k1 k2 => ?_)
  refine va_callv (va_runS (As := As) (rest := st) C (hM H.size (hsum H)) ⟨hb, C.2.2.2.2 _ w6⟩ (by exact ⟨b_blind, fun U hU hW => ⟨rfl, by show b_P g O M O U.heap; rw [hU]; exact p1, b_K.go hW (by rw [hU]; exact hS.1) (by rw [hU]; exact hS.2.1) K, by rw [hU], by rw [hU]⟩⟩) rfl hn hlv.1 hs (lv_room hr) hd ⟨by rw [hRc.1]; exact hsm.1, by rw [hRc.2]; exact hsm.2⟩) hS (fun q _ h9 => h9) (fun q h9 => h9) (fun u t H1 locs1 ht hvm hq hB hz1 hk1 hS1 => ?_)
  obtain ⟨q1, q2, q3⟩ := hB
  rw [ht] at q1 q2 q3
  have hle := b_Ple q1
  have hsum2 := b_sum2 p2 hle
  refine ac_recount (b_cc O0 u.2) (b_cs O0 u.2) (by omega) (by omega) ?_
  exact kk u.1 u.2 hq H1 locs1 ls (b_Pup p2 q1) hS1 hlv
end BC
