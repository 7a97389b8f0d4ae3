/-! THE CLASS'S FRAME WITH WHAT ITS ROWS HOLD: M.1 the fields of numbers, M.2.1 the rows of ints and bytes, M.2.2 the rows of longs. -/
abbrev f_S3 : Type := (Nat → Int32) × (Nat → Nat → Int32) × (Nat → Nat → Int64)
def fm (M : f_S3) (k : Nat) (v : Int32) : f_S3 := (um M.1 k v, M.2)
def ff (M : f_S3) (c : Nat) (i v : Int32) : f_S3 := (M.1, uf M.2.1 c i v, M.2.2)
def uj (J : Nat → Nat → Int64) (k : Nat) (i : Int32) (v : Int64) : Nat → Nat → Int64 := fun j => bif Nat.beq j k then vp_updL (J k) i.toNatClampNeg v else J j
def fj (M : f_S3) (c : Nat) (i : Int32) (v : Int64) : f_S3 := (M.1, M.2.1, uj M.2.2 c i v)
theorem ff_e (F : Nat → Nat → Int32) (c : Nat) (i v : Int32) : uf F c i v = b_uF F c (upd (F c) i.toNatClampNeg v) := by
  funext j
  rw [uf_at]
  rfl
theorem fj_e (J : Nat → Nat → Int64) (c : Nat) (i : Int32) (v : Int64) : uj J c i v = b_uJ J c (vp_updL (J c) i.toNatClampNeg v) := by
  funext j
  unfold uj b_uJ
  by_cases h : j = c
  · subst h; simp
  · have : Nat.beq j c = false := by rw [Bool.eq_false_iff]; exact fun e => h (Nat.eq_of_beq_eq_true e)
    rw [this, if_neg h]; rfl
theorem ff_w (t : b_T) (a N : Nat → Nat) (cT : Nat → ClassId) (M : f_S3) (c : Nat) (i v : Int32) : b_W t a N cT (ff M c i v).1 (ff M c i v).2.1 (ff M c i v).2.2 = b_W t a N cT M.1 (b_uF M.2.1 c (upd (M.2.1 c) i.toNatClampNeg v)) M.2.2 := by
  show b_W t a N cT M.1 (uf M.2.1 c i v) M.2.2 = _
  rw [ff_e]
theorem fj_w (t : b_T) (a N : Nat → Nat) (cT : Nat → ClassId) (M : f_S3) (c : Nat) (i : Int32) (v : Int64) : b_W t a N cT (fj M c i v).1 (fj M c i v).2.1 (fj M c i v).2.2 = b_W t a N cT M.1 M.2.1 (b_uJ M.2.2 c (vp_updL (M.2.2 c) i.toNatClampNeg v)) := by
  show b_W t a N cT M.1 M.2.1 (uj M.2.2 c i v) = _
  rw [fj_e]

def f_P (g : b_S) (O0 : Nat × Nat) (M : f_S3) (O : Nat × Nat) (H : Heap) : Prop := match g with
  | (t, D, ad, N, cT, _, _, A, _) => va_P D ac_cl (b_W t (b_ad ad O) (b_ln N O) cT M.1 M.2.1 M.2.2) H ∧ va_D A (b_W t (b_ad ad O) (b_ln N O) cT (fun _ => 0) (fun _ _ => 0) (fun _ _ => 0)) ∧ O0.2 ≤ O.2 ∧ O.2 ≤ 7
abbrev f_G (x : ac_X) (g : b_S) (nL : Nat) (O0 : Nat × Nat) (M : f_S3) (O : Nat × Nat) (pc : Nat) (lv : List (Nat × Value)) (st : List Value) : Prop := ac_G x (b_A g) nL (f_P g O0 M O) (b_cc O0 O) (b_cs O0 O) pc lv st
abbrev f_St : Type := f_S3 × (Nat × Nat)
def f_Pre (g : b_S) (sz sm : Nat) (M : f_S3) (O : Nat × Nat) (U : State) : Prop := f_P g O M O U.heap ∧ b_K g U ∧ U.heap.size = sz ∧ hsum U.heap = sm
def f_Post (g : b_S) (sz sm : Nat) (O0 : Nat × Nat) (u : f_St) (t : State) : Prop := f_P g O0 u.1 u.2 t.heap ∧ t.heap.size ≤ sz + b_cc O0 u.2 ∧ hsum t.heap ≤ sm + b_cs O0 u.2
def f_MetI (l : Launch) (g : b_S) (y : MethodName) (cc : ByteArray) (nL : Nat) (ret : FieldType) (rk : Nat) (av : List Value) (M : f_S3) (O : Nat × Nat) (Q : Int32 → f_S3 → Nat × Nat → Prop) : Prop := ∀ sz sm : Nat,
  Met l y (.code y cc nL (some ret) :: ac_tbl) (b_room rk O) (va_Pc av (f_Pre g sz sm M O)) (va_Qi (fun r (u : f_St) => Q r u.1 u.2) (f_Post g sz sm O) (b_A g)) (b_mc O) (b_ms O) (b_A g)
def f_MetL (l : Launch) (g : b_S) (y : MethodName) (cc : ByteArray) (nL : Nat) (rk : Nat) (av : List Value) (M : f_S3) (O : Nat × Nat) (Q : Int64 → f_S3 → Nat × Nat → Prop) : Prop := ∀ sz sm : Nat,
  Met l y (.code y cc nL (some .long) :: ac_tbl) (b_room rk O) (va_Pc av (f_Pre g sz sm M O)) (va_Ql (fun r (u : f_St) => Q r u.1 u.2) (f_Post g sz sm O) (b_A g)) (b_mc O) (b_ms O) (b_A g)
def f_MetV (l : Launch) (g : b_S) (y : MethodName) (cc : ByteArray) (nL : Nat) (rk : Nat) (av : List Value) (M : f_S3) (O : Nat × Nat) (Q : f_S3 → Nat × Nat → Prop) : Prop := ∀ sz sm : Nat,
  Met l y (.code y cc nL none :: ac_tbl) (b_room rk O) (va_Pc av (f_Pre g sz sm M O)) (va_Qv (fun (u : f_St) => Q u.1 u.2) (f_Post g sz sm O) (b_A g)) (b_mc O) (b_ms O) (b_A g)
theorem f_blind {g : b_S} {sz sm : Nat} {M : f_S3} {O : Nat × Nat} {av : List Value} : FrameBlind (va_Pc av (f_Pre g sz sm M O)) := fun a U g9 mk q => ⟨q.1, q.2.1, b_K.go (U := U.calling g9 mk a) (State.WarmedH.refl U) (Nat.le_refl _) (fun _ _ _ => rfl) q.2.2.1, q.2.2.2.1, q.2.2.2.2⟩
def f_RI (x : ac_X) (g : b_S) (nL : Nat) (cc : ByteArray) (ret : FieldType) (O0 : Nat × Nat) (Q : Int32 → f_S3 → Nat × Nat → Prop) : Prop := ∀ (pc : Nat) (lv : List (Nat × Value)) (r : Int32) (M : f_S3) (O : Nat × Nat), decode cc pc = .ok (.ireturn, 1) → narrow ret (.int r) = .int r → Q r M O → f_G x g nL O0 M O pc lv [.int r]
def f_RL (x : ac_X) (g : b_S) (nL : Nat) (cc : ByteArray) (O0 : Nat × Nat) (Q : Int64 → f_S3 → Nat × Nat → Prop) : Prop := ∀ (pc : Nat) (lv : List (Nat × Value)) (r : Int64) (M : f_S3) (O : Nat × Nat), decode cc pc = .ok (.lreturn, 1) → Q r M O → f_G x g nL O0 M O pc lv [.long r]
def f_RV (x : ac_X) (g : b_S) (nL : Nat) (cc : ByteArray) (O0 : Nat × Nat) (Q : f_S3 → Nat × Nat → Prop) : Prop := ∀ (pc : Nat) (lv : List (Nat × Value)) (M : f_S3) (O : Nat × Nat), decode cc pc = .ok (.return_, 1) → Q M O → f_G x g nL O0 M O pc lv []
theorem f_wid {g : b_S} {O0 O : Nat × Nat} {M : f_S3} {H : Heap} (h : f_P g O0 M O H) : b_cc O0 O ≤ b_mc O0 ∧ b_cs O0 O ≤ b_ms O0 := by
  obtain ⟨t, D, ad, N, cT, adK, adV, A, up⟩ := g
  obtain ⟨-, -, h1, h2⟩ := h
  have := b_le7 h2
  unfold b_cc b_cs b_mc b_ms
  omega
theorem f_MetI.of {l : Launch} {g : b_S} {y : MethodName} {C : String} {cc : ByteArray} {nL : Nat} {ret : FieldType} {rk : Nat} {av : List Value} {M : f_S3} {O : Nat × Nat} {Q : Int32 → f_S3 → Nat × Nat → Prop} (hy : plainName y.cls = true) (ho : y.cls = C) (hn : (lg_sl av).length ≤ nL)
    (body : ∀ x : ac_X, b_Cx x g l C cc nL rk O → f_RI x g nL cc ret O Q → f_G x g nL O M O 0 (lv_args 0 av) []) : f_MetI l g y cc nL ret rk av M O Q := by
  intro sz sm
  refine Met.ofW (cc := cc) (maxL := nL) (ret := some ret) hy rfl ?_
  intro p e s m args below meth c s₁ B hml hv
  obtain ⟨rfl, hP, hK, rfl, rfl⟩ := hv
  have hts := atoms_spec (ws := .code y cc nL (some ret) :: ac_tbl) B.pre
  have hown : s.vm.findClass C = some m.cls := by rw [← ho]; exact findClass_of_methodNamed B.named
  have hlocks := B.notSynchronized
  have hl := lv_entry av (n := nL) hn
  rw [lg_entry_eq]
  refine ac_zero O ?_
  refine body (p, l, e, _, s, m, _, below, meth, c, _) ⟨⟨B.exec, B.bytes, hml, hown, fun w hw => hts w (List.mem_cons_of_mem _ hw)⟩, hK, rfl, rfl⟩ ?_ s.heap [] _ hP va_S.rf hl
  intro pc lv r M' O' hd hn9 hq H locs ls hP' hS' _
  refine ac_know (fun k1 k2 => ?_)
  have hwd := f_wid hP'
  refine W.widen hwd.1 hwd.2 ?_
  exact W.zret (v := r) (ty := ret) B.exec B.bytes B.returns hn9 (fun t ht hW => ⟨⟨r, (M', O'), rfl, hq, by show f_Post g s.heap.size (hsum s.heap) O (M', O') t; unfold f_Post; rw [ht]; exact ⟨hP', k1, k2⟩⟩, by rw [va_F, ht]; exact ⟨hS'.1, hS'.2.1⟩⟩) hS'.2.2 hd
theorem f_MetL.of {l : Launch} {g : b_S} {y : MethodName} {C : String} {cc : ByteArray} {nL : Nat} {rk : Nat} {av : List Value} {M : f_S3} {O : Nat × Nat} {Q : Int64 → f_S3 → Nat × Nat → Prop} (hy : plainName y.cls = true) (ho : y.cls = C) (hn : (lg_sl av).length ≤ nL)
    (body : ∀ x : ac_X, b_Cx x g l C cc nL rk O → f_RL x g nL cc O Q → f_G x g nL O M O 0 (lv_args 0 av) []) : f_MetL l g y cc nL rk av M O Q := by
  intro sz sm
  refine Met.ofW (cc := cc) (maxL := nL) (ret := some .long) hy rfl ?_
  intro p e s m args below meth c s₁ B hml hv
  obtain ⟨rfl, hP, hK, rfl, rfl⟩ := hv
  have hts := atoms_spec (ws := .code y cc nL (some .long) :: ac_tbl) B.pre
  have hown : s.vm.findClass C = some m.cls := by rw [← ho]; exact findClass_of_methodNamed B.named
  have hlocks := B.notSynchronized
  have hl := lv_entry av (n := nL) hn
  rw [lg_entry_eq]
  refine ac_zero O ?_
  refine body (p, l, e, _, s, m, _, below, meth, c, _) ⟨⟨B.exec, B.bytes, hml, hown, fun w hw => hts w (List.mem_cons_of_mem _ hw)⟩, hK, rfl, rfl⟩ ?_ s.heap [] _ hP va_S.rf hl
  intro pc lv r M' O' hd hq H locs ls hP' hS' _
  refine ac_know (fun k1 k2 => ?_)
  have hwd := f_wid hP'
  refine W.widen hwd.1 hwd.2 ?_
  exact W.lret (v := r) B.exec B.bytes B.returns (fun t ht hW => ⟨⟨r, (M', O'), rfl, hq, by show f_Post g s.heap.size (hsum s.heap) O (M', O') t; unfold f_Post; rw [ht]; exact ⟨hP', k1, k2⟩⟩, by rw [va_F, ht]; exact ⟨hS'.1, hS'.2.1⟩⟩) hS'.2.2 hd
theorem f_MetV.of {l : Launch} {g : b_S} {y : MethodName} {C : String} {cc : ByteArray} {nL : Nat} {rk : Nat} {av : List Value} {M : f_S3} {O : Nat × Nat} {Q : f_S3 → Nat × Nat → Prop} (hy : plainName y.cls = true) (ho : y.cls = C) (hn : (lg_sl av).length ≤ nL)
    (body : ∀ x : ac_X, b_Cx x g l C cc nL rk O → f_RV x g nL cc O Q → f_G x g nL O M O 0 (lv_args 0 av) []) : f_MetV l g y cc nL rk av M O Q := by
  intro sz sm
  refine Met.ofW (cc := cc) (maxL := nL) (ret := none) hy rfl ?_
  intro p e s m args below meth c s₁ B hml hv
  obtain ⟨rfl, hP, hK, rfl, rfl⟩ := hv
  have hts := atoms_spec (ws := .code y cc nL (none) :: ac_tbl) B.pre
  have hown : s.vm.findClass C = some m.cls := by rw [← ho]; exact findClass_of_methodNamed B.named
  have hlocks := B.notSynchronized
  have hl := lv_entry av (n := nL) hn
  rw [lg_entry_eq]
  refine ac_zero O ?_
  refine body (p, l, e, _, s, m, _, below, meth, c, _) ⟨⟨B.exec, B.bytes, hml, hown, fun w hw => hts w (List.mem_cons_of_mem _ hw)⟩, hK, rfl, rfl⟩ ?_ s.heap [] _ hP va_S.rf hl
  intro pc lv M' O' hd hq H locs ls hP' hS' _
  refine ac_know (fun k1 k2 => ?_)
  have hwd := f_wid hP'
  refine W.widen hwd.1 hwd.2 ?_
  exact W.vret B.exec B.bytes B.returns (fun t ht hW => ⟨⟨(M', O'), rfl, hq, by show f_Post g s.heap.size (hsum s.heap) O (M', O') t; unfold f_Post; rw [ht]; exact ⟨hP', k1, k2⟩⟩, by rw [va_F, ht]; exact ⟨hS'.1, hS'.2.1⟩⟩) hS'.2.2 hd
section FR
variable {x : ac_X} {g : b_S} {l : Launch} {own : String} {cc : ByteArray} {nL rk : Nat} {O0 O : Nat × Nat} {M : f_S3} {pc : Nat} {lv : List (Nat × Value)} {st : List Value}
theorem f_geti (Z : b_Cx x g l own cc nL rk O0) {ci : Nat} {C : String} {T : u_T} {N : Nat} {ty : Nat → FieldType} (B : b_cls ci C T N ty) (i : Nat) {c off n : Nat} (hi : g.1.1[i]? = some (c, ci, off, n)) (k : Nat) (hk : k < n) (hn : k < N) (hr : g.1.2.2 (off + k) = none) {index : Nat} (hl : Cond.fieldLink own index C (T k).2.1 (T k).2.2.1 ∈ ac_tbl) {h : Nat} (hh : b_c g O c = h) {v : Int32} (hv : M.1 (off + k) = v) (hd : decode cc pc = .ok (.getfield index, 3))
    (kk : f_G x g nL O0 M O (pc + 3) lv (.int v :: st)) : f_G x g nL O0 M O pc lv (.ref h :: st) := by
  obtain ⟨p, l', e, R, s, m, args, below, meth, cd, Q⟩ := x
  obtain ⟨t, D, ad, NN, cT, adK, adV, A, up⟩ := g
  obtain ⟨CC, K, -⟩ := Z
  have hr : t.2.2 (off + k) = none := hr
  cases hh
  subst hv
  intro H locs ls hP hS hlv
  obtain ⟨hP1, hP2⟩ := hP
  exact va_get (C := C) (T := T) (N := N) CC.1 CC.2.1 CC.2.2.2.2 B.2.1 CC.2.2.2.1 K.2.1 hP1 i (b_Wobj _ _ _ _ _ _ _ hi) B.1 k hn (CC.2.2.2.2 _ hl) (fun q h9 => by rw [B.2.2.2.2 k hn] at h9; exact h9) (v := .int (M.1 (off + k))) (by rw [b_fs_at _ _ _ hk]; unfold b_val; rw [hr]) hd (kk H locs ls ⟨hP1, hP2⟩ hS hlv)
theorem f_getr (Z : b_Cx x g l own cc nL rk O0) {ci : Nat} {C : String} {T : u_T} {N : Nat} {ty : Nat → FieldType} (B : b_cls ci C T N ty) (i : Nat) {c off n : Nat} (hi : g.1.1[i]? = some (c, ci, off, n)) (k : Nat) (hk : k < n) (hn : k < N) {c2 : Nat} (hr : g.1.2.2 (off + k) = some c2) {index : Nat} (hl : Cond.fieldLink own index C (T k).2.1 (T k).2.2.1 ∈ ac_tbl) {h h2 : Nat} (hh : b_c g O c = h) (hh2 : b_c g O c2 = h2) (hd : decode cc pc = .ok (.getfield index, 3))
    (kk : f_G x g nL O0 M O (pc + 3) lv (.ref h2 :: st)) : f_G x g nL O0 M O pc lv (.ref h :: st) := by
  obtain ⟨p, l', e, R, s, m, args, below, meth, cd, Q⟩ := x
  obtain ⟨t, D, ad, NN, cT, adK, adV, A, up⟩ := g
  obtain ⟨CC, K, -⟩ := Z
  have hr : t.2.2 (off + k) = some c2 := hr
  cases hh
  cases hh2
  intro H locs ls hP hS hlv
  obtain ⟨hP1, hP2⟩ := hP
  exact va_get (C := C) (T := T) (N := N) CC.1 CC.2.1 CC.2.2.2.2 B.2.1 CC.2.2.2.1 K.2.1 hP1 i (b_Wobj _ _ _ _ _ _ _ hi) B.1 k hn (CC.2.2.2.2 _ hl) (fun q h9 => by rw [B.2.2.2.2 k hn] at h9; exact h9) (v := .ref (b_ad ad O c2)) (by rw [b_fs_at _ _ _ hk]; unfold b_val; rw [hr]) hd (kk H locs ls ⟨hP1, hP2⟩ hS hlv)
theorem f_put (Z : b_Cx x g l own cc nL rk O0) {ci : Nat} {C : String} {T : u_T} {N : Nat} {ty : Nat → FieldType} (B : b_cls ci C T N ty) (i : Nat) {c off n : Nat} (hi : g.1.1[i]? = some (c, ci, off, n)) (k : Nat) (hk : k < n) (hn : k < N) (hr : g.1.2.2 (off + k) = none) (hf : (T k).2.2.2 = false) (ht : ty k = .int) {index : Nat} (hl : Cond.fieldLink own index C (T k).2.1 (T k).2.2.1 ∈ ac_tbl) {h : Nat} (hh : b_c g O c = h) {I : Nat} (hI : off + k = I) {v : Int32} (hd : decode cc pc = .ok (.putfield index, 3))
    (kk : f_G x g nL O0 (fm M I v) O (pc + 3) lv st) : f_G x g nL O0 M O pc lv (.int v :: .ref h :: st) := by
  obtain ⟨p, l', e, R, s, m, args, below, meth, cd, Q⟩ := x
  obtain ⟨t, D, ad, NN, cT, adK, adV, A, up⟩ := g
  obtain ⟨CC, K, -⟩ := Z
  have hr : t.2.2 (off + k) = none := hr
  cases hh
  subst hI
  intro H locs ls hP hS hlv
  obtain ⟨hP1, hP2, hP3⟩ := hP
  refine va_put (C := C) (T := T) (N := N) (ty := .int) CC.1 CC.2.1 CC.2.2.2.2 B.2.1 ty B.2.2.1 B.2.2.2.1 CC.2.2.2.1 K.2.1 hP1 (b_Dgo hP2) hS i (b_Wobj _ _ _ _ _ _ _ hi) B.1 k hn (CC.2.2.2.2 _ hl) (fun q h9 => by rw [B.2.2.2.2 k hn] at h9; exact h9) hf (by rw [B.2.2.1 k hn, ht]) rfl rfl (by rw [b_fs_len]; exact hk) hd (fun H1 locs1 hP9 _ hS1 => ?_)
  have hw := b_Wput K.1 (b_ad ad O) (b_ln NN O) cT M.1 M.2.1 M.2.2 hi hk hr v
  exact kk H1 locs1 ls ⟨by show va_P _ _ _ _; exact hw ▸ hP9, hP2, hP3⟩ hS1 hlv
theorem f_alen (Z : b_Cx x g l own cc nL rk O0) (i : Nat) {c tt : Nat} (hi : g.1.2.1[i]? = some (c, tt)) {h : Nat} (hh : b_c g O c = h) {v : Int32} (hv : nI (b_n g O c) = v) (hd : decode cc pc = .ok (.arraylength, 1)) (h9 : tt < 4)
    (kk : f_G x g nL O0 M O (pc + 1) lv (.int v :: st)) : f_G x g nL O0 M O pc lv (.ref h :: st) := by
  obtain ⟨p, l', e, R, s, m, args, below, meth, cd, Q⟩ := x
  obtain ⟨t, D, ad, NN, cT, adK, adV, A, up⟩ := g
  obtain ⟨CC, K, -⟩ := Z
  cases hh
  intro H locs ls hP hS hlv
  obtain ⟨hP1, hP2⟩ := hP
  have ht : (b_tys cT)[tt]? = some (cT tt, b_ty tt) := by
    match tt, h9 with
    | 0, _ => rfl
    | 1, _ => rfl
    | 2, _ => rfl
    | 3, _ => rfl
  exact va_alen CC.1 CC.2.1 K.2.1 hP1 _ tt (b_Warr _ _ _ _ _ _ _ hi) ht hv hd (kk H locs ls ⟨hP1, hP2⟩ hS hlv)
theorem f_ald (Z : b_Cx x g l own cc nL rk O0) (i : Nat) {c : Nat} (hi : g.1.2.1[i]? = some (c, 0)) {h : Nat} (hh : b_c g O c = h) {j : Int32} (hj : vp_in j (b_n g O c)) {v : Int32} (hv : M.2.1 c j.toNatClampNeg = v) (hd : decode cc pc = .ok (.iaload, 1))
    (kk : f_G x g nL O0 M O (pc + 1) lv (.int v :: st)) : f_G x g nL O0 M O pc lv (.int j :: .ref h :: st) := by
  obtain ⟨p, l', e, R, s, m, args, below, meth, cd, Q⟩ := x
  obtain ⟨t, D, ad, NN, cT, adK, adV, A, up⟩ := g
  obtain ⟨CC, K, -⟩ := Z
  cases hh
  subst hv
  intro H locs ls hP hS hlv
  obtain ⟨hP1, hP2⟩ := hP
  exact va_iald CC.1 CC.2.1 K.2.1 hP1 _ 0 (b_Warr _ _ _ _ _ _ _ hi) rfl hj hd (kk H locs ls ⟨hP1, hP2⟩ hS hlv)
theorem f_bald (Z : b_Cx x g l own cc nL rk O0) (i : Nat) {c : Nat} (hi : g.1.2.1[i]? = some (c, 2)) {h : Nat} (hh : b_c g O c = h) {j : Int32} (hj : vp_in j (b_n g O c)) {v : Int32} (hv : M.2.1 c j.toNatClampNeg = v) (hd : decode cc pc = .ok (.baload, 1))
    (kk : f_G x g nL O0 M O (pc + 1) lv (.int v :: st)) : f_G x g nL O0 M O pc lv (.int j :: .ref h :: st) := by
  obtain ⟨p, l', e, R, s, m, args, below, meth, cd, Q⟩ := x
  obtain ⟨t, D, ad, NN, cT, adK, adV, A, up⟩ := g
  obtain ⟨CC, K, -⟩ := Z
  cases hh
  subst hv
  intro H locs ls hP hS hlv
  obtain ⟨hP1, hP2⟩ := hP
  exact va_bald CC.1 CC.2.1 K.2.1 hP1 _ 2 (b_Warr _ _ _ _ _ _ _ hi) rfl hj hd (kk H locs ls ⟨hP1, hP2⟩ hS hlv)
theorem f_lald (Z : b_Cx x g l own cc nL rk O0) (i : Nat) {c : Nat} (hi : g.1.2.1[i]? = some (c, 3)) {h : Nat} (hh : b_c g O c = h) {j : Int32} (hj : vp_in j (b_n g O c)) {v : Int64} (hv : M.2.2 c j.toNatClampNeg = v) (hd : decode cc pc = .ok (.laload, 1))
    (kk : f_G x g nL O0 M O (pc + 1) lv (.long v :: st)) : f_G x g nL O0 M O pc lv (.int j :: .ref h :: st) := by
  obtain ⟨p, l', e, R, s, m, args, below, meth, cd, Q⟩ := x
  obtain ⟨t, D, ad, NN, cT, adK, adV, A, up⟩ := g
  obtain ⟨CC, K, -⟩ := Z
  cases hh
  subst hv
  intro H locs ls hP hS hlv
  obtain ⟨hP1, hP2⟩ := hP
  exact va_lald CC.1 CC.2.1 K.2.1 hP1 _ 3 (b_Warr _ _ _ _ _ _ _ hi) rfl hj hd (kk H locs ls ⟨hP1, hP2⟩ hS hlv)
theorem f_ast (Z : b_Cx x g l own cc nL rk O0) (i : Nat) {c : Nat} (hi : g.1.2.1[i]? = some (c, 0)) {h : Nat} (hh : b_c g O c = h) {j : Int32} {v : Int32} (hj : vp_in j (b_n g O c)) (hd : decode cc pc = .ok (.iastore, 1))
    (kk : f_G x g nL O0 (ff M c j v) O (pc + 1) lv st) : f_G x g nL O0 M O pc lv (.int v :: .int j :: .ref h :: st) := by
  obtain ⟨p, l', e, R, s, m, args, below, meth, cd, Q⟩ := x
  obtain ⟨t, D, ad, NN, cT, adK, adV, A, up⟩ := g
  obtain ⟨CC, K, -⟩ := Z
  cases hh
  intro H locs ls hP hS hlv
  obtain ⟨hP1, hP2, hP3⟩ := hP
  refine va_iast CC.1 CC.2.1 K.2.1 hP1 (b_Dgo hP2) hS _ 0 (b_Warr _ _ _ _ _ _ _ hi) rfl hj hd (fun H1 locs1 hP9 _ hS1 => ?_)
  have hw := b_Wast K.1 (b_ad ad O) (b_ln NN O) cT M.1 M.2.1 M.2.2 hi rfl (upd (M.2.1 c) j.toNatClampNeg (v))
  exact kk H1 locs1 ls ⟨by show va_P _ _ _ _; rw [ff_w]; exact hw ▸ hP9, hP2, hP3⟩ hS1 hlv
theorem f_bast (Z : b_Cx x g l own cc nL rk O0) (i : Nat) {c : Nat} (hi : g.1.2.1[i]? = some (c, 2)) {h : Nat} (hh : b_c g O c = h) {j : Int32} {v : Int32} (hj : vp_in j (b_n g O c)) (hd : decode cc pc = .ok (.bastore, 1))
    (kk : f_G x g nL O0 (ff M c j (vp_nar .byte v)) O (pc + 1) lv st) : f_G x g nL O0 M O pc lv (.int v :: .int j :: .ref h :: st) := by
  obtain ⟨p, l', e, R, s, m, args, below, meth, cd, Q⟩ := x
  obtain ⟨t, D, ad, NN, cT, adK, adV, A, up⟩ := g
  obtain ⟨CC, K, -⟩ := Z
  cases hh
  intro H locs ls hP hS hlv
  obtain ⟨hP1, hP2, hP3⟩ := hP
  refine va_bast CC.1 CC.2.1 K.2.1 hP1 (b_Dgo hP2) hS _ 2 (b_Warr _ _ _ _ _ _ _ hi) rfl hj hd (fun H1 locs1 hP9 _ hS1 => ?_)
  have hw := b_Wast K.1 (b_ad ad O) (b_ln NN O) cT M.1 M.2.1 M.2.2 hi rfl (upd (M.2.1 c) j.toNatClampNeg (vp_nar .byte v))
  exact kk H1 locs1 ls ⟨by show va_P _ _ _ _; rw [ff_w]; exact hw ▸ hP9, hP2, hP3⟩ hS1 hlv
theorem f_last (Z : b_Cx x g l own cc nL rk O0) (i : Nat) {c : Nat} (hi : g.1.2.1[i]? = some (c, 3)) {h : Nat} (hh : b_c g O c = h) {j : Int32} {v : Int64} (hj : vp_in j (b_n g O c)) (hd : decode cc pc = .ok (.lastore, 1))
    (kk : f_G x g nL O0 (fj M c j v) O (pc + 1) lv st) : f_G x g nL O0 M O pc lv (.long v :: .int j :: .ref h :: st) := by
  obtain ⟨p, l', e, R, s, m, args, below, meth, cd, Q⟩ := x
  obtain ⟨t, D, ad, NN, cT, adK, adV, A, up⟩ := g
  obtain ⟨CC, K, -⟩ := Z
  cases hh
  intro H locs ls hP hS hlv
  obtain ⟨hP1, hP2, hP3⟩ := hP
  refine va_last CC.1 CC.2.1 K.2.1 hP1 (b_Dgo hP2) hS _ 3 (b_Warr _ _ _ _ _ _ _ hi) rfl hj hd (fun H1 locs1 hP9 _ hS1 => ?_)
  have hw := b_WastL K.1 (b_ad ad O) (b_ln NN O) cT M.1 M.2.1 M.2.2 hi rfl (vp_updL (M.2.2 c) j.toNatClampNeg (v))
  exact kk H1 locs1 ls ⟨by show va_P _ _ _ _; rw [fj_w]; exact hw ▸ hP9, hP2, hP3⟩ hS1 hlv
theorem f_kind (Z : b_Cx x g l own cc nL rk O0) {index : Nat} (hl : Cond.fieldLink own index "AppealCourt$Kind" "ONE_OF" "[I" ∈ ac_tbl) (hd : decode cc pc = .ok (.getstatic index, 3))
    (kk : ∀ a : Nat, (∀ (pc : Nat) (st : List Value) (j : Int32), vp_in j 7 → decode cc pc = .ok (.iaload, 1) → f_G x g nL O0 M O (pc + 1) lv (.int (k_one j.toNatClampNeg) :: st) → f_G x g nL O0 M O pc lv (.int j :: .ref a :: st)) → (∀ (pc : Nat) (st : List Value), decode cc pc = .ok (.arraylength, 1) → f_G x g nL O0 M O (pc + 1) lv (.int 7 :: st) → f_G x g nL O0 M O pc lv (.ref a :: st)) → f_G x g nL O0 M O (pc + 3) lv (.ref a :: st)) : f_G x g nL O0 M O pc lv st := by
  obtain ⟨p, l', e, R, s, m, args, below, meth, cd, Q⟩ := x
  obtain ⟨t, D, ad, NN, cT, adK, adV, A, up⟩ := g
  obtain ⟨CC, K, -⟩ := Z
  obtain ⟨a, f, h1, h2, h3⟩ := K.2.2.2.2.1
  have kk' := kk a (fun pc' st' j hj hd' kv H locs ls hP hS hlv => by
    have hjn : j.toNatClampNeg < 7 := Nat.not_le.mp fun q => hj (Or.inr q)
    have hv := h3 _ hjn
    exact va_ti CC.1 CC.2.1 h2 hS hj hv hd' (kv H locs ls hP hS hlv)) (fun pc' st' hd' kv H locs ls hP hS hlv => va_tlen CC.1 CC.2.1 h2 hS rfl hd' (kv H locs ls hP hS hlv))
  exact fun H locs ls hP hS hlv => va_gets CC.1 CC.2.1 h1 hS CC.2.2.2.1 (CC.2.2.2.2 _ hl) (fun _ h => h) hd (kk' H locs ls hP hS hlv)
end FR
theorem f_Pup {g : b_S} {O0 O O1 : Nat × Nat} {M : f_S3} {H : Heap} (h0 : O0.2 ≤ O.2) (h : f_P g O M O1 H) : f_P g O0 M O1 H := by
  obtain ⟨t, D, ad, NN, cT, adK, adV, A, up⟩ := g
  exact ⟨h.1, h.2.1, Nat.le_trans h0 h.2.2.1, h.2.2.2⟩
theorem f_Pin {g : b_S} {O0 O : Nat × Nat} {M : f_S3} {H : Heap} (h : f_P g O0 M O H) : f_P g O M O H ∧ O0.2 ≤ O.2 ∧ O.2 ≤ 7 := by
  obtain ⟨t, D, ad, NN, cT, adK, adV, A, up⟩ := g
  exact ⟨⟨h.1, h.2.1, Nat.le_refl _, h.2.2.2⟩, h.2.2.1, h.2.2.2⟩
theorem f_Ple {g : b_S} {O0 O : Nat × Nat} {M : f_S3} {H : Heap} (h : f_P g O0 M O H) : O0.2 ≤ O.2 := (f_Pin h).2.1
theorem f_recv {g : b_S} {s : State} {O0 O : Nat × Nat} {M : f_S3} {H : Heap} (K : b_K g s) (hP : f_P g O0 M O H) {ci : Nat} {C : String} {T : u_T} {N : Nat} (hc : ac_cl[ci]? = some (C, T, N)) {i c off n : Nat} (hi : g.1.1[i]? = some (c, ci, off, n)) {h : Nat} (hh : b_c g O c = h) : ∃ cell : Cell, H[h]? = some cell ∧ cell.vm.isStatics = false ∧ s.vm.findClass C = some cell.cls := by
  obtain ⟨t, D, ad, NN, cT, adK, adV, A, up⟩ := g
  cases hh
  obtain ⟨hP1, -⟩ := hP
  exact va_recv K.2.1 hP1 (ci := ci) (q0 := i) hc (b_Wobj _ _ _ _ _ _ _ hi)
section FC
variable {x : ac_X} {g : b_S} {l : Launch} {own : String} {cc0 : ByteArray} {nL0 rk0 : Nat} {O0 O : Nat × Nat} {M : f_S3} {pc : Nat} {lv : List (Nat × Value)} {st st0 : List Value} {y : MethodName} {cc : ByteArray} {nL rk n index : Nat} {As : List Value}
theorem f_calli (Z : b_Cx x g l own cc0 nL0 rk0 O0) {ret : FieldType} {Q : Int32 → f_S3 → Nat × Nat → Prop} {ci : Nat} {C1 : String} {T1 : u_T} {N1 : Nat} (hc : ac_cl[ci]? = some (C1, T1, N1)) (i : Nat) {c off nf : Nat} (hi : g.1.1[i]? = some (c, ci, off, nf)) {h : Nat} (hh : b_c g O c = h) (hw : ac_vw C1 y cc nL (some ret) n) (hl : Cond.methodLink own index y ∈ ac_tbl) (hk : rk + 1 ≤ rk0) (hM : f_MetI l g y cc nL ret rk (.ref h :: As) M O Q) (hn : As.length = n) (hs : st0 = As.reverse ++ .ref h :: st) (hr : (st.map fun v => v.category).sum ≤ 8) (hd : decode cc0 pc = .ok (.invokevirtual index, 3))
    (kk : ∀ r M' O', Q r M' O' → f_G x g nL0 O0 M' O' (pc + 3) lv (.int r :: st)) : f_G x g nL0 O0 M O pc lv st0 := by
  obtain ⟨p, l', e, R, s, m, args, below, meth, c9, Q0⟩ := x
  obtain ⟨C, K, hR, rfl⟩ := Z
  obtain ⟨w1, w2, w3, w4, w5, w6, w7, w8, w9⟩ := hw
  have hb := b_callB (O := O) (own := own) (index := index) C.2.2.2.2 hR hk (by rw [w1]; exact w2) (by rw [w1]; exact w3) w4 w5 (by rw [w1]; exact w8) w9 hl
  have K : b_K g s := K
  intro H locs ls hP hS hlv
  obtain ⟨p1, p2, p3⟩ := f_Pin hP
  have hsm := b_sum p2 p3
  have hRc : R.cells = b_mc O0 ∧ R.slots = b_ms O0 := by rw [show R = b_room rk0 O0 from hR]; exact ⟨rfl, rfl⟩
  refine ac_know (fun k1 k2 => ?_)
  refine va_calli (va_runV (As := As) (rest := st) C (hM H.size (hsum H)) ⟨hb, C.2.2.2.2 _ w6, C.2.2.2.2 _ w7⟩ (by exact ⟨f_blind, f_recv K hP hc hi hh, fun U hU hW => ⟨rfl, by show f_P g O M O U.heap; rw [hU]; exact p1, b_K.go hW (by rw [hU]; exact hS.1) (by rw [hU]; exact hS.2.1) K, by rw [hU], by rw [hU]⟩⟩) rfl hn hlv.1 hs (lv_room hr) hd ⟨by rw [hRc.1]; exact hsm.1, by rw [hRc.2]; exact hsm.2⟩) hS (fun q _ h9 => h9) (fun q h9 => h9) (fun r u t H1 locs1 ht hvm hq hB hz1 hk1 hS1 => ?_)
  obtain ⟨q1, q2, q3⟩ := hB
  rw [ht] at q1 q2 q3
  have hle := f_Ple q1
  have hsum2 := b_sum2 p2 hle
  refine ac_recount (b_cc O0 u.2) (b_cs O0 u.2) (by omega) (by omega) ?_
  exact kk r u.1 u.2 hq H1 locs1 ls (f_Pup p2 q1) hS1 hlv
theorem f_calliS (Z : b_Cx x g l own cc0 nL0 rk0 O0) {ret : FieldType} {Q : Int32 → f_S3 → Nat × Nat → Prop} {C1 : String} (hw : ac_sw C1 y cc nL (some ret) n) (hl : Cond.methodLink own index y ∈ ac_tbl) (hk : rk + 1 ≤ rk0) (hM : f_MetI l g y cc nL ret rk As M O Q) (hn : As.length = n) (hs : st0 = As.reverse ++ st) (hr : (st.map fun v => v.category).sum ≤ 8) (hd : decode cc0 pc = .ok (.invokestatic index, 3))
    (kk : ∀ r M' O', Q r M' O' → f_G x g nL0 O0 M' O' (pc + 3) lv (.int r :: st)) : f_G x g nL0 O0 M O pc lv st0 := by
  obtain ⟨p, l', e, R, s, m, args, below, meth, c9, Q0⟩ := x
  obtain ⟨C, K, hR, rfl⟩ := Z
  obtain ⟨w1, w2, w3, w4, w5, w6, w8, w9⟩ := hw
  have hb := b_callB (O := O) (own := own) (index := index) C.2.2.2.2 hR hk (by rw [w1]; exact w2) (by rw [w1]; exact w3) w4 w5 (by rw [w1]; exact w8) w9 hl
  have K : b_K g s := K
  intro H locs ls hP hS hlv
  obtain ⟨p1, p2, p3⟩ := f_Pin hP
  have hsm := b_sum p2 p3
  have hRc : R.cells = b_mc O0 ∧ R.slots = b_ms O0 := by rw [show R = b_room rk0 O0 from hR]; exact ⟨rfl, rfl⟩
  refine ac_know (fun k1 k2 => ?_)
  refine va_calli (va_runS (As := As) (rest := st) C (hM H.size (hsum H)) ⟨hb, C.2.2.2.2 _ w6⟩ (by exact ⟨f_blind, fun U hU hW => ⟨rfl, by show f_P g O M O U.heap; rw [hU]; exact p1, b_K.go hW (by rw [hU]; exact hS.1) (by rw [hU]; exact hS.2.1) K, by rw [hU], by rw [hU]⟩⟩) rfl hn hlv.1 hs (lv_room hr) hd ⟨by rw [hRc.1]; exact hsm.1, by rw [hRc.2]; exact hsm.2⟩) hS (fun q _ h9 => h9) (fun q h9 => h9) (fun r u t H1 locs1 ht hvm hq hB hz1 hk1 hS1 => ?_)
  obtain ⟨q1, q2, q3⟩ := hB
  rw [ht] at q1 q2 q3
  have hle := f_Ple q1
  have hsum2 := b_sum2 p2 hle
  refine ac_recount (b_cc O0 u.2) (b_cs O0 u.2) (by omega) (by omega) ?_
  exact kk r u.1 u.2 hq H1 locs1 ls (f_Pup p2 q1) hS1 hlv
theorem f_calllS (Z : b_Cx x g l own cc0 nL0 rk0 O0) {Q : Int64 → f_S3 → Nat × Nat → Prop} {C1 : String} (hw : ac_sw C1 y cc nL (some .long) n) (hl : Cond.methodLink own index y ∈ ac_tbl) (hk : rk + 1 ≤ rk0) (hM : f_MetL l g y cc nL rk As M O Q) (hn : As.length = n) (hs : st0 = As.reverse ++ st) (hr : (st.map fun v => v.category).sum ≤ 8) (hd : decode cc0 pc = .ok (.invokestatic index, 3))
    (kk : ∀ r M' O', Q r M' O' → f_G x g nL0 O0 M' O' (pc + 3) lv (.long r :: st)) : f_G x g nL0 O0 M O pc lv st0 := by
  obtain ⟨p, l', e, R, s, m, args, below, meth, c9, Q0⟩ := x
  obtain ⟨C, K, hR, rfl⟩ := Z
  obtain ⟨w1, w2, w3, w4, w5, w6, w8, w9⟩ := hw
  have hb := b_callB (O := O) (own := own) (index := index) C.2.2.2.2 hR hk (by rw [w1]; exact w2) (by rw [w1]; exact w3) w4 w5 (by rw [w1]; exact w8) w9 hl
  have K : b_K g s := K
  intro H locs ls hP hS hlv
  obtain ⟨p1, p2, p3⟩ := f_Pin hP
  have hsm := b_sum p2 p3
  have hRc : R.cells = b_mc O0 ∧ R.slots = b_ms O0 := by rw [show R = b_room rk0 O0 from hR]; exact ⟨rfl, rfl⟩
  refine ac_know (fun k1 k2 => ?_)
  refine va_calll (va_runS (As := As) (rest := st) C (hM H.size (hsum H)) ⟨hb, C.2.2.2.2 _ w6⟩ (by exact ⟨f_blind, fun U hU hW => ⟨rfl, by show f_P g O M O U.heap; rw [hU]; exact p1, b_K.go hW (by rw [hU]; exact hS.1) (by rw [hU]; exact hS.2.1) K, by rw [hU], by rw [hU]⟩⟩) rfl hn hlv.1 hs (lv_room hr) hd ⟨by rw [hRc.1]; exact hsm.1, by rw [hRc.2]; exact hsm.2⟩) hS (fun q _ h9 => h9) (fun q h9 => h9) (fun r u t H1 locs1 ht hvm hq hB hz1 hk1 hS1 => ?_)
  obtain ⟨q1, q2, q3⟩ := hB
  rw [ht] at q1 q2 q3
  have hle := f_Ple q1
  have hsum2 := b_sum2 p2 hle
  refine ac_recount (b_cc O0 u.2) (b_cs O0 u.2) (by omega) (by omega) ?_
  exact kk r u.1 u.2 hq H1 locs1 ls (f_Pup p2 q1) hS1 hlv
theorem f_callv (Z : b_Cx x g l own cc0 nL0 rk0 O0) {Q : f_S3 → Nat × Nat → Prop} {ci : Nat} {C1 : String} {T1 : u_T} {N1 : Nat} (hc : ac_cl[ci]? = some (C1, T1, N1)) (i : Nat) {c off nf : Nat} (hi : g.1.1[i]? = some (c, ci, off, nf)) {h : Nat} (hh : b_c g O c = h) (hw : ac_vw C1 y cc nL none n) (hl : Cond.methodLink own index y ∈ ac_tbl) (hk : rk + 1 ≤ rk0) (hM : f_MetV l g y cc nL rk (.ref h :: As) M O Q) (hn : As.length = n) (hs : st0 = As.reverse ++ .ref h :: st) (hr : (st.map fun v => v.category).sum ≤ 8) (hd : decode cc0 pc = .ok (.invokevirtual index, 3))
    (kk : ∀ M' O', Q M' O' → f_G x g nL0 O0 M' O' (pc + 3) lv (st)) : f_G x g nL0 O0 M O pc lv st0 := by
  obtain ⟨p, l', e, R, s, m, args, below, meth, c9, Q0⟩ := x
  obtain ⟨C, K, hR, rfl⟩ := Z
  obtain ⟨w1, w2, w3, w4, w5, w6, w7, w8, w9⟩ := hw
  have hb := b_callB (O := O) (own := own) (index := index) C.2.2.2.2 hR hk (by rw [w1]; exact w2) (by rw [w1]; exact w3) w4 w5 (by rw [w1]; exact w8) w9 hl
  have K : b_K g s := K
  intro H locs ls hP hS hlv
  obtain ⟨p1, p2, p3⟩ := f_Pin hP
  have hsm := b_sum p2 p3
  have hRc : R.cells = b_mc O0 ∧ R.slots = b_ms O0 := by rw [show R = b_room rk0 O0 from hR]; exact ⟨rfl, rfl⟩
  refine ac_know (fun k1 k2 => ?_)
  refine va_callv (va_runV (As := As) (rest := st) C (hM H.size (hsum H)) ⟨hb, C.2.2.2.2 _ w6, C.2.2.2.2 _ w7⟩ (by exact ⟨f_blind, f_recv K hP hc hi hh, fun U hU hW => ⟨rfl, by show f_P g O M O U.heap; rw [hU]; exact p1, b_K.go hW (by rw [hU]; exact hS.1) (by rw [hU]; exact hS.2.1) K, by rw [hU], by rw [hU]⟩⟩) rfl hn hlv.1 hs (lv_room hr) hd ⟨by rw [hRc.1]; exact hsm.1, by rw [hRc.2]; exact hsm.2⟩) hS (fun q _ h9 => h9) (fun q h9 => h9) (fun u t H1 locs1 ht hvm hq hB hz1 hk1 hS1 => ?_)
  obtain ⟨q1, q2, q3⟩ := hB
  rw [ht] at q1 q2 q3
  have hle := f_Ple q1
  have hsum2 := b_sum2 p2 hle
  refine ac_recount (b_cc O0 u.2) (b_cs O0 u.2) (by omega) (by omega) ?_
  exact kk u.1 u.2 hq H1 locs1 ls (f_Pup p2 q1) hS1 hlv
end FC
def f_MetR (l : Launch) (g : b_S) (c : Nat) (rt : FieldType) (y : MethodName) (cc : ByteArray) (nL : Nat) (rk : Nat) (av : List Value) (M : f_S3) (O : Nat × Nat) (Q : f_S3 → Nat × Nat → Prop) : Prop := ∀ sz sm : Nat,
  Met l y (.code y cc nL (some rt) :: ac_tbl) (b_room rk O) (va_Pc av (f_Pre g sz sm M O)) (va_Qr (fun (u : f_St) => Q u.1 u.2) (fun u a t => a = b_o g c ∧ f_Post g sz sm O u t) (b_A g)) (b_mc O) (b_ms O) (b_A g)
def f_RR (x : ac_X) (g : b_S) (c : Nat) (nL : Nat) (cc : ByteArray) (O0 : Nat × Nat) (Q : f_S3 → Nat × Nat → Prop) : Prop := ∀ (pc : Nat) (lv : List (Nat × Value)) (M : f_S3) (O : Nat × Nat), decode cc pc = .ok (.areturn, 1) → Q M O → f_G x g nL O0 M O pc lv [.ref (b_o g c)]
theorem f_MetR.of {l : Launch} {g : b_S} {c0 : Nat} {rn : String} {y : MethodName} {C : String} {cc : ByteArray} {nL : Nat} {rk : Nat} {av : List Value} {M : f_S3} {O : Nat × Nat} {Q : f_S3 → Nat × Nat → Prop} (hy : plainName y.cls = true) (ho : y.cls = C) (hn : (lg_sl av).length ≤ nL)
    (body : ∀ x : ac_X, b_Cx x g l C cc nL rk O → f_RR x g c0 nL cc O Q → f_G x g nL O M O 0 (lv_args 0 av) []) : f_MetR l g c0 (.object rn) y cc nL rk av M O Q := by
  intro sz sm
  refine Met.ofW (cc := cc) (maxL := nL) (ret := some (.object rn)) hy rfl ?_
  intro p e s m args below meth c s₁ B hml hv
  obtain ⟨rfl, hP, hK, rfl, rfl⟩ := hv
  have hts := atoms_spec (ws := .code y cc nL (some (.object rn)) :: ac_tbl) B.pre
  have hown : s.vm.findClass C = some m.cls := by rw [← ho]; exact findClass_of_methodNamed B.named
  have hlocks := B.notSynchronized
  have hl := lv_entry av (n := nL) hn
  rw [lg_entry_eq]
  refine ac_zero O ?_
  refine body (p, l, e, _, s, m, _, below, meth, c, _) ⟨⟨B.exec, B.bytes, hml, hown, fun w hw => hts w (List.mem_cons_of_mem _ hw)⟩, hK, rfl, rfl⟩ ?_ s.heap [] _ hP va_S.rf hl
  intro pc lv M' O' hd hq H locs ls hP' hS' _
  refine ac_know (fun k1 k2 => ?_)
  have hwd := f_wid hP'
  refine W.widen hwd.1 hwd.2 ?_
  exact W.aret (v := .ref (b_o g c0)) B.exec B.bytes B.returns (Or.inl ⟨rn, rfl⟩) (Or.inr ⟨_, rfl⟩) (fun t ht hW => ⟨⟨(M', O'), b_o g c0, rfl, hq, rfl, by show f_Post g s.heap.size (hsum s.heap) O (M', O') t; unfold f_Post; rw [ht]; exact ⟨hP', k1, k2⟩⟩, by rw [va_F, ht]; exact ⟨hS'.1, hS'.2.1⟩⟩) hS'.2.2 hd
theorem f_room0 {g : b_S} {O0 O : Nat × Nat} {M : f_S3} {H : Heap} {R : Room} {rk0 : Nat} (hP : f_P g O0 M O H) (hR : R = b_room rk0 O0) : b_cc O0 O + 0 ≤ R.cells ∧ b_cs O0 O + 0 ≤ R.slots := by
  subst hR
  exact f_wid hP
