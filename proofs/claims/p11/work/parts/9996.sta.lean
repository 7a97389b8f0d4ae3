/-! WHAT HOLDS AT THE LAW'S START: the classes, the arrays' classes, the string constants, the statics. -/
section STA
theorem sta_arr {args : Array Value} {s : State} {ty : FieldType} (h : (Cond.arrayClass ty).before args s = true) : ∃ cA : ClassId, ArrOfT s cA ty ∧ s.vm.findClass ("[" ++ ty.toString) = some cA := by
  obtain ⟨cA, kA, comp, h1, h2, h3⟩ := Cond.arrayClass_spec h
  exact ⟨cA, fun n z => ⟨fun k h => (by cases h), kA, h2, comp, h3⟩, h1⟩
def sta_k (i : Nat) : Term := Term.string (s_own i) (s_ix i)
def sta_L : List Cond := flatC (Jvm.Cond.and given_1 narrow_1)
def sta_v (i : Nat) : Term := .field (sta_k i) "java/lang/String" "value" "[B"
theorem sta_hex : ∀ i, i < 4 → (Cond.exactly (sta_k i) "java/lang/String") ∈ sta_L := fun i hi => match i, hi with
  | 0, _ => List.mem_of_getElem? (i := 19) (by decide +kernel)
  | 1, _ => List.mem_of_getElem? (i := 201) (by decide +kernel)
  | 2, _ => List.mem_of_getElem? (i := 219) (by decide +kernel)
  | 3, _ => List.mem_of_getElem? (i := 367) (by decide +kernel)
theorem sta_hco : ∀ i, i < 4 → (Cond.eq (.field (sta_k i) "java/lang/String" "coder" "B") (.int 0)) ∈ sta_L := fun i hi => match i, hi with
  | 0, _ => List.mem_of_getElem? (i := 20) (by decide +kernel)
  | 1, _ => List.mem_of_getElem? (i := 202) (by decide +kernel)
  | 2, _ => List.mem_of_getElem? (i := 220) (by decide +kernel)
  | 3, _ => List.mem_of_getElem? (i := 368) (by decide +kernel)
theorem sta_har : ∀ i, i < 4 → (Cond.arrayOf (sta_v i) .byte) ∈ sta_L := fun i hi => match i, hi with
  | 0, _ => List.mem_of_getElem? (i := 21) (by decide +kernel)
  | 1, _ => List.mem_of_getElem? (i := 203) (by decide +kernel)
  | 2, _ => List.mem_of_getElem? (i := 221) (by decide +kernel)
  | 3, _ => List.mem_of_getElem? (i := 369) (by decide +kernel)
theorem sta_hle : ∀ i, i < 4 → (Cond.eq (.length (sta_v i)) (.int (Int32.ofNat (s_len.getD i 0)))) ∈ sta_L := fun i hi => match i, hi with
  | 0, _ => List.mem_of_getElem? (i := 22) (by decide +kernel)
  | 1, _ => List.mem_of_getElem? (i := 204) (by decide +kernel)
  | 2, _ => List.mem_of_getElem? (i := 222) (by decide +kernel)
  | 3, _ => List.mem_of_getElem? (i := 370) (by decide +kernel)
def sta_e (i j : Nat) : Cond := Cond.eq (.elem (sta_v i) (.int (Int32.ofNat j))) (.int ((s_byt.getD i []).getD j 0))
theorem sta_hel : ∀ i, i < 4 → ∀ j, j < s_len.getD i 0 → sta_e i j ∈ sta_L := fun i hi => match i, hi with
  | 0, _ => fun j hj => va_run (L := sta_L) (N := 178) (p := 23) (f := sta_e 0) (by decide +kernel) j hj
  | 1, _ => fun j hj => va_run (L := sta_L) (N := 13) (p := 205) (f := sta_e 1) (by decide +kernel) j hj
  | 2, _ => fun j hj => va_run (L := sta_L) (N := 142) (p := 223) (f := sta_e 2) (by decide +kernel) j hj
  | 3, _ => fun j hj => va_run (L := sta_L) (N := 38) (p := 371) (f := sta_e 3) (by decide +kernel) j hj
def sta_n (i j : Nat) : Cond := Cond.not (Cond.eq (sta_k i) (sta_k j))
theorem sta_hne : ∀ i j, i < 4 → j < 4 → i ≠ j → sta_n i j ∈ sta_L ∨ sta_n j i ∈ sta_L := fun i j hi hj hn => match i, j, hi, hj with
  | 0, 0, _, _ => absurd rfl hn
  | 0, 1, _, _ => .inl (List.mem_of_getElem? (i := 218) (by decide +kernel))
  | 0, 2, _, _ => .inl (List.mem_of_getElem? (i := 365) (by decide +kernel))
  | 0, 3, _, _ => .inl (List.mem_of_getElem? (i := 409) (by decide +kernel))
  | 1, 0, _, _ => .inr (List.mem_of_getElem? (i := 218) (by decide +kernel))
  | 1, 1, _, _ => absurd rfl hn
  | 1, 2, _, _ => .inl (List.mem_of_getElem? (i := 366) (by decide +kernel))
  | 1, 3, _, _ => .inl (List.mem_of_getElem? (i := 410) (by decide +kernel))
  | 2, 0, _, _ => .inr (List.mem_of_getElem? (i := 365) (by decide +kernel))
  | 2, 1, _, _ => .inr (List.mem_of_getElem? (i := 366) (by decide +kernel))
  | 2, 2, _, _ => absurd rfl hn
  | 2, 3, _, _ => .inl (List.mem_of_getElem? (i := 411) (by decide +kernel))
  | 3, 0, _, _ => .inr (List.mem_of_getElem? (i := 409) (by decide +kernel))
  | 3, 1, _, _ => .inr (List.mem_of_getElem? (i := 410) (by decide +kernel))
  | 3, 2, _, _ => .inr (List.mem_of_getElem? (i := 411) (by decide +kernel))
  | 3, 3, _, _ => absurd rfl hn
theorem sta_str {b : Nat} {s : State} (hts : ∀ w ∈ lw_tbl, w.before #[Value.ref b] s = true) (hgv : (Jvm.Cond.and given_1 narrow_1).before #[Value.ref b] s = true) : ∃ adK adV, st_K adK adV (fun q => s.heap.size ≤ q) s s.heap := by
  have hg : ∀ w ∈ sta_L, w.before #[Value.ref b] s = true := flat_of_before _ hgv
  have hA : ∀ a : Nat, a < s.heap.size → ¬ (fun q => s.heap.size ≤ q) a := fun a ha h => Nat.lt_irrefl _ (Nat.lt_of_lt_of_le ha h)
  obtain ⟨adK, adV, h1, h2⟩ := vk_Sof (args := #[Value.ref b]) (N := 4) (tm := sta_k) (len := s_len) (byt := s_byt) (A := fun q => s.heap.size ≤ q) (by decide +kernel) (fun i hi => hg _ (sta_hex i hi)) (fun i hi => hg _ (sta_hco i hi)) (fun i hi => hg _ (sta_har i hi)) (fun i hi => hg _ (sta_hle i hi)) (fun i hi j hj => hg _ (sta_hel i hi j hj)) (fun i j hi hj hn => (sta_hne i j hi hj hn).elim (fun h => .inl (hg _ h)) (fun h => .inr (hg _ h))) hA
  refine ⟨adK, adV, h1, ?_, ?_, ?_⟩
  · intro i hi
    refine vk_R.of (A := #[Value.ref b]) ?_ (h2 i hi)
    refine hts _ ?_
    match i, hi with
    | 0, _ => exact List.mem_of_getElem? (i := 522) (by decide +kernel)
    | 1, _ => exact List.mem_of_getElem? (i := 621) (by decide +kernel)
    | 2, _ => exact List.mem_of_getElem? (i := 1537) (by decide +kernel)
    | 3, _ => exact List.mem_of_getElem? (i := 1538) (by decide +kernel)
  · exact va_Zof (args := #[Value.ref b]) (hts _ (List.mem_of_getElem? (i := 532) (by decide +kernel))) (hts _ (by decide +kernel)) (va_eqt (hg _ (List.mem_of_getElem? (i := 4) (by decide +kernel)))) hA
  · exact va_Zqof (args := #[Value.ref b]) (hts _ (List.mem_of_getElem? (i := 548) (by decide +kernel))) (hts _ (by decide +kernel)) (hg _ (List.mem_of_getElem? (i := 5) (by decide +kernel))) hA
def sta_o (j : Nat) : Cond := Cond.eq (.elem (.static "AppealCourt$Kind" "ONE_OF" "[I") (.int (Int32.ofNat j))) (.int (([-1, 0, 1, 1, 0, 4, 4] : List Int32).getD j 0))
theorem sta_kt {b : Nat} {s : State} (hts : ∀ w ∈ lw_tbl, w.before #[Value.ref b] s = true) (hgv : (Jvm.Cond.and given_1 narrow_1).before #[Value.ref b] s = true) : k_T (fun q => s.heap.size ≤ q) s s.heap := by
  have hg : ∀ w ∈ sta_L, w.before #[Value.ref b] s = true := flat_of_before _ hgv
  have hA : ∀ a : Nat, a < s.heap.size → ¬ (fun q => s.heap.size ≤ q) a := fun a ha h => Nat.lt_irrefl _ (Nat.lt_of_lt_of_le ha h)
  obtain ⟨t, h1, h2⟩ := va_Tof (args := #[Value.ref b]) (s := s) (tm := .static "AppealCourt$Kind" "ONE_OF" "[I") (ty := .int) (N := 7) (f := fun j => .int (([-1, 0, 1, 1, 0, 4, 4] : List Int32).getD j 0)) (A := fun q => s.heap.size ≤ q) (by decide) (hg _ (List.mem_of_getElem? (i := 10) (by decide +kernel))) (va_eqt (hg _ (List.mem_of_getElem? (i := 11) (by decide +kernel)))) (fun j hj => va_eqt (hg _ (va_run (L := sta_L) (N := 7) (p := 12) (f := sta_o) (by decide +kernel) j hj))) hA
  exact ⟨t, _, va_Zof (args := #[Value.ref b]) (hts _ (List.mem_of_getElem? (i := 1098) (by decide +kernel))) (hts _ (by decide +kernel)) h1 hA, h2, fun j _ => rfl⟩
theorem sta_cls {b : Nat} {s : State} (hts : ∀ w ∈ lw_tbl, w.before #[Value.ref b] s = true) : ∃ D : va_G, ∀ (c : Nat) (q : vw_C), ac_cl[c]? = some q → u_Kn s q.1 q.2.1 q.2.2 (D.1 c) (D.2 c) := by
  have ht : ∀ w ∈ ac_tbl, w.before #[Value.ref b] s = true := fun w h => hts w (List.mem_filter.mp h).1
  obtain ⟨c0, i0, h0⟩ := u_known ht b_X0.2.1 (ht _ niX0)
  obtain ⟨c2, i2, h2⟩ := u_known ht b_X2.2.1 (ht _ niX2)
  obtain ⟨c4, i4, h4⟩ := u_known ht b_X4.2.1 (ht _ niX4)
  obtain ⟨c5, i5, h5⟩ := u_known ht b_X5.2.1 (ht _ niX5)
  obtain ⟨c6, i6, h6⟩ := u_known ht b_X6.2.1 (ht _ niX6)
  obtain ⟨c7, i7, h7⟩ := u_known ht b_X7.2.1 (ht _ niX7)
  obtain ⟨c8, i8, h8⟩ := u_known ht b_X8.2.1 (ht _ niX8)
  obtain ⟨c10, i10, h10⟩ := u_known ht b_X10.2.1 (ht _ niX10)
  obtain ⟨c11, i11, h11⟩ := u_known ht b_X11.2.1 (ht _ niX11)
  obtain ⟨c12, i12, h12⟩ := u_known ht b_X12.2.1 (ht _ niX12)
  refine ⟨(fun k => [c0, c0, c2, c0, c4, c5, c6, c7, c8, c0, c10, c11, c12].getD k c0, fun k => [i0, i0, i2, i0, i4, i5, i6, i7, i8, i0, i10, i11, i12].getD k i0), ?_⟩
  intro c q hc
  match c, hc with
  | 0, hc => cases hc; exact h0
  | 1, hc => cases hc; exact h0
  | 2, hc => cases hc; exact h2
  | 3, hc => cases hc; exact h0
  | 4, hc => cases hc; exact h4
  | 5, hc => cases hc; exact h5
  | 6, hc => cases hc; exact h6
  | 7, hc => cases hc; exact h7
  | 8, hc => cases hc; exact h8
  | 9, hc => cases hc; exact h0
  | 10, hc => cases hc; exact h10
  | 11, hc => cases hc; exact h11
  | 12, hc => cases hc; exact h12
  | n + 13, hc => cases hc
theorem sta_tys {b : Nat} {s : State} (hts : ∀ w ∈ lw_tbl, w.before #[Value.ref b] s = true) : ∃ cT : Nat → ClassId, ∀ (k : Nat) (q : ClassId × FieldType), (b_tys cT)[k]? = some q → ArrOfT s q.1 q.2 ∧ va_RA s q.1 q.2 := by
  obtain ⟨c0, h0⟩ := sta_arr (ty := .int) (hts (Cond.arrayClass .int) (by decide +kernel))
  obtain ⟨c1, h1⟩ := sta_arr (ty := .boolean) (hts (Cond.arrayClass .boolean) (by decide +kernel))
  obtain ⟨c2, h2⟩ := sta_arr (ty := .byte) (hts (Cond.arrayClass .byte) (by decide +kernel))
  obtain ⟨c3, h3⟩ := sta_arr (ty := .long) (hts (Cond.arrayClass .long) (by decide +kernel))
  refine ⟨fun k => [c0, c1, c2, c3].getD k c0, ?_⟩
  intro k q hk
  match k, hk with
  | 0, hk => cases hk; exact h0
  | 1, hk => cases hk; exact h1
  | 2, hk => cases hk; exact h2
  | 3, hk => cases hk; exact h3
  | n + 4, hk => cases hk
theorem sta_nest {b : Nat} {s : State} (hts : ∀ w ∈ lw_tbl, w.before #[Value.ref b] s = true) : nw_nest s :=
  ⟨va_Nw.of rfl (hts _ (List.mem_of_getElem? (i := 219) (by decide +kernel))), va_Nw.of rfl (hts _ (List.mem_of_getElem? (i := 240) (by decide +kernel)))⟩
theorem sta_all {b : Nat} {s : State} (hts : ∀ w ∈ lw_tbl, w.before #[Value.ref b] s = true) (hgv : (Jvm.Cond.and given_1 narrow_1).before #[Value.ref b] s = true) : ∃ (D : va_G) (cT : Nat → ClassId) (adK adV : Nat → Nat), va_K D ac_cl (b_tys cT) s ∧ st_K adK adV (fun q => s.heap.size ≤ q) s s.heap ∧ k_T (fun q => s.heap.size ≤ q) s s.heap ∧ nw_nest s := by
  obtain ⟨D, h1⟩ := sta_cls hts
  obtain ⟨cT, h2⟩ := sta_tys hts
  obtain ⟨adK, adV, h3⟩ := sta_str hts hgv
  exact ⟨D, cT, adK, adV, ⟨h1, h2⟩, h3, sta_kt hts hgv, sta_nest hts⟩

end STA
