/-! THE CLASS'S READ, walked. -/
def rd_ms (n : Nat) : Nat := 180 + n + 1 + n + 1 + n + 1 + ((33 + n / 2 + 1)) + ((33 + n / 2 + 1)) + (2 * n + 16) + 33 + n / 2 + 1 + 33 + n / 2 + 1 + 33 + n / 2 + 1 + n / 9 + 1 + n / 9 + 1
theorem rd_ms_le (n : Nat) : rd_ms n ≤ 8 * n + 420 := by
  unfold rd_ms
  omega
def rd_ad (q b : Nat) (v : nw_U) : Nat → Nat := fun k => ([q, v.1 1, v.1 5, v.1 9, 0, 0, 0, 0, 0, 0, b, v.1 2, v.1 3, v.1 4, v.1 7, v.1 8, v.1 6, 0, 0, 0, v.1 12, v.1 10, v.1 11, v.1 13, v.1 14, v.1 15, v.1 16, v.1 17, v.1 0] : List Nat).getD k 0
def rd_N (b n : Nat) : Nat → Nat := fun k => ([0, 0, 0, 0, 0, 0, 0, 0, 0, 0, b, n + 1, n + 1, n + 1, 33 + n / 2 + 1, 33 + n / 2 + 1, 127, 0, 0, 0, 2 * n + 16, 16, 16, 33 + n / 2 + 1, 33 + n / 2 + 1, 33 + n / 2 + 1, n / 9 + 1, n / 9 + 1, 5] : List Nat).getD k 0
def rd_M (n : Nat) : Nat → Int32 := fun k => bif Nat.beq k 21 then nI n else 0
def rd_F (v : nw_U) (fb : Nat → Int32) : Nat → Nat → Int32 := fun k => bif Nat.beq k 10 then fb else bif Nat.beq k 16 then v.2 1 else bif Nat.beq k 23 then v.2 2 else bif Nat.beq k 25 then v.2 3 else bif Nat.beq k 28 then v.2 0 else fun _ => 0
/-- the class's table without the bytes that are fed -/
def rd_tb (c : Nat) : b_T := ((tb_T c).1, (tb_T c).2.1.tail, (tb_T c).2.2)
theorem rd_rN {b n : Nat} (hb : b = 4000) (hn : n ≤ 4000) : rN (rd_N b n) := by
  refine ⟨hb, rfl, rfl, ?_, rfl, ?_, rfl, ?_, rfl, rfl, rfl, rfl, rfl, rfl, ?_, rfl⟩
  · show n + 1 ≤ 4001; omega
  · show 33 + n / 2 + 1 < 100000; omega
  · show 2 * n + 16 < 1000000; omega
  · show n / 9 + 1 < 100000; omega
def rd_M2 (M MR : Nat → Int32) : Nat → Int32 := fun k => bif Nat.beq k 63 then MR 63 else bif Nat.beq k 64 then MR 64 else M k
def rd_a2 (c : Nat) (ad : Nat → Nat) (O : Nat × Nat) (v : nw_U) : Nat → Nat := fun k => bif Nat.beq k 5 then v.1 9 else bif Nat.beq k 20 then v.1 12 else bif Nat.beq k 21 then v.1 10 else bif Nat.beq k 22 then v.1 11 else bif Nat.beq k 6 then b_ad ad O (tb_c c) else ad k
def rd_N2 (N : Nat → Nat) (n : Nat) : Nat → Nat := fun k => bif Nat.beq k 20 then 2 * n + 16 else bif Nat.beq k 21 then 16 else bif Nat.beq k 22 then 16 else N k
def rd_F1 (F FR : Nat → Nat → Int32) : Nat → Nat → Int32 := fun k => bif Nat.beq k 10 then FR 10 else F k
def rd_F2 (F FR : Nat → Nat → Int32) : Nat → Nat → Int32 := fun k => bif Nat.beq k 10 then FR 10 else bif Nat.beq k 20 then FR 20 else bif Nat.beq k 21 then FR 21 else bif Nat.beq k 22 then FR 22 else F k
set_option maxRecDepth 40000 in
theorem rd_reg {c n q : Nat} {ad N : Nat → Nat} {O : Nat × Nat} {cT : Nat → ClassId} {M : Nat → Int32} {F : Nat → Nat → Int32} {J : Nat → Nat → Int64} {v : nw_U} {X : va_W} (hX : X = [(q, .inr (7, [.ref (v.1 1), .ref (v.1 9), .ref (v.1 13), .ref (v.1 14), .ref (v.1 15), .ref (v.1 16), .ref (v.1 17), .ref (v.1 0), .int 0, .int 0, .int 0, .int 0, .int 0, .int 0, .int 0])), ((v.1 0), .inl (cT 0, 5, .inl (v.2 0))), ((v.1 1), .inr (10, [.ref (ad 10), .int (nI n), .ref (v.1 5), .ref (v.1 2), .ref (v.1 3), .ref (v.1 4), .int 0])), ((v.1 2), .inl (cT 0, n + 1, .inl (fun _ => 0))), ((v.1 3), .inl (cT 0, n + 1, .inl (fun _ => 0))), ((v.1 4), .inl (cT 0, n + 1, .inl (fun _ => 0))), ((v.1 5), .inr (4, [.ref (v.1 7), .ref (v.1 8), .ref (v.1 6), .int 0])), ((v.1 6), .inl (cT 0, 127, .inl (v.2 1))), ((v.1 7), .inl (cT 3, ((33 + n / 2 + 1)), .inr (.inl (fun _ => 0)))), ((v.1 8), .inl (cT 0, ((33 + n / 2 + 1)), .inl (fun _ => 0))), ((v.1 9), .inr (6, [.ref (v.1 12), .ref (v.1 10), .ref (v.1 11), .int 0, .int 0])), ((v.1 10), .inl (cT 0, 16, .inl (fun _ => 0))), ((v.1 11), .inl (cT 0, 16, .inl (fun _ => 0))), ((v.1 12), .inl (cT 0, (2 * n + 16), .inl (fun _ => 0))), ((v.1 13), .inl (cT 0, 33 + n / 2 + 1, .inl (v.2 2))), ((v.1 14), .inl (cT 0, 33 + n / 2 + 1, .inl (fun _ => 0))), ((v.1 15), .inl (cT 0, 33 + n / 2 + 1, .inl (v.2 3))), ((v.1 16), .inl (cT 0, n / 9 + 1, .inl (fun _ => 0))), ((v.1 17), .inl (cT 0, n / 9 + 1, .inl (fun _ => 0)))]) : ([0, 1, 2, 3, 4, 5, 7, 8, 9, 10, 11, 12, 13, 14, 15, 16, 17, 18, 19, 20, 22, 26, 30, 6, 23, 24, 25, 28, 29, 27, 33, 31, 32, 34, 35, 36, 37, 38, 21] : List Nat).map (fun i => (b_W (tb_T c) (b_ad ad O) (b_ln N O) cT M F J ++ X)[i]?) = (b_W (rd_tb c) (b_ad ad O) (b_ln N O) cT M F J ++ rd_W cT (rd_ad q (ad 10) v) (rd_N (N 10) n) (rd_M n) (rd_F v (F 10)) (fun _ _ => 0)).map some := by
  subst hX
  rfl
theorem nw_fm {is : List Nat} {ws ws' : va_W} (h : is.map (fun i => ws[i]?) = ws'.map some) : is.filterMap (fun i => ws[i]?) = ws' := by
  have : is.filterMap (fun i => ws[i]?) = (is.map (fun i => ws[i]?)).filterMap id := by rw [List.filterMap_map]; rfl
  rw [this, h, List.filterMap_map]
  exact List.filterMap_some
set_option maxRecDepth 40000 in
theorem rd_bk0 {c n q : Nat} {ad N : Nat → Nat} {O : Nat × Nat} {cT : Nat → ClassId} {M MR : Nat → Int32} {F FR : Nat → Nat → Int32} {J JR : Nat → Nat → Int64} {v : nw_U} : ([0, 1, 2, 3, 4, 5, 23, 6, 7, 8, 9, 10, 11, 12, 13, 14, 15, 16, 17, 18] : List Nat).map (fun i => (b_W (rd_tb c) (b_ad ad O) (b_ln N O) cT M F J ++ rd_W cT (rd_ad q (ad 10) v) (rd_N (N 10) n) MR FR JR)[i]?) = (b_W (tb_T c) (b_ad ad O) (b_ln N O) cT M (rd_F1 F FR) J).map some := rfl
set_option maxRecDepth 40000 in
theorem rd_bk1 {c n q : Nat} {ad N : Nat → Nat} {O : Nat × Nat} {cT : Nat → ClassId} {M MR : Nat → Int32} {F FR : Nat → Nat → Int32} {J JR : Nat → Nat → Int64} {v : nw_U} : ([0, 1, 2, 3, 4, 22, 23, 6, 7, 8, 9, 10, 11, 12, 13, 14, 15, 30, 31, 32] : List Nat).map (fun i => ((b_W (rd_tb c) (b_ad ad O) (b_ln N O) cT M F J ++ rd_W cT (rd_ad q (ad 10) v) (rd_N (N 10) n) MR FR JR).set 0 (ad 0, .inr (11, (b_fs (rd_tb c) (b_ad ad O) M 0 9).set 2 (.ref (v.1 9)))))[i]?) = (b_W (tb_T 6) (b_ad (rd_a2 c ad O v) O) (b_ln (rd_N2 N n) O) cT (rd_M2 M MR) (rd_F2 F FR) J).map some := rfl
set_option maxRecDepth 40000 in
theorem rd_put {c k : Nat} {ad N : Nat → Nat} {O : Nat × Nat} {cT : Nat → ClassId} {M : Nat → Int32} {F : Nat → Nat → Int32} {J : Nat → Nat → Int64} {X : va_W} (r : Int32) (hk : k = 1 ∨ k = 3 ∨ k = 4) : (b_W (rd_tb c) (b_ad ad O) (b_ln N O) cT M F J ++ X).set 0 (ad 0, .inr (11, (b_fs (rd_tb c) (b_ad ad O) M 0 9).set k (.int r))) = b_W (rd_tb c) (b_ad ad O) (b_ln N O) cT (um M k r) F J ++ X := by
  rcases hk with rfl | rfl | rfl <;> rfl
