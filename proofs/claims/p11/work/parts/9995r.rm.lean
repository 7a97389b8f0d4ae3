/-! VIEWS: what each reader's rows are held against. -/
section YV1
variable {E : x_E} {W W' V x y : y_X} {k : x_B} {M : Nat → Int32} {F : Nat → Nat → Int32}
def tv (W W' : y_X) : Prop := W'.1 = W.1 ∧ Y_t W' = Y_t W ∧ Y_i W' = Y_i W ∧ Y_2 W' = Y_2 W ∧ Y_3 W' = Y_3 W ∧ Y_u W' = Y_u W ∧ Y_v W' = Y_v W ∧ Y_r W' = Y_r W ∧ Y_l W' = Y_l W ∧ Y_S W' = Y_S W
def gq (W W' : y_X) : Prop := Y_z W' = Y_z W ∧ Y_C W' = Y_C W ∧ Y_R W' = Y_R W ∧ Y_m W' = Y_m W ∧ Y_a W' = Y_a W ∧ Y_k W' = Y_k W ∧ Y_c W' = Y_c W
theorem tv_sy (h : tv W W') : tv W' W := ⟨h.1.symm, h.2.1.symm, h.2.2.1.symm, h.2.2.2.1.symm, h.2.2.2.2.1.symm, h.2.2.2.2.2.1.symm, h.2.2.2.2.2.2.1.symm, h.2.2.2.2.2.2.2.1.symm, h.2.2.2.2.2.2.2.2.1.symm, h.2.2.2.2.2.2.2.2.2.symm⟩
theorem tv_tr (h : tv W V) (h' : tv V W') : tv W W' := ⟨h'.1.trans h.1, h'.2.1.trans h.2.1, h'.2.2.1.trans h.2.2.1, h'.2.2.2.1.trans h.2.2.2.1, h'.2.2.2.2.1.trans h.2.2.2.2.1, h'.2.2.2.2.2.1.trans h.2.2.2.2.2.1, h'.2.2.2.2.2.2.1.trans h.2.2.2.2.2.2.1, h'.2.2.2.2.2.2.2.1.trans h.2.2.2.2.2.2.2.1, h'.2.2.2.2.2.2.2.2.1.trans h.2.2.2.2.2.2.2.2.1, h'.2.2.2.2.2.2.2.2.2.trans h.2.2.2.2.2.2.2.2.2⟩
theorem tv_ty (h : tv W W') : Y_ty E W' = Y_ty E W := by
  unfold Y_ty
  rw [h.1, h.2.1]
theorem tv_nf (h : tv W W') (n : nf W') : nf W := ⟨h.1.symm.trans n.1, h.2.2.2.1.symm.trans n.2.1, h.2.2.2.2.1.symm.trans n.2.2⟩
theorem tv_ad (h : tv W W') : tv (Y_ad W) (Y_ad W') := ⟨h.1, congrArg (fun n => n + 1) h.2.1, h.2.2⟩
theorem tv_bd (h : tv W W') : tv (Y_bd W) (Y_bd W') := ⟨rfl, h.2⟩
theorem tv_kd (h : tv W W') : tv (Y_kd E W) (Y_kd E W') := by
  unfold Y_kd
  rw [tv_ty h]
  split
  · exact tv_ad h
  · exact tv_bd h
theorem tv_su {w : Nat} (h : tv W W') : tv (Y_su w W) (Y_su w W') := by
  obtain ⟨h1, h2, h3, h4, h5, h6, h7, h8, h9, h10⟩ := h
  refine ⟨h1, h2, h3, h4, h5, ?_, h7, h8, h9, ?_⟩
  · show fu (Y_u W') w (Y_i W' 1) = fu (Y_u W) w (Y_i W 1)
    rw [h6, h3]
  · show f1 (Y_S W') w (Y_i W' 2, Y_i W' 3) = f1 (Y_S W) w (Y_i W 2, Y_i W 3)
    rw [h10, h3]
theorem tv_si {j : Nat} {v v' : Int32} (h : tv W W') (hv : v' = v) : tv (Y_si j v W) (Y_si j v' W') := by
  obtain ⟨h1, h2, h3, h4⟩ := h
  refine ⟨h1, h2, ?_, h4⟩
  show um (Y_i W') j v' = um (Y_i W) j v
  rw [h3, hv]
theorem tv_o3 (h : tv W W') : tv (Y_o3 W) (Y_o3 W') := by
  unfold Y_o3
  rw [h.2.2.1]
  split
  · exact h
  · exact ⟨h.1, h.2.1, h.2.2.1, h.2.2.2.1, rfl, h.2.2.2.2.2⟩
theorem tv_ob (h : tv W W') : tv (Y_ob E W) (Y_ob E W') := by
  unfold Y_ob
  rw [tv_ty h]
  split
  · refine tv_ad ?_
    unfold Y_ot
    rw [h.2.1, h.2.2.2.2.2.1, h.2.2.1]
    split
    · exact h
    · exact tv_o3 (tv_si (tv_su h) rfl)
  · exact tv_bd h
theorem gq_rf : gq W W := ⟨rfl, rfl, rfl, rfl, rfl, rfl, rfl⟩
theorem gq_tr (h : gq W V) (h' : gq V W') : gq W W' := ⟨h'.1.trans h.1, h'.2.1.trans h.2.1, h'.2.2.1.trans h.2.2.1, h'.2.2.2.1.trans h.2.2.2.1, h'.2.2.2.2.1.trans h.2.2.2.2.1, h'.2.2.2.2.2.1.trans h.2.2.2.2.2.1, h'.2.2.2.2.2.2.trans h.2.2.2.2.2.2⟩
theorem gq_ad : gq W (Y_ad W) := ⟨rfl, rfl, rfl, rfl, rfl, rfl, rfl⟩
theorem gq_kd : gq W (Y_kd E W) := by
  unfold Y_kd
  split <;> exact ⟨rfl, rfl, rfl, rfl, rfl, rfl, rfl⟩
theorem gq_ob : gq W (Y_ob E W) := by
  unfold Y_ob Y_ot Y_o3
  split
  · split
    · exact ⟨rfl, rfl, rfl, rfl, rfl, rfl, rfl⟩
    · split <;> exact ⟨rfl, rfl, rfl, rfl, rfl, rfl, rfl⟩
  · exact ⟨rfl, rfl, rfl, rfl, rfl, rfl, rfl⟩
theorem rc_tv {k : x_Kt} {s : f_S3} (h : rcG E k s W) (ht : tv W W') (hz : Y_z W' = Y_z W) (hg : nf W → Y_C W' = Y_C W ∧ Y_a W' 4 = Y_a W 4 ∧ Y_a W' 6 = Y_a W 6) : rcG E k s W' := by
  obtain ⟨h1, h2, h3, h4, h5, h6, h7, h8, h9, h10⟩ := ht
  have e : yx W' = yx W := by
    show (W'.1, Y_t W', Y_z W', Y_i W', Y_2 W', Y_3 W', Y_u W', Y_v W', Y_r W', Y_l W') = _
    rw [h1, h2, hz, h3, h4, h5, h6, h7, h8, h9]
    rfl
  exact rcG_cg e (fun n => ⟨(hg n).1, h10, (hg n).2.1, (hg n).2.2⟩) h
/-- with what is known of tries and upholds told anew -/
theorem rx_tvm (h : rxG E k M F W) (ht : tv W W') (hg : nf W → Y_m W' = Y_m W ∧ Y_R W' = Y_R W ∧ Y_a W' 5 = Y_a W 5 ∧ (∀ r i, 20 ≤ r → r ≤ 22 → 400 * Y_B W ≤ i → i < Y_T W → r ≤ 20 + Y_a W' 7 i → F r i = Y_R W r i) ∧ (∀ r i, 23 ≤ r → r ≤ 26 → 400 * Y_B W ≤ i → i < Y_V W → r ≤ 22 + Y_a W' 8 i → F r i = Y_R W r i)) : rxG E k M F W' := by
  have ht' := ht
  obtain ⟨h1, h2, h3, h4, h5, h6, h7, h8, h9, h10⟩ := ht
  refine ⟨?_, fun n => ?_⟩
  · have e : yx W' = (W.1, Y_t W, Y_z W', Y_i W, Y_2 W, Y_3 W, Y_u W, Y_v W, Y_r W, Y_l W) := by
      show (W'.1, Y_t W', Y_z W', Y_i W', Y_2 W', Y_3 W', Y_u W', Y_v W', Y_r W', Y_l W') = _
      rw [h1, h2, h3, h4, h5, h6, h7, h8, h9]
    rw [e]
    exact h.1
  · have n := tv_nf ht' n
    obtain ⟨g1, g2, g3, g4, g5⟩ := hg n
    obtain ⟨p1, p2, p3, p4, p5, p6, p7, p8, p9⟩ := h.2 n
    have hB : Y_B W' = Y_B W := congrFun g1 3
    have hn : Y_n W' = Y_n W := by unfold Y_n; rw [hB, g1]
    have hT : Y_T W' = Y_T W := by unfold Y_T; rw [hB, g1]
    have hV : Y_V W' = Y_V W := by unfold Y_V; rw [hB, g1]
    rw [hB, hn, hT, hV, g1, g2, h3, h6, h8, h10, g3, h9]
    exact ⟨p1, p2, p3, p4, g4, g5, p7, p8, p9⟩
theorem rx_tv (h : rxG E k M F W) (ht : tv W W') (hg : nf W → Y_m W' = Y_m W ∧ Y_R W' = Y_R W ∧ Y_a W' 5 = Y_a W 5 ∧ Y_a W' 7 = Y_a W 7 ∧ Y_a W' 8 = Y_a W 8) : rxG E k M F W' := rx_tvm h ht (fun n => by
  obtain ⟨g1, g2, g3, g4, g5⟩ := hg n
  obtain ⟨p1, p2, p3, p4, p5, p6, -⟩ := h.2 n
  exact ⟨g1, g2, g3, by rw [g4]; exact p5, by rw [g5]; exact p6⟩)
/-- a row changed at a place, its value as it should be -/
theorem rx_rcv {row i : Nat} {r v v' : Int32} (h1 : row ∉ rz_LF) (h10 : row ≠ 10) (h42 : row ≠ 42) (h : rxG E k M F y) (hr : nf y → r = nI i ∧ i < 20000) (hv : nf y → v = v') (h18 : row ≠ 18 := by decide) : rxG E k M (uf F row r v) (Y_rc row i v' y) := by
  by_cases n : nf y
  · rw [← hv n]
    exact rx_rc (v := v) h1 h10 h42 h hr h18
  · have e : yx (Y_rc row i v' y) = yx y := by unfold yx Y_rc Y_gs; rfl
    have g := rx_rc (v := v) h1 h10 h42 h hr h18
    have e2 : yx (Y_rc row i v y) = yx y := by unfold yx Y_rc Y_gs; rfl
    refine ⟨?_, fun n' => absurd (show nf y by unfold nf Y_rc Y_gs at n'; exact n') n⟩
    rw [e, ← e2]
    exact g.1
theorem yx_tv (h : tv W W') (hz : Y_z W' = Y_z W) : yx W' = yx W := by
  obtain ⟨h1, h2, h3, h4, h5, h6, h7, h8, h9, h10⟩ := h
  show (W'.1, Y_t W', Y_z W', Y_i W', Y_2 W', Y_3 W', Y_u W', Y_v W', Y_r W', Y_l W') = _
  rw [h1, h2, hz, h3, h4, h5, h6, h7, h8, h9]
  rfl
theorem tv_rs {o : x_O} : tv y (Y_rs o y) := ⟨rfl, rfl, rfl, rfl, rfl, rfl, rfl, rfl, rfl, rfl⟩
theorem rs_z {o : x_O} : Y_z (Y_rs o y) = Y_z y := rfl
theorem rx_rsn {o o' : x_O} (h : rxG E k M F (Y_rs o y)) (he : nf y → o = o') : rxG E k M F (Y_rs o' y) := by
  by_cases n : nf y
  · rw [← he n]
    exact h
  · have e := yx_tv (tv_rs (y := y) (o := o)) rs_z
    have e' := yx_tv (tv_rs (y := y) (o := o')) rs_z
    refine ⟨?_, fun n' => absurd (tv_nf tv_rs n') n⟩
    rw [e', ← e]
    exact h.1
theorem f1_cl {C : Nat → Int32} {z p : Nat} {l : List Int32} {v : Int32} (h : p < z) : f1 (cl C z l) p v = cl (f1 C p v) z l := by
  funext j
  show (if j = p then v else if z ≤ j ∧ j < z + l.length then l.getD (j - z) 0 else C j) = (if z ≤ j ∧ j < z + l.length then l.getD (j - z) 0 else if j = p then v else C j)
  by_cases q : j = p
  · rw [if_pos q, if_neg (by omega), if_pos q]
  · rw [if_neg q]
    by_cases q2 : z ≤ j ∧ j < z + l.length
    · rw [if_pos q2, if_pos q2]
    · rw [if_neg q2, if_neg q2, if_neg q]
/-- an object, if one stands there -/
def Y_qo (E : x_E) (W : y_X) : y_X := if Y_ty E W = 131 then Y_ob E W else W
def Y_ov (E : x_E) (W : y_X) : Int32 := if Y_ty E W = 131 then (Y_S (Y_ob E W) (E_w E (Y_t W))).2 else -1
theorem ym_qo (hE : E_ok E) (h : x.1 = false → Y_t x ≤ E_m E) : ym E 0 0 0 x (Y_qo E x) := by
  unfold Y_qo
  split
  · exact ym_w (ym_ob hE h) (by decide) (by decide) rfl
  · exact ym_rf h
theorem tv_qo (h : tv W W') : tv (Y_qo E W) (Y_qo E W') := by
  unfold Y_qo
  rw [tv_ty h]
  split
  · exact tv_ob h
  · exact h
theorem tv_ov (h : tv W W') : Y_ov E W' = Y_ov E W := by
  unfold Y_ov
  rw [tv_ty h, (tv_ob (E := E) h).2.2.2.2.2.2.2.2.2, h.2.1]
theorem gq_qo : gq W (Y_qo E W) := by
  unfold Y_qo
  split
  · exact gq_ob
  · exact gq_rf
theorem ov_r (hE : E_ok E) (h : x.1 = false → Y_t x ≤ E_m E) (n : nf (Y_qo E x)) (v : gv E (Y_qo E x)) : -1 ≤ (Y_ov E x).toInt ∧ (Y_ov E x).toInt < 8 := by
  unfold Y_qo at n v
  unfold Y_ov
  by_cases q : Y_ty E x = 131
  · rw [if_pos q] at n v ⊢
    have g := nf_ob_s hE h n v
    omega
  · rw [if_neg q]; decide
theorem cg_qo (hE : E_ok E) {k : x_Kt} {s : f_S3} {O : Nat × Nat} (h : rcG E k s W) {G : Int32 → f_S3 → Nat × Nat → Prop} (hG : ∀ t1 s', (nf (Y_qo E W) → t1 = Y_ov E W) → rcG E k s' (Y_qo E W) → G t1 s' O) : ((¬ (s.1 12) = 131 → G (-1) s O) ∧ ((s.1 12) = 131 → (wF_X7_object (E_N E) s O (fun r26 M27 O27 => G r26 M27 O27)))) := by
  unfold Y_qo Y_ov at hG
  rw [cg_ty h]
  refine ⟨fun q => ?_, fun q => ?_⟩
  · rw [if_neg q, if_neg q] at hG
    exact hG _ s (fun _ => rfl) h
  · rw [if_pos q, if_pos q] at hG
    exact cg_object hE h (fun r s1 er h1 => hG r s1 er h1)
theorem rg_qo (hE : E_ok E) (h : rxG E k M F W) {A A' : Int32 → (Nat → Int32) → (Nat → Nat → Int32) → Prop} (hA : ∀ t2 M' F', (nf (Y_qo E W) → t2 = Y_ov E W) → rxG E k M' F' (Y_qo E W) → A t2 M' F' → A' t2 M' F') (w : w_bad M F (fun r29 M30 F30 => ((¬ r29 = 0 → A (-1) M30 F30) ∧ (r29 = 0 → ((¬ (M30 4) = 2 → A (-1) M30 F30) ∧ ((M30 4) = 2 → (w_object M30 F30 (fun r41 M42 F42 => A r41 M42 F42)))))))) : (w_bad M F (fun r29 M30 F30 => ((¬ r29 = 0 → A' (-1) M30 F30) ∧ (r29 = 0 → ((¬ (M30 4) = 2 → A' (-1) M30 F30) ∧ ((M30 4) = 2 → (w_object M30 F30 (fun r41 M42 F42 => A' r41 M42 F42)))))))) := by
  unfold Y_qo Y_ov at hA
  by_cases q : Y_ty E W = 131
  · rw [if_pos q, if_pos q] at hA
    have hb := Y_tyn q (by decide)
    have hmm := rg_m4 hE h hb
    exact rg_b1 h (fun z => absurd (z.symm.trans hb) (by decide)) (fun _ w => ⟨fun z => absurd (hmm.2.2.1.mp q) z, fun z => rg_object hE h (w.2 z) (fun r M1 F1 er r1 w1 => hA r M1 F1 er r1 w1)⟩) w
  · rw [if_neg q, if_neg q] at hA
    refine rg_b1 h (fun _ w => hA _ M F (fun _ => rfl) h w) (fun hb w => ⟨fun z => hA _ M F (fun _ => rfl) h (w.1 z), fun z => ?_⟩) w
    have hmm := rg_m4 hE h hb
    exact absurd (hmm.2.2.1.mpr z) q
end YV1
