/-! VIEWS of what is put. -/
section YV2
variable {E : x_E} {W W' x y : y_X} {k : x_B} {M : Nat → Int32} {F : Nat → Nat → Int32} {l : List Int32} {o : x_O} {p r i V : Nat} {v kd : Int32}
theorem tv_cs : tv y (Y_cs l y) := ⟨rfl, rfl, rfl, rfl, rfl, rfl, rfl, rfl, rfl, rfl⟩
theorem tv_ch : tv y (Y_ch p v y) := ⟨rfl, rfl, rfl, rfl, rfl, rfl, rfl, rfl, rfl, rfl⟩
theorem tv_rc : tv y (Y_rc r i v y) := ⟨rfl, rfl, rfl, rfl, rfl, rfl, rfl, rfl, rfl, rfl⟩
theorem tv_G {d : Nat} {C : Nat → Int32} {R : Nat → Nat → Int32} {m : Nat → Nat} {a : Nat → Nat → Nat} {k : Nat → Nat → List (Nat × Nat)} {c : List (Nat × Nat)} : tv y (Y_G d C R m a k c y) := ⟨rfl, rfl, rfl, rfl, rfl, rfl, rfl, rfl, rfl, rfl⟩
theorem cs_z : Y_z (Y_cs l y) = Y_z y + l.length := rfl
theorem cs_C : Y_C (Y_cs l y) = cl (Y_C y) (Y_z y) l := rfl
theorem cs_a : Y_a (Y_cs l y) = Y_a y := rfl
theorem ch_z : Y_z (Y_ch p v y) = Y_z y := rfl
theorem ch_C : Y_C (Y_ch p v y) = f1 (Y_C y) p v := rfl
theorem ch_a : Y_a (Y_ch p v y) = Y_a y := rfl
theorem ad_R : Y_R (Y_ad y) = Y_R y := rfl
theorem ad_m : Y_m (Y_ad y) = Y_m y := rfl
theorem ad_a : Y_a (Y_ad y) = Y_a y := rfl
theorem rs_R : Y_R (Y_rs o y) = r5 (Y_R y) (Y_n y) o := rfl
theorem rs_m : Y_m (Y_rs o y) = f1 (Y_m y) 0 (Y_m y 0 + 1) := rfl
theorem rs_a : Y_a (Y_rs o y) = Y_a y := rfl
theorem rc_R : Y_R (Y_rc r i v y) = f2 (Y_R y) r i v := rfl
theorem rc_m : Y_m (Y_rc r i v y) = Y_m y := rfl
theorem rc_a : Y_a (Y_rc r i v y) = Y_a y := rfl
theorem cl_4 {C : Nat → Int32} {z : Nat} {a b c d : Int32} : cl (cl (cl (cl C z [a]) (z + 1) [b]) (z + 1 + 1) [c]) (z + 1 + 1 + 1) [d] = cl C z [a, b, c, d] := by
  have e1 : cl (cl C z [a]) (z + 1) [b] = cl C z [a, b] := cl_cl (l := [a]) (m := [b])
  have e2 : cl (cl C z [a, b]) (z + 1 + 1) [c] = cl C z [a, b, c] := cl_cl (l := [a, b]) (m := [c])
  have e3 : cl (cl C z [a, b, c]) (z + 1 + 1 + 1) [d] = cl C z [a, b, c, d] := cl_cl (l := [a, b, c]) (m := [d])
  rw [e1, e2, e3]
theorem Y_nTV (h : Y_m W = Y_m y) : Y_n W = Y_n y ∧ Y_T W = Y_T y ∧ Y_V W = Y_V y := by
  unfold Y_n Y_T Y_V
  have hB : Y_B W = Y_B y := congrFun h 3
  rw [hB, h]
  exact ⟨rfl, rfl, rfl⟩
theorem vp_n {n : Nat} (h : vp_in (nI n) 800) (hn : n < 1000000) : n < 800 := by
  have h2 : ¬ 800 ≤ (nI n).toNatClampNeg := fun q => h (Or.inr q)
  rw [y_cl (by omega)] at h2
  omega
theorem rg_V (h : rxG E k M F y) (n : nf y) : 400 * M 27 + M 32 = nI (Y_V y) ∧ Y_V y ≤ 100000 := by
  obtain ⟨p1, ⟨-, -, p2⟩, ⟨-, -, p3⟩, -⟩ := h.2 n
  have e27 : M 27 = nI k.1 := (h.1.2 n.1).2.2.2.2.2.1.1
  rw [e27, p1, p2, show (400 : Int32) = nI 400 from rfl, pk_mul, nI_add]
  exact ⟨rfl, p3⟩
theorem rg_T (h : rxG E k M F y) (n : nf y) : 400 * M 27 + M 31 = nI (Y_T y) ∧ Y_T y ≤ 800 := by
  obtain ⟨p1, ⟨-, p2, -⟩, ⟨-, p3, -⟩, -⟩ := h.2 n
  have e27 : M 27 = nI k.1 := (h.1.2 n.1).2.2.2.2.2.1.1
  rw [e27, p1, p2, show (400 : Int32) = nI 400 from rfl, pk_mul, nI_add]
  exact ⟨rfl, p3⟩
/-- an uphold's number taken; its kind told -/
def Y_u0 (y : y_X) : y_X := Y_gs (Y_C y, Y_R y, f1 (Y_m y) 2 (Y_m y 2 + 1), f2 (Y_a y) 8 (Y_V y) 0, Y_k y, Y_S y, Y_c y) y
def Y_u1 (V : Nat) (kd : Int32) (y : y_X) : y_X := Y_gs (Y_C y, f2 (Y_R y) 23 V kd, Y_m y, f2 (Y_a y) 8 V 1, Y_k y, Y_S y, Y_c y) y
theorem tv_u0 : tv y (Y_u0 y) := ⟨rfl, rfl, rfl, rfl, rfl, rfl, rfl, rfl, rfl, rfl⟩
theorem tv_u1 : tv y (Y_u1 V kd y) := ⟨rfl, rfl, rfl, rfl, rfl, rfl, rfl, rfl, rfl, rfl⟩
theorem u0_R : Y_R (Y_u0 y) = Y_R y := rfl
theorem u0_m : Y_m (Y_u0 y) = f1 (Y_m y) 2 (Y_m y 2 + 1) := rfl
theorem u0_a : Y_a (Y_u0 y) = f2 (Y_a y) 8 (Y_V y) 0 := rfl
theorem u1_R : Y_R (Y_u1 V kd y) = f2 (Y_R y) 23 V kd := rfl
theorem u1_m : Y_m (Y_u1 V kd y) = Y_m y := rfl
theorem u1_a : Y_a (Y_u1 V kd y) = f2 (Y_a y) 8 V 1 := rfl
theorem rx_u0 (h : rxG E k M F y) (hV : nf y → Y_V y < 100000) : rxG E k (um M 32 (M 32 + 1)) F (Y_u0 y) := by
  refine ⟨?_, fun n => ?_⟩
  · have e : yx (Y_u0 y) = yx y := by unfold yx Y_u0 Y_gs; rfl
    rw [e]; exact rx_um (by decide) h.1
  · have n : nf y := tv_nf tv_u0 n
    obtain ⟨p1, ⟨p2, p2', p2''⟩, ⟨p3, p3', p3''⟩, p4, p5, p6, p7, p8, p9⟩ := h.2 n
    have em0 : Y_m (Y_u0 y) 0 = Y_m y 0 := by rw [u0_m, f1_ne (by decide)]
    have em1 : Y_m (Y_u0 y) 1 = Y_m y 1 := by rw [u0_m, f1_ne (by decide)]
    have em2 : Y_m (Y_u0 y) 2 = Y_m y 2 + 1 := by rw [u0_m, f1_eq]
    have eB : Y_B (Y_u0 y) = Y_B y := by show Y_m (Y_u0 y) 3 = _; rw [u0_m, f1_ne (by decide)]
    have en : Y_n (Y_u0 y) = Y_n y := by unfold Y_n; rw [eB, em0]
    have eT : Y_T (Y_u0 y) = Y_T y := by unfold Y_T; rw [eB, em1]
    have eV : Y_V (Y_u0 y) = Y_V y + 1 := by unfold Y_V; rw [eB, em2]; omega
    have eR : Y_R (Y_u0 y) = Y_R y := u0_R
    have e7 : Y_a (Y_u0 y) 7 = Y_a y 7 := by rw [u0_a, f2_ne (by decide)]
    have e8 : Y_a (Y_u0 y) 8 = f1 (Y_a y 8) (Y_V y) 0 := by rw [u0_a, f2_eq]
    have e5 : Y_a (Y_u0 y) 5 = Y_a y 5 := by rw [u0_a, f2_ne (by decide)]
    obtain ⟨t1, t2, t3, t4, t5, t6, t7, t8, t9, t10⟩ := tv_u0 (y := y)
    have hv := hV n
    generalize Y_u0 y = x' at *
    refine ⟨by rw [eB]; exact p1, ⟨?_, ?_, ?_⟩, ⟨by rw [en]; exact p3, by rw [eT]; exact p3', by omega⟩, fun r i x1 x2 x3 x4 => ?_, fun r i x1 x2 x3 x4 x5 => ?_, fun r i x1 x2 x3 x4 x5 => ?_, fun j hj => ?_, fun w hw => ?_, fun i hi => ?_⟩
    · rw [um_ne (by decide), em0]; exact p2
    · rw [um_ne (by decide), em1]; exact p2'
    · rw [um_eq, em2, p2'', show (1 : Int32) = nI 1 from rfl, nI_add]
    · rw [eR]; rw [eB] at x3; rw [en] at x4; exact p4 r i x1 x2 x3 x4
    · rw [eR]; rw [eB] at x3; rw [eT] at x4; rw [e7] at x5; exact p5 r i x1 x2 x3 x4 x5
    · rw [eR]; rw [eB] at x3; rw [eV] at x4; rw [e8] at x5
      by_cases z : i = Y_V y
      · rw [z, f1_eq] at x5; omega
      · rw [f1_ne z] at x5
        exact p6 r i x1 x2 x3 (by omega) x5
    · rw [eB, t8]; rw [t3] at hj; exact p7 j hj
    · rw [t6, t3] at hw; rw [t10]; exact p8 w hw
    · rw [t9] at hi; rw [e5]; exact p9 i hi
theorem rx_u1 {r v : Int32} (h : rxG E k M F y) (hr : nf y → r = nI V ∧ V < 20000 ∧ v = kd) : rxG E k M (uf F 23 r v) (Y_u1 V kd y) := by
  have g := rx_rcv (row := 23) (i := V) (v' := kd) (by decide) (by decide) (by decide) h (fun n => ⟨(hr n).1, (hr n).2.1⟩) (fun n => (hr n).2.2)
  refine rx_tvm g (tv_tr (tv_sy tv_rc) tv_u1) (fun n => ?_)
  have n' : nf y := tv_nf tv_rc n
  obtain ⟨r1, r2, r3⟩ := hr n'
  obtain ⟨p1, p2, p3, p4, p5, p6, -⟩ := g.2 n
  refine ⟨by rw [u1_m, rc_m], by rw [u1_R, rc_R], by rw [u1_a, rc_a, f2_ne (by decide)], fun r i x1 x2 x3 x4 x5 => p5 r i x1 x2 x3 x4 ?_, fun r i x1 x2 x3 x4 x5 => ?_⟩
  · rw [u1_a, f2_ne (by decide)] at x5
    rw [rc_a]; exact x5
  · rw [u1_a, f2_eq] at x5
    by_cases z : i = V
    · rw [z, f1_eq] at x5
      have er : r = 23 := by omega
      rw [z, er, rc_R, uf_at2, r1, y_cl (by omega), if_pos ⟨rfl, rfl⟩, f2_eq, f1_eq, r3]
    · rw [f1_ne z] at x5
      exact p6 r i x1 x2 x3 x4 (by rw [rc_a]; exact x5)
end YV2
