/-! TRIES: an uphold's start, a lastly's start and end. -/
section YT3
variable {E : x_E} {x y y' y1 y2 : y_X} {b : x_b} {c : List (Nat × Nat)} {t q hp : Nat} {pv : Option Nat}
theorem pv_ne {R : Nat → Nat → Int32} {t u r j : Nat} {pv : Option Nat} (h1 : ¬ (r = 20 ∧ j = t ∧ pv = none)) (h2 : ¬ (r = 26 ∧ pv = some j)) : Y_pv R t u pv r j = R r j := by
  cases pv with
  | none => show f2 R 20 t (nI u) r j = R r j; rw [f2_at, if_neg (fun z => h1 ⟨z.1, z.2, rfl⟩)]
  | some u0 => show f2 R 26 u0 (nI u) r j = R r j; rw [f2_at, if_neg (fun z => h2 ⟨z.1, by rw [z.2]⟩)]
/-- a lastly begins -/
theorem t3_f (h : TP E q t c hp pv y) (hz : Y_z y < 80000) : (gI (Y_y3 q t c y) ∧ gv E (Y_y3 q t c y)) ∧ Y_c (Y_y3 q t c y) = (t, 2) :: c ∧ G_xx hp q t pv y (Y_y3 q t c y) ∧ (∀ ph, Y_c y = (t, ph) :: c → T_lv t ph c y (Y_y3 q t c y)) ∧ (Y_n (Y_y3 q t c y) = Y_n y + 1 ∧ Y_T (Y_y3 q t c y) = Y_T y ∧ Y_V (Y_y3 q t c y) = Y_V y ∧ Y_z (Y_y3 q t c y) = Y_z y + 1 ∧ Y_B (Y_y3 q t c y) = Y_B y) ∧ Y_C (Y_y3 q t c y) hp = -1 ∧ T_nx t (Y_y3 q t c y) pv = -1 ∧ (Y_C (Y_y3 q t c y) q = nI (Y_z y + 1) ∧ Y_a (Y_y3 q t c y) 1 t = Y_z y + 1 ∧ Y_R (Y_y3 q t c y) 21 t = nI (Y_n y + 1) ∧ Y_a (Y_y3 q t c y) 0 (Y_n y + 1) = Y_z y + 1 ∧ Y_k (Y_y3 q t c y) 0 (Y_n y + 1) = (t, 2) :: c ∧ Y_k (Y_y3 q t c y) 1 t = c) := by
  obtain ⟨⟨i, v⟩, ⟨ph, p1, p2⟩, p3, ⟨p4, p5⟩, ⟨p6, p7, p8⟩, p9, p10, p11, p12, p13⟩ := h
  obtain ⟨b1, b2, b3, b4, b5, b6⟩ := gI_T i (by omega)
  obtain ⟨⟨i1, i2⟩, i3, i4, i5, i6, i7⟩ := i
  have m0 : f1 (Y_m y) 0 (Y_m y 0 + 1) 0 = Y_m y 0 + 1 := f1_eq
  have m1 : f1 (Y_m y) 0 (Y_m y 0 + 1) 1 = Y_m y 1 := f1_ne (by decide)
  have m2 : f1 (Y_m y) 0 (Y_m y 0 + 1) 2 = Y_m y 2 := f1_ne (by decide)
  have m3 : f1 (Y_m y) 0 (Y_m y 0 + 1) 3 = Y_m y 3 := f1_ne (by decide)
  have nn : Y_n (Y_y3 q t c y) = Y_n y + 1 := by unfold Y_y3; rw [YG_n, m3, m0]; rfl
  have nT : Y_T (Y_y3 q t c y) = Y_T y := by unfold Y_y3; rw [YG_T, m3, m1]; rfl
  have nV : Y_V (Y_y3 q t c y) = Y_V y := by unfold Y_y3; rw [YG_V, m3, m2]; rfl
  have nB : Y_B (Y_y3 q t c y) = Y_B y := by unfold Y_y3; rw [YG_B, m3]
  have nz : Y_z (Y_y3 q t c y) = Y_z y + 1 := by unfold Y_y3; rw [YG_z]
  have eC : Y_C (Y_y3 q t c y) = cl (f1 (Y_C y) q (nI (Y_z y + 1))) (Y_z y) [5] := by unfold Y_y3; rw [YG_C]
  have eR : Y_R (Y_y3 q t c y) = f2 (r5 (Y_R y) (Y_n y) (23, nI t, 0, 0, -1)) 21 t (nI (Y_n y + 1)) := by unfold Y_y3; rw [YG_R]
  have ea : Y_a (Y_y3 q t c y) = f2 (f2 (Y_a y) 0 (Y_n y + 1) (Y_z y + 1)) 1 t (Y_z y + 1) := by unfold Y_y3; rw [YG_a]
  have ek : Y_k (Y_y3 q t c y) = f2 (Y_k y) 0 (Y_n y + 1) ((t, 2) :: c) := by unfold Y_y3; rw [YG_k]
  have ec : Y_c (Y_y3 q t c y) = (t, 2) :: c := by unfold Y_y3; rw [YG_c]
  have el : Y_l (Y_y3 q t c y) = Y_l y := by unfold Y_y3; rw [YG_l]
  have em : Y_m (Y_y3 q t c y) = f1 (Y_m y) 0 (Y_m y 0 + 1) := by unfold Y_y3; rw [YG_m]
  have gvx : gv E (Y_y3 q t c y) := by unfold Y_y3; exact YG_v v
  generalize (Y_y3 q t c y) = x' at *
  have r13 : ∀ r k, 13 ≤ r → r ≤ 17 → Y_R x' r k = r5 (Y_R y) (Y_n y) (23, nI t, 0, 0, -1) r k := fun r k h1 h2 => by rw [eR, f2_ne (by omega)]
  have k1 : ∀ s, Y_k x' 1 s = Y_k y 1 s := fun s => by rw [ek, f2_ne (by decide)]
  have wfc : k_wf (gK y) c := by rw [p2] at i3; exact i3.2.2.2
  refine ⟨⟨⟨⟨?_, ?_⟩, ?_, ?_, ?_, ?_, ?_⟩, gvx⟩, ec, ⟨⟨nB, by omega, ?_, ?_, ?_⟩, fun p x1 x2 x3 => ?_, fun r k x1 x2 x3 => ?_, fun r s x1 x2 x3 x4 => ?_, fun r u x1 x2 x3 x4 => ?_, fun k x1 => ⟨?_, ?_⟩, fun s x1 => ⟨fun x2 => ⟨?_, ?_⟩, k1 s⟩, fun u x1 => ⟨?_, ?_, ?_⟩, ⟨[], by rw [el, List.append_nil]⟩, fun j hj => ⟨?_, ?_⟩⟩, fun ph hph => ⟨?_, ?_, ?_, ?_, ?_, ?_, ?_, ?_, ?_, ?_⟩, ⟨nn, nT, nV, nz, nB⟩, ?_, ?_, ?_, ?_, ?_, ?_, ?_, ?_⟩
  · rw [nn, nz, ea, f2_ne (by decide), f2_eq, f1_eq]
  · rw [nn, ek, ec, f2_eq, f1_eq]
  · rw [ec]
    have wk := k_wfc (K := gK y) (K' := gK x') (fun a => k1 a) nB (by show Y_T y ≤ Y_T x'; omega) c wfc
    exact ⟨by show Y_k x' 1 t = c; rw [k1]; exact p3, ⟨by show 400 * Y_B x' ≤ t; rw [nB]; exact p4, by show t < Y_T x'; omega⟩, Nat.le_refl _, wk⟩
  · refine ⟨by rw [em, nz, m0]; omega, mon_s i4.2 i1 nB nn (fun k hk => ?_) (by rw [el]) (fun i hi => ⟨?_, ?_⟩) (fun k hk => by rw [r13 13 k (by decide) (by decide), r5_ne (by omega)]) ?_⟩
    · rw [ea, f2_ne (by decide), f2_at, if_neg (by omega)]
    · rw [ea, f2_ne (by decide), f2_ne (by decide)]
    · rw [ea, f2_ne (by decide), f2_ne (by decide)]
    · rw [ea, f2_ne (by decide), f2_eq, f1_eq]; omega
  · rw [em, nz, m1]; omega
  · rw [em, nz, m2]; omega
  · rw [nB]; exact i7
  · rw [em, m0]; omega
  · rw [em, m1]; exact Nat.le_refl _
  · rw [em, m2]; exact Nat.le_refl _
  · rw [eC, cl_lt x3, f1_ne x2]
  · rw [r13 r k x1 x2, r5_ne (by omega)]
  · rw [eR, f2_at, if_neg (by omega), r5_nr (Or.inr (by omega))]
  · rw [eR, f2_ne (by omega), r5_nr (Or.inr (by omega))]
  · rw [ea, f2_ne (by decide), f2_at, if_neg (by omega)]
  · rw [ek, f2_at, if_neg (by omega)]
  · rw [ea, f2_at, if_neg (by omega), f2_ne (by decide)]
  · rw [ea, f2_ne (by decide), f2_ne (by decide)]
  · rw [ea, f2_ne (by decide), f2_ne (by decide)]
  · rw [ea, f2_ne (by decide), f2_ne (by decide)]
  · rw [ea, f2_ne (by decide), f2_ne (by decide)]
  · rw [ea, f2_ne (by decide), f2_ne (by decide)]
  · rw [ea, f2_ne (by decide), f2_ne (by decide)]
  · rw [r13 13 _ (by decide) (by decide)]; exact r5_at.1
  · rw [r13 14 _ (by decide) (by decide)]; exact r5_at.2.1
  · rw [ea, f2_ne (by decide), f2_at, if_neg (by omega)]; exact i1
  · rw [eC]; exact cl_at (i := 0) (show 0 < 1 by decide)
  · rw [ek, f2_at, if_neg (by omega)]; exact i2.trans hph
  · rw [k1]; exact p3
  · omega
  · omega
  · omega
  · exact nB
  · rw [eC, cl_lt p7, f1_ne p8]; exact p9
  · cases hpv : pv with
    | none =>
      rw [hpv] at p11
      show Y_R x' 20 t = -1
      rw [eR, f2_ne (by decide), r5_nr (Or.inr (by decide))]; exact p11
    | some u =>
      rw [hpv] at p11
      show Y_R x' 26 u = -1
      rw [eR, f2_ne (by decide), r5_nr (Or.inr (by decide))]; exact p11
  · rw [eC, cl_lt p6, f1_eq]
  · rw [ea, f2_eq, f1_eq]
  · rw [eR, f2_eq, f1_eq]
  · rw [ea, f2_ne (by decide), f2_eq, f1_eq]
  · rw [ek, f2_eq, f1_eq]
  · rw [k1]; exact p3
/-- a lastly ends -/
theorem t4_f (i : gI y) (v : gv E y) (hc : Y_c y = (t, 2) :: c) (p3 : Y_k y 1 t = c) (p5 : t < Y_T y) : (gI (Y_y4 t c y) ∧ gv E (Y_y4 t c y)) ∧ Y_c (Y_y4 t c y) = c ∧ G_xx hp q t pv y (Y_y4 t c y) ∧ (Y_n (Y_y4 t c y) = Y_n y + 1 ∧ Y_T (Y_y4 t c y) = Y_T y ∧ Y_V (Y_y4 t c y) = Y_V y ∧ Y_z (Y_y4 t c y) = Y_z y + 1 ∧ Y_B (Y_y4 t c y) = Y_B y) ∧ (∀ p, p < Y_z y → Y_C (Y_y4 t c y) p = Y_C y p) ∧ T_nx t (Y_y4 t c y) pv = T_nx t y pv ∧ (Y_a (Y_y4 t c y) 1 t = Y_a y 1 t ∧ Y_a (Y_y4 t c y) 7 t = 2 ∧ Y_R (Y_y4 t c y) 21 t = Y_R y 21 t) ∧ (Y_R (Y_y4 t c y) 13 (Y_n y) = 24 ∧ Y_a (Y_y4 t c y) 0 (Y_n y) = Y_z y ∧ Y_a (Y_y4 t c y) 0 (Y_n y + 1) = Y_z y + 1 ∧ Y_C (Y_y4 t c y) (Y_z y) = 6 ∧ Y_k (Y_y4 t c y) 0 (Y_n y) = (t, 2) :: c ∧ Y_k (Y_y4 t c y) 0 (Y_n y + 1) = c ∧ Y_k (Y_y4 t c y) 1 t = c) := by
  obtain ⟨⟨i1, i2⟩, i3, i4, i5, i6, i7⟩ := i
  have m0 : f1 (Y_m y) 0 (Y_m y 0 + 1) 0 = Y_m y 0 + 1 := f1_eq
  have m1 : f1 (Y_m y) 0 (Y_m y 0 + 1) 1 = Y_m y 1 := f1_ne (by decide)
  have m2 : f1 (Y_m y) 0 (Y_m y 0 + 1) 2 = Y_m y 2 := f1_ne (by decide)
  have m3 : f1 (Y_m y) 0 (Y_m y 0 + 1) 3 = Y_m y 3 := f1_ne (by decide)
  have nn : Y_n (Y_y4 t c y) = Y_n y + 1 := by unfold Y_y4; rw [YG_n, m3, m0]; rfl
  have nT : Y_T (Y_y4 t c y) = Y_T y := by unfold Y_y4; rw [YG_T, m3, m1]; rfl
  have nV : Y_V (Y_y4 t c y) = Y_V y := by unfold Y_y4; rw [YG_V, m3, m2]; rfl
  have nB : Y_B (Y_y4 t c y) = Y_B y := by unfold Y_y4; rw [YG_B, m3]
  have nz : Y_z (Y_y4 t c y) = Y_z y + 1 := by unfold Y_y4; rw [YG_z]
  have eC : Y_C (Y_y4 t c y) = cl (Y_C y) (Y_z y) [6] := by unfold Y_y4; rw [YG_C]
  have eR : Y_R (Y_y4 t c y) = f2 (r5 (Y_R y) (Y_n y) (24, nI t, 0, 0, -1)) 22 t (nI (Y_n y + 1)) := by unfold Y_y4; rw [YG_R]
  have ea : Y_a (Y_y4 t c y) = f2 (f2 (Y_a y) 0 (Y_n y + 1) (Y_z y + 1)) 7 t 2 := by unfold Y_y4; rw [YG_a]
  have ek : Y_k (Y_y4 t c y) = f2 (Y_k y) 0 (Y_n y + 1) c := by unfold Y_y4; rw [YG_k]
  have ec : Y_c (Y_y4 t c y) = c := by unfold Y_y4; rw [YG_c]
  have el : Y_l (Y_y4 t c y) = Y_l y := by unfold Y_y4; rw [YG_l]
  have em : Y_m (Y_y4 t c y) = f1 (Y_m y) 0 (Y_m y 0 + 1) := by unfold Y_y4; rw [YG_m]
  have gvx : gv E (Y_y4 t c y) := by unfold Y_y4; exact YG_v v
  generalize (Y_y4 t c y) = x' at *
  have r13 : ∀ r k, 13 ≤ r → r ≤ 17 → Y_R x' r k = r5 (Y_R y) (Y_n y) (24, nI t, 0, 0, -1) r k := fun r k h1 h2 => by rw [eR, f2_ne (by omega)]
  have k1 : ∀ s, Y_k x' 1 s = Y_k y 1 s := fun s => by rw [ek, f2_ne (by decide)]
  have wfc : k_wf (gK y) c := by rw [hc] at i3; exact i3.2.2.2
  refine ⟨⟨⟨⟨?_, ?_⟩, ?_, ?_, ?_, ?_, ?_⟩, gvx⟩, ec, ⟨⟨nB, by omega, ?_, ?_, ?_⟩, fun p x1 x2 x3 => ?_, fun r k x1 x2 x3 => ?_, fun r s x1 x2 x3 x4 => ?_, fun r u x1 x2 x3 x4 => ?_, fun k x1 => ⟨?_, ?_⟩, fun s x1 => ⟨fun x2 => ⟨?_, ?_⟩, k1 s⟩, fun u x1 => ⟨?_, ?_, ?_⟩, ⟨[], by rw [el, List.append_nil]⟩, fun j hj => ⟨?_, ?_⟩⟩, ⟨nn, nT, nV, nz, nB⟩, fun p hp => ?_, ?_, ⟨?_, ?_, ?_⟩, ?_, ?_, ?_, ?_, ?_, ?_, ?_⟩
  · rw [nn, nz, ea, f2_ne (by decide), f2_eq, f1_eq]
  · rw [nn, ek, ec, f2_eq, f1_eq]
  · rw [ec]
    exact k_wfc (K := gK y) (K' := gK x') (fun a => k1 a) nB (by show Y_T y ≤ Y_T x'; omega) c wfc
  · refine ⟨by rw [em, nz, m0]; omega, mon_s i4.2 i1 nB nn (fun k hk => ?_) (by rw [el]) (fun i hi => ⟨?_, ?_⟩) (fun k hk => by rw [r13 13 k (by decide) (by decide), r5_ne (by omega)]) ?_⟩
    · rw [ea, f2_ne (by decide), f2_at, if_neg (by omega)]
    · rw [ea, f2_ne (by decide), f2_ne (by decide)]
    · rw [ea, f2_ne (by decide), f2_ne (by decide)]
    · rw [ea, f2_ne (by decide), f2_eq, f1_eq]; omega
  · rw [em, nz, m1]; omega
  · rw [em, nz, m2]; omega
  · rw [nB]; exact i7
  · rw [em, m0]; omega
  · rw [em, m1]; exact Nat.le_refl _
  · rw [em, m2]; exact Nat.le_refl _
  · rw [eC, cl_lt x3]
  · rw [r13 r k x1 x2, r5_ne (by omega)]
  · rw [eR, f2_at, if_neg (by omega), r5_nr (Or.inr (by omega))]
  · rw [eR, f2_ne (by omega), r5_nr (Or.inr (by omega))]
  · rw [ea, f2_ne (by decide), f2_at, if_neg (by omega)]
  · rw [ek, f2_at, if_neg (by omega)]
  · rw [ea, f2_ne (by decide), f2_ne (by decide)]
  · rw [ea, f2_at, if_neg (by omega), f2_ne (by decide)]
  · rw [ea, f2_ne (by decide), f2_ne (by decide)]
  · rw [ea, f2_ne (by decide), f2_ne (by decide)]
  · rw [ea, f2_ne (by decide), f2_ne (by decide)]
  · rw [ea, f2_ne (by decide), f2_ne (by decide)]
  · rw [ea, f2_ne (by decide), f2_ne (by decide)]
  · rw [eC, cl_lt hp]
  · cases pv with
    | none => show Y_R x' 20 t = Y_R y 20 t; rw [eR, f2_ne (by decide), r5_nr (Or.inr (by decide))]
    | some u => show Y_R x' 26 u = Y_R y 26 u; rw [eR, f2_ne (by decide), r5_nr (Or.inr (by decide))]
  · rw [ea, f2_ne (by decide), f2_ne (by decide)]
  · rw [ea, f2_eq, f1_eq]
  · rw [eR, f2_ne (by decide), r5_nr (Or.inr (by decide))]
  · rw [r13 13 _ (by decide) (by decide)]; exact r5_at.1
  · rw [ea, f2_ne (by decide), f2_at, if_neg (by omega)]; exact i1
  · rw [ea, f2_ne (by decide), f2_eq, f1_eq]
  · rw [eC]; exact cl_at (i := 0) (show 0 < 1 by decide)
  · rw [ek, f2_at, if_neg (by omega)]; exact i2.trans hc
  · rw [ek, f2_eq, f1_eq]
  · rw [k1]; exact p3
/-- an uphold begins -/
theorem t1_f {kd ob : Int32} (h : TP E q t c hp pv y) (hz : Y_z y < 80000) : TP E q t c (Y_z y + 3) (some (Y_V y)) (Y_y1 hp t c kd ob pv y) ∧ G_xx hp q t pv y (Y_y1 hp t c kd ob pv y) ∧ (∀ ph, Y_c y = (t, ph) :: c → T_lv t ph c y (Y_y1 hp t c kd ob pv y)) ∧ (Y_n (Y_y1 hp t c kd ob pv y) = Y_n y + 1 ∧ Y_T (Y_y1 hp t c kd ob pv y) = Y_T y ∧ Y_V (Y_y1 hp t c kd ob pv y) = Y_V y + 1 ∧ Y_z (Y_y1 hp t c kd ob pv y) = Y_z y + 4 ∧ Y_B (Y_y1 hp t c kd ob pv y) = Y_B y) ∧ Y_C (Y_y1 hp t c kd ob pv y) hp = nI (Y_z y + 1) ∧ T_nx t (Y_y1 hp t c kd ob pv y) pv = nI (Y_V y) ∧ (Y_C (Y_y1 hp t c kd ob pv y) (Y_z y + 1) = kd ∧ Y_C (Y_y1 hp t c kd ob pv y) (Y_z y + 2) = ob ∧ Y_R (Y_y1 hp t c kd ob pv y) 23 (Y_V y) = kd ∧ Y_R (Y_y1 hp t c kd ob pv y) 24 (Y_V y) = ob ∧ Y_R (Y_y1 hp t c kd ob pv y) 25 (Y_V y) = nI (Y_n y + 1)) ∧ (Y_a (Y_y1 hp t c kd ob pv y) 2 (Y_V y) = Y_z y + 1 ∧ Y_a (Y_y1 hp t c kd ob pv y) 3 (Y_V y) = t ∧ Y_a (Y_y1 hp t c kd ob pv y) 8 (Y_V y) = 4) ∧ (Y_a (Y_y1 hp t c kd ob pv y) 0 (Y_n y + 1) = Y_z y + 4 ∧ Y_k (Y_y1 hp t c kd ob pv y) 0 (Y_n y + 1) = (t, 1) :: c) := by
  obtain ⟨⟨i, v⟩, ⟨ph, p1, p2⟩, p3, ⟨p4, p5⟩, ⟨p6, p7, p8⟩, p9, p10, p11, p12, p13⟩ := h
  obtain ⟨b1, b2, b3, b4, b5, b6⟩ := gI_T i (by omega)
  obtain ⟨⟨i1, i2⟩, i3, i4, i5, i6, i7⟩ := i
  have m0 : f1 (f1 (Y_m y) 0 (Y_m y 0 + 1)) 2 (Y_m y 2 + 1) 0 = Y_m y 0 + 1 := by rw [f1_ne (by decide), f1_eq]
  have m1 : f1 (f1 (Y_m y) 0 (Y_m y 0 + 1)) 2 (Y_m y 2 + 1) 1 = Y_m y 1 := by rw [f1_ne (by decide), f1_ne (by decide)]
  have m2 : f1 (f1 (Y_m y) 0 (Y_m y 0 + 1)) 2 (Y_m y 2 + 1) 2 = Y_m y 2 + 1 := f1_eq
  have m3 : f1 (f1 (Y_m y) 0 (Y_m y 0 + 1)) 2 (Y_m y 2 + 1) 3 = Y_m y 3 := by rw [f1_ne (by decide), f1_ne (by decide)]
  have nn : Y_n (Y_y1 hp t c kd ob pv y) = Y_n y + 1 := by unfold Y_y1; rw [YG_n, m3, m0]; rfl
  have nT : Y_T (Y_y1 hp t c kd ob pv y) = Y_T y := by unfold Y_y1; rw [YG_T, m3, m1]; rfl
  have nV : Y_V (Y_y1 hp t c kd ob pv y) = Y_V y + 1 := by unfold Y_y1; rw [YG_V, m3, m2]; rfl
  have nB : Y_B (Y_y1 hp t c kd ob pv y) = Y_B y := by unfold Y_y1; rw [YG_B, m3]
  have nz : Y_z (Y_y1 hp t c kd ob pv y) = Y_z y + 4 := by unfold Y_y1; rw [YG_z]
  have eC : Y_C (Y_y1 hp t c kd ob pv y) = cl (f1 (Y_C y) hp (nI (Y_z y + 1))) (Y_z y) [5, kd, ob, -1] := by unfold Y_y1; rw [YG_C]
  have eR : Y_R (Y_y1 hp t c kd ob pv y) = f2 (Y_pv (f2 (f2 (f2 (r5 (Y_R y) (Y_n y) (23, nI t, 0, 0, -1)) 23 (Y_V y) kd) 24 (Y_V y) ob) 26 (Y_V y) (-1)) t (Y_V y) pv) 25 (Y_V y) (nI (Y_n y + 1)) := by unfold Y_y1; rw [YG_R]
  have ea : Y_a (Y_y1 hp t c kd ob pv y) = f2 (f2 (f2 (f2 (Y_a y) 0 (Y_n y + 1) (Y_z y + 4)) 2 (Y_V y) (Y_z y + 1)) 3 (Y_V y) t) 8 (Y_V y) 4 := by unfold Y_y1; rw [YG_a]
  have ek : Y_k (Y_y1 hp t c kd ob pv y) = f2 (Y_k y) 0 (Y_n y + 1) ((t, 1) :: c) := by unfold Y_y1; rw [YG_k]
  have ec : Y_c (Y_y1 hp t c kd ob pv y) = (t, 1) :: c := by unfold Y_y1; rw [YG_c]
  have el : Y_l (Y_y1 hp t c kd ob pv y) = Y_l y := by unfold Y_y1; rw [YG_l]
  have em : Y_m (Y_y1 hp t c kd ob pv y) = f1 (f1 (Y_m y) 0 (Y_m y 0 + 1)) 2 (Y_m y 2 + 1) := by unfold Y_y1; rw [YG_m]
  have gvx : gv E (Y_y1 hp t c kd ob pv y) := by unfold Y_y1; exact YG_v v
  generalize (Y_y1 hp t c kd ob pv y) = x' at *
  have r13 : ∀ r k, 13 ≤ r → r ≤ 17 → Y_R x' r k = r5 (Y_R y) (Y_n y) (23, nI t, 0, 0, -1) r k := fun r k h1 h2 => by rw [eR, f2_ne (by omega), pv_ne (by omega) (by omega), f2_ne (by omega), f2_ne (by omega), f2_ne (by omega)]
  have k1 : ∀ s, Y_k x' 1 s = Y_k y 1 s := fun s => by rw [ek, f2_ne (by decide)]
  have wfc : k_wf (gK y) c := by rw [p2] at i3; exact i3.2.2.2
  have npv : ¬ pv = some (Y_V y) := fun z => by have := (p12 _ z).1; omega
  have wk := k_wfc (K := gK y) (K' := gK x') (fun a => k1 a) nB (by show Y_T y ≤ Y_T x'; omega) c wfc
  refine ⟨⟨⟨⟨⟨?_, ?_⟩, ?_, ?_, ?_, ?_, ?_⟩, gvx⟩, ⟨1, by decide, ec⟩, ?_, ⟨?_, ?_⟩, ⟨?_, ?_, ?_⟩, ?_, ?_, ?_, fun u hu => ?_, p13⟩, ⟨⟨nB, by omega, ?_, ?_, ?_⟩, fun p x1 x2 x3 => ?_, fun r k x1 x2 x3 => ?_, fun r s x1 x2 x3 x4 => ?_, fun r u x1 x2 x3 x4 => ?_, fun k x1 => ⟨?_, ?_⟩, fun s x1 => ⟨fun x2 => ⟨?_, ?_⟩, k1 s⟩, fun u x1 => ⟨?_, ?_, ?_⟩, ⟨[], by rw [el, List.append_nil]⟩, fun j hj => ⟨?_, ?_⟩⟩, fun ph hph => ⟨?_, ?_, ?_, ?_, ?_, ?_, ?_, ?_, ?_, ?_⟩, ⟨nn, nT, nV, nz, nB⟩, ?_, ?_, ⟨?_, ?_, ?_, ?_, ?_⟩, ⟨?_, ?_, ?_⟩, ?_, ?_⟩
  · rw [nn, nz, ea, f2_ne (by decide), f2_ne (by decide), f2_ne (by decide), f2_eq, f1_eq]
  · rw [nn, ek, ec, f2_eq, f1_eq]
  · rw [ec]
    exact ⟨by show Y_k x' 1 t = c; rw [k1]; exact p3, ⟨by show 400 * Y_B x' ≤ t; rw [nB]; exact p4, by show t < Y_T x'; omega⟩, Nat.le_succ _, wk⟩
  · refine ⟨by rw [em, nz, m0]; omega, mon_s i4.2 i1 nB nn (fun k hk => ?_) (by rw [el]) (fun i hi => ⟨?_, ?_⟩) (fun k hk => by rw [r13 13 k (by decide) (by decide), r5_ne (by omega)]) ?_⟩
    · rw [ea, f2_ne (by decide), f2_ne (by decide), f2_ne (by decide), f2_at, if_neg (by omega)]
    · rw [ea, f2_ne (by decide), f2_ne (by decide), f2_ne (by decide), f2_ne (by decide)]
    · rw [ea, f2_ne (by decide), f2_ne (by decide), f2_ne (by decide), f2_ne (by decide)]
    · rw [ea, f2_ne (by decide), f2_ne (by decide), f2_ne (by decide), f2_eq, f1_eq]; omega
  · rw [em, nz, m1]; omega
  · rw [em, nz, m2]; omega
  · rw [nB]; exact i7
  · rw [k1]; exact p3
  · rw [nB]; exact p4
  · omega
  · omega
  · omega
  · omega
  · rw [eC]; exact cl_at (i := 3) (show 3 < 4 by decide)
  · rw [eR, f2_ne (by decide), pv_ne (by omega) (by omega), f2_ne (by decide), f2_ne (by decide), f2_ne (by decide), r5_nr (Or.inr (by decide))]; exact p10
  · show Y_R x' 26 (Y_V y) = -1
    rw [eR, f2_ne (by decide), pv_ne (by omega) (fun z => npv z.2), f2_eq, f1_eq]
  · have : Y_V y = u := Option.some.inj hu
    subst this
    exact ⟨by omega, by rw [ea, f2_ne (by decide), f2_eq, f1_eq]⟩
  · rw [em, m0]; omega
  · rw [em, m1]; exact Nat.le_refl _
  · rw [em, m2]; omega
  · rw [eC, cl_lt x3, f1_ne x1]
  · rw [r13 r k x1 x2, r5_ne (by omega)]
  · rw [eR, f2_ne (by omega), pv_ne (fun z => x3.elim (fun w => w z.2.1) (fun w => w.2 z.2.2)) (by omega), f2_ne (by omega), f2_ne (by omega), f2_ne (by omega), r5_nr (Or.inr (by omega))]
  · rw [eR, f2_at, if_neg (by omega), pv_ne (by omega) (fun z => x3.elim (fun w => w z.1) (fun w => w z.2)), f2_at, if_neg (by omega), f2_at, if_neg (by omega), f2_at, if_neg (by omega), r5_nr (Or.inr (by omega))]
  · rw [ea, f2_ne (by decide), f2_ne (by decide), f2_ne (by decide), f2_at, if_neg (by omega)]
  · rw [ek, f2_at, if_neg (by omega)]
  · rw [ea, f2_ne (by decide), f2_ne (by decide), f2_ne (by decide), f2_ne (by decide)]
  · rw [ea, f2_ne (by decide), f2_ne (by decide), f2_ne (by decide), f2_ne (by decide)]
  · rw [ea, f2_ne (by decide), f2_ne (by decide), f2_at, if_neg (by omega), f2_ne (by decide)]
  · rw [ea, f2_ne (by decide), f2_at, if_neg (by omega), f2_ne (by decide), f2_ne (by decide)]
  · rw [ea, f2_at, if_neg (by omega), f2_ne (by decide), f2_ne (by decide), f2_ne (by decide)]
  · rw [ea, f2_ne (by decide), f2_ne (by decide), f2_ne (by decide), f2_ne (by decide)]
  · rw [ea, f2_ne (by decide), f2_ne (by decide), f2_ne (by decide), f2_ne (by decide)]
  · rw [r13 13 _ (by decide) (by decide)]; exact r5_at.1
  · rw [r13 14 _ (by decide) (by decide)]; exact r5_at.2.1
  · rw [ea, f2_ne (by decide), f2_ne (by decide), f2_ne (by decide), f2_at, if_neg (by omega)]; exact i1
  · rw [eC]; exact cl_at (i := 0) (show 0 < 4 by decide)
  · rw [ek, f2_at, if_neg (by omega)]; exact i2.trans hph
  · rw [k1]; exact p3
  · omega
  · omega
  · omega
  · exact nB
  · rw [eC, cl_lt p7, f1_eq]
  · cases hpv : pv with
    | none =>
      show Y_R x' 20 t = _
      rw [eR, f2_ne (by decide), hpv]
      show f2 _ 20 t _ 20 t = _
      rw [f2_eq, f1_eq]
    | some u =>
      show Y_R x' 26 u = _
      rw [eR, f2_ne (by decide), hpv]
      show f2 _ 26 u _ 26 u = _
      rw [f2_eq, f1_eq]
  · rw [eC]; exact cl_at (i := 1) (show 1 < 4 by decide)
  · rw [eC]; exact cl_at (i := 2) (show 2 < 4 by decide)
  · rw [eR, f2_ne (by decide), pv_ne (by omega) (by omega), f2_ne (by decide), f2_ne (by decide), f2_eq, f1_eq]
  · rw [eR, f2_ne (by decide), pv_ne (by omega) (by omega), f2_ne (by decide), f2_eq, f1_eq]
  · rw [eR, f2_eq, f1_eq]
  · rw [ea, f2_ne (by decide), f2_ne (by decide), f2_eq, f1_eq]
  · rw [ea, f2_ne (by decide), f2_eq, f1_eq]
  · rw [ea, f2_eq, f1_eq]
  · rw [ea, f2_ne (by decide), f2_ne (by decide), f2_ne (by decide), f2_eq, f1_eq]
  · rw [ek, f2_eq, f1_eq]
/-- a try begins -/
theorem t0_f (i : gI y) (v : gv E y) (hz : Y_z y < 80000) : TP E (Y_z y + 2) (Y_T y) (Y_c y) (Y_z y + 1) none (Y_y0 y) ∧ G_ex b0 y (Y_y0 y) ∧ (Y_n (Y_y0 y) = Y_n y + 1 ∧ Y_T (Y_y0 y) = Y_T y + 1 ∧ Y_V (Y_y0 y) = Y_V y ∧ Y_z (Y_y0 y) = Y_z y + 3 ∧ Y_B (Y_y0 y) = Y_B y) ∧ (Y_R (Y_y0 y) 13 (Y_n y) = 22 ∧ Y_R (Y_y0 y) 14 (Y_n y) = nI (Y_T y) ∧ Y_a (Y_y0 y) 0 (Y_n y) = Y_z y ∧ Y_a (Y_y0 y) 0 (Y_n y + 1) = Y_z y + 3 ∧ Y_C (Y_y0 y) (Y_z y) = 4 ∧ Y_k (Y_y0 y) 0 (Y_n y) = Y_c y ∧ Y_k (Y_y0 y) 0 (Y_n y + 1) = (Y_T y, 0) :: Y_c y) := by
  obtain ⟨b1, b2, b3, b4, b5, b6⟩ := gI_T i (by omega)
  obtain ⟨⟨i1, i2⟩, i3, i4, i5, i6, i7⟩ := i
  have m0 : f1 (f1 (Y_m y) 0 (Y_m y 0 + 1)) 1 (Y_m y 1 + 1) 0 = Y_m y 0 + 1 := by rw [f1_ne (by decide), f1_eq]
  have m1 : f1 (f1 (Y_m y) 0 (Y_m y 0 + 1)) 1 (Y_m y 1 + 1) 1 = Y_m y 1 + 1 := f1_eq
  have m2 : f1 (f1 (Y_m y) 0 (Y_m y 0 + 1)) 1 (Y_m y 1 + 1) 2 = Y_m y 2 := by rw [f1_ne (by decide), f1_ne (by decide)]
  have m3 : f1 (f1 (Y_m y) 0 (Y_m y 0 + 1)) 1 (Y_m y 1 + 1) 3 = Y_m y 3 := by rw [f1_ne (by decide), f1_ne (by decide)]
  have nn : Y_n (Y_y0 y) = Y_n y + 1 := by unfold Y_y0; rw [YG_n, m3, m0]; rfl
  have nT : Y_T (Y_y0 y) = Y_T y + 1 := by unfold Y_y0; rw [YG_T, m3, m1]; rfl
  have nV : Y_V (Y_y0 y) = Y_V y := by unfold Y_y0; rw [YG_V, m3, m2]; rfl
  have nB : Y_B (Y_y0 y) = Y_B y := by unfold Y_y0; rw [YG_B, m3]
  have nz : Y_z (Y_y0 y) = Y_z y + 3 := by unfold Y_y0; rw [YG_z]
  have eC : Y_C (Y_y0 y) = cl (Y_C y) (Y_z y) [4, -1, -1] := by unfold Y_y0; rw [YG_C]
  have eR : Y_R (Y_y0 y) = f2 (f2 (r5 (Y_R y) (Y_n y) (22, nI (Y_T y), 0, 0, -1)) 20 (Y_T y) (-1)) 21 (Y_T y) (-1) := by unfold Y_y0; rw [YG_R]
  have ea : Y_a (Y_y0 y) = f2 (f2 (Y_a y) 0 (Y_n y + 1) (Y_z y + 3)) 7 (Y_T y) 1 := by unfold Y_y0; rw [YG_a]
  have ek : Y_k (Y_y0 y) = f2 (f2 (Y_k y) 0 (Y_n y + 1) ((Y_T y, 0) :: Y_c y)) 1 (Y_T y) (Y_c y) := by unfold Y_y0; rw [YG_k]
  have ec : Y_c (Y_y0 y) = (Y_T y, 0) :: Y_c y := by unfold Y_y0; rw [YG_c]
  have el : Y_l (Y_y0 y) = Y_l y := by unfold Y_y0; rw [YG_l]
  have em : Y_m (Y_y0 y) = f1 (f1 (Y_m y) 0 (Y_m y 0 + 1)) 1 (Y_m y 1 + 1) := by unfold Y_y0; rw [YG_m]
  have gvx : gv E (Y_y0 y) := by unfold Y_y0; exact YG_v v
  generalize (Y_y0 y) = x' at *
  have r13 : ∀ r k, 13 ≤ r → r ≤ 17 → Y_R x' r k = r5 (Y_R y) (Y_n y) (22, nI (Y_T y), 0, 0, -1) r k := fun r k h1 h2 => by rw [eR, f2_ne (by omega), f2_ne (by omega)]
  have k1 : ∀ s, s < Y_T y → Y_k x' 1 s = Y_k y 1 s := fun s hs => by rw [ek, f2_at, if_neg (by omega), f2_ne (by decide)]
  have ex : G_ex b0 y x' := by
    refine ⟨⟨nB, by omega, ?_, ?_, ?_⟩, fun p _ x3 => ?_, fun r k x1 x2 _ x3 => ?_, fun r s x1 x2 _ x4 => ?_, fun r u x1 x2 _ x4 => ?_, fun k _ x1 => ⟨?_, ?_⟩, fun s x1 => ⟨fun _ => ⟨?_, ?_⟩, k1 s x1⟩, fun u _ x1 => ⟨?_, ?_, ?_⟩, ⟨[], by rw [el, List.append_nil]⟩, fun j hj => ⟨?_, ?_⟩⟩
    · rw [em, m0]; omega
    · rw [em, m1]; omega
    · rw [em, m2]; exact Nat.le_refl _
    · rw [eC, cl_lt x3]
    · rw [r13 r k x1 x2, r5_ne (by omega)]
    · rw [eR, f2_at, if_neg (by omega), f2_at, if_neg (by omega), r5_nr (Or.inr (by omega))]
    · rw [eR, f2_ne (by omega), f2_ne (by omega), r5_nr (Or.inr (by omega))]
    · rw [ea, f2_ne (by decide), f2_at, if_neg (by omega)]
    · rw [ek, f2_ne (by decide), f2_at, if_neg (by omega)]
    · rw [ea, f2_ne (by decide), f2_ne (by decide)]
    · rw [ea, f2_at, if_neg (by omega), f2_ne (by decide)]
    · rw [ea, f2_ne (by decide), f2_ne (by decide)]
    · rw [ea, f2_ne (by decide), f2_ne (by decide)]
    · rw [ea, f2_ne (by decide), f2_ne (by decide)]
    · rw [ea, f2_ne (by decide), f2_ne (by decide)]
    · rw [ea, f2_ne (by decide), f2_ne (by decide)]
  have kt : Y_k x' 1 (Y_T y) = Y_c y := by rw [ek, f2_eq, f1_eq]
  refine ⟨⟨⟨⟨⟨?_, ?_⟩, ?_, ?_, ?_, ?_, ?_⟩, gvx⟩, ⟨0, by decide, ec⟩, kt, ⟨?_, ?_⟩, ⟨?_, ?_, ?_⟩, ?_, ?_, ?_, (fun u hu => by cases hu), by omega⟩, ex, ⟨nn, nT, nV, nz, nB⟩, ?_, ?_, ?_, ?_, ?_, ?_, ?_⟩
  · rw [nn, nz, ea, f2_ne (by decide), f2_eq, f1_eq]
  · rw [nn, ek, ec, f2_ne (by decide), f2_eq, f1_eq]
  · rw [ec]
    exact ⟨kt, ⟨by show 400 * Y_B x' ≤ Y_T y; rw [nB]; exact b5, by show Y_T y < Y_T x'; omega⟩, Nat.zero_le _, G_wf ex _ i3⟩
  · refine ⟨by rw [em, nz, m0]; omega, mon_s i4.2 i1 nB nn (fun k hk => ?_) (by rw [el]) (fun i hi => ⟨?_, ?_⟩) (fun k hk => by rw [r13 13 k (by decide) (by decide), r5_ne (by omega)]) ?_⟩
    · rw [ea, f2_ne (by decide), f2_at, if_neg (by omega)]
    · rw [ea, f2_ne (by decide), f2_ne (by decide)]
    · rw [ea, f2_ne (by decide), f2_ne (by decide)]
    · rw [ea, f2_ne (by decide), f2_eq, f1_eq]; omega
  · rw [em, nz, m1]; omega
  · rw [em, nz, m2]; omega
  · rw [nB]; exact i7
  · rw [nB]; exact b5
  · omega
  · omega
  · omega
  · omega
  · rw [eC]; exact cl_at (i := 1) (show 1 < 3 by decide)
  · rw [eR, f2_eq, f1_eq]
  · show Y_R x' 20 (Y_T y) = -1
    rw [eR, f2_ne (by decide), f2_eq, f1_eq]
  · rw [r13 13 _ (by decide) (by decide)]; exact r5_at.1
  · rw [r13 14 _ (by decide) (by decide)]; exact r5_at.2.1
  · rw [ea, f2_ne (by decide), f2_at, if_neg (by omega)]; exact i1
  · rw [ea, f2_ne (by decide), f2_eq, f1_eq]
  · rw [eC]; exact cl_at (i := 0) (show 0 < 3 by decide)
  · rw [ek, f2_ne (by decide), f2_at, if_neg (by omega)]; exact i2
  · rw [ek, f2_ne (by decide), f2_eq, f1_eq]
end YT3
