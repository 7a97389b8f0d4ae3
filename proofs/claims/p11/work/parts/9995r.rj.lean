/-! TRIES: each piece is right. -/
section YT2
variable {E : x_E} {x y y' y1 y2 : y_X} {b : x_b} {c : List (Nat × Nat)} {t q hp : Nat} {pv : Option Nat}
theorem xx_of (e : G_ex b0 y y') : G_xx hp q t pv y y' := by
  obtain ⟨a, e2, e3, e4, e5, e6, e7, e8, e9, e10⟩ := e
  exact ⟨a, fun p _ _ x3 => e2 p (Nat.zero_le _) x3, fun r k x1 x2 x3 => e3 r k x1 x2 (Nat.zero_le _) x3, fun r s x1 x2 _ x4 => e4 r s x1 x2 (Nat.zero_le _) x4, fun r u x1 x2 _ x4 => e5 r u x1 x2 (Nat.zero_le _) x4, fun k x1 => e6 k (Nat.zero_le _) x1, fun s x1 => ⟨fun _ => (e7 s x1).1 (Nat.zero_le _), (e7 s x1).2⟩, fun u x1 => e8 u (Nat.zero_le _) x1, e9, e10⟩
theorem xx_tr (h : G_xx hp q t pv y y1) (e : G_xx hp q t pv y1 y') : G_xx hp q t pv y y' := by
  have n := xx_n h
  obtain ⟨⟨a1, a2, a3, a4, a5⟩, h2, h3, h4, h5, h6, h7, h8, ⟨l1, j1⟩, h10⟩ := h
  obtain ⟨⟨c1, c2, c3, c4, c5⟩, e2, e3, e4, e5, e6, e7, e8, ⟨l2, j2⟩, e10⟩ := e
  refine ⟨⟨c1.trans a1, by omega, by omega, by omega, by omega⟩, fun p x1 x2 x3 => (e2 p x1 x2 (by omega)).trans (h2 p x1 x2 x3), fun r k x1 x2 x3 => (e3 r k x1 x2 (by omega)).trans (h3 r k x1 x2 x3), fun r s x1 x2 x3 x4 => (e4 r s x1 x2 x3 (by omega)).trans (h4 r s x1 x2 x3 x4), fun r u' x1 x2 x3 x4 => (e5 r u' x1 x2 x3 (by omega)).trans (h5 r u' x1 x2 x3 x4), fun k x1 => ⟨(e6 k (by omega)).1.trans (h6 k x1).1, (e6 k (by omega)).2.trans (h6 k x1).2⟩, fun s x1 => ⟨fun x2 => ⟨((e7 s (by omega)).1 x2).1.trans ((h7 s x1).1 x2).1, ((e7 s (by omega)).1 x2).2.trans ((h7 s x1).1 x2).2⟩, (e7 s (by omega)).2.trans (h7 s x1).2⟩, fun u' x1 => ⟨(e8 u' (by omega)).1.trans (h8 u' x1).1, (e8 u' (by omega)).2.1.trans (h8 u' x1).2.1, (e8 u' (by omega)).2.2.trans (h8 u' x1).2.2⟩, ⟨l1 ++ l2, by rw [j2, j1, List.append_assoc]⟩, fun i hi => ?_⟩
  have hl : i < (Y_l y1).length := by rw [j1, List.length_append]; omega
  exact ⟨(e10 i hl).1.trans (h10 i hi).1, (e10 i hl).2.trans (h10 i hi).2⟩
theorem xx_wf (e : G_xx hp q t pv y y') : ∀ l, k_wf (gK y) l → k_wf (gK y') l := by
  have n := xx_n e
  intro l
  induction l with
  | nil => exact fun _ => True.intro
  | cons x l ih =>
    obtain ⟨a, ph⟩ := x
    intro w
    obtain ⟨q1, ⟨q2, q3⟩, q4, q5⟩ := w
    have q3 : a < Y_T y := q3
    have q2 : 400 * Y_B y ≤ a := q2
    refine ⟨(e.2.2.2.2.2.2.1 a q3).2.trans q1, ⟨?_, ?_⟩, q4, ih q5⟩
    · show 400 * Y_B y' ≤ a
      rw [e.1.1]; exact q2
    · show a < Y_T y'
      omega
theorem nI_ne1 {n : Nat} (h : n < 1000000) : ¬ nI n = -1 := fun q => by
  have e := congrArg Int32.toInt q
  rw [fs_nI (by omega), show (-1 : Int32).toInt = -1 by decide] at e
  omega
theorem hx_1 {K : k_K} : k_hx K (-1) = -1 := if_pos rfl
theorem hx_n {K : k_K} {u : Nat} (h : u < 1000000) : k_hx K (nI u) = nI (K_H K u) := by
  unfold k_hx
  rw [if_neg (nI_ne1 h), y_cl (by omega)]
/-- a leave's place, whatever comes behind it -/
def T_lv (t : Nat) (ph : Nat) (c : List (Nat × Nat)) (y y' : y_X) : Prop := Y_R y' 13 (Y_n y) = 23 ∧ Y_R y' 14 (Y_n y) = nI t ∧ Y_a y' 0 (Y_n y) = Y_z y ∧ Y_C y' (Y_z y) = 5 ∧ Y_k y' 0 (Y_n y) = (t, ph) :: c ∧ Y_k y' 1 t = c ∧ Y_n y < Y_n y' ∧ Y_z y + 1 ≤ Y_z y' ∧ t < Y_T y' ∧ Y_B y' = Y_B y
theorem lv_xx {ph : Nat} (h : T_lv t ph c y y1) (e : G_xx hp q t pv y1 y') (h1 : Y_z y ≠ hp) (h2 : Y_z y ≠ q) : T_lv t ph c y y' := by
  have n := xx_n e
  have nz := e.1.2.1
  obtain ⟨a1, a2, a3, a4, a5, a6, a7, a8, a9, a10⟩ := h
  exact ⟨(e.2.2.1 13 _ (by decide) (by decide) a7).trans a1, (e.2.2.1 14 _ (by decide) (by decide) a7).trans a2, (e.2.2.2.2.2.1 _ (by omega)).1.trans a3, (e.2.1 _ h1 h2 (by omega)).trans a4, (e.2.2.2.2.2.1 _ (by omega)).2.trans a5, (e.2.2.2.2.2.2.1 t a9).2.trans a6, by omega, by omega, by omega, e.1.1.trans a10⟩
theorem lv_G {ph : Nat} (h : T_lv t ph c y y') (hp : ph < 2) (ht : 400 * Y_B y ≤ t) (hw : k_wf (gK y') ((t, ph) :: c)) : G_at (bs y) y' (Y_n y) := by
  obtain ⟨a1, a2, a3, a4, a5, a6, a7, a8, a9, a10⟩ := h
  exact G_23 a1 a2 (by rw [a3]; exact a8) (by rw [a3]; exact a4) a5 a6 hp ⟨by rw [a10]; exact ht, a9⟩ hw (by rw [a3]; exact Nat.le_refl _)
/-- a try ends with no lastly -/
theorem t2_f (h : TP E q t c hp pv y) (hz : Y_z y < 80000) : (gI (Y_y2 q t c y) ∧ gv E (Y_y2 q t c y)) ∧ Y_c (Y_y2 q t c y) = c ∧ G_xx hp q t pv y (Y_y2 q t c y) ∧ (∀ ph, Y_c y = (t, ph) :: c → T_lv t ph c y (Y_y2 q t c y)) ∧ (Y_n (Y_y2 q t c y) = Y_n y + 1 ∧ Y_T (Y_y2 q t c y) = Y_T y ∧ Y_V (Y_y2 q t c y) = Y_V y) ∧ Y_C (Y_y2 q t c y) hp = -1 ∧ T_nx t (Y_y2 q t c y) pv = -1 ∧ LT (bs y) c (Y_y2 q t c y) t q := by
  obtain ⟨⟨i, v⟩, ⟨ph, p1, p2⟩, p3, ⟨p4, p5⟩, ⟨p6, p7, p8⟩, p9, p10, p11, p12, p13⟩ := h
  obtain ⟨b1, b2, b3, b4, b5, b6⟩ := gI_T i (by omega)
  obtain ⟨⟨i1, i2⟩, i3, i4, i5, i6, i7⟩ := i
  have m0 : f1 (Y_m y) 0 (Y_m y 0 + 1) 0 = Y_m y 0 + 1 := f1_eq
  have m1 : f1 (Y_m y) 0 (Y_m y 0 + 1) 1 = Y_m y 1 := f1_ne (by decide)
  have m2 : f1 (Y_m y) 0 (Y_m y 0 + 1) 2 = Y_m y 2 := f1_ne (by decide)
  have m3 : f1 (Y_m y) 0 (Y_m y 0 + 1) 3 = Y_m y 3 := f1_ne (by decide)
  have nn : Y_n (Y_y2 q t c y) = Y_n y + 1 := by unfold Y_y2; rw [YG_n, m3, m0]; rfl
  have nT : Y_T (Y_y2 q t c y) = Y_T y := by unfold Y_y2; rw [YG_T, m3, m1]; rfl
  have nV : Y_V (Y_y2 q t c y) = Y_V y := by unfold Y_y2; rw [YG_V, m3, m2]; rfl
  have nB : Y_B (Y_y2 q t c y) = Y_B y := by unfold Y_y2; rw [YG_B, m3]
  have nz : Y_z (Y_y2 q t c y) = Y_z y + 2 := by unfold Y_y2; rw [YG_z]
  have eC : Y_C (Y_y2 q t c y) = cl (f1 (Y_C y) q (nI (Y_z y + 1))) (Y_z y) [5, 6] := by unfold Y_y2; rw [YG_C]
  have eR : Y_R (Y_y2 q t c y) = f2 (r5 (Y_R y) (Y_n y) (23, nI t, 0, 0, -1)) 22 t (nI (Y_n y + 1)) := by unfold Y_y2; rw [YG_R]
  have ea : Y_a (Y_y2 q t c y) = f2 (f2 (f2 (Y_a y) 0 (Y_n y + 1) (Y_z y + 2)) 1 t (Y_z y + 1)) 7 t 2 := by unfold Y_y2; rw [YG_a]
  have ek : Y_k (Y_y2 q t c y) = f2 (Y_k y) 0 (Y_n y + 1) c := by unfold Y_y2; rw [YG_k]
  have ec : Y_c (Y_y2 q t c y) = c := by unfold Y_y2; rw [YG_c]
  have el : Y_l (Y_y2 q t c y) = Y_l y := by unfold Y_y2; rw [YG_l]
  have em : Y_m (Y_y2 q t c y) = f1 (Y_m y) 0 (Y_m y 0 + 1) := by unfold Y_y2; rw [YG_m]
  have gvx : gv E (Y_y2 q t c y) := by unfold Y_y2; exact YG_v v
  generalize Y_y2 q t c y = x' at *
  have r13 : ∀ r k, 13 ≤ r → r ≤ 17 → Y_R x' r k = r5 (Y_R y) (Y_n y) (23, nI t, 0, 0, -1) r k := fun r k h1 h2 => by rw [eR, f2_ne (by omega)]
  have k1 : ∀ s, Y_k x' 1 s = Y_k y 1 s := fun s => by rw [ek, f2_ne (by decide)]
  have wfc : k_wf (gK y) c := by rw [p2] at i3; exact i3.2.2.2
  have R21 : Y_R x' 21 t = -1 := by rw [eR, f2_ne (by decide), r5_nr (Or.inr (by decide))]; exact p10
  refine ⟨⟨⟨⟨?_, ?_⟩, ?_, ?_, ?_, ?_, ?_⟩, gvx⟩, ec, ⟨⟨nB, by omega, ?_, ?_, ?_⟩, fun p x1 x2 x3 => ?_, fun r k x1 x2 x3 => ?_, fun r s x1 x2 x3 x4 => ?_, fun r u x1 x2 x3 x4 => ?_, fun k x1 => ⟨?_, ?_⟩, fun s x1 => ⟨fun x2 => ⟨?_, ?_⟩, k1 s⟩, fun u x1 => ⟨?_, ?_, ?_⟩, ⟨[], by rw [el, List.append_nil]⟩, fun j hj => ⟨?_, ?_⟩⟩, fun ph hph => ⟨?_, ?_, ?_, ?_, ?_, ?_, ?_, ?_, ?_, ?_⟩, ⟨nn, nT, nV⟩, ?_, ?_, ⟨⟨?_, ?_⟩, fun _ => ⟨?_, Y_n y + 1, ?_, ⟨?_, ?_⟩, ?_, ?_, ?_⟩, fun q => absurd R21 q, ?_, ?_⟩⟩
  · rw [nn, nz, ea, f2_ne (by decide), f2_ne (by decide), f2_eq, f1_eq]
  · rw [nn, ek, ec, f2_eq, f1_eq]
  · rw [ec]
    exact k_wfc (fun a => k1 a) nB (by show Y_T y ≤ Y_T x'; omega) c wfc
  · refine ⟨by rw [em, nz, m0]; omega, mon_s i4.2 i1 nB nn (fun k hk => ?_) (by rw [el]) (fun i hi => ⟨?_, ?_⟩) (fun k hk => by rw [r13 13 k (by decide) (by decide), r5_ne (by omega)]) ?_⟩
    · rw [ea, f2_ne (by decide), f2_ne (by decide), f2_at, if_neg (by omega)]
    · rw [ea, f2_ne (by decide), f2_ne (by decide), f2_ne (by decide)]
    · rw [ea, f2_ne (by decide), f2_ne (by decide), f2_ne (by decide)]
    · rw [ea, f2_ne (by decide), f2_ne (by decide), f2_eq, f1_eq]; omega
  · rw [em, nz, m1]; omega
  · rw [em, nz, m2]; omega
  · rw [nB]; exact i7
  · rw [em, m0]; omega
  · rw [em, m1]; exact Nat.le_refl _
  · rw [em, m2]; exact Nat.le_refl _
  · rw [eC, cl_lt x3, f1_ne x2]
  · rw [r13 r k x1 x2, r5_ne (by omega)]
  · rw [eR, f2_at, if_neg (by omega), r5_nr (Or.inr (by omega))]
  · rw [eR, f2_ne (by omega), r5_nr (Or.inr (by omega))]
  · rw [ea, f2_ne (by decide), f2_ne (by decide), f2_at, if_neg (by omega)]
  · rw [ek, f2_at, if_neg (by omega)]
  · rw [ea, f2_ne (by decide), f2_at, if_neg (by omega), f2_ne (by decide)]
  · rw [ea, f2_at, if_neg (by omega), f2_ne (by decide), f2_ne (by decide)]
  · rw [ea, f2_ne (by decide), f2_ne (by decide), f2_ne (by decide)]
  · rw [ea, f2_ne (by decide), f2_ne (by decide), f2_ne (by decide)]
  · rw [ea, f2_ne (by decide), f2_ne (by decide), f2_ne (by decide)]
  · rw [ea, f2_ne (by decide), f2_ne (by decide), f2_ne (by decide)]
  · rw [ea, f2_ne (by decide), f2_ne (by decide), f2_ne (by decide)]
  · rw [r13 13 _ (by decide) (by decide)]; exact r5_at.1
  · rw [r13 14 _ (by decide) (by decide)]; exact r5_at.2.1
  · rw [ea, f2_ne (by decide), f2_ne (by decide), f2_at, if_neg (by omega)]; exact i1
  · rw [eC]; exact cl_at (i := 0) (show 0 < 2 by decide)
  · rw [ek, f2_at, if_neg (by omega)]; exact i2.trans hph
  · rw [k1]; exact p3
  · omega
  · omega
  · omega
  · exact nB
  · rw [eC, cl_lt p7, f1_ne p8]; exact p9
  · cases hpv : pv with
    | none =>
      rw [hpv] at p11
      show Y_R x' 20 t = -1
      rw [eR, f2_ne (by decide), r5_nr (Or.inr (by decide))]; exact p11
    | some u =>
      rw [hpv] at p11
      show Y_R x' 26 u = -1
      rw [eR, f2_ne (by decide), r5_nr (Or.inr (by decide))]; exact p11
  · rw [eC, cl_lt p6, f1_eq, ea, f2_ne (by decide), f2_eq, f1_eq]
  · rw [ea, f2_eq, f1_eq]
  · rw [ea, f2_ne (by decide), f2_eq, f1_eq, eC]; exact cl_at (i := 1) (show 1 < 2 by decide)
  · rw [eR, f2_eq, f1_eq]
  · rw [nB]; omega
  · omega
  · rw [ea, f2_ne (by decide), f2_ne (by decide), f2_eq, f1_eq, f2_ne (by decide), f2_eq, f1_eq]
  · rw [ek, f2_eq, f1_eq]
  · rw [y_cl (by omega)]; exact Nat.le_succ _
  · rw [nz, ea, f2_ne (by decide), f2_eq, f1_eq]; omega
  · rw [ea, f2_ne (by decide), f2_eq, f1_eq]; exact Nat.le_succ _
theorem tr_2 (h : TP E q t c hp pv y) (hz : Y_z y < 80000) : TF E q t c hp pv y (Y_y2 q t c y) := by
  obtain ⟨I, ec, xx, lv, ⟨nn, nT, nV⟩, hC, hn, lt⟩ := t2_f h hz
  obtain ⟨⟨i, v⟩, ⟨ph, p1, p2⟩, p3, ⟨p4, p5⟩, -⟩ := h
  have lv := lv ph p2
  generalize Y_y2 q t c y = x' at *
  refine ⟨I, ec, xx, ⟨fun k h1 h2 => ?_, fun k h1 h2 => absurd h2 (by omega), fun k h1 h2 => absurd h2 (by omega)⟩, ⟨by rw [hn, hx_1]; exact hC, Or.inl hn⟩, lt⟩
  have ek : k = Y_n y := by omega
  subst ek
  refine lv_G lv p1 p4 ?_
  have w := i.2.1
  rw [p2] at w
  obtain ⟨w1, w2, w3, w4⟩ := w
  exact ⟨lv.2.2.2.2.2.1, ⟨by show 400 * Y_B x' ≤ t; rw [lv.2.2.2.2.2.2.2.2.2]; exact p4, lv.2.2.2.2.2.2.2.2.1⟩, by omega, xx_wf xx c w4⟩
end YT2
