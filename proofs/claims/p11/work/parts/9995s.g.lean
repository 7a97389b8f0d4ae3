/-! THE TEXT'S END: hears found, on both sides. -/
section YTb
variable {E : x_E} {y : y_X} {x : x_X}
/-- what a read leaves of the fields, behind the hears -/
def re_E (M : Nat → Int32) (F : Nat → Nat → Int32) (r : Int32) (M' : Nat → Int32) (F' : Nat → Nat → Int32) : Prop := F' = F ∧ (r = 0 → (∀ j, j ≠ 40 → j ≠ 41 → j ≠ 28 → M' j = M j) ∧ M' 28 = M 30) ∧ (¬ r = 0 → (∀ j, j ≠ 40 → j ≠ 41 → j ≠ 27 → M' j = M j) ∧ M' 27 = 1 - M 27)
theorem re_308G {WB : x_RW} {Q Q' : Int32 → (Nat → Int32) → (Nat → Nat → Int32) → Prop} {t t1 : Int32} {M : Nat → Int32} {F : Nat → Nat → Int32} (h0 : t1 ≤ 0 → t1 = 0) (e : M 40 = t1) (h : ∀ M' F', re_E M F t1 M' F' → Q t1 M' F' → Q' t1 M' F') (w : w_read_308 WB Q t M F) : w_read_308 WB Q' t M F := by
  have e1 : um (um M 41 t) 28 (M 30) 40 = t1 := e
  have e2 : um (um M 41 t) 27 (1 - (M 27)) 40 = t1 := e
  refine ⟨fun q => ?_, fun q => ?_⟩
  · have w1 : Q (um (um M 41 t) 28 (M 30) 40) (um (um M 41 t) 28 (M 30)) F := w.1 q
    show Q' (um (um M 41 t) 28 (M 30) 40) (um (um M 41 t) 28 (M 30)) F
    rw [e] at q
    rw [e1] at w1 ⊢
    exact h _ _ ⟨rfl, fun _ => ⟨fun j h1 h2 h3 => by rw [um_ne h3, um_ne h2], um_eq⟩, fun z => absurd (h0 q) z⟩ w1
  · have w1 : Q (um (um M 41 t) 27 (1 - (M 27)) 40) (um (um M 41 t) 27 (1 - (M 27))) F := w.2 q
    show Q' (um (um M 41 t) 27 (1 - (M 27)) 40) (um (um M 41 t) 27 (1 - (M 27))) F
    rw [e] at q
    rw [e2] at w1 ⊢
    exact h _ _ ⟨rfl, fun z => absurd (by rw [z]; decide) q, fun _ => ⟨fun j h1 h2 h3 => by rw [um_ne h3, um_ne h2], um_eq⟩⟩ w1
theorem re_256G {WB : x_RW} {Q Q' : Int32 → (Nat → Int32) → (Nat → Nat → Int32) → Prop} {t1 : Int32} {M : Nat → Int32} {F : Nat → Nat → Int32} (h0 : t1 ≤ 0 → t1 = 0) (h : ∀ M' F', re_E M F t1 M' F' → Q t1 M' F' → Q' t1 M' F') (w : w_read_256 WB Q t1 M F) : w_read_256 WB Q' t1 M F := by
  have e : um M 40 t1 40 = t1 := um_eq
  have h : ∀ M' F', re_E (um M 40 t1) F t1 M' F' → Q t1 M' F' → Q' t1 M' F' := fun M' F' r => h M' F' ⟨r.1, fun z => ⟨fun j h1 h2 h3 => by rw [(r.2.1 z).1 j h1 h2 h3, um_ne h1], (r.2.1 z).2⟩, fun z => ⟨fun j h1 h2 h3 => by rw [(r.2.2 z).1 j h1 h2 h3, um_ne h1], (r.2.2 z).2⟩⟩
  unfold w_read_256 w_bad at w ⊢
  refine ⟨fun a => ⟨fun b => ⟨fun c => ⟨fun d => re_308G h0 e h ((((w.1 a).1 b).1 c).1 d), fun d => re_308G h0 e h ((((w.1 a).1 b).1 c).2 d)⟩, fun c => re_308G h0 e h (((w.1 a).1 b).2 c)⟩, fun b => re_308G h0 e h ((w.1 a).2 b)⟩, fun a => ⟨fun b => ⟨fun c => ⟨fun d => re_308G h0 e h ((((w.2 a).1 b).1 c).1 d), fun d => re_308G h0 e h ((((w.2 a).1 b).1 c).2 d)⟩, fun c => re_308G h0 e h (((w.2 a).1 b).2 c)⟩, fun b => re_308G h0 e h ((w.2 a).2 b)⟩⟩
theorem re_207G {WB : x_RW} {Q Q' : Int32 → (Nat → Int32) → (Nat → Nat → Int32) → Prop} {M : Nat → Int32} {F : Nat → Nat → Int32} (hz : z_fin M x) (h : ∀ r M' F', is_a x r → re_E M F r M' F' → Q r M' F' → Q' r M' F') (w : w_read_207 WB Q M F) : w_read_207 WB Q' M F := by
  obtain ⟨zb1, zg⟩ := hz
  unfold w_read_207 w_bad at w ⊢
  cases xb : x.1 with
  | true =>
    have a1 : is_a x 1 := ⟨fun _ => rfl, fun y => absurd (xb.symm.trans y) (by decide), fun y => absurd (xb.symm.trans y) (by decide), fun y => absurd (xb.symm.trans y) (by decide)⟩
    exact ⟨fun a => absurd a (zb1 xb), fun a => ⟨fun b => absurd b (by decide), fun b => re_256G (t1 := 1) (by decide) (fun M' F' => h 1 M' F' a1) ((w.2 a).2 b)⟩⟩
  | false =>
    obtain ⟨g1, g2, g3, g4⟩ := zg xb
    refine ⟨fun a => ⟨fun b => ⟨fun c => ⟨fun d => ⟨fun e => re_256G (t1 := 0) (by decide) (fun M' F' => h 0 M' F' ?_) (((((w.1 a).1 b).1 c).1 d).1 e), fun e => re_256G (t1 := 4) (by decide) (fun M' F' => h 4 M' F' ?_) (((((w.1 a).1 b).1 c).1 d).2 e)⟩, fun d => re_256G (t1 := 3) (by decide) (fun M' F' => h 3 M' F' ?_) ((((w.1 a).1 b).1 c).2 d)⟩, fun c => re_256G (t1 := 2) (by decide) (fun M' F' => h 2 M' F' ?_) (((w.1 a).1 b).2 c)⟩, fun b => absurd rfl b⟩, fun a => absurd g1 a⟩
    · have u := g2.mp c
      have v := (g3 u).mp d
      exact ⟨fun y => absurd (y.symm.trans xb) (by decide), fun _ y => absurd (y.symm.trans u) (by decide), fun _ _ y => absurd (y.symm.trans v) (by decide), fun _ _ _ => ⟨fun _ => rfl, fun y => absurd ((g4 u v).mp e) y⟩⟩
    · have u := g2.mp c
      have v := (g3 u).mp d
      exact ⟨fun y => absurd (y.symm.trans xb) (by decide), fun _ y => absurd (y.symm.trans u) (by decide), fun _ _ y => absurd (y.symm.trans v) (by decide), fun _ _ _ => ⟨fun y => absurd ((g4 u v).mpr y) e, fun _ => rfl⟩⟩
    · have u := g2.mp c
      exact ⟨fun y => absurd (y.symm.trans xb) (by decide), fun _ y => absurd (y.symm.trans u) (by decide), fun _ _ _ => rfl, fun _ _ y => absurd ((g3 u).mpr y) d⟩
    · exact ⟨fun y => absurd (y.symm.trans xb) (by decide), fun _ _ => rfl, fun _ y => absurd (g2.mpr y) c, fun _ y => absurd (g2.mpr y) c⟩
/-- the class's rows at the end -/
def finC (s : f_S3) (y : y_X) : Prop := nf y → (s.1 63 = nI (Y_z y) ∧ s.1 64 = Y_i y 1) ∧ (∀ p, p < Y_z y → s.2.1 20 p = fdC y (Y_l y).length p) ∧ ∀ h : Nat, (h : Int) < (Y_i y 1).toInt → h < 16 → s.2.1 21 h = Y_r y (200000 + h) ∧ s.2.1 22 h = Y_r y h
theorem c_findG (hE : E_ok E) {s : f_S3} {O : Nat × Nat} (h : rcwG E s y) (hI : t_I E (yx y)) {Q : f_S3 → Nat × Nat → Prop} (hQ : ∀ s', c_fin (E_N E) s' (yx y) → finC s' y → Q s' O) : wF_X7_findHearings (E_N E) s O Q := by
  obtain ⟨n26, n27, n26'⟩ := E_26 hE
  cases hb : y.1 with
  | true => exact ⟨E_N E 26 + 1, bw_find hE.2.2.2.1 hE.2.2.2.2.2.2.2.2.2 n26' n27 (fun s' h' => hQ s' ⟨h'.2.2, fun _ => h'.2.1, fun q => absurd (hb.symm.trans q) (by decide)⟩ (fun n => absurd n (nf_bd hb))) (E_N E 26) 0 s (by omega) (h.1.1 hb)⟩
  | false =>
    have g := h.1.2 hb
    obtain ⟨fa, fd, fb, fc⟩ := g.2.1
    obtain ⟨z1, z2, -⟩ := g.2.2.2.2.1
    have hN2 := hE.2.2.2.1.2.1
    refine ⟨(X_l (yx y)).length + 1, c_findJ hE g hI hb (J := fun i s => nf y → ∀ p, p < Y_z y → s.2.1 20 p = fdC y i p) (fun i s1 s2 p hi hj e26 es n p' hp' => ?_) (fun s' h' hj => hQ s' ?_ (fun n => ?_)) (X_l (yx y)).length 0 s (by omega) ⟨rfl, fun _ _ _ => rfl, fun _ _ => rfl, fun _ _ _ _ _ _ => ⟨rfl, rfl⟩, fun _ _ => ⟨fun _ j hj => absurd hj (by omega), fun _ => fd⟩⟩ (fun n p hp => (h.2 n).1 p hp)⟩
    · show uf s2.2.1 20 (nI p) (X_v (yx y) ((X_l (yx y)).getD i (0, 0)).1) 20 p' = f1 (fdC y i) (nI (Y_a y 6 i)).toNatClampNeg (Y_v y ((Y_l y).getD i (0, 0)).1) p'
      have e : nI p = nI (Y_a y 6 i) := e26.symm.trans ((h.2 n).2.2.2 i hi)
      rw [uf_at2, e]
      by_cases q : p' = (nI (Y_a y 6 i)).toNatClampNeg
      · rw [if_pos ⟨rfl, q⟩, q, f1_eq]; rfl
      · rw [if_neg (fun z => q z.2), f1_ne q, es 20 (by decide)]
        exact hj n p' hp'
    · obtain ⟨k1, k2, k3, k4, k5⟩ := h'
      refine ⟨by rw [k1, z1, fs_nI (by omega)]; omega, fun q => absurd (hb.symm.trans q) (by decide), fun _ => ⟨by rw [k3 1 (by decide)]; exact fa, ?_, fun q => ?_, k5⟩⟩
      · rw [k3 2 (by decide)]
        exact ⟨fun z => (fb.mp z).1, fun z => fb.mpr ⟨z, rfl⟩⟩
      · rw [k3 3 (by decide)]
        exact ⟨fun z => ((fc q).mp z).1, fun z => (fc q).mpr ⟨z, rfl⟩⟩
    · obtain ⟨k1, k2, k3, k4, k5⟩ := h'
      obtain ⟨c1, c2, c3, c4⟩ := h.2 n
      refine ⟨⟨by rw [k1]; exact z1, by rw [k1]; exact g.2.2.1.1⟩, hj n, fun hh h1 h2 => ⟨?_, ?_⟩⟩
      · rw [k2 21 (by decide) (by decide)]; exact c3 hh h1 h2
      · rw [k2 22 (by decide) (by decide)]; exact g.2.2.2.2.2.2.2 hh h1 h2
/-- the reference's rows at the end -/
def finR (b : Nat) (y : y_X) (M : Nat → Int32) (F : Nat → Nat → Int32) : Prop := (M 27 = nI b ∧ M 28 = Y_i y 1 ∧ Y_B y = b ∧ Y_T y ≤ 800 ∧ M 31 = nI (Y_m y 1) ∧ M 32 = nI (Y_m y 2)) ∧ (∀ r k, r = 13 ∨ r = 15 ∨ r = 16 ∨ r = 17 → 9000 * Y_B y ≤ k → k < Y_n y → F r k = Y_R y r k) ∧ (∀ k, 9000 * Y_B y ≤ k → k < Y_n y → F 14 k = fdR y (Y_l y).length k) ∧ (∀ r t, 20 ≤ r → r ≤ 22 → 400 * Y_B y ≤ t → t < Y_T y → r ≤ 20 + Y_a y 7 t → F r t = Y_R y r t) ∧ (∀ r u, 23 ≤ r → r ≤ 26 → 400 * Y_B y ≤ u → u < Y_V y → r ≤ 22 + Y_a y 8 u → F r u = Y_R y r u) ∧ ∀ h : Nat, (h : Int) < (Y_i y 1).toInt → F 18 (400 * Y_B y + h) = Y_r y (100000 + h) ∧ F 19 (400 * Y_B y + h) = Y_r y h
theorem re_findG (hE : E_ok E) {b : Nat} {M : Nat → Int32} {F : Nat → Nat → Int32} (hr : rxoG E b M F y) (hI : t_I E (yx y)) (ht : y.1 = false → Y_ty E y = 135) {WB : x_RW} {Q Q' : Int32 → (Nat → Int32) → (Nat → Nat → Int32) → Prop} (h : ∀ r M' F', is_a (yx y) r → (r = 0 → nf y ∧ all4 (yx y) (Y_l y).length ∧ finR b y M' F') → Q r M' F' → Q' r M' F') {e : Nat} (w : w_read_104 WB Q e 0 M F) : w_read_104 WB Q' e 0 M F := by
  obtain ⟨a, c, hr⟩ := hr
  cases hb : y.1 with
  | true =>
    have hz := hr.1.1 hb
    have zf : z_fin M (yx y) := ⟨fun _ => hz, fun q => absurd (hb.symm.trans q) (by decide)⟩
    have h' : ∀ r M' F', is_a (yx y) r → re_E M F r M' F' → Q r M' F' → Q' r M' F' := fun r M' F' ia _ q => h r M' F' ia (fun z => by
      have := ia.1 hb
      rw [z] at this; exact absurd this (by decide)) q
    cases e with
    | zero => exact absurd w (fun q => q)
    | succ e =>
      dsimp only [w_read_104] at w ⊢
      refine ⟨fun q => re_207G zf h' (w.1 q), fun q => ?_⟩
      have w := w.2 q
      unfold w_bad at w ⊢
      exact ⟨fun a => absurd a hz, fun a => ⟨fun b => re_207G zf h' ((w.2 a).1 b), fun b => absurd b (by decide)⟩⟩
  | false =>
    obtain ⟨g1, ⟨f36, f39, f37, f38⟩, ⟨i0, i1, -⟩, g4, g5, g6⟩ := hr.1.2 hb
    have htm : X_t (yx y) = E_m E := by
      by_cases q : X_t (yx y) = E_m E
      · exact q
      · have hlt : X_t (yx y) < E_m E := by have : X_t (yx y) ≤ E_m E := g1.2; omega
        exact absurd ((X_tyg (x := yx y) hb).symm.trans (ht hb)) (x_ty (hE.1.1.2.2 _ hlt).2.2.1).2
    have g : rxg E (b, false) (um (um M 34 (X_i (yx y) 2)) 35 (X_i (yx y) 3)) F (yx y) := ⟨rz_q_cg g1 rfl rfl rfl rfl rfl rfl rfl rfl rfl, ⟨f36, f39, f37, f38⟩, ⟨i0, i1, fun _ _ => ⟨rfl, rfl⟩⟩, g4, g5, g6⟩
    have e27 : M 27 = nI b := g6.1.1
    have e30 : M 30 = Y_i y 1 := i1
    refine re_findJ hE g hI hb htm (J := fun i M' F' => nf y → ((∀ r, r ≠ 14 → F' r = F r) ∧ (∀ k, 9000 * Y_B y ≤ k → k < Y_n y → F' 14 k = fdR y i k)) ∧ M' = M) (fun i M1 F1 hi ok hj n => ?_) (fun M1 F1 hz hj w1 => re_207G (x := yx y) ?_ (fun r M' F' ia re q => h r M' F' ia (fun z => ?_) q) w1) e 0 M F (by omega) ⟨fun j hj _ h34 h35 => by rw [um_ne h35, um_ne h34], fun _ _ => rfl, fun _ _ => ⟨fun _ j hj => absurd hj (by omega), fun _ => f39⟩⟩ (fun _ _ _ n => ?_) w
    · obtain ⟨⟨j1, j2⟩, j3⟩ := hj n
      have R := hr.2 n
      have eB : b = Y_B y := R.1
      have e42 : F1 42 (nI i).toNatClampNeg = nI (Y_a y 5 i) := by
        rw [j1 42 (by decide), y_cl (by have hl := hI.2.1 hb; have hpn : E_p E (X_t (yx y)) ≤ E_n E := E_pn hE g1.2; have hn := E_n4 hE; have hi : i < (X_l (yx y)).length := hi; omega)]
        exact R.2.2.2.2.2.2.2.2 i hi
      refine ⟨⟨fun r hr' => ?_, fun k h1 h2 => ?_⟩, j3⟩
      · rw [uf_row hr']; exact j1 r hr'
      · show uf F1 14 (F1 42 (nI i).toNatClampNeg) (400 * nI b + X_v (yx y) ((X_l (yx y)).getD i (0, 0)).1) 14 k = f1 (fdR y i) (nI (Y_a y 5 i)).toNatClampNeg (400 * nI (Y_B y) + Y_v y ((Y_l y).getD i (0, 0)).1) k
        rw [uf_at2, e42, eB]
        by_cases q : k = (nI (Y_a y 5 i)).toNatClampNeg
        · rw [if_pos ⟨rfl, q⟩, q, f1_eq]; rfl
        · rw [if_neg (fun z => q z.2), f1_ne q]; exact j2 k h1 h2
    · obtain ⟨z1, z2, z3⟩ := hz
      refine ⟨fun q => absurd (hb.symm.trans q) (by decide), fun _ => ⟨?_, ?_, fun q => ?_, z3⟩⟩
      · rw [z1 36 (by decide) (by decide) (by decide) (by decide)]; exact f36
      · rw [z1 37 (by decide) (by decide) (by decide) (by decide)]; exact f37
      · rw [z1 38 (by decide) (by decide) (by decide) (by decide)]; exact f38 q
    · -- nothing wrong
      obtain ⟨b1, b2, b3, b4⟩ := ia
      have q2 : X_2 (yx y) = false := by
        cases q : X_2 (yx y) with
        | true => have := b2 hb q; rw [z] at this; exact absurd this (by decide)
        | false => rfl
      have q3 : X_3 (yx y) = false := by
        cases q : X_3 (yx y) with
        | true => have := b3 hb q2 q; rw [z] at this; exact absurd this (by decide)
        | false => rfl
      have al : all4 (yx y) (X_l (yx y)).length := by
        by_cases q : all4 (yx y) (X_l (yx y)).length
        · exact q
        · have := (b4 hb q2 q3).2 q; rw [z] at this; exact absurd this (by decide)
      have n : nf y := ⟨hb, q2, q3⟩
      obtain ⟨⟨j1, j2⟩, j3⟩ := hj q2 q3 al n
      obtain ⟨R1, R2, ⟨R3, R3', -⟩, R4, R5, R6, R7, R8, R9⟩ := hr.2 n
      have eB : b = Y_B y := R1
      obtain ⟨rF, r0, -⟩ := re
      obtain ⟨rM, r28⟩ := r0 z
      subst rF j3
      refine ⟨n, al, ⟨⟨?_, ?_, eB.symm, R3', ?_, ?_⟩, fun r k hr' h1 h2 => ?_, j2, fun r t h1 h2 h3 h4 h5 => ?_, fun r u h1 h2 h3 h4 h5 => ?_, fun hh h1 => ⟨?_, ?_⟩⟩⟩
      · rw [rM 27 (by decide) (by decide) (by decide)]; exact e27
      · rw [r28]; exact e30
      · rw [rM 31 (by decide) (by decide) (by decide)]; exact R2.2.1
      · rw [rM 32 (by decide) (by decide) (by decide)]; exact R2.2.2
      · rw [j1 r (by rcases hr' with rfl | rfl | rfl | rfl <;> decide)]
        exact R4 r k (by rcases hr' with rfl | rfl | rfl | rfl <;> decide) (by rcases hr' with rfl | rfl | rfl | rfl <;> decide) h1 h2
      · rw [j1 r (by omega)]; exact R5 r t h1 h2 h3 h4 h5
      · rw [j1 r (by omega)]; exact R6 r u h1 h2 h3 h4 h5
      · rw [j1 18 (by decide)]; exact R7 hh (Or.inl h1)
      · rw [j1 19 (by decide), ← eB]; exact g6.2 hh (Or.inl h1)
    · have R := hr.2 n
      exact ⟨⟨fun _ _ => rfl, fun k h1 h2 => R.2.2.2.1 14 k (by decide) (by decide) h1 h2⟩, rfl⟩
end YTb
