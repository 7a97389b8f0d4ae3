/-! HEARINGS WITH WHAT THEY PUT: names and parameters. -/
section YT5
variable {E : x_E} {W W' x y : y_X} {w : Nat} {K : List Nat} {k : x_B} {M : Nat → Int32} {F : Nat → Nat → Int32} {s : f_S3} {O : Nat × Nat}
def Y_h3 (y : y_X) : y_X := if Y_i y 1 < 16 then y else Y_s3 y
def Y_hv (w : Nat) (y : y_X) : y_X := if Y_v y w = -1 then Y_sv w y else Y_s2 y
def Y_h0 (y : y_X) : y_X := Y_si 3 0 (Y_si 2 0 y)
def Y_nh (E : x_E) (y : y_X) : y_X := if Y_ty E y = 130 then Y_h0 (Y_h3 (Y_hv (E_w E (Y_t y)) (Y_ad y))) else Y_bd y
theorem yx_h3 : yx (Y_h3 y) = X_h3 (yx y) := yx_if _
theorem yx_hv : yx (Y_hv w y) = X_hv w (yx y) := yx_if _
theorem yx_h0 : yx (Y_h0 y) = X_h0 (yx y) := rfl
theorem yx_nh : yx (Y_nh E y) = X_nh E (yx y) := by
  unfold Y_nh X_nh
  by_cases z : Y_ty E y = 130
  · rw [if_pos z, if_pos (show X_ty E (yx y) = 130 from z), yx_h0, yx_h3, yx_hv]; rfl
  · rw [if_neg z, if_neg (show ¬ X_ty E (yx y) = 130 from z)]; rfl
theorem nh_g (n : nf (Y_nh E y)) : Y_ty E y = 130 ∧ Y_v y (E_w E (Y_t y)) = -1 ∧ Y_i y 1 < 16 ∧ Y_nh E y = Y_h0 (Y_sv (E_w E (Y_t y)) (Y_ad y)) := by
  unfold Y_nh at n ⊢
  by_cases z : Y_ty E y = 130
  · rw [if_pos z] at n ⊢
    unfold Y_hv at n ⊢
    by_cases q : Y_v y (E_w E (Y_t y)) = -1
    · rw [if_pos (show Y_v (Y_ad y) (E_w E (Y_t y)) = -1 from q)] at n ⊢
      unfold Y_h3 at n ⊢
      by_cases r : Y_i y 1 < 16
      · rw [if_pos (show Y_i (Y_sv (E_w E (Y_t y)) (Y_ad y)) 1 < 16 from r)] at n ⊢
        exact ⟨z, q, r, rfl⟩
      · rw [if_neg (show ¬ Y_i (Y_sv (E_w E (Y_t y)) (Y_ad y)) 1 < 16 from r)] at n
        exact absurd n.2.2 (by show ¬ true = false; decide)
    · rw [if_neg (show ¬ Y_v (Y_ad y) (E_w E (Y_t y)) = -1 from q)] at n
      have e : Y_2 (Y_h0 (Y_h3 (Y_s2 (Y_ad y)))) = true := by unfold Y_h3; split <;> rfl
      exact absurd (e.symm.trans n.2.1) (by decide)
  · rw [if_neg z] at n
    exact absurd n (nf_bd rfl)
theorem nh_n (n : nf (Y_nh E y)) : nf y := by
  have e := (nh_g n).2.2.2
  rw [e] at n
  exact n
/-- the class's frames -/
theorem fF_tr {s1 s2 : f_S3} (a : fF s s1) (b : fF s1 s2) : fF s s2 := ⟨b.1.trans a.1, b.2.1.trans a.2.1, b.2.2.1.trans a.2.2.1, b.2.2.2.trans a.2.2.2⟩
theorem fF_take {N : Nat → Nat} {c : Int32} {Q Q' : f_S3 → Nat × Nat → Prop} (h : wF_X7_take N c s O Q) (hq : ∀ s', fF s s' → Q s' O → Q' s' O) : wF_X7_take N c s O Q' := ⟨fun q => fF_fail (h.1 q) hq, fun q => fF_adv (h.2 q) hq⟩
theorem fF_n98 {N : Nat → Nat} {s1 : f_S3} {Q Q' : f_S3 → Nat × Nat → Prop} (h : wF_X7_nameHearing_98 N Q s1 O) (f : fF s s1) (hq : ∀ s', fF s s' → Q s' O → Q' s' O) : wF_X7_nameHearing_98 N Q' s1 O := fF_take h (fun s' f' => hq s' (fF_tr f f'))
theorem fF_n18 {N : Nat → Nat} {s1 : f_S3} {Q Q' : f_S3 → Nat × Nat → Prop} (h : wF_X7_nameHearing_18 N Q s1 O) (f : fF s s1) (hq : ∀ s', fF s s' → Q s' O → Q' s' O) : wF_X7_nameHearing_18 N Q' s1 O := by
  have f0 : fF s (fm (fm s1 9 0) 10 0) := fF_tr f ⟨rfl, rfl, rfl, rfl⟩
  refine ⟨fun q => fF_n98 (h.1 q) f0 hq, fun q => ?_⟩
  have h := h.2 q
  refine ⟨fun q => fF_n98 (h.1 q) f0 hq, fun q => ?_⟩
  have h := h.2 q
  refine ⟨fun q => fF_n98 (h.1 q) f0 hq, fun q => ?_⟩
  have h := h.2 q
  exact ⟨h.1, fun q => fF_pf (h.2.1 q) (fun s' _ f' w => fF_n98 w (fF_tr f0 f') hq), fun q => ⟨(h.2.2 q).1, fF_n98 (h.2.2 q).2 (fF_tr f0 ⟨rfl, rfl, rfl, rfl⟩) hq⟩⟩
theorem fF_nh {N : Nat → Nat} {p : Int32} {Q Q' : f_S3 → Nat × Nat → Prop} (h : wF_X7_nameHearing N p s O Q) (hq : ∀ s', fF s s' → Q s' O → Q' s' O) : wF_X7_nameHearing N p s O Q' := ⟨fun q => fF_n18 (h.1 q) ⟨rfl, rfl, rfl, rfl⟩ hq, fun q => fF_pf (h.2 q) (fun s' _ f w => fF_n18 w f hq)⟩
theorem cg_nameHearing (hE : E_ok E) {p : Int32} (hp : x.1 = false → ¬ p = -1) (h : rcG E (K, 0, false, false) s x) {Q : f_S3 → Nat × Nat → Prop} (hQ : ∀ s', rcG E (K, 0, false, false) s' (Y_nh E x) → Q s' O) : wF_X7_nameHearing (E_N E) p s O Q := by
  refine fF_nh (c_nameHearing hE hp h.1 (Q := fun s' _ => rc E (K, 0, false, false) s' (X_nh E (yx x))) (fun _ h' => h')) (fun s' f h' => hQ s' ⟨by rw [yx_nh]; exact h', fun n => ?_⟩)
  have g := CG_fr h.2 f (nh_n n)
  rw [(nh_g n).2.2.2]
  exact g
/-- the reference's small steps -/
theorem rg_s3f (h : rxG E k M F y) (hb : y.1 = false) {r : Int32} (hr : ¬ r = -1) : rxG E k (um M 38 r) F (Y_s3 y) := ⟨rx_g (re_s3 (h.1.2 hb) hr) hb, fun n => absurd n.2.2 (by show ¬ true = false; decide)⟩
theorem rg_s2f (h : rxG E k M F y) (hb : y.1 = false) {r : Int32} (hr : ¬ r = -1) : rxG E k (um M 37 r) F (Y_s2 y) := ⟨rx_g (re_s2 (h.1.2 hb) hr) hb, fun n => absurd n.2.1 (by show ¬ true = false; decide)⟩
theorem rg_svf (hE : E_ok E) (wl : w < E_l E (Y_t y)) (wL : w < E_L E) (h : rxG E k M F y) (hb : y.1 = false) : rxG E k M (uf F 11 (nI w) (M 30)) (Y_sv w y) := ⟨rx_g (re_sv (x := yx y) hE wl wL (h.1.2 hb)) hb, RG_fr (y := y) h.2 ⟨⟨rfl, rfl, rfl⟩, fun r hr => uf_row (fun q => by subst q; revert hr; decide)⟩⟩
theorem rg_h0f (h : rxG E k M F y) (hb : y.1 = false) : rxG E k (um (um M 34 0) 35 0) F (Y_h0 y) := ⟨rx_g (re_h0 (h.1.2 hb)) hb, RG_fr (y := y) h.2 ⟨⟨rfl, rfl, rfl⟩, fun _ _ => rfl⟩⟩
theorem rg_nh (hE : E_ok E) {b : Nat} {WB : x_RW} {K0 K0' Q Q' : (Nat → Int32) → (Nat → Nat → Int32) → Prop} (hr : rxG E (b, false) M F x) (hQ : ∀ M' F', zb M' → (Y_nh E (Y_tk E 200 x)).1 = true → Q M' F' → Q' M' F') (hK : ∀ (M' : Nat → Int32) (F' : Nat → Nat → Int32), rxG E (b, false) (um (um M' 34 0) 35 0) F' (Y_nh E (Y_tk E 200 x)) → M' 27 = nI b → M' 30 = Y_i x 1 → w_text_95 WB K0 Q M' F' → w_text_95 WB K0' Q' M' F') (wt : tbb WB K0 Q M F) : tbb WB K0' Q' M F := by
  refine rg_needWord hE 0 (by decide) (c := 0) (d := 200) (by decide) (by decide) (b, false) M F _ _ hr wt (fun M1 F1 r1 w1 => ?_)
  refine rg_takenW hE (Or.inl ⟨rfl, rfl⟩) r1 w1 (fun r M2 F2 r2 hr2 w2 => ?_)
  by_cases z : Y_ty E (Y_tk E 200 x) = 130
  · obtain ⟨e, n47⟩ := hr2 z
    subst e
    have hb := Y_tyn z (by decide)
    have hA := (Y_tyg hb).symm.trans z
    obtain ⟨w1', -, wL, wl⟩ := E_word hE (r1.1.2 hb).1.2 (Or.inl hA)
    have wL : E_w E (Y_t (Y_tk E 200 x)) < E_L E := wL
    have wl : E_w E (Y_t (Y_tk E 200 x)) < E_l E (Y_t (Y_ad (Y_tk E 200 x))) := E_l_mono hE w1' wl
    have hL : E_L E ≤ 2005 := hE.1.2.2.2.2.1
    have etk : Y_tk E 130 (Y_tk E 200 x) = Y_ad (Y_tk E 200 x) := (by
      have : ∀ y : y_X, Y_ty E y = 130 → Y_tk E 130 y = Y_ad y := fun y q => by unfold Y_tk; rw [if_pos q]
      exact this _ z)
    rw [etk] at r2
    have hb2 : (Y_ad (Y_tk E 200 x)).1 = false := hb
    have g2 := r2.1.2 hb2
    have ei : Y_i (Y_ad (Y_tk E 200 x)) = Y_i x := by
      show Y_i (Y_tk E 200 x) = Y_i x
      unfold Y_tk; split <;> rfl
    have en : Y_nh E (Y_tk E 200 x) = Y_h0 (Y_h3 (Y_hv (E_w E (Y_t (Y_tk E 200 x))) (Y_ad (Y_tk E 200 x)))) := by unfold Y_nh; rw [if_pos z]
    rw [en] at hK
    have eF : F2 11 (E_w E (Y_t (Y_tk E 200 x))) = Y_v (Y_ad (Y_tk E 200 x)) (E_w E (Y_t (Y_tk E 200 x))) := (g2.2.2.2.1.1 _ wl).2
    -- from the name on
    have go : ∀ M3 F3, rxG E (b, false) M3 F3 (Y_hv (E_w E (Y_t (Y_tk E 200 x))) (Y_ad (Y_tk E 200 x))) → ¬ M3 47 = -1 → w_text_71 WB K0 Q M3 F3 → w_text_71 WB K0' Q' M3 F3 := by
      intro M3 F3 r3 n3 w3
      have hvb : (Y_hv (E_w E (Y_t (Y_tk E 200 x))) (Y_ad (Y_tk E 200 x))).1 = false := by
        unfold Y_hv; split <;> exact hb
      have hvi : Y_i (Y_hv (E_w E (Y_t (Y_tk E 200 x))) (Y_ad (Y_tk E 200 x))) = Y_i x := by
        unfold Y_hv; split <;> exact ei
      have g3 := r3.1.2 hvb
      have e30 : M3 30 = Y_i x 1 := by
        have := g3.2.2.1.2.1
        exact this.trans (congrFun hvi 1)
      have e27 : M3 27 = nI b := g3.2.2.2.2.2.1.1
      unfold Y_h3 at hK
      rw [hvi] at hK
      refine ⟨fun q => ?_, fun q => ?_⟩
      · rw [e30] at q
        rw [if_pos q] at hK
        exact hK M3 F3 (rg_h0f r3 hvb) e27 e30 (w3.1 (by rw [e30]; exact q))
      · have w3 := w3.2 q
        rw [e30] at q
        rw [if_neg q] at hK
        refine re_least n3 w3 (fun r hr w' => hK _ F3 (rg_h0f (rg_s3f r3 hvb hr) hvb) ?_ ?_ w')
        · rw [um_ne (by decide)]; exact e27
        · rw [um_ne (by decide)]; exact e30
    refine rg_b0 r2 (fun q => absurd (q.symm.trans hb2) (by decide)) (fun _ w => ?_) w2
    obtain ⟨v1, v2, v3⟩ := w
    rw [y_cl (by omega)] at v2 v3 ⊢
    rw [eF] at v2 v3 ⊢
    unfold Y_hv at go
    refine ⟨v1, fun q => ⟨(v2 q).1, ?_⟩, fun q => ?_⟩
    · rw [if_pos q] at go
      exact go M2 _ (rg_svf hE wl wL r2 hb2) n47 (v2 q).2
    · rw [if_neg q] at go
      exact re_least n47 (v3 q) (fun r hr w' => go _ F2 (rg_s2f r2 hb2 hr) (by rw [um_ne (by decide)]; exact n47) w')
  · have etk : Y_tk E 130 (Y_tk E 200 x) = Y_bd (Y_tk E 200 x) := by
      have : ∀ y : y_X, ¬ Y_ty E y = 130 → Y_tk E 130 y = Y_bd y := fun y q => by unfold Y_tk; rw [if_neg q]
      exact this _ z
    have en : Y_nh E (Y_tk E 200 x) = Y_bd (Y_tk E 200 x) := by unfold Y_nh; rw [if_neg z]
    rw [etk] at r2
    rw [en] at hQ
    exact rg_b0 r2 (fun _ w => hQ _ _ (r2.1.1 rfl) rfl w) (fun q => absurd q (by show ¬ true = false; decide)) w2
/-- between hearings the reference's counts are old ones -/
def rxoG (E : x_E) (b : Nat) (M : Nat → Int32) (F : Nat → Nat → Int32) (x : y_X) : Prop := ∃ a c, rxG E (b, false) M F (Y_si 3 c (Y_si 2 a x))
theorem Y_si_id : Y_si 3 (Y_i x 3) (Y_si 2 (Y_i x 2) x) = x := by
  have e : um (um (Y_i x) 2 (Y_i x 2)) 3 (Y_i x 3) = Y_i x := by
    funext j
    by_cases q3 : j = 3
    · rw [q3, um_eq]
    · rw [um_ne q3]
      by_cases q2 : j = 2
      · rw [q2, um_eq]
      · rw [um_ne q2]
  show (x.1, Y_t x, Y_z x, um (um (Y_i x) 2 (Y_i x 2)) 3 (Y_i x 3), x.2.2.2.2) = x
  rw [e]
theorem Y_h0_si {a c : Int32} : Y_h0 (Y_si 3 c (Y_si 2 a x)) = Y_h0 x := by
  have e : um (um (um (um (Y_i x) 2 a) 3 c) 2 0) 3 0 = um (um (Y_i x) 2 0) 3 0 := by
    funext j
    by_cases q3 : j = 3
    · rw [q3, um_eq, um_eq]
    · rw [um_ne q3, um_ne q3]
      by_cases q2 : j = 2
      · rw [q2, um_eq, um_eq]
      · rw [um_ne q2, um_ne q3, um_ne q2, um_ne q2]
  show (x.1, Y_t x, Y_z x, um (um (um (um (Y_i x) 2 a) 3 c) 2 0) 3 0, x.2.2.2.2) = (x.1, Y_t x, Y_z x, um (um (Y_i x) 2 0) 3 0, x.2.2.2.2)
  rw [e]
theorem rxoG_of {b : Nat} (h : rxG E (b, false) M F x) : rxoG E b M F x := ⟨Y_i x 2, Y_i x 3, by rw [Y_si_id]; exact h⟩
theorem Y_nh_si {a c : Int32} : (Y_nh E (Y_si 3 c (Y_si 2 a x))).1 = (Y_nh E x).1 ∧ ((Y_nh E x).1 = false → Y_nh E (Y_si 3 c (Y_si 2 a x)) = Y_nh E x) := by
  unfold Y_nh
  have ty : Y_ty E (Y_si 3 c (Y_si 2 a x)) = Y_ty E x := rfl
  rw [ty]
  by_cases z : Y_ty E x = 130
  · rw [if_pos z, if_pos z]
    have e : Y_h3 (Y_hv (E_w E (Y_t (Y_si 3 c (Y_si 2 a x)))) (Y_ad (Y_si 3 c (Y_si 2 a x)))) = Y_si 3 c (Y_si 2 a (Y_h3 (Y_hv (E_w E (Y_t x)) (Y_ad x)))) := by
      unfold Y_hv
      by_cases q : Y_v x (E_w E (Y_t x)) = -1
      · rw [if_pos (show Y_v (Y_ad (Y_si 3 c (Y_si 2 a x))) (E_w E (Y_t (Y_si 3 c (Y_si 2 a x)))) = -1 from q), if_pos (show Y_v (Y_ad x) (E_w E (Y_t x)) = -1 from q)]
        unfold Y_h3
        by_cases r : Y_i x 1 < 16
        · rw [if_pos (show Y_i (Y_sv (E_w E (Y_t (Y_si 3 c (Y_si 2 a x)))) (Y_ad (Y_si 3 c (Y_si 2 a x)))) 1 < 16 from r), if_pos (show Y_i (Y_sv (E_w E (Y_t x)) (Y_ad x)) 1 < 16 from r)]; rfl
        · rw [if_neg (show ¬ Y_i (Y_sv (E_w E (Y_t (Y_si 3 c (Y_si 2 a x)))) (Y_ad (Y_si 3 c (Y_si 2 a x)))) 1 < 16 from r), if_neg (show ¬ Y_i (Y_sv (E_w E (Y_t x)) (Y_ad x)) 1 < 16 from r)]; rfl
      · rw [if_neg (show ¬ Y_v (Y_ad (Y_si 3 c (Y_si 2 a x))) (E_w E (Y_t (Y_si 3 c (Y_si 2 a x)))) = -1 from q), if_neg (show ¬ Y_v (Y_ad x) (E_w E (Y_t x)) = -1 from q)]
        unfold Y_h3
        by_cases r : Y_i x 1 < 16
        · rw [if_pos (show Y_i (Y_s2 (Y_ad (Y_si 3 c (Y_si 2 a x)))) 1 < 16 from r), if_pos (show Y_i (Y_s2 (Y_ad x)) 1 < 16 from r)]; rfl
        · rw [if_neg (show ¬ Y_i (Y_s2 (Y_ad (Y_si 3 c (Y_si 2 a x)))) 1 < 16 from r), if_neg (show ¬ Y_i (Y_s2 (Y_ad x)) 1 < 16 from r)]; rfl
    rw [e, Y_h0_si]
    exact ⟨rfl, fun _ => rfl⟩
  · rw [if_neg z, if_neg z]
    exact ⟨rfl, fun q => absurd q (by show ¬ true = false; decide)⟩
theorem rg_nho (hE : E_ok E) {b : Nat} {WB : x_RW} {K0 K0' Q Q' : (Nat → Int32) → (Nat → Nat → Int32) → Prop} (hr : rxoG E b M F x) (hQ : ∀ M' F', zb M' → (Y_nh E (Y_tk E 200 x)).1 = true → Q M' F' → Q' M' F') (hK : ∀ (M' : Nat → Int32) (F' : Nat → Nat → Int32), rxG E (b, false) (um (um M' 34 0) 35 0) F' (Y_nh E (Y_tk E 200 x)) → M' 27 = nI b → M' 30 = Y_i x 1 → w_text_95 WB K0 Q M' F' → w_text_95 WB K0' Q' M' F') (wt : tbb WB K0 Q M F) : tbb WB K0' Q' M F := by
  obtain ⟨a, c, hr⟩ := hr
  have et : Y_tk E 200 (Y_si 3 c (Y_si 2 a x)) = Y_si 3 c (Y_si 2 a (Y_tk E 200 x)) := by
    unfold Y_tk
    have ty : Y_ty E (Y_si 3 c (Y_si 2 a x)) = Y_ty E x := rfl
    rw [ty]
    by_cases q : Y_ty E x = 200
    · rw [if_pos q, if_pos q]; rfl
    · rw [if_neg q, if_neg q]; rfl
  refine rg_nh hE hr (fun M' F' z q w => hQ M' F' z ?_ w) (fun M' F' r1 e27 e30 w => hK M' F' ?_ e27 e30 w) wt
  · rw [et, Y_nh_si.1] at q; exact q
  · rw [et] at r1
    cases hb : (Y_nh E (Y_tk E 200 x)).1 with
    | true => exact rxG_zb (r1.1.1 (Y_nh_si.1.trans hb)) hb
    | false => rw [Y_nh_si.2 hb] at r1; exact r1
/-- a parameter -/
def Y_c4 (c : Int32) (y : y_X) : y_X := if c < 4 then y else Y_s3 y
def Y_p1 (E : x_E) (y : y_X) : y_X := if Y_ty E y = 130 then Y_ad (Y_te (E_w E (Y_t y)) y) else Y_bd y
theorem yx_c4 {c : Int32} : yx (Y_c4 c y) = X_c4 c (yx y) := yx_if _
theorem yx_p1 : yx (Y_p1 E y) = X_p1 E (yx y) := by
  unfold Y_p1 X_p1
  by_cases z : Y_ty E y = 130
  · rw [if_pos z, if_pos (show X_ty E (yx y) = 130 from z)]
    show X_ad (yx (Y_te (E_w E (Y_t y)) y)) = _
    rw [yx_te]
    rfl
  · rw [if_neg z, if_neg (show ¬ X_ty E (yx y) = 130 from z)]; rfl
theorem cg_par (hE : E_ok E) (h : rcG E (K, 0, false, false) s x) {G : f_S3 → Nat × Nat → Prop} (hG : ∀ s', rcG E (K, 0, false, false) s' (Y_p1 E x) → G s' O) : wF_X7_newName (E_N E) s O (fun r1 M2 O2 => (wF_X7_tell (E_N E) (s.1 13) r1 M2 O2 (fun M3 O3 => (wF_X7_take (E_N E) 130 M3 O3 (fun M4 O4 => G M4 O4))))) := by
  by_cases z : Y_ty E x = 130
  · have hb := Y_tyn z (by decide)
    have hA : E_A E (Y_t x) = 130 := (Y_tyg hb).symm.trans z
    have g := h.1.2 hb
    obtain ⟨w1, w2, w3, -⟩ := E_word hE g.1.2.2 (Or.inl hA)
    have hv : s.1 13 = nI (33 + E_w E (Y_t x)) := g.1.2.1.2.2.1.trans w2
    refine cg_newName hE h (fun r s1 p2 p3 ah er h1 => cg_tell (w := E_w E (Y_t x)) hE (fun _ => ⟨hv, w3, ah z⟩) (fun _ => ⟨_, w1, hA, rfl⟩) er h1 (fun s2 h2 => cg_take hE h2 (by decide) (by decide) (fun s3 h3 => hG s3 ?_)))
    have e : Y_p1 E x = Y_tk E 130 (Y_te (E_w E (Y_t x)) x) := by unfold Y_p1 Y_tk; rw [if_pos z, if_pos (Y_te_ty.trans z)]
    rw [e]; exact h3
  · have nb : Y_p1 E x = Y_bd x := if_neg z
    refine c_par hE h.1 (fun s' h' => hG s' ?_)
    rw [nb]
    have e : X_p1 E (yx x) = X_bd (yx x) := if_neg z
    rw [e] at h'
    exact rcG_bd (h'.1 rfl) rfl
theorem ys_c4 {c : Int32} (h : x.1 = false → Y_t x ≤ E_m E) : ys E 0 0 0 x (Y_c4 c x) := ⟨by rw [yx_c4]; exact xs_c4 h, fun q => by
  unfold Y_c4
  split
  · exact gx_rf
  · exact fun _ q3 => absurd q3 (by show ¬ true = false; decide)⟩
theorem ys_p1 (hE : E_ok E) (h : x.1 = false → Y_t x ≤ E_m E) : ys E 1 (-2) 0 x (Y_p1 E x) := by
  unfold Y_p1
  split
  · next z =>
    have hb := Y_tyn z (by decide)
    have hA : E_A E (Y_t x) = 130 := (Y_tyg hb).symm.trans z
    have hlt := yq_lt hE h z (by decide)
    have s1 := ys_te (E := E) (w := E_w E (Y_t x)) h (fun _ => ⟨_, hlt hb, hA, rfl⟩)
    exact ys_w (ys_t0 s1 (ym_ys hE (ym_ad hE (yq_lt hE (ys_t s1) (Y_te_ty.trans z) (by decide))))) (by decide) (by decide) rfl
  · exact ys_bd rfl
theorem c4_e {c : Int32} : (Y_c4 c x).1 = x.1 ∧ Y_t (Y_c4 c x) = Y_t x ∧ Y_ty E (Y_c4 c x) = Y_ty E x := by
  unfold Y_c4; split <;> exact ⟨rfl, rfl, rfl⟩
theorem rg_par (hE : E_ok E) {c : Int32} : rrG E (w_parameter c) x (Y_p1 E (Y_c4 c x)) := fun k M F Q Q' hr wt hQ => by
  have c4 := c4_e (E := E) (x := x) (c := c)
  by_cases z : Y_ty E x = 130
  · refine rg_takenW hE (Or.inl ⟨rfl, rfl⟩) hr wt (fun r M1 F1 r1 hr1 w1 => ?_)
    obtain ⟨e, n47⟩ := hr1 z
    subst e
    have hb := Y_tyn z (by decide)
    have hA := (Y_tyg hb).symm.trans z
    obtain ⟨w1', -, wL, wl⟩ := E_word hE (hr.1.2 hb).1.2 (Or.inl hA)
    have etk : Y_tk E 130 x = Y_ad x := by unfold Y_tk; rw [if_pos z]
    rw [etk] at r1
    have ep : Y_p1 E (Y_c4 c x) = Y_te (E_w E (Y_t x)) (Y_ad (Y_c4 c x)) := by
      unfold Y_p1; rw [c4.2.2, c4.2.1, if_pos z, Y_te_ad]
    rw [ep] at hQ
    have go : ∀ M2, rxG E k M2 F1 (Y_ad (Y_c4 c x)) → ¬ M2 47 = -1 → w_parameter_33 Q (nI (E_w E (Y_t x))) M2 F1 → w_parameter_33 Q' (nI (E_w E (Y_t x))) M2 F1 := fun M2 r2 n2 w2 => rg_tell (w := E_w E (Y_t x)) hE (fun q => ⟨rfl, by
      have e : Y_t (Y_ad (Y_c4 c x)) = Y_t x + 1 := by show Y_t (Y_c4 c x) + 1 = Y_t x + 1; rw [c4.2.1]
      rw [e]; exact E_l_mono hE w1' wl, wL, n2⟩) (fun _ => ⟨_, w1', hA, rfl⟩) r2 w2 (fun M3 F3 r3 w3 => hQ M3 F3 r3 w3)
    refine ⟨fun q => go M1 ?_ n47 (w1.1 q), fun q => ?_⟩
    · unfold Y_c4; rw [if_pos q]; exact r1
    · refine rg_b1 r1 (fun y => absurd (y.symm.trans hb) (by decide)) (fun _ w => ?_) (w1.2 q)
      refine re_least n47 w (fun r hr w' => go _ ?_ ?_ w')
      · have : rxG E k (um M1 38 r) F1 (Y_s3 (Y_ad x)) := rg_s3f r1 hb hr
        unfold Y_c4; rw [if_neg q]; exact this
      · rw [um_ne (by decide)]; exact n47
  · have ep : (Y_p1 E (Y_c4 c x)).1 = true := by unfold Y_p1; rw [c4.2.2, if_neg z]; rfl
    have ex : (X_p1 E (X_c4 c (yx x))).1 = true := by
      rw [← yx_c4, ← yx_p1]; exact ep
    exact re_par hE k M F Q Q' hr.1 wt (fun M' F' r' q => hQ M' F' (rxG_zb (r'.1 ex) ep) q)
/-- all but the words told, and the token, stays -/
def gl (W W' : y_X) : Prop := gq W W' ∧ Y_l W' = Y_l W ∧ Y_r W' = Y_r W ∧ Y_i W' 1 = Y_i W 1
theorem gl_rf : gl x x := ⟨gq_rf, rfl, rfl, rfl⟩
theorem gl_tr {z : y_X} (h : gl x y) (h' : gl y z) : gl x z := ⟨gq_tr h.1 h'.1, h'.2.1.trans h.2.1, h'.2.2.1.trans h.2.2.1, h'.2.2.2.trans h.2.2.2⟩
theorem gl_ad : gl x (Y_ad x) := ⟨gq_ad, rfl, rfl, rfl⟩
theorem gl_bd : gl x (Y_bd x) := ⟨⟨rfl, rfl, rfl, rfl, rfl, rfl, rfl⟩, rfl, rfl, rfl⟩
theorem gl_s2 : gl x (Y_s2 x) := ⟨⟨rfl, rfl, rfl, rfl, rfl, rfl, rfl⟩, rfl, rfl, rfl⟩
theorem gl_s3 : gl x (Y_s3 x) := ⟨⟨rfl, rfl, rfl, rfl, rfl, rfl, rfl⟩, rfl, rfl, rfl⟩
theorem gl_su {w : Nat} : gl x (Y_su w x) := ⟨⟨rfl, rfl, rfl, rfl, rfl, rfl, rfl⟩, rfl, rfl, rfl⟩
theorem gl_sv {w : Nat} : gl x (Y_sv w x) := ⟨⟨rfl, rfl, rfl, rfl, rfl, rfl, rfl⟩, rfl, rfl, rfl⟩
theorem gl_si {j : Nat} {v : Int32} (h : 1 ≠ j) : gl x (Y_si j v x) := ⟨⟨rfl, rfl, rfl, rfl, rfl, rfl, rfl⟩, rfl, rfl, (um_ne h : um (Y_i x) j v 1 = Y_i x 1)⟩
theorem gl_tk {c : Int32} : gl x (Y_tk E c x) := by
  unfold Y_tk
  split
  · exact gl_ad
  · exact gl_bd
theorem gl_op {c : Int32} : gl x (Y_op E c x) := by
  unfold Y_op
  split
  · exact gl_tr gl_ad (gl_si (by decide))
  · exact gl_bd
theorem gl_cl {c : Int32} : gl x (Y_cl E c x) := by
  unfold Y_cl
  exact gl_tr gl_tk (gl_si (by decide))
theorem gl_h0 : gl x (Y_h0 x) := gl_tr (gl_si (by decide)) (gl_si (by decide))
theorem gl_h3 : gl x (Y_h3 x) := by
  unfold Y_h3
  split
  · exact gl_rf
  · exact gl_s3
theorem gl_hv {w : Nat} : gl x (Y_hv w x) := by
  unfold Y_hv
  split
  · exact gl_sv
  · exact gl_s2
theorem gl_nh : gl x (Y_nh E x) := by
  unfold Y_nh
  split
  · exact gl_tr (gl_tr (gl_tr gl_ad gl_hv) gl_h3) gl_h0
  · exact gl_bd
theorem gl_c4 {c : Int32} : gl x (Y_c4 c x) := by
  unfold Y_c4
  split
  · exact gl_rf
  · exact gl_s3
theorem gl_te {w : Nat} : gl x (Y_te w x) := by
  unfold Y_te Y_t3
  split
  · exact gl_s2
  · split
    · exact gl_tr gl_su (gl_si (by decide))
    · exact gl_tr (gl_tr gl_su (gl_si (by decide))) gl_s3
theorem gl_p1 : gl x (Y_p1 E x) := by
  unfold Y_p1
  split
  · exact gl_tr gl_te gl_ad
  · exact gl_bd
theorem par_LG (hE : E_ok E) : ∀ (i : Nat) (x : y_X) (c : Int32), x.1 = false → yg E 10 x → jtG E i x → ∃ (x' : y_X) (c' : Int32), (∀ (a : Int32) (e : Nat) (K : List Nat) (s : f_S3) (O : Nat × Nat) (Q : Int32 → f_S3 → Nat × Nat → Prop), jaG a x → i < e → rcG E (K, 0, false, false) s x → (∀ r s', (x'.1 = false → r = c') → rcG E (K, 0, false, false) s' x' → Q r s' O) → wF_X7_parameters_15 (E_N E) Q e c a s O) ∧ (∀ (e : Nat) (WB : x_RW) (h : Int32) (k : x_B) (M : Nat → Int32) (F : Nat → Nat → Int32) (Q Q' : (Nat → Int32) → (Nat → Nat → Int32) → Prop), rxG E k M F (Y_p1 E (Y_c4 c x)) → (∀ r M' F', (x'.1 = false → r = c') → rxG E k M' F' x' → w_hearing_72 WB Q h r M' F' → w_hearing_72 WB Q' h r M' F') → w_hearing_48 WB Q e h (c + 1) M F → w_hearing_48 WB Q' e h (c + 1) M F) ∧ ys E 1 (-2) 0 x x' ∧ gl x x' := by
  intro i
  induction i with
  | zero =>
    intro x c hb hx ht
    have := ht hb
    have := xg_t hx hb
    omega
  | succ i ih =>
    intro x c hb hx ht
    have s0 := ys_c4 (c := c) (yg_t hx)
    have s1 := ys_t0 s0 (ys_p1 hE (ys_t s0))
    have g1 : yg E 8 (Y_p1 E (Y_c4 c x)) := yg_s hx s1 (by decide)
    have n137 : ¬ Y_ty E x = 137 := fun q => E_ty hE (yg_t hx hb) ((Y_tyg hb).symm.trans q)
    -- the class: one parameter
    have one : ∀ (a : Int32) (e : Nat) (K : List Nat) (s : f_S3) (O : Nat × Nat) (Q : Int32 → f_S3 → Nat × Nat → Prop), jaG a x → rcG E (K, 0, false, false) s x → (∀ s4, rcG E (K, 0, false, false) s4 (Y_p1 E (Y_c4 c x)) → (((s4.1 12) = 44 → (wF_X7_advance (E_N E) s4 O (fun M5 O5 => (wF_X7_parameters_15 (E_N E) Q e (c + 1) (a + 1) M5 O5)))) ∧ (¬ (s4.1 12) = 44 → (wF_X7_parameters_92 (E_N E) Q (c + 1) s4 O)))) → wF_X7_parameters_15 (E_N E) Q (e + 1) c a s O := by
      intro a e K s O Q ha hs hk
      have e0 := cg_ty hs
      have go : ∀ s1, rcG E (K, 0, false, false) s1 (Y_c4 c x) → wF_X7_parameters_46 (E_N E) (wF_X7_parameters_15 (E_N E) Q e) Q c a s1 O := fun s1 h1 => cg_par hE h1 (G := fun M4 O4 => (((M4.1 12) = 44 → (wF_X7_advance (E_N E) M4 O4 (fun M5 O5 => (wF_X7_parameters_15 (E_N E) Q e (c + 1) (a + 1) M5 O5)))) ∧ (¬ (M4.1 12) = 44 → (wF_X7_parameters_92 (E_N E) Q (c + 1) M4 O4)))) (fun s4 h4 => hk s4 h4)
      refine ⟨fun q => absurd q (jaG_4 hE ha hb (yg_t hx hb)), fun _ => ⟨fun q => absurd (e0.symm.trans q) n137, fun _ => ⟨fun q => go s ?_, fun q => ?_⟩⟩⟩
      · unfold Y_c4; rw [if_pos q]; exact hs
      · refine y_pf hE.2.2.2.1.1 (Or.inr (Or.inl ⟨rfl, rfl⟩)) ?_ (fun s1 q1 => go s1 ?_)
        · have e14 := (hs.1.2 hb).1.2.1.2.2.2
          rw [e14]; exact E_Pn hE (yg_t hx hb)
        · unfold Y_c4; rw [if_neg q]; exact ⟨rc_g (c_pf3 (hs.1.2 hb) q1) hb, fun n => absurd n.2.2 (by show ¬ true = false; decide)⟩
    by_cases z : Y_ty E (Y_p1 E (Y_c4 c x)) = 44
    · have hb1 := Y_tyn z (by decide)
      have hlt := yq_lt hE (yg_t g1) z (by decide)
      have m2 := ym_ad hE hlt
      have s2 := ys_w (ys_t0 s1 (ym_ys hE m2)) (a' := 1) (d' := -2) (by decide) (by decide) rfl
      have g1q : gl x (Y_p1 E (Y_c4 c x)) := gl_tr gl_c4 gl_p1
      obtain ⟨x', c', ia, ib, im, ig⟩ := ih (Y_ad (Y_p1 E (Y_c4 c x))) (c + 1) hb1 (yg_s hx s2 (by decide)) (jtG_s ht s2)
      refine ⟨x', c', fun a e K s O Q ha he hs hQ => ?_, fun e WB h k M F Q Q' hr hk w => ?_, ys_w (ys_t0 s2 im) (by decide) (by decide) rfl, gl_tr (gl_tr g1q gl_ad) ig⟩
      · obtain ⟨e, rfl⟩ : ∃ e', e = e' + 1 := ⟨e - 1, by omega⟩
        exact one a e K s O Q ha hs (fun s4 h4 => ⟨fun _ => cg_adv hE h4 hlt (fun s5 h5 => ia (a + 1) e K s5 O Q (jaG_s hE ha s2 (by decide)) (by omega) h5 hQ), fun q => absurd ((cg_ty h4).trans z) q⟩)
      · cases e with
        | zero => exact absurd w (fun q => q)
        | succ e =>
          dsimp only [w_hearing_48] at w ⊢
          refine rg_s0 hE hr (c := 44) rfl (fun _ w => ?_) (fun q => absurd z q) w
          exact rg_pass hE hlt k M F _ _ hr w (fun M2 F2 r2 w2 => rg_par hE k M2 F2 _ _ r2 w2 (fun M3 F3 r3 w3 => ib e WB h k M3 F3 Q Q' r3 hk w3))
    · refine ⟨Y_p1 E (Y_c4 c x), c + 1, fun a e K s O Q ha he hs hQ => ?_, fun e WB h k M F Q Q' hr hk w => ?_, ys_w s1 (by decide) (by decide) rfl, gl_tr gl_c4 gl_p1⟩
      · obtain ⟨e, rfl⟩ : ∃ e', e = e' + 1 := ⟨e - 1, by omega⟩
        exact one a e K s O Q ha hs (fun s4 h4 => ⟨fun q => absurd ((cg_ty h4).symm.trans q) z, fun _ => hQ _ s4 (fun _ => rfl) h4⟩)
      · cases e with
        | zero => exact absurd w (fun q => q)
        | succ e =>
          dsimp only [w_hearing_48] at w ⊢
          exact rg_s0 hE hr (c := 44) rfl (fun q => absurd q z) (fun _ w => hk _ M F (fun _ => rfl) hr w) w
theorem j_paramsG (hE : E_ok E) (hx : yg E 10 x) : ∃ (x' : y_X) (c' : Int32), (∀ (K : List Nat) (s : f_S3) (O : Nat × Nat) (Q : Int32 → f_S3 → Nat × Nat → Prop), rcG E (K, 0, false, false) s x → (∀ r s', (x'.1 = false → r = c') → rcG E (K, 0, false, false) s' x' → Q r s' O) → wF_X7_parameters (E_N E) s O Q) ∧ (∀ (WB : x_RW) (h : Int32) (k : x_B) (M : Nat → Int32) (F : Nat → Nat → Int32) (Q Q' : (Nat → Int32) → (Nat → Nat → Int32) → Prop), rxG E k M F x → (∀ r M' F', (x'.1 = false → r = c') → rxG E k M' F' x' → w_hearing_72 WB Q h r M' F' → w_hearing_72 WB Q' h r M' F') → w_isSign 41 M F (fun r2 M3 F3 => ((¬ r2 = 0 → (w_hearing_72 WB Q h 0 M3 F3)) ∧ (r2 = 0 → (w_parameter 0 M3 F3 (fun M16 F16 => (∃ e48, w_hearing_48 WB Q e48 h 1 M16 F16)))))) → w_isSign 41 M F (fun r2 M3 F3 => ((¬ r2 = 0 → (w_hearing_72 WB Q' h 0 M3 F3)) ∧ (r2 = 0 → (w_parameter 0 M3 F3 (fun M16 F16 => (∃ e48, w_hearing_48 WB Q' e48 h 1 M16 F16))))))) ∧ ys E 0 0 0 x x' ∧ gl x x' := by
  have e01 : (0 : Int32) + 1 = 1 := by decide
  cases hb : x.1 with
  | true =>
    refine ⟨x, 0, fun K s O Q hs hQ => bd_params (hs.1.1 hb) (fun r s' h' => hQ r s' (fun q => absurd (hb.symm.trans q) (by decide)) (rcG_bd h' hb)), fun WB h k M F Q Q' hr hk w => ?_, ys_rf (yg_t hx), gl_rf⟩
    have pb : (Y_p1 E (Y_c4 0 x)).1 = true := by
      have c4 : (Y_c4 0 x).1 = true := by unfold Y_c4; split <;> exact hb
      unfold Y_p1
      rw [if_neg (fun q => by rw [Y_tyb c4] at q; exact absurd q (by decide))]; rfl
    refine rg_s1 hE hr (c := 41) rfl (fun q => absurd ((Y_tyb hb).symm.trans q) (by decide)) (fun _ w => ?_) w
    refine rg_par hE k M F _ _ hr w (fun M1 F1 r1 w1 => ?_)
    obtain ⟨e, w1⟩ := w1
    refine ⟨e, ?_⟩
    cases e with
    | zero => exact absurd w1 (fun q => q)
    | succ e =>
      dsimp only [w_hearing_48] at w1 ⊢
      exact rg_s0 hE r1 (c := 44) rfl (fun q => absurd ((Y_tyb pb).symm.trans q) (by decide)) (fun _ w => hk _ M1 F1 (fun q => absurd (hb.symm.trans q) (by decide)) (rxG_zb (r1.1.1 pb) hb) w) w1
  | false =>
    by_cases z : Y_ty E x = 41
    · exact ⟨x, 0, fun K s O Q hs hQ => ⟨fun q => absurd ((cg_ty hs).trans z) q, fun _ => hQ 0 s (fun _ => rfl) hs⟩, fun WB h k M F Q Q' hr hk w => rg_s1 hE hr (c := 41) rfl (fun _ w => hk 0 M F (fun _ => rfl) hr w) (fun q => absurd z q) w, ys_rf (yg_t hx), gl_rf⟩
    · obtain ⟨x', c', a, b, m, g⟩ := par_LG hE (E_m E + 1) x 0 hb hx (fun _ => by omega)
      refine ⟨x', c', fun K s O Q hs hQ => ⟨fun _ => ⟨E_m E + 2, a 0 (E_m E + 2) K s O Q jaG_0 (by omega) hs hQ⟩, fun q => absurd ((cg_ty hs).symm.trans q) z⟩, fun WB h k M F Q Q' hr hk w => ?_, ys_w m (by decide) (by decide) rfl, g⟩
      refine rg_s1 hE hr (c := 41) rfl (fun q => absurd q z) (fun _ w => ?_) w
      refine rg_par hE k M F _ _ hr w (fun M1 F1 r1 w1 => ?_)
      obtain ⟨e, w1⟩ := w1
      rw [← e01] at w1
      have := b e WB h k M1 F1 Q Q' r1 hk w1
      rw [e01] at this
      exact ⟨e, this⟩
end YT5
