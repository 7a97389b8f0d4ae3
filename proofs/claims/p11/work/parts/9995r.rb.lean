/-! STATEMENTS, WITH WHAT THEY PUT: how far they go; what they begin with. -/
section YS2
variable {E : x_E} {x y z : y_X}
def crKG (E : x_E) (W : x_CW) (x x' : y_X) : Prop := ∀ (K : List Nat) (s : f_S3) (O : Nat × Nat) (Q : f_S3 → Nat × Nat → Prop), rcG E (K, 0, false, false) s x → (∀ s', rcG E (K, 0, false, false) s' x' → Q s' O) → W s O Q
def ys (E : x_E) (a : Nat) (d : Int) (e : Int32) (x x' : y_X) : Prop := xs E a d e (yx x) (yx x') ∧ (x'.1 = false → gx E x x')
theorem ym_ys {a : Nat} {d : Int} {e : Int32} (hE : E_ok E) (m : ym E a d e x y) : ys E a d e x y := ⟨xm_xs hE m.1, m.2⟩
theorem ys_tr {a a' : Nat} {d d' : Int} {e e' : Int32} (h1 : ys E a d e x y) (h2 : ys E a' d' e' y z) : ys E (a + a') (d + d') (e + e') x z := ⟨xs_tr h1.1 h2.1, fun q => by
  obtain ⟨b1, -, -, -, -, -, -, b11, b12, -⟩ := h2.1 q
  exact gx_tr b11 b12 (h1.2 b1) (h2.2 q)⟩
theorem ys_t0 {a a' : Nat} {d d' : Int} (h1 : ys E a d 0 x y) (h2 : ys E a' d' 0 y z) : ys E (a + a') (d + d') 0 x z := by
  have h := ys_tr h1 h2
  rw [Int32.add_zero] at h
  exact h
theorem ys_w {a a' : Nat} {d d' : Int} {e e' : Int32} (h : ys E a d e x y) (ha : a' ≤ a) (hd : d ≤ d') (he : e = e') : ys E a' d' e' x y := ⟨xs_w h.1 ha hd he, h.2⟩
theorem ys_bd {a : Nat} {d : Int} {e : Int32} (h : y.1 = true) : ys E a d e x y := ⟨xs_bd h, fun q => absurd (h.symm.trans q) (by decide)⟩
theorem ys_t {a : Nat} {d : Int} {e : Int32} (m : ys E a d e x y) : y.1 = false → Y_t y ≤ E_m E := xs_t m.1
theorem ys_rf (h : x.1 = false → Y_t x ≤ E_m E) : ys E 0 0 0 x x := ⟨xs_rf h, fun _ => gx_rf⟩
theorem yg_s {a : Nat} {c d c' : Int} (h : yg E c x) (m : ys E a d 0 x y) (hc : c + d ≤ c') : yg E c' y := xg_s h m.1 hc
theorem nf_s {a : Nat} {d : Int} {e : Int32} (m : ys E a d e x y) (n : nf y) : nf x := by
  obtain ⟨b1, -, -, -, -, -, -, b11, b12, -⟩ := m.1 n.1
  exact ⟨b1, b11 n.2.1, b12 n.2.2⟩
def hlG (E : x_E) (x : y_X) : Prop := hl E (yx x)
theorem hlG_s {a : Nat} {d : Int} {e : Int32} (h : hlG E x) (m : ys E a d e x y) : hlG E y := hl_s h m.1
theorem jtG_s {j a : Nat} {d : Int} {e : Int32} (h : jtG E (j + a) x) (m : ys E a d e x y) : jtG E j y := jt_s h m.1
theorem jaG_s {a : Int32} {b : Nat} {d : Int} {e : Int32} (hE : E_ok E) (h : jaG a x) (m : ys E b d e x y) (hb : 1 ≤ b) : jaG (a + 1) y := ja_s hE h m.1 hb
def jbG (n : Nat) (p : Int32) (x : y_X) : Prop := jb n p (yx x)
theorem jbG_i {n : Nat} {p : Int32} (h : jbG n p x) (hi : y.1 = false → x.1 = false ∧ Y_i y 0 = Y_i x 0) : jbG n p y := jb_i h hi
theorem ym_i0 {a : Nat} {d : Int} (m : ym E a d 0 x y) (h : y.1 = false) : x.1 = false ∧ Y_i y 0 = Y_i x 0 := xm_i0 m.1 h
theorem ys_i0 {a : Nat} {d : Int} (m : ys E a d 0 x y) (h : y.1 = false) : x.1 = false ∧ Y_i y 0 = Y_i x 0 := xs_i0 m.1 h
theorem jbG_m {n a : Nat} {p : Int32} {d : Int} (h : jbG n p x) (m : ys E a d 0 x y) : jbG n p y := jbG_i h (ys_i0 m)
theorem jbG_p {n a : Nat} {p : Int32} {d c : Int} (h : jbG n p x) (hx : yg E c x) (m : ym E a d 0 x y) : jpG 22 p y := jb_p h hx m.1
theorem jbG_2 {n : Nat} {p : Int32} (h : jbG n p x) (hb : x.1 = false) : 21 ≤ (Y_i x 0).toInt + n ∧ p = Y_i x 0 := h.2 hb
/-- what is put begins with a step -/
def fS (E : x_E) (x x' : y_X) : Prop := nf x' → gI x → gv E x → Y_n x < Y_n x' ∧ Y_R x' 13 (Y_n x) = 0
def jSG (E : x_E) (x x' : y_X) : Prop := (∀ (n : Nat) (p : Int32), jbG n p x → crKG E (wF_X7_statement (E_N E) (cff (E_N E) 22) (cb (E_N E) n) p) x x') ∧ (∀ n, rrG E (w_statement (wf_fac 22) (wf_blk n)) x x') ∧ ys E 1 0 0 x x' ∧ fS E x x'
/-- the step that a statement begins with -/
def Y_0 (x : y_X) : y_X := Y_em [0] (0, 0, 0, 0, -1) (Y_c x) x
theorem ym_0 (h : x.1 = false → Y_t x ≤ E_m E) : ym E 0 1 0 x (Y_0 x) := ym_em h ho_0 (Nat.le_refl _) (fun _ => k_e_0.symm) (fun _ => h8_0)
theorem Y_0_ty : Y_ty E (Y_0 x) = Y_ty E x := by unfold Y_ty Y_0 Y_em; rfl
theorem Y_em_ty {l : List Int32} {o : x_O} {c : List (Nat × Nat)} : Y_ty E (Y_em l o c x) = Y_ty E x := by unfold Y_ty Y_em; rfl
theorem st_cG (hE : E_ok E) {c : Int} (hx : yg E c x) (hc : c ≤ 15) (n3 : ¬ Y_ty E x = 213) (n5 : ¬ Y_ty E x = 215) (n6 : ¬ Y_ty E x = 216) {k : x_Kt} {WF WB : Int32 → x_CW} {p : Int32} {s : f_S3} {O : Nat × Nat} {Q : f_S3 → Nat × Nat → Prop} (hs : rcG E k s x) (h : ∀ s', rcG E k s' (Y_0 x) → st_B (E_N E) WF WB p Q s' O) : wF_X7_statement (E_N E) WF WB p s O Q := by
  have e := cg_ty hs
  have lo := yg_lo (n := 15) hx (by omega)
  exact ⟨fun q => absurd (e.symm.trans q) n3, fun _ => cg_emit hE hs lo (by decide) (fun s' h' => h s' (rc_em h')), fun q => absurd (e.symm.trans q) n5, fun q => absurd (e.symm.trans q) n6, fun _ _ _ _ => cg_emit hE hs lo (by decide) (fun s' h' => h s' (rc_em h'))⟩
section
variable {k : x_B} {M : Nat → Int32} {F : Nat → Nat → Int32} {WF WB : x_RW} {Q Q' : (Nat → Int32) → (Nat → Nat → Int32) → Prop}
theorem st_79G (hE : E_ok E) (hb : x.1 = false) (hr : rxG E k M F x) (h1 : M 4 = 4 → st_W WF WB Q M F → st_W WF WB Q' M F) (h0 : ¬ M 4 = 4 → (w_fail M F (fun M7 F7 => (Q M7 F7))) → (w_fail M F (fun M7 F7 => (Q' M7 F7)))) (w : w_statement_79 WF WB Q M F) : w_statement_79 WF WB Q' M F := st_79 hE (x := yx x) hb hr.1 h1 h0 w
theorem st_18G (hE : E_ok E) (hb : x.1 = false) (hr : rxG E k M F x) (h1 : Y_ty E x = 130 → (w_taken 1 M F (fun r38 M39 F39 => (w_need 61 M39 F39 (fun M40 F40 => (w_told r38 (M39 47) M40 F40 (fun r41 M42 F42 => (w_whole WF M42 F42 (fun M43 F43 => (w_need 59 M43 F43 (fun M44 F44 => (w_put 3 r41 0 0 M44 F44 (fun _ M46 F46 => (Q M46 F46))))))))))))) → (w_taken 1 M F (fun r38 M39 F39 => (w_need 61 M39 F39 (fun M40 F40 => (w_told r38 (M39 47) M40 F40 (fun r41 M42 F42 => (w_whole WF M42 F42 (fun M43 F43 => (w_need 59 M43 F43 (fun M44 F44 => (w_put 3 r41 0 0 M44 F44 (fun _ M46 F46 => (Q' M46 F46)))))))))))))) (h0 : ¬ Y_ty E x = 130 → w_statement_79 WF WB Q M F → w_statement_79 WF WB Q' M F) (w : w_statement_18 WF WB Q M F) : w_statement_18 WF WB Q' M F := st_18 hE (x := yx x) hb hr.1 h1 h0 w
theorem st_0G (hE : E_ok E) (n5 : ¬ Y_ty E x = 215) (hr : rxG E k M F x) (h1 : ∀ M1 F1, rxG E k M1 F1 (Y_0 x) → w_statement_18 WF WB Q M1 F1 → w_statement_18 WF WB Q' M1 F1) (w : w_statement WF WB M F Q) : w_statement WF WB M F Q' := by
  unfold w_statement at w ⊢
  exact rg_w1 hE hr 15 (by decide) (c := 15) (d := 215) (by decide) (by decide) (fun q _ => absurd q n5) (fun _ w => rg_put hr w (fun _ M1 F1 _ h w1 => h1 M1 F1 (rx_em h) w1)) w
theorem st_0W (hE : E_ok E) (z : Y_ty E x = 215) (hr : rxG E k M F x) (h1 : w_statement_18 WF WB Q M F → w_statement_18 WF WB Q' M F) (w : w_statement WF WB M F Q) : w_statement WF WB M F Q' := by
  unfold w_statement at w ⊢
  exact rg_w1 hE hr 15 (by decide) (c := 15) (d := 215) (by decide) (by decide) (fun _ w => h1 w) (fun q _ => absurd z q) w
theorem st_rW (hE : E_ok E) (p : Nat) (hp : p < 26) {d : Int32} (hd : d = nI (200 + p)) (z : Y_ty E x = d) (hr : rxG E k M F x) (h : M 5 = nI p → st_W WF WB Q M F → st_W WF WB Q' M F) (w : w_statement_18 WF WB Q M F) : w_statement_18 WF WB Q' M F := by
  have h7 : ∀ p, p < 26 → nI (200 + p) ≠ 137 ∧ nI (200 + p) ≠ 130 := by decide +kernel
  have hb := Y_tyn z (by rw [hd]; exact (h7 p hp).1)
  refine st_18G hE hb hr (fun q => ?_) (fun _ w => ?_) w
  · rw [z, hd] at q; exact absurd q (h7 p hp).2
  · have hq := rx_tk hE hr.1 hb
    obtain ⟨a, b⟩ := (q_word hq hp).mp (by rw [← hd, ← z]; exact (Y_tyg hb).symm)
    exact st_79G hE hb hr (fun _ w => h b w) (fun q => absurd a q) w
/-- a word's statement -/
theorem st_rG (hE : E_ok E) (p : Nat) (hp : p < 26) {d : Int32} (hd : d = nI (200 + p)) (h5 : d ≠ 215) (z : Y_ty E x = d) (hr : rxG E k M F x) (h : ∀ M1 F1, rxG E k M1 F1 (Y_0 x) → M1 5 = nI p → st_W WF WB Q M1 F1 → st_W WF WB Q' M1 F1) (w : w_statement WF WB M F Q) : w_statement WF WB M F Q' := st_0G hE (by rw [z]; exact h5) hr (fun M1 F1 r1 w1 => st_rW hE p hp hd (Y_0_ty.trans z) r1 (fun e w => h M1 F1 r1 e w) w1) w
/-- a code put behind a token taken; a token taken behind a code put -/
theorem em_tk {l : List Int32} {o o' : x_O} {c : List (Nat × Nat)} {d : Int32} (h : rxG E k M F (Y_rs o (Y_tk E d x))) (he : nf x → o = o') : rxG E k M F (Y_tk E d (Y_em l o' c x)) := by
  by_cases z : Y_ty E x = d
  · have e1 : Y_tk E d x = Y_ad x := if_pos z
    have e2 : Y_tk E d (Y_em l o' c x) = Y_ad (Y_em l o' c x) := if_pos (Y_em_ty.trans z)
    rw [e1] at h
    have h := rx_emn (x := Y_ad x) (l := l) (o' := o') (c := c) he h
    have e : Y_em l o' c (Y_ad x) = Y_ad (Y_em l o' c x) := by unfold Y_em Y_ad; rfl
    rw [e2, ← e]
    exact h
  · have e1 : Y_tk E d x = Y_bd x := if_neg z
    have e2 : Y_tk E d (Y_em l o' c x) = Y_bd (Y_em l o' c x) := if_neg (fun q => z (Y_em_ty.symm.trans q))
    rw [e1] at h
    rw [e2]
    exact rxG_zb (h.1.1 rfl) rfl
end
theorem Y_tk_g {c : Int32} (h : (Y_tk E c x).1 = false) : Y_ty E x = c ∧ Y_tk E c x = Y_ad x ∧ x.1 = false := by
  unfold Y_tk at h ⊢
  by_cases q : Y_ty E x = c
  · rw [if_pos q] at h ⊢
    exact ⟨q, rfl, h⟩
  · rw [if_neg q] at h
    exact absurd h (by show ¬ true = false; decide)
theorem Y_tk_b {c : Int32} (h : x.1 = true) : (Y_tk E c x).1 = true := by
  unfold Y_tk
  split
  · exact h
  · rfl
theorem Y_td_tk {w : Nat} {c : Int32} : Y_td w (Y_tk E c x) = Y_tk E c (Y_td w x) := by
  unfold Y_td
  by_cases q : Y_u x w = Y_i x 1
  · rw [if_pos q]
    have : Y_u (Y_tk E c x) w = Y_i (Y_tk E c x) 1 := by unfold Y_tk; split <;> exact q
    rw [if_pos this]
  · rw [if_neg q]
    have : ¬ Y_u (Y_tk E c x) w = Y_i (Y_tk E c x) 1 := by unfold Y_tk; split <;> exact q
    rw [if_neg this]
    unfold Y_tk
    have e : Y_ty E (Y_s2 x) = Y_ty E x := rfl
    rw [e]
    by_cases z : Y_ty E x = c
    · rw [if_pos z, if_pos z]; rfl
    · rw [if_neg z, if_neg z]; rfl
theorem Y_te_1 {w : Nat} : (Y_te w x).1 = x.1 ∧ Y_t (Y_te w x) = Y_t x ∧ Y_c (Y_te w x) = Y_c x := by
  unfold Y_te Y_t3
  split
  · exact ⟨rfl, rfl, rfl⟩
  · split <;> exact ⟨rfl, rfl, rfl⟩
theorem Y_te_ty {w : Nat} : Y_ty E (Y_te w x) = Y_ty E x := by
  unfold Y_ty
  rw [Y_te_1.1, Y_te_1.2.1]
theorem Y_te_ad {w : Nat} : Y_te w (Y_ad x) = Y_ad (Y_te w x) := by
  unfold Y_te
  by_cases q : Y_u x w = Y_i x 1
  · rw [if_pos q, if_pos (show Y_u (Y_ad x) w = Y_i (Y_ad x) 1 from q)]; rfl
  · rw [if_neg q, if_neg (show ¬ Y_u (Y_ad x) w = Y_i (Y_ad x) 1 from q)]
    unfold Y_t3
    by_cases z : Y_i x 2 + 1 ≤ 12
    · rw [if_pos (show Y_i (Y_si 2 (Y_i (Y_ad x) 2 + 1) (Y_su w (Y_ad x))) 2 ≤ 12 from z), if_pos (show Y_i (Y_si 2 (Y_i x 2 + 1) (Y_su w x)) 2 ≤ 12 from z)]; rfl
    · rw [if_neg (show ¬ Y_i (Y_si 2 (Y_i (Y_ad x) 2 + 1) (Y_su w (Y_ad x))) 2 ≤ 12 from z), if_neg (show ¬ Y_i (Y_si 2 (Y_i x 2 + 1) (Y_su w x)) 2 ≤ 12 from z)]; rfl
theorem rg_te_tk {k : x_B} {M : Nat → Int32} {F : Nat → Nat → Int32} {w : Nat} {c : Int32} (h : rxG E k M F (Y_te w (Y_tk E c x))) : rxG E k M F (Y_tk E c (Y_te w x)) := by
  by_cases z : Y_ty E x = c
  · have e1 : Y_tk E c x = Y_ad x := if_pos z
    have e2 : Y_tk E c (Y_te w x) = Y_ad (Y_te w x) := if_pos (Y_te_ty.trans z)
    rw [e1, Y_te_ad] at h
    rw [e2]; exact h
  · have e1 : Y_tk E c x = Y_bd x := if_neg z
    have e2 : Y_tk E c (Y_te w x) = Y_bd (Y_te w x) := if_neg (fun q => z (Y_te_ty.symm.trans q))
    rw [e1] at h
    rw [e2]
    exact rxG_zb (h.1.1 (Y_te_1.1.trans rfl)) rfl
theorem gv_cg (h1 : Y_i y 1 = Y_i x 1) (h2 : Y_i y 2 = Y_i x 2) (h3 : Y_i y 3 = Y_i x 3) (hu : Y_u y = Y_u x) (hs : Y_S y = Y_S x) (h : gv E x) : gv E y := by
  unfold gv
  rw [h1, h2, h3, hu, hs]
  exact h
theorem fS_of (h : y.1 = false → gx E (Y_0 x) y) : fS E x y := fun n i v => by
  have I : gI (Y_0 x) := em_I (l := [0]) (o := (0, 0, 0, 0, -1)) i (Nat.le_refl _) i.2.1
  have V : gv E (Y_0 x) := gv_cg rfl rfl rfl rfl rfl v
  obtain ⟨-, -, e, -⟩ := h n.1 n.2.1 n.2.2 I V
  have n1 : Y_n (Y_0 x) = Y_n x + 1 := Y_n_em.1
  have n2 := (G_n e).1
  exact ⟨by omega, (e.2.2.1 13 (Y_n x) (by decide) (by decide) (Nat.zero_le _) (by omega)).trans (r5_at (R := Y_R x) (k := Y_n x) (o := (0, 0, 0, 0, -1))).1⟩
theorem gv_i2 (h : gv E x) (hl : (Y_i x 2).toInt < 12) : gv E (Y_si 2 (Y_i x 2 + 1) x) := by
  have l1 : (1 : Int32).toInt = 1 := by decide
  obtain ⟨h1, h2, h3⟩ := h
  refine ⟨⟨h1.1, ?_⟩, h2, h3⟩
  have e : Y_i (Y_si 2 (Y_i x 2 + 1) x) 2 = Y_i x 2 + 1 := (um_eq : um (Y_i x) 2 (Y_i x 2 + 1) 2 = Y_i x 2 + 1)
  rw [e, ti_addx _ _ (by rw [l1]; omega), l1]
  omega
theorem gv_te {w : Nat} (hw : E_nw E w) (n3 : Y_3 (Y_te w x) = false) (h : gv E x) : gv E (Y_te w x) := by
  have l1 : (1 : Int32).toInt = 1 := by decide
  have l12 : (12 : Int32).toInt = 12 := by decide
  have g := gv_su (w := w) (Or.inl hw) h
  unfold Y_te Y_t3 at n3 ⊢
  by_cases q : Y_u x w = Y_i x 1
  · rw [if_pos q]
    exact gv_cg rfl rfl rfl rfl rfl h
  · rw [if_neg q] at n3 ⊢
    by_cases i : Y_i (Y_si 2 (Y_i x 2 + 1) (Y_su w x)) 2 ≤ 12
    · rw [if_pos i]
      have e : Y_i (Y_si 2 (Y_i x 2 + 1) (Y_su w x)) 2 = Y_i x 2 + 1 := (um_eq : um (Y_i x) 2 (Y_i x 2 + 1) 2 = Y_i x 2 + 1)
      rw [e, Int32.le_iff_toInt_le, ti_addx _ _ (by rw [l1]; have := h.1.2; omega), l1, l12] at i
      have hl : (Y_i x 2).toInt < 12 := by omega
      exact gv_i2 (x := Y_su w x) g hl
    · rw [if_neg i] at n3; exact absurd n3 (by show ¬ true = false; decide)
theorem ys_te {w : Nat} (h : x.1 = false → Y_t x ≤ E_m E) (hw : x.1 = false → E_nw E w) : ys E 0 0 0 x (Y_te w x) := ⟨by rw [yx_te]; exact xs_te h, fun q q2 q3 => by
  have key : gv E x → gv E (Y_te w x) := gv_te (hw (Y_te_1.1.symm.trans q)) q3
  revert q2 q3 key
  unfold Y_te Y_t3
  split
  · exact fun q2 q3 key => gx_eq rfl rfl ⟨rfl, rfl, rfl, rfl, rfl, rfl⟩ key q2 q3
  · split <;> exact fun q2 q3 key => gx_eq rfl rfl ⟨rfl, rfl, rfl, rfl, rfl, rfl⟩ key q2 q3⟩
theorem rg_on (hE : E_ok E) {k : x_B} {M : Nat → Int32} {F : Nat → Nat → Int32} {c : Int32} {K K' : Int32 → (Nat → Int32) → (Nat → Nat → Int32) → Prop} (hr : rxG E k M F x) (hK : ∀ r M' F', (nf (Y_on E x) → r = if Y_ty E x = 203 then c else (Y_S (Y_on E x) (E_w E (Y_t x))).2) → rxG E k M' F' (Y_on E x) → K r M' F' → K' r M' F') (w : w_isWord 3 M F (fun r5 M6 F6 => ((r5 = 0 → (w_object M6 F6 (fun r7 M8 F8 => K r7 M8 F8))) ∧ (¬ r5 = 0 → (w_pass M6 F6 (fun M12 F12 => K c M12 F12)))))) : w_isWord 3 M F (fun r5 M6 F6 => ((r5 = 0 → (w_object M6 F6 (fun r7 M8 F8 => K' r7 M8 F8))) ∧ (¬ r5 = 0 → (w_pass M6 F6 (fun M12 F12 => K' c M12 F12))))) := by
  unfold Y_on at hK
  refine rg_w0 hE hr 3 (by decide) (c := 3) (d := 203) (by decide) (by decide) (fun z w => ?_) (fun z w => ?_) w
  · rw [if_pos z, if_pos z] at hK
    exact rg_pass hE (rg_lt hE hr (fun q => absurd (q.symm.trans z) (by decide))) k M F _ _ hr w (fun M1 F1 h1 w1 => hK _ M1 F1 (fun _ => rfl) h1 w1)
  · rw [if_neg z, if_neg z] at hK
    exact rg_object hE hr w (fun r M1 F1 e h1 w1 => hK r M1 F1 e h1 w1)
end YS2
