/-! HEARINGS: their names and parameters. -/
section XT1
variable {E : x_E} {x y : x_X} {w : Nat} {K : List Nat}
def X_h3 (x : x_X) : x_X := if X_i x 1 < 16 then x else X_s3 x
def X_hv (w : Nat) (x : x_X) : x_X := if X_v x w = -1 then X_sv w x else X_s2 x
def X_h0 (x : x_X) : x_X := X_si 3 0 (X_si 2 0 x)
def X_nh (E : x_E) (x : x_X) : x_X := if X_ty E x = 130 then X_h0 (X_h3 (X_hv (E_w E (X_t x)) (X_ad x))) else X_bd x
theorem c_n0 {k : x_Kt} {s : f_S3} (hk : k.2.1 = 0) (h : rcg E k s x) : rcg E k (fm (fm s 9 0) 10 0) (X_h0 x) := by
  obtain ⟨g1, g2, ⟨i1, i2⟩, g4, g5, g6, g7⟩ := h
  refine ⟨c_k_cg g1 ⟨rfl, rfl, rfl, rfl, rfl⟩ ⟨rfl, rfl, rfl⟩, c_f_cg g2 rfl, ⟨i1, fun a b => ⟨⟨?_, rfl⟩, ⟨?_, ?_⟩, ?_, ?_⟩⟩, c_t_cg g4 ⟨rfl, rfl⟩, c_z_cg g5 rfl, c_h_cg g6 rfl ⟨rfl, rfl, rfl⟩, c_p_cg g7 rfl⟩
  · show (0 : Int32) = 0 + k.2.1
    rw [hk]; rfl
  · show 0 ≤ (0 : Int32).toInt; decide
  · show (0 : Int32).toInt ≤ 12; decide
  · show 0 ≤ (0 : Int32).toInt; decide
  · show (0 : Int32).toInt ≤ 8; decide
theorem c_sv (hE : E_ok E) {k : x_Kt} {s : f_S3} (hw : w < E_L E) (h : rcg E k s x) : rcg E k (ff s 25 (nI (33 + w)) (s.1 64)) (X_sv w x) := by
  obtain ⟨a1, a2, a3, a4⟩ := E_wN hE hw
  obtain ⟨g1, g2, g3, g4, g5, g6, g7⟩ := h
  refine ⟨c_k_cg g1 ⟨rfl, rfl, rfl, rfl, rfl⟩ ⟨rfl, rfl, rfl⟩, c_f_cg g2 rfl, c_i_cg g3 ⟨rfl, rfl, rfl⟩, fun i hi => ⟨(g4 i hi).1, ?_⟩, c_z_cg g5 rfl, c_h_cg g6 rfl ⟨rfl, rfl, rfl⟩, c_p_cg g7 rfl⟩
  show uf s.2.1 25 (nI (33 + w)) (s.1 64) 25 (33 + i) = fu (X_v x) w (X_i x 1) i
  unfold fu
  rw [uf_at2, y_cl (by omega), g3.1]
  by_cases q : i = w
  · rw [if_pos ⟨rfl, by omega⟩, if_pos q]
  · rw [if_neg (fun z => q (by omega)), if_neg q]; exact (g4 i hi).2
theorem X_nh_e (z : X_ty E x = 130) : X_nh E x = X_ad (X_hv (E_w E (X_t x)) (X_h0 (X_h3 x))) := by
  unfold X_nh X_hv
  rw [if_pos z]
  by_cases q : X_v x (E_w E (X_t x)) = -1
  · rw [if_pos (show X_v (X_ad x) (E_w E (X_t x)) = -1 from q)]
    unfold X_h3
    by_cases r : X_i x 1 < 16
    · rw [if_pos (show X_i (X_sv (E_w E (X_t x)) (X_ad x)) 1 < 16 from r), if_pos r, if_pos (show X_v (X_h0 x) (E_w E (X_t x)) = -1 from q)]; rfl
    · rw [if_neg (show ¬ X_i (X_sv (E_w E (X_t x)) (X_ad x)) 1 < 16 from r), if_neg r, if_pos (show X_v (X_h0 (X_s3 x)) (E_w E (X_t x)) = -1 from q)]; rfl
  · rw [if_neg (show ¬ X_v (X_ad x) (E_w E (X_t x)) = -1 from q)]
    unfold X_h3
    by_cases r : X_i x 1 < 16
    · rw [if_pos (show X_i (X_s2 (X_ad x)) 1 < 16 from r), if_pos r, if_neg (show ¬ X_v (X_h0 x) (E_w E (X_t x)) = -1 from q)]; rfl
    · rw [if_neg (show ¬ X_i (X_s2 (X_ad x)) 1 < 16 from r), if_neg r, if_neg (show ¬ X_v (X_h0 (X_s3 x)) (E_w E (X_t x)) = -1 from q)]; rfl
theorem X_h3_i : (X_h3 x).1 = x.1 ∧ X_t (X_h3 x) = X_t x ∧ X_i (X_h3 x) = X_i x ∧ X_v (X_h3 x) = X_v x := by
  unfold X_h3
  split <;> exact ⟨rfl, rfl, rfl, rfl⟩
theorem c_nameHearing (hE : E_ok E) {s : f_S3} {O : Nat × Nat} {p : Int32} (hp : x.1 = false → ¬ p = -1) (h : rc E (K, 0, false, false) s x) {Q : f_S3 → Nat × Nat → Prop} (hQ : ∀ s', rc E (K, 0, false, false) s' (X_nh E x) → Q s' O) : wF_X7_nameHearing (E_N E) p s O Q := by
  have hN := hE.2.2.2.1
  cases hb : x.1 with
  | true =>
    have nb : X_nh E x = X_bd x := by unfold X_nh; rw [if_neg (fun q => by rw [X_tyb hb] at q; exact absurd q (by decide))]
    have g : ∀ s1, bd (E_N E) s1 → wF_X7_nameHearing_18 (E_N E) Q s1 O := fun s1 h1 => ⟨fun _ => bd_take (bd_fm (bd_fm h1 (by decide) (by decide) (by decide) (by decide)) (by decide) (by decide) (by decide) (by decide)) (by decide) (fun s2 h2 => hQ s2 (by rw [nb]; exact rc_bd h2 rfl)), fun q => absurd q (bd_no h1 (by decide))⟩
    exact ⟨fun _ => g s (h.1 hb), fun _ => bd_putFault hN (h.1 hb) (by decide) (fun s1 h1 => g s1 h1)⟩
  | false =>
    have g := h.2 hb
    have fin : ∀ s1, rcg E (K, 0, false, false) s1 (X_h3 x) → wF_X7_nameHearing_18 (E_N E) Q s1 O := by
      intro s1 g1
      obtain ⟨eb, et, ei, ev⟩ := X_h3_i (x := x)
      have hb1 : (X_h3 x).1 = false := eb.trans hb
      have g0 := c_n0 rfl g1
      have h1 : rc E (K, 0, false, false) s1 (X_h3 x) := rc_g g1 hb1
      have ty : X_ty E (X_h3 x) = X_ty E x := by unfold X_ty; rw [eb, et]
      have t1 := (c_ty h1).trans ty
      refine ⟨fun q => ?_, fun q => ?_⟩
      · have nb : X_nh E x = X_bd x := by unfold X_nh; rw [if_neg (fun y => q (t1.trans y))]
        refine c_take hE (rc_g g0 hb1) (by decide) (by decide) (fun s2 h2 => hQ s2 ?_)
        rw [nb]
        refine rc_bd (h2.1 ?_) rfl
        have : ¬ X_ty E (X_h0 (X_h3 x)) = 130 := fun y => q (t1.trans (ty.symm.trans y))
        unfold X_tk
        rw [if_neg this]; rfl
      · have z : X_ty E x = 130 := t1.symm.trans q
        have hA : E_A E (X_t x) = 130 := (X_tyg hb).symm.trans z
        obtain ⟨w1, w2, w3, -⟩ := E_word hE g.1.2.2 (Or.inl hA)
        obtain ⟨a1, a2, a3, a4⟩ := E_wN hE w3
        have hv : s1.1 13 = nI (33 + E_w E (X_t x)) := by
          have := g1.1.2.1.2.2.1
          rw [et] at this
          exact this.trans w2
        have r25 := (g1.2.2.2.1 (E_w E (X_t x)) w3).2
        rw [ev] at r25
        have zz : X_ty E (X_h0 (X_h3 x)) = 130 := ty.trans z
        rw [hv, y_cl (by omega), r25, y_le (by omega) (by omega)]
        refine ⟨fun q => absurd q (y_lt0 (by omega)), fun _ => ⟨fun q => absurd q (by omega), fun _ => ⟨by rw [a3]; exact y_in a1 (by omega), fun y => ?_, fun y => ⟨by rw [a3]; exact y_in a1 (by omega), ?_⟩⟩⟩⟩
        · have hpl : ¬ s1.1 14 = -1 := by rw [g1.1.2.1.2.2.2, et]; exact E_Pn hE g.1.2.2
          refine y_pf hN.1 (Or.inl ⟨rfl, rfl⟩) hpl (fun s2 q2 => c_take hE (rc_g (c_pf2 g0 q2) hb1) (by decide) (by decide) (fun s3 h3 => hQ s3 ?_))
          rw [X_nh_e z]
          have e1 : X_hv (E_w E (X_t x)) (X_h0 (X_h3 x)) = X_s2 (X_h0 (X_h3 x)) := by unfold X_hv; rw [if_neg (fun q => y (by rw [← ev]; exact q))]
          rw [e1]
          have e2 : X_tk E 130 (X_s2 (X_h0 (X_h3 x))) = X_ad (X_s2 (X_h0 (X_h3 x))) := by unfold X_tk; rw [if_pos (show X_ty E (X_s2 (X_h0 (X_h3 x))) = 130 from zz)]
          rw [← e2]; exact h3
        · have gs := c_sv hE w3 g0
          refine c_take hE (rc_g gs hb1) (by decide) (by decide) (fun s3 h3 => hQ s3 ?_)
          rw [X_nh_e z]
          have e1 : X_hv (E_w E (X_t x)) (X_h0 (X_h3 x)) = X_sv (E_w E (X_t x)) (X_h0 (X_h3 x)) := by
            have y' : X_v (X_h3 x) (E_w E (X_t x)) = -1 := by rw [ev]; exact y
            unfold X_hv; rw [if_pos (show X_v (X_h0 (X_h3 x)) (E_w E (X_t x)) = -1 from y')]
          rw [e1]
          have e2 : X_tk E 130 (X_sv (E_w E (X_t x)) (X_h0 (X_h3 x))) = X_ad (X_sv (E_w E (X_t x)) (X_h0 (X_h3 x))) := by unfold X_tk; rw [if_pos (show X_ty E (X_sv (E_w E (X_t x)) (X_h0 (X_h3 x))) = 130 from zz)]
          rw [← e2]; exact h3
    have i1 := g.2.2.1.1
    refine ⟨fun q => fin s ?_, fun q => y_pf hN.1 (Or.inr (Or.inl ⟨rfl, rfl⟩)) (hp hb) (fun s1 q1 => fin s1 ?_)⟩
    · rw [i1] at q
      unfold X_h3; rw [if_pos q]; exact g
    · rw [i1] at q
      unfold X_h3; rw [if_neg q]; exact c_pf3 g q1
/-- a parameter -/
def X_c4 (c : Int32) (x : x_X) : x_X := if c < 4 then x else X_s3 x
def X_p1 (E : x_E) (x : x_X) : x_X := if X_ty E x = 130 then X_ad (X_te (E_w E (X_t x)) x) else X_bd x
theorem c_failG (hE : E_ok E) {k : x_Kt} {s s3 : f_S3} {O : Nat × Nat} (h : rcg E k s x) (e : s3.1 = s.1) {Q : f_S3 → Nat × Nat → Prop} (hQ : ∀ s', rc E k s' (X_bd x) → Q s' O) : wF_X7_fail (E_N E) s3 O Q := by
  obtain ⟨⟨k1, k2, k3⟩, -, ⟨i1, -⟩, -, ⟨z1, z2, -⟩, ⟨⟨y1, y2, -⟩, -⟩, ⟨p1, -⟩⟩ := h
  have hN := hE.2.2.2.1
  unfold wF_X7_fail
  rw [e]
  refine ⟨fun q => absurd (k2.2.1.symm.trans q) (E_ty hE k3), fun _ => ⟨by rw [hN.1]; exact vp_in_iff.mpr (by decide), hQ _ (rc_bd ⟨(um_eq : um s3.1 12 137 12 = 137), ?_, ?_, ?_⟩ rfl)⟩⟩
  · show ¬ uf s3.2.1 28 1 (s.1 14) 28 1 = -1
    rw [uf_at2, if_pos ⟨rfl, rfl⟩, k2.2.2.2]
    exact E_Pn hE k3
  · have e63 : (fm (ff s3 28 1 (s.1 14)) 12 137).1 63 = s3.1 63 := rfl
    have := hN.2.1
    rw [e63, e, z1, fs_nI (by omega)]; omega
  · have e8 : (fm (ff s3 28 1 (s.1 14)) 12 137).1 8 = s3.1 8 := rfl
    have e64 : (fm (ff s3 28 1 (s.1 14)) 12 137).1 64 = s3.1 64 := rfl
    rw [e8, e64, e, y1, i1, fs_nI (by omega)]
    exact ⟨by omega, p1.1⟩
theorem c_par (hE : E_ok E) {s : f_S3} {O : Nat × Nat} (h : rc E (K, 0, false, false) s x) {G : f_S3 → Nat × Nat → Prop} (hG : ∀ s', rc E (K, 0, false, false) s' (X_p1 E x) → G s' O) : wF_X7_newName (E_N E) s O (fun r1 M2 O2 => (wF_X7_tell (E_N E) (s.1 13) r1 M2 O2 (fun M3 O3 => (wF_X7_take (E_N E) 130 M3 O3 (fun M4 O4 => G M4 O4))))) := by
  have hN := hE.2.2.2.1
  cases hb : x.1 with
  | true =>
    have nb : X_p1 E x = X_bd x := by unfold X_p1; rw [if_neg (fun q => by rw [X_tyb hb] at q; exact absurd q (by decide))]
    exact bd_newName (h.1 hb) (fun r s1 h1 => bd_tell hN h1 (fun s2 h2 => bd_take h2 (by decide) (fun s3 h3 => hG s3 (by rw [nb]; exact rc_bd h3 rfl))))
  | false =>
    have g := h.2 hb
    by_cases z : X_ty E x = 130
    · have hA : E_A E (X_t x) = 130 := (X_tyg hb).symm.trans z
      obtain ⟨w1, w2, w3, -⟩ := E_word hE g.1.2.2 (Or.inl hA)
      have hv : s.1 13 = nI (33 + E_w E (X_t x)) := g.1.2.1.2.2.1.trans w2
      refine c_newName hE h (fun r s1 p2 p3 ah h1 => c_tell (w := E_w E (X_t x)) hE (fun _ => ⟨hv, w3, ah z⟩) h1 (fun s2 h2 => c_take hE h2 (by decide) (by decide) (fun s3 h3 => hG s3 ?_)))
      have e : X_p1 E x = X_tk E 130 (X_te (E_w E (X_t x)) x) := by unfold X_p1 X_tk; rw [if_pos z, if_pos (X_te_ty.trans z)]
      rw [e]; exact h3
    · have nb : X_p1 E x = X_bd x := by unfold X_p1; rw [if_neg z]
      refine c_newName hE h (fun r s1 p2 p3 ah h1 => ?_)
      have g1 := h1.2 hb
      have t1 := (c_ty h1)
      have fl : ∀ s2 : f_S3, s2.1 = s1.1 → wF_X7_take (E_N E) 130 s2 O (fun M4 O4 => G M4 O4) := fun s2 e2 => ⟨fun _ => c_failG hE g1 e2 (fun s3 h3 => hG s3 (by rw [nb]; exact rc_bd (h3.1 rfl) rfl)), fun q => absurd (by rw [e2] at q; exact t1.symm.trans q) z⟩
      refine ⟨fun _ => fl s1 rfl, fun a => ⟨fun _ => fl s1 rfl, fun b => ?_⟩⟩
      have a := ti_nlt a
      have b := ti_nle b
      rw [fs_nI (by have := hN.2.2.2.2; omega)] at b
      have e0 : (0 : Int32).toInt = 0 := by decide
      exact ⟨vp_in_iff.mpr (by omega), by rw [hN.2.2.1]; exact vp_in_iff.mpr (by omega), fl _ rfl⟩
theorem xs_c4 {c : Int32} (h : x.1 = false → X_t x ≤ E_m E) : xs E 0 0 0 x (X_c4 c x) := by
  unfold X_c4
  split
  · exact xs_rf h
  · exact fun q => by
      obtain ⟨c1, c2, c3, c4, c5, c6, c7, c8, c9, c10⟩ := xs_rf h q
      exact ⟨c1, c2, c3, c4, c5, c6, c7, c8, fun q => absurd q (by show ¬ true = false; decide), c10⟩
theorem re_par (hE : E_ok E) {c : Int32} : rr E (w_parameter c) x (X_p1 E (X_c4 c x)) := fun k M F Q Q' hr wt hQ => by
  have c4 : (X_c4 c x).1 = x.1 ∧ X_t (X_c4 c x) = X_t x ∧ X_ty E (X_c4 c x) = X_ty E x := by
    unfold X_c4; split <;> exact ⟨rfl, rfl, rfl⟩
  refine re_takenW hE (Or.inl ⟨rfl, rfl⟩) hr wt (fun r M1 F1 r1 hr1 w1 => ?_)
  by_cases z : X_ty E x = 130
  · obtain ⟨e, n47⟩ := hr1 z
    subst e
    have hb := X_tyn z (by decide)
    have hA := (X_tyg hb).symm.trans z
    obtain ⟨w1', -, wL, wl⟩ := E_word hE (hr.2 hb).1.2 (Or.inl hA)
    have etk : X_tk E 130 x = X_ad x := by unfold X_tk; rw [if_pos z]
    rw [etk] at r1
    have ep : X_p1 E (X_c4 c x) = X_te (E_w E (X_t x)) (X_ad (X_c4 c x)) := by
      unfold X_p1; rw [c4.2.2, c4.2.1, if_pos z, X_te_ad]
    rw [ep] at hQ
    have go : ∀ M2, rxx E k M2 F1 (X_ad (X_c4 c x)) → ¬ M2 47 = -1 → w_parameter_33 Q (nI (E_w E (X_t x))) M2 F1 → w_parameter_33 Q' (nI (E_w E (X_t x))) M2 F1 := fun M2 r2 n2 w2 => re_tell (w := E_w E (X_t x)) hE (fun q => ⟨rfl, by
      have e : X_t (X_ad (X_c4 c x)) = X_t x + 1 := by show X_t (X_c4 c x) + 1 = X_t x + 1; rw [c4.2.1]
      rw [e]; exact E_l_mono hE w1' wl, wL, n2⟩) r2 w2 (fun M3 F3 r3 w3 => hQ M3 F3 r3 w3)
    refine ⟨fun q => go M1 ?_ n47 (w1.1 q), fun q => ?_⟩
    · unfold X_c4; rw [if_pos q]; exact r1
    · refine re_b1 r1 (fun y => absurd (y.symm.trans hb) (by decide)) (fun _ w => ?_) (w1.2 q)
      refine re_least n47 w (fun r hr w' => go _ ?_ ?_ w')
      · have : rxx E k (um M1 38 r) F1 (X_s3 (X_ad x)) := rx_g (re_s3 (r1.2 hb) hr) hb
        unfold X_c4; rw [if_neg q]; exact this
      · rw [um_ne (by decide)]; exact n47
  · have etk : X_tk E 130 x = X_bd x := by unfold X_tk; rw [if_neg z]
    rw [etk] at r1
    have ep : X_p1 E (X_c4 c x) = X_bd (X_c4 c x) := by unfold X_p1; rw [c4.2.2, if_neg z]
    rw [ep] at hQ
    have go : ∀ M2, zb M2 → w_parameter_33 Q r M2 F1 → w_parameter_33 Q' r M2 F1 := fun M2 z2 w2 => re_tell (w := 0) (x := X_bd x) (k := k) hE (fun q => absurd q (by show ¬ true = false; decide)) (rx_zb z2 rfl) w2 (fun M3 F3 r3 w3 => hQ M3 F3 (rx_zb (r3.1 (X_te_i.1.trans rfl)) rfl) w3)
    have zM := r1.1 rfl
    refine ⟨fun q => go M1 zM (w1.1 q), fun q => ?_⟩
    exact re_b1 r1 (fun _ w => go M1 zM w) (fun y => absurd y (by show ¬ true = false; decide)) (w1.2 q)
end XT1
