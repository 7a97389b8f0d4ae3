/-! STATEMENTS: hear. -/
section XS5
variable {E : x_E} {x y : x_X} {w : Nat} {c : Int32}
theorem X_sl_tk {d : Int32} : X_tk E d (X_sl w c x) = X_sl w c (X_tk E d x) := by
  unfold X_tk
  have e : X_ty E (X_sl w c x) = X_ty E x := rfl
  rw [e]
  by_cases q : X_ty E x = d
  · rw [if_pos q, if_pos q]; rfl
  · rw [if_neg q, if_neg q]; rfl
theorem E_p_add (hE : E_ok E) {t t' : Nat} (h : t ≤ t') (ht : t' ≤ E_m E) : E_p E t + (t' - t) ≤ E_p E t' := by
  induction t' with
  | zero => have e : t = 0 := by omega
            rw [e]; exact Nat.le_refl _
  | succ t' ih =>
    by_cases q : t = t' + 1
    · rw [q]; omega
    · have := ih (by omega) (by omega)
      have := E_ps hE (t := t') (by omega)
      omega
theorem bd_keep {N : Nat → Nat} {s : f_S3} {O : Nat × Nat} (h26 : N 26 < 1000000) (h27 : N 27 = N 26) (h : bd N s) {p q : Int32} {Q : f_S3 → Nat × Nat → Prop} (hQ : ∀ s', bd N s' → Q s' O) : wF_X7_keepHear N p q s O Q := by
  have l1 : (1 : Int32).toInt = 1 := by decide
  refine ⟨fun _ => hQ _ h, fun a => ⟨fun _ => hQ _ h, fun b => ?_⟩⟩
  have a := ti_nle a
  rw [fs_nI (by omega)] at a
  have h8 := h.2.2.2
  refine ⟨vp_in_iff.mpr ⟨h8.1, a⟩, by rw [h27]; exact vp_in_iff.mpr ⟨h8.1, a⟩, hQ _ ?_⟩
  obtain ⟨b1, b2, b3, b4⟩ := bd_ff (c := 27) (i := s.1 8) (v := q) (bd_ff (c := 26) (i := s.1 8) (v := p) h (by decide)) (by decide)
  refine ⟨b1, b2, b3, ?_, b4.2⟩
  have e : (fm (ff (ff s 26 (s.1 8) p) 27 (s.1 8) q) 8 (s.1 8 + 1)).1 8 = s.1 8 + 1 := (um_eq : um s.1 8 (s.1 8 + 1) 8 = s.1 8 + 1)
  rw [e, ti_addx _ _ (by rw [l1]; omega), l1]
  omega
theorem E_26 (hE : E_ok E) : E_N E 26 = E_n E / 9 + 1 ∧ E_N E 27 = E_N E 26 ∧ E_N E 26 < 1000000 := by
  have h := hE.2.2.2.2
  have hn := E_n4 hE
  obtain ⟨-, -, a, b, -⟩ := h
  exact ⟨a, by rw [a, b], by omega⟩
theorem c_keep (hE : E_ok E) {k : x_Kt} {s : f_S3} {O : Nat × Nat} (h : rc E k s x) (hlo : X_lo E 13 x) (h9 : x.1 = false → 9 * (X_l x).length ≤ E_n E) {a2 a3 : Int32} (ha : x.1 = false → a2 = nI (33 + w) ∧ ¬ a3 = -1) {Q : f_S3 → Nat × Nat → Prop} (hQ : ∀ s', rc E k s' (X_sl w c (X_pt 3 x)) → Q s' O) : wF_X7_emit__ (E_N E) 2 a2 c s O (fun s5 O5 => wF_X7_keepHear (E_N E) ((s5.1 63) - 2) a3 s5 O5 Q) := by
  obtain ⟨n26, n27, n26'⟩ := E_26 hE
  have hN := hE.2.2.2.1
  cases hb : x.1 with
  | true => exact bd_emit3 hN (h.1 hb) (fun s1 h1 => bd_keep n26' n27 h1 (fun s2 h2 => hQ s2 (rc_bd h2 hb)))
  | false =>
    refine c_put hE h hlo (by decide) (fun r1 s1 k1 h1 => c_put hE h1 (X_lo_p hlo 1) (by decide) (fun r2 s2 k2 h2 => c_put hE h2 (X_lo_p (X_lo_p hlo 1) 1) (by decide) (fun r3 s3 k3 h3 => ?_)))
    obtain ⟨-, p1, q1, -⟩ := k1 hb
    obtain ⟨-, p2, q2, -⟩ := k2 hb
    obtain ⟨-, p3, q3, -⟩ := k3 hb
    have p2 : s2.2.1 20 (X_z x + 1) = a2 := p2
    have p3 : s3.2.1 20 (X_z x + 1 + 1) = c := p3
    have q3 : ∀ j, j ≠ X_z x + 1 + 1 → s3.2.1 20 j = s2.2.1 20 j := q3
    obtain ⟨g1, g2, g3, g4, ⟨z1, z2, z3⟩, ⟨⟨y1, y1', y3, y4⟩, y2⟩, g7⟩ := h3.2 hb
    have z3' := (h.2 hb).2.2.2.2.1.2.2
    have z1 : s3.1 63 = nI (X_z x + 1 + 1 + 1) := z1
    have z2 : X_z x + 1 + 1 + 1 ≤ E_N E 20 := z2
    have y1 : s3.1 8 = nI (X_l x).length := y1
    have hl := h9 hb
    have hN2 := hN.2.1
    have e63 : s3.1 63 - 2 = nI (X_z x + 1) := by rw [z1, show (2 : Int32) = nI 2 by decide, y_sub (by omega) (by omega)]; rfl
    have nn : ¬ nI (E_N E 26) ≤ nI (X_l x).length := by rw [y_le (by omega) (by omega)]; omega
    show wF_X7_keepHear (E_N E) ((s3.1 63) - 2) a3 s3 O Q
    unfold wF_X7_keepHear
    rw [e63, y1, n27]
    refine ⟨fun q => absurd q nn, fun _ => ⟨fun q => absurd q nn, fun _ => ⟨y_in (by omega) (by omega), y_in (by omega) (by omega), hQ _ (rc_g ?_ hb)⟩⟩⟩
    have r26 : ∀ j, (fm (ff (ff s3 26 (nI (X_l x).length) (nI (X_z x + 1))) 27 (nI (X_l x).length) a3) 8 (nI (X_l x).length + 1)).2.1 26 j = if j = (X_l x).length then nI (X_z x + 1) else s3.2.1 26 j := fun j => by
      show uf (uf s3.2.1 26 (nI (X_l x).length) (nI (X_z x + 1))) 27 (nI (X_l x).length) a3 26 j = _
      rw [uf_at2, if_neg (fun z => absurd z.1 (by decide)), uf_at2, y_cl (by omega)]
      by_cases q : j = (X_l x).length
      · rw [if_pos ⟨rfl, q⟩, if_pos q]
      · rw [if_neg (fun z => q z.2), if_neg q]
    have r27 : ∀ j, (fm (ff (ff s3 26 (nI (X_l x).length) (nI (X_z x + 1))) 27 (nI (X_l x).length) a3) 8 (nI (X_l x).length + 1)).2.1 27 j = if j = (X_l x).length then a3 else s3.2.1 27 j := fun j => by
      show uf (uf s3.2.1 26 (nI (X_l x).length) (nI (X_z x + 1))) 27 (nI (X_l x).length) a3 27 j = _
      rw [uf_at2, y_cl (by omega)]
      by_cases q : j = (X_l x).length
      · rw [if_pos ⟨rfl, q⟩, if_pos q]
      · rw [if_neg (fun z => q z.2), if_neg q, uf_at2, if_neg (fun z => absurd z.1 (by decide))]
    have hlen : (X_l x ++ [(w, c)]).length = (X_l x).length + 1 := by rw [List.length_append]; rfl
    have eG : X_l (X_sl w c (X_pt 3 x)) = X_l x ++ [(w, c)] := rfl
    refine ⟨c_k_cg g1 ⟨rfl, rfl, rfl, rfl, rfl⟩ ⟨rfl, rfl, rfl⟩, c_f_cg g2 rfl, c_i_cg g3 ⟨rfl, rfl, rfl⟩, c_t_cg g4 ⟨rfl, rfl⟩, ⟨z1, z2, z3⟩, ⟨⟨?_, ?_, fun i i' hi hi' => ?_, fun i hi => ?_⟩, fun i hi => ?_⟩, c_p_cg g7 rfl⟩
    · have e : (fm (ff (ff s3 26 (nI (X_l x).length) (nI (X_z x + 1))) 27 (nI (X_l x).length) a3) 8 (nI (X_l x).length + 1)).1 8 = nI ((X_l x).length + 1) := (um_eq : um s3.1 8 (nI (X_l x).length + 1) 8 = nI (X_l x).length + 1).trans y_1
      rw [e]
      show nI ((X_l x).length + 1) = nI (X_l x ++ [(w, c)]).length
      rw [List.length_append]; rfl
    · show (X_l x ++ [(w, c)]).length < 1000000
      rw [List.length_append]
      have : [(w, c)].length = 1 := rfl
      omega
    · rw [eG, hlen] at hi'
      rw [r26, r26, if_neg (by omega)]
      obtain ⟨p, pa, pb, -⟩ := y2 i (show i < (X_l x).length by omega)
      have pb : p + 1 < X_z x + 1 + 1 + 1 := pb
      by_cases q : i' = (X_l x).length
      · rw [if_pos q, pa, fs_nI (by omega), fs_nI (by omega)]
        obtain ⟨p', pa', pb', -⟩ := (h.2 hb).2.2.2.2.2.1.2 i (show i < (X_l x).length by omega)
        have k26 : s3.2.1 26 = s.2.1 26 := ((k3 hb).2.2.2).trans (((k2 hb).2.2.2).trans (k1 hb).2.2.2)
        rw [k26] at pa
        have := nI_inj (by omega) (by omega) (pa.symm.trans pa')
        omega
      · rw [if_neg q]
        exact y3 i i' hi (show i' < (X_l x).length by omega)
    · rw [eG, hlen] at hi
      rw [r27]
      by_cases q : i = (X_l x).length
      · rw [if_pos q]; exact (ha hb).2
      · rw [if_neg q]; exact y4 i (show i < (X_l x).length by omega)
    · have hi : i < (X_l x ++ [(w, c)]).length := hi
      rw [hlen] at hi
      rw [eG, r26]
      by_cases q : i = (X_l x).length
      · have eg : (X_l x ++ [(w, c)]).getD i (0, 0) = (w, c) := by
          rw [q]; simp [List.getD_eq_getElem?_getD]
        rw [eg, if_pos q]
        refine ⟨X_z x + 1, rfl, ?_, ?_, p3, fun z => ?_, fun z => ?_⟩
        · show X_z x + 1 + 1 < X_z x + 1 + 1 + 1; omega
        · show s3.2.1 20 (X_z x + 1) = nI (33 + w)
          rw [q3 _ (by omega), p2]; exact (ha hb).1
        · have := z3' _ z; omega
        · have := z3' _ z; omega
      · have eg : (X_l x ++ [(w, c)]).getD i (0, 0) = (X_l x).getD i (0, 0) := by
          simp only [List.getD_eq_getElem?_getD]
          rw [List.getElem?_append_left (by omega)]
        rw [eg, if_neg q]
        exact y2 i (show i < (X_l x).length by omega)
/-- the reference: a hear kept -/
theorem re_sl (hE : E_ok E) {k : x_B} {M : Nat → Int32} {F : Nat → Nat → Int32} {a2 : Int32} (h : rxg E k M F x) (h9 : 9 * (X_l x).length ≤ E_n E) (ha : ¬ a2 = -1) : rxg E k (um M 46 (M 46 + 1)) (uf (uf (uf F 43 (M 46) (nI w)) 44 (M 46) c) 45 (M 46) a2) (X_sl w c x) := by
  obtain ⟨g1, g2, g3, g4, ⟨h1, h2⟩, g6⟩ := h
  have hn := E_n4 hE
  rw [h1]
  refine ⟨rz_q_cg g1 rfl rfl rfl rfl rfl rfl rfl rfl rfl, g2, g3, g4, ⟨?_, fun i hi => ?_⟩, g6⟩
  · show um M 46 (nI (X_l x).length + 1) 46 = nI (X_l x ++ [(w, c)]).length
    rw [um_eq, y_1, List.length_append]; rfl
  · have hi : i < (X_l x ++ [(w, c)]).length := hi
    have hlen : (X_l x ++ [(w, c)]).length = (X_l x).length + 1 := by rw [List.length_append]; rfl
    rw [hlen] at hi
    have eG : X_l (X_sl w c x) = X_l x ++ [(w, c)] := rfl
    rw [eG]
    by_cases q : i = (X_l x).length
    · have eg : (X_l x ++ [(w, c)]).getD i (0, 0) = (w, c) := by
        rw [q]; simp [List.getD_eq_getElem?_getD]
      rw [eg, q]
      refine ⟨?_, ?_, ?_⟩
      · rw [uf_at2, if_neg (fun z => absurd z.1 (by decide)), uf_at2, if_neg (fun z => absurd z.1 (by decide)), uf_at2, y_cl (by omega), if_pos ⟨rfl, rfl⟩]
      · rw [uf_at2, if_neg (fun z => absurd z.1 (by decide)), uf_at2, y_cl (by omega), if_pos ⟨rfl, rfl⟩]
      · rw [uf_at2, y_cl (by omega), if_pos ⟨rfl, rfl⟩]; exact ha
    · have eg : (X_l x ++ [(w, c)]).getD i (0, 0) = (X_l x).getD i (0, 0) := by
        simp only [List.getD_eq_getElem?_getD]
        rw [List.getElem?_append_left (by omega)]
      rw [eg]
      have := h2 i (show i < (X_l x).length by omega)
      refine ⟨?_, ?_, ?_⟩
      · rw [uf_at2, if_neg (fun z => absurd z.1 (by decide)), uf_at2, if_neg (fun z => absurd z.1 (by decide)), uf_at2, y_cl (by omega), if_neg (fun z => q z.2)]; exact this.1
      · rw [uf_at2, if_neg (fun z => absurd z.1 (by decide)), uf_at2, y_cl (by omega), if_neg (fun z => q z.2)]; exact this.2.1
      · rw [uf_at2, y_cl (by omega), if_neg (fun z => q z.2)]; exact this.2.2
end XS5
