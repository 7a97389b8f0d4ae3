/-! THE PICTURE OF THE CLASS'S READER. k: places of the Program still to be changed; names told ahead; faults 2, 3 put ahead. -/
section XC1
abbrev x_Kt : Type := List Nat × Int32 × Bool × Bool
def c_k (E : x_E) (s : f_S3) (t : Nat) : Prop := q_A s (E_A E) (E_V E) (E_P E) (E_m E) ∧ q_c s (E_A E) (E_V E) (E_P E) t ∧ t ≤ E_m E
def c_f (k : x_Kt) (s : f_S3) (f2 f3 : Bool) : Prop := s.2.1 28 1 = -1 ∧ s.2.1 28 4 = -1 ∧ (s.2.1 28 2 = -1 ↔ f2 = false ∧ k.2.2.1 = false) ∧ (f2 = false → (s.2.1 28 3 = -1 ↔ f3 = false ∧ k.2.2.2 = false))
def c_i (k : x_Kt) (s : f_S3) (I : Nat → Int32) (f2 f3 : Bool) : Prop := s.1 64 = I 1 ∧ (f2 = false → f3 = false → (s.1 9 = I 2 + k.2.1 ∧ s.1 10 = I 3) ∧ (0 ≤ (I 2).toInt ∧ (I 2).toInt ≤ 12) ∧ 0 ≤ (I 3).toInt ∧ (I 3).toInt ≤ 8)
def c_t (E : x_E) (s : f_S3) (u v : Nat → Int32) : Prop := ∀ w, w < E_L E → s.2.1 23 (33 + w) = u w ∧ s.2.1 25 (33 + w) = v w
def c_z (E : x_E) (k : x_Kt) (s : f_S3) (z : Nat) : Prop := s.1 63 = nI z ∧ z ≤ E_N E 20 ∧ ∀ q, q ∈ k.1 → q < z
def c_q (s : f_S3) (l : List (Nat × Int32)) : Prop := s.1 8 = nI l.length ∧ l.length < 1000000 ∧ (∀ i j, i < j → j < l.length → (s.2.1 26 i).toInt + 1 < (s.2.1 26 j).toInt) ∧ ∀ i, i < l.length → ¬ s.2.1 27 i = -1
def c_h (k : x_Kt) (s : f_S3) (z : Nat) (l : List (Nat × Int32)) : Prop := c_q s l ∧ ∀ i, i < l.length → ∃ p, s.2.1 26 i = nI p ∧ p + 1 < z ∧ s.2.1 20 p = nI (33 + (l.getD i (0, 0)).1) ∧ s.2.1 20 (p + 1) = (l.getD i (0, 0)).2 ∧ p ∉ k.1 ∧ p + 1 ∉ k.1
def c_p (s : f_S3) (h : Int32) (t : Nat) (r : Nat → Int32) : Prop := (0 ≤ h.toInt ∧ h.toInt ≤ t) ∧ ∀ j : Nat, (j : Int) < h.toInt → j < 16 → s.2.1 22 j = r j
def rcg (E : x_E) (k : x_Kt) (s : f_S3) (x : x_X) : Prop := c_k E s (X_t x) ∧ c_f k s (X_2 x) (X_3 x) ∧ c_i k s (X_i x) (X_2 x) (X_3 x) ∧ c_t E s (X_u x) (X_v x) ∧ c_z E k s (X_z x) ∧ c_h k s (X_z x) (X_l x) ∧ c_p s (X_i x 1) (X_t x) (X_r x)
def rc (E : x_E) (k : x_Kt) (s : f_S3) (x : x_X) : Prop := (x.1 = true → bd (E_N E) s) ∧ (x.1 = false → rcg E k s x)
variable {E : x_E} {k : x_Kt} {s s' : f_S3} {x : x_X} {O : Nat × Nat}
theorem rc_bd (h : bd (E_N E) s) (hx : x.1 = true) : rc E k s x := ⟨fun _ => h, fun q => absurd (hx.symm.trans q) (by decide)⟩
theorem rc_g (h : rcg E k s x) (hx : x.1 = false) : rc E k s x := ⟨fun q => absurd (hx.symm.trans q) (by decide), fun _ => h⟩
theorem c_k_cg {t : Nat} (h : c_k E s t) (e : s'.1 26 = s.1 26 ∧ s'.1 11 = s.1 11 ∧ s'.1 12 = s.1 12 ∧ s'.1 13 = s.1 13 ∧ s'.1 14 = s.1 14) (r : s'.2.1 11 = s.2.1 11 ∧ s'.2.1 12 = s.2.1 12 ∧ s'.2.1 13 = s.2.1 13) : c_k E s' t := by
  obtain ⟨⟨a1, a2⟩, ⟨b1, b2, b3, b4⟩, c⟩ := h
  obtain ⟨e1, e2, e3, e4, e5⟩ := e
  obtain ⟨r1, r2, r3⟩ := r
  exact ⟨⟨e1.trans a1, fun i hi => by rw [r1, r2, r3]; exact a2 i hi⟩, ⟨e2.trans b1, e3.trans b2, e4.trans b3, e5.trans b4⟩, c⟩
theorem c_f_cg {f2 f3 : Bool} (h : c_f k s f2 f3) (r : s'.2.1 28 = s.2.1 28) : c_f k s' f2 f3 := by unfold c_f; rw [r]; exact h
theorem c_i_cg {I : Nat → Int32} {f2 f3 : Bool} (h : c_i k s I f2 f3) (e : s'.1 64 = s.1 64 ∧ s'.1 9 = s.1 9 ∧ s'.1 10 = s.1 10) : c_i k s' I f2 f3 := by unfold c_i; rw [e.1, e.2.1, e.2.2]; exact h
theorem c_t_cg {u v : Nat → Int32} (h : c_t E s u v) (r : s'.2.1 23 = s.2.1 23 ∧ s'.2.1 25 = s.2.1 25) : c_t E s' u v := by unfold c_t; rw [r.1, r.2]; exact h
theorem c_z_cg {z : Nat} (h : c_z E k s z) (e : s'.1 63 = s.1 63) : c_z E k s' z := ⟨e.trans h.1, h.2⟩
theorem c_h_cg {z : Nat} {l : List (Nat × Int32)} (h : c_h k s z l) (e : s'.1 8 = s.1 8) (r : s'.2.1 26 = s.2.1 26 ∧ s'.2.1 20 = s.2.1 20 ∧ s'.2.1 27 = s.2.1 27) : c_h k s' z l := by unfold c_h c_q; rw [e, r.1, r.2.1, r.2.2]; exact h
theorem c_p_cg {h : Int32} {t : Nat} {r : Nat → Int32} (q : c_p s h t r) (e : s'.2.1 22 = s.2.1 22) : c_p s' h t r := ⟨q.1, by rw [e]; exact q.2⟩
theorem c_ty (h : rc E k s x) : s.1 12 = X_ty E x := by
  cases hb : x.1 with
  | true => rw [(h.1 hb).1, X_tyb hb]
  | false => rw [X_tyg hb]; exact (h.2 hb).1.2.1.2.1
/-- fail -/
theorem c_fail (hE : E_ok E) (h : rc E k s x) {Q : f_S3 → Nat × Nat → Prop} (hQ : ∀ s', rc E k s' (X_bd x) → Q s' O) : wF_X7_fail (E_N E) s O Q := by
  cases hb : x.1 with
  | true => exact bd_fail (h.1 hb) (fun s' h' => hQ s' (rc_bd h' rfl))
  | false =>
    obtain ⟨⟨k1, k2, k3⟩, -, ⟨i1, -⟩, -, ⟨z1, z2, -⟩, ⟨⟨y1, y2, -⟩, -⟩, ⟨p1, -⟩⟩ := h.2 hb
    have hN := hE.2.2.2.1
    refine ⟨fun q => absurd (k2.2.1.symm.trans q) (E_ty hE k3), fun _ => ⟨by rw [hN.1]; exact vp_in_iff.mpr (by decide), hQ _ (rc_bd ⟨(um_eq : um s.1 12 137 12 = 137), ?_, ?_, ?_⟩ rfl)⟩⟩
    · show ¬ uf s.2.1 28 1 (s.1 14) 28 1 = -1
      rw [uf_at2, if_pos ⟨rfl, rfl⟩, k2.2.2.2]
      exact E_Pn hE k3
    · have e : (fm (ff s 28 1 (s.1 14)) 12 137).1 63 = s.1 63 := rfl
      have := hN.2.1
      rw [e, z1, fs_nI (by omega)]; omega
    · have e8 : (fm (ff s 28 1 (s.1 14)) 12 137).1 8 = s.1 8 := rfl
      have e64 : (fm (ff s 28 1 (s.1 14)) 12 137).1 64 = s.1 64 := rfl
      rw [e8, e64, y1, i1, fs_nI (by omega)]
      exact ⟨by omega, p1.1⟩
theorem c_adv (hE : E_ok E) (h : rc E k s x) (ht : x.1 = false → X_t x < E_m E) {Q : f_S3 → Nat × Nat → Prop} (hQ : ∀ s', rc E k s' (X_ad x) → Q s' O) : wF_X7_advance (E_N E) s O Q := by
  cases hb : x.1 with
  | true => exact bd_adv (h.1 hb) (fun s' h' => hQ s' (rc_bd h' hb))
  | false =>
    obtain ⟨⟨k1, k2, k3⟩, g2, g3, g4, g5, g6, g7, g8⟩ := h.2 hb
    have ht := ht hb
    refine y_advance hE.1 hE.2.2.1 k1 k2 ht (hQ _ (rc_g ⟨⟨⟨k1.1, k1.2⟩, q_c_adv, ht⟩, c_f_cg g2 rfl, c_i_cg g3 ⟨rfl, rfl, rfl⟩, c_t_cg g4 ⟨rfl, rfl⟩, c_z_cg g5 rfl, c_h_cg g6 rfl ⟨rfl, rfl, rfl⟩, ⟨?_, g8⟩⟩ hb))
    have e : X_t (X_ad x) = X_t x + 1 := rfl
    rw [e]; exact ⟨g7.1, by have := g7.2; show (X_i x 1).toInt ≤ ((X_t x + 1 : Nat) : Int); omega⟩
theorem c_take (hE : E_ok E) (h : rc E k s x) {c : Int32} (h5 : c ≠ 135) (h7 : c ≠ 137) {Q : f_S3 → Nat × Nat → Prop} (hQ : ∀ s', rc E k s' (X_tk E c x) → Q s' O) : wF_X7_take (E_N E) c s O Q := by
  unfold X_tk at hQ
  refine ⟨fun q => c_fail hE h (fun s' h' => hQ s' ?_), fun q => c_adv hE h (fun hb => ?_) (fun s' h' => hQ s' ?_)⟩
  · rw [c_ty h] at q; rw [if_neg q]; exact h'
  · rw [c_ty h, X_tyg hb] at q; exact E_lt hE (h.2 hb).1.2.2 q h5
  · rw [c_ty h] at q; rw [if_pos q]; exact h'
theorem rc_o {v : Int32} (h : rc E k s x) : rc E k s (X_si 0 v x) := by
  refine ⟨h.1, fun q => ?_⟩
  obtain ⟨g1, g2, ⟨g3, g3'⟩, g4, g5, g6, g7⟩ := h.2 q
  exact ⟨g1, g2, ⟨g3, g3'⟩, g4, g5, g6, g7⟩
/-- what is open: at most 20 -/
def X_oo (x : x_X) : Prop := x.1 = false → 0 ≤ (X_i x 0).toInt ∧ (X_i x 0).toInt ≤ 20
/-- room for what is emitted -/
def X_lo (E : x_E) (c : Nat) (x : x_X) : Prop := x.1 = false → X_z x ≤ 2 * E_p E (X_t x) + c
theorem c_put (hE : E_ok E) (h : rc E k s x) {c : Nat} (hl : X_lo E c x) (hc : c ≤ 15) {v : Int32} {Q : Int32 → f_S3 → Nat × Nat → Prop} (hQ : ∀ r s', (x.1 = false → r = nI (X_z x) ∧ s'.2.1 20 (X_z x) = v ∧ (∀ j, j ≠ X_z x → s'.2.1 20 j = s.2.1 20 j) ∧ s'.2.1 26 = s.2.1 26) → rc E k s' (X_pt 1 x) → Q r s' O) : wF_X6_put (E_N E) v s O Q := by
  have hN := hE.2.2.2.1
  cases hb : x.1 with
  | true => exact bd_put hN (h.1 hb) (fun r s' h' => hQ r s' (fun q => absurd (hb.symm.trans q) (by decide)) (rc_bd h' hb))
  | false =>
    obtain ⟨g1, g2, g3, g4, ⟨z1, z2, z3⟩, ⟨y1, y2⟩, g7⟩ := h.2 hb
    have hz := hl hb
    have hp := E_pn hE g1.2.2
    have hN2 := hN.2.1
    have h20 := hE.2.2.2.2.2.1
    have hlt : X_z x < E_N E 20 := by omega
    unfold wF_X6_put wF_X6_put_32
    rw [z1, y_le (by omega) (by omega)]
    refine ⟨fun q => absurd q (by omega), fun _ => ⟨y_in hlt (by omega), ?_⟩⟩
    have e63 : (fm (ff s 20 (nI (X_z x)) v) 63 (nI (X_z x) + 1)).1 63 = nI (X_z x + 1) := (um_eq : um s.1 63 (nI (X_z x) + 1) 63 = nI (X_z x) + 1).trans y_1
    have hrow : ∀ j, (fm (ff s 20 (nI (X_z x)) v) 63 (nI (X_z x) + 1)).2.1 20 j = if j = X_z x then v else s.2.1 20 j := fun j => by
      show uf s.2.1 20 (nI (X_z x)) v 20 j = _
      rw [uf_at2, y_cl (by omega)]
      by_cases q : j = X_z x
      · rw [if_pos ⟨rfl, q⟩, if_pos q]
      · rw [if_neg (fun w => q w.2), if_neg q]
    refine hQ _ _ (fun _ => ⟨?_, ?_, fun j hj => ?_, rfl⟩) (rc_g ⟨c_k_cg g1 ⟨rfl, rfl, rfl, rfl, rfl⟩ ⟨rfl, rfl, rfl⟩, c_f_cg g2 rfl, c_i_cg g3 ⟨rfl, rfl, rfl⟩, c_t_cg g4 ⟨rfl, rfl⟩, ⟨e63, ?_, fun q hq => ?_⟩, ⟨y1, fun i hi => ?_⟩, c_p_cg g7 rfl⟩ hb)
    · rw [e63, show (1 : Int32) = nI 1 by decide, y_sub (by omega) (by omega), Nat.add_sub_cancel]
    · rw [hrow, if_pos rfl]
    · rw [hrow, if_neg hj]
    · show X_z x + 1 ≤ E_N E 20; omega
    · show q < X_z x + 1
      have := z3 q hq; omega
    · obtain ⟨p, p1, p2, p3, p4, p5⟩ := y2 i hi
      refine ⟨p, p1, ?_, ?_, ?_, p5⟩
      · show p + 1 < X_z x + 1; omega
      · rw [hrow, if_neg (by omega)]; exact p3
      · rw [hrow, if_neg (by omega)]; exact p4
theorem X_lo_p {c : Nat} (hl : X_lo E c x) (j : Nat) : X_lo E (c + j) (X_pt j x) := fun hb => by
  have := hl hb
  show X_z x + j ≤ 2 * E_p E (X_t x) + (c + j)
  omega
/-- fewer places to change; one more -/
theorem rc_sub {k' : x_Kt} (h : rc E k s x) (h1 : ∀ q, q ∈ k'.1 → q ∈ k.1) (h2 : k'.2 = k.2) : rc E k' s x := by
  refine ⟨h.1, fun hb => ?_⟩
  obtain ⟨g1, g2, g3, g4, ⟨z1, z2, z3⟩, ⟨y1, y2⟩, g7⟩ := h.2 hb
  refine ⟨g1, ?_, ?_, g4, ⟨z1, z2, fun q hq => z3 q (h1 q hq)⟩, ⟨y1, fun i hi => ?_⟩, g7⟩
  · unfold c_f; rw [h2]; exact g2
  · unfold c_i; rw [h2]; exact g3
  · obtain ⟨p, p1, p2, p3, p4, p5, p6⟩ := y2 i hi
    exact ⟨p, p1, p2, p3, p4, fun q => p5 (h1 _ q), fun q => p6 (h1 _ q)⟩
theorem c_hole (hE : E_ok E) (h : rc E k s x) {c : Nat} (hl : X_lo E c x) (hc : c ≤ 15) {v : Int32} {Q : Int32 → f_S3 → Nat × Nat → Prop} (hQ : ∀ r s', (x.1 = false → r = nI (X_z x)) → rc E (X_z x :: k.1, k.2) s' (X_pt 1 x) → Q r s' O) : wF_X6_put (E_N E) v s O Q := by
  refine c_put hE h hl hc (fun r s' hr h' => hQ r s' (fun hb => (hr hb).1) ⟨h'.1, fun hb => ?_⟩)
  obtain ⟨-, -, -, -, -, ⟨y1, y2⟩, -⟩ := h.2 hb
  obtain ⟨-, r2, r3, r4⟩ := hr hb
  obtain ⟨g1, g2, g3, g4, ⟨z1, z2, z3⟩, ⟨y1', -⟩, g7⟩ := h'.2 hb
  refine ⟨g1, g2, g3, g4, ⟨z1, z2, fun q hq => ?_⟩, ⟨y1', fun i hi => ?_⟩, g7⟩
  · rcases List.mem_cons.mp hq with q1 | q1
    · rw [q1]; show X_z x < X_z x + 1; omega
    · exact z3 q q1
  · obtain ⟨p, p1, p2, p3, p4, p5, p6⟩ := y2 i hi
    refine ⟨p, by rw [r4]; exact p1, ?_, by rw [r3 p (by omega)]; exact p3, by rw [r3 (p + 1) (by omega)]; exact p4, fun q => ?_, fun q => ?_⟩
    · show p + 1 < X_z x + 1; omega
    · rcases List.mem_cons.mp q with q1 | q1
      · omega
      · exact p5 q1
    · rcases List.mem_cons.mp q with q1 | q1
      · omega
      · exact p6 q1
theorem c_change (hE : E_ok E) (h : rc E k s x) {r v : Int32} {j : Nat} (hj : x.1 = false → r = nI j ∧ j ∈ k.1) {Q : f_S3 → Nat × Nat → Prop} (hQ : ∀ s', rc E k s' x → Q s' O) : wF_X6_change (E_N E) r v s O Q := by
  have hN := hE.2.2.2.1
  cases hb : x.1 with
  | true => exact bd_change hN (h.1 hb) (fun s' h' => hQ s' (rc_bd h' hb))
  | false =>
    obtain ⟨g1, g2, g3, g4, ⟨z1, z2, z3⟩, ⟨y1, y2⟩, g7⟩ := h.2 hb
    obtain ⟨e, hmm⟩ := hj hb
    have hlt := z3 j hmm
    have hN2 := hN.2.1
    subst e
    refine ⟨fun q => absurd q (y_lt0 (by omega)), fun _ => ⟨fun q => ?_, fun _ => ⟨y_in (by omega) (by omega), hQ _ (rc_g ⟨c_k_cg g1 ⟨rfl, rfl, rfl, rfl, rfl⟩ ⟨rfl, rfl, rfl⟩, c_f_cg g2 rfl, c_i_cg g3 ⟨rfl, rfl, rfl⟩, c_t_cg g4 ⟨rfl, rfl⟩, ⟨z1, z2, z3⟩, ⟨y1, fun i hi => ?_⟩, c_p_cg g7 rfl⟩ hb)⟩⟩⟩
    · rw [z1, y_le (by omega) (by omega)] at q; omega
    · obtain ⟨p, p1, p2, p3, p4, p5, p6⟩ := y2 i hi
      refine ⟨p, p1, p2, ?_, ?_, p5, p6⟩
      · show uf s.2.1 20 (nI j) v 20 p = _
        rw [uf_at2, y_cl (by omega), if_neg (fun w => p5 (by rw [w.2]; exact hmm))]; exact p3
      · show uf s.2.1 20 (nI j) v 20 (p + 1) = _
        rw [uf_at2, y_cl (by omega), if_neg (fun w => p6 (by rw [w.2]; exact hmm))]; exact p4
end XC1
