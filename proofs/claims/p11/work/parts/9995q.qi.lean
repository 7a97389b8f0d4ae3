/-! HEAR. -/
section TQI
variable {K : k_K} {N : Nat → Nat} {s s' : f_S3} {O : Nat × Nat} {M M' M1 : e_M} {F F' F1 : e_F} {p : Nat} {st ra : Int32} {G : e_G} {B Nn E T V : Int} {f ot k j : Nat}
def h_F (f lo hi : Nat) (F : e_F) : e_F := fun r j => if r = 57 ∧ 12 * f + lo ≤ j ∧ j < 12 * f + hi then F 68 (j - 12 * f) else F r j
theorem h_F_ne {r lo hi : Nat} (hr : r ≠ 57) : h_F f lo hi F r = F r := by
  funext j
  exact if_neg (fun g => hr g.1)
theorem h_F_0 {c : Nat} : h_F f c c F = F := by
  funext r j
  exact if_neg (fun g => by omega)
theorem h_F_up {i : Nat} (hf : f < 12) (hi : i < 12) : uf (h_F f 0 i F) 57 (nI (12 * f + i)) (F 68 i) = h_F f 0 (i + 1) F := by
  funext r j
  rw [uf_at2, y_cl (by omega)]
  show (if r = 57 ∧ j = 12 * f + i then F 68 i else if r = 57 ∧ 12 * f + 0 ≤ j ∧ j < 12 * f + i then F 68 (j - 12 * f) else F r j) = if r = 57 ∧ 12 * f + 0 ≤ j ∧ j < 12 * f + (i + 1) then F 68 (j - 12 * f) else F r j
  by_cases q : r = 57 ∧ j = 12 * f + i
  · rw [if_pos q, if_pos ⟨q.1, by omega, by omega⟩, q.2, show 12 * f + i - 12 * f = i by omega]
  · rw [if_neg q]
    by_cases q2 : r = 57 ∧ 12 * f + 0 ≤ j ∧ j < 12 * f + i
    · rw [if_pos q2, if_pos ⟨q2.1, by omega, by omega⟩]
    · rw [if_neg q2, if_neg (fun g => ?_)]
      by_cases w : j = 12 * f + i
      · exact q ⟨g.1, w⟩
      · exact q2 ⟨g.1, by omega, by omega⟩
theorem h_F_dn {i b : Nat} (hf : f < 12) (hi : i < b) (hb : b < 12) : uf (h_F f (i + 1) b F) 57 (nI (12 * f + i)) (F 68 i) = h_F f i b F := by
  funext r j
  rw [uf_at2, y_cl (by omega)]
  show (if r = 57 ∧ j = 12 * f + i then F 68 i else if r = 57 ∧ 12 * f + (i + 1) ≤ j ∧ j < 12 * f + b then F 68 (j - 12 * f) else F r j) = if r = 57 ∧ 12 * f + i ≤ j ∧ j < 12 * f + b then F 68 (j - 12 * f) else F r j
  by_cases q : r = 57 ∧ j = 12 * f + i
  · rw [if_pos q, if_pos ⟨q.1, by omega, by omega⟩, q.2, show 12 * f + i - 12 * f = i by omega]
  · rw [if_neg q]
    by_cases q2 : r = 57 ∧ 12 * f + (i + 1) ≤ j ∧ j < 12 * f + b
    · rw [if_pos q2, if_pos ⟨q2.1, by omega, by omega⟩]
    · rw [if_neg q2, if_neg (fun g => ?_)]
      by_cases w : j = 12 * f + i
      · exact q ⟨g.1, w⟩
      · exact q2 ⟨g.1, by omega, by omega⟩
theorem h_ix {i : Nat} (hf : f < 12) (h62 : M 62 = nI (f + 1)) : 12 * (M 62 - 1) + nI i = nI (12 * f + i) := by
  rw [h62, show nI (f + 1) - 1 = nI f from y_sub (a := f + 1) (b := 1) (by omega) (by omega), show (12 : Int32) * nI f = nI (12 * f) from pk_mul 12 f, nI_add]
theorem r_h56 {Q : e_M → e_F → Prop} {b : Nat} (hb : b ≤ 4) (hf : f < 12) (h62 : M 62 = nI (f + 1)) (h69 : M 69 = 0) : ∀ (n m i : Nat), i + m = b → w_hears_56 Q n (nI b) (nI i) M (h_F f 0 i F) → Q M (h_F f 0 b F) := by
  intro n
  induction n with
  | zero => intro m i _ h; exact h.elim
  | succ n ih =>
    intro m i hm hw
    match m, hm with
    | 0, hm =>
      have e : i = b := by omega
      subst e
      exact hw.1 (Int32.le_refl _)
    | m + 1, hm =>
      have h2 := (hw.2 (fun g => by rw [y_le (by omega) (by omega)] at g; omega)).2.2
      have e0 : (0 : Int32) + nI i = nI i := (nI_add 0 i).trans (by rw [Nat.zero_add])
      rw [h_ix hf h62, h69, e0, y_1, y_cl (by omega), h_F_ne (r := 68) (by decide), h_F_up hf (by omega)] at h2
      exact ih m (i + 1) (by omega) h2
theorem um_2 {x : Nat} {a b : Int32} : um (um M x a) x b = um M x b := by
  funext i
  by_cases q : i = x
  · rw [q, e_um_eq, e_um_eq]
  · rw [e_um_ne q, e_um_ne q, e_um_ne q]
theorem um_id {x : Nat} {a : Int32} (h : M x = a) : um M x a = M := by
  funext i
  by_cases q : i = x
  · rw [q, e_um_eq, h]
  · rw [e_um_ne q]
theorem um_cm {x y : Nat} {a b : Int32} (h : x ≠ y) : um (um M x a) y b = um (um M y b) x a := by
  funext i
  by_cases q : i = x
  · rw [q, e_um_ne h, e_um_eq, e_um_eq]
  · by_cases q2 : i = y
    · rw [q2, e_um_eq, e_um_ne h.symm, e_um_eq]
    · rw [e_um_ne q2, e_um_ne q, e_um_ne q, e_um_ne q2]
theorem n_M_69 {v x : Int32} : n_M (um M 69 x) v = um (n_M M v) 69 x := by
  show um (um (um (um M 69 x) 62 (M 62 + 1)) 82 (M 82 + 1)) 70 v = um (um (um (um M 62 (M 62 + 1)) 82 (M 82 + 1)) 70 v) 69 x
  rw [um_cm (M := M) (x := 69) (y := 62) (by decide), um_cm (x := 69) (y := 82) (by decide), um_cm (x := 69) (y := 70) (by decide)]
theorem m_h34 (hN : tN N) {b : Nat} (hb : b ≤ 4) (hf : f < 12) (h62 : M 62 = nI (f + 1)) {Q : f_S3 → Nat × Nat → Prop} : ∀ (i : Nat) (s : f_S3), i ≤ b → S_s K p st ra s O (um M 69 (nI i)) (h_F f i b F) → (∀ s', S_s K p st ra s' O (um M 69 0) (h_F f 0 b F) → Q s' O) → wY_X8_hear_34 N Q (i + 1) (nI i - 1) s O := by
  intro i
  induction i with
  | zero => intro s _ h hQ; exact ⟨fun _ => hQ s h, fun g => absurd (by decide) g⟩
  | succ i ih =>
    intro s hi h hQ
    have e1 : nI (i + 1) - 1 = nI i := y_sub (a := i + 1) (b := 1) (by omega) (by omega)
    have v1 : (nI (i + 1)).toInt = ((i + 1 : Nat) : Int) := fs_nI (by omega)
    have v0 : (nI i).toInt = ((i : Nat) : Int) := fs_nI (by omega)
    have v62 : (nI (f + 1)).toInt = ((f + 1 : Nat) : Int) := fs_nI (by omega)
    rw [e1]
    refine ⟨fun g => absurd g (y_lt0 (by omega)), fun _ => m_pop hN h (show 1 ≤ (nI (i + 1)).toInt ∧ (nI (i + 1)).toInt ≤ 64 by omega) (fun s1 h1 => ?_)⟩
    have h1 : S_s K p st ra s1 O (um (um M 69 (nI (i + 1))) 69 (nI (i + 1) - 1)) (h_F f (i + 1) b F) := h1
    rw [e1, um_2] at h1
    show wY_X8_setNumber N (nI i) (h_F f (i + 1) b F 68 (nI (i + 1) - 1).toNatClampNeg) s1 O _
    rw [e1, y_cl (by omega), h_F_ne (r := 68) (by decide)]
    refine m_setnum hN h1 (show 1 ≤ (M 62).toInt ∧ (M 62).toInt ≤ 12 by rw [h62]; omega) (by omega) (fun s2 h2 => ?_)
    have h2 : S_s K p st ra s2 O (um M 69 (nI i)) (uf (h_F f (i + 1) b F) 57 (12 * (M 62 - 1) + nI i) (F 68 i)) := h2
    rw [h_ix hf h62, h_F_dn hf (by omega) (by omega)] at h2
    have e2 : nI i + (-1) = nI i - 1 := by rw [Int32.sub_eq_add_neg]
    show wY_X8_hear_34 N Q (i + 1) (nI i + (-1)) s2 O
    rw [e2]
    exact ih s2 (by omega) h2 hQ
theorem k_en_18 (hn : F 13 k = 18) : k_en K F k = if F 16 k = -1 then [2, F 14 k - nI (400 * K_B K), F 15 k, 10] else [2, F 14 k - nI (400 * K_B K), F 15 k, 9, F 16 k] := by
  unfold k_en k_e
  rw [hn, if_neg (by decide), if_neg (by decide), if_neg (by decide), if_neg (by decide), if_neg (by decide), if_neg (by decide), if_neg (by decide), if_neg (by decide), if_neg (by decide), if_neg (by decide), if_neg (by decide), if_neg (by decide), if_neg (by decide), if_neg (by decide), if_neg (by decide), if_neg (by decide), if_neg (by decide), if_pos rfl]
theorem o_hear (hN : tN N) (hz : K_z K ≤ N 20) (X : C_X K G B Nn E T V M F f ot k) (hn : F 13 k = 18) : O_A N K M F f ot k := by
  obtain ⟨e1, e2, e3, e4, e5⟩ := C_X_k X
  obtain ⟨⟨c1, c2⟩, c3, c4, c5, c6⟩ := C_X_f X
  have hT : (F 13 k).toInt = ((18 : Nat) : Int) := by rw [hn]; decide
  have hq : K_A K k + 4 ≤ K_z K ∧ K_C K (K_A K k) = 2 ∧ K_C K (K_A K k + 1) = F 14 k - nI (400 * K_B K) ∧ K_C K (K_A K k + 1 + 1) = F 15 k := by
    by_cases q : F 16 k = -1
    · obtain ⟨i0, i1⟩ := k_int X.2.1 X.2.2.2.2.1 ((k_en_18 hn).trans (if_pos q))
      exact ⟨i0, i1 0 (show 0 < 4 by decide), i1 1 (show 1 < 4 by decide), i1 2 (show 2 < 4 by decide)⟩
    · obtain ⟨i0, i1⟩ := k_int X.2.1 X.2.2.2.2.1 ((k_en_18 hn).trans (if_neg q))
      have i0 : K_A K k + 5 ≤ K_z K := i0
      exact ⟨by omega, i1 0 (show 0 < 5 by decide), i1 1 (show 1 < 5 by decide), i1 2 (show 2 < 5 by decide)⟩
  obtain ⟨i0, q0, q1, q2⟩ := hq
  have hb := X.2.1.1
  have hk := X.2.2.2.2.1
  have atk := C_X_at X
  obtain ⟨hh, hh1, hh2⟩ := atk.2.2.2.2.2.2.2.2.1 hn
  obtain ⟨⟨w1, w2, w3⟩, w4, w5, w6, w7, w8⟩ := e_opc_18 (e_op_n (e_CX_op X.1).1 (by rw [e2, hn]; decide)).2
  rw [e2] at w1 w2 w3
  obtain ⟨b, b1, b2, b3, b4⟩ := t_nat (x := F 15 k) (n := 5) (by omega)
  have h69 : M 69 = nI b := Int32.toInt_inj.mp (by
    have h := X.1.2.1.2.2.2.1
    rw [e2] at h
    rw [fs_nI (by omega)]; omega)
  have q1' : K_C K (K_A K k + 1) = nI hh := by
    rw [q1, hh2, y_sub (by omega) (by omega), Nat.add_sub_cancel_left]
  have c14 : (F 14 k).toNatClampNeg = 400 * K_B K + hh := by rw [hh2]; exact y_cl (by omega)
  have ne : ∀ c : Int32, (18 : Int32) ≠ c → ¬ F 13 k = c := fun c h1 h2 => h1 (hn.symm.trans h2)
  have fl := (atk.2.1 (ne 19 (by decide)) (ne 20 (by decide)) (ne 23 (by decide))).2
  have fx := atk.2.2.1 (ne 19 (by decide)) (ne 20 (by decide)) (ne 23 (by decide)) (ne 22 (by decide)) (ne 24 (by decide))
  have h71 := X.2.2.2.2.2.1
  have h72 := X.2.2.2.2.2.2.1
  have h73 := X.2.2.2.2.2.2.2
  have rf : ∀ Q : e_M → e_F → Prop, w_act M F Q → w_hears (F 14 k) (F 15 k) (F 16 k) (um M 70 (M 70 + 1)) F (fun M46 F46 => Q M46 F46) := fun Q h => by
    have h := (h.2.2.2.2.2.2.2.2.2.2.2.2.2.2.2.2.2.2.2.2.1 (by rw [e3]; exact hn)).2.2.2.2.2.2.2.1 (by rw [e3]; exact hn)
    rw [e3] at h
    exact h.2.2
  by_cases full : M 62 = 12
  · refine ⟨um (um M 70 (M 70 + 1)) 71 1, F, 1, fun Q h => (rf Q h).2 full, ap_ov rfl, fun O s h => t_go1 h.1.2.1 (fun Qc hq => ?_)⟩
    refine d_course hN hz (S_s_m (k := 70) (v := M 70 + 1) h (by decide)) (by omega) q0 (by decide) (fun s1 h1 => ⟨fun g => absurd g (by decide), fun g => absurd g (by decide), fun _ => m_fetch hN hz h1 (by omega) (fun s2 h2 => ?_), fun g => absurd g (by decide), fun g => absurd g (by decide), fun g => absurd g (by decide), fun g => absurd g (by decide), fun _ _ g => absurd rfl g⟩)
    refine m_fetch hN hz h2 (by omega) (fun s3 h3 => ?_)
    refine ⟨fun g => absurd g (by rw [h3.2.2.2.1]; show ¬ M 62 < 12; rw [full]; decide), fun _ => t_84g (S_s_st (v := 3) h3) (hq _ _ (A_S_ov rfl (S_s_m (S_s_st (v := 3) h3) (by decide))))⟩
  · have f12 : f < 12 := by
      have a := ti_ne full
      rw [show (12 : Int32).toInt = 12 by decide] at a
      omega
    have m62 : M 62 = nI f := Int32.toInt_inj.mp (by rw [fs_nI (by omega)]; exact c1)
    have c62 : (M 62).toNatClampNeg = f := by rw [m62]; exact y_cl (by omega)
    obtain ⟨a, a1, a2, a3, a4⟩ := X.2.1.2.2.2.2 hh hh1
    have g59 : ∀ j, (uf (uf F 59 (M 62) (M 70 + 1)) 60 (M 62) (F 16 k)) 59 j = if j = f then nI (k + 1) else F 59 j := fun j => by
      rw [e_uf_ne (by decide), uf_at2, c62, e4]
      by_cases q : j = f
      · rw [if_pos ⟨rfl, q⟩, if_pos q]
      · rw [if_neg (fun g => q g.2), if_neg q]
    have g60 : ∀ j, (uf (uf F 59 (M 62) (M 70 + 1)) 60 (M 62) (F 16 k)) 60 j = if j = f then F 16 k else F 60 j := fun j => by
      rw [uf_at2, c62]
      by_cases q : j = f
      · rw [if_pos ⟨rfl, q⟩, if_pos q]
      · rw [if_neg (fun g => q g.2), if_neg q, e_uf_ne (by decide)]
    have nr : ∀ r, r ≠ 57 → r ≠ 58 → r ≠ 61 → h_F f 0 b (n_F M (uf (uf F 59 (M 62) (M 70 + 1)) 60 (M 62) (F 16 k))) r = (uf (uf F 59 (M 62) (M 70 + 1)) 60 (M 62) (F 16 k)) r := fun r h1 h2 h3 => (h_F_ne h1).trans (n_F_ne ⟨h1, h2, h3⟩)
    have eb : ∀ i, e_b (h_F f 0 b (n_F M (uf (uf F 59 (M 62) (M 70 + 1)) 60 (M 62) (F 16 k)))) i = if i = f then (ot : Int) else e_b F i := fun i => by
      unfold e_b
      rw [h_F_ne (r := 61) (by decide), (n_F_at c1 f12 i).2.2]
      by_cases q : i = f
      · rw [if_pos q, if_pos q, c2]
      · rw [if_neg q, if_neg q]; rfl
    have tt : ∀ lo n, t_tl (h_F f 0 b (n_F M (uf (uf F 59 (M 62) (M 70 + 1)) 60 (M 62) (F 16 k)))) lo n = t_tl F lo n := fun lo n => t_tl_cg n (fun i _ _ => ⟨by rw [nr 63 (by decide) (by decide) (by decide)]; rfl, by rw [nr 64 (by decide) (by decide) (by decide)]; rfl⟩)
    have mon : ∀ i, i < f → e_b F i ≤ e_b F (f - 1) := fun i hi => c6.1.2 i (f - 1) (by omega) (by omega)
    refine ⟨um (n_M (um M 70 (M 70 + 1)) (nI a)) 69 0, h_F f 0 b (n_F M (uf (uf F 59 (M 62) (M 70 + 1)) 60 (M 62) (F 16 k))), 1, fun Q h => ?_, Or.inr (Or.inr ⟨h71, h72, h73, f + 1, ot, a, ⟨?_, c2⟩, ⟨fun i hi => ?_, ?_⟩, rfl, a2, ?_⟩), fun O s h => t_go1 h.1.2.1 (fun Qc hq => ?_)⟩
    · have h2 := r_begins ((rf Q h).1 full).2.2
      obtain ⟨e, h3⟩ := h2
      have h3 : w_hears_56 (fun M46 F46 => Q M46 F46) e (F 15 k) 0 (n_M (um (um M 70 (M 70 + 1)) 69 (M 69 - F 15 k)) (F 18 (F 14 k).toNatClampNeg)) (n_F M (uf (uf F 59 (M 62) (M 70 + 1)) 60 (M 62) (F 16 k))) := h3
      rw [h69, b2, y_sub (Nat.le_refl _) (by omega), Nat.sub_self, c14, a1, n_M_69] at h3
      exact r_h56 (Q := fun M46 F46 => Q M46 F46) (by omega) f12 (show M 62 + 1 = nI (f + 1) by rw [m62, y_1]) rfl e b 0 (by omega) (by rw [h_F_0]; exact h3)
    · show (M 62 + 1).toInt = _
      rw [m62, y_1, fs_nI (by omega)]
    · by_cases q : i + 1 = f
      · refine ⟨k + 1, ?_, ⟨by omega, fl⟩, ?_⟩
        · rw [nr 59 (by decide) (by decide) (by decide), g59, if_pos q]
        · rw [eb, eb, if_neg (by omega), if_pos q, tt, fx, ← X.2.2.1.2, Int.toNat_natCast, show i = f - 1 by omega]
      · obtain ⟨k0, z1, z2, z3⟩ := X.2.2.1.1 i (by omega)
        refine ⟨k0, ?_, z2, ?_⟩
        · rw [nr 59 (by decide) (by decide) (by decide), g59, if_neg q]; exact z1
        · rw [eb, eb, if_neg (by omega), if_neg q, tt]; exact z3
    · rw [eb, if_pos (by omega), tt, a3]
      exact t_tl_le (by omega)
    · show 108100 * ((M 79).toInt - (M 78).toInt).toNat + t_fs (h_F f 0 b (n_F M (uf (uf F 59 (M 62) (M 70 + 1)) 60 (M 62) (F 16 k)))) (K_E K) (f + 1) + t_ps (h_F f 0 b (n_F M (uf (uf F 59 (M 62) (M 70 + 1)) 60 (M 62) (F 16 k)))) ot + t_rm (h_F f 0 b (n_F M (uf (uf F 59 (M 62) (M 70 + 1)) 60 (M 62) (F 16 k)))) (K_E K) a + 1 ≤ 108100 * ((M 79).toInt - (M 78).toInt).toNat + t_fs F (K_E K) f + t_ps F ot + t_rm F (K_E K) k
      have p1 : t_fs (h_F f 0 b (n_F M (uf (uf F 59 (M 62) (M 70 + 1)) 60 (M 62) (F 16 k)))) (K_E K) (f + 1) = t_fs (h_F f 0 b (n_F M (uf (uf F 59 (M 62) (M 70 + 1)) 60 (M 62) (F 16 k)))) (K_E K) f + (if f = 0 then 0 else 4 * (K_E K - (h_F f 0 b (n_F M (uf (uf F 59 (M 62) (M 70 + 1)) 60 (M 62) (F 16 k))) 59 f).toNatClampNeg) + 1) := rfl
      rw [if_neg (by omega), nr 59 (by decide) (by decide) (by decide), g59, if_pos rfl, y_cl (by omega), t_fs_cg2 (F := F) (F' := h_F f 0 b (n_F M (uf (uf F 59 (M 62) (M 70 + 1)) 60 (M 62) (F 16 k)))) f (fun i hi => by rw [nr 59 (by decide) (by decide) (by decide), g59, if_neg (by omega)])] at p1
      have p2 : t_ps (h_F f 0 b (n_F M (uf (uf F 59 (M 62) (M 70 + 1)) 60 (M 62) (F 16 k)))) ot = t_ps F ot := t_ps_cg ot (fun i _ => by rw [nr 64 (by decide) (by decide) (by decide)]; rfl)
      have p3 : t_rm (h_F f 0 b (n_F M (uf (uf F 59 (M 62) (M 70 + 1)) 60 (M 62) (F 16 k)))) (K_E K) a ≤ 2 := by
        unfold t_rm
        rw [nr 13 (by decide) (by decide) (by decide), show (uf (uf F 59 (M 62) (M 70 + 1)) 60 (M 62) (F 16 k)) 13 = F 13 from rfl]
        rcases a4 with g | ⟨g, g'⟩
        · rw [if_pos g]; omega
        · rw [g, g', if_neg (by decide), if_neg (by decide), if_pos ⟨rfl, rfl⟩]; omega
      have p4 : t_rm F (K_E K) k = 4 * (K_E K - k) := by
        unfold t_rm
        rw [hn, if_neg (by decide), if_neg (by decide), if_neg (fun g => absurd g.1 (by decide)), if_neg (by decide)]
      rw [p1, p2, p4]
      omega
    · refine d_course hN hz (S_s_m (k := 70) (v := M 70 + 1) h (by decide)) (by omega) q0 (by decide) (fun s1 h1 => ⟨fun g => absurd g (by decide), fun g => absurd g (by decide), fun _ => m_fetch hN hz h1 (by omega) (fun s2 h2 => ?_), fun g => absurd g (by decide), fun g => absurd g (by decide), fun g => absurd g (by decide), fun g => absurd g (by decide), fun _ _ g => absurd rfl g⟩)
      rw [q1']
      refine m_fetch hN hz h2 (by omega) (fun s3 h3 => ?_)
      rw [q2]
      refine ⟨fun _ => ?_, fun g => absurd (by rw [h3.2.2.2.1]; show M 62 < 12; rw [m62, show (12 : Int32) = nI 12 from rfl, y_lt (by omega) (by omega)]; exact f12) g⟩
      obtain ⟨⟨hS1, hS2, hS3⟩, ⟨hD, hM, hC⟩, ⟨hNN, hR, hTT⟩, hS4, hV⟩ := h3
      have hA2 : S_a K s3 O (um M 70 (M 70 + 1)) (uf (uf F 59 (M 62) (M 70 + 1)) 60 (M 62) (F 16 k)) := ⟨S_D_cg hD ⟨rfl, rfl⟩ rfl ⟨rfl, rfl⟩ ⟨rfl, rfl, rfl, rfl, rfl, rfl⟩, S_M_cg hM ⟨rfl, rfl, rfl, rfl, rfl, rfl, rfl⟩ rfl ⟨rfl, rfl, rfl, rfl, rfl, rfl⟩ rfl, S_C_cg hC rfl ⟨rfl, rfl, rfl⟩ ⟨rfl, rfl⟩⟩
      have hB2 : S_b K s3 (um M 70 (M 70 + 1)) (uf (uf F 59 (M 62) (M 70 + 1)) 60 (M 62) (F 16 k)) := by
        refine ⟨S_N_cg hNN ⟨rfl, rfl⟩ rfl ⟨rfl, rfl⟩, fun i i1 i2 => ?_, S_T_cg hTT rfl rfl ⟨rfl, rfl⟩ ⟨rfl, rfl, rfl, rfl, rfl, rfl⟩⟩
        have i2' : (i : Int) < (M 62).toInt := i2
        obtain ⟨k0, z1, z2, z3, z4, z5⟩ := hR i i1 i2
        refine ⟨k0, z1, ?_, z3, ?_, z5⟩
        · rw [g59, if_neg (by omega)]; exact z2
        · rw [g60, if_neg (by omega)]; exact z4
      refine m_begin hN (hh := hh) hA2 hB2 hS2 hS3 hS4 (S_V_cg hV rfl rfl rfl rfl) c1 f12 c2 (fun i hi => ?_) hh1 hb.2.2.2.2.2 (Or.inr ⟨k, hk, ?_, hn, ?_, hS1⟩) (fun s4 h4 => ⟨b + 1, ?_⟩)
      · have := mon i hi
        show e_b F i ≤ ot
        omega
      · rw [g59, if_pos rfl]
      · rw [g60, if_pos rfl]; rfl
      · have h4 : S_s K (K_A K (F 18 (400 * K_B K + hh)).toNatClampNeg) 0 0 s4 O (n_M (um M 70 (M 70 + 1)) (F 18 (400 * K_B K + hh))) (n_F M (uf (uf F 59 (M 62) (M 70 + 1)) 60 (M 62) (F 16 k))) := h4
        rw [a1, y_cl (by omega)] at h4
        rw [b2]
        refine m_h34 hN (M := n_M (um M 70 (M 70 + 1)) (nI a)) (F := n_F M (uf (uf F 59 (M 62) (M 70 + 1)) 60 (M 62) (F 16 k))) (by omega) f12 (show M 62 + 1 = nI (f + 1) by rw [m62, y_1]) b s4 (Nat.le_refl _) ?_ (fun s5 h5 => t_84g h5 (hq _ _ (A_S_go h71 h72 rfl h5)))
        rw [um_id (show n_M (um M 70 (M 70 + 1)) (nI a) 69 = nI b from h69), h_F_0]
        exact h4
end TQI
