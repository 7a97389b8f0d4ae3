/-! DONE AND LASTLY. -/
section TQG
variable {K : k_K} {N : Nat → Nat} {s s' : f_S3} {O : Nat × Nat} {M M' M1 : e_M} {F F' F1 : e_F} {p : Nat} {st ra : Int32} {G : e_G} {B Nn E T V : Int} {f ot k j : Nat}
/-- the innermost open try -/
theorem C_X_t (X : C_X K G B Nn E T V M F f ot k) {a ph : Nat} {c : List (Nat × Nat)} (hx : K_x K k = (a, ph) :: c) : ∃ t : Nat, ot = t + 1 ∧ t < 240 ∧ e_b F (f - 1) ≤ t ∧ (F 63 t).toNatClampNeg = a ∧ (F 64 t).toNatClampNeg = ph ∧ t_tl F (e_b F (f - 1)).toNat t = c ∧ (0 ≤ (F 64 t).toInt ∧ (F 64 t).toInt ≤ 2) := by
  obtain ⟨⟨c1, c2⟩, c3, c4, c5, c6⟩ := C_X_f X
  have x2 := X.2.2.1.2
  rw [hx] at x2
  have b0 : 0 ≤ e_b F (f - 1) := (c6.1.1 (f - 1) (by omega)).1
  have lt : (e_b F (f - 1)).toNat < ot := by
    rcases Nat.lt_or_ge (e_b F (f - 1)).toNat ot with g | g
    · exact g
    · rw [t_tl_le g] at x2; exact absurd x2 (by simp)
  obtain ⟨t, rfl⟩ : ∃ t, ot = t + 1 := ⟨ot - 1, by omega⟩
  have := (t_tl_top (by omega) x2)
  injection this with h1 h2
  injection h1 with h3 h4
  obtain ⟨-, -, x3⟩ := c6.2.2 (f - 1) t (by omega) (by omega) (fun z => by omega) (by omega)
  exact ⟨t, rfl, by omega, by omega, h3.symm, h4.symm, h2.symm, x3⟩
theorem o_done (hN : tN N) (hz : K_z K ≤ N 20) (X : C_X K G B Nn E T V M F f ot k) (hn : F 13 k = 23) : O_A N K M F f ot k := by
  obtain ⟨e1, e2, e3, e4, e5⟩ := C_X_k X
  obtain ⟨⟨c1, c2⟩, c3, c4, c5, c6⟩ := C_X_f X
  obtain ⟨i0, i1⟩ := k_int X.2.1 X.2.2.2.2.1 (k_en_23 hn)
  have i0 : K_A K k + 1 ≤ K_z K := i0
  have q0 : K_C K (K_A K k) = 5 := i1 0 (show 0 < 1 by decide)
  obtain ⟨a, ph, a1, a2, a3, a4⟩ := (C_X_at X).2.2.2.2.2.1 hn
  obtain ⟨t, rfl, ht, hbt, t1, t2, t3, t4⟩ := C_X_t X a4
  have hb := X.2.1.1
  have hk := X.2.2.2.2.1
  have ca : (F 14 k).toNatClampNeg = a := by rw [a1]; exact y_cl (by omega)
  have ia : (F 14 k).toInt = a := by rw [a1]; exact fs_nI (by omega)
  obtain ⟨w0, w1, -⟩ := e_opc_23 (e_op_n (e_CX_op X.1).1 (by rw [e2, hn]; decide)).2
  rw [e2, ia] at w1
  have h69 : M 69 = 0 := Int32.toInt_inj.mp (by
    have := X.1.2.1.2.2.2.1
    rw [w0] at this
    rw [this]; decide)
  have htop := X.1.1.2.2.1 a (by omega) (by omega)
  obtain ⟨e67, e67m, e67i⟩ := t_67 ht c2
  obtain ⟨k1, k2, k3, k4⟩ := X.2.1.2.2.1 a a2.1 a2.2
  have z2 : ¬ F 64 t = 2 := fun g => by rw [(t_nph (ph := 0) t4).2] at g; omega
  have ps : t_ps F (t + 1) = t_ps F t + (36001 * (2 - (F 64 t).toNatClampNeg) + 1) := rfl
  have n0 : ¬ F 13 k = 0 := fun q => by rw [hn] at q; exact absurd q (by decide)
  have rm0 := t_rm_1 n0 hk.2
  have mon : ∀ i, i < f → e_b F i ≤ e_b F (f - 1) := fun i hi => c6.1.2 i (f - 1) (by omega) (by omega)
  have b0 : 0 ≤ e_b F (f - 1) := (c6.1.1 (f - 1) (by omega)).1
  have rf : ∀ Q : e_M → e_F → Prop, w_act M F Q → w_goesLastly (nI t) 0 0 (um M 70 (M 70 + 1)) F (fun r60 M61 F61 => ((r60 = 0 → (vp_in (F 14 k) 800 ∧ (Q (um (um M61 67 ((M61 67) - 1)) 70 ((F61 22) (F 14 k).toNatClampNeg)) F61))) ∧ (¬ r60 = 0 → (Q M61 F61)))) := fun Q h => by
    have h := h.2.2.2.2.2.2.2.2.2.2.2.2.2.2.2.2.2.2.2.2.2.2.2.2
    have h := (h (by rw [e3, hn]; decide) (by rw [e3, hn]; decide) (by rw [e3, hn]; decide) (by rw [e3, hn]; decide) (by rw [e3, hn]; decide) (by rw [e3, hn]; decide) (by rw [e3, hn]; decide) (by rw [e3, hn]; decide) (by rw [e3, hn]; decide) (by rw [e3, hn]; decide) (by rw [e3, hn]; decide) (by rw [e3, hn]; decide) (by rw [e3, hn]; decide) (by rw [e3, hn]; decide) (by rw [e3, hn]; decide) (by rw [e3, hn]; decide) (by rw [e3, hn]; decide) (by rw [e3, hn]; decide) (by rw [e3, hn]; decide) (by rw [e3, hn]; decide) (by rw [e3, hn]; decide) (by rw [e3, hn]; decide)).2.2.2.2.2.2.2.2.2.2.2.2.1 (by rw [e3]; exact hn)
    rw [e3] at h
    have h : w_goesLastly (M 67 - 1) 0 0 (um M 70 (M 70 + 1)) F (fun r60 M61 F61 => ((r60 = 0 → (vp_in (F 14 k) 800 ∧ (Q (um (um M61 67 ((M61 67) - 1)) 70 ((F61 22) (F 14 k).toNatClampNeg)) F61))) ∧ (¬ r60 = 0 → (Q M61 F61)))) := h
    rw [e67m] at h
    exact h
  by_cases z3 : F 21 a = -1
  · obtain ⟨kc, e, f1, f2, f3, f4⟩ := k1 z3
    obtain ⟨⟨w4, w5, w6, -⟩, -, -⟩ := htop
    have ie : (F 22 a).toInt = e := by rw [f1]; exact fs_nI (by omega)
    rw [ie] at w4 w5 w6
    rw [Int.toNat_natCast] at w6
    refine ⟨um (um (um M 70 (M 70 + 1)) 67 (M 67 - 1)) 70 (F 22 a), F, 2, fun Q h => ?_, Or.inr (Or.inr ⟨X.2.2.2.2.2.1, X.2.2.2.2.2.2.1, X.2.2.2.2.2.2.2, f, t, e, ⟨c1, e67i⟩, ⟨X.2.2.1.1, by rw [t3, f4]⟩, f1, f2, ?_⟩), fun O s h => t_goD (j := 1) h.1.2.1 (fun Qc hq => ?_)⟩
    · have := ((r_gl ht (rf Q h)).2.1 z2 (by rw [t1]; exact z3)).1 rfl
      rw [ca] at this
      exact this.2
    · show 108100 * ((M 79).toInt - (M 78).toInt).toNat + t_fs F (K_E K) f + t_ps F t + t_rm F (K_E K) e + 2 ≤ 108100 * ((M 79).toInt - (M 78).toInt).toNat + t_fs F (K_E K) f + t_ps F (t + 1) + t_rm F (K_E K) k
      have rm1 := t_rm_le (t_nt X.1.1 w4 w5 (by omega)) f2.2
      omega
    · refine d_course hN hz (S_s_m (k := 70) (v := M 70 + 1) h (by decide)) (by omega) q0 (by decide) (fun s1 h1 => ⟨fun g => absurd g (by decide), fun g => absurd g (by decide), fun g => absurd g (by decide), fun g => absurd g (by decide), fun g => absurd g (by decide), fun _ => m_doLastly hN h1.2.1 h1.2.2.1 h1.1.2.1 h1.1.2.2 c2 ht z2 c1 c3 hbt h69 (fun s' h' => t_84g h' (hq s' O (t_go1 h'.1.2.1 (fun Qd hd => ?_)))), fun g => absurd g (by decide), fun _ _ _ _ _ g => absurd rfl g⟩)
      obtain ⟨g1, g2, g3⟩ := g_F_at (F := F) ht (q := 0) (v := 0) t
      rw [if_pos rfl] at g1 g2 g3
      rw [t1] at h'
      refine d_course hN hz h' k4 kc (by decide) (fun s1 h1 => ⟨fun g => absurd g (by decide), fun g => absurd g (by decide), fun g => absurd g (by decide), fun g => absurd g (by decide), fun g => absurd g (by decide), fun g => absurd g (by decide), fun _ => m_resume hN h1 c2 ht g1 (fun g => ?_) (fun g => ?_) (fun _ _ s2 h2 => ?_), fun _ _ _ _ _ _ g => absurd rfl g⟩)
      · rw [g2] at g; exact absurd g (by decide)
      · rw [g2] at g; exact absurd g (by decide)
      · have h3 := S_s_un (M := um (um M 70 (M 70 + 1)) 67 (M 67 - 1)) ht (show (M 67 - 1).toInt ≤ t from by omega) h2
        exact t_84g h3 (hd s2 O (A_S_go X.2.2.2.2.2.1 X.2.2.2.2.2.2.1 f1 (by rw [f3]; exact S_s_m h3 (by decide))))
  · obtain ⟨l, l1, l2, l3, l4⟩ := k2 z3
    obtain ⟨-, w4, -⟩ := htop
    have il : (F 21 a).toInt = l := by rw [l1]; exact fs_nI (by omega)
    have w4 : e_tg G (9000 * B) E (F 21 a).toInt (G 2 a + 1) := by
      rcases w4 with g | g
      · exact absurd g z3
      · exact g
    rw [il] at w4
    obtain ⟨w4, w5, w6, -⟩ := w4
    rw [Int.toNat_natCast] at w6
    refine ⟨um (um M 70 (M 70 + 1)) 70 (F 21 a), g_F F t 0 0, 1, fun Q h => ?_, Or.inr (Or.inr ⟨X.2.2.2.2.2.1, X.2.2.2.2.2.2.1, X.2.2.2.2.2.2.2, f, t + 1, l, ⟨c1, c2⟩, ⟨v_F_cg (lo := (e_b F (f - 1)).toNat) X.2.2.1.1 c3.1 mon (by omega) rfl rfl rfl (fun i hi => by rw [(g_F_at ht i).1, if_neg (by omega)]), ?_⟩, l1, l2, ?_⟩), fun O s h => t_go1 h.1.2.1 (fun Qc hq => ?_)⟩
    · have := ((r_gl ht (rf Q h)).2.2 z2 (by rw [t1]; exact z3)).2 (by decide)
      rw [t1] at this
      exact this
    · have tt : t_tl (g_F F t 0 0) (e_b F (f - 1)).toNat (t + 1) = ((g_F F t 0 0 63 t).toNatClampNeg, (g_F F t 0 0 64 t).toNatClampNeg) :: t_tl (g_F F t 0 0) (e_b F (f - 1)).toNat t := if_pos (by omega)
      show t_tl (g_F F t 0 0) (e_b F (f - 1)).toNat (t + 1) = K_x K l
      rw [tt, g_F_ne (r := 63) (by decide), (g_F_at ht t).1, if_pos rfl, l4, t_tl_cg (F := F) (F' := g_F F t 0 0) t (fun i _ hi => ⟨by rw [g_F_ne (r := 63) (by decide)], by rw [(g_F_at ht i).1, if_neg (by omega)]⟩), t1, t3]
      rfl
    · have q1 : t_fs (g_F F t 0 0) (K_E K) f = t_fs F (K_E K) f := t_fs_cg (F' := g_F F t 0 0) (F := F) rfl f
      have q2 : t_rm (g_F F t 0 0) (K_E K) l = t_rm F (K_E K) l := rfl
      show 108100 * ((M 79).toInt - (M 78).toInt).toNat + t_fs (g_F F t 0 0) (K_E K) f + t_ps (g_F F t 0 0) (t + 1) + t_rm (g_F F t 0 0) (K_E K) l + 1 ≤ 108100 * ((M 79).toInt - (M 78).toInt).toNat + t_fs F (K_E K) f + t_ps F (t + 1) + t_rm F (K_E K) k
      rw [q1, q2]
      have p1 : t_ps (g_F F t 0 0) (t + 1) = t_ps (g_F F t 0 0) t + (36001 * (2 - (g_F F t 0 0 64 t).toNatClampNeg) + 1) := rfl
      rw [t_ps_cg (F := F) t (fun i hi => by rw [(g_F_at ht i).1, if_neg (by omega)]), (g_F_at ht t).1, if_pos rfl] at p1
      have c2' : (2 : Int32).toNatClampNeg = 2 := by decide
      rw [c2'] at p1
      have rm1 := t_rm_le (t_nt X.1.1 w4 w5 (by omega)) l2.2
      omega
    · refine d_course hN hz (S_s_m (k := 70) (v := M 70 + 1) h (by decide)) (by omega) q0 (by decide) (fun s1 h1 => ⟨fun g => absurd g (by decide), fun g => absurd g (by decide), fun g => absurd g (by decide), fun g => absurd g (by decide), fun g => absurd g (by decide), fun _ => m_doLastly hN h1.2.1 h1.2.2.1 h1.1.2.1 h1.1.2.2 c2 ht z2 c1 c3 hbt h69 (fun s' h' => t_84g h' (hq s' O (A_S_go X.2.2.2.2.2.1 X.2.2.2.2.2.2.1 l1 (by rw [l3]; rw [t1] at h'; exact S_s_m h' (by decide))))), fun g => absurd g (by decide), fun _ _ _ _ _ g => absurd rfl g⟩)
theorem o_lastly (hN : tN N) (hz : K_z K ≤ N 20) (X : C_X K G B Nn E T V M F f ot k) (hn : F 13 k = 24) : O_A N K M F f ot k := by
  obtain ⟨e1, e2, e3, e4, e5⟩ := C_X_k X
  obtain ⟨⟨c1, c2⟩, c3, c4, c5, c6⟩ := C_X_f X
  obtain ⟨i0, i1⟩ := k_int X.2.1 X.2.2.2.2.1 (k_en_24 hn)
  obtain ⟨j0, j1⟩ := k_fall X.2.1 X.2.2.2.2.1 (k_en_24 hn) hn (by decide)
  have i0 : K_A K k + 1 ≤ K_z K := i0
  have j0 : K_A K (k + 1) = K_A K k + 1 := j0
  have q0 : K_C K (K_A K k) = 6 := i1 0 (show 0 < 1 by decide)
  obtain ⟨a, a4, a5⟩ := (C_X_at X).2.2.2.2.2.2.1 hn
  obtain ⟨t, rfl, ht, hbt, t1, t2, t3, t4⟩ := C_X_t X a4
  have hb := X.2.1.1
  have hk := X.2.2.2.2.1
  obtain ⟨w0, w1, -, w3, -⟩ := e_opc_24 (n := 24) (Nat.le_refl _) (e_op_n (e_CX_op X.1).1 (by rw [e2, hn]; decide)).2
  rw [e2] at w1 w3
  have hr := X.1.2.1.2.2.1
  have h69 : M 69 = 0 := Int32.toInt_inj.mp (by
    have := X.1.2.1.2.2.2.1
    rw [w0] at this
    rw [this]; decide)
  obtain ⟨e67, e67m, e67i⟩ := t_67 ht c2
  have z2 : F 64 t = 2 := (t_nph (ph := 0) t4).2.mpr t2
  have ct : (nI t).toNatClampNeg = t := y_cl (by omega)
  have n0 : ¬ F 13 k = 0 := fun q => by rw [hn] at q; exact absurd q (by decide)
  have hwf : k_wf K (t_tl F (e_b F (f - 1)).toNat t) := by
    have h1 := (C_X_at X).2.2.2.2.2.2.2.2.2
    rw [a4] at h1
    rw [t3]; exact h1.2.2.2
  have W1 : W_ok1 M (um (um M 70 (M 70 + 1)) 67 (M 67 - 1)) F F := W1_67 (W_0 X).one
  have rf : ∀ Q : e_M → e_F → Prop, w_act M F Q → (¬ F 65 t = 1 → (¬ F 65 t = 2 → Q (um (um M 70 (M 70 + 1)) 67 (M 67 - 1)) F) ∧ (F 65 t = 2 → w_rest (F 66 t) (um (um M 70 (M 70 + 1)) 67 (M 67 - 1)) F (fun M65 F65 => Q M65 F65))) ∧ (F 65 t = 1 → w_raise (F 66 t) (um (um M 70 (M 70 + 1)) 67 (M 67 - 1)) F (fun M66 F66 => Q M66 F66)) := fun Q h => by
    have h := h.2.2.2.2.2.2.2.2.2.2.2.2.2.2.2.2.2.2.2.2.2.2.2.2
    have h := (h (by rw [e3, hn]; decide) (by rw [e3, hn]; decide) (by rw [e3, hn]; decide) (by rw [e3, hn]; decide) (by rw [e3, hn]; decide) (by rw [e3, hn]; decide) (by rw [e3, hn]; decide) (by rw [e3, hn]; decide) (by rw [e3, hn]; decide) (by rw [e3, hn]; decide) (by rw [e3, hn]; decide) (by rw [e3, hn]; decide) (by rw [e3, hn]; decide) (by rw [e3, hn]; decide) (by rw [e3, hn]; decide) (by rw [e3, hn]; decide) (by rw [e3, hn]; decide) (by rw [e3, hn]; decide) (by rw [e3, hn]; decide) (by rw [e3, hn]; decide) (by rw [e3, hn]; decide) (by rw [e3, hn]; decide)).2.2.2.2.2.2.2.2.2.2.2.2.2 (by rw [e3, hn]; decide) (by rw [e3, hn]; decide) (by rw [e3, hn]; decide) (by rw [e3, hn]; decide) (by rw [e3, hn]; decide) (by rw [e3, hn]; decide) (by rw [e3, hn]; decide) (by rw [e3, hn]; decide) (by rw [e3, hn]; decide) (by rw [e3, hn]; decide) (by rw [e3, hn]; decide) (by rw [e3, hn]; decide)
    have h := h.2.2
    have h : (¬ F 65 (M 67 - 1).toNatClampNeg = 1 → (¬ F 65 (M 67 - 1).toNatClampNeg = 2 → Q (um (um M 70 (M 70 + 1)) 67 (M 67 - 1)) F) ∧ (F 65 (M 67 - 1).toNatClampNeg = 2 → w_rest (F 66 (M 67 - 1).toNatClampNeg) (um (um M 70 (M 70 + 1)) 67 (M 67 - 1)) F (fun M65 F65 => Q M65 F65))) ∧ (F 65 (M 67 - 1).toNatClampNeg = 1 → w_raise (F 66 (M 67 - 1).toNatClampNeg) (um (um M 70 (M 70 + 1)) 67 (M 67 - 1)) F (fun M66 F66 => Q M66 F66)) := h
    rw [e67m, ct] at h
    rw [e67m]
    exact h
  have cl : ∀ (O : Nat × Nat) (s : f_S3), S_s K (K_A K k) 0 0 s O M F → ∀ Qc : f_S3 → Nat × Nat → Prop, (F 65 t = 1 → ∀ s', S_s K (K_A K k + 1) 0 (F 66 t) s' O (um (um M 70 (M 70 + 1)) 67 (M 67 - 1)) F → t_84 N Qc s' O) → (F 65 t = 2 → ∀ s', S_s K (K_A K k + 1) 0 0 s' O (um (um M 70 (M 70 + 1)) 67 (M 67 - 1)) F → wY_X8_rest N (F 66 t) s' O (fun s2 O2 => t_84 N Qc s2 O2)) → (¬ F 65 t = 1 → ¬ F 65 t = 2 → ∀ s', S_s K (K_A K k + 1) 0 0 s' O (um (um M 70 (M 70 + 1)) 67 (M 67 - 1)) F → t_84 N Qc s' O) → t_dd N s O Qc := fun O s h Qc h1 h2 h3 =>
    d_course hN hz (S_s_m (k := 70) (v := M 70 + 1) h (by decide)) (by omega) q0 (by decide) (fun s1 g1 => ⟨fun g => absurd g (by decide), fun g => absurd g (by decide), fun g => absurd g (by decide), fun g => absurd g (by decide), fun g => absurd g (by decide), fun g => absurd g (by decide), fun _ => m_resume hN g1 c2 ht z2 h1 h2 h3, fun _ _ _ _ _ _ g => absurd rfl g⟩)
  by_cases y1 : F 65 t = 1
  · have ho := X.1.2.2.1.2.2.2.1 t (by omega) y1
    obtain ⟨M', F', j, r1, r2, r3⟩ := t_rzg hN hz X n0 W1 (o1 := t) e67i (by omega) hbt (e_FS_pt c6) hwf (o := F 66 t) ho
    refine ⟨M', F', j + 1, fun Q h => r1 Q ((rf Q h).2 y1), r2, fun O s h => t_goD h.1.2.1 (fun Qc hq => cl O s h Qc (fun _ s' h' => r3 O s' h'.1.2.1 h'.1.2.2 h'.2.1 h'.2.2.1 Qc hq) (fun g => ?_) (fun g => absurd y1 g))⟩
    rw [y1] at g; exact absurd g (by decide)
  · by_cases y2 : F 65 t = 2
    · obtain ⟨M', F', j, r1, r2, r3⟩ := t_rt hN hz X n0 W1 (o1 := t) e67i (by omega) hbt (e_FS_pt c6) hwf h69 (v := F 66 t)
      exact ⟨M', F', j + 1, fun Q h => r1 Q (((rf Q h).1 y1).2 y2), r2, fun O s h => t_goD h.1.2.1 (fun Qc hq => cl O s h Qc (fun g => absurd g y1) (fun _ s' h' => r3 O s' _ h' Qc hq) (fun _ g => absurd y2 g))⟩
    · refine ⟨um (um M 70 (M 70 + 1)) 67 (M 67 - 1), F, 1, fun Q h => ((rf Q h).1 y1).1 y2, Or.inr (Or.inr ⟨X.2.2.2.2.2.1, X.2.2.2.2.2.2.1, X.2.2.2.2.2.2.2, f, t, k + 1, ⟨c1, e67i⟩, ⟨X.2.2.1.1, by rw [t3, a5]⟩, e4, ⟨by omega, j1⟩, ?_⟩), fun O s h => t_go1 h.1.2.1 (fun Qc hq => cl O s h Qc (fun g => absurd g y1) (fun g => absurd g y2) (fun _ _ s' h' => t_84g h' (hq _ _ (A_S_go X.2.2.2.2.2.1 X.2.2.2.2.2.2.1 e4 (by rw [j0]; exact h')))))⟩
      show 108100 * ((M 79).toInt - (M 78).toInt).toNat + t_fs F (K_E K) f + t_ps F t + t_rm F (K_E K) (k + 1) + 1 ≤ 108100 * ((M 79).toInt - (M 78).toInt).toNat + t_fs F (K_E K) f + t_ps F (t + 1) + t_rm F (K_E K) k
      have p1 := t_ps_mo (F := F) (show t ≤ t + 1 by omega)
      have rm0 : t_rm F (K_E K) k = 4 * (K_E K - k) := by
        unfold t_rm
        rw [hn, if_neg (by decide), if_neg (by decide), if_neg (fun g => absurd g.1 (by decide)), if_neg (by decide)]
      have rm1 := t_rm_le (t_nt X.1.1 (x := k + 1) (by omega) (by omega) (by omega)) j1
      omega
end TQG
