/-! ACTS THAT LEAVE OR OPEN: REST, TRY, DONE, LASTLY, each beside the class's deeds. -/
section TQF
variable {K : k_K} {N : Nat → Nat} {s s' : f_S3} {O : Nat × Nat} {M M' M1 : e_M} {F F' F1 : e_F} {p : Nat} {st ra : Int32} {G : e_G} {B Nn E T V : Int} {f ot k j : Nat}
theorem t_ps_mo : ∀ {m n : Nat}, m ≤ n → t_ps F m ≤ t_ps F n := by
  intro m n h
  induction n with
  | zero => have : m = 0 := by omega
            rw [this]; exact Nat.le_refl _
  | succ n ih =>
    by_cases q : m = n + 1
    · rw [q]; exact Nat.le_refl _
    · exact Nat.le_trans (ih (by omega)) (Nat.le_add_right _ _)
def W_ok1 (M M1 : e_M) (F F1 : e_F) : Prop := (∀ i, i ∈ [62, 71, 72, 73, 74, 78, 79] → M1 i = M i) ∧ (∀ r, r < 46 → F1 r = F r) ∧ (F1 59 = F 59 ∧ F1 60 = F 60 ∧ F1 61 = F 61 ∧ F1 63 = F 63 ∧ F1 64 = F 64) ∧ e_OB M1 F1
theorem W_ok.one (W : W_ok M M1 F F1) : W_ok1 M M1 F F1 := ⟨fun i hi => W.1 i (by simp only [List.mem_cons, List.not_mem_nil, or_false] at hi ⊢; omega), W.2⟩
theorem W1_67 {v : Int32} (W : W_ok1 M M1 F F1) : W_ok1 M (um M1 67 v) F F1 := ⟨fun i hi => (e_um_ne (fun q => by rw [q] at hi; exact absurd hi (by decide))).trans (W.1 i hi), W.2.1, W.2.2.1, e_OB_hc (e_hc_um (ks := [67]) (rs := []) v (by decide) (e_hc_rf _ _ M1 F1)) (by decide) (by decide) W.2.2.2⟩
theorem t_rzg (hN : tN N) (hz : K_z K ≤ N 20) (X : C_X K G B Nn E T V M F f ot k) (h13 : ¬ F 13 k = 0) (W : W_ok1 M M1 F F1) {o1 : Nat} (h67 : (M1 67).toInt = o1) (hle : o1 ≤ ot) (hb1 : e_b F (f - 1) ≤ o1) (hF1 : e_FS G B E T F f o1) (hwf : k_wf K (t_tl F (e_b F (f - 1)).toNat o1)) {o : Int32} (ho : 1 ≤ o.toInt ∧ o.toInt ≤ (M1 54).toInt) : ∃ (M' : e_M) (F' : e_F) (j : Nat), (∀ Q : e_M → e_F → Prop, w_raise o M1 F1 Q → Q M' F') ∧ A_P K M F f ot k M' F' (j + 1) ∧ ∀ (O : Nat × Nat) (s : f_S3), s.1 53 = 0 → s.1 54 = o → S_a K s O M1 F1 → S_b K s M1 F1 → ∀ Qd : f_S3 → Nat × Nat → Prop, (∀ s' O', t_go N j s' O' (A_S K M' F') → Qd s' O') → t_84 N Qd s O := by
  obtain ⟨W1, W2, ⟨g59, g60, g61, g63, g64⟩, W4⟩ := W
  obtain ⟨⟨c1, c2⟩, c3, c4, c5, c6⟩ := C_X_f X
  have hX := X
  obtain ⟨hCX, hc, ⟨x1, x2⟩, x3, x4, x5, x6, x7⟩ := X
  have hc1 : k_cor K F1 := k_cor_cg hc W2
  have eb : ∀ i, e_b F1 i = e_b F i := fun i => by unfold e_b; rw [g61]
  have tt : ∀ lo n, t_tl F1 lo n = t_tl F lo n := fun lo n => t_tl_cg n (fun i _ _ => ⟨by rw [g63], by rw [g64]⟩)
  have v1 : v_F K F1 f := fun i hi => by
    obtain ⟨a, a1, a2, a3⟩ := x1 i hi
    exact ⟨a, by rw [g59]; exact a1, a2, by rw [eb, eb, tt]; exact a3⟩
  have hFS1 : e_FS G B E T F1 f o1 := e_FS_cg g59 g60 g61 g63 (fun i => Or.inl (by rw [g64])) hF1
  have hSC1 : e_SC G B Nn E T V F1 := e_SC_xr (M := M) (M' := M) (F := F) ⟨fun _ _ => rfl, W2⟩ hCX.1
  have h62 : (M1 62).toInt = f := by rw [W1 62 (by decide)]; exact c1
  have h72 : M1 72 = 0 := (W1 72 (by decide)).trans x6
  have hO0 : e_OB (um M1 69 0) F1 := e_OB_hc (e_hc_um (ks := [69]) (rs := []) 0 (by decide) (e_hc_rf _ _ M1 F1)) (by decide) (by decide) W4
  have onz : ¬ o = 0 := fun q => by rw [q] at ho; exact absurd ho.1 (by decide)
  obtain ⟨M', F', j, r1, ⟨vo, vr⟩, r3⟩ := m_raise5 hN hz (o := o) hc1 (f + o1 + 1) f o1 (um M1 69 0) (by omega) h62 h67 rfl h72 c3 (by omega) hFS1 (by rw [eb]; exact hb1) v1 (by rw [eb, tt]; exact hwf) hO0 ho
  have rr : ∀ Q : e_M → e_F → Prop, w_raise o M1 F1 Q → Q M' F' := fun Q ⟨e, h⟩ => r1 Q e h
  obtain ⟨⟨o1q, o2, o3, o4, o5, o6⟩, o7, o8, o9, o10⟩ := vo
  have h71 : M' 71 = 0 := o4.trans ((W1 71 (by decide)).trans x5)
  have psE : t_ps F1 o1 ≤ t_ps F ot := by rw [t_ps_cg (F := F) o1 (fun i _ => by rw [g64])]; exact t_ps_mo hle
  have rm1 := t_rm_1 h13 x4.2
  have hkb := hc.1
  refine ⟨M', F', j, rr, ?_, fun O s h53 h54 hA hB Qd hq => ?_⟩
  · rcases vr with ⟨v1, v2, v3⟩ | ⟨v1, v2, v3, v4, f', ot', ⟨b1, b2, b3, b4⟩, ⟨b5, k', b6, b7, b8⟩, b9⟩
    · refine Or.inr (Or.inl ⟨h71, v1, ?_⟩)
      unfold t_Ph
      omega
    · have hpo := rr _ (p_raise (Q := fun M' F' => e_PO G B E T M1 F1 f o1 M' F') hSC1 W4 ho h62 h67 c3 hFS1 (by rw [eb]; exact hb1) (by omega) (fun _ _ h => h))
      have h72' : M' 72 = 0 := v1.trans h72
      obtain ⟨f2, ot2, hrun, hg0, -⟩ := hpo.2.2.2 h72' h71
      have e70 : (M' 70).toInt = k' := by rw [b6]; exact fs_nI (by omega)
      have hSC2 : e_SC G B Nn E T V F' := e_SC_xr (M := M) (M' := M) (F := F1) ⟨fun _ _ => rfl, o10⟩ hSC1
      have hr := hrun.2.2.1
      rw [e70] at hr hg0
      have nt : ¬ F' 13 k' = 22 := t_nt hSC2 hr.1 hr.2 (by rw [Int.toNat_natCast] at hg0; omega)
      refine Or.inr (Or.inr ⟨h71, h72', v2.trans ((W1 73 (by decide)).trans x7), f', ot', k', ⟨b1, b2⟩, ⟨b5, b8⟩, b6, b7, ?_⟩)
      unfold t_Ph
      have e78 : M' 78 = M 78 := o5.trans (W1 78 (by decide))
      have e79 : M' 79 = M 79 := o6.trans (W1 79 (by decide))
      have tf : t_fs F' (K_E K) f' ≤ t_fs F (K_E K) f := by
        rw [t_fs_cg (F := F) (o7.trans g59)]
        exact t_fs_mo b4
      have rm2 := t_rm_le nt b7.2
      rw [e78, e79]
      omega
  · refine t_84r (by rw [h54]; exact onz) ?_
    refine r3 O s h53 h54 (S_a_m hA ⟨rfl, rfl, rfl⟩ ⟨rfl, rfl, rfl, rfl, rfl⟩) (S_b_m hB ⟨rfl, rfl⟩) Qd (fun s' h' => hq s' O (t_go_mo h' (fun s2 O2 g => ?_)))
    obtain ⟨rfl, g1, g2⟩ := g
    refine ⟨fun g => absurd (h71.symm.trans g) (by decide), fun _ z => ?_, fun _ z => g2 (fun w => absurd (z.symm.trans w) (by decide))⟩
    obtain ⟨a1, a2, a3⟩ := g1 z
    have h73 : M' 73 = o := by
      rcases vr with ⟨-, v2, -⟩ | ⟨v1, -⟩
      · exact v2
      · exact absurd (z.symm.trans (v1.trans h72)) (by decide)
    exact ⟨fun _ => ⟨a1, a2.trans h73.symm⟩, fun w => absurd (h73.symm.trans w) onz, a3⟩
theorem t_rt (hN : tN N) (hz : K_z K ≤ N 20) (X : C_X K G B Nn E T V M F f ot k) (h13 : ¬ F 13 k = 0) (W : W_ok1 M M1 F F1) {o1 : Nat} (h67 : (M1 67).toInt = o1) (hle : o1 ≤ ot) (hb1 : e_b F (f - 1) ≤ o1) (hF1 : e_FS G B E T F f o1) (hwf : k_wf K (t_tl F (e_b F (f - 1)).toNat o1)) (h69 : M1 69 = 0) {v : Int32} : ∃ (M' : e_M) (F' : e_F) (j : Nat), (∀ Q : e_M → e_F → Prop, w_rest v M1 F1 Q → Q M' F') ∧ A_P K M F f ot k M' F' (j + 1) ∧ ∀ (O : Nat × Nat) (s : f_S3) (p : Nat), S_s K p 0 0 s O M1 F1 → ∀ Qd : f_S3 → Nat × Nat → Prop, (∀ s' O', t_go N j s' O' (A_S K M' F') → Qd s' O') → wY_X8_rest N v s O (fun s2 O2 => t_84 N Qd s2 O2) := by
  obtain ⟨W1, W2, ⟨g59, g60, g61, g63, g64⟩, W4⟩ := W
  obtain ⟨⟨c1, c2⟩, c3, c4, c5, c6⟩ := C_X_f X
  have hX := X
  obtain ⟨hCX, hc, ⟨x1, x2⟩, x3, x4, x5, x6, x7⟩ := X
  have hc1 : k_cor K F1 := k_cor_cg hc W2
  have eb : ∀ i, e_b F1 i = e_b F i := fun i => by unfold e_b; rw [g61]
  have tt : ∀ lo n, t_tl F1 lo n = t_tl F lo n := fun lo n => t_tl_cg n (fun i _ _ => ⟨by rw [g63], by rw [g64]⟩)
  have v1 : v_F K F1 f := fun i hi => by
    obtain ⟨a, a1, a2, a3⟩ := x1 i hi
    exact ⟨a, by rw [g59]; exact a1, a2, by rw [eb, eb, tt]; exact a3⟩
  have hFS1 : e_FS G B E T F1 f o1 := e_FS_cg g59 g60 g61 g63 (fun i => Or.inl (by rw [g64])) hF1
  have hSC1 : e_SC G B Nn E T V F1 := e_SC_xr (M := M) (M' := M) (F := F) ⟨fun _ _ => rfl, W2⟩ hCX.1
  have h62 : (M1 62).toInt = f := by rw [W1 62 (by decide)]; exact c1
  have h72 : M1 72 = 0 := (W1 72 (by decide)).trans x6
  obtain ⟨M', F', j, r1, ⟨vo, vr⟩, r3⟩ := m_rest0 hN hz (v := v) hc1 (o1 + 1) f o1 M1 (by omega) h62 h67 h69 h72 c3 (by omega) hFS1 (by rw [eb]; exact hb1) v1 (by rw [eb, tt]; exact hwf)
  have rr : ∀ Q : e_M → e_F → Prop, w_rest v M1 F1 Q → Q M' F' := fun Q ⟨e, h⟩ => r1 Q e h
  obtain ⟨⟨o1', o2, o3, o4, o5, o6⟩, o7, o8, o9, o10⟩ := vo
  have h71 : M' 71 = 0 := o4.trans ((W1 71 (by decide)).trans x5)
  have psE : t_ps F1 o1 ≤ t_ps F ot := by rw [t_ps_cg (F := F) o1 (fun i _ => by rw [g64])]; exact t_ps_mo hle
  have rm1 := t_rm_1 h13 x4.2
  have hkb := hc.1
  have e78 : M' 78 = M 78 := o5.trans (W1 78 (by decide))
  have e79 : M' 79 = M 79 := o6.trans (W1 79 (by decide))
  refine ⟨M', F', j, rr, ?_, fun O s p h Qd hq => r3 O s p h (fun s2 O2 => t_84 N Qd s2 O2) (fun s' h54 h' => ⟨fun _ => hq s' O (t_go_mo h' (fun s2 O2 g => ?_)), fun g => absurd h54 g⟩)⟩
  · rcases vr with ⟨v1, v2, v3, v4⟩ | ⟨v1, v2, v3, v4, v5⟩
    · refine Or.inr (Or.inl ⟨h71, v1, ?_⟩)
      unfold t_Ph
      omega
    · have hpo := rr _ (p_rest (Q := fun M' F' => e_PO G B E T M1 F1 f o1 M' F') hSC1 W4 h69 h62 h67 c3 hFS1 (by rw [eb]; exact hb1) (by omega) (fun _ _ h => h))
      have h72' : M' 72 = 0 := v1.trans h72
      obtain ⟨f2, ot2, hrun, hg0, -⟩ := hpo.2.2.2 h72' h71
      have hSC2 : e_SC G B Nn E T V F' := e_SC_xr (M := M) (M' := M) (F := F1) ⟨fun _ _ => rfl, o10⟩ hSC1
      have hr := hrun.2.2.1
      have nt : ∀ k' : Nat, M' 70 = nI k' → k' < K_E K → ¬ F' 13 k' = 22 := fun k' b6 b7 => by
        have e70 : (M' 70).toInt = k' := by rw [b6]; exact fs_nI (by omega)
        rw [e70] at hr hg0
        exact t_nt hSC2 hr.1 hr.2 (by rw [Int.toNat_natCast] at hg0; omega)
      have h73 : M' 73 = 0 := v2.trans ((W1 73 (by decide)).trans x7)
      rcases v5 with ⟨f', ot', ⟨b1, b2, b3, b4⟩, ⟨b5, k', b6, b7, b8⟩, b9⟩ | ⟨ot', ⟨b1, b2, b3⟩, ⟨b5, k', b6, b7, b8⟩, b9, b10⟩
      · refine Or.inr (Or.inr ⟨h71, h72', h73, f', ot', k', ⟨b1, b2⟩, ⟨b5, b8⟩, b6, b7, ?_⟩)
        unfold t_Ph
        have tf : t_fs F' (K_E K) f' ≤ t_fs F (K_E K) f := by
          rw [t_fs_cg (F := F) (o7.trans g59)]
          exact t_fs_mo b4
        have rm2 := t_rm_le (nt k' b6 b7.2) b7.2
        rw [e78, e79]
        omega
      · refine Or.inr (Or.inr ⟨h71, h72', h73, f - 1, ot', k', ⟨by omega, b3⟩, ⟨b5, b8⟩, b6, b7, ?_⟩)
        unfold t_Ph
        have tf : t_fs F (K_E K) f = t_fs F (K_E K) (f - 1) + (4 * (K_E K - k') + 1) := by
          have e1 : t_fs F (K_E K) (f - 1 + 1) = t_fs F (K_E K) (f - 1) + (if f - 1 = 0 then 0 else 4 * (K_E K - (F 59 (f - 1)).toNatClampNeg) + 1) := rfl
          have e2 : f - 1 + 1 = f := by omega
          have e3 : F 59 (f - 1) = nI k' := by rw [← g59, ← b10]; exact b6
          rw [e2, if_neg (by omega), e3, y_cl (by omega)] at e1
          exact e1
        rw [e78, e79, t_fs_cg (F := F) (o7.trans g59), tf]
        have rm2 := t_rm_le (nt k' b6 b7.2) b7.2
        omega
  · obtain ⟨rfl, g1, g2⟩ := g
    refine ⟨fun g => absurd (h71.symm.trans g) (by decide), fun _ z => ?_, fun _ z => g2 (fun w => absurd (z.symm.trans w) (by decide))⟩
    obtain ⟨a1, a2, a3⟩ := g1 z
    rcases vr with ⟨-, v2, v3, -⟩ | ⟨v1, -⟩
    · have h73 : M' 73 = 0 := v3.trans ((W1 73 (by decide)).trans x7)
      exact ⟨fun w => absurd h73 w, fun _ => ⟨a1, a2.trans v2.symm⟩, a3⟩
    · exact absurd (z.symm.trans (v1.trans h72)) (by decide)
theorem C_X_wf (X : C_X K G B Nn E T V M F f ot k) : k_wf K (t_tl F (e_b F (f - 1)).toNat ot) := by
  rw [X.2.2.1.2]
  exact (C_X_at X).2.2.2.2.2.2.2.2.2
theorem o_rest (hN : tN N) (hz : K_z K ≤ N 20) (X : C_X K G B Nn E T V M F f ot k) (hn : F 13 k = 19) : O_A N K M F f ot k := by
  obtain ⟨e1, e2, e3, e4, e5⟩ := C_X_k X
  obtain ⟨⟨c1, c2⟩, c3, c4, c5, c6⟩ := C_X_f X
  obtain ⟨i0, i1⟩ := k_int X.2.1 X.2.2.2.2.1 (k_en_19 hn)
  have i0 : K_A K k + 1 ≤ K_z K := i0
  have q0 : K_C K (K_A K k) = 3 := i1 0 (show 0 < 1 by decide)
  have w0 := e_opc_19 (e_op_n (e_CX_op X.1).1 (by rw [e2, hn]; decide)).2
  have h69 : (M 69).toInt = 1 := by
    have := X.1.2.1.2.2.2.1
    rw [w0] at this
    exact this
  have h69' : M 69 - 1 = 0 := by
    have : M 69 = 1 := Int32.toInt_inj.mp (by rw [h69]; decide)
    rw [this]; decide
  have n0 : ¬ F 13 k = 0 := fun q => by rw [hn] at q; exact absurd q (by decide)
  obtain ⟨M', F', j, r1, r2, r3⟩ := t_rt hN hz X n0 (W_69 (v := M 69 - 1) (W_0 X)).one (o1 := ot) c2 (Nat.le_refl _) c5 c6 (C_X_wf X) h69' (v := F 68 (M 69 - 1).toNatClampNeg)
  refine ⟨M', F', j + 1, fun Q h => ?_, r2, fun O s h => t_goD h.1.2.1 (fun Qc hq => ?_)⟩
  · have h := (h.2.2.2.2.2.2.2.2.2.2.2.2.2.2.2.2.2.2.2.2.2.1 (by rw [e3]; exact hn)).2.2.2.2.2.2.2.2.1 (by rw [e3]; exact hn)
    exact r1 Q h.2
  · exact d_course hN hz (S_s_m (k := 70) (v := M 70 + 1) h (by decide)) (by omega) q0 (by decide) (fun s1 h1 => ⟨fun g => absurd g (by decide), fun g => absurd g (by decide), fun g => absurd g (by decide), fun _ => m_pop hN h1 (show 1 ≤ (M 69).toInt ∧ (M 69).toInt ≤ 64 by omega) (fun s2 h2 => r3 O s2 _ h2 Qc hq), fun g => absurd g (by decide), fun g => absurd g (by decide), fun g => absurd g (by decide), fun _ _ _ g => absurd rfl g⟩)
/-- a try opened -/
theorem S_T_open {a : Nat} (ht : ot < 240) (ha : a < 1000) (hf : 1 ≤ f) (h62 : (M 62).toInt = f) (h67 : (M 67).toInt = ot) (hb : e_b F (f - 1) ≤ ot) (mon : ∀ i, i < f → e_b F i ≤ e_b F (f - 1)) (h51 : s'.1 51 = M 67 + 1) (hr : ∀ j, s'.2.1 18 j = if j = 5 * ot + 2 then nI (K_L K a) else if j = 5 * ot + 1 then k_hx K (F 20 a) else if j = 5 * ot then nI f else s.2.1 18 j) (h : S_T K s M F) : S_T K s' (um M 67 (M 67 + 1)) (uf (uf F 63 (nI ot) (nI a)) 64 (nI ot) 0) := by
  have co : (nI ot).toNatClampNeg = ot := y_cl (by omega)
  have ca : (nI a).toNatClampNeg = a := y_cl (by omega)
  have f63 : ∀ j, uf (uf F 63 (nI ot) (nI a)) 64 (nI ot) 0 63 j = if j = ot then nI a else F 63 j := fun j => by rw [e_uf_ne (by decide)]; simp only [uf_at2, co, true_and]
  have f64 : ∀ j, uf (uf F 63 (nI ot) (nI a)) 64 (nI ot) 0 64 j = if j = ot then 0 else F 64 j := fun j => by
    rw [uf_at2, co]
    by_cases q : j = ot
    · rw [if_pos ⟨rfl, q⟩, if_pos q]
    · rw [if_neg (fun w => q w.2), if_neg q, e_uf_ne (by decide)]
  have e1 : (M 67 + 1).toInt = (ot : Int) + 1 := by rw [ti_addx _ _ (by rw [show (1 : Int32).toInt = 1 by decide]; omega), show (1 : Int32).toInt = 1 by decide]; omega
  obtain ⟨h1, h2, h3⟩ := h
  refine ⟨h51, fun t ht' => ?_, fun i t hi hbi hb' ht' => ?_⟩
  · have ht' : (t : Int) < (M 67 + 1).toInt := ht'
    show _ = (if uf (uf F 63 (nI ot) (nI a)) 64 (nI ot) 0 64 t = 0 then k_hx K (F 20 (uf (uf F 63 (nI ot) (nI a)) 64 (nI ot) 0 63 t).toNatClampNeg) else -1) ∧ _ = (if uf (uf F 63 (nI ot) (nI a)) 64 (nI ot) 0 64 t = 2 then -1 else nI (K_L K (uf (uf F 63 (nI ot) (nI a)) 64 (nI ot) 0 63 t).toNatClampNeg)) ∧ (uf (uf F 63 (nI ot) (nI a)) 64 (nI ot) 0 64 t = 2 → _ = F 65 t ∧ _ = F 66 t)
    rw [f63, f64]
    by_cases z : t = ot
    · subst z
      rw [if_pos rfl, if_pos rfl, if_pos rfl, ca]
      refine ⟨?_, ?_, fun w => absurd w (by decide)⟩
      · rw [hr, if_neg (by omega), if_pos rfl]
      · rw [hr, if_pos rfl, if_neg (by decide)]
    · rw [if_neg z, if_neg z]
      have hne : ∀ c : Nat, c < 5 → s'.2.1 18 (5 * t + c) = s.2.1 18 (5 * t + c) := fun c hc => by
        rw [hr, if_neg (by omega), if_neg (by omega), if_neg (by omega)]
      rw [hne 1 (by decide), hne 2 (by decide), hne 3 (by decide), hne 4 (by decide)]
      exact h2 t (by omega)
  · have ht' : (t : Int) < (M 67 + 1).toInt := ht'
    have hi : (i : Int) < (M 62).toInt := hi
    have hbi : e_b F i ≤ t := hbi
    have hb2 : (i : Int) + 1 < (M 62).toInt → (t : Int) < e_b F (i + 1) := hb'
    by_cases z : t = ot
    · subst z
      have ei : i = f - 1 := by
        by_cases w : i + 1 < f
        · have := hb2 (by omega)
          have := mon (i + 1) w
          omega
        · omega
      rw [hr, if_neg (by omega), if_neg (by omega), if_pos rfl, ei]
      congr 1; omega
    · rw [hr, if_neg (by omega), if_neg (by omega), if_neg (by omega)]
      exact h3 i t hi hbi hb2 (by omega)
theorem o_try (hN : tN N) (hz : K_z K ≤ N 20) (X : C_X K G B Nn E T V M F f ot k) (hn : F 13 k = 22) : O_A N K M F f ot k := by
  obtain ⟨e1, e2, e3, e4, e5⟩ := C_X_k X
  obtain ⟨⟨c1, c2⟩, c3, c4, c5, c6⟩ := C_X_f X
  obtain ⟨i0, i1⟩ := k_int X.2.1 X.2.2.2.2.1 (k_en_22 hn)
  obtain ⟨j0, j1⟩ := k_fall X.2.1 X.2.2.2.2.1 (k_en_22 hn) hn (by decide)
  have i0 : K_A K k + 3 ≤ K_z K := i0
  have j0 : K_A K (k + 1) = K_A K k + 3 := j0
  have q0 : K_C K (K_A K k) = 4 := i1 0 (show 0 < 3 by decide)
  have q1 : K_C K (K_A K k + 1) = k_hx K (F 20 (F 14 k).toNatClampNeg) := i1 1 (show 1 < 3 by decide)
  have q2 : K_C K (K_A K k + 1 + 1) = nI (K_L K (F 14 k).toNatClampNeg) := i1 2 (show 2 < 3 by decide)
  obtain ⟨a, a1, a2, a3, a4⟩ := (C_X_at X).2.2.2.2.1 hn
  have hb := X.2.1.1
  have hk := X.2.2.2.2.1
  have ca : (F 14 k).toNatClampNeg = a := by rw [a1]; exact y_cl (by omega)
  rw [ca] at q1 q2
  have op := e_op_n (e_CX_op X.1).1 (j := 22) (by rw [e2, hn]; decide)
  obtain ⟨w0, w1, w2, w3, -, -⟩ := e_opc_22 op.2
  rw [e2] at w1 w2 w3
  have hr := X.1.2.1.2.2.1
  have hd := X.1.2.1.2.2.2.2
  rw [e2] at hd
  obtain ⟨n2, -, d2, -⟩ := X.1.1.2.1 (k + 1) (by omega) (by omega)
  have ht : ot < 240 := by
    have := (c6.1.1 (f - 1) (by omega)).2
    omega
  obtain ⟨ot', h1, h2, h3, h4⟩ := t_nat (x := M 67) (n := 241) (by omega)
  have eo : ot' = ot := by omega
  subst eo
  have co : (nI ot').toNatClampNeg = ot' := y_cl (by omega)
  have mon : ∀ i, i < f → e_b F i ≤ e_b F (f - 1) := fun i hi => c6.1.2 i (f - 1) (by omega) (by omega)
  have f63 : ∀ j, uf (uf F 63 (nI ot') (nI a)) 64 (nI ot') 0 63 j = if j = ot' then nI a else F 63 j := fun j => by rw [e_uf_ne (by decide)]; simp only [uf_at2, co, true_and]
  have f64 : ∀ j, uf (uf F 63 (nI ot') (nI a)) 64 (nI ot') 0 64 j = if j = ot' then 0 else F 64 j := fun j => by
    rw [uf_at2, co]
    by_cases q : j = ot'
    · rw [if_pos ⟨rfl, q⟩, if_pos q]
    · rw [if_neg (fun w => q w.2), if_neg q, e_uf_ne (by decide)]
  have tt : ∀ lo m, m ≤ ot' → t_tl (uf (uf F 63 (nI ot') (nI a)) 64 (nI ot') 0) lo m = t_tl F lo m := fun lo m hm => t_tl_cg m (fun i _ hi => ⟨by rw [f63, if_neg (by omega)], by rw [f64, if_neg (by omega)]⟩)
  refine ⟨um (um M 70 (M 70 + 1)) 67 (M 67 + 1), uf (uf F 63 (nI ot') (nI a)) 64 (nI ot') 0, 1, fun Q h => ?_, Or.inr (Or.inr ⟨X.2.2.2.2.2.1, X.2.2.2.2.2.2.1, X.2.2.2.2.2.2.2, f, ot' + 1, k + 1, ⟨c1, ?_⟩, ⟨fun i hi => ?_, ?_⟩, e4, ⟨by omega, j1⟩, ?_⟩), fun O s h => t_go1 h.1.2.1 (fun Qc hq => ?_)⟩
  · have h := h.2.2.2.2.2.2.2.2.2.2.2.2.2.2.2.2.2.2.2.2.2.2.2.2
    have h := (h (by rw [e3, hn]; decide) (by rw [e3, hn]; decide) (by rw [e3, hn]; decide) (by rw [e3, hn]; decide) (by rw [e3, hn]; decide) (by rw [e3, hn]; decide) (by rw [e3, hn]; decide) (by rw [e3, hn]; decide) (by rw [e3, hn]; decide) (by rw [e3, hn]; decide) (by rw [e3, hn]; decide) (by rw [e3, hn]; decide) (by rw [e3, hn]; decide) (by rw [e3, hn]; decide) (by rw [e3, hn]; decide) (by rw [e3, hn]; decide) (by rw [e3, hn]; decide) (by rw [e3, hn]; decide) (by rw [e3, hn]; decide) (by rw [e3, hn]; decide) (by rw [e3, hn]; decide) (by rw [e3, hn]; decide)).2.2.2.2.2.2.2.2.2.2.2.1 (by rw [e3]; exact hn)
    have h := h.2.2
    rw [e3, a1] at h
    have h : Q (um (um M 70 (M 70 + 1)) 67 (M 67 + 1)) (uf (uf F 63 (M 67) (nI a)) 64 (M 67) 0) := h
    rw [h2] at h ⊢
    exact h
  · show (M 67 + 1).toInt = ((ot' + 1 : Nat) : Int)
    rw [h2, y_1, fs_nI (by omega)]
  · obtain ⟨b, b1, b2, b3⟩ := X.2.2.1.1 i hi
    refine ⟨b, b1, b2, ?_⟩
    show t_tl (uf (uf F 63 (nI ot') (nI a)) 64 (nI ot') 0) (e_b F i).toNat (e_b F (i + 1)).toNat = K_x K b
    rw [tt _ _ (by have := mon (i + 1) hi; omega)]
    exact b3
  · show t_tl (uf (uf F 63 (nI ot') (nI a)) 64 (nI ot') 0) (e_b F (f - 1)).toNat (ot' + 1) = K_x K (k + 1)
    have t1 : t_tl (uf (uf F 63 (nI ot') (nI a)) 64 (nI ot') 0) (e_b F (f - 1)).toNat (ot' + 1) = ((uf (uf F 63 (nI ot') (nI a)) 64 (nI ot') 0 63 ot').toNatClampNeg, (uf (uf F 63 (nI ot') (nI a)) 64 (nI ot') 0 64 ot').toNatClampNeg) :: t_tl (uf (uf F 63 (nI ot') (nI a)) 64 (nI ot') 0) (e_b F (f - 1)).toNat ot' := if_pos (by omega)
    rw [t1, f63, f64, if_pos rfl, if_pos rfl, tt _ _ (Nat.le_refl _), X.2.2.1.2, a3, y_cl (by omega)]
    rfl
  · have q1 : t_fs (uf (uf F 63 (nI ot') (nI a)) 64 (nI ot') 0) (K_E K) f = t_fs F (K_E K) f := t_fs_cg (F' := (uf (uf F 63 (nI ot') (nI a)) 64 (nI ot') 0)) (F := F) rfl f
    have q2 : t_rm (uf (uf F 63 (nI ot') (nI a)) 64 (nI ot') 0) (K_E K) (k + 1) = t_rm F (K_E K) (k + 1) := rfl
    show 108100 * ((M 79).toInt - (M 78).toInt).toNat + t_fs (uf (uf F 63 (nI ot') (nI a)) 64 (nI ot') 0) (K_E K) f + t_ps (uf (uf F 63 (nI ot') (nI a)) 64 (nI ot') 0) (ot' + 1) + t_rm (uf (uf F 63 (nI ot') (nI a)) 64 (nI ot') 0) (K_E K) (k + 1) + 1 ≤ 108100 * ((M 79).toInt - (M 78).toInt).toNat + t_fs F (K_E K) f + t_ps F ot' + t_rm F (K_E K) k
    rw [q1, q2]
    have p1 : t_ps (uf (uf F 63 (nI ot') (nI a)) 64 (nI ot') 0) (ot' + 1) = t_ps (uf (uf F 63 (nI ot') (nI a)) 64 (nI ot') 0) ot' + (36001 * (2 - (uf (uf F 63 (nI ot') (nI a)) 64 (nI ot') 0 64 ot').toNatClampNeg) + 1) := rfl
    have p2 : t_ps (uf (uf F 63 (nI ot') (nI a)) 64 (nI ot') 0) ot' = t_ps F ot' := t_ps_cg ot' (fun i hi => by rw [f64, if_neg (by omega)])
    have p3 : (uf (uf F 63 (nI ot') (nI a)) 64 (nI ot') 0 64 ot').toNatClampNeg = 0 := by rw [f64, if_pos rfl]; rfl
    rw [p3, p2] at p1
    have rm0 : t_rm F (K_E K) k = 4 * (K_E K - k) + 72004 := by
      unfold t_rm
      rw [hn, if_neg (by decide), if_neg (by decide), if_neg (fun g => absurd g.1 (by decide)), if_pos rfl]
    have rm1 := t_rm_le (t_nt X.1.1 (x := k + 1) (by omega) (by omega) (by omega)) j1
    omega
  · refine d_course hN hz (S_s_m (k := 70) (v := M 70 + 1) h (by decide)) (by omega) q0 (by decide) (fun s1 h1 => ⟨fun g => absurd g (by decide), fun g => absurd g (by decide), fun g => absurd g (by decide), fun g => absurd g (by decide), fun _ => m_fetch hN hz h1 (by omega) (fun s2 h2' => ?_), fun g => absurd g (by decide), fun g => absurd g (by decide), fun _ _ _ _ g => absurd rfl g⟩)
    rw [q1]
    refine m_fetch hN hz h2' (by omega) (fun s3 h3' => ?_)
    rw [q2]
    obtain ⟨⟨b1, b2, b3⟩, ⟨hD, hM, hC⟩, ⟨hNN, hR, hT⟩, hd', hV⟩ := h3'
    have e51 : s3.1 51 = nI ot' := hT.1.trans h2
    have e62 : M 62 = nI f := (t_62 c3 c1).1
    have e50 : s3.1 50 = nI f := hd'.trans e62
    rw [e51, e50]
    refine m_stf hN (c := 0) ht (by decide) ?_
    have e51' : (ff s3 18 (nI (5 * ot' + 0)) (nI f)).1 51 = nI ot' := e51
    rw [e51']
    refine m_stf hN (c := 1) ht (by decide) ?_
    have e51'' : (ff (ff s3 18 (nI (5 * ot' + 0)) (nI f)) 18 (nI (5 * ot' + 1)) (k_hx K (F 20 a))).1 51 = nI ot' := e51
    rw [e51'']
    refine m_stf hN (c := 2) ht (by decide) ?_
    have hS : S_s K (K_A K (k + 1)) 0 0 (fm (ff (ff (ff s3 18 (nI (5 * ot' + 0)) (nI f)) 18 (nI (5 * ot' + 1)) (k_hx K (F 20 a))) 18 (nI (5 * ot' + 2)) (nI (K_L K a))) 51 (s3.1 51 + 1)) O (um (um M 70 (M 70 + 1)) 67 (M 67 + 1)) (uf (uf F 63 (nI ot') (nI a)) 64 (nI ot') 0) := by
      rw [j0]
      refine ⟨⟨b1, b2, b3⟩, ⟨S_D_cg hD ⟨rfl, rfl⟩ rfl ⟨rfl, rfl⟩ ⟨rfl, rfl, rfl, rfl, rfl, rfl⟩, S_M_cg hM ⟨rfl, rfl, rfl, rfl, rfl, rfl, rfl⟩ rfl ⟨rfl, rfl, rfl, rfl, rfl, rfl⟩ rfl, S_C_cg hC rfl ⟨rfl, rfl, rfl⟩ ⟨rfl, rfl⟩⟩, ⟨S_N_cg hNN ⟨rfl, rfl⟩ rfl ⟨rfl, rfl⟩, S_R_cg hR rfl rfl ⟨rfl, rfl, rfl, rfl⟩, S_T_open (s := s3) (M := um M 70 (M 70 + 1)) ht (by omega) c3.1 c1 c2 c5 mon ?_ (fun j => ?_) hT⟩, hd', S_V_cg hV rfl rfl rfl rfl⟩
      · show s3.1 51 + 1 = M 67 + 1
        rw [e51, h2]
      · show (ff (ff (ff s3 18 (nI (5 * ot' + 0)) (nI f)) 18 (nI (5 * ot' + 1)) (k_hx K (F 20 a))) 18 (nI (5 * ot' + 2)) (nI (K_L K a))).2.1 18 j = _
        rw [ff18 (by omega), ff18 (by omega), ff18 (by omega)]
        rfl
    exact t_84g hS (hq _ _ (A_S_go X.2.2.2.2.2.1 X.2.2.2.2.2.2.1 e4 hS))
end TQF
