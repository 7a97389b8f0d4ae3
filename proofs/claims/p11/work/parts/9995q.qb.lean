/-! ONE ACT OF THE REFERENCE: how far both still have to go; what an act leaves. -/
section TQB
variable {K : k_K} {N : Nat → Nat} {s s' : f_S3} {O : Nat × Nat} {M M' M1 : e_M} {F F' F1 : e_F} {p : Nat} {st ra : Int32} {G : e_G} {B Nn E T V : Int} {f ot k j : Nat}
def t_fs (F : e_F) (E : Nat) : Nat → Nat
  | 0 => 0
  | n + 1 => t_fs F E n + (if n = 0 then 0 else 4 * (E - (F 59 n).toNatClampNeg) + 1)
theorem t_fs_cg {E : Nat} (h : F' 59 = F 59) : ∀ n, t_fs F' E n = t_fs F E n := by
  intro n
  induction n with
  | zero => rfl
  | succ n ih =>
    show t_fs F' E n + _ = t_fs F E n + _
    rw [ih, h]
theorem t_fs_cg2 {E : Nat} : ∀ n, (∀ i, i < n → F' 59 i = F 59 i) → t_fs F' E n = t_fs F E n := by
  intro n
  induction n with
  | zero => intro _; rfl
  | succ n ih =>
    intro h
    show t_fs F' E n + _ = t_fs F E n + _
    rw [ih (fun i hi => h i (by omega)), h n (by omega)]
theorem t_fs_mo {E : Nat} : ∀ {m n : Nat}, m ≤ n → t_fs F E m ≤ t_fs F E n := by
  intro m n h
  induction n with
  | zero => have : m = 0 := by omega
            rw [this]; exact Nat.le_refl _
  | succ n ih =>
    by_cases q : m = n + 1
    · rw [q]; exact Nat.le_refl _
    · exact Nat.le_trans (ih (by omega)) (Nat.le_add_right _ _)
def t_rm (F : e_F) (E k : Nat) : Nat := if F 13 k = 0 then 0 else if F 13 k = 19 then 1 else if F 13 k = 1 ∧ F 13 (k + 1) = 19 then 2 else if F 13 k = 22 then 4 * (E - k) + 72004 else 4 * (E - k)
def t_Ph (K : k_K) (M : e_M) (F : e_F) (f ot k : Nat) : Nat := 108100 * ((M 79).toInt - (M 78).toInt).toNat + t_fs F (K_E K) f + t_ps F ot + t_rm F (K_E K) k
theorem t_rm_le {E : Nat} (h : ¬ F 13 k = 22) (hk : k < E) : t_rm F E k ≤ 4 * (E - k) := by
  unfold t_rm
  split
  · omega
  · split
    · omega
    · split
      · rename_i q1 q2 q3
        omega
      · exact Nat.le_refl _
theorem t_rm_1 {E : Nat} (h : ¬ F 13 k = 0) (hk : k < E) : 1 ≤ t_rm F E k := by
  unfold t_rm
  rw [if_neg h]
  split
  · omega
  · split
    · omega
    · split <;> omega
theorem t_rm_max {E : Nat} (hk : E ≤ k + 9000) : t_rm F E k ≤ 108004 := by
  unfold t_rm
  split
  · omega
  · split
    · omega
    · split
      · omega
      · split <;> omega
/-- where both are, told of the reference alone -/
def C_X (K : k_K) (G : e_G) (B Nn E T V : Int) (M : e_M) (F : e_F) (f ot k : Nat) : Prop := e_CX G B Nn E T V M F f ot ∧ k_cor K F ∧ (v_F K F f ∧ t_tl F (e_b F (f - 1)).toNat ot = K_x K k) ∧ M 70 = nI k ∧ (9000 * K_B K ≤ k ∧ k < K_E K) ∧ M 71 = 0 ∧ M 72 = 0 ∧ M 73 = 0
def A_P (K : k_K) (M : e_M) (F : e_F) (f ot k : Nat) (M' : e_M) (F' : e_F) (j : Nat) : Prop := (M' 71 = 1 ∧ j ≤ t_Ph K M F f ot k + 1) ∨ (M' 71 = 0 ∧ M' 72 = 1 ∧ j ≤ t_Ph K M F f ot k + 1) ∨ (M' 71 = 0 ∧ M' 72 = 0 ∧ M' 73 = 0 ∧ ∃ f' ot' k' : Nat, ((M' 62).toInt = f' ∧ (M' 67).toInt = ot') ∧ (v_F K F' f' ∧ t_tl F' (e_b F' (f' - 1)).toNat ot' = K_x K k') ∧ M' 70 = nI k' ∧ (9000 * K_B K ≤ k' ∧ k' < K_E K) ∧ t_Ph K M' F' f' ot' k' + j ≤ t_Ph K M F f ot k)
def A_S (K : k_K) (M' : e_M) (F' : e_F) (s : f_S3) (O : Nat × Nat) : Prop := (M' 71 = 1 → s.1 53 = 3 ∧ S_a K s O M' F') ∧ (M' 71 = 0 → M' 72 = 1 → (¬ M' 73 = 0 → s.1 53 = 2 ∧ s.1 54 = M' 73) ∧ (M' 73 = 0 → s.1 53 = 1 ∧ s.1 55 = M' 74) ∧ S_a K s O M' F') ∧ (M' 71 = 0 → M' 72 = 0 → ∃ k : Nat, (M' 70 = nI k ∧ k < 2 ^ 31) ∧ S_s K (K_A K k) 0 0 s O M' F')
theorem A_S_go {q : Nat} (h71 : M' 71 = 0) (h72 : M' 72 = 0) (h70 : M' 70 = nI q) (h : S_s K (K_A K q) 0 0 s O M' F') (hb : q < 2 ^ 31 := by omega) : A_S K M' F' s O := ⟨fun g => absurd (h71.symm.trans g) (by decide), fun _ g => absurd (h72.symm.trans g) (by decide), fun _ _ => ⟨q, ⟨h70, hb⟩, h⟩⟩
theorem A_S_ov (h71 : M' 71 = 1) (h : S_s K p 3 ra s O M' F') : A_S K M' F' s O := ⟨fun _ => ⟨h.1.2.1, h.2.1⟩, fun g => absurd (h71.symm.trans g) (by decide), fun g => absurd (h71.symm.trans g) (by decide)⟩
theorem C_X_k (X : C_X K G B Nn E T V M F f ot k) : (M 70).toInt = k ∧ (M 70).toInt.toNat = k ∧ (M 70).toNatClampNeg = k ∧ M 70 + 1 = nI (k + 1) ∧ k < 18000 := by
  have hb := X.2.1.1
  have hk := X.2.2.2.2.1
  have e := X.2.2.2.1
  have e1 : (M 70).toInt = k := by rw [e]; exact fs_nI (by omega)
  refine ⟨e1, by rw [e1]; rfl, by rw [e]; exact y_cl (by omega), by rw [e]; exact y_1, by omega⟩
theorem C_X_f (X : C_X K G B Nn E T V M F f ot k) : ((M 62).toInt = f ∧ (M 67).toInt = ot) ∧ (1 ≤ f ∧ f ≤ 12) ∧ ot ≤ 240 ∧ e_b F (f - 1) ≤ ot ∧ e_FS G B E T F f ot := by
  have hR := X.1.2.1
  have ho := e_CX_ot X.1
  exact ⟨⟨hR.1.1, hR.1.2.1⟩, hR.1.2.2, ho.2.1, ho.1, hR.2.1⟩
theorem C_X_at (X : C_X K G B Nn E T V M F f ot k) : k_at K F k := X.2.1.2.1 k X.2.2.2.2.1.1 X.2.2.2.2.1.2
/-- no TRY where the height isn't -1 -/
theorem t_nt (hC : e_SC G B Nn E T V F) {x : Nat} (h1 : 9000 * B ≤ x) (h2 : (x : Int) < E) (h0 : 0 ≤ G 0 x) : ¬ F 13 x = 22 := fun q => by
  have h := e_op_n (j := 22) (hC.2.1 x h1 h2) (by rw [q]; decide)
  have := (e_opc_22 h.2).1
  omega
theorem ap_go (X : C_X K G B Nn E T V M F f ot k) (h13 : ¬ F 13 k = 0 ∧ ¬ F 13 k = 19 ∧ ¬ F 13 k = 22) {k' : Nat} (hk' : (k < k' ∨ F 13 k' = 0) ∧ k' < K_E K ∧ 9000 * K_B K ≤ k') (hs : F 13 k = 1 → k' = k + 1) (hn : ¬ F 13 k' = 22) (hx : K_x K k' = K_x K k) (m : M' 62 = M 62 ∧ M' 67 = M 67 ∧ M' 71 = 0 ∧ M' 72 = 0 ∧ M' 73 = 0 ∧ M' 78 = M 78 ∧ M' 79 = M 79) (h70 : M' 70 = nI k') (fr : F' 13 = F 13 ∧ F' 59 = F 59 ∧ F' 61 = F 61 ∧ F' 63 = F 63 ∧ F' 64 = F 64) : A_P K M F f ot k M' F' 1 := by
  obtain ⟨m1, m2, m3, m4, m5, m6, m7⟩ := m
  obtain ⟨f1, f2, f3, f4, f5⟩ := fr
  obtain ⟨⟨c1, c2⟩, -⟩ := C_X_f X
  obtain ⟨-, -, ⟨x1, x2⟩, x3, x4, -⟩ := X
  have eb : ∀ i, e_b F' i = e_b F i := fun i => by unfold e_b; rw [f3]
  have tt : ∀ lo n, t_tl F' lo n = t_tl F lo n := fun lo n => t_tl_cg n (fun i _ _ => ⟨by rw [f4], by rw [f5]⟩)
  refine Or.inr (Or.inr ⟨m3, m4, m5, f, ot, k', ⟨by rw [m1]; exact c1, by rw [m2]; exact c2⟩, ⟨fun i hi => ?_, ?_⟩, h70, ⟨hk'.2.2, hk'.2.1⟩, ?_⟩)
  · obtain ⟨a, a1, a2, a3⟩ := x1 i hi
    exact ⟨a, by rw [f2]; exact a1, a2, by rw [eb, eb, tt]; exact a3⟩
  · rw [eb, tt, hx]; exact x2
  · unfold t_Ph
    rw [m6, m7, t_fs_cg f2, t_ps_cg (F := F) ot (fun i _ => by rw [f5])]
    have e : t_rm F' (K_E K) k' = t_rm F (K_E K) k' := by unfold t_rm; rw [f1]
    rw [e]
    have key : t_rm F (K_E K) k' + 1 ≤ t_rm F (K_E K) k := by
      have hkE := hk'.2.1
      by_cases z0 : F 13 k' = 0
      · have e0 : t_rm F (K_E K) k' = 0 := by unfold t_rm; rw [if_pos z0]
        have := t_rm_1 h13.1 x4.2
        omega
      · have lt : k < k' := by
          rcases hk'.1 with g | g
          · exact g
          · exact absurd g z0
        by_cases z : F 13 k = 1 ∧ F 13 (k + 1) = 19
        · have ek := hs z.1
          subst ek
          have e1 : t_rm F (K_E K) k = 2 := by unfold t_rm; rw [if_neg h13.1, if_neg h13.2.1, if_pos z]
          have e2 : t_rm F (K_E K) (k + 1) = 1 := by unfold t_rm; rw [if_neg z0, if_pos z.2]
          omega
        · have e1 : t_rm F (K_E K) k = 4 * (K_E K - k) := by unfold t_rm; rw [if_neg h13.1, if_neg h13.2.1, if_neg z, if_neg h13.2.2]
          have e2 := t_rm_le hn hkE
          omega
    omega
theorem ap_ov (h71 : M' 71 = 1) : A_P K M F f ot k M' F' 1 := Or.inl ⟨h71, by omega⟩
/-- the reference within a deed -/
def W_ok (M M1 : e_M) (F F1 : e_F) : Prop := (∀ i, i ∈ [62, 67, 71, 72, 73, 74, 78, 79] → M1 i = M i) ∧ (∀ r, r < 46 → F1 r = F r) ∧ (F1 59 = F 59 ∧ F1 60 = F 60 ∧ F1 61 = F 61 ∧ F1 63 = F 63 ∧ F1 64 = F 64) ∧ e_OB M1 F1
theorem t_rz (hN : tN N) (hz : K_z K ≤ N 20) (X : C_X K G B Nn E T V M F f ot k) (h13 : ¬ F 13 k = 0) (W : W_ok M M1 F F1) {o : Int32} (ho : 1 ≤ o.toInt ∧ o.toInt ≤ (M1 54).toInt) : ∃ (M' : e_M) (F' : e_F) (j : Nat), (∀ Q : e_M → e_F → Prop, w_raise o M1 F1 Q → Q M' F') ∧ A_P K M F f ot k M' F' (j + 1) ∧ ∀ (O : Nat × Nat) (s : f_S3), s.1 53 = 0 → s.1 54 = o → S_a K s O M1 F1 → S_b K s M1 F1 → ∀ Qd : f_S3 → Nat × Nat → Prop, (∀ s' O', t_go N j s' O' (A_S K M' F') → Qd s' O') → t_84 N Qd s O := by
  obtain ⟨W1, W2, ⟨g59, g60, g61, g63, g64⟩, W4⟩ := W
  obtain ⟨⟨c1, c2⟩, c3, c4, c5, c6⟩ := C_X_f X
  have hX := X
  obtain ⟨hCX, hc, ⟨x1, x2⟩, x3, x4, x5, x6, x7⟩ := X
  have hc1 : k_cor K F1 := k_cor_cg hc W2
  have eb : ∀ i, e_b F1 i = e_b F i := fun i => by unfold e_b; rw [g61]
  have tt : ∀ lo n, t_tl F1 lo n = t_tl F lo n := fun lo n => t_tl_cg n (fun i _ _ => ⟨by rw [g63], by rw [g64]⟩)
  have v1 : v_F K F1 f := fun i hi => by
    obtain ⟨a, a1, a2, a3⟩ := x1 i hi
    exact ⟨a, by rw [g59]; exact a1, a2, by rw [eb, eb, tt]; exact a3⟩
  have hFS1 : e_FS G B E T F1 f ot := e_FS_cg g59 g60 g61 g63 (fun i => Or.inl (by rw [g64])) c6
  have hSC1 : e_SC G B Nn E T V F1 := e_SC_xr (M := M) (M' := M) (F := F) ⟨fun _ _ => rfl, W2⟩ hCX.1
  have h62 : (M1 62).toInt = f := by rw [W1 62 (by decide)]; exact c1
  have h67 : (M1 67).toInt = ot := by rw [W1 67 (by decide)]; exact c2
  have h72 : M1 72 = 0 := (W1 72 (by decide)).trans x6
  have hO0 : e_OB (um M1 69 0) F1 := e_OB_hc (e_hc_um (ks := [69]) (rs := []) 0 (by decide) (e_hc_rf _ _ M1 F1)) (by decide) (by decide) W4
  have onz : ¬ o = 0 := fun q => by rw [q] at ho; exact absurd ho.1 (by decide)
  obtain ⟨M', F', j, r1, ⟨vo, vr⟩, r3⟩ := m_raise5 hN hz (o := o) hc1 (f + ot + 1) f ot (um M1 69 0) (by omega) h62 h67 rfl h72 c3 c4 hFS1 (by rw [eb]; exact c5) v1 (by rw [eb, tt, x2]; exact (C_X_at hX).2.2.2.2.2.2.2.2.2) hO0 ho
  have rr : ∀ Q : e_M → e_F → Prop, w_raise o M1 F1 Q → Q M' F' := fun Q ⟨e, h⟩ => r1 Q e h
  obtain ⟨⟨o1, o2, o3, o4, o5, o6⟩, o7, o8, o9, o10⟩ := vo
  have h71 : M' 71 = 0 := o4.trans ((W1 71 (by decide)).trans x5)
  have psE : t_ps F1 ot = t_ps F ot := t_ps_cg ot (fun i _ => by rw [g64])
  have rm1 := t_rm_1 h13 x4.2
  have hkb := hc.1
  refine ⟨M', F', j, rr, ?_, fun O s h53 h54 hA hB Qd hq => ?_⟩
  · rcases vr with ⟨v1, v2, v3⟩ | ⟨v1, v2, v3, v4, f', ot', ⟨b1, b2, b3, b4⟩, ⟨b5, k', b6, b7, b8⟩, b9⟩
    · refine Or.inr (Or.inl ⟨h71, v1, ?_⟩)
      unfold t_Ph
      omega
    · have hpo := rr _ (p_raise (Q := fun M' F' => e_PO G B E T M1 F1 f ot M' F') hSC1 W4 ho h62 h67 c3 hFS1 (by rw [eb]; exact c5) c4 (fun _ _ h => h))
      have h72' : M' 72 = 0 := v1.trans h72
      obtain ⟨f2, ot2, hrun, hg0, -⟩ := hpo.2.2.2 h72' h71
      have e70 : (M' 70).toInt = k' := by rw [b6]; exact fs_nI (by omega)
      have hSC2 : e_SC G B Nn E T V F' := e_SC_xr (M := M) (M' := M) (F := F1) ⟨fun _ _ => rfl, o10⟩ hSC1
      have hr := hrun.2.2.1
      rw [e70] at hr hg0
      have nt : ¬ F' 13 k' = 22 := t_nt hSC2 hr.1 hr.2 (by rw [Int.toNat_natCast] at hg0; omega)
      refine Or.inr (Or.inr ⟨h71, h72', v2.trans ((W1 73 (by decide)).trans x7), f', ot', k', ⟨b1, b2⟩, ⟨b5, b8⟩, b6, b7, ?_⟩)
      unfold t_Ph
      have e78 : M' 78 = M 78 := o5.trans (W1 78 (by decide))
      have e79 : M' 79 = M 79 := o6.trans (W1 79 (by decide))
      have tf : t_fs F' (K_E K) f' ≤ t_fs F (K_E K) f := by
        rw [t_fs_cg (F := F) (o7.trans g59)]
        exact t_fs_mo b4
      have rm2 := t_rm_le nt b7.2
      rw [e78, e79]
      omega
  · refine t_84r (by rw [h54]; exact onz) ?_
    refine r3 O s h53 h54 (S_a_m hA ⟨rfl, rfl, rfl⟩ ⟨rfl, rfl, rfl, rfl, rfl⟩) (S_b_m hB ⟨rfl, rfl⟩) Qd (fun s' h' => hq s' O (t_go_mo h' (fun s2 O2 g => ?_)))
    obtain ⟨rfl, g1, g2⟩ := g
    refine ⟨fun g => absurd (h71.symm.trans g) (by decide), fun _ z => ?_, fun _ z => g2 (fun w => absurd (z.symm.trans w) (by decide))⟩
    obtain ⟨a1, a2, a3⟩ := g1 z
    have h73 : M' 73 = o := by
      rcases vr with ⟨-, v2, -⟩ | ⟨v1, -⟩
      · exact v2
      · exact absurd (z.symm.trans (v1.trans h72)) (by decide)
    exact ⟨fun _ => ⟨a1, a2.trans h73.symm⟩, fun w => absurd (h73.symm.trans w) onz, a3⟩
end TQB
