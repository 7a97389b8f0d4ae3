section TQ8
variable {K : k_K} {N : Nat → Nat} {s s' : f_S3} {O : Nat × Nat} {M M' : e_M} {F F' : e_F} {p : Nat} {st ra : Int32}
theorem r_gl {t : Nat} (ht : t < 240) {q v : Int32} {Q : Int32 → e_M → e_F → Prop} (h : w_goesLastly (nI t) q v M F Q) : (F 64 t = 2 → Q 0 M F) ∧ (¬ F 64 t = 2 → F 21 (F 63 t).toNatClampNeg = -1 → Q 0 M F) ∧ (¬ F 64 t = 2 → ¬ F 21 (F 63 t).toNatClampNeg = -1 → Q 1 (um M 70 (F 21 (F 63 t).toNatClampNeg)) (g_F F t q v)) := by
  have e : (nI t).toNatClampNeg = t := y_cl (by omega)
  unfold w_goesLastly at h
  rw [e] at h
  obtain ⟨-, h1, h2⟩ := h
  exact ⟨h1, fun a b => ((h2 a).2.2 _ rfl).2 b, fun a b => (((h2 a).2.2 _ rfl).1 b).2.2.2.2.2 _ rfl⟩
theorem t_67 {t : Nat} (ht : t < 240) (h : (M 67).toInt = (t : Int) + 1) : M 67 = nI (t + 1) ∧ M 67 - 1 = nI t ∧ (M 67 - 1).toInt = t := by
  obtain ⟨j, h1, h2, h3, -⟩ := t_nat (x := M 67) (n := 241) (by omega)
  have e : j = t + 1 := by omega
  subst e
  have e2 : M 67 - 1 = nI t := by rw [h2, show (1 : Int32) = nI 1 from rfl, y_sub (by omega) (by omega)]; rfl
  exact ⟨h2, e2, by rw [e2]; exact fs_nI (by omega)⟩
theorem t_62 {f : Nat} (hf : 1 ≤ f ∧ f ≤ 12) (h : (M 62).toInt = f) : M 62 = nI f ∧ M 62 - 1 = nI (f - 1) ∧ (M 62 - 1).toInt = (f : Int) - 1 ∧ (M 62 - 1).toNatClampNeg = f - 1 := by
  obtain ⟨j, h1, h2, h3, -⟩ := t_nat (x := M 62) (n := 13) (by omega)
  have e : j = f := by omega
  subst e
  have e2 : M 62 - 1 = nI (j - 1) := by rw [h2, show (1 : Int32) = nI 1 from rfl, y_sub (by omega) (by omega)]
  refine ⟨h2, e2, ?_, by rw [e2]; exact y_cl (by omega)⟩
  rw [e2, fs_nI (by omega)]; omega
theorem t_nph {t ph : Nat} (h : 0 ≤ (F 64 t).toInt ∧ (F 64 t).toInt ≤ 2) : (F 64 t = 0 → (F 64 t).toNatClampNeg = 0) ∧ (F 64 t = 2 ↔ (F 64 t).toNatClampNeg = 2) := by
  obtain ⟨j, h1, h2, h3, h4⟩ := t_nat (x := F 64 t) (n := 3) (by omega)
  refine ⟨fun q => by rw [q]; rfl, fun q => by rw [q]; rfl, fun q => ?_⟩
  rw [h4] at q
  rw [h2, q]; rfl
/-- of the class: no uphold takes it -/
theorem m_noup (hN : tN N) (hz : K_z K ≤ N 20) (hc : k_cor K F) (hO : e_OB M F) {o : Int32} (ho : 1 ≤ o.toInt ∧ o.toInt ≤ (M 54).toInt) (h54 : s.1 54 = o) (hA : S_a K s O M F) {u r : Int32} {a : Nat} (hch : k_ch K a u (K_V K + 1)) (hr : r = t_up F (F 48 o.toNatClampNeg) (K_V K + 1) u) {Q : Int32 → f_S3 → Nat × Nat → Prop} (hQ : Q (k_hx K r) s O) : wY_X8_upholdFor N (k_hx K u) s O Q := by
  have hk : 0 ≤ (F 48 o.toNatClampNeg).toInt ∧ (F 48 o.toNatClampNeg).toInt ≤ 6 := (hO.2.1 o.toInt.toNat (by omega) (by omega)).1
  have hb := hc.1
  unfold wY_X8_upholdFor
  rw [h54]
  refine m_kindOf hA.1 ho ⟨K_V K + 1 + 1, m_up hN hz hc hA.2.2 hk (K_V K + 1) 0 u hch (by omega) ?_⟩
  rw [← hr]; exact hQ
theorem m_raise5 (hN : tN N) (hz : K_z K ≤ N 20) {G : e_G} {B E T : Int} {o : Int32} (hc : k_cor K F) : ∀ (n f ot : Nat) (M : e_M), f + ot < n → (M 62).toInt = f → (M 67).toInt = ot → M 69 = 0 → M 72 = 0 → (1 ≤ f ∧ f ≤ 12) → ot ≤ 240 → e_FS G B E T F f ot → e_b F (f - 1) ≤ ot → v_F K F f → k_wf K (t_tl F (e_b F (f - 1)).toNat ot) → e_OB M F → (1 ≤ o.toInt ∧ o.toInt ≤ (M 54).toInt) →
    ∃ (M' : e_M) (F' : e_F) (j : Nat), (∀ (Q : e_M → e_F → Prop) (m : Nat), w_raise_5 Q m o M F → Q M' F') ∧ v_R K M F f ot o M' F' j ∧ ∀ (O : Nat × Nat) (s : f_S3), s.1 53 = 0 → s.1 54 = o → S_a K s O M F → S_b K s M F → ∀ Qc : f_S3 → Nat × Nat → Prop, (∀ s', t_go N j s' O (fun s2 O2 => O2 = O ∧ v_S K o M' F' s2 O) → Qc s' O) → ∃ e, wY_X8_goOut_0 N Qc e s O := by
  intro n
  induction n with
  | zero => intro f ot M h; exact absurd h (by omega)
  | succ n ih =>
    intro f ot M hn h62 h67 h69 h72 hf h240 hFS hb hv hwf hO ho
    obtain ⟨e62, e62m, e62i, e62c⟩ := t_62 hf h62
    have b0 : 0 ≤ e_b F (f - 1) := (hFS.1.1 (f - 1) (by omega)).1
    have onz : ¬ o = 0 := fun q => by rw [q] at ho; exact absurd ho.1 (by decide)
    by_cases q : e_b F (f - 1) = ot
    · have q67 : M 67 = F 61 (M 62 - 1).toNatClampNeg := Int32.toInt_inj.mp (by rw [e62c, h67]; exact q.symm)
      by_cases q1 : f = 1
      · subst q1
        have h0 : ot = 0 := by have := (hFS.1.1 0 (by omega)).2; have e : e_b F (1 - 1) = e_b F 0 := rfl; omega
        refine ⟨um (um (um M 62 (M 62 - 1)) 73 o) 72 1, F, 0, fun Q m hw => ?_, ⟨⟨⟨rfl, rfl, rfl, rfl, rfl, rfl⟩, rfl, rfl, rfl, fun _ _ => rfl⟩, Or.inl ⟨rfl, rfl, Nat.zero_le _⟩⟩, fun O s h53 h54 hA hB Qc hq => ⟨1, fun _ => hq _ (t_go0 ⟨rfl, fun _ => ⟨rfl, h54, S_a_m (S_a_53 hA) ⟨rfl, rfl, rfl⟩ ⟨rfl, rfl, rfl, rfl, rfl⟩⟩, fun z => absurd rfl z⟩), fun z => ?_⟩⟩
        · cases m with
          | zero => exact hw.elim
          | succ m => exact (hw.2.2 q67).1 (by rw [e62m]; decide)
        · exfalso
          apply z
          rw [hB.2.2.1, Int32.le_iff_toInt_le, h67, h0, e_z0]; exact Int.le_refl _
      · have mono : e_b F (f - 1 - 1) ≤ e_b F (f - 1) := hFS.1.2 (f - 1 - 1) (f - 1) (by omega) (by omega)
        obtain ⟨k, k1, k2, k3⟩ := hv (f - 1 - 1) (by omega)
        have ef : f - 1 - 1 + 1 = f - 1 := by omega
        rw [ef, q, Int.toNat_natCast] at k3
        have kw : k_wf K (K_x K k) := (hc.2.1 k k2.1 k2.2).2.2.2.2.2.2.2.2.2
        obtain ⟨M', F', j, r1, ⟨vo, vr⟩, r3⟩ := ih (f - 1) ot (um M 62 (M 62 - 1)) (by omega) (show (M 62 - 1).toInt = ((f - 1 : Nat) : Int) from by omega) h67 h69 h72 (by omega) h240 (e_FS_pf hf.1 q.symm hFS) (by omega) (fun i hi => hv i (by omega)) (by rw [k3]; exact kw) (e_OB_hc (e_hc_um (ks := [62]) (rs := []) (M 62 - 1) (by decide) (e_hc_rf _ _ M F)) (by decide) (by decide) hO) ho
        refine ⟨M', F', j, fun Q m hw => ?_, ⟨vo, vr.imp id (fun ⟨a1, a2, a3, a4, f', ot', ⟨b1, b2, b3, b4⟩, b5, b6⟩ => ⟨a1, a2, a3, a4, f', ot', ⟨b1, b2, b3, by omega⟩, b5, b6⟩)⟩, fun O s h53 h54 hA hB => r3 O s h53 h54 (S_a_m hA ⟨rfl, rfl, rfl⟩ ⟨rfl, rfl, rfl, rfl, rfl⟩) (S_b_f (f := f - 1) (by omega) h67 q rfl rfl hB)⟩
        cases m with
        | zero => exact hw.elim
        | succ m =>
          refine r1 Q m ((hw.2.2 q67).2 (fun z => ?_))
          rw [Int32.le_iff_toInt_le, e_z0] at z; omega
    · obtain ⟨t, rfl⟩ : ∃ t, ot = t + 1 := ⟨ot - 1, by omega⟩
      have hbt : e_b F (f - 1) ≤ t := by omega
      have ht : t < 240 := by omega
      obtain ⟨e67, e67m, e67i⟩ := t_67 ht h67
      obtain ⟨x1, x2, x3⟩ := hFS.2.2 (f - 1) t (by omega) hbt (fun z => by omega) (by omega)
      have ct : (nI t).toNatClampNeg = t := y_cl (by omega)
      have n67 : ¬ M 67 = F 61 (M 62 - 1).toNatClampNeg := fun z => q (by rw [e62c] at z; have := congrArg Int32.toInt z; rw [h67] at this; exact this.symm)
      rw [t_tl_top (lo := (e_b F (f - 1)).toNat) (by omega) rfl] at hwf
      obtain ⟨w1, w2, w3, w4⟩ := hwf
      obtain ⟨k1, k2, k3, k4⟩ := hc.2.2.1 _ w2.1 w2.2
      have hk : 0 ≤ (F 48 o.toNatClampNeg).toInt ∧ (F 48 o.toNatClampNeg).toInt ≤ 6 := (hO.2.1 o.toInt.toNat (by omega) (by omega)).1
      have hch : k_ch K (F 63 t).toNatClampNeg (F 20 (F 63 t).toNatClampNeg) (K_V K + 1) := by
        rcases k3 with z | ⟨u, a1, a2, a3⟩
        · exact Or.inl z
        · exact Or.inr ⟨u, a1, a2, a3, by omega⟩
      have mon : ∀ i, i < f → e_b F i ≤ e_b F (f - 1) := fun i hi => hFS.1.2 i (f - 1) (by omega) (by omega)
      have ps : t_ps F (t + 1) = t_ps F t + (36001 * (2 - (F 64 t).toNatClampNeg) + 1) := rfl
      -- what is found among the upholds
      have up : ∃ r : Int32, (r = -1 ∨ (F 64 t = 0 ∧ ∃ v : Nat, r = nI v ∧ (400 * K_B K ≤ v ∧ v < K_V K) ∧ K_w K v = (F 63 t).toNatClampNeg)) ∧ (∀ (Q : e_M → e_F → Prop) (m : Nat), ¬ F 64 t = 2 → w_raise_5 Q (m + 1) o M F → (F 64 t = 0 → w_raise_115 (w_raise_5 Q m) Q o (nI t) r M F) ∧ (¬ F 64 t = 0 → w_raise_170 (w_raise_5 Q m) Q o (nI t) M F)) ∧ (¬ F 64 t = 0 → r = -1) ∧ ∀ (O : Nat × Nat) (s : f_S3), s.1 54 = o → S_a K s O M F → S_b K s M F → ∀ Q : Int32 → f_S3 → Nat × Nat → Prop, Q (k_hx K r) s O → wY_X8_tryField N (nI t) 1 s O (fun r1 M2 O2 => wY_X8_upholdFor N r1 M2 O2 Q) := by
        by_cases z : F 64 t = 0
        · refine ⟨t_up F (F 48 o.toNatClampNeg) (K_V K + 1) (F 20 (F 63 t).toNatClampNeg), ?_, fun Q m _ hw => ⟨fun _ => ?_, fun g => absurd z g⟩, fun g => absurd z g, fun O s h54 hA hB Q hQ => ?_⟩
          · rcases t_up_ch hc _ _ hch with g | g
            · exact Or.inl g
            · exact Or.inr ⟨z, g⟩
          · obtain ⟨-, g1, -⟩ := hw
            obtain ⟨-, -, g2⟩ := g1 n67
            rw [e67m, ct] at g2
            obtain ⟨e, g3⟩ := (g2 z).2.2 _ rfl
            exact r_up hc hk e (K_V K + 1) _ hch (by omega) g3
          · refine m_tf hN (c := 1) ht (by decide) ?_
            have T1 := (hB.2.2.2.1 t (by omega)).1
            rw [if_pos z] at T1
            rw [T1]
            exact m_noup hN hz hc hO ho h54 hA hch rfl hQ
        · refine ⟨-1, Or.inl rfl, fun Q m _ hw => ⟨fun g => absurd g z, fun _ => ?_⟩, fun _ => rfl, fun O s h54 hA hB Q hQ => ?_⟩
          · obtain ⟨-, g1, -⟩ := hw
            obtain ⟨-, g2, -⟩ := g1 n67
            rw [e67m, ct] at g2
            exact g2 z
          · refine m_tf hN (c := 1) ht (by decide) ?_
            have T1 := (hB.2.2.2.1 t (by omega)).1
            rw [if_neg z] at T1
            rw [T1]
            exact m_noup (u := -1) (r := -1) (a := 0) hN hz hc hO ho h54 hA (Or.inl rfl) rfl hQ
      obtain ⟨r, ur, uq, uz, uc⟩ := up
      have e51 : ∀ s : f_S3, S_b K s M F → s.1 51 - 1 = nI t ∧ ¬ s.1 51 ≤ 0 := fun s hB => by
        refine ⟨by rw [hB.2.2.1]; exact e67m, fun z => ?_⟩
        rw [hB.2.2.1, Int32.le_iff_toInt_le, e_z0] at z; omega
      by_cases found : ∃ v : Nat, r = nI v ∧ (400 * K_B K ≤ v ∧ v < K_V K) ∧ K_w K v = (F 63 t).toNatClampNeg
      · -- an uphold
        obtain ⟨v, rfl, v2, v3⟩ := found
        have hbv := hc.1
        have vne : ¬ nI v = (-1 : Int32) := nI_ne (by omega)
        have z : F 64 t = 0 := by
          by_cases g : F 64 t = 0
          · exact g
          · exact absurd (uz g) vne
        have z2 : ¬ F 64 t = 2 := fun g => by rw [z] at g; exact absurd g (by decide)
        have cv : (nI v).toNatClampNeg = v := y_cl (by omega)
        obtain ⟨u1, u2, u3, u4, ⟨a, u5, u6, u7, u8⟩, -, -, u9⟩ := hc.2.2.2.1 v v2.1 v2.2
        have uF64 : ∀ i, u_F F t M v o 64 i = if i = t then 1 else F 64 i := fun i => by
          unfold u_F
          split
          · simp only [uf_at2, ct, true_and]
          · rw [e_uf_ne (by decide)]; simp only [uf_at2, ct, true_and]
        have uFr : ∀ i, i ≠ 64 → i ≠ 58 → u_F F t M v o i = F i := fun i h1 h2 => by
          unfold u_F
          split
          · exact e_uf_ne h1
          · rw [e_uf_ne h2]; exact e_uf_ne h1
        refine ⟨um M 70 (F 25 v), u_F F t M v o, 0, fun Q m hw => ?_, ⟨⟨⟨rfl, rfl, rfl, rfl, rfl, rfl⟩, uFr 59 (by decide) (by decide), uFr 61 (by decide) (by decide), uFr 63 (by decide) (by decide), fun i hi => uFr i (by omega) (by omega)⟩, Or.inr ⟨rfl, rfl, rfl, h69, f, t + 1, ⟨h62, h67, hf.1, Nat.le_refl _⟩, ⟨v_F_cg (lo := (e_b F (f - 1)).toNat) hv hf.1 mon (by omega) (uFr 59 (by decide) (by decide)) (uFr 61 (by decide) (by decide)) (uFr 63 (by decide) (by decide)) (fun i hi => by rw [uF64, if_neg (by omega)]), a, u5, u6, ?_⟩, ?_⟩⟩, fun O s h53 h54 hA hB Qc hq => ⟨1, fun g => absurd g (e51 s hB).2, fun _ => ?_⟩⟩
        · cases m with
          | zero => exact hw.elim
          | succ m =>
            have g := ((uq Q m z2 hw).1 z).2 vne
            rw [cv] at g
            unfold u_F
            by_cases w : F 24 v = -1
            · rw [if_pos w]; have := (g.2.2.1 w).2; rw [cv] at this; exact this
            · rw [if_neg w]; have := (((g.2.2.2 w).2 _ rfl).2).2; rw [cv] at this; exact this
        · have eb : e_b (u_F F t M v o) (f - 1) = e_b F (f - 1) := by unfold e_b; rw [uFr 61 (by decide) (by decide)]
          have tt : t_tl (u_F F t M v o) (e_b F (f - 1)).toNat (t + 1) = ((u_F F t M v o 63 t).toNatClampNeg, (u_F F t M v o 64 t).toNatClampNeg) :: t_tl (u_F F t M v o) (e_b F (f - 1)).toNat t := if_pos (by omega)
          rw [eb, tt, uFr 63 (by decide) (by decide), uF64, if_pos rfl, u8, v3, w1, t_tl_cg (F := F) (F' := u_F F t M v o) t (fun i _ hi => ⟨by rw [uFr 63 (by decide) (by decide)], by rw [uF64, if_neg (by omega)]⟩)]
          rfl
        · have p1 : t_ps (u_F F t M v o) (t + 1) = t_ps (u_F F t M v o) t + (36001 * (2 - (u_F F t M v o 64 t).toNatClampNeg) + 1) := rfl
          rw [p1, ps, t_ps_cg (F := F) t (fun i hi => by rw [uF64, if_neg (by omega)]), uF64, if_pos rfl, z]
          have c1 : (1 : Int32).toNatClampNeg = 1 := by decide
          have c0 : (0 : Int32).toNatClampNeg = 0 := by decide
          rw [c1, c0]; omega
        · rw [(e51 s hB).1]
          have ex : k_hx K (nI v) = nI (K_H K v) := by unfold k_hx; rw [if_neg vne, cv]
          refine uc O s h54 hA hB _ ⟨fun g => ?_, fun _ => ?_⟩
          · rw [ex] at g; exact absurd g (nI_ne (by omega))
          · rw [ex]
            exact m_doUphold hN hz hc v2 hA hB h53 h54 h67 ht z h62 hf hbt h69 (fun s' h' => hq s' (t_go0 ⟨rfl, fun g => absurd (h72.symm.trans g) (by decide), fun _ => ⟨a, ⟨u5, by have := hc.1; omega⟩, by rw [u7]; exact S_s_m h' (by decide)⟩⟩))
      · have rn : r = -1 := by
          rcases ur with g | ⟨-, g⟩
          · exact g
          · exact absurd g found
        subst rn
        have u170 : ∀ (Q : e_M → e_F → Prop) (m : Nat), ¬ F 64 t = 2 → w_raise_5 Q (m + 1) o M F → w_raise_170 (w_raise_5 Q m) Q o (nI t) M F := fun Q m z2 hw => by
          by_cases z : F 64 t = 0
          · exact ((uq Q m z2 hw).1 z).1 rfl
          · exact (uq Q m z2 hw).2 z
        have uc1 : ∀ (O : Nat × Nat) (s : f_S3), s.1 54 = o → S_a K s O M F → S_b K s M F → ∀ Q : Int32 → f_S3 → Nat × Nat → Prop, Q (-1) s O → wY_X8_tryField N (nI t) 1 s O (fun r1 M2 O2 => wY_X8_upholdFor N r1 M2 O2 Q) := fun O s h54 hA hB Q hQ => uc O s h54 hA hB Q hQ
        have hv1 : v_F K F f := hv
        by_cases z2 : F 64 t = 2
        · -- its lastly is over: both go on
          obtain ⟨M', F', j, r1, ⟨vo, vr⟩, r3⟩ := ih f t (um M 67 (M 67 - 1)) (by omega) h62 e67i h69 h72 hf (by omega) (e_FS_pt hFS) hbt hv w4 (e_OB_hc (e_hc_um (ks := [67]) (rs := []) (M 67 - 1) (by decide) (e_hc_rf _ _ M F)) (by decide) (by decide) hO) ho
          refine ⟨M', F', j, fun Q m hw => ?_, ⟨vo, vr.imp (fun ⟨a1, a2, a3⟩ => ⟨a1, a2, by rw [ps]; omega⟩) (fun ⟨a1, a2, a3, a4, f', ot', b1, b5, b6⟩ => ⟨a1, a2, a3, a4, f', ot', b1, b5, by rw [ps]; omega⟩)⟩, fun O s h53 h54 hA hB Qc hq => ?_⟩
          · cases m with
            | zero => exact hw.elim
            | succ m =>
              have z0 : ¬ F 64 t = 0 := fun g => by rw [z2] at g; exact absurd g (by decide)
              obtain ⟨-, g1, -⟩ := hw
              obtain ⟨-, g2, -⟩ := g1 n67
              rw [e67m, ct] at g2
              have g3 := ((r_gl ht (g2 z0)).1 z2).1 rfl
              exact r1 Q m g3
          · have hT2 := hB.2.2.2.1 t (by omega)
            obtain ⟨e, h⟩ := r3 O (fm s 51 (s.1 51 - 1)) h53 h54 (S_a_m (⟨S_D_cg hA.1 ⟨rfl, rfl⟩ rfl ⟨rfl, rfl⟩ ⟨rfl, rfl, rfl, rfl, rfl, rfl⟩, S_M_cg hA.2.1 ⟨rfl, rfl, rfl, rfl, rfl, rfl, rfl⟩ rfl ⟨rfl, rfl, rfl, rfl, rfl, rfl⟩ rfl, S_C_cg hA.2.2 rfl ⟨rfl, rfl, rfl⟩ ⟨rfl, rfl⟩⟩ : S_a K (fm s 51 (s.1 51 - 1)) O M F) ⟨rfl, rfl, rfl⟩ ⟨rfl, rfl, rfl, rfl, rfl⟩) ⟨S_N_cg hB.1 ⟨rfl, rfl⟩ rfl ⟨rfl, rfl⟩, S_R_cg hB.2.1 rfl rfl ⟨rfl, rfl, rfl, rfl⟩, S_T_67 h67 hB.2.2 rfl rfl⟩ Qc hq
            refine ⟨e + 1, fun g => absurd g (e51 s hB).2, fun _ => ?_⟩
            rw [(e51 s hB).1]
            refine uc1 O s h54 hA hB _ ⟨fun _ => ?_, fun g => absurd rfl g⟩
            rw [(e51 s hB).1]
            refine m_tf hN (c := 2) ht (by decide) ⟨fun _ => h, fun g => absurd ?_ g⟩
            rw [hT2.2.1, if_pos z2]
        · have dl : ∀ (O : Nat × Nat) (s : f_S3), s.1 53 = 0 → s.1 54 = o → S_a K s O M F → S_b K s M F → ∀ Qc : f_S3 → Nat × Nat → Prop, (∀ s', S_s K (K_L K (F 63 t).toNatClampNeg) 0 0 s' O M (g_F F t 1 o) → Qc s' O) → ∃ e, wY_X8_goOut_0 N Qc e s O := by
            intro O s h53 h54 hA hB Qc hq
            have hT2 := (hB.2.2.2.1 t (by omega)).2.1
            rw [if_neg z2] at hT2
            have hbz := hc.1
            refine ⟨1, fun g => absurd g (e51 s hB).2, fun _ => ?_⟩
            rw [(e51 s hB).1]
            refine uc1 O s h54 hA hB _ ⟨fun _ => ?_, fun g => absurd rfl g⟩
            rw [(e51 s hB).1]
            refine m_tf hN (c := 2) ht (by decide) ⟨fun g => ?_, fun _ => ?_⟩
            · rw [hT2] at g; exact absurd g (nI_ne (by omega))
            · rw [h54]
              exact m_doLastly hN hA hB h53 h54 h67 ht z2 h62 hf hbt h69 (fun s' h' => hq _ (S_s_ra h'))
          by_cases z3 : F 21 (F 63 t).toNatClampNeg = -1
          · -- no lastly is told: the class has an empty one
            obtain ⟨kc, -⟩ := k1 z3
            obtain ⟨M', F', j, r1, ⟨vo, vr⟩, r3⟩ := ih f t (um M 67 (M 67 - 1)) (by omega) h62 e67i h69 h72 hf (by omega) (e_FS_pt hFS) hbt hv w4 (e_OB_hc (e_hc_um (ks := [67]) (rs := []) (M 67 - 1) (by decide) (e_hc_rf _ _ M F)) (by decide) (by decide) hO) ho
            refine ⟨M', F', j + 1, fun Q m hw => ?_, ⟨vo, vr.imp (fun ⟨a1, a2, a3⟩ => ⟨a1, a2, by rw [ps]; omega⟩) (fun ⟨a1, a2, a3, a4, f', ot', b1, b5, b6⟩ => ⟨a1, a2, a3, a4, f', ot', b1, b5, by rw [ps]; omega⟩)⟩, fun O s h53 h54 hA hB Qc hq => dl O s h53 h54 hA hB Qc (fun s' h' => hq s' (t_goD h'.1.2.1 (fun Qd hd => ?_)))⟩
            · cases m with
              | zero => exact hw.elim
              | succ m => exact r1 Q m (((r_gl ht (u170 Q m z2 hw)).2.1 z2 z3).1 rfl)
            · obtain ⟨g1, g2, g3⟩ := g_F_at (F := F) ht (q := 1) (v := o) t
              rw [if_pos rfl] at g1 g2 g3
              refine d_course hN hz h' k4 kc (by decide) (fun s1 h1 => ?_)
              refine ⟨fun g => absurd g (by decide), fun g => absurd g (by decide), fun g => absurd g (by decide), fun g => absurd g (by decide), fun g => absurd g (by decide), fun g => absurd g (by decide), fun _ => m_resume hN h1 h67 ht g1 (fun _ s2 h2 => ?_) (fun g => ?_) (fun g => absurd g2 g), fun _ _ _ _ _ _ g => absurd rfl g⟩
              · rw [g3] at h2
                have h3 := S_s_un (M := um M 67 (M 67 - 1)) ht (show (M 67 - 1).toInt ≤ t from by omega) h2
                refine t_84r (by rw [h3.1.2.2]; exact onz) ?_
                exact r3 O s2 h3.1.2.1 h3.1.2.2 h3.2.1 h3.2.2.1 Qd (fun s4 h4 => hd s4 O h4)
              · rw [g2] at g; exact absurd g (by decide)
          · obtain ⟨l, l1, l2, l3, l4⟩ := k2 z3
            have p2 : (F 64 t).toNatClampNeg ≤ 1 := by
              have := (t_nph (ph := 0) x3).2
              have : ¬ (F 64 t).toNatClampNeg = 2 := fun g => z2 (this.mpr g)
              omega
            refine ⟨um M 70 (F 21 (F 63 t).toNatClampNeg), g_F F t 1 o, 0, fun Q m hw => ?_, ⟨⟨⟨rfl, rfl, rfl, rfl, rfl, rfl⟩, rfl, rfl, rfl, fun i hi => g_F_ne (by omega)⟩, Or.inr ⟨rfl, rfl, rfl, h69, f, t + 1, ⟨h62, h67, hf.1, Nat.le_refl _⟩, ⟨v_F_cg (lo := (e_b F (f - 1)).toNat) hv hf.1 mon (by omega) rfl rfl rfl (fun i hi => by rw [(g_F_at ht i).1, if_neg (by omega)]), l, l1, l2, ?_⟩, ?_⟩⟩, fun O s h53 h54 hA hB Qc hq => dl O s h53 h54 hA hB Qc (fun s' h' => hq s' (t_go0 ⟨rfl, fun g => absurd (h72.symm.trans g) (by decide), fun _ => ⟨l, ⟨l1, by have := hc.1; omega⟩, by rw [l3]; exact S_s_m h' (by decide)⟩⟩))⟩
            · cases m with
              | zero => exact hw.elim
              | succ m => exact ((r_gl ht (u170 Q m z2 hw)).2.2 z2 z3).2 (by decide)
            · have tt : t_tl (g_F F t 1 o) (e_b F (f - 1)).toNat (t + 1) = ((g_F F t 1 o 63 t).toNatClampNeg, (g_F F t 1 o 64 t).toNatClampNeg) :: t_tl (g_F F t 1 o) (e_b F (f - 1)).toNat t := if_pos (by omega)
              show t_tl (g_F F t 1 o) (e_b F (f - 1)).toNat (t + 1) = K_x K l
              rw [tt, g_F_ne (r := 63) (by decide), (g_F_at ht t).1, if_pos rfl, l4, w1, t_tl_cg (F := F) (F' := g_F F t 1 o) t (fun i _ hi => ⟨by rw [g_F_ne (r := 63) (by decide)], by rw [(g_F_at ht i).1, if_neg (by omega)]⟩)]
              rfl
            · have p1 : t_ps (g_F F t 1 o) (t + 1) = t_ps (g_F F t 1 o) t + (36001 * (2 - (g_F F t 1 o 64 t).toNatClampNeg) + 1) := rfl
              rw [p1, ps, t_ps_cg (F := F) t (fun i hi => by rw [(g_F_at ht i).1, if_neg (by omega)]), (g_F_at ht t).1, if_pos rfl]
              have c2 : (2 : Int32).toNatClampNeg = 2 := by decide
              rw [c2]; omega
end TQ8
