section TQA
variable {K : k_K} {N : Nat → Nat} {s s' : f_S3} {O : Nat × Nat} {M M' : e_M} {F F' : e_F} {p : Nat} {st ra : Int32}
theorem m_rest0 (hN : tN N) (hz : K_z K ≤ N 20) {G : e_G} {B E T : Int} {v : Int32} (hc : k_cor K F) : ∀ (n f ot : Nat) (M : e_M), ot < n → (M 62).toInt = f → (M 67).toInt = ot → M 69 = 0 → M 72 = 0 → (1 ≤ f ∧ f ≤ 12) → ot ≤ 240 → e_FS G B E T F f ot → e_b F (f - 1) ≤ ot → v_F K F f → k_wf K (t_tl F (e_b F (f - 1)).toNat ot) →
    ∃ (M' : e_M) (F' : e_F) (j : Nat), (∀ (Q : e_M → e_F → Prop) (m : Nat), w_rest_0 Q m v M F → Q M' F') ∧ v_R2 K M F f ot v M' F' j ∧ ∀ (O : Nat × Nat) (s : f_S3) (p : Nat), S_s K p 0 0 s O M F → ∀ Qc : f_S3 → Nat × Nat → Prop, (∀ s', s'.1 54 = 0 → t_go N j s' O (fun s2 O2 => O2 = O ∧ v_S2 K v M' F' s2 O) → Qc s' O) → ∃ e, wY_X8_rest_0 N Qc e v s O := by
  intro n
  induction n with
  | zero => intro f ot M h; exact absurd h (by omega)
  | succ n ih =>
    intro f ot M hn h62 h67 h69 h72 hf h240 hFS hb hv hwf
    obtain ⟨e62, e62m, e62i, e62c⟩ := t_62 hf h62
    have b0 : 0 ≤ e_b F (f - 1) := (hFS.1.1 (f - 1) (by omega)).1
    have bz : e_b F 0 = 0 := by have := hFS.1.1 0 (by omega); omega
    have l17 := tN_17 hN
    by_cases q : e_b F (f - 1) = ot
    · have q67 : M 67 ≤ F 61 (M 62 - 1).toNatClampNeg := by
        rw [Int32.le_iff_toInt_le, e62c, h67]
        have : (F 61 (f - 1)).toInt = ot := q
        omega
      -- the class leaves the tries of other hearings alone
      have cl : ∀ (O : Nat × Nat) (s : f_S3) (p : Nat), S_s K p 0 0 s O M F → ∀ Qc : f_S3 → Nat × Nat → Prop, wY_X8_rest_60 N Qc v s O → wY_X8_rest_0 N Qc 1 v s O := by
        intro O s p h Qc hq
        have hT := h.2.2.1.2.2
        refine ⟨fun _ => hq, fun g => ?_⟩
        have t0 : 1 ≤ ot := by
          have : ¬ (ot : Int) ≤ 0 := fun z => g (by rw [hT.1, Int32.le_iff_toInt_le, h67, e_z0]; exact z)
          omega
        obtain ⟨t, rfl⟩ : ∃ t, ot = t + 1 := ⟨ot - 1, by omega⟩
        obtain ⟨e67, e67m, e67i⟩ := t_67 (t := t) (by omega) h67
        have e51 : s.1 51 - 1 = nI t := by rw [hT.1]; exact e67m
        rw [e51]
        obtain ⟨i, i1, i2, i3⟩ := fr_ex (F := F) (t := (t : Int)) (f - 1) (by omega) (by omega)
        have hd := hT.2.2 i t (by omega) i2 (fun _ => i3) (by omega)
        refine m_tf hN (c := 0) (by omega) (by decide) ⟨fun _ => hq, fun g2 => ?_⟩
        exfalso
        rw [Nat.add_zero, hd, h.2.2.2.1, e62] at g2
        have := (nI_eq (by omega) (by omega)).mp g2
        omega
      by_cases q1 : f = 1
      · subst q1
        refine ⟨um (um (um M 62 (M 62 - 1)) 74 v) 72 1, F, 0, fun Q m hw => ?_, ⟨⟨⟨rfl, rfl, rfl, rfl, rfl, rfl⟩, rfl, rfl, rfl, fun _ _ => rfl⟩, Or.inl ⟨rfl, rfl, rfl, Nat.zero_le _⟩⟩, fun O s p h Qc hq => ⟨1, cl O s p h Qc ⟨fun _ => ?_, fun g => ?_⟩⟩⟩
        · cases m with
          | zero => exact hw.elim
          | succ m => exact (hw.2.1 q67).2 (by rw [e62m]; rfl)
        · refine hq _ h.1.2.2 (t_go0 ⟨rfl, fun _ => ⟨rfl, rfl, S_a_m (M := M) ?_ ⟨rfl, rfl, rfl⟩ ⟨rfl, rfl, rfl, rfl, rfl⟩⟩, fun z => absurd rfl z⟩)
          have hA := h.2.1
          exact ⟨S_D_cg hA.1 ⟨rfl, rfl⟩ rfl ⟨rfl, rfl⟩ ⟨rfl, rfl, rfl, rfl, rfl, rfl⟩, S_M_cg hA.2.1 ⟨rfl, rfl, rfl, rfl, rfl, rfl, rfl⟩ rfl ⟨rfl, rfl, rfl, rfl, rfl, rfl⟩ rfl, S_C_cg hA.2.2 rfl ⟨rfl, rfl, rfl⟩ ⟨rfl, rfl⟩⟩
        · exfalso
          apply g
          rw [h.2.2.2.1, e62m]; decide
      · have f2 : 2 ≤ f := by omega
        obtain ⟨kk, k1, k2, k3⟩ := hv (f - 1 - 1) (by omega)
        have ef : f - 1 - 1 + 1 = f - 1 := by omega
        rw [ef, q, Int.toNat_natCast] at k3
        rw [ef] at k1
        have m62 : (M 62 - 1 - 1) = nI (f - 1 - 1) := by rw [e62m, show (1 : Int32) = nI 1 from rfl, y_sub (by omega) (by omega)]
        have hF60 := (hFS.2.1 (f - 1) (by omega) (by omega)).2.2.2
        have ne0 : ¬ M 62 - 1 = 0 := fun z => by
          rw [e62m] at z
          have := (nI_eq (b := 0) (by omega) (by omega)).mp z
          omega
        have Fr : ∀ r, r ≠ 57 → (if F 60 (f - 1) = -1 then F else uf F 57 (12 * (M 62 - 1 - 1) + F 60 (f - 1)) v) r = F r := fun r hr => by
          split
          · rfl
          · exact e_uf_ne hr
        have eb : ∀ i, e_b (if F 60 (f - 1) = -1 then F else uf F 57 (12 * (M 62 - 1 - 1) + F 60 (f - 1)) v) i = e_b F i := fun i => by unfold e_b; rw [Fr 61 (by decide)]
        refine ⟨um (um M 62 (M 62 - 1)) 70 (F 59 (f - 1)), if F 60 (f - 1) = -1 then F else uf F 57 (12 * (M 62 - 1 - 1) + F 60 (f - 1)) v, 1, fun Q m hw => ?_, ⟨⟨⟨rfl, rfl, rfl, rfl, rfl, rfl⟩, Fr 59 (by decide), Fr 61 (by decide), Fr 63 (by decide), fun r hr => Fr r (by omega)⟩, Or.inr ⟨rfl, rfl, rfl, h69, Or.inr ⟨ot, ⟨(show (M 62 - 1).toInt = (f : Int) - 1 from e62i), f2, h67⟩, ⟨fun i hi => ?_, kk, k1, k2, ?_⟩, ?_, rfl⟩⟩⟩, fun O s p h Qc hq => ⟨1, cl O s p h Qc ⟨fun g => ?_, fun _ => ⟨fun _ => ?_, fun g => ?_⟩⟩⟩⟩
        · cases m with
          | zero => exact hw.elim
          | succ m =>
            obtain ⟨-, -, g1, g2⟩ := (hw.2.1 q67).1 ne0
            rw [e62c] at g1 g2
            by_cases z : F 60 (f - 1) = -1
            · rw [if_pos z]; exact g1 z
            · rw [if_neg z]; exact ((g2 z).2 _ rfl).2
        · obtain ⟨a, a1, a2, a3⟩ := hv i (by omega)
          refine ⟨a, by rw [Fr 59 (by decide)]; exact a1, a2, ?_⟩
          rw [eb, eb, ← a3]
          exact t_tl_cg _ (fun j _ _ => ⟨by rw [Fr 63 (by decide)], by rw [Fr 64 (by decide)]⟩)
        · rw [eb, ← k3]
          exact t_tl_cg _ (fun j _ _ => ⟨by rw [Fr 63 (by decide)], by rw [Fr 64 (by decide)]⟩)
        · rw [t_ps_cg (F := F) ot (fun j _ => by rw [Fr 64 (by decide)])]
          exact Nat.le_refl _
        · exfalso
          rw [h.2.2.2.1, Int32.le_iff_toInt_le, e62i, e_z0] at g; omega
        · have hR := h.2.2.1.2.1
          obtain ⟨k, c1, c2, c3, c4, c5⟩ := hR (f - 1) (by omega) (by omega)
          obtain ⟨⟨a1, a2, a3⟩, hA, hB, hd, hV⟩ := h
          rw [hd, e62m, l17]
          refine ⟨y_in (by omega) (by omega), ?_⟩
          rw [y_cl (by omega), c5]
          have hB2 : S_b K s (um (um M 62 (M 62 - 1)) 70 (F 59 (f - 1))) F := S_b_f (f := f - 1) (by omega) h67 q rfl rfl hB
          have hS : S_s K (K_A K k + 3) 0 0 (fm (fm (fm s 50 (nI (f - 1))) 52 0) 49 (nI (K_A K k + 3))) O (um (um M 62 (M 62 - 1)) 70 (F 59 (f - 1))) F := by
            refine ⟨⟨rfl, a2, a3⟩, ⟨S_D_cg hA.1 ⟨rfl, rfl⟩ rfl ⟨rfl, rfl⟩ ⟨rfl, rfl, rfl, rfl, rfl, rfl⟩, S_M_cg hA.2.1 ⟨rfl, rfl, rfl, rfl, rfl, rfl, rfl⟩ rfl ⟨rfl, rfl, rfl, rfl, rfl, rfl⟩ rfl, S_C_cg hA.2.2 rfl ⟨rfl, rfl, rfl⟩ ⟨rfl, rfl⟩⟩, ⟨S_N_cg hB2.1 ⟨rfl, rfl⟩ rfl ⟨rfl, rfl⟩, S_R_cg hB2.2.1 rfl rfl ⟨rfl, rfl, rfl, rfl⟩, S_T_cg hB2.2.2 rfl rfl ⟨rfl, rfl⟩ ⟨rfl, rfl, rfl, rfl, rfl, rfl⟩⟩, ?_, ?_, fun j hj => ?_⟩
            · show nI (f - 1) = M 62 - 1
              exact e62m.symm
            · show (0 : Int32) = M 69
              exact h69.symm
            · have hj : (j : Int) < (M 69).toInt := hj
              rw [h69, e_z0] at hj; omega
          refine m_push hN hS (show 0 ≤ (M 69).toInt ∧ (M 69).toInt < 64 by rw [h69]; decide) (fun s' h' => ?_)
          have h' : S_s K (K_A K k + 3) 0 0 s' O (um (um (um M 62 (M 62 - 1)) 70 (F 59 (f - 1))) 69 (M 69 + 1)) (uf F 68 (M 69) v) := h'
          rw [h69, show (0 : Int32) + 1 = 1 by decide] at h'
          refine hq s' h'.1.2.2 (t_go_mo (m_back hN hz hc (M := um (um M 62 (M 62 - 1)) 70 (F 59 (f - 1))) (f := f - 1) (by omega) (show (M 62 - 1).toInt = ((f - 1 : Nat) : Int) by omega) h69 c1 c3 (fun z => ?_) h') (fun s2 O2 g => ⟨g.1, fun z => absurd (h72.symm.trans z) (by decide), fun _ => ⟨k + 1, ⟨c2, by have := hc.1; omega⟩, ?_⟩⟩))
          · rw [← c4] at z ⊢
            have := ti_ne z
            rw [show (-1 : Int32).toInt = -1 by decide] at this
            omega
          · have g2 := g.2
            rw [← c4] at g2
            exact g2
        · exfalso
          apply g
          rw [h.2.2.2.1, e62m, l17, y_lt (by omega) (by omega)]; omega
    · obtain ⟨t, rfl⟩ : ∃ t, ot = t + 1 := ⟨ot - 1, by omega⟩
      have hbt : e_b F (f - 1) ≤ t := by omega
      have ht : t < 240 := by omega
      obtain ⟨e67, e67m, e67i⟩ := t_67 ht h67
      obtain ⟨x1, x2, x3⟩ := hFS.2.2 (f - 1) t (by omega) hbt (fun z => by omega) (by omega)
      have ct : (nI t).toNatClampNeg = t := y_cl (by omega)
      have n67 : ¬ M 67 ≤ F 61 (M 62 - 1).toNatClampNeg := fun z => by
        rw [Int32.le_iff_toInt_le, e62c, h67] at z
        have : (F 61 (f - 1)).toInt = e_b F (f - 1) := rfl
        omega
      rw [t_tl_top (lo := (e_b F (f - 1)).toNat) (by omega) rfl] at hwf
      obtain ⟨w1, w2, w3, w4⟩ := hwf
      obtain ⟨k1, k2, k3, k4⟩ := hc.2.2.1 _ w2.1 w2.2
      have mon : ∀ i, i < f → e_b F i ≤ e_b F (f - 1) := fun i hi => hFS.1.2 i (f - 1) (by omega) (by omega)
      have ps : t_ps F (t + 1) = t_ps F t + (36001 * (2 - (F 64 t).toNatClampNeg) + 1) := rfl
      have gl : ∀ (Q : e_M → e_F → Prop) (m : Nat), w_rest_0 Q (m + 1) v M F → w_goesLastly (nI t) 2 v M F (fun r7 M8 F8 => ((r7 = 0 → w_rest_0 Q m v (um M8 67 (M8 67 - 1)) F8) ∧ (¬ r7 = 0 → Q M8 F8))) := fun Q m hw => by
        have := hw.2.2 n67
        rw [e67m] at this
        exact this
      -- the class looks at the same try
      have cl : ∀ (O : Nat × Nat) (s : f_S3) (p : Nat), S_s K p 0 0 s O M F → ∀ (e : Nat) (Qc : f_S3 → Nat × Nat → Prop), (F 64 t = 2 → wY_X8_rest_0 N Qc e v (fm s 51 (s.1 51 - 1)) O) → (¬ F 64 t = 2 → wY_X8_doLastly N 2 v s O (fun s2 O2 => Qc s2 O2)) → wY_X8_rest_0 N Qc (e + 1) v s O := by
        intro O s p h e Qc q1 q2
        have hT := h.2.2.1.2.2
        have e51 : s.1 51 - 1 = nI t := by rw [hT.1]; exact e67m
        have hd := hT.2.2 (f - 1) t (by omega) hbt (fun z => by omega) (by omega)
        have hL := (hT.2.1 t (by omega)).2.1
        have hbz := hc.1
        refine ⟨fun g => ?_, fun _ => ?_⟩
        · exfalso
          rw [hT.1, Int32.le_iff_toInt_le, h67, e_z0] at g; omega
        · rw [e51]
          refine m_tf hN (c := 0) ht (by decide) ⟨fun g => ?_, fun _ => ?_⟩
          · exfalso
            apply g
            rw [Nat.add_zero, hd, h.2.2.2.1, e62]
            congr 1; omega
          · rw [e51]
            refine m_tf hN (c := 2) ht (by decide) ⟨fun g => ?_, fun g => ?_⟩
            · by_cases z : F 64 t = 2
              · exact q1 z
              · exfalso
                rw [hL, if_neg z] at g
                exact nI_ne (by omega) g
            · by_cases z : F 64 t = 2
              · exfalso
                rw [hL, if_pos z] at g
                exact g rfl
              · exact q2 z
      by_cases z2 : F 64 t = 2
      · obtain ⟨M', F', j, r1, ⟨vo, vr⟩, r3⟩ := ih f t (um M 67 (M 67 - 1)) (by omega) h62 e67i h69 h72 hf (by omega) (e_FS_pt hFS) hbt hv w4
        refine ⟨M', F', j, fun Q m hw => ?_, ⟨vo, vr.imp (fun ⟨a1, a2, a3, a4⟩ => ⟨a1, a2, a3, by rw [ps]; omega⟩) (fun ⟨a1, a2, a3, a4, a5⟩ => ⟨a1, a2, a3, a4, a5.imp (fun ⟨f', ot', b1, b5, b6⟩ => ⟨f', ot', b1, b5, by rw [ps]; omega⟩) (fun ⟨ot', b1, b5, b6, b7⟩ => ⟨ot', b1, b5, by rw [ps]; omega, b7⟩)⟩)⟩, fun O s p h Qc hq => ?_⟩
        · cases m with
          | zero => exact hw.elim
          | succ m => exact r1 Q m (((r_gl ht (gl Q m hw)).1 z2).1 rfl)
        · obtain ⟨e, he⟩ := r3 O (fm s 51 (s.1 51 - 1)) p (S_s_67 h67 h) Qc hq
          exact ⟨e + 1, cl O s p h e Qc (fun _ => he) (fun g => absurd z2 g)⟩
      · by_cases z3 : F 21 (F 63 t).toNatClampNeg = -1
        · obtain ⟨kc, -⟩ := k1 z3
          obtain ⟨M', F', j, r1, ⟨vo, vr⟩, r3⟩ := ih f t (um M 67 (M 67 - 1)) (by omega) h62 e67i h69 h72 hf (by omega) (e_FS_pt hFS) hbt hv w4
          refine ⟨M', F', j + 1, fun Q m hw => ?_, ⟨vo, vr.imp (fun ⟨a1, a2, a3, a4⟩ => ⟨a1, a2, a3, by rw [ps]; omega⟩) (fun ⟨a1, a2, a3, a4, a5⟩ => ⟨a1, a2, a3, a4, a5.imp (fun ⟨f', ot', b1, b5, b6⟩ => ⟨f', ot', b1, b5, by rw [ps]; omega⟩) (fun ⟨ot', b1, b5, b6, b7⟩ => ⟨ot', b1, b5, by rw [ps]; omega, b7⟩)⟩)⟩, fun O s p h Qc hq => ⟨1, cl O s p h 0 Qc (fun g => absurd g z2) (fun _ => m_doLastly hN h.2.1 h.2.2.1 h.1.2.1 h.1.2.2 h67 ht z2 h62 hf hbt h69 (fun s' h' => hq s' h'.1.2.2 (t_goD h'.1.2.1 (fun Qd hd => ?_))))⟩⟩
          · cases m with
            | zero => exact hw.elim
            | succ m => exact r1 Q m (((r_gl ht (gl Q m hw)).2.1 z2 z3).1 rfl)
          · obtain ⟨g1, g2, g3⟩ := g_F_at (F := F) ht (q := 2) (v := v) t
            rw [if_pos rfl] at g1 g2 g3
            refine d_course hN hz h' k4 kc (by decide) (fun s1 h1 => ?_)
            refine ⟨fun g => absurd g (by decide), fun g => absurd g (by decide), fun g => absurd g (by decide), fun g => absurd g (by decide), fun g => absurd g (by decide), fun g => absurd g (by decide), fun _ => m_resume hN h1 h67 ht g1 (fun g => ?_) (fun _ s2 h2 => ?_) (fun _ g => absurd g2 g), fun _ _ _ _ _ _ g => absurd rfl g⟩
            · rw [g2] at g; exact absurd g (by decide)
            · rw [g3]
              have h3 := S_s_un (M := um M 67 (M 67 - 1)) ht (show (M 67 - 1).toInt ≤ t from by omega) h2
              exact r3 O s2 _ h3 (fun s4 O4 => t_84 N Qd s4 O4) (fun s4 h4 h5 => ⟨fun _ => hd s4 O h5, fun g => absurd h4 g⟩)
        · obtain ⟨l, l1, l2, l3, l4⟩ := k2 z3
          have p2 : (F 64 t).toNatClampNeg ≤ 1 := by
            have := (t_nph (ph := 0) x3).2
            have : ¬ (F 64 t).toNatClampNeg = 2 := fun g => z2 (this.mpr g)
            omega
          refine ⟨um M 70 (F 21 (F 63 t).toNatClampNeg), g_F F t 2 v, 0, fun Q m hw => ?_, ⟨⟨⟨rfl, rfl, rfl, rfl, rfl, rfl⟩, rfl, rfl, rfl, fun i hi => g_F_ne (by omega)⟩, Or.inr ⟨rfl, rfl, rfl, h69, Or.inl ⟨f, t + 1, ⟨h62, h67, hf.1, Nat.le_refl _⟩, ⟨v_F_cg (lo := (e_b F (f - 1)).toNat) hv hf.1 mon (by omega) rfl rfl rfl (fun i hi => by rw [(g_F_at ht i).1, if_neg (by omega)]), l, l1, l2, ?_⟩, ?_⟩⟩⟩, fun O s p h Qc hq => ⟨1, cl O s p h 0 Qc (fun g => absurd g z2) (fun _ => m_doLastly hN h.2.1 h.2.2.1 h.1.2.1 h.1.2.2 h67 ht z2 h62 hf hbt h69 (fun s' h' => hq s' h'.1.2.2 (t_go0 ⟨rfl, fun g => absurd (h72.symm.trans g) (by decide), fun _ => ⟨l, ⟨l1, by have := hc.1; omega⟩, by rw [l3]; exact S_s_m h' (by decide)⟩⟩)))⟩⟩
          · cases m with
            | zero => exact hw.elim
            | succ m => exact ((r_gl ht (gl Q m hw)).2.2 z2 z3).2 (by decide)
          · have tt : t_tl (g_F F t 2 v) (e_b F (f - 1)).toNat (t + 1) = ((g_F F t 2 v 63 t).toNatClampNeg, (g_F F t 2 v 64 t).toNatClampNeg) :: t_tl (g_F F t 2 v) (e_b F (f - 1)).toNat t := if_pos (by omega)
            show t_tl (g_F F t 2 v) (e_b F (f - 1)).toNat (t + 1) = K_x K l
            rw [tt, g_F_ne (r := 63) (by decide), (g_F_at ht t).1, if_pos rfl, l4, w1, t_tl_cg (F := F) (F' := g_F F t 2 v) t (fun i _ hi => ⟨by rw [g_F_ne (r := 63) (by decide)], by rw [(g_F_at ht i).1, if_neg (by omega)]⟩)]
            rfl
          · have p1 : t_ps (g_F F t 2 v) (t + 1) = t_ps (g_F F t 2 v) t + (36001 * (2 - (g_F F t 2 v 64 t).toNatClampNeg) + 1) := rfl
            rw [p1, ps, t_ps_cg (F := F) t (fun i hi => by rw [(g_F_at ht i).1, if_neg (by omega)]), (g_F_at ht t).1, if_pos rfl]
            have c2 : (2 : Int32).toNatClampNeg = 2 := by decide
            rw [c2]; omega
end TQA
