/-! EVERY ACT; THE HEARING HELD, in both. -/
section TQJ
variable {K : k_K} {N : Nat → Nat} {s s' : f_S3} {O : Nat × Nat} {M M' M1 : e_M} {F F' F1 : e_F} {p : Nat} {st ra : Int32} {G : e_G} {B Nn E T V : Int} {f ot k j : Nat}
theorem o_act (hN : tN N) (hz : K_z K ≤ N 20) (X : C_X K G B Nn E T V M F f ot k) : O_A N K M F f ot k := by
  obtain ⟨-, e2, -, -, -⟩ := C_X_k X
  obtain ⟨n, h1, -, h3⟩ := (e_CX_op X.1).1
  rw [e2] at h1
  have hn : n ≤ 24 ∧ n ≠ 5 := by
    rcases h3 with q | q | q | q | q | q | q | q | q
    · have := q.1; omega
    · have := q.1; omega
    · have := q.1; omega
    · have := q.1; omega
    · have := q.1; omega
    · have := q.1; omega
    · have := q.1; omega
    · have := q.1; omega
    · have := q.1; omega
  have hx : F 13 k = nI n := Int32.toInt_inj.mp (by rw [fs_nI (by omega)]; exact h1)
  have c : n = 0 ∨ n = 1 ∨ n = 2 ∨ n = 3 ∨ n = 4 ∨ n = 6 ∨ n = 7 ∨ n = 8 ∨ n = 9 ∨ n = 10 ∨ n = 11 ∨ n = 12 ∨ n = 13 ∨ n = 14 ∨ n = 15 ∨ n = 16 ∨ n = 17 ∨ n = 18 ∨ n = 19 ∨ n = 20 ∨ n = 21 ∨ n = 22 ∨ n = 23 ∨ n = 24 := by omega
  rcases c with rfl | rfl | rfl | rfl | rfl | rfl | rfl | rfl | rfl | rfl | rfl | rfl | rfl | rfl | rfl | rfl | rfl | rfl | rfl | rfl | rfl | rfl | rfl | rfl
  · exact o_step hN hz X hx
  · exact o_push hN hz X hx
  · exact o_load hN hz X hx
  · exact o_store hN hz X hx
  · exact o_neg hN hz X hx
  · exact o_count hN hz X hx
  · exact o_ask hN hz X hx
  · exact o_is hN hz X hx
  · exact o_same hN hz X hx
  · exact o_copy hN hz X hx
  · exact o_clear hN hz X hx
  · exact o_cause hN hz X hx
  · exact o_make hN hz X hx
  · exact o_raise hN hz X hx
  · exact o_join hN hz X hx
  · exact o_note hN hz X hx
  · exact o_tell hN hz X hx
  · exact o_hear hN hz X hx
  · exact o_rest hN hz X hx
  · exact o_jump hN hz X hx
  · exact o_unless hN hz X hx
  · exact o_try hN hz X hx
  · exact o_done hN hz X hx
  · exact o_lastly hN hz X hx
theorem t_go_tr {P P' : f_S3 → Nat × Nat → Prop} {i j : Nat} (h : t_go N i s O P) (h2 : ∀ s' O', P s' O' → t_go N j s' O' P') : t_go N (i + j) s O P' := fun Q n x hx hP => by
  have e : n + (i + j) = (n + j) + i := by omega
  rw [e]
  exact h Q (n + j) x (by omega) (fun s' O' g => h2 s' O' g Q n (x + i) (by omega) (fun s2 O2 g2 => by rw [show x + i + j = x + (i + j) by omega]; exact hP s2 O2 g2))
theorem h_loop (hN : tN N) (hz : K_z K ≤ N 20) : ∀ (c : Nat) (M : e_M) (F : e_F) (f ot k : Nat), e_mu G E M F f ot < c → C_X K G B Nn E T V M F f ot k → ∃ (M' : e_M) (F' : e_F) (j : Nat), (∀ (Q : e_M → e_F → Prop) (n : Nat), w_holds_63 Q n M F → Q M' F') ∧ (e_XR M F M' F' ∧ e_TS M' F') ∧ (M' 71 = 1 ∨ (M' 71 = 0 ∧ M' 72 = 1)) ∧ j ≤ t_Ph K M F f ot k + 1 ∧ ∀ (O : Nat × Nat) (s : f_S3), S_s K (K_A K k) 0 0 s O M F → t_go N j s O (A_S K M' F') := by
  intro c
  induction c with
  | zero => intro M F f ot k h; exact absurd h (by omega)
  | succ c ih =>
    intro M F f ot k hc X
    obtain ⟨M1, F1, j1, r1, r2, r3⟩ := o_act hN hz X
    have hqa : e_QA G B E T M F f ot M1 F1 := r1 (fun M2 F2 => e_QA G B E T M F f ot M2 F2) (p_act X.1 (fun _ _ h => h))
    have st : ∀ (Q : e_M → e_F → Prop) (n : Nat), w_holds_63 Q n M F → ∃ m, w_holds_63 Q m M1 F1 := fun Q n h => by
      cases n with
      | zero => exact h.elim
      | succ n => exact ⟨n, r1 (fun M4 F4 => w_holds_63 Q n M4 F4) ((h.2 X.2.2.2.2.2.2.1).2 X.2.2.2.2.2.1)⟩
    rcases r2 with ⟨a1, a2⟩ | ⟨a1, a2, a3⟩ | ⟨a1, a2, a3, f', ot', k', ⟨b1, b2⟩, b3, b4, b5, b6⟩
    · refine ⟨M1, F1, j1, fun Q n h => ?_, ⟨hqa.1, hqa.2.1⟩, Or.inl a1, a2, r3⟩
      obtain ⟨m, h⟩ := st Q n h
      cases m with
      | zero => exact h.elim
      | succ m =>
        by_cases q : M1 72 = 0
        · exact (h.2 q).1 (by rw [a1]; decide)
        · exact h.1 q
    · refine ⟨M1, F1, j1, fun Q n h => ?_, ⟨hqa.1, hqa.2.1⟩, Or.inr ⟨a1, a2⟩, a3, r3⟩
      obtain ⟨m, h⟩ := st Q n h
      cases m with
      | zero => exact h.elim
      | succ m => exact h.1 (by rw [a2]; decide)
    · obtain ⟨f2, ot2, q1, q2⟩ := hqa.2.2 a2 a1
      have ef : f' = f2 := by have := q1.1.1; omega
      have eo : ot' = ot2 := by have := q1.1.2.1; omega
      subst ef
      subst eo
      have X' : C_X K G B Nn E T V M1 F1 f' ot' k' := ⟨⟨e_SC_xr hqa.1 X.1.1, q1, hqa.2.1⟩, k_cor_cg X.2.1 hqa.1.2, b3, b4, b5, a1, a2, a3⟩
      obtain ⟨M', F', j', w1, ⟨w2, w2'⟩, w3, w4, w5⟩ := ih M1 F1 f' ot' k' (by omega) X'
      refine ⟨M', F', j1 + j', fun Q n h => ?_, ⟨e_XR_tr hqa.1 w2, w2'⟩, w3, by omega, fun O s h => t_go_tr (r3 O s h) (fun s' O' g => ?_)⟩
      · obtain ⟨m, h⟩ := st Q n h
        exact w1 Q m h
      · obtain ⟨k0, ⟨z1, z2⟩, z3⟩ := g.2.2 a1 a2
        have hk' := X.2.1.1
        have ek : k0 = k' := by
          have e := congrArg Int32.toInt (z1.symm.trans b4)
          rw [fs_nI z2, fs_nI (by omega)] at e
          omega
        rw [ek] at z3
        exact w5 O' s' z3
theorem m_par (hN : tN N) (hC : S_C K s F) {hh : Nat} (h1 : hh < K_N K) (h2 : K_N K ≤ 16) {Q : Int32 → f_S3 → Nat × Nat → Prop} (hQ : Q (F 19 (400 * K_B K + hh)) s O) : wY_X6_parametersOf N (nI hh) s O Q := by
  have l22 : N 22 = 16 := hN.2.2.2.2.2.2.2.2.2.2.2.2
  refine ⟨fun g => absurd g (y_lt0 (by omega)), fun _ => ⟨fun g => ?_, fun _ => ⟨by rw [l22]; exact y_in (by omega) (by omega), ?_⟩⟩⟩
  · rw [show (16 : Int32) = nI 16 from rfl, y_le (by omega) (by omega)] at g; omega
  · rw [y_cl (by omega), (hC.2.2 hh h1).2]; exact hQ
/-- a hearing begins: what stands then -/
def b_M (M : e_M) : e_M := um (um (um (um (um M 62 0) 67 0) 69 0) 73 0) 72 0
def b_F (M : e_M) (F : e_F) (h : Nat) (a b : Int32) : e_F := if F 19 h ≤ 1 then (if F 19 h ≤ 0 then n_F (b_M M) F else uf (n_F (b_M M) F) 57 0 a) else uf (if F 19 h ≤ 0 then n_F (b_M M) F else uf (n_F (b_M M) F) 57 0 a) 57 1 b
theorem b_F_ne {r h : Nat} {a b : Int32} (hr : r ≠ 57 ∧ r ≠ 58 ∧ r ≠ 61) : b_F M F h a b r = F r := by
  have e := n_F_ne (M := b_M M) (F := F) hr
  unfold b_F
  by_cases q2 : F 19 h ≤ 0
  · rw [if_pos q2]
    by_cases q1 : F 19 h ≤ 1
    · rw [if_pos q1]; exact e
    · rw [if_neg q1, e_uf_ne hr.1]; exact e
  · rw [if_neg q2]
    by_cases q1 : F 19 h ≤ 1
    · rw [if_pos q1, e_uf_ne hr.1]; exact e
    · rw [if_neg q1, e_uf_ne hr.1, e_uf_ne hr.1]; exact e
theorem b_F_hc {h : Nat} {a b : Int32} {M2 : e_M} : e_hc [] [57] M2 (n_F (b_M M) F) M2 (b_F M F h a b) := by
  unfold b_F
  by_cases q2 : F 19 h ≤ 0
  · rw [if_pos q2]
    by_cases q1 : F 19 h ≤ 1
    · rw [if_pos q1]; exact e_hc_rf _ _ _ _
    · rw [if_neg q1]; exact e_hc_uf _ _ (by decide) (e_hc_rf _ _ _ _)
  · rw [if_neg q2]
    by_cases q1 : F 19 h ≤ 1
    · rw [if_pos q1]; exact e_hc_uf _ _ (by decide) (e_hc_rf _ _ _ _)
    · rw [if_neg q1]; exact e_hc_uf _ _ (by decide) (e_hc_uf _ _ (by decide) (e_hc_rf _ _ _ _))
theorem r_holds {h : Nat} (hh : h < 800) {a b : Int32} {Q : e_M → e_F → Prop} (hw : w_holds (nI h) a b M F Q) : ∃ e, w_holds_63 Q e (n_M (b_M M) (F 18 h)) (b_F M F h a b) := by
  have h2 := r_begins hw
  rw [y_cl (show h < 2 ^ 31 by omega)] at h2
  have e19 : n_F (b_M M) F 19 = F 19 := n_F_ne (by decide)
  have key : ∀ F2 : e_F, F2 19 = F 19 → w_holds_46 Q (nI h) b (n_M (b_M M) (F 18 h)) F2 → ∃ e, w_holds_63 Q e (n_M (b_M M) (F 18 h)) (if F 19 h ≤ 1 then F2 else uf F2 57 1 b) := fun F2 e g => by
    have g := g.2
    rw [y_cl (show h < 2 ^ 31 by omega), e] at g
    by_cases q : F 19 h ≤ 1
    · rw [if_pos q]; exact g.1 q
    · rw [if_neg q]; exact (g.2 q).2
  have h3 : (F 19 h ≤ 0 → w_holds_46 Q (nI h) b (n_M (b_M M) (F 18 h)) (n_F (b_M M) F)) ∧ (¬ F 19 h ≤ 0 → vp_in 0 144 ∧ w_holds_46 Q (nI h) b (n_M (b_M M) (F 18 h)) (uf (n_F (b_M M) F) 57 0 a)) := by
    have := h2.2
    rw [show (n_F (um (um (um (um (um M 62 0) 67 0) 69 0) 73 0) 72 0) F) 19 = F 19 from e19] at this
    exact this
  have h4 : w_holds_46 Q (nI h) b (n_M (b_M M) (F 18 h)) (if F 19 h ≤ 0 then n_F (b_M M) F else uf (n_F (b_M M) F) 57 0 a) := by
    by_cases q : F 19 h ≤ 0
    · rw [if_pos q]; exact h3.1 q
    · rw [if_neg q]; exact (h3.2 q).2
  unfold b_F
  have e2 : (if F 19 h ≤ 0 then n_F (b_M M) F else uf (n_F (b_M M) F) 57 0 a) 19 = F 19 := by
    split
    · exact e19
    · rw [e_uf_ne (by decide)]; exact e19
  exact key _ e2 h4
/-- the class begins likewise -/
theorem m_start (hN : tN N) {hh : Nat} (hA : S_a K s O M F) (h1 : hh < K_N K) (h2 : K_N K ≤ 16) {a b : Int32} {Q : f_S3 → Nat × Nat → Prop} (hQ : ∀ s', S_s K (K_A K (F 18 (400 * K_B K + hh)).toNatClampNeg) 0 0 s' O (n_M (b_M M) (F 18 (400 * K_B K + hh))) (b_F M F (400 * K_B K + hh) a b) → Q s' O) : wY_X8_start N (nI hh) a b s O Q := by
  obtain ⟨hD, hM, hC⟩ := hA
  have A0 : S_a K (fm (fm (fm (fm (fm s 53 0) 50 0) 51 0) 52 0) 54 0) O (b_M M) F := ⟨S_D_cg hD ⟨rfl, rfl⟩ rfl ⟨rfl, rfl⟩ ⟨rfl, rfl, rfl, rfl, rfl, rfl⟩, S_M_cg hM ⟨rfl, rfl, rfl, rfl, rfl, rfl, rfl⟩ rfl ⟨rfl, rfl, rfl, rfl, rfl, rfl⟩ rfl, S_C_cg hC rfl ⟨rfl, rfl, rfl⟩ ⟨rfl, rfl⟩⟩
  have z0 : (0 : Int32).toInt = 0 := by decide
  have B0 : S_b K (fm (fm (fm (fm (fm s 53 0) 50 0) 51 0) 52 0) 54 0) (b_M M) F := by
    have e62 : (b_M M 62).toInt = 0 := z0
    have e67 : (b_M M 67).toInt = 0 := z0
    refine ⟨⟨fun j hj => ?_, fun j hj => ?_⟩, fun i _ hi => ?_, rfl, fun t ht => ?_, fun i t hi _ _ _ => ?_⟩
    · rw [e62] at hj; omega
    · rw [e62] at hj; omega
    · rw [e62] at hi; omega
    · rw [e67] at ht; omega
    · rw [e62] at hi; omega
  have V0 : S_V (fm (fm (fm (fm (fm s 53 0) 50 0) 51 0) 52 0) 54 0) (b_M M) F := ⟨rfl, fun j hj => by
    have e69 : (b_M M 69).toInt = 0 := z0
    rw [e69] at hj; omega⟩
  refine m_begin hN (f := 0) (ot := 0) A0 B0 rfl rfl rfl V0 z0 (by decide) z0 (fun i hi => by omega) h1 h2 (Or.inl rfl) (fun s1 g1 => ?_)
  have hf : 1 ≤ (n_M (b_M M) (F 18 (400 * K_B K + hh)) 62).toInt ∧ (n_M (b_M M) (F 18 (400 * K_B K + hh)) 62).toInt ≤ 12 := show 1 ≤ ((0 : Int32) + 1).toInt ∧ ((0 : Int32) + 1).toInt ≤ 12 by decide
  have e19 : n_F (b_M M) F 19 = F 19 := n_F_ne (by decide)
  have e0 : 12 * (n_M (b_M M) (F 18 (400 * K_B K + hh)) 62 - 1) + 0 = 0 := show (12 : Int32) * ((0 : Int32) + 1 - 1) + 0 = 0 by decide
  have e1 : 12 * (n_M (b_M M) (F 18 (400 * K_B K + hh)) 62 - 1) + 1 = 1 := show (12 : Int32) * ((0 : Int32) + 1 - 1) + 1 = 1 by decide
  have key : ∀ (s2 : f_S3) (F2 : e_F), F2 19 = F 19 → S_s K (K_A K (F 18 (400 * K_B K + hh)).toNatClampNeg) 0 0 s2 O (n_M (b_M M) (F 18 (400 * K_B K + hh))) F2 → (∀ s', S_s K (K_A K (F 18 (400 * K_B K + hh)).toNatClampNeg) 0 0 s' O (n_M (b_M M) (F 18 (400 * K_B K + hh))) (if F 19 (400 * K_B K + hh) ≤ 1 then F2 else uf F2 57 1 b) → Q s' O) → wY_X8_start_47 N Q (nI hh) b s2 O := fun s2 F2 e g hq => by
    refine m_par hN g.2.1.2.2 h1 h2 ?_
    rw [e]
    by_cases q : F 19 (400 * K_B K + hh) ≤ 1
    · rw [if_pos q] at hq; exact ⟨fun _ => hq s2 g, fun w => absurd q w⟩
    · rw [if_neg q] at hq
      refine ⟨fun w => absurd w q, fun _ => m_setnum hN g hf (by decide) (fun s3 g3 => ?_)⟩
      rw [e1] at g3
      exact hq s3 g3
  refine m_par hN g1.2.1.2.2 h1 h2 ?_
  rw [e19]
  by_cases q : F 19 (400 * K_B K + hh) ≤ 0
  · refine ⟨fun _ => key s1 _ e19 g1 (fun s' g' => hQ s' ?_), fun w => absurd q w⟩
    unfold b_F
    rw [if_pos q]; exact g'
  · refine ⟨fun w => absurd w q, fun _ => m_setnum hN g1 hf (by decide) (fun s3 g3 => ?_)⟩
    rw [e0] at g3
    refine key s3 _ ((e_uf_ne (by decide)).trans e19) g3 (fun s' g' => hQ s' ?_)
    unfold b_F
    rw [if_neg q]; exact g'
/-- both hold a hearing to its end -/
theorem h_hold (hN : tN N) (hz : K_z K ≤ N 20) (hC : e_SC G B Nn E T V F) (hS : e_TS M F) (hc : k_cor K F) (hB : B = K_B K) (hNn : (K_N K : Int) ≤ Nn) {hh : Nat} (h1 : hh < K_N K) (h71 : M 71 = 0) (a b : Int32) : ∃ (M' : e_M) (F' : e_F), (∀ Q : e_M → e_F → Prop, w_holds (nI (400 * K_B K + hh)) a b M F Q → Q M' F') ∧ ((e_XR M F M' F' ∧ e_TS M' F') ∧ gi M F M' F') ∧ (M' 71 = 1 ∨ M' 71 = 0) ∧ ∀ (O : Nat × Nat) (s : f_S3), S_a K s O M F → ∀ Q : Int32 → f_S3 → Nat × Nat → Prop, (∀ s' O', S_a K s' O' M' F' → (M' 71 = 1 → Q 0 (fm s' 32 3) O') ∧ (M' 71 = 0 → (¬ M' 73 = 0 → Q (M' 73) s' O') ∧ (M' 73 = 0 → Q 0 (fm (fm s' 32 0) 33 (M' 74)) O'))) → wY_X8_hold N (nI hh) a b s O Q := by
  subst hB
  have hb := hc.1
  obtain ⟨a0, a1, a2, a3, a4⟩ := hc.2.2.2.2 hh h1
  have hv : (nI (400 * K_B K + hh)).toInt = ((400 * K_B K + hh : Nat) : Int) := fs_nI (by omega)
  have hr : 400 * (K_B K : Int) ≤ (nI (400 * K_B K + hh)).toInt ∧ (nI (400 * K_B K + hh)).toInt < 400 * (K_B K : Int) + Nn := by omega
  have c0 : e_hc [62, 67, 69, 72, 73] [] M F (b_M M) F := e_hc_um _ (by decide) (e_hc_um _ (by decide) (e_hc_um _ (by decide) (e_hc_um _ (by decide) (e_hc_um _ (by decide) (e_hc_rf _ _ M F)))))
  have ha := hS.1.1
  have o1 : e_OB (um (um (um (um M 62 0) 67 0) 69 0) 73 0) F := e_OB_73 (e_OB_hc (e_hc_um (ks := [62, 67, 69]) (rs := []) 0 (by decide) (e_hc_um 0 (by decide) (e_hc_um 0 (by decide) (e_hc_rf _ _ M F)))) (by decide) (by decide) hS.1) (show 0 ≤ (0 : Int32).toInt ∧ (0 : Int32).toInt ≤ (M 54).toInt from by rw [e_z0]; omega)
  have o2 : e_OB (b_M M) F := e_OB_hc (e_hc_um (ks := [72]) (rs := []) 0 (by decide) (e_hc_rf _ _ _ F)) (by decide) (by decide) o1
  have e70 : F 18 (nI (400 * K_B K + hh)).toNatClampNeg = nI a0 := by rw [y_cl (by omega)]; exact a1
  have hOB : e_OB (n_M (b_M M) (nI a0)) (n_F (b_M M) F) := by
    have := r_begins (Q := fun M' F' => e_OB M' F') (h := nI (400 * K_B K + hh)) (p_begins o2 (show 0 ≤ (0 : Int32).toInt ∧ (0 : Int32).toInt < 12 from by decide) (by omega) (fun F1 c1 hO1 e61 => e_OB_hc (e_hc_um (ks := [62, 70, 82]) (rs := []) _ (by decide) (e_hc_um _ (by decide) (e_hc_um _ (by decide) (e_hc_rf _ _ _ F1)))) (by decide) (by decide) hO1))
    rw [e70] at this
    exact this
  have hF2 : e_OB (n_M (b_M M) (nI a0)) (b_F M F (400 * K_B K + hh) a b) := e_OB_hc b_F_hc (by decide) (by decide) hOB
  have cM : e_hc [62, 67, 69, 70, 72, 73, 82] [] M F (n_M (b_M M) (nI a0)) F := e_hc_um _ (by decide) (e_hc_um _ (by decide) (e_hc_um _ (by decide) (e_hc_tr c0 (e_hc_rf [] [] _ F) (by decide) (by decide) (by decide) (by decide))))
  have xr : e_XR M F (n_M (b_M M) (nI a0)) (b_F M F (400 * K_B K + hh) a b) := ⟨fun k hk => cM.1 k (by simp only [List.mem_cons, List.not_mem_nil, or_false, not_or]; omega), fun r hr => b_F_ne (by omega)⟩
  have hT : e_TS (n_M (b_M M) (nI a0)) (b_F M F (400 * K_B K + hh) a b) := ⟨hF2, hS.2⟩
  have s61 : e_b (b_F M F (400 * K_B K + hh) a b) 0 = 0 := by
    unfold e_b
    rw [(b_F_hc (M2 := M)).2 61 (by decide), (n_F_at (M := b_M M) (f := 0) (show (0 : Int32).toInt = ((0 : Nat) : Int) by decide) (by decide) 0).2.2, if_pos rfl]
    exact (show (0 : Int32).toInt = 0 by decide)
  obtain ⟨g1, g2, g3, g4⟩ := hC.2.2.2.2 (400 * K_B K + hh) (by omega) (by omega)
  have i0 : (F 18 (400 * K_B K + hh)).toInt = a0 := by rw [a1]; exact fs_nI (by omega)
  have n70 : n_M (b_M M) (nI a0) 70 = F 18 (400 * K_B K + hh) := a1.symm
  have hR : e_RUN G (K_B K) E T (n_M (b_M M) (nI a0)) (b_F M F (400 * K_B K + hh) a b) 1 0 := ⟨⟨(show ((0 : Int32) + 1).toInt = ((1 : Nat) : Int) by decide), (show (0 : Int32).toInt = ((0 : Nat) : Int) by decide), by decide, by decide⟩, e_FS_0 s61, by rw [n70]; exact ⟨g1, g2⟩, by rw [n70]; exact e_m0 (show (0 : Int32).toInt = 0 by decide) g3, by rw [n70, g4]; show ((0 : Nat) : Int) - e_b _ 0 = 0; rw [s61]; rfl⟩
  have X : C_X K G (K_B K) Nn E T V (n_M (b_M M) (nI a0)) (b_F M F (400 * K_B K + hh) a b) 1 0 a0 := ⟨⟨e_SC_xr xr hC, hR, hT⟩, k_cor_cg hc (fun r hr => b_F_ne (by omega)), ⟨fun i hi => absurd hi (by omega), a3.symm⟩, rfl, a2, h71, rfl, rfl⟩
  obtain ⟨M', F', j, w1, ⟨w2, w3⟩, w4, w5, w6⟩ := h_loop hN hz (e_mu G E (n_M (b_M M) (nI a0)) (b_F M F (400 * K_B K + hh) a b) 1 0 + 1) _ _ 1 0 a0 (Nat.lt_succ_self _) X
  have hw : ∀ Q : e_M → e_F → Prop, w_holds (nI (400 * K_B K + hh)) a b M F Q → Q M' F' := fun Q h => by
    obtain ⟨e, h⟩ := r_holds (by omega) h
    rw [a1] at h
    exact w1 Q e h
  refine ⟨M', F', hw, ⟨⟨e_XR_tr xr w2, w3⟩, ?_⟩, w4.imp id (fun q => q.1), fun O s hA Q hQ => ?_⟩
  · exact hw (fun M' F' => gi M F M' F') (gr_holds (A := M) (T := F) (Q := fun _ _ => True) ⟨⟨rfl, rfl, rfl, rfl⟩, rfl, rfl, rfl⟩ (p_holds hC hS hr (fun _ _ _ _ => True.intro)) (fun _ _ g _ => g))
  · refine m_start hN hA h1 hb.2.2.2.2.2 (fun s1 g1 => ⟨1 + j, ?_⟩)
    rw [a1, y_cl (by omega)] at g1
    have ph : t_Ph K (n_M (b_M M) (nI a0)) (b_F M F (400 * K_B K + hh) a b) 1 0 a0 ≤ 540608004 := by
      have p1 := t_rm_max (F := b_F M F (400 * K_B K + hh) a b) (E := K_E K) (k := a0) (by omega)
      have p2 := hS.2
      show 108100 * ((M 79).toInt - (M 78).toInt).toNat + (0 + 0) + 0 + t_rm _ (K_E K) a0 ≤ _
      omega
    refine w6 O s1 g1 Q 1 0 (by omega) (fun s2 O2 g2 => ?_)
    rw [Nat.zero_add]
    have fin : ¬ s2.1 53 = 0 → wY_X8_hold_101 N Q s2 O2 → wY_X8_hold_10 N Q 1 (nI j) s2 O2 := fun q h => ⟨fun _ => h, fun _ => ⟨fun _ => h, fun w => absurd w q⟩⟩
    rcases w4 with q71 | ⟨q71, q72⟩
    · obtain ⟨v1, v2⟩ := g2.1 q71
      have hq := (hQ s2 O2 v2).1 q71
      exact fin (by rw [v1]; decide) ⟨fun _ => ⟨fun _ => hq, fun w => absurd (v1.symm.trans w) (by decide)⟩, fun w => absurd (v1.symm.trans w) (by decide)⟩
    · obtain ⟨v1, v2, v3⟩ := g2.2.1 q71 q72
      have hq := (hQ s2 O2 v3).2 q71
      by_cases q73 : M' 73 = 0
      · obtain ⟨u1, u2⟩ := v2 q73
        have hq := hq.2 q73
        rw [← u2] at hq
        exact fin (by rw [u1]; decide) ⟨fun _ => ⟨fun w => absurd u1 w, fun _ => hq⟩, fun w => absurd (u1.symm.trans w) (by decide)⟩
      · obtain ⟨u1, u2⟩ := v1 q73
        have hq := hq.1 q73
        rw [← u2] at hq
        exact fin (by rw [u1]; decide) ⟨fun w => absurd u1 w, fun _ => hq⟩
end TQJ
