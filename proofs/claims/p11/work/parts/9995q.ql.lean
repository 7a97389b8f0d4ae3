/-! THE INSTANCES: what comes out of a hearing goes through them, in both. -/
section TQL
variable {K : k_K} {N : Nat → Nat} {s s' : f_S3} {O : Nat × Nat} {M M' M1 : e_M} {F F' F1 : e_F} {G : e_G} {B Nn E T V : Int} {i j : Nat} {h a b : Int32} {hh : Nat}
theorem t_bit4 : ∀ r : Nat, r < 8 → ∀ i : Nat, i < 3 → r % 2 ^ (i + 1) = 0 → r % 2 ^ i = 0 ∧ r / 2 ^ i % 2 = 0 := by decide
theorem t_dv {r i : Nat} : r / 2 ^ (i + 1) = r / 2 ^ i / 2 := by rw [Nat.pow_succ, Nat.div_div_eq_div_mul]
def T_c : Nat → Nat
  | 0 => 0
  | i + 1 => 2 * (T_c i + 1)
theorem T_c_le : ∀ i : Nat, i < 4 → T_c i ≤ 14 := by decide
def E_q (K : k_K) (M' : e_M) (F' : e_F) (Q : f_S3 → Nat × Nat → Prop) : Prop := ∀ s' O', S_a K s' O' M' F' → (M' 71 = 1 → Q (fm s' 32 3) O') ∧ (M' 71 = 0 → M' 73 = 0 → Q (fm (fm s' 32 0) 33 (M' 74)) O') ∧ (M' 71 = 0 → ¬ M' 73 = 0 → ¬ M' 77 = -1 → Q (fm (fm (fm s' 32 1) 34 (M' 77)) 35 (M' 73)) O')
def B_pre (K : k_K) (G : e_G) (B Nn E T V : Int) (M : e_M) (F : e_F) : Prop := e_SC G B Nn E T V F ∧ e_TS M F ∧ k_cor K F ∧ S_P K F ∧ M 71 = 0 ∧ M 77 = -1
def B_st (N : Nat → Nat) (K : k_K) (hh : Nat) (a b : Int32) (i : Nat) (M : e_M) (F : e_F) : Prop := ∃ (M' : e_M) (F' : e_F) (c : Nat), (∀ (n : Nat) (Q : e_M → e_F → Prop), i ≤ n → w_below (wf_dl n) (nI i) (nI (400 * K_B K + hh)) a b M F Q → Q M' F') ∧ ((e_XR M F M' F' ∧ e_TS M' F') ∧ F' 85 = F 85 ∧ F' 86 = F 86 ∧ F' 87 = F 87) ∧ ((M' 71 = 1 ∨ M' 71 = 0) ∧ (M' 71 = 0 → M' 73 = 0 → M' 77 = -1)) ∧ c ≤ T_c i ∧ ∀ (O : Nat × Nat) (s : f_S3), S_a K s O M F → ∀ (Q : f_S3 → Nat × Nat → Prop) (n r x : Nat), 1 ≤ n → r < 8 → r % 2 ^ i = 0 → x + c ≤ 100 → E_q K M' F' Q → (M' 71 = 0 → ¬ M' 73 = 0 → M' 77 = -1 → ∀ s' O' r', S_a K s' O' M' F' → r' < 8 → r' / 2 ^ i = r / 2 ^ i → wY_X0_conduct_21 N Q n (nI hh) a b (nI r') (nI i) (M' 73) (nI (x + c)) s' O') → ∀ W : Int32 → f_S3 → Nat × Nat → Prop, (∀ r1 s2 O2, wY_X0_conduct_21 N Q (n + c) (nI hh) a b (nI r) 0 r1 (nI x) s2 O2 → W r1 s2 O2) → wY_X8_hold N (nI hh) a b s O W
theorem z_end {Q : f_S3 → Nat × Nat → Prop} {n : Nat} {r at_ x : Int32} (hn : 1 ≤ n) (hq : Q s O) : wY_X0_conduct_21 N Q n h a b r at_ 0 x s O := by
  match n, hn with
  | n + 1, _ =>
    have e : wY_X0_conduct_211 N Q 0 s O := ⟨fun _ => hq, fun w => absurd rfl w⟩
    exact ⟨fun _ => e, fun _ => ⟨fun _ => e, fun w => absurd rfl w⟩⟩
theorem z_none {Q : f_S3 → Nat × Nat → Prop} {K21 : Int32 → Int32 → Int32 → Int32 → Int32 → Int32 → Int32 → f_S3 → Nat × Nat → Prop} {r x q : Int32} (hq : K21 h a b r (nI (i + 1)) q (x + 1) s O) : wY_X0_conduct_81 N K21 Q h a b r (nI i) q x (-1) s O := by
  rw [← y_1] at hq
  exact ⟨fun _ => ⟨fun _ => ⟨fun _ => ⟨fun g => absurd g (by decide), fun g => absurd g (by decide), fun g => absurd g (by decide), fun g => absurd g (by decide), fun g => absurd g (by decide), fun _ _ _ _ _ => hq⟩, fun g => absurd (by decide) g⟩, fun g => absurd g (by decide)⟩, fun g => absurd (by decide) g⟩
theorem z_81 (hN : tN N) (hC : S_C K s F1) (hP : S_P K F) {Q : f_S3 → Nat × Nat → Prop} {K21 : Int32 → Int32 → Int32 → Int32 → Int32 → Int32 → Int32 → f_S3 → Nat × Nat → Prop} {r at_ x q w : Int32} (hj : j < 21) (hw : F 85 j - 1 = w) (hq : wY_X0_conduct_109 N K21 Q h a b r at_ q x (nI j) w s O) : wY_X0_conduct_81 N K21 Q h a b r at_ q x (nI j) s O := by
  have l11 : N 11 = 21 := hN.2.1
  refine ⟨fun g => absurd g (y_lt0 (by omega)), fun _ => ⟨fun g => ?_, fun _ => ⟨by rw [l11]; exact y_in hj (by omega), ?_⟩⟩⟩
  · rw [l11, y_le (by omega) (by omega)] at g; omega
  · rw [y_cl (by omega), hC.1.2.2.2.1, (hP.1 j hj).1, hw]; exact hq
theorem z_dl (hN : tN N) (hC : S_C K s F1) (hP : S_P K F) {Q : f_S3 → Nat × Nat → Prop} {K21 : Int32 → Int32 → Int32 → Int32 → Int32 → Int32 → Int32 → f_S3 → Nat × Nat → Prop} {r x q w : Int32} (hj : j < 21) (hw : ¬ w = 3) (hq : wY_X0_dealtWith N (nI i) q w (F 86 j) s O (fun r8 s2 O2 => K21 h a b r (nI (i + 1)) r8 (x + 1) s2 O2)) : wY_X0_conduct_109 N K21 Q h a b r (nI i) q x (nI j) w s O := by
  have l12 : N 12 = 21 := hN.2.2.1
  rw [← y_1] at hq
  refine ⟨fun _ => ⟨fun g => absurd g (y_lt0 (by omega)), fun _ => ⟨fun g => ?_, fun _ => ⟨by rw [l12]; exact y_in hj (by omega), ?_⟩⟩⟩, fun g => absurd g hw⟩
  · rw [l12, y_le (by omega) (by omega)] at g; omega
  · rw [y_cl (by omega), hC.1.2.2.2.2.1, (hP.1 j hj).2]; exact hq
theorem z_turn (hN : tN N) (hA : S_a K s O M1 F1) (hO : e_OB M1 F1) (hP : S_P K F1) {Q : f_S3 → Nat × Nat → Prop} {n r x : Nat} {q : Int32} (ho : 1 ≤ q.toInt ∧ q.toInt ≤ (M1 54).toInt) (hi : i < 3) (hr : r < 8) (hb : r / 2 ^ i % 2 = 0) (hx : x < 100) (hq : wY_X0_conduct_81 N (wY_X0_conduct_21 N Q n) Q h a b (nI r) (nI i) q (nI x) (if t_pl F1 i 7 (F1 48 q.toNatClampNeg) = -1 then -1 else nI i * 7 + t_pl F1 i 7 (F1 48 q.toNatClampNeg)) s O) : wY_X0_conduct_21 N Q (n + 1) h a b (nI r) (nI i) q (nI x) s O := by
  have hk := (hO.2.1 q.toInt.toNat (by omega) (by omega)).1
  refine ⟨fun g => ?_, fun _ => ⟨fun g => ?_, fun _ => ⟨fun g => ?_, fun _ => ⟨fun _ => ⟨fun _ => m_kindOf hA.1 ho (m_pl hN hP hA.2.2 hi (show -1 ≤ (F1 48 q.toNatClampNeg).toInt ∧ (F1 48 q.toNatClampNeg).toInt ≤ 6 from ?_) hq), fun w => absurd rfl w⟩, fun g => ?_⟩⟩⟩⟩
  · rw [show (100 : Int32) = nI 100 from rfl, y_le (by omega) (by omega)] at g; omega
  · rw [g] at ho; exact absurd ho.1 (by decide)
  · rw [show (3 : Int32) = nI 3 from rfl, y_le (by omega) (by omega)] at g; omega
  · have hk' : 0 ≤ (F1 48 q.toNatClampNeg).toInt ∧ (F1 48 q.toNatClampNeg).toInt ≤ 6 := hk
    omega
  · have := (t_bit r hr i hi).mp g
    omega
theorem z_again {Q : f_S3 → Nat × Nat → Prop} {n r x : Nat} {q : Int32} (hq0 : ¬ q = 0) (hi : i < 3) (hr : r < 8) (hb : r / 2 ^ i % 2 = 1) (hx : x < 100) (hq : wY_X0_conduct_21 N Q n h a b (nI r) (nI (i + 1)) q (nI (x + 1)) s O) : wY_X0_conduct_21 N Q (n + 1) h a b (nI r) (nI i) q (nI x) s O := by
  rw [← y_1 (a := x)] at hq
  refine ⟨fun g => ?_, fun _ => ⟨fun g => absurd g hq0, fun _ => ⟨fun g => ?_, fun _ => ⟨fun g => absurd ((t_bit r hr i hi).mpr hb) g, fun _ => ⟨fun g => absurd g (by decide), fun _ => z_none hq⟩⟩⟩⟩⟩
  · rw [show (100 : Int32) = nI 100 from rfl, y_le (by omega) (by omega)] at g; omega
  · rw [show (3 : Int32) = nI 3 from rfl, y_le (by omega) (by omega)] at g; omega
theorem B_0 (hN : tN N) (hz : K_z K ≤ N 20) (hB : B = K_B K) (hNn : (K_N K : Int) ≤ Nn) (h1 : hh < K_N K) (p : B_pre K G B Nn E T V M F) : B_st N K hh a b 0 M F := by
  obtain ⟨hC, hS, hc, hP, h71, h77⟩ := p
  obtain ⟨M', F', w1, ⟨⟨w2, w3⟩, w4⟩, w5, w6⟩ := h_hold hN hz hC hS hc hB hNn h1 h71 a b
  have e77 : M' 77 = -1 := w4.1.2.2.1.trans h77
  refine ⟨M', F', 0, fun n Q _ h => w1 Q (h.2 rfl), ⟨⟨w2, w3⟩, w4.2⟩, ⟨w5, fun _ _ => e77⟩, Nat.le_refl _, fun O s hA Q n r x hn hr _ _ hE hC' W hW => w6 O s hA W (fun s' O' hA' => ⟨fun q => hW _ _ _ (z_end hn ((hE s' O' hA').1 q)), fun q => ⟨fun q3 => hW _ _ _ (hC' q q3 e77 s' O' r hA' hr rfl), fun q3 => hW _ _ _ (z_end hn ((hE s' O' hA').2.1 q q3))⟩⟩)⟩
theorem B_step (hN : tN N) (hB : B = K_B K) (hNn : (K_N K : Int) ≤ Nn) (h1 : hh < K_N K) (hi : i < 3) (ih : ∀ (M : e_M) (F : e_F), B_pre K G B Nn E T V M F → B_st N K hh a b i M F) (p : B_pre K G B Nn E T V M F) : B_st N K hh a b (i + 1) M F := by
  have hp := p
  obtain ⟨M1, F1, c1, w1, ⟨⟨x1, t1⟩, f85, f86, f87⟩, ⟨g71, g77⟩, hc1, run1⟩ := ih M F p
  obtain ⟨hC, hS, hc, hP, h71, h77⟩ := hp
  have hb := hc.1
  have e1 : nI (i + 1) - 1 = nI i := y_sub (a := i + 1) (b := 1) (by omega) (by omega)
  have ne : ¬ nI (i + 1) = 0 := nI_nez (by omega) (by omega)
  have hO1 : e_OB M1 F1 := t1.1
  have hP1 : S_P K F1 := ⟨fun j hj => by rw [f85, f86]; exact hP.1 j hj, fun j hj => by rw [f87]; exact hP.2 j hj⟩
  -- the reference, once what is below has ended
  have up : ∀ (n : Nat) (Q : e_M → e_F → Prop), i + 1 ≤ n → w_below (wf_dl n) (nI (i + 1)) (nI (400 * K_B K + hh)) a b M F Q → ∃ m, i ≤ m ∧ (¬ M1 71 = 0 → Q M1 F1) ∧ (M1 71 = 0 → (M1 73 = 0 → Q M1 F1) ∧ (¬ M1 73 = 0 → (M1 77 = -1 → w_deals_74 (wf_dl m) Q (nI i) (nI (400 * K_B K + hh)) a b (t_pl F1 i 7 (F1 48 (M1 73).toNatClampNeg)) M1 F1) ∧ (¬ M1 77 = -1 → Q M1 F1))) := by
    intro n Q hn hw
    have hw := hw.1 ne
    rw [e1] at hw
    obtain ⟨m, rfl⟩ : ∃ m, n = m + 1 := ⟨n - 1, by omega⟩
    have hw : w_deals (wf_dl m) (nI i) (nI (400 * K_B K + hh)) a b M F (fun M1 F1 => Q M1 F1) := hw
    have h2 := w1 m _ (by omega) hw
    refine ⟨m, by omega, h2.1, fun q => ⟨(h2.2 q).1, fun q3 => ⟨fun q7 => ?_, ((h2.2 q).2 q3).2⟩⟩⟩
    obtain ⟨-, e, h3⟩ := ((h2.2 q).2 q3).1 q7
    have q3' := ti_ne q3
    rw [e_z0] at q3'
    have h9 := hO1.2.2.2.2.2.2.2.2
    have hk := (hO1.2.1 (M1 73).toInt.toNat (by omega) (by omega)).1
    have hk' : 0 ≤ (F1 48 (M1 73).toNatClampNeg).toInt ∧ (F1 48 (M1 73).toNatClampNeg).toInt ≤ 6 := hk
    exact r_pl e 7 _ (by omega) t_rk7 h3
  -- the run below serves at every end
  have xt : ∀ (M' : e_M) (F' : e_F), (∀ (n : Nat) (Q : e_M → e_F → Prop), i + 1 ≤ n → w_below (wf_dl n) (nI (i + 1)) (nI (400 * K_B K + hh)) a b M F Q → Q M' F') → e_XR M F M' F' ∧ e_TS M' F' := fun M' F' hr => by
    have hv : (nI (400 * K_B K + hh)).toInt = ((400 * K_B K + hh : Nat) : Int) := fs_nI (by omega)
    have vi : (nI i).toInt = (i : Int) := fs_nI (by omega)
    refine hr (i + 1) (fun M' F' => e_XR M F M' F' ∧ e_TS M' F') (Nat.le_refl _) ⟨fun _ => ?_, fun q => absurd q ne⟩
    rw [e1]
    exact p_deals (G := G) (B := B) (N := Nn) (E := E) (T := T) (V := V) (by omega) (i + 1) (nI i) M F _ (by omega) (by omega) hC hS (fun M' F' x t => ⟨x, t⟩)
  by_cases q : M1 71 = 0 ∧ ¬ M1 73 = 0 ∧ M1 77 = -1
  case neg =>
    refine ⟨M1, F1, c1, fun n Q hn hw => ?_, ⟨⟨x1, t1⟩, f85, f86, f87⟩, ⟨g71, g77⟩, by show c1 ≤ 2 * (T_c i + 1); omega, fun O s hA Q n r x hn hr hm hx hE _ W hW => run1 O s hA Q n r x hn hr (t_bit4 r hr i hi hm).1 hx hE (fun q1 q2 q3 => absurd ⟨q1, q2, q3⟩ q) W hW⟩
    obtain ⟨m, -, h2, h3⟩ := up n Q hn hw
    by_cases q1 : M1 71 = 0
    · by_cases q2 : M1 73 = 0
      · exact (h3 q1).1 q2
      · by_cases q3 : M1 77 = -1
        · exact absurd ⟨q1, q2, q3⟩ q
        · exact ((h3 q1).2 q2).2 q3
    · exact h2 q1
  obtain ⟨q71, q73, q77⟩ := q
  have q3' := ti_ne q73
  rw [e_z0] at q3'
  have h9 := hO1.2.2.2.2.2.2.2.2
  have ho : 1 ≤ (M1 73).toInt ∧ (M1 73).toInt ≤ (M1 54).toInt := by omega
  have hk : 0 ≤ (F1 48 (M1 73).toNatClampNeg).toInt ∧ (F1 48 (M1 73).toNatClampNeg).toInt ≤ 6 := (hO1.2.1 (M1 73).toInt.toNat (by omega) (by omega)).1
  have nE : ∀ Q : f_S3 → Nat × Nat → Prop, E_q K M1 F1 Q := fun Q s' O' _ => ⟨fun z => absurd (q71.symm.trans z) (by decide), fun _ z => absurd z q73, fun _ _ z => absurd q77 z⟩
  -- one turn
  have one : ∀ (M' : e_M) (F' : e_F), (∀ (m : Nat) (Q : e_M → e_F → Prop), i ≤ m → w_deals_74 (wf_dl m) Q (nI i) (nI (400 * K_B K + hh)) a b (t_pl F1 i 7 (F1 48 (M1 73).toNatClampNeg)) M1 F1 → Q M' F') → (F' 85 = F1 85 ∧ F' 86 = F1 86 ∧ F' 87 = F1 87) → ((M' 71 = 1 ∨ M' 71 = 0) ∧ (M' 71 = 0 → M' 73 = 0 → M' 77 = -1)) → (∀ (Q : f_S3 → Nat × Nat → Prop) (n r x : Nat) (s : f_S3) (O : Nat × Nat), S_a K s O M1 F1 → 1 ≤ n → E_q K M' F' Q → (M' 71 = 0 → ¬ M' 73 = 0 → M' 77 = -1 → ∀ s' O', S_a K s' O' M' F' → wY_X0_conduct_21 N Q n (nI hh) a b (nI r) (nI (i + 1)) (M' 73) (nI x + 1) s' O') → wY_X0_conduct_81 N (wY_X0_conduct_21 N Q n) Q (nI hh) a b (nI r) (nI i) (M1 73) (nI x) (if t_pl F1 i 7 (F1 48 (M1 73).toNatClampNeg) = -1 then -1 else nI i * 7 + t_pl F1 i 7 (F1 48 (M1 73).toNatClampNeg)) s O) → B_st N K hh a b (i + 1) M F := by
    intro M' F' hr hf hg hcl
    have hr' : ∀ (n : Nat) (Q : e_M → e_F → Prop), i + 1 ≤ n → w_below (wf_dl n) (nI (i + 1)) (nI (400 * K_B K + hh)) a b M F Q → Q M' F' := fun n Q hn hw => by
      obtain ⟨m, hm, -, h3⟩ := up n Q hn hw
      exact hr m Q hm (((h3 q71).2 q73).1 q77)
    refine ⟨M', F', c1 + 1, hr', ⟨xt M' F' hr', hf.1.trans f85, hf.2.1.trans f86, hf.2.2.trans f87⟩, hg, by show c1 + 1 ≤ 2 * (T_c i + 1); omega, fun O s hA Q n r x hn hr hm hx hE hC' W hW => ?_⟩
    rw [show n + (c1 + 1) = (n + 1) + c1 by omega] at hW
    obtain ⟨m1, m2⟩ := t_bit4 r hr i hi hm
    refine run1 O s hA Q (n + 1) r x (by omega) hr m1 (by omega) (nE Q) (fun _ _ _ s' O' r' hA' hr' hd => z_turn hN hA' hO1 hP1 ho hi hr' (by rw [hd]; exact m2) (by omega) (hcl Q n r' (x + c1) s' O' hA' hn hE (fun z1 z2 z3 s2 O2 hA2 => ?_))) W hW
    rw [y_1]
    exact hC' z1 z2 z3 s2 O2 r' hA2 hr' (t_dv.trans ((congrArg (fun z => z / 2) hd).trans t_dv.symm))
  rcases t_pl_r (F := F1) (i := i) 7 (F1 48 (M1 73).toNatClampNeg) (by omega) with hkk | ⟨hkr, hkn⟩
  · refine one M1 F1 (fun m Q _ hw => hw.2 hkk) ⟨rfl, rfl, rfl⟩ ⟨Or.inr q71, fun _ z => absurd z q73⟩ (fun Q n r x s O hA hn hE hC' => ?_)
    rw [if_pos hkk]
    exact z_none (hC' q71 q73 q77 s O hA)
  have kne : ¬ t_pl F1 i 7 (F1 48 (M1 73).toNatClampNeg) = -1 := fun z => by rw [z] at hkr; exact absurd hkr.1 (by decide)
  obtain ⟨kk, hkk'⟩ : ∃ kk, t_pl F1 i 7 (F1 48 (M1 73).toNatClampNeg) = kk := ⟨_, rfl⟩
  rw [hkk'] at one hkr hkn kne up
  obtain ⟨j, hj, ej, ej2⟩ := t_ix7 hi hkr
  rw [if_neg kne, ej2] at one
  rw [ej, y_cl (by omega)] at hkn
  obtain ⟨o85, o86⟩ := hO1.2.2.2.2.1 j hj
  obtain ⟨y, hy, ey, ey2, -⟩ := t_nat (x := F1 85 j) (n := 7) (by omega)
  have y0 : 1 ≤ y := by
    rcases Nat.eq_zero_or_pos y with z | z
    · rw [z] at ey; exact absurd ey hkn
    · exact z
  have hw : F1 85 j - 1 = nI (y - 1) := by rw [ey]; exact y_sub (b := 1) y0 (by omega)
  have rf : ∀ (m : Nat) (Q : e_M → e_F → Prop), w_deals_74 (wf_dl m) Q (nI i) (nI (400 * K_B K + hh)) a b kk M1 F1 → (nI (y - 1) = 0 → Q M1 F1) ∧ (nI (y - 1) = 1 → Q (um M1 77 (nI i)) F1) ∧ (nI (y - 1) = 2 → vp_in (M1 73) 8001 ∧ w_makes (F1 86 j) (F1 49 (M1 73).toNatClampNeg) 0 (-1) (M1 73) 1 M1 F1 (fun r7 M8 F8 => Q (um M8 73 r7) F8)) ∧ (nI (y - 1) = 3 → w_below (wf_dl m) (nI i) (nI (400 * K_B K + hh)) a b (um M1 81 (M1 81 + 1)) F1 (fun M9 F9 => Q M9 F9)) ∧ (nI (y - 1) = 4 → w_enters (nI i) M1 F1 (fun M10 F10 => Q M10 F10)) ∧ (¬ nI (y - 1) = 0 → ¬ nI (y - 1) = 1 → ¬ nI (y - 1) = 2 → ¬ nI (y - 1) = 3 → ¬ nI (y - 1) = 4 → w_weight (M1 73) M1 F1 (fun r11 M12 F12 => (F1 86 j ≤ r11 → Q M12 F12) ∧ (¬ F1 86 j ≤ r11 → Q (um M12 77 (nI i)) F12))) := fun m Q h => by
    have h := ((h.1 kne).2 _ rfl).2
    rw [ej, y_cl (show j < 2 ^ 31 by omega), hw] at h
    exact h
  obtain ⟨w, hy1⟩ : ∃ w, y - 1 = w := ⟨_, rfl⟩
  rw [hy1] at hw rf
  have hwl : w < 6 := by omega
  have cl : ∀ {Q : f_S3 → Nat × Nat → Prop} {K21 : Int32 → Int32 → Int32 → Int32 → Int32 → Int32 → Int32 → f_S3 → Nat × Nat → Prop} {r x : Int32} {s : f_S3} {O : Nat × Nat}, S_a K s O M1 F1 → ¬ nI w = 3 → wY_X0_dealtWith N (nI i) (M1 73) (nI w) (F1 86 j) s O (fun r8 s2 O2 => K21 (nI hh) a b r (nI (i + 1)) r8 (x + 1) s2 O2) → wY_X0_conduct_81 N K21 Q (nI hh) a b r (nI i) (M1 73) x (nI j) s O := fun hA h3 hq => z_81 hN hA.2.2 hP1 hj hw (z_dl hN hA.2.2 hP1 hj h3 hq)
  have c77 : ¬ nI i = -1 := nI_ne (by omega)
  have st : ∀ {s : f_S3} {O : Nat × Nat}, S_a K s O M1 F1 → S_a K s O (um M1 77 (nI i)) F1 := fun hA => S_a_m hA ⟨rfl, rfl, rfl⟩ ⟨rfl, rfl, rfl, rfl, rfl⟩
  have c6 : w = 0 ∨ w = 1 ∨ w = 2 ∨ w = 3 ∨ w = 4 ∨ w = 5 := by omega
  rcases c6 with rfl | rfl | rfl | rfl | rfl | rfl
  · -- PASS
    exact one M1 F1 (fun m Q _ hw => (rf m Q hw).1 rfl) ⟨rfl, rfl, rfl⟩ ⟨Or.inr q71, fun _ z => absurd z q73⟩ (fun Q n r x s O hA hn hE hC' => cl hA (by decide) ⟨fun g => absurd g (by decide), fun g => absurd g (by decide), fun g => absurd g (by decide), fun g => absurd g (by decide), fun g => absurd g (by decide), fun _ _ _ _ _ => hC' q71 q73 q77 s O hA⟩)
  · -- STRIKE
    exact one (um M1 77 (nI i)) F1 (fun m Q _ hw => (rf m Q hw).2.1 rfl) ⟨rfl, rfl, rfl⟩ ⟨Or.inr q71, fun _ z => absurd z q73⟩ (fun Q n r x s O hA hn hE hC' => cl hA (by decide) ⟨fun _ => z_end hn ((hE s O (st hA)).2.2 q71 q73 c77), fun g => absurd g (by decide), fun g => absurd g (by decide), fun g => absurd g (by decide), fun g => absurd g (by decide), fun g => absurd rfl g⟩)
  · -- WRAP
    have nz : ¬ M1 54 + 1 = 0 := fun z => by
      obtain ⟨m, hm, em, em2, -⟩ := t_nat (x := M1 54) (n := 8001) (by have := hO1.1; omega)
      rw [em, y_1] at z
      exact nI_nez (by omega) (by omega) z
    by_cases full : M1 55 = 100 ∨ M1 54 = 8000
    · refine one (um (um M1 71 1) 73 0) F1 (fun m Q _ hw => (r_makes ((rf m Q hw).2.2.1 rfl).2).1 full) ⟨rfl, rfl, rfl⟩ ⟨Or.inl rfl, fun z => absurd z (show ¬ (1 : Int32) = 0 by decide)⟩ (fun Q n r x s O hA hn hE hC' => cl hA (by decide) ⟨fun g => absurd g (by decide), fun _ => ?_, fun g => absurd g (by decide), fun g => absurd g (by decide), fun g => absurd g (by decide), fun _ g => absurd rfl g⟩)
      unfold wY_X0_wrapped wY_X2_groundOf
      refine m_groundOf hA.1 ho ?_
      exact m_make_a hA (fun _ => ⟨fun z => absurd rfl z, fun _ => z_end hn ((hE s O (S_a_m hA ⟨rfl, rfl, rfl⟩ ⟨rfl, rfl, rfl, rfl, rfl⟩)).1 rfl)⟩) (fun z => absurd full z)
    · refine one (um (mk_M M1) 73 (M1 54 + 1)) (mk_F (M1 54 + 1) F1 (F1 86 j) (F1 49 (M1 73).toNatClampNeg) 0 (-1) (M1 73) 1) (fun m Q _ hw => (r_makes ((rf m Q hw).2.2.1 rfl).2).2 full) ⟨rfl, rfl, rfl⟩ ⟨Or.inr q71, fun _ z => absurd z nz⟩ (fun Q n r x s O hA hn hE hC' => cl hA (by decide) ⟨fun g => absurd g (by decide), fun _ => ?_, fun g => absurd g (by decide), fun g => absurd g (by decide), fun g => absurd g (by decide), fun _ g => absurd rfl g⟩)
      unfold wY_X0_wrapped wY_X2_groundOf
      refine m_groundOf hA.1 ho ?_
      refine m_make_a hA (fun z => absurd z full) (fun _ s2 O2 hA2 => ⟨fun _ => m_settle_a hA2 ?_ (fun s3 hA3 => ?_), fun z => absurd z nz⟩)
      · have l1 : (1 : Int32).toInt = 1 := by decide
        have h54 := hO1.1
        have e := ti_addx (M1 54) 1 (by omega)
        show 1 ≤ (M1 54 + 1).toInt ∧ (M1 54 + 1).toInt ≤ (M1 54 + 1).toInt
        omega
      · rw [mk_F_set] at hA3
        exact hC' q71 nz q77 s3 O2 (S_a_m hA3 ⟨rfl, rfl, rfl⟩ ⟨rfl, rfl, rfl, rfl, rfl⟩)
  · -- REMAND
    have t2 : e_TS (um M1 81 (M1 81 + 1)) F1 := e_TS_hc (e_hc_um (ks := [81]) (rs := []) _ (by decide) (e_hc_rf _ _ M1 F1)) (by decide) (by decide) t1
    obtain ⟨M2, F2, c2, w2, ⟨⟨x2, t3⟩, f285, f286, f287⟩, ⟨g271, g277⟩, hc2, run2⟩ := ih (um M1 81 (M1 81 + 1)) F1 ⟨e_SC_xr x1 hC, t2, k_cor_cg hc x1.2, hP1, q71, q77⟩
    have hr' : ∀ (n : Nat) (Q : e_M → e_F → Prop), i + 1 ≤ n → w_below (wf_dl n) (nI (i + 1)) (nI (400 * K_B K + hh)) a b M F Q → Q M2 F2 := fun n Q hn hw => by
      obtain ⟨m, hm, -, h3⟩ := up n Q hn hw
      exact w2 m _ hm ((rf m Q (((h3 q71).2 q73).1 q77)).2.2.2.1 rfl)
    refine ⟨M2, F2, c1 + 1 + (c2 + 1), hr', ⟨xt M2 F2 hr', f285.trans f85, f286.trans f86, f287.trans f87⟩, ⟨g271, g277⟩, by show c1 + 1 + (c2 + 1) ≤ 2 * (T_c i + 1); omega, fun O s hA Q n r x hn hr hm hx hE hC' W hW => ?_⟩
    rw [show n + (c1 + 1 + (c2 + 1)) = (n + 1 + c2 + 1) + c1 by omega] at hW
    obtain ⟨m1, m2⟩ := t_bit4 r hr i hi hm
    refine run1 O s hA Q (n + 1 + c2 + 1) r x (by omega) hr m1 (by omega) (nE Q) (fun _ _ _ s' O' r' hA' hr' hd => ?_) W hW
    obtain ⟨b1, b2, b3, b4⟩ := t_bit3 r' hr' i hi
    refine z_turn hN hA' hO1 hP1 ho hi hr' (by rw [hd]; exact m2) (by omega) ?_
    rw [hkk', if_neg kne, ej2]
    refine z_81 hN hA'.2.2 hP1 hj hw ⟨fun g => absurd rfl g, fun _ v11 ev => ?_⟩
    rw [t_bit2 r' hr' i hi] at ev
    subst ev
    show wY_X8_hold N (nI hh) a b (fm s' 37 (s'.1 37 + 1)) O' (fun r1 s2 O2 => wY_X0_conduct_21 N Q (n + 1 + c2) (nI hh) a b (nI ((r' / 2 ^ i / 2 * 2 + 1) * 2 ^ i)) 0 r1 (nI (x + c1) + 1) s2 O2)
    rw [y_1 (a := x + c1)]
    refine run2 O' (fm s' 37 (s'.1 37 + 1)) (S_a_37 hA') Q (n + 1) ((r' / 2 ^ i / 2 * 2 + 1) * 2 ^ i) (x + c1 + 1) (by omega) b1 b2 (by omega) hE (fun z1 z2 z3 s2 O2 r2 hA2 hr2 hd2 => ?_) _ (fun _ _ _ g => g)
    refine z_again z2 hi hr2 (by rw [hd2]; exact b3) (by omega) ?_
    have dd : r2 / 2 ^ (i + 1) = r / 2 ^ (i + 1) := (t_dv.trans (congrArg (fun z => z / 2) hd2)).trans (t_dv.symm.trans (b4.trans (t_dv.trans ((congrArg (fun z => z / 2) hd).trans t_dv.symm))))
    have hC2 := hC' z1 z2 z3 s2 O2 r2 hA2 hr2 dd
    rw [show x + (c1 + 1 + (c2 + 1)) = x + c1 + 1 + c2 + 1 by omega] at hC2
    exact hC2
  · -- ENTER
    have l13 : N 13 = 3 := hN.2.2.2.1
    have h87 := hO1.2.2.2.2.2.1 i hi
    have ci : (nI i).toNatClampNeg = i := y_cl (by omega)
    have cmp : ∀ {s : f_S3} {O : Nat × Nat} {Q : Int32 → f_S3 → Nat × Nat → Prop}, S_a K s O M1 F1 → Q (F1 87 i) s O → wY_X0_complaintOf N (nI i) s O Q := fun {s O Q} hA hq => by
      have e : s.2.1 13 = (K_P K).2 13 := hA.2.2.1.2.2.2.2.2
      refine ⟨fun g => absurd g (y_lt0 (by omega)), fun _ => ⟨fun g => ?_, fun _ => ⟨fun g => absurd g (by decide), fun _ => ⟨by rw [l13]; exact y_in hi (by omega), ?_⟩⟩⟩⟩
      · rw [show (3 : Int32) = nI 3 from rfl, y_le (by omega) (by omega)] at g; omega
      · rw [ci, e, hP1.2 i hi]; exact hq
    have rfe : ∀ (m : Nat) (Q : e_M → e_F → Prop), w_deals_74 (wf_dl m) Q (nI i) (nI (400 * K_B K + hh)) a b kk M1 F1 → (¬ F1 87 i = 0 → vp_in (F1 87 i) 8001 ∧ ∀ v3, v3 = F1 53 (F1 87 i).toNatClampNeg → (¬ v3 = 0 → Q (um M1 56 (M1 56 + 1)) F1) ∧ (v3 = 0 → (¬ F1 87 i = M1 73 → vp_in (F1 87 i) 8001 ∧ vp_in (F1 87 i) 8001 ∧ Q (um M1 73 (F1 87 i)) (uf (uf F1 52 (F1 87 i) (M1 73)) 53 (F1 87 i) (vp_nar .boolean 1))) ∧ (F1 87 i = M1 73 → Q (um M1 56 (M1 56 + 1)) F1))) ∧ (F1 87 i = 0 → Q M1 F1) := fun m Q h => by
      have h := ((rf m Q h).2.2.2.2.1 rfl).2
      rw [ci] at h
      exact h
    by_cases own0 : F1 87 i = 0
    · refine one M1 F1 (fun m Q _ hw => (rfe m Q hw).2 own0) ⟨rfl, rfl, rfl⟩ ⟨Or.inr q71, fun _ z => absurd z q73⟩ (fun Q n r x s O hA hn hE hC' => cl hA (by decide) ⟨fun g => absurd g (by decide), fun g => absurd g (by decide), fun g => absurd g (by decide), fun _ => cmp hA ⟨fun g => absurd own0 g, fun _ => hC' q71 q73 q77 s O hA⟩, fun g => absurd g (by decide), fun _ _ _ g => absurd rfl g⟩)
    have own' := ti_ne own0
    rw [e_z0] at own'
    have how : 1 ≤ (F1 87 i).toInt ∧ (F1 87 i).toInt ≤ (M1 54).toInt := by omega
    have s53 : ∀ {s : f_S3} {O : Nat × Nat}, S_a K s O M1 F1 → F1 53 (F1 87 i).toNatClampNeg = 0 ∨ F1 53 (F1 87 i).toNatClampNeg = 1 := fun {s O} hA => by
      obtain ⟨t, ht, et, et2, -⟩ := t_ser how
      rw [et2]
      exact (hA.1.2.2.1 t ht).2
    by_cases z53 : F1 53 (F1 87 i).toNatClampNeg = 0
    · by_cases same : F1 87 i = M1 73
      · refine one (um M1 56 (M1 56 + 1)) F1 (fun m Q _ hw => ((((rfe m Q hw).1 own0).2 _ rfl).2 z53).2 same) ⟨rfl, rfl, rfl⟩ ⟨Or.inr q71, fun _ z => absurd z q73⟩ (fun Q n r x s O hA hn hE hC' => cl hA (by decide) ⟨fun g => absurd g (by decide), fun g => absurd g (by decide), fun g => absurd g (by decide), fun _ => cmp hA ⟨fun _ => ?_, fun g => absurd g own0⟩, fun g => absurd g (by decide), fun _ _ _ g => absurd rfl g⟩)
        refine m_setOf hA.1 how ⟨fun _ => ⟨fun g => absurd same g, fun _ => ⟨fun _ => ⟨fun _ => hC' q71 q73 q77 _ O (S_a_23 hA), fun g => absurd g (by decide)⟩, fun g => absurd g (by decide)⟩⟩, fun g => ?_⟩
        rw [z53] at g; exact absurd g (by decide)
      · refine one (um M1 73 (F1 87 i)) (uf (uf F1 52 (F1 87 i) (M1 73)) 53 (F1 87 i) (vp_nar .boolean 1)) (fun m Q _ hw => (((((rfe m Q hw).1 own0).2 _ rfl).2 z53).1 same).2.2) ⟨rfl, rfl, rfl⟩ ⟨Or.inr q71, fun _ z => absurd z own0⟩ (fun Q n r x s O hA hn hE hC' => cl hA (by decide) ⟨fun g => absurd g (by decide), fun g => absurd g (by decide), fun g => absurd g (by decide), fun _ => cmp hA ⟨fun _ => ?_, fun g => absurd g own0⟩, fun g => absurd g (by decide), fun _ _ _ g => absurd rfl g⟩)
        refine m_setOf hA.1 how ⟨fun _ => ⟨fun _ => ⟨fun g => absurd rfl g, fun _ => m_settle_a hA how (fun s2 hA2 => ⟨fun g => absurd rfl g, fun _ => hC' q71 own0 q77 s2 O (S_a_m hA2 ⟨rfl, rfl, rfl⟩ ⟨rfl, rfl, rfl, rfl, rfl⟩)⟩)⟩, fun g => absurd g same⟩, fun g => ?_⟩
        rw [z53] at g; exact absurd g (by decide)
    · refine one (um M1 56 (M1 56 + 1)) F1 (fun m Q _ hw => (((rfe m Q hw).1 own0).2 _ rfl).1 z53) ⟨rfl, rfl, rfl⟩ ⟨Or.inr q71, fun _ z => absurd z q73⟩ (fun Q n r x s O hA hn hE hC' => cl hA (by decide) ⟨fun g => absurd g (by decide), fun g => absurd g (by decide), fun g => absurd g (by decide), fun _ => cmp hA ⟨fun _ => ?_, fun g => absurd g own0⟩, fun g => absurd g (by decide), fun _ _ _ g => absurd rfl g⟩)
      have z1 := (s53 hA).resolve_left z53
      exact m_setOf hA.1 how ⟨fun g => absurd z1 g, fun _ => ⟨fun _ => ⟨fun _ => hC' q71 q73 q77 _ O (S_a_23 hA), fun g => absurd g (by decide)⟩, fun g => absurd g (by decide)⟩⟩
  · -- WEIGH
    have rfw : ∀ (m : Nat) (Q : e_M → e_F → Prop), w_deals_74 (wf_dl m) Q (nI i) (nI (400 * K_B K + hh)) a b kk M1 F1 → (F1 86 j ≤ t_wt F1 (M1 73) → Q M1 F1) ∧ (¬ F1 86 j ≤ t_wt F1 (M1 73) → Q (um M1 77 (nI i)) F1) := fun m Q h => r_weight ((rf m Q h).2.2.2.2.2 (by decide) (by decide) (by decide) (by decide) (by decide))
    by_cases le : F1 86 j ≤ t_wt F1 (M1 73)
    · exact one M1 F1 (fun m Q _ hw => (rfw m Q hw).1 le) ⟨rfl, rfl, rfl⟩ ⟨Or.inr q71, fun _ z => absurd z q73⟩ (fun Q n r x s O hA hn hE hC' => cl hA (by decide) ⟨fun g => absurd g (by decide), fun g => absurd g (by decide), fun g => absurd g (by decide), fun g => absurd g (by decide), fun _ => m_weight hO1 hA.1 ho ⟨fun _ => hC' q71 q73 q77 s O hA, fun g => absurd le g⟩, fun _ _ _ _ g => absurd rfl g⟩)
    · exact one (um M1 77 (nI i)) F1 (fun m Q _ hw => (rfw m Q hw).2 le) ⟨rfl, rfl, rfl⟩ ⟨Or.inr q71, fun _ z => absurd z q73⟩ (fun Q n r x s O hA hn hE hC' => cl hA (by decide) ⟨fun g => absurd g (by decide), fun g => absurd g (by decide), fun g => absurd g (by decide), fun g => absurd g (by decide), fun _ => m_weight hO1 hA.1 ho ⟨fun g => absurd g le, fun _ => z_end hn ((hE s O (st hA)).2.2 q71 q73 c77)⟩, fun _ _ _ _ g => absurd rfl g⟩)
theorem B_all (hN : tN N) (hz : K_z K ≤ N 20) (hB : B = K_B K) (hNn : (K_N K : Int) ≤ Nn) (h1 : hh < K_N K) : ∀ (i : Nat), i ≤ 3 → ∀ (M : e_M) (F : e_F), B_pre K G B Nn E T V M F → B_st N K hh a b i M F := by
  intro i
  induction i with
  | zero => intro _ M F p; exact B_0 hN hz hB hNn h1 p
  | succ i ih => intro hi M F p; exact B_step hN hB hNn h1 (by omega) (ih (by omega)) p
end TQL
