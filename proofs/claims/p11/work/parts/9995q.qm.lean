/-! A TRIAL, in both. -/
section TQM
variable {K : k_K} {N : Nat → Nat} {s s' : f_S3} {O : Nat × Nat} {M M' M1 : e_M} {F F' F1 : e_F} {G : e_G} {B Nn E T V : Int} {a b : Int32} {hh : Nat}
/-- the same code, other things left alone -/
def k_P (K : k_K) (P : (Nat → Int32) × (Nat → Nat → Int32)) : k_K := (K_C K, K_z K, K_A K, K_L K, K_H K, K_x K, K_o K, K_w K, K_B K, K_E K, K_T K, K_V K, K_N K, P)
variable {P : (Nat → Int32) × (Nat → Nat → Int32)}
theorem k_wf_P : ∀ l : List (Nat × Nat), k_wf (k_P K P) l ↔ k_wf K l := by
  intro l
  induction l with
  | nil => exact Iff.rfl
  | cons a l ih =>
    obtain ⟨a, ph⟩ := a
    show (K_o K a = l ∧ (400 * K_B K ≤ a ∧ a < K_T K) ∧ ph ≤ 2 ∧ k_wf (k_P K P) l) ↔ (K_o K a = l ∧ (400 * K_B K ≤ a ∧ a < K_T K) ∧ ph ≤ 2 ∧ k_wf K l)
    rw [ih]
theorem k_cor_P (h : k_cor K F) : k_cor (k_P K P) F := by
  obtain ⟨h1, h2, h3, h4, h5⟩ := h
  refine ⟨h1, fun k a b => ?_, h3, h4, h5⟩
  obtain ⟨c1, c2, c3, c4, c5, c6, c7, c8, c9, c10⟩ := h2 k a b
  exact ⟨c1, c2, c3, c4, c5, c6, c7, c8, c9, (k_wf_P _).mpr c10⟩
/-- both courts between calls: objections; minutes; bench; text -/
def R_m (s : f_S3) (M : e_M) (F : e_F) : Prop := (s.1 32 = M 75 ∧ s.1 33 = M 76 ∧ s.1 34 = M 77 ∧ s.1 35 = M 83) ∧ (s.1 36 = M 78 ∧ s.1 31 = M 80 ∧ s.1 37 = M 81 ∧ s.1 38 = M 82) ∧ ∀ j : Nat, (j : Int) < (M 80).toInt → s.2.1 14 j = F 84 j
def R_p (s : f_S3) (F : e_F) : Prop := (∀ j : Nat, j < 21 → s.2.1 11 j = F 85 j - 1 ∧ s.2.1 12 j = F 86 j) ∧ ∀ j : Nat, j < 3 → s.2.1 13 j = F 87 j
def R_c (K : k_K) (s : f_S3) (F : e_F) : Prop := s.1 63 = nI (K_z K) ∧ (∀ i, i < K_z K → s.2.1 20 i = K_C K i) ∧ ∀ h, h < K_N K → s.2.1 21 h = nI (K_A K (F 18 (400 * K_B K + h)).toNatClampNeg) ∧ s.2.1 22 h = F 19 (400 * K_B K + h)
def R_t (K : k_K) (s : f_S3) (M : e_M) (F : e_F) : Prop := (s.1 64 = M 28 ∧ M 28 = nI (K_N K) ∧ M 27 = nI (K_B K)) ∧ k_cor K F ∧ R_c K s F
def R_o (K : k_K) (s : f_S3) (O : Nat × Nat) (M : e_M) (F : e_F) : Prop := S_D s O M F ∧ R_m s M F ∧ R_p s F ∧ R_t K s M F
/-- what the class's trial does, its calls told -/
def wY_trial (N : Nat → Nat) (p1 p2 p3 p4 : Int32) (s : f_S3) (O : Nat × Nat) (Q : Int32 → f_S3 → Nat × Nat → Prop) : Prop := (p1 < 0 → Q (-1) s O) ∧ (¬ p1 < 0 → (s.1 64 ≤ p1 → Q (-1) s O) ∧ (¬ s.1 64 ≤ p1 → (p4 < 1 → Q (-1) s O) ∧ (¬ p4 < 1 → (p4 ≤ 5000 → wY_X5_open N s O (fun s1 O1 => wY_X2_openTrial N s1 O1 (fun s2 O2 => wY_X0_conduct N p1 p2 p3 (fm s2 48 p4) O2 (fun s3 O3 => Q (s3.1 32) s3 O3)))) ∧ (¬ p4 ≤ 5000 → Q (-1) s O))))
/-- what a trial leaves alone in the class -/
def R_fr (s s' : f_S3) : Prop := s'.1 1 = s.1 1 ∧ s'.1 3 = s.1 3 ∧ s'.1 4 = s.1 4 ∧ s'.2.1 10 = s.2.1 10
theorem tr_both (hN : tN N) (hz : K_z K ≤ N 20) (hI : e_INV M F) (R : R_o K s O M F) (p1 p2 p3 p4 : Int32) : ∃ (r : Int32) (M' : e_M) (F' : e_F), (∀ (Q : Int32 → e_M → e_F → Prop) (n : Nat), 3 ≤ n → w_trial (wf_dl n) p1 p2 p3 p4 M F Q → Q r M' F') ∧ ∀ Q : Int32 → f_S3 → Nat × Nat → Prop, (∀ s' O', R_o K s' O' M' F' → R_fr s s' → Q r s' O') → wY_trial N p1 p2 p3 p4 s O Q := by
  obtain ⟨hD, hM, hP, ⟨t1, t2, t3⟩, hc, hR⟩ := R
  have hb := hc.1
  have no : ∀ Q : Int32 → f_S3 → Nat × Nat → Prop, (∀ s' O', R_o K s' O' M F → R_fr s s' → Q (-1) s' O') → Q (-1) s O := fun Q hQ => hQ s O ⟨hD, hM, hP, ⟨t1, t2, t3⟩, hc, hR⟩ ⟨rfl, rfl, rfl, rfl⟩
  by_cases q1 : p1 < 0
  · exact ⟨-1, M, F, fun Q n _ h => h.1 q1, fun Q hQ => ⟨fun _ => no Q hQ, fun z => absurd q1 z⟩⟩
  by_cases q2 : M 28 ≤ p1
  · exact ⟨-1, M, F, fun Q n _ h => (h.2 q1).1 q2, fun Q hQ => ⟨fun z => absurd z q1, fun _ => ⟨fun _ => no Q hQ, fun z => absurd (by rw [t1]; exact q2) z⟩⟩⟩
  by_cases q3 : p4 < 1
  · exact ⟨-1, M, F, fun Q n _ h => ((h.2 q1).2 q2).1 q3, fun Q hQ => ⟨fun z => absurd z q1, fun _ => ⟨fun _ => no Q hQ, fun _ => ⟨fun _ => no Q hQ, fun z => absurd q3 z⟩⟩⟩⟩
  by_cases q4 : p4 ≤ 5000
  case neg => exact ⟨-1, M, F, fun Q n _ h => (((h.2 q1).2 q2).2 q3).2 q4, fun Q hQ => ⟨fun z => absurd z q1, fun _ => ⟨fun _ => no Q hQ, fun _ => ⟨fun z => absurd z q3, fun _ => ⟨fun z => absurd z q4, fun _ => no Q hQ⟩⟩⟩⟩⟩
  have g1 := ti_nlt q1
  have g2 := ti_nle q2
  have g3 := ti_nlt q3
  have g4 := Int32.le_iff_toInt_le.mp q4
  have l1 : (1 : Int32).toInt = 1 := by decide
  have l5 : (5000 : Int32).toInt = 5000 := by decide
  rw [e_z0] at g1
  have n28 : (M 28).toInt = K_N K := by rw [t2]; exact fs_nI (by omega)
  have n27 : (M 27).toInt = K_B K := by rw [t3]; exact fs_nI (by omega)
  obtain ⟨hh, h1, h2, -, -⟩ := t_nat (x := p1) (n := K_N K) (by omega)
  subst h2
  have e4 : 400 * M 27 + nI hh = nI (400 * K_B K + hh) := by rw [t3, show (400 : Int32) = nI 400 from rfl, pk_mul, nI_add]
  obtain ⟨v1, ⟨G, E, T, V, hC⟩, vO⟩ := hI
  generalize hM0 : um (um (um (um (um (um (um (um (um M 78 0) 79 p4) 80 0) 81 0) 82 0) 55 0) 71 0) 77 (-1)) 74 0 = M0
  have hT : e_TS M0 F := by
    obtain ⟨o1, o2, o3, o4, o5, o6, o7, o8, o9⟩ := vO
    rw [← hM0]
    exact ⟨⟨o1, o2, o3, o4, o5, o6, (by decide : 0 ≤ (0 : Int32).toInt ∧ (0 : Int32).toInt ≤ 200), o8, o9⟩, (show 0 ≤ (0 : Int32).toInt ∧ (0 : Int32).toInt ≤ p4.toInt ∧ p4.toInt ≤ 5000 from by rw [e_z0]; omega)⟩
  generalize hs1 : fm (fm (fm (fm (fm (fm (fm (fm (fm (fm s 31 0) 32 (-1)) 33 0) 34 (-1)) 35 0) 36 0) 37 0) 38 0) 21 (s.1 22)) 48 p4 = s1
  have hA : S_a (k_P K (s1.1, s1.2.1)) s1 O M0 F := by
    rw [← hs1, ← hM0]
    refine ⟨S_D_cg hD ⟨rfl, rfl⟩ rfl ⟨rfl, rfl⟩ ⟨rfl, rfl, rfl, rfl, rfl, rfl⟩, ⟨⟨rfl, rfl, rfl, rfl, rfl⟩, fun j hj => ?_, ?_, ?_⟩, ⟨hR.1, ⟨rfl, rfl, rfl, rfl, rfl, rfl, rfl, rfl⟩, rfl, rfl, rfl, rfl⟩, hR.2.1, hR.2.2⟩
    · have hj : (j : Int) < (0 : Int32).toInt := hj
      rw [e_z0] at hj; omega
    · show s.1 22 - s.1 22 = 0
      exact Int32.sub_self _
    · exact (by decide : 0 ≤ (0 : Int32).toInt ∧ (0 : Int32).toInt ≤ 100)
  have hPP : S_P (k_P K (s1.1, s1.2.1)) F := by
    rw [← hs1]
    exact hP
  have h71 : M0 71 = 0 := by rw [← hM0]; rfl
  have h77 : M0 77 = -1 := by rw [← hM0]; rfl
  obtain ⟨M1, F1, c, w1, ⟨⟨w2, w3⟩, w4⟩, ⟨w5, w6⟩, w7, w8⟩ := B_all (K := k_P K (s1.1, s1.2.1)) (G := G) (B := (M 27).toInt) (Nn := (M 28).toInt) (E := E) (T := T) (V := V) (a := p2) (b := p3) (hh := hh) hN hz n27 (show (K_N K : Int) ≤ (M 28).toInt by omega) h1 3 (Nat.le_refl _) M0 F ⟨hC, hT, k_cor_P hc, hPP, h71, h77⟩
  have hcc := T_c_le 3 (by decide)
  have xr : e_XR M F M1 F1 := e_XR_tr (M1 := M0) (F1 := F) ⟨fun k hk => by rw [← hM0, e_um_ne (by omega), e_um_ne (by omega), e_um_ne (by omega), e_um_ne (by omega), e_um_ne (by omega), e_um_ne (by omega), e_um_ne (by omega), e_um_ne (by omega), e_um_ne (by omega)], fun _ _ => rfl⟩ w2
  have c1 : k_cor K F1 := k_cor_cg hc xr.2
  -- the reference's end
  have rf : ∀ (Q : Int32 → e_M → e_F → Prop) (n : Nat), 3 ≤ n → w_trial (wf_dl n) (nI hh) p2 p3 p4 M F Q → ((M1 71 = 0 → ((M1 77 = -1 → ((M1 73 = 0 → w_trial_127 (wf_dl n) Q 0 M1 F1) ∧ (¬ M1 73 = 0 → w_trial_127 (wf_dl n) Q 2 M1 F1))) ∧ (¬ M1 77 = -1 → w_trial_127 (wf_dl n) Q 1 M1 F1))) ∧ (¬ M1 71 = 0 → w_trial_127 (wf_dl n) Q 3 M1 F1)) := fun Q n hn h => by
    have h := (((h.2 q1).2 q2).2 q3).1 q4
    rw [e4, hM0] at h
    exact w1 n _ hn ⟨fun _ => h, fun z => absurd z (show ¬ nI 3 = 0 by decide)⟩
  -- what holds of the class then
  have fin : ∀ (s3 s4 : f_S3) (O4 : Nat × Nat) (x32 x33 x34 x35 : Int32) (M4 : e_M), S_a (k_P K (s1.1, s1.2.1)) s3 O4 M1 F1 → (∀ i, i ≠ 32 → i ≠ 33 → i ≠ 34 → i ≠ 35 → s4.1 i = s3.1 i) → s4.2.1 = s3.2.1 → (s4.1 32 = x32 ∧ s4.1 33 = x33 ∧ s4.1 34 = x34 ∧ s4.1 35 = x35) → (M4 75 = x32 ∧ M4 76 = x33 ∧ M4 77 = x34 ∧ M4 83 = x35) → (∀ i, i ≠ 75 → i ≠ 76 → i ≠ 77 → i ≠ 83 → M4 i = M1 i) → R_o K s4 O4 M4 F1 ∧ R_fr s s4 := fun s3 s4 O4 x32 x33 x34 x35 M4 hA4 e4f e4r ⟨y1, y2, y3, y4⟩ ⟨z1, z2, z3, z4⟩ eM => by
    obtain ⟨hD3, ⟨⟨m1, m2, m3, m4, m5⟩, m6, m7⟩, ⟨c63, ⟨f1, f3, f4, -, -, -, -, f64⟩, r10, r11, r12, r13⟩, c2, c3⟩ := hA4
    have ef : ∀ i, i ∈ [1, 3, 4, 22, 23, 31, 36, 37, 38, 63, 64] → s4.1 i = s3.1 i := fun i hi => e4f i (fun q => by rw [q] at hi; exact absurd hi (by decide)) (fun q => by rw [q] at hi; exact absurd hi (by decide)) (fun q => by rw [q] at hi; exact absurd hi (by decide)) (fun q => by rw [q] at hi; exact absurd hi (by decide))
    have eq : ∀ i, i ∈ [27, 28, 54, 56, 78, 80, 81, 82] → M4 i = M1 i := fun i hi => eM i (fun q => by rw [q] at hi; exact absurd hi (by decide)) (fun q => by rw [q] at hi; exact absurd hi (by decide)) (fun q => by rw [q] at hi; exact absurd hi (by decide)) (fun q => by rw [q] at hi; exact absurd hi (by decide))
    have f1' : s3.1 1 = s.1 1 := f1.trans (by rw [← hs1]; rfl)
    have f3' : s3.1 3 = s.1 3 := f3.trans (by rw [← hs1]; rfl)
    have f4' : s3.1 4 = s.1 4 := f4.trans (by rw [← hs1]; rfl)
    have f64' : s3.1 64 = s.1 64 := f64.trans (by rw [← hs1]; rfl)
    have r10' : s3.2.1 10 = s.2.1 10 := r10.trans (by rw [← hs1]; rfl)
    have r11' : s3.2.1 11 = s.2.1 11 := r11.trans (by rw [← hs1]; rfl)
    have r12' : s3.2.1 12 = s.2.1 12 := r12.trans (by rw [← hs1]; rfl)
    have r13' : s3.2.1 13 = s.2.1 13 := r13.trans (by rw [← hs1]; rfl)
    have e18 : F1 18 = F 18 := xr.2 18 (by decide)
    have e19 : F1 19 = F 19 := xr.2 19 (by decide)
    refine ⟨⟨S_D_cg hD3 ⟨ef 22 (by decide), ef 23 (by decide)⟩ (by rw [e4r]) ⟨eq 54 (by decide), eq 56 (by decide)⟩ ⟨rfl, rfl, rfl, rfl, rfl, rfl⟩, ⟨⟨y1.trans z1.symm, y2.trans z2.symm, y3.trans z3.symm, y4.trans z4.symm⟩, ⟨?_, ?_, ?_, ?_⟩, fun j hj => ?_⟩, ⟨fun j hj => ?_, fun j hj => ?_⟩, ⟨?_, ?_, ?_⟩, c1, ?_, fun i hi => ?_, fun i hi => ?_⟩, ?_, ?_, ?_, ?_⟩
    · rw [ef 36 (by decide), eq 78 (by decide)]; exact m1
    · rw [ef 31 (by decide), eq 80 (by decide)]; exact m3
    · rw [ef 37 (by decide), eq 81 (by decide)]; exact m5
    · rw [ef 38 (by decide), eq 82 (by decide)]; exact m4
    · rw [e4r]; rw [eq 80 (by decide)] at hj; exact m6 j hj
    · rw [e4r, r11', r12', w4.1, w4.2.1]; exact hP.1 j hj
    · rw [e4r, r13', w4.2.2]; exact hP.2 j hj
    · rw [ef 64 (by decide), f64', eq 28 (by decide), xr.1 28 (by decide)]; exact t1
    · rw [eq 28 (by decide), xr.1 28 (by decide)]; exact t2
    · rw [eq 27 (by decide), xr.1 27 (by decide)]; exact t3
    · rw [ef 63 (by decide)]; exact c63
    · rw [e4r]; exact c2 i hi
    · rw [e4r]; exact c3 i hi
    · rw [ef 1 (by decide)]; exact f1'
    · rw [ef 3 (by decide)]; exact f3'
    · rw [ef 4 (by decide)]; exact f4'
    · rw [e4r]; exact r10'
  have k33 : ∀ (s3 : f_S3) (O4 : Nat × Nat), S_a (k_P K (s1.1, s1.2.1)) s3 O4 M1 F1 → s3.1 33 = 0 ∧ s3.1 34 = -1 ∧ s3.1 35 = 0 := fun s3 O4 hA4 => by
    obtain ⟨-, -, ⟨-, ⟨-, -, -, -, f33, f34, f35, -⟩, -⟩, -⟩ := hA4
    exact ⟨f33.trans (by rw [← hs1]; rfl), f34.trans (by rw [← hs1]; rfl), f35.trans (by rw [← hs1]; rfl)⟩
  -- the class runs
  have cl : ∀ (Q : Int32 → f_S3 → Nat × Nat → Prop), E_q (k_P K (s1.1, s1.2.1)) M1 F1 (fun s3 O3 => Q (s3.1 32) s3 O3) → (M1 71 = 0 → ¬ M1 73 = 0 → M1 77 = -1 → ∀ s' O', S_a (k_P K (s1.1, s1.2.1)) s' O' M1 F1 → Q 2 (fm (fm s' 32 2) 35 (M1 73)) O') → wY_trial N (nI hh) p2 p3 p4 s O Q := fun Q hE hU => by
    refine ⟨fun z => absurd z q1, fun _ => ⟨fun z => absurd (by rw [t1] at z; exact z) q2, fun _ => ⟨fun z => absurd z q3, fun _ => ⟨fun _ => ?_, fun z => absurd q4 z⟩⟩⟩⟩
    show wY_X8_hold N (nI hh) p2 p3 (fm (fm (fm (fm (fm (fm (fm (fm (fm (fm s 31 0) 32 (-1)) 33 0) 34 (-1)) 35 0) 36 0) 37 0) 38 0) 21 (s.1 22)) 48 p4) O (fun r1 M2 O2 => ∃ e21, wY_X0_conduct_21 N (fun s3 O3 => Q (s3.1 32) s3 O3) e21 (nI hh) p2 p3 0 0 r1 0 M2 O2)
    rw [hs1]
    refine w8 O s1 hA (fun s3 O3 => Q (s3.1 32) s3 O3) 1 0 0 (Nat.le_refl _) (by decide) (by decide) (by omega) hE (fun z1 z2 z3 s' O' r' hA' _ _ => ?_) _ (fun r1 s2 O2 g => ⟨1 + c, g⟩)
    have e : wY_X0_conduct_211 N (fun s3 O3 => Q (s3.1 32) s3 O3) (M1 73) s' O' := ⟨fun z => absurd z z2, fun _ => hU z1 z2 z3 s' O' hA'⟩
    exact ⟨fun _ => e, fun _ => ⟨fun _ => e, fun _ => ⟨fun _ => e, fun z => absurd (show (3 : Int32) ≤ nI 3 by decide) z⟩⟩⟩
  by_cases z71 : M1 71 = 0
  case neg =>
    have o71 : M1 71 = 1 := w5.resolve_right z71
    refine ⟨3, um (um (um (um M1 75 3) 77 (-1)) 76 0) 83 0, F1, fun Q n hn h => ?_, fun Q hQ => cl Q (fun s3 O3 hA3 => ⟨fun _ => ?_, fun z => absurd z z71, fun z => absurd z z71⟩) (fun z => absurd z z71)⟩
    · have h2 := ((rf Q n hn h).2 z71).2 (show ¬ M1 71 = 0 from z71)
      exact ((h2.1 (show ¬ (3 : Int32) = 0 by decide)).2 (show ¬ (3 : Int32) = 1 by decide)).1 (show ¬ (3 : Int32) = 2 by decide)
    · obtain ⟨u1, u2, u3⟩ := k33 s3 O3 hA3
      obtain ⟨r1, r2⟩ := fin s3 (fm s3 32 3) O3 3 0 (-1) 0 (um (um (um (um M1 75 3) 77 (-1)) 76 0) 83 0) hA3 (fun i h1 _ _ _ => e_um_ne h1) rfl ⟨rfl, u1, u2, u3⟩ ⟨rfl, rfl, rfl, rfl⟩ (fun i h1 h2 h3 h4 => by rw [e_um_ne h4, e_um_ne h2, e_um_ne h3, e_um_ne h1])
      exact hQ _ O3 r1 r2
  by_cases z77 : M1 77 = -1
  case neg =>
    have z73 : ¬ M1 73 = 0 := fun z => z77 (w6 z71 z)
    refine ⟨1, um (um (um M1 75 1) 76 0) 83 (M1 73), F1, fun Q n hn h => ?_, fun Q hQ => cl Q (fun s3 O3 hA3 => ⟨fun z => absurd (z71.symm.trans z) (by decide), fun _ z => absurd z z73, fun _ _ _ => ?_⟩) (fun _ _ z => absurd z z77)⟩
    · have h2 := (((rf Q n hn h).1 z71).2 z77).1 z71
      exact (h2.1 (show ¬ (1 : Int32) = 0 by decide)).1 rfl
    · obtain ⟨u1, u2, u3⟩ := k33 s3 O3 hA3
      obtain ⟨r1, r2⟩ := fin s3 (fm (fm (fm s3 32 1) 34 (M1 77)) 35 (M1 73)) O3 1 0 (M1 77) (M1 73) (um (um (um M1 75 1) 76 0) 83 (M1 73)) hA3 (fun i h1 _ h3 h4 => (e_um_ne h4).trans ((e_um_ne h3).trans (e_um_ne h1))) rfl ⟨rfl, u1, rfl, rfl⟩ ⟨rfl, rfl, rfl, rfl⟩ (fun i h1 h2 h3 h4 => by rw [e_um_ne h4, e_um_ne h2, e_um_ne h1])
      exact hQ _ O3 r1 r2
  by_cases z73 : M1 73 = 0
  · refine ⟨0, um (um (um M1 75 0) 76 (M1 74)) 83 0, F1, fun Q n hn h => ?_, fun Q hQ => cl Q (fun s3 O3 hA3 => ⟨fun z => absurd (z71.symm.trans z) (by decide), fun _ _ => ?_, fun _ z => absurd z73 z⟩) (fun _ z => absurd z73 z)⟩
    · have h2 := ((((rf Q n hn h).1 z71).1 z77).1 z73).1 z71
      exact ((h2.2 rfl).2 (show ¬ (0 : Int32) = 1 by decide)).1 (show ¬ (0 : Int32) = 2 by decide)
    · obtain ⟨u1, u2, u3⟩ := k33 s3 O3 hA3
      obtain ⟨r1, r2⟩ := fin s3 (fm (fm s3 32 0) 33 (M1 74)) O3 0 (M1 74) (-1) 0 (um (um (um M1 75 0) 76 (M1 74)) 83 0) hA3 (fun i h1 h2 _ _ => (e_um_ne h2).trans (e_um_ne h1)) rfl ⟨rfl, rfl, u2, u3⟩ ⟨rfl, rfl, z77, rfl⟩ (fun i h1 h2 h3 h4 => by rw [e_um_ne h4, e_um_ne h2, e_um_ne h1])
      exact hQ _ O3 r1 r2
  · refine ⟨2, um (um (um M1 75 2) 76 0) 83 (M1 73), F1, fun Q n hn h => ?_, fun Q hQ => cl Q (fun s3 O3 hA3 => ⟨fun z => absurd (z71.symm.trans z) (by decide), fun _ z => absurd z z73, fun _ _ z => absurd z77 z⟩) (fun _ _ _ s3 O3 hA3 => ?_)⟩
    · have h2 := ((((rf Q n hn h).1 z71).1 z77).2 z73).1 z71
      exact ((h2.1 (show ¬ (2 : Int32) = 0 by decide)).2 (show ¬ (2 : Int32) = 1 by decide)).2 rfl
    · obtain ⟨u1, u2, u3⟩ := k33 s3 O3 hA3
      obtain ⟨r1, r2⟩ := fin s3 (fm (fm s3 32 2) 35 (M1 73)) O3 2 0 (-1) (M1 73) (um (um (um M1 75 2) 76 0) 83 (M1 73)) hA3 (fun i h1 _ _ h4 => (e_um_ne h4).trans (e_um_ne h1)) rfl ⟨rfl, u1, u2, rfl⟩ ⟨rfl, rfl, z77, rfl⟩ (fun i h1 h2 h3 h4 => by rw [e_um_ne h4, e_um_ne h2, e_um_ne h1])
      exact hQ _ O3 r1 r2
end TQM
