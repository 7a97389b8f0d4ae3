/-! THE CLASS'S TRIES: a lastly begun, gone on behind, an uphold begun. -/
section TQ6
variable {K : k_K} {N : Nat → Nat} {s s' : f_S3} {O : Nat × Nat} {M M' : e_M} {F F' : e_F} {p : Nat} {st ra : Int32}
theorem t_anyp (x : Int32) : ∃ q : Nat, x = nI q := ⟨x.toBitVec.toNat, by
  apply Int32.toBitVec_inj.mp
  show x.toBitVec = BitVec.ofNat 32 x.toBitVec.toNat
  simp⟩
theorem ff18 {s : f_S3} {i : Nat} {v : Int32} (hi : i < 2 ^ 31) (j : Nat) : (ff s 18 (nI i) v).2.1 18 j = if j = i then v else s.2.1 18 j := by
  show uf s.2.1 18 (nI i) v 18 j = _
  simp only [uf_at2, y_cl hi, true_and]
/-- what a lastly begun leaves in the reference -/
def g_F (F : e_F) (t : Nat) (q v : Int32) : e_F := uf (uf (uf F 64 (nI t) 2) 65 (nI t) q) 66 (nI t) v
theorem g_F_ne {t : Nat} {q v : Int32} {r : Nat} (hr : r ≠ 64 ∧ r ≠ 65 ∧ r ≠ 66) : g_F F t q v r = F r := by
  unfold g_F
  rw [e_uf_ne hr.2.2, e_uf_ne hr.2.1, e_uf_ne hr.1]
theorem g_F_at {t : Nat} (ht : t < 240) {q v : Int32} (j : Nat) : g_F F t q v 64 j = (if j = t then 2 else F 64 j) ∧ g_F F t q v 65 j = (if j = t then q else F 65 j) ∧ g_F F t q v 66 j = (if j = t then v else F 66 j) := by
  have e : (nI t).toNatClampNeg = t := y_cl (by omega)
  unfold g_F
  refine ⟨?_, ?_, ?_⟩ <;> simp only [uf_at2, e] <;> simp
theorem S_T_g {t : Nat} (ht : t < 240) {q v : Int32} (h51 : s'.1 51 = s.1 51) (h67 : (M 67).toInt = (t : Int) + 1) (hr : ∀ j, s'.2.1 18 j = if j = 5 * t + 4 then v else if j = 5 * t + 3 then q else if j = 5 * t + 2 then -1 else if j = 5 * t + 1 then -1 else s.2.1 18 j) (h : S_T K s M F) : S_T K s' M (g_F F t q v) := by
  obtain ⟨h1, h2, h3⟩ := h
  refine ⟨h51.trans h1, fun t' ht' => ?_, fun i t' hi hb hb' ht' => ?_⟩
  · obtain ⟨a1, a2, a3⟩ := h2 t' ht'
    obtain ⟨g1, g2, g3⟩ := g_F_at (F := F) ht (q := q) (v := v) t'
    by_cases z : t' = t
    · subst z
      rw [if_pos rfl] at g1 g2 g3
      rw [g1, g2, g3, hr, hr, hr, hr]
      refine ⟨?_, ?_, fun _ => ⟨?_, ?_⟩⟩
      · rw [if_neg (by omega), if_neg (by omega), if_neg (by omega), if_pos rfl, if_neg (by decide)]
      · rw [if_neg (by omega), if_neg (by omega), if_pos rfl, if_pos rfl]
      · rw [if_neg (by omega), if_pos rfl]
      · rw [if_pos rfl]
    · have hne : ∀ c : Nat, c < 5 → s'.2.1 18 (5 * t' + c) = s.2.1 18 (5 * t' + c) := fun c hc => by
        rw [hr, if_neg (by omega), if_neg (by omega), if_neg (by omega), if_neg (by omega)]
      rw [if_neg z] at g1 g2 g3
      rw [g1, g2, g3, g_F_ne (r := 20) (by decide), g_F_ne (r := 63) (by decide), hne 1 (by decide), hne 2 (by decide), hne 3 (by decide), hne 4 (by decide)]
      exact ⟨a1, a2, a3⟩
  · have e : ∀ i, e_b (g_F F t q v) i = e_b F i := fun i => by unfold e_b; rw [g_F_ne (r := 61) (by decide)]
    rw [e] at hb
    rw [e] at hb'
    rw [hr, if_neg (by omega), if_neg (by omega), if_neg (by omega), if_neg (by omega)]
    exact h3 i t' hi hb hb' ht'
theorem m_doLastly (hN : tN N) {f t : Nat} {q v : Int32} (hA : S_a K s O M F) (hB : S_b K s M F) (h53 : s.1 53 = st) (h54 : s.1 54 = ra) (h67 : (M 67).toInt = (t : Int) + 1) (ht : t < 240) (hph : ¬ F 64 t = 2) (h62 : (M 62).toInt = f) (hf : 1 ≤ f ∧ f ≤ 12) (hb : e_b F (f - 1) ≤ t) (h69 : M 69 = 0) {Q : f_S3 → Nat × Nat → Prop} (hQ : ∀ s', S_s K (K_L K (F 63 t).toNatClampNeg) st ra s' O M (g_F F t q v) → Q s' O) : wY_X8_doLastly N q v s O Q := by
  obtain ⟨hD, hM, hC⟩ := hA
  obtain ⟨hNN, hR, hT⟩ := hB
  have e51 : s.1 51 - 1 = nI t := by
    obtain ⟨j, h1, h2, h3, -⟩ := t_nat (x := M 67) (n := 241) (by omega)
    rw [hT.1, h2, show (1 : Int32) = nI 1 from rfl, y_sub (by omega) (by omega)]
    congr 1; omega
  have e62 : M 62 = nI f := by
    obtain ⟨j, h1, h2, h3, -⟩ := t_nat (x := M 62) (n := 13) (by omega)
    rw [h2]; congr 1; omega
  obtain ⟨a1, a2, a3⟩ := hT.2.1 t (by omega)
  have a0 : s.2.1 18 (5 * t) = nI f := by
    have := hT.2.2 (f - 1) t (by omega) hb (fun z => by omega) (by omega)
    rw [this]; congr 1; omega
  rw [if_neg hph] at a2
  unfold wY_X8_doLastly
  rw [e51]
  refine m_tf hN (c := 2) ht (by decide) (m_tf hN (c := 0) ht (by decide) (m_stf hN (c := 1) ht (by decide) (m_stf hN (c := 2) ht (by decide) (m_stf hN (c := 3) ht (by decide) (m_stf hN (c := 4) ht (by decide) (hQ _ ⟨⟨?_, h53, h54⟩, ⟨S_D_cg hD ⟨rfl, rfl⟩ rfl ⟨rfl, rfl⟩ ⟨rfl, rfl, rfl, rfl, rfl, rfl⟩, S_M_cg hM ⟨rfl, rfl, rfl, rfl, rfl, rfl, rfl⟩ rfl ⟨rfl, rfl, rfl, rfl, rfl, rfl⟩ rfl, S_C_cg hC rfl ⟨rfl, rfl, rfl⟩ ⟨rfl, rfl⟩⟩, ⟨S_N_cg hNN ⟨rfl, rfl⟩ rfl ⟨rfl, rfl⟩, S_R_cg hR rfl rfl ⟨rfl, rfl, rfl, rfl⟩, S_T_g (s := s) ht ?_ h67 (fun j => ?_) hT⟩, ?_, ?_, fun j hj => ?_⟩))))))
  · exact a2
  · rfl
  · rw [ff18 (by omega), ff18 (by omega), ff18 (by omega), ff18 (by omega)]
    rfl
  · show s.2.1 18 (5 * t + 0) = M 62
    rw [Nat.add_zero, a0, e62]
  · show (0 : Int32) = M 69
    exact h69.symm
  · rw [h69, e_z0] at hj; omega
theorem S_T_67 {t : Nat} (h67 : (M 67).toInt = (t : Int) + 1) (h : S_T K s M F) (h51 : s'.1 51 = s.1 51 - 1) (r : s'.2.1 18 = s.2.1 18) : S_T K s' (um M 67 (M 67 - 1)) F := by
  obtain ⟨h1, h2, h3⟩ := h
  have e : (M 67 - 1).toInt = t := by rw [ti_subx _ _ (by rw [show (1 : Int32).toInt = 1 by decide]; have := Int32.toInt_lt (M 67); omega), show (1 : Int32).toInt = 1 by decide]; omega
  refine ⟨?_, fun t' ht' => ?_, fun i t' hi hb hb' ht' => ?_⟩
  · show s'.1 51 = M 67 - 1
    rw [h51, h1]
  · have ht' : (t' : Int) < (M 67 - 1).toInt := ht'
    rw [r]; exact h2 t' (by omega)
  · have ht' : (t' : Int) < (M 67 - 1).toInt := ht'
    rw [r]; exact h3 i t' hi hb hb' (by omega)
theorem S_s_67 {t : Nat} (h67 : (M 67).toInt = (t : Int) + 1) (h : S_s K p st ra s O M F) : S_s K p st ra (fm s 51 (s.1 51 - 1)) O (um M 67 (M 67 - 1)) F := by
  obtain ⟨⟨a1, a2, a3⟩, ⟨hD, hM, hC⟩, ⟨hNN, hR, hT⟩, hd, hV⟩ := h
  exact ⟨⟨a1, a2, a3⟩, ⟨S_D_cg hD ⟨rfl, rfl⟩ rfl ⟨rfl, rfl⟩ ⟨rfl, rfl, rfl, rfl, rfl, rfl⟩, S_M_cg hM ⟨rfl, rfl, rfl, rfl, rfl, rfl, rfl⟩ rfl ⟨rfl, rfl, rfl, rfl, rfl, rfl⟩ rfl, S_C_cg hC rfl ⟨rfl, rfl, rfl⟩ ⟨rfl, rfl⟩⟩, ⟨S_N_cg hNN ⟨rfl, rfl⟩ rfl ⟨rfl, rfl⟩, S_R_cg hR rfl rfl ⟨rfl, rfl, rfl, rfl⟩, S_T_67 h67 hT rfl rfl⟩, hd, S_V_cg hV rfl rfl rfl rfl⟩
/-- beyond the open tries nothing is told -/
theorem S_T_un {t : Nat} (ht : t < 240) {q v : Int32} (h67 : (M 67).toInt ≤ t) (h : S_T K s M (g_F F t q v)) : S_T K s M F := by
  obtain ⟨h1, h2, h3⟩ := h
  refine ⟨h1, fun t' ht' => ?_, fun i t' hi hb hb' ht' => ?_⟩
  · have := h2 t' ht'
    obtain ⟨g1, g2, g3⟩ := g_F_at (F := F) ht (q := q) (v := v) t'
    have z : ¬ t' = t := by omega
    rw [if_neg z] at g1 g2 g3
    rw [g1, g2, g3, g_F_ne (r := 20) (by decide), g_F_ne (r := 63) (by decide)] at this
    exact this
  · have e : ∀ i, e_b (g_F F t q v) i = e_b F i := fun i => by unfold e_b; rw [g_F_ne (r := 61) (by decide)]
    exact h3 i t' hi (by rw [e]; exact hb) (fun z => by rw [e]; exact hb' z) ht'
theorem S_s_un {t : Nat} (ht : t < 240) {q v : Int32} (h67 : (M 67).toInt ≤ t) (h : S_s K p st ra s O M (g_F F t q v)) : S_s K p st ra s O M F := by
  have n : ∀ r, r ≠ 64 ∧ r ≠ 65 ∧ r ≠ 66 → F r = g_F F t q v r := fun r hr => (g_F_ne hr).symm
  obtain ⟨h1, ⟨hD, hM, hC⟩, ⟨hNN, hR, hT⟩, hd, hV⟩ := h
  exact ⟨h1, ⟨S_D_cg hD ⟨rfl, rfl⟩ rfl ⟨rfl, rfl⟩ ⟨n 48 (by decide), n 49 (by decide), n 50 (by decide), n 51 (by decide), n 52 (by decide), n 53 (by decide)⟩, S_M_cg hM ⟨rfl, rfl, rfl, rfl, rfl, rfl, rfl⟩ rfl ⟨rfl, rfl, rfl, rfl, rfl, rfl⟩ (n 84 (by decide)), S_C_cg hC rfl ⟨rfl, rfl, rfl⟩ ⟨n 18 (by decide), n 19 (by decide)⟩⟩, ⟨S_N_cg hNN ⟨rfl, rfl⟩ rfl ⟨n 57 (by decide), n 58 (by decide)⟩, S_R_cg hR rfl rfl ⟨n 59 (by decide), n 60 (by decide), n 13 (by decide), n 16 (by decide)⟩, S_T_un ht h67 hT⟩, hd, S_V_cg hV rfl rfl rfl (n 68 (by decide))⟩
theorem m_resume (hN : tN N) {t : Nat} (h : S_s K p st ra s O M F) (h67 : (M 67).toInt = (t : Int) + 1) (ht : t < 240) (hph : F 64 t = 2) {Q : f_S3 → Nat × Nat → Prop} (hQ1 : F 65 t = 1 → ∀ s', S_s K p st (F 66 t) s' O (um M 67 (M 67 - 1)) F → Q s' O) (hQ2 : F 65 t = 2 → ∀ s', S_s K p st ra s' O (um M 67 (M 67 - 1)) F → wY_X8_rest N (F 66 t) s' O (fun s2 O2 => Q s2 O2)) (hQ3 : ¬ F 65 t = 1 → ¬ F 65 t = 2 → ∀ s', S_s K p st ra s' O (um M 67 (M 67 - 1)) F → Q s' O) : wY_X8_goOnBehindLastly N s O Q := by
  have h' := S_s_67 h67 h
  have hT := h.2.2.1.2.2
  have e51 : s.1 51 - 1 = nI t := by
    obtain ⟨j, h1, h2, h3, -⟩ := t_nat (x := M 67) (n := 241) (by omega)
    rw [hT.1, h2, show (1 : Int32) = nI 1 from rfl, y_sub (by omega) (by omega)]
    congr 1; omega
  obtain ⟨-, -, a3⟩ := hT.2.1 t (by omega)
  obtain ⟨a4, a5⟩ := a3 hph
  unfold wY_X8_goOnBehindLastly
  rw [e51] at h' ⊢
  refine m_tf hN (c := 4) ht (by decide) (m_tf hN (c := 3) ht (by decide) ⟨fun q => ?_, fun q => ?_, fun q1 q2 => ?_⟩)
  · have e1 : (fm s 51 (nI t)).2.1 18 (5 * t + 4) = F 66 t := a5
    rw [e1]
    exact hQ1 (a4.symm.trans q) _ (S_s_ra h')
  · have e1 : (fm s 51 (nI t)).2.1 18 (5 * t + 4) = F 66 t := a5
    rw [e1]
    exact hQ2 (a4.symm.trans q) _ h'
  · exact hQ3 (fun z => q1 (a4.trans z)) (fun z => q2 (a4.trans z)) _ h'
/-- what an uphold begun leaves in the reference -/
def u_F (F : e_F) (t : Nat) (M : e_M) (u : Nat) (o : Int32) : e_F := if F 24 u = -1 then uf F 64 (nI t) 1 else uf (uf F 64 (nI t) 1) 58 (8 * (M 62 - 1) + F 24 u) o
theorem S_T_p {t : Nat} (ht : t < 240) (h51 : s'.1 51 = s.1 51) (hph : F 64 t = 0) (hr : ∀ j, s'.2.1 18 j = if j = 5 * t + 1 then -1 else s.2.1 18 j) (h : S_T K s M F) : S_T K s' M (uf F 64 (nI t) 1) := by
  have e : (nI t).toNatClampNeg = t := y_cl (by omega)
  have g1 : ∀ j, uf F 64 (nI t) 1 64 j = if j = t then 1 else F 64 j := fun j => by simp only [uf_at2, e, true_and]
  obtain ⟨h1, h2, h3⟩ := h
  refine ⟨h51.trans h1, fun t' ht' => ?_, fun i t' hi hb hb' ht' => ?_⟩
  · obtain ⟨a1, a2, a3⟩ := h2 t' ht'
    have g2 := g1 t'
    show _ = (if uf F 64 (nI t) 1 64 t' = 0 then k_hx K (F 20 (F 63 t').toNatClampNeg) else -1) ∧ _ = (if uf F 64 (nI t) 1 64 t' = 2 then -1 else nI (K_L K (F 63 t').toNatClampNeg)) ∧ (uf F 64 (nI t) 1 64 t' = 2 → _ = F 65 t' ∧ _ = F 66 t')
    by_cases z : t' = t
    · subst z
      rw [if_pos rfl] at g2
      rw [g2]
      refine ⟨?_, ?_, fun w => absurd w (by decide)⟩
      · rw [hr, if_pos rfl, if_neg (by decide)]
      · rw [hr, if_neg (by omega), if_neg (by decide), a2, hph, if_neg (by decide)]
    · have hne : ∀ c : Nat, c < 5 → s'.2.1 18 (5 * t' + c) = s.2.1 18 (5 * t' + c) := fun c hc => by
        rw [hr, if_neg (by omega)]
      rw [if_neg z] at g2
      rw [g2, hne 1 (by decide), hne 2 (by decide), hne 3 (by decide), hne 4 (by decide)]
      exact ⟨a1, a2, a3⟩
  · rw [hr, if_neg (by omega)]
    exact h3 i t' hi hb hb' ht'
theorem m_doUphold (hN : tN N) (hz : K_z K ≤ N 20) (hc : k_cor K F) {f t u : Nat} {o : Int32} (hu : 400 * K_B K ≤ u ∧ u < K_V K) (hA : S_a K s O M F) (hB : S_b K s M F) (h53 : s.1 53 = st) (h54 : s.1 54 = o) (h67 : (M 67).toInt = (t : Int) + 1) (ht : t < 240) (hph : F 64 t = 0) (h62 : (M 62).toInt = f) (hf : 1 ≤ f ∧ f ≤ 12) (hb : e_b F (f - 1) ≤ t) (h69 : M 69 = 0) {Q : f_S3 → Nat × Nat → Prop} (hQ : ∀ s', S_s K (K_H K u + 3) st 0 s' O M (u_F F t M u o) → Q s' O) : wY_X8_doUphold N (nI (K_H K u)) s O Q := by
  obtain ⟨hD, hM, hC⟩ := hA
  obtain ⟨hNN, hR, hT⟩ := hB
  have e51 : s.1 51 - 1 = nI t := by
    obtain ⟨j, h1, h2, h3, -⟩ := t_nat (x := M 67) (n := 241) (by omega)
    rw [hT.1, h2, show (1 : Int32) = nI 1 from rfl, y_sub (by omega) (by omega)]
    congr 1; omega
  have e62 : M 62 = nI f := by
    obtain ⟨j, h1, h2, h3, -⟩ := t_nat (x := M 62) (n := 13) (by omega)
    rw [h2]; congr 1; omega
  have a0 : s.2.1 18 (5 * t) = nI f := by
    have := hT.2.2 (f - 1) t (by omega) hb (fun z => by omega) (by omega)
    rw [this]; congr 1; omega
  obtain ⟨u1, u2, u3, u4, u5, u6, u7, u8⟩ := hc.2.2.2.1 u hu.1 hu.2
  have base : ∀ q : Nat, s.1 49 = nI q → S_s K q st o (ff (fm (fm s 50 (s.2.1 18 (5 * t + 0))) 52 0) 18 (nI (5 * t + 1)) (-1)) O M (uf F 64 (nI t) 1) := by
    intro q hq
    refine ⟨⟨hq, h53, h54⟩, ⟨S_D_cg hD ⟨rfl, rfl⟩ rfl ⟨rfl, rfl⟩ ⟨rfl, rfl, rfl, rfl, rfl, rfl⟩, S_M_cg hM ⟨rfl, rfl, rfl, rfl, rfl, rfl, rfl⟩ rfl ⟨rfl, rfl, rfl, rfl, rfl, rfl⟩ rfl, S_C_cg hC rfl ⟨rfl, rfl, rfl⟩ ⟨rfl, rfl⟩⟩, ⟨S_N_cg hNN ⟨rfl, rfl⟩ rfl ⟨rfl, rfl⟩, S_R_cg hR rfl rfl ⟨rfl, rfl, rfl, rfl⟩, S_T_p (s := s) ht rfl hph (fun j => ff18 (by omega) j) hT⟩, ?_, ?_, fun j hj => ?_⟩
    · show s.2.1 18 (5 * t + 0) = M 62
      rw [Nat.add_zero, a0, e62]
    · show (0 : Int32) = M 69
      exact h69.symm
    · rw [h69, e_z0] at hj; omega
  obtain ⟨q, hq⟩ := t_anyp (s.1 49)
  have hb3 := base q hq
  have e1 : nI (K_H K u) + 1 = nI (K_H K u + 1) := y_1
  have e3 : nI (K_H K u) + 3 = nI (K_H K u + 3) := nI_add _ 3
  unfold wY_X8_doUphold
  rw [e51, e1, e3]
  refine m_tf hN (c := 0) ht (by decide) (m_stf hN (c := 1) ht (by decide) (m_get6 hN hz hb3.2.1.2.2 (by omega) ?_))
  rw [u3]
  have e54 : (ff (fm (fm s 50 (s.2.1 18 (5 * t + 0))) 52 0) 18 (nI (5 * t + 1)) (-1)).1 54 = o := h54
  rw [e54]
  unfold u_F at hQ
  by_cases z : F 24 u = -1
  · rw [if_pos z] at hQ
    exact ⟨fun _ => hQ _ (S_s_p (S_s_ra hb3) rfl), fun w => absurd z w⟩
  · rw [if_neg z] at hQ
    have z' := ti_ne z
    rw [show (-1 : Int32).toInt = -1 by decide] at z'
    exact m_setobj hN hb3 (by omega) (by omega) (fun s' h' => hQ _ (S_s_p (S_s_ra h') rfl))
end TQ6
