/-! THE CLASS'S SMALL METHODS, beside what the reference does to its own state. -/
section TQ2
variable {K : k_K} {N : Nat → Nat} {s s' : f_S3} {O : Nat × Nat} {M M' : e_M} {F F' : e_F} {p : Nat} {st ra : Int32}
theorem tN_15 (h : tN N) : N 15 = 144 := h.2.2.2.2.2.1
theorem tN_16 (h : tN N) : N 16 = 96 := h.2.2.2.2.2.2.1
theorem tN_17 (h : tN N) : N 17 = 12 := h.2.2.2.2.2.2.2.1
theorem tN_18 (h : tN N) : N 18 = 1200 := h.2.2.2.2.2.2.2.2.1
theorem tN_19 (h : tN N) : N 19 = 128 := h.2.2.2.2.2.2.2.2.2.1
theorem tN_14 (h : tN N) : N 14 = 200 := h.2.2.2.2.1
theorem S_s_p (h : S_s K p st ra s O M F) {q : Nat} {v : Int32} (hv : v = nI q) : S_s K q st ra (fm s 49 v) O M F := by
  obtain ⟨⟨a1, a2, a3⟩, ⟨hD, hM, hC⟩, ⟨hN, hR, hT⟩, hd, hV⟩ := h
  exact ⟨⟨hv, a2, a3⟩, ⟨S_D_cg hD ⟨rfl, rfl⟩ rfl ⟨rfl, rfl⟩ ⟨rfl, rfl, rfl, rfl, rfl, rfl⟩, S_M_cg hM ⟨rfl, rfl, rfl, rfl, rfl, rfl, rfl⟩ rfl ⟨rfl, rfl, rfl, rfl, rfl, rfl⟩ rfl, S_C_cg hC rfl ⟨rfl, rfl, rfl⟩ ⟨rfl, rfl⟩⟩, ⟨S_N_cg hN ⟨rfl, rfl⟩ rfl ⟨rfl, rfl⟩, S_R_cg hR rfl rfl ⟨rfl, rfl, rfl, rfl⟩, S_T_cg hT rfl rfl ⟨rfl, rfl⟩ ⟨rfl, rfl, rfl, rfl, rfl, rfl⟩⟩, hd, S_V_cg hV rfl rfl rfl rfl⟩
theorem S_s_st (h : S_s K p st ra s O M F) {v : Int32} : S_s K p v ra (fm s 53 v) O M F := by
  obtain ⟨⟨a1, a2, a3⟩, ⟨hD, hM, hC⟩, ⟨hN, hR, hT⟩, hd, hV⟩ := h
  exact ⟨⟨a1, rfl, a3⟩, ⟨S_D_cg hD ⟨rfl, rfl⟩ rfl ⟨rfl, rfl⟩ ⟨rfl, rfl, rfl, rfl, rfl, rfl⟩, S_M_cg hM ⟨rfl, rfl, rfl, rfl, rfl, rfl, rfl⟩ rfl ⟨rfl, rfl, rfl, rfl, rfl, rfl⟩ rfl, S_C_cg hC rfl ⟨rfl, rfl, rfl⟩ ⟨rfl, rfl⟩⟩, ⟨S_N_cg hN ⟨rfl, rfl⟩ rfl ⟨rfl, rfl⟩, S_R_cg hR rfl rfl ⟨rfl, rfl, rfl, rfl⟩, S_T_cg hT rfl rfl ⟨rfl, rfl⟩ ⟨rfl, rfl, rfl, rfl, rfl, rfl⟩⟩, hd, S_V_cg hV rfl rfl rfl rfl⟩
theorem S_s_ra (h : S_s K p st ra s O M F) {v : Int32} : S_s K p st v (fm s 54 v) O M F := by
  obtain ⟨⟨a1, a2, a3⟩, ⟨hD, hM, hC⟩, ⟨hN, hR, hT⟩, hd, hV⟩ := h
  exact ⟨⟨a1, a2, rfl⟩, ⟨S_D_cg hD ⟨rfl, rfl⟩ rfl ⟨rfl, rfl⟩ ⟨rfl, rfl, rfl, rfl, rfl, rfl⟩, S_M_cg hM ⟨rfl, rfl, rfl, rfl, rfl, rfl, rfl⟩ rfl ⟨rfl, rfl, rfl, rfl, rfl, rfl⟩ rfl, S_C_cg hC rfl ⟨rfl, rfl, rfl⟩ ⟨rfl, rfl⟩⟩, ⟨S_N_cg hN ⟨rfl, rfl⟩ rfl ⟨rfl, rfl⟩, S_R_cg hR rfl rfl ⟨rfl, rfl, rfl, rfl⟩, S_T_cg hT rfl rfl ⟨rfl, rfl⟩ ⟨rfl, rfl, rfl, rfl, rfl, rfl⟩⟩, hd, S_V_cg hV rfl rfl rfl rfl⟩
/-- the reference's fields that the class has no counterpart of, or not yet -/
theorem S_s_m {k : Nat} {v : Int32} (h : S_s K p st ra s O M F) (hk : k ∉ [54, 55, 56, 62, 67, 69, 78, 79, 80, 81, 82]) : S_s K p st ra s O (um M k v) F := by
  have e : ∀ j, j ∈ [54, 55, 56, 62, 67, 69, 78, 79, 80, 81, 82] → um M k v j = M j := fun j hj => e_um_ne (fun q => hk (by rw [← q]; exact hj))
  obtain ⟨h1, ⟨hD, hM, hC⟩, ⟨hN, hR, hT⟩, hd, hV⟩ := h
  exact ⟨h1, ⟨S_D_cg hD ⟨rfl, rfl⟩ rfl ⟨e 54 (by decide), e 56 (by decide)⟩ ⟨rfl, rfl, rfl, rfl, rfl, rfl⟩, S_M_cg hM ⟨rfl, rfl, rfl, rfl, rfl, rfl, rfl⟩ rfl ⟨e 78 (by decide), e 79 (by decide), e 80 (by decide), e 82 (by decide), e 81 (by decide), e 55 (by decide)⟩ rfl, hC⟩, ⟨S_N_cg hN ⟨rfl, rfl⟩ (e 62 (by decide)) ⟨rfl, rfl⟩, S_R_cg hR rfl (e 62 (by decide)) ⟨rfl, rfl, rfl, rfl⟩, S_T_cg hT rfl rfl ⟨e 62 (by decide), e 67 (by decide)⟩ ⟨rfl, rfl, rfl, rfl, rfl, rfl⟩⟩, hd.trans (e 62 (by decide)).symm, S_V_cg hV rfl rfl (e 69 (by decide)) rfl⟩
/-- the class's fields that no picture tells of -/
theorem m_get6 (hN : tN N) (hz : K_z K ≤ N 20) (hC : S_C K s F) {q : Nat} (hq : q < K_z K) {Q : Int32 → f_S3 → Nat × Nat → Prop} (hQ : Q (K_C K q) s O) : wY_X6_get N (nI q) s O Q := by
  have h20 : N 20 < 1000000 := hN.2.2.2.2.2.2.2.2.2.2.1
  refine ⟨fun h => absurd h (y_lt0 (by omega)), fun _ => ⟨fun h => ?_, fun _ => ⟨y_in (by omega) (by omega), ?_⟩⟩⟩
  · rw [hC.1.1, y_le (by omega) (by omega)] at h; omega
  · rw [y_cl (by omega), hC.2.1 q hq]; exact hQ
theorem m_fetch (hN : tN N) (hz : K_z K ≤ N 20) (h : S_s K p st ra s O M F) (hp : p < K_z K) {Q : Int32 → f_S3 → Nat × Nat → Prop} (hQ : ∀ s', S_s K (p + 1) st ra s' O M F → Q (K_C K p) s' O) : wY_X8_fetch N s O Q := by
  have h49 : s.1 49 = nI p := h.1.1
  unfold wY_X8_fetch
  rw [h49]
  refine m_get6 hN hz h.2.1.2.2 hp (hQ _ (S_s_p h ?_))
  rw [h49]; exact y_1
theorem m_push (hN : tN N) (h : S_s K p st ra s O M F) (hv : 0 ≤ (M 69).toInt ∧ (M 69).toInt < 64) {v : Int32} {Q : f_S3 → Nat × Nat → Prop} (hQ : ∀ s', S_s K p st ra s' O (um M 69 (M 69 + 1)) (uf F 68 (M 69) v) → Q s' O) : wY_X8_push N v s O Q := by
  obtain ⟨⟨a1, a2, a3⟩, ⟨hD, hM, hC⟩, ⟨hNN, hR, hT⟩, hd, hV1, hV2⟩ := h
  obtain ⟨j, hj, ej, ej2, -⟩ := t_nat (n := 64) hv
  have l := tN_19 hN
  unfold wY_X8_push
  rw [hV1, ej, l]
  refine ⟨fun q => absurd q (by rw [y_le (by omega) (by omega)]; omega), fun _ => ⟨y_in (by omega) (by omega), hQ _ ⟨⟨a1, a2, a3⟩, ⟨S_D_cg hD ⟨rfl, rfl⟩ rfl ⟨rfl, rfl⟩ ⟨rfl, rfl, rfl, rfl, rfl, rfl⟩, S_M_cg hM ⟨rfl, rfl, rfl, rfl, rfl, rfl, rfl⟩ rfl ⟨rfl, rfl, rfl, rfl, rfl, rfl⟩ rfl, S_C_cg hC rfl ⟨rfl, rfl, rfl⟩ ⟨rfl, rfl⟩⟩, ⟨S_N_cg hNN ⟨rfl, rfl⟩ rfl ⟨rfl, rfl⟩, S_R_cg hR rfl rfl ⟨rfl, rfl, rfl, rfl⟩, S_T_cg hT rfl rfl ⟨rfl, rfl⟩ ⟨rfl, rfl, rfl, rfl, rfl, rfl⟩⟩, hd, ?_, fun i hi => ?_⟩⟩⟩
  · show nI j + 1 = M 69 + 1
    rw [ej]
  · have hi : (i : Int) < (M 69 + 1).toInt := hi
    rw [ej, y_1, fs_nI (by omega)] at hi
    show uf s.2.1 19 (nI j) v 19 i = uf F 68 (M 69) v 68 i
    rw [ej, uf_at2, uf_at2]
    by_cases q : i = (nI j).toNatClampNeg
    · rw [if_pos ⟨rfl, q⟩, if_pos ⟨rfl, q⟩]
    · rw [if_neg (fun w => q w.2), if_neg (fun w => q w.2)]
      rw [y_cl (by omega)] at q
      exact hV2 i (by omega)
theorem m_pop (hN : tN N) (h : S_s K p st ra s O M F) (hv : 1 ≤ (M 69).toInt ∧ (M 69).toInt ≤ 64) {Q : Int32 → f_S3 → Nat × Nat → Prop} (hQ : ∀ s', S_s K p st ra s' O (um M 69 (M 69 - 1)) F → Q (F 68 (M 69 - 1).toNatClampNeg) s' O) : wY_X8_pop N s O Q := by
  obtain ⟨⟨a1, a2, a3⟩, ⟨hD, hM, hC⟩, ⟨hNN, hR, hT⟩, hd, hV1, hV2⟩ := h
  obtain ⟨j, hj, ej, ej2, -⟩ := t_nat (x := M 69) (n := 65) (by omega)
  have l := tN_19 hN
  have e1 : nI j - 1 = nI (j - 1) := y_sub (b := 1) (by omega) (by omega)
  rw [ej, e1] at hQ
  unfold wY_X8_pop
  rw [hV1, ej, l, e1]
  refine ⟨fun q => ?_, fun _ => ⟨fun _ => ⟨y_in (by omega) (by omega), ?_⟩, fun q => absurd ((y_le (by omega) (by omega)).mpr (by omega)) q⟩⟩
  · rw [show (0 : Int32) = nI 0 from rfl, y_le (by omega) (by omega)] at q; omega
  · have e2 : s.2.1 19 (nI (j - 1)).toNatClampNeg = F 68 (nI (j - 1)).toNatClampNeg := by
      rw [y_cl (by omega)]; exact hV2 (j - 1) (by omega)
    rw [e2]
    refine hQ _ ⟨⟨a1, a2, a3⟩, ⟨S_D_cg hD ⟨rfl, rfl⟩ rfl ⟨rfl, rfl⟩ ⟨rfl, rfl, rfl, rfl, rfl, rfl⟩, S_M_cg hM ⟨rfl, rfl, rfl, rfl, rfl, rfl, rfl⟩ rfl ⟨rfl, rfl, rfl, rfl, rfl, rfl⟩ rfl, S_C_cg hC rfl ⟨rfl, rfl, rfl⟩ ⟨rfl, rfl⟩⟩, ⟨S_N_cg hNN ⟨rfl, rfl⟩ rfl ⟨rfl, rfl⟩, S_R_cg hR rfl rfl ⟨rfl, rfl, rfl, rfl⟩, S_T_cg hT rfl rfl ⟨rfl, rfl⟩ ⟨rfl, rfl, rfl, rfl, rfl, rfl⟩⟩, hd, rfl, fun i hi => hV2 i ?_⟩
    have hi : (i : Int) < (nI (j - 1)).toInt := hi
    rw [fs_nI (by omega)] at hi
    omega
/-- places in the rows of names -/
theorem t_ix {x a : Int32} {n : Nat} (hx : 1 ≤ x.toInt ∧ x.toInt ≤ 12) (hn : 1 ≤ n ∧ n ≤ 12) (ha : 0 ≤ a.toInt ∧ a.toInt < n) : ∃ i : Nat, i < n * 12 ∧ (x - 1) * nI n + a = nI i ∧ nI n * (x - 1) + a = nI i ∧ (i : Int) < n * x.toInt := by
  obtain ⟨y, h1, rfl, h3, -⟩ := t_nat (x := x) (n := 13) (by omega)
  obtain ⟨b, g1, rfl, g3, -⟩ := t_nat (x := a) (n := n) (by omega)
  have e1 : nI y - 1 = nI (y - 1) := y_sub (b := 1) (by omega) (by omega)
  have hm : (y - 1) * n + b < n * 12 := by
    have : (y - 1) * n ≤ 11 * n := Nat.mul_le_mul_right n (by omega)
    omega
  refine ⟨(y - 1) * n + b, hm, by rw [e1, pk_mul, nI_add], by rw [e1, pk_mul, nI_add, Nat.mul_comm], ?_⟩
  rw [fs_nI (by omega)]
  have e2 : y = (y - 1) + 1 := by omega
  have e3 : (n : Int) * (y : Int) = ((n * y : Nat) : Int) := by simp
  rw [e3]
  have e4 : n * y = (y - 1) * n + n := by rw [Nat.mul_comm n y]; conv => lhs; rw [e2, Nat.add_mul, Nat.one_mul]
  omega
theorem m_num (hN : tN N) (h : S_s K p st ra s O M F) (hf : 1 ≤ (M 62).toInt ∧ (M 62).toInt ≤ 12) {a : Int32} (ha : 0 ≤ a.toInt ∧ a.toInt < 12) {Q : Int32 → f_S3 → Nat × Nat → Prop} (hQ : Q (F 57 (12 * (M 62 - 1) + a).toNatClampNeg) s O) : wY_X8_numberAt N a s O Q := by
  obtain ⟨i, h1, h2, h3, h4⟩ := t_ix (n := 12) hf (by omega) ha
  have h2 : (M 62 - 1) * 12 + a = nI i := h2
  have h3 : 12 * (M 62 - 1) + a = nI i := h3
  have l := tN_15 hN
  unfold wY_X8_numberAt
  rw [h.2.2.2.1, h2, l]
  rw [h3] at hQ
  refine ⟨fun q => absurd q (y_lt0 (by omega)), fun _ => ⟨fun q => absurd q (by rw [y_le (by omega) (by omega)]; omega), fun _ => ⟨y_in (by omega) (by omega), fun v hv => ?_⟩⟩⟩
  rw [hv]
  have e : s.2.1 15 (nI i).toNatClampNeg = F 57 (nI i).toNatClampNeg := by
    rw [y_cl (by omega)]; exact h.2.2.1.1.1 i (by omega)
  rw [e]; exact hQ
theorem m_setnum (hN : tN N) (h : S_s K p st ra s O M F) (hf : 1 ≤ (M 62).toInt ∧ (M 62).toInt ≤ 12) {a v : Int32} (ha : 0 ≤ a.toInt ∧ a.toInt < 12) {Q : f_S3 → Nat × Nat → Prop} (hQ : ∀ s', S_s K p st ra s' O M (uf F 57 (12 * (M 62 - 1) + a) v) → Q s' O) : wY_X8_setNumber N a v s O Q := by
  obtain ⟨i, h1, h2, h3, h4⟩ := t_ix (n := 12) hf (by omega) ha
  have h2 : (M 62 - 1) * 12 + a = nI i := h2
  have h3 : 12 * (M 62 - 1) + a = nI i := h3
  have l := tN_15 hN
  obtain ⟨⟨a1, a2, a3⟩, ⟨hD, hM, hC⟩, ⟨⟨n1, n2⟩, hR, hT⟩, hd, hV⟩ := h
  unfold wY_X8_setNumber
  rw [hd, h2, l]
  rw [h3] at hQ
  refine ⟨fun q => absurd q (y_lt0 (by omega)), fun _ => ⟨fun q => absurd q (by rw [y_le (by omega) (by omega)]; omega), fun _ => ⟨y_in (by omega) (by omega), hQ _ ⟨⟨a1, a2, a3⟩, ⟨S_D_cg hD ⟨rfl, rfl⟩ rfl ⟨rfl, rfl⟩ ⟨rfl, rfl, rfl, rfl, rfl, rfl⟩, S_M_cg hM ⟨rfl, rfl, rfl, rfl, rfl, rfl, rfl⟩ rfl ⟨rfl, rfl, rfl, rfl, rfl, rfl⟩ rfl, S_C_cg hC rfl ⟨rfl, rfl, rfl⟩ ⟨rfl, rfl⟩⟩, ⟨⟨fun j hj => ?_, n2⟩, S_R_cg hR rfl rfl ⟨rfl, rfl, rfl, rfl⟩, S_T_cg hT rfl rfl ⟨rfl, rfl⟩ ⟨rfl, rfl, rfl, rfl, rfl, rfl⟩⟩, hd, S_V_cg hV rfl rfl rfl rfl⟩⟩⟩⟩
  show uf s.2.1 15 (nI i) v 15 j = uf F 57 (nI i) v 57 j
  rw [uf_at2, uf_at2]
  by_cases q : j = (nI i).toNatClampNeg
  · rw [if_pos ⟨rfl, q⟩, if_pos ⟨rfl, q⟩]
  · rw [if_neg (fun w => q w.2), if_neg (fun w => q w.2)]
    exact n1 j hj
theorem m_obj (hN : tN N) (h : S_s K p st ra s O M F) (hf : 1 ≤ (M 62).toInt ∧ (M 62).toInt ≤ 12) {a : Int32} (ha : 0 ≤ a.toInt ∧ a.toInt < 8) {Q : Int32 → f_S3 → Nat × Nat → Prop} (hQ : Q (F 58 (8 * (M 62 - 1) + a).toNatClampNeg) s O) : wY_X8_objectAt N a s O Q := by
  obtain ⟨i, h1, h2, h3, h4⟩ := t_ix (n := 8) hf (by omega) ha
  have h2 : (M 62 - 1) * 8 + a = nI i := h2
  have h3 : 8 * (M 62 - 1) + a = nI i := h3
  have l := tN_16 hN
  have ne : ¬ a = -1 := fun q => by rw [q] at ha; exact absurd ha (by decide)
  unfold wY_X8_objectAt
  rw [h.2.2.2.1, h2, l]
  rw [h3] at hQ
  refine ⟨fun q => absurd q ne, fun _ => ⟨fun q => absurd q (y_lt0 (by omega)), fun _ => ⟨fun q => absurd q (by rw [y_le (by omega) (by omega)]; omega), fun _ => ⟨y_in (by omega) (by omega), fun v hv => ?_⟩⟩⟩⟩
  rw [hv]
  have e : s.2.1 16 (nI i).toNatClampNeg = F 58 (nI i).toNatClampNeg := by
    rw [y_cl (by omega)]; exact h.2.2.1.1.2 i (by omega)
  rw [e]; exact hQ
theorem m_obj_ {a : Int32} (ha : a = -1) {Q : Int32 → f_S3 → Nat × Nat → Prop} (hQ : Q 0 s O) : wY_X8_objectAt N a s O Q := ⟨fun _ => hQ, fun q => absurd ha q⟩
theorem S_N_16 {i : Nat} {v : Int32} (hi : i < 2 ^ 31) (h : S_N s M F) : S_N (ff s 16 (nI i) v) M (uf F 58 (nI i) v) := by
  refine ⟨h.1, fun j hj => ?_⟩
  show uf s.2.1 16 (nI i) v 16 j = uf F 58 (nI i) v 58 j
  rw [uf_at2, uf_at2]
  by_cases q : j = (nI i).toNatClampNeg
  · rw [if_pos ⟨rfl, q⟩, if_pos ⟨rfl, q⟩]
  · rw [if_neg (fun w => q w.2), if_neg (fun w => q w.2)]
    exact h.2 j hj
theorem m_setobj (hN : tN N) (h : S_s K p st ra s O M F) (hf : 1 ≤ (M 62).toInt ∧ (M 62).toInt ≤ 12) {a v : Int32} (ha : 0 ≤ a.toInt ∧ a.toInt < 8) {Q : f_S3 → Nat × Nat → Prop} (hQ : ∀ s', S_s K p st ra s' O M (uf F 58 (8 * (M 62 - 1) + a) v) → Q s' O) : wY_X8_setObject N a v s O Q := by
  obtain ⟨i, h1, h2, h3, h4⟩ := t_ix (n := 8) hf (by omega) ha
  have h2 : (M 62 - 1) * 8 + a = nI i := h2
  have h3 : 8 * (M 62 - 1) + a = nI i := h3
  have l := tN_16 hN
  have ne : ¬ a = -1 := fun q => by rw [q] at ha; exact absurd ha (by decide)
  obtain ⟨⟨a1, a2, a3⟩, ⟨hD, hM, hC⟩, ⟨hNN, hR, hT⟩, hd, hV⟩ := h
  unfold wY_X8_setObject
  rw [hd, h2, l]
  rw [h3] at hQ
  exact ⟨fun q => absurd q ne, fun _ => ⟨fun q => absurd q (y_lt0 (by omega)), fun _ => ⟨fun q => absurd q (by rw [y_le (by omega) (by omega)]; omega), fun _ => ⟨y_in (by omega) (by omega), hQ _ ⟨⟨a1, a2, a3⟩, ⟨S_D_cg hD ⟨rfl, rfl⟩ rfl ⟨rfl, rfl⟩ ⟨rfl, rfl, rfl, rfl, rfl, rfl⟩, S_M_cg hM ⟨rfl, rfl, rfl, rfl, rfl, rfl, rfl⟩ rfl ⟨rfl, rfl, rfl, rfl, rfl, rfl⟩ rfl, S_C_cg hC rfl ⟨rfl, rfl, rfl⟩ ⟨rfl, rfl⟩⟩, ⟨S_N_16 (by omega) hNN, S_R_cg hR rfl rfl ⟨rfl, rfl, rfl, rfl⟩, S_T_cg hT rfl rfl ⟨rfl, rfl⟩ ⟨rfl, rfl, rfl, rfl, rfl, rfl⟩⟩, hd, S_V_cg hV rfl rfl rfl rfl⟩⟩⟩⟩⟩
/-- a step told; a note -/
theorem m_note (hN : tN N) (h : S_s K p st ra s O M F) (hn : 0 ≤ (M 80).toInt ∧ (M 80).toInt ≤ 200) {v : Int32} {Q : f_S3 → Nat × Nat → Prop} (hQ0 : M 80 = 200 → ∀ s', S_s K p 3 ra s' O M F → Q s' O) (hQ : ¬ M 80 = 200 → ∀ s', S_s K p st ra s' O (um M 80 (M 80 + 1)) (uf F 84 (M 80) v) → Q s' O) : wY_X8_putNote N v s O Q := by
  have l := tN_14 hN
  obtain ⟨j, hj, ej, ej2, -⟩ := t_nat (x := M 80) (n := 201) (by omega)
  have hh := h
  obtain ⟨⟨a1, a2, a3⟩, ⟨hD, ⟨⟨m1, m2, m3, m4, m5⟩, m6, m7⟩, hC⟩, ⟨hNN, hR, hT⟩, hd, hV⟩ := h
  unfold wY_X8_putNote wY_X5_putNote
  rw [m3, ej, l]
  have e200 : (nI j = 200) ↔ j = 200 := nI_eq (b := 200) (by omega) (by omega)
  refine ⟨fun q => ⟨y_in ((y_lt (by omega) (by omega)).mp q) (by omega), fun _ => ?_, fun z => absurd z (by decide)⟩, fun q => ⟨fun z => absurd rfl z, fun _ => hQ0 ?_ _ (S_s_st hh)⟩⟩
  · have q' : j < 200 := (y_lt (by omega) (by omega)).mp q
    refine hQ (fun z => ?_) _ ⟨⟨a1, a2, a3⟩, ⟨S_D_cg hD ⟨rfl, rfl⟩ rfl ⟨rfl, rfl⟩ ⟨rfl, rfl, rfl, rfl, rfl, rfl⟩, ⟨⟨m1, m2, ?_, m4, m5⟩, fun i hi => ?_, m7⟩, S_C_cg hC rfl ⟨rfl, rfl, rfl⟩ ⟨rfl, rfl⟩⟩, ⟨S_N_cg hNN ⟨rfl, rfl⟩ rfl ⟨rfl, rfl⟩, S_R_cg hR rfl rfl ⟨rfl, rfl, rfl, rfl⟩, S_T_cg hT rfl rfl ⟨rfl, rfl⟩ ⟨rfl, rfl, rfl, rfl, rfl, rfl⟩⟩, hd, S_V_cg hV rfl rfl rfl rfl⟩
    · rw [ej, e200] at z; omega
    · show nI j + 1 = M 80 + 1
      rw [ej]
    · have hi : (i : Int) < (M 80 + 1).toInt := hi
      rw [ej, y_1, fs_nI (by omega)] at hi
      show uf s.2.1 14 (nI j) v 14 i = uf F 84 (M 80) v 84 i
      rw [ej, uf_at2, uf_at2]
      by_cases z : i = (nI j).toNatClampNeg
      · rw [if_pos ⟨rfl, z⟩, if_pos ⟨rfl, z⟩]
      · rw [if_neg (fun w => z w.2), if_neg (fun w => z w.2)]
        rw [y_cl (by omega)] at z
        exact m6 i (by omega)
  · rw [ej, e200]
    have : ¬ j < 200 := fun z => q ((y_lt (by omega) (by omega)).mpr z)
    omega
theorem m_step (h : S_s K p st ra s O M F) (hs : 0 ≤ (M 78).toInt ∧ (M 78).toInt ≤ (M 79).toInt) {Q : f_S3 → Nat × Nat → Prop} (hQ0 : M 78 = M 79 → ∀ s', S_s K p 3 ra s' O M F → Q s' O) (hQ : ¬ M 78 = M 79 → ∀ s', S_s K p st ra s' O (um M 78 (M 78 + 1)) F → Q s' O) : wY_X8_countStep N s O Q := by
  have hh := h
  obtain ⟨⟨a1, a2, a3⟩, ⟨hD, ⟨⟨m1, m2, m3, m4, m5⟩, m6, m7⟩, hC⟩, ⟨hNN, hR, hT⟩, hd, hV⟩ := h
  unfold wY_X8_countStep
  rw [m1, m2]
  refine ⟨fun q => hQ (fun z => ?_) _ ⟨⟨a1, a2, a3⟩, ⟨S_D_cg hD ⟨rfl, rfl⟩ rfl ⟨rfl, rfl⟩ ⟨rfl, rfl, rfl, rfl, rfl, rfl⟩, ⟨⟨rfl, m2, m3, m4, m5⟩, m6, m7⟩, S_C_cg hC rfl ⟨rfl, rfl, rfl⟩ ⟨rfl, rfl⟩⟩, ⟨S_N_cg hNN ⟨rfl, rfl⟩ rfl ⟨rfl, rfl⟩, S_R_cg hR rfl rfl ⟨rfl, rfl, rfl, rfl⟩, S_T_cg hT rfl rfl ⟨rfl, rfl⟩ ⟨rfl, rfl, rfl, rfl, rfl, rfl⟩⟩, hd, S_V_cg hV rfl rfl rfl rfl⟩, fun q => hQ0 (Int32.toInt_inj.mp ?_) _ (S_s_st hh)⟩
  · rw [z] at q; exact (Int32.lt_irrefl q).elim
  · rw [Int32.lt_iff_toInt_lt] at q; omega
end TQ2
