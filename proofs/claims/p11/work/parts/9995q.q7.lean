/-! RAISED: both go out of tries and hearings to the same place. -/
section TQ7
variable {K : k_K} {N : Nat → Nat} {s s' : f_S3} {O : Nat × Nat} {M M' : e_M} {F F' : e_F} {p : Nat} {st ra : Int32}
/-- the open tries lo .. n - 1, the innermost first, with their phases -/
def t_tl (F : e_F) (lo : Nat) : Nat → List (Nat × Nat)
  | 0 => []
  | n + 1 => if lo ≤ n then ((F 63 n).toNatClampNeg, (F 64 n).toNatClampNeg) :: t_tl F lo n else []
def t_ps (F : e_F) : Nat → Nat
  | 0 => 0
  | n + 1 => t_ps F n + (36001 * (2 - (F 64 n).toNatClampNeg) + 1)
theorem t_ps_cg : ∀ n : Nat, (∀ j, j < n → F' 64 j = F 64 j) → t_ps F' n = t_ps F n := by
  intro n
  induction n with
  | zero => intro _; rfl
  | succ n ih =>
    intro h
    show t_ps F' n + _ = t_ps F n + _
    rw [ih (fun j hj => h j (by omega)), h n (by omega)]
theorem t_tl_cg {lo : Nat} : ∀ n : Nat, (∀ j, lo ≤ j → j < n → F' 63 j = F 63 j ∧ F' 64 j = F 64 j) → t_tl F' lo n = t_tl F lo n := by
  intro n
  induction n with
  | zero => intro _; rfl
  | succ n ih =>
    intro h
    show (if lo ≤ n then ((F' 63 n).toNatClampNeg, (F' 64 n).toNatClampNeg) :: t_tl F' lo n else []) = (if lo ≤ n then ((F 63 n).toNatClampNeg, (F 64 n).toNatClampNeg) :: t_tl F lo n else [])
    by_cases q : lo ≤ n
    · rw [if_pos q, if_pos q, ih (fun j h1 h2 => h j h1 (by omega)), (h n q (by omega)).1, (h n q (by omega)).2]
    · rw [if_neg q, if_neg q]
theorem t_tl_le {lo n : Nat} (h : n ≤ lo) : t_tl F lo n = [] := by
  cases n with
  | zero => rfl
  | succ n => exact if_neg (by omega)
def v_F (K : k_K) (F : e_F) (f : Nat) : Prop := ∀ i, i + 1 < f → ∃ k : Nat, F 59 (i + 1) = nI k ∧ (9000 * K_B K ≤ k ∧ k < K_E K) ∧ t_tl F (e_b F i).toNat (e_b F (i + 1)).toNat = K_x K k
def v_X (K : k_K) (M : e_M) (F : e_F) (f ot : Nat) : Prop := v_F K F f ∧ ∃ k : Nat, M 70 = nI k ∧ (9000 * K_B K ≤ k ∧ k < K_E K) ∧ t_tl F (e_b F (f - 1)).toNat ot = K_x K k
/-- what stands in the reference while it goes out -/
def v_O (M M' : e_M) (F F' : e_F) : Prop := (M' 54 = M 54 ∧ M' 55 = M 55 ∧ M' 56 = M 56 ∧ M' 71 = M 71 ∧ M' 78 = M 78 ∧ M' 79 = M 79) ∧ F' 59 = F 59 ∧ F' 61 = F 61 ∧ F' 63 = F 63 ∧ ∀ r, r < 46 → F' r = F r
/-- the reference runs on, at a lastly, an uphold, or behind a hear -/
def v_P (K : k_K) (F : e_F) (f ot c : Nat) (M' : e_M) (F' : e_F) (j : Nat) : Prop := ∃ f' ot' : Nat, ((M' 62).toInt = f' ∧ (M' 67).toInt = ot' ∧ 1 ≤ f' ∧ f' ≤ f) ∧ v_X K M' F' f' ot' ∧ t_ps F' ot' + c + j ≤ t_ps F ot
def v_R (K : k_K) (M : e_M) (F : e_F) (f ot : Nat) (o : Int32) (M' : e_M) (F' : e_F) (j : Nat) : Prop := v_O M M' F F' ∧ ((M' 72 = 1 ∧ M' 73 = o ∧ j ≤ t_ps F ot) ∨ (M' 72 = M 72 ∧ M' 73 = M 73 ∧ M' 74 = M 74 ∧ M' 69 = 0 ∧ v_P K F f ot 36001 M' F' j))
def v_S (K : k_K) (o : Int32) (M' : e_M) (F' : e_F) (s : f_S3) (O : Nat × Nat) : Prop := (M' 72 = 1 → s.1 53 = 2 ∧ s.1 54 = o ∧ S_a K s O M' F') ∧ (¬ M' 72 = 1 → ∃ k : Nat, (M' 70 = nI k ∧ k < 2 ^ 31) ∧ S_s K (K_A K k) 0 0 s O M' F')
theorem S_a_m (h : S_a K s O M F) (m : M' 54 = M 54 ∧ M' 56 = M 56 ∧ M' 55 = M 55) (m2 : M' 78 = M 78 ∧ M' 79 = M 79 ∧ M' 80 = M 80 ∧ M' 82 = M 82 ∧ M' 81 = M 81) : S_a K s O M' F := ⟨S_D_cg h.1 ⟨rfl, rfl⟩ rfl ⟨m.1, m.2.1⟩ ⟨rfl, rfl, rfl, rfl, rfl, rfl⟩, S_M_cg h.2.1 ⟨rfl, rfl, rfl, rfl, rfl, rfl, rfl⟩ rfl ⟨m2.1, m2.2.1, m2.2.2.1, m2.2.2.2.1, m2.2.2.2.2, m.2.2⟩ rfl, h.2.2⟩
theorem S_a_53 {v : Int32} (h : S_a K s O M F) : S_a K (fm s 53 v) O M F := ⟨S_D_cg h.1 ⟨rfl, rfl⟩ rfl ⟨rfl, rfl⟩ ⟨rfl, rfl, rfl, rfl, rfl, rfl⟩, S_M_cg h.2.1 ⟨rfl, rfl, rfl, rfl, rfl, rfl, rfl⟩ rfl ⟨rfl, rfl, rfl, rfl, rfl, rfl⟩ rfl, S_C_cg h.2.2 rfl ⟨rfl, rfl, rfl⟩ ⟨rfl, rfl⟩⟩
/-- one hearing less -/
theorem S_b_f {f ot : Nat} (h62 : (M 62).toInt = (f : Int) + 1) (h67 : (M 67).toInt = ot) (hb : e_b F f = ot) (e : M' 62 = M 62 - 1) (e2 : M' 67 = M 67) (h : S_b K s M F) : S_b K s M' F := by
  obtain ⟨⟨n1, n2⟩, hR, t1, t2, t3⟩ := h
  have l1 : (1 : Int32).toInt = 1 := by decide
  have h62' : (M' 62).toInt = f := by rw [e, ti_subx _ _ (by rw [l1]; have := Int32.toInt_lt (M 62); omega), l1]; omega
  refine ⟨⟨fun j hj => n1 j (by omega), fun j hj => n2 j (by omega)⟩, fun i h1 h2 => hR i h1 (by omega), t1.trans e2.symm, fun t ht => t2 t (by rw [← e2]; exact ht), fun i t hi hbi hb' ht => ?_⟩
  rw [e2] at ht
  refine t3 i t (by omega) hbi (fun z => ?_) ht
  by_cases q : (i : Int) + 1 < f
  · exact hb' (by omega)
  · have : i + 1 = f := by omega
    rw [this, hb]; omega
theorem S_b_m (h : S_b K s M F) (m : M' 62 = M 62 ∧ M' 67 = M 67) : S_b K s M' F := ⟨S_N_cg h.1 ⟨rfl, rfl⟩ m.1 ⟨rfl, rfl⟩, S_R_cg h.2.1 rfl m.1 ⟨rfl, rfl, rfl, rfl⟩, S_T_cg h.2.2 rfl rfl m ⟨rfl, rfl, rfl, rfl, rfl, rfl⟩⟩
theorem k_cor_cg (h : k_cor K F) (e : ∀ r, r < 46 → F' r = F r) : k_cor K F' := by
  have e13 := e 13 (by decide); have e14 := e 14 (by decide); have e15 := e 15 (by decide); have e16 := e 16 (by decide); have e17 := e 17 (by decide)
  have e18 := e 18 (by decide); have e19 := e 19 (by decide); have e20 := e 20 (by decide); have e21 := e 21 (by decide); have e22 := e 22 (by decide)
  have e23 := e 23 (by decide); have e24 := e 24 (by decide); have e25 := e 25 (by decide); have e26 := e 26 (by decide)
  unfold k_cor k_at k_t k_u k_h k_en at *
  rw [e13, e14, e15, e16, e17, e18, e20, e21, e22, e23, e24, e25, e26]
  exact h
theorem t_tl_top {lo t : Nat} {c : List (Nat × Nat)} (h : lo ≤ t) (e : t_tl F lo (t + 1) = c) : c = ((F 63 t).toNatClampNeg, (F 64 t).toNatClampNeg) :: t_tl F lo t := by
  rw [← e]
  exact if_pos h
theorem v_F_cg {f lo : Nat} (h : v_F K F f) (hf : 1 ≤ f) (hm : ∀ i, i < f → e_b F i ≤ e_b F (f - 1)) (hl : (lo : Int) = e_b F (f - 1)) (e59 : F' 59 = F 59) (e61 : F' 61 = F 61) (e63 : F' 63 = F 63) (e64 : ∀ j, j < lo → F' 64 j = F 64 j) : v_F K F' f := by
  intro i hi
  obtain ⟨k, h1, h2, h3⟩ := h i hi
  have eb : ∀ i, e_b F' i = e_b F i := fun i => by unfold e_b; rw [e61]
  refine ⟨k, by rw [e59]; exact h1, h2, ?_⟩
  rw [eb, eb, ← h3]
  exact t_tl_cg _ (fun j _ hj => ⟨by rw [e63], e64 j (by have := hm (i + 1) hi; omega)⟩)
end TQ7
