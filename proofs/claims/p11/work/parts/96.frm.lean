/-! FRAMES, TRIES, AND WHAT FALLS. -/
def e_b (F : e_F) (i : Nat) : Int := (F 61 i).toInt
def e_FS (G : e_G) (B E T : Int) (F : e_F) (f ot : Nat) : Prop := ((∀ i, i < f → 0 ≤ e_b F i ∧ e_b F i ≤ 20 * (i : Int)) ∧ ∀ i j, i ≤ j → j < f → e_b F i ≤ e_b F j) ∧ (∀ i, 1 ≤ i → i < f → (9000 * B ≤ (F 59 i).toInt ∧ (F 59 i).toInt < E) ∧ G 0 (F 59 i).toInt.toNat = 0 ∧ G 1 (F 59 i).toInt.toNat = e_b F i - e_b F (i - 1) ∧ (-1 ≤ (F 60 i).toInt ∧ (F 60 i).toInt < 12)) ∧ (∀ i j : Nat, i < f → e_b F i ≤ j → (i + 1 < f → (j : Int) < e_b F (i + 1)) → j < ot → (400 * B ≤ (F 63 j).toInt ∧ (F 63 j).toInt < 400 * B + T) ∧ G 2 (F 63 j).toInt.toNat = j - e_b F i ∧ (0 ≤ (F 64 j).toInt ∧ (F 64 j).toInt ≤ 2))
theorem e_FS_cg {G : e_G} {B E T : Int} {F F' : e_F} {f ot : Nat} (h59 : F' 59 = F 59) (h60 : F' 60 = F 60) (h61 : F' 61 = F 61) (h63 : F' 63 = F 63) (h64 : ∀ j, F' 64 j = F 64 j ∨ (0 ≤ (F' 64 j).toInt ∧ (F' 64 j).toInt ≤ 2)) (h : e_FS G B E T F f ot) : e_FS G B E T F' f ot := by
  obtain ⟨a, b, c⟩ := h
  unfold e_FS e_b at *
  rw [h59, h60, h61, h63]
  refine ⟨a, b, fun i j h1 h2 h3 h4 => ?_⟩
  obtain ⟨c1, c2, c3⟩ := c i j h1 h2 h3 h4
  refine ⟨c1, c2, ?_⟩
  rcases h64 j with q | q
  · rw [q]; exact c3
  · exact q
theorem e_FS_pt {G : e_G} {B E T : Int} {F : e_F} {f ot : Nat} (h : e_FS G B E T F f (ot + 1)) : e_FS G B E T F f ot := ⟨h.1, h.2.1, fun i j a b c d => h.2.2 i j a b c (by omega)⟩
theorem e_FS_pf {G : e_G} {B E T : Int} {F : e_F} {f ot : Nat} (hf : 1 ≤ f) (ho : (ot : Int) = e_b F (f - 1)) (h : e_FS G B E T F f ot) : e_FS G B E T F (f - 1) ot := by
  obtain ⟨⟨a, a'⟩, b, c⟩ := h
  refine ⟨⟨fun i hi => a i (by omega), fun i j h1 h2 => a' i j h1 (by omega)⟩, fun i h1 h2 => b i h1 (by omega), fun i j h1 h2 h3 h4 => c i j (by omega) h2 (fun q => ?_) h4⟩
  by_cases g : i + 1 < f - 1
  · exact h3 g
  · have : i + 1 = f - 1 := by omega
    rw [this]; omega
/-- a try more -/
theorem e_FS_ut {G : e_G} {B E T : Int} {F F' : e_F} {f ot : Nat} (hf : 1 ≤ f) (hb : e_b F (f - 1) ≤ ot) (h59 : F' 59 = F 59) (h60 : F' 60 = F 60) (h61 : F' 61 = F 61) (h63 : ∀ j, j ≠ ot → F' 63 j = F 63 j) (h64 : ∀ j, j ≠ ot → F' 64 j = F 64 j) (g63 : 400 * B ≤ (F' 63 ot).toInt ∧ (F' 63 ot).toInt < 400 * B + T) (g2 : G 2 (F' 63 ot).toInt.toNat = ot - e_b F (f - 1)) (g64 : 0 ≤ (F' 64 ot).toInt ∧ (F' 64 ot).toInt ≤ 2) (h : e_FS G B E T F f ot) : e_FS G B E T F' f (ot + 1) := by
  obtain ⟨⟨a, a'⟩, b, c⟩ := h
  have eb : ∀ i, e_b F' i = e_b F i := fun i => by unfold e_b; rw [h61]
  refine ⟨⟨fun i hi => by rw [eb]; exact a i hi, fun i j h1 h2 => by rw [eb, eb]; exact a' i j h1 h2⟩, fun i h1 h2 => by rw [h59, h60, eb, eb]; exact b i h1 h2, fun i j h1 h2 h3 h4 => ?_⟩
  rw [eb] at h2
  rw [eb]
  rw [eb] at h3
  by_cases q : j = ot
  · have hi : i = f - 1 := by
      by_cases g : i + 1 < f
      · have := h3 g
        have := a' (i + 1) (f - 1) (by omega) (by omega)
        omega
      · omega
    subst q; subst hi
    exact ⟨g63, g2, g64⟩
  · rw [h63 j q, h64 j q]
    exact c i j h1 h2 h3 (by omega)
/-- a frame more -/
theorem e_FS_uf {G : e_G} {B E T : Int} {F F' : e_F} {f ot : Nat} (hf : 1 ≤ f) (hb : e_b F (f - 1) ≤ ot) (h20 : ot ≤ 20 * f) (h59 : ∀ j, j ≠ f → F' 59 j = F 59 j) (h60 : ∀ j, j ≠ f → F' 60 j = F 60 j) (h61 : ∀ j, j ≠ f → F' 61 j = F 61 j) (h63 : F' 63 = F 63) (h64 : F' 64 = F 64) (g59 : 9000 * B ≤ (F' 59 f).toInt ∧ (F' 59 f).toInt < E) (g0 : G 0 (F' 59 f).toInt.toNat = 0) (g1 : G 1 (F' 59 f).toInt.toNat = ot - e_b F (f - 1)) (g60 : -1 ≤ (F' 60 f).toInt ∧ (F' 60 f).toInt < 12) (g61 : (F' 61 f).toInt = ot) (h : e_FS G B E T F f ot) : e_FS G B E T F' (f + 1) ot := by
  obtain ⟨⟨a, a'⟩, b, c⟩ := h
  have eb : ∀ i, i ≠ f → e_b F' i = e_b F i := fun i hi => by unfold e_b; rw [h61 i hi]
  have ef : e_b F' f = ot := g61
  refine ⟨⟨fun i hi => ?_, fun i j h1 h2 => ?_⟩, fun i h1 h2 => ?_, fun i j h1 h2 h3 h4 => ?_⟩
  · by_cases q : i = f
    · rw [q, ef]; omega
    · rw [eb i q]; exact a i (by omega)
  · by_cases q : j = f
    · by_cases q2 : i = f
      · rw [q, q2]; exact Int.le_refl _
      · rw [q, ef, eb i q2]
        have := a' i (f - 1) (by omega) (by omega)
        omega
    · rw [eb i (by omega), eb j q]; exact a' i j h1 (by omega)
  · by_cases q : i = f
    · rw [q, ef, eb (f - 1) (by omega)]
      exact ⟨g59, g0, g1, g60⟩
    · rw [h59 i q, h60 i q, eb i q, eb (i - 1) (by omega)]
      exact b i h1 (by omega)
  · by_cases q : i = f
    · rw [q, ef] at h2
      exact absurd h2 (by omega)
    · rw [eb i q] at h2 ⊢
      rw [h63, h64]
      refine c i j (by omega) h2 (fun g => ?_) h4
      have := h3 (by omega)
      rw [eb (i + 1) (by omega)] at this
      exact this
theorem e_FS_0 {G : e_G} {B E T : Int} {F : e_F} (h : e_b F 0 = 0) : e_FS G B E T F 1 0 := by
  refine ⟨⟨fun i hi => ?_, fun i j h1 h2 => ?_⟩, fun i h1 h2 => absurd h2 (by omega), fun i j _ _ _ h4 => absurd h4 (by omega)⟩
  · have : i = 0 := by omega
    rw [this, h]; omega
  · have q1 : i = 0 := by omega
    have q2 : j = 0 := by omega
    rw [q1, q2]; exact Int.le_refl _
def e_pt (x : Int32) : Nat := if x = 0 then 3 else if x = 1 then 2 else 1
theorem e_pt_1 (x : Int32) : 1 ≤ e_pt x ∧ e_pt x ≤ 3 := by
  unfold e_pt
  split
  · omega
  · split <;> omega
theorem e_pt_2 {x : Int32} (h : 0 ≤ x.toInt ∧ x.toInt ≤ 2) (h2 : x ≠ 2) : 2 ≤ e_pt x := by
  have h2' : x.toInt ≠ 2 := ti_ne h2
  unfold e_pt
  split
  · omega
  · rename_i h0
    have h0' : x.toInt ≠ 0 := ti_ne h0
    split
    · omega
    · rename_i h1
      have h1' : x.toInt ≠ 1 := ti_ne h1
      omega
def e_ph (F : e_F) : Nat → Nat
  | 0 => 0
  | n + 1 => e_ph F n + e_pt (F 64 n)
theorem e_ph_cg {F F' : e_F} : ∀ n : Nat, (∀ j, j < n → F' 64 j = F 64 j) → e_ph F' n = e_ph F n := by
  intro n
  induction n with
  | zero => intro _; rfl
  | succ n ih =>
    intro h
    show e_ph F' n + e_pt (F' 64 n) = e_ph F n + e_pt (F 64 n)
    rw [ih (fun j hj => h j (by omega)), h n (by omega)]
theorem e_ph_le (F : e_F) : ∀ n : Nat, e_ph F n ≤ 3 * n := by
  intro n
  induction n with
  | zero => exact Nat.le_refl _
  | succ n ih =>
    show e_ph F n + e_pt (F 64 n) ≤ _
    have := (e_pt_1 (F 64 n)).2
    omega
theorem e_ph_set {F F' : e_F} {t : Nat} {v : Int32} (hne : ∀ j, j ≠ t → F' 64 j = F 64 j) (hv : F' 64 t = v) : e_ph F' (t + 1) = e_ph F t + e_pt v := by
  show e_ph F' t + e_pt (F' 64 t) = _
  rw [hv, e_ph_cg t (fun j hj => hne j (by omega))]
def e_vv (c : Nat → Nat) : Nat → Nat
  | 0 => 0
  | n + 1 => e_vv c n * 10000 + c n
theorem e_vv_cg {c c' : Nat → Nat} : ∀ n : Nat, (∀ i, i < n → c' i = c i) → e_vv c' n = e_vv c n := by
  intro n
  induction n with
  | zero => intro _; rfl
  | succ n ih =>
    intro h
    show e_vv c' n * 10000 + c' n = e_vv c n * 10000 + c n
    rw [ih (fun j hj => h j (by omega)), h n (by omega)]
theorem e_vv_bd {c : Nat → Nat} (h : ∀ i, c i < 10000) : ∀ n : Nat, e_vv c n < 10000 ^ n := by
  intro n
  induction n with
  | zero => exact Nat.zero_lt_one
  | succ n ih =>
    show e_vv c n * 10000 + c n < 10000 ^ (n + 1)
    rw [Nat.pow_succ]
    have := h n
    generalize 10000 ^ n = X at *
    omega
theorem e_vv_lt {c c' : Nat → Nat} {m : Nat} (h1 : ∀ i, i < m → c' i = c i) (h2 : c' m < c m) (h3 : ∀ i, c' i < 10000) : ∀ n : Nat, m < n → e_vv c' n < e_vv c n := by
  intro n
  induction n with
  | zero => intro h; exact absurd h (by omega)
  | succ n ih =>
    intro h
    show e_vv c' n * 10000 + c' n < e_vv c n * 10000 + c n
    by_cases q : n = m
    · rw [q, e_vv_cg m h1]; omega
    · have := ih (by omega)
      have := h3 n
      omega
def e_rm (F : e_F) (E pc : Int) : Nat := if F 13 pc.toNat = 0 then 0 else (E - pc).toNat
def e_cm (F : e_F) (E : Int) (f x i : Nat) : Nat := min 9001 (if i + 1 < f then (E + 1 - (F 59 (i + 1)).toInt).toNat else if i + 1 = f then x else 9001)
theorem e_cm_bd (F : e_F) (E : Int) (f x : Nat) : ∀ i, e_cm F E f x i < 10000 := fun i => by
  unfold e_cm
  have := Nat.min_le_left 9001 (if i + 1 < f then (E + 1 - (F 59 (i + 1)).toInt).toNat else if i + 1 = f then x else 9001)
  omega
def e_VF (F : e_F) (E : Int) (f x : Nat) : Nat := e_vv (e_cm F E f x) 12
theorem e_VF_bd (F : e_F) (E : Int) (f x : Nat) : e_VF F E f x < 10000 ^ 12 := e_vv_bd (e_cm_bd F E f x) 12
theorem e_VF_cg {F F' : e_F} {E : Int} {f x : Nat} (h : F' 59 = F 59) : e_VF F' E f x = e_VF F E f x := by
  unfold e_VF
  congr 1
  funext i
  unfold e_cm
  rw [h]
theorem e_VF_top {F F' : e_F} {E : Int} {f x x' : Nat} (h : F' 59 = F 59) (hf : 1 ≤ f ∧ f ≤ 12) (hx : x' < x) (hb : x' < 9001) : e_VF F' E f x' < e_VF F E f x := by
  refine e_vv_lt (m := f - 1) (fun i hi => ?_) ?_ (e_cm_bd _ _ _ _) 12 (by omega)
  · unfold e_cm
    rw [if_pos (show i + 1 < f from by omega), if_pos (show i + 1 < f from by omega), h]
  · unfold e_cm
    rw [if_neg (show ¬ (f - 1 + 1 < f) from by omega), if_neg (show ¬ (f - 1 + 1 < f) from by omega), if_pos (show f - 1 + 1 = f from by omega), if_pos (show f - 1 + 1 = f from by omega)]
    omega
theorem e_VF_pop {F F' : e_F} {E : Int} {f x x' : Nat} (h : F' 59 = F 59) (hf : 2 ≤ f ∧ f ≤ 12) (hx : x' < (E + 1 - (F 59 (f - 1)).toInt).toNat) (hb : x' < 9001) : e_VF F' E (f - 1) x' < e_VF F E f x := by
  refine e_vv_lt (m := f - 2) (fun i hi => ?_) ?_ (e_cm_bd _ _ _ _) 12 (by omega)
  · unfold e_cm
    rw [if_pos (show i + 1 < f - 1 from by omega), if_pos (show i + 1 < f from by omega), h]
  · unfold e_cm
    have e : f - 2 + 1 = f - 1 := by omega
    rw [if_neg (show ¬ (f - 2 + 1 < f - 1) from by omega), if_pos (show f - 2 + 1 = f - 1 from by omega), if_pos (show f - 2 + 1 < f from by omega), e]
    omega
theorem e_VF_up {F F' : e_F} {E : Int} {f x x' : Nat} (h : ∀ j, j ≠ f → F' 59 j = F 59 j) (hf : 1 ≤ f ∧ f < 12) (hx : x = (E + 1 - (F' 59 f).toInt).toNat) (hb : x' < 9001) : e_VF F' E (f + 1) x' < e_VF F E f x := by
  refine e_vv_lt (m := f) (fun i hi => ?_) ?_ (e_cm_bd _ _ _ _) 12 (by omega)
  · unfold e_cm
    rw [if_pos (show i + 1 < f + 1 from by omega)]
    by_cases q : i + 1 < f
    · rw [if_pos q, h (i + 1) (by omega)]
    · have e : i + 1 = f := by omega
      rw [if_neg q, if_pos e, e, hx]
  · unfold e_cm
    rw [if_neg (show ¬ (f + 1 < f + 1) from by omega), if_pos rfl, if_neg (show ¬ (f + 1 < f) from by omega), if_neg (show ¬ (f + 1 = f) from by omega)]
    omega
theorem e_m0 {x y : Int} (hx : x = 0) (hy : y = 0) : x = max 0 y := by rw [hx, hy]; rfl
theorem e_lex {a b v w K : Nat} (h : (v < K ∧ a < b) ∨ (a ≤ b ∧ v < w)) : a * K + v < b * K + w := by
  rcases h with ⟨h1, h2⟩ | ⟨h1, h2⟩
  · have := Nat.mul_le_mul_right K (show a + 1 ≤ b from h2)
    rw [Nat.add_mul] at this
    omega
  · have := Nat.mul_le_mul_right K h1
    omega
def e_RUN (G : e_G) (B E T : Int) (M : e_M) (F : e_F) (f ot : Nat) : Prop := ((M 62).toInt = f ∧ (M 67).toInt = ot ∧ 1 ≤ f ∧ f ≤ 12) ∧ e_FS G B E T F f ot ∧ (9000 * B ≤ (M 70).toInt ∧ (M 70).toInt < E) ∧ (M 69).toInt = max 0 (G 0 (M 70).toInt.toNat) ∧ (ot : Int) - e_b F (f - 1) = G 1 (M 70).toInt.toNat
def e_fl (G : e_G) (M : e_M) : Nat := if G 0 (M 70).toInt.toNat = -1 then 1 else 0
def e_K12 : Nat := 10000 ^ 12
def e_mu (G : e_G) (E : Int) (M : e_M) (F : e_F) (f ot : Nat) : Nat := ((2 * ((M 79).toInt - (M 78).toInt).toNat + e_fl G M) * 1000 + e_ph F ot) * e_K12 + e_VF F E f (e_rm F E (M 70).toInt)
def e_TS (M : e_M) (F : e_F) : Prop := e_OB M F ∧ (0 ≤ (M 78).toInt ∧ (M 78).toInt ≤ (M 79).toInt ∧ (M 79).toInt ≤ 5000)
def e_QA (G : e_G) (B E T : Int) (M : e_M) (F : e_F) (f ot : Nat) (M' : e_M) (F' : e_F) : Prop := e_XR M F M' F' ∧ e_TS M' F' ∧ (M' 72 = 0 → M' 71 = 0 → ∃ f' ot' : Nat, e_RUN G B E T M' F' f' ot' ∧ e_mu G E M' F' f' ot' < e_mu G E M F f ot)
def e_PO (G : e_G) (B E T : Int) (M : e_M) (F : e_F) (f ot : Nat) (M' : e_M) (F' : e_F) : Prop := e_XR M F M' F' ∧ e_OB M' F' ∧ (M' 78 = M 78 ∧ M' 79 = M 79) ∧ (M' 72 = 0 → M' 71 = 0 → ∃ f' ot' : Nat, e_RUN G B E T M' F' f' ot' ∧ G 0 (M' 70).toInt.toNat = 0 ∧ (e_ph F' ot' < e_ph F ot ∨ (e_ph F' ot' ≤ e_ph F ot ∧ ∀ x, e_VF F' E f' (e_rm F' E (M' 70).toInt) < e_VF F E f x)))
theorem e_fl_0 {G : e_G} {M : e_M} (h : 0 ≤ G 0 (M 70).toInt.toNat) : e_fl G M = 0 := if_neg (by omega)
theorem e_QA_PO {G : e_G} {B E T : Int} {M M1 M' : e_M} {F F1 F' : e_F} {f ot : Nat} {ks rs : List Nat} (hS : e_TS M F) (c : e_hc ks rs M F M1 F1) (hk : ∀ k, k ∈ ks → 48 ≤ k) (hr : ∀ r, r ∈ rs → 46 ≤ r) (hk2 : ∀ k, k ∈ [78, 79] → k ∉ ks) (hr2 : ∀ r, r ∈ [59, 64] → r ∉ rs) (h : e_PO G B E T M1 F1 f ot M' F') : e_QA G B E T M F f ot M' F' := by
  obtain ⟨x, o, ⟨h78, h79⟩, hr'⟩ := h
  have e78 : M' 78 = M 78 := h78.trans (c.1 78 (hk2 78 (by decide)))
  have e79 : M' 79 = M 79 := h79.trans (c.1 79 (hk2 79 (by decide)))
  refine ⟨e_XR_tr (e_XR_of c hk hr) x, ⟨o, by rw [e78, e79]; exact hS.2⟩, fun a b => ?_⟩
  obtain ⟨f', ot', r, g, m⟩ := hr' a b
  refine ⟨f', ot', r, ?_⟩
  unfold e_mu
  rw [e78, e79, e_fl_0 (G := G) (M := M') (by omega)]
  have p1 : e_ph F1 ot = e_ph F ot := e_ph_cg ot (fun j _ => by rw [c.2 64 (hr2 64 (by decide))])
  have v1 : ∀ x, e_VF F1 E f x = e_VF F E f x := fun x => e_VF_cg (c.2 59 (hr2 59 (by decide)))
  rcases m with m | ⟨m1, m2⟩
  · exact e_lex (Or.inl ⟨e_VF_bd _ _ _ _, by omega⟩)
  · refine e_lex (Or.inr ⟨by omega, ?_⟩)
    have := m2 (e_rm F E (M 70).toInt)
    rw [v1] at this
    exact this
theorem e_PO_pre {G : e_G} {B E T : Int} {M M1 M' : e_M} {F F1 F' : e_F} {f ot : Nat} {ks rs : List Nat} (c : e_hc ks rs M F M1 F1) (hk : ∀ k, k ∈ ks → 48 ≤ k) (hr : ∀ r, r ∈ rs → 46 ≤ r) (hk2 : ∀ k, k ∈ [78, 79] → k ∉ ks) (hr2 : ∀ r, r ∈ [59, 64] → r ∉ rs) (h : e_PO G B E T M1 F1 f ot M' F') : e_PO G B E T M F f ot M' F' := by
  obtain ⟨x, o, ⟨h78, h79⟩, hr'⟩ := h
  have p1 : e_ph F1 ot = e_ph F ot := e_ph_cg ot (fun j _ => by rw [c.2 64 (hr2 64 (by decide))])
  have v1 : ∀ x, e_VF F1 E f x = e_VF F E f x := fun x => e_VF_cg (c.2 59 (hr2 59 (by decide)))
  refine ⟨e_XR_tr (e_XR_of c hk hr) x, o, ⟨h78.trans (c.1 78 (hk2 78 (by decide))), h79.trans (c.1 79 (hk2 79 (by decide)))⟩, fun a b => ?_⟩
  obtain ⟨f', ot', r, g, m⟩ := hr' a b
  refine ⟨f', ot', r, g, ?_⟩
  rw [p1] at m
  rcases m with m | ⟨m1, m2⟩
  · exact Or.inl m
  · exact Or.inr ⟨m1, fun x => by rw [← v1]; exact m2 x⟩
theorem e_rm_le {F : e_F} {E pc : Int} : (e_rm F E pc : Int) ≤ max 0 (E - pc) := by
  unfold e_rm
  split <;> omega
/-- one code on, or a leap to a STEP -/
theorem e_QA_go {G : e_G} {B N E T V : Int} {M M' : e_M} {F F' : e_F} {f ot : Nat} {ks rs : List Nat} (hC : e_SC G B N E T V F) (hR : e_RUN G B E T M F f ot) (hS : e_TS M F) (h13 : F 13 (M 70).toInt.toNat ≠ 0) (c : e_hc ks rs M F M' F') (hk : ∀ k, k ∈ ks → 48 ≤ k) (hr : ∀ r, r ∈ rs → 46 ≤ r) (hk2 : ∀ k, k ∈ [62, 67, 78, 79] → k ∉ ks) (hr2 : ∀ r, r ∈ [59, 60, 61, 63, 64] → r ∉ rs) (hO : e_OB M' F') (hpc : 9000 * B ≤ (M' 70).toInt ∧ (M' 70).toInt < E) (h69 : (M' 69).toInt = G 0 (M' 70).toInt.toNat) (hg : 0 ≤ (M' 69).toInt) (h1 : G 1 (M' 70).toInt.toNat = G 1 (M 70).toInt.toNat) (hlt : (M 70).toInt < (M' 70).toInt ∨ F 13 (M' 70).toInt.toNat = 0) : e_QA G B E T M F f ot M' F' := by
  have e62 := c.1 62 (hk2 62 (by decide))
  have e67 := c.1 67 (hk2 67 (by decide))
  have e78 := c.1 78 (hk2 78 (by decide))
  have e79 := c.1 79 (hk2 79 (by decide))
  have r59 := c.2 59 (hr2 59 (by decide))
  have r60 := c.2 60 (hr2 60 (by decide))
  have r61 := c.2 61 (hr2 61 (by decide))
  have r63 := c.2 63 (hr2 63 (by decide))
  have r64 := c.2 64 (hr2 64 (by decide))
  have xr := e_XR_of c hk hr
  obtain ⟨⟨a1, a2, a3, a4⟩, b, ⟨p1, p2⟩, d, e⟩ := hR
  have eb : e_b F' (f - 1) = e_b F (f - 1) := by unfold e_b; rw [r61]
  refine ⟨xr, ⟨hO, by rw [e78, e79]; exact hS.2⟩, fun _ _ => ⟨f, ot, ⟨⟨by rw [e62]; exact a1, by rw [e67]; exact a2, a3, a4⟩, e_FS_cg r59 r60 r61 r63 (fun j => Or.inl (by rw [r64])) b, hpc, by omega, by rw [eb, h1]; exact e⟩, ?_⟩⟩
  unfold e_mu
  rw [e78, e79, e_fl_0 (G := G) (M := M') (by omega), e_ph_cg ot (fun j _ => by rw [r64])]
  have hE := hC.1.2.2.1
  have r13 : F' 13 = F 13 := xr.2 13 (by decide)
  refine e_lex (Or.inr ⟨by omega, e_VF_top r59 ⟨a3, a4⟩ ?_ ?_⟩)
  · unfold e_rm
    rw [if_neg h13, r13]
    split
    · omega
    · rename_i q
      rcases hlt with h | h
      · omega
      · exact absurd h q
  · have := e_rm_le (F := F') (E := E) (pc := (M' 70).toInt)
    omega
/-- the trial is over -/
theorem e_QA_ov {G : e_G} {B E T : Int} {M M' : e_M} {F F' : e_F} {f ot : Nat} {ks rs : List Nat} (hS : e_TS M F) (c : e_hc ks rs M F M' F') (hk : ∀ k, k ∈ ks → 48 ≤ k) (hr : ∀ r, r ∈ rs → 46 ≤ r) (hk2 : ∀ k, k ∈ [78, 79] → k ∉ ks) (hO : e_OB M' F') (h71 : M' 71 = 1) : e_QA G B E T M F f ot M' F' :=
  ⟨e_XR_of c hk hr, ⟨hO, by rw [c.1 78 (hk2 78 (by decide)), c.1 79 (hk2 79 (by decide))]; exact hS.2⟩, fun _ q => absurd (h71.symm.trans q) (by decide)⟩
