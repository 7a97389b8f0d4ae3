theorem e_P_rf {M : e_M} {F : e_F} (G : e_G) (hI : e_PI M F) : e_P 0 M F G M F := ⟨hI, e_PR_rf M F G, ⟨rfl, rfl, rfl, rfl⟩, fun _ => by omega⟩
theorem e_Z_rf {M : e_M} {F : e_F} (G : e_G) (hI : e_PI M F) (A B : Int) : e_Z 0 A B 0 M F G M F G := e_P_Z (e_P_rf G hI) (by decide) A B
theorem e_Z_mo {c A B δ : Int} {M M1 : e_M} {F F1 : e_F} {G G1 : e_G} (h : e_Z c A B δ M F G M1 F1 G1) : (M 29).toInt ≤ (M1 29).toInt ∧ (M 6).toInt ≤ (M1 6).toInt := ⟨h.2.1.1.1.2.1.1, h.2.1.1.1.2.1.2.2.2.2.2⟩
theorem e_Z_bad {c A B δ : Int} {M M1 : e_M} {F F1 : e_F} {G G1 : e_G} (h : e_Z c A B δ M F G M1 F1 G1) : (M 36).toInt ≠ -1 → (M1 36).toInt ≠ -1 := h.2.1.1.1.2.2.1
theorem p_productBehind {WF : e_M → e_F → (e_M → e_F → Prop) → Prop} {n : Nat} (hX : e_SX WF n 0 2) : e_SY (w_productBehind WF) n 0 3 := by
  intro M F G e Q hI hC he he' hf hQ
  have key : ∀ (k : Nat) (M1 : e_M) (F1 : e_F) (G1 : e_G), e_Z 0 1 (61 - 3 * (20 - (M 33).toInt) - 0) 0 M F G M1 F1 G1 → M1 33 = M 33 → (∀ f, ((M 36).toInt = -1 → 3 ≤ f) → ((M 36).toInt ≠ -1 → e ≤ f) → e_CB M1 f) → ((M1 36).toInt = -1 → 4001 - (M1 6).toInt < k) → 1 ≤ k → w_productBehind_0 WF Q k M1 F1 := by
    intro k
    induction k with
    | zero => intro M1 F1 G1 z y c q1 q2; exact absurd q2 (by omega)
    | succ k ih =>
      intro M1 F1 G1 z y c q1 q2
      have h27 : (M1 36).toInt = -1 → (M1 4).toInt = 6 → w_productBehind_27 WF (w_productBehind_0 WF Q k) Q M1 F1 := by
        intro hb h4
        have hb0 := e_Z_nb z hb
        have s1 := e_PI_e z.1
        refine p_bin hX (by decide) G1 z.1 hb (by omega) ((c 3 (fun _ => by omega) (fun q => absurd hb0 q)).1 hb) (e_fu_go hf y (fun q => absurd hb0 q)) (fun M2 F2 G2 z2 y2 c2 => ?_)
        rw [y] at z2 y2
        refine ih M2 F2 G2 (e_Z_tr z z2 (by omega) (by omega) (by omega) (by omega)) y2 (fun f a b => e_CB_mo c2 (by have := a hb0; omega)) (fun g => ?_) (by have := q1 hb; omega)
        have := (z2.2.2 g).1
        have := e_Z_mo z2
        have := q1 hb
        omega
      dsimp only [w_productBehind_0]
      have hq := hQ M1 F1 G1 z y c
      have z0 : ¬ (1 : Int32) = 0 := by decide
      refine p_isSign (fun _ => ⟨fun q => absurd rfl q, fun _ => ?_⟩) (fun a b _ => ⟨fun _ => h27 a b, fun q => absurd q z0⟩)
      refine p_isSign (fun _ => ⟨fun q => absurd rfl q, fun _ => ?_⟩) (fun a b _ => ⟨fun _ => h27 a b, fun q => absurd q z0⟩)
      exact p_isSign (fun _ => ⟨fun _ => hq, fun q => absurd rfl q⟩) (fun a b _ => ⟨fun q => absurd q z0, fun _ => h27 a b⟩)
  have s := e_PI_e hI
  exact ⟨5000, key 5000 M F G (e_Z_rf G hI _ _) rfl (fun f a b => ⟨hC.1, fun q => by have := hC.2 q; have := b q; omega⟩) (fun _ => by omega) (by decide)⟩
theorem p_product {WF : e_M → e_F → (e_M → e_F → Prop) → Prop} {n : Nat} (hX : e_SX WF n 0 2) : e_SX (w_product WF) n 1 3 := by
  intro M F G e Q hI hC he he' hf hQ
  refine hX M F G e _ hI hC he he' hf (fun M1 F1 G1 z y c => ?_)
  have hf1 := e_fu_go hf y (e_Z_bad z)
  by_cases hb : (M 36).toInt = -1
  · refine p_productBehind hX M1 F1 G1 2 _ z.1 (c 2 (fun _ => by omega) (fun q => absurd hb q)) (by decide) (by decide) hf1 (fun M2 F2 G2 z2 y2 c2 => ?_)
    rw [y] at z2 y2
    have z' : e_Z 0 0 (61 - 3 * (20 - (M 33).toInt) - 1) 1 M F G M1 F1 G1 := ⟨z.1, ⟨z.2.1.1, fun g a b => z.2.1.2 g a (by omega)⟩, z.2.2⟩
    exact hQ M2 F2 G2 (e_Z_tr z' z2 (by omega) (by omega) (by omega) (by omega)) y2 (fun f a b => c2 f (fun _ => a hb) (fun _ => by have := a hb; omega))
  · refine p_productBehind hX M1 F1 G1 e _ z.1 (c e (fun q => absurd q hb) (fun _ => by omega)) he he' hf1 (fun M2 F2 G2 z2 y2 c2 => ?_)
    rw [y] at z2 y2
    have z' : e_Z 0 0 (61 - 3 * (20 - (M 33).toInt) - 1) 1 M F G M1 F1 G1 := ⟨z.1, ⟨z.2.1.1, fun g a b => z.2.1.2 g a (by omega)⟩, z.2.2⟩
    exact hQ M2 F2 G2 (e_Z_tr z' z2 (by omega) (by omega) (by omega) (by omega)) y2 (fun f a b => c2 f (fun q => absurd q (e_Z_bad z hb)) (fun _ => b hb))
theorem p_sumBehind {WF : e_M → e_F → (e_M → e_F → Prop) → Prop} {n : Nat} (hX : e_SX WF n 0 2) : e_SY (w_sumBehind WF) n 1 4 := by
  intro M F G e Q hI hC he he' hf hQ
  have key : ∀ (k : Nat) (M1 : e_M) (F1 : e_F) (G1 : e_G), e_Z 0 1 (61 - 3 * (20 - (M 33).toInt) - 1) 0 M F G M1 F1 G1 → M1 33 = M 33 → (∀ f, ((M 36).toInt = -1 → 4 ≤ f) → ((M 36).toInt ≠ -1 → e ≤ f) → e_CB M1 f) → ((M1 36).toInt = -1 → 4001 - (M1 6).toInt < k) → 1 ≤ k → w_sumBehind_0 WF Q k M1 F1 := by
    intro k
    induction k with
    | zero => intro M1 F1 G1 z y c q1 q2; exact absurd q2 (by omega)
    | succ k ih =>
      intro M1 F1 G1 z y c q1 q2
      have h27 : (M1 36).toInt = -1 → (M1 4).toInt = 6 → w_sumBehind_18 WF (w_sumBehind_0 WF Q k) Q M1 F1 := by
        intro hb h4
        have hb0 := e_Z_nb z hb
        have s1 := e_PI_e z.1
        refine p_bin (p_product hX) (by decide) G1 z.1 hb (by omega) ((c 4 (fun _ => by omega) (fun q => absurd hb0 q)).1 hb) (e_fu_go hf y (fun q => absurd hb0 q)) (fun M2 F2 G2 z2 y2 c2 => ?_)
        rw [y] at z2 y2
        refine ih M2 F2 G2 (e_Z_tr z z2 (by omega) (by omega) (by omega) (by omega)) y2 (fun f a b => e_CB_mo c2 (by have := a hb0; omega)) (fun g => ?_) (by have := q1 hb; omega)
        have := (z2.2.2 g).1
        have := e_Z_mo z2
        have := q1 hb
        omega
      dsimp only [w_sumBehind_0]
      have hq := hQ M1 F1 G1 z y c
      have z0 : ¬ (1 : Int32) = 0 := by decide
      refine p_isSign (fun _ => ⟨fun q => absurd rfl q, fun _ => ?_⟩) (fun a b _ => ⟨fun _ => h27 a b, fun q => absurd q z0⟩)
      exact p_isSign (fun _ => ⟨fun _ => hq, fun q => absurd rfl q⟩) (fun a b _ => ⟨fun q => absurd q z0, fun _ => h27 a b⟩)
  have s := e_PI_e hI
  exact ⟨5000, key 5000 M F G (e_Z_rf G hI _ _) rfl (fun f a b => ⟨hC.1, fun q => by have := hC.2 q; have := b q; omega⟩) (fun _ => by omega) (by decide)⟩
/-- a first part and what follows it -/
theorem e_seq {W1 W2 : e_M → e_F → (e_M → e_F → Prop) → Prop} {n : Nat} {β1 ex1 ex2 : Int} (h1 : e_SX W1 n β1 ex1) (h2 : e_SY W2 n β1 ex2) (hx : (0 ≤ ex1 ∧ ex1 ≤ ex2) ∧ ex1 ≤ 60) : e_SX (fun M F Q => W1 M F (fun M1 F1 => W2 M1 F1 (fun M2 F2 => Q M2 F2))) n (β1 + 1) ex2 := by
  intro M F G e Q hI hC he he' hf hQ
  refine h1 M F G e _ hI hC he he' hf (fun M1 F1 G1 z y c => ?_)
  have hf1 := e_fu_go hf y (e_Z_bad z)
  have z' : e_Z 0 0 (61 - 3 * (20 - (M 33).toInt) - (β1 + 1)) 1 M F G M1 F1 G1 := ⟨z.1, ⟨z.2.1.1, fun g a b => z.2.1.2 g a (by omega)⟩, z.2.2⟩
  by_cases hb : (M 36).toInt = -1
  · refine h2 M1 F1 G1 ex1 _ z.1 (c ex1 (fun _ => by omega) (fun q => absurd hb q)) (by omega) (by omega) hf1 (fun M2 F2 G2 z2 y2 c2 => ?_)
    rw [y] at z2 y2
    exact hQ M2 F2 G2 (e_Z_tr z' z2 (by omega) (by omega) (by omega) (by omega)) y2 (fun f a b => c2 f (fun _ => a hb) (fun _ => by have := a hb; omega))
  · refine h2 M1 F1 G1 e _ z.1 (c e (fun q => absurd q hb) (fun _ => by omega)) he he' hf1 (fun M2 F2 G2 z2 y2 c2 => ?_)
    rw [y] at z2 y2
    exact hQ M2 F2 G2 (e_Z_tr z' z2 (by omega) (by omega) (by omega) (by omega)) y2 (fun f a b => c2 f (fun q => absurd q (e_Z_bad z hb)) (fun _ => b hb))
theorem p_sum {WF : e_M → e_F → (e_M → e_F → Prop) → Prop} {n : Nat} (hX : e_SX WF n 0 2) : e_SX (w_sum WF) n 2 4 := e_seq (p_product hX) (p_sumBehind hX) (by decide)
theorem p_compared {WF : e_M → e_F → (e_M → e_F → Prop) → Prop} {n : Nat} (hX : e_SX WF n 0 2) : e_SY (w_compared WF) n 2 5 := by
  intro M F G e Q hI hC he he' hf hQ
  have z0 : ¬ (1 : Int32) = 0 := by decide
  have h30 : (M 36).toInt = -1 → (M 4).toInt = 6 → w_compared_30 WF Q M F := by
    intro hb h4
    refine p_bin (p_sum hX) (by decide) G hI hb (by omega) (hC.1 hb) hf (fun M2 F2 G2 z2 y2 c2 => hQ M2 F2 G2 ⟨z2.1, z2.2.1, fun g => by have := z2.2.2 g; omega⟩ y2 (fun f a b => e_CB_mo c2 (by have := a hb; omega)))
  have hq := hQ M F G (e_Z_rf G hI _ _) rfl (fun f a b => ⟨hC.1, fun q => by have := hC.2 q; have := b q; omega⟩)
  refine p_isSign (fun _ => ⟨fun q => absurd rfl q, fun _ => ?_⟩) (fun a b _ => ⟨fun _ => h30 a b, fun q => absurd q z0⟩)
  refine p_isSign (fun _ => ⟨fun q => absurd rfl q, fun _ => ?_⟩) (fun a b _ => ⟨fun _ => h30 a b, fun q => absurd q z0⟩)
  exact p_isSign (fun _ => ⟨fun q => absurd rfl q, fun _ => hq⟩) (fun a b _ => ⟨fun _ => h30 a b, fun q => absurd q z0⟩)
theorem p_whole {WF : e_M → e_F → (e_M → e_F → Prop) → Prop} {n : Nat} (hX : e_SX WF n 0 2) : e_SX (w_whole WF) n 3 5 := e_seq (p_sum hX) (p_compared hX) (by decide)
