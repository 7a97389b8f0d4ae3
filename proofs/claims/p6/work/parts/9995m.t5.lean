/-! THE REFERENCE'S READ: what it answers. -/
section XT5
variable {E : x_E} {x : x_X}
def z_fin (M : Nat → Int32) (x : x_X) : Prop := (x.1 = true → ¬ M 36 = -1) ∧ (x.1 = false → M 36 = -1 ∧ (M 37 = -1 ↔ X_2 x = false) ∧ (X_2 x = false → (M 38 = -1 ↔ X_3 x = false)) ∧ (X_2 x = false → X_3 x = false → (M 39 = -1 ↔ all4 x (X_l x).length)))
theorem re_308 {WB : x_RW} {Q Q' : Int32 → (Nat → Int32) → (Nat → Nat → Int32) → Prop} {t t1 : Int32} {M : Nat → Int32} {F : Nat → Nat → Int32} (e : M 40 = t1) (h : ∀ M' F', Q t1 M' F' → Q' t1 M' F') (w : w_read_308 WB Q t M F) : w_read_308 WB Q' t M F := by
  have e1 : um (um M 41 t) 28 (M 30) 40 = t1 := e
  have e2 : um (um M 41 t) 27 (1 - (M 27)) 40 = t1 := e
  refine ⟨fun q => ?_, fun q => ?_⟩
  · have w1 : Q (um (um M 41 t) 28 (M 30) 40) (um (um M 41 t) 28 (M 30)) F := w.1 q
    show Q' (um (um M 41 t) 28 (M 30) 40) (um (um M 41 t) 28 (M 30)) F
    rw [e1] at w1 ⊢
    exact h _ _ w1
  · have w1 : Q (um (um M 41 t) 27 (1 - (M 27)) 40) (um (um M 41 t) 27 (1 - (M 27))) F := w.2 q
    show Q' (um (um M 41 t) 27 (1 - (M 27)) 40) (um (um M 41 t) 27 (1 - (M 27))) F
    rw [e2] at w1 ⊢
    exact h _ _ w1
theorem re_256 {WB : x_RW} {Q Q' : Int32 → (Nat → Int32) → (Nat → Nat → Int32) → Prop} {t1 : Int32} {M : Nat → Int32} {F : Nat → Nat → Int32} (h : ∀ M' F', Q t1 M' F' → Q' t1 M' F') (w : w_read_256 WB Q t1 M F) : w_read_256 WB Q' t1 M F := by
  have e : um M 40 t1 40 = t1 := um_eq
  unfold w_read_256 w_bad at w ⊢
  refine ⟨fun a => ⟨fun b => ⟨fun c => ⟨fun d => re_308 e h ((((w.1 a).1 b).1 c).1 d), fun d => re_308 e h ((((w.1 a).1 b).1 c).2 d)⟩, fun c => re_308 e h (((w.1 a).1 b).2 c)⟩, fun b => re_308 e h ((w.1 a).2 b)⟩, fun a => ⟨fun b => ⟨fun c => ⟨fun d => re_308 e h ((((w.2 a).1 b).1 c).1 d), fun d => re_308 e h ((((w.2 a).1 b).1 c).2 d)⟩, fun c => re_308 e h (((w.2 a).1 b).2 c)⟩, fun b => re_308 e h ((w.2 a).2 b)⟩⟩
theorem re_207 {WB : x_RW} {Q Q' : Int32 → (Nat → Int32) → (Nat → Nat → Int32) → Prop} {M : Nat → Int32} {F : Nat → Nat → Int32} (hz : z_fin M x) (h : ∀ r M' F', is_a x r → Q r M' F' → Q' r M' F') (w : w_read_207 WB Q M F) : w_read_207 WB Q' M F := by
  obtain ⟨zb1, zg⟩ := hz
  unfold w_read_207 w_bad at w ⊢
  cases xb : x.1 with
  | true =>
    have a1 : is_a x 1 := ⟨fun _ => rfl, fun y => absurd (xb.symm.trans y) (by decide), fun y => absurd (xb.symm.trans y) (by decide), fun y => absurd (xb.symm.trans y) (by decide)⟩
    exact ⟨fun a => absurd a (zb1 xb), fun a => ⟨fun b => absurd b (by decide), fun b => re_256 (fun M' F' => h 1 M' F' a1) ((w.2 a).2 b)⟩⟩
  | false =>
    obtain ⟨g1, g2, g3, g4⟩ := zg xb
    refine ⟨fun a => ⟨fun b => ⟨fun c => ⟨fun d => ⟨fun e => re_256 (fun M' F' => h 0 M' F' ?_) (((((w.1 a).1 b).1 c).1 d).1 e), fun e => re_256 (fun M' F' => h 4 M' F' ?_) (((((w.1 a).1 b).1 c).1 d).2 e)⟩, fun d => re_256 (fun M' F' => h 3 M' F' ?_) ((((w.1 a).1 b).1 c).2 d)⟩, fun c => re_256 (fun M' F' => h 2 M' F' ?_) (((w.1 a).1 b).2 c)⟩, fun b => absurd rfl b⟩, fun a => absurd g1 a⟩
    · have u := g2.mp c
      have v := (g3 u).mp d
      exact ⟨fun y => absurd (y.symm.trans xb) (by decide), fun _ y => absurd (y.symm.trans u) (by decide), fun _ _ y => absurd (y.symm.trans v) (by decide), fun _ _ _ => ⟨fun _ => rfl, fun y => absurd ((g4 u v).mp e) y⟩⟩
    · have u := g2.mp c
      have v := (g3 u).mp d
      exact ⟨fun y => absurd (y.symm.trans xb) (by decide), fun _ y => absurd (y.symm.trans u) (by decide), fun _ _ y => absurd (y.symm.trans v) (by decide), fun _ _ _ => ⟨fun y => absurd ((g4 u v).mpr y) e, fun _ => rfl⟩⟩
    · have u := g2.mp c
      exact ⟨fun y => absurd (y.symm.trans xb) (by decide), fun _ y => absurd (y.symm.trans u) (by decide), fun _ _ _ => rfl, fun _ _ y => absurd ((g3 u).mpr y) d⟩
    · exact ⟨fun y => absurd (y.symm.trans xb) (by decide), fun _ _ => rfl, fun _ y => absurd (g2.mpr y) c, fun _ y => absurd (g2.mpr y) c⟩
/-- the reference's hears: the first i looked at -/
def zI (x : x_X) (i : Nat) (M0 M : Nat → Int32) (F0 F : Nat → Nat → Int32) : Prop := (∀ j, j ∈ rz_LM → j ≠ 39 → j ≠ 34 → j ≠ 35 → M j = M0 j) ∧ (∀ j, j ∈ rz_LF → F j = F0 j) ∧ (X_2 x = false → X_3 x = false → (M 39 = -1 ↔ all4 x i))
theorem re_findL (hE : E_ok E) {b : Nat} {M0 : Nat → Int32} {F0 : Nat → Nat → Int32} (g : rxg E (b, false) M0 F0 x) (hI : t_I E x) (hb : x.1 = false) (ht : X_t x = E_m E) {WB : x_RW} {Q Q' : Int32 → (Nat → Int32) → (Nat → Nat → Int32) → Prop} (hQ : ∀ M F, zI x (X_l x).length M0 M F0 F → w_read_207 WB Q M F → w_read_207 WB Q' M F) : ∀ (e i : Nat) (M : Nat → Int32) (F : Nat → Nat → Int32), i ≤ (X_l x).length → zI x i M0 M F0 F → w_read_104 WB Q e (nI i) M F → w_read_104 WB Q' e (nI i) M F := by
  obtain ⟨-, hh, hT⟩ := hI
  obtain ⟨-, tv, t16, th, tl⟩ := hT hb
  have hl := hh hb
  have hn := E_n4 hE
  obtain ⟨g1, ⟨f36, f39, f37, f38⟩, g3, ⟨t1, t2⟩, ⟨h1, h2⟩, ⟨⟨p1, p2, p3, p4⟩, p5⟩⟩ := g
  have hpn := E_pn hE g1.2
  have hL : E_L E ≤ 2005 := hE.1.2.2.2.2.1
  have p2 : b ≤ 1 := p2
  intro e
  induction e with
  | zero => intro i M F _ _ w; exact absurd w (fun q => q)
  | succ e ih =>
    intro i M F hi hz w
    obtain ⟨z1, z2, z3⟩ := hz
    have e46 : M 46 = nI (X_l x).length := by rw [z1 46 (by decide) (by decide) (by decide) (by decide)]; exact h1
    have e36 : M 36 = -1 := by rw [z1 36 (by decide) (by decide) (by decide) (by decide)]; exact f36
    dsimp only [w_read_104] at w ⊢
    rw [e46] at w ⊢
    refine ⟨fun q => ?_, fun q => ?_⟩
    · have q' := (y_le (by omega) (by omega)).mp q
      have hi : i = (X_l x).length := by omega
      subst hi
      exact hQ M F ⟨z1, z2, z3⟩ (w.1 q)
    · have q' : ¬ (X_l x).length ≤ i := fun y => q ((y_le (by omega) (by omega)).mpr y)
      have hil : i < (X_l x).length := by omega
      have w := w.2 q
      unfold w_bad at w ⊢
      refine ⟨fun a => ⟨fun y => absurd rfl y, fun y => ?_⟩, fun a => absurd e36 a⟩
      have w := (w.1 a).2 y
      obtain ⟨u1, u2, u3⟩ := h2 i hil
      have r43 : F 43 (nI i).toNatClampNeg = nI ((X_l x).getD i (0, 0)).1 := by rw [y_cl (by omega), z2 43 (by decide)]; exact u1
      have r44 : F 44 (nI i).toNatClampNeg = ((X_l x).getD i (0, 0)).2 := by rw [y_cl (by omega), z2 44 (by decide)]; exact u2
      have r45 : ¬ F 45 (nI i).toNatClampNeg = -1 := by rw [y_cl (by omega), z2 45 (by decide)]; exact u3
      have hw : ((X_l x).getD i (0, 0)).1 < E_L E := by
        refine tl _ ?_
        rw [List.getD_eq_getElem?_getD, List.getElem?_eq_getElem hil]
        exact List.getElem_mem hil
      have hwl : ((X_l x).getD i (0, 0)).1 < E_l E (X_t x) := by
        rw [ht]
        unfold E_l
        rw [if_neg (by omega)]
        exact hw
      have r11 : F 11 (nI ((X_l x).getD i (0, 0)).1).toNatClampNeg = X_v x ((X_l x).getD i (0, 0)).1 := by rw [y_cl (by omega), z2 11 (by decide)]; exact (t1 _ hwl).2
      have e27 : M 27 = nI b := by rw [z1 27 (by decide) (by decide) (by decide) (by decide)]; exact p1
      -- one more
      have nxt : ∀ (M1 : Nat → Int32) (F1 : Nat → Nat → Int32), zI x (i + 1) M0 M1 F0 F1 → w_read_201 WB (w_read_104 WB Q e) Q (nI i) M1 F1 → w_read_201 WB (w_read_104 WB Q' e) Q' (nI i) M1 F1 := fun M1 F1 hz1 w1 => by
        have w1 : w_read_104 WB Q e (nI i + 1) M1 F1 := w1
        show w_read_104 WB Q' e (nI i + 1) M1 F1
        rw [y_1] at w1 ⊢
        exact ih (i + 1) M1 F1 hil hz1 w1
      have g160 : (X_2 x = false → X_3 x = false → ¬ ok4 x ((X_l x).getD i (0, 0))) → w_read_160 WB (w_read_104 WB Q e) Q (nI i) M F → w_read_160 WB (w_read_104 WB Q' e) Q' (nI i) M F := fun no w1 => ⟨w1.1, re_least r45 w1.2 (fun r hr w2 => nxt _ _ ⟨fun j hj hj' h34 h35 => by rw [um_ne hj']; exact z1 j hj hj' h34 h35, z2, fun u v => ⟨fun y => absurd (um_eq.symm.trans y) hr, fun y => absurd (all4_s.mp y).2 (no u v)⟩⟩ w2)⟩
      obtain ⟨w1, w2, w3⟩ := w
      rw [r43, r11] at w3
      rw [r43] at w2
      rw [r43, r11]
      refine ⟨w1, w2, fun v11 hv => ?_⟩
      have w3 := w3 v11 hv
      subst hv
      refine ⟨fun q => g160 (fun _ _ o => o.1 q) (w3.1 q), fun q => ?_⟩
      have w4 := w3.2 q
      have hv := (tv ((X_l x).getD i (0, 0)).1).resolve_left q
      have ec : (X_v x ((X_l x).getD i (0, 0)).1).toNatClampNeg = (X_v x ((X_l x).getD i (0, 0)).1).toInt.toNat := rfl
      have e4 : (400 * nI b : Int32).toInt = 400 * (b : Int) := by
        have : b = 0 ∨ b = 1 := by omega
        rcases this with rfl | rfl <;> decide
      have ea : (400 * nI b + X_v x ((X_l x).getD i (0, 0)).1).toInt = 400 * (b : Int) + (X_v x ((X_l x).getD i (0, 0)).1).toInt := by rw [ti_addx _ _ (by rw [e4]; omega), e4]
      have en : (400 * nI b + X_v x ((X_l x).getD i (0, 0)).1).toNatClampNeg = 400 * b + (X_v x ((X_l x).getD i (0, 0)).1).toNatClampNeg := by
        have e1 : (400 * nI b + X_v x ((X_l x).getD i (0, 0)).1).toNatClampNeg = (400 * nI b + X_v x ((X_l x).getD i (0, 0)).1).toInt.toNat := rfl
        rw [e1, ec, ea]; omega
      have r19 : F 19 (400 * nI b + X_v x ((X_l x).getD i (0, 0)).1).toNatClampNeg = X_r x (X_v x ((X_l x).getD i (0, 0)).1).toNatClampNeg := by
        rw [en, z2 19 (by decide)]
        exact p5 _ (Or.inl (by rw [ec]; show ((X_v x ((X_l x).getD i (0, 0)).1).toInt.toNat : Int) < (X_i x 1).toInt; omega))
      obtain ⟨v1, v2⟩ := w4
      rw [e27] at v1 v2 ⊢
      refine ⟨v1, fun v16 hv16 => ?_⟩
      obtain ⟨v3, v4, v5⟩ := v2 v16 hv16
      rw [r19] at hv16
      rw [r44] at v4 v5 ⊢
      refine ⟨v3, fun y => ⟨(v4 y).1, (v4 y).2.1, nxt M _ ⟨z1, fun j hj => ?_, fun u v => ?_⟩ (v4 y).2.2⟩, fun y => g160 (fun _ _ o => y (hv16.trans o.2)) (v5 y)⟩
      · rw [uf_row (fun q => by rw [q] at hj; exact absurd hj (by decide))]; exact z2 j hj
      · exact ⟨fun o => all4_s.mpr ⟨(z3 u v).mp o, q, hv16.symm.trans y⟩, fun o => (z3 u v).mpr (all4_s.mp o).1⟩
theorem re_find (hE : E_ok E) {b : Nat} {M : Nat → Int32} {F : Nat → Nat → Int32} (hr : rxo E b M F x) (hI : t_I E x) (ht : x.1 = false → X_ty E x = 135) {WB : x_RW} {Q Q' : Int32 → (Nat → Int32) → (Nat → Nat → Int32) → Prop} (h : ∀ r M' F', is_a x r → Q r M' F' → Q' r M' F') {e : Nat} (w : w_read_104 WB Q e 0 M F) : w_read_104 WB Q' e 0 M F := by
  obtain ⟨a, c, hr⟩ := hr
  cases hb : x.1 with
  | true =>
    have hz := hr.1 hb
    have zf : z_fin M x := ⟨fun _ => hz, fun q => absurd (hb.symm.trans q) (by decide)⟩
    cases e with
    | zero => exact absurd w (fun q => q)
    | succ e =>
      dsimp only [w_read_104] at w ⊢
      refine ⟨fun q => re_207 zf h (w.1 q), fun q => ?_⟩
      have w := w.2 q
      unfold w_bad at w ⊢
      exact ⟨fun a => absurd a hz, fun a => ⟨fun b => re_207 zf h ((w.2 a).1 b), fun b => absurd b (by decide)⟩⟩
  | false =>
    obtain ⟨g1, ⟨f36, f39, f37, f38⟩, ⟨i0, i1, -⟩, g4, g5, g6⟩ := hr.2 hb
    have htm : X_t x = E_m E := by
      by_cases q : X_t x = E_m E
      · exact q
      · have hlt : X_t x < E_m E := by have := g1.2; have : X_t x ≤ E_m E := g1.2; omega
        exact absurd ((X_tyg hb).symm.trans (ht hb)) (x_ty (hE.1.1.2.2 _ hlt).2.2.1).2
    -- the old counts do not matter here
    have g : rxg E (b, false) (um (um M 34 (X_i x 2)) 35 (X_i x 3)) F x := ⟨rz_q_cg g1 rfl rfl rfl rfl rfl rfl rfl rfl rfl, ⟨f36, f39, f37, f38⟩, ⟨i0, i1, fun _ _ => ⟨rfl, rfl⟩⟩, g4, g5, g6⟩
    refine re_findL hE g hI hb htm (fun M1 F1 hz w1 => re_207 ?_ h w1) e 0 M F (by omega) ⟨fun j hj _ h34 h35 => by rw [um_ne h35, um_ne h34], fun _ _ => rfl, fun _ _ => ⟨fun _ j hj => absurd hj (by omega), fun _ => f39⟩⟩ w
    · obtain ⟨z1, z2, z3⟩ := hz
      refine ⟨fun q => absurd (hb.symm.trans q) (by decide), fun _ => ⟨?_, ?_, fun q => ?_, z3⟩⟩
      · rw [z1 36 (by decide) (by decide) (by decide) (by decide)]; exact f36
      · rw [z1 37 (by decide) (by decide) (by decide) (by decide)]; exact f37
      · rw [z1 38 (by decide) (by decide) (by decide) (by decide)]; exact f38 q
/-- what the reference answers to a text -/
def RD (T : Nat → Int32) (n : Nat) (r : Int32) : Prop := ∀ (k : Nat) (M : Nat → Int32) (F : Nat → Nat → Int32) (Q : Int32 → (Nat → Int32) → (Nat → Nat → Int32) → Prop), (∀ i, i < n → F 0 i = T i) → (M 27 = 0 ∨ M 27 = 1) → nI n ≤ M 1 → w_read (wf_blk k) (nI n) M F Q → w_read (wf_blk k) (nI n) M F (fun r' M' F' => Q r' M' F' ∧ r' = r)
/-- where both begin -/
def x_0 : x_X := (false, 0, 0, fun _ => 0, false, false, fun _ => -1, fun _ => -1, fun _ => 0, [])
theorem x_0_I (hE : E_ok E) : t_I E x_0 := by
  have l0 : (0 : Int32).toInt = 0 := by decide
  refine ⟨fun _ => ⟨Nat.zero_le _, ?_, ?_⟩, fun _ => Nat.zero_le _, fun _ => ⟨rfl, fun _ => Or.inl rfl, fun _ _ => ?_, ⟨?_, ?_⟩, fun p hp => absurd hp (by intro q; cases q)⟩⟩
  · show 0 ≤ (0 : Int32).toInt ∧ (0 : Int32).toInt ≤ 20; decide
  · show ((0 : Nat) : Int) ≤ 2 * (E_p E 0 : Int) + 0; omega
  · show (0 : Int32).toInt ≤ 16; decide
  · show 0 ≤ (0 : Int32).toInt; decide
  · show (0 : Int32).toInt ≤ ((0 : Nat) : Int); decide
theorem re_read (hE : E_ok E) {x' : x_X} (hT : ∀ (n b e : Nat) (M : Nat → Int32) (F : Nat → Nat → Int32) (Q Q' : (Nat → Int32) → (Nat → Nat → Int32) → Prop), rxo E b M F x_0 → (∀ M' F', rxo E b M' F' x' → Q M' F' → Q' M' F') → w_text_0 (wf_blk n) Q e M F → w_text_0 (wf_blk n) Q' e M F) (hI : t_I E x') (ht : x'.1 = false → X_ty E x' = 135) {r : Int32} (ha : is_a x' r) : RD (E_T E) (E_n E) r := by
  intro k M F Q hF h27 hle w
  have hn := E_n4 hE
  refine ⟨fun q => absurd q (y_lt0 (by omega)), fun a => ⟨fun c => ?_, fun q => absurd hle q⟩⟩
  have w := (w.2 a).1 c
  have hX := hE.1
  have e0 : E_k E 0 = 0 := hX.1.1
  have f0 : E_f E 0 = [] := hX.1.2.1
  have w2 := z_adv0 (M := um (um (um (um (um (um (um (um (um (um (um (um (um (um (um M 2 (nI (E_n E))) 1 0) 27 (1 - (M 27))) 29 0) 30 0) 31 0) 32 0) 33 0) 46 0) 12 0) 36 (-1)) 37 (-1)) 38 (-1)) 39 (-1)) 3 0) (F := F) hX (t := 0) (k := 0) (tb := []) (Nat.zero_le _) e0.symm f0.symm ⟨rfl, hn.1, hF⟩ rfl ⟨rfl, by decide, fun w hw => absurd hw (by simp)⟩ (Q := fun M' F' => q_r (E_T E) (E_A E) (E_V E) (E_P E) (E_n E) (E_m E) (E_k E) (E_f E) M' F' 0 ∧ z_fr (um (um (um (um (um (um (um (um (um (um (um (um (um (um (um M 2 (nI (E_n E))) 1 0) 27 (1 - (M 27))) 29 0) 30 0) 31 0) 32 0) 33 0) 46 0) 12 0) 36 (-1)) 37 (-1)) 38 (-1)) 39 (-1)) 3 0) M' F F' (E_f E 0)) (fun M' F' p q => ⟨p, q⟩)
  obtain ⟨b, hb1, hb2⟩ : ∃ b : Nat, b ≤ 1 ∧ 1 - M 27 = nI b := by
    rcases h27 with q | q
    · exact ⟨1, by omega, by rw [q]; decide⟩
    · exact ⟨0, by omega, by rw [q]; decide⟩
  refine cj_next w w2 (fun M1 F1 w1 z => ?_)
  obtain ⟨q1, z2, z3, z4, z5⟩ := z
  rw [f0] at z4 z5
  have em : ∀ j, j ≠ 3 → j ≠ 4 → j ≠ 5 → j ≠ 6 → j ≠ 12 → M1 j = um (um (um (um (um (um (um (um (um (um (um (um (um (um (um M 2 (nI (E_n E))) 1 0) 27 (1 - (M 27))) 29 0) 30 0) 31 0) 32 0) 33 0) 46 0) 12 0) 36 (-1)) 37 (-1)) 38 (-1)) 39 (-1)) 3 0 j := z2
  have l0 : (0 : Int32).toInt = 0 := by decide
  have hr : rxo E b M1 F1 x_0 := by
    refine ⟨M1 34, M1 35, rx_g ⟨⟨q1, Nat.zero_le _⟩, ⟨?_, ?_, ?_, fun _ => ?_⟩, ⟨⟨?_, ?_, ?_⟩, ?_, fun _ _ => ⟨rfl, rfl⟩⟩, ⟨fun v hv => ?_, fun _ _ => ⟨rfl, rfl⟩⟩, ⟨?_, fun i hi => absurd hi (by show ¬ i < 0; omega)⟩, ⟨⟨?_, hb1, ?_, ?_⟩, fun j hj => ?_⟩⟩ rfl⟩
    · exact em 36 (by decide) (by decide) (by decide) (by decide) (by decide)
    · exact em 39 (by decide) (by decide) (by decide) (by decide) (by decide)
    · exact ⟨fun _ => rfl, fun _ => em 37 (by decide) (by decide) (by decide) (by decide) (by decide)⟩
    · exact ⟨fun _ => rfl, fun _ => em 38 (by decide) (by decide) (by decide) (by decide) (by decide)⟩
    · exact em 33 (by decide) (by decide) (by decide) (by decide) (by decide)
    · show 0 ≤ (0 : Int32).toInt; decide
    · show (0 : Int32).toInt ≤ 20; decide
    · exact em 30 (by decide) (by decide) (by decide) (by decide) (by decide)
    · -- at most the first word: a new row
      have hv : v < E_l E 0 := hv
      have lv : v = 0 ∧ ¬ M1 12 = 0 := by
        unfold E_l at hv
        by_cases q : 0 < E_m E
        · rw [if_pos q] at hv
          rcases x_step_len (hX.1.2.2 0 q).2.2.1 with y | y
          · rw [show E_f E (0 + 1) = E_f E 0 from y, f0] at hv; exact absurd hv (by simp)
          · have y' : E_f E (0 + 1) = E_f E 0 ++ _ := y
            have hlen : (E_f E (0 + 1)).length = 1 := by rw [y', f0]; rfl
            rw [hlen] at hv
            refine ⟨by omega, ?_⟩
            rcases q1.2.2 with ⟨-, -, -, u⟩ | ⟨u, -⟩
            · rw [u.1, hlen]; decide
            · omega
        · have qm : E_m E = 0 := by omega
          rw [if_neg q, qm, f0] at hv; exact absurd hv (by simp)
      obtain ⟨rfl, hne⟩ := lv
      rcases z5 with ⟨-, y⟩ | y
      · exact absurd y hne
      · exact y
    · exact em 46 (by decide) (by decide) (by decide) (by decide) (by decide)
    · exact (em 27 (by decide) (by decide) (by decide) (by decide) (by decide)).trans hb2
    · show 0 ≤ (0 : Int32).toInt; decide
    · show (0 : Int32).toInt ≤ ((0 : Nat) : Int); decide
    · rcases hj with hj | ⟨hj, -⟩
      · have hj : (j : Int) < (0 : Int32).toInt := hj
        rw [l0] at hj; omega
      · exact absurd hj (by show ¬ false = true; decide)
  obtain ⟨e, w1⟩ := w1
  refine ⟨e, hT k b e M1 F1 _ _ hr (fun M2 F2 r2 w2' => ?_) w1⟩
  obtain ⟨e', w2'⟩ := w2'
  exact ⟨e', re_find hE r2 hI ht (fun r' M' F' ha' w' => ⟨w', is_a_u ha' ha⟩) w2'⟩
end XT5
