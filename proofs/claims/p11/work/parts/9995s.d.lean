/-! THE TEXT WITH WHAT IT PUTS: both readers. -/
section YT8
variable {E : x_E} {x y : y_X}
theorem txt_LG (hE : E_ok E) : ∀ (i : Nat) (x : y_X), t_IG E x → jtG E i x → ∃ x', (∀ (a : Int32) (e : Nat) (s : f_S3) (O : Nat × Nat) (Q : f_S3 → Nat × Nat → Prop), jaG a x → i < e → rcwG E s x → (∀ s', rcwG E s' x' → wF_X7_readText_50 (E_N E) (cb (E_N E) 22) Q s' O) → wF_X7_readText_13 (E_N E) (cb (E_N E) 22) Q e a s O) ∧ (∀ (n b e : Nat) (M : Nat → Int32) (F : Nat → Nat → Int32) (Q Q' : (Nat → Int32) → (Nat → Nat → Int32) → Prop), rxoG E b M F x → (∀ M' F', rxoG E b M' F' x' → Q M' F' → Q' M' F') → w_text_0 (wf_blk n) Q e M F → w_text_0 (wf_blk n) Q' e M F) ∧ t_IG E x' ∧ (x'.1 = false → Y_ty E x' = 135) := by
  have ex : ∀ (i : Nat) (x : y_X), t_IG E x → (Y_ty E x = 135 ∨ x.1 = true) → ∃ x', (∀ (a : Int32) (e : Nat) (s : f_S3) (O : Nat × Nat) (Q : f_S3 → Nat × Nat → Prop), i < e → rcwG E s x → (∀ s', rcwG E s' x' → wF_X7_readText_50 (E_N E) (cb (E_N E) 22) Q s' O) → wF_X7_readText_13 (E_N E) (cb (E_N E) 22) Q e a s O) ∧ (∀ (n b e : Nat) (M : Nat → Int32) (F : Nat → Nat → Int32) (Q Q' : (Nat → Int32) → (Nat → Nat → Int32) → Prop), rxoG E b M F x → (∀ M' F', rxoG E b M' F' x' → Q M' F' → Q' M' F') → w_text_0 (wf_blk n) Q e M F → w_text_0 (wf_blk n) Q' e M F) ∧ t_IG E x' ∧ (x'.1 = false → Y_ty E x' = 135) := by
    intro i x hI hz
    have hz' : Y_ty E x = 135 ∨ Y_ty E x = 137 := hz.imp id (fun q => Y_tyb q)
    refine ⟨x, fun a e s O Q he hs hQ => ?_, fun n b e M F Q Q' hr hQ w => ?_, hI, fun q => hz.elim id (fun y => absurd (y.symm.trans q) (by decide))⟩
    · obtain ⟨e, rfl⟩ : ∃ e', e = e' + 1 := ⟨e - 1, by omega⟩
      have go := hQ s hs
      have e0 := rcw_ty hs.1
      exact ⟨fun _ => go, fun _ => ⟨fun _ => go, fun q1 => ⟨fun _ => go, fun q2 => by
        rw [e0] at q1 q2
        exact absurd hz' (fun q => q.elim q1 q2)⟩⟩⟩
    · cases e with
      | zero => exact absurd w (fun q => q)
      | succ e =>
        dsimp only [w_text_0] at w ⊢
        obtain ⟨a0, c0, hy⟩ := id hr
        refine rg_b1 hy (fun _ w => hQ M F hr w) (fun hb w => ?_) w
        have hb : x.1 = false := hb
        have z : Y_ty E x = 135 := hz.elim id (fun q => absurd (q.symm.trans hb) (by decide))
        have hmm := (q_one (rx_tk hE hy.1 hb) (x := 135) (y := 0) (Or.inr (Or.inr (Or.inr (Or.inl ⟨rfl, rfl⟩))))).mp ((Y_tyg hb).symm.trans z)
        exact ⟨fun q => hQ M F hr (w.1 q), fun q => absurd hmm q⟩
  intro i
  induction i with
  | zero =>
    intro x hI ht
    have hb : x.1 = true := by
      cases q : x.1 with
      | true => rfl
      | false => have := ht q; have := xg_t hI.1.1 q; omega
    obtain ⟨x', a, b, c⟩ := ex 0 x hI (Or.inr hb)
    exact ⟨x', fun a' e s O Q _ he => a a' e s O Q he, b, c⟩
  | succ i ih =>
    intro x hI ht
    by_cases hz : Y_ty E x = 135 ∨ x.1 = true
    · obtain ⟨x', a, b, c⟩ := ex (i + 1) x hI hz
      exact ⟨x', fun a' e s O Q _ he => a a' e s O Q he, b, c⟩
    · have hb : x.1 = false := by
        cases q : x.1 with
        | true => exact absurd (Or.inr q) hz
        | false => rfl
      have n135 : ¬ Y_ty E x = 135 := fun q => hz (Or.inl q)
      have n137 : ¬ Y_ty E x = 137 := fun q => E_ty hE (xg_t hI.1.1 hb) ((Y_tyg hb).symm.trans q)
      have n0 : ∀ (a0 c0 : Int32) (k : x_B) (M : Nat → Int32) (F : Nat → Nat → Int32), rxG E k M F (Y_si 3 c0 (Y_si 2 a0 x)) → ¬ M 4 = 0 := fun a0 c0 k M F hy q => n135 ((Y_tyg hb).trans ((q_one (rx_tk hE hy.1 hb) (x := 135) (y := 0) (Or.inr (Or.inr (Or.inr (Or.inl ⟨rfl, rfl⟩))))).mpr q))
      obtain ⟨xh, ha, hr', hI', hT⟩ := j_hearingG hE hb hI
      have cw : ∀ (a : Int32) (e : Nat) (s : f_S3) (O : Nat × Nat) (Q : f_S3 → Nat × Nat → Prop), jaG a x → rcwG E s x → (∀ s', rcwG E s' xh → wF_X7_readText_13 (E_N E) (cb (E_N E) 22) Q e (a + 1) s' O) → wF_X7_readText_13 (E_N E) (cb (E_N E) 22) Q (e + 1) a s O := fun a e s O Q hja hs hk => by
        have e0 := rcw_ty hs.1
        exact ⟨fun q => absurd q (jaG_4 hE hja hb (xg_t hI.1.1 hb)), fun _ => ⟨fun q => absurd (e0.symm.trans q) n135, fun _ => ⟨fun q => absurd (e0.symm.trans q) n137, fun _ => ha s O _ ⟨rc_g (hs.1.2 hb) hb, hs.2⟩ (fun s' h' => hk s' h')⟩⟩⟩
      cases hbh : xh.1 with
      | true =>
        obtain ⟨x', a, b, c⟩ := ex 0 xh hI' (Or.inr hbh)
        refine ⟨xh, fun a' e s O Q hja he hs hQ => ?_, fun n b' e M F Q Q' hr hQ w => ?_, hI', fun q => absurd (hbh.symm.trans q) (by decide)⟩
        · obtain ⟨e, rfl⟩ : ∃ e', e = e' + 1 + 1 := ⟨e - 2, by omega⟩
          refine cw a' (e + 1) s O Q hja hs (fun s' h' => ?_)
          have go := hQ s' h'
          exact ⟨fun _ => go, fun _ => ⟨fun _ => go, fun _ => ⟨fun _ => go, fun q => absurd ((rcw_ty h'.1).trans (Y_tyb hbh)) q⟩⟩⟩
        · cases e with
          | zero => exact absurd w (fun q => q)
          | succ e =>
            dsimp only [w_text_0] at w ⊢
            obtain ⟨a0, c0, hy⟩ := id hr
            refine rg_b1 hy (fun q => absurd (q.symm.trans hb) (by decide)) (fun _ w => ⟨fun q => absurd q (n0 a0 c0 _ M F hy), fun q => ?_⟩) w
            refine hr' n b' M F (w_text_0 (wf_blk n) Q e) (w_text_0 (wf_blk n) Q' e) Q Q' hr (fun M1 F1 r1 w1 => ?_) (fun M1 F1 z1 _ w1 => hQ M1 F1 (rxoG_of (rxG_zb z1 hbh)) w1) (w.2 q)
            cases e with
            | zero => exact absurd w1 (fun q => q)
            | succ e =>
              dsimp only [w_text_0] at w1 ⊢
              exact rg_b1 r1 (fun _ w => hQ M1 F1 (rxoG_of r1) w) (fun q => absurd (hbh.symm.trans q) (by decide)) w1
      | false =>
        obtain ⟨x', ia, ib, im⟩ := ih xh hI' (fun q => by have hT2 : X_t (yx x) + 1 ≤ X_t (yx xh) := hT q; have := ht hb; omega)
        have hja : ∀ a, jaG a x → jaG (a + 1) xh := fun a h q => by
          have l1 : (1 : Int32).toInt = 1 := by decide
          have h := h hb
          have hT2 : X_t (yx x) + 1 ≤ X_t (yx xh) := hT q
          have := E_n4 hE
          have := xg_t hI.1.1 hb
          rw [ti_addx _ _ (by rw [l1]; omega), l1]
          omega
        refine ⟨x', fun a' e s O Q hj he hs hQ => ?_, fun n b' e M F Q Q' hr hQ w => ?_, im⟩
        · obtain ⟨e, rfl⟩ : ∃ e', e = e' + 1 := ⟨e - 1, by omega⟩
          exact cw a' e s O Q hj hs (fun s' h' => ia (a' + 1) e s' O Q (hja a' hj) (by omega) h' hQ)
        · cases e with
          | zero => exact absurd w (fun q => q)
          | succ e =>
            dsimp only [w_text_0] at w ⊢
            obtain ⟨a0, c0, hy⟩ := id hr
            refine rg_b1 hy (fun q => absurd (q.symm.trans hb) (by decide)) (fun _ w => ⟨fun q => absurd q (n0 a0 c0 _ M F hy), fun q => ?_⟩) w
            exact hr' n b' M F (w_text_0 (wf_blk n) Q e) (w_text_0 (wf_blk n) Q' e) Q Q' hr (fun M1 F1 r1 w1 => ib n b' e M1 F1 Q Q' (rxoG_of r1) hQ w1) (fun M1 F1 z1 q1 _ => absurd (q1.symm.trans hbh) (by decide)) (w.2 q)
end YT8
