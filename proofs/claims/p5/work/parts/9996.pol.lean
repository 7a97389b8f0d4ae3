/-! THE CLASS'S policy, WITH ITS ANSWER. -/
theorem pv_inst {N : Nat → Nat} {p0 : Int32} {M : Nat → Int32} {O : Nat × Nat} {Q : Int32 → (Nat → Int32) → Nat × Nat → Prop} (h1 : (0 ≤ p0.toInt ∧ p0.toInt ≤ 2) → Q 1 M O) (h0 : ¬ (0 ≤ p0.toInt ∧ p0.toInt ≤ 2) → Q 0 M O) : wT_X0_isInstance N p0 M O Q := by
  have e0 : (0 : Int32).toInt = 0 := by decide
  have e3 : (3 : Int32).toInt = 3 := by decide
  refine ⟨fun h => h0 ?_, fun h => ⟨fun h2 => h0 ?_, fun h2 => h1 ?_⟩⟩
  · have := Int32.lt_iff_toInt_lt.mp h; omega
  · have := Int32.le_iff_toInt_le.mp h2; omega
  · have := ti_nlt h; have := ti_nle h2; omega
theorem pv_ex {N : Nat → Nat} {p0 : Int32} {M : Nat → Int32} {O : Nat × Nat} {Q : Int32 → (Nat → Int32) → Nat × Nat → Prop} (h1 : (0 ≤ p0.toInt ∧ p0.toInt ≤ 6) → Q 1 M O) (h0 : ¬ (0 ≤ p0.toInt ∧ p0.toInt ≤ 6) → Q 0 M O) : wT_X3_exists N p0 M O Q := by
  have e0 : (0 : Int32).toInt = 0 := by decide
  have e3 : (7 : Int32).toInt = 7 := by decide
  refine ⟨fun h => h0 ?_, fun h => ⟨fun h2 => h0 ?_, fun h2 => h1 ?_⟩⟩
  · have := Int32.lt_iff_toInt_lt.mp h; omega
  · have := Int32.le_iff_toInt_le.mp h2; omega
  · have := ti_nlt h; have := ti_nle h2; omega
theorem pv_policy {N : Nat → Nat} (hN : tN N) (p1 p2 p3 p4 : Int32) {M : Nat → Int32} {O : Nat × Nat} {Q : Int32 → (Nat → Int32) → Nat × Nat → Prop} (hQ : ∀ r : Int32, ((r = 1 ∧ e_pol p1 p2 p3 p4) ∨ (r = 0 ∧ ¬ e_pol p1 p2 p3 p4)) → Q r M O) : wT_X11_policy N p1 p2 p3 p4 M O Q := by
  have h0 : ¬ e_pol p1 p2 p3 p4 → ((0 : Int32) = 0 ∨ (0 : Int32) = 1) ∧ Q 0 M O := fun h => ⟨Or.inl rfl, hQ 0 (Or.inr ⟨rfl, h⟩)⟩
  have m1 : (-1 : Int32).toInt = -1 := by decide
  have m5 : (5 : Int32).toInt = 5 := by decide
  have m2 : (2 : Int32).toInt = 2 := by decide
  have h1 : e_pol p1 p2 p3 p4 → wT_X0_setPolicy_41 N (fun r1 M2 O2 => ((r1 = 0 ∨ r1 = 1) ∧ (Q r1 M2 O2))) p1 p2 p3 p4 M O := fun h => by
    obtain ⟨q1, q2, -⟩ := (show _ ∧ _ ∧ _ ∧ _ from h)
    have a1 := ti_mulx p1 7 7 (by decide) (by omega)
    have a2 := ti_addx (p1 * 7) p2 (by omega)
    have hi : vp_in (p1 * 7 + p2) 21 := vp_in_iff.mpr (by omega)
    exact ⟨by rw [hN.2.1]; exact hi, by rw [hN.2.2.1]; exact hi, Or.inr rfl, hQ 1 (Or.inl ⟨rfl, h⟩)⟩
  unfold wT_X11_policy wT_X0_setPolicy
  refine pv_inst (fun g1 => ⟨fun h => absurd h (by decide), fun _ => ?_⟩) (fun g1 => ⟨fun _ => h0 (fun h => g1 h.1), fun h => absurd rfl h⟩)
  refine pv_ex (fun g2 => ⟨fun h => absurd h (by decide), fun _ => ?_⟩) (fun g2 => ⟨fun _ => h0 (fun h => g2 h.2.1), fun h => absurd rfl h⟩)
  refine ⟨fun g3 => h0 (fun h => ?_), fun g3 => ⟨fun g4 => ⟨fun g5 => h1 ?_, fun g5 => pv_ex (fun g6 => ⟨fun _ => h1 ?_, fun h => absurd h (by decide)⟩) (fun g6 => ⟨fun h => absurd rfl h, fun _ => h0 (fun h => ?_)⟩)⟩, fun g4 => h0 (fun h => ?_)⟩⟩
  · have := Int32.lt_iff_toInt_lt.mp g3; have := h.2.2.1.1; omega
  · have := ti_nlt g3; have := Int32.le_iff_toInt_le.mp g4
    exact ⟨g1, g2, by omega, fun h => absurd (Int32.toInt_inj.mp (by rw [h, m2])) g5⟩
  · have := ti_nlt g3; have := Int32.le_iff_toInt_le.mp g4
    exact ⟨g1, g2, by omega, fun _ => g6⟩
  · exact g6 (h.2.2.2 (by rw [g5]; exact m2))
  · have := ti_nle g4; have := h.2.2.1.2; omega
theorem cl_policyV {l : Launch} {D : va_G} {cT : Nat → ClassId} {adK adV : Nat → Nat} {h : Nat} {u : cl_S} (ok : cl_ok h u) (a b c d : Int32) : cl_Met l D cT adK adV yX11_policy cX11_policy 5 .boolean 2 (b_mc (cl_O u)) (b_ms (cl_O u)) 0 0 h [.int a, .int b, .int c, .int d] u (fun r f => f = cl_f u ∧ ((r = 1 ∧ e_pol a b c d) ∨ (r = 0 ∧ ¬ e_pol a b c d))) := by
  refine cl_of ok (fun sz => ?_)
  have := ok.1
  subst this
  exact soT_X11_policy (g := cl_g D cT adK adV u sz) rfl a b c d _ _ _ (pv_policy ok.2.1 a b c d (fun r h => ⟨ok.2.2, rfl, h⟩))
