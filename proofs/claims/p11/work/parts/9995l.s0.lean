/-! WHAT THE LEXER SAYS OF WORDS: no OBJECT is a NAME; a hear is nine bytes long. -/
section XL0
variable {E : x_E} {t : Nat}
theorem E_fst (hE : E_ok E) (ht : t < E_m E) (ha : E_A E t = 130 ∨ E_A E t = 131) : E_T E ((E_f E (t + 1)).getD (E_w E t) (0, 0)).1 = E_T E (E_p E t) ∧ (E_A E t = 130 → x_sm (E_T E (E_p E t)) = true) ∧ (E_A E t = 131 → x_sm (E_T E (E_p E t)) = false) := by
  have hq : ∀ q, q < 33 → ¬ (nI (200 + q) = 130 ∨ nI (200 + q) = 131) := by decide +kernel
  obtain ⟨hv, hw⟩ := E_wd hE ht ha
  have hl := E_fL hE (t := t + 1) (by omega)
  have hL : E_L E ≤ 2005 := hE.1.2.2.2.2.1
  obtain ⟨c1, c2, c3, c4⟩ := hE.1.1.2.2 t ht
  have he := x_step_e c2 c3
  have wn : ∀ w, w < 2010 → E_V E t = nI (33 + w) → w = E_w E t := fun w hw' e => by
    have := nI_inj (by omega) (by omega) (e.symm.trans hv)
    omega
  have sm : E_A E t = (if x_sm (E_T E (E_p E t)) = true then 130 else 131) → (E_A E t = 130 → x_sm (E_T E (E_p E t)) = true) ∧ (E_A E t = 131 → x_sm (E_T E (E_p E t)) = false) := by
    intro e
    cases q : x_sm (E_T E (E_p E t)) with
    | true => rw [q, if_pos rfl] at e; exact ⟨fun _ => rfl, fun z => absurd (e.symm.trans z) (by decide)⟩
    | false => rw [q, if_neg (by decide)] at e; exact ⟨fun z => absurd (e.symm.trans z) (by decide), fun _ => rfl⟩
  have lim : (E_f E (t + 1)).length ≤ 2005 := by unfold E_L at hl hL; omega
  rcases c3 with ⟨-, -, -, ⟨a, -⟩ | ⟨a, -⟩⟩ | ⟨-, -, -, ⟨-, a, -⟩ | ⟨-, ⟨q, b, a, -⟩ | ⟨-, a, ⟨w, b1, b0, b2, b3⟩ | ⟨-, b2, b3⟩⟩⟩⟩ | ⟨-, -, ⟨-, -, a, -⟩ | ⟨-, -, a, -⟩ | ⟨-, -, ⟨b, a⟩ | ⟨-, a⟩⟩⟩
  · rw [a] at ha; exact absurd ha (by decide)
  · rw [a] at ha; exact absurd ha (by decide)
  · rw [a] at ha; exact absurd ha (by decide)
  · rw [a] at ha; exact absurd ha (hq q b.1)
  · rw [b3] at lim ⊢
    have ew := wn w (by omega) b2
    rw [← ew]
    exact ⟨b0.2 0 (by omega), sm a⟩
  · rw [b3, List.length_append] at lim
    have ew := wn _ (by omega) b2
    rw [b3, ← ew, x_getD_pp]
    exact ⟨rfl, sm a⟩
  · rw [a] at ha; exact absurd ha (by decide)
  · rw [a] at ha; exact absurd ha (by decide)
  · rcases ha with ha | ha
    · rw [a] at ha; rw [ha] at b; exact absurd b (by decide)
    · rw [a] at ha; rw [ha] at b; exact absurd b (by decide)
  · rw [a] at ha; exact absurd ha (by decide)
theorem E_grow (hE : E_ok E) {t t' w : Nat} (h : t ≤ t') (ht : t' ≤ E_m E) (hw : w < (E_f E t).length) : (E_f E t').getD w (0, 0) = (E_f E t).getD w (0, 0) ∧ w < (E_f E t').length := by
  induction t' with
  | zero => have e : t = 0 := by omega
            rw [e] at hw ⊢; exact ⟨rfl, hw⟩
  | succ t' ih =>
    by_cases q : t = t' + 1
    · rw [← q]; exact ⟨rfl, hw⟩
    · obtain ⟨i1, i2⟩ := ih (by omega) (by omega)
      rcases x_step_len (hE.1.1.2.2 t' (by omega)).2.2.1 with e | e
      · rw [show E_f E (t' + 1) = E_f E t' from e]; exact ⟨i1, i2⟩
      · rw [show E_f E (t' + 1) = E_f E t' ++ _ from e]
        refine ⟨?_, by rw [List.length_append]; omega⟩
        rw [← i1]
        simp only [List.getD_eq_getElem?_getD]
        rw [List.getElem?_append_left i2]
theorem E_no_ok (hE : E_ok E) : E_no E := fun t ht ha hn => by
  obtain ⟨t2, ht2, ha2, e⟩ := hn
  have f1 := E_fst hE ht (Or.inr ha)
  have f2 := E_fst hE ht2 (Or.inl ha2)
  have g1 := (E_grow hE (t := t + 1) (t' := E_m E) (by omega) (Nat.le_refl _) (E_wd hE ht (Or.inr ha)).2).1
  have g2 := (E_grow hE (t := t2 + 1) (t' := E_m E) (by omega) (Nat.le_refl _) (E_wd hE ht2 (Or.inl ha2)).2).1
  rw [e] at g2 f2
  have s1 := f1.2.2 ha
  have s2 := f2.2.1 ha2
  rw [← f1.1, ← g1] at s1
  rw [← f2.1, ← g2] at s2
  rw [s1] at s2
  exact absurd s2 (by decide)
/-- a hear and the blank behind it -/
theorem E_hear (hE : E_ok E) (ht : t + 1 < E_m E) (ha : E_A E t = 210) (hb : E_A E (t + 1) = 130) : E_p E t + 5 ≤ E_p E (t + 1) := by
  have hq : ∀ q, q < 33 → nI (200 + q) = 210 → q = 10 := by decide +kernel
  obtain ⟨c1, c2, c3, c4⟩ := hE.1.1.2.2 t (by omega)
  have he := x_step_e c2 c3
  obtain ⟨d1, d2, d3, d4⟩ := hE.1.1.2.2 (t + 1) ht
  have hs := x_sk_le (E_T E) (E_n E) (E_n E) (E_k E (t + 1)) d1
  have key : E_k E (t + 1) = x_we (E_T E) (E_n E) (E_n E) (E_p E t) ∧ E_p E t + 4 ≤ E_k E (t + 1) := by
    rcases c3 with ⟨-, -, -, ⟨a, -⟩ | ⟨a, -⟩⟩ | ⟨-, -, e1, ⟨-, a, -⟩ | ⟨-, ⟨q, b, a, -⟩ | ⟨-, a, -⟩⟩⟩ | ⟨-, -, ⟨-, -, a, -⟩ | ⟨-, -, a, -⟩ | ⟨-, -, ⟨b, a⟩ | ⟨-, a⟩⟩⟩
    · exact absurd (ha.symm.trans a) (by decide)
    · exact absurd (ha.symm.trans a) (by decide)
    · exact absurd (ha.symm.trans a) (by decide)
    · have e10 := hq q b.1 (a.symm.trans ha)
      subst e10
      have b2 := b.2.1
      have : x_ql.getD 10 0 = 4 := by decide
      refine ⟨e1, ?_⟩
      have e0 : E_p E t = x_sk (E_T E) (E_n E) (E_n E) (E_k E t) := rfl
      rw [this] at b2
      omega
    · exfalso
      rw [ha] at a
      split at a
      · exact absurd a (by decide)
      · exact absurd a (by decide)
    · exact absurd (ha.symm.trans a) (by decide)
    · exact absurd (ha.symm.trans a) (by decide)
    · rw [ha] at a; rw [← a] at b; exact absurd b (by decide)
    · exact absurd (ha.symm.trans a) (by decide)
  have lt : x_wd (E_T E (E_p E (t + 1))) = true := by
    have hq' : ∀ q, q < 33 → ¬ nI (200 + q) = 130 := by decide +kernel
    rcases d3 with ⟨-, -, -, ⟨a, -⟩ | ⟨a, -⟩⟩ | ⟨a, -⟩ | ⟨-, -, ⟨-, -, a, -⟩ | ⟨-, -, a, -⟩ | ⟨-, -, ⟨b, a⟩ | ⟨-, a⟩⟩⟩
    · exact absurd (hb.symm.trans a) (by decide)
    · exact absurd (hb.symm.trans a) (by decide)
    · unfold x_wd
      rw [show x_lt (E_T E (E_p E (t + 1))) = true from a]; rfl
    · exact absurd (hb.symm.trans a) (by decide)
    · exact absurd (hb.symm.trans a) (by decide)
    · rw [hb] at a; rw [← a] at b; exact absurd b (by decide)
    · exact absurd (hb.symm.trans a) (by decide)
  have e1 : E_p E (t + 1) = x_sk (E_T E) (E_n E) (E_n E) (E_k E (t + 1)) := rfl
  have hne : ¬ E_p E (t + 1) = E_k E (t + 1) := fun q => by
    have h1 : x_we (E_T E) (E_n E) (E_n E) (E_p E t) < E_n E := by rw [← key.1]; omega
    have hp := E_pn hE (t := t) (by omega)
    have := x_we_out (E_T E) (E_n E) (E_n E) (E_p E t) hp (by omega) h1
    rw [← key.1, ← q, lt] at this
    exact absurd this (by decide)
  omega
end XL0
