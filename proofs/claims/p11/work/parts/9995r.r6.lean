/-! THE REFERENCE'S READER WITH WHAT ITS ROWS HOLD: objects, names. -/
section YR2
variable {E : x_E} {k : x_B} {M M' : Nat → Int32} {F F' : Nat → Nat → Int32} {y y' : y_X}
theorem yx_ot {w : Nat} : yx (Y_ot w y) = X_ot w (yx y) := by
  have e1 : yx (Y_si 3 (Y_i y 3 + 1) (Y_su w y)) = X_si 3 (X_i (yx y) 3 + 1) (X_su w (yx y)) := rfl
  unfold Y_ot X_ot
  rw [yx_if, yx_o3, e1]
  rfl
theorem yx_ad : yx (Y_ad y) = X_ad (yx y) := rfl
theorem yx_ob : yx (Y_ob E y) = X_ob E (yx y) := by
  have e : yx (Y_ad (Y_ot (E_w E (Y_t y)) y)) = X_ad (X_ot (E_w E (X_t (yx y))) (yx y)) := by rw [yx_ad, yx_ot]; rfl
  unfold Y_ob X_ob
  rw [yx_if, e]
  rfl
theorem nf_ob (h : nf (Y_ob E y)) : Y_ty E y = 131 ∧ y.1 = false ∧ ((Y_u y (E_w E (Y_t y)) = Y_i y 1 ∧ Y_ob E y = Y_ad y) ∨ (¬ Y_u y (E_w E (Y_t y)) = Y_i y 1 ∧ Y_ob E y = Y_ad (Y_si 3 (Y_i y 3 + 1) (Y_su (E_w E (Y_t y)) y)))) := by
  unfold Y_ob at h ⊢
  by_cases q : Y_ty E y = 131
  · rw [if_pos q] at h ⊢
    refine ⟨q, Y_tyn q (by decide), ?_⟩
    unfold Y_ot at h ⊢
    by_cases z : Y_u y (E_w E (Y_t y)) = Y_i y 1
    · rw [if_pos z]; exact Or.inl ⟨z, rfl⟩
    · rw [if_neg z] at h ⊢
      have h : nf (Y_o3 (Y_si 3 (Y_i y 3 + 1) (Y_su (E_w E (Y_t y)) y))) := h
      rw [(nf_o3 h).2]
      exact Or.inr ⟨z, rfl⟩
  · rw [if_neg q] at h; exact absurd h (nf_bd rfl)
theorem rg_object (hE : E_ok E) {Q Q' : Int32 → (Nat → Int32) → (Nat → Nat → Int32) → Prop} (h : rxG E k M F y) (w : w_object M F Q) (hQ : ∀ r M' F', (nf (Y_ob E y) → r = (Y_S (Y_ob E y) (E_w E (Y_t y))).2) → rxG E k M' F' (Y_ob E y) → Q r M' F' → Q' r M' F') : w_object M F Q' := by
  have hL : E_L E ≤ 2005 := hE.1.2.2.2.2.1
  have w2 : w_object M F (fun r M' F' => (nf (Y_ob E y) → RG E k M' F' (Y_ob E y) ∧ r = (Y_S (Y_ob E y) (E_w E (Y_t y))).2) ∧ Q r M' F') := by
    refine rg_takenW hE (Or.inr ⟨rfl, rfl⟩) h w (fun r M1 F1 h1 hr w1 => ?_)
    refine (re_bad h1.1).mpr ?_
    have w1 := (re_bad h1.1).mp w1
    cases hb : (yx (Y_tk E 131 y)).1 with
    | true =>
      rw [hb, if_pos rfl] at w1
      refine ⟨fun q => absurd q (by decide), fun _ => ⟨fun n => ?_, w1.2 (by decide)⟩⟩
      obtain ⟨n1, n2, -⟩ := nf_ob n
      have hb : (Y_tk E 131 y).1 = true := hb
      unfold Y_tk at hb
      rw [if_pos n1] at hb
      exact absurd (hb.symm.trans n2) (by decide)
    | false =>
      rw [hb, if_neg (by decide)] at w1
      have hb : (Y_tk E 131 y).1 = false := hb
      have z : Y_ty E y = 131 := by
        by_cases q : Y_ty E y = 131
        · exact q
        · unfold Y_tk at hb; rw [if_neg q] at hb; exact absurd hb (by show ¬ true = false; decide)
      obtain ⟨e, n47⟩ := hr z
      have hby := Y_tyn z (by decide)
      have hA : E_A E (Y_t y) = 131 := (Y_tyg hby).symm.trans z
      have ht := (h.1.2 hby).1.2
      obtain ⟨w1', -, wL, wl⟩ := E_word hE (t := Y_t y) ht (Or.inr hA)
      have wl : E_w E (Y_t y) < E_l E (Y_t y + 1) := E_l_mono hE w1' wl
      have hno := E_no_ok hE (Y_t y) w1' hA
      have etk : Y_tk E 131 y = Y_ad y := by unfold Y_tk; rw [if_pos z]
      rw [etk] at h1
      have g := h1.1.2 hby
      subst e
      have eF : F1 9 (E_w E (Y_t y)) = Y_u y (E_w E (Y_t y)) := (g.2.2.2.1.1 _ wl).1
      have eM : M1 30 = Y_i y 1 := g.2.2.1.2.1
      have e35 : nf y → M1 35 = Y_i y 3 := fun n => (g.2.2.1.2.2 n.2.1 n.2.2).2
      refine ⟨fun _ => ?_, fun q => absurd rfl q⟩
      have w1 := w1.1 rfl
      have ec : (F1 9 (nI (E_w E (Y_t y))).toNatClampNeg = M1 30) ↔ Y_u y (E_w E (Y_t y)) = Y_i y 1 := by rw [y_cl (by omega), eF, eM]
      have cw : (nI (E_w E (Y_t y))).toNatClampNeg = E_w E (Y_t y) := y_cl (by omega)
      have fin : ∀ (M2 : Nat → Int32), M2 29 = M1 29 ∧ M2 31 = M1 31 ∧ M2 32 = M1 32 → ¬ Y_u y (E_w E (Y_t y)) = Y_i y 1 → nf (Y_ob E y) → RG E k M2 (uf (uf F1 9 (nI (E_w E (Y_t y))) (M1 30)) 10 (nI (E_w E (Y_t y))) (M1 35)) (Y_ob E y) ∧ uf (uf F1 9 (nI (E_w E (Y_t y))) (M1 30)) 10 (nI (E_w E (Y_t y))) (M1 35) 10 (nI (E_w E (Y_t y))).toNatClampNeg = (Y_S (Y_ob E y) (E_w E (Y_t y))).2 := fun M2 hM2 x n => by
        obtain ⟨n1, n2, ⟨n3, -⟩ | ⟨-, n4⟩⟩ := nf_ob n
        · exact absurd n3 x
        · rw [n4] at n ⊢
          have ny : nf y := n
          refine ⟨RG_su hE (y := Y_ad y) (j := 3) wL (Or.inr ⟨rfl, hno⟩) (fun n => e35 n) h1.2 hM2, ?_⟩
          rw [uf_at2, if_pos ⟨rfl, rfl⟩, e35 ny]
          show _ = (f1 (Y_S y) (E_w E (Y_t y)) (Y_i y 2, Y_i y 3) (E_w E (Y_t y))).2
          rw [f1_eq]
      refine ⟨w1.1, fun x => ?_, fun x => ?_⟩
      · have w1 := w1.2.1 x
        refine ⟨w1.1, fun n => ?_, w1.2⟩
        obtain ⟨n1, n2, ⟨n3, n4⟩ | ⟨n3, -⟩⟩ := nf_ob n
        · rw [n4] at n ⊢
          refine ⟨h1.2, ?_⟩
          rw [cw]
          exact ((h1.2 n).2.2.2.2.2.2.2.1 _ n3).2 hno
        · exact absurd (ec.mp x) n3
      · have x' : ¬ Y_u y (E_w E (Y_t y)) = Y_i y 1 := fun q => x (ec.mpr q)
        have w1 := w1.2.2 x
        refine ⟨w1.1, w1.2.1, fun l => ?_, fun l => re_least n47 (w1.2.2.2 l) (fun r _ q => ?_)⟩
        · have w1 := w1.2.2.1 l
          exact ⟨w1.1, fin _ ⟨rfl, rfl, rfl⟩ x', w1.2⟩
        · exact ⟨q.1, fin _ ⟨rfl, rfl, rfl⟩ x', q.2⟩
  exact re_object hE k M F _ _ h.1 w2 (fun r M' F' h' q => hQ r M' F' (fun n => (q.1 n).2) ⟨by rw [yx_ob]; exact h', fun n => (q.1 n).1 n⟩ q.2)
theorem Y_nm_e (h : Y_ty E y = 130) : Y_nm E y = Y_td (E_w E (Y_t y)) (Y_ad y) := by
  unfold Y_nm Y_td
  rw [if_pos h]
  by_cases q : Y_u y (E_w E (Y_t y)) = Y_i y 1
  · rw [if_pos q, if_pos (show Y_u (Y_ad y) (E_w E (Y_t y)) = Y_i (Y_ad y) 1 from q)]
  · rw [if_neg q, if_neg (show ¬ Y_u (Y_ad y) (E_w E (Y_t y)) = Y_i (Y_ad y) 1 from q)]; rfl
theorem rg_name (hE : E_ok E) {Q Q' : Int32 → (Nat → Int32) → (Nat → Nat → Int32) → Prop} (h : rxG E k M F y) (w : w_taken 1 M F (fun r M1 F1 => w_told r (M1 47) M1 F1 Q)) (hQ : ∀ r M' F', (nf (Y_nm E y) → r = (Y_S y (E_w E (Y_t y))).1) → rxG E k M' F' (Y_nm E y) → Q r M' F' → Q' r M' F') : w_taken 1 M F (fun r M1 F1 => w_told r (M1 47) M1 F1 Q') := by
  refine rg_takenW hE (Or.inl ⟨rfl, rfl⟩) h w (fun r M1 F1 h1 hr w1 => ?_)
  by_cases z : Y_ty E y = 130
  · obtain ⟨e, n47⟩ := hr z
    subst e
    have hb := Y_tyn z (by decide)
    have hA := (Y_tyg hb).symm.trans z
    obtain ⟨w1', -, wL, wl⟩ := E_word hE (t := Y_t y) (h.1.2 hb).1.2 (Or.inl hA)
    have etk : Y_tk E 130 y = Y_ad y := by unfold Y_tk; rw [if_pos z]
    rw [etk] at h1
    refine rg_told (w := E_w E (Y_t y)) hE (fun _ => ⟨rfl, E_l_mono hE w1' wl, wL, n47⟩) h1 w1 (fun r M' F' e h' w' => hQ r M' F' (fun n => ?_) ?_ w')
    · rw [Y_nm_e z] at n; exact e n ⟨Y_t y, w1', hA, rfl⟩
    · rw [Y_nm_e z]; exact h'
  · have etk : Y_tk E 130 y = Y_bd y := by unfold Y_tk; rw [if_neg z]
    rw [etk] at h1
    have enm : Y_nm E y = Y_bd y := by unfold Y_nm; rw [if_neg z]
    refine rg_told (w := 0) hE (fun q => absurd q (by show ¬ true = false; decide)) h1 w1 (fun r M' F' _ h' w' => hQ r M' F' ?_ ?_ w')
    · rw [enm]; exact fun n => absurd n (nf_bd rfl)
    · rw [enm]
      refine rxG_zb (h'.1.1 ?_) rfl
      show (Y_td 0 (Y_bd y)).1 = true
      unfold Y_td
      split <;> rfl
end YR2
