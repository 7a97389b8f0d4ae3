/-! BOTH PARSERS OVER ONE PICTURE. E: the text and its tokens (bytes, types, values, places, how many bytes, tokens, ends, tables of names, lengths of the class's rows); x: where the parsers are. -/
section XP1
abbrev x_E : Type := (Nat → Int32) × (Nat → Int32) × (Nat → Int32) × (Nat → Int32) × Nat × Nat × (Nat → Nat) × (Nat → List (Nat × Nat)) × (Nat → Nat)
def E_T (E : x_E) : Nat → Int32 := E.1
def E_A (E : x_E) : Nat → Int32 := E.2.1
def E_V (E : x_E) : Nat → Int32 := E.2.2.1
def E_P (E : x_E) : Nat → Int32 := E.2.2.2.1
def E_n (E : x_E) : Nat := E.2.2.2.2.1
def E_m (E : x_E) : Nat := E.2.2.2.2.2.1
def E_k (E : x_E) : Nat → Nat := E.2.2.2.2.2.2.1
def E_f (E : x_E) : Nat → List (Nat × Nat) := E.2.2.2.2.2.2.2.1
def E_N (E : x_E) : Nat → Nat := E.2.2.2.2.2.2.2.2
/-- where token t begins; the number of its name -/
def E_p (E : x_E) (t : Nat) : Nat := x_sk (E_T E) (E_n E) (E_n E) (E_k E t)
def E_w (E : x_E) (t : Nat) : Nat := (E_V E t).toNatClampNeg - 33
def E_L (E : x_E) : Nat := (E_f E (E_m E)).length
def E_X (E : x_E) : Prop := q_TX (E_T E) (E_A E) (E_V E) (E_P E) (E_n E) (E_m E) (E_k E) (E_f E)
def E_Z (N : Nat → Nat) (n : Nat) : Prop := N 23 = 34 + n / 2 ∧ N 20 = 2 * n + 16 ∧ N 26 = n / 9 + 1 ∧ N 27 = n / 9 + 1 ∧ N 21 = 16 ∧ N 22 = 16
def E_ok (E : x_E) : Prop := E_X E ∧ 2 * E_L E ≤ E_n E + 1 ∧ y_N (E_N E) (E_n E) ∧ bd_N (E_N E) ∧ E_Z (E_N E) (E_n E)
variable {E : x_E} {t : Nat}
theorem nI_ne {p : Nat} (h : p < 2 ^ 31) : ¬ nI p = -1 := fun q => by
  have := congrArg Int32.toInt q
  rw [fs_nI h, show (-1 : Int32).toInt = -1 by decide] at this
  omega
theorem nI_inj {a b : Nat} (ha : a < 2 ^ 31) (hb : b < 2 ^ 31) (h : nI a = nI b) : a = b := by
  have := congrArg Int32.toInt h
  rw [fs_nI ha, fs_nI hb] at this
  omega
theorem E_n4 (h : E_ok E) : E_n E ≤ 4000 ∧ E_m E ≤ E_n E := ⟨h.1.2.2.1, h.1.2.2.2.1⟩
theorem E_end (h : E_ok E) : E_A E (E_m E) = 135 := h.1.2.2.2.2.2.1
theorem E_ty (h : E_ok E) (ht : t ≤ E_m E) : ¬ E_A E t = 137 := q_ty h.1 ht
theorem E_lt (h : E_ok E) (ht : t ≤ E_m E) {c : Int32} (hc : E_A E t = c) (h5 : c ≠ 135) : t < E_m E := by
  by_cases q : t = E_m E
  · rw [q, E_end h] at hc; exact absurd hc.symm h5
  · omega
theorem E_pn (h : E_ok E) (ht : t ≤ E_m E) : E_p E t ≤ E_n E := (x_sk_le _ _ _ _ (x_trf_tb h.1.1 t ht).2.2.2).2
theorem E_ps (h : E_ok E) (ht : t < E_m E) : E_p E t + 1 ≤ E_p E (t + 1) := by
  obtain ⟨c1, c2, c3, c4⟩ := h.1.1.2.2 t ht
  have he := x_step_e c2 c3
  have := x_sk_le (E_T E) (E_n E) (E_n E) (E_k E (t + 1)) he.2
  have e0 : E_p E t = x_sk (E_T E) (E_n E) (E_n E) (E_k E t) := rfl
  have e1 : E_p E (t + 1) = x_sk (E_T E) (E_n E) (E_n E) (E_k E (t + 1)) := rfl
  omega
theorem E_pP (h : E_ok E) (ht : t ≤ E_m E) : E_P E t = nI (E_p E t) := by
  by_cases q : t < E_m E
  · exact (h.1.1.2.2 t q).2.2.2
  · have e : t = E_m E := by omega
    subst e
    rw [h.1.2.2.2.2.2.2]
    exact congrArg nI h.1.2.1.symm
theorem E_Pn (h : E_ok E) (ht : t ≤ E_m E) : ¬ E_P E t = -1 := by
  rw [E_pP h ht]
  have := E_pn h ht
  have := E_n4 h
  exact nI_ne (by omega)
theorem E_fL (h : E_ok E) (ht : t ≤ E_m E) : (E_f E t).length ≤ E_L E := (x_trf_tb h.1.1 t ht).2.2.1
theorem E_wd (h : E_ok E) (ht : t < E_m E) (ha : E_A E t = 130 ∨ E_A E t = 131) : E_V E t = nI (33 + E_w E t) ∧ E_w E t < (E_f E (t + 1)).length := by
  have hq : ∀ q, q < 33 → ¬ (nI (200 + q) = 130 ∨ nI (200 + q) = 131) := by decide +kernel
  have go : ∀ w : Nat, E_V E t = nI (33 + w) → w < (E_f E (t + 1)).length → E_V E t = nI (33 + E_w E t) ∧ E_w E t < (E_f E (t + 1)).length := by
    intro w hv hw
    have hl := E_fL h (t := t + 1) (by omega)
    have hL := h.1.2.2.2.2.1
    have e : E_w E t = w := by
      unfold E_w
      rw [hv, y_cl (by unfold E_L at hl; omega)]; omega
    rw [e]; exact ⟨hv, hw⟩
  obtain ⟨c1, c2, c3, c4⟩ := h.1.1.2.2 t ht
  rcases c3 with ⟨-, -, -, ⟨a, -⟩ | ⟨a, -⟩⟩ | ⟨-, -, -, ⟨-, a, -⟩ | ⟨-, ⟨q, b, a, -⟩ | ⟨-, -, ⟨w, b1, -, b2, b3⟩ | ⟨-, b2, b3⟩⟩⟩⟩ | ⟨-, -, ⟨-, -, a, -⟩ | ⟨-, -, a, -⟩ | ⟨-, -, ⟨b, a⟩ | ⟨-, a⟩⟩⟩
  · rw [a] at ha; exact absurd ha (by decide)
  · rw [a] at ha; exact absurd ha (by decide)
  · rw [a] at ha; exact absurd ha (by decide)
  · rw [a] at ha; exact absurd ha (hq q b.1)
  · exact go w b2 (by rw [b3]; exact b1)
  · exact go _ b2 (by rw [b3]; simp)
  · rw [a] at ha; exact absurd ha (by decide)
  · rw [a] at ha; exact absurd ha (by decide)
  · rcases ha with ha | ha
    · rw [a] at ha; rw [ha] at b; exact absurd b (by decide)
    · rw [a] at ha; rw [ha] at b; exact absurd b (by decide)
  · rw [a] at ha; exact absurd ha (by decide)
theorem E_m5 (h : E_ok E) (ht : t < E_m E) (ha : E_A E t = 130 ∨ E_A E t = 131) {M : Nat → Int32} (hz : z_tk (E_A E t) (E_V E t) M) : M 5 = nI (E_w E t) := by
  have hq : ∀ q, q < 33 → ¬ (nI (200 + q) = 130 ∨ nI (200 + q) = 131) := by decide +kernel
  obtain ⟨hv, hw⟩ := E_wd h ht ha
  have hl := E_fL h (t := t + 1) (by omega)
  have hL : E_L E ≤ 2005 := h.1.2.2.2.2.1
  have go : ∀ w : Nat, w < 2010 → E_V E t = nI (33 + w) → M 5 = nI w → M 5 = nI (E_w E t) := by
    intro w h1 h2 h3
    have := nI_inj (by omega) (by omega) (h2.symm.trans hv)
    rw [h3, show w = E_w E t by omega]
  rcases hz with ⟨a, -⟩ | ⟨a, -⟩ | ⟨q, b, a, -⟩ | ⟨q, -, b, a, -⟩ | ⟨w, b, -, c, -, d⟩ | ⟨w, b, -, c, -, d⟩ | ⟨a, -⟩ | ⟨a, -⟩ | ⟨b, -⟩
  · rw [a] at ha; exact absurd ha (by decide)
  · rw [a] at ha; exact absurd ha (by decide)
  · rw [a] at ha; exact absurd ha (hq q (by omega))
  · rw [a] at ha; exact absurd ha (hq q b)
  · exact go w b c d
  · exact go w b c d
  · rw [a] at ha; exact absurd ha (by decide)
  · rw [a] at ha; exact absurd ha (by decide)
  · rcases ha with ha | ha
    · rw [ha] at b; exact absurd b (by decide)
    · rw [ha] at b; exact absurd b (by decide)
/-- where the parsers are: stopped?; the token; the Program's size; 0 open, 1 hearings, 2 names, 3 objects; faults 2, 3 told?; told in; hearing of; parameters of; hears -/
abbrev x_X : Type := Bool × Nat × Nat × (Nat → Int32) × Bool × Bool × (Nat → Int32) × (Nat → Int32) × (Nat → Int32) × List (Nat × Int32)
abbrev X_t (x : x_X) : Nat := x.2.1
abbrev X_z (x : x_X) : Nat := x.2.2.1
abbrev X_i (x : x_X) : Nat → Int32 := x.2.2.2.1
abbrev X_2 (x : x_X) : Bool := x.2.2.2.2.1
abbrev X_3 (x : x_X) : Bool := x.2.2.2.2.2.1
abbrev X_u (x : x_X) : Nat → Int32 := x.2.2.2.2.2.2.1
abbrev X_v (x : x_X) : Nat → Int32 := x.2.2.2.2.2.2.2.1
abbrev X_r (x : x_X) : Nat → Int32 := x.2.2.2.2.2.2.2.2.1
abbrev X_l (x : x_X) : List (Nat × Int32) := x.2.2.2.2.2.2.2.2.2
def fu (f : Nat → Int32) (w : Nat) (v : Int32) : Nat → Int32 := fun i => if i = w then v else f i
def X_bd (x : x_X) : x_X := (true, x.2)
def X_ad (x : x_X) : x_X := (x.1, X_t x + 1, x.2.2)
def X_pt (k : Nat) (x : x_X) : x_X := (x.1, X_t x, X_z x + k, x.2.2.2)
def X_si (j : Nat) (v : Int32) (x : x_X) : x_X := (x.1, X_t x, X_z x, um (X_i x) j v, x.2.2.2.2)
def X_s2 (x : x_X) : x_X := (x.1, X_t x, X_z x, X_i x, true, x.2.2.2.2.2)
def X_s3 (x : x_X) : x_X := (x.1, X_t x, X_z x, X_i x, X_2 x, true, x.2.2.2.2.2.2)
def X_su (w : Nat) (x : x_X) : x_X := (x.1, X_t x, X_z x, X_i x, X_2 x, X_3 x, fu (X_u x) w (X_i x 1), x.2.2.2.2.2.2.2)
def X_sv (w : Nat) (x : x_X) : x_X := (x.1, X_t x, X_z x, X_i x, X_2 x, X_3 x, X_u x, fu (X_v x) w (X_i x 1), x.2.2.2.2.2.2.2.2)
def X_sr (c : Int32) (x : x_X) : x_X := (x.1, X_t x, X_z x, X_i x, X_2 x, X_3 x, X_u x, X_v x, fu (X_r x) (X_i x 1).toNatClampNeg c, X_l x)
def X_sl (w : Nat) (c : Int32) (x : x_X) : x_X := (x.1, X_t x, X_z x, X_i x, X_2 x, X_3 x, X_u x, X_v x, X_r x, X_l x ++ [(w, c)])
/-- the token's type, 137 when stopped -/
def X_ty (E : x_E) (x : x_X) : Int32 := bif x.1 then 137 else E_A E (X_t x)
theorem X_tyb {x : x_X} (h : x.1 = true) : X_ty E x = 137 := by unfold X_ty; rw [h]; rfl
theorem X_tyg {x : x_X} (h : x.1 = false) : X_ty E x = E_A E (X_t x) := by unfold X_ty; rw [h]; rfl
theorem X_tyn {x : x_X} {c : Int32} (h : X_ty E x = c) (hc : c ≠ 137) : x.1 = false := by
  cases q : x.1 with
  | true => exact absurd ((X_tyb q).symm.trans h).symm hc
  | false => rfl
/-- a token taken; one that opens; one that closes -/
def X_tk (E : x_E) (c : Int32) (x : x_X) : x_X := if X_ty E x = c then X_ad x else X_bd x
def X_op (E : x_E) (c : Int32) (x : x_X) : x_X := if X_ty E x = c ∧ ¬ X_i x 0 = 20 then X_si 0 (X_i x 0 + 1) (X_ad x) else X_bd x
def X_cl (E : x_E) (c : Int32) (x : x_X) : x_X := X_si 0 (X_i x 0 - 1) (X_tk E c x)
end XP1
