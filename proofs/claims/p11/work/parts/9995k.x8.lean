/-! BOTH PARSERS TOGETHER: products, sums, expressions. -/
section XJ2
variable {E : x_E} {x y : x_X}
def cff (N : Nat → Nat) : Nat → Int32 → x_CW
  | 0 => fun _ _ _ _ => False
  | n + 1 => fun d s O Q => wF_X7_factor N (cff N n) d s O Q
def jp (n : Nat) (p : Int32) (x : x_X) : Prop := 1 ≤ n ∧ (x.1 = false → 22 ≤ (X_i x 0).toInt + n ∧ p = X_i x 0)
def ja (a : Int32) (x : x_X) : Prop := x.1 = false → 0 ≤ a.toInt ∧ a.toInt ≤ X_t x
/-- at most j tokens left -/
def jt (E : x_E) (j : Nat) (x : x_X) : Prop := x.1 = false → E_m E < X_t x + j
theorem xm_i0 {a : Nat} {d : Int} (m : xm E a d 0 x y) (h : y.1 = false) : x.1 = false ∧ X_i y 0 = X_i x 0 := by
  obtain ⟨c1, -, -, -, ⟨c6, -⟩, -⟩ := m h
  exact ⟨c1, by rw [c6, Int32.add_zero]⟩
theorem jp_m {n a : Nat} {p : Int32} {d : Int} (h : jp n p x) (m : xm E a d 0 x y) : jp n p y := ⟨h.1, fun q => by
  obtain ⟨c1, c2⟩ := xm_i0 m q
  rw [c2]; exact h.2 c1⟩
theorem jt_m {j a : Nat} {d : Int} {e : Int32} (h : jt E (j + a) x) (m : xm E a d e x y) : jt E j y := fun q => by
  obtain ⟨c1, ⟨c2, -⟩, -⟩ := m q
  have := h c1
  omega
theorem jt_w {i j : Nat} (h : jt E i x) (hij : i ≤ j) : jt E j x := fun q => by have := h q; omega
theorem ja_m {a : Int32} {b : Nat} {d : Int} {e : Int32} (hE : E_ok E) (h : ja a x) (m : xm E b d e x y) (hb : 1 ≤ b) : ja (a + 1) y := fun q => by
  have l1 : (1 : Int32).toInt = 1 := by decide
  obtain ⟨c1, ⟨c2, c3⟩, -⟩ := m q
  have h := h c1
  have := E_n4 hE
  rw [ti_addx _ _ (by rw [l1]; omega), l1]
  omega
theorem ja_4 {a : Int32} (hE : E_ok E) (h : ja a x) (hb : x.1 = false) (ht : X_t x ≤ E_m E) : ¬ 4000 < a := fun q => by
  have h := h hb
  have := E_n4 hE
  rw [Int32.lt_iff_toInt_lt, show (4000 : Int32).toInt = 4000 by decide] at q
  omega
theorem ja_0 : ja 0 x := fun _ => by rw [show (0 : Int32).toInt = 0 by decide]; omega
section
variable {k : x_B} {M : Nat → Int32} {F : Nat → Nat → Int32} {A B A' B' : (Nat → Int32) → (Nat → Nat → Int32) → Prop}
theorem re_s1 (hE : E_ok E) (h : rxx E k M F x) {c : Int32} (hc : x_sn c = true) (h1 : X_ty E x = c → A M F → A' M F) (h0 : ¬ X_ty E x = c → B M F → B' M F) (w : w_isSign c M F (fun r M F => (¬ r = 0 → A M F) ∧ (r = 0 → B M F))) : w_isSign c M F (fun r M F => (¬ r = 0 → A' M F) ∧ (r = 0 → B' M F)) := re_c1 (T := w_isSign c M F) (fun _ => re_isSign hE h hc) h1 h0 w
theorem re_s0 (hE : E_ok E) (h : rxx E k M F x) {c : Int32} (hc : x_sn c = true) (h1 : X_ty E x = c → A M F → A' M F) (h0 : ¬ X_ty E x = c → B M F → B' M F) (w : w_isSign c M F (fun r M F => (r = 0 → B M F) ∧ (¬ r = 0 → A M F))) : w_isSign c M F (fun r M F => (r = 0 → B' M F) ∧ (¬ r = 0 → A' M F)) := re_c0 (T := w_isSign c M F) (fun _ => re_isSign hE h hc) h1 h0 w
theorem re_w1 (hE : E_ok E) (h : rxx E k M F x) (p : Nat) (hp : p < 26) {c d : Int32} (hc : c = nI p) (hd : d = nI (200 + p)) (h1 : X_ty E x = d → A M F → A' M F) (h0 : ¬ X_ty E x = d → B M F → B' M F) (w : w_isWord c M F (fun r M F => (¬ r = 0 → A M F) ∧ (r = 0 → B M F))) : w_isWord c M F (fun r M F => (¬ r = 0 → A' M F) ∧ (r = 0 → B' M F)) := re_c1 (T := w_isWord c M F) (fun _ => re_isWord hE h p hp hc hd) h1 h0 w
theorem re_w0 (hE : E_ok E) (h : rxx E k M F x) (p : Nat) (hp : p < 26) {c d : Int32} (hc : c = nI p) (hd : d = nI (200 + p)) (h1 : X_ty E x = d → A M F → A' M F) (h0 : ¬ X_ty E x = d → B M F → B' M F) (w : w_isWord c M F (fun r M F => (r = 0 → B M F) ∧ (¬ r = 0 → A M F))) : w_isWord c M F (fun r M F => (r = 0 → B' M F) ∧ (¬ r = 0 → A' M F)) := re_c0 (T := w_isWord c M F) (fun _ => re_isWord hE h p hp hc hd) h1 h0 w
theorem re_e1 (hE : E_ok E) (h : rxx E k M F x) {c d : Int32} (hc : (c = 300 ∧ d = 133) ∨ (c = 301 ∧ d = 134)) (h1 : X_ty E x = d → A M F → A' M F) (h0 : ¬ X_ty E x = d → B M F → B' M F) (w : w_isSign c M F (fun r M F => (¬ r = 0 → A M F) ∧ (r = 0 → B M F))) : w_isSign c M F (fun r M F => (¬ r = 0 → A' M F) ∧ (r = 0 → B' M F)) := by
  rcases hc with ⟨rfl, rfl⟩ | ⟨rfl, rfl⟩
  · exact re_c1 (T := w_isSign 300 M F) (fun _ => (re_isEq hE h).1) h1 h0 w
  · exact re_c1 (T := w_isSign 301 M F) (fun _ => (re_isEq hE h).2) h1 h0 w
end
end XJ2
