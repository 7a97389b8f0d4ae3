/-! THE PICTURE OF THE REFERENCE'S READER. k: the bank; are the parameters of the hearing at hand told? -/
section XR1
def E_l (E : x_E) (t : Nat) : Nat := (E_f E (if t < E_m E then t + 1 else E_m E)).length
abbrev x_B : Type := Nat × Bool
def rz_q (E : x_E) (M : Nat → Int32) (F : Nat → Nat → Int32) (t : Nat) : Prop := q_r (E_T E) (E_A E) (E_V E) (E_P E) (E_n E) (E_m E) (E_k E) (E_f E) M F t ∧ t ≤ E_m E
def rz_f (M : Nat → Int32) (f2 f3 : Bool) : Prop := M 36 = -1 ∧ M 39 = -1 ∧ (M 37 = -1 ↔ f2 = false) ∧ (f2 = false → (M 38 = -1 ↔ f3 = false))
def rz_i (M : Nat → Int32) (I : Nat → Int32) (f2 f3 : Bool) : Prop := (M 33 = I 0 ∧ 0 ≤ (I 0).toInt ∧ (I 0).toInt ≤ 20) ∧ M 30 = I 1 ∧ (f2 = false → f3 = false → M 34 = I 2 ∧ M 35 = I 3)
def rz_t (F : Nat → Nat → Int32) (l : Nat) (u v : Nat → Int32) : Prop := (∀ w, w < l → F 9 w = u w ∧ F 11 w = v w) ∧ ∀ w, l ≤ w → u w = -1 ∧ v w = -1
def rz_h (M : Nat → Int32) (F : Nat → Nat → Int32) (l : List (Nat × Int32)) : Prop := M 46 = nI l.length ∧ ∀ i, i < l.length → F 43 i = nI (l.getD i (0, 0)).1 ∧ F 44 i = (l.getD i (0, 0)).2 ∧ ¬ F 45 i = -1
def rz_p (k : x_B) (M : Nat → Int32) (F : Nat → Nat → Int32) (h : Int32) (t : Nat) (r : Nat → Int32) : Prop := (M 27 = nI k.1 ∧ k.1 ≤ 1 ∧ 0 ≤ h.toInt ∧ h.toInt ≤ t) ∧ ∀ j : Nat, (j : Int) < h.toInt ∨ (k.2 = true ∧ (j : Int) = h.toInt) → F 19 (400 * k.1 + j) = r j
def rxg (E : x_E) (k : x_B) (M : Nat → Int32) (F : Nat → Nat → Int32) (x : x_X) : Prop := rz_q E M F (X_t x) ∧ rz_f M (X_2 x) (X_3 x) ∧ rz_i M (X_i x) (X_2 x) (X_3 x) ∧ rz_t F (E_l E (X_t x)) (X_u x) (X_v x) ∧ rz_h M F (X_l x) ∧ rz_p k M F (X_i x 1) (X_t x) (X_r x)
def rxx (E : x_E) (k : x_B) (M : Nat → Int32) (F : Nat → Nat → Int32) (x : x_X) : Prop := (x.1 = true → zb M) ∧ (x.1 = false → rxg E k M F x)
variable {E : x_E} {k : x_B} {M M' : Nat → Int32} {F F' : Nat → Nat → Int32} {x x' : x_X}
theorem rx_zb (h : zb M) (hx : x.1 = true) : rxx E k M F x := ⟨fun _ => h, fun q => absurd (hx.symm.trans q) (by decide)⟩
theorem rx_g (h : rxg E k M F x) (hx : x.1 = false) : rxx E k M F x := ⟨fun q => absurd (hx.symm.trans q) (by decide), fun _ => h⟩
def rz_LM : List Nat := [2, 3, 4, 5, 6, 12, 27, 30, 33, 34, 35, 36, 37, 38, 39, 46]
def rz_LF : List Nat := [0, 7, 8, 9, 11, 19, 43, 44, 45]
theorem rz_q_cg {t : Nat} (h : rz_q E M F t) (e2 : M' 2 = M 2) (e3 : M' 3 = M 3) (e4 : M' 4 = M 4) (e5 : M' 5 = M 5) (e6 : M' 6 = M 6) (e12 : M' 12 = M 12) (f0 : F' 0 = F 0) (f7 : F' 7 = F 7) (f8 : F' 8 = F 8) : rz_q E M' F' t := by
  obtain ⟨⟨⟨a1, a2, a3⟩, b, c⟩, d⟩ := h
  have hz : ∀ tbb, z_tb M F tbb → z_tb M' F' tbb := fun tbb z => ⟨e12.trans z.1, z.2.1, fun w hw => by rw [f7, f8]; exact z.2.2 w hw⟩
  have hk : ∀ a v, z_tk a v M → z_tk a v M' := fun a v z => by unfold z_tk; rw [e4, e5]; exact z
  refine ⟨⟨⟨e2.trans a1, a2, fun i hi => by rw [f0]; exact a3 i hi⟩, e6.trans b, ?_⟩, d⟩
  rcases c with ⟨c1, c2, c3, c4⟩ | ⟨c1, c2, c3, c4⟩
  · exact Or.inl ⟨c1, e3.trans c2, hk _ _ c3, hz _ c4⟩
  · exact Or.inr ⟨c1, e3.trans c2, e4.trans c3, hz _ c4⟩
theorem rx_cg (h : rxx E k M F x) (hM : ∀ j, j ∈ rz_LM → M' j = M j) (hF : ∀ j, j ∈ rz_LF → F' j = F j) : rxx E k M' F' x := by
  have e36 := hM 36 (by decide)
  refine ⟨fun q => by unfold zb; rw [e36]; exact h.1 q, fun q => ?_⟩
  obtain ⟨g1, g2, g3, g4, g5, g6⟩ := h.2 q
  refine ⟨rz_q_cg g1 (hM 2 (by decide)) (hM 3 (by decide)) (hM 4 (by decide)) (hM 5 (by decide)) (hM 6 (by decide)) (hM 12 (by decide)) (hF 0 (by decide)) (hF 7 (by decide)) (hF 8 (by decide)), ?_, ?_, ?_, ?_, ?_⟩
  · unfold rz_f; rw [e36, hM 39 (by decide), hM 37 (by decide), hM 38 (by decide)]; exact g2
  · unfold rz_i; rw [hM 33 (by decide), hM 30 (by decide), hM 34 (by decide), hM 35 (by decide)]; exact g3
  · unfold rz_t; rw [hF 9 (by decide), hF 11 (by decide)]; exact g4
  · unfold rz_h; rw [hM 46 (by decide), hF 43 (by decide), hF 44 (by decide), hF 45 (by decide)]; exact g5
  · unfold rz_p; rw [hM 27 (by decide), hF 19 (by decide)]; exact g6
theorem rx_um {j : Nat} {v : Int32} (hj : j ∉ rz_LM) (h : rxx E k M F x) : rxx E k (um M j v) F x := rx_cg h (fun i hi => um_ne (fun q => hj (q ▸ hi))) (fun _ _ => rfl)
theorem uf_row {c r : Nat} {i v : Int32} (h : r ≠ c) : uf F c i v r = F r := by
  funext j
  rw [uf_at2, if_neg (fun z => h z.1)]
theorem rx_uf {c : Nat} {i v : Int32} (hc : c ∉ rz_LF) (h : rxx E k M F x) : rxx E k M (uf F c i v) x := rx_cg h (fun _ _ => rfl) (fun r hr => uf_row (fun q => hc (q ▸ hr)))
/-- a run of the reference: if it is safe, it leads to x' -/
def rr (E : x_E) (W : (Nat → Int32) → (Nat → Nat → Int32) → ((Nat → Int32) → (Nat → Nat → Int32) → Prop) → Prop) (x x' : x_X) : Prop := ∀ (k : x_B) (M : Nat → Int32) (F : Nat → Nat → Int32) (Q Q' : (Nat → Int32) → (Nat → Nat → Int32) → Prop), rxx E k M F x → W M F Q → (∀ M' F', rxx E k M' F' x' → Q M' F' → Q' M' F') → W M F Q'
def rvv (E : x_E) (W : (Nat → Int32) → (Nat → Nat → Int32) → (Int32 → (Nat → Int32) → (Nat → Nat → Int32) → Prop) → Prop) (x x' : x_X) : Prop := ∀ (k : x_B) (M : Nat → Int32) (F : Nat → Nat → Int32) (Q Q' : Int32 → (Nat → Int32) → (Nat → Nat → Int32) → Prop), rxx E k M F x → W M F Q → (∀ r M' F', rxx E k M' F' x' → Q r M' F' → Q' r M' F') → W M F Q'
theorem re_bad {Q : Int32 → (Nat → Int32) → (Nat → Nat → Int32) → Prop} (h : rxx E k M F x) : w_bad M F Q ↔ Q (if x.1 = true then 1 else 0) M F := by
  cases hb : x.1 with
  | true => exact ⟨fun w => w.2 (h.1 hb), fun q => ⟨fun e => absurd e (h.1 hb), fun _ => q⟩⟩
  | false =>
    have e := (h.2 hb).2.1.1
    exact ⟨fun w => w.1 e, fun q => ⟨fun _ => q, fun z => absurd e z⟩⟩
theorem re_test {Q : Int32 → (Nat → Int32) → (Nat → Nat → Int32) → Prop} (h : rxx E k M F x) {K c d : Int32} (hd : d ≠ 137) (hi : x.1 = false → (E_A E (X_t x) = d ↔ M 4 = K ∧ M 5 = c)) : w_bad M F (fun r1 M2 F2 => ((¬ r1 = 0 → (Q 0 M2 F2)) ∧ (r1 = 0 → ((¬ (M2 4) = K → (Q 0 M2 F2)) ∧ ((M2 4) = K → ((¬ (M2 5) = c → (Q 0 M2 F2)) ∧ ((M2 5) = c → (Q 1 M2 F2)))))))) ↔ Q (if X_ty E x = d then 1 else 0) M F := by
  rw [re_bad h]
  cases hb : x.1 with
  | true =>
    rw [X_tyb hb, if_pos rfl, if_neg (fun q : (137 : Int32) = d => hd q.symm)]
    exact ⟨fun w => w.1 (by decide), fun q => ⟨fun _ => q, fun z => absurd z (by decide)⟩⟩
  | false =>
    have hi := hi hb
    rw [X_tyg hb, if_neg (show ¬ false = true by decide)]
    by_cases z : E_A E (X_t x) = d
    · obtain ⟨a, b⟩ := hi.mp z
      rw [if_pos z]
      exact ⟨fun w => ((w.2 rfl).2 a).2 b, fun q => ⟨fun y => absurd rfl y, fun _ => ⟨fun y => absurd a y, fun _ => ⟨fun y => absurd b y, fun _ => q⟩⟩⟩⟩
    · rw [if_neg z]
      refine ⟨fun w => ?_, fun q => ⟨fun y => absurd rfl y, fun _ => ⟨fun _ => q, fun a => ⟨fun _ => q, fun b => absurd (hi.mpr ⟨a, b⟩) z⟩⟩⟩⟩
      by_cases a : M 4 = K
      · by_cases b : M 5 = c
        · exact absurd (hi.mpr ⟨a, b⟩) z
        · exact ((w.2 rfl).2 a).1 b
      · exact (w.2 rfl).1 a
theorem rx_tk (hE : E_ok E) (h : rxx E k M F x) (hb : x.1 = false) : q_tk (E_A E (X_t x)) (E_V E (X_t x)) M := q_r_tk hE.1 (h.2 hb).1.1
theorem re_isSign {Q : Int32 → (Nat → Int32) → (Nat → Nat → Int32) → Prop} (hE : E_ok E) (h : rxx E k M F x) {c : Int32} (hc : x_sn c = true) : w_isSign c M F Q ↔ Q (if X_ty E x = c then 1 else 0) M F := re_test h (fun q => by rw [q] at hc; exact absurd hc (by decide)) (fun hb => q_sign (rx_tk hE h hb) hc)
theorem re_isEq {Q : Int32 → (Nat → Int32) → (Nat → Nat → Int32) → Prop} (hE : E_ok E) (h : rxx E k M F x) : (w_isSign 300 M F Q ↔ Q (if X_ty E x = 133 then 1 else 0) M F) ∧ (w_isSign 301 M F Q ↔ Q (if X_ty E x = 134 then 1 else 0) M F) := ⟨re_test h (by decide) (fun hb => q_eqs (rx_tk hE h hb) (Or.inl ⟨rfl, rfl⟩)), re_test h (by decide) (fun hb => q_eqs (rx_tk hE h hb) (Or.inr ⟨rfl, rfl⟩))⟩
theorem re_isWord {Q : Int32 → (Nat → Int32) → (Nat → Nat → Int32) → Prop} (hE : E_ok E) (h : rxx E k M F x) (p : Nat) (hp : p < 26) {c d : Int32} (hc : c = nI p) (hd : d = nI (200 + p)) : w_isWord c M F Q ↔ Q (if X_ty E x = d then 1 else 0) M F := by
  have h7 : ∀ p, p < 26 → nI (200 + p) ≠ 137 := by decide +kernel
  subst hc hd
  exact re_test h (h7 p hp) (fun hb => q_word (rx_tk hE h hb) hp)
theorem re_fail (hE : E_ok E) : rr E w_fail x (X_bd x) := fun k M F Q Q' h w hQ => by
  refine ⟨fun z => hQ _ _ (rx_zb z rfl) (w.1 z), fun z => hQ _ _ (rx_zb ?_ rfl) (w.2 z)⟩
  have hb : x.1 = false := by
    cases q : x.1 with
    | true => exact absurd z (h.1 q)
    | false => rfl
  obtain ⟨⟨⟨-, a, -⟩, b⟩, -⟩ := h.2 hb
  unfold zb
  rw [um_eq, a]; exact E_Pn hE b
theorem E_l_lt {t : Nat} (ht : t < E_m E) : E_l E t = (E_f E (t + 1)).length := by unfold E_l; rw [if_pos ht]
theorem E_l_s (hE : E_ok E) {t : Nat} (ht : t < E_m E) : E_l E t ≤ E_l E (t + 1) ∧ E_l E (t + 1) ≤ E_l E t + 1 := by
  rw [E_l_lt ht]
  by_cases q : t + 1 < E_m E
  · rw [E_l_lt q]
    rcases x_step_len (hE.1.1.2.2 (t + 1) q).2.2.1 with z | z
    · rw [z]; omega
    · rw [z, List.length_append]; simp
  · have e : t + 1 = E_m E := by omega
    unfold E_l
    rw [if_neg q, e]; omega
theorem re_passV (hE : E_ok E) (ht : x.1 = false → X_t x < E_m E) {Q Q' : (Nat → Int32) → (Nat → Nat → Int32) → Prop} (h : rxx E k M F x) (w : w_pass M F Q) (hQ : ∀ M' F', M' 47 = M 47 → rxx E k M' F' (X_ad x) → Q M' F' → Q' M' F') : w_pass M F Q' := by
  unfold w_pass at w ⊢
  rw [re_bad h] at w ⊢
  cases hb : x.1 with
  | true =>
    rw [hb, if_pos rfl] at w
    exact ⟨fun _ => hQ _ _ rfl (rx_zb (h.1 hb) hb) (w.1 (by decide)), fun q => absurd q (by decide)⟩
  | false =>
    rw [hb, if_neg (by decide)] at w
    refine ⟨fun q => absurd rfl q, fun _ => ?_⟩
    have ht := ht hb
    obtain ⟨g1, ⟨f36, f39, f37, f38⟩, ⟨i0, i1, i2⟩, ⟨t1, t2⟩, g5, ⟨p1, p2⟩⟩ := h.2 hb
    have w2 := z_adv (M := M) (F := F) hE.1 g1.1 ht (Q := fun M' F' => q_r (E_T E) (E_A E) (E_V E) (E_P E) (E_n E) (E_m E) (E_k E) (E_f E) M' F' (X_t x + 1) ∧ z_fr M M' F F' (E_f E (X_t x + 1))) (fun M' F' a b => ⟨a, b⟩)
    refine cj_next (w.2 rfl) w2 (fun M' F' q z => ?_)
    obtain ⟨z1, z2, z3, z4, z5⟩ := z
    have em : ∀ j, j ≠ 3 → j ≠ 4 → j ≠ 5 → j ≠ 6 → j ≠ 12 → M' j = M j := z2
    have l0 := E_l_lt ht
    have ls := E_l_s hE ht
    refine hQ M' F' (em 47 (by decide) (by decide) (by decide) (by decide) (by decide)) (rx_g ⟨⟨z1, ht⟩, ?_, ?_, ⟨fun v hv => ?_, fun v hv => t2 v ?_⟩, ?_, ?_⟩ hb) q
    · unfold rz_f
      rw [em 36 (by decide) (by decide) (by decide) (by decide) (by decide), em 39 (by decide) (by decide) (by decide) (by decide) (by decide), em 37 (by decide) (by decide) (by decide) (by decide) (by decide), em 38 (by decide) (by decide) (by decide) (by decide) (by decide)]
      exact ⟨f36, f39, f37, f38⟩
    · unfold rz_i
      rw [em 33 (by decide) (by decide) (by decide) (by decide) (by decide), em 30 (by decide) (by decide) (by decide) (by decide) (by decide), em 34 (by decide) (by decide) (by decide) (by decide) (by decide), em 35 (by decide) (by decide) (by decide) (by decide) (by decide)]
      exact ⟨i0, i1, i2⟩
    · have hv : v < E_l E (X_t x + 1) := hv
      by_cases c : v < E_l E (X_t x)
      · have := z4 v (by rw [← l0]; omega)
        rw [this.1, this.2]; exact t1 v c
      · have ev : v = (E_f E (X_t x + 1)).length := by omega
        have hne : ¬ M' 12 = M 12 := by
          have a1 : M 12 = nI (E_l E (X_t x)) := by
            rcases g1.1.2.2 with ⟨-, -, -, y⟩ | ⟨y, -⟩
            · rw [l0]; exact y.1
            · omega
          have a2 : M' 12 = nI (E_l E (X_t x + 1)) := by
            rcases z1.2.2 with ⟨y0, -, -, y⟩ | ⟨y0, -, -, y⟩
            · rw [E_l_lt y0]; exact y.1
            · unfold E_l; rw [if_neg (by omega)]; exact y.1
          rw [a1, a2]
          have hL : E_L E ≤ 2005 := hE.1.2.2.2.2.1
          have hb1 := E_fL hE (t := X_t x + 1) (by omega)
          intro y
          have := nI_inj (by omega) (by omega) y
          omega
        rcases z5 with y | y
        · exact absurd y.2 hne
        · have := t2 v (by omega)
          show F' 9 v = X_u x v ∧ F' 11 v = X_v x v
          rw [this.1, this.2, ev]; exact y
    · have hv : E_l E (X_t x + 1) ≤ v := hv
      omega
    · obtain ⟨h1, h2⟩ := g5
      refine ⟨by rw [em 46 (by decide) (by decide) (by decide) (by decide) (by decide)]; exact h1, fun i hi => ?_⟩
      rw [z3 43 i (by decide) (by decide) (by decide) (by decide), z3 44 i (by decide) (by decide) (by decide) (by decide), z3 45 i (by decide) (by decide) (by decide) (by decide)]
      exact h2 i hi
    · refine ⟨⟨by rw [em 27 (by decide) (by decide) (by decide) (by decide) (by decide)]; exact p1.1, p1.2.1, p1.2.2.1, ?_⟩, fun j hj => ?_⟩
      · have := p1.2.2.2
        show (X_i x 1).toInt ≤ ((X_t x + 1 : Nat) : Int); omega
      · rw [z3 19 _ (by decide) (by decide) (by decide) (by decide)]; exact p2 j hj
theorem re_pass (hE : E_ok E) (ht : x.1 = false → X_t x < E_m E) : rr E w_pass x (X_ad x) := fun _ _ _ _ _ h w hQ => re_passV hE ht h w (fun M' F' _ => hQ M' F')
theorem re_lt (hE : E_ok E) (h : rxx E k M F x) (h5 : ¬ X_ty E x = 135) : x.1 = false → X_t x < E_m E := fun hb => by
  rw [X_tyg hb] at h5
  exact E_lt hE (h.2 hb).1.2 rfl h5
theorem re_need (hE : E_ok E) {c : Int32} (hc : x_sn c = true) : rr E (w_need c) x (X_tk E c x) := fun k M F Q Q' h w hQ => by
  unfold X_tk at hQ
  refine (re_isSign hE h hc).mpr ?_
  have w := (re_isSign hE h hc).mp w
  by_cases z : X_ty E x = c
  · rw [if_pos z] at w hQ ⊢
    refine ⟨fun q => absurd q (by decide), fun _ => re_pass hE (re_lt hE h (fun q => ?_)) k M F _ _ h (w.2 (by decide)) hQ⟩
    rw [q] at z; rw [← z] at hc; exact absurd hc (by decide)
  · rw [if_neg z] at w hQ ⊢
    exact ⟨fun _ => re_fail hE k M F _ _ h (w.1 rfl) hQ, fun q => absurd rfl q⟩
theorem re_needWord (hE : E_ok E) (p : Nat) (hp : p < 26) {c d : Int32} (hc : c = nI p) (hd : d = nI (200 + p)) : rr E (w_needWord c) x (X_tk E d x) := fun k M F Q Q' h w hQ => by
  have h5 : ∀ p, p < 26 → nI (200 + p) ≠ 135 := by decide +kernel
  unfold X_tk at hQ
  refine (re_isWord hE h p hp hc hd).mpr ?_
  have w := (re_isWord hE h p hp hc hd).mp w
  by_cases z : X_ty E x = d
  · rw [if_pos z] at w hQ ⊢
    refine ⟨fun q => absurd q (by decide), fun _ => re_pass hE (re_lt hE h (fun q => ?_)) k M F _ _ h (w.2 (by decide)) hQ⟩
    rw [q, hd] at z; exact absurd z.symm (h5 p hp)
  · rw [if_neg z] at w hQ ⊢
    exact ⟨fun _ => re_fail hE k M F _ _ h (w.1 rfl) hQ, fun q => absurd rfl q⟩
end XR1
