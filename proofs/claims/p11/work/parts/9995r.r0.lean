/-! BOTH PARSERS WITH WHAT THEY PUT. y: where the parsers are, and what stands: the class's ints, the reference's rows, how many; maps (0 a code's place, 1 a try's lastly, 2 an uphold's head, 3 whose an uphold is, 4 where a hearing begins, 5 a hear's code, 6 a hear's place); open tries (0 before a code, 1 around a try); slots; what is open now. -/
section YP0
abbrev x_G : Type := (Nat → Int32) × (Nat → Nat → Int32) × (Nat → Nat) × (Nat → Nat → Nat) × (Nat → Nat → List (Nat × Nat)) × (Nat → Int32 × Int32) × List (Nat × Nat)
abbrev y_X : Type := Bool × Nat × Nat × (Nat → Int32) × Bool × Bool × (Nat → Int32) × (Nat → Int32) × (Nat → Int32) × List (Nat × Int32) × x_G
def yx (y : y_X) : x_X := (y.1, y.2.1, y.2.2.1, y.2.2.2.1, y.2.2.2.2.1, y.2.2.2.2.2.1, y.2.2.2.2.2.2.1, y.2.2.2.2.2.2.2.1, y.2.2.2.2.2.2.2.2.1, y.2.2.2.2.2.2.2.2.2.1)
abbrev Y_t (y : y_X) : Nat := y.2.1
abbrev Y_z (y : y_X) : Nat := y.2.2.1
abbrev Y_i (y : y_X) : Nat → Int32 := y.2.2.2.1
abbrev Y_2 (y : y_X) : Bool := y.2.2.2.2.1
abbrev Y_3 (y : y_X) : Bool := y.2.2.2.2.2.1
abbrev Y_u (y : y_X) : Nat → Int32 := y.2.2.2.2.2.2.1
abbrev Y_v (y : y_X) : Nat → Int32 := y.2.2.2.2.2.2.2.1
abbrev Y_r (y : y_X) : Nat → Int32 := y.2.2.2.2.2.2.2.2.1
abbrev Y_l (y : y_X) : List (Nat × Int32) := y.2.2.2.2.2.2.2.2.2.1
abbrev Y_g (y : y_X) : x_G := y.2.2.2.2.2.2.2.2.2.2
abbrev Y_C (y : y_X) : Nat → Int32 := (Y_g y).1
abbrev Y_R (y : y_X) : Nat → Nat → Int32 := (Y_g y).2.1
abbrev Y_m (y : y_X) : Nat → Nat := (Y_g y).2.2.1
abbrev Y_a (y : y_X) : Nat → Nat → Nat := (Y_g y).2.2.2.1
abbrev Y_k (y : y_X) : Nat → Nat → List (Nat × Nat) := (Y_g y).2.2.2.2.1
abbrev Y_S (y : y_X) : Nat → Int32 × Int32 := (Y_g y).2.2.2.2.2.1
abbrev Y_c (y : y_X) : List (Nat × Nat) := (Y_g y).2.2.2.2.2.2
/-- the next code, try, uphold, by the reference's own numbers -/
abbrev Y_B (y : y_X) : Nat := Y_m y 3
def Y_n (y : y_X) : Nat := 9000 * Y_B y + Y_m y 0
def Y_T (y : y_X) : Nat := 400 * Y_B y + Y_m y 1
def Y_V (y : y_X) : Nat := 400 * Y_B y + Y_m y 2
def f1 {A : Type} (f : Nat → A) (k : Nat) (v : A) : Nat → A := fun j => if j = k then v else f j
def f2 {A : Type} (f : Nat → Nat → A) (i k : Nat) (v : A) : Nat → Nat → A := fun r => bif Nat.beq r i then f1 (f i) k v else f r
theorem f1_eq {A : Type} {f : Nat → A} {k : Nat} {v : A} : f1 f k v k = v := if_pos rfl
theorem f1_ne {A : Type} {f : Nat → A} {k j : Nat} {v : A} (h : j ≠ k) : f1 f k v j = f j := if_neg h
theorem f2_eq {A : Type} {f : Nat → Nat → A} {i k : Nat} {v : A} : f2 f i k v i = f1 (f i) k v := by unfold f2; rw [Nat.beq_refl]; rfl
theorem f2_ne {A : Type} {f : Nat → Nat → A} {i k r : Nat} {v : A} (h : r ≠ i) : f2 f i k v r = f r := by
  unfold f2
  have e : Nat.beq r i = false := by
    cases q : Nat.beq r i with
    | true => exact absurd (Nat.eq_of_beq_eq_true q) h
    | false => rfl
  rw [e]; rfl
theorem f2_at {A : Type} {f : Nat → Nat → A} {i k r j : Nat} {v : A} : f2 f i k v r j = if r = i ∧ j = k then v else f r j := by
  by_cases h : r = i
  · subst h
    rw [f2_eq]
    unfold f1
    by_cases q : j = k
    · rw [if_pos q, if_pos ⟨rfl, q⟩]
    · rw [if_neg q, if_neg (fun z => q z.2)]
  · rw [f2_ne h, if_neg (fun z => h z.1)]
/-- ints behind one another -/
def cl (C : Nat → Int32) (z : Nat) (l : List Int32) : Nat → Int32 := fun p => if z ≤ p ∧ p < z + l.length then l.getD (p - z) 0 else C p
theorem cl_lt {C : Nat → Int32} {z p : Nat} {l : List Int32} (h : p < z) : cl C z l p = C p := if_neg (by omega)
theorem cl_at {C : Nat → Int32} {z i : Nat} {l : List Int32} (h : i < l.length) : cl C z l (z + i) = l.getD i 0 := by
  unfold cl
  rw [if_pos (by omega), Nat.add_sub_cancel_left]
theorem cl_cl {C : Nat → Int32} {z : Nat} {l m : List Int32} : cl (cl C z l) (z + l.length) m = cl C z (l ++ m) := by
  funext p
  unfold cl
  rw [List.length_append]
  by_cases q : z + l.length ≤ p ∧ p < z + l.length + m.length
  · rw [if_pos q, if_pos (by omega), List.getD_eq_getElem?_getD, List.getD_eq_getElem?_getD, List.getElem?_append_right (by omega), show p - z - l.length = p - (z + l.length) by omega]
  · rw [if_neg q]
    by_cases q2 : z ≤ p ∧ p < z + l.length
    · rw [if_pos q2, if_pos (by omega), List.getD_eq_getElem?_getD, List.getD_eq_getElem?_getD, List.getElem?_append_left (by omega)]
    · rw [if_neg q2, if_neg (by omega)]
abbrev x_O : Type := Int32 × Int32 × Int32 × Int32 × Int32
def r5 (R : Nat → Nat → Int32) (k : Nat) (o : x_O) : Nat → Nat → Int32 := f2 (f2 (f2 (f2 (f2 R 13 k o.1) 14 k o.2.1) 15 k o.2.2.1) 16 k o.2.2.2.1) 17 k o.2.2.2.2
theorem r5_ne {R : Nat → Nat → Int32} {k r j : Nat} {o : x_O} (h : j ≠ k) : r5 R k o r j = R r j := by
  unfold r5
  rw [f2_at, if_neg (fun z => h z.2), f2_at, if_neg (fun z => h z.2), f2_at, if_neg (fun z => h z.2), f2_at, if_neg (fun z => h z.2), f2_at, if_neg (fun z => h z.2)]
theorem r5_nr {R : Nat → Nat → Int32} {k r : Nat} {o : x_O} (h : r < 13 ∨ 17 < r) : r5 R k o r = R r := by
  unfold r5
  rw [f2_ne (by omega), f2_ne (by omega), f2_ne (by omega), f2_ne (by omega), f2_ne (by omega)]
theorem r5_at {R : Nat → Nat → Int32} {k : Nat} {o : x_O} : r5 R k o 13 k = o.1 ∧ r5 R k o 14 k = o.2.1 ∧ r5 R k o 15 k = o.2.2.1 ∧ r5 R k o 16 k = o.2.2.2.1 ∧ r5 R k o 17 k = o.2.2.2.2 := by
  unfold r5
  refine ⟨?_, ?_, ?_, ?_, ?_⟩
  · rw [f2_ne (by decide), f2_ne (by decide), f2_ne (by decide), f2_ne (by decide), f2_eq, f1_eq]
  · rw [f2_ne (by decide), f2_ne (by decide), f2_ne (by decide), f2_eq, f1_eq]
  · rw [f2_ne (by decide), f2_ne (by decide), f2_eq, f1_eq]
  · rw [f2_ne (by decide), f2_eq, f1_eq]
  · rw [f2_eq, f1_eq]
def Y_bd (y : y_X) : y_X := (true, y.2)
def Y_ad (y : y_X) : y_X := (y.1, Y_t y + 1, y.2.2)
def Y_si (j : Nat) (v : Int32) (y : y_X) : y_X := (y.1, Y_t y, Y_z y, um (Y_i y) j v, y.2.2.2.2)
def Y_s2 (y : y_X) : y_X := (y.1, Y_t y, Y_z y, Y_i y, true, y.2.2.2.2.2)
def Y_s3 (y : y_X) : y_X := (y.1, Y_t y, Y_z y, Y_i y, Y_2 y, true, y.2.2.2.2.2.2)
def Y_gs (g : x_G) (y : y_X) : y_X := (y.1, Y_t y, Y_z y, Y_i y, Y_2 y, Y_3 y, Y_u y, Y_v y, Y_r y, Y_l y, g)
def Y_su (w : Nat) (y : y_X) : y_X := (y.1, Y_t y, Y_z y, Y_i y, Y_2 y, Y_3 y, fu (Y_u y) w (Y_i y 1), Y_v y, Y_r y, Y_l y, Y_C y, Y_R y, Y_m y, Y_a y, Y_k y, f1 (Y_S y) w (Y_i y 2, Y_i y 3), Y_c y)
def Y_sv (w : Nat) (y : y_X) : y_X := (y.1, Y_t y, Y_z y, Y_i y, Y_2 y, Y_3 y, Y_u y, fu (Y_v y) w (Y_i y 1), y.2.2.2.2.2.2.2.2)
/-- ints put; a code put; both -/
def Y_cs (l : List Int32) (y : y_X) : y_X := (y.1, Y_t y, Y_z y + l.length, Y_i y, Y_2 y, Y_3 y, Y_u y, Y_v y, Y_r y, Y_l y, cl (Y_C y) (Y_z y) l, Y_R y, Y_m y, Y_a y, Y_k y, Y_S y, Y_c y)
def Y_rs (o : x_O) (y : y_X) : y_X := (y.1, Y_t y, Y_z y, Y_i y, Y_2 y, Y_3 y, Y_u y, Y_v y, Y_r y, Y_l y, Y_C y, r5 (Y_R y) (Y_n y) o, f1 (Y_m y) 0 (Y_m y 0 + 1), Y_a y, Y_k y, Y_S y, Y_c y)
def Y_em (l : List Int32) (o : x_O) (c : List (Nat × Nat)) (y : y_X) : y_X := (y.1, Y_t y, Y_z y + l.length, Y_i y, Y_2 y, Y_3 y, Y_u y, Y_v y, Y_r y, Y_l y, cl (Y_C y) (Y_z y) l, r5 (Y_R y) (Y_n y) o, f1 (Y_m y) 0 (Y_m y 0 + 1), f2 (Y_a y) 0 (Y_n y + 1) (Y_z y + l.length), f2 (Y_k y) 0 (Y_n y + 1) c, Y_S y, c)
/-- a hear: its code, its place -/
def Y_sl (w : Nat) (c : Int32) (y : y_X) : y_X := (y.1, Y_t y, Y_z y, Y_i y, Y_2 y, Y_3 y, Y_u y, Y_v y, Y_r y, Y_l y ++ [(w, c)], Y_C y, Y_R y, Y_m y, f2 (f2 (Y_a y) 5 (Y_l y).length (Y_n y)) 6 (Y_l y).length (Y_z y - 2), Y_k y, Y_S y, Y_c y)
/-- an int changed; a row changed -/
def Y_ch (p : Nat) (v : Int32) (y : y_X) : y_X := Y_gs (f1 (Y_C y) p v, (Y_g y).2) y
def Y_rc (r k : Nat) (v : Int32) (y : y_X) : y_X := Y_gs (Y_C y, f2 (Y_R y) r k v, (Y_g y).2.2) y
theorem Y_cs2 {y : y_X} {v w : Int32} : Y_cs [w] (Y_cs [v] y) = Y_cs [v, w] y := by
  have e : cl (cl (Y_C y) (Y_z y) [v]) (Y_z y + 1) [w] = cl (Y_C y) (Y_z y) [v, w] := cl_cl (l := [v]) (m := [w])
  show (_, _, _, _, _, _, _, _, _, _, cl (cl (Y_C y) (Y_z y) [v]) (Y_z y + 1) [w], _) = _
  rw [e]; rfl
theorem Y_cs3 {y : y_X} {u v w : Int32} : Y_cs [w] (Y_cs [u, v] y) = Y_cs [u, v, w] y := by
  have e : cl (cl (Y_C y) (Y_z y) [u, v]) (Y_z y + 2) [w] = cl (Y_C y) (Y_z y) [u, v, w] := cl_cl (l := [u, v]) (m := [w])
  show (_, _, _, _, _, _, _, _, _, _, cl (cl (Y_C y) (Y_z y) [u, v]) (Y_z y + 2) [w], _) = _
  rw [e]; rfl
theorem Y_csa {y : y_X} {l m : List Int32} : Y_cs m (Y_cs l y) = Y_cs (l ++ m) y := by
  show (_, _, Y_z y + l.length + m.length, _, _, _, _, _, _, _, cl (cl (Y_C y) (Y_z y) l) (Y_z y + l.length) m, _) = (_, _, Y_z y + (l ++ m).length, _, _, _, _, _, _, _, _, _)
  rw [cl_cl, List.length_append, Nat.add_assoc]
  rfl
def Y_ty (E : x_E) (y : y_X) : Int32 := bif y.1 then 137 else E_A E (Y_t y)
def Y_tk (E : x_E) (c : Int32) (y : y_X) : y_X := if Y_ty E y = c then Y_ad y else Y_bd y
def Y_op (E : x_E) (c : Int32) (y : y_X) : y_X := if Y_ty E y = c ∧ ¬ Y_i y 0 = 20 then Y_si 0 (Y_i y 0 + 1) (Y_ad y) else Y_bd y
def Y_cl (E : x_E) (c : Int32) (y : y_X) : y_X := Y_si 0 (Y_i y 0 - 1) (Y_tk E c y)
def Y_nm (E : x_E) (y : y_X) : y_X := if Y_ty E y = 130 then Y_ad (if Y_u y (E_w E (Y_t y)) = Y_i y 1 then y else Y_s2 y) else Y_bd y
def Y_o3 (y : y_X) : y_X := if Y_i y 3 ≤ 8 then y else Y_s3 y
def Y_ot (w : Nat) (y : y_X) : y_X := if Y_u y w = Y_i y 1 then y else Y_o3 (Y_si 3 (Y_i y 3 + 1) (Y_su w y))
def Y_ob (E : x_E) (y : y_X) : y_X := if Y_ty E y = 131 then Y_ad (Y_ot (E_w E (Y_t y)) y) else Y_bd y
def Y_t3 (y : y_X) : y_X := if Y_i y 2 ≤ 12 then y else Y_s3 y
def Y_te (w : Nat) (y : y_X) : y_X := if Y_u y w = Y_i y 1 then Y_s2 y else Y_t3 (Y_si 2 (Y_i y 2 + 1) (Y_su w y))
def Y_td (w : Nat) (y : y_X) : y_X := if Y_u y w = Y_i y 1 then y else Y_s2 y
def Y_kd (E : x_E) (y : y_X) : y_X := if X_ik (Y_ty E y) then Y_ad y else Y_bd y
def Y_qu (E : x_E) (y : y_X) : y_X := if X_iq (Y_ty E y) then Y_ad y else Y_bd y
def Y_pp (E : x_E) (y : y_X) : y_X := if X_ip (Y_ty E y) then Y_ad y else Y_bd y
def Y_on (E : x_E) (y : y_X) : y_X := if Y_ty E y = 203 then Y_ad y else Y_ob E y
variable {E : x_E} {y : y_X}
theorem yx_if {p : Prop} (_ : Decidable p) {a b : y_X} : yx (if p then a else b) = if p then yx a else yx b := by
  split <;> rfl
end YP0
