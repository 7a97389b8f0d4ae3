theorem e_z0 : (0 : Int32).toInt = 0 := by decide
def e_sm (F : e_F) (w : Nat) : Prop := 97 ≤ (F 0 (F 7 w).toInt.toNat).toInt ∧ (F 0 (F 7 w).toInt.toNat).toInt ≤ 122
/-- what the token at hand is known to be -/
def e_TK (M : e_M) (F : e_F) : Prop := ((M 4).toInt = 1 → (0 ≤ (M 5).toInt ∧ (M 5).toInt < (M 12).toInt) ∧ e_sm F (M 5).toInt.toNat) ∧ ((M 4).toInt = 2 → (0 ≤ (M 5).toInt ∧ (M 5).toInt < (M 12).toInt) ∧ ¬ e_sm F (M 5).toInt.toNat) ∧ ((M 4).toInt = 4 → ∃ j : Nat, j < 26 ∧ (M 5).toInt = j ∧ (M 3).toInt - (M 6).toInt = (e_w2.getD j 0 : Nat)) ∧ ((M 4).toInt = 5 → ∃ j : Nat, j < 7 ∧ (M 5).toInt = j ∧ (M 3).toInt - (M 6).toInt = (e_w3.getD j 0 : Nat))
/-- what the rows of names may have become -/
def e_NX (M : e_M) (F : e_F) (M' : e_M) (F' : e_F) : Prop := (M 12).toInt ≤ (M' 12).toInt ∧ (M' 12).toInt ≤ (M 12).toInt + 1 ∧ (∀ r : Nat, r ≠ 7 → r ≠ 8 → r ≠ 9 → r ≠ 11 → F' r = F r) ∧ (∀ w : Nat, (w : Int) < (M 12).toInt → F' 7 w = F 7 w ∧ F' 8 w = F 8 w ∧ F' 9 w = F 9 w ∧ F' 11 w = F 11 w) ∧ ∀ w : Nat, (M 12).toInt ≤ w → (w : Int) < (M' 12).toInt → F' 7 w = M' 6 ∧ (F' 8 w).toInt = (M' 3).toInt - (M' 6).toInt ∧ F' 9 w = -1 ∧ F' 11 w = -1
def e_NR (M : e_M) (F : e_F) : Prop := ∀ w : Nat, (w : Int) < (M 12).toInt → 0 ≤ (F 7 w).toInt ∧ 1 ≤ (F 8 w).toInt ∧ (F 7 w).toInt + (F 8 w).toInt ≤ 4000
theorem e_NX_rf {M M' : e_M} {F : e_F} (h : M' 12 = M 12) : e_NX M F M' F := ⟨by rw [h]; exact Int.le_refl _, by rw [h]; omega, fun _ _ _ _ _ => rfl, fun _ _ => ⟨rfl, rfl, rfl, rfl⟩, fun w h1 h2 => absurd h2 (by rw [h]; omega)⟩
theorem p_name_35 {K : Int32 → Int32 → e_M → e_F → Prop} {Q : Int32 → e_M → e_F → Prop} {M : e_M} {F : e_F} {a1 a2 : Int32} (h2 : 0 ≤ a2.toInt) (h2' : a2.toInt < 2100) (hK : K a1 (a2 + 1) M F) (hQ : F 0 (F 7 a2.toInt.toNat).toInt.toNat = F 0 (M 6).toInt.toNat → Q a2 M F) (hr : 0 ≤ (F 7 a2.toInt.toNat).toInt ∧ (F 7 a2.toInt.toNat).toInt + a1.toInt ≤ 4000) (h1 : 1 ≤ a1.toInt) (hs : 0 ≤ (M 6).toInt) (he : (M 6).toInt + a1.toInt ≤ 4000) : ∀ (n : Nat) (a3 : Int32), 0 ≤ a3.toInt → a3.toInt ≤ a1.toInt → (1 ≤ a3.toInt → F 0 (F 7 a2.toInt.toNat).toInt.toNat = F 0 (M 6).toInt.toNat) → a1.toInt - a3.toInt < n → w_name_35 K Q n a1 a2 a3 M F := by
  have l1 : (1 : Int32).toInt = 1 := by decide
  intro n
  induction n with
  | zero => intro a3 q0 q1 q2 q3; exact absurd q3 (by omega)
  | succ n ih =>
    intro a3 q0 q1 q2 q3
    have h73 : w_name_73 K Q a1 a2 a3 M F := ⟨fun _ => hK, fun h => hQ (q2 (by rw [h]; exact h1))⟩
    refine ⟨fun _ => h73, fun h => ⟨vp_in_iff.mpr (by omega), vp_in_iff.mpr ?_, fun v8 hv => ⟨vp_in_iff.mpr ?_, fun _ => h73, fun h9 => ?_⟩⟩⟩
    · have := ti_nle h
      have e := ti_addx (F 7 a2.toInt.toNat) a3 (by omega)
      show 0 ≤ (F 7 a2.toInt.toNat + a3).toInt ∧ (F 7 a2.toInt.toNat + a3).toInt < 4020
      omega
    · have := ti_nle h
      have e := ti_addx (M 6) a3 (by omega)
      omega
    · have h8 := ti_nle h
      have e3 := ti_addx a3 1 (by omega)
      refine ih (a3 + 1) (by omega) (by omega) (fun _ => ?_) (by omega)
      by_cases q : 1 ≤ a3.toInt
      · exact q2 q
      · have e0 : a3 = 0 := Int32.toInt_inj.mp (by have := e_z0; omega)
        subst e0
        rw [hv] at h9
        rw [Int32.add_zero, Int32.add_zero] at h9
        exact h9
theorem p_name_12 {Q : Int32 → e_M → e_F → Prop} {M : e_M} {F : e_F} {a1 : Int32} (hN : 0 ≤ (M 12).toInt ∧ (M 12).toInt < 2100) (hR : e_NR M F) (h1 : 1 ≤ a1.toInt) (hs : 0 ≤ (M 6).toInt) (he : (M 6).toInt + a1.toInt ≤ 4000) (hO : ∀ r : Int32, 0 ≤ r.toInt → r.toInt < (M 12).toInt → F 0 (F 7 r.toInt.toNat).toInt.toNat = F 0 (M 6).toInt.toNat → Q r M F) (hE : Q (M 12 + 1 - 1) (um M 12 (M 12 + 1)) (uf (uf (uf (uf F 7 (M 12) (M 6)) 8 (M 12) a1) 9 (M 12) (-1)) 11 (M 12) (-1))) : ∀ (n : Nat) (a2 : Int32), 0 ≤ a2.toInt → a2.toInt ≤ (M 12).toInt → (M 12).toInt - a2.toInt < n → w_name_12 Q n a1 a2 M F := by
  have l1 : (1 : Int32).toInt = 1 := by decide
  intro n
  induction n with
  | zero => intro a2 q0 q1 q3; exact absurd q3 (by omega)
  | succ n ih =>
    intro a2 q0 q1 q3
    have hv : vp_in (M 12) 2100 := vp_in_iff.mpr (by omega)
    refine ⟨fun _ => ⟨hv, hv, hv, hv, hE⟩, fun h => ⟨vp_in_iff.mpr (by have := ti_nle h; omega), fun h9 => ?_, fun _ => ?_⟩⟩
    · have h8 := ti_nle h
      have e2 := ti_addx a2 1 (by omega)
      have hr := hR a2.toInt.toNat (by omega)
      have h7 : F 8 a2.toInt.toNat = a1 := h9
      rw [h7] at hr
      exact ⟨5000, p_name_35 q0 (by omega) (ih (a2 + 1) (by omega) (by omega) (by omega)) (fun h6 => hO a2 q0 h8 h6) ⟨hr.1, hr.2.2⟩ h1 hs he 5000 0 (by decide) (by have := e_z0; omega) (fun q => absurd q (by decide)) (by have := e_z0; omega)⟩
    · have h8 := ti_nle h
      have e2 := ti_addx a2 1 (by omega)
      exact ih (a2 + 1) (by omega) (by omega) (by omega)
theorem e_upd_ne {f : Nat → Int32} {k j : Nat} {x : Int32} (h : j ≠ k) : upd f k x j = f j := if_neg h
theorem e_upd_eq {f : Nat → Int32} {k : Nat} {x : Int32} : upd f k x k = x := if_pos rfl
theorem e_uf_ne {F : e_F} {k : Nat} {i v : Int32} {r : Nat} (h : r ≠ k) : uf F k i v r = F r := by rw [uf_at, if_neg h]
theorem e_uf_eq {F : e_F} {k : Nat} {i v : Int32} : uf F k i v k = upd (F k) i.toInt.toNat v := by rw [uf_at, if_pos rfl]; rfl
theorem e_um_ne {M : e_M} {k : Nat} {v : Int32} {r : Nat} (h : r ≠ k) : um M k v r = M r := by rw [um_at, if_neg h]
theorem e_um_eq {M : e_M} {k : Nat} {v : Int32} : um M k v k = v := by rw [um_at, if_pos rfl]
/-- name(): an old one, or a new one -/
theorem p_name {Q : Int32 → e_M → e_F → Prop} {M : e_M} {F : e_F} (hN : 0 ≤ (M 12).toInt ∧ (M 12).toInt < 2100) (hR : e_NR M F) (hs : 0 ≤ (M 6).toInt) (hn : (M 6).toInt < (M 3).toInt) (he : (M 3).toInt ≤ 4000) (hQ : ∀ (r : Int32) (M' : e_M) (F' : e_F), (∀ k, k ≠ 12 → M' k = M k) → e_NX M F M' F' → 0 ≤ r.toInt → r.toInt < (M' 12).toInt → F' 0 (F' 7 r.toInt.toNat).toInt.toNat = F 0 (M 6).toInt.toNat → Q r M' F') : w_name M F Q := by
  have l1 : (1 : Int32).toInt = 1 := by decide
  have e := ti_subx (M 3) (M 6) (by omega)
  have ea := ti_addx (M 12) 1 (by omega)
  have es := ti_subx (M 12 + 1) 1 (by omega)
  have hx : (M 12 + 1 - 1).toInt = (M 12).toInt := by omega
  refine ⟨5000, p_name_12 hN hR (by omega) hs (by omega) (fun r q0 q1 q2 => hQ r M F (fun _ _ => rfl) (e_NX_rf rfl) q0 q1 q2) (hQ _ _ _ (fun k hk => e_um_ne hk) ⟨?_, ?_, ?_, ?_, ?_⟩ ?_ ?_ ?_) 5000 0 (by decide) (by have := e_z0; omega) (by have := e_z0; omega)⟩
  · show (M 12).toInt ≤ (M 12 + 1).toInt; omega
  · show (M 12 + 1).toInt ≤ (M 12).toInt + 1; omega
  · intro r h7 h8 h9 h11
    rw [e_uf_ne h11, e_uf_ne h9, e_uf_ne h8, e_uf_ne h7]
  · intro w hw
    have hne : w ≠ (M 12).toInt.toNat := by omega
    exact ⟨e_upd_ne hne, e_upd_ne hne, e_upd_ne hne, e_upd_ne hne⟩
  · intro w h1 h2
    have h3 : (w : Int) < (M 12 + 1).toInt := h2
    have hw : w = (M 12).toInt.toNat := by omega
    subst hw
    refine ⟨e_upd_eq, ?_, e_upd_eq, e_upd_eq⟩
    have e9 : (uf (uf (uf (uf F 7 (M 12) (M 6)) 8 (M 12) (M 3 - M 6)) 9 (M 12) (-1)) 11 (M 12) (-1)) 8 (M 12).toInt.toNat = M 3 - M 6 := e_upd_eq
    rw [e9]
    show (M 3 - M 6).toInt = (M 3).toInt - (M 6).toInt
    exact e
  · omega
  · show (M 12 + 1 - 1).toInt < (M 12 + 1).toInt; omega
  · have e9 : (uf (uf (uf (uf F 7 (M 12) (M 6)) 8 (M 12) (M 3 - M 6)) 9 (M 12) (-1)) 11 (M 12) (-1)) 7 (M 12).toInt.toNat = M 6 := e_upd_eq
    rw [hx, e9]
    rfl
