/-! THE REFERENCE'S READER, its pure part: the lexer. -/
abbrev e_M : Type := Nat → Int32
abbrev e_F : Type := Nat → Nat → Int32
theorem e_tc (x : Int32) : x.toNatClampNeg = x.toInt.toNat := rfl
theorem e_m1 : (-1 : Int32).toInt = -1 := by decide
def e_ofW (c : Int32) : Prop := (97 ≤ c.toInt ∧ c.toInt ≤ 122) ∨ (65 ≤ c.toInt ∧ c.toInt ≤ 90) ∨ (48 ≤ c.toInt ∧ c.toInt ≤ 57)
theorem p_isSmall {c : Int32} {M : e_M} {F : e_F} {Q : Int32 → e_M → e_F → Prop} (h0 : ¬ (97 ≤ c.toInt ∧ c.toInt ≤ 122) → Q 0 M F) (h1 : 97 ≤ c.toInt ∧ c.toInt ≤ 122 → Q 1 M F) : w_isSmall c M F Q := by
  have l1 : (97 : Int32).toInt = 97 := by decide
  have l2 : (122 : Int32).toInt = 122 := by decide
  refine ⟨fun h => h0 ?_, fun h => ⟨fun h2 => h0 ?_, fun h2 => h1 ?_⟩⟩
  · have := Int32.lt_iff_toInt_lt.mp h; omega
  · have := Int32.lt_iff_toInt_lt.mp h2; omega
  · have := ti_nlt h; have := ti_nlt h2; omega
theorem p_isGreat {c : Int32} {M : e_M} {F : e_F} {Q : Int32 → e_M → e_F → Prop} (h0 : ¬ (65 ≤ c.toInt ∧ c.toInt ≤ 90) → Q 0 M F) (h1 : 65 ≤ c.toInt ∧ c.toInt ≤ 90 → Q 1 M F) : w_isGreat c M F Q := by
  have l1 : (65 : Int32).toInt = 65 := by decide
  have l2 : (90 : Int32).toInt = 90 := by decide
  refine ⟨fun h => h0 ?_, fun h => ⟨fun h2 => h0 ?_, fun h2 => h1 ?_⟩⟩
  · have := Int32.lt_iff_toInt_lt.mp h; omega
  · have := Int32.lt_iff_toInt_lt.mp h2; omega
  · have := ti_nlt h; have := ti_nlt h2; omega
theorem p_isDigit {c : Int32} {M : e_M} {F : e_F} {Q : Int32 → e_M → e_F → Prop} (h0 : ¬ (48 ≤ c.toInt ∧ c.toInt ≤ 57) → Q 0 M F) (h1 : 48 ≤ c.toInt ∧ c.toInt ≤ 57 → Q 1 M F) : w_isDigit c M F Q := by
  have l1 : (48 : Int32).toInt = 48 := by decide
  have l2 : (57 : Int32).toInt = 57 := by decide
  refine ⟨fun h => h0 ?_, fun h => ⟨fun h2 => h0 ?_, fun h2 => h1 ?_⟩⟩
  · have := Int32.lt_iff_toInt_lt.mp h; omega
  · have := Int32.lt_iff_toInt_lt.mp h2; omega
  · have := ti_nlt h; have := ti_nlt h2; omega
theorem p_isOfWord {c : Int32} {M : e_M} {F : e_F} {Q : Int32 → e_M → e_F → Prop} (h0 : ¬ e_ofW c → Q 0 M F) (h1 : e_ofW c → Q 1 M F) : w_isOfWord c M F Q := by
  have z0 : ¬ (1 : Int32) = 0 := by decide
  refine p_isSmall (fun h => ⟨fun q => absurd rfl q, fun _ => ?_⟩) (fun h => ⟨fun _ => h1 (Or.inl h), fun q => absurd q z0⟩)
  refine p_isGreat (fun h2 => ⟨fun q => absurd rfl q, fun _ => ?_⟩) (fun h => ⟨fun _ => h1 (Or.inr (Or.inl h)), fun q => absurd q z0⟩)
  refine p_isDigit (fun h3 => ⟨fun _ => h0 ?_, fun q => absurd rfl q⟩) (fun h => ⟨fun q => absurd q z0, fun _ => h1 (Or.inr (Or.inr h))⟩)
  rintro (q | q | q)
  · exact h q
  · exact h2 q
  · exact h3 q
theorem p_byteAt {p : Int32} {M : e_M} {F : e_F} {Q : Int32 → e_M → e_F → Prop} (hp : 0 ≤ p.toInt) (hl : (M 2).toInt ≤ 4000) (h0 : (M 2).toInt ≤ p.toInt → Q 0 M F) (h1 : p.toInt < (M 2).toInt → Q (F 0 p.toInt.toNat) M F) : w_byteAt p M F Q := by
  refine ⟨fun h => h0 (Int32.le_iff_toInt_le.mp h), fun h => ⟨vp_in_iff.mpr ?_, h1 (ti_nle h)⟩⟩
  have := ti_nle h
  omega
/-- a list of words in a row: where each begins, how long it is -/
def e_wT (si cnt : Nat) (off wl : List Nat) : Prop := (∀ j, j < cnt → ∀ i, i < 10 → i < wl.getD j 0 → (s_byt.getD si []).getD (off.getD j 0 + i) 0 ≠ 32) ∧ (∀ j, j < cnt → (s_byt.getD si []).getD (off.getD j 0 + wl.getD j 0) 0 = 32 ∧ off.getD j 0 + wl.getD j 0 + 1 = off.getD (j + 1) 0 ∧ off.getD j 0 + wl.getD j 0 < s_len.getD si 0 ∧ wl.getD j 0 < 10) ∧ off.getD 0 0 = 1 ∧ off.getD cnt 0 = s_len.getD si 0 ∧ s_len.getD si 0 < 200 ∧ cnt < 30
def e_o2 : List Nat := [1, 9, 13, 18, 23, 29, 37, 43, 48, 51, 56, 61, 66, 71, 74, 79, 85, 89, 96, 103, 110, 115, 122, 127, 134, 137, 142]
def e_w2 : List Nat := [7, 3, 4, 4, 5, 7, 5, 4, 2, 4, 4, 4, 4, 2, 4, 5, 3, 6, 6, 6, 4, 6, 4, 6, 2, 4]
def e_o3 : List Nat := [1, 5, 10, 15, 21, 27, 32, 38]
def e_w3 : List Nat := [3, 4, 4, 5, 5, 4, 5]
theorem e_wT2 : e_wT 2 26 e_o2 e_w2 := ⟨by decide +kernel, by decide +kernel, by decide, by decide, by decide, by decide⟩
theorem e_wT3 : e_wT 3 7 e_o3 e_w3 := ⟨by decide +kernel, by decide +kernel, by decide, by decide, by decide, by decide⟩
theorem p_among_99 {si cnt : Nat} {off wl : List Nat} (hT : e_wT si cnt off wl) {K : Nat → Int32 → Int32 → Int32 → e_M → e_F → Prop} {Q : Int32 → e_M → e_F → Prop} {a2 a3 : Int32} {M : e_M} {F : e_F} {j : Nat} (hj : j < cnt) (hK : ∀ x : Int32, x.toInt = (off.getD (j + 1) 0 : Nat) → K si a2 (a3 + 1) x M F) : ∀ (n : Nat) (a4 : Int32), off.getD j 0 ≤ a4.toInt → a4.toInt ≤ (off.getD j 0 + wl.getD j 0 : Nat) → ((off.getD j 0 + wl.getD j 0 : Nat) : Int) - a4.toInt < n → w_among_99 K Q n si a2 a3 a4 M F := by
  obtain ⟨hA, hB, h0, h1, h2, h3⟩ := hT
  obtain ⟨b1, b2, b3, b4⟩ := hB j hj
  intro n
  induction n with
  | zero => intro a4 h4 h5 h6; exact absurd h6 (by omega)
  | succ n ih =>
    intro a4 h4 h5 h6
    have l1 : (1 : Int32).toInt = 1 := by decide
    have e4 := ti_addx a4 1 (by omega)
    refine ⟨vp_in_iff.mpr (by omega), fun h => hK _ ?_, fun h => ih (a4 + 1) (by omega) ?_ (by omega)⟩
    · by_cases q : a4.toInt = (off.getD j 0 + wl.getD j 0 : Nat)
      · omega
      · exfalso
        refine hA j hj (a4.toInt.toNat - off.getD j 0) (by omega) (by omega) ?_
        have e : off.getD j 0 + (a4.toInt.toNat - off.getD j 0) = a4.toInt.toNat := by omega
        rw [e]; exact h
    · by_cases q : a4.toInt = (off.getD j 0 + wl.getD j 0 : Nat)
      · exfalso
        apply h
        show (s_byt.getD si []).getD a4.toInt.toNat 0 = 32
        rw [q]; exact b1
      · omega
theorem p_among_27 {si cnt : Nat} {off wl : List Nat} (hT : e_wT si cnt off wl) {K : Nat → Int32 → Int32 → Int32 → e_M → e_F → Prop} {Q : Int32 → e_M → e_F → Prop} {a2 a3 a4 : Int32} {M : e_M} {F : e_F} {j : Nat} (hj : j < cnt) (hs : 0 ≤ (M 6).toInt) (hn : 0 ≤ a2.toInt) (he : (M 6).toInt + a2.toInt ≤ 4000) (h4 : a4.toInt = (off.getD j 0 : Nat)) (hK : ∀ x : Int32, x.toInt = (off.getD (j + 1) 0 : Nat) → K si a2 (a3 + 1) x M F) (hQ : a2.toInt = (wl.getD j 0 : Nat) → Q a3 M F) : ∀ (n : Nat) (a5 : Int32), 0 ≤ a5.toInt → a5.toInt ≤ a2.toInt → a5.toInt ≤ (wl.getD j 0 : Nat) → a2.toInt - a5.toInt < n → w_among_27 K Q n si a2 a3 a4 a5 M F := by
  have hT' := hT
  obtain ⟨hA, hB, h0, h1, h2, h3⟩ := hT
  obtain ⟨b1, b2, b3, b4⟩ := hB j hj
  have l1 : (1 : Int32).toInt = 1 := by decide
  have h77 : ∀ a5 : Int32, 0 ≤ a5.toInt → a5.toInt ≤ (wl.getD j 0 : Nat) → w_among_77 K Q si a2 a3 a4 a5 M F := by
    intro a5 q0 q1
    have e5 := ti_addx a4 a5 (by omega)
    have hx : ∃ e99, w_among_99 K Q e99 si a2 a3 a4 M F := ⟨30, p_among_99 hT' hj hK 30 a4 (by omega) (by omega) (by omega)⟩
    refine ⟨fun _ => hx, fun h => ⟨vp_in_iff.mpr (by omega), fun _ => hx, fun h9 => hQ ?_⟩⟩
    rw [← h]
    by_cases q : a5.toInt = (wl.getD j 0 : Nat)
    · exact q
    · exfalso
      refine hA j hj a5.toInt.toNat (by omega) (by omega) ?_
      have e : off.getD j 0 + a5.toInt.toNat = (a4 + a5).toInt.toNat := by omega
      rw [e]; exact h9
  intro n
  induction n with
  | zero => intro a5 q0 q1 q2 q3; exact absurd q3 (by omega)
  | succ n ih =>
    intro a5 q0 q1 q2 q3
    have e5 := ti_addx a4 a5 (by omega)
    refine ⟨fun _ => h77 a5 q0 q2, fun h => ⟨vp_in_iff.mpr (by omega), fun _ => h77 a5 q0 q2, fun h8 => ⟨vp_in_iff.mpr (by omega), vp_in_iff.mpr ?_, fun _ => h77 a5 q0 q2, fun _ => ?_⟩⟩⟩
    · have := ti_nle h
      have := ti_addx (M 6) a5 (by omega)
      omega
    · have h9 := ti_nle h
      have e6 := ti_addx a5 1 (by omega)
      refine ih (a5 + 1) (by omega) (by omega) ?_ (by omega)
      by_cases q : a5.toInt = (wl.getD j 0 : Nat)
      · exfalso
        apply h8
        show (s_byt.getD si []).getD (a4 + a5).toInt.toNat 0 = 32
        have e : (a4 + a5).toInt.toNat = off.getD j 0 + wl.getD j 0 := by omega
        rw [e]; exact b1
      · omega
theorem p_among_15 {si cnt : Nat} {off wl : List Nat} (hT : e_wT si cnt off wl) {Q : Int32 → e_M → e_F → Prop} {a2 : Int32} {M : e_M} {F : e_F} (hs : 0 ≤ (M 6).toInt) (hn : 0 ≤ a2.toInt) (he : (M 6).toInt + a2.toInt ≤ 4000) (h1 : Q (-1) M F) (hQ : ∀ (r : Int32) (j : Nat), r.toInt = j → j < cnt → a2.toInt = (wl.getD j 0 : Nat) → Q r M F) : ∀ (n : Nat) (a3 a4 : Int32) (j : Nat), j ≤ cnt → a3.toInt = j → a4.toInt = (off.getD j 0 : Nat) → cnt - j < n → w_among_15 Q n si a2 a3 a4 M F := by
  intro n
  induction n with
  | zero => intro a3 a4 j q0 q1 q2 q3; exact absurd q3 (by omega)
  | succ n ih =>
    intro a3 a4 j q0 q1 q2 q3
    have hT' := hT
    obtain ⟨hA, hB, h0, h1', h2, h3⟩ := hT'
    have l1 : (1 : Int32).toInt = 1 := by decide
    refine ⟨fun _ => h1, fun h => ?_⟩
    have h9 := ti_nle h
    rw [nI_toInt (by omega)] at h9
    have hj : j < cnt := by
      by_cases q : j = cnt
      · subst q; omega
      · omega
    have e3 := ti_addx a3 1 (by omega)
    refine ⟨5000, p_among_27 hT hj hs hn he q2 (fun x hx => ih (a3 + 1) x (j + 1) (by omega) (by omega) hx (by omega)) (fun hw => hQ a3 j q1 hj hw) 5000 0 (by decide) ?_ ?_ ?_⟩
    · show (0 : Int32).toInt ≤ _; have : (0 : Int32).toInt = 0 := by decide
      omega
    · have : (0 : Int32).toInt = 0 := by decide
      omega
    · have : (0 : Int32).toInt = 0 := by decide
      omega
theorem p_among {si cnt : Nat} {off wl : List Nat} (hT : e_wT si cnt off wl) {Q : Int32 → e_M → e_F → Prop} {M : e_M} {F : e_F} (hs : 0 ≤ (M 6).toInt) (hn : (M 6).toInt ≤ (M 3).toInt) (he : (M 3).toInt ≤ 4000) (h1 : Q (-1) M F) (hQ : ∀ (r : Int32) (j : Nat), r.toInt = j → j < cnt → (M 3).toInt - (M 6).toInt = (wl.getD j 0 : Nat) → Q r M F) : w_among si M F Q := by
  have e := ti_subx (M 3) (M 6) (by omega)
  refine ⟨cnt + 1, p_among_15 hT hs (by omega) (by omega) h1 (fun r j a b c => hQ r j a b (by omega)) (cnt + 1) 0 1 0 (by omega) (by decide) ?_ (by omega)⟩
  have := hT.2.2.1
  have l1 : (1 : Int32).toInt = 1 := by decide
  omega
