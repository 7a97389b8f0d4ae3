/-! THE REFERENCE'S LEXER. -/
section LZ1
variable {M : Nat → Int32} {F : Nat → Nat → Int32} {T : Nat → Int32} {n : Nat}
def z_T (M : Nat → Int32) (F : Nat → Nat → Int32) (T : Nat → Int32) (n : Nat) : Prop := M 2 = nI n ∧ n ≤ 4000 ∧ ∀ i, i < n → F 0 i = T i
theorem z_byteAt (hc : z_T M F T n) {i : Nat} (hi : i < 2 ^ 31) {Q : Int32 → (Nat → Int32) → (Nat → Nat → Int32) → Prop} (hQ : Q (x_at T n i) M F) : w_byteAt (nI i) M F Q := by
  obtain ⟨h1, h2, h3⟩ := hc
  unfold w_byteAt
  rw [h1, y_le (by omega) hi]
  refine ⟨fun h => ?_, fun h => ⟨y_in (by omega) (by omega), ?_⟩⟩
  · rw [show x_at T n i = 0 from if_neg (by omega)] at hQ; exact hQ
  · rw [show x_at T n i = T i from if_pos (by omega)] at hQ
    rw [y_cl hi, h3 i (by omega)]; exact hQ
theorem z_isSmall {c : Int32} {Q : Int32 → (Nat → Int32) → (Nat → Nat → Int32) → Prop} (h1 : x_sm c = true → Q 1 M F) (h0 : ¬ x_sm c = true → Q 0 M F) : w_isSmall c M F Q := by
  rw [x_sm_iff] at h1 h0
  have e1 : (97 : Int32).toInt = 97 := by decide
  have e2 : (122 : Int32).toInt = 122 := by decide
  refine ⟨fun h => h0 ?_, fun a => ⟨fun h => h0 ?_, fun b => h1 ?_⟩⟩
  · have := Int32.lt_iff_toInt_lt.mp h; omega
  · have := Int32.lt_iff_toInt_lt.mp h; omega
  · have := ti_nlt a; have := ti_nlt b; omega
theorem z_isGreat {c : Int32} {Q : Int32 → (Nat → Int32) → (Nat → Nat → Int32) → Prop} (h1 : x_gr c = true → Q 1 M F) (h0 : ¬ x_gr c = true → Q 0 M F) : w_isGreat c M F Q := by
  rw [x_gr_iff] at h1 h0
  have e1 : (65 : Int32).toInt = 65 := by decide
  have e2 : (90 : Int32).toInt = 90 := by decide
  refine ⟨fun h => h0 ?_, fun a => ⟨fun h => h0 ?_, fun b => h1 ?_⟩⟩
  · have := Int32.lt_iff_toInt_lt.mp h; omega
  · have := Int32.lt_iff_toInt_lt.mp h; omega
  · have := ti_nlt a; have := ti_nlt b; omega
theorem z_isDigit {c : Int32} {Q : Int32 → (Nat → Int32) → (Nat → Nat → Int32) → Prop} (h1 : x_dg c = true → Q 1 M F) (h0 : ¬ x_dg c = true → Q 0 M F) : w_isDigit c M F Q := by
  rw [x_dg_iff] at h1 h0
  have e1 : (48 : Int32).toInt = 48 := by decide
  have e2 : (57 : Int32).toInt = 57 := by decide
  refine ⟨fun h => h0 ?_, fun a => ⟨fun h => h0 ?_, fun b => h1 ?_⟩⟩
  · have := Int32.lt_iff_toInt_lt.mp h; omega
  · have := Int32.lt_iff_toInt_lt.mp h; omega
  · have := ti_nlt a; have := ti_nlt b; omega
theorem z_isOfWord {c : Int32} {Q : Int32 → (Nat → Int32) → (Nat → Nat → Int32) → Prop} (h1 : x_wd c = true → Q 1 M F) (h0 : ¬ x_wd c = true → Q 0 M F) : w_isOfWord c M F Q := by
  unfold w_isOfWord
  refine z_isSmall (fun a => ⟨fun _ => h1 (by unfold x_wd x_lt; rw [a]; rfl), fun q => absurd q (by decide)⟩) (fun a => ⟨fun q => absurd rfl q, fun _ => ?_⟩)
  refine z_isGreat (fun b => ⟨fun _ => h1 (by unfold x_wd x_lt; rw [b, Bool.or_true]; rfl), fun q => absurd q (by decide)⟩) (fun b => ⟨fun q => absurd rfl q, fun _ => ?_⟩)
  refine z_isDigit (fun d => ⟨fun q => absurd q (by decide), fun _ => h1 (by unfold x_wd; rw [d]; exact Bool.or_true _)⟩) (fun d => ⟨fun _ => h0 ?_, fun q => absurd rfl q⟩)
  unfold x_wd x_lt
  rw [Bool.eq_false_iff.mpr a, Bool.eq_false_iff.mpr b, Bool.eq_false_iff.mpr d]
  decide
/-- the reference's table of names -/
def z_tb (M : Nat → Int32) (F : Nat → Nat → Int32) (tb : List (Nat × Nat)) : Prop := M 12 = nI tb.length ∧ tb.length ≤ 2010 ∧ ∀ w, w < tb.length → F 7 w = nI (tb.getD w (0, 0)).1 ∧ F 8 w = nI (tb.getD w (0, 0)).2
/-- every word of the table lies in the text -/
def x_tn (tb : List (Nat × Nat)) (n : Nat) : Prop := ∀ w, w < tb.length → (tb.getD w (0, 0)).1 + (tb.getD w (0, 0)).2 ≤ n
def z_new (M : Nat → Int32) (m : Nat) : Nat → Int32 := um M 12 (nI (m + 1))
def z_newF (F : Nat → Nat → Int32) (m k l : Nat) : Nat → Nat → Int32 := uf (uf (uf (uf F 7 (nI m) (nI k)) 8 (nI m) (nI l)) 9 (nI m) (-1)) 11 (nI m) (-1)
theorem z_name (hc : z_T M F T n) {tb : List (Nat × Nat)} (ht : z_tb M F tb) (hn : x_tn tb n) {k e : Nat} (h6 : M 6 = nI k) (h3 : M 3 = nI e) (hke : k ≤ e) (hen : e ≤ n) {Q : Int32 → (Nat → Int32) → (Nat → Nat → Int32) → Prop} (h1 : ∀ w, w < tb.length → x_same T k (e - k) (tb.getD w (0, 0)) → (∀ w', w' < w → ¬ x_same T k (e - k) (tb.getD w' (0, 0))) → Q (nI w) M F) (h0 : (∀ w, w < tb.length → ¬ x_same T k (e - k) (tb.getD w (0, 0))) → tb.length ≤ 2005 ∧ Q (nI tb.length) (z_new M tb.length) (z_newF F tb.length k (e - k))) : w_name M F Q := by
  obtain ⟨t1, t2, t3⟩ := ht
  have c2 := hc.2.1
  have outer : ∀ (f w : Nat), w + f = tb.length → (∀ w', w' < w → ¬ x_same T k (e - k) (tb.getD w' (0, 0))) → w_name_12 Q (f + 1) (nI (e - k)) (nI w) M F := by
    intro f
    induction f with
    | zero =>
      intro w hw hno
      have hwl : w = tb.length := by omega
      subst hwl
      obtain ⟨g1, g2⟩ := h0 hno
      refine ⟨fun _ => ?_, fun h => absurd ?_ h⟩
      · rw [t1, y_1, h6]
        have e9 : nI (tb.length + 1) - 1 = nI tb.length := by
          have e1 : (1 : Int32) = nI 1 := by decide
          rw [e1, y_sub (by omega) (by omega)]; rfl
        rw [e9]
        have hv : vp_in (nI tb.length) 2100 := y_in (by omega) (by omega)
        exact ⟨hv, hv, hv, hv, g2⟩
      · rw [t1]; exact (y_le (by omega) (by omega)).mpr (Nat.le_refl _)
    | succ f ih =>
      intro w hw hno
      obtain ⟨b1, b2⟩ := t3 w (by omega)
      have hbn := hn w (by omega)
      have next : ¬ x_same T k (e - k) (tb.getD w (0, 0)) → w_name_12 Q (f + 1) (nI (e - k)) (nI w + 1) M F := fun hs => by
        rw [y_1]
        exact ih (w + 1) (by omega) (fun w' hw' => by
          by_cases q : w' = w
          · rw [q]; exact hs
          · exact hno w' (by omega))
      refine ⟨fun h => ?_, fun _ => ⟨y_in (by omega) (by omega), fun h => ?_, fun h => ?_⟩⟩
      · rw [t1, y_le (by omega) (by omega)] at h; omega
      · rw [y_cl (by omega), b2] at h
        have hl : (tb.getD w (0, 0)).2 = e - k := by
          have := congrArg Int32.toInt h
          rw [fs_nI (by omega), fs_nI (by omega)] at this
          omega
        have inner : ∀ (g i : Nat), i + g = e - k → (∀ j, j < i → T ((tb.getD w (0, 0)).1 + j) = T (k + j)) → w_name_35 (w_name_12 Q (f + 1)) Q (g + 1) (nI (e - k)) (nI w) (nI i) M F := by
          intro g
          induction g with
          | zero =>
            intro i hi hj
            have hie : i = e - k := by omega
            subst hie
            refine ⟨fun _ => ⟨fun q => absurd rfl q, fun _ => h1 w (by omega) ⟨hl, hj⟩ hno⟩, fun q => absurd ((y_le (by omega) (by omega)).mpr (Nat.le_refl _)) q⟩
          | succ g ih2 =>
            intro i hi hj
            refine ⟨fun q => ?_, fun _ => ?_⟩
            · rw [y_le (by omega) (by omega)] at q; omega
            rw [y_cl (by omega), b1, ni_add, h6, ni_add, y_cl (by omega), y_cl (by omega), hc.2.2 _ (by omega), hc.2.2 _ (by omega)]
            refine ⟨y_in (by omega) (by omega), y_in (by omega) (by omega), fun v hv => ⟨y_in (by omega) (by omega), fun q => ⟨fun _ => next (fun hs => ?_), fun q2 => ?_⟩, fun q => ?_⟩⟩
            · rw [hv] at q; exact q (hs.2 i (by omega))
            · have := congrArg Int32.toInt q2
              rw [fs_nI (by omega), fs_nI (by omega)] at this
              omega
            · rw [hv] at q
              rw [y_1]
              exact ih2 (i + 1) (by omega) (fun j hj' => by
                by_cases z : j = i
                · rw [z]; exact q
                · exact hj j (by omega))
        exact ⟨e - k + 1, inner (e - k) 0 (by omega) (fun j hj => by omega)⟩
      · rw [y_cl (by omega), b2] at h
        exact next (fun hs => h (by rw [hs.1]))
  unfold w_name
  rw [h3, h6, y_sub hke (by omega)]
  exact ⟨tb.length + 1, outer tb.length 0 (by omega) (fun w' hw' => by omega)⟩
end LZ1
