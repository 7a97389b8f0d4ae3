/-! THE REFERENCE'S TRIAL, its pure part: what changes, what stands. -/
def e_hc (ks rs : List Nat) (M : e_M) (F : e_F) (M' : e_M) (F' : e_F) : Prop := (∀ k, k ∉ ks → M' k = M k) ∧ ∀ r, r ∉ rs → F' r = F r
theorem e_hc_rf (ks rs : List Nat) (M : e_M) (F : e_F) : e_hc ks rs M F M F := ⟨fun _ _ => rfl, fun _ _ => rfl⟩
theorem e_hc_um {ks rs : List Nat} {M M' : e_M} {F F' : e_F} {k : Nat} (v : Int32) (h : k ∈ ks) (c : e_hc ks rs M F M' F') : e_hc ks rs M F (um M' k v) F' := ⟨fun j hj => (e_um_ne (fun q => hj (by rw [q]; exact h))).trans (c.1 j hj), c.2⟩
theorem e_hc_uf {ks rs : List Nat} {M M' : e_M} {F F' : e_F} {k : Nat} (i v : Int32) (h : k ∈ rs) (c : e_hc ks rs M F M' F') : e_hc ks rs M F M' (uf F' k i v) := ⟨c.1, fun j hj => (e_uf_ne (fun q => hj (by rw [q]; exact h))).trans (c.2 j hj)⟩
theorem e_hc_tr {ks rs ks' rs' ks2 rs2 : List Nat} {M M1 M2 : e_M} {F F1 F2 : e_F} (a : e_hc ks rs M F M1 F1) (b : e_hc ks' rs' M1 F1 M2 F2) (h1 : ∀ k, k ∈ ks → k ∈ ks2) (h1' : ∀ k, k ∈ ks' → k ∈ ks2) (h2 : ∀ r, r ∈ rs → r ∈ rs2) (h2' : ∀ r, r ∈ rs' → r ∈ rs2) : e_hc ks2 rs2 M F M2 F2 := ⟨fun k hk => (b.1 k (fun q => hk (h1' k q))).trans (a.1 k (fun q => hk (h1 k q))), fun k hk => (b.2 k (fun q => hk (h2' k q))).trans (a.2 k (fun q => hk (h2 k q)))⟩
def e_XR (M : e_M) (F : e_F) (M' : e_M) (F' : e_F) : Prop := (∀ k, k < 48 → M' k = M k) ∧ ∀ r, r < 46 → F' r = F r
theorem e_XR_rf (M : e_M) (F : e_F) : e_XR M F M F := ⟨fun _ _ => rfl, fun _ _ => rfl⟩
theorem e_XR_of {ks rs : List Nat} {M M' : e_M} {F F' : e_F} (c : e_hc ks rs M F M' F') (hk : ∀ k, k ∈ ks → 48 ≤ k) (hr : ∀ r, r ∈ rs → 46 ≤ r) : e_XR M F M' F' := ⟨fun k h => c.1 k (fun q => absurd (hk k q) (by omega)), fun r h => c.2 r (fun q => absurd (hr r q) (by omega))⟩
theorem e_XR_tr {M M1 M2 : e_M} {F F1 F2 : e_F} (a : e_XR M F M1 F1) (b : e_XR M1 F1 M2 F2) : e_XR M F M2 F2 := ⟨fun k h => (b.1 k h).trans (a.1 k h), fun k h => (b.2 k h).trans (a.2 k h)⟩
theorem e_SC_xr {G : e_G} {B N E T V : Int} {M M' : e_M} {F F' : e_F} (x : e_XR M F M' F') (h : e_SC G B N E T V F) : e_SC G B N E T V F' := by
  refine e_SC_cg (fun j _ _ => ?_) (fun j _ _ => ?_) h
  · rw [x.2 13 (by decide), x.2 14 (by decide), x.2 15 (by decide), x.2 16 (by decide)]
    exact ⟨rfl, rfl, rfl, rfl⟩
  · rw [x.2 18 (by decide), x.2 20 (by decide), x.2 21 (by decide), x.2 22 (by decide), x.2 24 (by decide), x.2 25 (by decide), x.2 26 (by decide)]
    exact ⟨rfl, ⟨rfl, rfl, rfl⟩, rfl, rfl, rfl⟩
theorem e_OB_hc {ks rs : List Nat} {M M' : e_M} {F F' : e_F} (c : e_hc ks rs M F M' F') (hk : ∀ k, k ∈ [54, 80, 83, 73] → k ∉ ks) (hr : ∀ r, r ∈ [48, 52, 58, 65, 66, 85, 86, 87] → r ∉ rs) (h : e_OB M F) : e_OB M' F' := by
  unfold e_OB at h ⊢
  rw [c.1 54 (hk 54 (by decide)), c.1 80 (hk 80 (by decide)), c.1 83 (hk 83 (by decide)), c.1 73 (hk 73 (by decide)), c.2 48 (hr 48 (by decide)), c.2 52 (hr 52 (by decide)), c.2 58 (hr 58 (by decide)), c.2 65 (hr 65 (by decide)), c.2 66 (hr 66 (by decide)), c.2 85 (hr 85 (by decide)), c.2 86 (hr 86 (by decide)), c.2 87 (hr 87 (by decide))]
  exact h
theorem e_OB_58 {M : e_M} {F : e_F} {i v : Int32} (h : e_OB M F) (hv : 0 ≤ v.toInt ∧ v.toInt ≤ (M 54).toInt) : e_OB M (uf F 58 i v) := by
  obtain ⟨a, b, c, d⟩ := h
  refine ⟨a, b, fun j hj => ?_, d⟩
  by_cases q : j = i.toNatClampNeg
  · have e : (uf F 58 i v) 58 j = v := by rw [q]; exact e_upd_eq
    rw [e]; exact hv
  · have e : (uf F 58 i v) 58 j = F 58 j := e_upd_ne q
    rw [e]; exact c j hj
theorem e_OB_66 {M : e_M} {F : e_F} {t p v : Int32} (h : e_OB M F) (hv : p = 1 → 1 ≤ v.toInt ∧ v.toInt ≤ (M 54).toInt) : e_OB M (uf (uf F 65 t p) 66 t v) := by
  obtain ⟨a, b, c, d, e⟩ := h
  refine ⟨a, b, c, fun j hj h1 => ?_, e⟩
  by_cases q : j = t.toNatClampNeg
  · have e1 : (uf (uf F 65 t p) 66 t v) 65 j = p := by rw [q]; exact e_upd_eq
    have e2 : (uf (uf F 65 t p) 66 t v) 66 j = v := by rw [q]; exact e_upd_eq
    rw [e1] at h1
    rw [e2]; exact hv h1
  · have e1 : (uf (uf F 65 t p) 66 t v) 65 j = F 65 j := e_upd_ne q
    have e2 : (uf (uf F 65 t p) 66 t v) 66 j = F 66 j := e_upd_ne q
    rw [e1] at h1
    rw [e2]; exact d j hj h1
theorem e_OB_73 {M : e_M} {F : e_F} {v : Int32} (h : e_OB M F) (hv : 0 ≤ v.toInt ∧ v.toInt ≤ (M 54).toInt) : e_OB (um M 73 v) F := by
  obtain ⟨a, b, c, d, e, f, g, i, j⟩ := h
  exact ⟨a, b, c, d, e, f, g, i, hv⟩
theorem e_OB_52 {M : e_M} {F : e_F} {i v x : Int32} (h : e_OB M F) (hv : 0 ≤ v.toInt ∧ v.toInt ≤ (M 54).toInt) : e_OB M (uf (uf F 52 i v) 53 i x) := by
  obtain ⟨a, b, c⟩ := h
  refine ⟨a, fun o h1 h2 => ?_, c⟩
  obtain ⟨b1, b2⟩ := b o h1 h2
  refine ⟨b1, ?_⟩
  by_cases q : o = i.toNatClampNeg
  · have e : (uf (uf F 52 i v) 53 i x) 52 o = v := by rw [q]; exact e_upd_eq
    rw [e]; exact hv
  · have e : (uf (uf F 52 i v) 53 i x) 52 o = F 52 o := e_upd_ne q
    rw [e]; exact b2
/-- how far a kind is from the top -/
def e_rk (k : Int) : Nat := if k = -1 then 0 else if k = 0 then 1 else if k = 1 ∨ k = 4 then 2 else 3
theorem p_above {k : Int32} {M : e_M} {F : e_F} {Q : Int32 → e_M → e_F → Prop} (hk : 0 ≤ k.toInt ∧ k.toInt ≤ 6) (hQ : ∀ r : Int32, -1 ≤ r.toInt ∧ r.toInt ≤ 6 → e_rk r.toInt < e_rk k.toInt → Q r M F) : w_above k M F Q := by
  refine ⟨fun h0 => ⟨fun h => hQ 1 (by decide) (by rw [h]; decide), fun h2 => ⟨fun h3 => ⟨fun h => hQ 4 (by decide) (by rw [h]; decide), fun h5 => ⟨fun h6 => hQ 0 (by decide) ?_, fun h => hQ 4 (by decide) (by rw [h]; decide)⟩⟩, fun h => hQ 1 (by decide) (by rw [h]; decide)⟩⟩, fun h => hQ (-1) (by decide) (by rw [h]; decide)⟩
  have a0 : k.toInt ≠ 0 := ti_ne h0
  have a2 : k.toInt ≠ 2 := ti_ne h2
  have a3 : k.toInt ≠ 3 := ti_ne h3
  have a5 : k.toInt ≠ 5 := ti_ne h5
  have a6 : k.toInt ≠ 6 := ti_ne h6
  have : k.toInt = 1 ∨ k.toInt = 4 := by omega
  rcases this with q | q <;> rw [q] <;> decide
theorem p_isKind {k o : Int32} {M : e_M} {F : e_F} {Q : Int32 → e_M → e_F → Prop} (hk : -1 ≤ k.toInt ∧ k.toInt ≤ 6) (hQ : ∀ r : Int32, Q r M F) : w_isKind k o M F Q := by
  have key : ∀ (n : Nat) (k : Int32), -1 ≤ k.toInt ∧ k.toInt ≤ 6 → e_rk k.toInt < n → w_isKind_2 Q n o k M F := by
    intro n
    induction n with
    | zero => intro k _ h; exact absurd h (by omega)
    | succ n ih =>
      intro k hk hn
      have h20 : w_isKind_20 Q o k M F := ⟨fun _ => hQ _, fun _ => hQ _⟩
      refine ⟨fun _ => h20, fun h1 => ⟨fun _ => h20, fun _ => ?_⟩⟩
      have h1' : k.toInt ≠ -1 := ti_ne h1
      exact p_above (by omega) (fun r h2 h3 => ih r h2 (by omega))
  exact ⟨e_rk k.toInt + 1, key _ k hk (by omega)⟩
theorem p_weight {o : Int32} {M : e_M} {F : e_F} {Q : Int32 → e_M → e_F → Prop} (hO : e_OB M F) (ho : 1 ≤ o.toInt ∧ o.toInt ≤ (M 54).toInt) (hQ : ∀ r : Int32, Q r M F) : w_weight o M F Q := by
  have ha := hO.1
  have hv : vp_in o 8001 := vp_in_iff.mpr (by omega)
  obtain ⟨-, b1, b2⟩ := hO.2.1 o.toInt.toNat (by omega) (by omega)
  have hv2 : vp_in (F 52 o.toNatClampNeg) 8001 := vp_in_iff.mpr (show 0 ≤ (F 52 o.toInt.toNat).toInt ∧ (F 52 o.toInt.toNat).toInt < (8001 : Nat) from by omega)
  exact ⟨hv, hv, fun _ => hQ _, fun _ => hQ _, fun _ => ⟨hv, fun v _ => hQ _⟩, fun _ => hQ _, fun _ => hQ _, fun _ => hQ _, fun _ _ _ _ _ _ => ⟨hv, fun _ => hQ _, fun _ => ⟨hv, hv2, fun _ _ => hQ _⟩⟩⟩
theorem e_cause {o : Int32} {M : e_M} {F : e_F} (hO : e_OB M F) (ho : 1 ≤ o.toInt ∧ o.toInt ≤ (M 54).toInt) : 0 ≤ (F 52 o.toNatClampNeg).toInt ∧ (F 52 o.toNatClampNeg).toInt ≤ (M 54).toInt := by
  have := hO.2.1 o.toInt.toNat (by omega) (by omega)
  exact this.2
theorem p_many {o : Int32} {M : e_M} {F : e_F} {Q : Int32 → e_M → e_F → Prop} (hO : e_OB M F) (ho : 0 ≤ o.toInt ∧ o.toInt ≤ (M 54).toInt) (hQ : ∀ r : Int32, Q r M F) : w_many o M F Q := by
  have ha := hO.1
  have l1 : (1 : Int32).toInt = 1 := by decide
  have l5 : (50 : Int32).toInt = 50 := by decide
  have key : ∀ (n : Nat) (a o : Int32), (0 ≤ a.toInt ∧ a.toInt ≤ 50) → (0 ≤ o.toInt ∧ o.toInt ≤ (M 54).toInt) → 50 - a.toInt < n → w_many_4 Q n a o M F := by
    intro n
    induction n with
    | zero => intro a o h1 _ h; exact absurd h (by omega)
    | succ n ih =>
      intro a o h1 h2 hn
      refine ⟨fun _ => hQ _, fun h => ⟨fun _ => hQ _, fun h5 => ⟨vp_in_iff.mpr (by omega), ?_⟩⟩⟩
      have h' := ti_nle h
      have h5' := ti_nle h5
      rw [e_z0] at h'
      have e := ti_addx a 1 (by omega)
      exact ih (a + 1) _ (by omega) (e_cause hO (by omega)) (by omega)
  exact ⟨51, key 51 0 o (by decide) ho (by decide)⟩
theorem p_makesOne {p1 p2 p3 p4 p5 p6 : Int32} {M : e_M} {F : e_F} {Q : Int32 → e_M → e_F → Prop} (hO : e_OB M F) (h8 : (M 54).toInt < 8000) (hk : 0 ≤ p1.toInt ∧ p1.toInt ≤ 6) (hc : 0 ≤ p5.toInt ∧ p5.toInt ≤ (M 54).toInt) (hQ : ∀ (M' : e_M) (F' : e_F), e_hc [54] [48, 49, 50, 51, 52, 53] M F M' F' → e_OB M' F' → (M' 54).toInt = (M 54).toInt + 1 → (M' 54) = M 54 + 1 → Q (M 54 + 1) M' F') : w_makesOne p1 p2 p3 p4 p5 p6 M F Q := by
  have l1 : (1 : Int32).toInt = 1 := by decide
  obtain ⟨a, b, c, d, e, f, g, i, j⟩ := hO
  have e1 := ti_addx (M 54) 1 (by omega)
  rw [l1] at e1
  have hv : vp_in (M 54 + 1) 8001 := vp_in_iff.mpr (by omega)
  have ei : (M 54 + 1).toNatClampNeg = ((M 54).toInt + 1).toNat := by rw [e_tc, e1]
  refine ⟨hv, hv, hv, hv, hv, hv, hQ _ _ ?_ ?_ e1 rfl⟩
  · exact e_hc_uf _ _ (by decide) (e_hc_uf _ _ (by decide) (e_hc_uf _ _ (by decide) (e_hc_uf _ _ (by decide) (e_hc_uf _ _ (by decide) (e_hc_uf _ _ (by decide) (e_hc_um _ (by decide) (e_hc_rf _ _ M F)))))))
  · refine ⟨(show 0 ≤ (M 54 + 1).toInt ∧ (M 54 + 1).toInt ≤ 8000 from by omega), fun o h1 h2 => ?_, fun k hk => ?_, fun k hk q => ?_, e, fun k hk => ?_, g, ?_, ?_⟩
    · have h2' : (o : Int) ≤ (M 54 + 1).toInt := h2
      show (0 ≤ (upd (F 48) (M 54 + 1).toNatClampNeg p1 o).toInt ∧ (upd (F 48) (M 54 + 1).toNatClampNeg p1 o).toInt ≤ 6) ∧ 0 ≤ (upd (F 52) (M 54 + 1).toNatClampNeg p5 o).toInt ∧ (upd (F 52) (M 54 + 1).toNatClampNeg p5 o).toInt ≤ (M 54 + 1).toInt
      by_cases q : o = (M 54 + 1).toNatClampNeg
      · rw [q, e_upd_eq, e_upd_eq]
        exact ⟨hk, hc.1, by omega⟩
      · rw [e_upd_ne q, e_upd_ne q]
        obtain ⟨b1, b2, b3⟩ := b o h1 (by rw [ei] at q; omega)
        exact ⟨b1, b2, by omega⟩
    · obtain ⟨c1, c2⟩ := c k hk
      exact ⟨c1, (show (F 58 k).toInt ≤ (M 54 + 1).toInt from by omega)⟩
    · obtain ⟨d1, d2⟩ := d k hk q
      exact ⟨d1, (show (F 66 k).toInt ≤ (M 54 + 1).toInt from by omega)⟩
    · obtain ⟨f1, f2⟩ := f k hk
      exact ⟨f1, (show (F 87 k).toInt ≤ (M 54 + 1).toInt from by omega)⟩
    · exact ⟨i.1, (show (M 83).toInt ≤ (M 54 + 1).toInt from by omega)⟩
    · exact ⟨j.1, (show (M 73).toInt ≤ (M 54 + 1).toInt from by omega)⟩
theorem p_makes {p1 p2 p3 p4 p5 p6 : Int32} {M : e_M} {F : e_F} {Q : Int32 → e_M → e_F → Prop} (hO : e_OB M F) (hk : 0 ≤ p1.toInt ∧ p1.toInt ≤ 6) (hc : 0 ≤ p5.toInt ∧ p5.toInt ≤ (M 54).toInt) (hQ : ∀ (r : Int32) (M' : e_M) (F' : e_F), e_hc [54, 55, 71] [48, 49, 50, 51, 52, 53] M F M' F' → e_OB M' F' → (M 54).toInt ≤ (M' 54).toInt → ((r = 0 ∧ M' 71 = 1) ∨ ((1 ≤ r.toInt ∧ r.toInt ≤ (M' 54).toInt) ∧ M' 71 = M 71)) → Q r M' F') : w_makes p1 p2 p3 p4 p5 p6 M F Q := by
  have l8 : (8000 : Int32).toInt = 8000 := by decide
  have h19 : w_makes_19 Q M F := hQ 0 (um M 71 1) F (e_hc_um _ (by decide) (e_hc_rf _ _ M F)) (e_OB_hc (e_hc_um (ks := [71]) (rs := []) 1 (by decide) (e_hc_rf _ _ M F)) (by decide) (by decide) hO) (Int.le_refl _) (Or.inl ⟨rfl, rfl⟩)
  refine ⟨fun _ => h19, fun _ => ⟨fun h8 => ?_, fun _ => h19⟩⟩
  have h8' := ti_ne h8
  have ha := hO.1
  have hO1 : e_OB (um M 55 (M 55 + 1)) F := e_OB_hc (e_hc_um (ks := [55]) (rs := []) (M 55 + 1) (by decide) (e_hc_rf _ _ M F)) (by decide) (by decide) hO
  refine p_makesOne hO1 (show (M 54).toInt < 8000 from by omega) hk hc (fun M' F' c o e e' => ?_)
  have e1 : (M' 54).toInt = (M 54).toInt + 1 := e
  have e2 : M' 54 = M 54 + 1 := e'
  refine hQ _ M' F' (e_hc_tr (e_hc_um (ks := [55]) (rs := []) (M 55 + 1) (by decide) (e_hc_rf _ _ M F)) c (by decide) (by decide) (by decide) (by decide)) o (by omega) (Or.inr ⟨(show 1 ≤ (M 54 + 1).toInt ∧ (M 54 + 1).toInt ≤ (M' 54).toInt from by rw [← e2]; omega), c.1 71 (by decide)⟩)
