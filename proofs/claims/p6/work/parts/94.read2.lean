/-! WHAT HOLDS BETWEEN TWO CALLS of the reference. -/
def e_OB (M : e_M) (F : e_F) : Prop := (0 ≤ (M 54).toInt ∧ (M 54).toInt ≤ 8000) ∧ (∀ o : Nat, 1 ≤ o → (o : Int) ≤ (M 54).toInt → (0 ≤ (F 48 o).toInt ∧ (F 48 o).toInt ≤ 6) ∧ 0 ≤ (F 52 o).toInt ∧ (F 52 o).toInt ≤ (M 54).toInt) ∧ (∀ j : Nat, j < 96 → 0 ≤ (F 58 j).toInt ∧ (F 58 j).toInt ≤ (M 54).toInt) ∧ (∀ j : Nat, j < 260 → F 65 j = 1 → 1 ≤ (F 66 j).toInt ∧ (F 66 j).toInt ≤ (M 54).toInt) ∧ (∀ j : Nat, j < 21 → (0 ≤ (F 85 j).toInt ∧ (F 85 j).toInt ≤ 6) ∧ (F 85 j = 3 → 0 ≤ (F 86 j).toInt ∧ (F 86 j).toInt ≤ 6)) ∧ (∀ j : Nat, j < 3 → 0 ≤ (F 87 j).toInt ∧ (F 87 j).toInt ≤ (M 54).toInt) ∧ (0 ≤ (M 80).toInt ∧ (M 80).toInt ≤ 200) ∧ (0 ≤ (M 83).toInt ∧ (M 83).toInt ≤ (M 54).toInt) ∧ (0 ≤ (M 73).toInt ∧ (M 73).toInt ≤ (M 54).toInt)
theorem e_OB_cg {M M' : e_M} {F F' : e_F} (h1 : ∀ k, 47 < k → M' k = M k) (h2 : ∀ r, 45 < r → F' r = F r) (h : e_OB M F) : e_OB M' F' := by
  unfold e_OB at h ⊢
  rw [h1 54 (by decide), h1 80 (by decide), h1 83 (by decide), h1 73 (by decide), h2 48 (by decide), h2 52 (by decide), h2 58 (by decide), h2 65 (by decide), h2 66 (by decide), h2 85 (by decide), h2 86 (by decide), h2 87 (by decide)]
  exact h
def e_INV (M : e_M) (F : e_F) : Prop := (0 ≤ (M 1).toInt ∧ (M 1).toInt ≤ 4000) ∧ e_CODE (M 27).toInt (M 28).toInt F ∧ e_OB M F
theorem e_flip {a : Int32} (h : 0 ≤ a.toInt ∧ a.toInt ≤ 1) : (1 - a).toInt = 1 - a.toInt ∧ 1 - (1 - a) = a := by
  have l1 : (1 : Int32).toInt = 1 := by decide
  have e1 := ti_subx 1 a (by omega)
  rw [l1] at e1
  have e2 := ti_subx 1 (1 - a) (by omega)
  exact ⟨e1, Int32.toInt_inj.mp (by omega)⟩
theorem p_read2 {WB : e_M → e_F → (e_M → e_F → Prop) → Prop} {n : Nat} (hB : e_BK WB n) (hn : 21 ≤ n) {M0 M : e_M} {F : e_F} {Q : Int32 → e_M → e_F → Prop} (hV : e_INV M0 F) (h2 : 0 ≤ (M 2).toInt ∧ (M 2).toInt ≤ 4000) (h1 : M 1 = 0) (h27 : M 27 = 1 - M0 27) (h28 : M 28 = M0 28) (h29 : M 29 = 0) (h30 : M 30 = 0) (h31 : M 31 = 0) (h32 : M 32 = 0) (h33 : M 33 = 0) (h46 : M 46 = 0) (h12 : M 12 = 0) (h3 : M 3 = 0) (hk : ∀ k, 47 < k → M k = M0 k) (hQ : ∀ (r : Int32) (M' : e_M) (F' : e_F), e_INV M' F' → M' 1 = 0 → Q r M' F') : w_next M F (fun M1 F1 => (w_text WB M1 F1 (fun M2 F2 => (∃ e104, w_read_104 WB Q e104 0 M2 F2)))) := by
  have z0 : ¬ (1 : Int32) = 0 := by decide
  have l1 : (1 : Int32).toInt = 1 := by decide
  obtain ⟨v1, ⟨G0, E0, T0, V0, hC⟩, vO⟩ := hV
  have bb : 0 ≤ (M0 27).toInt ∧ (M0 27).toInt ≤ 1 := hC.1.1
  obtain ⟨fl1, fl2⟩ := e_flip bb
  have b27 : (M 27).toInt = 1 - (M0 27).toInt := by rw [h27]; exact fl1
  refine p_nextZ ⟨h2, ⟨(show 0 ≤ (0 : Int32).toInt from by decide), (show (0 : Int32).toInt ≤ (M 3).toInt from by rw [h3]; decide), (show (M 3).toInt ≤ (M 2).toInt from by rw [h3, e_z0]; exact h2.1)⟩, ⟨(show 0 ≤ (M 12).toInt from by rw [h12]; decide), Or.inl (show 2 * (M 12).toInt ≤ (M 3).toInt from by rw [h12, h3]; decide)⟩, fun w hw => absurd (show (w : Int) < (M 12).toInt from hw) (by rw [h12, e_z0]; omega)⟩ (fun M1 F1 hx hl ht => ?_)
  obtain ⟨x0, x1, x2, nx⟩ := hx
  have x0' : ∀ k, k ≠ 3 → k ≠ 4 → k ≠ 5 → k ≠ 6 → k ≠ 12 → M1 k = M k := fun k a b c d e => (x0 k a b c d e).trans (e_um_ne d)
  obtain ⟨y1, y2, y3, y4, y5⟩ := nx
  have tr1 : e_TR M F M1 F1 := by
    have e := y3
    refine ⟨⟨x0' 27 (by decide) (by decide) (by decide) (by decide) (by decide), x0' 2 (by decide) (by decide) (by decide) (by decide) (by decide), x0' 1 (by decide) (by decide) (by decide) (by decide) (by decide), x0' 28 (by decide) (by decide) (by decide) (by decide) (by decide), fun k hk => x0' k (by omega) (by omega) (by omega) (by omega) (by omega)⟩, fun j _ => ?_, fun j _ => ?_, e 0 (by decide) (by decide) (by decide) (by decide), fun r hr => e r (by omega) (by omega) (by omega) (by omega), fun j _ => congrFun (e 17 (by decide) (by decide) (by decide) (by decide)) j⟩
    · rw [e 13 (by decide) (by decide) (by decide) (by decide), e 14 (by decide) (by decide) (by decide) (by decide), e 15 (by decide) (by decide) (by decide) (by decide), e 16 (by decide) (by decide) (by decide) (by decide)]
      exact ⟨rfl, rfl, rfl, rfl⟩
    · rw [e 18 (by decide) (by decide) (by decide) (by decide), e 19 (by decide) (by decide) (by decide) (by decide), e 20 (by decide) (by decide) (by decide) (by decide), e 21 (by decide) (by decide) (by decide) (by decide), e 22 (by decide) (by decide) (by decide) (by decide), e 23 (by decide) (by decide) (by decide) (by decide), e 24 (by decide) (by decide) (by decide) (by decide), e 25 (by decide) (by decide) (by decide) (by decide), e 26 (by decide) (by decide) (by decide) (by decide)]
      exact ⟨⟨rfl, rfl⟩, ⟨rfl, rfl, rfl⟩, ⟨rfl, rfl, rfl, rfl⟩⟩
  have c27 : M1 27 = M 27 := tr1.1.1
  have c29 : M1 29 = 0 := (x0' 29 (by decide) (by decide) (by decide) (by decide) (by decide)).trans h29
  have c30 : M1 30 = 0 := (x0' 30 (by decide) (by decide) (by decide) (by decide) (by decide)).trans h30
  have c31 : M1 31 = 0 := (x0' 31 (by decide) (by decide) (by decide) (by decide) (by decide)).trans h31
  have c32 : M1 32 = 0 := (x0' 32 (by decide) (by decide) (by decide) (by decide) (by decide)).trans h32
  have c33 : M1 33 = 0 := (x0' 33 (by decide) (by decide) (by decide) (by decide) (by decide)).trans h33
  have c46 : M1 46 = 0 := (x0' 46 (by decide) (by decide) (by decide) (by decide) (by decide)).trans h46
  have s6 : 0 ≤ (M1 6).toInt := hl.2.1.1
  have hnew : ∀ w : Nat, (w : Int) < (M1 12).toInt → F1 9 w = -1 ∧ F1 11 w = -1 := fun w hw => by
    have h12' : (um M 6 0 12).toInt ≤ w := by
      show (M 12).toInt ≤ w
      rw [h12, e_z0]; omega
    have := y5 w h12' hw
    exact ⟨this.2.2.1, this.2.2.2⟩
  have ti1 : e_TI M F M1 F1 (fun _ _ => 0) := by
    refine ⟨tr1, fun _ => ⟨⟨hl, ht, x2, ⟨(show 0 ≤ (M1 27).toInt ∧ (M1 27).toInt ≤ 1 from by rw [c27]; omega), (show 0 ≤ (M1 29).toInt from by rw [c29]; decide), (show 0 ≤ (M1 31).toInt from by rw [c31]; decide), (show 0 ≤ (M1 32).toInt from by rw [c32]; decide), (show 0 ≤ (M1 46).toInt from by rw [c46]; decide), (show 0 ≤ (M1 33).toInt ∧ (M1 33).toInt ≤ 21 from by rw [c33]; decide), (show 0 ≤ (M1 30).toInt from by rw [c30]; decide)⟩, ⟨fun w hw => ?_, fun _ => ⟨(show 0 ≤ (0 : Int32).toInt ∧ (0 : Int32).toInt ≤ 12 from by decide), (show 0 ≤ (0 : Int32).toInt ∧ (0 : Int32).toInt ≤ 8 from by decide), fun w hw h9 => ?_⟩⟩, fun j hj => ?_⟩, by rw [c33]; decide, fun w hw => ?_, ?_, fun _ r hr1 hr2 => ?_, fun _ => ⟨⟨fun k a b => ?_, fun k a b => ?_, fun k a b => ?_⟩, fun r hr1 hr2 => ?_, rfl, rfl⟩⟩⟩
    · obtain ⟨p1, p2⟩ := hnew w hw
      show (F1 9 w).toInt ≤ (M1 30).toInt ∧ -1 ≤ (F1 11 w).toInt ∧ (F1 11 w).toInt ≤ (M1 30).toInt
      rw [p1, p2, c30]; decide
    · obtain ⟨p1, p2⟩ := hnew w hw
      have h9' : F1 9 w = M1 30 := h9
      rw [p1, c30] at h9'
      exact absurd h9' (by decide)
    · have hj' : (j : Int) < (M1 46).toInt := hj
      rw [c46, e_z0] at hj'
      exact absurd hj' (by omega)
    · obtain ⟨p1, p2⟩ := hnew w hw
      rw [p1, p2, c30]; decide
    · rw [c29, c31, c32, c46, c30, e_z0]; omega
    · rw [c30, e_z0] at hr2; exact absurd hr2 (by omega)
    · have : (e_z 29).toInt = 0 := by decide
      rw [c29, e_z0] at b; exact absurd b (by omega)
    · have : (e_z 31).toInt = 0 := by decide
      rw [c31, e_z0] at b; exact absurd b (by omega)
    · have : (e_z 32).toInt = 0 := by decide
      rw [c32, e_z0] at b; exact absurd b (by omega)
    · rw [c30, e_z0] at hr2; exact absurd hr2 (by omega)
  refine p_text hB hn ti1 (fun M2 F2 G ti2 => ?_)
  obtain ⟨⟨⟨t27, t2, t1, t28, tk⟩, tc, th, t0, tf⟩, tF⟩ := ti2
  have d27 : (M2 27).toInt = 1 - (M0 27).toInt := by rw [t27]; exact b27
  have d1 : M2 1 = 0 := t1.trans h1
  have d28 : M2 28 = M0 28 := t28.trans h28
  have dk : ∀ k, 47 < k → M2 k = M0 k := fun k h => (tk k h).trans (hk k h)
  have hbad : ∀ (M3 : e_M) (F3 : e_F) (x y : Int32), (∀ k, k ≠ 39 → M3 k = M2 k) → (∀ r, r ≠ 14 → F3 r = F2 r) → (∀ j : Nat, (j : Int) < 9000 * (M2 27).toInt ∨ 9000 * (M2 27).toInt + 9000 ≤ j → F3 14 j = F2 14 j) → 1 ≤ x.toInt → w_read_308 WB Q y (um M3 40 x) F3 := by
    intro M3 F3 x y k3 f3 g3 hx
    refine ⟨fun q => ?_, fun _ => ?_⟩
    · have q' : x ≤ 0 := q
      have := Int32.le_iff_toInt_le.mp q'
      rw [e_z0] at this
      exact absurd this (by omega)
    · have e27 : (um (um (um M3 40 x) 41 y) 27 (1 - (um M3 40 x) 27)) 27 = M0 27 := by
        show 1 - M3 27 = M0 27
        rw [k3 27 (by decide), t27, h27]
        exact fl2
      refine hQ _ _ _ ⟨(show 0 ≤ (M3 1).toInt ∧ (M3 1).toInt ≤ 4000 from by rw [k3 1 (by decide), d1]; decide), ?_, e_OB_cg (fun k hk => ?_) (fun r hr => (f3 r (by omega)).trans (tf.1 r hr)) vO⟩ ((k3 1 (by decide)).trans d1)
      · rw [e27]
        have e28 : (um (um (um M3 40 x) 41 y) 27 (1 - (um M3 40 x) 27)) 28 = M0 28 := by
          show M3 28 = M0 28
          rw [k3 28 (by decide)]; exact d28
        rw [e28]
        refine ⟨G0, E0, T0, V0, e_SC_cg (fun j a b => ?_) (fun j a b => ?_) hC⟩
        · obtain ⟨q1, q2, q3, q4⟩ := tc j (by rw [b27]; omega)
          exact ⟨by rw [f3 13 (by decide)]; exact q1, (g3 j (by rw [d27]; omega)).trans q2, by rw [f3 15 (by decide)]; exact q3, by rw [f3 16 (by decide)]; exact q4⟩
        · obtain ⟨⟨q1, q2⟩, ⟨q3, q4, q5⟩, q6, q7, q8, q9⟩ := th j (by rw [b27]; omega)
          rw [f3 18 (by decide), f3 20 (by decide), f3 21 (by decide), f3 22 (by decide), f3 24 (by decide), f3 25 (by decide), f3 26 (by decide)]
          exact ⟨q1, ⟨q3, q4, q5⟩, q7, q8, q9⟩
      · rw [e_um_ne (by omega), e_um_ne (by omega), e_um_ne (by omega), k3 k (by omega)]
        exact dk k hk
  have hgood : ∀ (M3 : e_M) (F3 : e_F) (y : Int32), (∀ k, k ≠ 39 → M3 k = M2 k) → (∀ r, r ≠ 14 → F3 r = F2 r) → (M2 36).toInt = -1 → (M2 38).toInt = -1 → (e_gd M2 F2 → e_SG e_z M2 F3 G (e_en M2)) → (∀ j : Nat, (j : Int) < (M2 46).toInt → (F2 44 j).toInt ≤ 4 ∧ 400 * (M2 27).toInt ≤ (F3 14 (F2 42 j).toInt.toNat).toInt ∧ (F3 14 (F2 42 j).toInt.toNat).toInt < 400 * (M2 27).toInt + (M2 30).toInt) → w_read_308 WB Q y (um M3 40 0) F3 := by
    intro M3 F3 y k3 f3 hb h38 hsg hh
    refine ⟨fun _ => ?_, fun q => absurd (show (0 : Int32) ≤ 0 from by decide) q⟩
    obtain ⟨fI, f33, fst, ⟨n1, n2, n3, n4, n5⟩, fHP, fgd⟩ := tF hb
    have hA : e_PA (e_J M2) := fI.2.2.2.1
    have s2 : 0 ≤ (M2 6).toInt ∧ (M2 6).toInt ≤ (M2 3).toInt ∧ (M2 3).toInt ≤ 4000 := e_PI_e (M := e_J M2) fI
    have i29 : 0 ≤ (M2 29).toInt := hA.2.1
    have i31 : 0 ≤ (M2 31).toInt := hA.2.2.1
    have i32 : 0 ≤ (M2 32).toInt := hA.2.2.2.1
    have i30 : 0 ≤ (M2 30).toInt := hA.2.2.2.2.2.2
    have g : e_gd M2 F2 := ⟨hb, h38, fun j hj => (hh j hj).1⟩
    obtain ⟨a1, a2, -, -⟩ := fgd g
    obtain ⟨b1, b2, b3⟩ := hsg g
    refine hQ _ _ _ ⟨(show 0 ≤ (M3 1).toInt ∧ (M3 1).toInt ≤ 4000 from by rw [k3 1 (by decide), d1]; decide), ?_, e_OB_cg (fun k hk => ?_) (fun r hr => (f3 r (by omega)).trans (tf.1 r hr)) vO⟩ ((k3 1 (by decide)).trans d1)
    · show e_CODE (M3 27).toInt (M3 30).toInt F3
      rw [k3 27 (by decide), k3 30 (by decide)]
      have e44 : F3 44 = F2 44 := f3 44 (by decide)
      have e42 : F3 42 = F2 42 := f3 42 (by decide)
      have z29 : (e_z 29).toInt = 0 := by decide
      have z31 : (e_z 31).toInt = 0 := by decide
      have z32 : (e_z 32).toInt = 0 := by decide
      have x2 : e_en M2 = 9000 * (M2 27).toInt + (M2 29).toInt := rfl
      refine ⟨G, e_en M2, (M2 31).toInt, (M2 32).toInt, ⟨by omega, by omega, by omega, by omega, by omega⟩, fun k p q => ?_, fun t p q => ?_, fun u p q => ?_, fun r p q => ?_⟩
      · exact e_op_of (b1 k (by omega) (by omega)) (by rw [e44]; exact fun j hj => (hh j hj).1) (by rw [e42]; exact fun j hj => (hh j hj).2)
      · exact b2 t (by omega) (by omega)
      · exact b3 u (by omega) (by omega)
      · rw [f3 18 (by decide)]; exact a2 r p q
    · rw [e_um_ne (by omega), e_um_ne (by omega), e_um_ne (by omega), k3 k (by omega)]
      exact dk k hk
  have h256 : ∀ (M3 : e_M) (F3 : e_F) (x : Int32), (∀ y, w_read_308 WB Q y (um M3 40 x) F3) → w_read_256 WB Q x M3 F3 := by
    intro M3 F3 x h
    exact ⟨fun _ => ⟨fun _ => ⟨fun _ => ⟨fun _ => h _, fun _ => h _⟩, fun _ => h _⟩, fun q => absurd rfl q⟩, fun _ => ⟨fun q => absurd q z0, fun _ => h _⟩⟩
  have h207 : ∀ (M3 : e_M) (F3 : e_F), (∀ k, k ≠ 39 → M3 k = M2 k) → (∀ r, r ≠ 14 → F3 r = F2 r) → (∀ j : Nat, (j : Int) < 9000 * (M2 27).toInt ∨ 9000 * (M2 27).toInt + 9000 ≤ j → F3 14 j = F2 14 j) → ((M2 36).toInt = -1 → e_gd M2 F2 → e_SG e_z M2 F3 G (e_en M2)) → ((M2 36).toInt = -1 → (M2 38).toInt = -1 → M3 39 = -1 → ∀ j : Nat, (j : Int) < (M2 46).toInt → (F2 44 j).toInt ≤ 4 ∧ 400 * (M2 27).toInt ≤ (F3 14 (F2 42 j).toInt.toNat).toInt ∧ (F3 14 (F2 42 j).toInt.toNat).toInt < 400 * (M2 27).toInt + (M2 30).toInt) → w_read_207 WB Q M3 F3 := by
    intro M3 F3 k3 f3 g3 hsg hh
    refine ⟨fun hb => ⟨fun _ => ⟨fun _ => ⟨fun q38 => ⟨fun q39 => h256 M3 F3 0 (fun y => ?_), fun _ => h256 M3 F3 4 (fun y => hbad M3 F3 4 y k3 f3 g3 (by decide))⟩, fun _ => h256 M3 F3 3 (fun y => hbad M3 F3 3 y k3 f3 g3 (by decide))⟩, fun _ => h256 M3 F3 2 (fun y => hbad M3 F3 2 y k3 f3 g3 (by decide))⟩, fun q => absurd rfl q⟩, fun hb => ⟨fun q => absurd q z0, fun _ => h256 M3 F3 1 (fun y => hbad M3 F3 1 y k3 f3 g3 (by decide))⟩⟩
    have hb' : (M2 36).toInt = -1 := by rw [← k3 36 (by decide), hb]; decide
    have h38' : (M2 38).toInt = -1 := by rw [← k3 38 (by decide), q38]; decide
    exact hgood M3 F3 y k3 f3 hb' h38' (hsg hb') (hh hb' h38' q39)
  have key : ∀ (k : Nat) (a2 : Int32) (M3 : e_M) (F3 : e_F), (∀ k, k ≠ 39 → M3 k = M2 k) → (∀ r, r ≠ 14 → F3 r = F2 r) → (∀ j : Nat, (j : Int) < 9000 * (M2 27).toInt ∨ 9000 * (M2 27).toInt + 9000 ≤ j → F3 14 j = F2 14 j) → ((M2 36).toInt = -1 → e_gd M2 F2 → e_SG e_z M2 F3 G (e_en M2)) → ((M2 36).toInt = -1 → (M2 38).toInt = -1 → M3 39 = -1 → ∀ j : Nat, (j : Int) < a2.toInt → (F2 44 j).toInt ≤ 4 ∧ 400 * (M2 27).toInt ≤ (F3 14 (F2 42 j).toInt.toNat).toInt ∧ (F3 14 (F2 42 j).toInt.toNat).toInt < 400 * (M2 27).toInt + (M2 30).toInt) → 0 ≤ a2.toInt → ((M2 36).toInt = -1 → 700 - a2.toInt < k) → 1 ≤ k → w_read_104 WB Q k a2 M3 F3 := by
    intro k
    induction k with
    | zero => intro a2 M3 F3 _ _ _ _ _ _ _ q; exact absurd q (by decide)
    | succ k ih =>
      intro a2 M3 F3 k3 f3 g3 hsg hh ha hf _
      dsimp only [w_read_104]
      refine ⟨fun hle => h207 M3 F3 k3 f3 g3 hsg (fun p q r j hj => hh p q r j ?_), fun hnle => ⟨fun hb => ⟨fun q => absurd rfl q, fun _ => ?_⟩, fun hb => ⟨fun _ => h207 M3 F3 k3 f3 g3 hsg (fun p => absurd p ?_), fun q => absurd q z0⟩⟩⟩
      · have := Int32.le_iff_toInt_le.mp hle
        rw [k3 46 (by decide)] at this
        omega
      · have hb' : (M2 36).toInt = -1 := by rw [← k3 36 (by decide), hb]; decide
        have hlt := ti_nle hnle
        rw [k3 46 (by decide)] at hlt
        obtain ⟨fI, f33, fst, ⟨n1, n2, n3, n4, n5⟩, fHP, fgd⟩ := tF hb'
        have s2 : 0 ≤ (M2 6).toInt ∧ (M2 6).toInt ≤ (M2 3).toInt ∧ (M2 3).toInt ≤ 4000 := e_PI_e (M := e_J M2) fI
        have nn : 0 ≤ (M2 12).toInt ∧ (M2 12).toInt < 2100 := e_PI_n (M := e_J M2) fI
        have hA : e_PA (e_J M2) := fI.2.2.2.1
        have i29 : 0 ≤ (M2 29).toInt := hA.2.1
        have ph := fI.2.2.2.2.2 a2.toInt.toNat (show ((a2.toInt.toNat : Nat) : Int) < (M2 46).toInt from by omega)
        obtain ⟨⟨ph1, ph2⟩, ⟨ph3, ph4⟩, ph5, ph6⟩ := ph
        have ph2' : (F2 43 a2.toInt.toNat).toInt < (M2 12).toInt := ph2
        have ph3' : 9000 * (M2 27).toInt ≤ (F2 42 a2.toInt.toNat).toInt := ph3
        have ph4' : (F2 42 a2.toInt.toNat).toInt < 9000 * (M2 27).toInt + (M2 29).toInt := ph4
        have hv : vp_in a2 700 := vp_in_iff.mpr (by omega)
        have e43 : F3 43 a2.toNatClampNeg = F2 43 a2.toInt.toNat := by rw [f3 43 (by decide)]; rfl
        have e42 : F3 42 a2.toNatClampNeg = F2 42 a2.toInt.toNat := by rw [f3 42 (by decide)]; rfl
        have e44 : F3 44 a2.toNatClampNeg = F2 44 a2.toInt.toNat := by rw [f3 44 (by decide)]; rfl
        have e45 : F3 45 a2.toNatClampNeg = F2 45 a2.toInt.toNat := by rw [f3 45 (by decide)]; rfl
        have ea := ti_addx a2 1 (by omega)
        rw [l1] at ea
        have hk7 := hf hb'
        have h160 : w_read_160 WB (w_read_104 WB Q k) Q a2 M3 F3 := by
          refine ⟨hv, p_least (by rw [e45]; exact ph6) (fun r hr => ?_)⟩
          refine ih (a2 + 1) (um M3 39 r) F3 (fun k q => (e_um_ne q).trans (k3 k q)) f3 g3 hsg (fun _ _ q => ?_) (by omega) (fun _ => by omega) (by omega)
          have q' : r = -1 := q
          rw [q'] at hr
          exact absurd (show (-1 : Int32).toInt = -1 from by decide) hr
        refine ⟨hv, by rw [e43]; exact vp_in_iff.mpr (by omega), fun v hvv => ⟨fun _ => h160, fun hne => ?_⟩⟩
        rw [e43, f3 11 (by decide), e_tc] at hvv
        have fs := (fst (F2 43 a2.toInt.toNat).toInt.toNat (by omega)).2
        have pn : -1 ≤ (F2 11 (F2 43 a2.toInt.toNat).toInt.toNat).toInt := (fI.2.2.2.2.1.1 (F2 43 a2.toInt.toNat).toInt.toNat (show _ < (M2 12).toInt from by omega)).2.1
        rw [← hvv] at fs pn
        have hne' : v.toInt ≠ -1 := fun q => hne (Int32.toInt_inj.mp (by rw [q]; decide))
        have er : (400 * M3 27 + v).toInt = 400 * (M2 27).toInt + v.toInt := by
          rw [k3 27 (by decide)]
          exact e_row4 (by omega) (by omega)
        refine ⟨vp_in_iff.mpr (by omega), fun v2 hv2 => ⟨hv, fun heq => ⟨hv, by rw [e42]; exact vp_in_iff.mpr (by omega), ?_⟩, fun _ => h160⟩⟩
        rw [f3 19 (by decide), e_tc, er] at hv2
        rw [e44] at heq
        rw [e42]
        refine ih (a2 + 1) M3 (uf F3 14 (F2 42 a2.toInt.toNat) (400 * M3 27 + v)) k3 (fun r q => (e_uf_ne q).trans (f3 r q)) (fun j hj => (e_upd_ne (by rw [e_tc]; omega)).trans (g3 j hj)) (fun p g => ?_) (fun p q r j hj => ?_) (by omega) (fun _ => by omega) (by omega)
        · obtain ⟨b1, b2, b3⟩ := hsg p g
          exact ⟨fun k x y => e_ok_18 (by rw [f3 13 (by decide)]; exact ph5) (b1 k x y), b2, b3⟩
        · have hj' : (j : Int) < (a2 + 1).toInt := hj
          by_cases hc : (F2 42 j).toInt.toNat = (F2 42 a2.toInt.toNat).toInt.toNat
          · have ef : (uf F3 14 (F2 42 a2.toInt.toNat) (400 * M3 27 + v)) 14 (F2 42 j).toInt.toNat = 400 * M3 27 + v := by rw [hc]; exact e_upd_eq
            rw [ef, er]
            refine ⟨?_, by omega, by omega⟩
            by_cases hj2 : (j : Int) < a2.toInt
            · exact (hh p q r j hj2).1
            · have : j = a2.toInt.toNat := by omega
              rw [this, ← heq, hv2]
              exact (fHP q (400 * (M2 27).toInt + v.toInt).toNat (by omega) (by omega)).2
          · have ef : (uf F3 14 (F2 42 a2.toInt.toNat) (400 * M3 27 + v)) 14 (F2 42 j).toInt.toNat = F3 14 (F2 42 j).toInt.toNat := e_upd_ne (by rw [e_tc]; exact hc)
            rw [ef]
            refine hh p q r j ?_
            by_cases hj2 : (j : Int) < a2.toInt
            · exact hj2
            · have : j = a2.toInt.toNat := by omega
              rw [this] at hc
              exact absurd rfl hc
      · rw [← k3 36 (by decide)]
        exact fun q => ti_ne hb (by rw [q]; decide)
  refine ⟨1000, key 1000 0 M2 F2 (fun _ _ => rfl) (fun _ _ => rfl) (fun _ _ => rfl) (fun p g => ?_) (fun _ _ _ j hj => absurd hj (by rw [e_z0]; omega)) (by decide) (fun _ => by rw [e_z0]; decide) (by decide)⟩
  exact ((tF p).2.2.2.2.2 g).1
theorem p_read {WB : e_M → e_F → (e_M → e_F → Prop) → Prop} {n : Nat} (hB : e_BK WB n) (hn : 21 ≤ n) {p : Int32} {M : e_M} {F : e_F} {Q : Int32 → e_M → e_F → Prop} (hV : e_INV M F) (hQ : ∀ (r : Int32) (M' : e_M) (F' : e_F), e_INV M' F' → (((p.toInt < 0 ∨ (M 1).toInt < p.toInt) ∧ M' 1 = M 1) ∨ ((0 ≤ p.toInt ∧ p.toInt ≤ (M 1).toInt) ∧ M' 1 = 0)) → Q r M' F') : w_read WB p M F Q := by
  refine ⟨fun h => hQ _ _ _ hV (Or.inl ⟨Or.inl (by have := Int32.lt_iff_toInt_lt.mp h; rw [e_z0] at this; exact this), rfl⟩), fun h0 => ⟨fun h1 => ?_, fun h => hQ _ _ _ hV (Or.inl ⟨Or.inr (ti_nle h), rfl⟩)⟩⟩
  have h0' := ti_nlt h0
  have h1' := Int32.le_iff_toInt_le.mp h1
  have v1 := hV.1
  rw [e_z0] at h0'
  refine p_read2 hB hn (M0 := M) hV (show 0 ≤ p.toInt ∧ p.toInt ≤ 4000 from by omega) rfl rfl rfl rfl rfl rfl rfl rfl rfl rfl rfl (fun k hk => ?_) (fun r M' F' v z => hQ r M' F' v (Or.inr ⟨⟨h0', h1'⟩, z⟩))
  rw [e_um_ne (by omega), e_um_ne (by omega), e_um_ne (by omega), e_um_ne (by omega), e_um_ne (by omega), e_um_ne (by omega), e_um_ne (by omega), e_um_ne (by omega), e_um_ne (by omega), e_um_ne (by omega), e_um_ne (by omega), e_um_ne (by omega), e_um_ne (by omega), e_um_ne (by omega), e_um_ne (by omega)]
