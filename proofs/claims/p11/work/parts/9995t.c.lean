/-! A TEXT READ: what the reference leaves alone; the codes of the other bank. -/
section ZC1
def e_FX (M0 : e_M) (F : e_F) (r : Int32) (M' : e_M) (F' : e_F) : Prop := ((∀ k, 47 < k → M' k = M0 k) ∧ ∀ q, 45 < q → F' q = F q) ∧ (¬ r = 0 → (M' 27 = M0 27 ∧ M' 28 = M0 28) ∧ (∀ j : Nat, 9000 * (M0 27).toInt ≤ j → (j : Int) < 9000 * (M0 27).toInt + 9000 → F' 13 j = F 13 j ∧ F' 14 j = F 14 j ∧ F' 15 j = F 15 j ∧ F' 16 j = F 16 j ∧ F' 17 j = F 17 j) ∧ ∀ j : Nat, 400 * (M0 27).toInt ≤ j → (j : Int) < 400 * (M0 27).toInt + 400 → (F' 18 j = F 18 j ∧ F' 19 j = F 19 j) ∧ (F' 20 j = F 20 j ∧ F' 21 j = F 21 j ∧ F' 22 j = F 22 j) ∧ (F' 23 j = F 23 j ∧ F' 24 j = F 24 j ∧ F' 25 j = F 25 j ∧ F' 26 j = F 26 j)) ∧ (r = 0 → (M' 31).toInt ≤ 400 ∧ (M' 32).toInt ≤ 400)
theorem p_read2X {WB : e_M → e_F → (e_M → e_F → Prop) → Prop} {n : Nat} (hB : e_BK WB n) (hn : 21 ≤ n) {M0 M : e_M} {F : e_F} {Q : Int32 → e_M → e_F → Prop} (hV : e_INV M0 F) (h2 : 0 ≤ (M 2).toInt ∧ (M 2).toInt ≤ 4000) (h1 : M 1 = 0) (h27 : M 27 = 1 - M0 27) (h28 : M 28 = M0 28) (h29 : M 29 = 0) (h30 : M 30 = 0) (h31 : M 31 = 0) (h32 : M 32 = 0) (h33 : M 33 = 0) (h46 : M 46 = 0) (h12 : M 12 = 0) (h3 : M 3 = 0) (hk : ∀ k, 47 < k → M k = M0 k) (hQ : ∀ (r : Int32) (M' : e_M) (F' : e_F), e_INV M' F' → M' 1 = 0 → e_FX M0 F r M' F' → Q r M' F') : w_next M F (fun M1 F1 => (w_text WB M1 F1 (fun M2 F2 => (∃ e104, w_read_104 WB Q e104 0 M2 F2)))) := by
  have z0 : ¬ (1 : Int32) = 0 := by decide
  have l1 : (1 : Int32).toInt = 1 := by decide
  obtain ⟨v1, ⟨G0, E0, T0, V0, hC⟩, vO⟩ := hV
  have bb : 0 ≤ (M0 27).toInt ∧ (M0 27).toInt ≤ 1 := hC.1.1
  obtain ⟨fl1, fl2⟩ := e_flip bb
  have b27 : (M 27).toInt = 1 - (M0 27).toInt := by rw [h27]; exact fl1
  refine p_nextZ ⟨h2, ⟨(show 0 ≤ (0 : Int32).toInt from by decide), (show (0 : Int32).toInt ≤ (M 3).toInt from by rw [h3]; decide), (show (M 3).toInt ≤ (M 2).toInt from by rw [h3, e_z0]; exact h2.1)⟩, ⟨(show 0 ≤ (M 12).toInt from by rw [h12]; decide), Or.inl (show 2 * (M 12).toInt ≤ (M 3).toInt from by rw [h12, h3]; decide)⟩, fun w hw => absurd (show (w : Int) < (M 12).toInt from hw) (by rw [h12, e_z0]; omega)⟩ (fun M1 F1 hx hl ht => ?_)
  obtain ⟨x0, x1, x2, nx⟩ := hx
  have x0' : ∀ k, k ≠ 3 → k ≠ 4 → k ≠ 5 → k ≠ 6 → k ≠ 12 → M1 k = M k := fun k a b c d e => (x0 k a b c d e).trans (e_um_ne d)
  obtain ⟨y1, y2, y3, y4, y5⟩ := nx
  have tr1 : e_TR M F M1 F1 := by
    have e := y3
    refine ⟨⟨x0' 27 (by decide) (by decide) (by decide) (by decide) (by decide), x0' 2 (by decide) (by decide) (by decide) (by decide) (by decide), x0' 1 (by decide) (by decide) (by decide) (by decide) (by decide), x0' 28 (by decide) (by decide) (by decide) (by decide) (by decide), fun k hk => x0' k (by omega) (by omega) (by omega) (by omega) (by omega)⟩, fun j _ => ?_, fun j _ => ?_, e 0 (by decide) (by decide) (by decide) (by decide), fun r hr => e r (by omega) (by omega) (by omega) (by omega), fun j _ => congrFun (e 17 (by decide) (by decide) (by decide) (by decide)) j⟩
    · rw [e 13 (by decide) (by decide) (by decide) (by decide), e 14 (by decide) (by decide) (by decide) (by decide), e 15 (by decide) (by decide) (by decide) (by decide), e 16 (by decide) (by decide) (by decide) (by decide)]
      exact ⟨rfl, rfl, rfl, rfl⟩
    · rw [e 18 (by decide) (by decide) (by decide) (by decide), e 19 (by decide) (by decide) (by decide) (by decide), e 20 (by decide) (by decide) (by decide) (by decide), e 21 (by decide) (by decide) (by decide) (by decide), e 22 (by decide) (by decide) (by decide) (by decide), e 23 (by decide) (by decide) (by decide) (by decide), e 24 (by decide) (by decide) (by decide) (by decide), e 25 (by decide) (by decide) (by decide) (by decide), e 26 (by decide) (by decide) (by decide) (by decide)]
      exact ⟨⟨rfl, rfl⟩, ⟨rfl, rfl, rfl⟩, ⟨rfl, rfl, rfl, rfl⟩⟩
  have c27 : M1 27 = M 27 := tr1.1.1
  have c29 : M1 29 = 0 := (x0' 29 (by decide) (by decide) (by decide) (by decide) (by decide)).trans h29
  have c30 : M1 30 = 0 := (x0' 30 (by decide) (by decide) (by decide) (by decide) (by decide)).trans h30
  have c31 : M1 31 = 0 := (x0' 31 (by decide) (by decide) (by decide) (by decide) (by decide)).trans h31
  have c32 : M1 32 = 0 := (x0' 32 (by decide) (by decide) (by decide) (by decide) (by decide)).trans h32
  have c33 : M1 33 = 0 := (x0' 33 (by decide) (by decide) (by decide) (by decide) (by decide)).trans h33
  have c46 : M1 46 = 0 := (x0' 46 (by decide) (by decide) (by decide) (by decide) (by decide)).trans h46
  have s6 : 0 ≤ (M1 6).toInt := hl.2.1.1
  have hnew : ∀ w : Nat, (w : Int) < (M1 12).toInt → F1 9 w = -1 ∧ F1 11 w = -1 := fun w hw => by
    have h12' : (um M 6 0 12).toInt ≤ w := by
      show (M 12).toInt ≤ w
      rw [h12, e_z0]; omega
    have := y5 w h12' hw
    exact ⟨this.2.2.1, this.2.2.2⟩
  have ti1 : e_TI M F M1 F1 (fun _ _ => 0) := by
    refine ⟨tr1, fun _ => ⟨⟨hl, ht, x2, ⟨(show 0 ≤ (M1 27).toInt ∧ (M1 27).toInt ≤ 1 from by rw [c27]; omega), (show 0 ≤ (M1 29).toInt from by rw [c29]; decide), (show 0 ≤ (M1 31).toInt from by rw [c31]; decide), (show 0 ≤ (M1 32).toInt from by rw [c32]; decide), (show 0 ≤ (M1 46).toInt from by rw [c46]; decide), (show 0 ≤ (M1 33).toInt ∧ (M1 33).toInt ≤ 21 from by rw [c33]; decide), (show 0 ≤ (M1 30).toInt from by rw [c30]; decide)⟩, ⟨fun w hw => ?_, fun _ => ⟨(show 0 ≤ (0 : Int32).toInt ∧ (0 : Int32).toInt ≤ 12 from by decide), (show 0 ≤ (0 : Int32).toInt ∧ (0 : Int32).toInt ≤ 8 from by decide), fun w hw h9 => ?_⟩⟩, fun j hj => ?_⟩, by rw [c33]; decide, fun w hw => ?_, ?_, fun _ r hr1 hr2 => ?_, fun _ => ⟨⟨fun k a b => ?_, fun k a b => ?_, fun k a b => ?_⟩, fun r hr1 hr2 => ?_, rfl, rfl⟩⟩⟩
    · obtain ⟨p1, p2⟩ := hnew w hw
      show (F1 9 w).toInt ≤ (M1 30).toInt ∧ -1 ≤ (F1 11 w).toInt ∧ (F1 11 w).toInt ≤ (M1 30).toInt
      rw [p1, p2, c30]; decide
    · obtain ⟨p1, p2⟩ := hnew w hw
      have h9' : F1 9 w = M1 30 := h9
      rw [p1, c30] at h9'
      exact absurd h9' (by decide)
    · have hj' : (j : Int) < (M1 46).toInt := hj
      rw [c46, e_z0] at hj'
      exact absurd hj' (by omega)
    · obtain ⟨p1, p2⟩ := hnew w hw
      rw [p1, p2, c30]; decide
    · rw [c29, c31, c32, c46, c30, e_z0]; omega
    · rw [c30, e_z0] at hr2; exact absurd hr2 (by omega)
    · have : (e_z 29).toInt = 0 := by decide
      rw [c29, e_z0] at b; exact absurd b (by omega)
    · have : (e_z 31).toInt = 0 := by decide
      rw [c31, e_z0] at b; exact absurd b (by omega)
    · have : (e_z 32).toInt = 0 := by decide
      rw [c32, e_z0] at b; exact absurd b (by omega)
    · rw [c30, e_z0] at hr2; exact absurd hr2 (by omega)
  refine p_text hB hn ti1 (fun M2 F2 G ti2 => ?_)
  obtain ⟨⟨⟨t27, t2, t1, t28, tk⟩, tc, th, t0, tf⟩, tF⟩ := ti2
  have d27 : (M2 27).toInt = 1 - (M0 27).toInt := by rw [t27]; exact b27
  have d1 : M2 1 = 0 := t1.trans h1
  have d28 : M2 28 = M0 28 := t28.trans h28
  have dk : ∀ k, 47 < k → M2 k = M0 k := fun k h => (tk k h).trans (hk k h)
  have hbad : ∀ (M3 : e_M) (F3 : e_F) (x y : Int32), (∀ k, k ≠ 39 → M3 k = M2 k) → (∀ r, r ≠ 14 → F3 r = F2 r) → (∀ j : Nat, (j : Int) < 9000 * (M2 27).toInt ∨ 9000 * (M2 27).toInt + 9000 ≤ j → F3 14 j = F2 14 j) → 1 ≤ x.toInt → w_read_308 WB Q y (um M3 40 x) F3 := by
    intro M3 F3 x y k3 f3 g3 hx
    refine ⟨fun q => ?_, fun _ => ?_⟩
    · have q' : x ≤ 0 := q
      have := Int32.le_iff_toInt_le.mp q'
      rw [e_z0] at this
      exact absurd this (by omega)
    · have e27 : (um (um (um M3 40 x) 41 y) 27 (1 - (um M3 40 x) 27)) 27 = M0 27 := by
        show 1 - M3 27 = M0 27
        rw [k3 27 (by decide), t27, h27]
        exact fl2
      refine hQ _ _ _ ⟨(show 0 ≤ (M3 1).toInt ∧ (M3 1).toInt ≤ 4000 from by rw [k3 1 (by decide), d1]; decide), ?_, e_OB_cg (fun k hk => ?_) (fun r hr => (f3 r (by omega)).trans (tf.1 r hr)) vO⟩ ((k3 1 (by decide)).trans d1) ?_
      · rw [e27]
        have e28 : (um (um (um M3 40 x) 41 y) 27 (1 - (um M3 40 x) 27)) 28 = M0 28 := by
          show M3 28 = M0 28
          rw [k3 28 (by decide)]; exact d28
        rw [e28]
        refine ⟨G0, E0, T0, V0, e_SC_cg (fun j a b => ?_) (fun j a b => ?_) hC⟩
        · obtain ⟨q1, q2, q3, q4⟩ := tc j (by rw [b27]; omega)
          exact ⟨by rw [f3 13 (by decide)]; exact q1, (g3 j (by rw [d27]; omega)).trans q2, by rw [f3 15 (by decide)]; exact q3, by rw [f3 16 (by decide)]; exact q4⟩
        · obtain ⟨⟨q1, q2⟩, ⟨q3, q4, q5⟩, q6, q7, q8, q9⟩ := th j (by rw [b27]; omega)
          rw [f3 18 (by decide), f3 20 (by decide), f3 21 (by decide), f3 22 (by decide), f3 24 (by decide), f3 25 (by decide), f3 26 (by decide)]
          exact ⟨q1, ⟨q3, q4, q5⟩, q7, q8, q9⟩
      · rw [e_um_ne (by omega), e_um_ne (by omega), e_um_ne (by omega), k3 k (by omega)]
        exact dk k hk
      · refine ⟨⟨fun k hk => ?_, fun r hr => (f3 r (by omega)).trans (tf.1 r hr)⟩, fun _ => ⟨⟨e27, (show M3 28 = M0 28 from by rw [k3 28 (by decide)]; exact d28)⟩, fun j a b => ?_, fun j a b => ?_⟩, fun z => absurd hx (by rw [show x = 0 from z]; decide)⟩
        · rw [e_um_ne (by omega), e_um_ne (by omega), e_um_ne (by omega), k3 k (by omega)]
          exact dk k hk
        · obtain ⟨q1, q2, q3, q4⟩ := tc j (by rw [b27]; omega)
          exact ⟨by rw [f3 13 (by decide)]; exact q1, (g3 j (by rw [d27]; omega)).trans q2, by rw [f3 15 (by decide)]; exact q3, by rw [f3 16 (by decide)]; exact q4, by rw [f3 17 (by decide)]; exact tf.2 j (by rw [b27]; omega)⟩
        · obtain ⟨⟨q1, q2⟩, ⟨q3, q4, q5⟩, q6, q7, q8, q9⟩ := th j (by rw [b27]; omega)
          rw [f3 18 (by decide), f3 19 (by decide), f3 20 (by decide), f3 21 (by decide), f3 22 (by decide), f3 23 (by decide), f3 24 (by decide), f3 25 (by decide), f3 26 (by decide)]
          exact ⟨⟨q1, q2⟩, ⟨q3, q4, q5⟩, q6, q7, q8, q9⟩
  have hgood : ∀ (M3 : e_M) (F3 : e_F) (y : Int32), (∀ k, k ≠ 39 → M3 k = M2 k) → (∀ r, r ≠ 14 → F3 r = F2 r) → (M2 36).toInt = -1 → (M2 38).toInt = -1 → (e_gd M2 F2 → e_SG e_z M2 F3 G (e_en M2)) → (∀ j : Nat, (j : Int) < (M2 46).toInt → (F2 44 j).toInt ≤ 4 ∧ 400 * (M2 27).toInt ≤ (F3 14 (F2 42 j).toInt.toNat).toInt ∧ (F3 14 (F2 42 j).toInt.toNat).toInt < 400 * (M2 27).toInt + (M2 30).toInt) → w_read_308 WB Q y (um M3 40 0) F3 := by
    intro M3 F3 y k3 f3 hb h38 hsg hh
    refine ⟨fun _ => ?_, fun q => absurd (show (0 : Int32) ≤ 0 from by decide) q⟩
    obtain ⟨fI, f33, fst, ⟨n1, n2, n3, n4, n5⟩, fHP, fgd⟩ := tF hb
    have hA : e_PA (e_J M2) := fI.2.2.2.1
    have s2 : 0 ≤ (M2 6).toInt ∧ (M2 6).toInt ≤ (M2 3).toInt ∧ (M2 3).toInt ≤ 4000 := e_PI_e (M := e_J M2) fI
    have i29 : 0 ≤ (M2 29).toInt := hA.2.1
    have i31 : 0 ≤ (M2 31).toInt := hA.2.2.1
    have i32 : 0 ≤ (M2 32).toInt := hA.2.2.2.1
    have i30 : 0 ≤ (M2 30).toInt := hA.2.2.2.2.2.2
    have g : e_gd M2 F2 := ⟨hb, h38, fun j hj => (hh j hj).1⟩
    obtain ⟨a1, a2, -, -⟩ := fgd g
    obtain ⟨b1, b2, b3⟩ := hsg g
    refine hQ _ _ _ ⟨(show 0 ≤ (M3 1).toInt ∧ (M3 1).toInt ≤ 4000 from by rw [k3 1 (by decide), d1]; decide), ?_, e_OB_cg (fun k hk => ?_) (fun r hr => (f3 r (by omega)).trans (tf.1 r hr)) vO⟩ ((k3 1 (by decide)).trans d1) ?_
    · show e_CODE (M3 27).toInt (M3 30).toInt F3
      rw [k3 27 (by decide), k3 30 (by decide)]
      have e44 : F3 44 = F2 44 := f3 44 (by decide)
      have e42 : F3 42 = F2 42 := f3 42 (by decide)
      have z29 : (e_z 29).toInt = 0 := by decide
      have z31 : (e_z 31).toInt = 0 := by decide
      have z32 : (e_z 32).toInt = 0 := by decide
      have x2 : e_en M2 = 9000 * (M2 27).toInt + (M2 29).toInt := rfl
      refine ⟨G, e_en M2, (M2 31).toInt, (M2 32).toInt, ⟨by omega, by omega, by omega, by omega, by omega⟩, fun k p q => ?_, fun t p q => ?_, fun u p q => ?_, fun r p q => ?_⟩
      · exact e_op_of (b1 k (by omega) (by omega)) (by rw [e44]; exact fun j hj => (hh j hj).1) (by rw [e42]; exact fun j hj => (hh j hj).2)
      · exact b2 t (by omega) (by omega)
      · exact b3 u (by omega) (by omega)
      · rw [f3 18 (by decide)]; exact a2 r p q
    · rw [e_um_ne (by omega), e_um_ne (by omega), e_um_ne (by omega), k3 k (by omega)]
      exact dk k hk
    · refine ⟨⟨fun k hk => ?_, fun r hr => (f3 r (by omega)).trans (tf.1 r hr)⟩, fun z => absurd rfl z, fun _ => ⟨(show (M3 31).toInt ≤ 400 from by rw [k3 31 (by decide)]; omega), (show (M3 32).toInt ≤ 400 from by rw [k3 32 (by decide)]; omega)⟩⟩
      rw [e_um_ne (by omega), e_um_ne (by omega), e_um_ne (by omega), k3 k (by omega)]
      exact dk k hk
  have h256 : ∀ (M3 : e_M) (F3 : e_F) (x : Int32), (∀ y, w_read_308 WB Q y (um M3 40 x) F3) → w_read_256 WB Q x M3 F3 := by
    intro M3 F3 x h
    exact ⟨fun _ => ⟨fun _ => ⟨fun _ => ⟨fun _ => h _, fun _ => h _⟩, fun _ => h _⟩, fun q => absurd rfl q⟩, fun _ => ⟨fun q => absurd q z0, fun _ => h _⟩⟩
  have h207 : ∀ (M3 : e_M) (F3 : e_F), (∀ k, k ≠ 39 → M3 k = M2 k) → (∀ r, r ≠ 14 → F3 r = F2 r) → (∀ j : Nat, (j : Int) < 9000 * (M2 27).toInt ∨ 9000 * (M2 27).toInt + 9000 ≤ j → F3 14 j = F2 14 j) → ((M2 36).toInt = -1 → e_gd M2 F2 → e_SG e_z M2 F3 G (e_en M2)) → ((M2 36).toInt = -1 → (M2 38).toInt = -1 → M3 39 = -1 → ∀ j : Nat, (j : Int) < (M2 46).toInt → (F2 44 j).toInt ≤ 4 ∧ 400 * (M2 27).toInt ≤ (F3 14 (F2 42 j).toInt.toNat).toInt ∧ (F3 14 (F2 42 j).toInt.toNat).toInt < 400 * (M2 27).toInt + (M2 30).toInt) → w_read_207 WB Q M3 F3 := by
    intro M3 F3 k3 f3 g3 hsg hh
    refine ⟨fun hb => ⟨fun _ => ⟨fun _ => ⟨fun q38 => ⟨fun q39 => h256 M3 F3 0 (fun y => ?_), fun _ => h256 M3 F3 4 (fun y => hbad M3 F3 4 y k3 f3 g3 (by decide))⟩, fun _ => h256 M3 F3 3 (fun y => hbad M3 F3 3 y k3 f3 g3 (by decide))⟩, fun _ => h256 M3 F3 2 (fun y => hbad M3 F3 2 y k3 f3 g3 (by decide))⟩, fun q => absurd rfl q⟩, fun hb => ⟨fun q => absurd q z0, fun _ => h256 M3 F3 1 (fun y => hbad M3 F3 1 y k3 f3 g3 (by decide))⟩⟩
    have hb' : (M2 36).toInt = -1 := by rw [← k3 36 (by decide), hb]; decide
    have h38' : (M2 38).toInt = -1 := by rw [← k3 38 (by decide), q38]; decide
    exact hgood M3 F3 y k3 f3 hb' h38' (hsg hb') (hh hb' h38' q39)
  have key : ∀ (k : Nat) (a2 : Int32) (M3 : e_M) (F3 : e_F), (∀ k, k ≠ 39 → M3 k = M2 k) → (∀ r, r ≠ 14 → F3 r = F2 r) → (∀ j : Nat, (j : Int) < 9000 * (M2 27).toInt ∨ 9000 * (M2 27).toInt + 9000 ≤ j → F3 14 j = F2 14 j) → ((M2 36).toInt = -1 → e_gd M2 F2 → e_SG e_z M2 F3 G (e_en M2)) → ((M2 36).toInt = -1 → (M2 38).toInt = -1 → M3 39 = -1 → ∀ j : Nat, (j : Int) < a2.toInt → (F2 44 j).toInt ≤ 4 ∧ 400 * (M2 27).toInt ≤ (F3 14 (F2 42 j).toInt.toNat).toInt ∧ (F3 14 (F2 42 j).toInt.toNat).toInt < 400 * (M2 27).toInt + (M2 30).toInt) → 0 ≤ a2.toInt → ((M2 36).toInt = -1 → 700 - a2.toInt < k) → 1 ≤ k → w_read_104 WB Q k a2 M3 F3 := by
    intro k
    induction k with
    | zero => intro a2 M3 F3 _ _ _ _ _ _ _ q; exact absurd q (by decide)
    | succ k ih =>
      intro a2 M3 F3 k3 f3 g3 hsg hh ha hf _
      dsimp only [w_read_104]
      refine ⟨fun hle => h207 M3 F3 k3 f3 g3 hsg (fun p q r j hj => hh p q r j ?_), fun hnle => ⟨fun hb => ⟨fun q => absurd rfl q, fun _ => ?_⟩, fun hb => ⟨fun _ => h207 M3 F3 k3 f3 g3 hsg (fun p => absurd p ?_), fun q => absurd q z0⟩⟩⟩
      · have := Int32.le_iff_toInt_le.mp hle
        rw [k3 46 (by decide)] at this
        omega
      · have hb' : (M2 36).toInt = -1 := by rw [← k3 36 (by decide), hb]; decide
        have hlt := ti_nle hnle
        rw [k3 46 (by decide)] at hlt
        obtain ⟨fI, f33, fst, ⟨n1, n2, n3, n4, n5⟩, fHP, fgd⟩ := tF hb'
        have s2 : 0 ≤ (M2 6).toInt ∧ (M2 6).toInt ≤ (M2 3).toInt ∧ (M2 3).toInt ≤ 4000 := e_PI_e (M := e_J M2) fI
        have nn : 0 ≤ (M2 12).toInt ∧ (M2 12).toInt < 2100 := e_PI_n (M := e_J M2) fI
        have hA : e_PA (e_J M2) := fI.2.2.2.1
        have i29 : 0 ≤ (M2 29).toInt := hA.2.1
        have ph := fI.2.2.2.2.2 a2.toInt.toNat (show ((a2.toInt.toNat : Nat) : Int) < (M2 46).toInt from by omega)
        obtain ⟨⟨ph1, ph2⟩, ⟨ph3, ph4⟩, ph5, ph6⟩ := ph
        have ph2' : (F2 43 a2.toInt.toNat).toInt < (M2 12).toInt := ph2
        have ph3' : 9000 * (M2 27).toInt ≤ (F2 42 a2.toInt.toNat).toInt := ph3
        have ph4' : (F2 42 a2.toInt.toNat).toInt < 9000 * (M2 27).toInt + (M2 29).toInt := ph4
        have hv : vp_in a2 700 := vp_in_iff.mpr (by omega)
        have e43 : F3 43 a2.toNatClampNeg = F2 43 a2.toInt.toNat := by rw [f3 43 (by decide)]; rfl
        have e42 : F3 42 a2.toNatClampNeg = F2 42 a2.toInt.toNat := by rw [f3 42 (by decide)]; rfl
        have e44 : F3 44 a2.toNatClampNeg = F2 44 a2.toInt.toNat := by rw [f3 44 (by decide)]; rfl
        have e45 : F3 45 a2.toNatClampNeg = F2 45 a2.toInt.toNat := by rw [f3 45 (by decide)]; rfl
        have ea := ti_addx a2 1 (by omega)
        rw [l1] at ea
        have hk7 := hf hb'
        have h160 : w_read_160 WB (w_read_104 WB Q k) Q a2 M3 F3 := by
          refine ⟨hv, p_least (by rw [e45]; exact ph6) (fun r hr => ?_)⟩
          refine ih (a2 + 1) (um M3 39 r) F3 (fun k q => (e_um_ne q).trans (k3 k q)) f3 g3 hsg (fun _ _ q => ?_) (by omega) (fun _ => by omega) (by omega)
          have q' : r = -1 := q
          rw [q'] at hr
          exact absurd (show (-1 : Int32).toInt = -1 from by decide) hr
        refine ⟨hv, by rw [e43]; exact vp_in_iff.mpr (by omega), fun v hvv => ⟨fun _ => h160, fun hne => ?_⟩⟩
        rw [e43, f3 11 (by decide), e_tc] at hvv
        have fs := (fst (F2 43 a2.toInt.toNat).toInt.toNat (by omega)).2
        have pn : -1 ≤ (F2 11 (F2 43 a2.toInt.toNat).toInt.toNat).toInt := (fI.2.2.2.2.1.1 (F2 43 a2.toInt.toNat).toInt.toNat (show _ < (M2 12).toInt from by omega)).2.1
        rw [← hvv] at fs pn
        have hne' : v.toInt ≠ -1 := fun q => hne (Int32.toInt_inj.mp (by rw [q]; decide))
        have er : (400 * M3 27 + v).toInt = 400 * (M2 27).toInt + v.toInt := by
          rw [k3 27 (by decide)]
          exact e_row4 (by omega) (by omega)
        refine ⟨vp_in_iff.mpr (by omega), fun v2 hv2 => ⟨hv, fun heq => ⟨hv, by rw [e42]; exact vp_in_iff.mpr (by omega), ?_⟩, fun _ => h160⟩⟩
        rw [f3 19 (by decide), e_tc, er] at hv2
        rw [e44] at heq
        rw [e42]
        refine ih (a2 + 1) M3 (uf F3 14 (F2 42 a2.toInt.toNat) (400 * M3 27 + v)) k3 (fun r q => (e_uf_ne q).trans (f3 r q)) (fun j hj => (e_upd_ne (by rw [e_tc]; omega)).trans (g3 j hj)) (fun p g => ?_) (fun p q r j hj => ?_) (by omega) (fun _ => by omega) (by omega)
        · obtain ⟨b1, b2, b3⟩ := hsg p g
          exact ⟨fun k x y => e_ok_18 (by rw [f3 13 (by decide)]; exact ph5) (b1 k x y), b2, b3⟩
        · have hj' : (j : Int) < (a2 + 1).toInt := hj
          by_cases hc : (F2 42 j).toInt.toNat = (F2 42 a2.toInt.toNat).toInt.toNat
          · have ef : (uf F3 14 (F2 42 a2.toInt.toNat) (400 * M3 27 + v)) 14 (F2 42 j).toInt.toNat = 400 * M3 27 + v := by rw [hc]; exact e_upd_eq
            rw [ef, er]
            refine ⟨?_, by omega, by omega⟩
            by_cases hj2 : (j : Int) < a2.toInt
            · exact (hh p q r j hj2).1
            · have : j = a2.toInt.toNat := by omega
              rw [this, ← heq, hv2]
              exact (fHP q (400 * (M2 27).toInt + v.toInt).toNat (by omega) (by omega)).2
          · have ef : (uf F3 14 (F2 42 a2.toInt.toNat) (400 * M3 27 + v)) 14 (F2 42 j).toInt.toNat = F3 14 (F2 42 j).toInt.toNat := e_upd_ne (by rw [e_tc]; exact hc)
            rw [ef]
            refine hh p q r j ?_
            by_cases hj2 : (j : Int) < a2.toInt
            · exact hj2
            · have : j = a2.toInt.toNat := by omega
              rw [this] at hc
              exact absurd rfl hc
      · rw [← k3 36 (by decide)]
        exact fun q => ti_ne hb (by rw [q]; decide)
  refine ⟨1000, key 1000 0 M2 F2 (fun _ _ => rfl) (fun _ _ => rfl) (fun _ _ => rfl) (fun p g => ?_) (fun _ _ _ j hj => absurd hj (by rw [e_z0]; omega)) (by decide) (fun _ => by rw [e_z0]; decide) (by decide)⟩
  exact ((tF p).2.2.2.2.2 g).1
theorem p_readX {WB : e_M → e_F → (e_M → e_F → Prop) → Prop} {n : Nat} (hB : e_BK WB n) (hn : 21 ≤ n) {p : Int32} {M : e_M} {F : e_F} {Q : Int32 → e_M → e_F → Prop} (hV : e_INV M F) (hQ : ∀ (r : Int32) (M' : e_M) (F' : e_F), e_INV M' F' → (((p.toInt < 0 ∨ (M 1).toInt < p.toInt) ∧ r = -1 ∧ M' = M ∧ F' = F) ∨ ((0 ≤ p.toInt ∧ p.toInt ≤ (M 1).toInt) ∧ M' 1 = 0 ∧ e_FX M F r M' F')) → Q r M' F') : w_read WB p M F Q := by
  refine ⟨fun h => hQ _ _ _ hV (Or.inl ⟨Or.inl (by have := Int32.lt_iff_toInt_lt.mp h; rw [e_z0] at this; exact this), rfl, rfl, rfl⟩), fun h0 => ⟨fun h1 => ?_, fun h => hQ _ _ _ hV (Or.inl ⟨Or.inr (ti_nle h), rfl, rfl, rfl⟩)⟩⟩
  have h0' := ti_nlt h0
  have h1' := Int32.le_iff_toInt_le.mp h1
  have v1 := hV.1
  rw [e_z0] at h0'
  refine p_read2X hB hn (M0 := M) hV (show 0 ≤ p.toInt ∧ p.toInt ≤ 4000 from by omega) rfl rfl rfl rfl rfl rfl rfl rfl rfl rfl rfl (fun k hk => ?_) (fun r M' F' v z fx => hQ r M' F' v (Or.inr ⟨⟨h0', h1'⟩, z, fx⟩))
  rw [e_um_ne (by omega), e_um_ne (by omega), e_um_ne (by omega), e_um_ne (by omega), e_um_ne (by omega), e_um_ne (by omega), e_um_ne (by omega), e_um_ne (by omega), e_um_ne (by omega), e_um_ne (by omega), e_um_ne (by omega), e_um_ne (by omega), e_um_ne (by omega), e_um_ne (by omega), e_um_ne (by omega)]
end ZC1
section ZC2
variable {K : k_K} {s s' : f_S3} {O : Nat × Nat} {M M' : e_M} {F F' : e_F} {y : y_X}
/-- the codes stay right when the rows of their bank do -/
theorem k_cor_b (h : k_cor K F) (h1 : ∀ r k, 13 ≤ r → r ≤ 17 → 9000 * K_B K ≤ k → k < K_E K → F' r k = F r k) (h2 : ∀ r t, 20 ≤ r → r ≤ 22 → 400 * K_B K ≤ t → t < K_T K → F' r t = F r t) (h3 : ∀ r u, 23 ≤ r → r ≤ 26 → 400 * K_B K ≤ u → u < K_V K → F' r u = F r u) (h4 : ∀ h, h < K_N K → F' 18 (400 * K_B K + h) = F 18 (400 * K_B K + h)) : k_cor K F' := by
  obtain ⟨hh, c1, c2, c3, c4⟩ := h
  refine ⟨hh, fun k a b => ?_, fun t a b => ?_, fun u a b => ?_, fun h a => ?_⟩
  · have hk := c1 k a b
    refine k_at_g (K := K) (F := F) rfl rfl rfl rfl rfl rfl rfl rfl rfl rfl (h1 13 k (by decide) (by decide) a b) (h1 14 k (by decide) (by decide) a b) (h1 15 k (by decide) (by decide) a b) (h1 16 k (by decide) (by decide) a b) (h1 17 k (by decide) (by decide) a b) (fun q => ?_) (fun _ _ => rfl) hk
    obtain ⟨t, t1, ⟨t2, t3⟩, -⟩ := hk.2.2.2.2.1 q
    rw [t1, y_cl (by omega)]
    exact h2 20 t (by decide) (by decide) t2 t3
  · obtain ⟨t1, t2, t3, t4⟩ := c2 t a b
    unfold k_t
    rw [h2 20 t (by decide) (by decide) a b, h2 21 t (by decide) (by decide) a b, h2 22 t (by decide) (by decide) a b]
    exact ⟨t1, t2, t3, t4⟩
  · obtain ⟨u1, u2, u3, u4, u5, u6, u7⟩ := c3 u a b
    unfold k_u
    rw [h3 23 u (by decide) (by decide) a b, h3 24 u (by decide) (by decide) a b, h3 25 u (by decide) (by decide) a b, h3 26 u (by decide) (by decide) a b]
    exact ⟨u1, u2, u3, u4, u5, u6, u7⟩
  · obtain ⟨e, e1, ⟨e2, e3⟩, e4, e5⟩ := c4 h a
    refine ⟨e, (h4 h a).trans e1, ⟨e2, e3⟩, e4, ?_⟩
    rcases e5 with z | ⟨z1, z2⟩
    · exact Or.inl ((h1 13 e (by decide) (by decide) e2 e3).trans z)
    · have nx := (c1 e e2 e3).2.1 (by rw [z1]; decide) (by rw [z1]; decide) (by rw [z1]; decide)
      exact Or.inr ⟨(h1 13 e (by decide) (by decide) e2 e3).trans z1, (h1 13 (e + 1) (by decide) (by decide) (by omega) nx.2).trans z2⟩
/-- how many tries and upholds a bank has -/
def k_bd (K : k_K) : Prop := K_T K ≤ 400 * K_B K + 400 ∧ K_V K ≤ 400 * K_B K + 400
/-- a read that failed: the old text -/
theorem R_t_old {r : Int32} (h : R_t K s M F) (hk : k_bd K) (fx : e_FX M F r M' F') (hr : ¬ r = 0) (e : s'.1 64 = s.1 64 ∧ s'.1 63 = s.1 63) (q : s'.2.1 20 = s.2.1 20 ∧ s'.2.1 21 = s.2.1 21 ∧ s'.2.1 22 = s.2.1 22) : R_t K s' M' F' := by
  obtain ⟨⟨a1, a2, a3⟩, a4, ⟨b1, b2, b3⟩⟩ := h
  obtain ⟨-, ff, -⟩ := fx
  obtain ⟨⟨m27, m28⟩, f1', f2'⟩ := ff hr
  obtain ⟨hT, hV⟩ := hk
  have hb := a4.1
  have e27 : (M 27).toInt = K_B K := by rw [a3]; exact fs_nI (by omega)
  rw [e27] at f1' f2'
  refine ⟨⟨by rw [e.1, m28]; exact a1, by rw [m28]; exact a2, by rw [m27]; exact a3⟩, k_cor_b a4 (fun r k x1 x2 x3 x4 => ?_) (fun r t x1 x2 x3 x4 => ?_) (fun r u x1 x2 x3 x4 => ?_) (fun h hh => ?_), ⟨by rw [e.2]; exact b1, fun i hi => by rw [q.1]; exact b2 i hi, fun h hh => ?_⟩⟩
  · obtain ⟨q1, q2, q3, q4, q5⟩ := f1' k (by omega) (by omega)
    have cs : r = 13 ∨ r = 14 ∨ r = 15 ∨ r = 16 ∨ r = 17 := by omega
    rcases cs with rfl | rfl | rfl | rfl | rfl <;> assumption
  · obtain ⟨-, ⟨q3, q4, q5⟩, -⟩ := f2' t (by omega) (by omega)
    have cs : r = 20 ∨ r = 21 ∨ r = 22 := by omega
    rcases cs with rfl | rfl | rfl <;> assumption
  · obtain ⟨-, -, q6, q7, q8, q9⟩ := f2' u (by omega) (by omega)
    have cs : r = 23 ∨ r = 24 ∨ r = 25 ∨ r = 26 := by omega
    rcases cs with rfl | rfl | rfl | rfl <;> assumption
  · exact (f2' (400 * K_B K + h) (by omega) (by omega)).1.1
  · obtain ⟨⟨q1, q2⟩, -⟩ := f2' (400 * K_B K + h) (by omega) (by omega)
    rw [q.2.1, q.2.2, q1, q2]
    exact b3 h hh
/-- a good text: the new codes -/
theorem R_t_new {b : Nat} {KP : (Nat → Int32) × (Nat → Nat → Int32)} (hc : finC s y) (he : e_fin y) (n : nf y) (al : all4 (yx y) (Y_l y).length) (hr : finR b y M F) (hx : (M 31).toInt ≤ 400 ∧ (M 32).toInt ≤ 400) : R_t (gF y KP) s M F ∧ k_bd (gF y KP) := by
  obtain ⟨⟨c1, c2⟩, c3, c4⟩ := hc n
  obtain ⟨hH, hz, hl, hv, hi⟩ := he n
  obtain ⟨⟨m27, m28, eB, hT, m31, m32⟩, r13, r14, r20, r23, r18⟩ := hr
  have hH2 := hH
  obtain ⟨⟨i, hcc⟩, hu, ⟨⟨d1, d2, d3⟩, dm, dl⟩, dh⟩ := hH2
  obtain ⟨⟨i1, i2⟩, i3, ⟨i4, im⟩, i5, i6, i7⟩ := id i
  have i6 : 4 * Y_m y 2 ≤ Y_z y := i6
  have eN : (Y_i y 1).toNatClampNeg = (Y_i y 1).toInt.toNat := rfl
  have e1 : Y_i y 1 = nI (Y_i y 1).toNatClampNeg := by
    apply Int32.toInt_inj.mp
    rw [fs_nI (by omega)]; omega
  have cor : k_cor (gF y KP) F := fin_cor hH hz hl hv hi (fun j hj => (al j hj).1) hT r13 r14 (fun r t x1 x2 x3 x4 => r20 r t x1 x2 x3 x4 (by
    have := (d2 t x3 x4).2.2.2.2.2
    have : Y_a y 7 t = 2 := this
    omega)) (fun r u x1 x2 x3 x4 => r23 r u x1 x2 x3 x4 (by
    have := (d3 u x3 x4).2.2.2.2.2.1
    have : Y_a y 8 u = 4 := this
    omega)) (fun h hh => (r18 h hh).1)
  refine ⟨⟨⟨?_, ?_, ?_⟩, cor, ⟨c1, c3, fun h hh => ⟨?_, ?_⟩⟩⟩, ?_, ?_⟩
  · rw [c2, m28]
  · rw [m28]; exact e1
  · rw [m27, ← eB]; rfl
  · have hh : h < (Y_i y 1).toNatClampNeg := hh
    obtain ⟨a, a1, ⟨a2, a3⟩, a4, a5, a6⟩ := dh h (by omega)
    rw [(c4 h (by omega) (by omega)).1, a5]
    show nI (Y_a y 0 a) = nI (Y_a y 0 (F 18 (400 * Y_B y + h)).toNatClampNeg)
    have bn : Y_n y = 9000 * Y_B y + Y_m y 0 := rfl
    rw [(r18 h (by omega)).1, a1, y_cl (by omega)]
  · have hh : h < (Y_i y 1).toNatClampNeg := hh
    rw [(c4 h (by omega) (by omega)).2]
    exact (r18 h (by omega)).2.symm
  · show 400 * Y_B y + Y_m y 1 ≤ 400 * Y_B y + 400
    have := hx.1
    rw [m31, fs_nI (by omega)] at this
    omega
  · show 400 * Y_B y + Y_m y 2 ≤ 400 * Y_B y + 400
    have := hx.2
    rw [m32, fs_nI (by omega)] at this
    omega
end ZC2
