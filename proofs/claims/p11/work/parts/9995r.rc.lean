/-! STATEMENTS without blocks, with what they put. -/
section YS3
variable {E : x_E} {x y : y_X}
theorem st_failG (hE : E_ok E) (hx : yg E 4 x) (hb : x.1 = false) (n130 : ¬ Y_ty E x = 130) (n201 : ¬ Y_ty E x = 201) (n202 : ¬ Y_ty E x = 202) (n206 : ¬ Y_ty E x = 206) (n207 : ¬ Y_ty E x = 207) (n209 : ¬ Y_ty E x = 209) (n210 : ¬ Y_ty E x = 210) (n212 : ¬ Y_ty E x = 212) (n213 : ¬ Y_ty E x = 213) (n215 : ¬ Y_ty E x = 215) (n216 : ¬ Y_ty E x = 216) : ∃ x', jSG E x x' := by
  refine ⟨Y_bd x, fun n p hp K s O Q hs hQ => ?_, fun n k M F Q Q' hr w hQ => ?_, ys_bd rfl, fun n => absurd n (nf_bd rfl)⟩
  · refine st_cG hE hx (by decide) n213 n215 n216 hs (fun s1 h1 => ?_)
    have e : s1.1 12 = Y_ty E x := (cg_ty h1).trans Y_0_ty
    have no : ∀ c : Int32, ¬ Y_ty E x = c → ¬ s1.1 12 = c := fun c hc q => hc (e.symm.trans q)
    exact st_BF (no _ n130) (no _ n201) (no _ n202) (no _ n206) (no _ n207) (no _ n209) (no _ n210) (no _ n212) (cg_fail hE h1 (fun s2 h2 => cg_take hE h2 (by decide) (by decide) (fun s3 h3 => hQ s3 (rcG_bd (h3.1.1 (Y_tk_b rfl)) rfl))))
  · refine st_0G hE n215 hr (fun M1 F1 r1 w1 => st_18G hE (x := Y_0 x) hb r1 (fun q => absurd (Y_0_ty.symm.trans q) n130) (fun _ w => ?_) w1) w
    have hq := rx_tk hE r1.1 hb
    have fl : (w_fail M1 F1 (fun M7 F7 => (Q M7 F7))) → (w_fail M1 F1 (fun M7 F7 => (Q' M7 F7))) := fun w => rg_fail hE k M1 F1 _ _ r1 w (fun M2 F2 h2 w2 => hQ M2 F2 (rxG_zb (h2.1.1 rfl) rfl) w2)
    refine st_79G hE (x := Y_0 x) hb r1 (fun a w => ?_) (fun _ w => fl w) w
    have no : ∀ (p : Nat) (c d : Int32), p < 26 → c = nI p → d = nI (200 + p) → ¬ Y_ty E x = d → ¬ M1 5 = c := fun p c d hp hc hd hn q => hn (by
      rw [Y_tyg hb, hd]
      exact (q_word hq hp).mpr ⟨a, by rw [q, hc]⟩)
    exact st_WF (no 1 1 201 (by decide) (by decide) (by decide) n201) (no 2 2 202 (by decide) (by decide) (by decide) n202) (no 6 6 206 (by decide) (by decide) (by decide) n206) (no 7 7 207 (by decide) (by decide) (by decide) n207) (no 9 9 209 (by decide) (by decide) (by decide) n209) (no 10 10 210 (by decide) (by decide) (by decide) n210) (no 12 12 212 (by decide) (by decide) (by decide) n212) (no 13 13 213 (by decide) (by decide) (by decide) n213) (no 15 15 215 (by decide) (by decide) (by decide) n215) (no 16 16 216 (by decide) (by decide) (by decide) n216) fl w
theorem st_assignG (hE : E_ok E) (hx : yg E 4 x) (z : Y_ty E x = 130) : ∃ x', jSG E x x' := by
  have hb := Y_tyn z (by decide)
  have m0 := ym_0 (yg_t hx)
  have z' : Y_ty E (Y_0 x) = 130 := Y_0_ty.trans z
  have m1 := ym_t0 m0 (ym_nm hE (ym_t m0))
  have Mm1 := (ym_nm hE (ym_t m0))
  have n1 := ym_tk hE (ym_t m1) (c := 61) (by decide)
  have m2 := ym_t0 m1 n1
  have Mm2 := ym_t0 Mm1 n1
  obtain ⟨x3, a, b, me⟩ := j_EG hE (yg_m hx m2 (c' := 10) (by decide))
  have m3 := ym_t0 m2 me
  have Mm3 := ym_t0 Mm2 me
  have n3 := ym_t0 n1 me
  have m4 := ym_t0 m3 (show ym E 0 2 0 x3 (Y_em [9, (Y_S (Y_0 x) (E_w E (Y_t (Y_0 x)))).1] (3, (Y_S (Y_0 x) (E_w E (Y_t (Y_0 x)))).1, 0, 0, -1) (Y_c x3) x3) from ym_em (ym_t m3) ho_3 (Nat.le_succ _) (fun _ => k_e_3.symm) (fun _ => h8_3))
  have Mm4 := ym_t0 Mm3 (show ym E 0 2 0 x3 (Y_em [9, (Y_S (Y_0 x) (E_w E (Y_t (Y_0 x)))).1] (3, (Y_S (Y_0 x) (E_w E (Y_t (Y_0 x)))).1, 0, 0, -1) (Y_c x3) x3) from ym_em (ym_t m3) ho_3 (Nat.le_succ _) (fun _ => k_e_3.symm) (fun _ => h8_3))
  have m5 := ym_t0 m4 (ym_tk hE (ym_t m4) (c := 59) (by decide))
  have Mm5 := ym_t0 Mm4 (ym_tk hE (ym_t m4) (c := 59) (by decide))
  refine ⟨_, fun n p hp K s O Q hs hQ => ?_, fun n k M F Q Q' hr w hQ => ?_, ym_ys hE (ym_w m5 (by decide) (by decide) rfl), fS_of Mm5.2⟩
  · refine st_cG hE hx (by decide) (by rw [z]; decide) (by rw [z]; decide) (by rw [z]; decide) hs (fun s1 h1 => st_B130 ((cg_ty h1).trans z') ?_)
    exact cg_name hE h1 (fun r s2 er h2 => cg_take hE h2 (by decide) (by decide) (fun s3 h3 => a 22 p (jbG_p hp hx m2) _ s3 O _ h3 (fun s4 h4 => cg_emit2 hE h4 (yg_lo (n := 14) (yg_m hx m3 (c' := 14) (by decide)) (by decide)) (by decide) (fun s5 h5 => cg_take hE (rc_emn h5 (by rfl) (fun n => by rw [er (nf_m n3 n)])) (by decide) (by decide) (fun s6 h6 => hQ s6 h6)))))
  · refine st_0G hE (by rw [z]; decide) hr (fun M1 F1 r1 w1 => st_18G hE (x := Y_0 x) hb r1 (fun _ w => ?_) (fun q => absurd z' q) w1) w
    refine rg_takenW hE (Or.inl ⟨rfl, rfl⟩) r1 w (fun r M2 F2 r2 hr2 w2 => ?_)
    obtain ⟨e, n47⟩ := hr2 z'
    have etk : Y_tk E 130 (Y_0 x) = Y_ad (Y_0 x) := if_pos z'
    rw [etk] at r2
    have hA := (Y_tyg hb).symm.trans z
    obtain ⟨w1', -, wL, wl⟩ := E_word hE (yg_t hx hb) (Or.inl hA)
    refine rg_need hE (c := 61) rfl k M2 F2 _ _ r2 w2 (fun M3 F3 r3 w3 => ?_)
    refine rg_told (w := E_w E (Y_t x)) hE (fun q => ⟨e, ?_, wL, n47⟩) r3 w3 (fun r' M4 F4 er r4 w4 => ?_)
    · have := ((ym_tk hE (x := Y_ad (Y_0 x)) (c := 61) (fun _ => w1') (by decide)).1 q).2.1
      exact Nat.lt_of_lt_of_le (E_l_mono hE w1' wl) (E_l_le hE (show Y_t x + 1 ≤ _ from Nat.le_of_succ_le this.1) this.2)
    · have eS : Y_S (Y_tk E 61 (Y_ad (Y_0 x))) = Y_S (Y_0 x) := by unfold Y_tk; split <;> rfl
      rw [eS] at er
      rw [Y_td_tk] at r4 er
      have en : Y_nm E (Y_0 x) = Y_td (E_w E (Y_t x)) (Y_ad (Y_0 x)) := Y_nm_e z'
      rw [← en] at r4 er
      exact b 22 k M4 F4 _ _ r4 w4 (fun M5 F5 r5 w5 => rg_need hE (c := 59) rfl k M5 F5 _ _ r5 w5 (fun M6 F6 r6 w6 => rg_put r6 w6 (fun _ M7 F7 _ r7 w7 => hQ M7 F7 (em_tk r7 (fun n => by
        rw [er (nf_m me n) ⟨Y_t x, w1', hA, rfl⟩]; rfl)) w7)))
theorem Y_ah_m {w : Nat} {p2 p3 : Bool} {a : Nat} {d : Int} {e : Int32} (hw : E_nw E w) (m : ym E a d e x y) (hy : y.1 = false) (h : X_ah w (yx x) p2 p3) : X_ah w (yx y) p2 p3 := X_ah_m hw m.1 hy h
theorem st_letG (hE : E_ok E) (hx : yg E 4 x) (z : Y_ty E x = 201) : ∃ x', jSG E x x' := by
  have hb := Y_tyn z (by decide)
  have m0 := ym_0 (yg_t hx)
  have z' : Y_ty E (Y_0 x) = 201 := Y_0_ty.trans z
  have hlt : (Y_0 x).1 = false → Y_t (Y_0 x) < E_m E := yq_lt hE (ym_t m0) z' (by decide)
  have m1 := ym_t0 m0 (ym_ad hE hlt)
  have Mm1 := (ym_ad hE hlt)
  have n1 := ym_tk hE (ym_t m1) (c := 130) (by decide)
  have n2 := ym_t0 n1 (ym_tk hE (ym_t n1) (c := 61) (by decide))
  have m2 := ym_t0 m1 n2
  have Mm2 := ym_t0 Mm1 n2
  obtain ⟨x3, a, b, me⟩ := j_EG hE (yg_m hx m2 (c' := 10) (by decide))
  have n3 := ym_t0 n2 me
  have m3 := ym_t0 m2 me
  have Mm3 := ym_t0 Mm2 me
  have good : x3.1 = false → Y_ty E (Y_ad (Y_0 x)) = 130 := fun q => (Y_tk_g (Y_tk_g (me.1 q).1).2.2).1
  have hb1 : (Y_ad (Y_0 x)).1 = false := hb
  have hw : x3.1 = false → Y_t (Y_ad (Y_0 x)) < E_m E ∧ E_V E (Y_t (Y_ad (Y_0 x))) = nI (33 + E_w E (Y_t (Y_ad (Y_0 x)))) ∧ E_w E (Y_t (Y_ad (Y_0 x))) < E_L E ∧ E_w E (Y_t (Y_ad (Y_0 x))) < (E_f E (Y_t (Y_ad (Y_0 x)) + 1)).length ∧ E_A E (Y_t (Y_ad (Y_0 x))) = 130 := fun q => by
    have hA := (Y_tyg hb1).symm.trans (good q)
    obtain ⟨c1, c2, c3, c4⟩ := E_word hE (ym_t m1 hb1) (Or.inl hA)
    exact ⟨c1, c2, c3, c4, hA⟩
  have st := ys_te (E := E) (w := E_w E (Y_t (Y_ad (Y_0 x)))) (ym_t m3) (fun q => ⟨_, (hw q).1, (hw q).2.2.2.2, rfl⟩)
  have s3 := ys_t0 (ym_ys hE m3) st
  have Ms3 := ys_t0 (ym_ys hE Mm3) st
  have s4 := ys_t0 s3 (ym_ys hE (show ym E 0 2 0 (Y_te (E_w E (Y_t (Y_ad (Y_0 x)))) x3) (Y_em [9, Y_i x3 2] (3, Y_i x3 2, 0, 0, -1) (Y_c (Y_te (E_w E (Y_t (Y_ad (Y_0 x)))) x3)) (Y_te (E_w E (Y_t (Y_ad (Y_0 x)))) x3)) from ym_em (ys_t s3) ho_3 (Nat.le_succ _) (fun _ => k_e_3.symm) (fun _ => h8_3)))
  have Ms4 := ys_t0 Ms3 (ym_ys hE (show ym E 0 2 0 (Y_te (E_w E (Y_t (Y_ad (Y_0 x)))) x3) (Y_em [9, Y_i x3 2] (3, Y_i x3 2, 0, 0, -1) (Y_c (Y_te (E_w E (Y_t (Y_ad (Y_0 x)))) x3)) (Y_te (E_w E (Y_t (Y_ad (Y_0 x)))) x3)) from ym_em (ys_t s3) ho_3 (Nat.le_succ _) (fun _ => k_e_3.symm) (fun _ => h8_3)))
  have s5 := ys_t0 s4 (ym_ys hE (ym_tk hE (ys_t s4) (c := 59) (by decide)))
  have Ms5 := ys_t0 Ms4 (ym_ys hE (ym_tk hE (ys_t s4) (c := 59) (by decide)))
  have i2 : x3.1 = false → Y_i x3 2 = Y_i (Y_ad (Y_0 x)) 2 := fun q => (n3.1 q).2.2.2.2.1.2.2
  refine ⟨_, fun n p hp K s O Q hs hQ => ?_, fun n k M F Q Q' hr w hQ => ?_, ys_w s5 (by decide) (by decide) rfl, fS_of Ms5.2⟩
  · refine st_cG hE hx (by decide) (by rw [z]; decide) (by rw [z]; decide) (by rw [z]; decide) hs (fun s1 h1 => st_B201 ((cg_ty h1).trans z') ?_)
    refine cg_adv hE h1 hlt (fun s2 h2 => cg_newName hE h2 (fun r s3' p2 p3 ah er h3 => cg_take hE h3 (by decide) (by decide) (fun s4' h4 => cg_take hE h4 (by decide) (by decide) (fun s5' h5 => a 22 p (jbG_p hp hx m2) _ s5' O _ h5 (fun s6 h6 => cg_tell (w := E_w E (Y_t (Y_ad (Y_0 x)))) hE (fun q => ?_) (fun q => ?_) (fun n => ?_) h6 (fun s7 h7 => cg_emit2 hE h7 (yg_lo (n := 14) (yg_s hx s3 (c' := 14) (by decide)) (by decide)) (by decide) (fun s8 h8 => cg_take hE (rc_emn h8 (by rfl) (fun n => ?_)) (by decide) (by decide) (fun s9 h9 => hQ s9 h9))))))))
    · obtain ⟨c1, c2, c3, -, c5⟩ := hw q
      exact ⟨(h2.1.2 hb).1.2.1.2.2.1.trans c2, c3, Y_ah_m ⟨_, c1, c5, rfl⟩ n3 q (ah (good q))⟩
    · obtain ⟨c1, c2, c3, -, c5⟩ := hw q
      exact ⟨_, c1, c5, rfl⟩
    · rw [i2 n.1]; exact er (nf_m n3 n)
    · have n := nf_s st n
      rw [i2 n.1, er (nf_m n3 n)]
  · refine st_rG hE 1 (by decide) (by decide) (by decide) z hr (fun M1 F1 r1 e5 w1 => st_W1 (e5.trans (by decide)) (fun w => ?_) w1) w
    refine rg_pass hE hlt k M1 F1 _ _ r1 w (fun M2 F2 r2 w2 => rg_takenW hE (Or.inl ⟨rfl, rfl⟩) r2 w2 (fun r M3 F3 r3 hr3 w3 => rg_need hE (c := 61) rfl k M3 F3 _ _ r3 w3 (fun M4 F4 r4 w4 => b 22 k M4 F4 _ _ r4 w4 (fun M5 F5 r5 w5 => rg_need hE (c := 59) rfl k M5 F5 _ _ r5 w5 (fun M6 F6 r6 w6 => rg_tell (w := E_w E (Y_t (Y_ad (Y_0 x)))) hE (fun q => ?_) (fun q => ?_) r6 w6 (fun M7 F7 r7 w7 => ?_))))))
    · have g := Y_tk_g q
      obtain ⟨c1, c2, c3, c4, c5⟩ := hw g.2.2
      obtain ⟨e, n47⟩ := hr3 (good g.2.2)
      have t1 := ((ym_t0 n3 (ym_tk hE (ym_t n3) (c := 59) (by decide))).1 q).2.1
      exact ⟨e, Nat.lt_of_lt_of_le (E_l_mono hE c1 c4) (E_l_le hE (by have t2 : Y_t (Y_ad (Y_0 x)) + (1 + 1 + 1 + 1) ≤ Y_t (Y_tk E 59 x3) := t1.1; omega) t1.2), c3, n47⟩
    · have g := Y_tk_g q
      obtain ⟨c1, c2, c3, c4, c5⟩ := hw g.2.2
      exact ⟨_, c1, c5, rfl⟩
    · have r7 := rg_te_tk r7
      refine rg_b0 r7 (fun q w => ?_) (fun q w => ⟨w.1, ?_⟩) w7
      · refine hQ _ _ (rxG_zb (r7.1.1 q) ?_) w
        by_cases y59 : Y_ty E (Y_te (E_w E (Y_t (Y_ad (Y_0 x)))) x3) = 59
        · have e1 : Y_tk E 59 (Y_te (E_w E (Y_t (Y_ad (Y_0 x)))) x3) = Y_ad _ := if_pos y59
          rw [e1] at q
          have q' : (Y_te (E_w E (Y_t (Y_ad (Y_0 x)))) x3).1 = true := q
          rw [Y_tyb q'] at y59
          exact absurd y59 (by decide)
        · have e2 : Y_tk E 59 (Y_em [9, Y_i x3 2] (3, Y_i x3 2, 0, 0, -1) (Y_c (Y_te (E_w E (Y_t (Y_ad (Y_0 x)))) x3)) (Y_te (E_w E (Y_t (Y_ad (Y_0 x)))) x3)) = Y_bd _ := if_neg (fun z => y59 (Y_em_ty.symm.trans z))
          rw [e2]; rfl
      · refine rg_put r7 w.2 (fun _ M8 F8 _ r8 w8 => hQ M8 F8 (em_tk r8 (fun n => ?_)) w8)
        obtain ⟨g1, g2, g3⟩ := Y_tk_g q
        obtain ⟨n1', n2', n3'⟩ := nf_te n
        obtain ⟨c1, c2, c3, c4, c5⟩ := hw n3'.1
        obtain ⟨e, n47⟩ := hr3 (good n3'.1)
        have hL : E_L E ≤ 2005 := hE.1.2.2.2.2.1
        rw [g2, n2'] at r7
        have hRG := (r7.2 n3').2.2.2.2.2.2.2.1 (E_w E (Y_t (Y_ad (Y_0 x)))) (by
          show fu (Y_u x3) (E_w E (Y_t (Y_ad (Y_0 x)))) (Y_i x3 1) (E_w E (Y_t (Y_ad (Y_0 x)))) = um (Y_i x3) 2 (Y_i x3 2 + 1) 1
          unfold fu
          rw [if_pos rfl, um_ne (by decide)])
        have hv := hRG.1 ⟨_, c1, c5, rfl⟩
        rw [e, y_cl (by omega), hv]
        show (3, (f1 (Y_S x3) (E_w E (Y_t (Y_ad (Y_0 x)))) (Y_i x3 2, Y_i x3 3) (E_w E (Y_t (Y_ad (Y_0 x))))).1, 0, 0, -1) = _
        rw [f1_eq]
theorem st_raiseG (hE : E_ok E) (hx : yg E 4 x) (z : Y_ty E x = 206) : ∃ x', jSG E x x' := by
  have m0 := ym_0 (yg_t hx)
  have z' : Y_ty E (Y_0 x) = 206 := Y_0_ty.trans z
  have hlt : (Y_0 x).1 = false → Y_t (Y_0 x) < E_m E := yq_lt hE (ym_t m0) z' (by decide)
  have m1 := ym_t0 m0 (ym_ad hE hlt)
  have Mm1 := (ym_ad hE hlt)
  have m2 := ym_t0 m1 (ym_ob hE (ym_t m1))
  have Mm2 := ym_t0 Mm1 (ym_ob hE (ym_t m1))
  have m3 := ym_t0 m2 (show ym E 0 2 0 (Y_ob E (Y_ad (Y_0 x))) (Y_em [28, (Y_S (Y_ob E (Y_ad (Y_0 x))) (E_w E (Y_t (Y_ad (Y_0 x))))).2] (14, (Y_S (Y_ob E (Y_ad (Y_0 x))) (E_w E (Y_t (Y_ad (Y_0 x))))).2, 0, 0, -1) (Y_c (Y_ob E (Y_ad (Y_0 x)))) (Y_ob E (Y_ad (Y_0 x)))) from ym_em (ym_t m2) ho_14 (Nat.le_succ _) (fun _ => k_e_14.symm) (fun _ => h8_14))
  have Mm3 := ym_t0 Mm2 (show ym E 0 2 0 (Y_ob E (Y_ad (Y_0 x))) (Y_em [28, (Y_S (Y_ob E (Y_ad (Y_0 x))) (E_w E (Y_t (Y_ad (Y_0 x))))).2] (14, (Y_S (Y_ob E (Y_ad (Y_0 x))) (E_w E (Y_t (Y_ad (Y_0 x))))).2, 0, 0, -1) (Y_c (Y_ob E (Y_ad (Y_0 x)))) (Y_ob E (Y_ad (Y_0 x)))) from ym_em (ym_t m2) ho_14 (Nat.le_succ _) (fun _ => k_e_14.symm) (fun _ => h8_14))
  have m4 := ym_t0 m3 (ym_tk hE (ym_t m3) (c := 59) (by decide))
  have Mm4 := ym_t0 Mm3 (ym_tk hE (ym_t m3) (c := 59) (by decide))
  refine ⟨_, fun n p hp K s O Q hs hQ => ?_, fun n k M F Q Q' hr w hQ => ?_, ym_ys hE (ym_w m4 (by decide) (by decide) rfl), fS_of Mm4.2⟩
  · refine st_cG hE hx (by decide) (by rw [z]; decide) (by rw [z]; decide) (by rw [z]; decide) hs (fun s1 h1 => st_B206 ((cg_ty h1).trans z') ?_)
    exact cg_adv hE h1 hlt (fun s2 h2 => cg_object hE h2 (fun r s3 er h3 => cg_emit2 hE h3 (yg_lo (n := 14) (yg_m hx m2 (c' := 14) (by decide)) (by decide)) (by decide) (fun s4 h4 => cg_take hE (rc_emn h4 (by rfl) (fun n => by rw [er n])) (by decide) (by decide) (fun s5 h5 => hQ s5 h5))))
  · refine st_rG hE 6 (by decide) (by decide) (by decide) z hr (fun M1 F1 r1 e5 w1 => st_W6 (e5.trans (by decide)) (fun w => ?_) w1) w
    exact rg_pass hE hlt k M1 F1 _ _ r1 w (fun M2 F2 r2 w2 => rg_object hE r2 w2 (fun _ M3 F3 er r3 w3 => rg_put r3 w3 (fun _ M4 F4 _ r4 w4 => rg_need hE (c := 59) rfl k M4 F4 _ _ (rx_emn (fun n => by rw [er n]) r4) w4 (fun M5 F5 r5 w5 => hQ M5 F5 r5 w5))))
theorem st_joinG (hE : E_ok E) (hx : yg E 4 x) (z : Y_ty E x = 207) : ∃ x', jSG E x x' := by
  have m0 := ym_0 (yg_t hx)
  have z' : Y_ty E (Y_0 x) = 207 := Y_0_ty.trans z
  have hlt : (Y_0 x).1 = false → Y_t (Y_0 x) < E_m E := yq_lt hE (ym_t m0) z' (by decide)
  have m1 := ym_t0 m0 (ym_ad hE hlt)
  have Mm1 := (ym_ad hE hlt)
  have m2 := ym_t0 m1 (ym_ob hE (ym_t m1))
  have Mm2 := ym_t0 Mm1 (ym_ob hE (ym_t m1))
  have n3 := ym_tk hE (ym_t m2) (c := 208) (by decide)
  have m3 := ym_t0 m2 n3
  have Mm3 := ym_t0 Mm2 n3
  have n4 := ym_t0 n3 (ym_on hE (ym_t m3))
  have m4 := ym_t0 m3 (ym_on hE (ym_t m3))
  have Mm4 := ym_t0 Mm3 (ym_on hE (ym_t m3))
  generalize ey : Y_tk E 208 (Y_ob E (Y_ad (Y_0 x))) = y4 at *
  have m5 := ym_t0 m4 (show ym E 0 3 0 (Y_on E y4) (Y_em [29, (Y_S (Y_ob E (Y_ad (Y_0 x))) (E_w E (Y_t (Y_ad (Y_0 x))))).2, if Y_ty E y4 = 203 then -1 else (Y_S (Y_on E y4) (E_w E (Y_t y4))).2] (15, (Y_S (Y_ob E (Y_ad (Y_0 x))) (E_w E (Y_t (Y_ad (Y_0 x))))).2, if Y_ty E y4 = 203 then -1 else (Y_S (Y_on E y4) (E_w E (Y_t y4))).2, 0, -1) (Y_c (Y_on E y4)) (Y_on E y4)) from ym_em (ym_t m4) ho_15 (show 1 ≤ 3 by decide) (fun _ => k_e_15.symm) (fun _ => h8_15))
  have Mm5 := ym_t0 Mm4 (show ym E 0 3 0 (Y_on E y4) (Y_em [29, (Y_S (Y_ob E (Y_ad (Y_0 x))) (E_w E (Y_t (Y_ad (Y_0 x))))).2, if Y_ty E y4 = 203 then -1 else (Y_S (Y_on E y4) (E_w E (Y_t y4))).2] (15, (Y_S (Y_ob E (Y_ad (Y_0 x))) (E_w E (Y_t (Y_ad (Y_0 x))))).2, if Y_ty E y4 = 203 then -1 else (Y_S (Y_on E y4) (E_w E (Y_t y4))).2, 0, -1) (Y_c (Y_on E y4)) (Y_on E y4)) from ym_em (ym_t m4) ho_15 (show 1 ≤ 3 by decide) (fun _ => k_e_15.symm) (fun _ => h8_15))
  have m6 := ym_t0 m5 (ym_tk hE (ym_t m5) (c := 59) (by decide))
  have Mm6 := ym_t0 Mm5 (ym_tk hE (ym_t m5) (c := 59) (by decide))
  refine ⟨_, fun n p hp K s O Q hs hQ => ?_, fun n k M F Q Q' hr w hQ => ?_, ym_ys hE (ym_w m6 (by decide) (by decide) rfl), fS_of Mm6.2⟩
  · refine st_cG hE hx (by decide) (by rw [z]; decide) (by rw [z]; decide) (by rw [z]; decide) hs (fun s1 h1 => st_B207 ((cg_ty h1).trans z') ?_)
    exact cg_adv hE h1 hlt (fun s2 h2 => cg_object hE h2 (fun r s3 er h3 => cg_take hE h3 (by decide) (by decide) (fun s4 h4 => cg_objectOrNone hE (y := y4) (by rw [← ey]; exact h4) (fun r' s5 er' h5 => cg_emit3 hE h5 (yg_lo (n := 13) (yg_m hx m4 (c' := 13) (by decide)) (by decide)) (by decide) (fun s6 h6 => cg_take hE (rc_emn h6 (by rfl) (fun n => by rw [er (nf_m n4 n), er' n])) (by decide) (by decide) (fun s7 h7 => hQ s7 h7))))))
  · refine st_rG hE 7 (by decide) (by decide) (by decide) z hr (fun M1 F1 r1 e5 w1 => st_W7 (e5.trans (by decide)) (fun w => ?_) w1) w
    refine rg_pass hE hlt k M1 F1 _ _ r1 w (fun M2 F2 r2 w2 => rg_object hE r2 w2 (fun r M3 F3 er r3 w3 => rg_needWord hE 8 (by decide) (c := 8) (d := 208) (by decide) (by decide) k M3 F3 _ _ r3 w3 (fun M4 F4 r4 w4 => ?_)))
    rw [ey] at r4
    refine rg_on hE (c := -1) (K := fun r7 M8 F8 => w_join_37 _ r r7 M8 F8) (K' := fun r7 M8 F8 => w_join_37 _ r r7 M8 F8) r4 (fun r' M5 F5 er' r5 w5 => ?_) w4
    exact rg_need hE (c := 59) rfl k M5 F5 _ _ r5 w5 (fun M6 F6 r6 w6 => rg_put r6 w6 (fun _ M7 F7 _ r7 w7 => hQ M7 F7 (em_tk r7 (fun n => by rw [er (nf_m n4 n), er' n])) w7))
theorem st_restG (hE : E_ok E) (hx : yg E 4 x) (z : Y_ty E x = 212) : ∃ x', jSG E x x' := by
  have m0 := ym_0 (yg_t hx)
  have z' : Y_ty E (Y_0 x) = 212 := Y_0_ty.trans z
  have hlt : (Y_0 x).1 = false → Y_t (Y_0 x) < E_m E := yq_lt hE (ym_t m0) z' (by decide)
  have m1 := ym_t0 m0 (ym_ad hE hlt)
  have Mm1 := (ym_ad hE hlt)
  by_cases z2 : Y_ty E (Y_ad (Y_0 x)) = 59
  · generalize ey : Y_ad (Y_0 x) = y1 at *
    have m2 := ym_t0 m1 (show ym E 0 2 0 y1 (Y_em [7, 0] (1, 0, 0, 0, -1) (Y_c y1) y1) from ym_em (ym_t m1) ho_1 (Nat.le_succ _) (fun _ => k_e_1.symm) (fun _ => h8_1))
    have Mm2 := ym_t0 Mm1 (show ym E 0 2 0 y1 (Y_em [7, 0] (1, 0, 0, 0, -1) (Y_c y1) y1) from ym_em (ym_t m1) ho_1 (Nat.le_succ _) (fun _ => k_e_1.symm) (fun _ => h8_1))
    generalize ey2 : Y_em [7, 0] (1, 0, 0, 0, -1) (Y_c y1) y1 = y2 at *
    have m3 := ym_t0 m2 (show ym E 0 1 0 y2 (Y_em [3] (19, 0, 0, 0, -1) (Y_c y2) y2) from ym_em (ym_t m2) ho_19 (Nat.le_refl _) (fun _ => k_e_19.symm) (fun _ => h8_19))
    have Mm3 := ym_t0 Mm2 (show ym E 0 1 0 y2 (Y_em [3] (19, 0, 0, 0, -1) (Y_c y2) y2) from ym_em (ym_t m2) ho_19 (Nat.le_refl _) (fun _ => k_e_19.symm) (fun _ => h8_19))
    have m4 := ym_t0 m3 (ym_tk hE (ym_t m3) (c := 59) (by decide))
    have Mm4 := ym_t0 Mm3 (ym_tk hE (ym_t m3) (c := 59) (by decide))
    refine ⟨_, fun n p hp K s O Q hs hQ => ?_, fun n k M F Q Q' hr w hQ => ?_, ym_ys hE (ym_w m4 (by decide) (by decide) rfl), fS_of Mm4.2⟩
    · refine st_cG hE hx (by decide) (by rw [z]; decide) (by rw [z]; decide) (by rw [z]; decide) hs (fun s1 h1 => st_B212 ((cg_ty h1).trans z') ?_)
      refine cg_adv hE h1 hlt (fun s2 h2 => ?_)
      rw [ey] at h2
      refine ⟨fun q => absurd ((cg_ty h2).trans z2) q, fun _ => ?_⟩
      exact cg_emit2 hE h2 (yg_lo (n := 14) (yg_m hx m1 (c' := 14) (by decide)) (by decide)) (by decide) (fun s3 h3 => cg_emit hE (y := y2) (by rw [← ey2]; exact rc_em h3) (yg_lo (n := 15) (yg_m hx m2 (c' := 15) (by decide)) (by decide)) (by decide) (fun s4 h4 => cg_take hE (rc_em h4) (by decide) (by decide) (fun s5 h5 => hQ s5 h5)))
    · refine st_rG hE 12 (by decide) (by decide) (by decide) z hr (fun M1 F1 r1 e5 w1 => st_W12 (e5.trans (by decide)) (fun w => ?_) w1) w
      refine rg_pass hE hlt k M1 F1 _ _ r1 w (fun M2 F2 r2 w2 => ?_)
      rw [ey] at r2
      refine rg_s0 hE r2 (c := 59) rfl (fun _ w => ?_) (fun q => absurd z2 q) w2
      exact rg_put r2 w (fun _ M3 F3 _ r3 w3 => rg_need hE (y := y2) (c := 59) rfl k M3 F3 _ _ (by rw [← ey2]; exact rx_em r3) w3 (fun M4 F4 r4 w4 => rg_put r4 w4 (fun _ M5 F5 _ r5 w5 => hQ M5 F5 (em_tk r5 (fun _ => rfl)) w5)))
  · obtain ⟨x3, a, b, me⟩ := j_EG hE (yg_m hx m1 (c' := 10) (by decide))
    have m2 := ym_t0 m1 me
    have Mm2 := ym_t0 Mm1 me
    have m3 := ym_t0 m2 (show ym E 0 1 0 x3 (Y_em [3] (19, 0, 0, 0, -1) (Y_c x3) x3) from ym_em (ym_t m2) ho_19 (Nat.le_refl _) (fun _ => k_e_19.symm) (fun _ => h8_19))
    have Mm3 := ym_t0 Mm2 (show ym E 0 1 0 x3 (Y_em [3] (19, 0, 0, 0, -1) (Y_c x3) x3) from ym_em (ym_t m2) ho_19 (Nat.le_refl _) (fun _ => k_e_19.symm) (fun _ => h8_19))
    have m4 := ym_t0 m3 (ym_tk hE (ym_t m3) (c := 59) (by decide))
    have Mm4 := ym_t0 Mm3 (ym_tk hE (ym_t m3) (c := 59) (by decide))
    refine ⟨_, fun n p hp K s O Q hs hQ => ?_, fun n k M F Q Q' hr w hQ => ?_, ym_ys hE (ym_w m4 (by decide) (by decide) rfl), fS_of Mm4.2⟩
    · refine st_cG hE hx (by decide) (by rw [z]; decide) (by rw [z]; decide) (by rw [z]; decide) hs (fun s1 h1 => st_B212 ((cg_ty h1).trans z') ?_)
      refine cg_adv hE h1 hlt (fun s2 h2 => ⟨fun _ => ?_, fun q => absurd ((cg_ty h2).symm.trans q) z2⟩)
      exact a 22 p (jbG_p hp hx m1) _ s2 O _ h2 (fun s3 h3 => cg_emit hE h3 (yg_lo (n := 15) (yg_m hx m2 (c' := 15) (by decide)) (by decide)) (by decide) (fun s4 h4 => cg_take hE (rc_em h4) (by decide) (by decide) (fun s5 h5 => hQ s5 h5)))
    · refine st_rG hE 12 (by decide) (by decide) (by decide) z hr (fun M1 F1 r1 e5 w1 => st_W12 (e5.trans (by decide)) (fun w => ?_) w1) w
      refine rg_pass hE hlt k M1 F1 _ _ r1 w (fun M2 F2 r2 w2 => ?_)
      refine rg_s0 hE r2 (c := 59) rfl (fun q => absurd q z2) (fun _ w => ?_) w2
      exact b 22 k M2 F2 _ _ r2 w (fun M3 F3 r3 w3 => rg_need hE (c := 59) rfl k M3 F3 _ _ r3 w3 (fun M4 F4 r4 w4 => rg_put r4 w4 (fun _ M5 F5 _ r5 w5 => hQ M5 F5 (em_tk r5 (fun _ => rfl)) w5)))
theorem st_noteG (hE : E_ok E) (hx : yg E 4 x) (z : Y_ty E x = 209) : ∃ x', jSG E x x' := by
  have hb := Y_tyn z (by decide)
  have m0 := ym_0 (yg_t hx)
  have z' : Y_ty E (Y_0 x) = 209 := Y_0_ty.trans z
  have hlt : (Y_0 x).1 = false → Y_t (Y_0 x) < E_m E := yq_lt hE (ym_t m0) z' (by decide)
  have m1 := ym_t0 m0 (ym_ad hE hlt)
  have Mm1 := (ym_ad hE hlt)
  have hb1 : (Y_ad (Y_0 x)).1 = false := hb
  generalize ey : Y_ad (Y_0 x) = y1 at *
  by_cases z2 : Y_ty E y1 = 131
  · have m2 := ym_t0 m1 (ym_ob hE (ym_t m1))
    have Mm2 := ym_t0 Mm1 (ym_ob hE (ym_t m1))
    by_cases z3 : X_iq (Y_ty E (Y_ob E y1))
    · have ma := ym_as hE (ym_t m2)
      have m3 := ym_t0 m2 ma
      have Mm3 := ym_t0 Mm2 ma
      have m4 := ym_t0 m2 (ym_aq hE (Y_S (Y_ob E y1) (E_w E (Y_t y1))).2 (ym_t m2))
      have Mm4 := ym_t0 Mm2 (ym_aq hE (Y_S (Y_ob E y1) (E_w E (Y_t y1))).2 (ym_t m2))
      obtain ⟨x3, a, b, me⟩ := j_RG hE (yg_m hx m4 (c' := 10) (by decide))
      have m5 := ym_t0 m4 me
      have Mm5 := ym_t0 Mm4 me
      have m6 := ym_t0 m5 (show ym E 0 1 0 x3 (Y_em [1] (16, 0, 0, 0, -1) (Y_c x3) x3) from ym_em (ym_t m5) ho_16 (Nat.le_refl _) (fun _ => k_e_16.symm) (fun _ => h8_16))
      have Mm6 := ym_t0 Mm5 (show ym E 0 1 0 x3 (Y_em [1] (16, 0, 0, 0, -1) (Y_c x3) x3) from ym_em (ym_t m5) ho_16 (Nat.le_refl _) (fun _ => k_e_16.symm) (fun _ => h8_16))
      have m7 := ym_t0 m6 (ym_tk hE (ym_t m6) (c := 59) (by decide))
      have Mm7 := ym_t0 Mm6 (ym_tk hE (ym_t m6) (c := 59) (by decide))
      refine ⟨_, fun n p hp K s O Q hs hQ => ?_, fun n k M F Q Q' hr w hQ => ?_, ym_ys hE (ym_w m7 (by decide) (by decide) rfl), fS_of Mm7.2⟩
      · refine st_cG hE hx (by decide) (by rw [z]; decide) (by rw [z]; decide) (by rw [z]; decide) hs (fun s1 h1 => st_B209 ((cg_ty h1).trans z') ?_)
        refine cg_adv hE h1 hlt (fun s2 h2 => ?_)
        rw [ey] at h2
        refine ⟨fun _ => cg_object hE h2 (fun r s3 er h3 => ?_), fun q => absurd ((cg_ty h2).trans z2) q⟩
        have go : wF_X7_noting_50 (E_N E) (cff (E_N E) 22) (fun M35 O35 => (wF_X7_statement_236 (E_N E) (cff (E_N E) 22) (cb (E_N E) n) Q M35 O35)) p r s3 O := by
          refine cg_asked hE h3 (K := fun t1 t3 s' O' => wF_X7_noting_75 (E_N E) (cff (E_N E) 22) (fun M35 O35 => (wF_X7_statement_236 (E_N E) (cff (E_N E) 22) (cb (E_N E) n) Q M35 O35)) p t1 r t3 s' O') (fun t1 t3 s4 ea eb ev h4 => cg_emit3 hE h4 (yg_lo (n := 13) (yg_m hx m3 (c' := 13) (by decide)) (by decide)) (by decide) (fun s5 h5 => a 22 p (jbG_p hp hx m4) _ s5 O _ (rc_emn h5 Y_al3 (fun n => ?_)) (fun s6 h6 => cg_emit hE h6 (yg_lo (n := 15) (yg_m hx m5 (c' := 15) (by decide)) (by decide)) (by decide) (fun s7 h7 => cg_take hE (rc_em h7) (by decide) (by decide) (fun s8 h8 => hQ s8 h8)))))
          rw [er (nf_m ma n), ev n]
          unfold Y_al
          by_cases q : Y_ty E (Y_ob E y1) = 224
          · rw [ea q, if_pos q]
          · rw [eb q, if_neg q]
        have e3 := cg_ty h3
        exact ⟨fun _ => go, fun q1 => ⟨fun q2 => absurd z3 (fun q => q.elim (fun q => q1 (e3.trans q)) (fun q => q2 (e3.trans q))), fun _ => go⟩⟩
      · refine st_rG hE 9 (by decide) (by decide) (by decide) z hr (fun M1 F1 r1 e5 w1 => st_W9 (e5.trans (by decide)) (fun w => ?_) w1) w
        refine rg_pass hE hlt k M1 F1 _ _ r1 w (fun M2 F2 r2 w2 => ?_)
        rw [ey] at r2
        have hmm := rg_m4 hE r2 hb1
        refine rg_b1 r2 (fun q => absurd (q.symm.trans hb1) (by decide)) (fun _ w => ⟨fun q => absurd (hmm.2.2.1.mp z2) q, fun q => ?_⟩) w2
        refine rg_object hE r2 (w.2 q) (fun r M3 F3 er r3 w3 => ?_)
        have go : w_note_42 (wf_fac 22) (fun M21 F21 => (Q M21 F21)) r M3 F3 → w_note_42 (wf_fac 22) (fun M21 F21 => (Q' M21 F21)) r M3 F3 := fun w => rg_asked hE (fun n => er (nf_m ma n)) k M3 F3 _ _ r3 w (fun M4 F4 r4 w4 => b 22 k M4 F4 _ _ r4 w4 (fun M5 F5 r5 w5 => rg_put r5 w5 (fun _ M6 F6 _ r6 w6 => rg_need hE (c := 59) rfl k M6 F6 _ _ (rx_em r6) w6 (fun M7 F7 r7 w7 => hQ M7 F7 r7 w7))))
        refine rg_w1 hE r3 24 (by decide) (c := 24) (d := 224) (by decide) (by decide) (fun _ w => go w) (fun q1 w => ?_) w3
        exact rg_w0 hE r3 25 (by decide) (c := 25) (d := 225) (by decide) (by decide) (fun _ w => go w) (fun q2 _ => absurd z3 (fun q => q.elim q1 q2)) w
    · have m3 := ym_t0 m2 (show ym E 0 2 0 (Y_ob E y1) (Y_em [30, (Y_S (Y_ob E y1) (E_w E (Y_t y1))).2] (17, (Y_S (Y_ob E y1) (E_w E (Y_t y1))).2, 0, 0, -1) (Y_c (Y_ob E y1)) (Y_ob E y1)) from ym_em (ym_t m2) ho_17 (Nat.le_succ _) (fun _ => k_e_17.symm) (fun _ => h8_17))
      have Mm3 := ym_t0 Mm2 (show ym E 0 2 0 (Y_ob E y1) (Y_em [30, (Y_S (Y_ob E y1) (E_w E (Y_t y1))).2] (17, (Y_S (Y_ob E y1) (E_w E (Y_t y1))).2, 0, 0, -1) (Y_c (Y_ob E y1)) (Y_ob E y1)) from ym_em (ym_t m2) ho_17 (Nat.le_succ _) (fun _ => k_e_17.symm) (fun _ => h8_17))
      have m4 := ym_t0 m3 (ym_tk hE (ym_t m3) (c := 59) (by decide))
      have Mm4 := ym_t0 Mm3 (ym_tk hE (ym_t m3) (c := 59) (by decide))
      refine ⟨_, fun n p hp K s O Q hs hQ => ?_, fun n k M F Q Q' hr w hQ => ?_, ym_ys hE (ym_w m4 (by decide) (by decide) rfl), fS_of Mm4.2⟩
      · refine st_cG hE hx (by decide) (by rw [z]; decide) (by rw [z]; decide) (by rw [z]; decide) hs (fun s1 h1 => st_B209 ((cg_ty h1).trans z') ?_)
        refine cg_adv hE h1 hlt (fun s2 h2 => ?_)
        rw [ey] at h2
        refine ⟨fun _ => cg_object hE h2 (fun r s3 er h3 => ?_), fun q => absurd ((cg_ty h2).trans z2) q⟩
        have e3 := cg_ty h3
        exact ⟨fun q => absurd (Or.inl (e3.symm.trans q)) z3, fun _ => ⟨fun _ => cg_emit2 hE h3 (yg_lo (n := 14) (yg_m hx m2 (c' := 14) (by decide)) (by decide)) (by decide) (fun s4 h4 => cg_take hE (rc_emn h4 (by rfl) (fun n => by rw [er n])) (by decide) (by decide) (fun s5 h5 => hQ s5 h5)), fun q => absurd (Or.inr (e3.symm.trans q)) z3⟩⟩
      · refine st_rG hE 9 (by decide) (by decide) (by decide) z hr (fun M1 F1 r1 e5 w1 => st_W9 (e5.trans (by decide)) (fun w => ?_) w1) w
        refine rg_pass hE hlt k M1 F1 _ _ r1 w (fun M2 F2 r2 w2 => ?_)
        rw [ey] at r2
        have hmm := rg_m4 hE r2 hb1
        refine rg_b1 r2 (fun q => absurd (q.symm.trans hb1) (by decide)) (fun _ w => ⟨fun q => absurd (hmm.2.2.1.mp z2) q, fun q => ?_⟩) w2
        refine rg_object hE r2 (w.2 q) (fun r M3 F3 er r3 w3 => ?_)
        refine rg_w1 hE r3 24 (by decide) (c := 24) (d := 224) (by decide) (by decide) (fun q _ => absurd (Or.inl q) z3) (fun q1 w => ?_) w3
        refine rg_w0 hE r3 25 (by decide) (c := 25) (d := 225) (by decide) (by decide) (fun q _ => absurd (Or.inr q) z3) (fun q2 w => ?_) w
        exact rg_put r3 w (fun _ M4 F4 _ r4 w4 => rg_need hE (c := 59) rfl k M4 F4 _ _ (rx_emn (fun n => by rw [er n]) r4) w4 (fun M5 F5 r5 w5 => hQ M5 F5 r5 w5))
  · obtain ⟨x3, a, b, me⟩ := j_EG hE (yg_m hx m1 (c' := 10) (by decide))
    have m2 := ym_t0 m1 me
    have Mm2 := ym_t0 Mm1 me
    have m3 := ym_t0 m2 (show ym E 0 1 0 x3 (Y_em [1] (16, 0, 0, 0, -1) (Y_c x3) x3) from ym_em (ym_t m2) ho_16 (Nat.le_refl _) (fun _ => k_e_16.symm) (fun _ => h8_16))
    have Mm3 := ym_t0 Mm2 (show ym E 0 1 0 x3 (Y_em [1] (16, 0, 0, 0, -1) (Y_c x3) x3) from ym_em (ym_t m2) ho_16 (Nat.le_refl _) (fun _ => k_e_16.symm) (fun _ => h8_16))
    have m4 := ym_t0 m3 (ym_tk hE (ym_t m3) (c := 59) (by decide))
    have Mm4 := ym_t0 Mm3 (ym_tk hE (ym_t m3) (c := 59) (by decide))
    refine ⟨_, fun n p hp K s O Q hs hQ => ?_, fun n k M F Q Q' hr w hQ => ?_, ym_ys hE (ym_w m4 (by decide) (by decide) rfl), fS_of Mm4.2⟩
    · refine st_cG hE hx (by decide) (by rw [z]; decide) (by rw [z]; decide) (by rw [z]; decide) hs (fun s1 h1 => st_B209 ((cg_ty h1).trans z') ?_)
      refine cg_adv hE h1 hlt (fun s2 h2 => ?_)
      rw [ey] at h2
      refine ⟨fun q => absurd ((cg_ty h2).symm.trans q) z2, fun _ => ?_⟩
      exact a 22 p (jbG_p hp hx m1) _ s2 O _ h2 (fun s3 h3 => cg_emit hE h3 (yg_lo (n := 15) (yg_m hx m2 (c' := 15) (by decide)) (by decide)) (by decide) (fun s4 h4 => cg_take hE (rc_em h4) (by decide) (by decide) (fun s5 h5 => hQ s5 h5)))
    · refine st_rG hE 9 (by decide) (by decide) (by decide) z hr (fun M1 F1 r1 e5 w1 => st_W9 (e5.trans (by decide)) (fun w => ?_) w1) w
      refine rg_pass hE hlt k M1 F1 _ _ r1 w (fun M2 F2 r2 w2 => ?_)
      rw [ey] at r2
      have hmm := rg_m4 hE r2 hb1
      refine rg_b1 r2 (fun q => absurd (q.symm.trans hb1) (by decide)) (fun _ w => ⟨fun q => ?_, fun q => absurd (hmm.2.2.1.mpr q) z2⟩) w2
      exact b 22 k M2 F2 _ _ r2 (w.1 q) (fun M3 F3 r3 w3 => rg_put r3 w3 (fun _ M4 F4 _ r4 w4 => rg_need hE (c := 59) rfl k M4 F4 _ _ (rx_em r4) w4 (fun M5 F5 r5 w5 => hQ M5 F5 r5 w5)))
end YS3
