/-! STATEMENTS without blocks. -/
section XS3
variable {E : x_E} {x y : x_X}
theorem E_l_le (hE : E_ok E) {t t' : Nat} (h : t ≤ t') (ht : t' ≤ E_m E) : E_l E t ≤ E_l E t' := by
  induction t' with
  | zero => have e : t = 0 := by omega
            rw [e]; exact Nat.le_refl _
  | succ t' ih =>
    by_cases q : t = t' + 1
    · rw [q]; exact Nat.le_refl _
    · have := ih (by omega) (by omega)
      have := (E_l_s hE (t := t') (by omega)).1
      omega
theorem X_tk_g {c : Int32} (h : (X_tk E c x).1 = false) : X_ty E x = c ∧ X_tk E c x = X_ad x ∧ x.1 = false := by
  unfold X_tk at h ⊢
  by_cases q : X_ty E x = c
  · rw [if_pos q] at h ⊢
    exact ⟨q, rfl, h⟩
  · rw [if_neg q] at h
    exact absurd h (by show ¬ true = false; decide)
theorem re_pt_tk {k : x_B} {M : Nat → Int32} {F : Nat → Nat → Int32} {c : Int32} {j : Nat} (h : rxx E k M F (X_tk E c x)) : rxx E k M F (X_tk E c (X_pt j x)) := by
  unfold X_tk at h ⊢
  have e : X_ty E (X_pt j x) = X_ty E x := rfl
  rw [e]
  by_cases q : X_ty E x = c
  · rw [if_pos q] at h ⊢; exact h
  · rw [if_neg q] at h ⊢; exact h
theorem X_tk_b {c : Int32} (h : x.1 = true) : (X_tk E c x).1 = true := by
  unfold X_tk
  split
  · exact h
  · rfl
theorem re_on (hE : E_ok E) {k : x_B} {M : Nat → Int32} {F : Nat → Nat → Int32} {c : Int32} {K K' : Int32 → (Nat → Int32) → (Nat → Nat → Int32) → Prop} (hr : rxx E k M F x) (hK : ∀ r M' F', rxx E k M' F' (X_on E x) → K r M' F' → K' r M' F') (w : w_isWord 3 M F (fun r5 M6 F6 => ((r5 = 0 → (w_object M6 F6 (fun r7 M8 F8 => K r7 M8 F8))) ∧ (¬ r5 = 0 → (w_pass M6 F6 (fun M12 F12 => K c M12 F12)))))) : w_isWord 3 M F (fun r5 M6 F6 => ((r5 = 0 → (w_object M6 F6 (fun r7 M8 F8 => K' r7 M8 F8))) ∧ (¬ r5 = 0 → (w_pass M6 F6 (fun M12 F12 => K' c M12 F12))))) := by
  unfold X_on at hK
  refine re_w0 hE hr 3 (by decide) (c := 3) (d := 203) (by decide) (by decide) (fun z w => ?_) (fun z w => ?_) w
  · rw [if_pos z] at hK
    exact re_pass hE (re_lt hE hr (fun q => absurd (q.symm.trans z) (by decide))) k M F _ _ hr w (fun M1 F1 h1 w1 => hK _ M1 F1 h1 w1)
  · rw [if_neg z] at hK
    exact re_object hE k M F _ _ hr w (fun r M1 F1 h1 w1 => hK r M1 F1 h1 w1)
/-- no statement begins so -/
theorem st_fail (hE : E_ok E) (hx : xg E 4 x) (hb : x.1 = false) (n130 : ¬ X_ty E x = 130) (n201 : ¬ X_ty E x = 201) (n202 : ¬ X_ty E x = 202) (n206 : ¬ X_ty E x = 206) (n207 : ¬ X_ty E x = 207) (n209 : ¬ X_ty E x = 209) (n210 : ¬ X_ty E x = 210) (n212 : ¬ X_ty E x = 212) (n213 : ¬ X_ty E x = 213) (n215 : ¬ X_ty E x = 215) (n216 : ¬ X_ty E x = 216) : ∃ x', jSx E x x' := by
  refine ⟨X_bd x, fun n p hp K s O Q hs hQ => ?_, fun n k M F Q Q' hr w hQ => ?_, xs_bd rfl⟩
  · refine st_c hE hx (by decide) n213 n215 n216 hs (fun s1 h1 => ?_)
    have e0 := c_ty h1
    have e : s1.1 12 = X_ty E x := e0
    have no : ∀ c : Int32, ¬ X_ty E x = c → ¬ s1.1 12 = c := fun c hc q => hc (e.symm.trans q)
    exact st_BF (no _ n130) (no _ n201) (no _ n202) (no _ n206) (no _ n207) (no _ n209) (no _ n210) (no _ n212) (c_fail hE h1 (fun s2 h2 => c_take hE h2 (by decide) (by decide) (fun s3 h3 => hQ s3 (rc_bd (h3.1 (X_tk_b rfl)) rfl))))
  · refine st_0 hE hr (fun M1 F1 r1 w1 => st_18 hE hb r1 (fun q => absurd q n130) (fun _ w => ?_) w1) w
    have hq := rx_tk hE r1 hb
    have fl : (w_fail M1 F1 (fun M7 F7 => (Q M7 F7))) → (w_fail M1 F1 (fun M7 F7 => (Q' M7 F7))) := fun w => re_fail hE k M1 F1 _ _ r1 w (fun M2 F2 h2 w2 => hQ M2 F2 h2 w2)
    refine st_79 hE hb r1 (fun a w => ?_) (fun _ w => fl w) w
    have no : ∀ (p : Nat) (c d : Int32), p < 26 → c = nI p → d = nI (200 + p) → ¬ X_ty E x = d → ¬ M1 5 = c := fun p c d hp hc hd hn q => hn (by
      rw [X_tyg hb, hd]
      exact (q_word hq hp).mpr ⟨a, by rw [q, hc]⟩)
    exact st_WF (no 1 1 201 (by decide) (by decide) (by decide) n201) (no 2 2 202 (by decide) (by decide) (by decide) n202) (no 6 6 206 (by decide) (by decide) (by decide) n206) (no 7 7 207 (by decide) (by decide) (by decide) n207) (no 9 9 209 (by decide) (by decide) (by decide) n209) (no 10 10 210 (by decide) (by decide) (by decide) n210) (no 12 12 212 (by decide) (by decide) (by decide) n212) (no 13 13 213 (by decide) (by decide) (by decide) n213) (no 15 15 215 (by decide) (by decide) (by decide) n215) (no 16 16 216 (by decide) (by decide) (by decide) n216) fl w
theorem st_assign (hE : E_ok E) (hn : E_no E) (hx : xg E 4 x) (z : X_ty E x = 130) : ∃ x', jSx E x x' := by
  have hb := X_tyn z (by decide)
  have m0 := xm_pt (xg_t hx) 1
  have m1 := xm_t0 m0 (xm_nm hE (xm_t m0))
  have m2 := xm_t0 m1 (xm_tk hE (xm_t m1) (c := 61) (by decide))
  obtain ⟨x3, a, b, me⟩ := j_E hE hn (xg_m hx m2 (c' := 10) (by decide))
  have m3 := xm_t0 m2 me
  have m4 := xm_t0 m3 (xm_pt (xm_t m3) 2)
  have m5 := xm_t0 m4 (xm_tk hE (xm_t m4) (c := 59) (by decide))
  refine ⟨_, fun n p hp K s O Q hs hQ => ?_, fun n k M F Q Q' hr w hQ => ?_, xm_xs hE (xm_w m5 (by decide) (by decide) rfl)⟩
  · refine st_c hE hx (by decide) (by rw [z]; decide) (by rw [z]; decide) (by rw [z]; decide) hs (fun s1 h1 => st_B130 ((c_ty h1).trans z) ?_)
    exact c_name hE h1 (fun r s2 h2 => c_take hE h2 (by decide) (by decide) (fun s3 h3 => a 22 p (jb_p hp hx m2) _ s3 O _ h3 (fun s4 h4 => c_emit2 hE h4 (xg_lo (n := 14) (xg_m hx m3 (c' := 14) (by decide)) (by decide)) (by decide) (fun s5 h5 => c_take hE h5 (by decide) (by decide) (fun s6 h6 => hQ s6 h6)))))
  · refine st_0 hE hr (fun M1 F1 r1 w1 => st_18 hE hb r1 (fun _ w => ?_) (fun q => absurd z q) w1) w
    have r1 : rxx E k M1 F1 (X_pt 1 x) := rx_pt r1
    have z' : X_ty E (X_pt 1 x) = 130 := z
    refine re_takenW hE (Or.inl ⟨rfl, rfl⟩) r1 w (fun r M2 F2 r2 hr2 w2 => ?_)
    obtain ⟨e, n47⟩ := hr2 z'
    have etk : X_tk E 130 (X_pt 1 x) = X_ad (X_pt 1 x) := by unfold X_tk; rw [if_pos z']
    rw [etk] at r2
    have hA := (X_tyg hb).symm.trans z
    obtain ⟨w1', -, wL, wl⟩ := E_word hE (xg_t hx hb) (Or.inl hA)
    refine re_need hE (c := 61) rfl k M2 F2 _ _ r2 w2 (fun M3 F3 r3 w3 => ?_)
    refine re_told (w := E_w E (X_t x)) hE (fun q => ⟨e, ?_, wL, n47⟩) r3 w3 (fun r' M4 F4 r4 w4 => ?_)
    · have := (xm_tk hE (x := X_ad (X_pt 1 x)) (c := 61) (fun _ => w1') (by decide) q).2.1
      exact Nat.lt_of_lt_of_le (E_l_mono hE w1' wl) (E_l_le hE (show X_t x + 1 ≤ _ from Nat.le_of_succ_le this.1) this.2)
    · rw [X_td_tk] at r4
      have en : X_nm E (X_pt 1 x) = X_td (E_w E (X_t x)) (X_ad (X_pt 1 x)) := X_nm_e z'
      rw [← en] at r4
      exact b 22 k M4 F4 _ _ r4 w4 (fun M5 F5 r5 w5 => re_need hE (c := 59) rfl k M5 F5 _ _ (rx_pt (j := 2) r5) w5 (fun M6 F6 r6 w6 => re_put k M6 F6 _ _ r6 w6 (fun _ M7 F7 r7 w7 => hQ M7 F7 r7 w7)))
theorem st_let (hE : E_ok E) (hn : E_no E) (hx : xg E 4 x) (z : X_ty E x = 201) : ∃ x', jSx E x x' := by
  have hb := X_tyn z (by decide)
  have hlt := xq_lt hE (xg_t hx) z (by decide)
  have m0 := xm_pt (xg_t hx) 1
  have m1 := xm_t0 m0 (xm_ad hE (x := X_pt 1 x) hlt)
  have n1 := xm_tk hE (xm_t m1) (c := 130) (by decide)
  have n2 := xm_t0 n1 (xm_tk hE (xm_t n1) (c := 61) (by decide))
  have m2 := xm_t0 m1 n2
  obtain ⟨x3, a, b, me⟩ := j_E hE hn (xg_m hx m2 (c' := 10) (by decide))
  have n3 := xm_t0 n2 me
  have m3 := xm_t0 m2 me
  have s3 := xs_t0 (xm_xs hE m3) (xs_te (w := E_w E (X_t (X_ad (X_pt 1 x)))) (xm_t m3))
  have s4 := xs_t0 s3 (xm_xs hE (xm_pt (xs_t s3) 2))
  have s5 := xs_t0 s4 (xm_xs hE (xm_tk hE (xs_t s4) (c := 59) (by decide)))
  have good : x3.1 = false → X_ty E (X_ad (X_pt 1 x)) = 130 := fun q => (X_tk_g (X_tk_g (me q).1).2.2).1
  have hw : x3.1 = false → X_t (X_ad (X_pt 1 x)) < E_m E ∧ E_V E (X_t (X_ad (X_pt 1 x))) = nI (33 + E_w E (X_t (X_ad (X_pt 1 x)))) ∧ E_w E (X_t (X_ad (X_pt 1 x))) < E_L E ∧ E_w E (X_t (X_ad (X_pt 1 x))) < (E_f E (X_t (X_ad (X_pt 1 x)) + 1)).length ∧ E_A E (X_t (X_ad (X_pt 1 x))) = 130 := fun q => by
    have hb1 : (X_ad (X_pt 1 x)).1 = false := hb
    have hA := (X_tyg hb1).symm.trans (good q)
    obtain ⟨c1, c2, c3, c4⟩ := E_word hE (xm_t m1 hb1) (Or.inl hA)
    exact ⟨c1, c2, c3, c4, hA⟩
  refine ⟨_, fun n p hp K s O Q hs hQ => ?_, fun n k M F Q Q' hr w hQ => ?_, xs_w s5 (by decide) (by decide) rfl⟩
  · refine st_c hE hx (by decide) (by rw [z]; decide) (by rw [z]; decide) (by rw [z]; decide) hs (fun s1 h1 => st_B201 ((c_ty h1).trans z) ?_)
    refine c_adv hE h1 hlt (fun s2 h2 => c_newName hE h2 (fun r s3' p2 p3 ah h3 => c_take hE h3 (by decide) (by decide) (fun s4' h4 => c_take hE h4 (by decide) (by decide) (fun s5' h5 => a 22 p (jb_p hp hx m2) _ s5' O _ h5 (fun s6 h6 => c_tell (w := E_w E (X_t (X_ad (X_pt 1 x)))) hE (fun q => ?_) h6 (fun s7 h7 => c_emit2 hE h7 (xg_lo (n := 14) (xg_s hx s3 (c' := 14) (by decide)) (by decide)) (by decide) (fun s8 h8 => c_take hE h8 (by decide) (by decide) (fun s9 h9 => hQ s9 h9))))))))
    obtain ⟨c1, c2, c3, -, c5⟩ := hw q
    exact ⟨(h2.2 hb).1.2.1.2.2.1.trans c2, c3, X_ah_m ⟨_, c1, c5, rfl⟩ n3 q (ah (good q))⟩
  · refine st_r hE 1 (by decide) (by decide) z hr (fun M1 F1 r1 e5 w1 => st_W1 (e5.trans (by decide)) (fun w => ?_) w1) w
    refine re_pass hE (x := X_pt 1 x) hlt k M1 F1 _ _ (rx_pt r1) w (fun M2 F2 r2 w2 => re_takenW hE (Or.inl ⟨rfl, rfl⟩) r2 w2 (fun r M3 F3 r3 hr3 w3 => re_need hE (c := 61) rfl k M3 F3 _ _ r3 w3 (fun M4 F4 r4 w4 => b 22 k M4 F4 _ _ r4 w4 (fun M5 F5 r5 w5 => re_need hE (c := 59) rfl k M5 F5 _ _ r5 w5 (fun M6 F6 r6 w6 => re_tell (w := E_w E (X_t (X_ad (X_pt 1 x)))) hE (fun q => ?_) r6 w6 (fun M7 F7 r7 w7 => ?_))))))
    · have g := X_tk_g q
      obtain ⟨c1, c2, c3, c4, c5⟩ := hw g.2.2
      obtain ⟨e, n47⟩ := hr3 (good g.2.2)
      have t1 := (xm_t0 n3 (xm_tk hE (xm_t n3) (c := 59) (by decide)) q).2.1
      exact ⟨e, Nat.lt_of_lt_of_le (E_l_mono hE c1 c4) (E_l_le hE (by have := t1.1; omega) t1.2), c3, n47⟩
    · have r7 := re_pt_tk (j := 2) (re_te_tk r7)
      exact re_b0 r7 (fun _ w => hQ _ _ r7 w) (fun _ w => ⟨w.1, re_put k _ _ _ _ r7 w.2 (fun _ M8 F8 r8 w8 => hQ M8 F8 r8 w8)⟩) w7
theorem st_raise (hE : E_ok E) (hn : E_no E) (hx : xg E 4 x) (z : X_ty E x = 206) : ∃ x', jSx E x x' := by
  have hlt := xq_lt hE (xg_t hx) z (by decide)
  have m0 := xm_pt (xg_t hx) 1
  have m1 := xm_t0 m0 (xm_ad hE (x := X_pt 1 x) hlt)
  have m2 := xm_t0 m1 (xm_ob hE hn (xm_t m1))
  have m3 := xm_t0 m2 (xm_pt (xm_t m2) 2)
  have m4 := xm_t0 m3 (xm_tk hE (xm_t m3) (c := 59) (by decide))
  refine ⟨_, fun n p hp K s O Q hs hQ => ?_, fun n k M F Q Q' hr w hQ => ?_, xm_xs hE (xm_w m4 (by decide) (by decide) rfl)⟩
  · refine st_c hE hx (by decide) (by rw [z]; decide) (by rw [z]; decide) (by rw [z]; decide) hs (fun s1 h1 => st_B206 ((c_ty h1).trans z) ?_)
    exact c_adv hE h1 hlt (fun s2 h2 => c_object hE h2 (fun r s3 h3 => c_emit2 hE h3 (xg_lo (n := 14) (xg_m hx m2 (c' := 14) (by decide)) (by decide)) (by decide) (fun s4 h4 => c_take hE h4 (by decide) (by decide) (fun s5 h5 => hQ s5 h5))))
  · refine st_r hE 6 (by decide) (by decide) z hr (fun M1 F1 r1 e5 w1 => st_W6 (e5.trans (by decide)) (fun w => ?_) w1) w
    exact re_pass hE (x := X_pt 1 x) hlt k M1 F1 _ _ (rx_pt r1) w (fun M2 F2 r2 w2 => re_object hE k M2 F2 _ _ r2 w2 (fun _ M3 F3 r3 w3 => re_put k M3 F3 _ _ r3 w3 (fun _ M4 F4 r4 w4 => re_need hE (c := 59) rfl k M4 F4 _ _ (rx_pt (j := 2) r4) w4 (fun M5 F5 r5 w5 => hQ M5 F5 r5 w5))))
theorem st_join (hE : E_ok E) (hn : E_no E) (hx : xg E 4 x) (z : X_ty E x = 207) : ∃ x', jSx E x x' := by
  have hlt := xq_lt hE (xg_t hx) z (by decide)
  have m0 := xm_pt (xg_t hx) 1
  have m1 := xm_t0 m0 (xm_ad hE (x := X_pt 1 x) hlt)
  have m2 := xm_t0 m1 (xm_ob hE hn (xm_t m1))
  have m3 := xm_t0 m2 (xm_tk hE (xm_t m2) (c := 208) (by decide))
  have m4 := xm_t0 m3 (xm_on hE hn (xm_t m3))
  have m5 := xm_t0 m4 (xm_pt (xm_t m4) 3)
  have m6 := xm_t0 m5 (xm_tk hE (xm_t m5) (c := 59) (by decide))
  refine ⟨_, fun n p hp K s O Q hs hQ => ?_, fun n k M F Q Q' hr w hQ => ?_, xm_xs hE (xm_w m6 (by decide) (by decide) rfl)⟩
  · refine st_c hE hx (by decide) (by rw [z]; decide) (by rw [z]; decide) (by rw [z]; decide) hs (fun s1 h1 => st_B207 ((c_ty h1).trans z) ?_)
    exact c_adv hE h1 hlt (fun s2 h2 => c_object hE h2 (fun r s3 h3 => c_take hE h3 (by decide) (by decide) (fun s4 h4 => c_objectOrNone hE h4 (fun r' s5 h5 => c_emit3 hE h5 (xg_lo (n := 13) (xg_m hx m4 (c' := 13) (by decide)) (by decide)) (by decide) (fun s6 h6 => c_take hE h6 (by decide) (by decide) (fun s7 h7 => hQ s7 h7))))))
  · refine st_r hE 7 (by decide) (by decide) z hr (fun M1 F1 r1 e5 w1 => st_W7 (e5.trans (by decide)) (fun w => ?_) w1) w
    refine re_pass hE (x := X_pt 1 x) hlt k M1 F1 _ _ (rx_pt r1) w (fun M2 F2 r2 w2 => re_object hE k M2 F2 _ _ r2 w2 (fun r M3 F3 r3 w3 => re_needWord hE 8 (by decide) (c := 8) (d := 208) (by decide) (by decide) k M3 F3 _ _ r3 w3 (fun M4 F4 r4 w4 => ?_)))
    refine re_on hE (K := fun r7 M8 F8 => w_join_37 _ r r7 M8 F8) (K' := fun r7 M8 F8 => w_join_37 _ r r7 M8 F8) r4 (fun r' M5 F5 r5 w5 => ?_) w4
    exact re_need hE (c := 59) rfl k M5 F5 _ _ (rx_pt (j := 3) r5) w5 (fun M6 F6 r6 w6 => re_put k M6 F6 _ _ r6 w6 (fun _ M7 F7 r7 w7 => hQ M7 F7 r7 w7))
theorem st_rest (hE : E_ok E) (hn : E_no E) (hx : xg E 4 x) (z : X_ty E x = 212) : ∃ x', jSx E x x' := by
  have hlt := xq_lt hE (xg_t hx) z (by decide)
  have m0 := xm_pt (xg_t hx) 1
  have m1 := xm_t0 m0 (xm_ad hE (x := X_pt 1 x) hlt)
  by_cases z2 : X_ty E (X_ad (X_pt 1 x)) = 59
  · have m2 := xm_t0 m1 (xm_pt (xm_t m1) 2)
    have m3 := xm_t0 m2 (xm_pt (xm_t m2) 1)
    have m4 := xm_t0 m3 (xm_tk hE (xm_t m3) (c := 59) (by decide))
    refine ⟨_, fun n p hp K s O Q hs hQ => ?_, fun n k M F Q Q' hr w hQ => ?_, xm_xs hE (xm_w m4 (by decide) (by decide) rfl)⟩
    · refine st_c hE hx (by decide) (by rw [z]; decide) (by rw [z]; decide) (by rw [z]; decide) hs (fun s1 h1 => st_B212 ((c_ty h1).trans z) ?_)
      refine c_adv hE h1 hlt (fun s2 h2 => ⟨fun q => absurd ((c_ty h2).trans z2) q, fun _ => ?_⟩)
      exact c_emit2 hE h2 (xg_lo (n := 14) (xg_m hx m1 (c' := 14) (by decide)) (by decide)) (by decide) (fun s3 h3 => c_emit hE h3 (xg_lo (n := 15) (xg_m hx m2 (c' := 15) (by decide)) (by decide)) (by decide) (fun s4 h4 => c_take hE h4 (by decide) (by decide) (fun s5 h5 => hQ s5 h5)))
    · refine st_r hE 12 (by decide) (by decide) z hr (fun M1 F1 r1 e5 w1 => st_W12 (e5.trans (by decide)) (fun w => ?_) w1) w
      refine re_pass hE (x := X_pt 1 x) hlt k M1 F1 _ _ (rx_pt r1) w (fun M2 F2 r2 w2 => ?_)
      refine re_s0 hE r2 (c := 59) rfl (fun _ w => ?_) (fun q => absurd z2 q) w2
      exact re_put k M2 F2 _ _ r2 w (fun _ M3 F3 r3 w3 => re_need hE (c := 59) rfl k M3 F3 _ _ (rx_pt (j := 1) (rx_pt (j := 2) r3)) w3 (fun M4 F4 r4 w4 => re_put k M4 F4 _ _ r4 w4 (fun _ M5 F5 r5 w5 => hQ M5 F5 r5 w5)))
  · obtain ⟨x3, a, b, me⟩ := j_E hE hn (xg_m hx m1 (c' := 10) (by decide))
    have m2 := xm_t0 m1 me
    have m3 := xm_t0 m2 (xm_pt (xm_t m2) 1)
    have m4 := xm_t0 m3 (xm_tk hE (xm_t m3) (c := 59) (by decide))
    refine ⟨_, fun n p hp K s O Q hs hQ => ?_, fun n k M F Q Q' hr w hQ => ?_, xm_xs hE (xm_w m4 (by decide) (by decide) rfl)⟩
    · refine st_c hE hx (by decide) (by rw [z]; decide) (by rw [z]; decide) (by rw [z]; decide) hs (fun s1 h1 => st_B212 ((c_ty h1).trans z) ?_)
      refine c_adv hE h1 hlt (fun s2 h2 => ⟨fun _ => ?_, fun q => absurd ((c_ty h2).symm.trans q) z2⟩)
      exact a 22 p (jb_p hp hx m1) _ s2 O _ h2 (fun s3 h3 => c_emit hE h3 (xg_lo (n := 15) (xg_m hx m2 (c' := 15) (by decide)) (by decide)) (by decide) (fun s4 h4 => c_take hE h4 (by decide) (by decide) (fun s5 h5 => hQ s5 h5)))
    · refine st_r hE 12 (by decide) (by decide) z hr (fun M1 F1 r1 e5 w1 => st_W12 (e5.trans (by decide)) (fun w => ?_) w1) w
      refine re_pass hE (x := X_pt 1 x) hlt k M1 F1 _ _ (rx_pt r1) w (fun M2 F2 r2 w2 => ?_)
      refine re_s0 hE r2 (c := 59) rfl (fun q => absurd q z2) (fun _ w => ?_) w2
      exact b 22 k M2 F2 _ _ r2 w (fun M3 F3 r3 w3 => re_need hE (c := 59) rfl k M3 F3 _ _ (rx_pt (j := 1) r3) w3 (fun M4 F4 r4 w4 => re_put k M4 F4 _ _ r4 w4 (fun _ M5 F5 r5 w5 => hQ M5 F5 r5 w5)))
theorem st_note (hE : E_ok E) (hn : E_no E) (hx : xg E 4 x) (z : X_ty E x = 209) : ∃ x', jSx E x x' := by
  have hb := X_tyn z (by decide)
  have hlt := xq_lt hE (xg_t hx) z (by decide)
  have m0 := xm_pt (xg_t hx) 1
  have m1 := xm_t0 m0 (xm_ad hE (x := X_pt 1 x) hlt)
  have hb1 : (X_ad (X_pt 1 x)).1 = false := hb
  by_cases z2 : X_ty E (X_ad (X_pt 1 x)) = 131
  · have m2 := xm_t0 m1 (xm_ob hE hn (xm_t m1))
    by_cases z3 : X_iq (X_ty E (X_ob E (X_ad (X_pt 1 x))))
    · have m3 := xm_t0 m2 (xm_as hE hn (xm_t m2))
      have m4 := xm_t0 m3 (xm_pt (xm_t m3) 3)
      obtain ⟨x3, a, b, me⟩ := j_R hE hn (xg_m hx m4 (c' := 10) (by decide))
      have m5 := xm_t0 m4 me
      have m6 := xm_t0 m5 (xm_pt (xm_t m5) 1)
      have m7 := xm_t0 m6 (xm_tk hE (xm_t m6) (c := 59) (by decide))
      refine ⟨_, fun n p hp K s O Q hs hQ => ?_, fun n k M F Q Q' hr w hQ => ?_, xm_xs hE (xm_w m7 (by decide) (by decide) rfl)⟩
      · refine st_c hE hx (by decide) (by rw [z]; decide) (by rw [z]; decide) (by rw [z]; decide) hs (fun s1 h1 => st_B209 ((c_ty h1).trans z) ?_)
        refine c_adv hE h1 hlt (fun s2 h2 => ⟨fun _ => c_object hE h2 (fun r s3 h3 => ?_), fun q => absurd ((c_ty h2).trans z2) q⟩)
        have go : wF_X7_noting_50 (E_N E) (cff (E_N E) 22) (fun M35 O35 => (wF_X7_statement_236 (E_N E) (cff (E_N E) 22) (cb (E_N E) n) Q M35 O35)) p r s3 O := c_asked hE h3 (K := fun t1 t3 s' O' => wF_X7_noting_75 (E_N E) (cff (E_N E) 22) (fun M35 O35 => (wF_X7_statement_236 (E_N E) (cff (E_N E) 22) (cb (E_N E) n) Q M35 O35)) p t1 r t3 s' O') (fun t1 t3 s4 h4 => c_emit3 hE h4 (xg_lo (n := 13) (xg_m hx m3 (c' := 13) (by decide)) (by decide)) (by decide) (fun s5 h5 => a 22 p (jb_p hp hx m4) _ s5 O _ h5 (fun s6 h6 => c_emit hE h6 (xg_lo (n := 15) (xg_m hx m5 (c' := 15) (by decide)) (by decide)) (by decide) (fun s7 h7 => c_take hE h7 (by decide) (by decide) (fun s8 h8 => hQ s8 h8)))))
        have e3 := c_ty h3
        exact ⟨fun _ => go, fun q1 => ⟨fun q2 => absurd z3 (fun q => q.elim (fun q => q1 (e3.trans q)) (fun q => q2 (e3.trans q))), fun _ => go⟩⟩
      · refine st_r hE 9 (by decide) (by decide) z hr (fun M1 F1 r1 e5 w1 => st_W9 (e5.trans (by decide)) (fun w => ?_) w1) w
        refine re_pass hE (x := X_pt 1 x) hlt k M1 F1 _ _ (rx_pt r1) w (fun M2 F2 r2 w2 => ?_)
        have hmm := re_m4 hE r2 hb1
        refine re_b1 r2 (fun q => absurd (q.symm.trans hb1) (by decide)) (fun _ w => ⟨fun q => absurd (hmm.2.2.1.mp z2) q, fun q => ?_⟩) w2
        refine re_object hE k M2 F2 _ _ r2 (w.2 q) (fun r M3 F3 r3 w3 => ?_)
        have go : w_note_42 (wf_fac 22) (fun M21 F21 => (Q M21 F21)) r M3 F3 → w_note_42 (wf_fac 22) (fun M21 F21 => (Q' M21 F21)) r M3 F3 := fun w => re_asked hE k M3 F3 _ _ r3 w (fun M4 F4 r4 w4 => b 22 k M4 F4 _ _ (rx_pt (j := 3) r4) w4 (fun M5 F5 r5 w5 => re_put k M5 F5 _ _ r5 w5 (fun _ M6 F6 r6 w6 => re_need hE (c := 59) rfl k M6 F6 _ _ (rx_pt (j := 1) r6) w6 (fun M7 F7 r7 w7 => hQ M7 F7 r7 w7))))
        refine re_w1 hE r3 24 (by decide) (c := 24) (d := 224) (by decide) (by decide) (fun _ w => go w) (fun q1 w => ?_) w3
        exact re_w0 hE r3 25 (by decide) (c := 25) (d := 225) (by decide) (by decide) (fun _ w => go w) (fun q2 _ => absurd z3 (fun q => q.elim q1 q2)) w
    · have m3 := xm_t0 m2 (xm_pt (xm_t m2) 2)
      have m4 := xm_t0 m3 (xm_tk hE (xm_t m3) (c := 59) (by decide))
      refine ⟨_, fun n p hp K s O Q hs hQ => ?_, fun n k M F Q Q' hr w hQ => ?_, xm_xs hE (xm_w m4 (by decide) (by decide) rfl)⟩
      · refine st_c hE hx (by decide) (by rw [z]; decide) (by rw [z]; decide) (by rw [z]; decide) hs (fun s1 h1 => st_B209 ((c_ty h1).trans z) ?_)
        refine c_adv hE h1 hlt (fun s2 h2 => ⟨fun _ => c_object hE h2 (fun r s3 h3 => ?_), fun q => absurd ((c_ty h2).trans z2) q⟩)
        have e3 := c_ty h3
        exact ⟨fun q => absurd (Or.inl (e3.symm.trans q)) z3, fun _ => ⟨fun _ => c_emit2 hE h3 (xg_lo (n := 14) (xg_m hx m2 (c' := 14) (by decide)) (by decide)) (by decide) (fun s4 h4 => c_take hE h4 (by decide) (by decide) (fun s5 h5 => hQ s5 h5)), fun q => absurd (Or.inr (e3.symm.trans q)) z3⟩⟩
      · refine st_r hE 9 (by decide) (by decide) z hr (fun M1 F1 r1 e5 w1 => st_W9 (e5.trans (by decide)) (fun w => ?_) w1) w
        refine re_pass hE (x := X_pt 1 x) hlt k M1 F1 _ _ (rx_pt r1) w (fun M2 F2 r2 w2 => ?_)
        have hmm := re_m4 hE r2 hb1
        refine re_b1 r2 (fun q => absurd (q.symm.trans hb1) (by decide)) (fun _ w => ⟨fun q => absurd (hmm.2.2.1.mp z2) q, fun q => ?_⟩) w2
        refine re_object hE k M2 F2 _ _ r2 (w.2 q) (fun r M3 F3 r3 w3 => ?_)
        refine re_w1 hE r3 24 (by decide) (c := 24) (d := 224) (by decide) (by decide) (fun q _ => absurd (Or.inl q) z3) (fun q1 w => ?_) w3
        refine re_w0 hE r3 25 (by decide) (c := 25) (d := 225) (by decide) (by decide) (fun q _ => absurd (Or.inr q) z3) (fun q2 w => ?_) w
        exact re_put k M3 F3 _ _ r3 w (fun _ M4 F4 r4 w4 => re_need hE (c := 59) rfl k M4 F4 _ _ (rx_pt (j := 2) r4) w4 (fun M5 F5 r5 w5 => hQ M5 F5 r5 w5))
  · obtain ⟨x3, a, b, me⟩ := j_E hE hn (xg_m hx m1 (c' := 10) (by decide))
    have m2 := xm_t0 m1 me
    have m3 := xm_t0 m2 (xm_pt (xm_t m2) 1)
    have m4 := xm_t0 m3 (xm_tk hE (xm_t m3) (c := 59) (by decide))
    refine ⟨_, fun n p hp K s O Q hs hQ => ?_, fun n k M F Q Q' hr w hQ => ?_, xm_xs hE (xm_w m4 (by decide) (by decide) rfl)⟩
    · refine st_c hE hx (by decide) (by rw [z]; decide) (by rw [z]; decide) (by rw [z]; decide) hs (fun s1 h1 => st_B209 ((c_ty h1).trans z) ?_)
      refine c_adv hE h1 hlt (fun s2 h2 => ⟨fun q => absurd ((c_ty h2).symm.trans q) z2, fun _ => ?_⟩)
      exact a 22 p (jb_p hp hx m1) _ s2 O _ h2 (fun s3 h3 => c_emit hE h3 (xg_lo (n := 15) (xg_m hx m2 (c' := 15) (by decide)) (by decide)) (by decide) (fun s4 h4 => c_take hE h4 (by decide) (by decide) (fun s5 h5 => hQ s5 h5)))
    · refine st_r hE 9 (by decide) (by decide) z hr (fun M1 F1 r1 e5 w1 => st_W9 (e5.trans (by decide)) (fun w => ?_) w1) w
      refine re_pass hE (x := X_pt 1 x) hlt k M1 F1 _ _ (rx_pt r1) w (fun M2 F2 r2 w2 => ?_)
      have hmm := re_m4 hE r2 hb1
      refine re_b1 r2 (fun q => absurd (q.symm.trans hb1) (by decide)) (fun _ w => ⟨fun q => ?_, fun q => absurd (hmm.2.2.1.mpr q) z2⟩) w2
      exact b 22 k M2 F2 _ _ r2 (w.1 q) (fun M3 F3 r3 w3 => re_put k M3 F3 _ _ r3 w3 (fun _ M4 F4 r4 w4 => re_need hE (c := 59) rfl k M4 F4 _ _ (rx_pt (j := 1) r4) w4 (fun M5 F5 r5 w5 => hQ M5 F5 r5 w5)))
end XS3
