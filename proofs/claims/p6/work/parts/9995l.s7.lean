/-! STATEMENTS with blocks; blocks. -/
section XS7
variable {E : x_E} {x y : x_X}
def jy (E : x_E) (x x' : x_X) : Prop := (∀ (n : Nat) (p : Int32), jb n p x → crK E (cb (E_N E) n p) x x') ∧ (∀ n, rr E (wf_blk n) x x') ∧ xs E 2 (-4) 0 x x'
def jB (E : x_E) (j : Nat) : Prop := ∀ x, xg E 6 x → hl E x → jt E j x → ∃ x', jy E x x'
theorem st_if (hE : E_ok E) (hn : E_no E) {j : Nat} (hB : jB E j) (hx : xg E 4 x) (hh : hl E x) (ht : jt E (j + 1) x) (z : X_ty E x = 213) : ∃ x', jSx E x x' := by
  have hb := X_tyn z (by decide)
  have hlt := xq_lt hE (xg_t hx) z (by decide)
  have m0 := xm_pt (xg_t hx) 1
  have m1 := xm_t0 m0 (xm_ad hE (x := X_pt 1 x) hlt)
  obtain ⟨x2, a, b, me⟩ := j_E hE hn (xg_m hx m1 (c' := 10) (by decide))
  have m2 := xm_t0 m1 me
  have m3 := xm_t0 m2 (xm_pt (xm_t m2) 1)
  have m4 := xm_w (xm_t0 m3 (xm_pt (xm_t m3) 1)) (a' := 1) (d' := 1) (by decide) (by decide) rfl
  have s4 := xm_xs hE m4
  obtain ⟨x5, ba, bb, bm⟩ := hB (X_pt 1 (X_pt 1 x2)) (xg_m hx m4 (by decide)) (hl_s hh s4) (jt_m ht m4)
  have s5 := xs_t0 s4 bm
  have g5 := xg_s hx s5 (c' := 4) (by decide)
  have cw : ∀ (n : Nat) (p : Int32), jb n p x → ∀ (K : List Nat) (s : f_S3) (O : Nat × Nat) (Q : f_S3 → Nat × Nat → Prop), rc E (K, 0, false, false) s x → (∀ (r5 : Int32) (s7 : f_S3), (x5.1 = false → r5 = nI (X_z (X_pt 1 x2))) → rc E (X_z (X_pt 1 x2) :: K, 0, false, false) s7 x5 → ((s7.1 12) = 214 → (wF_X7_advance (E_N E) s7 O (fun M8 O8 => (wF_X7_emit (E_N E) 12 M8 O8 (fun M9 O9 => (wF_X6_put (E_N E) (-1) M9 O9 (fun r10 M11 O11 => (wF_X6_change (E_N E) r5 (M11.1 63) M11 O11 (fun M12 O12 => (cb (E_N E) n p M12 O12 (fun M13 O13 => (wF_X6_change (E_N E) r10 (M13.1 63) M13 O13 (fun M14 O14 => (Q M14 O14)))))))))))))) ∧ (¬ (s7.1 12) = 214 → (wF_X6_change (E_N E) r5 (s7.1 63) s7 O (fun M15 O15 => (Q M15 O15))))) → wF_X7_statement (E_N E) (cff (E_N E) 22) (cb (E_N E) n) p s O Q := by
    intro n p hp K s O Q hs hk
    have e := (c_ty hs).trans z
    refine ⟨fun _ => ?_, fun q => absurd (q.symm.trans e) (by decide), fun q => absurd (q.symm.trans e) (by decide), fun q => absurd (q.symm.trans e) (by decide), fun q => absurd e q⟩
    refine c_emit hE hs (xg_lo (n := 15) hx (by decide)) (by decide) (fun s1 h1 => c_adv hE h1 hlt (fun s2 h2 => a 22 p (jb_p hp hx m1) _ s2 O _ h2 (fun s3 h3 => c_emit hE h3 (xg_lo (n := 15) (xg_m hx m2 (c' := 15) (by decide)) (by decide)) (by decide) (fun s4' h4 => c_hole hE h4 (xg_lo (n := 15) (xg_m hx m3 (c' := 15) (by decide)) (by decide)) (by decide) (fun r5 s6 hr6 h6 => ba n p (jb_m hp s4) _ s6 O _ h6 (fun s7 h7 => ?_))))))
    exact hk r5 s7 (fun q => hr6 (bm q).1) h7
  have rw5 : ∀ (n : Nat) (k : x_B) (M : Nat → Int32) (F : Nat → Nat → Int32) (Q Q' : (Nat → Int32) → (Nat → Nat → Int32) → Prop), rxx E k M F x → (∀ (r3 : Int32) (M5 : Nat → Int32) (F5 : Nat → Nat → Int32), rxx E k M5 F5 x5 → (w_isWord 14 M5 F5 (fun r6 M7 F7 => ((r6 = 0 → (w_here M7 F7 (fun r8 M9 F9 => (vp_in r3 18000 ∧ (Q M9 (uf F9 14 r3 r8)))))) ∧ (¬ r6 = 0 → (w_pass M7 F7 (fun M11 F11 => (w_put 20 0 0 0 M11 F11 (fun r12 M13 F13 => (w_here M13 F13 (fun r14 M15 F15 => (vp_in r3 18000 ∧ (wf_blk n M15 (uf F15 14 r3 r14) (fun M17 F17 => (w_here M17 F17 (fun r18 M19 F19 => (vp_in r12 18000 ∧ (Q M19 (uf F19 14 r12 r18)))))))))))))))))) → (w_isWord 14 M5 F5 (fun r6 M7 F7 => ((r6 = 0 → (w_here M7 F7 (fun r8 M9 F9 => (vp_in r3 18000 ∧ (Q' M9 (uf F9 14 r3 r8)))))) ∧ (¬ r6 = 0 → (w_pass M7 F7 (fun M11 F11 => (w_put 20 0 0 0 M11 F11 (fun r12 M13 F13 => (w_here M13 F13 (fun r14 M15 F15 => (vp_in r3 18000 ∧ (wf_blk n M15 (uf F15 14 r3 r14) (fun M17 F17 => (w_here M17 F17 (fun r18 M19 F19 => (vp_in r12 18000 ∧ (Q' M19 (uf F19 14 r12 r18))))))))))))))))))) → w_statement (wf_fac 22) (wf_blk n) M F Q → w_statement (wf_fac 22) (wf_blk n) M F Q' := by
    intro n k M F Q Q' hr hk w
    refine st_r hE 13 (by decide) (by decide) z hr (fun M1 F1 r1 e5 w1 => st_W13 (e5.trans (by decide)) (fun w => ?_) w1) w
    exact re_pass hE (x := X_pt 1 x) hlt k M1 F1 _ _ (rx_pt r1) w (fun M2 F2 r2 w2 => b 22 k M2 F2 _ _ r2 w2 (fun M3 F3 r3 w3 => re_put k M3 F3 _ _ r3 w3 (fun r M4 F4 r4 w4 => bb n k M4 F4 _ _ (rx_pt (j := 1) (rx_pt (j := 1) r4)) w4 (fun M5 F5 r5 w5 => hk r M5 F5 r5 w5))))
  by_cases z5 : X_ty E x5 = 214
  · have hlt5 := xq_lt hE (xg_t g5) z5 (by decide)
    have n0 := xm_ad hE hlt5
    have n1 := xm_t0 n0 (xm_pt (xm_t n0) 1)
    have n2 := xm_w (xm_t0 n1 (xm_pt (xm_t n1) 1)) (a' := 0) (d' := 0) (by decide) (by decide) rfl
    have s6 := xs_t0 s5 (xm_xs hE n2)
    obtain ⟨x8, ca, cc, cm⟩ := hB (X_pt 1 (X_pt 1 (X_ad x5))) (xg_s hx s6 (by decide)) (hl_s hh s6) (jt_s (a := 1) ht (xs_w s6 (by decide) (Int.le_refl _) rfl))
    refine ⟨x8, fun n p hp K s O Q hs hQ => cw n p hp K s O Q hs (fun r5 s7 e5 h7 => ⟨fun _ => ?_, fun q => absurd ((c_ty h7).trans z5) q⟩), fun n k M F Q Q' hr w hQ => rw5 n k M F Q Q' hr (fun r3 M5 F5 r5 w5 => ?_) w, xs_w (xs_t0 s6 cm) (by decide) (by decide) rfl⟩
    · refine c_adv hE h7 hlt5 (fun s8 h8 => c_emit hE h8 (xg_lo (n := 15) (xg_m g5 n0 (c' := 15) (by decide)) (by decide)) (by decide) (fun s9 h9 => c_hole hE h9 (xg_lo (n := 15) (xg_m g5 n1 (c' := 15) (by decide)) (by decide)) (by decide) (fun r10 s11 hr10 h11 => c_change hE h11 (j := X_z (X_pt 1 x2)) (fun q => ⟨e5 (n2 q).1, List.mem_cons_of_mem _ (List.mem_cons_self ..)⟩) (fun s12 h12 => ca n p (jb_m hp s6) _ s12 O _ h12 (fun s13 h13 => c_change hE h13 (j := X_z (X_pt 1 (X_ad x5))) (fun q => ⟨hr10 (cm q).1, List.mem_cons_self ..⟩) (fun s14 h14 => hQ s14 (rc_sub h14 (fun q hq => List.mem_cons_of_mem _ (List.mem_cons_of_mem _ hq)) rfl)))))))
    · refine re_w0 hE r5 14 (by decide) (c := 14) (d := 214) (by decide) (by decide) (fun _ w => ?_) (fun q => absurd z5 q) w5
      refine re_pass hE hlt5 k M5 F5 _ _ r5 w (fun M6 F6 r6 w6 => re_put k M6 F6 _ _ r6 w6 (fun r12 M7 F7 r7 w7 => ?_))
      have w7' : vp_in r3 18000 ∧ wf_blk n M7 _ _ := w7
      refine ⟨w7'.1, cc n k M7 _ _ _ (rx_uf (by decide) (rx_pt (j := 1) (rx_pt (j := 1) r7))) w7'.2 (fun M8 F8 r8 w8 => ?_)⟩
      have w8' : vp_in r12 18000 ∧ Q M8 _ := w8
      exact ⟨w8'.1, hQ _ _ (rx_uf (by decide) r8) w8'.2⟩
  · refine ⟨x5, fun n p hp K s O Q hs hQ => cw n p hp K s O Q hs (fun r5 s7 e5 h7 => ⟨fun q => absurd ((c_ty h7).symm.trans q) z5, fun _ => ?_⟩), fun n k M F Q Q' hr w hQ => rw5 n k M F Q Q' hr (fun r3 M5 F5 r5 w5 => ?_) w, xs_w s5 (by decide) (by decide) rfl⟩
    · exact c_change hE h7 (j := X_z (X_pt 1 x2)) (fun q => ⟨e5 q, List.mem_cons_self ..⟩) (fun s8 h8 => hQ s8 (rc_sub h8 (fun q hq => List.mem_cons_of_mem _ hq) rfl))
    · refine re_w0 hE r5 14 (by decide) (c := 14) (d := 214) (by decide) (by decide) (fun q => absurd q z5) (fun _ w => ?_) w5
      have w' : vp_in r3 18000 ∧ Q M5 _ := w
      exact ⟨w'.1, hQ _ _ (rx_uf (by decide) r5) w'.2⟩
theorem st_while (hE : E_ok E) (hn : E_no E) {j : Nat} (hB : jB E j) (hx : xg E 4 x) (hh : hl E x) (ht : jt E (j + 1) x) (z : X_ty E x = 215) : ∃ x', jSx E x x' := by
  have hlt := xq_lt hE (xg_t hx) z (by decide)
  have m0 := xm_pt (xg_t hx) 1
  have m1 := xm_t0 m0 (xm_ad hE (x := X_pt 1 x) hlt)
  obtain ⟨x2, a, b, me⟩ := j_E hE hn (xg_m hx m1 (c' := 10) (by decide))
  have m2 := xm_t0 m1 me
  have m3 := xm_t0 m2 (xm_pt (xm_t m2) 1)
  have m4 := xm_w (xm_t0 m3 (xm_pt (xm_t m3) 1)) (a' := 1) (d' := 1) (by decide) (by decide) rfl
  have s4 := xm_xs hE m4
  obtain ⟨x5, ba, bb, bm⟩ := hB (X_pt 1 (X_pt 1 x2)) (xg_m hx m4 (by decide)) (hl_s hh s4) (jt_m ht m4)
  have s5 := xs_t0 s4 bm
  have s6 := xs_t0 s5 (xm_xs hE (xm_pt (xs_t s5) 2))
  refine ⟨X_pt 2 x5, fun n p hp K s O Q hs hQ => ?_, fun n k M F Q Q' hr w hQ => ?_, xs_w s6 (by decide) (by decide) rfl⟩
  · have e := (c_ty hs).trans z
    refine ⟨fun q => absurd (q.symm.trans e) (by decide), fun q => absurd (q.symm.trans e) (by decide), fun _ => ?_, fun q => absurd (q.symm.trans e) (by decide), fun _ _ q => absurd e q⟩
    refine c_emit hE hs (xg_lo (n := 15) hx (by decide)) (by decide) (fun s1 h1 => c_adv hE h1 hlt (fun s2 h2 => a 22 p (jb_p hp hx m1) _ s2 O _ h2 (fun s3 h3 => c_emit hE h3 (xg_lo (n := 15) (xg_m hx m2 (c' := 15) (by decide)) (by decide)) (by decide) (fun s4' h4 => c_hole hE h4 (xg_lo (n := 15) (xg_m hx m3 (c' := 15) (by decide)) (by decide)) (by decide) (fun r5 s6' hr6 h6 => ba n p (jb_m hp s4) _ s6' O _ h6 (fun s7 h7 => c_emit2 hE h7 (xg_lo (n := 14) (xg_s hx s5 (c' := 14) (by decide)) (by decide)) (by decide) (fun s8 h8 => c_change hE h8 (j := X_z (X_pt 1 x2)) (fun q => ⟨hr6 (bm q).1, List.mem_cons_self ..⟩) (fun s9 h9 => hQ s9 (rc_sub h9 (fun q hq => List.mem_cons_of_mem _ hq) rfl)))))))))
  · refine st_r hE 15 (by decide) (by decide) z hr (fun M1 F1 r1 e5 w1 => st_W15 (e5.trans (by decide)) (fun w => ?_) w1) w
    refine re_pass hE (x := X_pt 1 x) hlt k M1 F1 _ _ (rx_pt r1) w (fun M2 F2 r2 w2 => re_put k M2 F2 _ _ r2 w2 (fun _ M2' F2' r2' w2' => b 22 k M2' F2' _ _ r2' w2' (fun M3 F3 r3 w3 => re_put k M3 F3 _ _ r3 w3 (fun r M4 F4 r4 w4 => bb n k M4 F4 _ _ (rx_pt (j := 1) (rx_pt (j := 1) r4)) w4 (fun M5 F5 r5 w5 => re_put k M5 F5 _ _ r5 w5 (fun _ M6 F6 r6 w6 => ?_))))))
    have w6' : vp_in r 18000 ∧ Q M6 _ := w6
    exact ⟨w6'.1, hQ _ _ (rx_uf (by decide) (rx_pt r6)) w6'.2⟩
/-- behind a try's block: what is upheld, lastly -/
theorem try_x (hE : E_ok E) {j : Nat} (hB : jB E j) (hx : xg E 6 x) (hh : hl E x) (ht : jt E j x) (z : ¬ X_ty E x = 217) : ∃ x', (∀ (n : Nat) (p r6 : Int32) (K : List Nat) (s : f_S3) (O : Nat × Nat) (Q : f_S3 → Nat × Nat → Prop), jb n p x → (x.1 = false → ∃ j6, j6 ∈ K ∧ r6 = nI j6) → rc E (K, 0, false, false) s x → (∀ s', rc E (K, 0, false, false) s' x' → Q s' O) → wF_X7_attempt_169 (E_N E) (cb (E_N E) n) Q p r6 s O) ∧ (∀ (n e : Nat) (a1 a2 : Int32), rr E (fun M F Q => w_trying_90 (wf_blk n) Q e a1 a2 M F) x x') ∧ xs E 0 1 0 x x' := by
  by_cases z8 : X_ty E x = 218
  · have hlt := xq_lt hE (xg_t hx) z8 (by decide)
    have m0 := xm_w (xm_ad hE hlt) (a' := 0) (d' := -2) (by decide) (by decide) rfl
    have s0 := xm_xs hE m0
    obtain ⟨x2, ba, bb, bm⟩ := hB (X_ad x) (xg_m hx m0 (by decide)) (hl_s hh s0) (jt_m (a := 0) ht m0)
    have s1 := xs_t0 s0 bm
    have s2 := xs_t0 s1 (xm_xs hE (xm_pt (xs_t s1) 1))
    refine ⟨X_pt 1 x2, fun n p r6 K s O Q hp hr6 hs hQ => ?_, fun n e a1 a2 k M F Q Q' hr w hQ => ?_, xs_w s2 (by decide) (by decide) rfl⟩
    · have hch : ∃ j6, x.1 = false → r6 = nI j6 ∧ j6 ∈ K := by
        cases q : x.1 with
        | true => exact ⟨0, fun q' => absurd q' (by decide)⟩
        | false => obtain ⟨j6, a, b⟩ := hr6 q; exact ⟨j6, fun _ => ⟨b, a⟩⟩
      obtain ⟨j6, hj6⟩ := hch
      refine c_change hE hs (j := j6) hj6 (fun s1' h1 => ⟨fun q => absurd ((c_ty h1).trans z8) q, fun _ => c_adv hE h1 hlt (fun s2' h2 => ba n p (jb_m hp s0) _ s2' O _ h2 (fun s3 h3 => c_emit hE h3 (xg_lo (n := 15) (xg_s hx s1 (c' := 15) (by decide)) (by decide)) (by decide) (fun s4 h4 => hQ s4 h4)))⟩)
    · cases e with
      | zero => exact absurd w (fun q => q)
      | succ e =>
        dsimp only [w_trying_90] at w ⊢
        refine re_w0 hE hr 17 (by decide) (c := 17) (d := 217) (by decide) (by decide) (fun q => absurd q z) (fun _ w => ?_) w
        refine re_w0 hE hr 18 (by decide) (c := 18) (d := 218) (by decide) (by decide) (fun _ w => ?_) (fun q => absurd z8 q) w
        refine re_pass hE hlt k M F _ _ hr w (fun M1 F1 r1 w1 => ?_)
        have w1' : vp_in a1 800 ∧ wf_blk n M1 _ _ := w1
        refine ⟨w1'.1, bb n k M1 _ _ _ (rx_uf (by decide) r1) w1'.2 (fun M2 F2 r2 w2 => re_put k M2 F2 _ _ r2 w2 (fun _ M3 F3 r3 w3 => ?_))⟩
        have w3' : vp_in a1 800 ∧ Q M3 _ := w3
        exact ⟨w3'.1, hQ _ _ (rx_uf (by decide) (rx_pt r3)) w3'.2⟩
  · refine ⟨X_pt 1 x, fun n p r6 K s O Q hp hr6 hs hQ => ?_, fun n e a1 a2 k M F Q Q' hr w hQ => ?_, xm_xs hE (xm_pt (xg_t hx) 1)⟩
    · have hch : ∃ j6, x.1 = false → r6 = nI j6 ∧ j6 ∈ K := by
        cases q : x.1 with
        | true => exact ⟨0, fun q' => absurd q' (by decide)⟩
        | false => obtain ⟨j6, a, b⟩ := hr6 q; exact ⟨j6, fun _ => ⟨b, a⟩⟩
      obtain ⟨j6, hj6⟩ := hch
      exact c_change hE hs (j := j6) hj6 (fun s1' h1 => ⟨fun _ => c_emit hE h1 (xg_lo (n := 15) hx (by decide)) (by decide) (fun s4 h4 => hQ s4 h4), fun q => absurd ((c_ty h1).symm.trans q) z8⟩)
    · cases e with
      | zero => exact absurd w (fun q => q)
      | succ e =>
        dsimp only [w_trying_90] at w ⊢
        refine re_w0 hE hr 17 (by decide) (c := 17) (d := 217) (by decide) (by decide) (fun q => absurd q z) (fun _ w => ?_) w
        refine re_w0 hE hr 18 (by decide) (c := 18) (d := 218) (by decide) (by decide) (fun q => absurd q z8) (fun _ w => ?_) w
        have w' : vp_in a1 800 ∧ Q M _ := w
        exact ⟨w'.1, hQ _ _ (rx_uf (by decide) (rx_pt hr)) w'.2⟩
theorem try_L (hE : E_ok E) (hn : E_no E) {j : Nat} (hB : jB E j) : ∀ i, i ≤ j → ∀ x, xg E 6 x → hl E x → jt E i x → ∃ x', (∀ (n : Nat) (p a : Int32) (e : Nat) (r4 r6 : Int32) (K : List Nat) (s : f_S3) (O : Nat × Nat) (Q : f_S3 → Nat × Nat → Prop), jb n p x → ja a x → i < e → (x.1 = false → (∃ j4, j4 ∈ K ∧ r4 = nI j4) ∧ ∃ j6, j6 ∈ K ∧ r6 = nI j6) → rc E (K, 0, false, false) s x → (∀ s', rc E (K, 0, false, false) s' x' → Q s' O) → wF_X7_attempt_69 (E_N E) (cb (E_N E) n) Q e p r4 r6 a s O) ∧ (∀ (n e : Nat) (a1 a2 : Int32), rr E (fun M F Q => w_trying_90 (wf_blk n) Q e a1 a2 M F) x x') ∧ xs E 0 1 0 x x' := by
  have ex : ∀ i, i ≤ j → ∀ x, xg E 6 x → hl E x → jt E i x → ¬ X_ty E x = 217 → ∃ x', (∀ (n : Nat) (p a : Int32) (e : Nat) (r4 r6 : Int32) (K : List Nat) (s : f_S3) (O : Nat × Nat) (Q : f_S3 → Nat × Nat → Prop), jb n p x → ja a x → i < e → (x.1 = false → (∃ j4, j4 ∈ K ∧ r4 = nI j4) ∧ ∃ j6, j6 ∈ K ∧ r6 = nI j6) → rc E (K, 0, false, false) s x → (∀ s', rc E (K, 0, false, false) s' x' → Q s' O) → wF_X7_attempt_69 (E_N E) (cb (E_N E) n) Q e p r4 r6 a s O) ∧ (∀ (n e : Nat) (a1 a2 : Int32), rr E (fun M F Q => w_trying_90 (wf_blk n) Q e a1 a2 M F) x x') ∧ xs E 0 1 0 x x' := by
    intro i hi x hx hh ht z
    obtain ⟨x', a, b, m⟩ := try_x hE hB hx hh (jt_w ht hi) z
    refine ⟨x', fun n p a' e r4 r6 K s O Q hp ha he hr hs hQ => ?_, b, m⟩
    obtain ⟨e, rfl⟩ : ∃ e', e = e' + 1 := ⟨e - 1, by omega⟩
    have go := a n p r6 K s O Q hp (fun q => (hr q).2) hs hQ
    exact ⟨fun _ => go, fun _ => ⟨fun _ => go, fun q => absurd ((c_ty hs).symm.trans q) z⟩⟩
  intro i
  induction i with
  | zero =>
    intro hi x hx hh ht
    refine ex 0 hi x hx hh ht (fun q => ?_)
    have hb := X_tyn q (by decide)
    have := ht hb
    have := xg_t hx hb
    omega
  | succ i ih =>
    intro hi x hx hh ht
    by_cases z : X_ty E x = 217
    · have hb := X_tyn z (by decide)
      have hlt := xq_lt hE (xg_t hx) z (by decide)
      have m1 := xm_ad hE hlt
      have m2 := xm_t0 m1 (xm_kd hE (xm_t m1))
      have m3 := xm_t0 m2 (xm_pt (xm_t m2) 1)
      -- behind the object, if one stands there
      have go : ∀ y4, xm E 0 0 0 (X_pt 1 (X_kd E (X_ad x))) y4 → (∀ (k : x_Kt) (s : f_S3) (O : Nat × Nat) (G : Int32 → f_S3 → Nat × Nat → Prop), rc E k s (X_pt 1 (X_kd E (X_ad x))) → (∀ t1 s', rc E k s' y4 → G t1 s' O) → ((¬ (s.1 12) = 131 → G (-1) s O) ∧ ((s.1 12) = 131 → (wF_X7_object (E_N E) s O (fun r26 M27 O27 => G r26 M27 O27))))) → (∀ (k : x_B) (M : Nat → Int32) (F : Nat → Nat → Int32) (A A' : Int32 → (Nat → Int32) → (Nat → Nat → Int32) → Prop), rxx E k M F (X_pt 1 (X_kd E (X_ad x))) → (∀ t2 M' F', rxx E k M' F' y4 → A t2 M' F' → A' t2 M' F') → (w_bad M F (fun r29 M30 F30 => ((¬ r29 = 0 → A (-1) M30 F30) ∧ (r29 = 0 → ((¬ (M30 4) = 2 → A (-1) M30 F30) ∧ ((M30 4) = 2 → (w_object M30 F30 (fun r41 M42 F42 => A r41 M42 F42)))))))) → (w_bad M F (fun r29 M30 F30 => ((¬ r29 = 0 → A' (-1) M30 F30) ∧ (r29 = 0 → ((¬ (M30 4) = 2 → A' (-1) M30 F30) ∧ ((M30 4) = 2 → (w_object M30 F30 (fun r41 M42 F42 => A' r41 M42 F42))))))))) → ∃ x', (∀ (n : Nat) (p a : Int32) (e : Nat) (r4 r6 : Int32) (K : List Nat) (s : f_S3) (O : Nat × Nat) (Q : f_S3 → Nat × Nat → Prop), jb n p x → ja a x → i + 1 < e → (x.1 = false → (∃ j4, j4 ∈ K ∧ r4 = nI j4) ∧ ∃ j6, j6 ∈ K ∧ r6 = nI j6) → rc E (K, 0, false, false) s x → (∀ s', rc E (K, 0, false, false) s' x' → Q s' O) → wF_X7_attempt_69 (E_N E) (cb (E_N E) n) Q e p r4 r6 a s O) ∧ (∀ (n e : Nat) (a1 a2 : Int32), rr E (fun M F Q => w_trying_90 (wf_blk n) Q e a1 a2 M F) x x') ∧ xs E 0 1 0 x x' := by
        intro y4 m4 hc hr4
        have m34 := xm_t0 m3 m4
        have m5 := xm_t0 m34 (xm_pt (xm_t m34) 1)
        have m6 := xm_w (xm_t0 m5 (xm_pt (xm_t m5) 1)) (a' := 1) (d' := -1) (by decide) (by decide) rfl
        have s6 := xm_xs hE m6
        obtain ⟨x7, ba, bb, bm⟩ := hB (X_pt 1 (X_pt 1 y4)) (xg_m hx m6 (by decide)) (hl_s hh s6) (jt_m (jt_w ht (by omega)) m6)
        have s7 := xs_t0 s6 bm
        have s8 := xs_w (xs_t0 s7 (xm_xs hE (xm_pt (xs_t s7) 1))) (a' := 1) (d' := -4) (by decide) (by decide) rfl
        obtain ⟨x', ia, ib, im⟩ := ih (by omega) (X_pt 1 x7) (xg_s hx s8 (by decide)) (hl_s hh s8) (jt_s ht s8)
        refine ⟨x', fun n p a e r4 r6 K s O Q hp ha he hr hs hQ => ?_, fun n e a1 a2 k M F Q Q' hr w hQ => ?_, xs_w (xs_t0 s8 im) (by decide) (by decide) rfl⟩
        · obtain ⟨e, rfl⟩ : ∃ e', e = e' + 1 := ⟨e - 1, by omega⟩
          obtain ⟨⟨j4, k4, e4⟩, j6, k6, e6⟩ := hr hb
          refine ⟨fun q => absurd q (ja_4 hE ha hb (xg_t hx hb)), fun _ => ⟨fun q => absurd ((c_ty hs).trans z) q, fun _ => ?_⟩⟩
          refine c_change hE hs (j := j4) (fun _ => ⟨e4, k4⟩) (fun s1 h1 => c_adv hE h1 hlt (fun s2 h2 => c_kind hE h2 (fun r16 s3 _ h3 => c_put hE h3 (xg_lo (n := 15) (xg_m hx m2 (c' := 15) (by decide)) (by decide)) (by decide) (fun _ s4 _ h4 => ?_))))
          refine hc _ s4 O (fun t1 M19 O19 => wF_X7_attempt_140 (E_N E) (cb (E_N E) n) (wF_X7_attempt_69 (E_N E) (cb (E_N E) n) Q e) Q p r6 a t1 M19 O19) h4 (fun t1 s5 h5 => ?_)
          refine c_put hE h5 (xg_lo (n := 15) (xg_m hx m34 (c' := 15) (by decide)) (by decide)) (by decide) (fun _ s6' _ h6 => c_hole hE h6 (xg_lo (n := 15) (xg_m hx m5 (c' := 15) (by decide)) (by decide)) (by decide) (fun r22 s7' hr22 h7 => ba n p (jb_m hp s6) _ s7' O _ h7 (fun s8' h8 => c_emit hE h8 (xg_lo (n := 15) (xg_s hx s7 (c' := 15) (by decide)) (by decide)) (by decide) (fun s9 h9 => ?_))))
          exact ia n p (a + 1) e r22 r6 (X_z (X_pt 1 y4) :: K) s9 O Q (jb_m hp s8) (ja_s hE ha s8 (by decide)) (by omega) (fun q => ⟨⟨_, List.mem_cons_self .., hr22 (bm q).1⟩, j6, List.mem_cons_of_mem _ k6, e6⟩) h9 (fun s' h' => hQ s' (rc_sub h' (fun q hq => List.mem_cons_of_mem _ hq) rfl))
        · cases e with
          | zero => exact absurd w (fun q => q)
          | succ e =>
            dsimp only [w_trying_90] at w ⊢
            refine re_w0 hE hr 17 (by decide) (c := 17) (d := 217) (by decide) (by decide) (fun _ w => ?_) (fun q => absurd z q) w
            refine re_pass hE hlt k M F _ _ hr w (fun M1 F1 r1 w1 => re_takenK hE k _ F1 _ _ (rx_um (by decide) r1) w1 (fun r26 M2 F2 r2 w2 => ⟨w2.1, ?_⟩))
            refine hr4 k M2 _ (fun t2 M30 F30 => w_trying_169 (wf_blk n) (w_trying_90 (wf_blk n) Q e) Q a1 a2 ((400 * (M1 27)) + (M1 32)) ((400 * (M1 27)) + (M1 32)) t2 M30 F30) (fun t2 M30 F30 => w_trying_169 (wf_blk n) (w_trying_90 (wf_blk n) Q' e) Q' a1 a2 ((400 * (M1 27)) + (M1 32)) ((400 * (M1 27)) + (M1 32)) t2 M30 F30) (rx_uf (by decide) (rx_pt r2)) (fun t2 M3 F3 r3 w3 => ?_) w2.2
            have fin : ∀ F4, rxx E k M3 F4 y4 → w_trying_202 (wf_blk n) (w_trying_90 (wf_blk n) Q e) Q a1 ((400 * (M1 27)) + (M1 32)) M3 F4 → w_trying_202 (wf_blk n) (w_trying_90 (wf_blk n) Q' e) Q' a1 ((400 * (M1 27)) + (M1 32)) M3 F4 := fun F4 r4 w4 => by
              have w4' : vp_in ((400 * (M1 27)) + (M1 32)) 800 ∧ wf_blk n M3 _ _ := w4
              exact ⟨w4'.1, bb n k M3 _ _ _ (rx_uf (by decide) (rx_pt (j := 1) (rx_pt (j := 1) r4))) w4'.2 (fun M5 F5 r5 w5 => re_put k M5 F5 _ _ r5 w5 (fun _ M6 F6 r6 w6 => ib n e a1 _ k M6 F6 Q Q' (rx_pt r6) w6 hQ))⟩
            obtain ⟨v1, v2, v3, v4⟩ := w3
            exact ⟨v1, v2, fun q => ⟨(v3 q).1, fin _ (rx_uf (by decide) (rx_uf (by decide) (rx_uf (by decide) r3))) (v3 q).2⟩, fun q => ⟨(v4 q).1, fin _ (rx_uf (by decide) (rx_uf (by decide) (rx_uf (by decide) r3))) (v4 q).2⟩⟩
      by_cases z3 : X_ty E (X_pt 1 (X_kd E (X_ad x))) = 131
      · have hb3 := X_tyn z3 (by decide)
        refine go _ (xm_w (xm_ob hE hn (xm_t m3)) (by decide) (by decide) rfl) (fun k s O G hs hG => ⟨fun q => absurd ((c_ty hs).trans z3) q, fun _ => c_object hE hs (fun r s1 h1 => hG r s1 h1)⟩) (fun k M F A A' hr hA w => ?_)
        have hmm := re_m4 hE hr hb3
        exact re_b1 hr (fun q => absurd (q.symm.trans hb3) (by decide)) (fun _ w => ⟨fun q => absurd (hmm.2.2.1.mp z3) q, fun q => re_object hE k M F _ _ hr (w.2 q) (fun r M1 F1 r1 w1 => hA r M1 F1 r1 w1)⟩) w
      · refine go _ (xm_rf (xm_t m3)) (fun k s O G hs hG => ⟨fun _ => hG _ s hs, fun q => absurd ((c_ty hs).symm.trans q) z3⟩) (fun k M F A A' hr hA w => ?_)
        refine re_b1 hr (fun _ w => hA _ M F hr w) (fun hb3 w => ⟨fun q => hA _ M F hr (w.1 q), fun q => ?_⟩) w
        have hmm := re_m4 hE hr hb3
        exact absurd (hmm.2.2.1.mpr q) z3
    · exact ex (i + 1) hi x hx hh ht z
theorem st_try (hE : E_ok E) (hn : E_no E) {j : Nat} (hB : jB E j) (hx : xg E 4 x) (hh : hl E x) (ht : jt E (j + 1) x) (z : X_ty E x = 216) : ∃ x', jSx E x x' := by
  have hb := X_tyn z (by decide)
  have hlt := xq_lt hE (xg_t hx) z (by decide)
  have m0 := xm_pt (xg_t hx) 1
  have m1 := xm_t0 m0 (xm_ad hE (x := X_pt 1 x) hlt)
  have m2 := xm_t0 m1 (xm_pt (xm_t m1) 1)
  have m3 := xm_t0 m2 (xm_pt (xm_t m2) 1)
  have m4 := xm_w (xm_t0 m3 (xm_pt (xm_t m3) 1)) (a' := 1) (d' := 2) (by decide) (by decide) rfl
  have s4 := xm_xs hE m4
  obtain ⟨x5, ba, bb, bm⟩ := hB (X_pt 1 (X_pt 1 (X_pt 1 (X_ad (X_pt 1 x))))) (xg_m hx m4 (by decide)) (hl_s hh s4) (jt_m ht m4)
  have s5 := xs_t0 s4 bm
  have s6 := xs_w (xs_t0 s5 (xm_xs hE (xm_pt (xs_t s5) 1))) (a' := 1) (d' := -1) (by decide) (by decide) rfl
  have g6 := xg_s hx s6 (c' := 6) (by decide)
  -- what stands behind, or bad
  have go : ∀ y, xs E 0 0 0 (X_pt 1 x5) y → (∀ (k : x_Kt) (s : f_S3) (O : Nat × Nat) (G : f_S3 → Nat × Nat → Prop), rc E k s (X_pt 1 x5) → (∀ s', rc E k s' y → G s' O) → (((s.1 12) = 217 → G s O) ∧ (¬ (s.1 12) = 217 → (((s.1 12) = 218 → G s O) ∧ (¬ (s.1 12) = 218 → (wF_X7_fail (E_N E) s O (fun M28 O28 => G M28 O28))))))) → (∀ (k : x_B) (M : Nat → Int32) (F : Nat → Nat → Int32) (A A' : (Nat → Int32) → (Nat → Nat → Int32) → Prop), rxx E k M F (X_pt 1 x5) → (∀ M' F', rxx E k M' F' y → A M' F' → A' M' F') → (w_isWord 17 M F (fun r9 M10 F10 => ((¬ r9 = 0 → A M10 F10) ∧ (r9 = 0 → (w_isWord 18 M10 F10 (fun r43 M44 F44 => ((¬ r43 = 0 → A M44 F44) ∧ (r43 = 0 → (w_fail M44 F44 (fun M45 F45 => A M45 F45)))))))))) → (w_isWord 17 M F (fun r9 M10 F10 => ((¬ r9 = 0 → A' M10 F10) ∧ (r9 = 0 → (w_isWord 18 M10 F10 (fun r43 M44 F44 => ((¬ r43 = 0 → A' M44 F44) ∧ (r43 = 0 → (w_fail M44 F44 (fun M45 F45 => A' M45 F45))))))))))) → ∃ x', jSx E x x' := by
    intro y sy hc hr0
    have s7 := xs_t0 s6 sy
    obtain ⟨x', ia, ib, im⟩ := try_L hE hn hB j (Nat.le_refl _) y (xg_s g6 sy (by decide)) (hl_s hh s7) (jt_s (a := 1) ht (xs_w s7 (by decide) (Int.le_refl _) rfl))
    refine ⟨x', fun n p hp K s O Q hs hQ => ?_, fun n k M F Q Q' hr w hQ => ?_, xs_w (xs_t0 s7 im) (by decide) (by decide) rfl⟩
    · have e := (c_ty hs).trans z
      refine ⟨fun q => absurd (q.symm.trans e) (by decide), fun q => absurd (q.symm.trans e) (by decide), fun q => absurd (q.symm.trans e) (by decide), fun _ => ?_, fun _ _ _ q => absurd e q⟩
      refine c_emit hE hs (xg_lo (n := 15) hx (by decide)) (by decide) (fun s1 h1 => c_adv hE h1 hlt (fun s2 h2 => c_emit hE h2 (xg_lo (n := 15) (xg_m hx m1 (c' := 15) (by decide)) (by decide)) (by decide) (fun s3 h3 => c_hole hE h3 (xg_lo (n := 15) (xg_m hx m2 (c' := 15) (by decide)) (by decide)) (by decide) (fun r4 s4' hr4 h4 => c_hole hE h4 (xg_lo (n := 15) (xg_m hx m3 (c' := 15) (by decide)) (by decide)) (by decide) (fun r6 s5' hr6 h5 => ba n p (jb_m hp s4) _ s5' O _ h5 (fun s6' h6 => c_emit hE h6 (xg_lo (n := 15) (xg_s hx s5 (c' := 15) (by decide)) (by decide)) (by decide) (fun s7' h7 => ?_)))))))
      refine hc _ s7' O (fun M9 O9 => wF_X7_attempt_66 (E_N E) (cb (E_N E) n) (fun M21 O21 => Q M21 O21) p r4 r6 M9 O9) h7 (fun s8 h8 => ⟨j + 1, ?_⟩)
      exact ia n p 0 (j + 1) r4 r6 _ s8 O _ (jb_m hp s7) ja_0 (by omega) (fun q => by
        have q5 := (bm (sy q).1).1
        exact ⟨⟨_, List.mem_cons_of_mem _ (List.mem_cons_self ..), hr4 q5⟩, _, List.mem_cons_self .., hr6 q5⟩) h8 (fun s' h' => hQ s' (rc_sub h' (fun q hq => List.mem_cons_of_mem _ (List.mem_cons_of_mem _ hq)) rfl))
    · refine st_r hE 16 (by decide) (by decide) z hr (fun M1 F1 r1 e5 w1 => st_W16 (e5.trans (by decide)) (fun w => ?_) w1) w
      refine re_pass hE (x := X_pt 1 x) hlt k M1 F1 _ _ (rx_pt r1) w (fun M2 F2 r2 w2 => ⟨w2.1, w2.2.1, ?_⟩)
      refine re_put k _ _ _ _ (rx_um (by decide) (rx_uf (by decide) (rx_uf (by decide) r2))) w2.2.2 (fun _ M3 F3 r3 w3 => bb n k M3 F3 _ _ (rx_pt (j := 1) (rx_pt (j := 1) (rx_pt (j := 1) r3))) w3 (fun M4 F4 r4 w4 => re_put k M4 F4 _ _ r4 w4 (fun _ M5 F5 r5 w5 => ?_)))
      refine hr0 k M5 F5 (fun M10 F10 => ∃ e90, w_trying_90 (wf_blk n) (fun M36 F36 => Q M36 F36) e90 ((400 * (M2 27)) + (M2 31)) (-1) M10 F10) (fun M10 F10 => ∃ e90, w_trying_90 (wf_blk n) (fun M36 F36 => Q' M36 F36) e90 ((400 * (M2 27)) + (M2 31)) (-1) M10 F10) (rx_pt r5) (fun M6 F6 r6 w6 => ?_) w5
      obtain ⟨e, w6⟩ := w6
      exact ⟨e, ib n e _ _ k M6 F6 _ _ r6 w6 (fun M7 F7 r7 w7 => hQ M7 F7 r7 w7)⟩
  by_cases z6 : X_ty E (X_pt 1 x5) = 217 ∨ X_ty E (X_pt 1 x5) = 218
  · refine go _ (xs_rf (xg_t g6)) (fun k s O G hs hG => ⟨fun _ => hG s hs, fun q1 => ⟨fun _ => hG s hs, fun q2 => ?_⟩⟩) (fun k M F A A' hr hA w => ?_)
    · rw [c_ty hs] at q1 q2
      exact absurd z6 (fun q => q.elim q1 q2)
    · refine re_w1 hE hr 17 (by decide) (c := 17) (d := 217) (by decide) (by decide) (fun _ w => hA M F hr w) (fun q1 w => ?_) w
      exact re_w1 hE hr 18 (by decide) (c := 18) (d := 218) (by decide) (by decide) (fun _ w => hA M F hr w) (fun q2 _ => absurd z6 (fun q => q.elim q1 q2)) w
  · refine go (X_bd (X_pt 1 x5)) (xs_bd rfl) (fun k s O G hs hG => ⟨fun q => ?_, fun q1 => ⟨fun q => ?_, fun q2 => c_fail hE hs (fun s1 h1 => hG s1 h1)⟩⟩) (fun k M F A A' hr hA w => ?_)
    · exact absurd (Or.inl ((c_ty hs).symm.trans q)) z6
    · exact absurd (Or.inr ((c_ty hs).symm.trans q)) z6
    · refine re_w1 hE hr 17 (by decide) (c := 17) (d := 217) (by decide) (by decide) (fun q _ => absurd (Or.inl q) z6) (fun q1 w => ?_) w
      exact re_w1 hE hr 18 (by decide) (c := 18) (d := 218) (by decide) (by decide) (fun q _ => absurd (Or.inr q) z6) (fun q2 w => re_fail hE k M F _ _ hr w (fun M1 F1 r1 w1 => hA M1 F1 r1 w1)) w
theorem st_all (hE : E_ok E) (hn : E_no E) {j : Nat} (hB : jB E j) (hx : xg E 4 x) (hh : hl E x) (ht : jt E (j + 1) x) (hb : x.1 = false) : ∃ x', jSx E x x' := by
  by_cases z1 : X_ty E x = 130
  · exact st_assign hE hn hx z1
  by_cases z2 : X_ty E x = 201
  · exact st_let hE hn hx z2
  by_cases z3 : X_ty E x = 202
  · exact st_hold hE hn hx z3
  by_cases z4 : X_ty E x = 206
  · exact st_raise hE hn hx z4
  by_cases z5 : X_ty E x = 207
  · exact st_join hE hn hx z5
  by_cases z6 : X_ty E x = 209
  · exact st_note hE hn hx z6
  by_cases z7 : X_ty E x = 210
  · exact st_hear hE hn hx hh z7
  by_cases z8 : X_ty E x = 212
  · exact st_rest hE hn hx z8
  by_cases z9 : X_ty E x = 213
  · exact st_if hE hn hB hx hh ht z9
  by_cases z10 : X_ty E x = 215
  · exact st_while hE hn hB hx hh ht z10
  by_cases z11 : X_ty E x = 216
  · exact st_try hE hn hB hx hh ht z11
  exact st_fail hE hx hb z1 z2 z3 z4 z5 z6 z7 z8 z9 z10 z11
/-- a block's end -/
theorem blk_x (hE : E_ok E) (hx : xg E 4 x) (ho : x.1 = false → 1 ≤ (X_i x 0).toInt ∧ (X_i x 0).toInt ≤ 20) (z : X_ty E x = 125 ∨ x.1 = true) : (∀ (WF WB : Int32 → x_CW) (p a : Int32) (e : Nat), 0 < e → crK E (fun s O Q => wF_X7_block_9 (E_N E) WF WB Q e p a s O) x (X_cl E 125 x)) ∧ (∀ (WF WB : x_RW) (e : Nat), rr E (fun M F Q => w_block_6 WF WB Q e M F) x (X_cl E 125 x)) ∧ xs E 1 (-2) (-1) x (X_cl E 125 x) := by
  have hz' : X_ty E x = 125 ∨ X_ty E x = 137 := z.imp id (fun q => X_tyb q)
  refine ⟨fun WF WB p a e he K s O Q hs hQ => ?_, fun WF WB e k M F Q Q' hr w hQ => ?_, xm_xs hE (xm_cl hE (xg_t hx) (by decide))⟩
  · obtain ⟨e, rfl⟩ : ∃ e', e = e' + 1 := ⟨e - 1, by omega⟩
    have go : wF_X7_block_48 (E_N E) WF WB Q s O := c_take hE hs (by decide) (by decide) (fun s1 h1 => hQ s1 (rc_o h1))
    dsimp only [wF_X7_block_9]
    rw [c_ty hs]
    exact ⟨fun _ => go, fun _ => ⟨fun _ => go, fun q1 => ⟨fun _ => go, fun q2 => absurd hz' (fun q => q.elim q1 q2)⟩⟩⟩
  · cases e with
    | zero => exact absurd w (fun q => q)
    | succ e =>
      dsimp only [w_block_6] at w ⊢
      have go : w_block_29 WF WB Q M F → w_block_29 WF WB Q' M F := fun w => re_closes hE (c := 125) rfl ho k M F _ _ hr w (fun M1 F1 r1 w1 => hQ M1 F1 r1 w1)
      refine re_b1 hr (fun _ w => go w) (fun hb w => ?_) w
      exact re_s1 hE hr (c := 125) rfl (fun _ w => go w) (fun q _ => absurd z (fun y => y.elim q (fun y => absurd (y.symm.trans hb) (by decide)))) w
theorem blk_L (hE : E_ok E) (hn : E_no E) {j : Nat} (hB : jB E j) : ∀ i, i ≤ j → ∀ x, xg E 4 x → hl E x → (x.1 = false → 1 ≤ (X_i x 0).toInt ∧ (X_i x 0).toInt ≤ 20) → jt E i x → ∃ x', (∀ (n : Nat) (p a : Int32) (e : Nat), jb n (p + 1) x → ja a x → i < e → crK E (fun s O Q => wF_X7_block_9 (E_N E) (cff (E_N E) 22) (cb (E_N E) n) Q e p a s O) x x') ∧ (∀ n e, rr E (fun M F Q => w_block_6 (wf_fac 22) (wf_blk n) Q e M F) x x') ∧ xs E 1 (-2) (-1) x x' := by
  intro i
  induction i with
  | zero =>
    intro hi x hx hh ho ht
    have hb : x.1 = true := by
      cases q : x.1 with
      | true => rfl
      | false => have := ht q; have := xg_t hx q; omega
    obtain ⟨a, b, m⟩ := blk_x hE hx ho (Or.inr hb)
    exact ⟨_, fun n p a' e _ _ he => a _ _ p a' e he, fun n e => b _ _ e, m⟩
  | succ i ih =>
    intro hi x hx hh ho ht
    by_cases z : X_ty E x = 125 ∨ x.1 = true
    · obtain ⟨a, b, m⟩ := blk_x hE hx ho z
      exact ⟨_, fun n p a' e _ _ he => a _ _ p a' e (by omega), fun n e => b _ _ e, m⟩
    · have hb : x.1 = false := by
        cases q : x.1 with
        | true => exact absurd (Or.inr q) z
        | false => rfl
      have n125 : ¬ X_ty E x = 125 := fun q => z (Or.inl q)
      have n137 : ¬ X_ty E x = 137 := fun q => E_ty hE (xg_t hx hb) ((X_tyg hb).symm.trans q)
      obtain ⟨x1, sa, sb, sm⟩ := st_all hE hn hB hx hh (jt_w ht (by omega)) hb
      obtain ⟨x', ia, ib, im⟩ := ih (by omega) x1 (xg_s hx sm (by decide)) (hl_s hh sm) (fun q => by
        obtain ⟨c1, c2⟩ := xs_i0 sm q
        rw [c2]; exact ho c1) (jt_s ht sm)
      refine ⟨x', fun n p a e hp ha he K s O Q hs hQ => ?_, fun n e k M F Q Q' hr w hQ => ?_, xs_w (xs_tr sm im) (by decide) (by decide) (by decide)⟩
      · obtain ⟨e, rfl⟩ : ∃ e', e = e' + 1 := ⟨e - 1, by omega⟩
        have e0 := c_ty hs
        refine ⟨fun q => absurd q (ja_4 hE ha hb (xg_t hx hb)), fun _ => ⟨fun q => absurd (e0.symm.trans q) n125, fun _ => ⟨fun q => absurd (e0.symm.trans q) n137, fun _ => ?_⟩⟩⟩
        exact sa n (p + 1) hp K s O _ hs (fun s1 h1 => ia n p (a + 1) e (jb_m hp sm) (ja_s hE ha sm (by decide)) (by omega) K s1 O Q h1 hQ)
      · cases e with
        | zero => exact absurd w (fun q => q)
        | succ e =>
          dsimp only [w_block_6] at w ⊢
          refine re_b1 hr (fun q => absurd (q.symm.trans hb) (by decide)) (fun _ w => ?_) w
          exact re_s1 hE hr (c := 125) rfl (fun q => absurd q n125) (fun _ w => sb n k M F _ _ hr w (fun M1 F1 r1 w1 => ib n e k M1 F1 Q Q' r1 w1 hQ)) w
theorem j_block (hE : E_ok E) (hn : E_no E) : ∀ j, jB E j := by
  intro j
  induction j with
  | zero =>
    intro x hx hh ht
    have hb : x.1 = true := by
      cases q : x.1 with
      | true => rfl
      | false => have := ht q; have := xg_t hx q; omega
    have e1 : X_op E 123 x = X_bd x := by
      unfold X_op
      rw [if_neg (fun q => by rw [X_tyb hb] at q; exact absurd q.1 (by decide))]
    obtain ⟨a, b, m⟩ := blk_x hE (x := X_bd x) (fun q => absurd q (by show ¬ true = false; decide)) (fun q => absurd q (by show ¬ true = false; decide)) (Or.inr rfl)
    have hc : (X_cl E 125 (X_bd x)).1 = true := X_tk_b rfl
    refine ⟨X_cl E 125 (X_bd x), fun n p hp K s O Q hs hQ => ?_, fun n k M F Q Q' hr w hQ => ?_, xs_bd hc⟩
    · obtain ⟨n, rfl⟩ : ∃ n', n = n' + 1 := ⟨n - 1, by have := hp.1; omega⟩
      show wF_X7_block (E_N E) (cff (E_N E) 22) (cb (E_N E) n) p s O Q
      exact bd_block (hs.1 hb) (fun s' h' => hQ s' (rc_bd h' hc))
    · cases n with
      | zero => exact absurd w (fun q => q)
      | succ n =>
        refine re_opens hE (c := 123) rfl k M F _ _ hr w (fun M1 F1 r1 w1 => ?_)
        rw [e1] at r1
        obtain ⟨e, w1⟩ := w1
        exact ⟨e, b _ _ e k M1 F1 Q Q' r1 w1 hQ⟩
  | succ j ih =>
    intro x hx hh ht
    have hx10 : xg E 10 x := xg_w hx (by decide)
    have m0 := xm_op hE (xg_t hx) (c := 123) (by decide)
    have g0 := X_op_g hE (c := 123) hx10 (by decide)
    have g0' : xg E 4 (X_op E 123 x) := xg_o hx m0 (fun q => (X_op_i q).2.2.1) (by decide)
    have ho := X_op_1 (y := X_op E 123 x) hx10 g0 (xm_rf (xg_t g0))
    have s0 := xm_xs hE m0
    have cn : ∀ (n : Nat) (p : Int32), jb n p x → ∃ n', n = n' + 1 := fun n p hp => ⟨n - 1, by have := hp.1; omega⟩
    cases hb0 : (X_op E 123 x).1 with
    | true =>
      obtain ⟨a, b, m⟩ := blk_x hE g0' ho (Or.inr hb0)
      refine ⟨_, fun n p hp K s O Q hs hQ => ?_, fun n k M F Q Q' hr w hQ => ?_, xs_w (xs_tr s0 m) (by decide) (by decide) (by decide)⟩
      · obtain ⟨n, rfl⟩ := cn n p hp
        show wF_X7_block (E_N E) (cff (E_N E) 22) (cb (E_N E) n) p s O Q
        exact c_open hE hs (xg_oo hx) (by decide) (by decide) (fun q => (hp.2 q).2) (fun s1 h1 => ⟨1, a _ _ p 0 1 (by decide) K s1 O Q h1 hQ⟩)
      · cases n with
        | zero => exact absurd w (fun q => q)
        | succ n =>
          refine re_opens hE (c := 123) rfl k M F _ _ hr w (fun M1 F1 r1 w1 => ?_)
          obtain ⟨e, w1⟩ := w1
          exact ⟨e, b _ _ e k M1 F1 Q Q' r1 w1 hQ⟩
    | false =>
      obtain ⟨x', ia, ib, im⟩ := blk_L hE hn ih j (Nat.le_refl _) (X_op E 123 x) g0' (hl_s hh s0) ho (jt_m ht m0)
      refine ⟨x', fun n p hp K s O Q hs hQ => ?_, fun n k M F Q Q' hr w hQ => ?_, xs_w (xs_tr s0 im) (by decide) (by decide) (by decide)⟩
      · obtain ⟨n, rfl⟩ := cn n p hp
        obtain ⟨i1, i2, i3, i4⟩ := X_op_i hb0
        have hp2 := hp.2 i1
        have l1 : (1 : Int32).toInt = 1 := by decide
        have l20 : (20 : Int32).toInt = 20 := by decide
        have o := xg_oo hx i1
        have hlt20 : (X_i x 0).toInt < 20 := by
          by_cases q : (X_i x 0).toInt = 20
          · exact absurd (Int32.toInt_inj.mp (by rw [l20]; exact q)) i3
          · omega
        show wF_X7_block (E_N E) (cff (E_N E) 22) (cb (E_N E) n) p s O Q
        refine c_open hE hs (xg_oo hx) (by decide) (by decide) (fun q => (hp.2 q).2) (fun s1 h1 => ⟨j + 1, ia n p 0 (j + 1) ⟨by omega, fun _ => ?_⟩ ja_0 (by omega) K s1 O Q h1 hQ⟩)
        rw [i4, hp2.2, ti_addx _ _ (by rw [l1]; omega), l1]
        exact ⟨by omega, rfl⟩
      · cases n with
        | zero => exact absurd w (fun q => q)
        | succ n =>
          refine re_opens hE (c := 123) rfl k M F _ _ hr w (fun M1 F1 r1 w1 => ?_)
          obtain ⟨e, w1⟩ := w1
          exact ⟨e, ib n e k M1 F1 Q Q' r1 w1 hQ⟩
end XS7
