section Y3
/-- the bytes B with the four of v behind the first c -/
def x_bq (v : Int32) (j : Nat) : Int32 := (v >>> (nI (24 - 8 * j) &&& 31)) &&& 255
def x_app (B : Nat → Int32) (c : Nat) (v : Int32) : Nat → Int32 := fun i => if c ≤ i ∧ i < c + 4 then x_bq v (i - c) else B i
def y_B (s : f_S3) (B : Nat → Int32) (c : Nat) : Prop := s.1 1 = nI c ∧ ∀ i, i < c → s.2.1 10 i &&& 255 = B i
def z_B (M : Nat → Int32) (F : Nat → Nat → Int32) (B : Nat → Int32) (c : Nat) : Prop := M 1 = nI c ∧ ∀ i, i < c → F 0 i = B i
def x_a (j : Nat) : Int32 := if j < 4 then nI (24 - 8 * j) else -8
theorem x_a_s : ∀ j, j < 4 → x_a j + (-8) = x_a (j + 1) ∧ ¬ x_a j < 0 ∧ x_a j = nI (24 - 8 * j) := by decide +kernel
variable {N : Nat → Nat} {s : f_S3} {O : Nat × Nat} {M : Nat → Int32} {F : Nat → Nat → Int32} {B : Nat → Int32} {c : Nat}
def y_only (s s' : f_S3) : Prop := (∀ j, j ≠ 1 → s'.1 j = s.1 j) ∧ (∀ r i, r ≠ 10 → s'.2.1 r i = s.2.1 r i) ∧ s'.2.2 = s.2.2
theorem y_only.tr {s s' s2 : f_S3} (h : y_only s s') (h2 : y_only s' s2) : y_only s s2 := ⟨fun j q => by rw [h2.1 j q, h.1 j q], fun r i q => by rw [h2.2.1 r i q, h.2.1 r i q], by rw [h2.2.2, h.2.2]⟩
theorem y_put4 (hN : N 10 = 4000) (hB : y_B s B c) (hc : c + 4 ≤ 4000) (v : Int32) {Q : f_S3 → Nat × Nat → Prop} (hQ : ∀ s', y_B s' (x_app B c v) (c + 4) → y_only s s' → Q s' O) : wY_X11_putBytes N v s O Q := by
  have loop : ∀ (g j : Nat) (s' : f_S3), j + g = 4 → s'.1 1 = nI (c + j) → (∀ i, i < c + j → s'.2.1 10 i &&& 255 = x_app B c v i) → y_only s s' → wY_X11_putBytes_3 N Q (g + 1) v (x_a j) s' O := by
    intro g
    induction g with
    | zero =>
      intro j s' hj h1 h2 h3
      have : j = 4 := by omega
      subst this
      exact ⟨fun _ => hQ s' ⟨h1, h2⟩ h3, fun h => absurd (by decide) h⟩
    | succ g ih =>
      intro j s' hj h1 h2 h3
      obtain ⟨a1, a2, a3⟩ := x_a_s j (by omega)
      refine ⟨fun h => absurd h a2, fun _ => ?_⟩
      rw [h1, hN, y_le (by omega) (by omega), y_1, a1]
      refine ⟨fun h => by omega, fun _ => ⟨y_in (by omega) (by omega), ?_⟩⟩
      have cm : (nI (c + j)).toNatClampNeg = c + j := y_cl (by omega)
      refine ih (j + 1) _ (by omega) ?_ (fun i hi => ?_) ⟨fun k hk => ?_, fun r i hr => ?_, ?_⟩
      · show um s'.1 1 (nI (c + j + 1)) 1 = _; rw [um_eq]; rfl
      · show uf s'.2.1 10 (nI (c + j)) (vp_nar .byte ((f_ushr v (x_a j)).toInt8.toInt32)) 10 i &&& 255 = _
        rw [uf_at2, cm]
        by_cases q : i = c + j
        · rw [if_pos ⟨rfl, q⟩, a3, x_byte v (by omega)]
          unfold x_app x_bq
          rw [if_pos (by omega), show i - c = j by omega]
        · rw [if_neg (fun z => q z.2)]; exact h2 i (by omega)
      · show um s'.1 1 (nI (c + j + 1)) k = _; rw [um_ne hk]; exact h3.1 k hk
      · show uf s'.2.1 10 (nI (c + j)) (vp_nar .byte ((f_ushr v (x_a j)).toInt8.toInt32)) r i = _
        rw [uf_at2, if_neg (fun z => hr z.1)]; exact h3.2.1 r i hr
      · exact h3.2.2
  have := loop 4 0 s (by omega) hB.1 (fun i hi => by rw [hB.2 i (by omega)]; unfold x_app; rw [if_neg (by omega)]) ⟨fun _ _ => rfl, fun _ _ _ => rfl, rfl⟩
  exact ⟨5, this⟩
def z_only (M M' : Nat → Int32) (F F' : Nat → Nat → Int32) : Prop := (∀ j, j ≠ 1 → M' j = M j) ∧ ∀ r i, r ≠ 0 → F' r i = F r i
theorem z_only.tr {M' M2 : Nat → Int32} {F' F2 : Nat → Nat → Int32} (h : z_only M M' F F') (h2 : z_only M' M2 F' F2) : z_only M M2 F F2 := ⟨fun j q => by rw [h2.1 j q, h.1 j q], fun r i q => by rw [h2.2 r i q, h.2 r i q]⟩
theorem z_put4 (hB : z_B M F B c) (hc : c + 4 ≤ 4000) (v : Int32) {Q : (Nat → Int32) → (Nat → Nat → Int32) → Prop} (hQ : ∀ M' F', z_B M' F' (x_app B c v) (c + 4) → z_only M M' F F' → Q M' F') : w_word4 v M F Q := by
  have loop : ∀ (g j : Nat) (M' : Nat → Int32) (F' : Nat → Nat → Int32), j + g = 4 → M' 1 = nI (c + j) → (∀ i, i < c + j → F' 0 i = x_app B c v i) → z_only M M' F F' → w_word4_3 Q (g + 1) v (x_a j) M' F' := by
    intro g
    induction g with
    | zero =>
      intro j M' F' hj h1 h2 h3
      have : j = 4 := by omega
      subst this
      exact ⟨fun _ => hQ M' F' ⟨h1, h2⟩ h3, fun h => absurd (by decide) h⟩
    | succ g ih =>
      intro j M' F' hj h1 h2 h3
      obtain ⟨a1, a2, a3⟩ := x_a_s j (by omega)
      refine ⟨fun h => absurd h a2, fun _ => ?_⟩
      rw [h1, y_1, a1]
      refine ⟨y_in (by omega) (by omega), ?_⟩
      have cm : (nI (c + j)).toNatClampNeg = c + j := y_cl (by omega)
      refine ih (j + 1) _ _ (by omega) um_eq (fun i hi => ?_) ⟨fun k hk => by rw [um_ne hk]; exact h3.1 k hk, fun r i hr => by rw [uf_at2, if_neg (fun z => hr z.1)]; exact h3.2 r i hr⟩
      rw [uf_at2, cm]
      by_cases q : i = c + j
      · rw [if_pos ⟨rfl, q⟩, a3]
        unfold x_app x_bq
        rw [if_pos (by omega), show i - c = j by omega]
      · rw [if_neg (fun z => q z.2)]; exact h2 i (by omega)
  have := loop 4 0 M F (by omega) hB.1 (fun i hi => by rw [hB.2 i (by omega)]; unfold x_app; rw [if_neg (by omega)]) ⟨fun _ _ => rfl, fun _ _ _ => rfl⟩
  exact ⟨5, this⟩
/-- feed, on both sides -/
def x_fd (B : Nat → Int32) (c : Nat) (a b d e f : Int32) : Nat → Int32 := x_app (x_app (x_app (x_app (x_app B c a) (c + 4) b) (c + 8) d) (c + 12) e) (c + 16) f
theorem y_feed (hN : N 10 = 4000) (hB : y_B s B c) (hc : c ≤ 4000) (a b d e f : Int32) {Q : Int32 → f_S3 → Nat × Nat → Prop} (h1 : c + 20 ≤ 4000 → ∀ s', y_B s' (x_fd B c a b d e f) (c + 20) → y_only s s' → Q (nI (c + 20)) s' O) (h0 : 4000 < c + 20 → Q (-1) s O) : wY_X11_feed N a b d e f s O Q := by
  have e20 : (20 : Int32) = nI 20 := by decide
  have e40 : (4000 : Int32) = nI 4000 := by decide
  unfold wY_X11_feed
  rw [hB.1, e20, e40, ni_add, y_le (by omega) (by omega)]
  refine ⟨fun h => ?_, fun h => h0 (by omega)⟩
  refine y_put4 hN hB (by omega) a (fun s1 b1 o1 => ?_)
  refine y_put4 hN b1 (by omega) b (fun s2 b2 o2 => ?_)
  refine y_put4 hN b2 (by omega) d (fun s3 b3 o3 => ?_)
  refine y_put4 hN b3 (by omega) e (fun s4 b4 o4 => ?_)
  refine y_put4 hN b4 (by omega) f (fun s5 b5 o5 => ?_)
  have := h1 h s5 b5 (o1.tr (o2.tr (o3.tr (o4.tr o5))))
  rw [b5.1]; exact this
theorem z_feed (hB : z_B M F B c) (hc : c ≤ 4000) (a b d e f : Int32) {Q : Int32 → (Nat → Int32) → (Nat → Nat → Int32) → Prop} (h1 : c + 20 ≤ 4000 → ∀ M' F', z_B M' F' (x_fd B c a b d e f) (c + 20) → z_only M M' F F' → Q (nI (c + 20)) M' F') (h0 : 4000 < c + 20 → Q (-1) M F) : w_feed a b d e f M F Q := by
  have e20 : (20 : Int32) = nI 20 := by decide
  have e40 : (4000 : Int32) = nI 4000 := by decide
  unfold w_feed
  rw [hB.1, e20, e40, ni_add, y_le (by omega) (by omega)]
  refine ⟨fun h => ?_, fun h => h0 (by omega)⟩
  refine z_put4 hB (by omega) a (fun M1 F1 b1 o1 => ?_)
  refine z_put4 b1 (by omega) b (fun M2 F2 b2 o2 => ?_)
  refine z_put4 b2 (by omega) d (fun M3 F3 b3 o3 => ?_)
  refine z_put4 b3 (by omega) e (fun M4 F4 b4 o4 => ?_)
  refine z_put4 b4 (by omega) f (fun M5 F5 b5 o5 => ?_)
  have := h1 h M5 F5 b5 (o1.tr (o2.tr (o3.tr (o4.tr o5))))
  rw [b5.1]; exact this
end Y3
