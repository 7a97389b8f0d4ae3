/-! THE CLASS'S READ, with what it leaves. -/
theorem ckF_readTextG {bk : Nat} (hbk : bk ≤ 1) {l : Launch} {D : va_G} {cT : Nat → ClassId} {adK adV ad : Nat → Nat} {A : Nat → Prop} {up n q b : Nat} {v : nw_U} {fb : Nat → Int32} (hb : b = 4000) (hn : n ≤ 4000) : f_MetR l (tb_R, D, rd_ad q (ad 10) v, rd_N b n, cT, adK, adV, A, up) 3 (.object "AppealCourt$Program") yX7_readText cX7_readText 2 (6 * 22 + 60 + 5 * 22 + 11) [.ref q] (rd_M n, rd_F (v.1, fun _ _ => -1) fb, fun _ _ => 0) (0, 7) (fun s' _ => ∃ x' : y_X, c_fin (rd_N b n) s' (yx x') ∧ finC s' x' ∧ e_fin x' ∧ ∀ r, is_a (yx x') r → RDG (fun i => fb i &&& 255) n bk r x') := by
  refine soF_X7_readText (g := (tb_R, D, rd_ad q (ad 10) v, rd_N b n, cT, adK, adV, A, up)) rfl (so_cb (g := (tb_R, D, rd_ad q (ad 10) v, rd_N b n, cT, adK, adV, A, up)) rfl 22) _ _ _ ?_
  refine c_readTextG hbk (N := rd_N b n) (T := fun i => fb i &&& 255) (n := n) ⟨rfl, hn, hb, fun i _ => rfl⟩ (fun i => x_255r _) ⟨rfl, rfl, rfl, ?_⟩ ⟨rfl, ?_, rfl, rfl, ?_⟩ ⟨?_, rfl, rfl, rfl, rfl, rfl⟩ ⟨rfl, Nat.zero_le _, rfl, rfl, ?_, fun i hi => absurd hi (by simp), fun j _ => rfl, fun i hi => absurd hi (by simp)⟩ rfl rfl (by show ¬ (0 : Int32) = 137; decide) rfl rfl rfl rfl rfl (fun _ => rfl) (fun _ => rfl) (fun _ => rfl) (fun s' x' h1 h2 h3 h4 => ⟨x', h1, h2, h3, h4⟩)
  · show 33 + n / 2 + 1 = 34 + n / 2; omega
  · show 2 * n + 16 < 1000000; omega
  · show 33 + n / 2 + 1 < 1000000; omega
  · show 33 + n / 2 + 1 = 34 + n / 2; omega
  · show 33 + n / 2 + 1 < 1000000; omega
/-- what a read leaves of the class's cells -/
def rd_post (bk n : Nat) (N : Nat → Nat) (M : Nat → Int32) (F : Nat → Nat → Int32) (r : Int32) (u : cl_S) : Prop := ∃ y : y_X, e_fin y ∧ RDG (fun i => F 10 i &&& 255) n bk r y ∧ ((∀ j, j ≠ 1 → j ≠ 3 → j ≠ 4 → j ≠ 63 → j ≠ 64 → cl_M u j = M j) ∧ ∀ k, k ≠ 10 → k ≠ 20 → k ≠ 21 → k ≠ 22 → u.2.2.2.2.1 k = F k) ∧ (¬ r = 0 → cl_M u 63 = M 63 ∧ cl_M u 64 = M 64 ∧ (u.2.2.2.2.1 20 = F 20 ∧ u.2.2.2.2.1 21 = F 21 ∧ u.2.2.2.2.1 22 = F 22) ∧ cl_N u = N) ∧ (r = 0 → finC (cl_M u, u.2.2.2.2.1, u.2.2.2.2.2.1) y ∧ (0 ≤ (cl_M u 63).toInt ∧ (cl_M u 63).toInt ≤ cl_N u 20))
theorem rd_F1_ne {F FR : Nat → Nat → Int32} {k : Nat} (h : k ≠ 10) : rd_F1 F FR k = F k := by
  have e : Nat.beq k 10 = false := by
    cases q : Nat.beq k 10 with
    | true => exact absurd (Nat.eq_of_beq_eq_true q) h
    | false => rfl
  unfold rd_F1
  rw [e]; rfl
theorem rd_beq {k j : Nat} (h : k ≠ j) : Nat.beq k j = false := by
  cases q : Nat.beq k j with
  | true => exact absurd (Nat.eq_of_beq_eq_true q) h
  | false => rfl
theorem rd_F2_ne {F FR : Nat → Nat → Int32} {k : Nat} (h : k ≠ 10) (h20 : k ≠ 20) (h21 : k ≠ 21) (h22 : k ≠ 22) : rd_F2 F FR k = F k := by
  unfold rd_F2
  rw [rd_beq h, rd_beq h20, rd_beq h21, rd_beq h22]; rfl
theorem rd_M2_ne {M MR : Nat → Int32} {k : Nat} (h : k ≠ 63) (h' : k ≠ 64) : rd_M2 M MR k = M k := by
  unfold rd_M2
  rw [rd_beq h, rd_beq h']; rfl
theorem rd_nz {r : Int32} (h : ¬ r = 0) : ¬ r = 0 := h
theorem rd_zz {r : Int32} (h : r = 0) : r = 0 := h
