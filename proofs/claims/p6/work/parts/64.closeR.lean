def wf_factor (N : Nat → Nat) : Nat → Int32 → (Nat → Int32) → (Nat × Nat) → ((Nat → Int32) → Nat × Nat → Prop) → Prop
  | 0 => fun _ _ _ _ => False
  | n + 1 => fun p M O Q => wR_X7_factor N (wf_factor N n) p M O Q
theorem so_wf_factor {l : Launch} {g : b_S} (hg : g.1 = tb_R) : ∀ (d : Nat) (p0 : Int32) (M : Nat → Int32) (O : Nat × Nat) (Q : (Nat → Int32) → Nat × Nat → Prop), wf_factor (b_N g) d p0 M O Q → b_MetV l g yX7_factor cX7_factor 5 (6 * d) [.ref (b_o g 0), .int p0] M O Q := by
  intro d
  induction d with
  | zero => intro p0 M O Q h; exact absurd h (fun h => h)
  | succ d ih => intro p0 M O Q h; exact soR_X7_factor hg ih p0 M O Q h
theorem sp_wf_factor {N : Nat → Nat} (hN : rN N) : ∀ (d : Nat) (q1 : Int32) (M : Nat → Int32) (O : Nat × Nat) {Q : (Nat → Int32) → Nat × Nat → Prop}, rI N M O → (((M 12).toInt = 137 ∧ 1 ≤ (d : Int)) ∨ (0 ≤ q1.toInt ∧ q1.toInt ≤ 20 ∧ 22 - q1.toInt ≤ (d : Int))) → (∀ (M' : Nat → Int32) (O' : Nat × Nat), rI N M' O' → rK M M' → Q M' O') → wf_factor N d q1 M O Q := by
  intro d
  induction d with
  | zero => intro q1 M O Q hI hp hQ; exact absurd hp (by omega)
  | succ d ih => intro q1 M O Q hI hp hQ; exact spR_X7_factor hN ih q1 hI (by omega) hQ
def wf_block (N : Nat → Nat) (f : Nat) : Nat → Int32 → (Nat → Int32) → (Nat × Nat) → ((Nat → Int32) → Nat × Nat → Prop) → Prop
  | 0 => fun _ _ _ _ => False
  | n + 1 => fun p M O Q => wR_X7_block N (wf_factor N f) (wf_block N f n) p M O Q
theorem so_wf_block {l : Launch} {g : b_S} (hg : g.1 = tb_R) (f : Nat) : ∀ (d : Nat) (p0 : Int32) (M : Nat → Int32) (O : Nat × Nat) (Q : (Nat → Int32) → Nat × Nat → Prop), wf_block (b_N g) f d p0 M O Q → b_MetV l g yX7_block cX7_block 3 (6 * f + 60 + 5 * d) [.ref (b_o g 0), .int p0] M O Q := by
  intro d
  induction d with
  | zero => intro p0 M O Q h; exact absurd h (fun h => h)
  | succ d ih => intro p0 M O Q h; exact soR_X7_block hg (so_wf_factor hg f) ih (by omega) p0 M O Q h
theorem sp_wf_block {N : Nat → Nat} (hN : rN N) {f : Nat} (hf : 22 ≤ f) : ∀ (d : Nat) (q1 : Int32) (M : Nat → Int32) (O : Nat × Nat) {Q : (Nat → Int32) → Nat × Nat → Prop}, rI N M O → (0 ≤ q1.toInt ∧ q1.toInt ≤ 20 ∧ 21 - q1.toInt ≤ (d : Int) ∧ 22 ≤ (f : Int)) → (∀ (M' : Nat → Int32) (O' : Nat × Nat), rI N M' O' → rK M M' → Q M' O') → wf_block N f d q1 M O Q := by
  intro d
  induction d with
  | zero => intro q1 M O Q hI hp hQ; exact absurd hp (by omega)
  | succ d ih => intro q1 M O Q hI hp hQ; exact spR_X7_block hN (sp_wf_factor hN f) ih q1 hI (by omega) hQ
/-- Reader.readText is safe -/
theorem ck_readText {l : Launch} {g : b_S} (hg : g.1 = tb_R) (hN : rN (b_N g)) (M : Nat → Int32) (O : Nat × Nat) (hI : rI (b_N g) M O) (h0 : (M 64).toInt = 0) : b_MetR l g 3 (.object "AppealCourt$Program") yX7_readText cX7_readText 2 (6 * 22 + 60 + 5 * 22 + 11) [.ref (b_o g 0)] M O (fun M' O' => rI (b_N g) M' O') :=
  soR_X7_readText hg (so_wf_block hg 22 22) M O _ (spR_X7_readText hN (sp_wf_block hN (Nat.le_refl 22) 22) hI ⟨h0, by omega, by omega⟩ (fun _ _ h => h))
