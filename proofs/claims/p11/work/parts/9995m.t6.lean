/-! THE CLASS'S READER ON A TEXT: what it leaves, against what the reference answers. -/
section XT6
theorem so_cff {l : Launch} {g : b_S} (hg : g.1 = tb_R) : ∀ (d : Nat) (p0 : Int32) (M : f_S3) (O : Nat × Nat) (Q : f_S3 → Nat × Nat → Prop), cff (b_N g) d p0 M O Q → f_MetV l g yX7_factor cX7_factor 5 (6 * d) [.ref (b_o g 0), .int p0] M O Q := by
  intro d
  induction d with
  | zero => intro p0 M O Q h; exact absurd h (fun h => h)
  | succ d ih => intro p0 M O Q h; exact soF_X7_factor hg ih p0 M O Q h
theorem so_cb {l : Launch} {g : b_S} (hg : g.1 = tb_R) : ∀ (d : Nat) (p0 : Int32) (M : f_S3) (O : Nat × Nat) (Q : f_S3 → Nat × Nat → Prop), cb (b_N g) d p0 M O Q → f_MetV l g yX7_block cX7_block 3 (6 * 22 + 60 + 5 * d) [.ref (b_o g 0), .int p0] M O Q := by
  intro d
  induction d with
  | zero => intro p0 M O Q h; exact absurd h (fun h => h)
  | succ d ih => intro p0 M O Q h; exact soF_X7_block hg (so_cff hg 22) ih (by omega) p0 M O Q h
end XT6
