theorem soT_X2_make {l : Launch} {g : b_S} {c : Nat} (hg : g.1 = tb_T c) (p1 p2 p3 p4 : Int32) (M : Nat → Int32) (O : Nat × Nat) (Q : Int32 → (Nat → Int32) → Nat × Nat → Prop) (hw : wT_X2_make (b_N g) p1 p2 p3 p4 M O Q) : b_MetI l g yX2_make cX2_make 6 .int 8 [.ref (b_o g 2), .int p1, .int p2, .int p3, .int p4] M O Q := by
  sorry
