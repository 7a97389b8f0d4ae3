/-! THE REFERENCE WHEN IT IS BAD: it stays so; M 36 is where. X: what is kept besides (any property that M 33, 47 don't touch). -/
section ZB1
variable {M : Nat → Int32} {F : Nat → Nat → Int32}
def zb (M : Nat → Int32) : Prop := ¬ M 36 = -1
theorem zb_um {k : Nat} {v : Int32} (h : zb M) (hk : k ≠ 36) : zb (um M k v) := by
  unfold zb
  rw [um_ne (fun q => hk q.symm)]; exact h
end ZB1
