/-! THE REFERENCE WHEN IT IS BAD: it stays so; M 36 is where. X: what is kept besides (any property that M 33, 47 don't touch). -/
section ZB1
variable {M : Nat → Int32} {F : Nat → Nat → Int32}
def zb (M : Nat → Int32) : Prop := ¬ M 36 = -1
theorem zb_bad (h : zb M) {Q : Int32 → (Nat → Int32) → (Nat → Nat → Int32) → Prop} (hQ : Q 1 M F) : w_bad M F Q := ⟨fun q => absurd q h, fun _ => hQ⟩
theorem zb_fail (h : zb M) {Q : (Nat → Int32) → (Nat → Nat → Int32) → Prop} (hQ : Q M F) : w_fail M F Q := ⟨fun _ => hQ, fun q => absurd q h⟩
theorem zb_isSign (h : zb M) {c : Int32} {Q : Int32 → (Nat → Int32) → (Nat → Nat → Int32) → Prop} (hQ : Q 0 M F) : w_isSign c M F Q := zb_bad h ⟨fun _ => hQ, fun q => absurd q (by decide)⟩
theorem zb_isWord (h : zb M) {c : Int32} {Q : Int32 → (Nat → Int32) → (Nat → Nat → Int32) → Prop} (hQ : Q 0 M F) : w_isWord c M F Q := zb_bad h ⟨fun _ => hQ, fun q => absurd q (by decide)⟩
theorem zb_pass (h : zb M) {Q : (Nat → Int32) → (Nat → Nat → Int32) → Prop} (hQ : Q M F) : w_pass M F Q := zb_bad h ⟨fun _ => hQ, fun q => absurd q (by decide)⟩
theorem zb_need (h : zb M) {c : Int32} {Q : (Nat → Int32) → (Nat → Nat → Int32) → Prop} (hQ : Q M F) : w_need c M F Q := zb_isSign h ⟨fun _ => zb_fail h hQ, fun q => absurd rfl q⟩
theorem zb_needWord (h : zb M) {c : Int32} {Q : (Nat → Int32) → (Nat → Nat → Int32) → Prop} (hQ : Q M F) : w_needWord c M F Q := zb_isWord h ⟨fun _ => zb_fail h hQ, fun q => absurd rfl q⟩
theorem zb_um {k : Nat} {v : Int32} (h : zb M) (hk : k ≠ 36) : zb (um M k v) := by
  unfold zb
  rw [um_ne (fun q => hk q.symm)]; exact h
theorem zb_opens (h : zb M) {c : Int32} {Q : (Nat → Int32) → (Nat → Nat → Int32) → Prop} (hQ : Q (um M 33 (M 33 + 1)) F) : w_opens c M F Q := zb_isSign h ⟨fun _ => zb_fail h (zb_pass (zb_um h (by decide)) hQ), fun q => absurd rfl q⟩
theorem zb_closes (h : zb M) {c : Int32} {Q : (Nat → Int32) → (Nat → Nat → Int32) → Prop} (hQ : Q (um M 33 (M 33 - 1)) F) : w_closes c M F Q := zb_need h hQ
theorem zb_taken (h : zb M) {c : Int32} {Q : Int32 → (Nat → Int32) → (Nat → Nat → Int32) → Prop} (hQ : Q 0 (um M 47 (M 6)) F) : w_taken c M F Q := zb_bad (zb_um h (by decide)) ⟨fun _ => zb_fail (zb_um h (by decide)) hQ, fun q => absurd q (by decide)⟩
theorem zb_tell (h : zb M) {a b : Int32} {Q : (Nat → Int32) → (Nat → Nat → Int32) → Prop} (hQ : Q M F) : w_tell a b M F Q := zb_bad h ⟨fun q => absurd q (by decide), fun _ => hQ⟩
theorem zb_told (h : zb M) {a b : Int32} {Q : Int32 → (Nat → Int32) → (Nat → Nat → Int32) → Prop} (hQ : Q 0 M F) : w_told a b M F Q := zb_bad h ⟨fun q => absurd q (by decide), fun _ => hQ⟩
theorem zb_object (h : zb M) {Q : Int32 → (Nat → Int32) → (Nat → Nat → Int32) → Prop} (hQ : Q 0 (um M 47 (M 6)) F) : w_object M F Q := zb_taken h (zb_bad (zb_um h (by decide)) ⟨fun q => absurd q (by decide), fun _ => hQ⟩)
end ZB1
