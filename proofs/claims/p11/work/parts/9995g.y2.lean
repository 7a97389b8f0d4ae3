/-! FED BYTES: the class's and the reference's are the same. -/
section Y2
theorem x_255 : ∀ i, i < 32 → ((255 : Int32).toBitVec.getLsbD i = true ↔ i < 8) := by decide +kernel
theorem x_b8 (x : Int32) : x.toInt8.toInt32 &&& 255 = x &&& 255 := by
  apply Int32.toBitVec_inj.mp
  rw [Int32.toBitVec_and, Int32.toBitVec_and, Int8.toBitVec_toInt32, Int32.toBitVec_toInt8]
  apply BitVec.eq_of_getLsbD_eq
  intro i hi
  rw [BitVec.getLsbD_and, BitVec.getLsbD_and]
  by_cases h : i < 8
  · rw [BitVec.getLsbD_signExtend, if_pos h, BitVec.getLsbD_signExtend, if_pos hi]
    simp [h, hi]
  · have : (255 : Int32).toBitVec.getLsbD i = false := Bool.eq_false_iff.mpr (fun q => h ((x_255 i hi).mp q))
    rw [this, Bool.and_false, Bool.and_false]
theorem x_shr (v : Int32) {k : Nat} (hk : k ≤ 24) : f_ushr v (nI k) &&& 255 = (v >>> (nI k &&& 31)) &&& 255 := by
  have e1 : ∀ k, k < 25 → ((nI k).toUInt32 &&& Int32.toUInt32 31).toBitVec.toNat = k ∧ (nI k).toUInt32 &&& Int32.toUInt32 31 = UInt32.ofNat k ∧ nI k &&& 31 = nI k ∧ ((nI k).toBitVec.smod 32).toNat = k ∧ ((UInt32.ofNat k).toBitVec % 32).toNat = k := by decide +kernel
  obtain ⟨a, b, c, d, d2⟩ := e1 k (by omega)
  unfold f_ushr
  rw [b, c]
  apply Int32.toBitVec_inj.mp
  rw [Int32.toBitVec_and, Int32.toBitVec_and, Int32.toBitVec_shiftRight]
  apply BitVec.eq_of_getLsbD_eq
  intro i hi
  rw [BitVec.getLsbD_and, BitVec.getLsbD_and]
  by_cases h : i < 8
  · have h2 : (255 : Int32).toBitVec.getLsbD i = true := (x_255 i hi).mpr h
    rw [h2, Bool.and_true, Bool.and_true]
    show ((v.toUInt32 >>> UInt32.ofNat k).toBitVec).getLsbD i = _
    rw [UInt32.toBitVec_shiftRight]
    show (v.toBitVec >>> ((UInt32.ofNat k).toBitVec % 32)).getLsbD i = _
    rw [BitVec.ushiftRight_eq', d2, BitVec.sshiftRight_eq', d, BitVec.getLsbD_ushiftRight, BitVec.getLsbD_sshiftRight]
    simp [show ¬ 32 ≤ i by omega, show k + i < 32 by omega]
  · have : (255 : Int32).toBitVec.getLsbD i = false := Bool.eq_false_iff.mpr (fun q => h ((x_255 i hi).mp q))
    rw [this, Bool.and_false, Bool.and_false]
theorem x_byte (v : Int32) {k : Nat} (hk : k ≤ 24) : vp_nar .byte ((f_ushr v (nI k)).toInt8.toInt32) &&& 255 = (v >>> (nI k &&& 31)) &&& 255 := by
  show ((f_ushr v (nI k)).toInt8.toInt32).toInt8.toInt32 &&& 255 = _
  rw [x_b8, x_b8, x_shr v hk]
end Y2
