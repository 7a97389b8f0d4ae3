theorem x_pack {k g : Nat} (hk : k < 2 ^ 54) (hg : g < 64) : f_lshl (Int64.ofNat k) 6 ||| (nI g).toInt64 = Int64.ofNat (64 * k + g) := by
  have e6 : ((6 : Int32).toInt64 &&& 63) = 6 := by decide
  have e1 : (nI g).toInt64 = Int64.ofNat g := by
    apply Int64.toInt_inj.mp
    rw [Int32.toInt_toInt64, fs_nI (by omega), Int64.toInt_ofNat_of_lt (by omega)]
  unfold f_lshl
  rw [e6, e1]
  apply Int64.toBitVec_inj.mp
  rw [Int64.toBitVec_or, Int64.toBitVec_shiftLeft]
  apply BitVec.eq_of_toNat_eq
  rw [BitVec.toNat_or]
  have s6 : ((6 : Int64).toBitVec.smod 64) = 6#64 := by decide
  rw [s6]
  simp only [Int64.toBitVec_ofNat', BitVec.shiftLeft_eq', BitVec.toNat_shiftLeft, BitVec.toNat_ofNat]
  have a1 : k % 2 ^ 64 = k := Nat.mod_eq_of_lt (by omega)
  have a2 : g % 2 ^ 64 = g := Nat.mod_eq_of_lt (by omega)
  have a3 : (64 * k + g) % 2 ^ 64 = 64 * k + g := Nat.mod_eq_of_lt (by omega)
  have a4 : (6 % 2 ^ 64 : Nat) = 6 := by decide
  rw [a1, a2, a3, a4]
  have a5 : k <<< 6 % 2 ^ 64 = k <<< 6 := Nat.mod_eq_of_lt (by rw [Nat.shiftLeft_eq]; omega)
  rw [a5, ← Nat.shiftLeft_add_eq_or_of_lt (by omega : g < 2 ^ 6), Nat.shiftLeft_eq]
  omega
