theorem ly_xornat (a b : Nat) : nI a ^^^ nI b = nI (a ^^^ b) := by
  apply Int32.toBitVec_inj.mp
  apply BitVec.eq_of_toNat_eq
  show ((BitVec.ofNat 32 a) ^^^ (BitVec.ofNat 32 b)).toNat = (BitVec.ofNat 32 (a ^^^ b)).toNat
  rw [BitVec.toNat_xor, BitVec.toNat_ofNat, BitVec.toNat_ofNat, BitVec.toNat_ofNat, Nat.xor_mod_two_pow]
theorem ly_xor1 {a k : Nat} (h : k < 31) : nI a ^^^ ((1 : Int32) <<< (nI k &&& 31)) = nI (a ^^^ 2 ^ k) := by rw [ly_shl1 h, ly_xornat]
