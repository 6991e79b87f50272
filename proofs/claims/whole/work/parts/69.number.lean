theorem lN_bv (x : Nat) : (lN x).toBitVec = BitVec.ofNat 64 x := rfl
theorem or8 (x b : Nat) (hb : b < 256) : ((BitVec.ofNat 64 x) <<< 8) ||| BitVec.ofNat 64 b = BitVec.ofNat 64 (x * 256 + b) := by
  apply BitVec.eq_of_toNat_eq
  rw [BitVec.toNat_or, BitVec.toNat_shiftLeft, BitVec.toNat_ofNat, BitVec.toNat_ofNat, BitVec.toNat_ofNat, Nat.shiftLeft_eq, Nat.mod_eq_of_lt (a := b) (by omega)]
  have e : x % 2 ^ 64 * 2 ^ 8 % 2 ^ 64 = (x % 2 ^ 56) * 2 ^ 8 := by omega
  rw [e, ← Nat.shiftLeft_eq, ← Nat.shiftLeft_add_eq_or_of_lt (show b < 2 ^ 8 by omega), Nat.shiftLeft_eq]
  omega
theorem zl8 (x b : Nat) (hb : b < 256) : zlshl (lN x) 8 ||| (nI b).toInt64 = lN (x * 256 + b) := by
  rw [nI_l (by omega)]
  apply Int64.toBitVec_inj.mp
  rw [Int64.toBitVec_or, lN_bv, lN_bv, ← or8 x b hb]
  congr 1
