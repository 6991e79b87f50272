/-! words by their bits -/
theorem zlushr_N {w : Nat} (hw : w < 2 ^ 64) (s : Int32) (k : Nat) (hk : k < 64) (hs : ((s.toInt64.toUInt64 &&& Int64.toUInt64 63).toBitVec % 64) = BitVec.ofNat 64 k) : zlushr (lN w) s = lN (w / 2 ^ k) := by
  unfold zlushr
  apply Int64.toBitVec_inj.mp
  show ((lN w).toUInt64 >>> (s.toInt64.toUInt64 &&& Int64.toUInt64 63)).toBitVec = _
  rw [UInt64.toBitVec_shiftRight, hs]
  apply BitVec.eq_of_toNat_eq
  have e : (BitVec.ofNat 64 k).toNat = k := by rw [BitVec.toNat_ofNat]; exact Nat.mod_eq_of_lt (by omega)
  have hd : w / 2 ^ k < 2 ^ 64 := Nat.lt_of_le_of_lt (Nat.div_le_self _ _) hw
  rw [BitVec.ushiftRight_eq', e, BitVec.toNat_ushiftRight, lN_tn hd, Nat.shiftRight_eq_div_pow]
  show (lN w).toBitVec.toNat / 2 ^ k = _
  rw [lN_tn hw]
theorem us_51 {w : Nat} (hw : w < 2 ^ 64) : zlushr (lN w) (nI 51) = lN (w / 2 ^ 51) := zlushr_N hw _ 51 (by decide) (by decide)
theorem us_36 {w : Nat} (hw : w < 2 ^ 64) : zlushr (lN w) (nI 36) = lN (w / 2 ^ 36) := zlushr_N hw _ 36 (by decide) (by decide)
theorem us_24 {w : Nat} (hw : w < 2 ^ 64) : zlushr (lN w) (nI 24) = lN (w / 2 ^ 24) := zlushr_N hw _ 24 (by decide) (by decide)
theorem us_9 {w : Nat} (hw : w < 2 ^ 64) : zlushr (lN w) (nI 9) = lN (w / 2 ^ 9) := zlushr_N hw _ 9 (by decide) (by decide)
/-- low bits behind a shift that keeps the sign -/
theorem zlshr_low {w m : Nat} (hw : w < 2 ^ 64) (s M : Int32) (k : Nat) (hs : ((s.toInt64 &&& 63).toBitVec.smod 64) = BitVec.ofNat 64 k) (hM : M.toBitVec = BitVec.ofNat 32 (2 ^ m - 1)) (hkm : k + m ≤ 64) (hm : m ≤ 31) (hk : k < 64) : (zlshr (lN w) s).toInt32 &&& M = nI (w / 2 ^ k % 2 ^ m) := by
  unfold zlshr
  apply Int32.toBitVec_inj.mp
  rw [Int32.toBitVec_and, hM, Int64.toBitVec_toInt32, Int64.toBitVec_shiftRight, hs]
  apply BitVec.eq_of_getLsbD_eq
  intro i hi
  have e : (BitVec.ofNat 64 k).toNat = k := by rw [BitVec.toNat_ofNat]; exact Nat.mod_eq_of_lt (by omega)
  have hw' : (lN w).toBitVec = BitVec.ofNat 64 w := rfl
  have hr : (nI (w / 2 ^ k % 2 ^ m)).toBitVec = BitVec.ofNat 32 (w / 2 ^ k % 2 ^ m) := rfl
  have e3 : (lN w).toBitVec.sshiftRight' (BitVec.ofNat 64 k) = (lN w).toBitVec.sshiftRight k := by
    show (lN w).toBitVec.sshiftRight (BitVec.ofNat 64 k).toNat = _
    rw [e]
  rw [BitVec.signExtend_eq_setWidth_of_le _ (by decide), BitVec.getLsbD_and, BitVec.getLsbD_setWidth, e3]
  rw [BitVec.getLsbD_sshiftRight, hw', hr, BitVec.getLsbD_ofNat, BitVec.getLsbD_ofNat, BitVec.getLsbD_ofNat, Nat.testBit_mod_two_pow, Nat.testBit_div_two_pow, Nat.testBit_two_pow_sub_one]
  by_cases h1 : i < m
  · have h2 : k + i < 64 := by omega
    have h3 : ¬ 64 ≤ i := by omega
    rw [if_pos h2, Nat.add_comm k i]
    simp [h1, hi, h3, show i + k < 64 by omega]
  · simp [h1]
theorem sw_51 {w : Nat} (hw : w < 2 ^ 64) : (zlshr (lN w) (nI 51)).toInt32 &&& nI 4095 = nI (w / 2 ^ 51 % 4096) := zlshr_low (m := 12) hw _ _ 51 (by decide) (by decide) (by decide) (by decide) (by decide)
theorem sw_36 {w : Nat} (hw : w < 2 ^ 64) : (zlshr (lN w) (nI 36)).toInt32 &&& nI 255 = nI (w / 2 ^ 36 % 256) := zlshr_low (m := 8) hw _ _ 36 (by decide) (by decide) (by decide) (by decide) (by decide)
theorem sw_24 {w : Nat} (hw : w < 2 ^ 64) : (zlshr (lN w) (nI 24)).toInt32 &&& nI 255 = nI (w / 2 ^ 24 % 256) := zlshr_low (m := 8) hw _ _ 24 (by decide) (by decide) (by decide) (by decide) (by decide)
theorem zlshr_N {w : Nat} (hw : w < 2 ^ 63) (s : Int32) (k : Nat) (hk : k < 64) (hs : ((s.toInt64 &&& 63).toBitVec.smod 64) = BitVec.ofNat 64 k) : zlshr (lN w) s = lN (w / 2 ^ k) := by
  unfold zlshr
  apply Int64.toBitVec_inj.mp
  rw [Int64.toBitVec_shiftRight, hs]
  have e : (BitVec.ofNat 64 k).toNat = k := by rw [BitVec.toNat_ofNat]; exact Nat.mod_eq_of_lt (by omega)
  have e3 : (lN w).toBitVec.sshiftRight' (BitVec.ofNat 64 k) = (lN w).toBitVec.sshiftRight k := by
    show (lN w).toBitVec.sshiftRight (BitVec.ofNat 64 k).toNat = _
    rw [e]
  have hd : w / 2 ^ k < 2 ^ 64 := Nat.lt_of_le_of_lt (Nat.div_le_self _ _) (by omega)
  have hmsb : (lN w).toBitVec.msb = false := by
    rw [BitVec.msb_eq_decide, lN_tn (by omega)]
    exact decide_eq_false (by omega)
  rw [e3, BitVec.sshiftRight_eq_of_msb_false hmsb]
  apply BitVec.eq_of_toNat_eq
  rw [BitVec.toNat_ushiftRight, lN_tn hd, lN_tn (by omega), Nat.shiftRight_eq_div_pow]
theorem sr_8 {w : Nat} (hw : w < 2 ^ 63) : zlshr (lN w) (nI 8) = lN (w / 2 ^ 8) := zlshr_N hw _ 8 (by decide) (by decide)
theorem sr_9 {w : Nat} (hw : w < 2 ^ 63) : zlshr (lN w) (nI 9) = lN (w / 2 ^ 9) := zlshr_N hw _ 9 (by decide) (by decide)
theorem lN_andM {w : Nat} (hw : w < 2 ^ 64) (m : Nat) (hm : m ≤ 64) : lN w &&& lN (2 ^ m - 1) = lN (w % 2 ^ m) := by
  rw [lN_and _ _ hw (Nat.lt_of_lt_of_le (Nat.sub_lt (Nat.two_pow_pos m) (by decide)) (Nat.pow_le_pow_right (by decide) hm)), Nat.and_two_pow_sub_one_eq_mod]
theorem an_24 {w : Nat} (hw : w < 2 ^ 64) : lN w &&& lN 16777215 = lN (w % 16777216) := lN_andM hw 24 (by decide)
theorem an_36 {w : Nat} (hw : w < 2 ^ 64) : lN w &&& lN 68719476735 = lN (w % 68719476736) := lN_andM hw 36 (by decide)
theorem an_8 {w : Nat} (hw : w < 2 ^ 64) : lN w &&& lN 255 = lN (w % 256) := lN_andM hw 8 (by decide)
theorem an_1 {w : Nat} (hw : w < 2 ^ 64) : lN w &&& lN 1 = lN (w % 2) := lN_andM hw 1 (by decide)
theorem el_nn {v : Nat} (h : 2 ^ 63 ≤ v) (h2 : v < 2 ^ 64) : (lN 0 ≤ lN v) = False := eq_false (fun q => by
  have h1 := (el_neg h h2)
  have h3 : lN v < lN 0 := by rw [h1]; trivial
  rw [Int64.lt_iff_toInt_lt] at h3
  rw [Int64.le_iff_toInt_le] at q
  omega)
theorem an_256 {w : Nat} (hw : w < 2 ^ 63) : (lN w &&& lN 256 = lN 0) = (w / 2 ^ 8 % 2 = 0) := by
  have e : w &&& 256 = (w / 2 ^ 8 % 2) * 256 := by
    apply Nat.eq_of_testBit_eq
    intro i
    rw [Nat.testBit_and, show (256 : Nat) = 2 ^ 8 from rfl, Nat.testBit_two_pow, ← Nat.shiftLeft_eq, Nat.testBit_shiftLeft]
    by_cases h8 : 8 = i
    · subst h8
      rw [show (2 : Nat) = 2 ^ 1 from rfl, Nat.testBit_mod_two_pow, ← show (2 : Nat) = 2 ^ 1 from rfl, Nat.testBit_div_two_pow]
      simp
    · rcases Nat.lt_or_ge i 8 with g | g
      · simp [h8, show ¬ 8 ≤ i by omega]
      · rw [show (2 : Nat) = 2 ^ 1 from rfl, Nat.testBit_mod_two_pow]
        simp [h8, show ¬ i - 8 < 1 by omega]
  rw [lN_and _ _ (by omega) (by decide), e]
  apply propext
  have hb : (w / 2 ^ 8 % 2) * 256 < 2 ^ 63 := by omega
  constructor
  · intro q
    have := (pk_lEQ hb (by decide)).mp q
    omega
  · intro q
    rw [q]
