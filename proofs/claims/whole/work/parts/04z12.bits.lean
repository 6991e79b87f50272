/-! numbers joined out of bytes -/
theorem or_nat {a c k : Nat} (ha : a < 2 ^ k) : a ||| c * 2 ^ k = a + c * 2 ^ k := by
  rw [Nat.or_comm, ← Nat.shiftLeft_eq, ← Nat.shiftLeft_add_eq_or_of_lt ha, Nat.add_comm]
theorem nI_or (a b : Nat) (ha : a < 2 ^ 32) (hb : b < 2 ^ 32) : nI a ||| nI b = nI (a ||| b) := by
  apply Int32.toBitVec_inj.mp
  rw [Int32.toBitVec_or]
  apply BitVec.eq_of_toNat_eq
  rw [BitVec.toNat_or, pk_tn ha, pk_tn hb, pk_tn (Nat.or_lt_two_pow ha hb)]
theorem nI_orS {a c : Nat} (k : Nat) (ha : a < 2 ^ k) (hc : c * 2 ^ k < 2 ^ 32) (hk : k ≤ 32) : nI a ||| nI (c * 2 ^ k) = nI (a + c * 2 ^ k) := by
  rw [nI_or _ _ (Nat.lt_of_lt_of_le ha (Nat.pow_le_pow_right (by decide) hk)) hc, or_nat ha]
theorem lN_tn {n : Nat} (h : n < 2 ^ 64) : (lN n).toBitVec.toNat = n := Nat.mod_eq_of_lt h
theorem lN_or (a b : Nat) (ha : a < 2 ^ 64) (hb : b < 2 ^ 64) : lN a ||| lN b = lN (a ||| b) := by
  apply Int64.toBitVec_inj.mp
  rw [Int64.toBitVec_or]
  apply BitVec.eq_of_toNat_eq
  rw [BitVec.toNat_or, lN_tn ha, lN_tn hb, lN_tn (Nat.or_lt_two_pow ha hb)]
theorem lN_orS {a c : Nat} (k : Nat) (ha : a < 2 ^ k) (hc : c * 2 ^ k < 2 ^ 64) (hk : k ≤ 64) : lN a ||| lN (c * 2 ^ k) = lN (a + c * 2 ^ k) := by
  rw [lN_or _ _ (Nat.lt_of_lt_of_le ha (Nat.pow_le_pow_right (by decide) hk)) hc, or_nat ha]
theorem zlshl_N (x : Nat) (s : Int32) (k : Nat) (hk : k < 64) (hs : ((s.toInt64 &&& 63).toBitVec.smod 64) = BitVec.ofNat 64 k) : zlshl (lN x) s = lN (x * 2 ^ k) := by
  unfold zlshl
  apply Int64.toBitVec_inj.mp
  rw [Int64.toBitVec_shiftLeft, hs]
  apply BitVec.eq_of_toNat_eq
  have e : (BitVec.ofNat 64 k).toNat = k := by rw [BitVec.toNat_ofNat]; exact Nat.mod_eq_of_lt (by omega)
  rw [BitVec.shiftLeft_eq', e, BitVec.toNat_shiftLeft, Nat.shiftLeft_eq]
  show (x % 2 ^ 64) * 2 ^ k % 2 ^ 64 = (x * 2 ^ k) % 2 ^ 64
  rw [Nat.mod_mul_mod]
theorem zs_8 (x : Nat) : zlshl (lN x) (nI 8) = lN (x * 256) := zlshl_N x _ 8 (by decide) (by decide)
theorem zs_24 (x : Nat) : zlshl (lN x) (nI 24) = lN (x * 2 ^ 24) := zlshl_N x _ 24 (by decide) (by decide)
theorem zs_32 (x : Nat) : zlshl (lN x) (nI 32) = lN (x * 2 ^ 32) := zlshl_N x _ 32 (by decide) (by decide)
theorem zs_36 (x : Nat) : zlshl (lN x) (nI 36) = lN (x * 2 ^ 36) := zlshl_N x _ 36 (by decide) (by decide)
theorem zs_51 (x : Nat) : zlshl (lN x) (nI 51) = lN (x * 2 ^ 51) := zlshl_N x _ 51 (by decide) (by decide)
theorem zs_56 (x : Nat) : zlshl (lN x) (nI 56) = lN (x * 2 ^ 56) := zlshl_N x _ 56 (by decide) (by decide)
theorem lN_mod (n : Nat) : lN (n % 2 ^ 64) = lN n := by
  apply Int64.toBitVec_inj.mp
  apply BitVec.eq_of_toNat_eq
  show n % 2 ^ 64 % 2 ^ 64 = n % 2 ^ 64
  omega
/-- the reference's reading -/
theorem m_four {b : Nat → Nat} {z K : Nat} {τ : St} (h : ImM b z τ) (hK : K + 4 ≤ z) : f_X12_four (lN K) τ = some (lN (nbf b K 4), τ) := by
  obtain ⟨h0, h1, h2, h3, h4⟩ := h
  unfold f_X12_four
  have q0 := h4 K
  have q1 := h4 (K + 1)
  have q2 := h4 (K + 2)
  have q3 := h4 (K + 3)
  simp (disch := omega) only [↓reduceIte, Nat.reduceAdd, Nat.reduceMul, Nat.reduceSub, Nat.reduceEqDiff, Nat.reducePow, Nat.reduceDiv, ↓zn_d, ↓bi_d, ↓bv_d, gd_T, ev_ib, true_or, or_true, eq_self, ite_true, ite_false, if_true, if_false, not_true_eq_false, not_false_eq_true, li_0, li_1, li_2, li_3, li_4, li_5, li_6, li_7, li_8, li_9, li_10, li_11, li_12, li_13, li_14, li_15, li_16, li_17, li_18, li_19, li_20, li_22, li_24, li_28, li_30, li_31, li_32, li_33, li_36, li_40, li_48, li_51, li_52, li_56, li_64, li_72, li_80, li_100, li_126, li_127, li_255, li_256, li_1024, li_1040, li_2048, li_4095, li_4096, li_65535, li_1073741824, ll_0, ll_1, ll_2, ll_3, ll_4, ll_5, ll_6, ll_7, ll_8, ll_9, ll_12, ll_15, ll_16, ll_20, ll_22, ll_24, ll_25, ll_28, ll_32, ll_40, ll_48, ll_64, ll_72, ll_80, ll_133, ll_255, ll_256, ll_512, ll_1024, ll_2048, ll_4096, ll_16384, ll_65535, ll_16777215, ll_16777228, ll_2147483647, ll_2147483648, ll_2147483700, ll_4277009103, ll_4294967295, ll_68719476735, ll_68719476736, ll_2234207627640832, ll_2251795518717952, ll_72057594037927935, ↓lm_1, ↓llm_1, ev_add, ev_sub, ev_mul, ev_div, ev_cl, ev_ltT, ev_ltF, ev_leT, ev_leF, ev_eqT, ev_eqF, ev_m1, ev_m1', ev_m1s, ev_dec, ev_nn, el_add, el_sub, el_mul, el_div, el_ltT, el_ltF, el_leT, el_leF, el_eqT, el_eqF, ev_l, el_i, el_m1, el_m1', rdI, rdJ, rdR, updF, updT, updLF, updLT, sI_l, sJ_l, sR_l, h2]
  have s1 : nI (b (K + 1)) <<< (nI 8 &&& nI 31) = nI (b (K + 1) * 2 ^ 8) := pk_shlN _ 8 (by decide) (by omega)
  have s2 : nI (b (K + 2)) <<< (nI 16 &&& nI 31) = nI (b (K + 2) * 2 ^ 16) := pk_shlN _ 16 (by decide) (by omega)
  rw [s1, s2, nI_orS 8 (by omega) (by omega) (by decide), nI_orS 16 (by omega) (by omega) (by decide), nI_l (by omega), zs_24, lN_orS 24 (by omega) (by omega) (by decide)]
  have e : nbf b K 4 = b K + b (K + 1) * 2 ^ 8 + b (K + 2) * 2 ^ 16 + b (K + 3) * 2 ^ 24 := by
    show b K + 256 * (b (K + 1) + 256 * (b (K + 1 + 1) + 256 * (b (K + 1 + 1 + 1) + 256 * 0))) = _
    rw [show K + 1 + 1 = K + 2 from rfl, show K + 2 + 1 = K + 3 from rfl]
    omega
  rw [e]
theorem m_two {b : Nat → Nat} {z K : Nat} {τ : St} (h : ImM b z τ) (hK : K + 2 ≤ z) : f_X12_two (lN K) τ = some (nI (nbf b K 2), τ) := by
  obtain ⟨h0, h1, h2, h3, h4⟩ := h
  unfold f_X12_two
  have q0 := h4 K
  have q1 := h4 (K + 1)
  simp (disch := omega) only [↓reduceIte, Nat.reduceAdd, Nat.reduceMul, Nat.reduceSub, Nat.reduceEqDiff, Nat.reducePow, Nat.reduceDiv, ↓zn_d, ↓bi_d, ↓bv_d, gd_T, ev_ib, true_or, or_true, eq_self, ite_true, ite_false, if_true, if_false, not_true_eq_false, not_false_eq_true, li_0, li_1, li_2, li_3, li_4, li_5, li_6, li_7, li_8, li_9, li_10, li_11, li_12, li_13, li_14, li_15, li_16, li_17, li_18, li_19, li_20, li_22, li_24, li_28, li_30, li_31, li_32, li_33, li_36, li_40, li_48, li_51, li_52, li_56, li_64, li_72, li_80, li_100, li_126, li_127, li_255, li_256, li_1024, li_1040, li_2048, li_4095, li_4096, li_65535, li_1073741824, ll_0, ll_1, ll_2, ll_3, ll_4, ll_5, ll_6, ll_7, ll_8, ll_9, ll_12, ll_15, ll_16, ll_20, ll_22, ll_24, ll_25, ll_28, ll_32, ll_40, ll_48, ll_64, ll_72, ll_80, ll_133, ll_255, ll_256, ll_512, ll_1024, ll_2048, ll_4096, ll_16384, ll_65535, ll_16777215, ll_16777228, ll_2147483647, ll_2147483648, ll_2147483700, ll_4277009103, ll_4294967295, ll_68719476735, ll_68719476736, ll_2234207627640832, ll_2251795518717952, ll_72057594037927935, ↓lm_1, ↓llm_1, ev_add, ev_sub, ev_mul, ev_div, ev_cl, ev_ltT, ev_ltF, ev_leT, ev_leF, ev_eqT, ev_eqF, ev_m1, ev_m1', ev_m1s, ev_dec, ev_nn, el_add, el_sub, el_mul, el_div, el_ltT, el_ltF, el_leT, el_leF, el_eqT, el_eqF, ev_l, el_i, el_m1, el_m1', rdI, rdJ, rdR, updF, updT, updLF, updLT, sI_l, sJ_l, sR_l, h2]
  have s1 : nI (b (K + 1)) <<< (nI 8 &&& nI 31) = nI (b (K + 1) * 2 ^ 8) := pk_shlN _ 8 (by decide) (by omega)
  rw [s1, nI_orS 8 (by omega) (by omega) (by decide)]
  have e : nbf b K 2 = b K + b (K + 1) * 2 ^ 8 := by
    show b K + 256 * (b (K + 1) + 256 * 0) = _
    omega
  rw [e]
theorem nbf_8 (b : Nat → Nat) (K : Nat) : nbf b K 8 = nbf b K 4 + nbf b (K + 4) 4 * 2 ^ 32 := by
  show b K + 256 * (b (K + 1) + 256 * (b (K + 2) + 256 * (b (K + 3) + 256 * nbf b (K + 4) 4))) = b K + 256 * (b (K + 1) + 256 * (b (K + 2) + 256 * (b (K + 3) + 256 * 0))) + nbf b (K + 4) 4 * 2 ^ 32
  omega
theorem m_eight {b : Nat → Nat} {z K : Nat} {τ : St} (h : ImM b z τ) (hK : K + 8 ≤ z) : f_X12_eight (lN K) τ = some (lN (nbf b K 8), τ) := by
  unfold f_X12_eight
  have q0 := nbf_lt h.2.2.2.2 4 K
  have q1 := nbf_lt h.2.2.2.2 4 (K + 4)
  rw [m_four h (by omega), bi_t, ll_4, lN_add, m_four h (by omega), bi_t, li_32, zs_32, lN_orS 32 (by omega) (by omega) (by decide), nbf_8]
