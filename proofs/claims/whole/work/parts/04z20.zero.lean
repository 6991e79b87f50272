theorem el_subI {a b : Nat} (ha : a < 2 ^ 62) (hb : b < 2 ^ 62) : (lN a - lN b).toInt = (a : Int) - b := by
  rw [Int64.toInt_sub, pk_lT (by omega), pk_lT (by omega)]
  exact Int.bmod_eq_of_le (by omega) (by omega)
theorem el_lsT {a b c : Nat} (h : c + b ≤ a) (ha : a < 2 ^ 62) : (lN c ≤ lN a - lN b) = True := eq_true (by
  rw [Int64.le_iff_toInt_le, el_subI ha (by omega), pk_lT (by omega)]; omega)
theorem el_lsF {a b c : Nat} (h : a < c + b) (ha : a < 2 ^ 62) (hb : b < 2 ^ 62) (hc : c < 2 ^ 62) : (lN c ≤ lN a - lN b) = False := eq_false (by
  rw [Int64.le_iff_toInt_le, el_subI ha hb, pk_lT (by omega)]; omega)
theorem el_slT {a b c : Nat} (h : a < c + b) (ha : a < 2 ^ 62) (hb : b < 2 ^ 62) (hc : c < 2 ^ 62) : (lN a - lN b < lN c) = True := eq_true (by
  rw [Int64.lt_iff_toInt_lt, el_subI ha hb, pk_lT (by omega)]; omega)
theorem el_slF {a b c : Nat} (h : c + b ≤ a) (ha : a < 2 ^ 62) : (lN a - lN b < lN c) = False := eq_false (by
  rw [Int64.lt_iff_toInt_lt, el_subI ha (by omega), pk_lT (by omega)]; omega)
theorem el_m1l {a : Nat} (h : a < 2 ^ 63) : (lm1 < lN a) = True := eq_true (by
  rw [Int64.lt_iff_toInt_lt, lm1_toInt, pk_lT h]; omega)
theorem ev_m1l : m1.toInt64 = lm1 := by decide
theorem ev_m1lt {a : Nat} (h : a < 2 ^ 31) : (m1 < nI a) = True := eq_true (by
  rw [Int32.lt_iff_toInt_lt, m1_toInt, nI_toInt h]; omega)
theorem c_at {b : Nat → Nat} {z K : Nat} {σ : St} (h : ImC b z σ) (hK : K < 2 ^ 31) : f_X6_at 3 6400 (nI K) σ = some (nI (b K), σ) := by
  obtain ⟨h0, h1, h2, h3, h4⟩ := h
  rw [p_X6_at (z := z) (by omega) h0 h1, nI_toInt hK]
  by_cases hz : K < z
  · rw [if_pos (by omega), nI_clamp hK]
    show some (nI (ub (σ.1 4 K)), σ) = _
    rw [h2 K hz]
  · rw [if_neg (by omega), h3 K (by omega)]
    rfl
def LZ (b : Nat → Nat) (a e : Nat) (r : Int32) : Prop := (r = m1 ∧ ∀ k, a ≤ k → k < e → b k ≠ 0) ∨ ∃ k, r = nI k ∧ a ≤ k ∧ k < e ∧ b k = 0 ∧ ∀ j, k < j → j < e → b j ≠ 0
/-- the last 0 -/
theorem c_lastZero {b : Nat → Nat} {z a e : Nat} {σ : St} (h : ImC b z σ) (ha : a ≤ e) (he : e ≤ z) : ∃ r, f_X6_lastZero 3 6400 (nI a) (nI e) σ = some (r, σ) ∧ LZ b a e r := by
  have hz := h.1
  unfold f_X6_lastZero f_X6_lastZero_4
  dsimp only [zn]
  refine it_for (F := fun K a => f_X6_lastZero_4b 3 6400 K a.1 a.2.1 a.2.2) (fun i (q : Int32 × Int32 × St) => q = (nI a, nI (e - i) - 1, σ) ∧ ∀ k, e - i ≤ k → k < e → b k ≠ 0) (e - a) (fun o => ∃ r, o = some (r, σ) ∧ LZ b a e r) ?_ ?_ FU 0 _ (by omega) (FU_lt (by omega)) ⟨rfl, fun k h1 h2 => absurd h2 (by omega)⟩
  · rintro K q ⟨rfl, hq⟩
    dsimp only
    refine ⟨m1, ?_, Or.inl ⟨rfl, fun k h1 h2 => hq k (by omega) h2⟩⟩
    rw [show e - (e - a) = a by omega]
    unfold f_X6_lastZero_4b
    rcases Nat.eq_zero_or_pos a with rfl | ha0
    · rfl
    · rw [show nI a - 1 = nI (a - 1) from ev_sub (a := a) (b := 1) ha0, if_pos (nI_lt (by omega) (by omega))]
      rfl
  · rintro K i q hi ⟨rfl, hq⟩ ih
    dsimp only
    rw [show nI (e - i) - 1 = nI (e - i - 1) from ev_sub (a := e - i) (b := 1) (by omega)]
    by_cases k1 : b (e - i - 1) = 0
    · refine ⟨nI (e - i - 1), ?_, Or.inr ⟨_, rfl, by omega, by omega, k1, fun j h1 h2 => hq j (by omega) h2⟩⟩
      ((try simp (disch := first | decide | assumption | (simp (disch := first | decide | omega) only [ImC_sI, ImC_sJ, ImM_sI, ImM_sJ]; assumption) | omega) only [↓reduceIte, Nat.reduceAdd, Nat.reduceMul, Nat.reduceSub, Nat.reduceEqDiff, Nat.reducePow, Nat.reduceDiv, ↓zn_d, ↓bi_d, ↓bv_d, gd_T, ev_ib, true_or, or_true, eq_self, ite_true, ite_false, if_true, if_false, not_true_eq_false, not_false_eq_true, li_0, li_1, li_2, li_3, li_4, li_5, li_6, li_7, li_8, li_9, li_10, li_11, li_12, li_13, li_14, li_15, li_16, li_17, li_18, li_19, li_20, li_22, li_24, li_28, li_30, li_31, li_32, li_33, li_36, li_40, li_48, li_51, li_52, li_56, li_64, li_72, li_80, li_100, li_126, li_127, li_255, li_256, li_1024, li_1040, li_2048, li_4095, li_4096, li_65535, li_1073741824, ll_0, ll_1, ll_2, ll_3, ll_4, ll_5, ll_6, ll_7, ll_8, ll_9, ll_12, ll_15, ll_16, ll_20, ll_22, ll_24, ll_25, ll_28, ll_32, ll_40, ll_48, ll_64, ll_72, ll_80, ll_133, ll_255, ll_256, ll_512, ll_1024, ll_2048, ll_4096, ll_16384, ll_65535, ll_16777215, ll_16777228, ll_2147483647, ll_2147483648, ll_2147483700, ll_4277009103, ll_4294967295, ll_68719476735, ll_68719476736, ll_2234207627640832, ll_2251795518717952, ll_72057594037927935, ↓lm_1, ↓llm_1, ev_add, ev_sub, ev_mul, ev_div, ev_cl, ev_ltT, ev_ltF, ev_leT, ev_leF, ev_eqT, ev_eqF, ev_m1, ev_m1', ev_m1s, ev_dec, ev_nn, el_add, el_sub, el_mul, el_div, el_ltT, el_ltF, el_leT, el_leF, el_eqT, el_eqF, ev_l, el_i, el_m1, el_m1', rdI, rdJ, rdR, updF, updT, updLF, updLT, sI_l, sJ_l, sR_l, f_X6_lastZero_4b, c_at (b := b) (z := z), k1]); first | done | rfl)
    · have hb := h.2.2.2.2 (e - i - 1)
      have e1 : f_X6_lastZero_4b 3 6400 K (nI a) (nI (e - i - 1)) σ = K (nI a, nI (e - (i + 1)) - 1, σ) := by
        simp (disch := first | decide | assumption | (simp (disch := first | decide | omega) only [ImC_sI, ImC_sJ, ImM_sI, ImM_sJ]; assumption) | omega) only [↓reduceIte, Nat.reduceAdd, Nat.reduceMul, Nat.reduceSub, Nat.reduceEqDiff, Nat.reducePow, Nat.reduceDiv, ↓zn_d, ↓bi_d, ↓bv_d, gd_T, ev_ib, true_or, or_true, eq_self, ite_true, ite_false, if_true, if_false, not_true_eq_false, not_false_eq_true, li_0, li_1, li_2, li_3, li_4, li_5, li_6, li_7, li_8, li_9, li_10, li_11, li_12, li_13, li_14, li_15, li_16, li_17, li_18, li_19, li_20, li_22, li_24, li_28, li_30, li_31, li_32, li_33, li_36, li_40, li_48, li_51, li_52, li_56, li_64, li_72, li_80, li_100, li_126, li_127, li_255, li_256, li_1024, li_1040, li_2048, li_4095, li_4096, li_65535, li_1073741824, ll_0, ll_1, ll_2, ll_3, ll_4, ll_5, ll_6, ll_7, ll_8, ll_9, ll_12, ll_15, ll_16, ll_20, ll_22, ll_24, ll_25, ll_28, ll_32, ll_40, ll_48, ll_64, ll_72, ll_80, ll_133, ll_255, ll_256, ll_512, ll_1024, ll_2048, ll_4096, ll_16384, ll_65535, ll_16777215, ll_16777228, ll_2147483647, ll_2147483648, ll_2147483700, ll_4277009103, ll_4294967295, ll_68719476735, ll_68719476736, ll_2234207627640832, ll_2251795518717952, ll_72057594037927935, ↓lm_1, ↓llm_1, ev_add, ev_sub, ev_mul, ev_div, ev_cl, ev_ltT, ev_ltF, ev_leT, ev_leF, ev_eqT, ev_eqF, ev_m1, ev_m1', ev_m1s, ev_dec, ev_nn, el_add, el_sub, el_mul, el_div, el_ltT, el_ltF, el_leT, el_leF, el_eqT, el_eqF, ev_l, el_i, el_m1, el_m1', rdI, rdJ, rdR, updF, updT, updLF, updLT, sI_l, sJ_l, sR_l, f_X6_lastZero_4b, c_at (b := b) (z := z)]
        rw [show nI (e - i - 1) + m1 = nI (e - (i + 1)) - nI 1 from by rw [show e - i - 1 = e - (i + 1) by omega]; exact (Int32.sub_eq_add_neg _ _).symm]
      rw [e1]
      exact ih _ ⟨rfl, fun k h1 h2 => by
        by_cases hk : k = e - i - 1
        · rw [hk]; exact k1
        · exact hq k (by omega) h2⟩
theorem m_zeroN {b : Nat → Nat} {z a e : Nat} {τ : St} (h : ImM b z τ) (he : e ≤ z) (ha : a < 2 ^ 62) (hn : ∀ k, a ≤ k → k < e → b k ≠ 0) : f_X12_zero (lN a) (lN e) τ = some (lm1, τ) := by
  have hz := h.1
  have h2 := h.2.2.1
  unfold f_X12_zero f_X12_zero_3
  rcases Nat.lt_or_ge a e with hae | hae
  case inr =>
    rw [it_u (show 0 < FU by decide)]
    dsimp only
    ((try simp (disch := first | decide | assumption | (simp (disch := first | decide | omega) only [ImC_sI, ImC_sJ, ImM_sI, ImM_sJ]; assumption) | omega) only [↓reduceIte, Nat.reduceAdd, Nat.reduceMul, Nat.reduceSub, Nat.reduceEqDiff, Nat.reducePow, Nat.reduceDiv, ↓zn_d, ↓bi_d, ↓bv_d, gd_T, ev_ib, true_or, or_true, eq_self, ite_true, ite_false, if_true, if_false, not_true_eq_false, not_false_eq_true, li_0, li_1, li_2, li_3, li_4, li_5, li_6, li_7, li_8, li_9, li_10, li_11, li_12, li_13, li_14, li_15, li_16, li_17, li_18, li_19, li_20, li_22, li_24, li_28, li_30, li_31, li_32, li_33, li_36, li_40, li_48, li_51, li_52, li_56, li_64, li_72, li_80, li_100, li_126, li_127, li_255, li_256, li_1024, li_1040, li_2048, li_4095, li_4096, li_65535, li_1073741824, ll_0, ll_1, ll_2, ll_3, ll_4, ll_5, ll_6, ll_7, ll_8, ll_9, ll_12, ll_15, ll_16, ll_20, ll_22, ll_24, ll_25, ll_28, ll_32, ll_40, ll_48, ll_64, ll_72, ll_80, ll_133, ll_255, ll_256, ll_512, ll_1024, ll_2048, ll_4096, ll_16384, ll_65535, ll_16777215, ll_16777228, ll_2147483647, ll_2147483648, ll_2147483700, ll_4277009103, ll_4294967295, ll_68719476735, ll_68719476736, ll_2234207627640832, ll_2251795518717952, ll_72057594037927935, ↓lm_1, ↓llm_1, ev_add, ev_sub, ev_mul, ev_div, ev_cl, ev_ltT, ev_ltF, ev_leT, ev_leF, ev_eqT, ev_eqF, ev_m1, ev_m1', ev_m1s, ev_dec, ev_nn, el_add, el_sub, el_mul, el_div, el_ltT, el_ltF, el_leT, el_leF, el_eqT, el_eqF, ev_l, el_i, el_m1, el_m1', rdI, rdJ, rdR, updF, updT, updLF, updLT, sI_l, sJ_l, sR_l, f_X12_zero_3b]); first | done | rfl)
  refine it_for (F := fun K a => f_X12_zero_3b K a.1 a.2.1 a.2.2) (fun i (q : Int64 × Int64 × St) => q = (lN e, lN (a + i), τ)) (e - a) (fun o => o = some (lm1, τ)) ?_ ?_ FU 0 _ (by omega) (FU_lt (by omega)) rfl
  · rintro K q rfl
    dsimp only
    ((try simp (disch := first | decide | assumption | (simp (disch := first | decide | omega) only [ImC_sI, ImC_sJ, ImM_sI, ImM_sJ]; assumption) | omega) only [↓reduceIte, Nat.reduceAdd, Nat.reduceMul, Nat.reduceSub, Nat.reduceEqDiff, Nat.reducePow, Nat.reduceDiv, ↓zn_d, ↓bi_d, ↓bv_d, gd_T, ev_ib, true_or, or_true, eq_self, ite_true, ite_false, if_true, if_false, not_true_eq_false, not_false_eq_true, li_0, li_1, li_2, li_3, li_4, li_5, li_6, li_7, li_8, li_9, li_10, li_11, li_12, li_13, li_14, li_15, li_16, li_17, li_18, li_19, li_20, li_22, li_24, li_28, li_30, li_31, li_32, li_33, li_36, li_40, li_48, li_51, li_52, li_56, li_64, li_72, li_80, li_100, li_126, li_127, li_255, li_256, li_1024, li_1040, li_2048, li_4095, li_4096, li_65535, li_1073741824, ll_0, ll_1, ll_2, ll_3, ll_4, ll_5, ll_6, ll_7, ll_8, ll_9, ll_12, ll_15, ll_16, ll_20, ll_22, ll_24, ll_25, ll_28, ll_32, ll_40, ll_48, ll_64, ll_72, ll_80, ll_133, ll_255, ll_256, ll_512, ll_1024, ll_2048, ll_4096, ll_16384, ll_65535, ll_16777215, ll_16777228, ll_2147483647, ll_2147483648, ll_2147483700, ll_4277009103, ll_4294967295, ll_68719476735, ll_68719476736, ll_2234207627640832, ll_2251795518717952, ll_72057594037927935, ↓lm_1, ↓llm_1, ev_add, ev_sub, ev_mul, ev_div, ev_cl, ev_ltT, ev_ltF, ev_leT, ev_leF, ev_eqT, ev_eqF, ev_m1, ev_m1', ev_m1s, ev_dec, ev_nn, el_add, el_sub, el_mul, el_div, el_ltT, el_ltF, el_leT, el_leF, el_eqT, el_eqF, ev_l, el_i, el_m1, el_m1', rdI, rdJ, rdR, updF, updT, updLF, updLT, sI_l, sJ_l, sR_l, f_X12_zero_3b]); first | done | rfl)
  · rintro K i q hi rfl ih
    dsimp only
    have k1 := hn (a + i) (by omega) (by omega)
    have hb := h.2.2.2.2 (a + i)
    have e1 := h2 (a + i) (by omega)
    have e2 : f_X12_zero_3b K (lN e) (lN (a + i)) τ = K (lN e, lN (a + (i + 1)), τ) := by
      ((try simp (disch := first | decide | assumption | (simp (disch := first | decide | omega) only [ImC_sI, ImC_sJ, ImM_sI, ImM_sJ]; assumption) | omega) only [↓reduceIte, Nat.reduceAdd, Nat.reduceMul, Nat.reduceSub, Nat.reduceEqDiff, Nat.reducePow, Nat.reduceDiv, ↓zn_d, ↓bi_d, ↓bv_d, gd_T, ev_ib, true_or, or_true, eq_self, ite_true, ite_false, if_true, if_false, not_true_eq_false, not_false_eq_true, li_0, li_1, li_2, li_3, li_4, li_5, li_6, li_7, li_8, li_9, li_10, li_11, li_12, li_13, li_14, li_15, li_16, li_17, li_18, li_19, li_20, li_22, li_24, li_28, li_30, li_31, li_32, li_33, li_36, li_40, li_48, li_51, li_52, li_56, li_64, li_72, li_80, li_100, li_126, li_127, li_255, li_256, li_1024, li_1040, li_2048, li_4095, li_4096, li_65535, li_1073741824, ll_0, ll_1, ll_2, ll_3, ll_4, ll_5, ll_6, ll_7, ll_8, ll_9, ll_12, ll_15, ll_16, ll_20, ll_22, ll_24, ll_25, ll_28, ll_32, ll_40, ll_48, ll_64, ll_72, ll_80, ll_133, ll_255, ll_256, ll_512, ll_1024, ll_2048, ll_4096, ll_16384, ll_65535, ll_16777215, ll_16777228, ll_2147483647, ll_2147483648, ll_2147483700, ll_4277009103, ll_4294967295, ll_68719476735, ll_68719476736, ll_2234207627640832, ll_2251795518717952, ll_72057594037927935, ↓lm_1, ↓llm_1, ev_add, ev_sub, ev_mul, ev_div, ev_cl, ev_ltT, ev_ltF, ev_leT, ev_leF, ev_eqT, ev_eqF, ev_m1, ev_m1', ev_m1s, ev_dec, ev_nn, el_add, el_sub, el_mul, el_div, el_ltT, el_ltF, el_leT, el_leF, el_eqT, el_eqF, ev_l, el_i, el_m1, el_m1', rdI, rdJ, rdR, updF, updT, updLF, updLT, sI_l, sJ_l, sR_l, f_X12_zero_3b, e1]); first | done | rfl)
    rw [e2]
    exact ih _ rfl
theorem m_zeroS {b : Nat → Nat} {z a e k : Nat} {τ : St} (h : ImM b z τ) (he : e ≤ z) (hk : a ≤ k) (hke : k < e) (hk0 : b k = 0) (hn : ∀ j, a ≤ j → j < k → b j ≠ 0) : f_X12_zero (lN a) (lN e) τ = some (lN k, τ) := by
  have hz := h.1
  have h2 := h.2.2.1
  unfold f_X12_zero f_X12_zero_3
  refine it_for (F := fun K a => f_X12_zero_3b K a.1 a.2.1 a.2.2) (fun i (q : Int64 × Int64 × St) => q = (lN e, lN (a + i), τ)) (k - a) (fun o => o = some (lN k, τ)) ?_ ?_ FU 0 _ (by omega) (FU_lt (by omega)) rfl
  · rintro K q rfl
    dsimp only
    rw [show a + (k - a) = k by omega]
    have e1 := h2 k (by omega)
    ((try simp (disch := first | decide | assumption | (simp (disch := first | decide | omega) only [ImC_sI, ImC_sJ, ImM_sI, ImM_sJ]; assumption) | omega) only [↓reduceIte, Nat.reduceAdd, Nat.reduceMul, Nat.reduceSub, Nat.reduceEqDiff, Nat.reducePow, Nat.reduceDiv, ↓zn_d, ↓bi_d, ↓bv_d, gd_T, ev_ib, true_or, or_true, eq_self, ite_true, ite_false, if_true, if_false, not_true_eq_false, not_false_eq_true, li_0, li_1, li_2, li_3, li_4, li_5, li_6, li_7, li_8, li_9, li_10, li_11, li_12, li_13, li_14, li_15, li_16, li_17, li_18, li_19, li_20, li_22, li_24, li_28, li_30, li_31, li_32, li_33, li_36, li_40, li_48, li_51, li_52, li_56, li_64, li_72, li_80, li_100, li_126, li_127, li_255, li_256, li_1024, li_1040, li_2048, li_4095, li_4096, li_65535, li_1073741824, ll_0, ll_1, ll_2, ll_3, ll_4, ll_5, ll_6, ll_7, ll_8, ll_9, ll_12, ll_15, ll_16, ll_20, ll_22, ll_24, ll_25, ll_28, ll_32, ll_40, ll_48, ll_64, ll_72, ll_80, ll_133, ll_255, ll_256, ll_512, ll_1024, ll_2048, ll_4096, ll_16384, ll_65535, ll_16777215, ll_16777228, ll_2147483647, ll_2147483648, ll_2147483700, ll_4277009103, ll_4294967295, ll_68719476735, ll_68719476736, ll_2234207627640832, ll_2251795518717952, ll_72057594037927935, ↓lm_1, ↓llm_1, ev_add, ev_sub, ev_mul, ev_div, ev_cl, ev_ltT, ev_ltF, ev_leT, ev_leF, ev_eqT, ev_eqF, ev_m1, ev_m1', ev_m1s, ev_dec, ev_nn, el_add, el_sub, el_mul, el_div, el_ltT, el_ltF, el_leT, el_leF, el_eqT, el_eqF, ev_l, el_i, el_m1, el_m1', rdI, rdJ, rdR, updF, updT, updLF, updLT, sI_l, sJ_l, sR_l, f_X12_zero_3b, e1, hk0]); first | done | rfl)
  · rintro K i q hi rfl ih
    dsimp only
    have k1 := hn (a + i) (by omega) (by omega)
    have hb := h.2.2.2.2 (a + i)
    have e1 := h2 (a + i) (by omega)
    have e2 : f_X12_zero_3b K (lN e) (lN (a + i)) τ = K (lN e, lN (a + (i + 1)), τ) := by
      ((try simp (disch := first | decide | assumption | (simp (disch := first | decide | omega) only [ImC_sI, ImC_sJ, ImM_sI, ImM_sJ]; assumption) | omega) only [↓reduceIte, Nat.reduceAdd, Nat.reduceMul, Nat.reduceSub, Nat.reduceEqDiff, Nat.reducePow, Nat.reduceDiv, ↓zn_d, ↓bi_d, ↓bv_d, gd_T, ev_ib, true_or, or_true, eq_self, ite_true, ite_false, if_true, if_false, not_true_eq_false, not_false_eq_true, li_0, li_1, li_2, li_3, li_4, li_5, li_6, li_7, li_8, li_9, li_10, li_11, li_12, li_13, li_14, li_15, li_16, li_17, li_18, li_19, li_20, li_22, li_24, li_28, li_30, li_31, li_32, li_33, li_36, li_40, li_48, li_51, li_52, li_56, li_64, li_72, li_80, li_100, li_126, li_127, li_255, li_256, li_1024, li_1040, li_2048, li_4095, li_4096, li_65535, li_1073741824, ll_0, ll_1, ll_2, ll_3, ll_4, ll_5, ll_6, ll_7, ll_8, ll_9, ll_12, ll_15, ll_16, ll_20, ll_22, ll_24, ll_25, ll_28, ll_32, ll_40, ll_48, ll_64, ll_72, ll_80, ll_133, ll_255, ll_256, ll_512, ll_1024, ll_2048, ll_4096, ll_16384, ll_65535, ll_16777215, ll_16777228, ll_2147483647, ll_2147483648, ll_2147483700, ll_4277009103, ll_4294967295, ll_68719476735, ll_68719476736, ll_2234207627640832, ll_2251795518717952, ll_72057594037927935, ↓lm_1, ↓llm_1, ev_add, ev_sub, ev_mul, ev_div, ev_cl, ev_ltT, ev_ltF, ev_leT, ev_leF, ev_eqT, ev_eqF, ev_m1, ev_m1', ev_m1s, ev_dec, ev_nn, el_add, el_sub, el_mul, el_div, el_ltT, el_ltF, el_leT, el_leF, el_eqT, el_eqF, ev_l, el_i, el_m1, el_m1', rdI, rdJ, rdR, updF, updT, updLF, updLT, sI_l, sJ_l, sR_l, f_X12_zero_3b, e1]); first | done | rfl)
    rw [e2]
    exact ih _ rfl
/-- a 0 there or behind, and its first place -/
theorem zero_first {b : Nat → Nat} {a e k : Nat} (h1 : a ≤ k) (h2 : k < e) (h3 : b k = 0) : ∃ j, a ≤ j ∧ j ≤ k ∧ j < e ∧ b j = 0 ∧ ∀ i, a ≤ i → i < j → b i ≠ 0 := by
  obtain ⟨j, hj, hl⟩ := pk_least (fun j => a ≤ j ∧ b j = 0) ⟨k, h1, h3⟩
  have hjk : j ≤ k := by
    rcases Nat.lt_or_ge k j with g | g
    · exact absurd ⟨h1, h3⟩ (hl k g)
    · exact g
  exact ⟨j, hj.1, hjk, by omega, hj.2, fun i hi hij q => hl i hij ⟨hi, q⟩⟩
