/-! places filled up -/
def up (z a : Nat) : Nat := (z + a - 1) / a * a
theorem and_hi {x k : Nat} (hx : x < 2 ^ 32) : x &&& ((2 ^ (32 - k) - 1) <<< k) = x / 2 ^ k * 2 ^ k := by
  apply Nat.eq_of_testBit_eq
  intro i
  rw [Nat.testBit_and, Nat.testBit_shiftLeft, Nat.testBit_two_pow_sub_one, ← Nat.shiftLeft_eq, ← Nat.shiftRight_eq_div_pow, Nat.testBit_shiftLeft, Nat.testBit_shiftRight]
  by_cases h : k ≤ i
  · rw [show k + (i - k) = i by omega]
    by_cases g : i < 32
    · rw [decide_eq_true (show i ≥ k from h), decide_eq_true (show i - k < 32 - k by omega)]
      cases x.testBit i <;> rfl
    · have : x.testBit i = false := Nat.testBit_lt_two_pow (Nat.lt_of_lt_of_le hx (Nat.pow_le_pow_right (by decide) (by omega)))
      rw [this]
      cases decide (i ≥ k) <;> rfl
  · rw [decide_eq_false (show ¬ i ≥ k from h)]
    cases x.testBit i <;> rfl
theorem nI_and (a b : Nat) (ha : a < 2 ^ 32) (hb : b < 2 ^ 32) : nI a &&& nI b = nI (a &&& b) := by
  apply Int32.toBitVec_inj.mp
  rw [Int32.toBitVec_and]
  apply BitVec.eq_of_toNat_eq
  rw [BitVec.toNat_and, pk_tn ha, pk_tn hb, pk_tn (Nat.lt_of_le_of_lt Nat.and_le_left ha)]
theorem and_ng {x a : Nat} (hx : x < 2 ^ 31) (ha : a = 4 ∨ a = 8 ∨ isPg a) : nI x &&& - nI a = nI (x / a * a) := by
  have key : ∀ k, - nI (2 ^ k) = nI ((2 ^ (32 - k) - 1) <<< k) → (2 ^ (32 - k) - 1) <<< k < 2 ^ 32 → nI x &&& - nI (2 ^ k) = nI (x / 2 ^ k * 2 ^ k) := by
    intro k h1 h2
    rw [h1, nI_and _ _ (by omega) h2, and_hi (by omega)]
  unfold isPg at ha
  rcases ha with h | h | h | h | h | h | h <;> subst h
  · exact key 2 (by decide) (by decide)
  · exact key 3 (by decide) (by decide)
  · exact key 8 (by decide) (by decide)
  · exact key 9 (by decide) (by decide)
  · exact key 10 (by decide) (by decide)
  · exact key 11 (by decide) (by decide)
  · exact key 12 (by decide) (by decide)
theorem c_filled {z a : Nat} {σ : St} (hz : z < 2 ^ 30) (ha : a = 4 ∨ a = 8 ∨ isPg a) : f_X11_filledUp (nI z) (nI a) σ = some (nI (up z a), σ) := by
  have h1 : 4 ≤ a ∧ a ≤ 4096 := by unfold isPg at ha; omega
  unfold f_X11_filledUp
  rw [show nI z + nI a = nI (z + a) from nI_add .., show nI (z + a) - 1 = nI (z + a - 1) from pk_sub (b := 1) (by omega), and_ng (by omega) ha]
  rfl
theorem up_le {z a : Nat} (ha : 0 < a) : z ≤ up z a ∧ up z a < z + a := by
  unfold up
  have h1 := Nat.div_add_mod (z + a - 1) a
  have h2 := Nat.mod_lt (z + a - 1) ha
  rw [Nat.mul_comm] at h1
  omega
theorem w_fill {z a : Nat} {σ : St} (hs : σ.1 3 1 = nI z) (ha : a = 4 ∨ a = 8) (h : up z a ≤ 6400) : ∃ σ', f_X6_fillUp 3 6400 (nI a) σ = some σ' ∧ Wc z (zer (up z a - z)) σ σ' := by
  have hu := up_le (z := z) (a := a) (by omega)
  obtain ⟨σ', e, w⟩ := w_zer (k := up z a - z) hs (by omega)
  refine ⟨σ', ?_, w⟩
  unfold f_X6_fillUp
  rw [hs, c_filled (by omega) (by omega), bi_t, hs, show nI (up z a) - nI z = nI (up z a - z) from pk_sub hu.1, e]
  rfl
theorem w_even {p a : Nat} {τ : St} (hs : τ.1 68 31 = nI p) (ha : a = 4 ∨ a = 8) (h : up p a ≤ 9000) : ∃ τ', f_X12_even (nI a) τ = some τ' ∧ Wm p (zer (up p a - p)) τ τ' := by
  have hu := up_le (z := p) (a := a) (by omega)
  unfold f_X12_even f_X12_even_0
  have key := it_for (F := fun K (q : Int32 × St) => f_X12_even_0b K q.1 q.2) (fun i q => ∃ τ', q = (nI a, τ') ∧ Wm p (zer i) τ τ') (up p a - p) (fun o => ∃ τ', o = some τ' ∧ Wm p (zer (up p a - p)) τ τ') ?_ ?_ FU 0 (nI a, τ) (by omega) (FU_lt (by omega)) ⟨τ, rfl, ?_⟩
  · exact key
  · rintro K q ⟨τ', rfl, hw⟩
    have e1 := hw.1
    rw [zer_len, show p + (up p a - p) = up p a by omega] at e1
    have ed : up p a / a * a = up p a := by unfold up; rw [Nat.mul_div_cancel _ (by omega)]
    refine ⟨τ', ?_, hw⟩
    have hd : up p a / a ≤ up p a := Nat.div_le_self _ _
    show f_X12_even_0b K (nI a) τ' = _
    rcases ha with h | h <;> subst h
    · ((try simp (disch := first | decide | assumption | (simp (disch := first | decide | omega) only [ImC_sI, ImC_sJ, ImM_sI, ImM_sJ]; assumption) | omega) only [↓reduceIte, Nat.reduceAdd, Nat.reduceMul, Nat.reduceSub, Nat.reduceEqDiff, Nat.reducePow, Nat.reduceDiv, ↓zn_d, ↓bi_d, ↓bv_d, gd_T, ev_ib, true_or, or_true, eq_self, ite_true, ite_false, if_true, if_false, not_true_eq_false, not_false_eq_true, li_0, li_1, li_2, li_3, li_4, li_5, li_6, li_7, li_8, li_9, li_10, li_11, li_12, li_13, li_14, li_15, li_16, li_17, li_18, li_19, li_20, li_22, li_24, li_28, li_30, li_31, li_32, li_33, li_36, li_40, li_48, li_51, li_52, li_56, li_64, li_72, li_80, li_100, li_126, li_127, li_255, li_256, li_1024, li_1040, li_2048, li_4095, li_4096, li_65535, li_1073741824, ll_0, ll_1, ll_2, ll_3, ll_4, ll_5, ll_6, ll_7, ll_8, ll_9, ll_12, ll_15, ll_16, ll_20, ll_22, ll_24, ll_25, ll_28, ll_32, ll_40, ll_48, ll_64, ll_72, ll_80, ll_133, ll_255, ll_256, ll_512, ll_1024, ll_2048, ll_4096, ll_16384, ll_65535, ll_16777215, ll_16777228, ll_2147483647, ll_2147483648, ll_2147483700, ll_4277009103, ll_4294967295, ll_68719476735, ll_68719476736, ll_2234207627640832, ll_2251795518717952, ll_72057594037927935, ↓lm_1, ↓llm_1, ev_add, ev_sub, ev_mul, ev_div, ev_cl, ev_ltT, ev_ltF, ev_leT, ev_leF, ev_eqT, ev_eqF, ev_m1, ev_m1', ev_m1s, ev_dec, ev_nn, el_add, el_sub, el_mul, el_div, el_ltT, el_ltF, el_leT, el_leF, el_eqT, el_eqF, ev_l, el_i, el_m1, el_m1', rdI, rdJ, rdR, updF, updT, updLF, updLT, sI_l, sJ_l, sR_l, f_X12_even_0b, e1, ed, Nat.sub_self]); first | done | rfl)
    · ((try simp (disch := first | decide | assumption | (simp (disch := first | decide | omega) only [ImC_sI, ImC_sJ, ImM_sI, ImM_sJ]; assumption) | omega) only [↓reduceIte, Nat.reduceAdd, Nat.reduceMul, Nat.reduceSub, Nat.reduceEqDiff, Nat.reducePow, Nat.reduceDiv, ↓zn_d, ↓bi_d, ↓bv_d, gd_T, ev_ib, true_or, or_true, eq_self, ite_true, ite_false, if_true, if_false, not_true_eq_false, not_false_eq_true, li_0, li_1, li_2, li_3, li_4, li_5, li_6, li_7, li_8, li_9, li_10, li_11, li_12, li_13, li_14, li_15, li_16, li_17, li_18, li_19, li_20, li_22, li_24, li_28, li_30, li_31, li_32, li_33, li_36, li_40, li_48, li_51, li_52, li_56, li_64, li_72, li_80, li_100, li_126, li_127, li_255, li_256, li_1024, li_1040, li_2048, li_4095, li_4096, li_65535, li_1073741824, ll_0, ll_1, ll_2, ll_3, ll_4, ll_5, ll_6, ll_7, ll_8, ll_9, ll_12, ll_15, ll_16, ll_20, ll_22, ll_24, ll_25, ll_28, ll_32, ll_40, ll_48, ll_64, ll_72, ll_80, ll_133, ll_255, ll_256, ll_512, ll_1024, ll_2048, ll_4096, ll_16384, ll_65535, ll_16777215, ll_16777228, ll_2147483647, ll_2147483648, ll_2147483700, ll_4277009103, ll_4294967295, ll_68719476735, ll_68719476736, ll_2234207627640832, ll_2251795518717952, ll_72057594037927935, ↓lm_1, ↓llm_1, ev_add, ev_sub, ev_mul, ev_div, ev_cl, ev_ltT, ev_ltF, ev_leT, ev_leF, ev_eqT, ev_eqF, ev_m1, ev_m1', ev_m1s, ev_dec, ev_nn, el_add, el_sub, el_mul, el_div, el_ltT, el_ltF, el_leT, el_leF, el_eqT, el_eqF, ev_l, el_i, el_m1, el_m1', rdI, rdJ, rdR, updF, updT, updLF, updLT, sI_l, sJ_l, sR_l, f_X12_even_0b, e1, ed, Nat.sub_self]); first | done | rfl)
  · rintro K i q hi ⟨τ', rfl, hw⟩ ih
    have e1 := hw.1
    rw [zer_len] at e1
    obtain ⟨τ2, e2, w2⟩ := w_put (v := 0) (k := 1) e1 (by omega) (by decide) (by decide)
    have nz : 0 < p + i - (p + i) / a * a := by
      unfold up at hi
      rcases ha with h | h <;> subst h <;> omega
    have e : f_X12_even_0b K (nI a) τ' = K (nI a, τ2) := by
      have hd : (p + i) / a ≤ p + i := Nat.div_le_self _ _
      rcases ha with h | h <;> subst h
      · ((try simp (disch := first | decide | assumption | (simp (disch := first | decide | omega) only [ImC_sI, ImC_sJ, ImM_sI, ImM_sJ]; assumption) | omega) only [↓reduceIte, Nat.reduceAdd, Nat.reduceMul, Nat.reduceSub, Nat.reduceEqDiff, Nat.reducePow, Nat.reduceDiv, ↓zn_d, ↓bi_d, ↓bv_d, gd_T, ev_ib, true_or, or_true, eq_self, ite_true, ite_false, if_true, if_false, not_true_eq_false, not_false_eq_true, li_0, li_1, li_2, li_3, li_4, li_5, li_6, li_7, li_8, li_9, li_10, li_11, li_12, li_13, li_14, li_15, li_16, li_17, li_18, li_19, li_20, li_22, li_24, li_28, li_30, li_31, li_32, li_33, li_36, li_40, li_48, li_51, li_52, li_56, li_64, li_72, li_80, li_100, li_126, li_127, li_255, li_256, li_1024, li_1040, li_2048, li_4095, li_4096, li_65535, li_1073741824, ll_0, ll_1, ll_2, ll_3, ll_4, ll_5, ll_6, ll_7, ll_8, ll_9, ll_12, ll_15, ll_16, ll_20, ll_22, ll_24, ll_25, ll_28, ll_32, ll_40, ll_48, ll_64, ll_72, ll_80, ll_133, ll_255, ll_256, ll_512, ll_1024, ll_2048, ll_4096, ll_16384, ll_65535, ll_16777215, ll_16777228, ll_2147483647, ll_2147483648, ll_2147483700, ll_4277009103, ll_4294967295, ll_68719476735, ll_68719476736, ll_2234207627640832, ll_2251795518717952, ll_72057594037927935, ↓lm_1, ↓llm_1, ev_add, ev_sub, ev_mul, ev_div, ev_cl, ev_ltT, ev_ltF, ev_leT, ev_leF, ev_eqT, ev_eqF, ev_m1, ev_m1', ev_m1s, ev_dec, ev_nn, el_add, el_sub, el_mul, el_div, el_ltT, el_ltF, el_leT, el_leF, el_eqT, el_eqF, ev_l, el_i, el_m1, el_m1', rdI, rdJ, rdR, updF, updT, updLF, updLT, sI_l, sJ_l, sR_l, f_X12_even_0b, e1, e2]); first | done | rfl)
      · ((try simp (disch := first | decide | assumption | (simp (disch := first | decide | omega) only [ImC_sI, ImC_sJ, ImM_sI, ImM_sJ]; assumption) | omega) only [↓reduceIte, Nat.reduceAdd, Nat.reduceMul, Nat.reduceSub, Nat.reduceEqDiff, Nat.reducePow, Nat.reduceDiv, ↓zn_d, ↓bi_d, ↓bv_d, gd_T, ev_ib, true_or, or_true, eq_self, ite_true, ite_false, if_true, if_false, not_true_eq_false, not_false_eq_true, li_0, li_1, li_2, li_3, li_4, li_5, li_6, li_7, li_8, li_9, li_10, li_11, li_12, li_13, li_14, li_15, li_16, li_17, li_18, li_19, li_20, li_22, li_24, li_28, li_30, li_31, li_32, li_33, li_36, li_40, li_48, li_51, li_52, li_56, li_64, li_72, li_80, li_100, li_126, li_127, li_255, li_256, li_1024, li_1040, li_2048, li_4095, li_4096, li_65535, li_1073741824, ll_0, ll_1, ll_2, ll_3, ll_4, ll_5, ll_6, ll_7, ll_8, ll_9, ll_12, ll_15, ll_16, ll_20, ll_22, ll_24, ll_25, ll_28, ll_32, ll_40, ll_48, ll_64, ll_72, ll_80, ll_133, ll_255, ll_256, ll_512, ll_1024, ll_2048, ll_4096, ll_16384, ll_65535, ll_16777215, ll_16777228, ll_2147483647, ll_2147483648, ll_2147483700, ll_4277009103, ll_4294967295, ll_68719476735, ll_68719476736, ll_2234207627640832, ll_2251795518717952, ll_72057594037927935, ↓lm_1, ↓llm_1, ev_add, ev_sub, ev_mul, ev_div, ev_cl, ev_ltT, ev_ltF, ev_leT, ev_leF, ev_eqT, ev_eqF, ev_m1, ev_m1', ev_m1s, ev_dec, ev_nn, el_add, el_sub, el_mul, el_div, el_ltT, el_ltF, el_leT, el_leF, el_eqT, el_eqF, ev_l, el_i, el_m1, el_m1', rdI, rdJ, rdR, updF, updT, updLF, updLT, sI_l, sJ_l, sR_l, f_X12_even_0b, e1, e2]); first | done | rfl)
    show ∃ τ'', f_X12_even_0b K (nI a) τ' = some τ'' ∧ _
    rw [e]
    refine ih _ ⟨τ2, rfl, ?_⟩
    have w3 : Wm p (zer i ++ num 1 0) τ τ2 := Wm_tr hw (by rw [zer_len]; exact w2)
    have : zer i ++ num 1 0 = zer (i + 1) := by
      show List.replicate i 0 ++ [0] = List.replicate (i + 1) 0
      exact List.replicate_succ'.symm
    rw [this] at w3
    exact w3
  · exact ⟨by rw [zer_len]; exact hs, fun i hi => absurd hi (by rw [zer_len]; omega), fun _ _ => rfl, OM.rf⟩
