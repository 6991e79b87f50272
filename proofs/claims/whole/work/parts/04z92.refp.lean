/-! the reference's pointers -/
theorem enc_1 {x y : Nat} (hx : x < 2 ^ 24) (hy : y < 256) : lN (2 ^ 63) ||| lN (y * 2 ^ 24) ||| lN x = lN (enc x y 1) := by
  have ee : enc x y 1 = 2 ^ 63 + y * 2 ^ 24 + x := if_neg (by decide)
  have e1 : (2 ^ 63 ||| y * 2 ^ 24) = y * 2 ^ 24 + 1 * 2 ^ 63 := by
    rw [Nat.or_comm]
    exact or_nat (a := y * 2 ^ 24) (c := 1) (k := 63) (by omega)
  have e2 : y * 2 ^ 24 + 1 * 2 ^ 63 = (y + 2 ^ 39) * 2 ^ 24 := by omega
  have e3 : ((y + 2 ^ 39) * 2 ^ 24 ||| x) = x + (y + 2 ^ 39) * 2 ^ 24 := by
    rw [Nat.or_comm]
    exact or_nat (k := 24) (by omega)
  have e4 : x + (y + 2 ^ 39) * 2 ^ 24 = 2 ^ 63 + y * 2 ^ 24 + x := eb_sum x y
  rw [lN_or _ _ (by omega) (by omega), e1, e2, lN_or _ _ (by omega) (by omega), e3, e4, ee]
theorem enc_0 {x y : Nat} (hx : x < 2 ^ 36) (hy : y < 256) : lN x ||| lN (y * 2 ^ 36) = lN (enc x y 0) := by
  have ee : enc x y 0 = x + y * 2 ^ 36 := if_pos rfl
  rw [ee]
  exact lN_orS 36 hx (by omega) (by omega)
theorem or_sh (a b c x : Int64) : a ||| b ||| x ||| c = (c ||| b ||| a) ||| x := by
  rw [Int64.or_comm (a ||| b ||| x) c, ← Int64.or_assoc, Int64.or_comm a b, ← Int64.or_assoc]
theorem m_ptr84 {D : Nat → Nat → Nat} {τ : St} (K : (Int32 × St) → Option St) (hO : DOK D) (hM : DM D τ) {k : Nat} (hk : k < (D 0 4)) : f_X12_writePointers_84 K (nI k) (nI (nx D k)) τ = f_X12_writePointers_137 K (nI k) (lN (pw D k)) τ := by
  obtain ⟨_, _, _, _, o5, _, _, _, _, _, _, _, _, o14, _⟩ := hO
  obtain ⟨_, _, _, _, h3, h4, h2, h24⟩ := o14 k hk
  obtain ⟨g0, g1, g3, g2, g4⟩ := hM.2.2.2.2.2.2.2 k hk
  rw [pw_l]
  unfold pv
  rw [zs_51]
  have hn : nx D k < 2 ^ 31 := by
    unfold nx
    split
    · rename_i h
      have := (o14 (k + 1) h.1).2.1
      have h9 := Nat.div_le_self (D 21 (k + 1) - D 21 k) 4
      have hB := (show D 1 (D 20 (k + 1)) ≤ 1024 from by
        rename_i hO2 _ _ _ _ _ _ _
        exact (by assumption : ∀ s, s < (D 0 0) → 1 ≤ D 1 s ∧ D 1 s ≤ 1024 ∧ D 2 s ≤ 7) _ (o14 (k + 1) h.1).1 |>.2.1)
      omega
    · decide
  rcases (show D 24 k = 0 ∨ D 24 k = 1 by omega) with f | f
  · rw [f] at g4 ⊢
    have ew := enc_0 h2 h3
    ((try simp (disch := first | decide | assumption | (simp (disch := first | decide | omega) only [ImC_sI, ImC_sJ, ImM_sI, ImM_sJ]; assumption) | omega) only [↓reduceIte, Nat.reduceAdd, Nat.reduceMul, Nat.reduceSub, Nat.reduceEqDiff, Nat.reducePow, Nat.reduceDiv, ↓zn_d, ↓bi_d, ↓bv_d, gd_T, ev_ib, true_or, or_true, eq_self, ite_true, ite_false, if_true, if_false, not_true_eq_false, not_false_eq_true, li_0, li_1, li_2, li_3, li_4, li_5, li_6, li_7, li_8, li_9, li_10, li_11, li_12, li_13, li_14, li_15, li_16, li_17, li_18, li_19, li_20, li_22, li_24, li_28, li_30, li_31, li_32, li_33, li_36, li_40, li_48, li_51, li_52, li_56, li_64, li_72, li_80, li_100, li_126, li_127, li_255, li_256, li_1024, li_1040, li_2048, li_4095, li_4096, li_65535, li_1073741824, ll_0, ll_1, ll_2, ll_3, ll_4, ll_5, ll_6, ll_7, ll_8, ll_9, ll_12, ll_15, ll_16, ll_20, ll_22, ll_24, ll_25, ll_28, ll_32, ll_40, ll_48, ll_64, ll_72, ll_80, ll_133, ll_255, ll_256, ll_512, ll_1024, ll_2048, ll_4096, ll_16384, ll_65535, ll_16777215, ll_16777228, ll_2147483647, ll_2147483648, ll_2147483700, ll_4277009103, ll_4294967295, ll_68719476735, ll_68719476736, ll_2234207627640832, ll_2251795518717952, ll_72057594037927935, ↓lm_1, ↓llm_1, ev_add, ev_sub, ev_mul, ev_div, ev_cl, ev_ltT, ev_ltF, ev_leT, ev_leF, ev_eqT, ev_eqF, ev_m1, ev_m1', ev_m1s, ev_dec, ev_nn, el_add, el_sub, el_mul, el_div, el_ltT, el_ltF, el_leT, el_leF, el_eqT, el_eqF, ev_l, el_i, el_m1, el_m1', rdI, rdJ, rdR, updF, updT, updLF, updLT, sI_l, sJ_l, sR_l, f_X12_writePointers_84, f_X12_writePointers_113, g4, g2, g3, zs_36, zs_51]); (try simp (disch := first | decide | assumption | (simp (disch := first | decide | omega) only [ImC_sI, ImC_sJ, ImM_sI, ImM_sJ]; assumption) | omega) only [↓reduceIte, Nat.reduceAdd, Nat.reduceMul, Nat.reduceSub, Nat.reduceEqDiff, Nat.reducePow, Nat.reduceDiv, ↓zn_d, ↓bi_d, ↓bv_d, gd_T, ev_ib, true_or, or_true, eq_self, ite_true, ite_false, if_true, if_false, not_true_eq_false, not_false_eq_true, li_0, li_1, li_2, li_3, li_4, li_5, li_6, li_7, li_8, li_9, li_10, li_11, li_12, li_13, li_14, li_15, li_16, li_17, li_18, li_19, li_20, li_22, li_24, li_28, li_30, li_31, li_32, li_33, li_36, li_40, li_48, li_51, li_52, li_56, li_64, li_72, li_80, li_100, li_126, li_127, li_255, li_256, li_1024, li_1040, li_2048, li_4095, li_4096, li_65535, li_1073741824, ll_0, ll_1, ll_2, ll_3, ll_4, ll_5, ll_6, ll_7, ll_8, ll_9, ll_12, ll_15, ll_16, ll_20, ll_22, ll_24, ll_25, ll_28, ll_32, ll_40, ll_48, ll_64, ll_72, ll_80, ll_133, ll_255, ll_256, ll_512, ll_1024, ll_2048, ll_4096, ll_16384, ll_65535, ll_16777215, ll_16777228, ll_2147483647, ll_2147483648, ll_2147483700, ll_4277009103, ll_4294967295, ll_68719476735, ll_68719476736, ll_2234207627640832, ll_2251795518717952, ll_72057594037927935, ↓lm_1, ↓llm_1, ev_add, ev_sub, ev_mul, ev_div, ev_cl, ev_ltT, ev_ltF, ev_leT, ev_leF, ev_eqT, ev_eqF, ev_m1, ev_m1', ev_m1s, ev_dec, ev_nn, el_add, el_sub, el_mul, el_div, el_ltT, el_ltF, el_leT, el_leF, el_eqT, el_eqF, ev_l, el_i, el_m1, el_m1', rdI, rdJ, rdR, updF, updT, updLF, updLT, sI_l, sJ_l, sR_l, ew]); first | done | rfl)
  · rw [f] at g4 ⊢
    have ew := or_sh (lN (D 22 k)) (lN (D 23 k * 2 ^ 24)) (lN (2 ^ 63)) (lN (nx D k * 2 ^ 51))
    rw [enc_1 (h24 f) h3] at ew
    ((try simp (disch := first | decide | assumption | (simp (disch := first | decide | omega) only [ImC_sI, ImC_sJ, ImM_sI, ImM_sJ]; assumption) | omega) only [↓reduceIte, Nat.reduceAdd, Nat.reduceMul, Nat.reduceSub, Nat.reduceEqDiff, Nat.reducePow, Nat.reduceDiv, ↓zn_d, ↓bi_d, ↓bv_d, gd_T, ev_ib, true_or, or_true, eq_self, ite_true, ite_false, if_true, if_false, not_true_eq_false, not_false_eq_true, li_0, li_1, li_2, li_3, li_4, li_5, li_6, li_7, li_8, li_9, li_10, li_11, li_12, li_13, li_14, li_15, li_16, li_17, li_18, li_19, li_20, li_22, li_24, li_28, li_30, li_31, li_32, li_33, li_36, li_40, li_48, li_51, li_52, li_56, li_64, li_72, li_80, li_100, li_126, li_127, li_255, li_256, li_1024, li_1040, li_2048, li_4095, li_4096, li_65535, li_1073741824, ll_0, ll_1, ll_2, ll_3, ll_4, ll_5, ll_6, ll_7, ll_8, ll_9, ll_12, ll_15, ll_16, ll_20, ll_22, ll_24, ll_25, ll_28, ll_32, ll_40, ll_48, ll_64, ll_72, ll_80, ll_133, ll_255, ll_256, ll_512, ll_1024, ll_2048, ll_4096, ll_16384, ll_65535, ll_16777215, ll_16777228, ll_2147483647, ll_2147483648, ll_2147483700, ll_4277009103, ll_4294967295, ll_68719476735, ll_68719476736, ll_2234207627640832, ll_2251795518717952, ll_72057594037927935, ↓lm_1, ↓llm_1, ev_add, ev_sub, ev_mul, ev_div, ev_cl, ev_ltT, ev_ltF, ev_leT, ev_leF, ev_eqT, ev_eqF, ev_m1, ev_m1', ev_m1s, ev_dec, ev_nn, el_add, el_sub, el_mul, el_div, el_ltT, el_ltF, el_leT, el_leF, el_eqT, el_eqF, ev_l, el_i, el_m1, el_m1', rdI, rdJ, rdR, updF, updT, updLF, updLT, sI_l, sJ_l, sR_l, f_X12_writePointers_84, f_X12_writePointers_113, g4, g2, g3, zs_24, zs_51, lmin_N]); (try simp (disch := first | decide | assumption | (simp (disch := first | decide | omega) only [ImC_sI, ImC_sJ, ImM_sI, ImM_sJ]; assumption) | omega) only [↓reduceIte, Nat.reduceAdd, Nat.reduceMul, Nat.reduceSub, Nat.reduceEqDiff, Nat.reducePow, Nat.reduceDiv, ↓zn_d, ↓bi_d, ↓bv_d, gd_T, ev_ib, true_or, or_true, eq_self, ite_true, ite_false, if_true, if_false, not_true_eq_false, not_false_eq_true, li_0, li_1, li_2, li_3, li_4, li_5, li_6, li_7, li_8, li_9, li_10, li_11, li_12, li_13, li_14, li_15, li_16, li_17, li_18, li_19, li_20, li_22, li_24, li_28, li_30, li_31, li_32, li_33, li_36, li_40, li_48, li_51, li_52, li_56, li_64, li_72, li_80, li_100, li_126, li_127, li_255, li_256, li_1024, li_1040, li_2048, li_4095, li_4096, li_65535, li_1073741824, ll_0, ll_1, ll_2, ll_3, ll_4, ll_5, ll_6, ll_7, ll_8, ll_9, ll_12, ll_15, ll_16, ll_20, ll_22, ll_24, ll_25, ll_28, ll_32, ll_40, ll_48, ll_64, ll_72, ll_80, ll_133, ll_255, ll_256, ll_512, ll_1024, ll_2048, ll_4096, ll_16384, ll_65535, ll_16777215, ll_16777228, ll_2147483647, ll_2147483648, ll_2147483700, ll_4277009103, ll_4294967295, ll_68719476735, ll_68719476736, ll_2234207627640832, ll_2251795518717952, ll_72057594037927935, ↓lm_1, ↓llm_1, ev_add, ev_sub, ev_mul, ev_div, ev_cl, ev_ltT, ev_ltF, ev_leT, ev_leF, ev_eqT, ev_eqF, ev_m1, ev_m1', ev_m1s, ev_dec, ev_nn, el_add, el_sub, el_mul, el_div, el_ltT, el_ltF, el_leT, el_leF, el_eqT, el_eqF, ev_l, el_i, el_m1, el_m1', rdI, rdJ, rdR, updF, updT, updLF, updLT, sI_l, sJ_l, sR_l, ew]); first | done | rfl)
theorem m_ptr1 {D : Nat → Nat → Nat} {τ : St} (K : (Int32 × St) → Option St) (hO : DOK D) (hM : DM D τ) (h89 : ∀ s, s < (D 0 0) → τ.1 89 s = nI (ofs D s)) {k : Nat} (hk : k < (D 0 4)) : ∃ τ', f_X12_writePointers_2b K (nI k) τ = K (nI (k + 1), τ') ∧ OM Eim τ τ' ∧ ∀ j, τ'.1 88 j = if ofs D (D 20 k) + D 21 k ≤ j ∧ j < ofs D (D 20 k) + D 21 k + 8 then nI (byt (pw D k) (j - (ofs D (D 20 k) + D 21 k))) else τ.1 88 j := by
  have e84 := m_ptr84 K hO hM hk
  have hO' := hO
  obtain ⟨o1, _, _, _, o5, o6, _, _, o9, _, _, _, _, o14, o15⟩ := hO'
  have hp : 256 ≤ (D 0 5) ∧ (D 0 5) ≤ 4096 := by unfold isPg at o6; omega
  obtain ⟨x1, x2, x3, x4, _⟩ := o14 k hk
  have lB := (o9 _ x1).2.1
  have lo := ofs_le hO (show D 20 k ≤ (D 0 0) by omega)
  obtain ⟨g0, g1, _⟩ := hM.2.2.2.2.2.2.2 k hk
  have d10 := hM.1.2.2.2.2.1
  have d5 := hM.1.2.2.2.2.2.1
  have hd := Nat.div_le_self (D 21 k) (D 0 5)
  have E : f_X12_writePointers_2b K (nI k) τ = f_X12_writePointers_84 K (nI k) (nI (nx D k)) τ := by
    unfold nx
    by_cases c0 : k + 1 < (D 0 4)
    · obtain ⟨a0, a1, _⟩ := hM.2.2.2.2.2.2.2 (k + 1) c0
      obtain ⟨y1, y2, _⟩ := o14 (k + 1) c0
      have lB2 := (o9 _ y1).2.1
      have hd2 := Nat.div_le_self (D 21 (k + 1)) (D 0 5)
      by_cases c1 : D 20 (k + 1) = D 20 k
      · by_cases c2 : D 21 (k + 1) / (D 0 5) = D 21 k / (D 0 5)
        · have s1 := o15 k (k + 1) (by omega) c0
          rw [if_pos ⟨c0, c1, c2⟩]
          rw [c1] at a0
          ((try simp (disch := first | decide | assumption | (simp (disch := first | decide | omega) only [ImC_sI, ImC_sJ, ImM_sI, ImM_sJ]; assumption) | omega) only [↓reduceIte, Nat.reduceAdd, Nat.reduceMul, Nat.reduceSub, Nat.reduceEqDiff, Nat.reducePow, Nat.reduceDiv, ↓zn_d, ↓bi_d, ↓bv_d, gd_T, ev_ib, true_or, or_true, eq_self, ite_true, ite_false, if_true, if_false, not_true_eq_false, not_false_eq_true, li_0, li_1, li_2, li_3, li_4, li_5, li_6, li_7, li_8, li_9, li_10, li_11, li_12, li_13, li_14, li_15, li_16, li_17, li_18, li_19, li_20, li_22, li_24, li_28, li_30, li_31, li_32, li_33, li_36, li_40, li_48, li_51, li_52, li_56, li_64, li_72, li_80, li_100, li_126, li_127, li_255, li_256, li_1024, li_1040, li_2048, li_4095, li_4096, li_65535, li_1073741824, ll_0, ll_1, ll_2, ll_3, ll_4, ll_5, ll_6, ll_7, ll_8, ll_9, ll_12, ll_15, ll_16, ll_20, ll_22, ll_24, ll_25, ll_28, ll_32, ll_40, ll_48, ll_64, ll_72, ll_80, ll_133, ll_255, ll_256, ll_512, ll_1024, ll_2048, ll_4096, ll_16384, ll_65535, ll_16777215, ll_16777228, ll_2147483647, ll_2147483648, ll_2147483700, ll_4277009103, ll_4294967295, ll_68719476735, ll_68719476736, ll_2234207627640832, ll_2251795518717952, ll_72057594037927935, ↓lm_1, ↓llm_1, ev_add, ev_sub, ev_mul, ev_div, ev_cl, ev_ltT, ev_ltF, ev_leT, ev_leF, ev_eqT, ev_eqF, ev_m1, ev_m1', ev_m1s, ev_dec, ev_nn, el_add, el_sub, el_mul, el_div, el_ltT, el_ltF, el_leT, el_leF, el_eqT, el_eqF, ev_l, el_i, el_m1, el_m1', rdI, rdJ, rdR, updF, updT, updLF, updLT, sI_l, sJ_l, sR_l, f_X12_writePointers_2b, d10, a0, g0, a1, g1, d5]); first | done | rfl)
        · rw [if_neg (fun h => c2 h.2.2)]
          rw [c1] at a0
          ((try simp (disch := first | decide | assumption | (simp (disch := first | decide | omega) only [ImC_sI, ImC_sJ, ImM_sI, ImM_sJ]; assumption) | omega) only [↓reduceIte, Nat.reduceAdd, Nat.reduceMul, Nat.reduceSub, Nat.reduceEqDiff, Nat.reducePow, Nat.reduceDiv, ↓zn_d, ↓bi_d, ↓bv_d, gd_T, ev_ib, true_or, or_true, eq_self, ite_true, ite_false, if_true, if_false, not_true_eq_false, not_false_eq_true, li_0, li_1, li_2, li_3, li_4, li_5, li_6, li_7, li_8, li_9, li_10, li_11, li_12, li_13, li_14, li_15, li_16, li_17, li_18, li_19, li_20, li_22, li_24, li_28, li_30, li_31, li_32, li_33, li_36, li_40, li_48, li_51, li_52, li_56, li_64, li_72, li_80, li_100, li_126, li_127, li_255, li_256, li_1024, li_1040, li_2048, li_4095, li_4096, li_65535, li_1073741824, ll_0, ll_1, ll_2, ll_3, ll_4, ll_5, ll_6, ll_7, ll_8, ll_9, ll_12, ll_15, ll_16, ll_20, ll_22, ll_24, ll_25, ll_28, ll_32, ll_40, ll_48, ll_64, ll_72, ll_80, ll_133, ll_255, ll_256, ll_512, ll_1024, ll_2048, ll_4096, ll_16384, ll_65535, ll_16777215, ll_16777228, ll_2147483647, ll_2147483648, ll_2147483700, ll_4277009103, ll_4294967295, ll_68719476735, ll_68719476736, ll_2234207627640832, ll_2251795518717952, ll_72057594037927935, ↓lm_1, ↓llm_1, ev_add, ev_sub, ev_mul, ev_div, ev_cl, ev_ltT, ev_ltF, ev_leT, ev_leF, ev_eqT, ev_eqF, ev_m1, ev_m1', ev_m1s, ev_dec, ev_nn, el_add, el_sub, el_mul, el_div, el_ltT, el_ltF, el_leT, el_leF, el_eqT, el_eqF, ev_l, el_i, el_m1, el_m1', rdI, rdJ, rdR, updF, updT, updLF, updLT, sI_l, sJ_l, sR_l, f_X12_writePointers_2b, d10, a0, g0, a1, g1, d5]); first | done | rfl)
      · rw [if_neg (fun h => c1 h.2.1)]
        ((try simp (disch := first | decide | assumption | (simp (disch := first | decide | omega) only [ImC_sI, ImC_sJ, ImM_sI, ImM_sJ]; assumption) | omega) only [↓reduceIte, Nat.reduceAdd, Nat.reduceMul, Nat.reduceSub, Nat.reduceEqDiff, Nat.reducePow, Nat.reduceDiv, ↓zn_d, ↓bi_d, ↓bv_d, gd_T, ev_ib, true_or, or_true, eq_self, ite_true, ite_false, if_true, if_false, not_true_eq_false, not_false_eq_true, li_0, li_1, li_2, li_3, li_4, li_5, li_6, li_7, li_8, li_9, li_10, li_11, li_12, li_13, li_14, li_15, li_16, li_17, li_18, li_19, li_20, li_22, li_24, li_28, li_30, li_31, li_32, li_33, li_36, li_40, li_48, li_51, li_52, li_56, li_64, li_72, li_80, li_100, li_126, li_127, li_255, li_256, li_1024, li_1040, li_2048, li_4095, li_4096, li_65535, li_1073741824, ll_0, ll_1, ll_2, ll_3, ll_4, ll_5, ll_6, ll_7, ll_8, ll_9, ll_12, ll_15, ll_16, ll_20, ll_22, ll_24, ll_25, ll_28, ll_32, ll_40, ll_48, ll_64, ll_72, ll_80, ll_133, ll_255, ll_256, ll_512, ll_1024, ll_2048, ll_4096, ll_16384, ll_65535, ll_16777215, ll_16777228, ll_2147483647, ll_2147483648, ll_2147483700, ll_4277009103, ll_4294967295, ll_68719476735, ll_68719476736, ll_2234207627640832, ll_2251795518717952, ll_72057594037927935, ↓lm_1, ↓llm_1, ev_add, ev_sub, ev_mul, ev_div, ev_cl, ev_ltT, ev_ltF, ev_leT, ev_leF, ev_eqT, ev_eqF, ev_m1, ev_m1', ev_m1s, ev_dec, ev_nn, el_add, el_sub, el_mul, el_div, el_ltT, el_ltF, el_leT, el_leF, el_eqT, el_eqF, ev_l, el_i, el_m1, el_m1', rdI, rdJ, rdR, updF, updT, updLF, updLT, sI_l, sJ_l, sR_l, f_X12_writePointers_2b, d10, a0, g0]); first | done | rfl)
    · rw [if_neg (fun h => c0 h.1)]
      ((try simp (disch := first | decide | assumption | (simp (disch := first | decide | omega) only [ImC_sI, ImC_sJ, ImM_sI, ImM_sJ]; assumption) | omega) only [↓reduceIte, Nat.reduceAdd, Nat.reduceMul, Nat.reduceSub, Nat.reduceEqDiff, Nat.reducePow, Nat.reduceDiv, ↓zn_d, ↓bi_d, ↓bv_d, gd_T, ev_ib, true_or, or_true, eq_self, ite_true, ite_false, if_true, if_false, not_true_eq_false, not_false_eq_true, li_0, li_1, li_2, li_3, li_4, li_5, li_6, li_7, li_8, li_9, li_10, li_11, li_12, li_13, li_14, li_15, li_16, li_17, li_18, li_19, li_20, li_22, li_24, li_28, li_30, li_31, li_32, li_33, li_36, li_40, li_48, li_51, li_52, li_56, li_64, li_72, li_80, li_100, li_126, li_127, li_255, li_256, li_1024, li_1040, li_2048, li_4095, li_4096, li_65535, li_1073741824, ll_0, ll_1, ll_2, ll_3, ll_4, ll_5, ll_6, ll_7, ll_8, ll_9, ll_12, ll_15, ll_16, ll_20, ll_22, ll_24, ll_25, ll_28, ll_32, ll_40, ll_48, ll_64, ll_72, ll_80, ll_133, ll_255, ll_256, ll_512, ll_1024, ll_2048, ll_4096, ll_16384, ll_65535, ll_16777215, ll_16777228, ll_2147483647, ll_2147483648, ll_2147483700, ll_4277009103, ll_4294967295, ll_68719476735, ll_68719476736, ll_2234207627640832, ll_2251795518717952, ll_72057594037927935, ↓lm_1, ↓llm_1, ev_add, ev_sub, ev_mul, ev_div, ev_cl, ev_ltT, ev_ltF, ev_leT, ev_leF, ev_eqT, ev_eqF, ev_m1, ev_m1', ev_m1s, ev_dec, ev_nn, el_add, el_sub, el_mul, el_div, el_ltT, el_ltF, el_leT, el_leF, el_eqT, el_eqF, ev_l, el_i, el_m1, el_m1', rdI, rdJ, rdR, updF, updT, updLF, updLT, sI_l, sJ_l, sR_l, f_X12_writePointers_2b, d10]); first | done | rfl)
  obtain ⟨τ', e1, w1⟩ := w_put (v := pw D k) (k := 8) (p := ofs D (D 20 k) + D 21 k) (τ := sI τ 68 31 (nI (ofs D (D 20 k) + D 21 k))) (by simp (disch := first | decide | omega) only [↓reduceIte, Nat.reduceAdd, Nat.reduceMul, Nat.reduceSub, Nat.reduceEqDiff, Nat.reducePow, Nat.reduceDiv, ↓zn_d, ↓bi_d, ↓bv_d, gd_T, ev_ib, true_or, or_true, eq_self, ite_true, ite_false, if_true, if_false, not_true_eq_false, not_false_eq_true, li_0, li_1, li_2, li_3, li_4, li_5, li_6, li_7, li_8, li_9, li_10, li_11, li_12, li_13, li_14, li_15, li_16, li_17, li_18, li_19, li_20, li_22, li_24, li_28, li_30, li_31, li_32, li_33, li_36, li_40, li_48, li_51, li_52, li_56, li_64, li_72, li_80, li_100, li_126, li_127, li_255, li_256, li_1024, li_1040, li_2048, li_4095, li_4096, li_65535, li_1073741824, ll_0, ll_1, ll_2, ll_3, ll_4, ll_5, ll_6, ll_7, ll_8, ll_9, ll_12, ll_15, ll_16, ll_20, ll_22, ll_24, ll_25, ll_28, ll_32, ll_40, ll_48, ll_64, ll_72, ll_80, ll_133, ll_255, ll_256, ll_512, ll_1024, ll_2048, ll_4096, ll_16384, ll_65535, ll_16777215, ll_16777228, ll_2147483647, ll_2147483648, ll_2147483700, ll_4277009103, ll_4294967295, ll_68719476735, ll_68719476736, ll_2234207627640832, ll_2251795518717952, ll_72057594037927935, ↓lm_1, ↓llm_1, ev_add, ev_sub, ev_mul, ev_div, ev_cl, ev_ltT, ev_ltF, ev_leT, ev_leF, ev_eqT, ev_eqF, ev_m1, ev_m1', ev_m1s, ev_dec, ev_nn, el_add, el_sub, el_mul, el_div, el_ltT, el_ltF, el_leT, el_leF, el_eqT, el_eqF, ev_l, el_i, el_m1, el_m1', rdI, rdJ, rdR, updF, updT, updLF, updLT, sI_l, sJ_l, sR_l]) (by omega) (by decide) (pw_lt D k)
  have d89 := h89 _ x1
  refine ⟨τ', ?_, (OM.sI OM.rf (by unfold Eim; omega)).tr w1.2.2.2, fun j => ?_⟩
  · rw [E, e84]
    ((try simp (disch := first | decide | assumption | (simp (disch := first | decide | omega) only [ImC_sI, ImC_sJ, ImM_sI, ImM_sJ]; assumption) | omega) only [↓reduceIte, Nat.reduceAdd, Nat.reduceMul, Nat.reduceSub, Nat.reduceEqDiff, Nat.reducePow, Nat.reduceDiv, ↓zn_d, ↓bi_d, ↓bv_d, gd_T, ev_ib, true_or, or_true, eq_self, ite_true, ite_false, if_true, if_false, not_true_eq_false, not_false_eq_true, li_0, li_1, li_2, li_3, li_4, li_5, li_6, li_7, li_8, li_9, li_10, li_11, li_12, li_13, li_14, li_15, li_16, li_17, li_18, li_19, li_20, li_22, li_24, li_28, li_30, li_31, li_32, li_33, li_36, li_40, li_48, li_51, li_52, li_56, li_64, li_72, li_80, li_100, li_126, li_127, li_255, li_256, li_1024, li_1040, li_2048, li_4095, li_4096, li_65535, li_1073741824, ll_0, ll_1, ll_2, ll_3, ll_4, ll_5, ll_6, ll_7, ll_8, ll_9, ll_12, ll_15, ll_16, ll_20, ll_22, ll_24, ll_25, ll_28, ll_32, ll_40, ll_48, ll_64, ll_72, ll_80, ll_133, ll_255, ll_256, ll_512, ll_1024, ll_2048, ll_4096, ll_16384, ll_65535, ll_16777215, ll_16777228, ll_2147483647, ll_2147483648, ll_2147483700, ll_4277009103, ll_4294967295, ll_68719476735, ll_68719476736, ll_2234207627640832, ll_2251795518717952, ll_72057594037927935, ↓lm_1, ↓llm_1, ev_add, ev_sub, ev_mul, ev_div, ev_cl, ev_ltT, ev_ltF, ev_leT, ev_leF, ev_eqT, ev_eqF, ev_m1, ev_m1', ev_m1s, ev_dec, ev_nn, el_add, el_sub, el_mul, el_div, el_ltT, el_ltF, el_leT, el_leF, el_eqT, el_eqF, ev_l, el_i, el_m1, el_m1', rdI, rdJ, rdR, updF, updT, updLF, updLT, sI_l, sJ_l, sR_l, f_X12_writePointers_137, g0, g1, d89, e1]); first | done | rfl)
  · obtain ⟨_, b2, b3, _⟩ := w1
    rw [num_len] at b3
    by_cases c : ofs D (D 20 k) + D 21 k ≤ j ∧ j < ofs D (D 20 k) + D 21 k + 8
    · rw [if_pos c]
      have := b2 (j - (ofs D (D 20 k) + D 21 k)) (by rw [num_len]; omega)
      rw [num_at (by omega), show ofs D (D 20 k) + D 21 k + (j - (ofs D (D 20 k) + D 21 k)) = j by omega] at this
      exact this
    · rw [if_neg c, b3 j (by omega), ev_sIf (by omega)]
theorem HsM_cat {P : Nat → List Nat} {p : Nat} {τ : St} : ∀ n, HsM (cat P n) p τ ↔ ∀ s, s < n → HsM (P s) (p + (cat P s).length) τ := by
  intro n
  induction n with
  | zero => exact ⟨fun _ s hs => absurd hs (Nat.not_lt_zero _), fun _ i hi => absurd hi (Nat.not_lt_zero _)⟩
  | succ n ih =>
    show HsM (cat P n ++ P n) p τ ↔ _
    rw [HsM_app, ih]
    constructor
    · rintro ⟨h1, h2⟩ s hs
      by_cases g : s = n
      · rw [g]; exact h2
      · exact h1 s (by omega)
    · intro h
      exact ⟨fun s hs => h s (by omega), h n (by omega)⟩
theorem en_mono (D : Nat → Nat → Nat) {s : Nat} : ∀ d, en D s ≤ en D (s + d) := by
  intro d
  induction d with
  | zero => exact Nat.le_refl _
  | succ d ih =>
    show _ ≤ up (en D (s + d)) 8 + D 1 (s + d)
    have := (up_le (z := en D (s + d)) (a := 8) (by decide)).1
    omega
theorem en_lt {D : Nat → Nat → Nat} {s t : Nat} (h : s < t) : ofs D s + D 1 s ≤ en D t := by
  have := en_mono D (s := s + 1) (t - (s + 1))
  rw [show s + 1 + (t - (s + 1)) = t by omega] at this
  exact this
theorem ct_step {D : Nat → Nat → Nat} {τ τ' : St} (hO : DOK D) {k : Nat} (hk : k < (D 0 4)) (h : HsM (cat (ctp D k) (D 0 0)) (32 + dC D) τ) (h2 : ∀ j, τ'.1 88 j = if ofs D (D 20 k) + D 21 k ≤ j ∧ j < ofs D (D 20 k) + D 21 k + 8 then nI (byt (pw D k) (j - (ofs D (D 20 k) + D 21 k))) else τ.1 88 j) : HsM (cat (ctp D (k + 1)) (D 0 0)) (32 + dC D) τ' := by
  have hO' := hO
  obtain ⟨o1, _, _, _, o5, o6, _, _, o9, _, _, _, _, o14, o15⟩ := hO'
  obtain ⟨x1, x2, _⟩ := o14 k hk
  rw [HsM_cat] at h ⊢
  intro s hs
  have h := h s hs
  rw [ctl_len] at h ⊢
  have lg := ofs_ge (D := D) (s := s)
  have lg2 := ofs_ge (D := D) (s := D 20 k)
  unfold ctp at h ⊢
  rw [HsM_app, zer_len, show en D s + (ofs D s - en D s) = ofs D s by omega] at h ⊢
  obtain ⟨a1, a2⟩ := h
  have far : s ≠ D 20 k → ∀ j, en D s ≤ j → j < ofs D s + D 1 s → ¬ (ofs D (D 20 k) + D 21 k ≤ j ∧ j < ofs D (D 20 k) + D 21 k + 8) := fun hn j j1 j2 q => by
    rcases Nat.lt_or_ge s (D 20 k) with g | g
    · have := en_lt (D := D) g
      omega
    · have := en_lt (D := D) (show D 20 k < s by omega)
      omega
  refine ⟨fun i hi => ?_, fun i hi => ?_⟩
  · rw [zer_len] at hi
    rw [h2, if_neg ?_]
    · exact a1 i (by rw [zer_len]; exact hi)
    · by_cases g : s = D 20 k
      · subst g; omega
      · exact far g _ (by omega) (by omega)
  · rw [rng_len] at hi
    rw [h2, rng_at hi]
    have a2 := a2 i (by rw [rng_len]; exact hi)
    rw [rng_at hi] at a2
    show _ = nI (if D 20 k = s ∧ D 21 k ≤ i ∧ i < D 21 k + 8 then byt (pw D k) (i - D 21 k) else ovy D s i k)
    by_cases g : s = D 20 k
    · subst g
      by_cases c : D 21 k ≤ i ∧ i < D 21 k + 8
      · rw [if_pos (by omega), if_pos ⟨rfl, c⟩, show ofs D (D 20 k) + i - (ofs D (D 20 k) + D 21 k) = i - D 21 k by omega]
      · rw [if_neg (by omega), if_neg (fun q => c q.2)]
        exact a2
    · rw [if_neg (far g _ (by omega) (by omega)), if_neg (fun q => g q.1.symm)]
      exact a2
theorem m_ptrs {D : Nat → Nat → Nat} {τ : St} (hO : DOK D) (hM : DM D τ) (h89 : ∀ s, s < (D 0 0) → τ.1 89 s = nI (ofs D s)) (h : HsM (cat (ctp D 0) (D 0 0)) (32 + dC D) τ) : ∃ τ', f_X12_writePointers τ = some τ' ∧ HsM (cat (ctp D (D 0 4)) (D 0 0)) (32 + dC D) τ' ∧ (∀ j, en D (D 0 0) ≤ j → τ'.1 88 j = τ.1 88 j) ∧ OM Eim τ τ' := by
  have hO' := hO
  obtain ⟨o1, _, _, _, o5, o6, _, _, o9, _, _, _, _, o14, o15⟩ := hO'
  unfold f_X12_writePointers f_X12_writePointers_2
  dsimp only [zn]
  have key := it_for (F := fun K (q : Int32 × St) => f_X12_writePointers_2b K q.1 q.2) (fun i q => ∃ τ', q = (nI i, τ') ∧ HsM (cat (ctp D i) (D 0 0)) (32 + dC D) τ' ∧ (∀ j, en D (D 0 0) ≤ j → τ'.1 88 j = τ.1 88 j) ∧ OM Eim τ τ') (D 0 4) (fun o => ∃ τ', o = some τ' ∧ HsM (cat (ctp D (D 0 4)) (D 0 0)) (32 + dC D) τ' ∧ (∀ j, en D (D 0 0) ≤ j → τ'.1 88 j = τ.1 88 j) ∧ OM Eim τ τ') ?_ ?_ FU 0 (nI 0, τ) (by omega) (FU_lt (by omega)) ⟨τ, rfl, h, fun _ _ => rfl, OM.rf⟩
  · exact key
  · rintro K q ⟨τ', rfl, a1, a2, a3⟩
    have d := (DM_m a3 hM).1.2.2.2.2.1
    exact ⟨τ', by ((try simp (disch := first | decide | assumption | (simp (disch := first | decide | omega) only [ImC_sI, ImC_sJ, ImM_sI, ImM_sJ]; assumption) | omega) only [↓reduceIte, Nat.reduceAdd, Nat.reduceMul, Nat.reduceSub, Nat.reduceEqDiff, Nat.reducePow, Nat.reduceDiv, ↓zn_d, ↓bi_d, ↓bv_d, gd_T, ev_ib, true_or, or_true, eq_self, ite_true, ite_false, if_true, if_false, not_true_eq_false, not_false_eq_true, li_0, li_1, li_2, li_3, li_4, li_5, li_6, li_7, li_8, li_9, li_10, li_11, li_12, li_13, li_14, li_15, li_16, li_17, li_18, li_19, li_20, li_22, li_24, li_28, li_30, li_31, li_32, li_33, li_36, li_40, li_48, li_51, li_52, li_56, li_64, li_72, li_80, li_100, li_126, li_127, li_255, li_256, li_1024, li_1040, li_2048, li_4095, li_4096, li_65535, li_1073741824, ll_0, ll_1, ll_2, ll_3, ll_4, ll_5, ll_6, ll_7, ll_8, ll_9, ll_12, ll_15, ll_16, ll_20, ll_22, ll_24, ll_25, ll_28, ll_32, ll_40, ll_48, ll_64, ll_72, ll_80, ll_133, ll_255, ll_256, ll_512, ll_1024, ll_2048, ll_4096, ll_16384, ll_65535, ll_16777215, ll_16777228, ll_2147483647, ll_2147483648, ll_2147483700, ll_4277009103, ll_4294967295, ll_68719476735, ll_68719476736, ll_2234207627640832, ll_2251795518717952, ll_72057594037927935, ↓lm_1, ↓llm_1, ev_add, ev_sub, ev_mul, ev_div, ev_cl, ev_ltT, ev_ltF, ev_leT, ev_leF, ev_eqT, ev_eqF, ev_m1, ev_m1', ev_m1s, ev_dec, ev_nn, el_add, el_sub, el_mul, el_div, el_ltT, el_ltF, el_leT, el_leF, el_eqT, el_eqF, ev_l, el_i, el_m1, el_m1', rdI, rdJ, rdR, updF, updT, updLF, updLT, sI_l, sJ_l, sR_l, f_X12_writePointers_2b, d]); first | done | rfl), a1, a2, a3⟩
  · rintro K i q hi ⟨τ', rfl, a1, a2, a3⟩ ih
    obtain ⟨t, e, b1, b2⟩ := m_ptr1 K hO (DM_m a3 hM) (fun s hs => (a3.1 89 s (by unfold Eim; omega)).trans (h89 s hs)) hi
    show ∃ τ'', f_X12_writePointers_2b K (nI i) τ' = some τ'' ∧ _
    rw [e]
    refine ih _ ⟨t, rfl, ct_step hO hi a1 b2, fun j hj => ?_, a3.tr b1⟩
    obtain ⟨x1, x2, _⟩ := o14 i hi
    have := en_lt (D := D) x1
    rw [b2, if_neg (by omega), a2 j hj]
