/-! the sections of one segment -/
def secL (G : Nat → Nat) (s : Nat) (P : Nat → List Nat) : Nat → List Nat
  | 0 => []
  | k + 1 => if G k = s then secL G s P k ++ P k else secL G s P k
theorem secL_len {G : Nat → Nat} {s : Nat} {P : Nat → List Nat} : ∀ n, (∀ k, k < n → G k = s → (P k).length = 80) → (secL G s P n).length = 80 * cnt G s n := by
  intro n
  induction n with
  | zero => intro _; rfl
  | succ n ih =>
    intro h
    have h1 := ih (fun k hk => h k (by omega))
    show (if G n = s then secL G s P n ++ P n else secL G s P n).length = 80 * (if G n = s then cnt G s n + 1 else cnt G s n)
    by_cases c : G n = s
    · rw [if_pos c, if_pos c, List.length_append, h1, h n (by omega) c]
      omega
    · rw [if_neg c, if_neg c, h1]
theorem c_secL {z s nc : Nat} {G : Nat → Nat} {P : Nat → List Nat} {σ : St} (hn : nc ≤ 8) (hs4 : s < 4) (h12 : σ.1 12 2 = nI nc) (hG : ∀ k, k < nc → σ.1 15 k = nI (G k) ∧ G k < 4) (hs : σ.1 3 1 = nI z) (step : ∀ (K : (Int32 × Int32 × St) → Option St) k σ', k < nc → G k = s → Wc z (secL G s P k) σ σ' → ∃ σ'', f_X10_addSectionsOf_2b K (nI s) (nI k) σ' = K (nI s, nI (k + 1), σ'') ∧ Wc z (secL G s P k ++ P k) σ σ'') : ∃ σ', f_X10_addSectionsOf (nI s) σ = some σ' ∧ Wc z (secL G s P nc) σ σ' := by
  unfold f_X10_addSectionsOf f_X10_addSectionsOf_2
  dsimp only [zn]
  have key := it_for (F := fun K (q : Int32 × Int32 × St) => f_X10_addSectionsOf_2b K q.1 q.2.1 q.2.2) (fun i q => ∃ σ', q = (nI s, nI i, σ') ∧ Wc z (secL G s P i) σ σ') nc (fun o => ∃ σ', o = some σ' ∧ Wc z (secL G s P nc) σ σ') ?_ ?_ FU 0 (nI s, nI 0, σ) (by omega) (FU_lt (by omega)) ⟨σ, rfl, Wc_nil hs⟩
  · exact key
  · rintro K q ⟨σ', rfl, hw⟩
    have f := (Wc_f hw (a := 12) (b := 2) (by unfold Eic; omega)).trans h12
    exact ⟨σ', by ((try simp (disch := first | decide | assumption | (simp (disch := first | decide | omega) only [ImC_sI, ImC_sJ, ImM_sI, ImM_sJ]; assumption) | omega) only [↓reduceIte, Nat.reduceAdd, Nat.reduceMul, Nat.reduceSub, Nat.reduceEqDiff, Nat.reducePow, Nat.reduceDiv, ↓zn_d, ↓bi_d, ↓bv_d, gd_T, ev_ib, true_or, or_true, eq_self, ite_true, ite_false, if_true, if_false, not_true_eq_false, not_false_eq_true, li_0, li_1, li_2, li_3, li_4, li_5, li_6, li_7, li_8, li_9, li_10, li_11, li_12, li_13, li_14, li_15, li_16, li_17, li_18, li_19, li_20, li_22, li_24, li_28, li_30, li_31, li_32, li_33, li_36, li_40, li_48, li_51, li_52, li_56, li_64, li_72, li_80, li_100, li_126, li_127, li_255, li_256, li_1024, li_1040, li_2048, li_4095, li_4096, li_65535, li_1073741824, ll_0, ll_1, ll_2, ll_3, ll_4, ll_5, ll_6, ll_7, ll_8, ll_9, ll_12, ll_15, ll_16, ll_20, ll_22, ll_24, ll_25, ll_28, ll_32, ll_40, ll_48, ll_64, ll_72, ll_80, ll_133, ll_255, ll_256, ll_512, ll_1024, ll_2048, ll_4096, ll_16384, ll_65535, ll_16777215, ll_16777228, ll_2147483647, ll_2147483648, ll_2147483700, ll_4277009103, ll_4294967295, ll_68719476735, ll_68719476736, ll_2234207627640832, ll_2251795518717952, ll_72057594037927935, ↓lm_1, ↓llm_1, ev_add, ev_sub, ev_mul, ev_div, ev_cl, ev_ltT, ev_ltF, ev_leT, ev_leF, ev_eqT, ev_eqF, ev_m1, ev_m1', ev_m1s, ev_dec, ev_nn, el_add, el_sub, el_mul, el_div, el_ltT, el_ltF, el_leT, el_leF, el_eqT, el_eqF, ev_l, el_i, el_m1, el_m1', rdI, rdJ, rdR, updF, updT, updLF, updLT, sI_l, sJ_l, sR_l, f_X10_addSectionsOf_2b, f]); first | done | rfl), hw⟩
  · rintro K i q hi ⟨σ', rfl, hw⟩ ih
    show ∃ σ'', f_X10_addSectionsOf_2b K (nI s) (nI i) σ' = some σ'' ∧ _
    have l2 : secL G s P (i + 1) = if G i = s then secL G s P i ++ P i else secL G s P i := rfl
    by_cases c : G i = s
    · obtain ⟨t, e, w⟩ := step K i σ' hi c hw
      rw [e]
      exact ih _ ⟨t, rfl, by rw [l2, if_pos c]; exact w⟩
    · obtain ⟨g1, g2⟩ := hG i hi
      have f := (Wc_f hw (a := 12) (b := 2) (by unfold Eic; omega)).trans h12
      have f1 := (Wc_f hw (a := 15) (b := i) (by unfold Eic; omega)).trans g1
      have e : f_X10_addSectionsOf_2b K (nI s) (nI i) σ' = K (nI s, nI (i + 1), σ') := by
        ((try simp (disch := first | decide | assumption | (simp (disch := first | decide | omega) only [ImC_sI, ImC_sJ, ImM_sI, ImM_sJ]; assumption) | omega) only [↓reduceIte, Nat.reduceAdd, Nat.reduceMul, Nat.reduceSub, Nat.reduceEqDiff, Nat.reducePow, Nat.reduceDiv, ↓zn_d, ↓bi_d, ↓bv_d, gd_T, ev_ib, true_or, or_true, eq_self, ite_true, ite_false, if_true, if_false, not_true_eq_false, not_false_eq_true, li_0, li_1, li_2, li_3, li_4, li_5, li_6, li_7, li_8, li_9, li_10, li_11, li_12, li_13, li_14, li_15, li_16, li_17, li_18, li_19, li_20, li_22, li_24, li_28, li_30, li_31, li_32, li_33, li_36, li_40, li_48, li_51, li_52, li_56, li_64, li_72, li_80, li_100, li_126, li_127, li_255, li_256, li_1024, li_1040, li_2048, li_4095, li_4096, li_65535, li_1073741824, ll_0, ll_1, ll_2, ll_3, ll_4, ll_5, ll_6, ll_7, ll_8, ll_9, ll_12, ll_15, ll_16, ll_20, ll_22, ll_24, ll_25, ll_28, ll_32, ll_40, ll_48, ll_64, ll_72, ll_80, ll_133, ll_255, ll_256, ll_512, ll_1024, ll_2048, ll_4096, ll_16384, ll_65535, ll_16777215, ll_16777228, ll_2147483647, ll_2147483648, ll_2147483700, ll_4277009103, ll_4294967295, ll_68719476735, ll_68719476736, ll_2234207627640832, ll_2251795518717952, ll_72057594037927935, ↓lm_1, ↓llm_1, ev_add, ev_sub, ev_mul, ev_div, ev_cl, ev_ltT, ev_ltF, ev_leT, ev_leF, ev_eqT, ev_eqF, ev_m1, ev_m1', ev_m1s, ev_dec, ev_nn, el_add, el_sub, el_mul, el_div, el_ltT, el_ltF, el_leT, el_leF, el_eqT, el_eqF, ev_l, el_i, el_m1, el_m1', rdI, rdJ, rdR, updF, updT, updLF, updLT, sI_l, sJ_l, sR_l, f_X10_addSectionsOf_2b, f_X10_addSectionsOf_140, f, f1]); first | done | rfl)
      rw [e]
      exact ih _ ⟨σ', rfl, by rw [l2, if_neg c]; exact hw⟩
theorem m_secL {p s nc : Nat} {G : Nat → Nat} {P : Nat → List Nat} {τ : St} (K33 : (Int32 × St) → Option St) (hn : nc ≤ 8) (hs4 : s < 4) (h12 : τ.1 68 7 = nI nc) (hG : ∀ k, k < nc → τ.1 74 (k + 1) = nI (G k) ∧ G k < 4) (hs : τ.1 68 31 = nI p) (step : ∀ (K : (Int32 × Int32 × St) → Option St) k τ', k < nc → G k = s → Wm p (secL G s P k) τ τ' → ∃ τ'', f_X12_writeCommands_145b K33 K (nI s) (nI (k + 1)) τ' = K (nI s, nI (k + 1 + 1), τ'') ∧ Wm p (secL G s P k ++ P k) τ τ'') : ∃ τ', f_X12_writeCommands_145 K33 (nI s) (nI 1) τ = K33 (nI (s + 1), τ') ∧ Wm p (secL G s P nc) τ τ' := by
  unfold f_X12_writeCommands_145
  have key := it_for (F := fun K (q : Int32 × Int32 × St) => f_X12_writeCommands_145b K33 K q.1 q.2.1 q.2.2) (fun i q => ∃ τ', q = (nI s, nI (i + 1), τ') ∧ Wm p (secL G s P i) τ τ') nc (fun o => ∃ τ', o = K33 (nI (s + 1), τ') ∧ Wm p (secL G s P nc) τ τ') ?_ ?_ FU 0 (nI s, nI 1, τ) (by omega) (FU_lt (by omega)) ⟨τ, rfl, Wm_nil hs⟩
  · exact key
  · rintro K q ⟨τ', rfl, hw⟩
    have f := (Wm_f hw (a := 68) (b := 7) (by unfold Eim; omega)).trans h12
    exact ⟨τ', by ((try simp (disch := first | decide | assumption | (simp (disch := first | decide | omega) only [ImC_sI, ImC_sJ, ImM_sI, ImM_sJ]; assumption) | omega) only [↓reduceIte, Nat.reduceAdd, Nat.reduceMul, Nat.reduceSub, Nat.reduceEqDiff, Nat.reducePow, Nat.reduceDiv, ↓zn_d, ↓bi_d, ↓bv_d, gd_T, ev_ib, true_or, or_true, eq_self, ite_true, ite_false, if_true, if_false, not_true_eq_false, not_false_eq_true, li_0, li_1, li_2, li_3, li_4, li_5, li_6, li_7, li_8, li_9, li_10, li_11, li_12, li_13, li_14, li_15, li_16, li_17, li_18, li_19, li_20, li_22, li_24, li_28, li_30, li_31, li_32, li_33, li_36, li_40, li_48, li_51, li_52, li_56, li_64, li_72, li_80, li_100, li_126, li_127, li_255, li_256, li_1024, li_1040, li_2048, li_4095, li_4096, li_65535, li_1073741824, ll_0, ll_1, ll_2, ll_3, ll_4, ll_5, ll_6, ll_7, ll_8, ll_9, ll_12, ll_15, ll_16, ll_20, ll_22, ll_24, ll_25, ll_28, ll_32, ll_40, ll_48, ll_64, ll_72, ll_80, ll_133, ll_255, ll_256, ll_512, ll_1024, ll_2048, ll_4096, ll_16384, ll_65535, ll_16777215, ll_16777228, ll_2147483647, ll_2147483648, ll_2147483700, ll_4277009103, ll_4294967295, ll_68719476735, ll_68719476736, ll_2234207627640832, ll_2251795518717952, ll_72057594037927935, ↓lm_1, ↓llm_1, ev_add, ev_sub, ev_mul, ev_div, ev_cl, ev_ltT, ev_ltF, ev_leT, ev_leF, ev_eqT, ev_eqF, ev_m1, ev_m1', ev_m1s, ev_dec, ev_nn, el_add, el_sub, el_mul, el_div, el_ltT, el_ltF, el_leT, el_leF, el_eqT, el_eqF, ev_l, el_i, el_m1, el_m1', rdI, rdJ, rdR, updF, updT, updLF, updLT, sI_l, sJ_l, sR_l, f_X12_writeCommands_145b, f]); first | done | rfl), hw⟩
  · rintro K i q hi ⟨τ', rfl, hw⟩ ih
    show ∃ τ'', f_X12_writeCommands_145b K33 K (nI s) (nI (i + 1)) τ' = K33 (nI (s + 1), τ'') ∧ _
    have l2 : secL G s P (i + 1) = if G i = s then secL G s P i ++ P i else secL G s P i := rfl
    by_cases c : G i = s
    · obtain ⟨t, e, w⟩ := step K i τ' hi c hw
      rw [e]
      exact ih _ ⟨t, rfl, by rw [l2, if_pos c]; exact w⟩
    · obtain ⟨g1, g2⟩ := hG i hi
      have f := (Wm_f hw (a := 68) (b := 7) (by unfold Eim; omega)).trans h12
      have f1 := (Wm_f hw (a := 74) (b := i + 1) (by unfold Eim; omega)).trans g1
      have e : f_X12_writeCommands_145b K33 K (nI s) (nI (i + 1)) τ' = K (nI s, nI (i + 1 + 1), τ') := by
        ((try simp (disch := first | decide | assumption | (simp (disch := first | decide | omega) only [ImC_sI, ImC_sJ, ImM_sI, ImM_sJ]; assumption) | omega) only [↓reduceIte, Nat.reduceAdd, Nat.reduceMul, Nat.reduceSub, Nat.reduceEqDiff, Nat.reducePow, Nat.reduceDiv, ↓zn_d, ↓bi_d, ↓bv_d, gd_T, ev_ib, true_or, or_true, eq_self, ite_true, ite_false, if_true, if_false, not_true_eq_false, not_false_eq_true, li_0, li_1, li_2, li_3, li_4, li_5, li_6, li_7, li_8, li_9, li_10, li_11, li_12, li_13, li_14, li_15, li_16, li_17, li_18, li_19, li_20, li_22, li_24, li_28, li_30, li_31, li_32, li_33, li_36, li_40, li_48, li_51, li_52, li_56, li_64, li_72, li_80, li_100, li_126, li_127, li_255, li_256, li_1024, li_1040, li_2048, li_4095, li_4096, li_65535, li_1073741824, ll_0, ll_1, ll_2, ll_3, ll_4, ll_5, ll_6, ll_7, ll_8, ll_9, ll_12, ll_15, ll_16, ll_20, ll_22, ll_24, ll_25, ll_28, ll_32, ll_40, ll_48, ll_64, ll_72, ll_80, ll_133, ll_255, ll_256, ll_512, ll_1024, ll_2048, ll_4096, ll_16384, ll_65535, ll_16777215, ll_16777228, ll_2147483647, ll_2147483648, ll_2147483700, ll_4277009103, ll_4294967295, ll_68719476735, ll_68719476736, ll_2234207627640832, ll_2251795518717952, ll_72057594037927935, ↓lm_1, ↓llm_1, ev_add, ev_sub, ev_mul, ev_div, ev_cl, ev_ltT, ev_ltF, ev_leT, ev_leF, ev_eqT, ev_eqF, ev_m1, ev_m1', ev_m1s, ev_dec, ev_nn, el_add, el_sub, el_mul, el_div, el_ltT, el_ltF, el_leT, el_leF, el_eqT, el_eqF, ev_l, el_i, el_m1, el_m1', rdI, rdJ, rdR, updF, updT, updLF, updLT, sI_l, sJ_l, sR_l, f_X12_writeCommands_145b, f_X12_writeCommands_261, f, f1]); first | done | rfl)
      rw [e]
      exact ih _ ⟨τ', rfl, by rw [l2, if_neg c]; exact hw⟩
