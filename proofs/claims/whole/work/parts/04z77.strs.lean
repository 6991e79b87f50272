/-! the reference's names with zeros: strings and imports -/
theorem m_strs {p ny C : Nat} {L : Nat → Nat} {N : Nat → Nat → Nat} {τ : St} (hn : ny ≤ 20) (h8 : τ.1 68 8 = nI ny) (hs : τ.1 68 31 = nI p) (hz : p + lsm L ny ≤ 9000) (hL : ∀ k, k < ny → L k ≤ 16 ∧ ∀ τ', OM Eim τ τ' → f_X12_longOf (nI (12 + k)) τ' = some (nI (L k), τ')) (hN : ∀ k, k < ny → ∀ i, i < L k → τ.1 70 (16 * (12 + k) + i) = nI (N k i) ∧ N k i < 256) : ∃ K τ', f_X12_write_261 (nI C) (nI 0) τ = f_X12_write_261b K (nI C) (nI ny) τ' ∧ Wm p (nmz L N ny) τ τ' := by
  unfold f_X12_write_261
  have key := it_for (F := fun K (q : Int32 × Int32 × St) => f_X12_write_261b K q.1 q.2.1 q.2.2) (fun i q => ∃ τ', q = (nI C, nI i, τ') ∧ Wm p (nmz L N i) τ τ') ny (fun o => ∃ K τ', o = f_X12_write_261b K (nI C) (nI ny) τ' ∧ Wm p (nmz L N ny) τ τ') ?_ ?_ FU 0 (nI C, nI 0, τ) (by omega) (FU_lt (by omega)) ⟨τ, rfl, Wm_nil hs⟩
  · exact key
  · rintro K q ⟨τ', rfl, hw⟩
    exact ⟨K, τ', rfl, hw⟩
  · rintro K i q hi ⟨τ', rfl, hw⟩ ih
    obtain ⟨g1, g2⟩ := hL i hi
    have m := lsm_mono (L := L) (n := i + 1) (ny - (i + 1))
    rw [show i + 1 + (ny - (i + 1)) = ny by omega] at m
    have f := (Wm_f hw (a := 68) (b := 8) (by unfold Eim; omega)).trans h8
    have e0 := g2 τ' hw.2.2.2
    obtain ⟨t1, t2, e1, e2, w⟩ := m_nmz (r := 12 + i) hw (by omega) (by omega) g1 (hN i hi)
    have e : f_X12_write_261b K (nI C) (nI i) τ' = K (nI C, nI (i + 1), t2) := by
      ((try simp (disch := first | decide | assumption | (simp (disch := first | decide | omega) only [ImC_sI, ImC_sJ, ImM_sI, ImM_sJ]; assumption) | omega) only [↓reduceIte, Nat.reduceAdd, Nat.reduceMul, Nat.reduceSub, Nat.reduceEqDiff, Nat.reducePow, Nat.reduceDiv, ↓zn_d, ↓bi_d, ↓bv_d, gd_T, ev_ib, true_or, or_true, eq_self, ite_true, ite_false, if_true, if_false, not_true_eq_false, not_false_eq_true, li_0, li_1, li_2, li_3, li_4, li_5, li_6, li_7, li_8, li_9, li_10, li_11, li_12, li_13, li_14, li_15, li_16, li_17, li_18, li_19, li_20, li_22, li_24, li_28, li_30, li_31, li_32, li_33, li_36, li_40, li_48, li_51, li_52, li_56, li_64, li_72, li_80, li_100, li_126, li_127, li_255, li_256, li_1024, li_1040, li_2048, li_4095, li_4096, li_65535, li_1073741824, ll_0, ll_1, ll_2, ll_3, ll_4, ll_5, ll_6, ll_7, ll_8, ll_9, ll_12, ll_15, ll_16, ll_20, ll_22, ll_24, ll_25, ll_28, ll_32, ll_40, ll_48, ll_64, ll_72, ll_80, ll_133, ll_255, ll_256, ll_512, ll_1024, ll_2048, ll_4096, ll_16384, ll_65535, ll_16777215, ll_16777228, ll_2147483647, ll_2147483648, ll_2147483700, ll_4277009103, ll_4294967295, ll_68719476735, ll_68719476736, ll_2234207627640832, ll_2251795518717952, ll_72057594037927935, ↓lm_1, ↓llm_1, ev_add, ev_sub, ev_mul, ev_div, ev_cl, ev_ltT, ev_ltF, ev_leT, ev_leF, ev_eqT, ev_eqF, ev_m1, ev_m1', ev_m1s, ev_dec, ev_nn, el_add, el_sub, el_mul, el_div, el_ltT, el_ltF, el_leT, el_leF, el_eqT, el_eqF, ev_l, el_i, el_m1, el_m1', rdI, rdJ, rdR, updF, updT, updLF, updLT, sI_l, sJ_l, sR_l, f_X12_write_261b, f, e0, e1, e2]); first | done | rfl)
    show ∃ K' τ'', f_X12_write_261b K (nI C) (nI i) τ' = f_X12_write_261b K' (nI C) (nI ny) τ'' ∧ _
    rw [e]
    exact ih _ ⟨t2, rfl, w⟩
theorem m_imps {p ni : Nat} {a b : Int32} {L : Nat → Nat} {N : Nat → Nat → Nat} {τ : St} (hn : ni ≤ 20) (h9 : τ.1 68 9 = nI ni) (hs : τ.1 68 31 = nI p) (hz : p + lsm L ni ≤ 9000) (hL : ∀ k, k < ni → L k ≤ 16 ∧ ∀ τ', OM Eim τ τ' → f_X12_longOf (nI (32 + k)) τ' = some (nI (L k), τ')) (hN : ∀ k, k < ni → ∀ i, i < L k → τ.1 70 (16 * (32 + k) + i) = nI (N k i) ∧ N k i < 256) : ∃ K τ', f_X12_writeFixups_330 a b (nI 0) τ = f_X12_writeFixups_330b K a b (nI ni) τ' ∧ Wm p (nmz L N ni) τ τ' := by
  unfold f_X12_writeFixups_330
  have key := it_for (F := fun K (q : Int32 × Int32 × Int32 × St) => f_X12_writeFixups_330b K q.1 q.2.1 q.2.2.1 q.2.2.2) (fun i q => ∃ τ', q = (a, b, nI i, τ') ∧ Wm p (nmz L N i) τ τ') ni (fun o => ∃ K τ', o = f_X12_writeFixups_330b K a b (nI ni) τ' ∧ Wm p (nmz L N ni) τ τ') ?_ ?_ FU 0 (a, b, nI 0, τ) (by omega) (FU_lt (by omega)) ⟨τ, rfl, Wm_nil hs⟩
  · exact key
  · rintro K q ⟨τ', rfl, hw⟩
    exact ⟨K, τ', rfl, hw⟩
  · rintro K i q hi ⟨τ', rfl, hw⟩ ih
    obtain ⟨g1, g2⟩ := hL i hi
    have m := lsm_mono (L := L) (n := i + 1) (ni - (i + 1))
    rw [show i + 1 + (ni - (i + 1)) = ni by omega] at m
    have f := (Wm_f hw (a := 68) (b := 9) (by unfold Eim; omega)).trans h9
    have e0 := g2 τ' hw.2.2.2
    obtain ⟨t1, t2, e1, e2, w⟩ := m_nmz (r := 32 + i) hw (by omega) (by omega) g1 (hN i hi)
    have e : f_X12_writeFixups_330b K a b (nI i) τ' = K (a, b, nI (i + 1), t2) := by
      ((try simp (disch := first | decide | assumption | (simp (disch := first | decide | omega) only [ImC_sI, ImC_sJ, ImM_sI, ImM_sJ]; assumption) | omega) only [↓reduceIte, Nat.reduceAdd, Nat.reduceMul, Nat.reduceSub, Nat.reduceEqDiff, Nat.reducePow, Nat.reduceDiv, ↓zn_d, ↓bi_d, ↓bv_d, gd_T, ev_ib, true_or, or_true, eq_self, ite_true, ite_false, if_true, if_false, not_true_eq_false, not_false_eq_true, li_0, li_1, li_2, li_3, li_4, li_5, li_6, li_7, li_8, li_9, li_10, li_11, li_12, li_13, li_14, li_15, li_16, li_17, li_18, li_19, li_20, li_22, li_24, li_28, li_30, li_31, li_32, li_33, li_36, li_40, li_48, li_51, li_52, li_56, li_64, li_72, li_80, li_100, li_126, li_127, li_255, li_256, li_1024, li_1040, li_2048, li_4095, li_4096, li_65535, li_1073741824, ll_0, ll_1, ll_2, ll_3, ll_4, ll_5, ll_6, ll_7, ll_8, ll_9, ll_12, ll_15, ll_16, ll_20, ll_22, ll_24, ll_25, ll_28, ll_32, ll_40, ll_48, ll_64, ll_72, ll_80, ll_133, ll_255, ll_256, ll_512, ll_1024, ll_2048, ll_4096, ll_16384, ll_65535, ll_16777215, ll_16777228, ll_2147483647, ll_2147483648, ll_2147483700, ll_4277009103, ll_4294967295, ll_68719476735, ll_68719476736, ll_2234207627640832, ll_2251795518717952, ll_72057594037927935, ↓lm_1, ↓llm_1, ev_add, ev_sub, ev_mul, ev_div, ev_cl, ev_ltT, ev_ltF, ev_leT, ev_leF, ev_eqT, ev_eqF, ev_m1, ev_m1', ev_m1s, ev_dec, ev_nn, el_add, el_sub, el_mul, el_div, el_ltT, el_ltF, el_leT, el_leF, el_eqT, el_eqF, ev_l, el_i, el_m1, el_m1', rdI, rdJ, rdR, updF, updT, updLF, updLT, sI_l, sJ_l, sR_l, f_X12_writeFixups_330b, f, e0, e1, e2]); first | done | rfl)
    show ∃ K' τ'', f_X12_writeFixups_330b K a b (nI i) τ' = f_X12_writeFixups_330b K' a b (nI ni) τ'' ∧ _
    rw [e]
    exact ih _ ⟨t2, rfl, w⟩
