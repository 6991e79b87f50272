/-! the symbols, one behind the other -/
def cat (P : Nat → List Nat) : Nat → List Nat
  | 0 => []
  | k + 1 => cat P k ++ P k
theorem cat_len {P : Nat → List Nat} {c : Nat} : ∀ n, (∀ k, k < n → (P k).length = c) → (cat P n).length = c * n := by
  intro n
  induction n with
  | zero => intro _; rfl
  | succ n ih =>
    intro h
    show (cat P n ++ P n).length = c * (n + 1)
    rw [List.length_append, ih (fun k hk => h k (by omega)), h n (by omega), Nat.mul_succ]
theorem c_syms {z ny : Nat} {L : Nat → Nat} {P : Nat → List Nat} {σ : St} (hn : ny ≤ 20) (h18 : σ.1 18 2 = nI ny) (hs : σ.1 3 1 = nI z) (step : ∀ (K : (Int32 × Int32 × St) → Option St) k σ', k < ny → Wc z (cat P k) σ σ' → ∃ σ'', f_X10_addSymbols_13b K (nI (1 + lsm L k)) (nI k) σ' = K (nI (1 + lsm L (k + 1)), nI (k + 1), σ'') ∧ Wc z (cat P (k + 1)) σ σ'') : ∃ σ', f_X10_addSymbols_13 (nI 1) (nI 0) σ = some σ' ∧ Wc z (cat P ny) σ σ' := by
  unfold f_X10_addSymbols_13
  have key := it_for (F := fun K (q : Int32 × Int32 × St) => f_X10_addSymbols_13b K q.1 q.2.1 q.2.2) (fun i q => ∃ σ', q = (nI (1 + lsm L i), nI i, σ') ∧ Wc z (cat P i) σ σ') ny (fun o => ∃ σ', o = some σ' ∧ Wc z (cat P ny) σ σ') ?_ ?_ FU 0 (nI 1, nI 0, σ) (by omega) (FU_lt (by omega)) ⟨σ, rfl, Wc_nil hs⟩
  · exact key
  · rintro K q ⟨σ', rfl, hw⟩
    have f := (Wc_f hw (a := 18) (b := 2) (by unfold Eic; omega)).trans h18
    exact ⟨σ', by ((try simp (disch := first | decide | assumption | (simp (disch := first | decide | omega) only [ImC_sI, ImC_sJ, ImM_sI, ImM_sJ]; assumption) | omega) only [↓reduceIte, Nat.reduceAdd, Nat.reduceMul, Nat.reduceSub, Nat.reduceEqDiff, Nat.reducePow, Nat.reduceDiv, ↓zn_d, ↓bi_d, ↓bv_d, gd_T, ev_ib, true_or, or_true, eq_self, ite_true, ite_false, if_true, if_false, not_true_eq_false, not_false_eq_true, li_0, li_1, li_2, li_3, li_4, li_5, li_6, li_7, li_8, li_9, li_10, li_11, li_12, li_13, li_14, li_15, li_16, li_17, li_18, li_19, li_20, li_22, li_24, li_28, li_30, li_31, li_32, li_33, li_36, li_40, li_48, li_51, li_52, li_56, li_64, li_72, li_80, li_100, li_126, li_127, li_255, li_256, li_1024, li_1040, li_2048, li_4095, li_4096, li_65535, li_1073741824, ll_0, ll_1, ll_2, ll_3, ll_4, ll_5, ll_6, ll_7, ll_8, ll_9, ll_12, ll_15, ll_16, ll_20, ll_22, ll_24, ll_25, ll_28, ll_32, ll_40, ll_48, ll_64, ll_72, ll_80, ll_133, ll_255, ll_256, ll_512, ll_1024, ll_2048, ll_4096, ll_16384, ll_65535, ll_16777215, ll_16777228, ll_2147483647, ll_2147483648, ll_2147483700, ll_4277009103, ll_4294967295, ll_68719476735, ll_68719476736, ll_2234207627640832, ll_2251795518717952, ll_72057594037927935, ↓lm_1, ↓llm_1, ev_add, ev_sub, ev_mul, ev_div, ev_cl, ev_ltT, ev_ltF, ev_leT, ev_leF, ev_eqT, ev_eqF, ev_m1, ev_m1', ev_m1s, ev_dec, ev_nn, el_add, el_sub, el_mul, el_div, el_ltT, el_ltF, el_leT, el_leF, el_eqT, el_eqF, ev_l, el_i, el_m1, el_m1', rdI, rdJ, rdR, updF, updT, updLF, updLT, sI_l, sJ_l, sR_l, f_X10_addSymbols_13b, f]); first | done | rfl), hw⟩
  · rintro K i q hi ⟨σ', rfl, hw⟩ ih
    obtain ⟨t, e, w⟩ := step K i σ' hi hw
    show ∃ σ'', f_X10_addSymbols_13b K (nI (1 + lsm L i)) (nI i) σ' = some σ'' ∧ _
    rw [e]
    exact ih _ ⟨t, rfl, w⟩
theorem m_syms {p ny C : Nat} {L : Nat → Nat} {P : Nat → List Nat} {τ : St} (hn : ny ≤ 20) (hs : τ.1 68 31 = nI p) (step : ∀ (K : (Int32 × Int32 × Int32 × St) → Option (Int32 × St)) k τ', k < ny → Wm p (cat P k) τ τ' → ∃ τ'', f_X12_write_142b K (nI C) (nI (1 + lsm L k)) (nI k) τ' = K (nI C, nI (1 + lsm L (k + 1)), nI (k + 1), τ'') ∧ Wm p (cat P (k + 1)) τ τ'') : ∃ K τ', f_X12_write_142 (nI C) (nI 1) (nI 0) τ = f_X12_write_142b K (nI C) (nI (1 + lsm L ny)) (nI ny) τ' ∧ Wm p (cat P ny) τ τ' := by
  unfold f_X12_write_142
  have key := it_for (F := fun K (q : Int32 × Int32 × Int32 × St) => f_X12_write_142b K q.1 q.2.1 q.2.2.1 q.2.2.2) (fun i q => ∃ τ', q = (nI C, nI (1 + lsm L i), nI i, τ') ∧ Wm p (cat P i) τ τ') ny (fun o => ∃ K τ', o = f_X12_write_142b K (nI C) (nI (1 + lsm L ny)) (nI ny) τ' ∧ Wm p (cat P ny) τ τ') ?_ ?_ FU 0 (nI C, nI 1, nI 0, τ) (by omega) (FU_lt (by omega)) ⟨τ, rfl, Wm_nil hs⟩
  · exact key
  · rintro K q ⟨τ', rfl, hw⟩
    exact ⟨K, τ', rfl, hw⟩
  · rintro K i q hi ⟨τ', rfl, hw⟩ ih
    obtain ⟨t, e, w⟩ := step K i τ' hi hw
    show ∃ K' τ'', f_X12_write_142b K (nI C) (nI (1 + lsm L i)) (nI i) τ' = f_X12_write_142b K' (nI C) (nI (1 + lsm L ny)) (nI ny) τ'' ∧ _
    rw [e]
    exact ih _ ⟨t, rfl, w⟩
