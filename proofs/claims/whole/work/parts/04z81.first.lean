/-! the first pointer from a place on -/
theorem least {P : Nat → Prop} : ∀ n, (∃ m, m < n ∧ P m ∧ ∀ j, j < m → ¬ P j) ∨ ∀ j, j < n → ¬ P j := by
  intro n
  induction n with
  | zero => exact Or.inr (fun j hj => absurd hj (Nat.not_lt_zero _))
  | succ n ih =>
    rcases ih with ⟨m, h1, h2, h3⟩ | h
    · exact Or.inl ⟨m, by omega, h2, h3⟩
    · by_cases g : P n
      · exact Or.inl ⟨n, by omega, g, h⟩
      · refine Or.inr (fun j hj => ?_)
        by_cases e : j = n
        · rw [e]; exact g
        · exact h j (by omega)
theorem cnt_0 (G : Nat → Nat) (s : Nat) : ∀ n, cnt G s n = 0 ↔ ∀ k, k < n → G k ≠ s := by
  intro n
  induction n with
  | zero => exact ⟨fun _ k hk => absurd hk (Nat.not_lt_zero _), fun _ => rfl⟩
  | succ n ih =>
    show (if G n = s then cnt G s n + 1 else cnt G s n) = 0 ↔ _
    by_cases c : G n = s
    · rw [if_pos c]
      exact ⟨fun h => absurd h (by omega), fun h => absurd c (h n (by omega))⟩
    · rw [if_neg c, ih]
      refine ⟨fun h k hk => ?_, fun h k hk => h k (by omega)⟩
      by_cases e : k = n
      · rw [e]; exact c
      · exact h k (by omega)
theorem c_fstN {σ : St} {ns s a m n : Nat} (hn : ns ≤ 4) (h6 : σ.1 6 2 = nI ns) (hs : s < ns) (h4 : a % 4 = 0) (ha : a ≤ 5000) (hm : m < 1024) (hN : m < a + 4 * n) (hn2 : n ≤ 256) (hz : ∀ i, i < n → a + 4 * i ≤ m ∧ σ.1 28 (256 * s + (a + 4 * i) / 4) = nI 0) : f_X8_firstPointer_14 (nI s) (nI m) (nI a) σ = some (-1, σ) := by
  unfold f_X8_firstPointer_14
  refine it_for (F := fun K a => f_X8_firstPointer_14b K a.1 a.2.1 a.2.2.1 a.2.2.2) (fun i (q : Int32 × Int32 × Int32 × St) => q = (nI s, nI m, nI (a + 4 * i), σ)) n (fun o => o = some (-1, σ)) ?_ ?_ FU 0 _ (by omega) (FU_lt (by omega)) rfl
  · rintro K q rfl
    show f_X8_firstPointer_14b K (nI s) (nI m) (nI (a + 4 * n)) σ = _
    ((try simp (disch := first | decide | assumption | (simp (disch := first | decide | omega) only [ImC_sI, ImC_sJ, ImM_sI, ImM_sJ]; assumption) | omega) only [↓reduceIte, Nat.reduceAdd, Nat.reduceMul, Nat.reduceSub, Nat.reduceEqDiff, Nat.reducePow, Nat.reduceDiv, ↓zn_d, ↓bi_d, ↓bv_d, gd_T, ev_ib, true_or, or_true, eq_self, ite_true, ite_false, if_true, if_false, not_true_eq_false, not_false_eq_true, li_0, li_1, li_2, li_3, li_4, li_5, li_6, li_7, li_8, li_9, li_10, li_11, li_12, li_13, li_14, li_15, li_16, li_17, li_18, li_19, li_20, li_22, li_24, li_28, li_30, li_31, li_32, li_33, li_36, li_40, li_48, li_51, li_52, li_56, li_64, li_72, li_80, li_100, li_126, li_127, li_255, li_256, li_1024, li_1040, li_2048, li_4095, li_4096, li_65535, li_1073741824, ll_0, ll_1, ll_2, ll_3, ll_4, ll_5, ll_6, ll_7, ll_8, ll_9, ll_12, ll_15, ll_16, ll_20, ll_22, ll_24, ll_25, ll_28, ll_32, ll_40, ll_48, ll_64, ll_72, ll_80, ll_133, ll_255, ll_256, ll_512, ll_1024, ll_2048, ll_4096, ll_16384, ll_65535, ll_16777215, ll_16777228, ll_2147483647, ll_2147483648, ll_2147483700, ll_4277009103, ll_4294967295, ll_68719476735, ll_68719476736, ll_2234207627640832, ll_2251795518717952, ll_72057594037927935, ↓lm_1, ↓llm_1, ev_add, ev_sub, ev_mul, ev_div, ev_cl, ev_ltT, ev_ltF, ev_leT, ev_leF, ev_eqT, ev_eqF, ev_m1, ev_m1', ev_m1s, ev_dec, ev_nn, el_add, el_sub, el_mul, el_div, el_ltT, el_ltF, el_leT, el_leF, el_eqT, el_eqF, ev_l, el_i, el_m1, el_m1', rdI, rdJ, rdR, updF, updT, updLF, updLT, sI_l, sJ_l, sR_l, f_X8_firstPointer_14b]); first | done | rfl)
  · rintro K i q hi rfl ih
    obtain ⟨z1, z2⟩ := hz i hi
    have e := c_hasS (v := 0) hn h6 hs (show a + 4 * i < 1024 by omega) (by omega) z2 (by decide)
    have : f_X8_firstPointer_14b K (nI s) (nI m) (nI (a + 4 * i)) σ = K (nI s, nI m, nI (a + 4 * i + 4), σ) := by
      ((try simp (disch := first | decide | assumption | (simp (disch := first | decide | omega) only [ImC_sI, ImC_sJ, ImM_sI, ImM_sJ]; assumption) | omega) only [↓reduceIte, Nat.reduceAdd, Nat.reduceMul, Nat.reduceSub, Nat.reduceEqDiff, Nat.reducePow, Nat.reduceDiv, ↓zn_d, ↓bi_d, ↓bv_d, gd_T, ev_ib, true_or, or_true, eq_self, ite_true, ite_false, if_true, if_false, not_true_eq_false, not_false_eq_true, li_0, li_1, li_2, li_3, li_4, li_5, li_6, li_7, li_8, li_9, li_10, li_11, li_12, li_13, li_14, li_15, li_16, li_17, li_18, li_19, li_20, li_22, li_24, li_28, li_30, li_31, li_32, li_33, li_36, li_40, li_48, li_51, li_52, li_56, li_64, li_72, li_80, li_100, li_126, li_127, li_255, li_256, li_1024, li_1040, li_2048, li_4095, li_4096, li_65535, li_1073741824, ll_0, ll_1, ll_2, ll_3, ll_4, ll_5, ll_6, ll_7, ll_8, ll_9, ll_12, ll_15, ll_16, ll_20, ll_22, ll_24, ll_25, ll_28, ll_32, ll_40, ll_48, ll_64, ll_72, ll_80, ll_133, ll_255, ll_256, ll_512, ll_1024, ll_2048, ll_4096, ll_16384, ll_65535, ll_16777215, ll_16777228, ll_2147483647, ll_2147483648, ll_2147483700, ll_4277009103, ll_4294967295, ll_68719476735, ll_68719476736, ll_2234207627640832, ll_2251795518717952, ll_72057594037927935, ↓lm_1, ↓llm_1, ev_add, ev_sub, ev_mul, ev_div, ev_cl, ev_ltT, ev_ltF, ev_leT, ev_leF, ev_eqT, ev_eqF, ev_m1, ev_m1', ev_m1s, ev_dec, ev_nn, el_add, el_sub, el_mul, el_div, el_ltT, el_ltF, el_leT, el_leF, el_eqT, el_eqF, ev_l, el_i, el_m1, el_m1', rdI, rdJ, rdR, updF, updT, updLF, updLT, sI_l, sJ_l, sR_l, f_X8_firstPointer_14b, e]); first | done | rfl)
    show f_X8_firstPointer_14b K (nI s) (nI m) (nI (a + 4 * i)) σ = _
    rw [this]
    exact ih _ (by rw [show a + 4 * (i + 1) = a + 4 * i + 4 by omega])
theorem c_fstY {σ : St} {ns s a m n : Nat} (hn : ns ≤ 4) (h6 : σ.1 6 2 = nI ns) (hs : s < ns) (h4 : a % 4 = 0) (ha : a ≤ 5000) (hm : m < 1024) (hN : a + 4 * n ≤ m) (hy : σ.1 28 (256 * s + (a + 4 * n) / 4) = nI 1) (hz : ∀ i, i < n → σ.1 28 (256 * s + (a + 4 * i) / 4) = nI 0) : f_X8_firstPointer_14 (nI s) (nI m) (nI a) σ = some (nI (a + 4 * n), σ) := by
  unfold f_X8_firstPointer_14
  refine it_for (F := fun K a => f_X8_firstPointer_14b K a.1 a.2.1 a.2.2.1 a.2.2.2) (fun i (q : Int32 × Int32 × Int32 × St) => q = (nI s, nI m, nI (a + 4 * i), σ)) n (fun o => o = some (nI (a + 4 * n), σ)) ?_ ?_ FU 0 _ (by omega) (FU_lt (by omega)) rfl
  · rintro K q rfl
    have e := c_hasS (v := 1) hn h6 hs (show a + 4 * n < 1024 by omega) (by omega) hy (by decide)
    show f_X8_firstPointer_14b K (nI s) (nI m) (nI (a + 4 * n)) σ = _
    ((try simp (disch := first | decide | assumption | (simp (disch := first | decide | omega) only [ImC_sI, ImC_sJ, ImM_sI, ImM_sJ]; assumption) | omega) only [↓reduceIte, Nat.reduceAdd, Nat.reduceMul, Nat.reduceSub, Nat.reduceEqDiff, Nat.reducePow, Nat.reduceDiv, ↓zn_d, ↓bi_d, ↓bv_d, gd_T, ev_ib, true_or, or_true, eq_self, ite_true, ite_false, if_true, if_false, not_true_eq_false, not_false_eq_true, li_0, li_1, li_2, li_3, li_4, li_5, li_6, li_7, li_8, li_9, li_10, li_11, li_12, li_13, li_14, li_15, li_16, li_17, li_18, li_19, li_20, li_22, li_24, li_28, li_30, li_31, li_32, li_33, li_36, li_40, li_48, li_51, li_52, li_56, li_64, li_72, li_80, li_100, li_126, li_127, li_255, li_256, li_1024, li_1040, li_2048, li_4095, li_4096, li_65535, li_1073741824, ll_0, ll_1, ll_2, ll_3, ll_4, ll_5, ll_6, ll_7, ll_8, ll_9, ll_12, ll_15, ll_16, ll_20, ll_22, ll_24, ll_25, ll_28, ll_32, ll_40, ll_48, ll_64, ll_72, ll_80, ll_133, ll_255, ll_256, ll_512, ll_1024, ll_2048, ll_4096, ll_16384, ll_65535, ll_16777215, ll_16777228, ll_2147483647, ll_2147483648, ll_2147483700, ll_4277009103, ll_4294967295, ll_68719476735, ll_68719476736, ll_2234207627640832, ll_2251795518717952, ll_72057594037927935, ↓lm_1, ↓llm_1, ev_add, ev_sub, ev_mul, ev_div, ev_cl, ev_ltT, ev_ltF, ev_leT, ev_leF, ev_eqT, ev_eqF, ev_m1, ev_m1', ev_m1s, ev_dec, ev_nn, el_add, el_sub, el_mul, el_div, el_ltT, el_ltF, el_leT, el_leF, el_eqT, el_eqF, ev_l, el_i, el_m1, el_m1', rdI, rdJ, rdR, updF, updT, updLF, updLT, sI_l, sJ_l, sR_l, f_X8_firstPointer_14b, e]); first | done | rfl)
  · rintro K i q hi rfl ih
    have e := c_hasS (v := 0) hn h6 hs (show a + 4 * i < 1024 by omega) (by omega) (hz i hi) (by decide)
    have : f_X8_firstPointer_14b K (nI s) (nI m) (nI (a + 4 * i)) σ = K (nI s, nI m, nI (a + 4 * i + 4), σ) := by
      ((try simp (disch := first | decide | assumption | (simp (disch := first | decide | omega) only [ImC_sI, ImC_sJ, ImM_sI, ImM_sJ]; assumption) | omega) only [↓reduceIte, Nat.reduceAdd, Nat.reduceMul, Nat.reduceSub, Nat.reduceEqDiff, Nat.reducePow, Nat.reduceDiv, ↓zn_d, ↓bi_d, ↓bv_d, gd_T, ev_ib, true_or, or_true, eq_self, ite_true, ite_false, if_true, if_false, not_true_eq_false, not_false_eq_true, li_0, li_1, li_2, li_3, li_4, li_5, li_6, li_7, li_8, li_9, li_10, li_11, li_12, li_13, li_14, li_15, li_16, li_17, li_18, li_19, li_20, li_22, li_24, li_28, li_30, li_31, li_32, li_33, li_36, li_40, li_48, li_51, li_52, li_56, li_64, li_72, li_80, li_100, li_126, li_127, li_255, li_256, li_1024, li_1040, li_2048, li_4095, li_4096, li_65535, li_1073741824, ll_0, ll_1, ll_2, ll_3, ll_4, ll_5, ll_6, ll_7, ll_8, ll_9, ll_12, ll_15, ll_16, ll_20, ll_22, ll_24, ll_25, ll_28, ll_32, ll_40, ll_48, ll_64, ll_72, ll_80, ll_133, ll_255, ll_256, ll_512, ll_1024, ll_2048, ll_4096, ll_16384, ll_65535, ll_16777215, ll_16777228, ll_2147483647, ll_2147483648, ll_2147483700, ll_4277009103, ll_4294967295, ll_68719476735, ll_68719476736, ll_2234207627640832, ll_2251795518717952, ll_72057594037927935, ↓lm_1, ↓llm_1, ev_add, ev_sub, ev_mul, ev_div, ev_cl, ev_ltT, ev_ltF, ev_leT, ev_leF, ev_eqT, ev_eqF, ev_m1, ev_m1', ev_m1s, ev_dec, ev_nn, el_add, el_sub, el_mul, el_div, el_ltT, el_ltF, el_leT, el_leF, el_eqT, el_eqF, ev_l, el_i, el_m1, el_m1', rdI, rdJ, rdR, updF, updT, updLF, updLT, sI_l, sJ_l, sR_l, f_X8_firstPointer_14b, e]); first | done | rfl)
    show f_X8_firstPointer_14b K (nI s) (nI m) (nI (a + 4 * i)) σ = _
    rw [this]
    exact ih _ (by rw [show a + 4 * (i + 1) = a + 4 * i + 4 by omega])
theorem D_find {D : Nat → Nat → Nat} {σ : St} (hO : DOK D) (hC : DC D σ) {s x : Nat} (hs : s < (D 0 0)) (hx : x < 1024) (h4 : x % 4 = 0) : (σ.1 28 (256 * s + x / 4) = nI 1 ∧ ∃ k, k < (D 0 4) ∧ D 20 k = s ∧ D 21 k = x) ∨ (σ.1 28 (256 * s + x / 4) = nI 0 ∧ ∀ k, k < (D 0 4) → D 20 k = s → D 21 k ≠ x) := by
  obtain ⟨o1, _, _, _, _, _, _, _, o9, _, _, _, _, o14, _⟩ := hO
  obtain ⟨_, _, _, _, _, _, _, c8, c9⟩ := hC
  rcases c9 (256 * s + x / 4) (by omega) with g | ⟨g, k, hk, e⟩
  · refine Or.inr ⟨g, fun k hk e0 e1 => ?_⟩
    have := (c8 k hk).1
    rw [e0, e1, g] at this
    exact absurd this (by decide)
  · refine Or.inl ⟨g, k, hk, ?_⟩
    obtain ⟨d1, d2, d3, _⟩ := o14 k hk
    have := (o9 _ d1).2.1
    omega
/-- the first pointer of a segment from place a on, up to place e -/
theorem c_first {D : Nat → Nat → Nat} {σ : St} (hO : DOK D) (hC : DC D σ) {s a e : Nat} (hs : s < (D 0 0)) (h4 : a % 4 = 0) (ha : a ≤ 5000) (he : 4 ≤ e) (he2 : e ≤ 8192) : (∃ k, k < (D 0 4) ∧ D 20 k = s ∧ a ≤ D 21 k ∧ D 21 k + 4 ≤ e ∧ (∀ j, j < (D 0 4) → D 20 j = s → a ≤ D 21 j → D 21 k ≤ D 21 j) ∧ f_X8_firstPointer (nI s) (nI a) (nI e) σ = some (nI (D 21 k), σ)) ∨ ((∀ k, k < (D 0 4) → D 20 k = s → a ≤ D 21 k → e < D 21 k + 4) ∧ f_X8_firstPointer (nI s) (nI a) (nI e) σ = some (-1, σ)) := by
  have hO' := hO
  obtain ⟨o1, _, _, _, _, _, _, _, o9, _, _, _, _, o14, _⟩ := hO'
  have c1 := hC.1.1
  obtain ⟨m, hm1, hm2, hm3, e0⟩ : ∃ m, m < 1024 ∧ (∀ q, q ≤ m ↔ q + 4 ≤ 1024 ∧ q + 4 ≤ e) ∧ m + 4 ≤ e ∧ f_X8_firstPointer (nI s) (nI a) (nI e) σ = f_X8_firstPointer_14 (nI s) (nI m) (nI a) σ := by
    by_cases g : 1024 < e
    · refine ⟨1020, by omega, fun q => by omega, by omega, ?_⟩
      ((try simp (disch := first | decide | assumption | (simp (disch := first | decide | omega) only [ImC_sI, ImC_sJ, ImM_sI, ImM_sJ]; assumption) | omega) only [↓reduceIte, Nat.reduceAdd, Nat.reduceMul, Nat.reduceSub, Nat.reduceEqDiff, Nat.reducePow, Nat.reduceDiv, ↓zn_d, ↓bi_d, ↓bv_d, gd_T, ev_ib, true_or, or_true, eq_self, ite_true, ite_false, if_true, if_false, not_true_eq_false, not_false_eq_true, li_0, li_1, li_2, li_3, li_4, li_5, li_6, li_7, li_8, li_9, li_10, li_11, li_12, li_13, li_14, li_15, li_16, li_17, li_18, li_19, li_20, li_22, li_24, li_28, li_30, li_31, li_32, li_33, li_36, li_40, li_48, li_51, li_52, li_56, li_64, li_72, li_80, li_100, li_126, li_127, li_255, li_256, li_1024, li_1040, li_2048, li_4095, li_4096, li_65535, li_1073741824, ll_0, ll_1, ll_2, ll_3, ll_4, ll_5, ll_6, ll_7, ll_8, ll_9, ll_12, ll_15, ll_16, ll_20, ll_22, ll_24, ll_25, ll_28, ll_32, ll_40, ll_48, ll_64, ll_72, ll_80, ll_133, ll_255, ll_256, ll_512, ll_1024, ll_2048, ll_4096, ll_16384, ll_65535, ll_16777215, ll_16777228, ll_2147483647, ll_2147483648, ll_2147483700, ll_4277009103, ll_4294967295, ll_68719476735, ll_68719476736, ll_2234207627640832, ll_2251795518717952, ll_72057594037927935, ↓lm_1, ↓llm_1, ev_add, ev_sub, ev_mul, ev_div, ev_cl, ev_ltT, ev_ltF, ev_leT, ev_leF, ev_eqT, ev_eqF, ev_m1, ev_m1', ev_m1s, ev_dec, ev_nn, el_add, el_sub, el_mul, el_div, el_ltT, el_ltF, el_leT, el_leF, el_eqT, el_eqF, ev_l, el_i, el_m1, el_m1', rdI, rdJ, rdR, updF, updT, updLF, updLT, sI_l, sJ_l, sR_l, f_X8_firstPointer]); first | done | rfl)
    · refine ⟨e - 4, by omega, fun q => by omega, by omega, ?_⟩
      ((try simp (disch := first | decide | assumption | (simp (disch := first | decide | omega) only [ImC_sI, ImC_sJ, ImM_sI, ImM_sJ]; assumption) | omega) only [↓reduceIte, Nat.reduceAdd, Nat.reduceMul, Nat.reduceSub, Nat.reduceEqDiff, Nat.reducePow, Nat.reduceDiv, ↓zn_d, ↓bi_d, ↓bv_d, gd_T, ev_ib, true_or, or_true, eq_self, ite_true, ite_false, if_true, if_false, not_true_eq_false, not_false_eq_true, li_0, li_1, li_2, li_3, li_4, li_5, li_6, li_7, li_8, li_9, li_10, li_11, li_12, li_13, li_14, li_15, li_16, li_17, li_18, li_19, li_20, li_22, li_24, li_28, li_30, li_31, li_32, li_33, li_36, li_40, li_48, li_51, li_52, li_56, li_64, li_72, li_80, li_100, li_126, li_127, li_255, li_256, li_1024, li_1040, li_2048, li_4095, li_4096, li_65535, li_1073741824, ll_0, ll_1, ll_2, ll_3, ll_4, ll_5, ll_6, ll_7, ll_8, ll_9, ll_12, ll_15, ll_16, ll_20, ll_22, ll_24, ll_25, ll_28, ll_32, ll_40, ll_48, ll_64, ll_72, ll_80, ll_133, ll_255, ll_256, ll_512, ll_1024, ll_2048, ll_4096, ll_16384, ll_65535, ll_16777215, ll_16777228, ll_2147483647, ll_2147483648, ll_2147483700, ll_4277009103, ll_4294967295, ll_68719476735, ll_68719476736, ll_2234207627640832, ll_2251795518717952, ll_72057594037927935, ↓lm_1, ↓llm_1, ev_add, ev_sub, ev_mul, ev_div, ev_cl, ev_ltT, ev_ltF, ev_leT, ev_leF, ev_eqT, ev_eqF, ev_m1, ev_m1', ev_m1s, ev_dec, ev_nn, el_add, el_sub, el_mul, el_div, el_ltT, el_ltF, el_leT, el_leF, el_eqT, el_eqF, ev_l, el_i, el_m1, el_m1', rdI, rdJ, rdR, updF, updT, updLF, updLT, sI_l, sJ_l, sR_l, f_X8_firstPointer]); first | done | rfl)
  rw [e0]
  have hF : ∀ k, k < (D 0 4) → D 21 k + 8 ≤ 1024 ∧ D 21 k % 4 = 0 := fun k hk => by
    obtain ⟨d1, d2, d3, _⟩ := o14 k hk
    have := (o9 _ d1).2.1
    omega
  have hQ : ∀ i, a + 4 * i ≤ m → a + 4 * i < 1024 ∧ (a + 4 * i) % 4 = 0 := fun i hi => by omega
  rcases least (P := fun i => σ.1 28 (256 * s + (a + 4 * i) / 4) = nI 1) ((m + 4 - a) / 4) with ⟨n, q1, q2, q3⟩ | q
  · left
    obtain ⟨x1, x2⟩ := hQ n (by omega)
    have hz : ∀ i, i < n → σ.1 28 (256 * s + (a + 4 * i) / 4) = nI 0 := fun i hi => by
      obtain ⟨x1, x2⟩ := hQ i (by omega)
      rcases D_find hO hC hs x1 x2 with ⟨g, _⟩ | ⟨g, _⟩
      · exact absurd g (q3 i hi)
      · exact g
    rcases D_find hO hC hs x1 x2 with ⟨_, k, hk, k1, k2⟩ | ⟨g, _⟩
    · refine ⟨k, hk, k1, by omega, by have := hF k hk; omega, fun j hj j0 j1 => ?_, ?_⟩
      · rcases Nat.lt_or_ge (D 21 j) (D 21 k) with g | g
        · exfalso
          obtain ⟨_, _, _, _, _, _, _, c8, _⟩ := hC
          refine q3 ((D 21 j - a) / 4) (by omega) ?_
          have h1 := (hF j hj).2
          rw [show a + 4 * ((D 21 j - a) / 4) = D 21 j by omega, ← j0]
          exact (c8 j hj).1
        · exact g
      · rw [k2]
        exact c_fstY o1 c1 hs h4 ha hm1 (by omega) q2 hz
    · exact absurd (q2.symm.trans g) (by decide)
  · right
    refine ⟨fun k hk k0 k1 => ?_, ?_⟩
    · rcases Nat.lt_or_ge e (D 21 k + 4) with g | g
      · exact g
      · exfalso
        obtain ⟨f1, f2⟩ := hF k hk
        obtain ⟨_, _, _, _, _, _, _, c8, _⟩ := hC
        have hm := (hm2 (D 21 k)).mpr ⟨by omega, g⟩
        refine q ((D 21 k - a) / 4) (by omega) ?_
        rw [show a + 4 * ((D 21 k - a) / 4) = D 21 k by omega, ← k0]
        exact (c8 k hk).1
    · refine c_fstN (n := (m + 4 - a) / 4) o1 c1 hs h4 ha hm1 (by omega) (by omega) (fun i hi => ?_)
      have hi2 : a + 4 * i ≤ m := by omega
      obtain ⟨x1, x2⟩ := hQ i hi2
      refine ⟨hi2, ?_⟩
      rcases D_find hO hC hs x1 x2 with ⟨g, _⟩ | ⟨g, _⟩
      · exact absurd g (q i hi)
      · exact g
