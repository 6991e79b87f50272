/-! which loaded segment holds m bytes from an address on -/
def hit (S D : Nat → Nat) (i : Int) (m t : Nat) : Prop := 0 < S t ∧ (D t : Int) ≤ i ∧ i + m ≤ (D t : Int) + S t
theorem d_subI (i x : Int32) : (i.toInt64 - x.toInt64).toInt = i.toInt - x.toInt := by
  have h1 := i.toInt_lt
  have h2 := i.le_toInt
  have h3 := x.toInt_lt
  have h4 := x.le_toInt
  rw [Int64.toInt_sub, Int32.toInt_toInt64, Int32.toInt_toInt64]
  exact Int.bmod_eq_of_le (by omega) (by omega)
theorem c_place_step {nl m t : Nat} {S D : Nat → Nat} {σ : St} {i : Int32} (hL : LsC nl S D σ) (hn : nl ≤ 4) (ht : t < nl) (hm1 : 1 ≤ m) (hm : m ≤ 8) (hS : sumS S nl ≤ 16384) (hD : ∀ s, s < nl → 0 < S s → D s + S s ≤ 2147483648) (K : (Int32 × Int32 × Int32 × St) → Option (Int32 × St)) :
    (¬ hit S D i.toInt m t → f_X7_placeOf_2b 54 K i (nI m) (nI t) σ = K (i, nI m, nI (t + 1), σ)) ∧ (hit S D i.toInt m t → f_X7_placeOf_2b 54 K i (nI m) (nI t) σ = some (nI (sumS S t + (i.toNatClampNeg - D t)), σ)) := by
  obtain ⟨h1, h2⟩ := hL
  obtain ⟨g1, g2, g3⟩ := h2 t ht
  have hSt := sumS_mono (f := S) ht
  have hDt := hD t ht
  have b1 := i.toInt_lt
  have b2 := i.le_toInt
  have dI := d_subI i (σ.1 55 t)
  have b3 := (σ.1 55 t).toInt_lt
  have b4 := (σ.1 55 t).le_toInt
  have p1 : i.toInt64 - (σ.1 55 t).toInt64 < lN 0 ↔ i.toInt - (σ.1 55 t).toInt < 0 := by
    rw [Int64.lt_iff_toInt_lt, dI]
    exact Iff.rfl
  have p2 : lN (S t) < i.toInt64 - (σ.1 55 t).toInt64 + lN m ↔ (S t : Int) < i.toInt - (σ.1 55 t).toInt + m := by
    have e : (i.toInt64 - (σ.1 55 t).toInt64 + lN m).toInt = i.toInt - (σ.1 55 t).toInt + m := by
      rw [Int64.toInt_add, dI, pk_lT (by omega)]
      exact Int.bmod_eq_of_le (by omega) (by omega)
    rw [Int64.lt_iff_toInt_lt, e, pk_lT (by omega)]
  have hx : 0 < S t → (σ.1 55 t).toInt = D t := fun h0 => by rw [g3 h0, nI_toInt (by have := hDt h0; omega)]
  constructor
  · intro hn'
    unfold hit at hn'
    by_cases c1 : i.toInt64 - (σ.1 55 t).toInt64 < lN 0
    · ((try simp (disch := first | decide | assumption | (simp (disch := first | decide | omega) only [ImC_sI, ImC_sJ, ImM_sI, ImM_sJ]; assumption) | omega) only [↓reduceIte, Nat.reduceAdd, Nat.reduceMul, Nat.reduceSub, Nat.reduceEqDiff, Nat.reducePow, Nat.reduceDiv, ↓zn_d, ↓bi_d, ↓bv_d, gd_T, ev_ib, true_or, or_true, eq_self, ite_true, ite_false, if_true, if_false, not_true_eq_false, not_false_eq_true, li_0, li_1, li_2, li_3, li_4, li_5, li_6, li_7, li_8, li_9, li_10, li_11, li_12, li_13, li_14, li_15, li_16, li_17, li_18, li_19, li_20, li_22, li_24, li_28, li_30, li_31, li_32, li_33, li_36, li_40, li_48, li_51, li_52, li_56, li_64, li_72, li_80, li_100, li_126, li_127, li_255, li_256, li_1024, li_1040, li_2048, li_4095, li_4096, li_65535, li_1073741824, ll_0, ll_1, ll_2, ll_3, ll_4, ll_5, ll_6, ll_7, ll_8, ll_9, ll_12, ll_15, ll_16, ll_20, ll_22, ll_24, ll_25, ll_28, ll_32, ll_40, ll_48, ll_64, ll_72, ll_80, ll_133, ll_255, ll_256, ll_512, ll_1024, ll_2048, ll_4096, ll_16384, ll_65535, ll_16777215, ll_16777228, ll_2147483647, ll_2147483648, ll_2147483700, ll_4277009103, ll_4294967295, ll_68719476735, ll_68719476736, ll_2234207627640832, ll_2251795518717952, ll_72057594037927935, ↓lm_1, ↓llm_1, ev_add, ev_sub, ev_mul, ev_div, ev_cl, ev_ltT, ev_ltF, ev_leT, ev_leF, ev_eqT, ev_eqF, ev_m1, ev_m1', ev_m1s, ev_dec, ev_nn, el_add, el_sub, el_mul, el_div, el_ltT, el_ltF, el_leT, el_leF, el_eqT, el_eqF, ev_l, el_i, el_m1, el_m1', rdI, rdJ, rdR, updF, updT, updLF, updLT, sI_l, sJ_l, sR_l, f_X7_placeOf_2b, f_X7_placeOf_56, h1, g1, c1]); first | done | rfl)
    · have c2 : lN (S t) < i.toInt64 - (σ.1 55 t).toInt64 + lN m := p2.mpr (by
        have q : ¬ (i.toInt - (σ.1 55 t).toInt < 0) := fun h => c1 (p1.mpr h)
        by_cases h0 : 0 < S t
        · have := hx h0
          omega
        · omega)
      ((try simp (disch := first | decide | assumption | (simp (disch := first | decide | omega) only [ImC_sI, ImC_sJ, ImM_sI, ImM_sJ]; assumption) | omega) only [↓reduceIte, Nat.reduceAdd, Nat.reduceMul, Nat.reduceSub, Nat.reduceEqDiff, Nat.reducePow, Nat.reduceDiv, ↓zn_d, ↓bi_d, ↓bv_d, gd_T, ev_ib, true_or, or_true, eq_self, ite_true, ite_false, if_true, if_false, not_true_eq_false, not_false_eq_true, li_0, li_1, li_2, li_3, li_4, li_5, li_6, li_7, li_8, li_9, li_10, li_11, li_12, li_13, li_14, li_15, li_16, li_17, li_18, li_19, li_20, li_22, li_24, li_28, li_30, li_31, li_32, li_33, li_36, li_40, li_48, li_51, li_52, li_56, li_64, li_72, li_80, li_100, li_126, li_127, li_255, li_256, li_1024, li_1040, li_2048, li_4095, li_4096, li_65535, li_1073741824, ll_0, ll_1, ll_2, ll_3, ll_4, ll_5, ll_6, ll_7, ll_8, ll_9, ll_12, ll_15, ll_16, ll_20, ll_22, ll_24, ll_25, ll_28, ll_32, ll_40, ll_48, ll_64, ll_72, ll_80, ll_133, ll_255, ll_256, ll_512, ll_1024, ll_2048, ll_4096, ll_16384, ll_65535, ll_16777215, ll_16777228, ll_2147483647, ll_2147483648, ll_2147483700, ll_4277009103, ll_4294967295, ll_68719476735, ll_68719476736, ll_2234207627640832, ll_2251795518717952, ll_72057594037927935, ↓lm_1, ↓llm_1, ev_add, ev_sub, ev_mul, ev_div, ev_cl, ev_ltT, ev_ltF, ev_leT, ev_leF, ev_eqT, ev_eqF, ev_m1, ev_m1', ev_m1s, ev_dec, ev_nn, el_add, el_sub, el_mul, el_div, el_ltT, el_ltF, el_leT, el_leF, el_eqT, el_eqF, ev_l, el_i, el_m1, el_m1', rdI, rdJ, rdR, updF, updT, updLF, updLT, sI_l, sJ_l, sR_l, f_X7_placeOf_2b, f_X7_placeOf_56, h1, g1, c1, c2]); first | done | rfl)
  · rintro ⟨q1, q2, q3⟩
    have e := hx q1
    have c1 : ¬ i.toInt64 - (σ.1 55 t).toInt64 < lN 0 := fun h => by have := p1.mp h; omega
    have c2 : ¬ lN (S t) < i.toInt64 - (σ.1 55 t).toInt64 + lN m := fun h => by have := p2.mp h; omega
    have e5 := g3 q1
    obtain ⟨a, ha, hai⟩ : ∃ a : Nat, a < 2 ^ 31 ∧ i = nI a := nI_of (fun h => by have := i_lt0 h; omega)
    subst hai
    rw [nI_toInt ha] at q2 q3
    have hdd := hDt q1
    rw [e5, nI_l ha, nI_l (by omega), lN_sub (by omega)] at c1 c2
    rw [nI_clamp ha]
    ((try simp (disch := first | decide | assumption | (simp (disch := first | decide | omega) only [ImC_sI, ImC_sJ, ImM_sI, ImM_sJ]; assumption) | omega) only [↓reduceIte, Nat.reduceAdd, Nat.reduceMul, Nat.reduceSub, Nat.reduceEqDiff, Nat.reducePow, Nat.reduceDiv, ↓zn_d, ↓bi_d, ↓bv_d, gd_T, ev_ib, true_or, or_true, eq_self, ite_true, ite_false, if_true, if_false, not_true_eq_false, not_false_eq_true, li_0, li_1, li_2, li_3, li_4, li_5, li_6, li_7, li_8, li_9, li_10, li_11, li_12, li_13, li_14, li_15, li_16, li_17, li_18, li_19, li_20, li_22, li_24, li_28, li_30, li_31, li_32, li_33, li_36, li_40, li_48, li_51, li_52, li_56, li_64, li_72, li_80, li_100, li_126, li_127, li_255, li_256, li_1024, li_1040, li_2048, li_4095, li_4096, li_65535, li_1073741824, ll_0, ll_1, ll_2, ll_3, ll_4, ll_5, ll_6, ll_7, ll_8, ll_9, ll_12, ll_15, ll_16, ll_20, ll_22, ll_24, ll_25, ll_28, ll_32, ll_40, ll_48, ll_64, ll_72, ll_80, ll_133, ll_255, ll_256, ll_512, ll_1024, ll_2048, ll_4096, ll_16384, ll_65535, ll_16777215, ll_16777228, ll_2147483647, ll_2147483648, ll_2147483700, ll_4277009103, ll_4294967295, ll_68719476735, ll_68719476736, ll_2234207627640832, ll_2251795518717952, ll_72057594037927935, ↓lm_1, ↓llm_1, ev_add, ev_sub, ev_mul, ev_div, ev_cl, ev_ltT, ev_ltF, ev_leT, ev_leF, ev_eqT, ev_eqF, ev_m1, ev_m1', ev_m1s, ev_dec, ev_nn, el_add, el_sub, el_mul, el_div, el_ltT, el_ltF, el_leT, el_leF, el_eqT, el_eqF, ev_l, el_i, el_m1, el_m1', rdI, rdJ, rdR, updF, updT, updLF, updLT, sI_l, sJ_l, sR_l, f_X7_placeOf_2b, f_X7_placeOf_56, h1, g1, g2, e5]); first | done | rfl)
theorem c_placeN {nl m : Nat} {S D : Nat → Nat} {σ : St} {i : Int32} (hL : LsC nl S D σ) (hn : nl ≤ 4) (hm1 : 1 ≤ m) (hm : m ≤ 8) (hS : sumS S nl ≤ 16384) (hD : ∀ s, s < nl → 0 < S s → D s + S s ≤ 2147483648) (h : ∀ t, t < nl → ¬ hit S D i.toInt m t) : f_X7_placeOf 54 i (nI m) σ = some (m1, σ) := by
  unfold f_X7_placeOf f_X7_placeOf_2
  dsimp only [zn]
  refine it_for (F := fun K a => f_X7_placeOf_2b 54 K a.1 a.2.1 a.2.2.1 a.2.2.2) (fun t (q : Int32 × Int32 × Int32 × St) => q = (i, nI m, nI t, σ)) nl (fun o => o = some (m1, σ)) ?_ ?_ FU 0 _ (by omega) (FU_lt (by omega)) rfl
  · rintro K q rfl
    dsimp only
    have h1 := hL.1
    ((try simp (disch := first | decide | assumption | (simp (disch := first | decide | omega) only [ImC_sI, ImC_sJ, ImM_sI, ImM_sJ]; assumption) | omega) only [↓reduceIte, Nat.reduceAdd, Nat.reduceMul, Nat.reduceSub, Nat.reduceEqDiff, Nat.reducePow, Nat.reduceDiv, ↓zn_d, ↓bi_d, ↓bv_d, gd_T, ev_ib, true_or, or_true, eq_self, ite_true, ite_false, if_true, if_false, not_true_eq_false, not_false_eq_true, li_0, li_1, li_2, li_3, li_4, li_5, li_6, li_7, li_8, li_9, li_10, li_11, li_12, li_13, li_14, li_15, li_16, li_17, li_18, li_19, li_20, li_22, li_24, li_28, li_30, li_31, li_32, li_33, li_36, li_40, li_48, li_51, li_52, li_56, li_64, li_72, li_80, li_100, li_126, li_127, li_255, li_256, li_1024, li_1040, li_2048, li_4095, li_4096, li_65535, li_1073741824, ll_0, ll_1, ll_2, ll_3, ll_4, ll_5, ll_6, ll_7, ll_8, ll_9, ll_12, ll_15, ll_16, ll_20, ll_22, ll_24, ll_25, ll_28, ll_32, ll_40, ll_48, ll_64, ll_72, ll_80, ll_133, ll_255, ll_256, ll_512, ll_1024, ll_2048, ll_4096, ll_16384, ll_65535, ll_16777215, ll_16777228, ll_2147483647, ll_2147483648, ll_2147483700, ll_4277009103, ll_4294967295, ll_68719476735, ll_68719476736, ll_2234207627640832, ll_2251795518717952, ll_72057594037927935, ↓lm_1, ↓llm_1, ev_add, ev_sub, ev_mul, ev_div, ev_cl, ev_ltT, ev_ltF, ev_leT, ev_leF, ev_eqT, ev_eqF, ev_m1, ev_m1', ev_m1s, ev_dec, ev_nn, el_add, el_sub, el_mul, el_div, el_ltT, el_ltF, el_leT, el_leF, el_eqT, el_eqF, ev_l, el_i, el_m1, el_m1', rdI, rdJ, rdR, updF, updT, updLF, updLT, sI_l, sJ_l, sR_l, f_X7_placeOf_2b, h1]); first | done | rfl)
  · rintro K t q ht rfl ih
    dsimp only
    rw [(c_place_step hL hn ht hm1 hm hS hD K).1 (h t ht)]
    exact ih _ rfl
theorem c_placeS {nl m s : Nat} {S D : Nat → Nat} {σ : St} {i : Int32} (hL : LsC nl S D σ) (hn : nl ≤ 4) (hs : s < nl) (hm1 : 1 ≤ m) (hm : m ≤ 8) (hS : sumS S nl ≤ 16384) (hD : ∀ s, s < nl → 0 < S s → D s + S s ≤ 2147483648) (h : hit S D i.toInt m s) (hf : ∀ t, t < s → ¬ hit S D i.toInt m t) : f_X7_placeOf 54 i (nI m) σ = some (nI (sumS S s + (i.toNatClampNeg - D s)), σ) := by
  unfold f_X7_placeOf f_X7_placeOf_2
  dsimp only [zn]
  refine it_for (F := fun K a => f_X7_placeOf_2b 54 K a.1 a.2.1 a.2.2.1 a.2.2.2) (fun t (q : Int32 × Int32 × Int32 × St) => q = (i, nI m, nI t, σ)) s (fun o => o = some (nI (sumS S s + (i.toNatClampNeg - D s)), σ)) ?_ ?_ FU 0 _ (by omega) (FU_lt (by omega)) rfl
  · rintro K q rfl
    dsimp only
    rw [(c_place_step hL hn hs hm1 hm hS hD K).2 h]
  · rintro K t q ht rfl ih
    dsimp only
    rw [(c_place_step hL hn (by omega) hm1 hm hS hD K).1 (hf t ht)]
    exact ih _ rfl
theorem m_hold_step {nl m t : Nat} {S D : Nat → Nat} {τ : St} {i : Int32} (h63 : τ.1 68 63 = nI nl) (hL : LsM nl S D τ) (hn : nl ≤ 4) (ht : t < nl) (hm1 : 1 ≤ m) (hm : m ≤ 8) (hS : sumS S nl ≤ 16384) (hD : ∀ s, s < nl → 0 < S s → D s + S s ≤ 2147483648) (K : (Int64 × Int32 × Int32 × St) → Option (Int32 × St)) :
    (¬ hit S D i.toInt m t → f_X12_holds_3b K i.toInt64 (nI m) (nI t) τ = K (i.toInt64, nI m, nI (t + 1), τ)) ∧ (hit S D i.toInt m t → f_X12_holds_3b K i.toInt64 (nI m) (nI t) τ = some (nI t, τ)) := by
  obtain ⟨g1, g2, g3, g4, g5⟩ := hL t ht
  have hSt := sumS_mono (f := S) ht
  have hDt := hD t ht
  have b1 := i.toInt_lt
  have b2 := i.le_toInt
  have p1 : i.toInt64 < τ.2 98 t ↔ i.toInt < (τ.2 98 t).toInt := by
    rw [Int64.lt_iff_toInt_lt, Int32.toInt_toInt64]
  have p2 : τ.2 98 t + lN (S t) < i.toInt64 + lN m ↔ (τ.2 98 t).toInt + S t < i.toInt + m := by
    rw [Int64.lt_iff_toInt_lt, Int64.toInt_add, Int64.toInt_add, pk_lT (by omega), pk_lT (by omega), Int32.toInt_toInt64, Int.bmod_eq_of_le (by omega) (by omega), Int.bmod_eq_of_le (by omega) (by omega)]
  have hx : 0 < S t → (τ.2 98 t).toInt = D t := fun h0 => by rw [g3 h0, pk_lT (by have := hDt h0; omega)]
  constructor
  · intro hn'
    unfold hit at hn'
    by_cases c1 : i.toInt64 < τ.2 98 t
    · ((try simp (disch := first | decide | assumption | (simp (disch := first | decide | omega) only [ImC_sI, ImC_sJ, ImM_sI, ImM_sJ]; assumption) | omega) only [↓reduceIte, Nat.reduceAdd, Nat.reduceMul, Nat.reduceSub, Nat.reduceEqDiff, Nat.reducePow, Nat.reduceDiv, ↓zn_d, ↓bi_d, ↓bv_d, gd_T, ev_ib, true_or, or_true, eq_self, ite_true, ite_false, if_true, if_false, not_true_eq_false, not_false_eq_true, li_0, li_1, li_2, li_3, li_4, li_5, li_6, li_7, li_8, li_9, li_10, li_11, li_12, li_13, li_14, li_15, li_16, li_17, li_18, li_19, li_20, li_22, li_24, li_28, li_30, li_31, li_32, li_33, li_36, li_40, li_48, li_51, li_52, li_56, li_64, li_72, li_80, li_100, li_126, li_127, li_255, li_256, li_1024, li_1040, li_2048, li_4095, li_4096, li_65535, li_1073741824, ll_0, ll_1, ll_2, ll_3, ll_4, ll_5, ll_6, ll_7, ll_8, ll_9, ll_12, ll_15, ll_16, ll_20, ll_22, ll_24, ll_25, ll_28, ll_32, ll_40, ll_48, ll_64, ll_72, ll_80, ll_133, ll_255, ll_256, ll_512, ll_1024, ll_2048, ll_4096, ll_16384, ll_65535, ll_16777215, ll_16777228, ll_2147483647, ll_2147483648, ll_2147483700, ll_4277009103, ll_4294967295, ll_68719476735, ll_68719476736, ll_2234207627640832, ll_2251795518717952, ll_72057594037927935, ↓lm_1, ↓llm_1, ev_add, ev_sub, ev_mul, ev_div, ev_cl, ev_ltT, ev_ltF, ev_leT, ev_leF, ev_eqT, ev_eqF, ev_m1, ev_m1', ev_m1s, ev_dec, ev_nn, el_add, el_sub, el_mul, el_div, el_ltT, el_ltF, el_leT, el_leF, el_eqT, el_eqF, ev_l, el_i, el_m1, el_m1', rdI, rdJ, rdR, updF, updT, updLF, updLT, sI_l, sJ_l, sR_l, f_X12_holds_3b, f_X12_holds_50, h63, g1, c1]); first | done | rfl)
    · have c2 : τ.2 98 t + lN (S t) < i.toInt64 + lN m := p2.mpr (by
        have q : ¬ (i.toInt < (τ.2 98 t).toInt) := fun h => c1 (p1.mpr h)
        by_cases h0 : 0 < S t
        · have := hx h0
          omega
        · omega)
      ((try simp (disch := first | decide | assumption | (simp (disch := first | decide | omega) only [ImC_sI, ImC_sJ, ImM_sI, ImM_sJ]; assumption) | omega) only [↓reduceIte, Nat.reduceAdd, Nat.reduceMul, Nat.reduceSub, Nat.reduceEqDiff, Nat.reducePow, Nat.reduceDiv, ↓zn_d, ↓bi_d, ↓bv_d, gd_T, ev_ib, true_or, or_true, eq_self, ite_true, ite_false, if_true, if_false, not_true_eq_false, not_false_eq_true, li_0, li_1, li_2, li_3, li_4, li_5, li_6, li_7, li_8, li_9, li_10, li_11, li_12, li_13, li_14, li_15, li_16, li_17, li_18, li_19, li_20, li_22, li_24, li_28, li_30, li_31, li_32, li_33, li_36, li_40, li_48, li_51, li_52, li_56, li_64, li_72, li_80, li_100, li_126, li_127, li_255, li_256, li_1024, li_1040, li_2048, li_4095, li_4096, li_65535, li_1073741824, ll_0, ll_1, ll_2, ll_3, ll_4, ll_5, ll_6, ll_7, ll_8, ll_9, ll_12, ll_15, ll_16, ll_20, ll_22, ll_24, ll_25, ll_28, ll_32, ll_40, ll_48, ll_64, ll_72, ll_80, ll_133, ll_255, ll_256, ll_512, ll_1024, ll_2048, ll_4096, ll_16384, ll_65535, ll_16777215, ll_16777228, ll_2147483647, ll_2147483648, ll_2147483700, ll_4277009103, ll_4294967295, ll_68719476735, ll_68719476736, ll_2234207627640832, ll_2251795518717952, ll_72057594037927935, ↓lm_1, ↓llm_1, ev_add, ev_sub, ev_mul, ev_div, ev_cl, ev_ltT, ev_ltF, ev_leT, ev_leF, ev_eqT, ev_eqF, ev_m1, ev_m1', ev_m1s, ev_dec, ev_nn, el_add, el_sub, el_mul, el_div, el_ltT, el_ltF, el_leT, el_leF, el_eqT, el_eqF, ev_l, el_i, el_m1, el_m1', rdI, rdJ, rdR, updF, updT, updLF, updLT, sI_l, sJ_l, sR_l, f_X12_holds_3b, f_X12_holds_50, h63, g1, c1, c2]); first | done | rfl)
  · rintro ⟨q1, q2, q3⟩
    have e := hx q1
    have c1 : ¬ i.toInt64 < τ.2 98 t := fun h => by have := p1.mp h; omega
    have c2 : ¬ τ.2 98 t + lN (S t) < i.toInt64 + lN m := fun h => by have := p2.mp h; omega
    ((try simp (disch := first | decide | assumption | (simp (disch := first | decide | omega) only [ImC_sI, ImC_sJ, ImM_sI, ImM_sJ]; assumption) | omega) only [↓reduceIte, Nat.reduceAdd, Nat.reduceMul, Nat.reduceSub, Nat.reduceEqDiff, Nat.reducePow, Nat.reduceDiv, ↓zn_d, ↓bi_d, ↓bv_d, gd_T, ev_ib, true_or, or_true, eq_self, ite_true, ite_false, if_true, if_false, not_true_eq_false, not_false_eq_true, li_0, li_1, li_2, li_3, li_4, li_5, li_6, li_7, li_8, li_9, li_10, li_11, li_12, li_13, li_14, li_15, li_16, li_17, li_18, li_19, li_20, li_22, li_24, li_28, li_30, li_31, li_32, li_33, li_36, li_40, li_48, li_51, li_52, li_56, li_64, li_72, li_80, li_100, li_126, li_127, li_255, li_256, li_1024, li_1040, li_2048, li_4095, li_4096, li_65535, li_1073741824, ll_0, ll_1, ll_2, ll_3, ll_4, ll_5, ll_6, ll_7, ll_8, ll_9, ll_12, ll_15, ll_16, ll_20, ll_22, ll_24, ll_25, ll_28, ll_32, ll_40, ll_48, ll_64, ll_72, ll_80, ll_133, ll_255, ll_256, ll_512, ll_1024, ll_2048, ll_4096, ll_16384, ll_65535, ll_16777215, ll_16777228, ll_2147483647, ll_2147483648, ll_2147483700, ll_4277009103, ll_4294967295, ll_68719476735, ll_68719476736, ll_2234207627640832, ll_2251795518717952, ll_72057594037927935, ↓lm_1, ↓llm_1, ev_add, ev_sub, ev_mul, ev_div, ev_cl, ev_ltT, ev_ltF, ev_leT, ev_leF, ev_eqT, ev_eqF, ev_m1, ev_m1', ev_m1s, ev_dec, ev_nn, el_add, el_sub, el_mul, el_div, el_ltT, el_ltF, el_leT, el_leF, el_eqT, el_eqF, ev_l, el_i, el_m1, el_m1', rdI, rdJ, rdR, updF, updT, updLF, updLT, sI_l, sJ_l, sR_l, f_X12_holds_3b, f_X12_holds_50, h63, g1, c1, c2]); first | done | rfl)
theorem m_holdN {nl m : Nat} {S D : Nat → Nat} {τ : St} {i : Int32} (h63 : τ.1 68 63 = nI nl) (hL : LsM nl S D τ) (hn : nl ≤ 4) (hm1 : 1 ≤ m) (hm : m ≤ 8) (hS : sumS S nl ≤ 16384) (hD : ∀ s, s < nl → 0 < S s → D s + S s ≤ 2147483648) (h : ∀ t, t < nl → ¬ hit S D i.toInt m t) : f_X12_holds i.toInt64 (nI m) τ = some (m1, τ) := by
  unfold f_X12_holds f_X12_holds_3
  dsimp only [zn]
  refine it_for (F := fun K a => f_X12_holds_3b K a.1 a.2.1 a.2.2.1 a.2.2.2) (fun t (q : Int64 × Int32 × Int32 × St) => q = (i.toInt64, nI m, nI t, τ)) nl (fun o => o = some (m1, τ)) ?_ ?_ FU 0 _ (by omega) (FU_lt (by omega)) rfl
  · rintro K q rfl
    dsimp only
    ((try simp (disch := first | decide | assumption | (simp (disch := first | decide | omega) only [ImC_sI, ImC_sJ, ImM_sI, ImM_sJ]; assumption) | omega) only [↓reduceIte, Nat.reduceAdd, Nat.reduceMul, Nat.reduceSub, Nat.reduceEqDiff, Nat.reducePow, Nat.reduceDiv, ↓zn_d, ↓bi_d, ↓bv_d, gd_T, ev_ib, true_or, or_true, eq_self, ite_true, ite_false, if_true, if_false, not_true_eq_false, not_false_eq_true, li_0, li_1, li_2, li_3, li_4, li_5, li_6, li_7, li_8, li_9, li_10, li_11, li_12, li_13, li_14, li_15, li_16, li_17, li_18, li_19, li_20, li_22, li_24, li_28, li_30, li_31, li_32, li_33, li_36, li_40, li_48, li_51, li_52, li_56, li_64, li_72, li_80, li_100, li_126, li_127, li_255, li_256, li_1024, li_1040, li_2048, li_4095, li_4096, li_65535, li_1073741824, ll_0, ll_1, ll_2, ll_3, ll_4, ll_5, ll_6, ll_7, ll_8, ll_9, ll_12, ll_15, ll_16, ll_20, ll_22, ll_24, ll_25, ll_28, ll_32, ll_40, ll_48, ll_64, ll_72, ll_80, ll_133, ll_255, ll_256, ll_512, ll_1024, ll_2048, ll_4096, ll_16384, ll_65535, ll_16777215, ll_16777228, ll_2147483647, ll_2147483648, ll_2147483700, ll_4277009103, ll_4294967295, ll_68719476735, ll_68719476736, ll_2234207627640832, ll_2251795518717952, ll_72057594037927935, ↓lm_1, ↓llm_1, ev_add, ev_sub, ev_mul, ev_div, ev_cl, ev_ltT, ev_ltF, ev_leT, ev_leF, ev_eqT, ev_eqF, ev_m1, ev_m1', ev_m1s, ev_dec, ev_nn, el_add, el_sub, el_mul, el_div, el_ltT, el_ltF, el_leT, el_leF, el_eqT, el_eqF, ev_l, el_i, el_m1, el_m1', rdI, rdJ, rdR, updF, updT, updLF, updLT, sI_l, sJ_l, sR_l, f_X12_holds_3b, h63]); first | done | rfl)
  · rintro K t q ht rfl ih
    dsimp only
    rw [(m_hold_step h63 hL hn ht hm1 hm hS hD K).1 (h t ht)]
    exact ih _ rfl
theorem m_holdS {nl m s : Nat} {S D : Nat → Nat} {τ : St} {i : Int32} (h63 : τ.1 68 63 = nI nl) (hL : LsM nl S D τ) (hn : nl ≤ 4) (hs : s < nl) (hm1 : 1 ≤ m) (hm : m ≤ 8) (hS : sumS S nl ≤ 16384) (hD : ∀ s, s < nl → 0 < S s → D s + S s ≤ 2147483648) (h : hit S D i.toInt m s) (hf : ∀ t, t < s → ¬ hit S D i.toInt m t) : f_X12_holds i.toInt64 (nI m) τ = some (nI s, τ) := by
  unfold f_X12_holds f_X12_holds_3
  dsimp only [zn]
  refine it_for (F := fun K a => f_X12_holds_3b K a.1 a.2.1 a.2.2.1 a.2.2.2) (fun t (q : Int64 × Int32 × Int32 × St) => q = (i.toInt64, nI m, nI t, τ)) s (fun o => o = some (nI s, τ)) ?_ ?_ FU 0 _ (by omega) (FU_lt (by omega)) rfl
  · rintro K q rfl
    dsimp only
    rw [(m_hold_step h63 hL hn hs hm1 hm hS hD K).2 h]
  · rintro K t q ht rfl ih
    dsimp only
    rw [(m_hold_step h63 hL hn (by omega) hm1 hm hS hD K).1 (hf t ht)]
    exact ih _ rfl
theorem hit_ex (S D : Nat → Nat) (i : Int) (m nl : Nat) : (∀ t, t < nl → ¬ hit S D i m t) ∨ ∃ s, s < nl ∧ hit S D i m s ∧ ∀ t, t < s → ¬ hit S D i m t := by
  by_cases h : ∃ s, s < nl ∧ hit S D i m s
  · obtain ⟨s, hs, hl⟩ := pk_least (fun s => s < nl ∧ hit S D i m s) h
    exact Or.inr ⟨s, hs.1, hs.2, fun t ht q => hl t ht ⟨by omega, q⟩⟩
  · exact Or.inl (fun t ht q => h ⟨t, ht, q⟩)
