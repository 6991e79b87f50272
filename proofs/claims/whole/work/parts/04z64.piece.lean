/-! the image as pieces: lists of bytes, put at places -/
def num (k v : Nat) : List Nat := (List.range k).map (byt v)
theorem num_len (k v : Nat) : (num k v).length = k := by rw [num, List.length_map, List.length_range]
theorem num_at {k v i : Nat} (h : i < k) : (num k v).getD i 0 = byt v i := by
  unfold num
  rw [List.getD_eq_getElem?_getD, List.getElem?_map, List.getElem?_range h]
  rfl
def zer (n : Nat) : List Nat := List.replicate n 0
theorem zer_len (n : Nat) : (zer n).length = n := List.length_replicate
theorem zer_at (n i : Nat) : (zer n).getD i 0 = 0 := by
  unfold zer
  rw [List.getD_eq_getElem?_getD, List.getElem?_replicate]
  split <;> rfl
theorem app_at (A B : List Nat) (i : Nat) : (A ++ B).getD i 0 = if i < A.length then A.getD i 0 else B.getD (i - A.length) 0 := by
  rw [List.getD_eq_getElem?_getD, List.getD_eq_getElem?_getD, List.getD_eq_getElem?_getD, List.getElem?_append]
  split <;> rfl
def HsC (L : List Nat) (p : Nat) (σ : St) : Prop := ∀ i, i < L.length → ub (σ.1 4 (p + i)) = L.getD i 0
def HsM (L : List Nat) (p : Nat) (τ : St) : Prop := ∀ i, i < L.length → τ.1 88 (p + i) = nI (L.getD i 0)
theorem HsC_app {A B : List Nat} {p : Nat} {σ : St} : HsC (A ++ B) p σ ↔ HsC A p σ ∧ HsC B (p + A.length) σ := by
  unfold HsC
  constructor
  · intro h
    refine ⟨fun i hi => ?_, fun i hi => ?_⟩
    · rw [h i (by rw [List.length_append]; omega), app_at, if_pos hi]
    · rw [Nat.add_assoc, h (A.length + i) (by rw [List.length_append]; omega), app_at, if_neg (by omega), Nat.add_sub_cancel_left]
  · rintro ⟨h1, h2⟩ i hi
    rw [app_at]
    by_cases g : i < A.length
    · rw [if_pos g, h1 i g]
    · rw [if_neg g, ← h2 (i - A.length) (by rw [List.length_append] at hi; omega), show p + A.length + (i - A.length) = p + i by omega]
theorem HsM_app {A B : List Nat} {p : Nat} {σ : St} : HsM (A ++ B) p σ ↔ HsM A p σ ∧ HsM B (p + A.length) σ := by
  unfold HsM
  constructor
  · intro h
    refine ⟨fun i hi => ?_, fun i hi => ?_⟩
    · rw [h i (by rw [List.length_append]; omega), app_at, if_pos hi]
    · rw [Nat.add_assoc, h (A.length + i) (by rw [List.length_append]; omega), app_at, if_neg (by omega), Nat.add_sub_cancel_left]
  · rintro ⟨h1, h2⟩ i hi
    rw [app_at]
    by_cases g : i < A.length
    · rw [if_pos g, h1 i g]
    · rw [if_neg g, ← h2 (i - A.length) (by rw [List.length_append] at hi; omega), show p + A.length + (i - A.length) = p + i by omega]
/-- the class puts a piece behind its image -/
def Eic (a b : Nat) : Prop := (a = 3 ∧ b = 1) ∨ a = 4
def Wc (z : Nat) (L : List Nat) (σ σ' : St) : Prop := σ'.1 3 1 = nI (z + L.length) ∧ HsC L z σ' ∧ (∀ j, j < z → σ'.1 4 j = σ.1 4 j) ∧ (Bys (σ.1 4) → Bys (σ'.1 4)) ∧ OM Eic σ σ'
theorem Wc_tr {z : Nat} {A B : List Nat} {σ σ1 σ2 : St} (h1 : Wc z A σ σ1) (h2 : Wc (z + A.length) B σ1 σ2) : Wc z (A ++ B) σ σ2 := by
  obtain ⟨a1, a2, a3, a4, a5⟩ := h1
  obtain ⟨b1, b2, b3, b4, b5⟩ := h2
  refine ⟨by rw [b1, List.length_append, Nat.add_assoc], HsC_app.mpr ⟨fun i hi => ?_, b2⟩, fun j hj => by rw [b3 j (by omega), a3 j hj], fun q => b4 (a4 q), a5.tr b5⟩
  rw [b3 _ (by omega), a2 i hi]
theorem w_add {z k v : Nat} {σ : St} (hs : σ.1 3 1 = nI z) (h : z + k ≤ 6400) (hk : k ≤ 8) (hv : v < 2 ^ 64) : ∃ σ', f_X6_add 3 6400 (nI k) (lN v) σ = some σ' ∧ Wc z (num k v) σ σ' := by
  refine ⟨_, p_X6_add (by decide) (by omega) (by omega) hs _, ?_⟩
  rw [if_pos h]
  refine ⟨?_, fun i hi => ?_, fun j hj => ?_, fun q j => ?_, ?_⟩
  · rw [putR_n _ _ _ _ _ (by decide), num_len, sI_g, if_pos rfl, if_pos rfl]
  · rw [num_len] at hi
    unfold putR
    rw [sR_g, if_pos rfl, if_pos ⟨by omega, by omega⟩, Nat.add_sub_cancel_left, ub_bo hv (by omega), num_at hi]
  · unfold putR
    rw [sR_g, if_pos rfl, if_neg (by omega), sI_g, if_neg (by decide)]
  · unfold putR
    rw [sR_g, if_pos rfl]
    split
    · exact fit_nar _
    · rw [sI_g, if_neg (by decide)]; exact q j
  · unfold putR
    exact OM.sR (OM.sI OM.rf (Or.inl ⟨rfl, rfl⟩)) (fun j => Or.inr rfl)
theorem w_zer {z k : Nat} {σ : St} (hs : σ.1 3 1 = nI z) (h : z + k ≤ 6400) : ∃ σ', f_X6_addZeros 3 6400 (nI k) σ = some σ' ∧ Wc z (zer k) σ σ' := by
  refine ⟨_, c_addZeros hs h (by decide), ?_⟩
  refine ⟨?_, fun i hi => ?_, fun j hj => ?_, fun q j => ?_, ?_⟩
  · rw [sI_g, if_pos rfl, if_pos rfl, zer_len]
  · rw [zer_len] at hi
    rw [sI_g, if_neg (by decide), sR_g, if_pos rfl, if_pos ⟨by omega, by omega⟩, zer_at, ub_0]
  · rw [sI_g, if_neg (by decide), sR_g, if_pos rfl, if_neg (by omega)]
  · rw [sI_g, if_neg (by decide), sR_g, if_pos rfl]
    split
    · decide
    · exact q j
  · exact OM.sI (OM.sR OM.rf (fun j => Or.inr rfl)) (Or.inl ⟨rfl, rfl⟩)
/-- the reference puts a piece at its place -/
def Eim (a b : Nat) : Prop := (a = 68 ∧ b = 31) ∨ a = 88
def Wm (p : Nat) (L : List Nat) (τ τ' : St) : Prop := τ'.1 68 31 = nI (p + L.length) ∧ HsM L p τ' ∧ (∀ j, j < p ∨ p + L.length ≤ j → τ'.1 88 j = τ.1 88 j) ∧ OM Eim τ τ'
theorem Wm_tr {p : Nat} {A B : List Nat} {τ τ1 τ2 : St} (h1 : Wm p A τ τ1) (h2 : Wm (p + A.length) B τ1 τ2) : Wm p (A ++ B) τ τ2 := by
  obtain ⟨a1, a2, a3, a4⟩ := h1
  obtain ⟨b1, b2, b3, b4⟩ := h2
  refine ⟨by rw [b1, List.length_append, Nat.add_assoc], HsM_app.mpr ⟨fun i hi => ?_, b2⟩, fun j hj => ?_, a4.tr b4⟩
  · rw [b3 _ (by omega), a2 i hi]
  · rw [List.length_append] at hj
    rw [b3 j (by omega), a3 j (by omega)]
theorem w_put {p k v : Nat} {τ : St} (hs : τ.1 68 31 = nI p) (h : p + k ≤ 9000) (hk : k ≤ 8) (hv : v < 2 ^ 64) : ∃ τ', f_X12_put (lN v) (nI k) τ = some τ' ∧ Wm p (num k v) τ τ' := by
  unfold f_X12_put f_X12_put_3
  dsimp only [zn]
  have key := it_for (F := fun K (a : Int64 × Int32 × Int32 × St) => f_X12_put_3b K a.1 a.2.1 a.2.2.1 a.2.2.2) (fun i q => ∃ τ', q = (lN v, nI k, nI i, τ') ∧ Wm p (num i v) τ τ') k (fun o => ∃ τ', o = some τ' ∧ Wm p (num k v) τ τ') ?_ ?_ FU 0 (lN v, nI k, nI 0, τ) (by omega) (FU_lt (by omega)) ⟨τ, rfl, ?_⟩
  · exact key
  · rintro K q ⟨τ', rfl, hw⟩
    exact ⟨τ', by ((try simp (disch := first | decide | assumption | (simp (disch := first | decide | omega) only [ImC_sI, ImC_sJ, ImM_sI, ImM_sJ]; assumption) | omega) only [↓reduceIte, Nat.reduceAdd, Nat.reduceMul, Nat.reduceSub, Nat.reduceEqDiff, Nat.reducePow, Nat.reduceDiv, ↓zn_d, ↓bi_d, ↓bv_d, gd_T, ev_ib, true_or, or_true, eq_self, ite_true, ite_false, if_true, if_false, not_true_eq_false, not_false_eq_true, li_0, li_1, li_2, li_3, li_4, li_5, li_6, li_7, li_8, li_9, li_10, li_11, li_12, li_13, li_14, li_15, li_16, li_17, li_18, li_19, li_20, li_22, li_24, li_28, li_30, li_31, li_32, li_33, li_36, li_40, li_48, li_51, li_52, li_56, li_64, li_72, li_80, li_100, li_126, li_127, li_255, li_256, li_1024, li_1040, li_2048, li_4095, li_4096, li_65535, li_1073741824, ll_0, ll_1, ll_2, ll_3, ll_4, ll_5, ll_6, ll_7, ll_8, ll_9, ll_12, ll_15, ll_16, ll_20, ll_22, ll_24, ll_25, ll_28, ll_32, ll_40, ll_48, ll_64, ll_72, ll_80, ll_133, ll_255, ll_256, ll_512, ll_1024, ll_2048, ll_4096, ll_16384, ll_65535, ll_16777215, ll_16777228, ll_2147483647, ll_2147483648, ll_2147483700, ll_4277009103, ll_4294967295, ll_68719476735, ll_68719476736, ll_2234207627640832, ll_2251795518717952, ll_72057594037927935, ↓lm_1, ↓llm_1, ev_add, ev_sub, ev_mul, ev_div, ev_cl, ev_ltT, ev_ltF, ev_leT, ev_leF, ev_eqT, ev_eqF, ev_m1, ev_m1', ev_m1s, ev_dec, ev_nn, el_add, el_sub, el_mul, el_div, el_ltT, el_ltF, el_leT, el_leF, el_eqT, el_eqF, ev_l, el_i, el_m1, el_m1', rdI, rdJ, rdR, updF, updT, updLF, updLT, sI_l, sJ_l, sR_l, f_X12_put_3b]); first | done | rfl), hw⟩
  · rintro K i q hi ⟨τ', rfl, hw⟩ ih
    have e1 := hw.1
    rw [num_len] at e1
    have eb := m_byt hv (show i < 8 by omega)
    have e : f_X12_put_3b K (lN v) (nI k) (nI i) τ' = K (lN v, nI k, nI (i + 1), sI (sI τ' 88 (p + i) (nI (byt v i))) 68 31 (nI (p + i + 1))) := by
      ((try simp (disch := first | decide | assumption | (simp (disch := first | decide | omega) only [ImC_sI, ImC_sJ, ImM_sI, ImM_sJ]; assumption) | omega) only [↓reduceIte, Nat.reduceAdd, Nat.reduceMul, Nat.reduceSub, Nat.reduceEqDiff, Nat.reducePow, Nat.reduceDiv, ↓zn_d, ↓bi_d, ↓bv_d, gd_T, ev_ib, true_or, or_true, eq_self, ite_true, ite_false, if_true, if_false, not_true_eq_false, not_false_eq_true, li_0, li_1, li_2, li_3, li_4, li_5, li_6, li_7, li_8, li_9, li_10, li_11, li_12, li_13, li_14, li_15, li_16, li_17, li_18, li_19, li_20, li_22, li_24, li_28, li_30, li_31, li_32, li_33, li_36, li_40, li_48, li_51, li_52, li_56, li_64, li_72, li_80, li_100, li_126, li_127, li_255, li_256, li_1024, li_1040, li_2048, li_4095, li_4096, li_65535, li_1073741824, ll_0, ll_1, ll_2, ll_3, ll_4, ll_5, ll_6, ll_7, ll_8, ll_9, ll_12, ll_15, ll_16, ll_20, ll_22, ll_24, ll_25, ll_28, ll_32, ll_40, ll_48, ll_64, ll_72, ll_80, ll_133, ll_255, ll_256, ll_512, ll_1024, ll_2048, ll_4096, ll_16384, ll_65535, ll_16777215, ll_16777228, ll_2147483647, ll_2147483648, ll_2147483700, ll_4277009103, ll_4294967295, ll_68719476735, ll_68719476736, ll_2234207627640832, ll_2251795518717952, ll_72057594037927935, ↓lm_1, ↓llm_1, ev_add, ev_sub, ev_mul, ev_div, ev_cl, ev_ltT, ev_ltF, ev_leT, ev_leF, ev_eqT, ev_eqF, ev_m1, ev_m1', ev_m1s, ev_dec, ev_nn, el_add, el_sub, el_mul, el_div, el_ltT, el_ltF, el_leT, el_leF, el_eqT, el_eqF, ev_l, el_i, el_m1, el_m1', rdI, rdJ, rdR, updF, updT, updLF, updLT, sI_l, sJ_l, sR_l, f_X12_put_3b, e1, eb]); first | done | rfl)
    show ∃ τ'', f_X12_put_3b K (lN v) (nI k) (nI i) τ' = some τ'' ∧ _
    rw [e]
    refine ih _ ⟨_, rfl, ?_⟩
    obtain ⟨a1, a2, a3, a4⟩ := hw
    refine ⟨by rw [num_len]; simp (disch := first | decide | omega) only [↓reduceIte, Nat.reduceAdd, Nat.reduceMul, Nat.reduceSub, Nat.reduceEqDiff, Nat.reducePow, Nat.reduceDiv, ↓zn_d, ↓bi_d, ↓bv_d, gd_T, ev_ib, true_or, or_true, eq_self, ite_true, ite_false, if_true, if_false, not_true_eq_false, not_false_eq_true, li_0, li_1, li_2, li_3, li_4, li_5, li_6, li_7, li_8, li_9, li_10, li_11, li_12, li_13, li_14, li_15, li_16, li_17, li_18, li_19, li_20, li_22, li_24, li_28, li_30, li_31, li_32, li_33, li_36, li_40, li_48, li_51, li_52, li_56, li_64, li_72, li_80, li_100, li_126, li_127, li_255, li_256, li_1024, li_1040, li_2048, li_4095, li_4096, li_65535, li_1073741824, ll_0, ll_1, ll_2, ll_3, ll_4, ll_5, ll_6, ll_7, ll_8, ll_9, ll_12, ll_15, ll_16, ll_20, ll_22, ll_24, ll_25, ll_28, ll_32, ll_40, ll_48, ll_64, ll_72, ll_80, ll_133, ll_255, ll_256, ll_512, ll_1024, ll_2048, ll_4096, ll_16384, ll_65535, ll_16777215, ll_16777228, ll_2147483647, ll_2147483648, ll_2147483700, ll_4277009103, ll_4294967295, ll_68719476735, ll_68719476736, ll_2234207627640832, ll_2251795518717952, ll_72057594037927935, ↓lm_1, ↓llm_1, ev_add, ev_sub, ev_mul, ev_div, ev_cl, ev_ltT, ev_ltF, ev_leT, ev_leF, ev_eqT, ev_eqF, ev_m1, ev_m1', ev_m1s, ev_dec, ev_nn, el_add, el_sub, el_mul, el_div, el_ltT, el_ltF, el_leT, el_leF, el_eqT, el_eqF, ev_l, el_i, el_m1, el_m1', rdI, rdJ, rdR, updF, updT, updLF, updLT, sI_l, sJ_l, sR_l, Nat.add_assoc], fun j hj => ?_, fun j hj => ?_, OM.sI (OM.sI a4 (Or.inr rfl)) (Or.inl ⟨rfl, rfl⟩)⟩
    · rw [num_len] at hj
      rw [num_at hj, sI_g, if_neg (by decide), sI_g, if_pos rfl]
      by_cases g : j = i
      · rw [if_pos (by omega), g]
      · rw [if_neg (by omega), a2 j (by rw [num_len]; omega), num_at (by omega)]
    · rw [num_len] at hj a3
      rw [sI_g, if_neg (by decide), sI_g, if_pos rfl, if_neg (by omega), a3 j (by omega)]
  · exact ⟨by rw [num_len]; exact hs, fun i hi => absurd hi (by rw [num_len]; omega), fun _ _ => rfl, OM.rf⟩
