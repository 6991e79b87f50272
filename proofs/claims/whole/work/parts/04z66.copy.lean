/-! pieces copied: contents and names -/
def rng (c : Nat) (f : Nat → Nat) : List Nat := (List.range c).map f
theorem rng_len (c : Nat) (f : Nat → Nat) : (rng c f).length = c := by rw [rng, List.length_map, List.length_range]
theorem rng_at {c i : Nat} {f : Nat → Nat} (h : i < c) : (rng c f).getD i 0 = f i := by
  unfold rng
  rw [List.getD_eq_getElem?_getD, List.getElem?_map, List.getElem?_range h]
  rfl
theorem rng_s (c : Nat) (f : Nat → Nat) : rng (c + 1) f = rng c f ++ [f c] := by
  unfold rng
  rw [List.range_succ, List.map_append]
  rfl
theorem num_1 {v : Nat} (h : v < 256) : num 1 v = [v] := by
  show [byt v 0] = [v]
  have : byt v 0 = v := by
    show v / 1 % 256 = v
    omega
  rw [this]
theorem ub_sb : ∀ c, c < 256 → ub (sb_b c) = c := by decide +kernel
theorem w_from {k1 n1 z fr c : Nat} {f : Nat → Nat} {σ : St} (hs : σ.1 3 1 = nI z) (h1 : z + c ≤ 6400) (h2 : fr + c ≤ n1) (hn1 : n1 ≤ 20000) (hf : ∀ i, i < c → σ.1 k1 (fr + i) = sb_b (f i) ∧ f i < 256) : ∃ σ', f_X6_addFrom 3 6400 k1 n1 (nI fr) (nI c) σ = some σ' ∧ Wc z (rng c f) σ σ' := by
  refine ⟨_, c_addFrom hs h1 h2 (by decide) hn1 (fun i hi => by rw [(hf i hi).1]; exact sb_fitB _), ?_⟩
  refine ⟨?_, fun i hi => ?_, fun j hj => ?_, fun q j => ?_, ?_⟩
  · rw [sI_g, if_pos rfl, if_pos rfl, rng_len]
  · rw [rng_len] at hi
    rw [sI_g, if_neg (by decide), sR_g, if_pos rfl, pk_cpy_in (by omega) (by omega), Nat.add_sub_cancel_left, (hf i hi).1, ub_sb _ (hf i hi).2, rng_at hi]
  · rw [sI_g, if_neg (by decide), sR_g, if_pos rfl, pk_cpy_out (by omega)]
  · rw [sI_g, if_neg (by decide), sR_g, if_pos rfl]
    by_cases g : z ≤ j ∧ j < z + c
    · rw [pk_cpy_in (by omega) (by omega), (hf (j - z) (by omega)).1]; exact sb_fitB _
    · rw [pk_cpy_out (by omega)]; exact q j
  · exact OM.sI (OM.sR OM.rf (fun j => Or.inr rfl)) (Or.inl ⟨rfl, rfl⟩)
theorem w_name {p r c : Nat} {f : Nat → Nat} {τ : St} (hs : τ.1 68 31 = nI p) (h1 : p + c ≤ 9000) (hr : r < 82) (hc : c ≤ 16) (hf : ∀ i, i < c → τ.1 70 (16 * r + i) = nI (f i) ∧ f i < 256) : ∃ τ', f_X12_putName (nI r) (nI c) τ = some τ' ∧ Wm p (rng c f) τ τ' := by
  unfold f_X12_putName f_X12_putName_2
  dsimp only [zn]
  have key := it_for (F := fun K (q : Int32 × Int32 × Int32 × St) => f_X12_putName_2b K q.1 q.2.1 q.2.2.1 q.2.2.2) (fun i q => ∃ τ', q = (nI r, nI c, nI i, τ') ∧ Wm p (rng i f) τ τ') c (fun o => ∃ τ', o = some τ' ∧ Wm p (rng c f) τ τ') ?_ ?_ FU 0 (nI r, nI c, nI 0, τ) (by omega) (FU_lt (by omega)) ⟨τ, rfl, ?_⟩
  · exact key
  · rintro K q ⟨τ', rfl, hw⟩
    exact ⟨τ', by ((try simp (disch := first | decide | assumption | (simp (disch := first | decide | omega) only [ImC_sI, ImC_sJ, ImM_sI, ImM_sJ]; assumption) | omega) only [↓reduceIte, Nat.reduceAdd, Nat.reduceMul, Nat.reduceSub, Nat.reduceEqDiff, Nat.reducePow, Nat.reduceDiv, ↓zn_d, ↓bi_d, ↓bv_d, gd_T, ev_ib, true_or, or_true, eq_self, ite_true, ite_false, if_true, if_false, not_true_eq_false, not_false_eq_true, li_0, li_1, li_2, li_3, li_4, li_5, li_6, li_7, li_8, li_9, li_10, li_11, li_12, li_13, li_14, li_15, li_16, li_17, li_18, li_19, li_20, li_22, li_24, li_28, li_30, li_31, li_32, li_33, li_36, li_40, li_48, li_51, li_52, li_56, li_64, li_72, li_80, li_100, li_126, li_127, li_255, li_256, li_1024, li_1040, li_2048, li_4095, li_4096, li_65535, li_1073741824, ll_0, ll_1, ll_2, ll_3, ll_4, ll_5, ll_6, ll_7, ll_8, ll_9, ll_12, ll_15, ll_16, ll_20, ll_22, ll_24, ll_25, ll_28, ll_32, ll_40, ll_48, ll_64, ll_72, ll_80, ll_133, ll_255, ll_256, ll_512, ll_1024, ll_2048, ll_4096, ll_16384, ll_65535, ll_16777215, ll_16777228, ll_2147483647, ll_2147483648, ll_2147483700, ll_4277009103, ll_4294967295, ll_68719476735, ll_68719476736, ll_2234207627640832, ll_2251795518717952, ll_72057594037927935, ↓lm_1, ↓llm_1, ev_add, ev_sub, ev_mul, ev_div, ev_cl, ev_ltT, ev_ltF, ev_leT, ev_leF, ev_eqT, ev_eqF, ev_m1, ev_m1', ev_m1s, ev_dec, ev_nn, el_add, el_sub, el_mul, el_div, el_ltT, el_ltF, el_leT, el_leF, el_eqT, el_eqF, ev_l, el_i, el_m1, el_m1', rdI, rdJ, rdR, updF, updT, updLF, updLT, sI_l, sJ_l, sR_l, f_X12_putName_2b]); first | done | rfl), hw⟩
  · rintro K i q hi ⟨τ', rfl, hw⟩ ih
    have e1 := hw.1
    rw [rng_len] at e1
    obtain ⟨f1, f2⟩ := hf i hi
    have e70 : τ'.1 70 (16 * r + i) = nI (f i) := by rw [hw.2.2.2.1 70 _ (by unfold Eim; omega)]; exact f1
    obtain ⟨τ2, e2, w2⟩ := w_put (v := f i) (k := 1) e1 (by omega) (by decide) (by omega)
    have e : f_X12_putName_2b K (nI r) (nI c) (nI i) τ' = K (nI r, nI c, nI (i + 1), τ2) := by
      ((try simp (disch := first | decide | assumption | (simp (disch := first | decide | omega) only [ImC_sI, ImC_sJ, ImM_sI, ImM_sJ]; assumption) | omega) only [↓reduceIte, Nat.reduceAdd, Nat.reduceMul, Nat.reduceSub, Nat.reduceEqDiff, Nat.reducePow, Nat.reduceDiv, ↓zn_d, ↓bi_d, ↓bv_d, gd_T, ev_ib, true_or, or_true, eq_self, ite_true, ite_false, if_true, if_false, not_true_eq_false, not_false_eq_true, li_0, li_1, li_2, li_3, li_4, li_5, li_6, li_7, li_8, li_9, li_10, li_11, li_12, li_13, li_14, li_15, li_16, li_17, li_18, li_19, li_20, li_22, li_24, li_28, li_30, li_31, li_32, li_33, li_36, li_40, li_48, li_51, li_52, li_56, li_64, li_72, li_80, li_100, li_126, li_127, li_255, li_256, li_1024, li_1040, li_2048, li_4095, li_4096, li_65535, li_1073741824, ll_0, ll_1, ll_2, ll_3, ll_4, ll_5, ll_6, ll_7, ll_8, ll_9, ll_12, ll_15, ll_16, ll_20, ll_22, ll_24, ll_25, ll_28, ll_32, ll_40, ll_48, ll_64, ll_72, ll_80, ll_133, ll_255, ll_256, ll_512, ll_1024, ll_2048, ll_4096, ll_16384, ll_65535, ll_16777215, ll_16777228, ll_2147483647, ll_2147483648, ll_2147483700, ll_4277009103, ll_4294967295, ll_68719476735, ll_68719476736, ll_2234207627640832, ll_2251795518717952, ll_72057594037927935, ↓lm_1, ↓llm_1, ev_add, ev_sub, ev_mul, ev_div, ev_cl, ev_ltT, ev_ltF, ev_leT, ev_leF, ev_eqT, ev_eqF, ev_m1, ev_m1', ev_m1s, ev_dec, ev_nn, el_add, el_sub, el_mul, el_div, el_ltT, el_ltF, el_leT, el_leF, el_eqT, el_eqF, ev_l, el_i, el_m1, el_m1', rdI, rdJ, rdR, updF, updT, updLF, updLT, sI_l, sJ_l, sR_l, f_X12_putName_2b, e70, e2]); first | done | rfl)
    show ∃ τ'', f_X12_putName_2b K (nI r) (nI c) (nI i) τ' = some τ'' ∧ _
    rw [e]
    refine ih _ ⟨τ2, rfl, ?_⟩
    rw [rng_s, ← num_1 f2]
    exact Wm_tr hw (by rw [rng_len]; exact w2)
  · exact ⟨by rw [rng_len]; exact hs, fun i hi => absurd hi (by rw [rng_len]; omega), fun _ _ => rfl, OM.rf⟩
