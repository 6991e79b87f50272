/-! the reference's sizes, contents and pages -/
def WM (p : Nat) (L : List Nat) (τ τ' : St) : Prop := τ'.1 68 31 = nI (p + L.length) ∧ HsM L p τ' ∧ (∀ j, j < p ∨ p + L.length ≤ j → τ'.1 88 j = τ.1 88 j) ∧ OM Ewm τ τ'
theorem Wm_M {p : Nat} {L : List Nat} {τ τ' : St} (h : Wm p L τ τ') : WM p L τ τ' := ⟨h.1, h.2.1, h.2.2.1, h.2.2.2.mono (fun a b q => by unfold Eim at q; unfold Ewm; omega)⟩
theorem WM_nil {p : Nat} {τ : St} (hs : τ.1 68 31 = nI p) : WM p [] τ τ := Wm_M (Wm_nil hs)
theorem WM_tr {p : Nat} {A B : List Nat} {τ τ1 τ2 : St} (h1 : WM p A τ τ1) (h2 : WM (p + A.length) B τ1 τ2) : WM p (A ++ B) τ τ2 := by
  obtain ⟨a1, a2, a3, a4⟩ := h1
  obtain ⟨b1, b2, b3, b4⟩ := h2
  refine ⟨by rw [b1, List.length_append, Nat.add_assoc], HsM_app.mpr ⟨fun i hi => ?_, b2⟩, fun j hj => ?_, a4.tr b4⟩
  · rw [b3 _ (by omega), a2 i hi]
  · rw [List.length_append] at hj
    rw [b3 j (by omega), a3 j (by omega)]
theorem WM_s {p a b : Nat} {v : Int32} {L : List Nat} {τ τ' : St} (h : WM p L τ τ') (h1 : Ewm a b) (h2 : a ≠ 88) (h3 : a = 68 → b ≠ 31) : WM p L τ (sI τ' a b v) := by
  obtain ⟨a1, a2, a3, a4⟩ := h
  refine ⟨by rw [ev_sIf (by omega)]; exact a1, fun i hi => by rw [ev_sIf (by omega)]; exact a2 i hi, fun j hj => by rw [ev_sIf (by omega)]; exact a3 j hj, OM.sI a4 h1⟩
theorem WM_s0 {p a b : Nat} {v : Int32} {L : List Nat} {τ τ' : St} (h : WM p L (sI τ a b v) τ') (h1 : Ewm a b) (h2 : a ≠ 88) : WM p L τ τ' := by
  obtain ⟨a1, a2, a3, a4⟩ := h
  exact ⟨a1, a2, fun j hj => by rw [a3 j hj, ev_sIf (by omega)], (OM.sI OM.rf h1).tr a4⟩
theorem m_secsD {D : Nat → Nat → Nat} {τ : St} (hO : DOK D) (hM : DM D τ) {s : Nat} (hs : s < 4) : f_X12_sectionsOf (nI s) τ = some (nI (cnt (D 6) s (D 0 1)), τ) := by
  obtain ⟨o1, o2, _, _, _, _, _, _, _, _, o11, _⟩ := hO
  obtain ⟨⟨_, c2, _⟩, _, _, _, c5, _⟩ := hM
  exact m_secs o2 c2 hs (fun k hk => ⟨(c5 k hk).1, by have := (o11 k hk).1; omega⟩)
theorem m_size {D : Nat → Nat → Nat} {τ : St} (hO : DOK D) (hM : DM D τ) : f_X12_write_10 (nI 40) (nI 0) τ = f_X12_write_48 (nI (dC D)) (nI 0) (sI τ 68 31 (nI (32 + dC D))) := by
  have hO' := hO
  obtain ⟨o1, o2, _, _, _, _, _, _, _, _, o11, _⟩ := hO'
  have d := hM.1.1
  have ee : 40 + 72 * (D 0 0) + 80 * csm (D 6) (D 0 1) (D 0 0) = dC D := by
    rw [csm_e _ _ _ (fun j hj => (o11 j hj).1)]
    unfold dC
    omega
  have lC := dC_le hO
  unfold f_X12_write_10
  refine it_for (F := fun K (q : Int32 × Int32 × St) => f_X12_write_10b K q.1 q.2.1 q.2.2) (fun i q => q = (nI (40 + 72 * i + 80 * csm (D 6) (D 0 1) i), nI i, τ)) (D 0 0) (fun o => o = f_X12_write_48 (nI (dC D)) (nI 0) (sI τ 68 31 (nI (32 + dC D)))) ?_ ?_ FU 0 _ (by omega) (FU_lt (by omega)) rfl
  · rintro K q rfl
    rw [ee]
    ((try simp (disch := first | decide | assumption | (simp (disch := first | decide | omega) only [ImC_sI, ImC_sJ, ImM_sI, ImM_sJ]; assumption) | omega) only [↓reduceIte, Nat.reduceAdd, Nat.reduceMul, Nat.reduceSub, Nat.reduceEqDiff, Nat.reducePow, Nat.reduceDiv, ↓zn_d, ↓bi_d, ↓bv_d, gd_T, ev_ib, true_or, or_true, eq_self, ite_true, ite_false, if_true, if_false, not_true_eq_false, not_false_eq_true, li_0, li_1, li_2, li_3, li_4, li_5, li_6, li_7, li_8, li_9, li_10, li_11, li_12, li_13, li_14, li_15, li_16, li_17, li_18, li_19, li_20, li_22, li_24, li_28, li_30, li_31, li_32, li_33, li_36, li_40, li_48, li_51, li_52, li_56, li_64, li_72, li_80, li_100, li_126, li_127, li_255, li_256, li_1024, li_1040, li_2048, li_4095, li_4096, li_65535, li_1073741824, ll_0, ll_1, ll_2, ll_3, ll_4, ll_5, ll_6, ll_7, ll_8, ll_9, ll_12, ll_15, ll_16, ll_20, ll_22, ll_24, ll_25, ll_28, ll_32, ll_40, ll_48, ll_64, ll_72, ll_80, ll_133, ll_255, ll_256, ll_512, ll_1024, ll_2048, ll_4096, ll_16384, ll_65535, ll_16777215, ll_16777228, ll_2147483647, ll_2147483648, ll_2147483700, ll_4277009103, ll_4294967295, ll_68719476735, ll_68719476736, ll_2234207627640832, ll_2251795518717952, ll_72057594037927935, ↓lm_1, ↓llm_1, ev_add, ev_sub, ev_mul, ev_div, ev_cl, ev_ltT, ev_ltF, ev_leT, ev_leF, ev_eqT, ev_eqF, ev_m1, ev_m1', ev_m1s, ev_dec, ev_nn, el_add, el_sub, el_mul, el_div, el_ltT, el_ltF, el_leT, el_leF, el_eqT, el_eqF, ev_l, el_i, el_m1, el_m1', rdI, rdJ, rdR, updF, updT, updLF, updLT, sI_l, sJ_l, sR_l, f_X12_write_10b, d]); first | done | rfl)
  · rintro K i q hi rfl ih
    have e1 := m_secsD hO hM (show i < 4 by omega)
    have l1 := csm_le (D 6) (i + 1) (D 0 1)
    have l2 : csm (D 6) (D 0 1) (i + 1) = csm (D 6) (D 0 1) i + cnt (D 6) i (D 0 1) := rfl
    have a1 : 40 + 72 * i + 80 * csm (D 6) (D 0 1) i + (72 + 80 * cnt (D 6) i (D 0 1)) = 40 + 72 * (i + 1) + 80 * csm (D 6) (D 0 1) (i + 1) := by omega
    have e : f_X12_write_10b K (nI (40 + 72 * i + 80 * csm (D 6) (D 0 1) i)) (nI i) τ = K (nI (40 + 72 * (i + 1) + 80 * csm (D 6) (D 0 1) (i + 1)), nI (i + 1), τ) := by
      rw [← a1]
      ((try simp (disch := first | decide | assumption | (simp (disch := first | decide | omega) only [ImC_sI, ImC_sJ, ImM_sI, ImM_sJ]; assumption) | omega) only [↓reduceIte, Nat.reduceAdd, Nat.reduceMul, Nat.reduceSub, Nat.reduceEqDiff, Nat.reducePow, Nat.reduceDiv, ↓zn_d, ↓bi_d, ↓bv_d, gd_T, ev_ib, true_or, or_true, eq_self, ite_true, ite_false, if_true, if_false, not_true_eq_false, not_false_eq_true, li_0, li_1, li_2, li_3, li_4, li_5, li_6, li_7, li_8, li_9, li_10, li_11, li_12, li_13, li_14, li_15, li_16, li_17, li_18, li_19, li_20, li_22, li_24, li_28, li_30, li_31, li_32, li_33, li_36, li_40, li_48, li_51, li_52, li_56, li_64, li_72, li_80, li_100, li_126, li_127, li_255, li_256, li_1024, li_1040, li_2048, li_4095, li_4096, li_65535, li_1073741824, ll_0, ll_1, ll_2, ll_3, ll_4, ll_5, ll_6, ll_7, ll_8, ll_9, ll_12, ll_15, ll_16, ll_20, ll_22, ll_24, ll_25, ll_28, ll_32, ll_40, ll_48, ll_64, ll_72, ll_80, ll_133, ll_255, ll_256, ll_512, ll_1024, ll_2048, ll_4096, ll_16384, ll_65535, ll_16777215, ll_16777228, ll_2147483647, ll_2147483648, ll_2147483700, ll_4277009103, ll_4294967295, ll_68719476735, ll_68719476736, ll_2234207627640832, ll_2251795518717952, ll_72057594037927935, ↓lm_1, ↓llm_1, ev_add, ev_sub, ev_mul, ev_div, ev_cl, ev_ltT, ev_ltF, ev_leT, ev_leF, ev_eqT, ev_eqF, ev_m1, ev_m1', ev_m1s, ev_dec, ev_nn, el_add, el_sub, el_mul, el_div, el_ltT, el_ltF, el_leT, el_leF, el_eqT, el_eqF, ev_l, el_i, el_m1, el_m1', rdI, rdJ, rdR, updF, updT, updLF, updLT, sI_l, sJ_l, sR_l, f_X12_write_10b, d, e1]); first | done | rfl)
    show f_X12_write_10b K (nI (40 + 72 * i + 80 * csm (D 6) (D 0 1) i)) (nI i) τ = _
    rw [e]
    exact ih _ rfl
theorem m_conts {D : Nat → Nat → Nat} {τ : St} {C : Nat} (hO : DOK D) (hM : DM D τ) (h3 : τ.1 68 31 = nI (32 + dC D)) : ∃ K τ', f_X12_write_48 (nI C) (nI 0) τ = f_X12_write_48b K (nI C) (nI (D 0 0)) τ' ∧ WM (32 + dC D) (cat (ctp D 0) (D 0 0)) τ τ' ∧ ∀ s, s < (D 0 0) → τ'.1 89 s = nI (ofs D s) := by
  have hO' := hO
  obtain ⟨o1, o2, _, _, _, _, _, _, o9, o10, _⟩ := hO'
  unfold f_X12_write_48
  have key := it_for (F := fun K (q : Int32 × Int32 × St) => f_X12_write_48b K q.1 q.2.1 q.2.2) (fun i q => ∃ τ', q = (nI C, nI i, τ') ∧ WM (32 + dC D) (cat (ctp D 0) i) τ τ' ∧ ∀ s, s < i → τ'.1 89 s = nI (ofs D s)) (D 0 0) (fun o => ∃ K τ', o = f_X12_write_48b K (nI C) (nI (D 0 0)) τ' ∧ WM (32 + dC D) (cat (ctp D 0) (D 0 0)) τ τ' ∧ ∀ s, s < (D 0 0) → τ'.1 89 s = nI (ofs D s)) ?_ ?_ FU 0 (nI C, nI 0, τ) (by omega) (FU_lt (by omega)) ⟨τ, rfl, WM_nil h3, fun s hs => absurd hs (Nat.not_lt_zero _)⟩
  · exact key
  · rintro K q ⟨τ', rfl, hw, h9⟩
    exact ⟨K, τ', rfl, hw, h9⟩
  · rintro K i q hi ⟨τ', rfl, hw, h9⟩ ih
    have hM1 := DM_f hw.2.2.2 hM
    have d := hM1.1.1
    have x := hw.1
    rw [ctl_len] at x
    have lo := ofs_le hO (show i ≤ (D 0 0) by omega)
    have lg := ofs_ge (D := D) (s := i)
    have lB := (o9 i hi).2.1
    obtain ⟨t1, e1, w1⟩ := w_even (a := 8) x (by omega) (show up (en D i) 8 ≤ 9000 by have : up (en D i) 8 = ofs D i := rfl; omega)
    have w1 : Wm (en D i) (zer (ofs D i - en D i)) τ' t1 := w1
    have x1 := w1.1
    rw [zer_len, show en D i + (ofs D i - en D i) = ofs D i by omega] at x1
    have hM2 : DM D (sI t1 89 i (nI (ofs D i))) := DM_f (OM.sI OM.rf (by unfold Ewm; omega)) (DM_m w1.2.2.2 hM1)
    obtain ⟨t2, e2, w2⟩ := m_cont (p := ofs D i) (s := i) (C := C) (B := D 1 i) (f := fun x => ovy D i x 0) (τ := sI t1 89 i (nI (ofs D i))) K (by simp (disch := first | decide | omega) only [↓reduceIte, Nat.reduceAdd, Nat.reduceMul, Nat.reduceSub, Nat.reduceEqDiff, Nat.reducePow, Nat.reduceDiv, ↓zn_d, ↓bi_d, ↓bv_d, gd_T, ev_ib, true_or, or_true, eq_self, ite_true, ite_false, if_true, if_false, not_true_eq_false, not_false_eq_true, li_0, li_1, li_2, li_3, li_4, li_5, li_6, li_7, li_8, li_9, li_10, li_11, li_12, li_13, li_14, li_15, li_16, li_17, li_18, li_19, li_20, li_22, li_24, li_28, li_30, li_31, li_32, li_33, li_36, li_40, li_48, li_51, li_52, li_56, li_64, li_72, li_80, li_100, li_126, li_127, li_255, li_256, li_1024, li_1040, li_2048, li_4095, li_4096, li_65535, li_1073741824, ll_0, ll_1, ll_2, ll_3, ll_4, ll_5, ll_6, ll_7, ll_8, ll_9, ll_12, ll_15, ll_16, ll_20, ll_22, ll_24, ll_25, ll_28, ll_32, ll_40, ll_48, ll_64, ll_72, ll_80, ll_133, ll_255, ll_256, ll_512, ll_1024, ll_2048, ll_4096, ll_16384, ll_65535, ll_16777215, ll_16777228, ll_2147483647, ll_2147483648, ll_2147483700, ll_4277009103, ll_4294967295, ll_68719476735, ll_68719476736, ll_2234207627640832, ll_2251795518717952, ll_72057594037927935, ↓lm_1, ↓llm_1, ev_add, ev_sub, ev_mul, ev_div, ev_cl, ev_ltT, ev_ltF, ev_leT, ev_leF, ev_eqT, ev_eqF, ev_m1, ev_m1', ev_m1s, ev_dec, ev_nn, el_add, el_sub, el_mul, el_div, el_ltT, el_ltF, el_leT, el_leF, el_eqT, el_eqF, ev_l, el_i, el_m1, el_m1', rdI, rdJ, rdR, updF, updT, updLF, updLT, sI_l, sJ_l, sR_l, x1]) (by omega) (by omega) lB (hM2.2.2.1 i hi).1 (fun j hj => ⟨hM2.2.2.2.1 _ (by omega), o10 _ (by omega)⟩)
    have e : f_X12_write_48b K (nI C) (nI i) τ' = K (nI C, nI (i + 1), t2) := by
      ((try simp (disch := first | decide | assumption | (simp (disch := first | decide | omega) only [ImC_sI, ImC_sJ, ImM_sI, ImM_sJ]; assumption) | omega) only [↓reduceIte, Nat.reduceAdd, Nat.reduceMul, Nat.reduceSub, Nat.reduceEqDiff, Nat.reducePow, Nat.reduceDiv, ↓zn_d, ↓bi_d, ↓bv_d, gd_T, ev_ib, true_or, or_true, eq_self, ite_true, ite_false, if_true, if_false, not_true_eq_false, not_false_eq_true, li_0, li_1, li_2, li_3, li_4, li_5, li_6, li_7, li_8, li_9, li_10, li_11, li_12, li_13, li_14, li_15, li_16, li_17, li_18, li_19, li_20, li_22, li_24, li_28, li_30, li_31, li_32, li_33, li_36, li_40, li_48, li_51, li_52, li_56, li_64, li_72, li_80, li_100, li_126, li_127, li_255, li_256, li_1024, li_1040, li_2048, li_4095, li_4096, li_65535, li_1073741824, ll_0, ll_1, ll_2, ll_3, ll_4, ll_5, ll_6, ll_7, ll_8, ll_9, ll_12, ll_15, ll_16, ll_20, ll_22, ll_24, ll_25, ll_28, ll_32, ll_40, ll_48, ll_64, ll_72, ll_80, ll_133, ll_255, ll_256, ll_512, ll_1024, ll_2048, ll_4096, ll_16384, ll_65535, ll_16777215, ll_16777228, ll_2147483647, ll_2147483648, ll_2147483700, ll_4277009103, ll_4294967295, ll_68719476735, ll_68719476736, ll_2234207627640832, ll_2251795518717952, ll_72057594037927935, ↓lm_1, ↓llm_1, ev_add, ev_sub, ev_mul, ev_div, ev_cl, ev_ltT, ev_ltF, ev_leT, ev_leF, ev_eqT, ev_eqF, ev_m1, ev_m1', ev_m1s, ev_dec, ev_nn, el_add, el_sub, el_mul, el_div, el_ltT, el_ltF, el_leT, el_leF, el_eqT, el_eqF, ev_l, el_i, el_m1, el_m1', rdI, rdJ, rdR, updF, updT, updLF, updLT, sI_l, sJ_l, sR_l, f_X12_write_48b, d, e1, x1, e2]); first | done | rfl)
    show ∃ K' τ'', f_X12_write_48b K (nI C) (nI i) τ' = f_X12_write_48b K' (nI C) (nI (D 0 0)) τ'' ∧ _
    rw [e]
    refine ih _ ⟨t2, rfl, WM_tr hw ?_, fun s hs => ?_⟩
    · rw [ctl_len]
      unfold ctp
      refine WM_tr (WM_s (Wm_M w1) (a := 89) (b := i) (v := nI (ofs D i)) (by unfold Ewm; omega) (by omega) (by omega)) ?_
      rw [zer_len, show en D i + (ofs D i - en D i) = ofs D i by omega]
      exact Wm_M w2
    · rw [Wm_f w2 (a := 89) (b := s) (by unfold Eim; omega)]
      by_cases g : s = i
      · subst g
        simp (disch := first | decide | omega) only [↓reduceIte, Nat.reduceAdd, Nat.reduceMul, Nat.reduceSub, Nat.reduceEqDiff, Nat.reducePow, Nat.reduceDiv, ↓zn_d, ↓bi_d, ↓bv_d, gd_T, ev_ib, true_or, or_true, eq_self, ite_true, ite_false, if_true, if_false, not_true_eq_false, not_false_eq_true, li_0, li_1, li_2, li_3, li_4, li_5, li_6, li_7, li_8, li_9, li_10, li_11, li_12, li_13, li_14, li_15, li_16, li_17, li_18, li_19, li_20, li_22, li_24, li_28, li_30, li_31, li_32, li_33, li_36, li_40, li_48, li_51, li_52, li_56, li_64, li_72, li_80, li_100, li_126, li_127, li_255, li_256, li_1024, li_1040, li_2048, li_4095, li_4096, li_65535, li_1073741824, ll_0, ll_1, ll_2, ll_3, ll_4, ll_5, ll_6, ll_7, ll_8, ll_9, ll_12, ll_15, ll_16, ll_20, ll_22, ll_24, ll_25, ll_28, ll_32, ll_40, ll_48, ll_64, ll_72, ll_80, ll_133, ll_255, ll_256, ll_512, ll_1024, ll_2048, ll_4096, ll_16384, ll_65535, ll_16777215, ll_16777228, ll_2147483647, ll_2147483648, ll_2147483700, ll_4277009103, ll_4294967295, ll_68719476735, ll_68719476736, ll_2234207627640832, ll_2251795518717952, ll_72057594037927935, ↓lm_1, ↓llm_1, ev_add, ev_sub, ev_mul, ev_div, ev_cl, ev_ltT, ev_ltF, ev_leT, ev_leF, ev_eqT, ev_eqF, ev_m1, ev_m1', ev_m1s, ev_dec, ev_nn, el_add, el_sub, el_mul, el_div, el_ltT, el_ltF, el_leT, el_leF, el_eqT, el_eqF, ev_l, el_i, el_m1, el_m1', rdI, rdJ, rdR, updF, updT, updLF, updLT, sI_l, sJ_l, sR_l]
      · rw [ev_sIf (by omega), Wm_f w1 (a := 89) (b := s) (by unfold Eim; omega)]
        exact h9 s (by omega)
theorem m_hasP {D : Nat → Nat → Nat} {τ : St} (hO : DOK D) (hM : DM D τ) {s : Nat} (hs : s < (D 0 0)) : f_X12_hasPointers (nI s) τ = some (nI (if hpc D s = 0 then 0 else 1), τ) := by
  obtain ⟨o1, _, _, _, o5, _, _, _, _, _, _, _, _, o14, _⟩ := hO
  obtain ⟨⟨_, _, _, _, d, _⟩, _, _, _, _, _, _, c8⟩ := hM
  unfold f_X12_hasPointers f_X12_hasPointers_2
  dsimp only [zn]
  rcases least (P := fun k => D 20 k = s) (D 0 4) with ⟨m, m1, m2, m3⟩ | q
  · rw [if_neg (fun h => hpc_1.mp h m m1 m2)]
    refine it_for (F := fun K (q : Int32 × Int32 × St) => f_X12_hasPointers_2b K q.1 q.2.1 q.2.2) (fun i q => q = (nI s, nI i, τ)) m (fun o => o = some (nI 1, τ)) ?_ ?_ FU 0 _ (by omega) (FU_lt (by omega)) rfl
    · rintro K q rfl
      have g := (c8 m m1).1
      rw [m2] at g
      ((try simp (disch := first | decide | assumption | (simp (disch := first | decide | omega) only [ImC_sI, ImC_sJ, ImM_sI, ImM_sJ]; assumption) | omega) only [↓reduceIte, Nat.reduceAdd, Nat.reduceMul, Nat.reduceSub, Nat.reduceEqDiff, Nat.reducePow, Nat.reduceDiv, ↓zn_d, ↓bi_d, ↓bv_d, gd_T, ev_ib, true_or, or_true, eq_self, ite_true, ite_false, if_true, if_false, not_true_eq_false, not_false_eq_true, li_0, li_1, li_2, li_3, li_4, li_5, li_6, li_7, li_8, li_9, li_10, li_11, li_12, li_13, li_14, li_15, li_16, li_17, li_18, li_19, li_20, li_22, li_24, li_28, li_30, li_31, li_32, li_33, li_36, li_40, li_48, li_51, li_52, li_56, li_64, li_72, li_80, li_100, li_126, li_127, li_255, li_256, li_1024, li_1040, li_2048, li_4095, li_4096, li_65535, li_1073741824, ll_0, ll_1, ll_2, ll_3, ll_4, ll_5, ll_6, ll_7, ll_8, ll_9, ll_12, ll_15, ll_16, ll_20, ll_22, ll_24, ll_25, ll_28, ll_32, ll_40, ll_48, ll_64, ll_72, ll_80, ll_133, ll_255, ll_256, ll_512, ll_1024, ll_2048, ll_4096, ll_16384, ll_65535, ll_16777215, ll_16777228, ll_2147483647, ll_2147483648, ll_2147483700, ll_4277009103, ll_4294967295, ll_68719476735, ll_68719476736, ll_2234207627640832, ll_2251795518717952, ll_72057594037927935, ↓lm_1, ↓llm_1, ev_add, ev_sub, ev_mul, ev_div, ev_cl, ev_ltT, ev_ltF, ev_leT, ev_leF, ev_eqT, ev_eqF, ev_m1, ev_m1', ev_m1s, ev_dec, ev_nn, el_add, el_sub, el_mul, el_div, el_ltT, el_ltF, el_leT, el_leF, el_eqT, el_eqF, ev_l, el_i, el_m1, el_m1', rdI, rdJ, rdR, updF, updT, updLF, updLT, sI_l, sJ_l, sR_l, f_X12_hasPointers_2b, d, g]); first | done | rfl)
    · rintro K i q hi rfl ih
      have g := (c8 i (by omega)).1
      have g2 := m3 i hi
      have g3 := (o14 i (by omega)).1
      have e : f_X12_hasPointers_2b K (nI s) (nI i) τ = K (nI s, nI (i + 1), τ) := by
        ((try simp (disch := first | decide | assumption | (simp (disch := first | decide | omega) only [ImC_sI, ImC_sJ, ImM_sI, ImM_sJ]; assumption) | omega) only [↓reduceIte, Nat.reduceAdd, Nat.reduceMul, Nat.reduceSub, Nat.reduceEqDiff, Nat.reducePow, Nat.reduceDiv, ↓zn_d, ↓bi_d, ↓bv_d, gd_T, ev_ib, true_or, or_true, eq_self, ite_true, ite_false, if_true, if_false, not_true_eq_false, not_false_eq_true, li_0, li_1, li_2, li_3, li_4, li_5, li_6, li_7, li_8, li_9, li_10, li_11, li_12, li_13, li_14, li_15, li_16, li_17, li_18, li_19, li_20, li_22, li_24, li_28, li_30, li_31, li_32, li_33, li_36, li_40, li_48, li_51, li_52, li_56, li_64, li_72, li_80, li_100, li_126, li_127, li_255, li_256, li_1024, li_1040, li_2048, li_4095, li_4096, li_65535, li_1073741824, ll_0, ll_1, ll_2, ll_3, ll_4, ll_5, ll_6, ll_7, ll_8, ll_9, ll_12, ll_15, ll_16, ll_20, ll_22, ll_24, ll_25, ll_28, ll_32, ll_40, ll_48, ll_64, ll_72, ll_80, ll_133, ll_255, ll_256, ll_512, ll_1024, ll_2048, ll_4096, ll_16384, ll_65535, ll_16777215, ll_16777228, ll_2147483647, ll_2147483648, ll_2147483700, ll_4277009103, ll_4294967295, ll_68719476735, ll_68719476736, ll_2234207627640832, ll_2251795518717952, ll_72057594037927935, ↓lm_1, ↓llm_1, ev_add, ev_sub, ev_mul, ev_div, ev_cl, ev_ltT, ev_ltF, ev_leT, ev_leF, ev_eqT, ev_eqF, ev_m1, ev_m1', ev_m1s, ev_dec, ev_nn, el_add, el_sub, el_mul, el_div, el_ltT, el_ltF, el_leT, el_leF, el_eqT, el_eqF, ev_l, el_i, el_m1, el_m1', rdI, rdJ, rdR, updF, updT, updLF, updLT, sI_l, sJ_l, sR_l, f_X12_hasPointers_2b, d, g]); first | done | rfl)
      show f_X12_hasPointers_2b K (nI s) (nI i) τ = _
      rw [e]
      exact ih _ rfl
  · rw [if_pos (hpc_1.mpr q)]
    refine it_for (F := fun K (q : Int32 × Int32 × St) => f_X12_hasPointers_2b K q.1 q.2.1 q.2.2) (fun i q => q = (nI s, nI i, τ)) (D 0 4) (fun o => o = some (nI 0, τ)) ?_ ?_ FU 0 _ (by omega) (FU_lt (by omega)) rfl
    · rintro K q rfl
      ((try simp (disch := first | decide | assumption | (simp (disch := first | decide | omega) only [ImC_sI, ImC_sJ, ImM_sI, ImM_sJ]; assumption) | omega) only [↓reduceIte, Nat.reduceAdd, Nat.reduceMul, Nat.reduceSub, Nat.reduceEqDiff, Nat.reducePow, Nat.reduceDiv, ↓zn_d, ↓bi_d, ↓bv_d, gd_T, ev_ib, true_or, or_true, eq_self, ite_true, ite_false, if_true, if_false, not_true_eq_false, not_false_eq_true, li_0, li_1, li_2, li_3, li_4, li_5, li_6, li_7, li_8, li_9, li_10, li_11, li_12, li_13, li_14, li_15, li_16, li_17, li_18, li_19, li_20, li_22, li_24, li_28, li_30, li_31, li_32, li_33, li_36, li_40, li_48, li_51, li_52, li_56, li_64, li_72, li_80, li_100, li_126, li_127, li_255, li_256, li_1024, li_1040, li_2048, li_4095, li_4096, li_65535, li_1073741824, ll_0, ll_1, ll_2, ll_3, ll_4, ll_5, ll_6, ll_7, ll_8, ll_9, ll_12, ll_15, ll_16, ll_20, ll_22, ll_24, ll_25, ll_28, ll_32, ll_40, ll_48, ll_64, ll_72, ll_80, ll_133, ll_255, ll_256, ll_512, ll_1024, ll_2048, ll_4096, ll_16384, ll_65535, ll_16777215, ll_16777228, ll_2147483647, ll_2147483648, ll_2147483700, ll_4277009103, ll_4294967295, ll_68719476735, ll_68719476736, ll_2234207627640832, ll_2251795518717952, ll_72057594037927935, ↓lm_1, ↓llm_1, ev_add, ev_sub, ev_mul, ev_div, ev_cl, ev_ltT, ev_ltF, ev_leT, ev_leF, ev_eqT, ev_eqF, ev_m1, ev_m1', ev_m1s, ev_dec, ev_nn, el_add, el_sub, el_mul, el_div, el_ltT, el_ltF, el_leT, el_leF, el_eqT, el_eqF, ev_l, el_i, el_m1, el_m1', rdI, rdJ, rdR, updF, updT, updLF, updLT, sI_l, sJ_l, sR_l, f_X12_hasPointers_2b, d]); first | done | rfl)
    · rintro K i q2 hi rfl ih
      have g := (c8 i (by omega)).1
      have g2 := q i hi
      have g3 := (o14 i (by omega)).1
      have e : f_X12_hasPointers_2b K (nI s) (nI i) τ = K (nI s, nI (i + 1), τ) := by
        ((try simp (disch := first | decide | assumption | (simp (disch := first | decide | omega) only [ImC_sI, ImC_sJ, ImM_sI, ImM_sJ]; assumption) | omega) only [↓reduceIte, Nat.reduceAdd, Nat.reduceMul, Nat.reduceSub, Nat.reduceEqDiff, Nat.reducePow, Nat.reduceDiv, ↓zn_d, ↓bi_d, ↓bv_d, gd_T, ev_ib, true_or, or_true, eq_self, ite_true, ite_false, if_true, if_false, not_true_eq_false, not_false_eq_true, li_0, li_1, li_2, li_3, li_4, li_5, li_6, li_7, li_8, li_9, li_10, li_11, li_12, li_13, li_14, li_15, li_16, li_17, li_18, li_19, li_20, li_22, li_24, li_28, li_30, li_31, li_32, li_33, li_36, li_40, li_48, li_51, li_52, li_56, li_64, li_72, li_80, li_100, li_126, li_127, li_255, li_256, li_1024, li_1040, li_2048, li_4095, li_4096, li_65535, li_1073741824, ll_0, ll_1, ll_2, ll_3, ll_4, ll_5, ll_6, ll_7, ll_8, ll_9, ll_12, ll_15, ll_16, ll_20, ll_22, ll_24, ll_25, ll_28, ll_32, ll_40, ll_48, ll_64, ll_72, ll_80, ll_133, ll_255, ll_256, ll_512, ll_1024, ll_2048, ll_4096, ll_16384, ll_65535, ll_16777215, ll_16777228, ll_2147483647, ll_2147483648, ll_2147483700, ll_4277009103, ll_4294967295, ll_68719476735, ll_68719476736, ll_2234207627640832, ll_2251795518717952, ll_72057594037927935, ↓lm_1, ↓llm_1, ev_add, ev_sub, ev_mul, ev_div, ev_cl, ev_ltT, ev_ltF, ev_leT, ev_leF, ev_eqT, ev_eqF, ev_m1, ev_m1', ev_m1s, ev_dec, ev_nn, el_add, el_sub, el_mul, el_div, el_ltT, el_ltF, el_leT, el_leF, el_eqT, el_eqF, ev_l, el_i, el_m1, el_m1', rdI, rdJ, rdR, updF, updT, updLF, updLT, sI_l, sJ_l, sR_l, f_X12_hasPointers_2b, d, g]); first | done | rfl)
      show f_X12_hasPointers_2b K (nI s) (nI i) τ = _
      rw [e]
      exact ih _ rfl
theorem dn_s (n : Nat) : nI (n + 1) - nI 1 = nI n := by
  rw [← nI_add]
  show nI n + nI 1 - nI 1 = nI n
  exact Int32.add_sub_cancel _ _
theorem dn_d (n : Nat) : nI n + (-1) = nI n - nI 1 := by
  rw [Int32.sub_eq_add_neg]
  rfl
theorem dn_0 : nI 0 - nI 1 < (0 : Int32) := by decide
set_option maxHeartbeats 1000000 in
theorem m_page1 {D : Nat → Nat → Nat} {τ : St} (hO : DOK D) (hM : DM D τ) {s i m p : Nat} {x1 : Int32} (K32 : (Int32 × Int32 × St) → Option St) (K : (Int32 × Int32 × Int32 × Int32 × St) → Option St) (hs : s < (D 0 0)) (hi : i < m) (hm : m ≤ 4) (h3 : τ.1 68 31 = nI p) (hz : p + 2 ≤ 9000) : ∃ τ', f_X12_writeFixups_149b K32 K x1 (nI s) (nI m) (nI i) τ = K (x1, nI s, nI m, nI (i + 1), τ') ∧ Wm p (num 2 (fi D s i)) τ τ' := by
  have hO' := hO
  obtain ⟨o1, _, _, _, o5, o6, _, _, o9, _, _, _, _, o14, _⟩ := hO'
  have hp : 256 ≤ (D 0 5) ∧ (D 0 5) ≤ 4096 := by unfold isPg at o6; omega
  obtain ⟨⟨_, _, _, _, d, d5, _⟩, _, _, _, _, _, _, c8⟩ := hM
  have lf := fi_lt hO s i
  obtain ⟨τ', e1, w1⟩ := w_put (v := fi D s i) (k := 2) h3 (by omega) (by decide) (by omega)
  refine ⟨τ', ?_, w1⟩
  have E : f_X12_writeFixups_149b K32 K x1 (nI s) (nI m) (nI i) τ = f_X12_writeFixups_168 K x1 (nI s) (nI m) (nI i) (nI 65535) (nI (D 0 4) - nI 1) τ := by
    unfold f_X12_writeFixups_149b
    rw [d, if_neg (show ¬ nI m ≤ nI i by simp (disch := first | decide | omega) only [↓reduceIte, Nat.reduceAdd, Nat.reduceMul, Nat.reduceSub, Nat.reduceEqDiff, Nat.reducePow, Nat.reduceDiv, ↓zn_d, ↓bi_d, ↓bv_d, gd_T, ev_ib, true_or, or_true, eq_self, ite_true, ite_false, if_true, if_false, not_true_eq_false, not_false_eq_true, li_0, li_1, li_2, li_3, li_4, li_5, li_6, li_7, li_8, li_9, li_10, li_11, li_12, li_13, li_14, li_15, li_16, li_17, li_18, li_19, li_20, li_22, li_24, li_28, li_30, li_31, li_32, li_33, li_36, li_40, li_48, li_51, li_52, li_56, li_64, li_72, li_80, li_100, li_126, li_127, li_255, li_256, li_1024, li_1040, li_2048, li_4095, li_4096, li_65535, li_1073741824, ll_0, ll_1, ll_2, ll_3, ll_4, ll_5, ll_6, ll_7, ll_8, ll_9, ll_12, ll_15, ll_16, ll_20, ll_22, ll_24, ll_25, ll_28, ll_32, ll_40, ll_48, ll_64, ll_72, ll_80, ll_133, ll_255, ll_256, ll_512, ll_1024, ll_2048, ll_4096, ll_16384, ll_65535, ll_16777215, ll_16777228, ll_2147483647, ll_2147483648, ll_2147483700, ll_4277009103, ll_4294967295, ll_68719476735, ll_68719476736, ll_2234207627640832, ll_2251795518717952, ll_72057594037927935, ↓lm_1, ↓llm_1, ev_add, ev_sub, ev_mul, ev_div, ev_cl, ev_ltT, ev_ltF, ev_leT, ev_leF, ev_eqT, ev_eqF, ev_m1, ev_m1', ev_m1s, ev_dec, ev_nn, el_add, el_sub, el_mul, el_div, el_ltT, el_ltF, el_leT, el_leF, el_eqT, el_eqF, ev_l, el_i, el_m1, el_m1', rdI, rdJ, rdR, updF, updT, updLF, updLT, sI_l, sJ_l, sR_l])]
    rfl
  rw [E]
  unfold f_X12_writeFixups_168
  refine it_for (F := fun K' (a : Int32 × Int32 × Int32 × Int32 × Int32 × Int32 × St) => f_X12_writeFixups_168b K K' a.1 a.2.1 a.2.2.1 a.2.2.2.1 a.2.2.2.2.1 a.2.2.2.2.2.1 a.2.2.2.2.2.2) (fun n q => ∃ v, q = (x1, nI s, nI m, nI i, nI v, nI ((D 0 4) - n) - nI 1, τ) ∧ v < 65536 ∧ ((∃ k, (D 0 4) - n ≤ k ∧ k < (D 0 4) ∧ pcd D s i k ∧ (∀ j, (D 0 4) - n ≤ j → j < k → ¬ pcd D s i j) ∧ v = D 21 k % (D 0 5)) ∨ ((∀ j, (D 0 4) - n ≤ j → j < (D 0 4) → ¬ pcd D s i j) ∧ v = 65535))) (D 0 4) (fun o => o = K (x1, nI s, nI m, nI (i + 1), τ')) ?_ ?_ FU 0 _ (by omega) (FU_lt (by omega)) ⟨65535, rfl, by decide, Or.inr ⟨fun j h1 h2 => by omega, rfl⟩⟩
  · rintro K' q ⟨v, rfl, hv, h⟩
    rw [Nat.sub_self] at h ⊢
    have ev : fi D s i = v := by
      refine PF_u (fi_s D s i) ?_
      rcases h with ⟨k, _, k2, k3, k4, k5⟩ | ⟨k1, k2⟩
      · exact Or.inl ⟨k, k2, k3, fun j hj => k4 j (Nat.zero_le _) hj, k5⟩
      · exact Or.inr ⟨fun j hj => k1 j (Nat.zero_le _) hj, k2⟩
    rw [ev] at e1
    show f_X12_writeFixups_168b K K' x1 (nI s) (nI m) (nI i) (nI v) (nI 0 - nI 1) τ = _
    unfold f_X12_writeFixups_168b
    rw [if_pos dn_0]
    ((try simp (disch := first | decide | assumption | (simp (disch := first | decide | omega) only [ImC_sI, ImC_sJ, ImM_sI, ImM_sJ]; assumption) | omega) only [↓reduceIte, Nat.reduceAdd, Nat.reduceMul, Nat.reduceSub, Nat.reduceEqDiff, Nat.reducePow, Nat.reduceDiv, ↓zn_d, ↓bi_d, ↓bv_d, gd_T, ev_ib, true_or, or_true, eq_self, ite_true, ite_false, if_true, if_false, not_true_eq_false, not_false_eq_true, li_0, li_1, li_2, li_3, li_4, li_5, li_6, li_7, li_8, li_9, li_10, li_11, li_12, li_13, li_14, li_15, li_16, li_17, li_18, li_19, li_20, li_22, li_24, li_28, li_30, li_31, li_32, li_33, li_36, li_40, li_48, li_51, li_52, li_56, li_64, li_72, li_80, li_100, li_126, li_127, li_255, li_256, li_1024, li_1040, li_2048, li_4095, li_4096, li_65535, li_1073741824, ll_0, ll_1, ll_2, ll_3, ll_4, ll_5, ll_6, ll_7, ll_8, ll_9, ll_12, ll_15, ll_16, ll_20, ll_22, ll_24, ll_25, ll_28, ll_32, ll_40, ll_48, ll_64, ll_72, ll_80, ll_133, ll_255, ll_256, ll_512, ll_1024, ll_2048, ll_4096, ll_16384, ll_65535, ll_16777215, ll_16777228, ll_2147483647, ll_2147483648, ll_2147483700, ll_4277009103, ll_4294967295, ll_68719476735, ll_68719476736, ll_2234207627640832, ll_2251795518717952, ll_72057594037927935, ↓lm_1, ↓llm_1, ev_add, ev_sub, ev_mul, ev_div, ev_cl, ev_ltT, ev_ltF, ev_leT, ev_leF, ev_eqT, ev_eqF, ev_m1, ev_m1', ev_m1s, ev_dec, ev_nn, el_add, el_sub, el_mul, el_div, el_ltT, el_ltF, el_leT, el_leF, el_eqT, el_eqF, ev_l, el_i, el_m1, el_m1', rdI, rdJ, rdR, updF, updT, updLF, updLT, sI_l, sJ_l, sR_l, e1]); first | done | rfl)
  · rintro K' n q hn ⟨v, rfl, hv, h⟩ ih
    obtain ⟨k, hk⟩ : ∃ k, (D 0 4) - n = k + 1 := ⟨(D 0 4) - n - 1, by omega⟩
    have hk2 : (D 0 4) - (n + 1) = k := by omega
    obtain ⟨g1, g2, _⟩ := c8 k (by omega)
    obtain ⟨q1, q2, _⟩ := o14 k (by omega)
    have lB := (o9 _ q1).2.1
    have hd := Nat.div_le_self (D 21 k) (D 0 5)
    have hdm := Nat.div_add_mod (D 21 k) (D 0 5)
    have hml := Nat.mod_lt (D 21 k) (show 0 < (D 0 5) by omega)
    rw [Nat.mul_comm] at hdm
    have es : D 21 k - D 21 k / (D 0 5) * (D 0 5) = D 21 k % (D 0 5) := by omega
    show f_X12_writeFixups_168b K K' x1 (nI s) (nI m) (nI i) (nI v) (nI ((D 0 4) - n) - nI 1) τ = _
    rw [hk, dn_s]
    rw [hk] at h
    have st : ∃ v', f_X12_writeFixups_168b K K' x1 (nI s) (nI m) (nI i) (nI v) (nI k) τ = K' (x1, nI s, nI m, nI i, nI v', nI k - nI 1, τ) ∧ ((pcd D s i k ∧ v' = D 21 k % (D 0 5)) ∨ (¬ pcd D s i k ∧ v' = v)) := by
      by_cases c1 : D 20 k = s
      · by_cases c2 : D 21 k / (D 0 5) = i
        · refine ⟨D 21 k % (D 0 5), ?_, Or.inl ⟨⟨c1, c2⟩, rfl⟩⟩
          rw [← es, ← dn_d]
          ((try simp (disch := first | decide | assumption | (simp (disch := first | decide | omega) only [ImC_sI, ImC_sJ, ImM_sI, ImM_sJ]; assumption) | omega) only [↓reduceIte, Nat.reduceAdd, Nat.reduceMul, Nat.reduceSub, Nat.reduceEqDiff, Nat.reducePow, Nat.reduceDiv, ↓zn_d, ↓bi_d, ↓bv_d, gd_T, ev_ib, true_or, or_true, eq_self, ite_true, ite_false, if_true, if_false, not_true_eq_false, not_false_eq_true, li_0, li_1, li_2, li_3, li_4, li_5, li_6, li_7, li_8, li_9, li_10, li_11, li_12, li_13, li_14, li_15, li_16, li_17, li_18, li_19, li_20, li_22, li_24, li_28, li_30, li_31, li_32, li_33, li_36, li_40, li_48, li_51, li_52, li_56, li_64, li_72, li_80, li_100, li_126, li_127, li_255, li_256, li_1024, li_1040, li_2048, li_4095, li_4096, li_65535, li_1073741824, ll_0, ll_1, ll_2, ll_3, ll_4, ll_5, ll_6, ll_7, ll_8, ll_9, ll_12, ll_15, ll_16, ll_20, ll_22, ll_24, ll_25, ll_28, ll_32, ll_40, ll_48, ll_64, ll_72, ll_80, ll_133, ll_255, ll_256, ll_512, ll_1024, ll_2048, ll_4096, ll_16384, ll_65535, ll_16777215, ll_16777228, ll_2147483647, ll_2147483648, ll_2147483700, ll_4277009103, ll_4294967295, ll_68719476735, ll_68719476736, ll_2234207627640832, ll_2251795518717952, ll_72057594037927935, ↓lm_1, ↓llm_1, ev_add, ev_sub, ev_mul, ev_div, ev_cl, ev_ltT, ev_ltF, ev_leT, ev_leF, ev_eqT, ev_eqF, ev_m1, ev_m1', ev_m1s, ev_dec, ev_nn, el_add, el_sub, el_mul, el_div, el_ltT, el_ltF, el_leT, el_leF, el_eqT, el_eqF, ev_l, el_i, el_m1, el_m1', rdI, rdJ, rdR, updF, updT, updLF, updLT, sI_l, sJ_l, sR_l, f_X12_writeFixups_168b, g1, g2, d5, c1]); (try simp (disch := first | decide | assumption | (simp (disch := first | decide | omega) only [ImC_sI, ImC_sJ, ImM_sI, ImM_sJ]; assumption) | omega) only [↓reduceIte, Nat.reduceAdd, Nat.reduceMul, Nat.reduceSub, Nat.reduceEqDiff, Nat.reducePow, Nat.reduceDiv, ↓zn_d, ↓bi_d, ↓bv_d, gd_T, ev_ib, true_or, or_true, eq_self, ite_true, ite_false, if_true, if_false, not_true_eq_false, not_false_eq_true, li_0, li_1, li_2, li_3, li_4, li_5, li_6, li_7, li_8, li_9, li_10, li_11, li_12, li_13, li_14, li_15, li_16, li_17, li_18, li_19, li_20, li_22, li_24, li_28, li_30, li_31, li_32, li_33, li_36, li_40, li_48, li_51, li_52, li_56, li_64, li_72, li_80, li_100, li_126, li_127, li_255, li_256, li_1024, li_1040, li_2048, li_4095, li_4096, li_65535, li_1073741824, ll_0, ll_1, ll_2, ll_3, ll_4, ll_5, ll_6, ll_7, ll_8, ll_9, ll_12, ll_15, ll_16, ll_20, ll_22, ll_24, ll_25, ll_28, ll_32, ll_40, ll_48, ll_64, ll_72, ll_80, ll_133, ll_255, ll_256, ll_512, ll_1024, ll_2048, ll_4096, ll_16384, ll_65535, ll_16777215, ll_16777228, ll_2147483647, ll_2147483648, ll_2147483700, ll_4277009103, ll_4294967295, ll_68719476735, ll_68719476736, ll_2234207627640832, ll_2251795518717952, ll_72057594037927935, ↓lm_1, ↓llm_1, ev_add, ev_sub, ev_mul, ev_div, ev_cl, ev_ltT, ev_ltF, ev_leT, ev_leF, ev_eqT, ev_eqF, ev_m1, ev_m1', ev_m1s, ev_dec, ev_nn, el_add, el_sub, el_mul, el_div, el_ltT, el_ltF, el_leT, el_leF, el_eqT, el_eqF, ev_l, el_i, el_m1, el_m1', rdI, rdJ, rdR, updF, updT, updLF, updLT, sI_l, sJ_l, sR_l, f_X12_writeFixups_215, g1, g2, d5, c1]); first | done | rfl)
        · refine ⟨v, ?_, Or.inr ⟨fun h => c2 h.2, rfl⟩⟩
          rw [← dn_d]
          ((try simp (disch := first | decide | assumption | (simp (disch := first | decide | omega) only [ImC_sI, ImC_sJ, ImM_sI, ImM_sJ]; assumption) | omega) only [↓reduceIte, Nat.reduceAdd, Nat.reduceMul, Nat.reduceSub, Nat.reduceEqDiff, Nat.reducePow, Nat.reduceDiv, ↓zn_d, ↓bi_d, ↓bv_d, gd_T, ev_ib, true_or, or_true, eq_self, ite_true, ite_false, if_true, if_false, not_true_eq_false, not_false_eq_true, li_0, li_1, li_2, li_3, li_4, li_5, li_6, li_7, li_8, li_9, li_10, li_11, li_12, li_13, li_14, li_15, li_16, li_17, li_18, li_19, li_20, li_22, li_24, li_28, li_30, li_31, li_32, li_33, li_36, li_40, li_48, li_51, li_52, li_56, li_64, li_72, li_80, li_100, li_126, li_127, li_255, li_256, li_1024, li_1040, li_2048, li_4095, li_4096, li_65535, li_1073741824, ll_0, ll_1, ll_2, ll_3, ll_4, ll_5, ll_6, ll_7, ll_8, ll_9, ll_12, ll_15, ll_16, ll_20, ll_22, ll_24, ll_25, ll_28, ll_32, ll_40, ll_48, ll_64, ll_72, ll_80, ll_133, ll_255, ll_256, ll_512, ll_1024, ll_2048, ll_4096, ll_16384, ll_65535, ll_16777215, ll_16777228, ll_2147483647, ll_2147483648, ll_2147483700, ll_4277009103, ll_4294967295, ll_68719476735, ll_68719476736, ll_2234207627640832, ll_2251795518717952, ll_72057594037927935, ↓lm_1, ↓llm_1, ev_add, ev_sub, ev_mul, ev_div, ev_cl, ev_ltT, ev_ltF, ev_leT, ev_leF, ev_eqT, ev_eqF, ev_m1, ev_m1', ev_m1s, ev_dec, ev_nn, el_add, el_sub, el_mul, el_div, el_ltT, el_ltF, el_leT, el_leF, el_eqT, el_eqF, ev_l, el_i, el_m1, el_m1', rdI, rdJ, rdR, updF, updT, updLF, updLT, sI_l, sJ_l, sR_l, f_X12_writeFixups_168b, g1, g2, d5, c1]); (try simp (disch := first | decide | assumption | (simp (disch := first | decide | omega) only [ImC_sI, ImC_sJ, ImM_sI, ImM_sJ]; assumption) | omega) only [↓reduceIte, Nat.reduceAdd, Nat.reduceMul, Nat.reduceSub, Nat.reduceEqDiff, Nat.reducePow, Nat.reduceDiv, ↓zn_d, ↓bi_d, ↓bv_d, gd_T, ev_ib, true_or, or_true, eq_self, ite_true, ite_false, if_true, if_false, not_true_eq_false, not_false_eq_true, li_0, li_1, li_2, li_3, li_4, li_5, li_6, li_7, li_8, li_9, li_10, li_11, li_12, li_13, li_14, li_15, li_16, li_17, li_18, li_19, li_20, li_22, li_24, li_28, li_30, li_31, li_32, li_33, li_36, li_40, li_48, li_51, li_52, li_56, li_64, li_72, li_80, li_100, li_126, li_127, li_255, li_256, li_1024, li_1040, li_2048, li_4095, li_4096, li_65535, li_1073741824, ll_0, ll_1, ll_2, ll_3, ll_4, ll_5, ll_6, ll_7, ll_8, ll_9, ll_12, ll_15, ll_16, ll_20, ll_22, ll_24, ll_25, ll_28, ll_32, ll_40, ll_48, ll_64, ll_72, ll_80, ll_133, ll_255, ll_256, ll_512, ll_1024, ll_2048, ll_4096, ll_16384, ll_65535, ll_16777215, ll_16777228, ll_2147483647, ll_2147483648, ll_2147483700, ll_4277009103, ll_4294967295, ll_68719476735, ll_68719476736, ll_2234207627640832, ll_2251795518717952, ll_72057594037927935, ↓lm_1, ↓llm_1, ev_add, ev_sub, ev_mul, ev_div, ev_cl, ev_ltT, ev_ltF, ev_leT, ev_leF, ev_eqT, ev_eqF, ev_m1, ev_m1', ev_m1s, ev_dec, ev_nn, el_add, el_sub, el_mul, el_div, el_ltT, el_ltF, el_leT, el_leF, el_eqT, el_eqF, ev_l, el_i, el_m1, el_m1', rdI, rdJ, rdR, updF, updT, updLF, updLT, sI_l, sJ_l, sR_l, f_X12_writeFixups_215, g1, g2, d5, c1]); first | done | rfl)
      · refine ⟨v, ?_, Or.inr ⟨fun h => c1 h.1, rfl⟩⟩
        rw [← dn_d]
        ((try simp (disch := first | decide | assumption | (simp (disch := first | decide | omega) only [ImC_sI, ImC_sJ, ImM_sI, ImM_sJ]; assumption) | omega) only [↓reduceIte, Nat.reduceAdd, Nat.reduceMul, Nat.reduceSub, Nat.reduceEqDiff, Nat.reducePow, Nat.reduceDiv, ↓zn_d, ↓bi_d, ↓bv_d, gd_T, ev_ib, true_or, or_true, eq_self, ite_true, ite_false, if_true, if_false, not_true_eq_false, not_false_eq_true, li_0, li_1, li_2, li_3, li_4, li_5, li_6, li_7, li_8, li_9, li_10, li_11, li_12, li_13, li_14, li_15, li_16, li_17, li_18, li_19, li_20, li_22, li_24, li_28, li_30, li_31, li_32, li_33, li_36, li_40, li_48, li_51, li_52, li_56, li_64, li_72, li_80, li_100, li_126, li_127, li_255, li_256, li_1024, li_1040, li_2048, li_4095, li_4096, li_65535, li_1073741824, ll_0, ll_1, ll_2, ll_3, ll_4, ll_5, ll_6, ll_7, ll_8, ll_9, ll_12, ll_15, ll_16, ll_20, ll_22, ll_24, ll_25, ll_28, ll_32, ll_40, ll_48, ll_64, ll_72, ll_80, ll_133, ll_255, ll_256, ll_512, ll_1024, ll_2048, ll_4096, ll_16384, ll_65535, ll_16777215, ll_16777228, ll_2147483647, ll_2147483648, ll_2147483700, ll_4277009103, ll_4294967295, ll_68719476735, ll_68719476736, ll_2234207627640832, ll_2251795518717952, ll_72057594037927935, ↓lm_1, ↓llm_1, ev_add, ev_sub, ev_mul, ev_div, ev_cl, ev_ltT, ev_ltF, ev_leT, ev_leF, ev_eqT, ev_eqF, ev_m1, ev_m1', ev_m1s, ev_dec, ev_nn, el_add, el_sub, el_mul, el_div, el_ltT, el_ltF, el_leT, el_leF, el_eqT, el_eqF, ev_l, el_i, el_m1, el_m1', rdI, rdJ, rdR, updF, updT, updLF, updLT, sI_l, sJ_l, sR_l, f_X12_writeFixups_168b, g1, g2, d5]); (try simp (disch := first | decide | assumption | (simp (disch := first | decide | omega) only [ImC_sI, ImC_sJ, ImM_sI, ImM_sJ]; assumption) | omega) only [↓reduceIte, Nat.reduceAdd, Nat.reduceMul, Nat.reduceSub, Nat.reduceEqDiff, Nat.reducePow, Nat.reduceDiv, ↓zn_d, ↓bi_d, ↓bv_d, gd_T, ev_ib, true_or, or_true, eq_self, ite_true, ite_false, if_true, if_false, not_true_eq_false, not_false_eq_true, li_0, li_1, li_2, li_3, li_4, li_5, li_6, li_7, li_8, li_9, li_10, li_11, li_12, li_13, li_14, li_15, li_16, li_17, li_18, li_19, li_20, li_22, li_24, li_28, li_30, li_31, li_32, li_33, li_36, li_40, li_48, li_51, li_52, li_56, li_64, li_72, li_80, li_100, li_126, li_127, li_255, li_256, li_1024, li_1040, li_2048, li_4095, li_4096, li_65535, li_1073741824, ll_0, ll_1, ll_2, ll_3, ll_4, ll_5, ll_6, ll_7, ll_8, ll_9, ll_12, ll_15, ll_16, ll_20, ll_22, ll_24, ll_25, ll_28, ll_32, ll_40, ll_48, ll_64, ll_72, ll_80, ll_133, ll_255, ll_256, ll_512, ll_1024, ll_2048, ll_4096, ll_16384, ll_65535, ll_16777215, ll_16777228, ll_2147483647, ll_2147483648, ll_2147483700, ll_4277009103, ll_4294967295, ll_68719476735, ll_68719476736, ll_2234207627640832, ll_2251795518717952, ll_72057594037927935, ↓lm_1, ↓llm_1, ev_add, ev_sub, ev_mul, ev_div, ev_cl, ev_ltT, ev_ltF, ev_leT, ev_leF, ev_eqT, ev_eqF, ev_m1, ev_m1', ev_m1s, ev_dec, ev_nn, el_add, el_sub, el_mul, el_div, el_ltT, el_ltF, el_leT, el_leF, el_eqT, el_eqF, ev_l, el_i, el_m1, el_m1', rdI, rdJ, rdR, updF, updT, updLF, updLT, sI_l, sJ_l, sR_l, f_X12_writeFixups_215, g1, g2, d5]); first | done | rfl)
    obtain ⟨v', e, hv'⟩ := st
    rw [e]
    refine ih _ ⟨v', by rw [hk2], ?_, ?_⟩
    · rcases hv' with ⟨_, h⟩ | ⟨_, h⟩ <;> omega
    · rw [hk2]
      rcases hv' with ⟨a1, a2⟩ | ⟨a1, a2⟩
      · exact Or.inl ⟨k, Nat.le_refl _, by omega, a1, fun j h1 h2 => by omega, a2⟩
      · rcases h with ⟨r, r1, r2, r3, r4, r5⟩ | ⟨r1, r2⟩
        · refine Or.inl ⟨r, by omega, r2, r3, fun j h1 h2 => ?_, by rw [a2, r5]⟩
          by_cases g : j = k
          · rw [g]; exact a1
          · exact r4 j (by omega) h2
        · refine Or.inr ⟨fun j h1 h2 => ?_, by rw [a2, r2]⟩
          by_cases g : j = k
          · rw [g]; exact a1
          · exact r1 j (by omega) h2
