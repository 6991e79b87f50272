/-! the reference's fixups -/
def WE (E : Nat → Nat → Prop) (p : Nat) (L : List Nat) (τ τ' : St) : Prop := τ'.1 68 31 = nI (p + L.length) ∧ HsM L p τ' ∧ (∀ j, j < p ∨ p + L.length ≤ j → τ'.1 88 j = τ.1 88 j) ∧ OM E τ τ'
theorem Wm_E {E : Nat → Nat → Prop} {p : Nat} {L : List Nat} {τ τ' : St} (h : Wm p L τ τ') (hE : ∀ a b, Eim a b → E a b) : WE E p L τ τ' := ⟨h.1, h.2.1, h.2.2.1, h.2.2.2.mono hE⟩
theorem WE_tr {E : Nat → Nat → Prop} {p : Nat} {A B : List Nat} {τ τ1 τ2 : St} (h1 : WE E p A τ τ1) (h2 : WE E (p + A.length) B τ1 τ2) : WE E p (A ++ B) τ τ2 := by
  obtain ⟨a1, a2, a3, a4⟩ := h1
  obtain ⟨b1, b2, b3, b4⟩ := h2
  refine ⟨by rw [b1, List.length_append, Nat.add_assoc], HsM_app.mpr ⟨fun i hi => ?_, b2⟩, fun j hj => ?_, a4.tr b4⟩
  · rw [b3 _ (by omega), a2 i hi]
  · rw [List.length_append] at hj
    rw [b3 j (by omega), a3 j (by omega)]
theorem WE_s {E : Nat → Nat → Prop} {p a b : Nat} {v : Int32} {L : List Nat} {τ τ' : St} (h : WE E p L τ τ') (h1 : E a b) (h2 : a ≠ 88) (h3 : a = 68 → b ≠ 31) : WE E p L τ (sI τ' a b v) := by
  obtain ⟨a1, a2, a3, a4⟩ := h
  refine ⟨by rw [ev_sIf (by omega)]; exact a1, fun i hi => by rw [ev_sIf (by omega)]; exact a2 i hi, fun j hj => by rw [ev_sIf (by omega)]; exact a3 j hj, OM.sI a4 h1⟩
theorem WE_s0 {E : Nat → Nat → Prop} {p a b : Nat} {v : Int32} {L : List Nat} {τ τ' : St} (h : WE E p L (sI τ a b v) τ') (h1 : E a b) (h2 : a ≠ 88) : WE E p L τ τ' := by
  obtain ⟨a1, a2, a3, a4⟩ := h
  exact ⟨a1, a2, fun j hj => by rw [a3 j hj, ev_sIf (by omega)], (OM.sI OM.rf h1).tr a4⟩
def E90 (a b : Nat) : Prop := (a = 68 ∧ b = 31) ∨ a = 88 ∨ a = 90
theorem Eim_90 : ∀ a b, Eim a b → E90 a b := fun a b h => by unfold Eim at h; unfold E90; omega
theorem DM_9 {D : Nat → Nat → Nat} {τ τ' : St} (o : OM E90 τ τ') (h : DM D τ) : DM D τ' := DM_f (o.mono (fun a b h => by unfold E90 at h; unfold Ewm; omega)) h
set_option maxHeartbeats 1000000 in
theorem m_pages {D : Nat → Nat → Nat} {τ : St} (hO : DOK D) (hM : DM D τ) {s p : Nat} (K : (Int32 × Int32 × St) → Option St) (hs : s < (D 0 0)) (hp0 : hpc D s ≠ 0) (hp28 : 28 ≤ p) (x : Nat) (hx : x ≤ up p 4) (h3 : τ.1 68 31 = nI p) (hz : up p 4 + (22 + 2 * pgs D s) ≤ 9000) : ∃ τ', f_X12_writeFixups_32b K (nI x) (nI s) τ = K (nI x, nI (s + 1), τ') ∧ WE E90 p (zer (up p 4 - p) ++ pgp D s) τ τ' ∧ τ'.1 90 s = nI (up p 4 - x) ∧ ∀ t, t ≠ s → τ'.1 90 t = τ.1 90 t := by
  have hO' := hO
  obtain ⟨o1, _, _, _, _, o6, o7, _, o9, _, _, _, _, o14, o15⟩ := hO'
  have hp : 256 ≤ (D 0 5) ∧ (D 0 5) ≤ 4096 := by unfold isPg at o6; omega
  obtain ⟨lp, lpe, _⟩ := pgs_e hO hs
  have lu := (up_le (z := p) (a := 4) (by decide)).1
  have la := dad_le hO (show s ≤ (D 0 0) by omega)
  have lb : (D 0 6) ≤ dad D s := by
    have : ∀ t, (D 0 6) ≤ adr (D 0 6) (D 0 5) (D 1) t := fun t => by
      induction t with
      | zero => exact Nat.le_refl _
      | succ t ih => show _ ≤ adr (D 0 6) (D 0 5) (D 1) t + up (D 1 t) (D 0 5); omega
    exact this s
  have hm : pgs D s * (D 0 5) ≤ 4 * 4096 := Nat.mul_le_mul lp hp.2
  have hM0 : DM D (sI τ 90 s (nI 0)) := DM_9 (OM.sI OM.rf (by unfold E90; omega)) hM
  have eh := m_hasP hO hM0 hs
  rw [if_neg hp0] at eh
  obtain ⟨t1, e1, w1⟩ := w_even (a := 4) (τ := sI τ 90 s (nI 0)) (p := p) (by simp (disch := first | decide | omega) only [↓reduceIte, Nat.reduceAdd, Nat.reduceMul, Nat.reduceSub, Nat.reduceEqDiff, Nat.reducePow, Nat.reduceDiv, ↓zn_d, ↓bi_d, ↓bv_d, gd_T, ev_ib, true_or, or_true, eq_self, ite_true, ite_false, if_true, if_false, not_true_eq_false, not_false_eq_true, li_0, li_1, li_2, li_3, li_4, li_5, li_6, li_7, li_8, li_9, li_10, li_11, li_12, li_13, li_14, li_15, li_16, li_17, li_18, li_19, li_20, li_22, li_24, li_28, li_30, li_31, li_32, li_33, li_36, li_40, li_48, li_51, li_52, li_56, li_64, li_72, li_80, li_100, li_126, li_127, li_255, li_256, li_1024, li_1040, li_2048, li_4095, li_4096, li_65535, li_1073741824, ll_0, ll_1, ll_2, ll_3, ll_4, ll_5, ll_6, ll_7, ll_8, ll_9, ll_12, ll_15, ll_16, ll_20, ll_22, ll_24, ll_25, ll_28, ll_32, ll_40, ll_48, ll_64, ll_72, ll_80, ll_133, ll_255, ll_256, ll_512, ll_1024, ll_2048, ll_4096, ll_16384, ll_65535, ll_16777215, ll_16777228, ll_2147483647, ll_2147483648, ll_2147483700, ll_4277009103, ll_4294967295, ll_68719476735, ll_68719476736, ll_2234207627640832, ll_2251795518717952, ll_72057594037927935, ↓lm_1, ↓llm_1, ev_add, ev_sub, ev_mul, ev_div, ev_cl, ev_ltT, ev_ltF, ev_leT, ev_leF, ev_eqT, ev_eqF, ev_m1, ev_m1', ev_m1s, ev_dec, ev_nn, el_add, el_sub, el_mul, el_div, el_ltT, el_ltF, el_leT, el_leF, el_eqT, el_eqF, ev_l, el_i, el_m1, el_m1', rdI, rdJ, rdR, updF, updT, updLF, updLT, sI_l, sJ_l, sR_l, h3]) (by omega) (by omega)
  have x1 := w1.1
  rw [zer_len, show p + (up p 4 - p) = up p 4 by omega] at x1
  obtain ⟨u, hu⟩ : ∃ u, u = sI t1 90 s (nI (up p 4 - x)) := ⟨_, rfl⟩
  have hMu : DM D u := by rw [hu]; exact DM_9 (OM.sI OM.rf (by unfold E90; omega)) (DM_m w1.2.2.2 hM0)
  have xu : u.1 68 31 = nI (up p 4) := by rw [hu]; simp (disch := first | decide | omega) only [↓reduceIte, Nat.reduceAdd, Nat.reduceMul, Nat.reduceSub, Nat.reduceEqDiff, Nat.reducePow, Nat.reduceDiv, ↓zn_d, ↓bi_d, ↓bv_d, gd_T, ev_ib, true_or, or_true, eq_self, ite_true, ite_false, if_true, if_false, not_true_eq_false, not_false_eq_true, li_0, li_1, li_2, li_3, li_4, li_5, li_6, li_7, li_8, li_9, li_10, li_11, li_12, li_13, li_14, li_15, li_16, li_17, li_18, li_19, li_20, li_22, li_24, li_28, li_30, li_31, li_32, li_33, li_36, li_40, li_48, li_51, li_52, li_56, li_64, li_72, li_80, li_100, li_126, li_127, li_255, li_256, li_1024, li_1040, li_2048, li_4095, li_4096, li_65535, li_1073741824, ll_0, ll_1, ll_2, ll_3, ll_4, ll_5, ll_6, ll_7, ll_8, ll_9, ll_12, ll_15, ll_16, ll_20, ll_22, ll_24, ll_25, ll_28, ll_32, ll_40, ll_48, ll_64, ll_72, ll_80, ll_133, ll_255, ll_256, ll_512, ll_1024, ll_2048, ll_4096, ll_16384, ll_65535, ll_16777215, ll_16777228, ll_2147483647, ll_2147483648, ll_2147483700, ll_4277009103, ll_4294967295, ll_68719476735, ll_68719476736, ll_2234207627640832, ll_2251795518717952, ll_72057594037927935, ↓lm_1, ↓llm_1, ev_add, ev_sub, ev_mul, ev_div, ev_cl, ev_ltT, ev_ltF, ev_leT, ev_leF, ev_eqT, ev_eqF, ev_m1, ev_m1', ev_m1s, ev_dec, ev_nn, el_add, el_sub, el_mul, el_div, el_ltT, el_ltF, el_leT, el_leF, el_eqT, el_eqF, ev_l, el_i, el_m1, el_m1', rdI, rdJ, rdR, updF, updT, updLF, updLT, sI_l, sJ_l, sR_l, x1]
  have es := m_spanD hO hMu hs
  have d5 := hMu.1.2.2.2.2.2.1
  have ed : pgs D s * (D 0 5) / (D 0 5) = pgs D s := Nat.mul_div_cancel _ (by omega)
  rw [lpe] at es
  obtain ⟨t2, e2, w2, l2⟩ := Wm_n (k := 4) (n := 0) (Wm_nil xu) rfl (22 + 2 * pgs D s) (by decide) (by omega) (by omega)
  obtain ⟨t3, e3, w3, l3⟩ := Wm_n (k := 2) w2 l2 (D 0 5) (by decide) (by omega) (by omega)
  obtain ⟨t4, e4, w4, l4⟩ := Wm_n (k := 2) w3 l3 2 (by decide) (by omega) (by decide)
  obtain ⟨t5, e5, w5, l5⟩ := Wm_n (k := 8) w4 l4 (dad D s - (D 0 6)) (by decide) (by omega) (by omega)
  obtain ⟨t6, e6, w6, l6⟩ := Wm_n (k := 4) w5 l5 0 (by decide) (by omega) (by decide)
  obtain ⟨t7, e7, w7, l7⟩ := Wm_n (k := 2) w6 l6 (pgs D s) (by decide) (by omega) (by omega)
  have f2 := (DM_m w2.2.2.2 hMu).1.2.2.2.2.2.1
  have hM4 := DM_m w4.2.2.2 hMu
  have f4 := hM4.1.2.2.2.2.2.2
  have a4 := m_addrD hO hM4 (show s ≤ (D 0 0) by omega)
  have hM7 := DM_m w7.2.2.2 hMu
  have x7 := w7.1
  rw [l7] at x7
  have d6 := hM.1.1
  have E : f_X12_writeFixups_32b K (nI x) (nI s) τ = f_X12_writeFixups_149 K (nI x) (nI s) (nI (pgs D s)) (nI 0) t7 := by
    ((try simp (disch := first | decide | assumption | (simp (disch := first | decide | omega) only [ImC_sI, ImC_sJ, ImM_sI, ImM_sJ]; assumption) | omega) only [↓reduceIte, Nat.reduceAdd, Nat.reduceMul, Nat.reduceSub, Nat.reduceEqDiff, Nat.reducePow, Nat.reduceDiv, ↓zn_d, ↓bi_d, ↓bv_d, gd_T, ev_ib, true_or, or_true, eq_self, ite_true, ite_false, if_true, if_false, not_true_eq_false, not_false_eq_true, li_0, li_1, li_2, li_3, li_4, li_5, li_6, li_7, li_8, li_9, li_10, li_11, li_12, li_13, li_14, li_15, li_16, li_17, li_18, li_19, li_20, li_22, li_24, li_28, li_30, li_31, li_32, li_33, li_36, li_40, li_48, li_51, li_52, li_56, li_64, li_72, li_80, li_100, li_126, li_127, li_255, li_256, li_1024, li_1040, li_2048, li_4095, li_4096, li_65535, li_1073741824, ll_0, ll_1, ll_2, ll_3, ll_4, ll_5, ll_6, ll_7, ll_8, ll_9, ll_12, ll_15, ll_16, ll_20, ll_22, ll_24, ll_25, ll_28, ll_32, ll_40, ll_48, ll_64, ll_72, ll_80, ll_133, ll_255, ll_256, ll_512, ll_1024, ll_2048, ll_4096, ll_16384, ll_65535, ll_16777215, ll_16777228, ll_2147483647, ll_2147483648, ll_2147483700, ll_4277009103, ll_4294967295, ll_68719476735, ll_68719476736, ll_2234207627640832, ll_2251795518717952, ll_72057594037927935, ↓lm_1, ↓llm_1, ev_add, ev_sub, ev_mul, ev_div, ev_cl, ev_ltT, ev_ltF, ev_leT, ev_leF, ev_eqT, ev_eqF, ev_m1, ev_m1', ev_m1s, ev_dec, ev_nn, el_add, el_sub, el_mul, el_div, el_ltT, el_ltF, el_leT, el_leF, el_eqT, el_eqF, ev_l, el_i, el_m1, el_m1', rdI, rdJ, rdR, updF, updT, updLF, updLT, sI_l, sJ_l, sR_l, f_X12_writeFixups_32b, d6, eh, e1, x1, ← hu, es, d5, ed, e2, f2, e3, e4, a4, f4, e5, e6, e7]); first | done | rfl)
  have fin : ∃ τ', f_X12_writeFixups_149 K (nI x) (nI s) (nI (pgs D s)) (nI 0) t7 = K (nI x, nI (s + 1), τ') ∧ Wm (up p 4 + 22) (cat (fun i => num 2 (fi D s i)) (pgs D s)) t7 τ' := by
    unfold f_X12_writeFixups_149
    have key := it_for (F := fun K' (q : Int32 × Int32 × Int32 × Int32 × St) => f_X12_writeFixups_149b K K' q.1 q.2.1 q.2.2.1 q.2.2.2.1 q.2.2.2.2) (fun i q => ∃ τ', q = (nI x, nI s, nI (pgs D s), nI i, τ') ∧ Wm (up p 4 + 22) (cat (fun i => num 2 (fi D s i)) i) t7 τ') (pgs D s) (fun o => ∃ τ', o = K (nI x, nI (s + 1), τ') ∧ Wm (up p 4 + 22) (cat (fun i => num 2 (fi D s i)) (pgs D s)) t7 τ') ?_ ?_ FU 0 (nI x, nI s, nI (pgs D s), nI 0, t7) (by omega) (FU_lt (by omega)) ⟨t7, rfl, Wm_nil x7⟩
    · exact key
    · rintro K' q ⟨τ', rfl, hw⟩
      exact ⟨τ', by ((try simp (disch := first | decide | assumption | (simp (disch := first | decide | omega) only [ImC_sI, ImC_sJ, ImM_sI, ImM_sJ]; assumption) | omega) only [↓reduceIte, Nat.reduceAdd, Nat.reduceMul, Nat.reduceSub, Nat.reduceEqDiff, Nat.reducePow, Nat.reduceDiv, ↓zn_d, ↓bi_d, ↓bv_d, gd_T, ev_ib, true_or, or_true, eq_self, ite_true, ite_false, if_true, if_false, not_true_eq_false, not_false_eq_true, li_0, li_1, li_2, li_3, li_4, li_5, li_6, li_7, li_8, li_9, li_10, li_11, li_12, li_13, li_14, li_15, li_16, li_17, li_18, li_19, li_20, li_22, li_24, li_28, li_30, li_31, li_32, li_33, li_36, li_40, li_48, li_51, li_52, li_56, li_64, li_72, li_80, li_100, li_126, li_127, li_255, li_256, li_1024, li_1040, li_2048, li_4095, li_4096, li_65535, li_1073741824, ll_0, ll_1, ll_2, ll_3, ll_4, ll_5, ll_6, ll_7, ll_8, ll_9, ll_12, ll_15, ll_16, ll_20, ll_22, ll_24, ll_25, ll_28, ll_32, ll_40, ll_48, ll_64, ll_72, ll_80, ll_133, ll_255, ll_256, ll_512, ll_1024, ll_2048, ll_4096, ll_16384, ll_65535, ll_16777215, ll_16777228, ll_2147483647, ll_2147483648, ll_2147483700, ll_4277009103, ll_4294967295, ll_68719476735, ll_68719476736, ll_2234207627640832, ll_2251795518717952, ll_72057594037927935, ↓lm_1, ↓llm_1, ev_add, ev_sub, ev_mul, ev_div, ev_cl, ev_ltT, ev_ltF, ev_leT, ev_leF, ev_eqT, ev_eqF, ev_m1, ev_m1', ev_m1s, ev_dec, ev_nn, el_add, el_sub, el_mul, el_div, el_ltT, el_ltF, el_leT, el_leF, el_eqT, el_eqF, ev_l, el_i, el_m1, el_m1', rdI, rdJ, rdR, updF, updT, updLF, updLT, sI_l, sJ_l, sR_l, f_X12_writeFixups_149b, f_X12_writeFixups_235]); first | done | rfl), hw⟩
    · rintro K' i q hi ⟨τ', rfl, hw⟩ ih
      have hMi := DM_m hw.2.2.2 hM7
      have y := hw.1
      rw [cat_len (c := 2) i (fun k _ => num_len 2 _)] at y
      obtain ⟨τ2, e2, w2⟩ := m_page1 (x1 := nI x) hO hMi K K' hs hi lp y (by omega)
      show ∃ τ'', f_X12_writeFixups_149b K K' (nI x) (nI s) (nI (pgs D s)) (nI i) τ' = K (nI x, nI (s + 1), τ'') ∧ _
      rw [e2]
      refine ih _ ⟨τ2, rfl, Wm_tr hw ?_⟩
      rw [cat_len (c := 2) i (fun k _ => num_len 2 _)]
      exact w2
  obtain ⟨τ', g1, g2⟩ := fin
  have w8 : Wm (up p 4) (pgp D s) u τ' := by
    unfold pgp
    exact Wm_tr w7 (by rw [l7]; exact g2)
  have u90 : ∀ t, τ'.1 90 t = u.1 90 t := fun t => Wm_f w8 (a := 90) (b := t) (by unfold Eim; omega)
  refine ⟨τ', by rw [E, g1], ?_, by rw [u90, hu]; simp (disch := first | decide | omega) only [↓reduceIte, Nat.reduceAdd, Nat.reduceMul, Nat.reduceSub, Nat.reduceEqDiff, Nat.reducePow, Nat.reduceDiv, ↓zn_d, ↓bi_d, ↓bv_d, gd_T, ev_ib, true_or, or_true, eq_self, ite_true, ite_false, if_true, if_false, not_true_eq_false, not_false_eq_true, li_0, li_1, li_2, li_3, li_4, li_5, li_6, li_7, li_8, li_9, li_10, li_11, li_12, li_13, li_14, li_15, li_16, li_17, li_18, li_19, li_20, li_22, li_24, li_28, li_30, li_31, li_32, li_33, li_36, li_40, li_48, li_51, li_52, li_56, li_64, li_72, li_80, li_100, li_126, li_127, li_255, li_256, li_1024, li_1040, li_2048, li_4095, li_4096, li_65535, li_1073741824, ll_0, ll_1, ll_2, ll_3, ll_4, ll_5, ll_6, ll_7, ll_8, ll_9, ll_12, ll_15, ll_16, ll_20, ll_22, ll_24, ll_25, ll_28, ll_32, ll_40, ll_48, ll_64, ll_72, ll_80, ll_133, ll_255, ll_256, ll_512, ll_1024, ll_2048, ll_4096, ll_16384, ll_65535, ll_16777215, ll_16777228, ll_2147483647, ll_2147483648, ll_2147483700, ll_4277009103, ll_4294967295, ll_68719476735, ll_68719476736, ll_2234207627640832, ll_2251795518717952, ll_72057594037927935, ↓lm_1, ↓llm_1, ev_add, ev_sub, ev_mul, ev_div, ev_cl, ev_ltT, ev_ltF, ev_leT, ev_leF, ev_eqT, ev_eqF, ev_m1, ev_m1', ev_m1s, ev_dec, ev_nn, el_add, el_sub, el_mul, el_div, el_ltT, el_ltF, el_leT, el_leF, el_eqT, el_eqF, ev_l, el_i, el_m1, el_m1', rdI, rdJ, rdR, updF, updT, updLF, updLT, sI_l, sJ_l, sR_l], fun t ht => ?_⟩
  · refine WE_s0 (a := 90) (b := s) (v := nI 0) (WE_tr (WE_s (Wm_E w1 Eim_90) (a := 90) (b := s) (v := nI (up p 4 - x)) (by unfold E90; omega) (by omega) (by omega)) ?_) (by unfold E90; omega) (by omega)
    rw [zer_len, show p + (up p 4 - p) = up p 4 by omega, ← hu]
    exact Wm_E w8 Eim_90
  · rw [u90, hu, ev_sIf (by omega), Wm_f w1 (a := 90) (b := t) (by unfold Eim; omega), ev_sIf (by omega)]
theorem m_fpg {D : Nat → Nat → Nat} {τ : St} (hO : DOK D) (hM : DM D τ) {f : Nat} (hf : f % 8 = 0) (hf2 : f ≤ 6000) (h3 : τ.1 68 31 = nI (f + fpp D 0)) : ∃ K τ', f_X12_writeFixups_32 (nI (f + 28)) (nI 0) τ = f_X12_writeFixups_32b K (nI (f + 28)) (nI (D 0 0)) τ' ∧ WE E90 (f + fpp D 0) (fpg D (D 0 0)) τ τ' ∧ ∀ s, s < (D 0 0) → τ'.1 90 s = nI (sts D s) := by
  have o1 := hO.1
  unfold f_X12_writeFixups_32
  have key := it_for (F := fun K (q : Int32 × Int32 × St) => f_X12_writeFixups_32b K q.1 q.2.1 q.2.2) (fun i q => ∃ τ', q = (nI (f + 28), nI i, τ') ∧ WE E90 (f + fpp D 0) (fpg D i) τ τ' ∧ ∀ s, s < i → τ'.1 90 s = nI (sts D s)) (D 0 0) (fun o => ∃ K τ', o = f_X12_writeFixups_32b K (nI (f + 28)) (nI (D 0 0)) τ' ∧ WE E90 (f + fpp D 0) (fpg D (D 0 0)) τ τ' ∧ ∀ s, s < (D 0 0) → τ'.1 90 s = nI (sts D s)) ?_ ?_ FU 0 (nI (f + 28), nI 0, τ) (by omega) (FU_lt (by omega)) ⟨τ, rfl, Wm_E (Wm_nil h3) Eim_90, fun s hs => absurd hs (Nat.not_lt_zero _)⟩
  · exact key
  · rintro K q ⟨τ', rfl, hw, h9⟩
    exact ⟨K, τ', rfl, hw, h9⟩
  · rintro K i q hi ⟨τ', rfl, hw, h9⟩ ih
    have hMi := DM_9 hw.2.2.2 hM
    have f0 : fpp D 0 = 32 + 4 * (D 0 0) := rfl
    have fl := fpg_len D i
    have y := hw.1
    rw [show f + fpp D 0 + (fpg D i).length = f + fpp D i by omega] at y
    have fb := fpp_le hO (i + 1) (by omega)
    have fb0 := fpp_le hO i (by omega)
    have lu := up_le (z := fpp D i) (a := 4) (by decide)
    show ∃ K' τ'', f_X12_writeFixups_32b K (nI (f + 28)) (nI i) τ' = f_X12_writeFixups_32b K' (nI (f + 28)) (nI (D 0 0)) τ'' ∧ _
    rcases sts_0 hO hi with ⟨c1, c2⟩ | ⟨c1, c2, c3, c4⟩
    · have hM0 : DM D (sI τ' 90 i (nI 0)) := DM_9 (OM.sI OM.rf (by unfold E90; omega)) hMi
      have eh := m_hasP hO hM0 hi
      rw [if_pos c1] at eh
      have d6 := hMi.1.1
      have e : f_X12_writeFixups_32b K (nI (f + 28)) (nI i) τ' = K (nI (f + 28), nI (i + 1), sI τ' 90 i (nI 0)) := by
        ((try simp (disch := first | decide | assumption | (simp (disch := first | decide | omega) only [ImC_sI, ImC_sJ, ImM_sI, ImM_sJ]; assumption) | omega) only [↓reduceIte, Nat.reduceAdd, Nat.reduceMul, Nat.reduceSub, Nat.reduceEqDiff, Nat.reducePow, Nat.reduceDiv, ↓zn_d, ↓bi_d, ↓bv_d, gd_T, ev_ib, true_or, or_true, eq_self, ite_true, ite_false, if_true, if_false, not_true_eq_false, not_false_eq_true, li_0, li_1, li_2, li_3, li_4, li_5, li_6, li_7, li_8, li_9, li_10, li_11, li_12, li_13, li_14, li_15, li_16, li_17, li_18, li_19, li_20, li_22, li_24, li_28, li_30, li_31, li_32, li_33, li_36, li_40, li_48, li_51, li_52, li_56, li_64, li_72, li_80, li_100, li_126, li_127, li_255, li_256, li_1024, li_1040, li_2048, li_4095, li_4096, li_65535, li_1073741824, ll_0, ll_1, ll_2, ll_3, ll_4, ll_5, ll_6, ll_7, ll_8, ll_9, ll_12, ll_15, ll_16, ll_20, ll_22, ll_24, ll_25, ll_28, ll_32, ll_40, ll_48, ll_64, ll_72, ll_80, ll_133, ll_255, ll_256, ll_512, ll_1024, ll_2048, ll_4096, ll_16384, ll_65535, ll_16777215, ll_16777228, ll_2147483647, ll_2147483648, ll_2147483700, ll_4277009103, ll_4294967295, ll_68719476735, ll_68719476736, ll_2234207627640832, ll_2251795518717952, ll_72057594037927935, ↓lm_1, ↓llm_1, ev_add, ev_sub, ev_mul, ev_div, ev_cl, ev_ltT, ev_ltF, ev_leT, ev_leF, ev_eqT, ev_eqF, ev_m1, ev_m1', ev_m1s, ev_dec, ev_nn, el_add, el_sub, el_mul, el_div, el_ltT, el_ltF, el_leT, el_leF, el_eqT, el_eqF, ev_l, el_i, el_m1, el_m1', rdI, rdJ, rdR, updF, updT, updLF, updLT, sI_l, sJ_l, sR_l, f_X12_writeFixups_32b, f_X12_writeFixups_235, d6, eh]); first | done | rfl)
      rw [e]
      refine ih _ ⟨_, rfl, ?_, fun s hs => ?_⟩
      · have : fpg D (i + 1) = fpg D i := if_pos c1
        rw [this]
        exact WE_s hw (by unfold E90; omega) (by omega) (by omega)
      · by_cases g : s = i
        · subst g
          rw [c2]
          simp (disch := first | decide | omega) only [↓reduceIte, Nat.reduceAdd, Nat.reduceMul, Nat.reduceSub, Nat.reduceEqDiff, Nat.reducePow, Nat.reduceDiv, ↓zn_d, ↓bi_d, ↓bv_d, gd_T, ev_ib, true_or, or_true, eq_self, ite_true, ite_false, if_true, if_false, not_true_eq_false, not_false_eq_true, li_0, li_1, li_2, li_3, li_4, li_5, li_6, li_7, li_8, li_9, li_10, li_11, li_12, li_13, li_14, li_15, li_16, li_17, li_18, li_19, li_20, li_22, li_24, li_28, li_30, li_31, li_32, li_33, li_36, li_40, li_48, li_51, li_52, li_56, li_64, li_72, li_80, li_100, li_126, li_127, li_255, li_256, li_1024, li_1040, li_2048, li_4095, li_4096, li_65535, li_1073741824, ll_0, ll_1, ll_2, ll_3, ll_4, ll_5, ll_6, ll_7, ll_8, ll_9, ll_12, ll_15, ll_16, ll_20, ll_22, ll_24, ll_25, ll_28, ll_32, ll_40, ll_48, ll_64, ll_72, ll_80, ll_133, ll_255, ll_256, ll_512, ll_1024, ll_2048, ll_4096, ll_16384, ll_65535, ll_16777215, ll_16777228, ll_2147483647, ll_2147483648, ll_2147483700, ll_4277009103, ll_4294967295, ll_68719476735, ll_68719476736, ll_2234207627640832, ll_2251795518717952, ll_72057594037927935, ↓lm_1, ↓llm_1, ev_add, ev_sub, ev_mul, ev_div, ev_cl, ev_ltT, ev_ltF, ev_leT, ev_leF, ev_eqT, ev_eqF, ev_m1, ev_m1', ev_m1s, ev_dec, ev_nn, el_add, el_sub, el_mul, el_div, el_ltT, el_ltF, el_leT, el_leF, el_eqT, el_eqF, ev_l, el_i, el_m1, el_m1', rdI, rdJ, rdR, updF, updT, updLF, updLT, sI_l, sJ_l, sR_l]
        · rw [ev_sIf (by omega)]
          exact h9 s (by omega)
    · have f1 : fpp D (i + 1) = up (fpp D i) 4 + (22 + 2 * pgs D i) := if_neg c1
      have lp := (pgs_e hO hi).1
      obtain ⟨τ2, e2, w2, a1, a2⟩ := m_pages hO hMi K hi c1 (p := f + fpp D i) (by omega) (f + 28) (by rw [up4_add hf]; omega) y (by rw [up4_add hf]; omega)
      rw [e2]
      refine ih _ ⟨τ2, rfl, ?_, fun s hs => ?_⟩
      · have : fpg D (i + 1) = fpg D i ++ (zer (up (fpp D i) 4 - fpp D i) ++ pgp D i) := if_neg c1
        rw [this]
        refine WE_tr hw ?_
        rw [up4_add hf, show f + up (fpp D i) 4 - (f + fpp D i) = up (fpp D i) 4 - fpp D i by omega] at w2
        rw [show f + fpp D 0 + (fpg D i).length = f + fpp D i by omega]
        exact w2
      · by_cases g : s = i
        · subst g
          rw [a1, c2, up4_add hf, show f + up (fpp D s) 4 - (f + 28) = up (fpp D s) 4 - 28 by omega]
        · rw [a2 s g]
          exact h9 s (by omega)
theorem m_impr {D : Nat → Nat → Nat} {τ : St} {a : Int32} (hO : DOK D) (hM : DM D τ) {p : Nat} (h3 : τ.1 68 31 = nI p) (hz : p + 4 * (D 0 3) ≤ 9000) : ∃ K τ', f_X12_writeFixups_256 a (nI 0) (nI 0) τ = f_X12_writeFixups_256b K a (nI (lsm (D 18) (D 0 3))) (nI (D 0 3)) τ' ∧ Wm p (cat (imr D) (D 0 3)) τ τ' := by
  have hO' := hO
  obtain ⟨_, _, _, o4, _, _, _, ⟨_, _, _, n4⟩, _, _, _, _, o13, _⟩ := hO'
  unfold f_X12_writeFixups_256
  have key := it_for (F := fun K (q : Int32 × Int32 × Int32 × St) => f_X12_writeFixups_256b K q.1 q.2.1 q.2.2.1 q.2.2.2) (fun i q => ∃ τ', q = (a, nI (lsm (D 18) i), nI i, τ') ∧ Wm p (cat (imr D) i) τ τ') (D 0 3) (fun o => ∃ K τ', o = f_X12_writeFixups_256b K a (nI (lsm (D 18) (D 0 3))) (nI (D 0 3)) τ' ∧ Wm p (cat (imr D) (D 0 3)) τ τ') ?_ ?_ FU 0 (a, nI 0, nI 0, τ) (by omega) (FU_lt (by omega)) ⟨τ, rfl, Wm_nil h3⟩
  · exact key
  · rintro K q ⟨τ', rfl, hw⟩
    exact ⟨K, τ', rfl, hw⟩
  · rintro K i q hi ⟨τ', rfl, hw⟩ ih
    have hM1 := DM_m hw.2.2.2 hM
    have d := hM1.1.2.2.2.1
    have l := lsm_D hO (show i ≤ (D 0 3) by omega)
    have lL := (n4 i hi).2.1
    obtain ⟨d1, d2⟩ := hM1.2.2.2.2.2.2.1 i hi
    obtain ⟨_, _, q3⟩ := o13 i hi
    obtain ⟨τ2, e2, w2, _⟩ := Wm_n (k := 4) hw (imr_len D i) (imw D i) (by decide) (by omega) (imw_lt D i)
    have hM2 := DM_m w2.2.2.2 hM
    have d3 := m_longOf n4 hM2.2.1.2.2.2 hi (by omega)
    rw [imw_l] at e2
    unfold imv at e2
    have l2 : lsm (D 18) (i + 1) = lsm (D 18) i + (D 18 i + 1) := rfl
    have e : f_X12_writeFixups_256b K a (nI (lsm (D 18) i)) (nI i) τ' = K (a, nI (lsm (D 18) (i + 1)), nI (i + 1), τ2) := by
      rw [l2]
      rcases (show D 16 i = 0 ∨ D 16 i = 1 by omega) with w | w
      · rw [w] at d2 e2
        ((try simp (disch := first | decide | assumption | (simp (disch := first | decide | omega) only [ImC_sI, ImC_sJ, ImM_sI, ImM_sJ]; assumption) | omega) only [↓reduceIte, Nat.reduceAdd, Nat.reduceMul, Nat.reduceSub, Nat.reduceEqDiff, Nat.reducePow, Nat.reduceDiv, ↓zn_d, ↓bi_d, ↓bv_d, gd_T, ev_ib, true_or, or_true, eq_self, ite_true, ite_false, if_true, if_false, not_true_eq_false, not_false_eq_true, li_0, li_1, li_2, li_3, li_4, li_5, li_6, li_7, li_8, li_9, li_10, li_11, li_12, li_13, li_14, li_15, li_16, li_17, li_18, li_19, li_20, li_22, li_24, li_28, li_30, li_31, li_32, li_33, li_36, li_40, li_48, li_51, li_52, li_56, li_64, li_72, li_80, li_100, li_126, li_127, li_255, li_256, li_1024, li_1040, li_2048, li_4095, li_4096, li_65535, li_1073741824, ll_0, ll_1, ll_2, ll_3, ll_4, ll_5, ll_6, ll_7, ll_8, ll_9, ll_12, ll_15, ll_16, ll_20, ll_22, ll_24, ll_25, ll_28, ll_32, ll_40, ll_48, ll_64, ll_72, ll_80, ll_133, ll_255, ll_256, ll_512, ll_1024, ll_2048, ll_4096, ll_16384, ll_65535, ll_16777215, ll_16777228, ll_2147483647, ll_2147483648, ll_2147483700, ll_4277009103, ll_4294967295, ll_68719476735, ll_68719476736, ll_2234207627640832, ll_2251795518717952, ll_72057594037927935, ↓lm_1, ↓llm_1, ev_add, ev_sub, ev_mul, ev_div, ev_cl, ev_ltT, ev_ltF, ev_leT, ev_leF, ev_eqT, ev_eqF, ev_m1, ev_m1', ev_m1s, ev_dec, ev_nn, el_add, el_sub, el_mul, el_div, el_ltT, el_ltF, el_leT, el_leF, el_eqT, el_eqF, ev_l, el_i, el_m1, el_m1', rdI, rdJ, rdR, updF, updT, updLF, updLT, sI_l, sJ_l, sR_l, f_X12_writeFixups_256b, f_X12_writeFixups_290, d, d1, d2]); (try simp (disch := first | decide | assumption | (simp (disch := first | decide | omega) only [ImC_sI, ImC_sJ, ImM_sI, ImM_sJ]; assumption) | omega) only [↓reduceIte, Nat.reduceAdd, Nat.reduceMul, Nat.reduceSub, Nat.reduceEqDiff, Nat.reducePow, Nat.reduceDiv, ↓zn_d, ↓bi_d, ↓bv_d, gd_T, ev_ib, true_or, or_true, eq_self, ite_true, ite_false, if_true, if_false, not_true_eq_false, not_false_eq_true, li_0, li_1, li_2, li_3, li_4, li_5, li_6, li_7, li_8, li_9, li_10, li_11, li_12, li_13, li_14, li_15, li_16, li_17, li_18, li_19, li_20, li_22, li_24, li_28, li_30, li_31, li_32, li_33, li_36, li_40, li_48, li_51, li_52, li_56, li_64, li_72, li_80, li_100, li_126, li_127, li_255, li_256, li_1024, li_1040, li_2048, li_4095, li_4096, li_65535, li_1073741824, ll_0, ll_1, ll_2, ll_3, ll_4, ll_5, ll_6, ll_7, ll_8, ll_9, ll_12, ll_15, ll_16, ll_20, ll_22, ll_24, ll_25, ll_28, ll_32, ll_40, ll_48, ll_64, ll_72, ll_80, ll_133, ll_255, ll_256, ll_512, ll_1024, ll_2048, ll_4096, ll_16384, ll_65535, ll_16777215, ll_16777228, ll_2147483647, ll_2147483648, ll_2147483700, ll_4277009103, ll_4294967295, ll_68719476735, ll_68719476736, ll_2234207627640832, ll_2251795518717952, ll_72057594037927935, ↓lm_1, ↓llm_1, ev_add, ev_sub, ev_mul, ev_div, ev_cl, ev_ltT, ev_ltF, ev_leT, ev_leF, ev_eqT, ev_eqF, ev_m1, ev_m1', ev_m1s, ev_dec, ev_nn, el_add, el_sub, el_mul, el_div, el_ltT, el_ltF, el_leT, el_leF, el_eqT, el_eqF, ev_l, el_i, el_m1, el_m1', rdI, rdJ, rdR, updF, updT, updLF, updLT, sI_l, sJ_l, sR_l, e2, d3]); first | done | rfl)
      · rw [w] at d2 e2
        ((try simp (disch := first | decide | assumption | (simp (disch := first | decide | omega) only [ImC_sI, ImC_sJ, ImM_sI, ImM_sJ]; assumption) | omega) only [↓reduceIte, Nat.reduceAdd, Nat.reduceMul, Nat.reduceSub, Nat.reduceEqDiff, Nat.reducePow, Nat.reduceDiv, ↓zn_d, ↓bi_d, ↓bv_d, gd_T, ev_ib, true_or, or_true, eq_self, ite_true, ite_false, if_true, if_false, not_true_eq_false, not_false_eq_true, li_0, li_1, li_2, li_3, li_4, li_5, li_6, li_7, li_8, li_9, li_10, li_11, li_12, li_13, li_14, li_15, li_16, li_17, li_18, li_19, li_20, li_22, li_24, li_28, li_30, li_31, li_32, li_33, li_36, li_40, li_48, li_51, li_52, li_56, li_64, li_72, li_80, li_100, li_126, li_127, li_255, li_256, li_1024, li_1040, li_2048, li_4095, li_4096, li_65535, li_1073741824, ll_0, ll_1, ll_2, ll_3, ll_4, ll_5, ll_6, ll_7, ll_8, ll_9, ll_12, ll_15, ll_16, ll_20, ll_22, ll_24, ll_25, ll_28, ll_32, ll_40, ll_48, ll_64, ll_72, ll_80, ll_133, ll_255, ll_256, ll_512, ll_1024, ll_2048, ll_4096, ll_16384, ll_65535, ll_16777215, ll_16777228, ll_2147483647, ll_2147483648, ll_2147483700, ll_4277009103, ll_4294967295, ll_68719476735, ll_68719476736, ll_2234207627640832, ll_2251795518717952, ll_72057594037927935, ↓lm_1, ↓llm_1, ev_add, ev_sub, ev_mul, ev_div, ev_cl, ev_ltT, ev_ltF, ev_leT, ev_leF, ev_eqT, ev_eqF, ev_m1, ev_m1', ev_m1s, ev_dec, ev_nn, el_add, el_sub, el_mul, el_div, el_ltT, el_ltF, el_leT, el_leF, el_eqT, el_eqF, ev_l, el_i, el_m1, el_m1', rdI, rdJ, rdR, updF, updT, updLF, updLT, sI_l, sJ_l, sR_l, f_X12_writeFixups_256b, f_X12_writeFixups_290, d, d1, d2]); (try simp (disch := first | decide | assumption | (simp (disch := first | decide | omega) only [ImC_sI, ImC_sJ, ImM_sI, ImM_sJ]; assumption) | omega) only [↓reduceIte, Nat.reduceAdd, Nat.reduceMul, Nat.reduceSub, Nat.reduceEqDiff, Nat.reducePow, Nat.reduceDiv, ↓zn_d, ↓bi_d, ↓bv_d, gd_T, ev_ib, true_or, or_true, eq_self, ite_true, ite_false, if_true, if_false, not_true_eq_false, not_false_eq_true, li_0, li_1, li_2, li_3, li_4, li_5, li_6, li_7, li_8, li_9, li_10, li_11, li_12, li_13, li_14, li_15, li_16, li_17, li_18, li_19, li_20, li_22, li_24, li_28, li_30, li_31, li_32, li_33, li_36, li_40, li_48, li_51, li_52, li_56, li_64, li_72, li_80, li_100, li_126, li_127, li_255, li_256, li_1024, li_1040, li_2048, li_4095, li_4096, li_65535, li_1073741824, ll_0, ll_1, ll_2, ll_3, ll_4, ll_5, ll_6, ll_7, ll_8, ll_9, ll_12, ll_15, ll_16, ll_20, ll_22, ll_24, ll_25, ll_28, ll_32, ll_40, ll_48, ll_64, ll_72, ll_80, ll_133, ll_255, ll_256, ll_512, ll_1024, ll_2048, ll_4096, ll_16384, ll_65535, ll_16777215, ll_16777228, ll_2147483647, ll_2147483648, ll_2147483700, ll_4277009103, ll_4294967295, ll_68719476735, ll_68719476736, ll_2234207627640832, ll_2251795518717952, ll_72057594037927935, ↓lm_1, ↓llm_1, ev_add, ev_sub, ev_mul, ev_div, ev_cl, ev_ltT, ev_ltF, ev_leT, ev_leF, ev_eqT, ev_eqF, ev_m1, ev_m1', ev_m1s, ev_dec, ev_nn, el_add, el_sub, el_mul, el_div, el_ltT, el_ltF, el_leT, el_leF, el_eqT, el_eqF, ev_l, el_i, el_m1, el_m1', rdI, rdJ, rdR, updF, updT, updLF, updLT, sI_l, sJ_l, sR_l, e2, d3]); first | done | rfl)
    show ∃ K' τ'', f_X12_writeFixups_256b K a (nI (lsm (D 18) i)) (nI i) τ' = f_X12_writeFixups_256b K' a (nI (lsm (D 18) (D 0 3))) (nI (D 0 3)) τ'' ∧ _
    rw [e]
    exact ih _ ⟨τ2, rfl, w2⟩
