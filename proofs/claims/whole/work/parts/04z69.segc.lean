theorem Wc_r {z n c k1 n1 fr : Nat} {f : Nat → Nat} {L : List Nat} {σ0 σ : St} (h : Wc z L σ0 σ) (hl : L.length = n) (hz : z + n + c ≤ 6400) (h2 : fr + c ≤ n1) (hn1 : n1 ≤ 20000) (hk : k1 ≠ 3 ∧ k1 ≠ 4) (hf : ∀ i, i < c → σ0.1 k1 (fr + i) = sb_b (f i) ∧ f i < 256) : ∃ σ', f_X6_addFrom 3 6400 k1 n1 (nI fr) (nI c) σ = some σ' ∧ Wc z (L ++ rng c f) σ0 σ' ∧ (L ++ rng c f).length = n + c := by
  subst hl
  obtain ⟨σ', e, w⟩ := w_from (f := f) h.1 hz h2 hn1 (fun i hi => by rw [Wc_f h (a := k1) (b := fr + i) (by unfold Eic; omega)]; exact hf i hi)
  exact ⟨σ', e, Wc_tr h w, by rw [List.length_append, rng_len]⟩
theorem Wc_z {z n c : Nat} {L : List Nat} {σ0 σ : St} (h : Wc z L σ0 σ) (hl : L.length = n) (hz : z + n + c ≤ 6400) : ∃ σ', f_X6_addZeros 3 6400 (nI c) σ = some σ' ∧ Wc z (L ++ zer c) σ0 σ' ∧ (L ++ zer c).length = n + c := by
  subst hl
  obtain ⟨σ', e, w⟩ := w_zer (k := c) h.1 hz
  exact ⟨σ', e, Wc_tr h w, by rw [List.length_append, zer_len]⟩
theorem Wm_r {p n c r : Nat} {f : Nat → Nat} {L : List Nat} {τ0 τ : St} (h : Wm p L τ0 τ) (hl : L.length = n) (hz : p + n + c ≤ 9000) (hr : r < 82) (hc : c ≤ 16) (hf : ∀ i, i < c → τ0.1 70 (16 * r + i) = nI (f i) ∧ f i < 256) : ∃ τ', f_X12_putName (nI r) (nI c) τ = some τ' ∧ Wm p (L ++ rng c f) τ0 τ' ∧ (L ++ rng c f).length = n + c := by
  subst hl
  obtain ⟨τ', e, w⟩ := w_name (f := f) h.1 hz hr hc (fun i hi => by rw [Wm_f h (a := 70) (b := 16 * r + i) (by unfold Eim; omega)]; exact hf i hi)
  exact ⟨τ', e, Wm_tr h w, by rw [List.length_append, rng_len]⟩
def segc (N : Nat → Nat) (ad sp O B A c : Nat) : List Nat := [] ++ num 4 25 ++ num 4 (72 + 80 * c) ++ rng 16 N ++ num 8 ad ++ num 8 sp ++ num 8 O ++ num 8 B ++ num 4 7 ++ num 4 A ++ num 4 c ++ num 4 0
set_option maxHeartbeats 4000000 in
theorem c_segc {z s ad sp O B A c : Nat} {N : Nat → Nat} {σ : St} (hs : σ.1 3 1 = nI z) (hz : z + 72 ≤ 6400) (h4 : s < 4) (hc : c ≤ 8) (es : f_X8_sectionsOf (nI s) σ = some (nI c, σ)) (ea : ∀ σ', OM Eic σ σ' → f_X8_addressOf (nI s) σ' = some (nI ad, σ')) (ep : ∀ σ', OM Eic σ σ' → f_X8_spanOf (nI s) σ' = some (nI sp, σ')) (hN : ∀ i, i < 16 → σ.1 7 (s * 16 + i) = sb_b (N i) ∧ N i < 256) (h31 : σ.1 31 s = nI O) (h9 : σ.1 9 s = nI B) (h10 : σ.1 10 s = nI A) (had : ad < 2 ^ 31) (hsp : sp < 2 ^ 31) (hO : O < 2 ^ 31) (hB : B < 2 ^ 31) (hA : A < 2 ^ 31) : ∃ σ', f_X10_addSegmentCommand (nI s) σ = some σ' ∧ Wc z (segc N ad sp O B A c) σ σ' ∧ (segc N ad sp O B A c).length = 72 := by
  obtain ⟨t1, e1, w1, l1⟩ := Wc_n (k := 4) (n := 0) (Wc_nil hs) rfl 25 (by decide) (by omega) (by decide)
  obtain ⟨t2, e2, w2, l2⟩ := Wc_n (k := 4) w1 l1 (72 + 80 * c) (by decide) (by omega) (by omega)
  obtain ⟨t3, e3, w3, l3⟩ := Wc_r (k1 := 7) (n1 := 64) (fr := s * 16) (c := 16) (f := N) w2 l2 (by omega) (by omega) (by decide) (by decide) hN
  obtain ⟨t4, e4, w4, l4⟩ := Wc_n (k := 8) w3 l3 ad (by decide) (by omega) (by omega)
  obtain ⟨t5, e5, w5, l5⟩ := Wc_n (k := 8) w4 l4 sp (by decide) (by omega) (by omega)
  obtain ⟨t6, e6, w6, l6⟩ := Wc_n (k := 8) w5 l5 O (by decide) (by omega) (by omega)
  obtain ⟨t7, e7, w7, l7⟩ := Wc_n (k := 8) w6 l6 B (by decide) (by omega) (by omega)
  obtain ⟨t8, e8, w8, l8⟩ := Wc_n (k := 4) w7 l7 7 (by decide) (by omega) (by decide)
  obtain ⟨t9, e9, w9, l9⟩ := Wc_n (k := 4) w8 l8 A (by decide) (by omega) (by omega)
  obtain ⟨t10, e10, w10, l10⟩ := Wc_n (k := 4) w9 l9 c (by decide) (by omega) (by omega)
  obtain ⟨t11, e11, w11, l11⟩ := Wc_n (k := 4) w10 l10 0 (by decide) (by omega) (by decide)
  have a3 := ea t3 w3.2.2.2.2
  have p4 := ep t4 w4.2.2.2.2
  have f5 := (Wc_f w5 (a := 31) (b := s) (by unfold Eic; omega)).trans h31
  have f6 := (Wc_f w6 (a := 9) (b := s) (by unfold Eic; omega)).trans h9
  have f8 := (Wc_f w8 (a := 10) (b := s) (by unfold Eic; omega)).trans h10
  exact ⟨t11, by ((try simp (disch := first | decide | assumption | (simp (disch := first | decide | omega) only [ImC_sI, ImC_sJ, ImM_sI, ImM_sJ]; assumption) | omega) only [↓reduceIte, Nat.reduceAdd, Nat.reduceMul, Nat.reduceSub, Nat.reduceEqDiff, Nat.reducePow, Nat.reduceDiv, ↓zn_d, ↓bi_d, ↓bv_d, gd_T, ev_ib, true_or, or_true, eq_self, ite_true, ite_false, if_true, if_false, not_true_eq_false, not_false_eq_true, li_0, li_1, li_2, li_3, li_4, li_5, li_6, li_7, li_8, li_9, li_10, li_11, li_12, li_13, li_14, li_15, li_16, li_17, li_18, li_19, li_20, li_22, li_24, li_28, li_30, li_31, li_32, li_33, li_36, li_40, li_48, li_51, li_52, li_56, li_64, li_72, li_80, li_100, li_126, li_127, li_255, li_256, li_1024, li_1040, li_2048, li_4095, li_4096, li_65535, li_1073741824, ll_0, ll_1, ll_2, ll_3, ll_4, ll_5, ll_6, ll_7, ll_8, ll_9, ll_12, ll_15, ll_16, ll_20, ll_22, ll_24, ll_25, ll_28, ll_32, ll_40, ll_48, ll_64, ll_72, ll_80, ll_133, ll_255, ll_256, ll_512, ll_1024, ll_2048, ll_4096, ll_16384, ll_65535, ll_16777215, ll_16777228, ll_2147483647, ll_2147483648, ll_2147483700, ll_4277009103, ll_4294967295, ll_68719476735, ll_68719476736, ll_2234207627640832, ll_2251795518717952, ll_72057594037927935, ↓lm_1, ↓llm_1, ev_add, ev_sub, ev_mul, ev_div, ev_cl, ev_ltT, ev_ltF, ev_leT, ev_leF, ev_eqT, ev_eqF, ev_m1, ev_m1', ev_m1s, ev_dec, ev_nn, el_add, el_sub, el_mul, el_div, el_ltT, el_ltF, el_leT, el_leF, el_eqT, el_eqF, ev_l, el_i, el_m1, el_m1', rdI, rdJ, rdR, updF, updT, updLF, updLT, sI_l, sJ_l, sR_l, f_X10_addSegmentCommand, f_X5_addFilledTo, es, e1, e2, e3, a3, e4, p4, e5, f5, e6, f6, e7, e8, f8, e9, e10, e11]); first | done | rfl), w11, l11⟩
set_option maxHeartbeats 4000000 in
theorem m_segc {p s ns ad sp O B A c : Nat} {N : Nat → Nat} {τ : St} (K : (Int32 × St) → Option St) (hs : τ.1 68 31 = nI p) (hz : p + 72 ≤ 9000) (h4 : s < ns) (hn : ns ≤ 4) (h6 : τ.1 68 6 = nI ns) (hc : c ≤ 8) (es : f_X12_sectionsOf (nI s) τ = some (nI c, τ)) (ea : ∀ σ', OM Eim τ σ' → f_X12_addressOf (nI s) σ' = some (nI ad, σ')) (ep : ∀ σ', OM Eim τ σ' → f_X12_spanOf (nI s) σ' = some (nI sp, σ')) (hN : ∀ i, i < 16 → τ.1 70 (16 * s + i) = nI (N i) ∧ N i < 256) (h31 : τ.1 89 s = nI O) (h9 : τ.1 71 s = nI B) (h10 : τ.1 72 s = nI A) (had : ad < 2 ^ 31) (hsp : sp < 2 ^ 31) (hO : O < 2 ^ 31) (hB : B < 2 ^ 31) (hA : A < 2 ^ 31) : ∃ τ', f_X12_writeCommands_33b K (nI s) τ = f_X12_writeCommands_145 K (nI s) (nI 1) τ' ∧ Wm p (segc N ad sp O B A c) τ τ' ∧ (segc N ad sp O B A c).length = 72 := by
  obtain ⟨t1, e1, w1, l1⟩ := Wm_n (k := 4) (n := 0) (Wm_nil hs) rfl 25 (by decide) (by omega) (by decide)
  obtain ⟨t2, e2, w2, l2⟩ := Wm_n (k := 4) w1 l1 (72 + 80 * c) (by decide) (by omega) (by omega)
  obtain ⟨t3, e3, w3, l3⟩ := Wm_r (r := s) (c := 16) (f := N) w2 l2 (by omega) (by omega) (by omega) hN
  obtain ⟨t4, e4, w4, l4⟩ := Wm_n (k := 8) w3 l3 ad (by decide) (by omega) (by omega)
  obtain ⟨t5, e5, w5, l5⟩ := Wm_n (k := 8) w4 l4 sp (by decide) (by omega) (by omega)
  obtain ⟨t6, e6, w6, l6⟩ := Wm_n (k := 8) w5 l5 O (by decide) (by omega) (by omega)
  obtain ⟨t7, e7, w7, l7⟩ := Wm_n (k := 8) w6 l6 B (by decide) (by omega) (by omega)
  obtain ⟨t8, e8, w8, l8⟩ := Wm_4 w7 l7 7 A c 0 (by omega) (by decide) (by omega) (by omega) (by decide)
  have a3 := ea t3 w3.2.2.2
  have p4 := ep t4 w4.2.2.2
  have f5 := (Wm_f w5 (a := 89) (b := s) (by unfold Eim; omega)).trans h31
  have f6 := (Wm_f w6 (a := 71) (b := s) (by unfold Eim; omega)).trans h9
  have f7 := (Wm_f w7 (a := 72) (b := s) (by unfold Eim; omega)).trans h10
  exact ⟨t8, by ((try simp (disch := first | decide | assumption | (simp (disch := first | decide | omega) only [ImC_sI, ImC_sJ, ImM_sI, ImM_sJ]; assumption) | omega) only [↓reduceIte, Nat.reduceAdd, Nat.reduceMul, Nat.reduceSub, Nat.reduceEqDiff, Nat.reducePow, Nat.reduceDiv, ↓zn_d, ↓bi_d, ↓bv_d, gd_T, ev_ib, true_or, or_true, eq_self, ite_true, ite_false, if_true, if_false, not_true_eq_false, not_false_eq_true, li_0, li_1, li_2, li_3, li_4, li_5, li_6, li_7, li_8, li_9, li_10, li_11, li_12, li_13, li_14, li_15, li_16, li_17, li_18, li_19, li_20, li_22, li_24, li_28, li_30, li_31, li_32, li_33, li_36, li_40, li_48, li_51, li_52, li_56, li_64, li_72, li_80, li_100, li_126, li_127, li_255, li_256, li_1024, li_1040, li_2048, li_4095, li_4096, li_65535, li_1073741824, ll_0, ll_1, ll_2, ll_3, ll_4, ll_5, ll_6, ll_7, ll_8, ll_9, ll_12, ll_15, ll_16, ll_20, ll_22, ll_24, ll_25, ll_28, ll_32, ll_40, ll_48, ll_64, ll_72, ll_80, ll_133, ll_255, ll_256, ll_512, ll_1024, ll_2048, ll_4096, ll_16384, ll_65535, ll_16777215, ll_16777228, ll_2147483647, ll_2147483648, ll_2147483700, ll_4277009103, ll_4294967295, ll_68719476735, ll_68719476736, ll_2234207627640832, ll_2251795518717952, ll_72057594037927935, ↓lm_1, ↓llm_1, ev_add, ev_sub, ev_mul, ev_div, ev_cl, ev_ltT, ev_ltF, ev_leT, ev_leF, ev_eqT, ev_eqF, ev_m1, ev_m1', ev_m1s, ev_dec, ev_nn, el_add, el_sub, el_mul, el_div, el_ltT, el_ltF, el_leT, el_leF, el_eqT, el_eqF, ev_l, el_i, el_m1, el_m1', rdI, rdJ, rdR, updF, updT, updLF, updLT, sI_l, sJ_l, sR_l, f_X12_writeCommands_33b, h6, es, e1, e2, e3, a3, e4, p4, e5, f5, e6, f6, e7, f7, e8]); first | done | rfl), w8, l8⟩
