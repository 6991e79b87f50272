theorem OM.mono {E E' : Nat → Nat → Prop} {σ σ' : St} (h : OM E σ σ') (hE : ∀ a b, E a b → E' a b) : OM E' σ σ' := ⟨fun a b hn => h.1 a b (fun q => hn (hE a b q)), fun a b hn => h.2 a b (fun q => hn (hE a b q))⟩
theorem Fr_OM {S : List Nat} {E : Nat → Nat → Prop} {σ σ' : St} (h : Fr S σ σ') (hE : ∀ a b, a ∈ S → E a b) : OM E σ σ' := ⟨fun a b hn => by rw [(h a (fun q => hn (hE a b q))).1], fun a b hn => by rw [(h a (fun q => hn (hE a b q))).2]⟩
def E53 (a _b : Nat) : Prop := 53 ≤ a ∧ a ≤ 67
def E63 (a b : Nat) : Prop := (a = 68 ∧ 63 ≤ b ∧ b ≤ 65) ∨ (98 ≤ a ∧ a ≤ 109)
theorem SgR_M {z n : Nat} {G : Nat → Nat → Nat} {E : Nat → Nat → Prop} {σ τ τ' : St} (h : OM E τ τ') (h1 : ¬ E 68 41 ∧ ¬ E 68 43) (h2 : ∀ a s, 91 ≤ a → a ≤ 94 → ¬ E a s) (hG : SgR z n G σ τ) : SgR z n G σ τ' := by
  obtain ⟨hn4, h41, m41, m43, hsum, hseg, hov⟩ := hG
  refine ⟨hn4, h41, by rw [h.1 68 41 h1.1]; exact m41, by rw [h.1 68 43 h1.2]; exact m43, hsum, fun s hs => ?_, hov⟩
  rw [h.2 91 s (h2 _ _ (by decide) (by decide)), h.2 92 s (h2 _ _ (by decide) (by decide)), h.2 93 s (h2 _ _ (by decide) (by decide)), h.2 94 s (h2 _ _ (by decide) (by decide))]
  exact hseg s hs
set_option maxHeartbeats 4000000 in
theorem r_load2 {b : Nat → Nat} {z n f sz ne m ip np v hs : Nat} {G Y W : Nat → Nat → Nat} {D V : Nat → Nat} {σ τ : St} {sl : Int32} (hI : ImC b z σ) (hB : Bys (σ.1 4)) (hM : ImM b z τ) (hG : SgR z n G σ τ) (hSy : SyR z hs V σ τ) (hSO : SymOK b V (V 1)) (hfz : f + sz ≤ z) (hY : ExY ne Y) (hE : ExM ne Y τ) (g0 : 0 < v → τ.2 68 55 = lN (f + sz)) (hm : m ≤ 64) (hip : ip + 4 * m ≤ f + sz) (hnp2 : np < 2 ^ 40) (x9 : σ.1 46 9 = nI m) (hIp : 0 < v → IpM ip m np τ) (hi : ∀ i, i < m → ImpP b ne Y ip np (f + sz) i σ) (hD : FitD n G sl D) (hv : v ≤ 2048) (hV : VsR n m v G W σ τ) :
    ∃ σ' τ', (bv (f_X4_take 3 6400 sl σ) fun s19 => f_X4_setPointers sl s19) = some σ' ∧ f_X12_keeps sl τ = some τ' ∧ LdR σ' τ' ∧ LvR σ' τ' ∧ LyR σ' τ' ∧ OM E53 σ σ' ∧ OM E63 τ τ' := by
  obtain ⟨y1, y2, y3, y4, y5, y6, y7, y8, y9, y10, y11, y12⟩ := hSy
  obtain ⟨V47, V59, hV⟩ := hV
  have hz := hI.1
  obtain ⟨hn4, h41, m41, m43, hsum, hseg, hov⟩ := id hG
  obtain ⟨σ3, t1, t2, t3, t4, t5⟩ := c_takeSegs hI hB hG hD
  have hI3 : ImC b z σ3 := ImC_OM (Fr_OM (E := E53) t5 (fun a b h => by simp at h; unfold E53; omega)) (by unfold E53; omega) (fun j => by unfold E53; omega) hI
  have hB3 : Bys (σ3.1 4) := by rw [(t5 4 (by decide)).1]; exact hB
  obtain ⟨σ4, u1, u2, u3, u4, u5, u6⟩ := c_takeSyms (sl := sl) (V := V) hI3 hB3 (by rw [(t5 40 (by decide)).1]; exact y4) (by rw [(t5 40 (by decide)).1]; exact y5) (by rw [(t5 40 (by decide)).1]; exact y6) (by rw [(t5 40 (by decide)).1]; exact y7) y10 y11 y12
  have eT : f_X4_take 3 6400 sl σ = some σ4 := by
    have : f_X4_take 3 6400 sl σ = bv (f_X4_takeSegments 3 6400 41 sl σ) fun s2 => bv (f_X6_clear 64 6400 s2) fun s4 => bv (f_X6_addFrom 64 6400 (3 + 1) 6400 (s4.1 40 7) (s4.1 40 8) s4) fun s6 => zn (sI s6 53 6 (s6.1 40 5)) fun s7 => zn (0 : Int32) fun v8 => f_X4_take_47 3 6400 sl v8 s7 := rfl
    rw [this, t1, bv_t, u1]
  obtain ⟨σ5, hσ5⟩ : ∃ x, x = sI σ4 61 2 (nI 0) := ⟨_, rfl⟩
  have eS : f_X4_setPointers sl σ4 = f_X4_setPointers_9 sl (nI 0) σ5 := by rw [hσ5]; rfl
  -- reference
  obtain ⟨τ2, hτ2⟩ : ∃ x, x = sI τ 68 63 (nI n) := ⟨_, rfl⟩
  have eK : f_X12_keeps sl τ = f_X12_keeps_12 sl (nI 0) (nI 0) τ2 := by
    rw [hτ2, ← m41]
    rfl
  have hM2 : ImM b z τ2 := by rw [hτ2, ImM_sI (by omega) (by decide)]; exact hM
  have oT2 : OM E63 τ τ2 := by rw [hτ2]; exact OM.sI OM.rf (by unfold E63; omega)
  have hG2 : SgR z n G σ τ2 := SgR_M oT2 ⟨by unfold E63; omega, by unfold E63; omega⟩ (fun a s _ _ => by unfold E63; omega) hG
  obtain ⟨τ3, k1, k2, k3, k4⟩ := m_keep12 (v := v) hM2 hG2 hD (by rw [hτ2]; simp (disch := first | decide | omega) only [↓reduceIte, Nat.reduceAdd, Nat.reduceMul, Nat.reduceSub, Nat.reduceEqDiff, Nat.reducePow, Nat.reduceDiv, ↓zn_d, ↓bi_d, ↓bv_d, gd_T, ev_ib, true_or, or_true, eq_self, ite_true, ite_false, if_true, if_false, not_true_eq_false, not_false_eq_true, li_0, li_1, li_2, li_3, li_4, li_5, li_6, li_7, li_8, li_9, li_10, li_11, li_12, li_13, li_14, li_15, li_16, li_17, li_18, li_19, li_20, li_22, li_24, li_28, li_30, li_31, li_32, li_33, li_36, li_40, li_48, li_51, li_52, li_56, li_64, li_72, li_80, li_100, li_126, li_127, li_255, li_256, li_1024, li_1040, li_2048, li_4095, li_4096, li_65535, li_1073741824, ll_0, ll_1, ll_2, ll_3, ll_4, ll_5, ll_6, ll_7, ll_8, ll_9, ll_12, ll_15, ll_16, ll_20, ll_22, ll_24, ll_25, ll_28, ll_32, ll_40, ll_48, ll_64, ll_72, ll_80, ll_133, ll_255, ll_256, ll_512, ll_1024, ll_2048, ll_4096, ll_16384, ll_65535, ll_16777215, ll_16777228, ll_2147483647, ll_2147483648, ll_2147483700, ll_4277009103, ll_4294967295, ll_68719476735, ll_68719476736, ll_2234207627640832, ll_2251795518717952, ll_72057594037927935, ↓lm_1, ↓llm_1, ev_add, ev_sub, ev_mul, ev_div, ev_cl, ev_ltT, ev_ltF, ev_leT, ev_leF, ev_eqT, ev_eqF, ev_m1, ev_m1', ev_m1s, ev_dec, ev_nn, el_add, el_sub, el_mul, el_div, el_ltT, el_ltF, el_leT, el_leF, el_eqT, el_eqF, ev_l, el_i, el_m1, el_m1', rdI, rdJ, rdR, updF, updT, updLF, updLT, sI_l, sJ_l, sR_l, V59])
  obtain ⟨τ4, hτ4⟩ : ∃ x, x = sI τ3 68 64 (nI v) := ⟨_, rfl⟩
  have oT4 : OM E63 τ τ4 := by
    rw [hτ4]
    exact OM.sI (OM.tr oT2 (k4.mono (fun a b h => by unfold E12 at h; unfold E63; omega))) (by unfold E63; omega)
  have c5 : ∀ a, a ≠ 61 → σ5.1 a = σ4.1 a := fun a ha => by rw [hσ5]; exact sI_n a ha
  have f4 : ∀ a, a ∉ E64 → a ∉ [54, 55, 56, 57, 58, 59, 60] → σ4.1 a = σ.1 a ∧ σ4.2 a = σ.2 a := fun a h1 h2 => ⟨(u6 a h1).1.trans (t5 a h2).1, (u6 a h1).2.trans (t5 a h2).2⟩
  have hL5 : LsC n (G 1) D σ5 := by
    obtain ⟨l1, l2⟩ := t2
    unfold LsC
    rw [c5 54 (by decide), c5 55 (by decide), c5 56 (by decide), c5 57 (by decide), (u6 54 (by decide)).1, (u6 55 (by decide)).1, (u6 56 (by decide)).1, (u6 57 (by decide)).1]
    exact ⟨l1, l2⟩
  have hL4 : LsM n (G 1) D τ4 := by
    unfold LsM
    rw [hτ4, sI_l, sI_n 100 (by decide)]
    exact k2
  have hMm : MmR (sumS (G 1) n) σ5 τ4 := by
    intro j hj
    obtain ⟨s, i, h1, h2, h3⟩ := sumS_find n j hj
    rw [hτ4, ev_sIf (by omega), c5 60 (by decide), (u6 60 (by decide)).1, h3, k3 s h1 i h2, t4 s h1 i h2]
  have e552 : ∀ a, 39 ≤ a → a ≤ 52 → σ5.1 a = σ.1 a ∧ σ5.2 a = σ.2 a := by
    intro a h1 h2
    have q := f4 a (by unfold E64; simp; omega) (by simp; omega)
    exact ⟨(c5 a (by omega)).trans q.1, by rw [hσ5, sI_l]; exact q.2⟩
  have hi5 : ∀ i, i < m → ImpP b ne Y ip np (f + sz) i σ5 := fun i hi' => by
    have := hi i hi'
    unfold ImpP at this ⊢
    rw [(e552 51 (by decide) (by decide)).1, (e552 52 (by decide) (by decide)).1]
    exact this
  obtain ⟨σ6, τ6, s1, s2, s3, s4, s5, s6, s7⟩ := r_setp (b := b) (z := z) (n := n) (f := f) (sz := sz) (ne := ne) (m := m) (ip := ip) (np := np) (v := v) (G := G) (Y := Y) (W := W) (D := D) (σ := σ5) (τ := τ4) (sl := sl)
    (ImM_OM oT4 (by unfold E63; omega) (fun j => by unfold E63; omega) hM) hfz hY (ExM_OM oT4 (by unfold E63; omega) (fun j => ⟨by unfold E63; omega, by unfold E63; omega, by unfold E63; omega⟩) hE) (fun h0 => by rw [oT4.2 68 55 (by unfold E63; omega)]; exact g0 h0) hm hip hnp2 (by rw [(e552 46 (by decide) (by decide)).1]; exact x9) (fun h0 => by
      obtain ⟨a1, a2, a3⟩ := hIp h0
      exact ⟨by rw [oT4.2 68 56 (by unfold E63; omega)]; exact a1, by rw [oT4.2 68 57 (by unfold E63; omega)]; exact a2, by rw [oT4.2 68 58 (by unfold E63; omega)]; exact a3⟩) hi5 hn4 hsum (fun s hs => (hseg s hs).2.2.2.2.2.2.2.2.1) hov hD hv (fun i hi' => by
      rw [(e552 48 (by decide) (by decide)).1, (e552 49 (by decide) (by decide)).2, oT4.2 95 i (by unfold E63; omega), oT4.1 96 i (by unfold E63; omega), oT4.1 97 i (by unfold E63; omega)]
      exact hV i hi') (by rw [(e552 47 (by decide) (by decide)).1]; exact V47) (by rw [oT4.1 68 59 (by unfold E63; omega)]; exact V59) hL5 hL4 (by rw [c5 59 (by decide), (u6 59 (by decide)).1]; exact t3) hMm (by rw [hσ5]; simp (disch := first | decide | omega) only [↓reduceIte, Nat.reduceAdd, Nat.reduceMul, Nat.reduceSub, Nat.reduceEqDiff, Nat.reducePow, Nat.reduceDiv, ↓zn_d, ↓bi_d, ↓bv_d, gd_T, ev_ib, true_or, or_true, eq_self, ite_true, ite_false, if_true, if_false, not_true_eq_false, not_false_eq_true, li_0, li_1, li_2, li_3, li_4, li_5, li_6, li_7, li_8, li_9, li_10, li_11, li_12, li_13, li_14, li_15, li_16, li_17, li_18, li_19, li_20, li_22, li_24, li_28, li_30, li_31, li_32, li_33, li_36, li_40, li_48, li_51, li_52, li_56, li_64, li_72, li_80, li_100, li_126, li_127, li_255, li_256, li_1024, li_1040, li_2048, li_4095, li_4096, li_65535, li_1073741824, ll_0, ll_1, ll_2, ll_3, ll_4, ll_5, ll_6, ll_7, ll_8, ll_9, ll_12, ll_15, ll_16, ll_20, ll_22, ll_24, ll_25, ll_28, ll_32, ll_40, ll_48, ll_64, ll_72, ll_80, ll_133, ll_255, ll_256, ll_512, ll_1024, ll_2048, ll_4096, ll_16384, ll_65535, ll_16777215, ll_16777228, ll_2147483647, ll_2147483648, ll_2147483700, ll_4277009103, ll_4294967295, ll_68719476735, ll_68719476736, ll_2234207627640832, ll_2251795518717952, ll_72057594037927935, ↓lm_1, ↓llm_1, ev_add, ev_sub, ev_mul, ev_div, ev_cl, ev_ltT, ev_ltF, ev_leT, ev_leF, ev_eqT, ev_eqF, ev_m1, ev_m1', ev_m1s, ev_dec, ev_nn, el_add, el_sub, el_mul, el_div, el_ltT, el_ltF, el_leT, el_leF, el_eqT, el_eqF, ev_l, el_i, el_m1, el_m1', rdI, rdJ, rdR, updF, updT, updLF, updLT, sI_l, sJ_l, sR_l])
  have oT6 : OM E63 τ τ6 := OM.tr oT4 (s7.mono (fun a b h => by unfold E143 at h; unfold E63; omega))
  obtain ⟨τ7, w1, w2, w3, w4, w5⟩ := m_keepSyms (sl := sl) (V := V) (τ := τ6) (ImM_OM oT6 (by unfold E63; omega) (fun j => by unfold E63; omega) hM) y1 (by rw [oT6.1 68 48 (by unfold E63; omega)]; exact y3) (fun h1 => by
    rw [oT6.2 68 50 (by unfold E63; omega), oT6.2 68 51 (by unfold E63; omega), oT6.2 68 52 (by unfold E63; omega), oT6.2 68 53 (by unfold E63; omega)]
    exact y8 h1) y9 y10 y11 y12 hSO
  have oT7 : OM E63 τ τ7 := OM.tr oT6 (w5.mono (fun a b h => by unfold E388 at h; unfold E63; omega))
  have o67 : ∀ a b, ¬ E388 a b → τ7.1 a b = τ6.1 a b ∧ τ7.2 a b = τ6.2 a b := fun a b h => ⟨w5.1 a b h, w5.2 a b h⟩
  have o46 : ∀ a b, ¬ E143 a b → τ6.1 a b = τ4.1 a b ∧ τ6.2 a b = τ4.2 a b := fun a b h => ⟨s7.1 a b h, s7.2 a b h⟩
  refine ⟨σ6, τ7, by rw [eT, bv_t, eS, s1], by rw [eK, k1, ← hτ4, s2, w1], ?_, ?_, ?_, ?_, oT7⟩
  · refine ⟨n, G 1, D, hn4, hsum, fun s hs h0 => (hD s hs h0).2.2, ?_, ?_, ?_, ?_, ?_⟩
    · unfold LsC at hL5 ⊢
      rw [(s6 54 (by decide)).1, (s6 55 (by decide)).1, (s6 56 (by decide)).1, (s6 57 (by decide)).1]
      exact hL5
    · intro s hs
      have := hL4 s hs
      rw [(o67 99 s (by unfold E388; omega)).2, (o67 98 s (by unfold E388; omega)).2, (o67 100 s (by unfold E388; omega)).1, (o46 99 s (by unfold E143; omega)).2, (o46 98 s (by unfold E143; omega)).2, (o46 100 s (by unfold E143; omega)).1]
      exact this
    · rw [(o67 68 63 (by unfold E388; omega)).1, (o46 68 63 (by unfold E143; omega)).1, hτ4, ev_sIf (by omega), k4.1 68 63 (by unfold E12; omega), hτ2]
      simp (disch := first | decide | omega) only [↓reduceIte, Nat.reduceAdd, Nat.reduceMul, Nat.reduceSub, Nat.reduceEqDiff, Nat.reducePow, Nat.reduceDiv, ↓zn_d, ↓bi_d, ↓bv_d, gd_T, ev_ib, true_or, or_true, eq_self, ite_true, ite_false, if_true, if_false, not_true_eq_false, not_false_eq_true, li_0, li_1, li_2, li_3, li_4, li_5, li_6, li_7, li_8, li_9, li_10, li_11, li_12, li_13, li_14, li_15, li_16, li_17, li_18, li_19, li_20, li_22, li_24, li_28, li_30, li_31, li_32, li_33, li_36, li_40, li_48, li_51, li_52, li_56, li_64, li_72, li_80, li_100, li_126, li_127, li_255, li_256, li_1024, li_1040, li_2048, li_4095, li_4096, li_65535, li_1073741824, ll_0, ll_1, ll_2, ll_3, ll_4, ll_5, ll_6, ll_7, ll_8, ll_9, ll_12, ll_15, ll_16, ll_20, ll_22, ll_24, ll_25, ll_28, ll_32, ll_40, ll_48, ll_64, ll_72, ll_80, ll_133, ll_255, ll_256, ll_512, ll_1024, ll_2048, ll_4096, ll_16384, ll_65535, ll_16777215, ll_16777228, ll_2147483647, ll_2147483648, ll_2147483700, ll_4277009103, ll_4294967295, ll_68719476735, ll_68719476736, ll_2234207627640832, ll_2251795518717952, ll_72057594037927935, ↓lm_1, ↓llm_1, ev_add, ev_sub, ev_mul, ev_div, ev_cl, ev_ltT, ev_ltF, ev_leT, ev_leF, ev_eqT, ev_eqF, ev_m1, ev_m1', ev_m1s, ev_dec, ev_nn, el_add, el_sub, el_mul, el_div, el_ltT, el_ltF, el_leT, el_leF, el_eqT, el_eqF, ev_l, el_i, el_m1, el_m1', rdI, rdJ, rdR, updF, updT, updLF, updLT, sI_l, sJ_l, sR_l]
    · rw [(s6 59 (by decide)).1, c5 59 (by decide), (u6 59 (by decide)).1]
      exact t3
    · intro j hj
      rw [(o67 101 j (by unfold E388; omega)).1]
      exact s5 j hj
  · refine ⟨v, hv, s3, ?_, fun i hi' => ?_⟩
    · rw [(o67 68 64 (by unfold E388; omega)).1, (o46 68 64 (by unfold E143; omega)).1, hτ4]
      simp (disch := first | decide | omega) only [↓reduceIte, Nat.reduceAdd, Nat.reduceMul, Nat.reduceSub, Nat.reduceEqDiff, Nat.reducePow, Nat.reduceDiv, ↓zn_d, ↓bi_d, ↓bv_d, gd_T, ev_ib, true_or, or_true, eq_self, ite_true, ite_false, if_true, if_false, not_true_eq_false, not_false_eq_true, li_0, li_1, li_2, li_3, li_4, li_5, li_6, li_7, li_8, li_9, li_10, li_11, li_12, li_13, li_14, li_15, li_16, li_17, li_18, li_19, li_20, li_22, li_24, li_28, li_30, li_31, li_32, li_33, li_36, li_40, li_48, li_51, li_52, li_56, li_64, li_72, li_80, li_100, li_126, li_127, li_255, li_256, li_1024, li_1040, li_2048, li_4095, li_4096, li_65535, li_1073741824, ll_0, ll_1, ll_2, ll_3, ll_4, ll_5, ll_6, ll_7, ll_8, ll_9, ll_12, ll_15, ll_16, ll_20, ll_22, ll_24, ll_25, ll_28, ll_32, ll_40, ll_48, ll_64, ll_72, ll_80, ll_133, ll_255, ll_256, ll_512, ll_1024, ll_2048, ll_4096, ll_16384, ll_65535, ll_16777215, ll_16777228, ll_2147483647, ll_2147483648, ll_2147483700, ll_4277009103, ll_4294967295, ll_68719476735, ll_68719476736, ll_2234207627640832, ll_2251795518717952, ll_72057594037927935, ↓lm_1, ↓llm_1, ev_add, ev_sub, ev_mul, ev_div, ev_cl, ev_ltT, ev_ltF, ev_leT, ev_leF, ev_eqT, ev_eqF, ev_m1, ev_m1', ev_m1s, ev_dec, ev_nn, el_add, el_sub, el_mul, el_div, el_ltT, el_ltF, el_leT, el_leF, el_eqT, el_eqF, ev_l, el_i, el_m1, el_m1', rdI, rdJ, rdR, updF, updT, updLF, updLT, sI_l, sJ_l, sR_l]
    · obtain ⟨d1, d2, d3, d4, d5, d6⟩ := s4 i hi'
      obtain ⟨_, _, _, _, _, g6, g7, g8, _⟩ := hV i hi'
      have := (hD (W 1 i) g6 (by omega)).2.2
      exact ⟨D (W 1 i) + W 2 i, W 0 i, by omega, g8, d1, d2, by rw [(o67 102 i (by unfold E388; omega)).2]; exact d3, by rw [(o67 105 i (by unfold E388; omega)).1]; exact d4, by rw [(o67 103 i (by unfold E388; omega)).2]; exact d5, by rw [(o67 104 i (by unfold E388; omega)).1]; exact d6⟩
  · have cc : ∀ a, a = 53 ∨ a = 64 ∨ a = 65 ∨ a = 66 ∨ a = 67 → σ6.1 a = σ4.1 a := fun a h => by
      rw [(s6 a (by unfold E62; simp; omega)).1, c5 a (by omega)]
    have b65 : ∀ j, j < V 3 → ub (σ6.1 65 j) = b (V 2 + j) := fun j hj => by rw [cc 65 (by omega)]; exact u4 j hj
    refine ⟨V 1, V 3, V 2, y10, by omega, by rw [cc 53 (by omega)]; exact u2, w2, by rw [cc 64 (by omega)]; exact u3, fun j hj => ?_, fun i hi' => ?_⟩
    · rw [w3 _ (by omega), b65 j hj]
    · obtain ⟨e1, ⟨L, e2, e3, e4, e5⟩, e6⟩ := w4 i hi'
      obtain ⟨g1, g2⟩ := u5 i hi'
      have h8 := (hSO i hi').2
      have h84 : nbf b (V 0 + 16 * i + 8) 8 = nbf b (V 0 + 16 * i + 8) 4 := by
        rw [nbf_8] at h8 ⊢
        omega
      refine ⟨nbf b (V 0 + 16 * i) 4, L, by rw [cc 66 (by omega)]; exact g1, e1, e2, by omega, ?_, fun j hj => ?_, ?_⟩
      · rw [b65 _ (by omega), ← Nat.add_assoc]; exact e4
      · rw [b65 _ (by omega), ← Nat.add_assoc]; exact e5 j hj
      · rw [cc 67 (by omega), g2, e6, h84]
  · refine OM.tr (OM.tr (Fr_OM (E := E53) t5 (fun a b h => by simp at h; unfold E53; omega)) (Fr_OM (E := E53) u6 (fun a b h => by unfold E64 at h; simp at h; unfold E53; omega))) (OM.tr (τ1 := σ5) ?_ (Fr_OM (E := E53) s6 (fun a b h => by unfold E62 at h; simp at h; unfold E53; omega)))
    rw [hσ5]
    exact OM.sI OM.rf (by unfold E53; omega)
