def lsm (L : Nat → Nat) : Nat → Nat
  | 0 => 0
  | k + 1 => lsm L k + (L k + 1)
theorem lsm_le {L : Nat → Nat} : ∀ n, (∀ k, k < n → L k ≤ 16) → lsm L n ≤ 17 * n := by
  intro n
  induction n with
  | zero => intro _; exact Nat.le_refl _
  | succ n ih =>
    intro h
    have h1 := ih (fun k hk => h k (by omega))
    have h2 := h n (by omega)
    show lsm L n + (L n + 1) ≤ _
    omega
theorem c_bwz {k0 b0 n0 n : Nat} {L : Nat → Nat} {σ : St} (hn : n ≤ n0) (hn0 : n0 ≤ 20) (h : σ.1 k0 2 = nI n) (hL : ∀ k, k < n → σ.1 (k0 + 2) k = nI (L k) ∧ L k ≤ 16) : f_X5_bytesWithZeros k0 b0 n0 σ = some (nI (lsm L n), σ) := by
  unfold f_X5_bytesWithZeros f_X5_bytesWithZeros_4
  dsimp only [zn]
  refine it_for (F := fun K a => f_X5_bytesWithZeros_4b k0 b0 n0 K a.1 a.2.1 a.2.2) (fun i (q : Int32 × Int32 × St) => q = (nI (lsm L i), nI i, σ)) n (fun o => o = some (nI (lsm L n), σ)) ?_ ?_ FU 0 _ (by omega) (FU_lt (by omega)) rfl
  · rintro K q rfl
    show f_X5_bytesWithZeros_4b k0 b0 n0 K (nI (lsm L n)) (nI n) σ = _
    ((try simp (disch := first | decide | assumption | (simp (disch := first | decide | omega) only [ImC_sI, ImC_sJ, ImM_sI, ImM_sJ]; assumption) | omega) only [↓reduceIte, Nat.reduceAdd, Nat.reduceMul, Nat.reduceSub, Nat.reduceEqDiff, Nat.reducePow, Nat.reduceDiv, ↓zn_d, ↓bi_d, ↓bv_d, gd_T, ev_ib, true_or, or_true, eq_self, ite_true, ite_false, if_true, if_false, not_true_eq_false, not_false_eq_true, li_0, li_1, li_2, li_3, li_4, li_5, li_6, li_7, li_8, li_9, li_10, li_11, li_12, li_13, li_14, li_15, li_16, li_17, li_18, li_19, li_20, li_22, li_24, li_28, li_30, li_31, li_32, li_33, li_36, li_40, li_48, li_51, li_52, li_56, li_64, li_72, li_80, li_100, li_126, li_127, li_255, li_256, li_1024, li_1040, li_2048, li_4095, li_4096, li_65535, li_1073741824, ll_0, ll_1, ll_2, ll_3, ll_4, ll_5, ll_6, ll_7, ll_8, ll_9, ll_12, ll_15, ll_16, ll_20, ll_22, ll_24, ll_25, ll_28, ll_32, ll_40, ll_48, ll_64, ll_72, ll_80, ll_133, ll_255, ll_256, ll_512, ll_1024, ll_2048, ll_4096, ll_16384, ll_65535, ll_16777215, ll_16777228, ll_2147483647, ll_2147483648, ll_2147483700, ll_4277009103, ll_4294967295, ll_68719476735, ll_68719476736, ll_2234207627640832, ll_2251795518717952, ll_72057594037927935, ↓lm_1, ↓llm_1, ev_add, ev_sub, ev_mul, ev_div, ev_cl, ev_ltT, ev_ltF, ev_leT, ev_leF, ev_eqT, ev_eqF, ev_m1, ev_m1', ev_m1s, ev_dec, ev_nn, el_add, el_sub, el_mul, el_div, el_ltT, el_ltF, el_leT, el_leF, el_eqT, el_eqF, ev_l, el_i, el_m1, el_m1', rdI, rdJ, rdR, updF, updT, updLF, updLT, sI_l, sJ_l, sR_l, f_X5_bytesWithZeros_4b, h]); first | done | rfl)
  · rintro K i q hi rfl ih
    show f_X5_bytesWithZeros_4b k0 b0 n0 K (nI (lsm L i)) (nI i) σ = _
    obtain ⟨g1, g2⟩ := hL i hi
    have l := lsm_le (L := L) i (fun k hk => (hL k (by omega)).2)
    have : f_X5_bytesWithZeros_4b k0 b0 n0 K (nI (lsm L i)) (nI i) σ = K (nI (lsm L (i + 1)), nI (i + 1), σ) := by
      have l2 : lsm L (i + 1) = lsm L i + (L i + 1) := rfl
      rw [l2]
      ((try simp (disch := first | decide | assumption | (simp (disch := first | decide | omega) only [ImC_sI, ImC_sJ, ImM_sI, ImM_sJ]; assumption) | omega) only [↓reduceIte, Nat.reduceAdd, Nat.reduceMul, Nat.reduceSub, Nat.reduceEqDiff, Nat.reducePow, Nat.reduceDiv, ↓zn_d, ↓bi_d, ↓bv_d, gd_T, ev_ib, true_or, or_true, eq_self, ite_true, ite_false, if_true, if_false, not_true_eq_false, not_false_eq_true, li_0, li_1, li_2, li_3, li_4, li_5, li_6, li_7, li_8, li_9, li_10, li_11, li_12, li_13, li_14, li_15, li_16, li_17, li_18, li_19, li_20, li_22, li_24, li_28, li_30, li_31, li_32, li_33, li_36, li_40, li_48, li_51, li_52, li_56, li_64, li_72, li_80, li_100, li_126, li_127, li_255, li_256, li_1024, li_1040, li_2048, li_4095, li_4096, li_65535, li_1073741824, ll_0, ll_1, ll_2, ll_3, ll_4, ll_5, ll_6, ll_7, ll_8, ll_9, ll_12, ll_15, ll_16, ll_20, ll_22, ll_24, ll_25, ll_28, ll_32, ll_40, ll_48, ll_64, ll_72, ll_80, ll_133, ll_255, ll_256, ll_512, ll_1024, ll_2048, ll_4096, ll_16384, ll_65535, ll_16777215, ll_16777228, ll_2147483647, ll_2147483648, ll_2147483700, ll_4277009103, ll_4294967295, ll_68719476735, ll_68719476736, ll_2234207627640832, ll_2251795518717952, ll_72057594037927935, ↓lm_1, ↓llm_1, ev_add, ev_sub, ev_mul, ev_div, ev_cl, ev_ltT, ev_ltF, ev_leT, ev_leF, ev_eqT, ev_eqF, ev_m1, ev_m1', ev_m1s, ev_dec, ev_nn, el_add, el_sub, el_mul, el_div, el_ltT, el_ltF, el_leT, el_leF, el_eqT, el_eqF, ev_l, el_i, el_m1, el_m1', rdI, rdJ, rdR, updF, updT, updLF, updLT, sI_l, sJ_l, sR_l, f_X5_bytesWithZeros_4b, h, g1]); first | done | rfl)
    rw [this]
    exact ih _ rfl
def tabs (SO ny TO TS FO FS : Nat) : List Nat := [] ++ num 4 2 ++ num 4 24 ++ num 4 SO ++ num 4 ny ++ num 4 TO ++ num 4 TS ++ num 4 2147483700 ++ num 4 16 ++ num 4 FO ++ num 4 FS
set_option maxHeartbeats 4000000 in
theorem c_tabs {z ny SO TO FO FS : Nat} {L : Nat → Nat} {σ : St} (hs : σ.1 3 1 = nI z) (hz : z + 40 ≤ 6400) (hny : ny ≤ 20) (h18 : σ.1 18 2 = nI ny) (hL : ∀ k, k < ny → σ.1 20 k = nI (L k) ∧ L k ≤ 16) (h9 : σ.1 30 9 = nI SO) (h10 : σ.1 30 10 = nI TO) (h5 : σ.1 30 5 = nI FO) (h6 : σ.1 30 6 = nI FS) (b1 : SO < 2 ^ 31) (b2 : TO < 2 ^ 31) (b3 : FO < 2 ^ 31) (b4 : FS < 2 ^ 31) : ∃ σ', f_X10_addTableCommands σ = some σ' ∧ Wc z (tabs SO ny TO (1 + lsm L ny) FO FS) σ σ' ∧ (tabs SO ny TO (1 + lsm L ny) FO FS).length = 40 := by
  have l := lsm_le (L := L) ny (fun k hk => (hL k hk).2)
  obtain ⟨t1, e1, w1, l1⟩ := Wc_n (k := 4) (n := 0) (Wc_nil hs) rfl 2 (by decide) (by omega) (by decide)
  obtain ⟨t2, e2, w2, l2⟩ := Wc_n (k := 4) w1 l1 24 (by decide) (by omega) (by decide)
  obtain ⟨t3, e3, w3, l3⟩ := Wc_n (k := 4) w2 l2 SO (by decide) (by omega) (by omega)
  obtain ⟨t4, e4, w4, l4⟩ := Wc_n (k := 4) w3 l3 ny (by decide) (by omega) (by omega)
  obtain ⟨t5, e5, w5, l5⟩ := Wc_n (k := 4) w4 l4 TO (by decide) (by omega) (by omega)
  obtain ⟨t6, e6, w6, l6⟩ := Wc_n (k := 4) w5 l5 (1 + lsm L ny) (by decide) (by omega) (by omega)
  obtain ⟨t7, e7, w7, l7⟩ := Wc_n (k := 4) w6 l6 2147483700 (by decide) (by omega) (by decide)
  obtain ⟨t8, e8, w8, l8⟩ := Wc_n (k := 4) w7 l7 16 (by decide) (by omega) (by decide)
  obtain ⟨t9, e9, w9, l9⟩ := Wc_n (k := 4) w8 l8 FO (by decide) (by omega) (by omega)
  obtain ⟨t10, e10, w10, l10⟩ := Wc_n (k := 4) w9 l9 FS (by decide) (by omega) (by omega)
  have f2 := (Wc_f w2 (a := 30) (b := 9) (by unfold Eic; omega)).trans h9
  have f3 := (Wc_f w3 (a := 18) (b := 2) (by unfold Eic; omega)).trans h18
  have f4 := (Wc_f w4 (a := 30) (b := 10) (by unfold Eic; omega)).trans h10
  have f5 : f_X5_bytesWithZeros 18 320 20 t5 = some (nI (lsm L ny), t5) := c_bwz hny (by decide) ((Wc_f w5 (a := 18) (b := 2) (by unfold Eic; omega)).trans h18) (fun k hk => ⟨(Wc_f w5 (a := 20) (b := k) (by unfold Eic; omega)).trans (hL k hk).1, (hL k hk).2⟩)
  have f8 := (Wc_f w8 (a := 30) (b := 5) (by unfold Eic; omega)).trans h5
  have f9 := (Wc_f w9 (a := 30) (b := 6) (by unfold Eic; omega)).trans h6
  exact ⟨t10, by ((try simp (disch := first | decide | assumption | (simp (disch := first | decide | omega) only [ImC_sI, ImC_sJ, ImM_sI, ImM_sJ]; assumption) | omega) only [↓reduceIte, Nat.reduceAdd, Nat.reduceMul, Nat.reduceSub, Nat.reduceEqDiff, Nat.reducePow, Nat.reduceDiv, ↓zn_d, ↓bi_d, ↓bv_d, gd_T, ev_ib, true_or, or_true, eq_self, ite_true, ite_false, if_true, if_false, not_true_eq_false, not_false_eq_true, li_0, li_1, li_2, li_3, li_4, li_5, li_6, li_7, li_8, li_9, li_10, li_11, li_12, li_13, li_14, li_15, li_16, li_17, li_18, li_19, li_20, li_22, li_24, li_28, li_30, li_31, li_32, li_33, li_36, li_40, li_48, li_51, li_52, li_56, li_64, li_72, li_80, li_100, li_126, li_127, li_255, li_256, li_1024, li_1040, li_2048, li_4095, li_4096, li_65535, li_1073741824, ll_0, ll_1, ll_2, ll_3, ll_4, ll_5, ll_6, ll_7, ll_8, ll_9, ll_12, ll_15, ll_16, ll_20, ll_22, ll_24, ll_25, ll_28, ll_32, ll_40, ll_48, ll_64, ll_72, ll_80, ll_133, ll_255, ll_256, ll_512, ll_1024, ll_2048, ll_4096, ll_16384, ll_65535, ll_16777215, ll_16777228, ll_2147483647, ll_2147483648, ll_2147483700, ll_4277009103, ll_4294967295, ll_68719476735, ll_68719476736, ll_2234207627640832, ll_2251795518717952, ll_72057594037927935, ↓lm_1, ↓llm_1, ev_add, ev_sub, ev_mul, ev_div, ev_cl, ev_ltT, ev_ltF, ev_leT, ev_leF, ev_eqT, ev_eqF, ev_m1, ev_m1', ev_m1s, ev_dec, ev_nn, el_add, el_sub, el_mul, el_div, el_ltT, el_ltF, el_leT, el_leF, el_eqT, el_eqF, ev_l, el_i, el_m1, el_m1', rdI, rdJ, rdR, updF, updT, updLF, updLT, sI_l, sJ_l, sR_l, f_X10_addTableCommands, e1, e2, f2, e3, f3, e4, f4, e5, f5, e6, e7, e8, f8, e9, f9, e10]); first | done | rfl), w10, l10⟩
set_option maxHeartbeats 4000000 in
theorem m_tabs {p ns ny SO TO TS FO FS : Nat} {τ : St} (K : (Int32 × St) → Option St) (hs : τ.1 68 31 = nI p) (hz : p + 40 ≤ 9000) (hns : ns ≤ 4) (h68 : τ.1 68 6 = nI ns) (h18 : τ.1 68 8 = nI ny) (hny : ny ≤ 20) (h9 : τ.1 68 35 = nI SO) (h10 : τ.1 68 36 = nI TO) (h11 : τ.1 68 37 = nI TS) (h5 : τ.1 68 33 = nI FO) (h6 : τ.1 68 34 = nI FS) (b1 : SO < 2 ^ 31) (b2 : TO < 2 ^ 31) (b3 : FO < 2 ^ 31) (b4 : FS < 2 ^ 31) (b5 : TS < 2 ^ 31) : ∃ τ', f_X12_writeCommands_33b K (nI ns) τ = some τ' ∧ Wm p (tabs SO ny TO TS FO FS) τ τ' ∧ (tabs SO ny TO TS FO FS).length = 40 := by
  obtain ⟨t1, e1, w1, l1⟩ := Wm_4 (n := 0) (Wm_nil hs) rfl 2 24 SO ny (by omega) (by decide) (by decide) (by omega) (by omega)
  obtain ⟨t2, e2, w2, l2⟩ := Wm_n (k := 4) w1 l1 TO (by decide) (by omega) (by omega)
  obtain ⟨t3, e3, w3, l3⟩ := Wm_n (k := 4) w2 l2 TS (by decide) (by omega) (by omega)
  obtain ⟨t4, e4, w4, l4⟩ := Wm_4 w3 l3 2147483700 16 FO FS (by omega) (by decide) (by decide) (by omega) (by omega)
  have f1 := (Wm_f w1 (a := 68) (b := 36) (by unfold Eim; omega)).trans h10
  have f2 := (Wm_f w2 (a := 68) (b := 37) (by unfold Eim; omega)).trans h11
  have f3 := (Wm_f w3 (a := 68) (b := 33) (by unfold Eim; omega)).trans h5
  have f4 := (Wm_f w3 (a := 68) (b := 34) (by unfold Eim; omega)).trans h6
  exact ⟨t4, by ((try simp (disch := first | decide | assumption | (simp (disch := first | decide | omega) only [ImC_sI, ImC_sJ, ImM_sI, ImM_sJ]; assumption) | omega) only [↓reduceIte, Nat.reduceAdd, Nat.reduceMul, Nat.reduceSub, Nat.reduceEqDiff, Nat.reducePow, Nat.reduceDiv, ↓zn_d, ↓bi_d, ↓bv_d, gd_T, ev_ib, true_or, or_true, eq_self, ite_true, ite_false, if_true, if_false, not_true_eq_false, not_false_eq_true, li_0, li_1, li_2, li_3, li_4, li_5, li_6, li_7, li_8, li_9, li_10, li_11, li_12, li_13, li_14, li_15, li_16, li_17, li_18, li_19, li_20, li_22, li_24, li_28, li_30, li_31, li_32, li_33, li_36, li_40, li_48, li_51, li_52, li_56, li_64, li_72, li_80, li_100, li_126, li_127, li_255, li_256, li_1024, li_1040, li_2048, li_4095, li_4096, li_65535, li_1073741824, ll_0, ll_1, ll_2, ll_3, ll_4, ll_5, ll_6, ll_7, ll_8, ll_9, ll_12, ll_15, ll_16, ll_20, ll_22, ll_24, ll_25, ll_28, ll_32, ll_40, ll_48, ll_64, ll_72, ll_80, ll_133, ll_255, ll_256, ll_512, ll_1024, ll_2048, ll_4096, ll_16384, ll_65535, ll_16777215, ll_16777228, ll_2147483647, ll_2147483648, ll_2147483700, ll_4277009103, ll_4294967295, ll_68719476735, ll_68719476736, ll_2234207627640832, ll_2251795518717952, ll_72057594037927935, ↓lm_1, ↓llm_1, ev_add, ev_sub, ev_mul, ev_div, ev_cl, ev_ltT, ev_ltF, ev_leT, ev_leF, ev_eqT, ev_eqF, ev_m1, ev_m1', ev_m1s, ev_dec, ev_nn, el_add, el_sub, el_mul, el_div, el_ltT, el_ltF, el_leT, el_leF, el_eqT, el_eqF, ev_l, el_i, el_m1, el_m1', rdI, rdJ, rdR, updF, updT, updLF, updLT, sI_l, sJ_l, sR_l, f_X12_writeCommands_33b, h68, h9, h18, e1, f1, e2, f2, e3, f3, f4, e4]); first | done | rfl), w4, l4⟩
