/-! the class's fixups, symbols and strings -/
def imv (D : Nat → Nat → Nat) (k : Nat) : Int64 := (((nI (D 15 k)) ||| nI (256 * D 16 k)) ||| ((nI (lsm (D 18) k)) <<< (nI 9 &&& nI 31))).toInt64
def imw (D : Nat → Nat → Nat) (k : Nat) : Nat := (imv D k).toBitVec.toNat
theorem imw_lt (D : Nat → Nat → Nat) (k : Nat) : imw D k < 2 ^ 64 := (imv D k).toBitVec.isLt
theorem imw_l (D : Nat → Nat → Nat) (k : Nat) : lN (imw D k) = imv D k := by
  apply Int64.toBitVec_inj.mp
  apply BitVec.eq_of_toNat_eq
  rw [lN_tn (imw_lt D k)]
  rfl
def imr (D : Nat → Nat → Nat) (k : Nat) : List Nat := num 4 (imw D k)
theorem imr_len (D : Nat → Nat → Nat) (n : Nat) : (cat (imr D) n).length = 4 * n := cat_len n (fun k _ => num_len 4 _)
theorem sh8_0 : nI 0 <<< (nI 8 &&& nI 31) = nI (256 * 0) := by decide
theorem sh8_1 : nI 1 <<< (nI 8 &&& nI 31) = nI (256 * 1) := by decide
theorem lsm_D {D : Nat → Nat → Nat} (hO : DOK D) {k : Nat} (hk : k ≤ (D 0 3)) : lsm (D 18) k ≤ 340 := by
  obtain ⟨_, _, _, o4, _, _, _, ⟨_, _, _, n4⟩, _⟩ := hO
  have := lsm_le (L := D 18) k (fun j hj => (n4 j (by omega)).2.1)
  omega
theorem c_imps {D : Nat → Nat → Nat} {σ : St} (hO : DOK D) (hC : DC D σ) {z : Nat} (h3 : σ.1 3 1 = nI z) (hz : z + 4 * (D 0 3) ≤ 6400) : ∃ σ', f_X10_addImports σ = some σ' ∧ Wc z (cat (imr D) (D 0 3)) σ σ' := by
  have hO' := hO
  obtain ⟨_, _, _, o4, _, _, _, ⟨_, _, _, n4⟩, _, _, _, _, o13, _⟩ := hO'
  unfold f_X10_addImports f_X10_addImports_4
  dsimp only [zn]
  have key := it_for (F := fun K (q : Int32 × Int32 × St) => f_X10_addImports_4b K q.1 q.2.1 q.2.2) (fun i q => ∃ σ', q = (nI (lsm (D 18) i), nI i, σ') ∧ Wc z (cat (imr D) i) σ σ') (D 0 3) (fun o => ∃ σ', o = some σ' ∧ Wc z (cat (imr D) (D 0 3)) σ σ') ?_ ?_ FU 0 (nI 0, nI 0, σ) (by omega) (FU_lt (by omega)) ⟨σ, rfl, Wc_nil h3⟩
  · exact key
  · rintro K q ⟨σ', rfl, hw⟩
    have d := (DC_c hw.2.2.2.2 hC).1.2.2.2.1
    exact ⟨σ', by ((try simp (disch := first | decide | assumption | (simp (disch := first | decide | omega) only [ImC_sI, ImC_sJ, ImM_sI, ImM_sJ]; assumption) | omega) only [↓reduceIte, Nat.reduceAdd, Nat.reduceMul, Nat.reduceSub, Nat.reduceEqDiff, Nat.reducePow, Nat.reduceDiv, ↓zn_d, ↓bi_d, ↓bv_d, gd_T, ev_ib, true_or, or_true, eq_self, ite_true, ite_false, if_true, if_false, not_true_eq_false, not_false_eq_true, li_0, li_1, li_2, li_3, li_4, li_5, li_6, li_7, li_8, li_9, li_10, li_11, li_12, li_13, li_14, li_15, li_16, li_17, li_18, li_19, li_20, li_22, li_24, li_28, li_30, li_31, li_32, li_33, li_36, li_40, li_48, li_51, li_52, li_56, li_64, li_72, li_80, li_100, li_126, li_127, li_255, li_256, li_1024, li_1040, li_2048, li_4095, li_4096, li_65535, li_1073741824, ll_0, ll_1, ll_2, ll_3, ll_4, ll_5, ll_6, ll_7, ll_8, ll_9, ll_12, ll_15, ll_16, ll_20, ll_22, ll_24, ll_25, ll_28, ll_32, ll_40, ll_48, ll_64, ll_72, ll_80, ll_133, ll_255, ll_256, ll_512, ll_1024, ll_2048, ll_4096, ll_16384, ll_65535, ll_16777215, ll_16777228, ll_2147483647, ll_2147483648, ll_2147483700, ll_4277009103, ll_4294967295, ll_68719476735, ll_68719476736, ll_2234207627640832, ll_2251795518717952, ll_72057594037927935, ↓lm_1, ↓llm_1, ev_add, ev_sub, ev_mul, ev_div, ev_cl, ev_ltT, ev_ltF, ev_leT, ev_leF, ev_eqT, ev_eqF, ev_m1, ev_m1', ev_m1s, ev_dec, ev_nn, el_add, el_sub, el_mul, el_div, el_ltT, el_ltF, el_leT, el_leF, el_eqT, el_eqF, ev_l, el_i, el_m1, el_m1', rdI, rdJ, rdR, updF, updT, updLF, updLT, sI_l, sJ_l, sR_l, f_X10_addImports_4b, d]); first | done | rfl), hw⟩
  · rintro K i q hi ⟨σ', rfl, hw⟩ ih
    have hC1 := DC_c hw.2.2.2.2 hC
    have d := hC1.1.2.2.2.1
    have l := lsm_D hO (show i ≤ (D 0 3) by omega)
    have lL := (n4 i hi).2.1
    obtain ⟨d1, d2⟩ := hC1.2.2.2.2.2.2.1 i hi
    obtain ⟨_, _, q3⟩ := o13 i hi
    obtain ⟨σ2, e2, w2, _⟩ := Wc_n (k := 4) hw (cat_len (c := 4) i (fun k _ => num_len 4 _)) (imw D i) (by decide) (by omega) (imw_lt D i)
    have hC2 := DC_c w2.2.2.2.2 hC
    have d3 := (hC2.2.1.2.2.2 i hi).1
    rw [imw_l] at e2
    unfold imv at e2
    have l2 : lsm (D 18) (i + 1) = lsm (D 18) i + (D 18 i + 1) := rfl
    have e : f_X10_addImports_4b K (nI (lsm (D 18) i)) (nI i) σ' = K (nI (lsm (D 18) (i + 1)), nI (i + 1), σ2) := by
      rw [l2]
      rcases (show D 16 i = 0 ∨ D 16 i = 1 by omega) with w | w
      · rw [w] at d2 e2
        ((try simp (disch := first | decide | assumption | (simp (disch := first | decide | omega) only [ImC_sI, ImC_sJ, ImM_sI, ImM_sJ]; assumption) | omega) only [↓reduceIte, Nat.reduceAdd, Nat.reduceMul, Nat.reduceSub, Nat.reduceEqDiff, Nat.reducePow, Nat.reduceDiv, ↓zn_d, ↓bi_d, ↓bv_d, gd_T, ev_ib, true_or, or_true, eq_self, ite_true, ite_false, if_true, if_false, not_true_eq_false, not_false_eq_true, li_0, li_1, li_2, li_3, li_4, li_5, li_6, li_7, li_8, li_9, li_10, li_11, li_12, li_13, li_14, li_15, li_16, li_17, li_18, li_19, li_20, li_22, li_24, li_28, li_30, li_31, li_32, li_33, li_36, li_40, li_48, li_51, li_52, li_56, li_64, li_72, li_80, li_100, li_126, li_127, li_255, li_256, li_1024, li_1040, li_2048, li_4095, li_4096, li_65535, li_1073741824, ll_0, ll_1, ll_2, ll_3, ll_4, ll_5, ll_6, ll_7, ll_8, ll_9, ll_12, ll_15, ll_16, ll_20, ll_22, ll_24, ll_25, ll_28, ll_32, ll_40, ll_48, ll_64, ll_72, ll_80, ll_133, ll_255, ll_256, ll_512, ll_1024, ll_2048, ll_4096, ll_16384, ll_65535, ll_16777215, ll_16777228, ll_2147483647, ll_2147483648, ll_2147483700, ll_4277009103, ll_4294967295, ll_68719476735, ll_68719476736, ll_2234207627640832, ll_2251795518717952, ll_72057594037927935, ↓lm_1, ↓llm_1, ev_add, ev_sub, ev_mul, ev_div, ev_cl, ev_ltT, ev_ltF, ev_leT, ev_leF, ev_eqT, ev_eqF, ev_m1, ev_m1', ev_m1s, ev_dec, ev_nn, el_add, el_sub, el_mul, el_div, el_ltT, el_ltF, el_leT, el_leF, el_eqT, el_eqF, ev_l, el_i, el_m1, el_m1', rdI, rdJ, rdR, updF, updT, updLF, updLT, sI_l, sJ_l, sR_l, f_X10_addImports_4b, f_X10_addImports_35, d, d1, d2, sh8_0, e2, d3]); first | done | rfl)
      · rw [w] at d2 e2
        ((try simp (disch := first | decide | assumption | (simp (disch := first | decide | omega) only [ImC_sI, ImC_sJ, ImM_sI, ImM_sJ]; assumption) | omega) only [↓reduceIte, Nat.reduceAdd, Nat.reduceMul, Nat.reduceSub, Nat.reduceEqDiff, Nat.reducePow, Nat.reduceDiv, ↓zn_d, ↓bi_d, ↓bv_d, gd_T, ev_ib, true_or, or_true, eq_self, ite_true, ite_false, if_true, if_false, not_true_eq_false, not_false_eq_true, li_0, li_1, li_2, li_3, li_4, li_5, li_6, li_7, li_8, li_9, li_10, li_11, li_12, li_13, li_14, li_15, li_16, li_17, li_18, li_19, li_20, li_22, li_24, li_28, li_30, li_31, li_32, li_33, li_36, li_40, li_48, li_51, li_52, li_56, li_64, li_72, li_80, li_100, li_126, li_127, li_255, li_256, li_1024, li_1040, li_2048, li_4095, li_4096, li_65535, li_1073741824, ll_0, ll_1, ll_2, ll_3, ll_4, ll_5, ll_6, ll_7, ll_8, ll_9, ll_12, ll_15, ll_16, ll_20, ll_22, ll_24, ll_25, ll_28, ll_32, ll_40, ll_48, ll_64, ll_72, ll_80, ll_133, ll_255, ll_256, ll_512, ll_1024, ll_2048, ll_4096, ll_16384, ll_65535, ll_16777215, ll_16777228, ll_2147483647, ll_2147483648, ll_2147483700, ll_4277009103, ll_4294967295, ll_68719476735, ll_68719476736, ll_2234207627640832, ll_2251795518717952, ll_72057594037927935, ↓lm_1, ↓llm_1, ev_add, ev_sub, ev_mul, ev_div, ev_cl, ev_ltT, ev_ltF, ev_leT, ev_leF, ev_eqT, ev_eqF, ev_m1, ev_m1', ev_m1s, ev_dec, ev_nn, el_add, el_sub, el_mul, el_div, el_ltT, el_ltF, el_leT, el_leF, el_eqT, el_eqF, ev_l, el_i, el_m1, el_m1', rdI, rdJ, rdR, updF, updT, updLF, updLT, sI_l, sJ_l, sR_l, f_X10_addImports_4b, f_X10_addImports_35, d, d1, d2, sh8_1, e2, d3]); first | done | rfl)
    show ∃ σ'', f_X10_addImports_4b K (nI (lsm (D 18) i)) (nI i) σ' = some σ'' ∧ _
    rw [e]
    exact ih _ ⟨σ2, rfl, w2⟩
def fxh (D : Nat → Nat → Nat) : List Nat := [] ++ num 4 0 ++ num 4 28 ++ num 4 (dIO D) ++ num 4 (dNO D) ++ num 4 (D 0 3) ++ num 4 1 ++ num 4 0 ++ num 4 (D 0 0)
noncomputable def fpg (D : Nat → Nat → Nat) : Nat → List Nat
  | 0 => []
  | s + 1 => if hpc D s = 0 then fpg D s else fpg D s ++ (zer (up (fpp D s) 4 - fpp D s) ++ pgp D s)
theorem fpg_len (D : Nat → Nat → Nat) : ∀ n, 32 + 4 * (D 0 0) + (fpg D n).length = fpp D n := by
  intro n
  induction n with
  | zero => rfl
  | succ n ih =>
    show 32 + 4 * (D 0 0) + (if hpc D n = 0 then fpg D n else fpg D n ++ (zer (up (fpp D n) 4 - fpp D n) ++ pgp D n)).length = if hpc D n = 0 then fpp D n else up (fpp D n) 4 + (22 + 2 * pgs D n)
    have := (up_le (z := fpp D n) (a := 4) (by decide)).1
    by_cases c : hpc D n = 0
    · rw [if_pos c, if_pos c, ih]
    · rw [if_neg c, if_neg c, List.length_append, List.length_append, zer_len, pgp_len]
      omega
def fxi (D : Nat → Nat → Nat) : List Nat := zer (dIO D - fpp D (D 0 0)) ++ cat (imr D) (D 0 3) ++ nmz (D 18) (fun k i => D 17 (16 * k + i)) (D 0 3)
noncomputable def fxL (D : Nat → Nat → Nat) : List Nat := fxh D ++ cat (fun s => num 4 (sts D s)) (D 0 0) ++ (fpg D (D 0 0) ++ fxi D)
theorem fxh_len (D : Nat → Nat → Nat) : (fxh D).length = 32 := by
  unfold fxh
  simp only [List.length_append, num_len, List.length_nil]
theorem fxi_len {D : Nat → Nat → Nat} (hO : DOK D) : fpp D (D 0 0) + (fxi D).length = dFS D := by
  unfold fxi dFS dNO
  rw [List.length_append, List.length_append, zer_len, nmz_len, imr_len]
  have := (dIO_le hO).1
  omega
theorem fxL_len {D : Nat → Nat → Nat} (hO : DOK D) : (fxL D).length = dFS D := by
  unfold fxL
  rw [List.length_append, List.length_append, List.length_append, fxh_len, cat_len (c := 4) _ (fun k _ => num_len 4 _), ← fxi_len hO]
  have := fpg_len D (D 0 0)
  omega
theorem sts_0 {D : Nat → Nat → Nat} (hO : DOK D) {s : Nat} (hs : s < (D 0 0)) : (hpc D s = 0 ∧ sts D s = 0) ∨ (hpc D s ≠ 0 ∧ sts D s = up (fpp D s) 4 - 28 ∧ 0 < sts D s ∧ sts D s ≤ 200) := by
  obtain ⟨h1, h2⟩ := fpp_le hO s (by omega)
  have h3 := up_le (z := fpp D s) (a := 4) (by decide)
  have h4 := hO.1
  unfold sts
  by_cases c : hpc D s = 0
  · exact Or.inl ⟨c, if_pos c⟩
  · refine Or.inr ⟨c, if_neg c, ?_⟩
    rw [if_neg c]
    omega
set_option maxHeartbeats 1000000 in
theorem c_fix {D : Nat → Nat → Nat} {σ : St} (hO : DOK D) (hC : DC D σ) (hL : LaC D σ) (h3 : σ.1 3 1 = nI (en D (D 0 0))) : ∃ σ', f_X10_addFixups σ = some σ' ∧ Wc (en D (D 0 0)) (zer (ofs D (D 0 0) - en D (D 0 0)) ++ fxL D) σ σ' := by
  have hO' := hO
  obtain ⟨o1, _, _, o4, _, o6, o7, ⟨_, _, _, n4⟩, o9, _⟩ := hO'
  have lo := ofs_le hO (Nat.le_refl (D 0 0))
  have lg := ofs_ge (D := D) (s := (D 0 0))
  have lI := dIO_le hO
  have lF := dFS_le hO
  have m8 : ofs D (D 0 0) % 8 = 0 := up8_mod _
  obtain ⟨t0, e0, w0⟩ := w_fill (a := 8) h3 (by omega) (show up (en D (D 0 0)) 8 ≤ 6400 by have : up (en D (D 0 0)) 8 = ofs D (D 0 0) := rfl; omega)
  have w0 : Wc (en D (D 0 0)) (zer (ofs D (D 0 0) - en D (D 0 0))) σ t0 := w0
  have x0 := w0.1
  rw [zer_len, show en D (D 0 0) + (ofs D (D 0 0) - en D (D 0 0)) = ofs D (D 0 0) by omega] at x0
  have hC0 := DC_c w0.2.2.2.2 hC
  have hL0 := LaC_c w0.2.2.2.2 hL
  obtain ⟨t1, e1, w1, l1⟩ := Wc_n (k := 4) (n := 0) (Wc_nil x0) rfl 0 (by decide) (by omega) (by decide)
  obtain ⟨t2, e2, w2, l2⟩ := Wc_n (k := 4) w1 l1 28 (by decide) (by omega) (by decide)
  obtain ⟨t3, e3, w3, l3⟩ := Wc_n (k := 4) w2 l2 (dIO D) (by decide) (by omega) (by omega)
  obtain ⟨t4, e4, w4, l4⟩ := Wc_n (k := 4) w3 l3 (dNO D) (by decide) (by omega) (by omega)
  obtain ⟨t5, e5, w5, l5⟩ := Wc_n (k := 4) w4 l4 (D 0 3) (by decide) (by omega) (by omega)
  obtain ⟨t6, e6, w6, l6⟩ := Wc_n (k := 4) w5 l5 1 (by decide) (by omega) (by decide)
  obtain ⟨t7, e7, w7, l7⟩ := Wc_n (k := 4) w6 l6 0 (by decide) (by omega) (by decide)
  obtain ⟨t8, e8, w8, l8⟩ := Wc_n (k := 4) w7 l7 (D 0 0) (by decide) (by omega) (by omega)
  have f2 := (LaC_c w2.2.2.2.2 hL0).2.2.2.2.1
  have f3 := (LaC_c w3.2.2.2.2 hL0).2.2.2.2.2.1
  have f4 := (DC_c w4.2.2.2.2 hC0).1.2.2.2.1
  have f7 := (DC_c w7.2.2.2.2 hC0).1.1
  have w8 : Wc (ofs D (D 0 0)) (fxh D) t0 t8 := w8
  have x8 := w8.1
  rw [fxh_len] at x8
  have hC8 := DC_c w8.2.2.2.2 hC0
  have hL8 := LaC_c w8.2.2.2.2 hL0
  have E0 : f_X10_addFixups σ = f_X10_addFixups_113 (nI 0) t8 := by
    ((try simp (disch := first | decide | assumption | (simp (disch := first | decide | omega) only [ImC_sI, ImC_sJ, ImM_sI, ImM_sJ]; assumption) | omega) only [↓reduceIte, Nat.reduceAdd, Nat.reduceMul, Nat.reduceSub, Nat.reduceEqDiff, Nat.reducePow, Nat.reduceDiv, ↓zn_d, ↓bi_d, ↓bv_d, gd_T, ev_ib, true_or, or_true, eq_self, ite_true, ite_false, if_true, if_false, not_true_eq_false, not_false_eq_true, li_0, li_1, li_2, li_3, li_4, li_5, li_6, li_7, li_8, li_9, li_10, li_11, li_12, li_13, li_14, li_15, li_16, li_17, li_18, li_19, li_20, li_22, li_24, li_28, li_30, li_31, li_32, li_33, li_36, li_40, li_48, li_51, li_52, li_56, li_64, li_72, li_80, li_100, li_126, li_127, li_255, li_256, li_1024, li_1040, li_2048, li_4095, li_4096, li_65535, li_1073741824, ll_0, ll_1, ll_2, ll_3, ll_4, ll_5, ll_6, ll_7, ll_8, ll_9, ll_12, ll_15, ll_16, ll_20, ll_22, ll_24, ll_25, ll_28, ll_32, ll_40, ll_48, ll_64, ll_72, ll_80, ll_133, ll_255, ll_256, ll_512, ll_1024, ll_2048, ll_4096, ll_16384, ll_65535, ll_16777215, ll_16777228, ll_2147483647, ll_2147483648, ll_2147483700, ll_4277009103, ll_4294967295, ll_68719476735, ll_68719476736, ll_2234207627640832, ll_2251795518717952, ll_72057594037927935, ↓lm_1, ↓llm_1, ev_add, ev_sub, ev_mul, ev_div, ev_cl, ev_ltT, ev_ltF, ev_leT, ev_leF, ev_eqT, ev_eqF, ev_m1, ev_m1', ev_m1s, ev_dec, ev_nn, el_add, el_sub, el_mul, el_div, el_ltT, el_ltF, el_leT, el_leF, el_eqT, el_eqF, ev_l, el_i, el_m1, el_m1', rdI, rdJ, rdR, updF, updT, updLF, updLT, sI_l, sJ_l, sR_l, f_X10_addFixups, e0, e1, e2, f2, e3, f3, e4, f4, e5, e6, e7, f7, e8]); first | done | rfl)
  have st1 : ∃ t9, f_X10_addFixups_113 (nI 0) t8 = f_X10_addFixups_150 (nI 0) t9 ∧ Wc (ofs D (D 0 0) + 32) (cat (fun s => num 4 (sts D s)) (D 0 0)) t8 t9 := by
    unfold f_X10_addFixups_113
    have key := it_for (F := fun K (q : Int32 × St) => f_X10_addFixups_113b K q.1 q.2) (fun i q => ∃ σ', q = (nI i, σ') ∧ Wc (ofs D (D 0 0) + 32) (cat (fun s => num 4 (sts D s)) i) t8 σ') (D 0 0) (fun o => ∃ t9, o = f_X10_addFixups_150 (nI 0) t9 ∧ Wc (ofs D (D 0 0) + 32) (cat (fun s => num 4 (sts D s)) (D 0 0)) t8 t9) ?_ ?_ FU 0 (nI 0, t8) (by omega) (FU_lt (by omega)) ⟨t8, rfl, Wc_nil x8⟩
    · exact key
    · rintro K q ⟨σ', rfl, hw⟩
      have d := (DC_c hw.2.2.2.2 hC8).1.1
      exact ⟨σ', by ((try simp (disch := first | decide | assumption | (simp (disch := first | decide | omega) only [ImC_sI, ImC_sJ, ImM_sI, ImM_sJ]; assumption) | omega) only [↓reduceIte, Nat.reduceAdd, Nat.reduceMul, Nat.reduceSub, Nat.reduceEqDiff, Nat.reducePow, Nat.reduceDiv, ↓zn_d, ↓bi_d, ↓bv_d, gd_T, ev_ib, true_or, or_true, eq_self, ite_true, ite_false, if_true, if_false, not_true_eq_false, not_false_eq_true, li_0, li_1, li_2, li_3, li_4, li_5, li_6, li_7, li_8, li_9, li_10, li_11, li_12, li_13, li_14, li_15, li_16, li_17, li_18, li_19, li_20, li_22, li_24, li_28, li_30, li_31, li_32, li_33, li_36, li_40, li_48, li_51, li_52, li_56, li_64, li_72, li_80, li_100, li_126, li_127, li_255, li_256, li_1024, li_1040, li_2048, li_4095, li_4096, li_65535, li_1073741824, ll_0, ll_1, ll_2, ll_3, ll_4, ll_5, ll_6, ll_7, ll_8, ll_9, ll_12, ll_15, ll_16, ll_20, ll_22, ll_24, ll_25, ll_28, ll_32, ll_40, ll_48, ll_64, ll_72, ll_80, ll_133, ll_255, ll_256, ll_512, ll_1024, ll_2048, ll_4096, ll_16384, ll_65535, ll_16777215, ll_16777228, ll_2147483647, ll_2147483648, ll_2147483700, ll_4277009103, ll_4294967295, ll_68719476735, ll_68719476736, ll_2234207627640832, ll_2251795518717952, ll_72057594037927935, ↓lm_1, ↓llm_1, ev_add, ev_sub, ev_mul, ev_div, ev_cl, ev_ltT, ev_ltF, ev_leT, ev_leF, ev_eqT, ev_eqF, ev_m1, ev_m1', ev_m1s, ev_dec, ev_nn, el_add, el_sub, el_mul, el_div, el_ltT, el_ltF, el_leT, el_leF, el_eqT, el_eqF, ev_l, el_i, el_m1, el_m1', rdI, rdJ, rdR, updF, updT, updLF, updLT, sI_l, sJ_l, sR_l, f_X10_addFixups_113b, d]); first | done | rfl), hw⟩
    · rintro K i q hi ⟨σ', rfl, hw⟩ ih
      have d := (DC_c hw.2.2.2.2 hC8).1.1
      have d2 := (LaC_c hw.2.2.2.2 hL8).2.2.2.1 i hi
      have ls : sts D i ≤ 200 := by rcases sts_0 hO hi with ⟨_, h⟩ | ⟨_, _, _, h⟩ <;> omega
      obtain ⟨σ2, e2, w2, _⟩ := Wc_n (k := 4) hw (cat_len (c := 4) i (fun k _ => num_len 4 _)) (sts D i) (by decide) (by omega) (by omega)
      have e : f_X10_addFixups_113b K (nI i) σ' = K (nI (i + 1), σ2) := by
        ((try simp (disch := first | decide | assumption | (simp (disch := first | decide | omega) only [ImC_sI, ImC_sJ, ImM_sI, ImM_sJ]; assumption) | omega) only [↓reduceIte, Nat.reduceAdd, Nat.reduceMul, Nat.reduceSub, Nat.reduceEqDiff, Nat.reducePow, Nat.reduceDiv, ↓zn_d, ↓bi_d, ↓bv_d, gd_T, ev_ib, true_or, or_true, eq_self, ite_true, ite_false, if_true, if_false, not_true_eq_false, not_false_eq_true, li_0, li_1, li_2, li_3, li_4, li_5, li_6, li_7, li_8, li_9, li_10, li_11, li_12, li_13, li_14, li_15, li_16, li_17, li_18, li_19, li_20, li_22, li_24, li_28, li_30, li_31, li_32, li_33, li_36, li_40, li_48, li_51, li_52, li_56, li_64, li_72, li_80, li_100, li_126, li_127, li_255, li_256, li_1024, li_1040, li_2048, li_4095, li_4096, li_65535, li_1073741824, ll_0, ll_1, ll_2, ll_3, ll_4, ll_5, ll_6, ll_7, ll_8, ll_9, ll_12, ll_15, ll_16, ll_20, ll_22, ll_24, ll_25, ll_28, ll_32, ll_40, ll_48, ll_64, ll_72, ll_80, ll_133, ll_255, ll_256, ll_512, ll_1024, ll_2048, ll_4096, ll_16384, ll_65535, ll_16777215, ll_16777228, ll_2147483647, ll_2147483648, ll_2147483700, ll_4277009103, ll_4294967295, ll_68719476735, ll_68719476736, ll_2234207627640832, ll_2251795518717952, ll_72057594037927935, ↓lm_1, ↓llm_1, ev_add, ev_sub, ev_mul, ev_div, ev_cl, ev_ltT, ev_ltF, ev_leT, ev_leF, ev_eqT, ev_eqF, ev_m1, ev_m1', ev_m1s, ev_dec, ev_nn, el_add, el_sub, el_mul, el_div, el_ltT, el_ltF, el_leT, el_leF, el_eqT, el_eqF, ev_l, el_i, el_m1, el_m1', rdI, rdJ, rdR, updF, updT, updLF, updLT, sI_l, sJ_l, sR_l, f_X10_addFixups_113b, d, d2, e2]); first | done | rfl)
      show ∃ t9, f_X10_addFixups_113b K (nI i) σ' = f_X10_addFixups_150 (nI 0) t9 ∧ _
      rw [e]
      exact ih _ ⟨σ2, rfl, w2⟩
  obtain ⟨t9, E1, w9⟩ := st1
  have x9 := w9.1
  rw [cat_len (c := 4) _ (fun k _ => num_len 4 _), show ofs D (D 0 0) + 32 + 4 * (D 0 0) = ofs D (D 0 0) + fpp D 0 from by show _ = ofs D (D 0 0) + (32 + 4 * (D 0 0)); omega] at x9
  have hC9 := DC_c w9.2.2.2.2 hC8
  have hL9 := LaC_c w9.2.2.2.2 hL8
  have st2 : ∃ K t10, f_X10_addFixups_150 (nI 0) t9 = f_X10_addFixups_150b K (nI (D 0 0)) t10 ∧ Wc (ofs D (D 0 0) + fpp D 0) (fpg D (D 0 0)) t9 t10 := by
    unfold f_X10_addFixups_150
    have key := it_for (F := fun K (q : Int32 × St) => f_X10_addFixups_150b K q.1 q.2) (fun i q => ∃ σ', q = (nI i, σ') ∧ Wc (ofs D (D 0 0) + fpp D 0) (fpg D i) t9 σ') (D 0 0) (fun o => ∃ K t10, o = f_X10_addFixups_150b K (nI (D 0 0)) t10 ∧ Wc (ofs D (D 0 0) + fpp D 0) (fpg D (D 0 0)) t9 t10) ?_ ?_ FU 0 (nI 0, t9) (by omega) (FU_lt (by omega)) ⟨t9, rfl, Wc_nil x9⟩
    · exact key
    · rintro K q ⟨σ', rfl, hw⟩
      exact ⟨K, σ', rfl, hw⟩
    · rintro K i q hi ⟨σ', rfl, hw⟩ ih
      have hCi := DC_c hw.2.2.2.2 hC9
      have d := hCi.1.1
      have d2 := (LaC_c hw.2.2.2.2 hL9).2.2.2.1 i hi
      have f0 : fpp D 0 = 32 + 4 * (D 0 0) := rfl
      have fl := fpg_len D i
      have y := hw.1
      rw [show ofs D (D 0 0) + fpp D 0 + (fpg D i).length = ofs D (D 0 0) + fpp D i by omega] at y
      have fb := fpp_le hO (i + 1) (by omega)
      show ∃ K' t10, f_X10_addFixups_150b K (nI i) σ' = f_X10_addFixups_150b K' (nI (D 0 0)) t10 ∧ _
      rcases sts_0 hO hi with ⟨c1, c2⟩ | ⟨c1, c2, c3, c4⟩
      · rw [c2] at d2
        have e : f_X10_addFixups_150b K (nI i) σ' = K (nI (i + 1), σ') := by
          ((try simp (disch := first | decide | assumption | (simp (disch := first | decide | omega) only [ImC_sI, ImC_sJ, ImM_sI, ImM_sJ]; assumption) | omega) only [↓reduceIte, Nat.reduceAdd, Nat.reduceMul, Nat.reduceSub, Nat.reduceEqDiff, Nat.reducePow, Nat.reduceDiv, ↓zn_d, ↓bi_d, ↓bv_d, gd_T, ev_ib, true_or, or_true, eq_self, ite_true, ite_false, if_true, if_false, not_true_eq_false, not_false_eq_true, li_0, li_1, li_2, li_3, li_4, li_5, li_6, li_7, li_8, li_9, li_10, li_11, li_12, li_13, li_14, li_15, li_16, li_17, li_18, li_19, li_20, li_22, li_24, li_28, li_30, li_31, li_32, li_33, li_36, li_40, li_48, li_51, li_52, li_56, li_64, li_72, li_80, li_100, li_126, li_127, li_255, li_256, li_1024, li_1040, li_2048, li_4095, li_4096, li_65535, li_1073741824, ll_0, ll_1, ll_2, ll_3, ll_4, ll_5, ll_6, ll_7, ll_8, ll_9, ll_12, ll_15, ll_16, ll_20, ll_22, ll_24, ll_25, ll_28, ll_32, ll_40, ll_48, ll_64, ll_72, ll_80, ll_133, ll_255, ll_256, ll_512, ll_1024, ll_2048, ll_4096, ll_16384, ll_65535, ll_16777215, ll_16777228, ll_2147483647, ll_2147483648, ll_2147483700, ll_4277009103, ll_4294967295, ll_68719476735, ll_68719476736, ll_2234207627640832, ll_2251795518717952, ll_72057594037927935, ↓lm_1, ↓llm_1, ev_add, ev_sub, ev_mul, ev_div, ev_cl, ev_ltT, ev_ltF, ev_leT, ev_leF, ev_eqT, ev_eqF, ev_m1, ev_m1', ev_m1s, ev_dec, ev_nn, el_add, el_sub, el_mul, el_div, el_ltT, el_ltF, el_leT, el_leF, el_eqT, el_eqF, ev_l, el_i, el_m1, el_m1', rdI, rdJ, rdR, updF, updT, updLF, updLT, sI_l, sJ_l, sR_l, f_X10_addFixups_150b, f_X10_addFixups_178, d, d2]); first | done | rfl)
        rw [e]
        refine ih _ ⟨σ', rfl, ?_⟩
        have : fpg D (i + 1) = fpg D i := if_pos c1
        rw [this]
        exact hw
      · have f1 : fpp D (i + 1) = up (fpp D i) 4 + (22 + 2 * pgs D i) := if_neg c1
        obtain ⟨σ2, e2, w2⟩ := c_pages hO hCi hi y (by rw [up4_add m8]; omega)
        have e : f_X10_addFixups_150b K (nI i) σ' = K (nI (i + 1), σ2) := by
          ((try simp (disch := first | decide | assumption | (simp (disch := first | decide | omega) only [ImC_sI, ImC_sJ, ImM_sI, ImM_sJ]; assumption) | omega) only [↓reduceIte, Nat.reduceAdd, Nat.reduceMul, Nat.reduceSub, Nat.reduceEqDiff, Nat.reducePow, Nat.reduceDiv, ↓zn_d, ↓bi_d, ↓bv_d, gd_T, ev_ib, true_or, or_true, eq_self, ite_true, ite_false, if_true, if_false, not_true_eq_false, not_false_eq_true, li_0, li_1, li_2, li_3, li_4, li_5, li_6, li_7, li_8, li_9, li_10, li_11, li_12, li_13, li_14, li_15, li_16, li_17, li_18, li_19, li_20, li_22, li_24, li_28, li_30, li_31, li_32, li_33, li_36, li_40, li_48, li_51, li_52, li_56, li_64, li_72, li_80, li_100, li_126, li_127, li_255, li_256, li_1024, li_1040, li_2048, li_4095, li_4096, li_65535, li_1073741824, ll_0, ll_1, ll_2, ll_3, ll_4, ll_5, ll_6, ll_7, ll_8, ll_9, ll_12, ll_15, ll_16, ll_20, ll_22, ll_24, ll_25, ll_28, ll_32, ll_40, ll_48, ll_64, ll_72, ll_80, ll_133, ll_255, ll_256, ll_512, ll_1024, ll_2048, ll_4096, ll_16384, ll_65535, ll_16777215, ll_16777228, ll_2147483647, ll_2147483648, ll_2147483700, ll_4277009103, ll_4294967295, ll_68719476735, ll_68719476736, ll_2234207627640832, ll_2251795518717952, ll_72057594037927935, ↓lm_1, ↓llm_1, ev_add, ev_sub, ev_mul, ev_div, ev_cl, ev_ltT, ev_ltF, ev_leT, ev_leF, ev_eqT, ev_eqF, ev_m1, ev_m1', ev_m1s, ev_dec, ev_nn, el_add, el_sub, el_mul, el_div, el_ltT, el_ltF, el_leT, el_leF, el_eqT, el_eqF, ev_l, el_i, el_m1, el_m1', rdI, rdJ, rdR, updF, updT, updLF, updLT, sI_l, sJ_l, sR_l, f_X10_addFixups_150b, f_X10_addFixups_178, d, d2, e2]); first | done | rfl)
        rw [e]
        refine ih _ ⟨σ2, rfl, ?_⟩
        have : fpg D (i + 1) = fpg D i ++ (zer (up (fpp D i) 4 - fpp D i) ++ pgp D i) := if_neg c1
        rw [this]
        refine Wc_tr hw ?_
        rw [up4_add m8, show ofs D (D 0 0) + up (fpp D i) 4 - (ofs D (D 0 0) + fpp D i) = up (fpp D i) 4 - fpp D i by omega] at w2
        rw [show ofs D (D 0 0) + fpp D 0 + (fpg D i).length = ofs D (D 0 0) + fpp D i by omega]
        exact w2
  obtain ⟨K, t10, E2, w10⟩ := st2
  have f0 : fpp D 0 = 32 + 4 * (D 0 0) := rfl
  have fl := fpg_len D (D 0 0)
  have x10 := w10.1
  rw [show ofs D (D 0 0) + fpp D 0 + (fpg D (D 0 0)).length = ofs D (D 0 0) + fpp D (D 0 0) by omega] at x10
  have hC10 := DC_c w10.2.2.2.2 hC9
  have ei : up (ofs D (D 0 0) + fpp D (D 0 0)) 4 = ofs D (D 0 0) + dIO D := up4_add m8
  obtain ⟨t11, e11, w11⟩ := w_fill (a := 4) x10 (by omega) (by rw [ei]; omega)
  rw [ei, show ofs D (D 0 0) + dIO D - (ofs D (D 0 0) + fpp D (D 0 0)) = dIO D - fpp D (D 0 0) by omega] at w11
  have x11 := w11.1
  rw [zer_len, show ofs D (D 0 0) + fpp D (D 0 0) + (dIO D - fpp D (D 0 0)) = ofs D (D 0 0) + dIO D by omega] at x11
  have hC11 := DC_c w11.2.2.2.2 hC10
  have y1 : dNO D = dIO D + 4 * (D 0 3) := rfl
  have y2 : dFS D = dNO D + lsm (D 18) (D 0 3) := rfl
  obtain ⟨t12, e12, w12⟩ := c_imps hO hC11 x11 (by omega)
  have x12 := w12.1
  rw [imr_len] at x12
  have hC12 := DC_c w12.2.2.2.2 hC11
  obtain ⟨t13, e13, w13⟩ := c_nmz (k0 := 23) (b0 := 320) (n0 := 20) (L := D 18) (N := fun k i => D 17 (16 * k + i)) (by decide) o4 (by decide) rfl x12 (by omega) hC12.1.2.2.2.1 (fun k hk => ⟨(hC12.2.1.2.2.2 k hk).1, (n4 k hk).2.1⟩) (fun k hk i hi => by
    have := (n4 k hk).2.1
    exact ⟨by rw [Nat.mul_comm]; exact (hC12.2.1.2.2.2 k hk).2 i (by omega), ((n4 k hk).2.2 i (by omega)).1⟩)
  have d10 := hC10.1.1
  refine ⟨t13, ?_, ?_⟩
  · rw [E0, E1, E2]
    ((try simp (disch := first | decide | assumption | (simp (disch := first | decide | omega) only [ImC_sI, ImC_sJ, ImM_sI, ImM_sJ]; assumption) | omega) only [↓reduceIte, Nat.reduceAdd, Nat.reduceMul, Nat.reduceSub, Nat.reduceEqDiff, Nat.reducePow, Nat.reduceDiv, ↓zn_d, ↓bi_d, ↓bv_d, gd_T, ev_ib, true_or, or_true, eq_self, ite_true, ite_false, if_true, if_false, not_true_eq_false, not_false_eq_true, li_0, li_1, li_2, li_3, li_4, li_5, li_6, li_7, li_8, li_9, li_10, li_11, li_12, li_13, li_14, li_15, li_16, li_17, li_18, li_19, li_20, li_22, li_24, li_28, li_30, li_31, li_32, li_33, li_36, li_40, li_48, li_51, li_52, li_56, li_64, li_72, li_80, li_100, li_126, li_127, li_255, li_256, li_1024, li_1040, li_2048, li_4095, li_4096, li_65535, li_1073741824, ll_0, ll_1, ll_2, ll_3, ll_4, ll_5, ll_6, ll_7, ll_8, ll_9, ll_12, ll_15, ll_16, ll_20, ll_22, ll_24, ll_25, ll_28, ll_32, ll_40, ll_48, ll_64, ll_72, ll_80, ll_133, ll_255, ll_256, ll_512, ll_1024, ll_2048, ll_4096, ll_16384, ll_65535, ll_16777215, ll_16777228, ll_2147483647, ll_2147483648, ll_2147483700, ll_4277009103, ll_4294967295, ll_68719476735, ll_68719476736, ll_2234207627640832, ll_2251795518717952, ll_72057594037927935, ↓lm_1, ↓llm_1, ev_add, ev_sub, ev_mul, ev_div, ev_cl, ev_ltT, ev_ltF, ev_leT, ev_leF, ev_eqT, ev_eqF, ev_m1, ev_m1', ev_m1s, ev_dec, ev_nn, el_add, el_sub, el_mul, el_div, el_ltT, el_ltF, el_leT, el_leF, el_eqT, el_eqF, ev_l, el_i, el_m1, el_m1', rdI, rdJ, rdR, updF, updT, updLF, updLT, sI_l, sJ_l, sR_l, f_X10_addFixups_150b, d10, e11, e12, e13]); first | done | rfl)
  · refine Wc_tr w0 ?_
    rw [zer_len, show en D (D 0 0) + (ofs D (D 0 0) - en D (D 0 0)) = ofs D (D 0 0) by omega]
    unfold fxL fxi
    refine Wc_tr (Wc_tr w8 (by rw [fxh_len]; exact w9)) ?_
    rw [List.length_append, fxh_len, cat_len (c := 4) _ (fun k _ => num_len 4 _), show ofs D (D 0 0) + (32 + 4 * (D 0 0)) = ofs D (D 0 0) + fpp D 0 by omega]
    refine Wc_tr w10 ?_
    rw [show ofs D (D 0 0) + fpp D 0 + (fpg D (D 0 0)).length = ofs D (D 0 0) + fpp D (D 0 0) by omega]
    refine Wc_tr (σ1 := t12) (Wc_tr w11 ?_) ?_
    · rw [zer_len, show ofs D (D 0 0) + fpp D (D 0 0) + (dIO D - fpp D (D 0 0)) = ofs D (D 0 0) + dIO D by omega]
      exact w12
    · rw [List.length_append, zer_len, imr_len, show ofs D (D 0 0) + fpp D (D 0 0) + (dIO D - fpp D (D 0 0) + 4 * (D 0 3)) = ofs D (D 0 0) + dIO D + 4 * (D 0 3) by omega]
      exact w13
