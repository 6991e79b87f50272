/-! the class's write -/
def syp (D : Nat → Nat → Nat) (k : Nat) : List Nat := symr (1 + lsm (D 14) k) (D 11 k + 1) (dad D (D 6 (D 11 k)) + D 7 (D 11 k) + D 12 k)
theorem syp_len (D : Nat → Nat → Nat) (k : Nat) : (syp D k).length = 16 := by
  unfold syp symr
  simp only [List.length_append, num_len, List.length_nil]
theorem syl_len (D : Nat → Nat → Nat) (n : Nat) : (cat (syp D) n).length = 16 * n := cat_len n (fun k _ => syp_len D k)
theorem lsy_D {D : Nat → Nat → Nat} (hO : DOK D) {k : Nat} (hk : k ≤ (D 0 2)) : lsm (D 14) k ≤ 340 := by
  obtain ⟨_, _, o3, _, _, _, _, ⟨_, _, n3, _⟩, _⟩ := hO
  have := lsm_le (L := D 14) k (fun j hj => (n3 j (by omega)).2.1)
  omega
theorem c_symL {D : Nat → Nat → Nat} {σ : St} (hO : DOK D) (hC : DC D σ) {z : Nat} (h3 : σ.1 3 1 = nI z) (hz : up z 8 + 16 * (D 0 2) ≤ 6400) : ∃ σ', f_X10_addSymbols σ = some σ' ∧ Wc z (zer (up z 8 - z) ++ cat (syp D) (D 0 2)) σ σ' := by
  have hO' := hO
  obtain ⟨o1, o2, o3, _, _, _, _, ⟨_, _, n3, _⟩, _, _, o11, o12, _⟩ := hO'
  have lu := (up_le (z := z) (a := 8) (by decide)).1
  obtain ⟨t0, e0, w0⟩ := w_fill (a := 8) h3 (by omega) (by omega)
  have x0 := w0.1
  rw [zer_len, show z + (up z 8 - z) = up z 8 by omega] at x0
  have hC0 := DC_c w0.2.2.2.2 hC
  obtain ⟨σ1, e1, w1⟩ := c_syms (z := up z 8) (ny := (D 0 2)) (L := D 14) (P := syp D) (σ := t0) o3 hC0.1.2.2.1 x0 (fun K k σ' hk hw => by
    have hC1 := DC_c hw.2.2.2.2 hC0
    have y := hw.1
    rw [syl_len] at y
    obtain ⟨q1, q2⟩ := o12 k hk
    obtain ⟨g1, g2⟩ := o11 _ q1
    have la := dad_le hO (show D 6 (D 11 k) ≤ (D 0 0) by omega)
    have lL := lsy_D hO (show k ≤ (D 0 2) by omega)
    obtain ⟨d1, d2⟩ := hC1.2.2.2.2.2.1 k hk
    obtain ⟨d3, d4, _⟩ := hC1.2.2.2.2.1 _ q1
    obtain ⟨σ2, e2, w2, _⟩ := c_symr (z := up z 8 + 16 * k) (x := 1 + lsm (D 14) k) (k := k) (ny := (D 0 2)) (c := D 11 k) (s := D 6 (D 11 k)) (pl := D 7 (D 11 k)) (q := D 12 k) (ad := dad D (D 6 (D 11 k))) (l := D 14 k) (σ := σ') K y (by omega) o3 hk hC1.1.2.2.1 (by omega) d1 d4 d2 d3 (fun σ' o => c_addrD hO (DC_c o hC1) (by omega)) (hC1.2.1.2.2.1 k hk).1 (n3 k hk).2.1 (by omega) (by omega)
    refine ⟨σ2, ?_, Wc_tr hw (by rw [syl_len]; exact w2)⟩
    rw [e2, Nat.add_assoc]
    rfl)
  have E : f_X10_addSymbols σ = f_X10_addSymbols_13 (nI 1) (nI 0) t0 := by
    ((try simp (disch := first | decide | assumption | (simp (disch := first | decide | omega) only [ImC_sI, ImC_sJ, ImM_sI, ImM_sJ]; assumption) | omega) only [↓reduceIte, Nat.reduceAdd, Nat.reduceMul, Nat.reduceSub, Nat.reduceEqDiff, Nat.reducePow, Nat.reduceDiv, ↓zn_d, ↓bi_d, ↓bv_d, gd_T, ev_ib, true_or, or_true, eq_self, ite_true, ite_false, if_true, if_false, not_true_eq_false, not_false_eq_true, li_0, li_1, li_2, li_3, li_4, li_5, li_6, li_7, li_8, li_9, li_10, li_11, li_12, li_13, li_14, li_15, li_16, li_17, li_18, li_19, li_20, li_22, li_24, li_28, li_30, li_31, li_32, li_33, li_36, li_40, li_48, li_51, li_52, li_56, li_64, li_72, li_80, li_100, li_126, li_127, li_255, li_256, li_1024, li_1040, li_2048, li_4095, li_4096, li_65535, li_1073741824, ll_0, ll_1, ll_2, ll_3, ll_4, ll_5, ll_6, ll_7, ll_8, ll_9, ll_12, ll_15, ll_16, ll_20, ll_22, ll_24, ll_25, ll_28, ll_32, ll_40, ll_48, ll_64, ll_72, ll_80, ll_133, ll_255, ll_256, ll_512, ll_1024, ll_2048, ll_4096, ll_16384, ll_65535, ll_16777215, ll_16777228, ll_2147483647, ll_2147483648, ll_2147483700, ll_4277009103, ll_4294967295, ll_68719476735, ll_68719476736, ll_2234207627640832, ll_2251795518717952, ll_72057594037927935, ↓lm_1, ↓llm_1, ev_add, ev_sub, ev_mul, ev_div, ev_cl, ev_ltT, ev_ltF, ev_leT, ev_leF, ev_eqT, ev_eqF, ev_m1, ev_m1', ev_m1s, ev_dec, ev_nn, el_add, el_sub, el_mul, el_div, el_ltT, el_ltF, el_leT, el_leF, el_eqT, el_eqF, ev_l, el_i, el_m1, el_m1', rdI, rdJ, rdR, updF, updT, updLF, updLT, sI_l, sJ_l, sR_l, f_X10_addSymbols, e0]); first | done | rfl)
  refine ⟨σ1, by rw [E, e1], Wc_tr w0 ?_⟩
  rw [zer_len, show z + (up z 8 - z) = up z 8 by omega]
  exact w1
def stL (D : Nat → Nat → Nat) : List Nat := zer 1 ++ nmz (D 14) (fun k i => D 13 (16 * k + i)) (D 0 2)
theorem c_strL {D : Nat → Nat → Nat} {σ : St} (hO : DOK D) (hC : DC D σ) {z : Nat} (h3 : σ.1 3 1 = nI z) (hz : up z 8 + 1 + lsm (D 14) (D 0 2) ≤ 6400) : ∃ σ', f_X10_addStrings σ = some σ' ∧ Wc z (zer (up z 8 - z) ++ stL D) σ σ' := by
  have hO' := hO
  obtain ⟨o1, o2, o3, _, _, _, _, ⟨_, _, n3, _⟩, _⟩ := hO'
  have lu := (up_le (z := z) (a := 8) (by decide)).1
  obtain ⟨t0, e0, w0⟩ := w_fill (a := 8) h3 (by omega) (by omega)
  have x0 := w0.1
  rw [zer_len, show z + (up z 8 - z) = up z 8 by omega] at x0
  have hC0 := DC_c w0.2.2.2.2 hC
  obtain ⟨t1, e1, w1⟩ := w_zer (k := 1) x0 (by omega)
  have x1 := w1.1
  rw [zer_len] at x1
  have hC1 := DC_c w1.2.2.2.2 hC0
  obtain ⟨t2, e2, w2⟩ := c_nmz (k0 := 18) (b0 := 320) (n0 := 20) (L := D 14) (N := fun k i => D 13 (16 * k + i)) (by decide) o3 (by decide) rfl x1 (by omega) hC1.1.2.2.1 (fun k hk => ⟨(hC1.2.1.2.2.1 k hk).1, (n3 k hk).2.1⟩) (fun k hk i hi => by
    have := (n3 k hk).2.1
    exact ⟨by rw [Nat.mul_comm]; exact (hC1.2.1.2.2.1 k hk).2 i (by omega), ((n3 k hk).2.2 i (by omega)).1⟩)
  refine ⟨t2, by ((try simp (disch := first | decide | assumption | (simp (disch := first | decide | omega) only [ImC_sI, ImC_sJ, ImM_sI, ImM_sJ]; assumption) | omega) only [↓reduceIte, Nat.reduceAdd, Nat.reduceMul, Nat.reduceSub, Nat.reduceEqDiff, Nat.reducePow, Nat.reduceDiv, ↓zn_d, ↓bi_d, ↓bv_d, gd_T, ev_ib, true_or, or_true, eq_self, ite_true, ite_false, if_true, if_false, not_true_eq_false, not_false_eq_true, li_0, li_1, li_2, li_3, li_4, li_5, li_6, li_7, li_8, li_9, li_10, li_11, li_12, li_13, li_14, li_15, li_16, li_17, li_18, li_19, li_20, li_22, li_24, li_28, li_30, li_31, li_32, li_33, li_36, li_40, li_48, li_51, li_52, li_56, li_64, li_72, li_80, li_100, li_126, li_127, li_255, li_256, li_1024, li_1040, li_2048, li_4095, li_4096, li_65535, li_1073741824, ll_0, ll_1, ll_2, ll_3, ll_4, ll_5, ll_6, ll_7, ll_8, ll_9, ll_12, ll_15, ll_16, ll_20, ll_22, ll_24, ll_25, ll_28, ll_32, ll_40, ll_48, ll_64, ll_72, ll_80, ll_133, ll_255, ll_256, ll_512, ll_1024, ll_2048, ll_4096, ll_16384, ll_65535, ll_16777215, ll_16777228, ll_2147483647, ll_2147483648, ll_2147483700, ll_4277009103, ll_4294967295, ll_68719476735, ll_68719476736, ll_2234207627640832, ll_2251795518717952, ll_72057594037927935, ↓lm_1, ↓llm_1, ev_add, ev_sub, ev_mul, ev_div, ev_cl, ev_ltT, ev_ltF, ev_leT, ev_leF, ev_eqT, ev_eqF, ev_m1, ev_m1', ev_m1s, ev_dec, ev_nn, el_add, el_sub, el_mul, el_div, el_ltT, el_ltF, el_leT, el_leF, el_eqT, el_eqF, ev_l, el_i, el_m1, el_m1', rdI, rdJ, rdR, updF, updT, updLF, updLT, sI_l, sJ_l, sR_l, f_X10_addStrings, e0, e1, e2]); first | done | rfl), Wc_tr w0 ?_⟩
  rw [zer_len, show z + (up z 8 - z) = up z 8 by omega]
  exact Wc_tr w1 (by rw [zer_len]; exact w2)
/-- the image: bytes before the fixups with the first k pointers over them, and what follows -/
noncomputable def tlL (D : Nat → Nat → Nat) : List Nat := (zer (ofs D (D 0 0) - en D (D 0 0)) ++ fxL D) ++ ((zer (dSO D - (ofs D (D 0 0) + dFS D)) ++ cat (syp D) (D 0 2)) ++ (zer (dTO D - (dSO D + 16 * (D 0 2))) ++ stL D))
noncomputable def imL (D : Nat → Nat → Nat) (k : Nat) : List Nat := cmL D ++ (cat (ctp D k) (D 0 0) ++ tlL D)
theorem stL_len (D : Nat → Nat → Nat) : (stL D).length = 1 + lsm (D 14) (D 0 2) := by
  unfold stL
  rw [List.length_append, zer_len, nmz_len]
theorem tlL_len {D : Nat → Nat → Nat} (hO : DOK D) : en D (D 0 0) + (tlL D).length = dZ D := by
  unfold tlL
  simp only [List.length_append, zer_len, fxL_len hO, syl_len, stL_len]
  have h1 := (dSO_le hO).1
  have h2 := (dTO_le hO).1
  have h3 := ofs_ge (D := D) (s := (D 0 0))
  unfold dZ
  omega
theorem imL_len {D : Nat → Nat → Nat} (hO : DOK D) (k : Nat) : (imL D k).length = dZ D := by
  unfold imL
  rw [List.length_append, List.length_append, cmL_len hO, ← tlL_len hO, ← ctl_len D k (D 0 0)]
  omega
theorem c_write {D : Nat → Nat → Nat} {σ : St} (hO : DOK D) (hC : DC D σ) : ∃ σ', f_X11_write σ = some (nI (dZ D), σ') ∧ HsC (imL D (D 0 4)) 0 σ' ∧ σ'.1 3 1 = nI (dZ D) ∧ (Bys (σ.1 4) → Bys (σ'.1 4)) ∧ OM Ewc σ σ' := by
  obtain ⟨s1, e1, hL1, x1, b1, m1⟩ := c_pre hO hC
  have hC1 := DC_f m1 hC
  obtain ⟨s2, e2, w2⟩ := c_cmL hO hC1 hL1 x1
  have x2 := w2.1
  rw [cmL_len hO, Nat.zero_add] at x2
  have hC2 := DC_c w2.2.2.2.2 hC1
  have hL2 := LaC_c w2.2.2.2.2 hL1
  obtain ⟨K, s3, e3, w3⟩ := c_conts hO hC2 hL2 x2
  have x3 := w3.1
  rw [ctl_len] at x3
  have hC3 := DC_c w3.2.2.2.2 hC2
  have hL3 := LaC_c w3.2.2.2.2 hL2
  obtain ⟨s4, e4, w4⟩ := c_fix hO hC3 hL3 x3
  have l1 := dSO_le hO
  have l2 := dTO_le hO
  have l3 := dZ_le hO
  have l4 : dZ D = dTO D + (1 + lsm (D 14) (D 0 2)) := rfl
  have lg := ofs_ge (D := D) (s := (D 0 0))
  have x4 := w4.1
  rw [List.length_append, zer_len, fxL_len hO, show en D (D 0 0) + (ofs D (D 0 0) - en D (D 0 0) + dFS D) = ofs D (D 0 0) + dFS D by omega] at x4
  have hC4 := DC_c w4.2.2.2.2 hC3
  have y4 : up (ofs D (D 0 0) + dFS D) 8 = dSO D := rfl
  obtain ⟨s5, e5, w5⟩ := c_symL hO hC4 x4 (by rw [y4]; omega)
  rw [y4] at w5
  have x5 := w5.1
  rw [List.length_append, zer_len, syl_len, show ofs D (D 0 0) + dFS D + (dSO D - (ofs D (D 0 0) + dFS D) + 16 * (D 0 2)) = dSO D + 16 * (D 0 2) by omega] at x5
  have hC5 := DC_c w5.2.2.2.2 hC4
  have y5 : up (dSO D + 16 * (D 0 2)) 8 = dTO D := rfl
  obtain ⟨s6, e6, w6⟩ := c_strL hO hC5 x5 (by rw [y5]; omega)
  rw [y5] at w6
  have w : Wc 0 (imL D (D 0 4)) s1 s6 := by
    unfold imL tlL
    refine Wc_tr w2 ?_
    rw [cmL_len hO, Nat.zero_add]
    refine Wc_tr w3 ?_
    rw [ctl_len]
    refine Wc_tr w4 ?_
    rw [List.length_append, zer_len, fxL_len hO, show en D (D 0 0) + (ofs D (D 0 0) - en D (D 0 0) + dFS D) = ofs D (D 0 0) + dFS D by omega]
    refine Wc_tr w5 ?_
    rw [List.length_append, zer_len, syl_len, show ofs D (D 0 0) + dFS D + (dSO D - (ofs D (D 0 0) + dFS D) + 16 * (D 0 2)) = dSO D + 16 * (D 0 2) by omega]
    exact w6
  have d3 := hC3.1.1
  have x6 := w.1
  rw [imL_len hO, Nat.zero_add] at x6
  have E : f_X10_writeAll σ = some s6 := by
    rw [e1, e2, e3]
    have o1 := hO.1
    ((try simp (disch := first | decide | assumption | (simp (disch := first | decide | omega) only [ImC_sI, ImC_sJ, ImM_sI, ImM_sJ]; assumption) | omega) only [↓reduceIte, Nat.reduceAdd, Nat.reduceMul, Nat.reduceSub, Nat.reduceEqDiff, Nat.reducePow, Nat.reduceDiv, ↓zn_d, ↓bi_d, ↓bv_d, gd_T, ev_ib, true_or, or_true, eq_self, ite_true, ite_false, if_true, if_false, not_true_eq_false, not_false_eq_true, li_0, li_1, li_2, li_3, li_4, li_5, li_6, li_7, li_8, li_9, li_10, li_11, li_12, li_13, li_14, li_15, li_16, li_17, li_18, li_19, li_20, li_22, li_24, li_28, li_30, li_31, li_32, li_33, li_36, li_40, li_48, li_51, li_52, li_56, li_64, li_72, li_80, li_100, li_126, li_127, li_255, li_256, li_1024, li_1040, li_2048, li_4095, li_4096, li_65535, li_1073741824, ll_0, ll_1, ll_2, ll_3, ll_4, ll_5, ll_6, ll_7, ll_8, ll_9, ll_12, ll_15, ll_16, ll_20, ll_22, ll_24, ll_25, ll_28, ll_32, ll_40, ll_48, ll_64, ll_72, ll_80, ll_133, ll_255, ll_256, ll_512, ll_1024, ll_2048, ll_4096, ll_16384, ll_65535, ll_16777215, ll_16777228, ll_2147483647, ll_2147483648, ll_2147483700, ll_4277009103, ll_4294967295, ll_68719476735, ll_68719476736, ll_2234207627640832, ll_2251795518717952, ll_72057594037927935, ↓lm_1, ↓llm_1, ev_add, ev_sub, ev_mul, ev_div, ev_cl, ev_ltT, ev_ltF, ev_leT, ev_leF, ev_eqT, ev_eqF, ev_m1, ev_m1', ev_m1s, ev_dec, ev_nn, el_add, el_sub, el_mul, el_div, el_ltT, el_ltF, el_leT, el_leF, el_eqT, el_eqF, ev_l, el_i, el_m1, el_m1', rdI, rdJ, rdR, updF, updT, updLF, updLT, sI_l, sJ_l, sR_l, f_X10_writeAll_102b, d3, e4, e5, e6]); first | done | rfl)
  refine ⟨s6, by ((try simp (disch := first | decide | assumption | (simp (disch := first | decide | omega) only [ImC_sI, ImC_sJ, ImM_sI, ImM_sJ]; assumption) | omega) only [↓reduceIte, Nat.reduceAdd, Nat.reduceMul, Nat.reduceSub, Nat.reduceEqDiff, Nat.reducePow, Nat.reduceDiv, ↓zn_d, ↓bi_d, ↓bv_d, gd_T, ev_ib, true_or, or_true, eq_self, ite_true, ite_false, if_true, if_false, not_true_eq_false, not_false_eq_true, li_0, li_1, li_2, li_3, li_4, li_5, li_6, li_7, li_8, li_9, li_10, li_11, li_12, li_13, li_14, li_15, li_16, li_17, li_18, li_19, li_20, li_22, li_24, li_28, li_30, li_31, li_32, li_33, li_36, li_40, li_48, li_51, li_52, li_56, li_64, li_72, li_80, li_100, li_126, li_127, li_255, li_256, li_1024, li_1040, li_2048, li_4095, li_4096, li_65535, li_1073741824, ll_0, ll_1, ll_2, ll_3, ll_4, ll_5, ll_6, ll_7, ll_8, ll_9, ll_12, ll_15, ll_16, ll_20, ll_22, ll_24, ll_25, ll_28, ll_32, ll_40, ll_48, ll_64, ll_72, ll_80, ll_133, ll_255, ll_256, ll_512, ll_1024, ll_2048, ll_4096, ll_16384, ll_65535, ll_16777215, ll_16777228, ll_2147483647, ll_2147483648, ll_2147483700, ll_4277009103, ll_4294967295, ll_68719476735, ll_68719476736, ll_2234207627640832, ll_2251795518717952, ll_72057594037927935, ↓lm_1, ↓llm_1, ev_add, ev_sub, ev_mul, ev_div, ev_cl, ev_ltT, ev_ltF, ev_leT, ev_leF, ev_eqT, ev_eqF, ev_m1, ev_m1', ev_m1s, ev_dec, ev_nn, el_add, el_sub, el_mul, el_div, el_ltT, el_ltF, el_leT, el_leF, el_eqT, el_eqF, ev_l, el_i, el_m1, el_m1', rdI, rdJ, rdR, updF, updT, updLF, updLT, sI_l, sJ_l, sR_l, f_X11_write, E, x6]); first | done | rfl), w.2.1, x6, fun hB => w.2.2.2.1 (fun j => by rw [b1 j]; exact hB j), m1.tr (w.2.2.2.2.mono (fun a b h => by unfold Eic at h; unfold Ewc; omega))⟩
