/-! the reference's write -/
theorem m_symL {D : Nat → Nat → Nat} {τ : St} {C : Nat} (hO : DOK D) (hM : DM D τ) {p : Nat} (h3 : τ.1 68 31 = nI p) (hz : p + 16 * (D 0 2) ≤ 9000) : ∃ K τ', f_X12_write_142 (nI C) (nI 1) (nI 0) τ = f_X12_write_142b K (nI C) (nI (1 + lsm (D 14) (D 0 2))) (nI (D 0 2)) τ' ∧ Wm p (cat (syp D) (D 0 2)) τ τ' := by
  have hO' := hO
  obtain ⟨o1, o2, o3, _, _, _, _, ⟨_, _, n3, _⟩, _, _, o11, o12, _⟩ := hO'
  refine m_syms (P := syp D) o3 h3 (fun K k τ' hk hw => ?_)
  have hM1 := DM_m hw.2.2.2 hM
  have y := hw.1
  rw [syl_len] at y
  obtain ⟨q1, q2⟩ := o12 k hk
  obtain ⟨g1, g2⟩ := o11 _ q1
  have la := dad_le hO (show D 6 (D 11 k) ≤ (D 0 0) by omega)
  have lL := lsy_D hO (show k ≤ (D 0 2) by omega)
  obtain ⟨d1, d2⟩ := hM1.2.2.2.2.2.1 k hk
  obtain ⟨d3, d4, _⟩ := hM1.2.2.2.2.1 _ q1
  obtain ⟨τ2, e2, w2, _⟩ := m_symr (p := p + 16 * k) (x := 1 + lsm (D 14) k) (k := k) (ny := (D 0 2)) (c := D 11 k) (s := D 6 (D 11 k)) (pl := D 7 (D 11 k)) (q := D 12 k) (ad := dad D (D 6 (D 11 k))) (l := D 14 k) (C := C) (τ := τ') K y (by omega) o3 hk hM1.1.2.2.1 (by omega) d1 d4 d2 d3 (fun σ' o => m_addrD hO (DM_m o hM1) (by omega)) (fun σ' o => m_longOf n3 (DM_m o hM1).2.1.2.2.1 hk (by omega)) (n3 k hk).2.1 (by omega) (by omega)
  refine ⟨τ2, ?_, Wm_tr hw (by rw [syl_len]; exact w2)⟩
  rw [e2, Nat.add_assoc]
  rfl
theorem WM_E {E : Nat → Nat → Prop} {p : Nat} {L : List Nat} {τ τ' : St} (h : WE E p L τ τ') (hE : ∀ a b, E a b → Ewm a b) : WM p L τ τ' := ⟨h.1, h.2.1, h.2.2.1, h.2.2.2.mono hE⟩
set_option maxHeartbeats 2000000 in
theorem m_write {D : Nat → Nat → Nat} {τ : St} (hO : DOK D) (hM : DM D τ) : ∃ τ', f_X12_write τ = some (nI (dZ D), τ') ∧ HsM (imL D (D 0 4)) 0 τ' ∧ τ'.1 68 30 = nI (dZ D) ∧ OM Ewm τ τ' := by
  have hO' := hO
  obtain ⟨o1, _, o3, o4, _, o6, o7, ⟨_, _, n3, _⟩, o9, _⟩ := hO'
  have lC := dC_le hO
  have lS := dSO_le hO
  have lT := dTO_le hO
  have lZ := dZ_le hO
  have lF := dFS_le hO
  have eZ : dZ D = dTO D + (1 + lsm (D 14) (D 0 2)) := rfl
  have lo := ofs_le hO (Nat.le_refl (D 0 0))
  have lg := ofs_ge (D := D) (s := (D 0 0))
  have lL := lsy_D hO (Nat.le_refl (D 0 2))
  -- sizes
  obtain ⟨a0, ha0⟩ : ∃ t, t = sI τ 68 0 (nI 0) := ⟨_, rfl⟩
  have p0 : OM Ewm τ a0 := by rw [ha0]; exact OM.sI OM.rf (by unfold Ewm; omega)
  have hM0 := DM_f p0 hM
  have E0 : f_X12_write τ = f_X12_write_10 (nI 40) (nI 0) a0 := by rw [ha0]; ((try simp (disch := first | decide | assumption | (simp (disch := first | decide | omega) only [ImC_sI, ImC_sJ, ImM_sI, ImM_sJ]; assumption) | omega) only [↓reduceIte, Nat.reduceAdd, Nat.reduceMul, Nat.reduceSub, Nat.reduceEqDiff, Nat.reducePow, Nat.reduceDiv, ↓zn_d, ↓bi_d, ↓bv_d, gd_T, ev_ib, true_or, or_true, eq_self, ite_true, ite_false, if_true, if_false, not_true_eq_false, not_false_eq_true, li_0, li_1, li_2, li_3, li_4, li_5, li_6, li_7, li_8, li_9, li_10, li_11, li_12, li_13, li_14, li_15, li_16, li_17, li_18, li_19, li_20, li_22, li_24, li_28, li_30, li_31, li_32, li_33, li_36, li_40, li_48, li_51, li_52, li_56, li_64, li_72, li_80, li_100, li_126, li_127, li_255, li_256, li_1024, li_1040, li_2048, li_4095, li_4096, li_65535, li_1073741824, ll_0, ll_1, ll_2, ll_3, ll_4, ll_5, ll_6, ll_7, ll_8, ll_9, ll_12, ll_15, ll_16, ll_20, ll_22, ll_24, ll_25, ll_28, ll_32, ll_40, ll_48, ll_64, ll_72, ll_80, ll_133, ll_255, ll_256, ll_512, ll_1024, ll_2048, ll_4096, ll_16384, ll_65535, ll_16777215, ll_16777228, ll_2147483647, ll_2147483648, ll_2147483700, ll_4277009103, ll_4294967295, ll_68719476735, ll_68719476736, ll_2234207627640832, ll_2251795518717952, ll_72057594037927935, ↓lm_1, ↓llm_1, ev_add, ev_sub, ev_mul, ev_div, ev_cl, ev_ltT, ev_ltF, ev_leT, ev_leF, ev_eqT, ev_eqF, ev_m1, ev_m1', ev_m1s, ev_dec, ev_nn, el_add, el_sub, el_mul, el_div, el_ltT, el_ltF, el_leT, el_leF, el_eqT, el_eqF, ev_l, el_i, el_m1, el_m1', rdI, rdJ, rdR, updF, updT, updLF, updLT, sI_l, sJ_l, sR_l, f_X12_write]); first | done | rfl)
  obtain ⟨a1, ha1⟩ : ∃ t, t = sI a0 68 31 (nI (32 + dC D)) := ⟨_, rfl⟩
  have p1 : OM Ewm a0 a1 := by rw [ha1]; exact OM.sI OM.rf (by unfold Ewm; omega)
  have hM1 := DM_f p1 hM0
  have x1 : a1.1 68 31 = nI (32 + dC D) := by rw [ha1]; simp (disch := first | decide | omega) only [↓reduceIte, Nat.reduceAdd, Nat.reduceMul, Nat.reduceSub, Nat.reduceEqDiff, Nat.reducePow, Nat.reduceDiv, ↓zn_d, ↓bi_d, ↓bv_d, gd_T, ev_ib, true_or, or_true, eq_self, ite_true, ite_false, if_true, if_false, not_true_eq_false, not_false_eq_true, li_0, li_1, li_2, li_3, li_4, li_5, li_6, li_7, li_8, li_9, li_10, li_11, li_12, li_13, li_14, li_15, li_16, li_17, li_18, li_19, li_20, li_22, li_24, li_28, li_30, li_31, li_32, li_33, li_36, li_40, li_48, li_51, li_52, li_56, li_64, li_72, li_80, li_100, li_126, li_127, li_255, li_256, li_1024, li_1040, li_2048, li_4095, li_4096, li_65535, li_1073741824, ll_0, ll_1, ll_2, ll_3, ll_4, ll_5, ll_6, ll_7, ll_8, ll_9, ll_12, ll_15, ll_16, ll_20, ll_22, ll_24, ll_25, ll_28, ll_32, ll_40, ll_48, ll_64, ll_72, ll_80, ll_133, ll_255, ll_256, ll_512, ll_1024, ll_2048, ll_4096, ll_16384, ll_65535, ll_16777215, ll_16777228, ll_2147483647, ll_2147483648, ll_2147483700, ll_4277009103, ll_4294967295, ll_68719476735, ll_68719476736, ll_2234207627640832, ll_2251795518717952, ll_72057594037927935, ↓lm_1, ↓llm_1, ev_add, ev_sub, ev_mul, ev_div, ev_cl, ev_ltT, ev_ltF, ev_leT, ev_leF, ev_eqT, ev_eqF, ev_m1, ev_m1', ev_m1s, ev_dec, ev_nn, el_add, el_sub, el_mul, el_div, el_ltT, el_ltF, el_leT, el_leF, el_eqT, el_eqF, ev_l, el_i, el_m1, el_m1', rdI, rdJ, rdR, updF, updT, updLF, updLT, sI_l, sJ_l, sR_l]
  have E1 := m_size hO hM0
  rw [← ha1] at E1
  -- contents
  obtain ⟨K2, a2, e2, w2, s2⟩ := m_conts (C := dC D) hO hM1 x1
  have hM2 := DM_f w2.2.2.2 hM1
  have x2 := w2.1
  rw [ctl_len] at x2
  obtain ⟨a3, e3, w3⟩ := w_even (a := 8) x2 (by omega) (show up (en D (D 0 0)) 8 ≤ 9000 by have : up (en D (D 0 0)) 8 = ofs D (D 0 0) := rfl; omega)
  have w3 : Wm (en D (D 0 0)) (zer (ofs D (D 0 0) - en D (D 0 0))) a2 a3 := w3
  have x3 := w3.1
  rw [zer_len, show en D (D 0 0) + (ofs D (D 0 0) - en D (D 0 0)) = ofs D (D 0 0) by omega] at x3
  have hM3 := DM_m w3.2.2.2 hM2
  -- fixups
  obtain ⟨a4, e4, w4, z4, q4⟩ := m_fix hO hM3 x3
  have hM4 := DM_x w4.2.2.2 hM3
  have x4 := w4.1
  rw [fxL_len hO] at x4
  have y4 : up (ofs D (D 0 0) + dFS D) 8 = dSO D := rfl
  obtain ⟨a5, e5, w5⟩ := w_even (a := 8) x4 (by omega) (by rw [y4]; omega)
  rw [y4] at w5
  have x5 := w5.1
  rw [zer_len, show ofs D (D 0 0) + dFS D + (dSO D - (ofs D (D 0 0) + dFS D)) = dSO D by omega] at x5
  have hM5 := DM_m w5.2.2.2 hM4
  -- symbols
  obtain ⟨a6, ha6⟩ : ∃ t, t = sI a5 68 35 (nI (dSO D)) := ⟨_, rfl⟩
  have p6 : OM Ewm a5 a6 := by rw [ha6]; exact OM.sI OM.rf (by unfold Ewm; omega)
  have hM6 := DM_f p6 hM5
  have x6 : a6.1 68 31 = nI (dSO D) := by rw [ha6]; simp (disch := first | decide | omega) only [↓reduceIte, Nat.reduceAdd, Nat.reduceMul, Nat.reduceSub, Nat.reduceEqDiff, Nat.reducePow, Nat.reduceDiv, ↓zn_d, ↓bi_d, ↓bv_d, gd_T, ev_ib, true_or, or_true, eq_self, ite_true, ite_false, if_true, if_false, not_true_eq_false, not_false_eq_true, li_0, li_1, li_2, li_3, li_4, li_5, li_6, li_7, li_8, li_9, li_10, li_11, li_12, li_13, li_14, li_15, li_16, li_17, li_18, li_19, li_20, li_22, li_24, li_28, li_30, li_31, li_32, li_33, li_36, li_40, li_48, li_51, li_52, li_56, li_64, li_72, li_80, li_100, li_126, li_127, li_255, li_256, li_1024, li_1040, li_2048, li_4095, li_4096, li_65535, li_1073741824, ll_0, ll_1, ll_2, ll_3, ll_4, ll_5, ll_6, ll_7, ll_8, ll_9, ll_12, ll_15, ll_16, ll_20, ll_22, ll_24, ll_25, ll_28, ll_32, ll_40, ll_48, ll_64, ll_72, ll_80, ll_133, ll_255, ll_256, ll_512, ll_1024, ll_2048, ll_4096, ll_16384, ll_65535, ll_16777215, ll_16777228, ll_2147483647, ll_2147483648, ll_2147483700, ll_4277009103, ll_4294967295, ll_68719476735, ll_68719476736, ll_2234207627640832, ll_2251795518717952, ll_72057594037927935, ↓lm_1, ↓llm_1, ev_add, ev_sub, ev_mul, ev_div, ev_cl, ev_ltT, ev_ltF, ev_leT, ev_leF, ev_eqT, ev_eqF, ev_m1, ev_m1', ev_m1s, ev_dec, ev_nn, el_add, el_sub, el_mul, el_div, el_ltT, el_ltF, el_leT, el_leF, el_eqT, el_eqF, ev_l, el_i, el_m1, el_m1', rdI, rdJ, rdR, updF, updT, updLF, updLT, sI_l, sJ_l, sR_l, x5]
  obtain ⟨K7, a7, e7, w7⟩ := m_symL (C := dC D) hO hM6 x6 (by omega)
  have x7 := w7.1
  rw [syl_len] at x7
  have hM7 := DM_m w7.2.2.2 hM6
  have y7 : up (dSO D + 16 * (D 0 2)) 8 = dTO D := rfl
  obtain ⟨a8, e8, w8⟩ := w_even (a := 8) x7 (by omega) (by rw [y7]; omega)
  rw [y7] at w8
  have x8 := w8.1
  rw [zer_len, show dSO D + 16 * (D 0 2) + (dTO D - (dSO D + 16 * (D 0 2))) = dTO D by omega] at x8
  have hM8 := DM_m w8.2.2.2 hM7
  -- strings
  obtain ⟨a9, ha9⟩ : ∃ t, t = sI a8 68 36 (nI (dTO D)) := ⟨_, rfl⟩
  have p9 : OM Ewm a8 a9 := by rw [ha9]; exact OM.sI OM.rf (by unfold Ewm; omega)
  have hM9 := DM_f p9 hM8
  have x9 : a9.1 68 31 = nI (dTO D) := by rw [ha9]; simp (disch := first | decide | omega) only [↓reduceIte, Nat.reduceAdd, Nat.reduceMul, Nat.reduceSub, Nat.reduceEqDiff, Nat.reducePow, Nat.reduceDiv, ↓zn_d, ↓bi_d, ↓bv_d, gd_T, ev_ib, true_or, or_true, eq_self, ite_true, ite_false, if_true, if_false, not_true_eq_false, not_false_eq_true, li_0, li_1, li_2, li_3, li_4, li_5, li_6, li_7, li_8, li_9, li_10, li_11, li_12, li_13, li_14, li_15, li_16, li_17, li_18, li_19, li_20, li_22, li_24, li_28, li_30, li_31, li_32, li_33, li_36, li_40, li_48, li_51, li_52, li_56, li_64, li_72, li_80, li_100, li_126, li_127, li_255, li_256, li_1024, li_1040, li_2048, li_4095, li_4096, li_65535, li_1073741824, ll_0, ll_1, ll_2, ll_3, ll_4, ll_5, ll_6, ll_7, ll_8, ll_9, ll_12, ll_15, ll_16, ll_20, ll_22, ll_24, ll_25, ll_28, ll_32, ll_40, ll_48, ll_64, ll_72, ll_80, ll_133, ll_255, ll_256, ll_512, ll_1024, ll_2048, ll_4096, ll_16384, ll_65535, ll_16777215, ll_16777228, ll_2147483647, ll_2147483648, ll_2147483700, ll_4277009103, ll_4294967295, ll_68719476735, ll_68719476736, ll_2234207627640832, ll_2251795518717952, ll_72057594037927935, ↓lm_1, ↓llm_1, ev_add, ev_sub, ev_mul, ev_div, ev_cl, ev_ltT, ev_ltF, ev_leT, ev_leF, ev_eqT, ev_eqF, ev_m1, ev_m1', ev_m1s, ev_dec, ev_nn, el_add, el_sub, el_mul, el_div, el_ltT, el_ltF, el_leT, el_leF, el_eqT, el_eqF, ev_l, el_i, el_m1, el_m1', rdI, rdJ, rdR, updF, updT, updLF, updLT, sI_l, sJ_l, sR_l, x8]
  obtain ⟨a10, e10, w10⟩ := w_put (v := 0) (k := 1) x9 (by omega) (by decide) (by decide)
  have x10 := w10.1
  rw [num_len] at x10
  have hM10 := DM_m w10.2.2.2 hM9
  obtain ⟨K11, a11, e11, w11⟩ := m_strs (C := dC D) (p := dTO D + 1) (ny := (D 0 2)) (L := D 14) (N := fun k i => D 13 (16 * k + i)) (τ := a10) o3 hM10.1.2.2.1 x10 (by omega) (fun k hk => ⟨(n3 k hk).2.1, fun τ' o => m_longOf n3 (DM_m o hM10).2.1.2.2.1 hk (by omega)⟩) (fun k hk i hi => by
    have := (n3 k hk).2.1
    exact ⟨hM10.2.1.2.2.1 k hk i (by omega), ((n3 k hk).2.2 i (by omega)).1⟩)
  have x11 := w11.1
  rw [nmz_len, show dTO D + 1 + lsm (D 14) (D 0 2) = dZ D by omega] at x11
  have hM11 := DM_m w11.2.2.2 hM10
  -- all behind the commands
  have wt : WM (en D (D 0 0)) (tlL D) a2 a11 := by
    unfold tlL stL
    refine WM_tr (τ1 := a4) (WM_tr (Wm_M w3) ?_) ?_
    · rw [zer_len, show en D (D 0 0) + (ofs D (D 0 0) - en D (D 0 0)) = ofs D (D 0 0) by omega]
      exact WM_E w4 (fun a b h => by unfold Efx at h; unfold Ewm; omega)
    · rw [List.length_append, zer_len, fxL_len hO, show en D (D 0 0) + (ofs D (D 0 0) - en D (D 0 0) + dFS D) = ofs D (D 0 0) + dFS D by omega]
      refine WM_tr (τ1 := a7) (WM_tr (τ1 := a6) ?_ ?_) ?_
      · rw [ha6]
        exact WM_s (Wm_M w5) (by unfold Ewm; omega) (by omega) (by omega)
      · rw [zer_len, show ofs D (D 0 0) + dFS D + (dSO D - (ofs D (D 0 0) + dFS D)) = dSO D by omega]
        exact Wm_M w7
      · rw [List.length_append, zer_len, syl_len, show ofs D (D 0 0) + dFS D + (dSO D - (ofs D (D 0 0) + dFS D) + 16 * (D 0 2)) = dSO D + 16 * (D 0 2) by omega]
        refine WM_tr (τ1 := a9) ?_ ?_
        · rw [ha9]
          exact WM_s (Wm_M w8) (by unfold Ewm; omega) (by omega) (by omega)
        · rw [zer_len, show dSO D + 16 * (D 0 2) + (dTO D - (dSO D + 16 * (D 0 2))) = dTO D by omega]
          have z1 : zer 1 = num 1 0 := by decide
          rw [z1]
          refine WM_tr (Wm_M w10) ?_
          rw [num_len]
          exact Wm_M w11
  obtain ⟨a12, ha12⟩ : ∃ t, t = sI (sI a11 68 37 (nI (1 + lsm (D 14) (D 0 2)))) 68 30 (nI (dZ D)) := ⟨_, rfl⟩
  have p12 : OM Ewm a11 a12 := by rw [ha12]; exact OM.sI (OM.sI OM.rf (by unfold Ewm; omega)) (by unfold Ewm; omega)
  have hM12 := DM_f p12 hM11
  have r12 : ∀ j, a12.1 88 j = a11.1 88 j := fun j => by rw [ha12]; simp (disch := first | decide | omega) only [↓reduceIte, Nat.reduceAdd, Nat.reduceMul, Nat.reduceSub, Nat.reduceEqDiff, Nat.reducePow, Nat.reduceDiv, ↓zn_d, ↓bi_d, ↓bv_d, gd_T, ev_ib, true_or, or_true, eq_self, ite_true, ite_false, if_true, if_false, not_true_eq_false, not_false_eq_true, li_0, li_1, li_2, li_3, li_4, li_5, li_6, li_7, li_8, li_9, li_10, li_11, li_12, li_13, li_14, li_15, li_16, li_17, li_18, li_19, li_20, li_22, li_24, li_28, li_30, li_31, li_32, li_33, li_36, li_40, li_48, li_51, li_52, li_56, li_64, li_72, li_80, li_100, li_126, li_127, li_255, li_256, li_1024, li_1040, li_2048, li_4095, li_4096, li_65535, li_1073741824, ll_0, ll_1, ll_2, ll_3, ll_4, ll_5, ll_6, ll_7, ll_8, ll_9, ll_12, ll_15, ll_16, ll_20, ll_22, ll_24, ll_25, ll_28, ll_32, ll_40, ll_48, ll_64, ll_72, ll_80, ll_133, ll_255, ll_256, ll_512, ll_1024, ll_2048, ll_4096, ll_16384, ll_65535, ll_16777215, ll_16777228, ll_2147483647, ll_2147483648, ll_2147483700, ll_4277009103, ll_4294967295, ll_68719476735, ll_68719476736, ll_2234207627640832, ll_2251795518717952, ll_72057594037927935, ↓lm_1, ↓llm_1, ev_add, ev_sub, ev_mul, ev_div, ev_cl, ev_ltT, ev_ltF, ev_leT, ev_leF, ev_eqT, ev_eqF, ev_m1, ev_m1', ev_m1s, ev_dec, ev_nn, el_add, el_sub, el_mul, el_div, el_ltT, el_ltF, el_leT, el_leF, el_eqT, el_eqF, ev_l, el_i, el_m1, el_m1', rdI, rdJ, rdR, updF, updT, updLF, updLT, sI_l, sJ_l, sR_l]
  -- cells that stay
  have k89 : ∀ s, s < (D 0 0) → a12.1 89 s = nI (ofs D s) := fun s hs => by
    have f11 := Wm_f w11 (a := 89) (b := s) (by unfold Eim; omega)
    have f10 := Wm_f w10 (a := 89) (b := s) (by unfold Eim; omega)
    have f8 := Wm_f w8 (a := 89) (b := s) (by unfold Eim; omega)
    have f7 := Wm_f w7 (a := 89) (b := s) (by unfold Eim; omega)
    have f5 := Wm_f w5 (a := 89) (b := s) (by unfold Eim; omega)
    have f4 := w4.2.2.2.1 89 s (by unfold Efx; omega)
    have f3 := Wm_f w3 (a := 89) (b := s) (by unfold Eim; omega)
    rw [ha12, ev_sIf (by omega), ev_sIf (by omega), f11, f10, ha9, ev_sIf (by omega), f8, f7, ha6, ev_sIf (by omega), f5, f4, f3]
    exact s2 s hs
  have kk : ∀ b, (b = 33 ∨ b = 34) → a12.1 68 b = a4.1 68 b := fun b hb => by
    have f11 := Wm_f w11 (a := 68) (b := b) (by unfold Eim; omega)
    have f10 := Wm_f w10 (a := 68) (b := b) (by unfold Eim; omega)
    have f8 := Wm_f w8 (a := 68) (b := b) (by unfold Eim; omega)
    have f7 := Wm_f w7 (a := 68) (b := b) (by unfold Eim; omega)
    have f5 := Wm_f w5 (a := 68) (b := b) (by unfold Eim; omega)
    rw [ha12, ev_sIf (by omega), ev_sIf (by omega), f11, f10, ha9, ev_sIf (by omega), f8, f7, ha6, ev_sIf (by omega), f5]
  have k35 : a12.1 68 35 = nI (dSO D) := by
    have f11 := Wm_f w11 (a := 68) (b := 35) (by unfold Eim; omega)
    have f10 := Wm_f w10 (a := 68) (b := 35) (by unfold Eim; omega)
    have f8 := Wm_f w8 (a := 68) (b := 35) (by unfold Eim; omega)
    have f7 := Wm_f w7 (a := 68) (b := 35) (by unfold Eim; omega)
    rw [ha12, ev_sIf (by omega), ev_sIf (by omega), f11, f10, ha9, ev_sIf (by omega), f8, f7, ha6]
    simp (disch := first | decide | omega) only [↓reduceIte, Nat.reduceAdd, Nat.reduceMul, Nat.reduceSub, Nat.reduceEqDiff, Nat.reducePow, Nat.reduceDiv, ↓zn_d, ↓bi_d, ↓bv_d, gd_T, ev_ib, true_or, or_true, eq_self, ite_true, ite_false, if_true, if_false, not_true_eq_false, not_false_eq_true, li_0, li_1, li_2, li_3, li_4, li_5, li_6, li_7, li_8, li_9, li_10, li_11, li_12, li_13, li_14, li_15, li_16, li_17, li_18, li_19, li_20, li_22, li_24, li_28, li_30, li_31, li_32, li_33, li_36, li_40, li_48, li_51, li_52, li_56, li_64, li_72, li_80, li_100, li_126, li_127, li_255, li_256, li_1024, li_1040, li_2048, li_4095, li_4096, li_65535, li_1073741824, ll_0, ll_1, ll_2, ll_3, ll_4, ll_5, ll_6, ll_7, ll_8, ll_9, ll_12, ll_15, ll_16, ll_20, ll_22, ll_24, ll_25, ll_28, ll_32, ll_40, ll_48, ll_64, ll_72, ll_80, ll_133, ll_255, ll_256, ll_512, ll_1024, ll_2048, ll_4096, ll_16384, ll_65535, ll_16777215, ll_16777228, ll_2147483647, ll_2147483648, ll_2147483700, ll_4277009103, ll_4294967295, ll_68719476735, ll_68719476736, ll_2234207627640832, ll_2251795518717952, ll_72057594037927935, ↓lm_1, ↓llm_1, ev_add, ev_sub, ev_mul, ev_div, ev_cl, ev_ltT, ev_ltF, ev_leT, ev_leF, ev_eqT, ev_eqF, ev_m1, ev_m1', ev_m1s, ev_dec, ev_nn, el_add, el_sub, el_mul, el_div, el_ltT, el_ltF, el_leT, el_leF, el_eqT, el_eqF, ev_l, el_i, el_m1, el_m1', rdI, rdJ, rdR, updF, updT, updLF, updLT, sI_l, sJ_l, sR_l]
  have k36 : a12.1 68 36 = nI (dTO D) := by
    have f11 := Wm_f w11 (a := 68) (b := 36) (by unfold Eim; omega)
    have f10 := Wm_f w10 (a := 68) (b := 36) (by unfold Eim; omega)
    rw [ha12, ev_sIf (by omega), ev_sIf (by omega), f11, f10, ha9]
    simp (disch := first | decide | omega) only [↓reduceIte, Nat.reduceAdd, Nat.reduceMul, Nat.reduceSub, Nat.reduceEqDiff, Nat.reducePow, Nat.reduceDiv, ↓zn_d, ↓bi_d, ↓bv_d, gd_T, ev_ib, true_or, or_true, eq_self, ite_true, ite_false, if_true, if_false, not_true_eq_false, not_false_eq_true, li_0, li_1, li_2, li_3, li_4, li_5, li_6, li_7, li_8, li_9, li_10, li_11, li_12, li_13, li_14, li_15, li_16, li_17, li_18, li_19, li_20, li_22, li_24, li_28, li_30, li_31, li_32, li_33, li_36, li_40, li_48, li_51, li_52, li_56, li_64, li_72, li_80, li_100, li_126, li_127, li_255, li_256, li_1024, li_1040, li_2048, li_4095, li_4096, li_65535, li_1073741824, ll_0, ll_1, ll_2, ll_3, ll_4, ll_5, ll_6, ll_7, ll_8, ll_9, ll_12, ll_15, ll_16, ll_20, ll_22, ll_24, ll_25, ll_28, ll_32, ll_40, ll_48, ll_64, ll_72, ll_80, ll_133, ll_255, ll_256, ll_512, ll_1024, ll_2048, ll_4096, ll_16384, ll_65535, ll_16777215, ll_16777228, ll_2147483647, ll_2147483648, ll_2147483700, ll_4277009103, ll_4294967295, ll_68719476735, ll_68719476736, ll_2234207627640832, ll_2251795518717952, ll_72057594037927935, ↓lm_1, ↓llm_1, ev_add, ev_sub, ev_mul, ev_div, ev_cl, ev_ltT, ev_ltF, ev_leT, ev_leF, ev_eqT, ev_eqF, ev_m1, ev_m1', ev_m1s, ev_dec, ev_nn, el_add, el_sub, el_mul, el_div, el_ltT, el_ltF, el_leT, el_leF, el_eqT, el_eqF, ev_l, el_i, el_m1, el_m1', rdI, rdJ, rdR, updF, updT, updLF, updLT, sI_l, sJ_l, sR_l]
  have y36 : a11.1 68 36 = nI (dTO D) := by
    have f11 := Wm_f w11 (a := 68) (b := 36) (by unfold Eim; omega)
    have f10 := Wm_f w10 (a := 68) (b := 36) (by unfold Eim; omega)
    rw [f11, f10, ha9]
    simp (disch := first | decide | omega) only [↓reduceIte, Nat.reduceAdd, Nat.reduceMul, Nat.reduceSub, Nat.reduceEqDiff, Nat.reducePow, Nat.reduceDiv, ↓zn_d, ↓bi_d, ↓bv_d, gd_T, ev_ib, true_or, or_true, eq_self, ite_true, ite_false, if_true, if_false, not_true_eq_false, not_false_eq_true, li_0, li_1, li_2, li_3, li_4, li_5, li_6, li_7, li_8, li_9, li_10, li_11, li_12, li_13, li_14, li_15, li_16, li_17, li_18, li_19, li_20, li_22, li_24, li_28, li_30, li_31, li_32, li_33, li_36, li_40, li_48, li_51, li_52, li_56, li_64, li_72, li_80, li_100, li_126, li_127, li_255, li_256, li_1024, li_1040, li_2048, li_4095, li_4096, li_65535, li_1073741824, ll_0, ll_1, ll_2, ll_3, ll_4, ll_5, ll_6, ll_7, ll_8, ll_9, ll_12, ll_15, ll_16, ll_20, ll_22, ll_24, ll_25, ll_28, ll_32, ll_40, ll_48, ll_64, ll_72, ll_80, ll_133, ll_255, ll_256, ll_512, ll_1024, ll_2048, ll_4096, ll_16384, ll_65535, ll_16777215, ll_16777228, ll_2147483647, ll_2147483648, ll_2147483700, ll_4277009103, ll_4294967295, ll_68719476735, ll_68719476736, ll_2234207627640832, ll_2251795518717952, ll_72057594037927935, ↓lm_1, ↓llm_1, ev_add, ev_sub, ev_mul, ev_div, ev_cl, ev_ltT, ev_ltF, ev_leT, ev_leF, ev_eqT, ev_eqF, ev_m1, ev_m1', ev_m1s, ev_dec, ev_nn, el_add, el_sub, el_mul, el_div, el_ltT, el_ltF, el_leT, el_leF, el_eqT, el_eqF, ev_l, el_i, el_m1, el_m1', rdI, rdJ, rdR, updF, updT, updLF, updLT, sI_l, sJ_l, sR_l]
  have k37 : a12.1 68 37 = nI (1 + lsm (D 14) (D 0 2)) := by rw [ha12]; simp (disch := first | decide | omega) only [↓reduceIte, Nat.reduceAdd, Nat.reduceMul, Nat.reduceSub, Nat.reduceEqDiff, Nat.reducePow, Nat.reduceDiv, ↓zn_d, ↓bi_d, ↓bv_d, gd_T, ev_ib, true_or, or_true, eq_self, ite_true, ite_false, if_true, if_false, not_true_eq_false, not_false_eq_true, li_0, li_1, li_2, li_3, li_4, li_5, li_6, li_7, li_8, li_9, li_10, li_11, li_12, li_13, li_14, li_15, li_16, li_17, li_18, li_19, li_20, li_22, li_24, li_28, li_30, li_31, li_32, li_33, li_36, li_40, li_48, li_51, li_52, li_56, li_64, li_72, li_80, li_100, li_126, li_127, li_255, li_256, li_1024, li_1040, li_2048, li_4095, li_4096, li_65535, li_1073741824, ll_0, ll_1, ll_2, ll_3, ll_4, ll_5, ll_6, ll_7, ll_8, ll_9, ll_12, ll_15, ll_16, ll_20, ll_22, ll_24, ll_25, ll_28, ll_32, ll_40, ll_48, ll_64, ll_72, ll_80, ll_133, ll_255, ll_256, ll_512, ll_1024, ll_2048, ll_4096, ll_16384, ll_65535, ll_16777215, ll_16777228, ll_2147483647, ll_2147483648, ll_2147483700, ll_4277009103, ll_4294967295, ll_68719476735, ll_68719476736, ll_2234207627640832, ll_2251795518717952, ll_72057594037927935, ↓lm_1, ↓llm_1, ev_add, ev_sub, ev_mul, ev_div, ev_cl, ev_ltT, ev_ltF, ev_leT, ev_leF, ev_eqT, ev_eqF, ev_m1, ev_m1', ev_m1s, ev_dec, ev_nn, el_add, el_sub, el_mul, el_div, el_ltT, el_ltF, el_leT, el_leF, el_eqT, el_eqF, ev_l, el_i, el_m1, el_m1', rdI, rdJ, rdR, updF, updT, updLF, updLT, sI_l, sJ_l, sR_l]
  have k30 : a12.1 68 30 = nI (dZ D) := by rw [ha12]; simp (disch := first | decide | omega) only [↓reduceIte, Nat.reduceAdd, Nat.reduceMul, Nat.reduceSub, Nat.reduceEqDiff, Nat.reducePow, Nat.reduceDiv, ↓zn_d, ↓bi_d, ↓bv_d, gd_T, ev_ib, true_or, or_true, eq_self, ite_true, ite_false, if_true, if_false, not_true_eq_false, not_false_eq_true, li_0, li_1, li_2, li_3, li_4, li_5, li_6, li_7, li_8, li_9, li_10, li_11, li_12, li_13, li_14, li_15, li_16, li_17, li_18, li_19, li_20, li_22, li_24, li_28, li_30, li_31, li_32, li_33, li_36, li_40, li_48, li_51, li_52, li_56, li_64, li_72, li_80, li_100, li_126, li_127, li_255, li_256, li_1024, li_1040, li_2048, li_4095, li_4096, li_65535, li_1073741824, ll_0, ll_1, ll_2, ll_3, ll_4, ll_5, ll_6, ll_7, ll_8, ll_9, ll_12, ll_15, ll_16, ll_20, ll_22, ll_24, ll_25, ll_28, ll_32, ll_40, ll_48, ll_64, ll_72, ll_80, ll_133, ll_255, ll_256, ll_512, ll_1024, ll_2048, ll_4096, ll_16384, ll_65535, ll_16777215, ll_16777228, ll_2147483647, ll_2147483648, ll_2147483700, ll_4277009103, ll_4294967295, ll_68719476735, ll_68719476736, ll_2234207627640832, ll_2251795518717952, ll_72057594037927935, ↓lm_1, ↓llm_1, ev_add, ev_sub, ev_mul, ev_div, ev_cl, ev_ltT, ev_ltF, ev_leT, ev_leF, ev_eqT, ev_eqF, ev_m1, ev_m1', ev_m1s, ev_dec, ev_nn, el_add, el_sub, el_mul, el_div, el_ltT, el_ltF, el_leT, el_leF, el_eqT, el_eqF, ev_l, el_i, el_m1, el_m1', rdI, rdJ, rdR, updF, updT, updLF, updLT, sI_l, sJ_l, sR_l]
  -- pointers
  have c12 : HsM (cat (ctp D 0) (D 0 0)) (32 + dC D) a12 := HsM_cg w2.2.1 (fun j _ h2 => by
    rw [ctl_len] at h2
    rw [r12, wt.2.2.1 j (by omega)])
  obtain ⟨a13, e13, c13, r13, m13⟩ := m_ptrs hO hM12 k89 c12
  have hM13 := DM_m m13 hM12
  have g13 : ∀ b, b ≠ 31 → a13.1 68 b = a12.1 68 b := fun b hb => m13.1 68 b (by unfold Eim; omega)
  obtain ⟨a14, ha14⟩ : ∃ t, t = sI a13 68 31 (nI 0) := ⟨_, rfl⟩
  have p14 : OM Ewm a13 a14 := by rw [ha14]; exact OM.sI OM.rf (by unfold Ewm; omega)
  have hM14 := DM_f p14 hM13
  have g14 : ∀ b, b ≠ 31 → a14.1 68 b = a12.1 68 b := fun b hb => by rw [ha14, ev_sIf (by omega)]; exact g13 b hb
  have r14 : ∀ j, a14.1 88 j = a13.1 88 j := fun j => by rw [ha14]; simp (disch := first | decide | omega) only [↓reduceIte, Nat.reduceAdd, Nat.reduceMul, Nat.reduceSub, Nat.reduceEqDiff, Nat.reducePow, Nat.reduceDiv, ↓zn_d, ↓bi_d, ↓bv_d, gd_T, ev_ib, true_or, or_true, eq_self, ite_true, ite_false, if_true, if_false, not_true_eq_false, not_false_eq_true, li_0, li_1, li_2, li_3, li_4, li_5, li_6, li_7, li_8, li_9, li_10, li_11, li_12, li_13, li_14, li_15, li_16, li_17, li_18, li_19, li_20, li_22, li_24, li_28, li_30, li_31, li_32, li_33, li_36, li_40, li_48, li_51, li_52, li_56, li_64, li_72, li_80, li_100, li_126, li_127, li_255, li_256, li_1024, li_1040, li_2048, li_4095, li_4096, li_65535, li_1073741824, ll_0, ll_1, ll_2, ll_3, ll_4, ll_5, ll_6, ll_7, ll_8, ll_9, ll_12, ll_15, ll_16, ll_20, ll_22, ll_24, ll_25, ll_28, ll_32, ll_40, ll_48, ll_64, ll_72, ll_80, ll_133, ll_255, ll_256, ll_512, ll_1024, ll_2048, ll_4096, ll_16384, ll_65535, ll_16777215, ll_16777228, ll_2147483647, ll_2147483648, ll_2147483700, ll_4277009103, ll_4294967295, ll_68719476735, ll_68719476736, ll_2234207627640832, ll_2251795518717952, ll_72057594037927935, ↓lm_1, ↓llm_1, ev_add, ev_sub, ev_mul, ev_div, ev_cl, ev_ltT, ev_ltF, ev_leT, ev_leF, ev_eqT, ev_eqF, ev_m1, ev_m1', ev_m1s, ev_dec, ev_nn, el_add, el_sub, el_mul, el_div, el_ltT, el_ltF, el_leT, el_leF, el_eqT, el_eqF, ev_l, el_i, el_m1, el_m1', rdI, rdJ, rdR, updF, updT, updLF, updLT, sI_l, sJ_l, sR_l]
  have x14 : a14.1 68 31 = nI 0 := by rw [ha14]; simp (disch := first | decide | omega) only [↓reduceIte, Nat.reduceAdd, Nat.reduceMul, Nat.reduceSub, Nat.reduceEqDiff, Nat.reducePow, Nat.reduceDiv, ↓zn_d, ↓bi_d, ↓bv_d, gd_T, ev_ib, true_or, or_true, eq_self, ite_true, ite_false, if_true, if_false, not_true_eq_false, not_false_eq_true, li_0, li_1, li_2, li_3, li_4, li_5, li_6, li_7, li_8, li_9, li_10, li_11, li_12, li_13, li_14, li_15, li_16, li_17, li_18, li_19, li_20, li_22, li_24, li_28, li_30, li_31, li_32, li_33, li_36, li_40, li_48, li_51, li_52, li_56, li_64, li_72, li_80, li_100, li_126, li_127, li_255, li_256, li_1024, li_1040, li_2048, li_4095, li_4096, li_65535, li_1073741824, ll_0, ll_1, ll_2, ll_3, ll_4, ll_5, ll_6, ll_7, ll_8, ll_9, ll_12, ll_15, ll_16, ll_20, ll_22, ll_24, ll_25, ll_28, ll_32, ll_40, ll_48, ll_64, ll_72, ll_80, ll_133, ll_255, ll_256, ll_512, ll_1024, ll_2048, ll_4096, ll_16384, ll_65535, ll_16777215, ll_16777228, ll_2147483647, ll_2147483648, ll_2147483700, ll_4277009103, ll_4294967295, ll_68719476735, ll_68719476736, ll_2234207627640832, ll_2251795518717952, ll_72057594037927935, ↓lm_1, ↓llm_1, ev_add, ev_sub, ev_mul, ev_div, ev_cl, ev_ltT, ev_ltF, ev_leT, ev_leF, ev_eqT, ev_eqF, ev_m1, ev_m1', ev_m1s, ev_dec, ev_nn, el_add, el_sub, el_mul, el_div, el_ltT, el_ltF, el_leT, el_leF, el_eqT, el_eqF, ev_l, el_i, el_m1, el_m1', rdI, rdJ, rdR, updF, updT, updLF, updLT, sI_l, sJ_l, sR_l]
  -- commands
  obtain ⟨a15, e15, w15⟩ := m_cmL hO hM14 (fun s hs => by rw [ha14, ev_sIf (by omega), m13.1 89 s (by unfold Eim; omega)]; exact k89 s hs) ((g14 35 (by omega)).trans k35) ((g14 36 (by omega)).trans k36) ((g14 37 (by omega)).trans k37) ((g14 33 (by omega)).trans ((kk 33 (by omega)).trans z4)) ((g14 34 (by omega)).trans ((kk 34 (by omega)).trans q4)) x14
  have x15 : a15.1 68 30 = nI (dZ D) := by
    rw [Wm_f w15 (a := 68) (b := 30) (by unfold Eim; omega), g14 30 (by omega)]
    exact k30
  obtain ⟨h1, h2, h3, h4⟩ := w15
  rw [cmL_len hO, Nat.zero_add] at h3
  have d2 := hM2.1.1
  have d7 := hM7.1.2.2.1
  have d11 := hM11.1.2.2.1
  refine ⟨a15, ?_, ?_, x15, ?_⟩
  · have k1 : f_X12_write_48b K2 (nI (dC D)) (nI (D 0 0)) a2 = f_X12_write_142 (nI (dC D)) (nI 1) (nI 0) a6 := by
      ((try simp (disch := first | decide | assumption | (simp (disch := first | decide | omega) only [ImC_sI, ImC_sJ, ImM_sI, ImM_sJ]; assumption) | omega) only [↓reduceIte, Nat.reduceAdd, Nat.reduceMul, Nat.reduceSub, Nat.reduceEqDiff, Nat.reducePow, Nat.reduceDiv, ↓zn_d, ↓bi_d, ↓bv_d, gd_T, ev_ib, true_or, or_true, eq_self, ite_true, ite_false, if_true, if_false, not_true_eq_false, not_false_eq_true, li_0, li_1, li_2, li_3, li_4, li_5, li_6, li_7, li_8, li_9, li_10, li_11, li_12, li_13, li_14, li_15, li_16, li_17, li_18, li_19, li_20, li_22, li_24, li_28, li_30, li_31, li_32, li_33, li_36, li_40, li_48, li_51, li_52, li_56, li_64, li_72, li_80, li_100, li_126, li_127, li_255, li_256, li_1024, li_1040, li_2048, li_4095, li_4096, li_65535, li_1073741824, ll_0, ll_1, ll_2, ll_3, ll_4, ll_5, ll_6, ll_7, ll_8, ll_9, ll_12, ll_15, ll_16, ll_20, ll_22, ll_24, ll_25, ll_28, ll_32, ll_40, ll_48, ll_64, ll_72, ll_80, ll_133, ll_255, ll_256, ll_512, ll_1024, ll_2048, ll_4096, ll_16384, ll_65535, ll_16777215, ll_16777228, ll_2147483647, ll_2147483648, ll_2147483700, ll_4277009103, ll_4294967295, ll_68719476735, ll_68719476736, ll_2234207627640832, ll_2251795518717952, ll_72057594037927935, ↓lm_1, ↓llm_1, ev_add, ev_sub, ev_mul, ev_div, ev_cl, ev_ltT, ev_ltF, ev_leT, ev_leF, ev_eqT, ev_eqF, ev_m1, ev_m1', ev_m1s, ev_dec, ev_nn, el_add, el_sub, el_mul, el_div, el_ltT, el_ltF, el_leT, el_leF, el_eqT, el_eqF, ev_l, el_i, el_m1, el_m1', rdI, rdJ, rdR, updF, updT, updLF, updLT, sI_l, sJ_l, sR_l, f_X12_write_48b, d2, e3, e4, e5, x5, ← ha6]); first | done | rfl)
    have k2 : f_X12_write_142b K7 (nI (dC D)) (nI (1 + lsm (D 14) (D 0 2))) (nI (D 0 2)) a7 = f_X12_write_261 (nI (dC D)) (nI 0) a10 := by
      ((try simp (disch := first | decide | assumption | (simp (disch := first | decide | omega) only [ImC_sI, ImC_sJ, ImM_sI, ImM_sJ]; assumption) | omega) only [↓reduceIte, Nat.reduceAdd, Nat.reduceMul, Nat.reduceSub, Nat.reduceEqDiff, Nat.reducePow, Nat.reduceDiv, ↓zn_d, ↓bi_d, ↓bv_d, gd_T, ev_ib, true_or, or_true, eq_self, ite_true, ite_false, if_true, if_false, not_true_eq_false, not_false_eq_true, li_0, li_1, li_2, li_3, li_4, li_5, li_6, li_7, li_8, li_9, li_10, li_11, li_12, li_13, li_14, li_15, li_16, li_17, li_18, li_19, li_20, li_22, li_24, li_28, li_30, li_31, li_32, li_33, li_36, li_40, li_48, li_51, li_52, li_56, li_64, li_72, li_80, li_100, li_126, li_127, li_255, li_256, li_1024, li_1040, li_2048, li_4095, li_4096, li_65535, li_1073741824, ll_0, ll_1, ll_2, ll_3, ll_4, ll_5, ll_6, ll_7, ll_8, ll_9, ll_12, ll_15, ll_16, ll_20, ll_22, ll_24, ll_25, ll_28, ll_32, ll_40, ll_48, ll_64, ll_72, ll_80, ll_133, ll_255, ll_256, ll_512, ll_1024, ll_2048, ll_4096, ll_16384, ll_65535, ll_16777215, ll_16777228, ll_2147483647, ll_2147483648, ll_2147483700, ll_4277009103, ll_4294967295, ll_68719476735, ll_68719476736, ll_2234207627640832, ll_2251795518717952, ll_72057594037927935, ↓lm_1, ↓llm_1, ev_add, ev_sub, ev_mul, ev_div, ev_cl, ev_ltT, ev_ltF, ev_leT, ev_leF, ev_eqT, ev_eqF, ev_m1, ev_m1', ev_m1s, ev_dec, ev_nn, el_add, el_sub, el_mul, el_div, el_ltT, el_ltF, el_leT, el_leF, el_eqT, el_eqF, ev_l, el_i, el_m1, el_m1', rdI, rdJ, rdR, updF, updT, updLF, updLT, sI_l, sJ_l, sR_l, f_X12_write_142b, d7, e8, x8, ← ha9, e10]); first | done | rfl)
    have b1 : dZ D - dTO D = 1 + lsm (D 14) (D 0 2) := by omega
    have k3 : f_X12_write_261b K11 (nI (dC D)) (nI (D 0 2)) a11 = some (nI (dZ D), a15) := by
      ((try simp (disch := first | decide | assumption | (simp (disch := first | decide | omega) only [ImC_sI, ImC_sJ, ImM_sI, ImM_sJ]; assumption) | omega) only [↓reduceIte, Nat.reduceAdd, Nat.reduceMul, Nat.reduceSub, Nat.reduceEqDiff, Nat.reducePow, Nat.reduceDiv, ↓zn_d, ↓bi_d, ↓bv_d, gd_T, ev_ib, true_or, or_true, eq_self, ite_true, ite_false, if_true, if_false, not_true_eq_false, not_false_eq_true, li_0, li_1, li_2, li_3, li_4, li_5, li_6, li_7, li_8, li_9, li_10, li_11, li_12, li_13, li_14, li_15, li_16, li_17, li_18, li_19, li_20, li_22, li_24, li_28, li_30, li_31, li_32, li_33, li_36, li_40, li_48, li_51, li_52, li_56, li_64, li_72, li_80, li_100, li_126, li_127, li_255, li_256, li_1024, li_1040, li_2048, li_4095, li_4096, li_65535, li_1073741824, ll_0, ll_1, ll_2, ll_3, ll_4, ll_5, ll_6, ll_7, ll_8, ll_9, ll_12, ll_15, ll_16, ll_20, ll_22, ll_24, ll_25, ll_28, ll_32, ll_40, ll_48, ll_64, ll_72, ll_80, ll_133, ll_255, ll_256, ll_512, ll_1024, ll_2048, ll_4096, ll_16384, ll_65535, ll_16777215, ll_16777228, ll_2147483647, ll_2147483648, ll_2147483700, ll_4277009103, ll_4294967295, ll_68719476735, ll_68719476736, ll_2234207627640832, ll_2251795518717952, ll_72057594037927935, ↓lm_1, ↓llm_1, ev_add, ev_sub, ev_mul, ev_div, ev_cl, ev_ltT, ev_ltF, ev_leT, ev_leF, ev_eqT, ev_eqF, ev_m1, ev_m1', ev_m1s, ev_dec, ev_nn, el_add, el_sub, el_mul, el_div, el_ltT, el_ltF, el_leT, el_leF, el_eqT, el_eqF, ev_l, el_i, el_m1, el_m1', rdI, rdJ, rdR, updF, updT, updLF, updLT, sI_l, sJ_l, sR_l, f_X12_write_261b, d11, x11, y36, b1, ← ha12, e13, ← ha14, e15, x15]); first | done | rfl)
    rw [E0, E1, e2, k1, e7, k2, e11, k3]
  · unfold imL
    refine HsM_app.mpr ⟨h2, HsM_app.mpr ⟨?_, ?_⟩⟩
    · rw [cmL_len hO, Nat.zero_add]
      refine HsM_cg c13 (fun j j1 _ => ?_)
      rw [h3 j (by omega), r14]
    · rw [cmL_len hO, Nat.zero_add, ctl_len]
      refine HsM_cg wt.2.1 (fun j j1 _ => ?_)
      have := ctl_len D (D 0 4) (D 0 0)
      rw [h3 j (by omega), r14, r13 j j1, r12]
  · have e : ∀ {a b : St}, OM Eim a b → OM Ewm a b := fun h => h.mono (fun a b h => by unfold Eim at h; unfold Ewm; omega)
    exact p0.tr (p1.tr (w2.2.2.2.tr (wt.2.2.2.tr (p12.tr ((e m13).tr (p14.tr (e h4)))))))
theorem e_write {σ : St} (hI : Rimg σ) (hBp : BpR σ σ) (hSe : SeR σ σ) (hSc : ScR σ σ) (hSm : SmR σ σ) (hIp : IpR σ σ) (hPt : PtR σ σ) : ∃ (r : Int32) (σ1 σ2 : St), f_X11_write σ = some (r, σ1) ∧ f_X12_write σ1 = some (r, σ2) ∧ Rimg σ2 ∧ OM (fun a b => Ewc a b ∨ Ewm a b) σ σ2 := by
  obtain ⟨D, hO, hC, hM⟩ := wd_of hBp hSe hSc hSm hIp hPt
  obtain ⟨σ1, e1, a1, a2, a3, a4⟩ := c_write hO hC
  have hM1 : DM D σ1 := by
    have e : ∀ a, 70 ≤ a → σ1.1 a = σ.1 a := fun a h1 => funext fun b => a4.1 a b (by unfold Ewc; omega)
    have e2 : σ1.2 84 = σ.2 84 := funext fun b => a4.2 84 b (by unfold Ewc; omega)
    have g : σ1.1 68 = σ.1 68 := funext fun b => a4.1 68 b (by unfold Ewc; omega)
    unfold DM NmM at hM ⊢
    rw [g, e 70 (by omega), e 71 (by omega), e 72 (by omega), e 73 (by omega), e 74 (by omega), e 75 (by omega), e 76 (by omega), e 77 (by omega), e 78 (by omega), e 79 (by omega), e 80 (by omega), e 81 (by omega), e 82 (by omega), e 83 (by omega), e2, e 85 (by omega)]
    exact hM
  obtain ⟨σ2, e2, b1, b2, b3⟩ := m_write hO hM1
  have lZ := dZ_le hO
  refine ⟨nI (dZ D), σ1, σ2, e1, e2, ⟨dZ D, by omega, ?_, b2, fun j hj => ?_, fun j => ?_⟩, (a4.mono (fun a b h => Or.inl h)).tr (b3.mono (fun a b h => Or.inr h))⟩
  · rw [b3.1 3 1 (by unfold Ewm; omega)]
    exact a2
  · have c1 := b1 j (by rw [imL_len hO]; exact hj)
    have c2 := a1 j (by rw [imL_len hO]; exact hj)
    rw [Nat.zero_add] at c1 c2
    rw [c1, b3.1 4 j (by unfold Ewm; omega), c2]
  · rw [b3.1 4 j (by unfold Ewm; omega)]
    obtain ⟨_, _, _, _, _, hB⟩ := hI
    exact a3 hB j
