/-! the places of the image's pieces -/
def dC (D : Nat → Nat → Nat) : Nat := 72 * (D 0 0) + 80 * (D 0 1) + 40
def en (D : Nat → Nat → Nat) : Nat → Nat
  | 0 => 32 + dC D
  | s + 1 => up (en D s) 8 + D 1 s
def ofs (D : Nat → Nat → Nat) (s : Nat) : Nat := up (en D s) 8
def hpc (D : Nat → Nat → Nat) (s : Nat) : Nat := cnt (D 20) s (D 0 4)
def pgs (D : Nat → Nat → Nat) (s : Nat) : Nat := up (D 1 s) (D 0 5) / (D 0 5)
def fpp (D : Nat → Nat → Nat) : Nat → Nat
  | 0 => 32 + 4 * (D 0 0)
  | s + 1 => if hpc D s = 0 then fpp D s else up (fpp D s) 4 + (22 + 2 * pgs D s)
def sts (D : Nat → Nat → Nat) (s : Nat) : Nat := if hpc D s = 0 then 0 else up (fpp D s) 4 - 28
def dIO (D : Nat → Nat → Nat) : Nat := up (fpp D (D 0 0)) 4
def dNO (D : Nat → Nat → Nat) : Nat := dIO D + 4 * (D 0 3)
def dFS (D : Nat → Nat → Nat) : Nat := dNO D + lsm (D 18) (D 0 3)
def dSO (D : Nat → Nat → Nat) : Nat := up (ofs D (D 0 0) + dFS D) 8
def dTO (D : Nat → Nat → Nat) : Nat := up (dSO D + 16 * (D 0 2)) 8
def dZ (D : Nat → Nat → Nat) : Nat := dTO D + (1 + lsm (D 14) (D 0 2))
theorem up8_le {z m : Nat} (h : z ≤ m) (hm : m % 8 = 0) : up z 8 ≤ m := by unfold up; omega
theorem up4_le {z m : Nat} (h : z ≤ m) (hm : m % 4 = 0) : up z 4 ≤ m := by unfold up; omega
theorem up8_mod (z : Nat) : up z 8 % 8 = 0 := by unfold up; omega
theorem up4_add {f x : Nat} (h : f % 8 = 0) : up (f + x) 4 = f + up x 4 := by unfold up; omega
theorem dC_le {D : Nat → Nat → Nat} (h : DOK D) : dC D ≤ 968 := by
  obtain ⟨h1, h2, _⟩ := h
  unfold dC
  omega
theorem en_le {D : Nat → Nat → Nat} (h : DOK D) : ∀ s, s ≤ (D 0 0) → en D s ≤ 1000 + 1024 * s := by
  intro s
  induction s with
  | zero => intro _; have := dC_le h; show 32 + dC D ≤ _; omega
  | succ s ih =>
    intro hs
    have h1 := up8_le (ih (by omega)) (by omega)
    obtain ⟨_, _, _, _, _, _, _, _, hB, _⟩ := h
    have h2 := (hB s (by omega)).2.1
    show up (en D s) 8 + D 1 s ≤ _
    omega
theorem ofs_le {D : Nat → Nat → Nat} (h : DOK D) {s : Nat} (hs : s ≤ (D 0 0)) : ofs D s ≤ 1000 + 1024 * s := up8_le (en_le h s hs) (by omega)
theorem ofs_ge {D : Nat → Nat → Nat} {s : Nat} : en D s ≤ ofs D s := (up_le (by decide)).1
theorem pgs_e {D : Nat → Nat → Nat} (h : DOK D) {s : Nat} (hs : s < (D 0 0)) : pgs D s ≤ 4 ∧ up (D 1 s) (D 0 5) = pgs D s * (D 0 5) ∧ pgs D s = (D 1 s + (D 0 5) - 1) / (D 0 5) := by
  obtain ⟨_, _, _, _, _, hp, _, _, hB, _⟩ := h
  have h2 := (hB s hs).2.1
  have e : pgs D s = (D 1 s + (D 0 5) - 1) / (D 0 5) := by
    unfold pgs up
    rw [Nat.mul_div_cancel _ (by unfold isPg at hp; omega)]
  refine ⟨?_, ?_, e⟩
  · rw [e]
    unfold isPg at hp
    rcases hp with g | g | g | g | g <;> rw [g] <;> omega
  · rw [e]; rfl
theorem fpp_le {D : Nat → Nat → Nat} (h : DOK D) : ∀ s, s ≤ (D 0 0) → 32 + 4 * (D 0 0) ≤ fpp D s ∧ fpp D s ≤ 48 + 32 * s := by
  intro s
  induction s with
  | zero => intro _; have := h.1; show _ ≤ 32 + 4 * (D 0 0) ∧ 32 + 4 * (D 0 0) ≤ _; omega
  | succ s ih =>
    intro hs
    obtain ⟨i1, i2⟩ := ih (by omega)
    have h1 := up4_le i2 (by omega)
    have h3 := (up_le (z := fpp D s) (a := 4) (by decide)).1
    have h2 := (pgs_e h (show s < (D 0 0) by omega)).1
    show _ ≤ (if hpc D s = 0 then fpp D s else up (fpp D s) 4 + (22 + 2 * pgs D s)) ∧ (if hpc D s = 0 then fpp D s else up (fpp D s) 4 + (22 + 2 * pgs D s)) ≤ _
    split <;> omega
theorem dIO_le {D : Nat → Nat → Nat} (h : DOK D) : fpp D (D 0 0) ≤ dIO D ∧ dIO D ≤ 176 := by
  obtain ⟨i1, i2⟩ := fpp_le h (D 0 0) (Nat.le_refl _)
  have h1 := up4_le i2 (by omega)
  have h3 := (up_le (z := fpp D (D 0 0)) (a := 4) (by decide)).1
  have := h.1
  unfold dIO
  omega
theorem l24_le {D : Nat → Nat → Nat} (h : DOK D) : lsm (D 18) (D 0 3) ≤ 17 * (D 0 3) ∧ lsm (D 14) (D 0 2) ≤ 17 * (D 0 2) := by
  obtain ⟨_, _, _, _, _, _, _, ⟨_, _, n3, n4⟩, _⟩ := h
  exact ⟨lsm_le _ (fun k hk => (n4 k hk).2.1), lsm_le _ (fun k hk => (n3 k hk).2.1)⟩
theorem dFS_le {D : Nat → Nat → Nat} (h : DOK D) : dNO D ≤ 256 ∧ dNO D ≤ dFS D ∧ dFS D ≤ 596 := by
  have h1 := (dIO_le h).2
  have h2 := (l24_le h).1
  obtain ⟨_, _, _, h3, _⟩ := h
  unfold dFS dNO
  omega
theorem dSO_le {D : Nat → Nat → Nat} (h : DOK D) : ofs D (D 0 0) + dFS D ≤ dSO D ∧ dSO D ≤ 5696 := by
  have h1 := ofs_le h (Nat.le_refl (D 0 0))
  have h2 := (dFS_le h).2.2
  have h3 := h.1
  refine ⟨(up_le (by decide)).1, up8_le ?_ (by decide)⟩
  omega
theorem dTO_le {D : Nat → Nat → Nat} (h : DOK D) : dSO D + 16 * (D 0 2) ≤ dTO D ∧ dTO D ≤ 6016 := by
  have h1 := (dSO_le h).2
  have h2 : (D 0 2) ≤ 20 := h.2.2.1
  refine ⟨(up_le (by decide)).1, up8_le ?_ (by decide)⟩
  omega
theorem dZ_le {D : Nat → Nat → Nat} (h : DOK D) : dZ D ≤ 6357 := by
  have h1 := (dTO_le h).2
  have h2 := (l24_le h).2
  have h3 : (D 0 2) ≤ 20 := h.2.2.1
  unfold dZ
  omega
/-- the class lays the segments' contents out -/
def Elay (a _b : Nat) : Prop := 30 ≤ a ∧ a ≤ 32
theorem c_lay {D : Nat → Nat → Nat} {σ : St} (hO : DOK D) (hC : DC D σ) : ∃ σ', f_X10_layOut σ = some σ' ∧ σ'.1 30 4 = nI (dC D) ∧ (∀ s, s < (D 0 0) → σ'.1 31 s = nI (ofs D s)) ∧ σ'.1 30 5 = nI (ofs D (D 0 0)) ∧ OM Elay σ σ' := by
  have hO' := hO
  obtain ⟨o1, o2, o3, o4, o5, o6, o7, o8, o9, _⟩ := hO'
  obtain ⟨⟨c1, c2, _⟩, _, c3, _⟩ := hC
  have e0 : f_X10_layOut σ = f_X10_layOut_47 (nI (en D 0)) (nI 0) (sI σ 30 4 (nI (dC D))) := by
    have : en D 0 = 32 + (72 * (D 0 0) + 80 * (D 0 1) + 40) := rfl
    rw [this]
    unfold dC
    have a1 : 72 * (D 0 0) + 80 * (D 0 1) + 24 + 16 = 72 * (D 0 0) + 80 * (D 0 1) + 40 := by omega
    ((try simp (disch := first | decide | assumption | (simp (disch := first | decide | omega) only [ImC_sI, ImC_sJ, ImM_sI, ImM_sJ]; assumption) | omega) only [↓reduceIte, Nat.reduceAdd, Nat.reduceMul, Nat.reduceSub, Nat.reduceEqDiff, Nat.reducePow, Nat.reduceDiv, ↓zn_d, ↓bi_d, ↓bv_d, gd_T, ev_ib, true_or, or_true, eq_self, ite_true, ite_false, if_true, if_false, not_true_eq_false, not_false_eq_true, li_0, li_1, li_2, li_3, li_4, li_5, li_6, li_7, li_8, li_9, li_10, li_11, li_12, li_13, li_14, li_15, li_16, li_17, li_18, li_19, li_20, li_22, li_24, li_28, li_30, li_31, li_32, li_33, li_36, li_40, li_48, li_51, li_52, li_56, li_64, li_72, li_80, li_100, li_126, li_127, li_255, li_256, li_1024, li_1040, li_2048, li_4095, li_4096, li_65535, li_1073741824, ll_0, ll_1, ll_2, ll_3, ll_4, ll_5, ll_6, ll_7, ll_8, ll_9, ll_12, ll_15, ll_16, ll_20, ll_22, ll_24, ll_25, ll_28, ll_32, ll_40, ll_48, ll_64, ll_72, ll_80, ll_133, ll_255, ll_256, ll_512, ll_1024, ll_2048, ll_4096, ll_16384, ll_65535, ll_16777215, ll_16777228, ll_2147483647, ll_2147483648, ll_2147483700, ll_4277009103, ll_4294967295, ll_68719476735, ll_68719476736, ll_2234207627640832, ll_2251795518717952, ll_72057594037927935, ↓lm_1, ↓llm_1, ev_add, ev_sub, ev_mul, ev_div, ev_cl, ev_ltT, ev_ltF, ev_leT, ev_leF, ev_eqT, ev_eqF, ev_m1, ev_m1', ev_m1s, ev_dec, ev_nn, el_add, el_sub, el_mul, el_div, el_ltT, el_ltF, el_leT, el_leF, el_eqT, el_eqF, ev_l, el_i, el_m1, el_m1', rdI, rdJ, rdR, updF, updT, updLF, updLT, sI_l, sJ_l, sR_l, f_X10_layOut, c1, c2, a1]); first | done | rfl)
  rw [e0]
  unfold f_X10_layOut_47
  have key := it_for (F := fun K (q : Int32 × Int32 × St) => f_X10_layOut_47b K q.1 q.2.1 q.2.2) (fun i q => ∃ σ', q = (nI (en D i), nI i, σ') ∧ σ'.1 30 4 = nI (dC D) ∧ (∀ s, s < i → σ'.1 31 s = nI (ofs D s)) ∧ OM Elay σ σ') (D 0 0) (fun o => ∃ σ', o = some σ' ∧ σ'.1 30 4 = nI (dC D) ∧ (∀ s, s < (D 0 0) → σ'.1 31 s = nI (ofs D s)) ∧ σ'.1 30 5 = nI (ofs D (D 0 0)) ∧ OM Elay σ σ') ?_ ?_ FU 0 (nI (en D 0), nI 0, sI σ 30 4 (nI (dC D))) (by omega) (FU_lt (by omega)) ⟨_, rfl, by simp (disch := first | decide | omega) only [↓reduceIte, Nat.reduceAdd, Nat.reduceMul, Nat.reduceSub, Nat.reduceEqDiff, Nat.reducePow, Nat.reduceDiv, ↓zn_d, ↓bi_d, ↓bv_d, gd_T, ev_ib, true_or, or_true, eq_self, ite_true, ite_false, if_true, if_false, not_true_eq_false, not_false_eq_true, li_0, li_1, li_2, li_3, li_4, li_5, li_6, li_7, li_8, li_9, li_10, li_11, li_12, li_13, li_14, li_15, li_16, li_17, li_18, li_19, li_20, li_22, li_24, li_28, li_30, li_31, li_32, li_33, li_36, li_40, li_48, li_51, li_52, li_56, li_64, li_72, li_80, li_100, li_126, li_127, li_255, li_256, li_1024, li_1040, li_2048, li_4095, li_4096, li_65535, li_1073741824, ll_0, ll_1, ll_2, ll_3, ll_4, ll_5, ll_6, ll_7, ll_8, ll_9, ll_12, ll_15, ll_16, ll_20, ll_22, ll_24, ll_25, ll_28, ll_32, ll_40, ll_48, ll_64, ll_72, ll_80, ll_133, ll_255, ll_256, ll_512, ll_1024, ll_2048, ll_4096, ll_16384, ll_65535, ll_16777215, ll_16777228, ll_2147483647, ll_2147483648, ll_2147483700, ll_4277009103, ll_4294967295, ll_68719476735, ll_68719476736, ll_2234207627640832, ll_2251795518717952, ll_72057594037927935, ↓lm_1, ↓llm_1, ev_add, ev_sub, ev_mul, ev_div, ev_cl, ev_ltT, ev_ltF, ev_leT, ev_leF, ev_eqT, ev_eqF, ev_m1, ev_m1', ev_m1s, ev_dec, ev_nn, el_add, el_sub, el_mul, el_div, el_ltT, el_ltF, el_leT, el_leF, el_eqT, el_eqF, ev_l, el_i, el_m1, el_m1', rdI, rdJ, rdR, updF, updT, updLF, updLT, sI_l, sJ_l, sR_l], fun s hs => absurd hs (Nat.not_lt_zero _), OM.sI OM.rf (by unfold Elay; omega)⟩
  · exact key
  · rintro K q ⟨σ', rfl, g1, g2, g3⟩
    have d1 := (g3.1 6 2 (by unfold Elay; omega)).trans c1
    have l := en_le hO (D 0 0) (Nat.le_refl _)
    have e := c_filled (z := en D (D 0 0)) (a := 8) (σ := σ') (by omega) (by omega)
    have eo : up (en D (D 0 0)) 8 = ofs D (D 0 0) := rfl
    rw [eo] at e
    refine ⟨sI σ' 30 5 (nI (ofs D (D 0 0))), ?_, by simp (disch := first | decide | omega) only [↓reduceIte, Nat.reduceAdd, Nat.reduceMul, Nat.reduceSub, Nat.reduceEqDiff, Nat.reducePow, Nat.reduceDiv, ↓zn_d, ↓bi_d, ↓bv_d, gd_T, ev_ib, true_or, or_true, eq_self, ite_true, ite_false, if_true, if_false, not_true_eq_false, not_false_eq_true, li_0, li_1, li_2, li_3, li_4, li_5, li_6, li_7, li_8, li_9, li_10, li_11, li_12, li_13, li_14, li_15, li_16, li_17, li_18, li_19, li_20, li_22, li_24, li_28, li_30, li_31, li_32, li_33, li_36, li_40, li_48, li_51, li_52, li_56, li_64, li_72, li_80, li_100, li_126, li_127, li_255, li_256, li_1024, li_1040, li_2048, li_4095, li_4096, li_65535, li_1073741824, ll_0, ll_1, ll_2, ll_3, ll_4, ll_5, ll_6, ll_7, ll_8, ll_9, ll_12, ll_15, ll_16, ll_20, ll_22, ll_24, ll_25, ll_28, ll_32, ll_40, ll_48, ll_64, ll_72, ll_80, ll_133, ll_255, ll_256, ll_512, ll_1024, ll_2048, ll_4096, ll_16384, ll_65535, ll_16777215, ll_16777228, ll_2147483647, ll_2147483648, ll_2147483700, ll_4277009103, ll_4294967295, ll_68719476735, ll_68719476736, ll_2234207627640832, ll_2251795518717952, ll_72057594037927935, ↓lm_1, ↓llm_1, ev_add, ev_sub, ev_mul, ev_div, ev_cl, ev_ltT, ev_ltF, ev_leT, ev_leF, ev_eqT, ev_eqF, ev_m1, ev_m1', ev_m1s, ev_dec, ev_nn, el_add, el_sub, el_mul, el_div, el_ltT, el_ltF, el_leT, el_leF, el_eqT, el_eqF, ev_l, el_i, el_m1, el_m1', rdI, rdJ, rdR, updF, updT, updLF, updLT, sI_l, sJ_l, sR_l, g1], fun s hs => by simp (disch := first | decide | omega) only [↓reduceIte, Nat.reduceAdd, Nat.reduceMul, Nat.reduceSub, Nat.reduceEqDiff, Nat.reducePow, Nat.reduceDiv, ↓zn_d, ↓bi_d, ↓bv_d, gd_T, ev_ib, true_or, or_true, eq_self, ite_true, ite_false, if_true, if_false, not_true_eq_false, not_false_eq_true, li_0, li_1, li_2, li_3, li_4, li_5, li_6, li_7, li_8, li_9, li_10, li_11, li_12, li_13, li_14, li_15, li_16, li_17, li_18, li_19, li_20, li_22, li_24, li_28, li_30, li_31, li_32, li_33, li_36, li_40, li_48, li_51, li_52, li_56, li_64, li_72, li_80, li_100, li_126, li_127, li_255, li_256, li_1024, li_1040, li_2048, li_4095, li_4096, li_65535, li_1073741824, ll_0, ll_1, ll_2, ll_3, ll_4, ll_5, ll_6, ll_7, ll_8, ll_9, ll_12, ll_15, ll_16, ll_20, ll_22, ll_24, ll_25, ll_28, ll_32, ll_40, ll_48, ll_64, ll_72, ll_80, ll_133, ll_255, ll_256, ll_512, ll_1024, ll_2048, ll_4096, ll_16384, ll_65535, ll_16777215, ll_16777228, ll_2147483647, ll_2147483648, ll_2147483700, ll_4277009103, ll_4294967295, ll_68719476735, ll_68719476736, ll_2234207627640832, ll_2251795518717952, ll_72057594037927935, ↓lm_1, ↓llm_1, ev_add, ev_sub, ev_mul, ev_div, ev_cl, ev_ltT, ev_ltF, ev_leT, ev_leF, ev_eqT, ev_eqF, ev_m1, ev_m1', ev_m1s, ev_dec, ev_nn, el_add, el_sub, el_mul, el_div, el_ltT, el_ltF, el_leT, el_leF, el_eqT, el_eqF, ev_l, el_i, el_m1, el_m1', rdI, rdJ, rdR, updF, updT, updLF, updLT, sI_l, sJ_l, sR_l, g2 s hs], by simp (disch := first | decide | omega) only [↓reduceIte, Nat.reduceAdd, Nat.reduceMul, Nat.reduceSub, Nat.reduceEqDiff, Nat.reducePow, Nat.reduceDiv, ↓zn_d, ↓bi_d, ↓bv_d, gd_T, ev_ib, true_or, or_true, eq_self, ite_true, ite_false, if_true, if_false, not_true_eq_false, not_false_eq_true, li_0, li_1, li_2, li_3, li_4, li_5, li_6, li_7, li_8, li_9, li_10, li_11, li_12, li_13, li_14, li_15, li_16, li_17, li_18, li_19, li_20, li_22, li_24, li_28, li_30, li_31, li_32, li_33, li_36, li_40, li_48, li_51, li_52, li_56, li_64, li_72, li_80, li_100, li_126, li_127, li_255, li_256, li_1024, li_1040, li_2048, li_4095, li_4096, li_65535, li_1073741824, ll_0, ll_1, ll_2, ll_3, ll_4, ll_5, ll_6, ll_7, ll_8, ll_9, ll_12, ll_15, ll_16, ll_20, ll_22, ll_24, ll_25, ll_28, ll_32, ll_40, ll_48, ll_64, ll_72, ll_80, ll_133, ll_255, ll_256, ll_512, ll_1024, ll_2048, ll_4096, ll_16384, ll_65535, ll_16777215, ll_16777228, ll_2147483647, ll_2147483648, ll_2147483700, ll_4277009103, ll_4294967295, ll_68719476735, ll_68719476736, ll_2234207627640832, ll_2251795518717952, ll_72057594037927935, ↓lm_1, ↓llm_1, ev_add, ev_sub, ev_mul, ev_div, ev_cl, ev_ltT, ev_ltF, ev_leT, ev_leF, ev_eqT, ev_eqF, ev_m1, ev_m1', ev_m1s, ev_dec, ev_nn, el_add, el_sub, el_mul, el_div, el_ltT, el_ltF, el_leT, el_leF, el_eqT, el_eqF, ev_l, el_i, el_m1, el_m1', rdI, rdJ, rdR, updF, updT, updLF, updLT, sI_l, sJ_l, sR_l], OM.sI g3 (by unfold Elay; omega)⟩
    show f_X10_layOut_47b K (nI (en D (D 0 0))) (nI (D 0 0)) σ' = _
    ((try simp (disch := first | decide | assumption | (simp (disch := first | decide | omega) only [ImC_sI, ImC_sJ, ImM_sI, ImM_sJ]; assumption) | omega) only [↓reduceIte, Nat.reduceAdd, Nat.reduceMul, Nat.reduceSub, Nat.reduceEqDiff, Nat.reducePow, Nat.reduceDiv, ↓zn_d, ↓bi_d, ↓bv_d, gd_T, ev_ib, true_or, or_true, eq_self, ite_true, ite_false, if_true, if_false, not_true_eq_false, not_false_eq_true, li_0, li_1, li_2, li_3, li_4, li_5, li_6, li_7, li_8, li_9, li_10, li_11, li_12, li_13, li_14, li_15, li_16, li_17, li_18, li_19, li_20, li_22, li_24, li_28, li_30, li_31, li_32, li_33, li_36, li_40, li_48, li_51, li_52, li_56, li_64, li_72, li_80, li_100, li_126, li_127, li_255, li_256, li_1024, li_1040, li_2048, li_4095, li_4096, li_65535, li_1073741824, ll_0, ll_1, ll_2, ll_3, ll_4, ll_5, ll_6, ll_7, ll_8, ll_9, ll_12, ll_15, ll_16, ll_20, ll_22, ll_24, ll_25, ll_28, ll_32, ll_40, ll_48, ll_64, ll_72, ll_80, ll_133, ll_255, ll_256, ll_512, ll_1024, ll_2048, ll_4096, ll_16384, ll_65535, ll_16777215, ll_16777228, ll_2147483647, ll_2147483648, ll_2147483700, ll_4277009103, ll_4294967295, ll_68719476735, ll_68719476736, ll_2234207627640832, ll_2251795518717952, ll_72057594037927935, ↓lm_1, ↓llm_1, ev_add, ev_sub, ev_mul, ev_div, ev_cl, ev_ltT, ev_ltF, ev_leT, ev_leF, ev_eqT, ev_eqF, ev_m1, ev_m1', ev_m1s, ev_dec, ev_nn, el_add, el_sub, el_mul, el_div, el_ltT, el_ltF, el_leT, el_leF, el_eqT, el_eqF, ev_l, el_i, el_m1, el_m1', rdI, rdJ, rdR, updF, updT, updLF, updLT, sI_l, sJ_l, sR_l, f_X10_layOut_47b, d1, e]); first | done | rfl)
  · rintro K i q hi ⟨σ', rfl, g1, g2, g3⟩ ih
    have d1 := (g3.1 6 2 (by unfold Elay; omega)).trans c1
    have d9 := (g3.1 9 i (by unfold Elay; omega)).trans (c3 i hi).1
    have l := en_le hO i (by omega)
    have lo := ofs_le hO (show i ≤ (D 0 0) by omega)
    have lB := (o9 i hi).2.1
    have e := c_filled (z := en D i) (a := 8) (σ := σ') (by omega) (by omega)
    have eo : up (en D i) 8 = ofs D i := rfl
    rw [eo] at e
    have en1 : en D (i + 1) = ofs D i + D 1 i := rfl
    have : f_X10_layOut_47b K (nI (en D i)) (nI i) σ' = K (nI (en D (i + 1)), nI (i + 1), sI σ' 31 i (nI (ofs D i))) := by
      rw [en1]
      ((try simp (disch := first | decide | assumption | (simp (disch := first | decide | omega) only [ImC_sI, ImC_sJ, ImM_sI, ImM_sJ]; assumption) | omega) only [↓reduceIte, Nat.reduceAdd, Nat.reduceMul, Nat.reduceSub, Nat.reduceEqDiff, Nat.reducePow, Nat.reduceDiv, ↓zn_d, ↓bi_d, ↓bv_d, gd_T, ev_ib, true_or, or_true, eq_self, ite_true, ite_false, if_true, if_false, not_true_eq_false, not_false_eq_true, li_0, li_1, li_2, li_3, li_4, li_5, li_6, li_7, li_8, li_9, li_10, li_11, li_12, li_13, li_14, li_15, li_16, li_17, li_18, li_19, li_20, li_22, li_24, li_28, li_30, li_31, li_32, li_33, li_36, li_40, li_48, li_51, li_52, li_56, li_64, li_72, li_80, li_100, li_126, li_127, li_255, li_256, li_1024, li_1040, li_2048, li_4095, li_4096, li_65535, li_1073741824, ll_0, ll_1, ll_2, ll_3, ll_4, ll_5, ll_6, ll_7, ll_8, ll_9, ll_12, ll_15, ll_16, ll_20, ll_22, ll_24, ll_25, ll_28, ll_32, ll_40, ll_48, ll_64, ll_72, ll_80, ll_133, ll_255, ll_256, ll_512, ll_1024, ll_2048, ll_4096, ll_16384, ll_65535, ll_16777215, ll_16777228, ll_2147483647, ll_2147483648, ll_2147483700, ll_4277009103, ll_4294967295, ll_68719476735, ll_68719476736, ll_2234207627640832, ll_2251795518717952, ll_72057594037927935, ↓lm_1, ↓llm_1, ev_add, ev_sub, ev_mul, ev_div, ev_cl, ev_ltT, ev_ltF, ev_leT, ev_leF, ev_eqT, ev_eqF, ev_m1, ev_m1', ev_m1s, ev_dec, ev_nn, el_add, el_sub, el_mul, el_div, el_ltT, el_ltF, el_leT, el_leF, el_eqT, el_eqF, ev_l, el_i, el_m1, el_m1', rdI, rdJ, rdR, updF, updT, updLF, updLT, sI_l, sJ_l, sR_l, f_X10_layOut_47b, d1, e, d9]); first | done | rfl)
    show ∃ σ'', f_X10_layOut_47b K (nI (en D i)) (nI i) σ' = some σ'' ∧ _
    rw [this]
    refine ih _ ⟨_, rfl, by simp (disch := first | decide | omega) only [↓reduceIte, Nat.reduceAdd, Nat.reduceMul, Nat.reduceSub, Nat.reduceEqDiff, Nat.reducePow, Nat.reduceDiv, ↓zn_d, ↓bi_d, ↓bv_d, gd_T, ev_ib, true_or, or_true, eq_self, ite_true, ite_false, if_true, if_false, not_true_eq_false, not_false_eq_true, li_0, li_1, li_2, li_3, li_4, li_5, li_6, li_7, li_8, li_9, li_10, li_11, li_12, li_13, li_14, li_15, li_16, li_17, li_18, li_19, li_20, li_22, li_24, li_28, li_30, li_31, li_32, li_33, li_36, li_40, li_48, li_51, li_52, li_56, li_64, li_72, li_80, li_100, li_126, li_127, li_255, li_256, li_1024, li_1040, li_2048, li_4095, li_4096, li_65535, li_1073741824, ll_0, ll_1, ll_2, ll_3, ll_4, ll_5, ll_6, ll_7, ll_8, ll_9, ll_12, ll_15, ll_16, ll_20, ll_22, ll_24, ll_25, ll_28, ll_32, ll_40, ll_48, ll_64, ll_72, ll_80, ll_133, ll_255, ll_256, ll_512, ll_1024, ll_2048, ll_4096, ll_16384, ll_65535, ll_16777215, ll_16777228, ll_2147483647, ll_2147483648, ll_2147483700, ll_4277009103, ll_4294967295, ll_68719476735, ll_68719476736, ll_2234207627640832, ll_2251795518717952, ll_72057594037927935, ↓lm_1, ↓llm_1, ev_add, ev_sub, ev_mul, ev_div, ev_cl, ev_ltT, ev_ltF, ev_leT, ev_leF, ev_eqT, ev_eqF, ev_m1, ev_m1', ev_m1s, ev_dec, ev_nn, el_add, el_sub, el_mul, el_div, el_ltT, el_ltF, el_leT, el_leF, el_eqT, el_eqF, ev_l, el_i, el_m1, el_m1', rdI, rdJ, rdR, updF, updT, updLF, updLT, sI_l, sJ_l, sR_l, g1], fun s hs => ?_, OM.sI g3 (by unfold Elay; omega)⟩
    by_cases g : s = i
    · subst g
      simp (disch := first | decide | omega) only [↓reduceIte, Nat.reduceAdd, Nat.reduceMul, Nat.reduceSub, Nat.reduceEqDiff, Nat.reducePow, Nat.reduceDiv, ↓zn_d, ↓bi_d, ↓bv_d, gd_T, ev_ib, true_or, or_true, eq_self, ite_true, ite_false, if_true, if_false, not_true_eq_false, not_false_eq_true, li_0, li_1, li_2, li_3, li_4, li_5, li_6, li_7, li_8, li_9, li_10, li_11, li_12, li_13, li_14, li_15, li_16, li_17, li_18, li_19, li_20, li_22, li_24, li_28, li_30, li_31, li_32, li_33, li_36, li_40, li_48, li_51, li_52, li_56, li_64, li_72, li_80, li_100, li_126, li_127, li_255, li_256, li_1024, li_1040, li_2048, li_4095, li_4096, li_65535, li_1073741824, ll_0, ll_1, ll_2, ll_3, ll_4, ll_5, ll_6, ll_7, ll_8, ll_9, ll_12, ll_15, ll_16, ll_20, ll_22, ll_24, ll_25, ll_28, ll_32, ll_40, ll_48, ll_64, ll_72, ll_80, ll_133, ll_255, ll_256, ll_512, ll_1024, ll_2048, ll_4096, ll_16384, ll_65535, ll_16777215, ll_16777228, ll_2147483647, ll_2147483648, ll_2147483700, ll_4277009103, ll_4294967295, ll_68719476735, ll_68719476736, ll_2234207627640832, ll_2251795518717952, ll_72057594037927935, ↓lm_1, ↓llm_1, ev_add, ev_sub, ev_mul, ev_div, ev_cl, ev_ltT, ev_ltF, ev_leT, ev_leF, ev_eqT, ev_eqF, ev_m1, ev_m1', ev_m1s, ev_dec, ev_nn, el_add, el_sub, el_mul, el_div, el_ltT, el_ltF, el_leT, el_leF, el_eqT, el_eqF, ev_l, el_i, el_m1, el_m1', rdI, rdJ, rdR, updF, updT, updLF, updLT, sI_l, sJ_l, sR_l]
    · have := g2 s (by omega)
      rw [ev_sIf (by omega)]
      exact this
