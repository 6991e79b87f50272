/-! names with a zero behind each -/
def nmz (L : Nat → Nat) (N : Nat → Nat → Nat) : Nat → List Nat
  | 0 => []
  | k + 1 => nmz L N k ++ rng (L k) (N k) ++ zer 1
theorem nmz_len (L : Nat → Nat) (N : Nat → Nat → Nat) : ∀ n, (nmz L N n).length = lsm L n := by
  intro n
  induction n with
  | zero => rfl
  | succ n ih =>
    show (nmz L N n ++ rng (L n) (N n) ++ zer 1).length = lsm L n + (L n + 1)
    rw [List.length_append, List.length_append, rng_len, zer_len, ih, Nat.add_assoc]
theorem lsm_mono {L : Nat → Nat} {n : Nat} : ∀ d, lsm L n ≤ lsm L (n + d) := by
  intro d
  induction d with
  | zero => exact Nat.le_refl _
  | succ d ih =>
    show _ ≤ lsm L (n + d) + (L (n + d) + 1)
    omega
theorem c_nmz {k0 b0 n0 n z : Nat} {L : Nat → Nat} {N : Nat → Nat → Nat} {σ : St} (hk : 4 < k0) (hn : n ≤ n0) (hn0 : n0 ≤ 20) (hb : b0 = 16 * n0) (hs : σ.1 3 1 = nI z) (hz : z + lsm L n ≤ 6400) (h : σ.1 k0 2 = nI n) (hL : ∀ k, k < n → σ.1 (k0 + 2) k = nI (L k) ∧ L k ≤ 16) (hN : ∀ k, k < n → ∀ i, i < L k → σ.1 (k0 + 1) (k * 16 + i) = sb_b (N k i) ∧ N k i < 256) : ∃ σ', f_X5_addAllTo k0 b0 n0 3 6400 σ = some σ' ∧ Wc z (nmz L N n) σ σ' := by
  unfold f_X5_addAllTo f_X5_addAllTo_2
  dsimp only [zn]
  have key := it_for (F := fun K (q : Int32 × St) => f_X5_addAllTo_2b k0 b0 n0 3 6400 K q.1 q.2) (fun i q => ∃ σ', q = (nI i, σ') ∧ Wc z (nmz L N i) σ σ') n (fun o => ∃ σ', o = some σ' ∧ Wc z (nmz L N n) σ σ') ?_ ?_ FU 0 (nI 0, σ) (by omega) (FU_lt (by omega)) ⟨σ, rfl, Wc_nil hs⟩
  · exact key
  · rintro K q ⟨σ', rfl, hw⟩
    have f := (Wc_f hw (a := k0) (b := 2) (by unfold Eic; omega)).trans h
    exact ⟨σ', by ((try simp (disch := first | decide | assumption | (simp (disch := first | decide | omega) only [ImC_sI, ImC_sJ, ImM_sI, ImM_sJ]; assumption) | omega) only [↓reduceIte, Nat.reduceAdd, Nat.reduceMul, Nat.reduceSub, Nat.reduceEqDiff, Nat.reducePow, Nat.reduceDiv, ↓zn_d, ↓bi_d, ↓bv_d, gd_T, ev_ib, true_or, or_true, eq_self, ite_true, ite_false, if_true, if_false, not_true_eq_false, not_false_eq_true, li_0, li_1, li_2, li_3, li_4, li_5, li_6, li_7, li_8, li_9, li_10, li_11, li_12, li_13, li_14, li_15, li_16, li_17, li_18, li_19, li_20, li_22, li_24, li_28, li_30, li_31, li_32, li_33, li_36, li_40, li_48, li_51, li_52, li_56, li_64, li_72, li_80, li_100, li_126, li_127, li_255, li_256, li_1024, li_1040, li_2048, li_4095, li_4096, li_65535, li_1073741824, ll_0, ll_1, ll_2, ll_3, ll_4, ll_5, ll_6, ll_7, ll_8, ll_9, ll_12, ll_15, ll_16, ll_20, ll_22, ll_24, ll_25, ll_28, ll_32, ll_40, ll_48, ll_64, ll_72, ll_80, ll_133, ll_255, ll_256, ll_512, ll_1024, ll_2048, ll_4096, ll_16384, ll_65535, ll_16777215, ll_16777228, ll_2147483647, ll_2147483648, ll_2147483700, ll_4277009103, ll_4294967295, ll_68719476735, ll_68719476736, ll_2234207627640832, ll_2251795518717952, ll_72057594037927935, ↓lm_1, ↓llm_1, ev_add, ev_sub, ev_mul, ev_div, ev_cl, ev_ltT, ev_ltF, ev_leT, ev_leF, ev_eqT, ev_eqF, ev_m1, ev_m1', ev_m1s, ev_dec, ev_nn, el_add, el_sub, el_mul, el_div, el_ltT, el_ltF, el_leT, el_leF, el_eqT, el_eqF, ev_l, el_i, el_m1, el_m1', rdI, rdJ, rdR, updF, updT, updLF, updLT, sI_l, sJ_l, sR_l, f_X5_addAllTo_2b, f]); first | done | rfl), hw⟩
  · rintro K i q hi ⟨σ', rfl, hw⟩ ih
    obtain ⟨g1, g2⟩ := hL i hi
    have f := (Wc_f hw (a := k0) (b := 2) (by unfold Eic; omega)).trans h
    have f1 := (Wc_f hw (a := k0 + 2) (b := i) (by unfold Eic; omega)).trans g1
    have m := lsm_mono (L := L) (n := i + 1) (n - (i + 1))
    rw [show i + 1 + (n - (i + 1)) = n by omega] at m
    have m2 : lsm L (i + 1) = lsm L i + (L i + 1) := rfl
    obtain ⟨t1, e1, w1, l1⟩ := Wc_r (k1 := k0 + 1) (n1 := b0) (fr := i * 16) (c := L i) (f := N i) hw (nmz_len L N i) (by omega) (by omega) (by omega) (by omega) (hN i hi)
    obtain ⟨t2, e2, w2, l2⟩ := Wc_z (c := 1) w1 l1 (by omega)
    have e : f_X5_addAllTo_2b k0 b0 n0 3 6400 K (nI i) σ' = K (nI (i + 1), t2) := by
      ((try simp (disch := first | decide | assumption | (simp (disch := first | decide | omega) only [ImC_sI, ImC_sJ, ImM_sI, ImM_sJ]; assumption) | omega) only [↓reduceIte, Nat.reduceAdd, Nat.reduceMul, Nat.reduceSub, Nat.reduceEqDiff, Nat.reducePow, Nat.reduceDiv, ↓zn_d, ↓bi_d, ↓bv_d, gd_T, ev_ib, true_or, or_true, eq_self, ite_true, ite_false, if_true, if_false, not_true_eq_false, not_false_eq_true, li_0, li_1, li_2, li_3, li_4, li_5, li_6, li_7, li_8, li_9, li_10, li_11, li_12, li_13, li_14, li_15, li_16, li_17, li_18, li_19, li_20, li_22, li_24, li_28, li_30, li_31, li_32, li_33, li_36, li_40, li_48, li_51, li_52, li_56, li_64, li_72, li_80, li_100, li_126, li_127, li_255, li_256, li_1024, li_1040, li_2048, li_4095, li_4096, li_65535, li_1073741824, ll_0, ll_1, ll_2, ll_3, ll_4, ll_5, ll_6, ll_7, ll_8, ll_9, ll_12, ll_15, ll_16, ll_20, ll_22, ll_24, ll_25, ll_28, ll_32, ll_40, ll_48, ll_64, ll_72, ll_80, ll_133, ll_255, ll_256, ll_512, ll_1024, ll_2048, ll_4096, ll_16384, ll_65535, ll_16777215, ll_16777228, ll_2147483647, ll_2147483648, ll_2147483700, ll_4277009103, ll_4294967295, ll_68719476735, ll_68719476736, ll_2234207627640832, ll_2251795518717952, ll_72057594037927935, ↓lm_1, ↓llm_1, ev_add, ev_sub, ev_mul, ev_div, ev_cl, ev_ltT, ev_ltF, ev_leT, ev_leF, ev_eqT, ev_eqF, ev_m1, ev_m1', ev_m1s, ev_dec, ev_nn, el_add, el_sub, el_mul, el_div, el_ltT, el_ltF, el_leT, el_leF, el_eqT, el_eqF, ev_l, el_i, el_m1, el_m1', rdI, rdJ, rdR, updF, updT, updLF, updLT, sI_l, sJ_l, sR_l, f_X5_addAllTo_2b, f, f1, e1, e2]); first | done | rfl)
    show ∃ σ'', f_X5_addAllTo_2b k0 b0 n0 3 6400 K (nI i) σ' = some σ'' ∧ _
    rw [e]
    exact ih _ ⟨t2, rfl, w2⟩
/-- one name and its zero, as the reference puts them -/
theorem m_nmz {p r k : Nat} {L : Nat → Nat} {N : Nat → Nat → Nat} {τ0 τ : St} (hw : Wm p (nmz L N k) τ0 τ) (hz : p + lsm L (k + 1) ≤ 9000) (hr : r < 82) (hL : L k ≤ 16) (hN : ∀ i, i < L k → τ0.1 70 (16 * r + i) = nI (N k i) ∧ N k i < 256) : ∃ t1 t2, f_X12_putName (nI r) (nI (L k)) τ = some t1 ∧ f_X12_put (lN 0) (nI 1) t1 = some t2 ∧ Wm p (nmz L N (k + 1)) τ0 t2 := by
  have m2 : lsm L (k + 1) = lsm L k + (L k + 1) := rfl
  obtain ⟨t1, e1, w1, l1⟩ := Wm_r (r := r) (c := L k) (f := N k) hw (nmz_len L N k) (by omega) hr hL hN
  obtain ⟨t2, e2, w2, l2⟩ := Wm_n (k := 1) w1 l1 0 (by decide) (by omega) (by decide)
  exact ⟨t1, t2, e1, e2, w2⟩
