/-! the pages of a segment -/
def pcd (D : Nat → Nat → Nat) (s i k : Nat) : Prop := D 20 k = s ∧ D 21 k / (D 0 5) = i
def PF (D : Nat → Nat → Nat) (s i v : Nat) : Prop := (∃ m, m < (D 0 4) ∧ pcd D s i m ∧ (∀ j, j < m → ¬ pcd D s i j) ∧ v = D 21 m % (D 0 5)) ∨ ((∀ j, j < (D 0 4) → ¬ pcd D s i j) ∧ v = 65535)
theorem PF_ex (D : Nat → Nat → Nat) (s i : Nat) : ∃ v, PF D s i v := by
  rcases least (P := pcd D s i) (D 0 4) with ⟨m, m1, m2, m3⟩ | q
  · exact ⟨_, Or.inl ⟨m, m1, m2, m3, rfl⟩⟩
  · exact ⟨_, Or.inr ⟨q, rfl⟩⟩
theorem PF_u {D : Nat → Nat → Nat} {s i v w : Nat} (h1 : PF D s i v) (h2 : PF D s i w) : v = w := by
  rcases h1 with ⟨m, m1, m2, m3, m4⟩ | ⟨a1, a2⟩
  · rcases h2 with ⟨n, n1, n2, n3, n4⟩ | ⟨b1, b2⟩
    · rcases Nat.lt_trichotomy m n with g | g | g
      · exact absurd m2 (n3 m g)
      · rw [m4, n4, g]
      · exact absurd n2 (m3 n g)
    · exact absurd m2 (b1 m m1)
  · rcases h2 with ⟨n, n1, n2, n3, n4⟩ | ⟨b1, b2⟩
    · exact absurd n2 (a1 n n1)
    · rw [a2, b2]
noncomputable def fi (D : Nat → Nat → Nat) (s i : Nat) : Nat := (PF_ex D s i).choose
theorem fi_s (D : Nat → Nat → Nat) (s i : Nat) : PF D s i (fi D s i) := (PF_ex D s i).choose_spec
theorem fi_lt {D : Nat → Nat → Nat} (hO : DOK D) (s i : Nat) : fi D s i < 65536 := by
  obtain ⟨_, _, _, _, _, o6, _⟩ := hO
  rcases fi_s D s i with ⟨m, _, _, _, h⟩ | ⟨_, h⟩
  · have := Nat.mod_lt (D 21 m) (show 0 < (D 0 5) by unfold isPg at o6; omega)
    unfold isPg at o6
    omega
  · omega
theorem pgq_div {pg x i : Nat} (hp : isPg pg) : (x / pg = i ↔ i * pg ≤ x ∧ x < i * pg + pg) ∧ (i * pg ≤ x → x < i * pg + pg → x % pg = x - i * pg) ∧ i * pg % 4 = 0 := by
  unfold isPg at hp
  rcases hp with g | g | g | g | g <;> subst g <;> omega
noncomputable def pgp (D : Nat → Nat → Nat) (s : Nat) : List Nat := ([] ++ num 4 (22 + 2 * pgs D s) ++ num 2 (D 0 5) ++ num 2 2 ++ num 8 (dad D s - (D 0 6)) ++ num 4 0 ++ num 2 (pgs D s)) ++ cat (fun i => num 2 (fi D s i)) (pgs D s)
theorem pgp_len (D : Nat → Nat → Nat) (s : Nat) : (pgp D s).length = 22 + 2 * pgs D s := by
  unfold pgp
  rw [List.length_append, cat_len (c := 2) _ (fun k _ => num_len 2 _)]
  simp only [List.length_append, num_len, List.length_nil]
theorem c_page1 {D : Nat → Nat → Nat} {σ : St} (hO : DOK D) (hC : DC D σ) {s i : Nat} (hs : s < (D 0 0)) (hi : i < 4) : ∃ r, f_X8_firstPointer (nI s) (nI (i * (D 0 5))) (nI (i * (D 0 5) + (D 0 5))) σ = some (r, σ) ∧ ((r = -1 ∧ fi D s i = 65535) ∨ ∃ q, q < 1024 ∧ r = nI q ∧ i * (D 0 5) ≤ q ∧ fi D s i = q - i * (D 0 5)) := by
  have hO' := hO
  obtain ⟨o1, _, _, _, _, o6, _, _, o9, _, _, _, _, o14, o15⟩ := hO'
  have hp : 256 ≤ (D 0 5) ∧ (D 0 5) ≤ 4096 := by unfold isPg at o6; omega
  have hm : i * (D 0 5) ≤ 3 * 4096 := Nat.mul_le_mul (by omega) hp.2
  by_cases hbig : i * (D 0 5) ≤ 4096
  case neg =>
    -- a page that begins behind every place
    have hN : ∀ k, k < (D 0 4) → D 20 k = s → i * (D 0 5) ≤ D 21 k → False := fun k hk _ h => by
      obtain ⟨x1, x2, _⟩ := o14 k hk
      have := (o9 _ x1).2.1
      omega
    refine ⟨-1, ?_, Or.inl ⟨rfl, ?_⟩⟩
    · have e : f_X8_firstPointer (nI s) (nI (i * (D 0 5))) (nI (i * (D 0 5) + (D 0 5))) σ = f_X8_firstPointer_14 (nI s) (nI 1020) (nI (i * (D 0 5))) σ := by
        ((try simp (disch := first | decide | assumption | (simp (disch := first | decide | omega) only [ImC_sI, ImC_sJ, ImM_sI, ImM_sJ]; assumption) | omega) only [↓reduceIte, Nat.reduceAdd, Nat.reduceMul, Nat.reduceSub, Nat.reduceEqDiff, Nat.reducePow, Nat.reduceDiv, ↓zn_d, ↓bi_d, ↓bv_d, gd_T, ev_ib, true_or, or_true, eq_self, ite_true, ite_false, if_true, if_false, not_true_eq_false, not_false_eq_true, li_0, li_1, li_2, li_3, li_4, li_5, li_6, li_7, li_8, li_9, li_10, li_11, li_12, li_13, li_14, li_15, li_16, li_17, li_18, li_19, li_20, li_22, li_24, li_28, li_30, li_31, li_32, li_33, li_36, li_40, li_48, li_51, li_52, li_56, li_64, li_72, li_80, li_100, li_126, li_127, li_255, li_256, li_1024, li_1040, li_2048, li_4095, li_4096, li_65535, li_1073741824, ll_0, ll_1, ll_2, ll_3, ll_4, ll_5, ll_6, ll_7, ll_8, ll_9, ll_12, ll_15, ll_16, ll_20, ll_22, ll_24, ll_25, ll_28, ll_32, ll_40, ll_48, ll_64, ll_72, ll_80, ll_133, ll_255, ll_256, ll_512, ll_1024, ll_2048, ll_4096, ll_16384, ll_65535, ll_16777215, ll_16777228, ll_2147483647, ll_2147483648, ll_2147483700, ll_4277009103, ll_4294967295, ll_68719476735, ll_68719476736, ll_2234207627640832, ll_2251795518717952, ll_72057594037927935, ↓lm_1, ↓llm_1, ev_add, ev_sub, ev_mul, ev_div, ev_cl, ev_ltT, ev_ltF, ev_leT, ev_leF, ev_eqT, ev_eqF, ev_m1, ev_m1', ev_m1s, ev_dec, ev_nn, el_add, el_sub, el_mul, el_div, el_ltT, el_ltF, el_leT, el_leF, el_eqT, el_eqF, ev_l, el_i, el_m1, el_m1', rdI, rdJ, rdR, updF, updT, updLF, updLT, sI_l, sJ_l, sR_l, f_X8_firstPointer]); first | done | rfl)
      rw [e]
      unfold f_X8_firstPointer_14
      rw [it_u (F := fun K a => f_X8_firstPointer_14b K a.1 a.2.1 a.2.2.1 a.2.2.2) (FU_lt (by decide))]
      ((try simp (disch := first | decide | assumption | (simp (disch := first | decide | omega) only [ImC_sI, ImC_sJ, ImM_sI, ImM_sJ]; assumption) | omega) only [↓reduceIte, Nat.reduceAdd, Nat.reduceMul, Nat.reduceSub, Nat.reduceEqDiff, Nat.reducePow, Nat.reduceDiv, ↓zn_d, ↓bi_d, ↓bv_d, gd_T, ev_ib, true_or, or_true, eq_self, ite_true, ite_false, if_true, if_false, not_true_eq_false, not_false_eq_true, li_0, li_1, li_2, li_3, li_4, li_5, li_6, li_7, li_8, li_9, li_10, li_11, li_12, li_13, li_14, li_15, li_16, li_17, li_18, li_19, li_20, li_22, li_24, li_28, li_30, li_31, li_32, li_33, li_36, li_40, li_48, li_51, li_52, li_56, li_64, li_72, li_80, li_100, li_126, li_127, li_255, li_256, li_1024, li_1040, li_2048, li_4095, li_4096, li_65535, li_1073741824, ll_0, ll_1, ll_2, ll_3, ll_4, ll_5, ll_6, ll_7, ll_8, ll_9, ll_12, ll_15, ll_16, ll_20, ll_22, ll_24, ll_25, ll_28, ll_32, ll_40, ll_48, ll_64, ll_72, ll_80, ll_133, ll_255, ll_256, ll_512, ll_1024, ll_2048, ll_4096, ll_16384, ll_65535, ll_16777215, ll_16777228, ll_2147483647, ll_2147483648, ll_2147483700, ll_4277009103, ll_4294967295, ll_68719476735, ll_68719476736, ll_2234207627640832, ll_2251795518717952, ll_72057594037927935, ↓lm_1, ↓llm_1, ev_add, ev_sub, ev_mul, ev_div, ev_cl, ev_ltT, ev_ltF, ev_leT, ev_leF, ev_eqT, ev_eqF, ev_m1, ev_m1', ev_m1s, ev_dec, ev_nn, el_add, el_sub, el_mul, el_div, el_ltT, el_ltF, el_leT, el_leF, el_eqT, el_eqF, ev_l, el_i, el_m1, el_m1', rdI, rdJ, rdR, updF, updT, updLF, updLT, sI_l, sJ_l, sR_l, f_X8_firstPointer_14b]); first | done | rfl)
    · refine PF_u (fi_s D s i) (Or.inr ⟨fun j hj hc => ?_, rfl⟩)
      have := ((pgq_div o6).1.mp hc.2).1
      exact hN j hj hc.1 this
  rcases c_first hO hC (s := s) (a := i * (D 0 5)) (e := i * (D 0 5) + (D 0 5)) hs (pgq_div (x := 0) o6).2.2 (by omega) (by omega) (by omega) with ⟨m, m1, m2, m3, m4, m5, m6⟩ | ⟨q1, q2⟩
  · obtain ⟨x1, x2, _⟩ := o14 m m1
    have lB := (o9 _ x1).2.1
    refine ⟨nI (D 21 m), m6, Or.inr ⟨D 21 m, by omega, rfl, m3, ?_⟩⟩
    refine PF_u (fi_s D s i) (Or.inl ⟨m, m1, ⟨m2, (pgq_div o6).1.mpr ⟨m3, by omega⟩⟩, fun j hj hc => ?_, ((pgq_div o6).2.1 m3 (by omega)).symm⟩)
    have a1 := m5 j (by omega) hc.1 ((pgq_div o6).1.mp hc.2).1
    have a2 := o15 j m hj m1
    have a3 := hc.1
    omega
  · refine ⟨-1, q2, Or.inl ⟨rfl, ?_⟩⟩
    refine PF_u (fi_s D s i) (Or.inr ⟨fun j hj hc => ?_, rfl⟩)
    have a0 := (pgq_div o6).1.mp hc.2
    have a1 := q1 j hj hc.1 a0.1
    have a2 := (pgq_div o6).2.1 a0.1 a0.2
    have a3 := (o14 j hj).2.2.2.1
    omega
set_option maxHeartbeats 1000000 in
theorem c_pages {D : Nat → Nat → Nat} {σ : St} (hO : DOK D) (hC : DC D σ) {z s : Nat} (hs : s < (D 0 0)) (h3 : σ.1 3 1 = nI z) (hz : up z 4 + (22 + 2 * pgs D s) ≤ 6400) : ∃ σ', f_X10_addPages (nI s) σ = some σ' ∧ Wc z (zer (up z 4 - z) ++ pgp D s) σ σ' := by
  have hO' := hO
  obtain ⟨o1, _, _, _, _, o6, o7, _, o9, _, _, _, _, o14, o15⟩ := hO'
  have hp : 256 ≤ (D 0 5) ∧ (D 0 5) ≤ 4096 := by unfold isPg at o6; omega
  have lp := (pgs_e hO hs).1
  have lu := (up_le (z := z) (a := 4) (by decide)).1
  have la := dad_le hO (show s ≤ (D 0 0) by omega)
  have lb : (D 0 6) ≤ dad D s := by
    have : ∀ t, (D 0 6) ≤ adr (D 0 6) (D 0 5) (D 1) t := fun t => by
      induction t with
      | zero => exact Nat.le_refl _
      | succ t ih => show _ ≤ adr (D 0 6) (D 0 5) (D 1) t + up (D 1 t) (D 0 5); omega
    exact this s
  have es := c_spanD hO hC hs
  have ep := c_pgin (σ := σ) hO hs
  have d5 := hC.1.2.2.2.2.1
  obtain ⟨t0, e0, w0⟩ := w_fill (a := 4) h3 (by omega) (by omega)
  have x0 := w0.1
  rw [zer_len, show z + (up z 4 - z) = up z 4 by omega] at x0
  have hC0 := DC_c w0.2.2.2.2 hC
  obtain ⟨t1, e1, w1, l1⟩ := Wc_n (k := 4) (n := 0) (Wc_nil x0) rfl (22 + 2 * pgs D s) (by decide) (by omega) (by omega)
  obtain ⟨t2, e2, w2, l2⟩ := Wc_n (k := 2) w1 l1 (D 0 5) (by decide) (by omega) (by omega)
  obtain ⟨t3, e3, w3, l3⟩ := Wc_n (k := 2) w2 l2 2 (by decide) (by omega) (by decide)
  obtain ⟨t4, e4, w4, l4⟩ := Wc_n (k := 8) w3 l3 (dad D s - (D 0 6)) (by decide) (by omega) (by omega)
  obtain ⟨t5, e5, w5, l5⟩ := Wc_n (k := 4) w4 l4 0 (by decide) (by omega) (by decide)
  obtain ⟨t6, e6, w6, l6⟩ := Wc_n (k := 2) w5 l5 (pgs D s) (by decide) (by omega) (by omega)
  have hC1 := DC_c w1.2.2.2.2 hC0
  have hC3 := DC_c w3.2.2.2.2 hC0
  have f1 := hC1.1.2.2.2.2.1
  have f3 := hC3.1.2.2.2.2.2
  have a3 := c_addrD hO hC3 (show s ≤ (D 0 0) by omega)
  have hC6 := DC_c w6.2.2.2.2 hC0
  have x6 := w6.1
  rw [l6] at x6
  have e7 : f_X10_addPages (nI s) σ = f_X10_addPages_116 (nI s) (nI (pgs D s)) (nI 0) t6 := by
    ((try simp (disch := first | decide | assumption | (simp (disch := first | decide | omega) only [ImC_sI, ImC_sJ, ImM_sI, ImM_sJ]; assumption) | omega) only [↓reduceIte, Nat.reduceAdd, Nat.reduceMul, Nat.reduceSub, Nat.reduceEqDiff, Nat.reducePow, Nat.reduceDiv, ↓zn_d, ↓bi_d, ↓bv_d, gd_T, ev_ib, true_or, or_true, eq_self, ite_true, ite_false, if_true, if_false, not_true_eq_false, not_false_eq_true, li_0, li_1, li_2, li_3, li_4, li_5, li_6, li_7, li_8, li_9, li_10, li_11, li_12, li_13, li_14, li_15, li_16, li_17, li_18, li_19, li_20, li_22, li_24, li_28, li_30, li_31, li_32, li_33, li_36, li_40, li_48, li_51, li_52, li_56, li_64, li_72, li_80, li_100, li_126, li_127, li_255, li_256, li_1024, li_1040, li_2048, li_4095, li_4096, li_65535, li_1073741824, ll_0, ll_1, ll_2, ll_3, ll_4, ll_5, ll_6, ll_7, ll_8, ll_9, ll_12, ll_15, ll_16, ll_20, ll_22, ll_24, ll_25, ll_28, ll_32, ll_40, ll_48, ll_64, ll_72, ll_80, ll_133, ll_255, ll_256, ll_512, ll_1024, ll_2048, ll_4096, ll_16384, ll_65535, ll_16777215, ll_16777228, ll_2147483647, ll_2147483648, ll_2147483700, ll_4277009103, ll_4294967295, ll_68719476735, ll_68719476736, ll_2234207627640832, ll_2251795518717952, ll_72057594037927935, ↓lm_1, ↓llm_1, ev_add, ev_sub, ev_mul, ev_div, ev_cl, ev_ltT, ev_ltF, ev_leT, ev_leF, ev_eqT, ev_eqF, ev_m1, ev_m1', ev_m1s, ev_dec, ev_nn, el_add, el_sub, el_mul, el_div, el_ltT, el_ltF, el_leT, el_leF, el_eqT, el_eqF, ev_l, el_i, el_m1, el_m1', rdI, rdJ, rdR, updF, updT, updLF, updLT, sI_l, sJ_l, sR_l, f_X10_addPages, es, d5, ep, e0, e1, f1, e2, e3, a3, f3, e4, e5, e6]); first | done | rfl)
  have fin : ∃ σ', f_X10_addPages_116 (nI s) (nI (pgs D s)) (nI 0) t6 = some σ' ∧ Wc (up z 4 + 22) (cat (fun i => num 2 (fi D s i)) (pgs D s)) t6 σ' := by
    unfold f_X10_addPages_116
    have key := it_for (F := fun K (q : Int32 × Int32 × Int32 × St) => f_X10_addPages_116b K q.1 q.2.1 q.2.2.1 q.2.2.2) (fun i q => ∃ σ', q = (nI s, nI (pgs D s), nI i, σ') ∧ Wc (up z 4 + 22) (cat (fun i => num 2 (fi D s i)) i) t6 σ') (pgs D s) (fun o => ∃ σ', o = some σ' ∧ Wc (up z 4 + 22) (cat (fun i => num 2 (fi D s i)) (pgs D s)) t6 σ') ?_ ?_ FU 0 (nI s, nI (pgs D s), nI 0, t6) (by omega) (FU_lt (by omega)) ⟨t6, rfl, Wc_nil x6⟩
    · exact key
    · rintro K q ⟨σ', rfl, hw⟩
      exact ⟨σ', by ((try simp (disch := first | decide | assumption | (simp (disch := first | decide | omega) only [ImC_sI, ImC_sJ, ImM_sI, ImM_sJ]; assumption) | omega) only [↓reduceIte, Nat.reduceAdd, Nat.reduceMul, Nat.reduceSub, Nat.reduceEqDiff, Nat.reducePow, Nat.reduceDiv, ↓zn_d, ↓bi_d, ↓bv_d, gd_T, ev_ib, true_or, or_true, eq_self, ite_true, ite_false, if_true, if_false, not_true_eq_false, not_false_eq_true, li_0, li_1, li_2, li_3, li_4, li_5, li_6, li_7, li_8, li_9, li_10, li_11, li_12, li_13, li_14, li_15, li_16, li_17, li_18, li_19, li_20, li_22, li_24, li_28, li_30, li_31, li_32, li_33, li_36, li_40, li_48, li_51, li_52, li_56, li_64, li_72, li_80, li_100, li_126, li_127, li_255, li_256, li_1024, li_1040, li_2048, li_4095, li_4096, li_65535, li_1073741824, ll_0, ll_1, ll_2, ll_3, ll_4, ll_5, ll_6, ll_7, ll_8, ll_9, ll_12, ll_15, ll_16, ll_20, ll_22, ll_24, ll_25, ll_28, ll_32, ll_40, ll_48, ll_64, ll_72, ll_80, ll_133, ll_255, ll_256, ll_512, ll_1024, ll_2048, ll_4096, ll_16384, ll_65535, ll_16777215, ll_16777228, ll_2147483647, ll_2147483648, ll_2147483700, ll_4277009103, ll_4294967295, ll_68719476735, ll_68719476736, ll_2234207627640832, ll_2251795518717952, ll_72057594037927935, ↓lm_1, ↓llm_1, ev_add, ev_sub, ev_mul, ev_div, ev_cl, ev_ltT, ev_ltF, ev_leT, ev_leF, ev_eqT, ev_eqF, ev_m1, ev_m1', ev_m1s, ev_dec, ev_nn, el_add, el_sub, el_mul, el_div, el_ltT, el_ltF, el_leT, el_leF, el_eqT, el_eqF, ev_l, el_i, el_m1, el_m1', rdI, rdJ, rdR, updF, updT, updLF, updLT, sI_l, sJ_l, sR_l, f_X10_addPages_116b]); first | done | rfl), hw⟩
    · rintro K i q hi ⟨σ', rfl, hw⟩ ih
      have hC7 := DC_c hw.2.2.2.2 hC6
      have d7 := hC7.1.2.2.2.2.1
      have hm : i * (D 0 5) ≤ 3 * 4096 := Nat.mul_le_mul (by omega) hp.2
      obtain ⟨r, r1, r2⟩ := c_page1 hO hC7 hs (show i < 4 by omega)
      have lf := fi_lt hO s i
      obtain ⟨σ2, e2, w2, _⟩ := Wc_n (k := 2) hw (cat_len (c := 2) i (fun k _ => num_len 2 _)) (fi D s i) (by decide) (by omega) (by omega)
      have e : f_X10_addPages_116b K (nI s) (nI (pgs D s)) (nI i) σ' = K (nI s, nI (pgs D s), nI (i + 1), σ2) := by
        rcases r2 with ⟨rfl, r3⟩ | ⟨q, q1, rfl, q2, q3⟩
        · rw [r3] at e2
          ((try simp (disch := first | decide | assumption | (simp (disch := first | decide | omega) only [ImC_sI, ImC_sJ, ImM_sI, ImM_sJ]; assumption) | omega) only [↓reduceIte, Nat.reduceAdd, Nat.reduceMul, Nat.reduceSub, Nat.reduceEqDiff, Nat.reducePow, Nat.reduceDiv, ↓zn_d, ↓bi_d, ↓bv_d, gd_T, ev_ib, true_or, or_true, eq_self, ite_true, ite_false, if_true, if_false, not_true_eq_false, not_false_eq_true, li_0, li_1, li_2, li_3, li_4, li_5, li_6, li_7, li_8, li_9, li_10, li_11, li_12, li_13, li_14, li_15, li_16, li_17, li_18, li_19, li_20, li_22, li_24, li_28, li_30, li_31, li_32, li_33, li_36, li_40, li_48, li_51, li_52, li_56, li_64, li_72, li_80, li_100, li_126, li_127, li_255, li_256, li_1024, li_1040, li_2048, li_4095, li_4096, li_65535, li_1073741824, ll_0, ll_1, ll_2, ll_3, ll_4, ll_5, ll_6, ll_7, ll_8, ll_9, ll_12, ll_15, ll_16, ll_20, ll_22, ll_24, ll_25, ll_28, ll_32, ll_40, ll_48, ll_64, ll_72, ll_80, ll_133, ll_255, ll_256, ll_512, ll_1024, ll_2048, ll_4096, ll_16384, ll_65535, ll_16777215, ll_16777228, ll_2147483647, ll_2147483648, ll_2147483700, ll_4277009103, ll_4294967295, ll_68719476735, ll_68719476736, ll_2234207627640832, ll_2251795518717952, ll_72057594037927935, ↓lm_1, ↓llm_1, ev_add, ev_sub, ev_mul, ev_div, ev_cl, ev_ltT, ev_ltF, ev_leT, ev_leF, ev_eqT, ev_eqF, ev_m1, ev_m1', ev_m1s, ev_dec, ev_nn, el_add, el_sub, el_mul, el_div, el_ltT, el_ltF, el_leT, el_leF, el_eqT, el_eqF, ev_l, el_i, el_m1, el_m1', rdI, rdJ, rdR, updF, updT, updLF, updLT, sI_l, sJ_l, sR_l, f_X10_addPages_116b, f_X10_addPages_177, d7, r1, e2]); first | done | rfl)
        · rw [q3] at e2
          ((try simp (disch := first | decide | assumption | (simp (disch := first | decide | omega) only [ImC_sI, ImC_sJ, ImM_sI, ImM_sJ]; assumption) | omega) only [↓reduceIte, Nat.reduceAdd, Nat.reduceMul, Nat.reduceSub, Nat.reduceEqDiff, Nat.reducePow, Nat.reduceDiv, ↓zn_d, ↓bi_d, ↓bv_d, gd_T, ev_ib, true_or, or_true, eq_self, ite_true, ite_false, if_true, if_false, not_true_eq_false, not_false_eq_true, li_0, li_1, li_2, li_3, li_4, li_5, li_6, li_7, li_8, li_9, li_10, li_11, li_12, li_13, li_14, li_15, li_16, li_17, li_18, li_19, li_20, li_22, li_24, li_28, li_30, li_31, li_32, li_33, li_36, li_40, li_48, li_51, li_52, li_56, li_64, li_72, li_80, li_100, li_126, li_127, li_255, li_256, li_1024, li_1040, li_2048, li_4095, li_4096, li_65535, li_1073741824, ll_0, ll_1, ll_2, ll_3, ll_4, ll_5, ll_6, ll_7, ll_8, ll_9, ll_12, ll_15, ll_16, ll_20, ll_22, ll_24, ll_25, ll_28, ll_32, ll_40, ll_48, ll_64, ll_72, ll_80, ll_133, ll_255, ll_256, ll_512, ll_1024, ll_2048, ll_4096, ll_16384, ll_65535, ll_16777215, ll_16777228, ll_2147483647, ll_2147483648, ll_2147483700, ll_4277009103, ll_4294967295, ll_68719476735, ll_68719476736, ll_2234207627640832, ll_2251795518717952, ll_72057594037927935, ↓lm_1, ↓llm_1, ev_add, ev_sub, ev_mul, ev_div, ev_cl, ev_ltT, ev_ltF, ev_leT, ev_leF, ev_eqT, ev_eqF, ev_m1, ev_m1', ev_m1s, ev_dec, ev_nn, el_add, el_sub, el_mul, el_div, el_ltT, el_ltF, el_leT, el_leF, el_eqT, el_eqF, ev_l, el_i, el_m1, el_m1', rdI, rdJ, rdR, updF, updT, updLF, updLT, sI_l, sJ_l, sR_l, f_X10_addPages_116b, f_X10_addPages_177, d7, r1, e2]); first | done | rfl)
      show ∃ σ'', f_X10_addPages_116b K (nI s) (nI (pgs D s)) (nI i) σ' = some σ'' ∧ _
      rw [e]
      exact ih _ ⟨σ2, rfl, w2⟩
  obtain ⟨σ', g1, g2⟩ := fin
  refine ⟨σ', by rw [e7, g1], Wc_tr w0 ?_⟩
  rw [zer_len, show z + (up z 4 - z) = up z 4 by omega]
  unfold pgp
  exact Wc_tr w6 (by rw [l6]; exact g2)
