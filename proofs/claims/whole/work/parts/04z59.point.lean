/-- one pointer more -/
theorem PtP_ins {σ τ σ' τ' : St} {ns np pg q : Nat} {F : Nat → Nat → Nat} {x : Nat → Nat} {B : Nat} (h : PtP σ τ ns np pg F) (hnp : np ≤ 99) (x0 : x 0 < ns) (xB : σ.1 9 (x 0) = nI B) (xB2 : B ≤ 1024) (x1 : x 1 + 8 ≤ B) (x14 : x 1 % 4 = 0) (x1p : x 1 % pg + 8 ≤ pg) (x3 : x 3 < 256) (x4 : x 4 ≤ 1) (x2 : x 2 < 2 ^ 36) (x24 : x 4 = 1 → x 2 < 2 ^ 24) (hno : ∀ k, k < np → F 0 k = x 0 → F 1 k + 8 ≤ x 1 ∨ x 1 + 8 ≤ F 1 k)
    (hq : q ≤ np) (hlo : ∀ i, i < q → np = 0 ∨ i + 1 < q ∨ F 0 i < x 0 ∨ (F 0 i = x 0 ∧ F 1 i ≤ x 1)) (hhi : ∀ i, q ≤ i → i < np → x 0 < F 0 i ∨ (F 0 i = x 0 ∧ x 1 < F 1 i))
    (c5 : σ'.1 5 18 = nI (np + 1)) (c28 : ∀ z, σ'.1 28 z = if z = 256 * x 0 + x 1 / 4 then nI 1 else σ.1 28 z) (c29 : ∀ z, σ'.2 29 z = if z = 256 * x 0 + x 1 / 4 then lN (enc (x 2) (x 3) (x 4)) else σ.2 29 z) (c6 : σ'.1 6 2 = σ.1 6 2) (c51 : σ'.1 5 1 = σ.1 5 1) (c9 : ∀ s, σ'.1 9 s = σ.1 9 s) (m10 : τ'.1 68 10 = nI (np + 1)) (hr : ∀ i, i < np + 1 → RwM (insF F q x) i i τ') : PtP σ' τ' ns (np + 1) pg (insF F q x) := by
  obtain ⟨h1, h2, h3, h4, h5, h6, h7, h8, h9, h10⟩ := id h
  have below : ∀ i, i < q → F 0 i < x 0 ∨ (F 0 i = x 0 ∧ F 1 i + 8 ≤ x 1) := by
    intro i hi
    have hl := hlo (q - 1) (by omega)
    have base : F 0 (q - 1) < x 0 ∨ (F 0 (q - 1) = x 0 ∧ F 1 (q - 1) + 8 ≤ x 1) := by
      rcases hl with g | g | g | g
      · omega
      · omega
      · exact Or.inl g
      · have := hno (q - 1) (by omega) g.1
        omega
    by_cases e : i = q - 1
    · rw [e]; exact base
    · have := h9 i (q - 1) (by omega) (by omega)
      omega
  have above : ∀ i, q ≤ i → i < np → x 0 < F 0 i ∨ (F 0 i = x 0 ∧ x 1 + 8 ≤ F 1 i) := by
    intro i h1' h2'
    rcases hhi i h1' h2' with g | g
    · exact Or.inl g
    · have := hno i h2' g.1
      omega
  have dl : ∀ i, i < np + 1 → (i = q ∧ ∀ f, insF F q x f i = x f) ∨ ∃ j, j < np ∧ (∀ f, insF F q x f i = F f j) ∧ ((i < q ∧ j = i) ∨ (q < i ∧ j + 1 = i)) := fun i hi => by
    by_cases g : i < q
    · exact Or.inr ⟨i, by omega, fun f => by unfold insF; rw [if_pos g], Or.inl ⟨g, rfl⟩⟩
    · by_cases g2 : i = q
      · exact Or.inl ⟨g2, fun f => by unfold insF; rw [if_neg g, if_pos g2]⟩
      · exact Or.inr ⟨i - 1, by omega, fun f => by unfold insF; rw [if_neg g, if_neg g2], Or.inr ⟨by omega, by omega⟩⟩
  have hx1 : x 1 < 1024 := by omega
  refine ⟨h1, by omega, by rw [c6]; exact h3, by rw [c51]; exact h4, h5, c5, m10, fun i hi => ?_, fun i j hij hj => ?_, fun z hz => ?_⟩
  · obtain ⟨r1, r2, r3, r4, r5, r6⟩ := hr i hi
    rcases dl i hi with ⟨_, hd⟩ | ⟨j, hj, hd, hij⟩
    · rw [hd 0, hd 1, hd 2, hd 3, hd 4] at *
      exact ⟨x0, ⟨B, by rw [c9]; exact xB, xB2, x1⟩, x14, x1p, r1, r2, r3, x3, r4, r5, x4, x2, x24, by rw [c28, if_pos rfl], by rw [c29, if_pos rfl]⟩
    · obtain ⟨a1, ⟨B', a2, a3, a4⟩, a5, a6, _, _, _, a7, _, _, a8, a9, a10, a11, a12⟩ := h8 j hj
      have hne : ¬ 256 * F 0 j + F 1 j / 4 = 256 * x 0 + x 1 / 4 := fun e => by
        have e0 : F 0 j = x 0 := by omega
        have := hno j hj e0
        omega
      rw [hd 0, hd 1, hd 2, hd 3, hd 4] at *
      exact ⟨a1, ⟨B', by rw [c9]; exact a2, a3, a4⟩, a5, a6, r1, r2, r3, a7, r4, r5, a8, a9, a10, by rw [c28, if_neg hne]; exact a11, by rw [c29, if_neg hne]; exact a12⟩
  · rcases dl i (by omega) with ⟨ei, hdi⟩ | ⟨i', hi', hdi, ei⟩ <;> rcases dl j hj with ⟨ej, hdj⟩ | ⟨j', hj', hdj, ej⟩
    · omega
    · rw [hdi 0, hdi 1, hdj 0, hdj 1]
      have := above j' (by omega) hj'
      omega
    · rw [hdi 0, hdi 1, hdj 0, hdj 1]
      exact below i' (by omega)
    · rw [hdi 0, hdi 1, hdj 0, hdj 1]
      exact h9 i' j' (by omega) hj'
  · rw [c28]
    by_cases g : z = 256 * x 0 + x 1 / 4
    · rw [if_pos g]
      refine Or.inr ⟨rfl, q, by omega, ?_⟩
      have e0 : ∀ f, insF F q x f q = x f := fun f => by unfold insF; rw [if_neg (Nat.lt_irrefl _), if_pos rfl]
      rw [e0, e0]; exact g
    · rw [if_neg g]
      rcases h10 z hz with g1 | ⟨g1, j, hj, g2⟩
      · exact Or.inl g1
      · refine Or.inr ⟨g1, ?_⟩
        by_cases c : j < q
        · refine ⟨j, by omega, ?_⟩
          unfold insF
          rw [if_pos c, if_pos c]; exact g2
        · refine ⟨j + 1, by omega, ?_⟩
          unfold insF
          rw [if_neg (by omega), if_neg (by omega), if_neg (by omega), if_neg (by omega), show j + 1 - 1 = j by omega]; exact g2
theorem ev_slT {a c y : Nat} (h : a < c + y) (ha : a < 2 ^ 30) (hc : c < 2 ^ 30) (hy : y < 2 ^ 31) : (nI a - nI c < nI y) = True := eq_true (by
  rw [i_lt, pk_sub_toInt ha hc, nI_toInt hy]; omega)
theorem ev_slF {a c y : Nat} (h : c + y ≤ a) (ha : a < 2 ^ 30) : (nI a - nI c < nI y) = False := eq_false (by
  rw [i_lt, pk_sub_toInt ha (by omega), nI_toInt (by omega)]; omega)
def room (σ : St) (ns pg : Nat) (a p : Int32) : Prop := ∃ s y B, s < ns ∧ a = nI s ∧ σ.1 9 s = nI B ∧ B ≤ 1024 ∧ p = nI y ∧ y % 4 = 0 ∧ y + 8 ≤ B ∧ y % pg + 8 ≤ pg
theorem and_pg {y pg : Nat} (hy : y < 2 ^ 31) (hp : isPg pg) : nI y &&& nI (pg - 1) = nI (y % pg) := by
  unfold isPg at hp
  rcases hp with h | h | h | h | h <;> subst h
  · exact pk_andN (by omega) 8 (by decide)
  · exact pk_andN (by omega) 9 (by decide)
  · exact pk_andN (by omega) 10 (by decide)
  · exact pk_andN (by omega) 11 (by decide)
  · exact pk_andN (by omega) 12 (by decide)
theorem c_room {σ τ : St} {ns np pg : Nat} {F : Nat → Nat → Nat} (h : PtP σ τ ns np pg F) (hB : ∀ s, s < ns → ∃ B, σ.1 9 s = nI B ∧ B ≤ 1024) (a p : Int32) : (room σ ns pg a p → f_X8_hasRoom a p σ = some (nI 1, σ)) ∧ (¬ room σ ns pg a p → f_X8_hasRoom a p σ = some (nI 0, σ)) := by
  obtain ⟨h1, h2, h3, h4, h5, _⟩ := h
  have hpg : 256 ≤ pg ∧ pg ≤ 4096 := by unfold isPg at h5; omega
  constructor
  · rintro ⟨s, y, B, q1, rfl, q2, q3, rfl, q4, q5, q6⟩
    have an := and_pg (y := y) (by omega) h5
    ((try simp (disch := first | decide | assumption | (simp (disch := first | decide | omega) only [ImC_sI, ImC_sJ, ImM_sI, ImM_sJ]; assumption) | omega) only [↓reduceIte, Nat.reduceAdd, Nat.reduceMul, Nat.reduceSub, Nat.reduceEqDiff, Nat.reducePow, Nat.reduceDiv, ↓zn_d, ↓bi_d, ↓bv_d, gd_T, ev_ib, true_or, or_true, eq_self, ite_true, ite_false, if_true, if_false, not_true_eq_false, not_false_eq_true, li_0, li_1, li_2, li_3, li_4, li_5, li_6, li_7, li_8, li_9, li_10, li_11, li_12, li_13, li_14, li_15, li_16, li_17, li_18, li_19, li_20, li_22, li_24, li_28, li_30, li_31, li_32, li_33, li_36, li_40, li_48, li_51, li_52, li_56, li_64, li_72, li_80, li_100, li_126, li_127, li_255, li_256, li_1024, li_1040, li_2048, li_4095, li_4096, li_65535, li_1073741824, ll_0, ll_1, ll_2, ll_3, ll_4, ll_5, ll_6, ll_7, ll_8, ll_9, ll_12, ll_15, ll_16, ll_20, ll_22, ll_24, ll_25, ll_28, ll_32, ll_40, ll_48, ll_64, ll_72, ll_80, ll_133, ll_255, ll_256, ll_512, ll_1024, ll_2048, ll_4096, ll_16384, ll_65535, ll_16777215, ll_16777228, ll_2147483647, ll_2147483648, ll_2147483700, ll_4277009103, ll_4294967295, ll_68719476735, ll_68719476736, ll_2234207627640832, ll_2251795518717952, ll_72057594037927935, ↓lm_1, ↓llm_1, ev_add, ev_sub, ev_mul, ev_div, ev_cl, ev_ltT, ev_ltF, ev_leT, ev_leF, ev_eqT, ev_eqF, ev_m1, ev_m1', ev_m1s, ev_dec, ev_nn, el_add, el_sub, el_mul, el_div, el_ltT, el_ltF, el_leT, el_leF, el_eqT, el_eqF, ev_l, el_i, el_m1, el_m1', rdI, rdJ, rdR, updF, updT, updLF, updLT, sI_l, sJ_l, sR_l, f_X8_hasRoom, f_X5_has, h3, h4, q2, an]); first | done | rfl)
  · intro hn
    rcases i0_cases a with g | ⟨s, hs, rfl⟩
    · ((try simp (disch := first | decide | assumption | (simp (disch := first | decide | omega) only [ImC_sI, ImC_sJ, ImM_sI, ImM_sJ]; assumption) | omega) only [↓reduceIte, Nat.reduceAdd, Nat.reduceMul, Nat.reduceSub, Nat.reduceEqDiff, Nat.reducePow, Nat.reduceDiv, ↓zn_d, ↓bi_d, ↓bv_d, gd_T, ev_ib, true_or, or_true, eq_self, ite_true, ite_false, if_true, if_false, not_true_eq_false, not_false_eq_true, li_0, li_1, li_2, li_3, li_4, li_5, li_6, li_7, li_8, li_9, li_10, li_11, li_12, li_13, li_14, li_15, li_16, li_17, li_18, li_19, li_20, li_22, li_24, li_28, li_30, li_31, li_32, li_33, li_36, li_40, li_48, li_51, li_52, li_56, li_64, li_72, li_80, li_100, li_126, li_127, li_255, li_256, li_1024, li_1040, li_2048, li_4095, li_4096, li_65535, li_1073741824, ll_0, ll_1, ll_2, ll_3, ll_4, ll_5, ll_6, ll_7, ll_8, ll_9, ll_12, ll_15, ll_16, ll_20, ll_22, ll_24, ll_25, ll_28, ll_32, ll_40, ll_48, ll_64, ll_72, ll_80, ll_133, ll_255, ll_256, ll_512, ll_1024, ll_2048, ll_4096, ll_16384, ll_65535, ll_16777215, ll_16777228, ll_2147483647, ll_2147483648, ll_2147483700, ll_4277009103, ll_4294967295, ll_68719476735, ll_68719476736, ll_2234207627640832, ll_2251795518717952, ll_72057594037927935, ↓lm_1, ↓llm_1, ev_add, ev_sub, ev_mul, ev_div, ev_cl, ev_ltT, ev_ltF, ev_leT, ev_leF, ev_eqT, ev_eqF, ev_m1, ev_m1', ev_m1s, ev_dec, ev_nn, el_add, el_sub, el_mul, el_div, el_ltT, el_ltF, el_leT, el_leF, el_eqT, el_eqF, ev_l, el_i, el_m1, el_m1', rdI, rdJ, rdR, updF, updT, updLF, updLT, sI_l, sJ_l, sR_l, f_X8_hasRoom, f_X5_has, g]); first | done | rfl)
    by_cases g1 : s < ns
    case neg => ((try simp (disch := first | decide | assumption | (simp (disch := first | decide | omega) only [ImC_sI, ImC_sJ, ImM_sI, ImM_sJ]; assumption) | omega) only [↓reduceIte, Nat.reduceAdd, Nat.reduceMul, Nat.reduceSub, Nat.reduceEqDiff, Nat.reducePow, Nat.reduceDiv, ↓zn_d, ↓bi_d, ↓bv_d, gd_T, ev_ib, true_or, or_true, eq_self, ite_true, ite_false, if_true, if_false, not_true_eq_false, not_false_eq_true, li_0, li_1, li_2, li_3, li_4, li_5, li_6, li_7, li_8, li_9, li_10, li_11, li_12, li_13, li_14, li_15, li_16, li_17, li_18, li_19, li_20, li_22, li_24, li_28, li_30, li_31, li_32, li_33, li_36, li_40, li_48, li_51, li_52, li_56, li_64, li_72, li_80, li_100, li_126, li_127, li_255, li_256, li_1024, li_1040, li_2048, li_4095, li_4096, li_65535, li_1073741824, ll_0, ll_1, ll_2, ll_3, ll_4, ll_5, ll_6, ll_7, ll_8, ll_9, ll_12, ll_15, ll_16, ll_20, ll_22, ll_24, ll_25, ll_28, ll_32, ll_40, ll_48, ll_64, ll_72, ll_80, ll_133, ll_255, ll_256, ll_512, ll_1024, ll_2048, ll_4096, ll_16384, ll_65535, ll_16777215, ll_16777228, ll_2147483647, ll_2147483648, ll_2147483700, ll_4277009103, ll_4294967295, ll_68719476735, ll_68719476736, ll_2234207627640832, ll_2251795518717952, ll_72057594037927935, ↓lm_1, ↓llm_1, ev_add, ev_sub, ev_mul, ev_div, ev_cl, ev_ltT, ev_ltF, ev_leT, ev_leF, ev_eqT, ev_eqF, ev_m1, ev_m1', ev_m1s, ev_dec, ev_nn, el_add, el_sub, el_mul, el_div, el_ltT, el_ltF, el_leT, el_leF, el_eqT, el_eqF, ev_l, el_i, el_m1, el_m1', rdI, rdJ, rdR, updF, updT, updLF, updLT, sI_l, sJ_l, sR_l, f_X8_hasRoom, f_X5_has, h3]); first | done | rfl)
    obtain ⟨B, b1, b2⟩ := hB s g1
    rcases i0_cases p with g | ⟨y, hy, rfl⟩
    · ((try simp (disch := first | decide | assumption | (simp (disch := first | decide | omega) only [ImC_sI, ImC_sJ, ImM_sI, ImM_sJ]; assumption) | omega) only [↓reduceIte, Nat.reduceAdd, Nat.reduceMul, Nat.reduceSub, Nat.reduceEqDiff, Nat.reducePow, Nat.reduceDiv, ↓zn_d, ↓bi_d, ↓bv_d, gd_T, ev_ib, true_or, or_true, eq_self, ite_true, ite_false, if_true, if_false, not_true_eq_false, not_false_eq_true, li_0, li_1, li_2, li_3, li_4, li_5, li_6, li_7, li_8, li_9, li_10, li_11, li_12, li_13, li_14, li_15, li_16, li_17, li_18, li_19, li_20, li_22, li_24, li_28, li_30, li_31, li_32, li_33, li_36, li_40, li_48, li_51, li_52, li_56, li_64, li_72, li_80, li_100, li_126, li_127, li_255, li_256, li_1024, li_1040, li_2048, li_4095, li_4096, li_65535, li_1073741824, ll_0, ll_1, ll_2, ll_3, ll_4, ll_5, ll_6, ll_7, ll_8, ll_9, ll_12, ll_15, ll_16, ll_20, ll_22, ll_24, ll_25, ll_28, ll_32, ll_40, ll_48, ll_64, ll_72, ll_80, ll_133, ll_255, ll_256, ll_512, ll_1024, ll_2048, ll_4096, ll_16384, ll_65535, ll_16777215, ll_16777228, ll_2147483647, ll_2147483648, ll_2147483700, ll_4277009103, ll_4294967295, ll_68719476735, ll_68719476736, ll_2234207627640832, ll_2251795518717952, ll_72057594037927935, ↓lm_1, ↓llm_1, ev_add, ev_sub, ev_mul, ev_div, ev_cl, ev_ltT, ev_ltF, ev_leT, ev_leF, ev_eqT, ev_eqF, ev_m1, ev_m1', ev_m1s, ev_dec, ev_nn, el_add, el_sub, el_mul, el_div, el_ltT, el_ltF, el_leT, el_leF, el_eqT, el_eqF, ev_l, el_i, el_m1, el_m1', rdI, rdJ, rdR, updF, updT, updLF, updLT, sI_l, sJ_l, sR_l, f_X8_hasRoom, f_X5_has, h3, g]); first | done | rfl)
    by_cases g3 : y % 4 = 0
    case neg => ((try simp (disch := first | decide | assumption | (simp (disch := first | decide | omega) only [ImC_sI, ImC_sJ, ImM_sI, ImM_sJ]; assumption) | omega) only [↓reduceIte, Nat.reduceAdd, Nat.reduceMul, Nat.reduceSub, Nat.reduceEqDiff, Nat.reducePow, Nat.reduceDiv, ↓zn_d, ↓bi_d, ↓bv_d, gd_T, ev_ib, true_or, or_true, eq_self, ite_true, ite_false, if_true, if_false, not_true_eq_false, not_false_eq_true, li_0, li_1, li_2, li_3, li_4, li_5, li_6, li_7, li_8, li_9, li_10, li_11, li_12, li_13, li_14, li_15, li_16, li_17, li_18, li_19, li_20, li_22, li_24, li_28, li_30, li_31, li_32, li_33, li_36, li_40, li_48, li_51, li_52, li_56, li_64, li_72, li_80, li_100, li_126, li_127, li_255, li_256, li_1024, li_1040, li_2048, li_4095, li_4096, li_65535, li_1073741824, ll_0, ll_1, ll_2, ll_3, ll_4, ll_5, ll_6, ll_7, ll_8, ll_9, ll_12, ll_15, ll_16, ll_20, ll_22, ll_24, ll_25, ll_28, ll_32, ll_40, ll_48, ll_64, ll_72, ll_80, ll_133, ll_255, ll_256, ll_512, ll_1024, ll_2048, ll_4096, ll_16384, ll_65535, ll_16777215, ll_16777228, ll_2147483647, ll_2147483648, ll_2147483700, ll_4277009103, ll_4294967295, ll_68719476735, ll_68719476736, ll_2234207627640832, ll_2251795518717952, ll_72057594037927935, ↓lm_1, ↓llm_1, ev_add, ev_sub, ev_mul, ev_div, ev_cl, ev_ltT, ev_ltF, ev_leT, ev_leF, ev_eqT, ev_eqF, ev_m1, ev_m1', ev_m1s, ev_dec, ev_nn, el_add, el_sub, el_mul, el_div, el_ltT, el_ltF, el_leT, el_leF, el_eqT, el_eqF, ev_l, el_i, el_m1, el_m1', rdI, rdJ, rdR, updF, updT, updLF, updLT, sI_l, sJ_l, sR_l, f_X8_hasRoom, f_X5_has, h3]); first | done | rfl)
    by_cases g4 : y + 8 ≤ B
    case neg =>
      have sl := ev_slT (a := B) (c := 8) (y := y) (by omega) (by omega) (by omega) hy
      by_cases g6 : 8 ≤ B
      · ((try simp (disch := first | decide | assumption | (simp (disch := first | decide | omega) only [ImC_sI, ImC_sJ, ImM_sI, ImM_sJ]; assumption) | omega) only [↓reduceIte, Nat.reduceAdd, Nat.reduceMul, Nat.reduceSub, Nat.reduceEqDiff, Nat.reducePow, Nat.reduceDiv, ↓zn_d, ↓bi_d, ↓bv_d, gd_T, ev_ib, true_or, or_true, eq_self, ite_true, ite_false, if_true, if_false, not_true_eq_false, not_false_eq_true, li_0, li_1, li_2, li_3, li_4, li_5, li_6, li_7, li_8, li_9, li_10, li_11, li_12, li_13, li_14, li_15, li_16, li_17, li_18, li_19, li_20, li_22, li_24, li_28, li_30, li_31, li_32, li_33, li_36, li_40, li_48, li_51, li_52, li_56, li_64, li_72, li_80, li_100, li_126, li_127, li_255, li_256, li_1024, li_1040, li_2048, li_4095, li_4096, li_65535, li_1073741824, ll_0, ll_1, ll_2, ll_3, ll_4, ll_5, ll_6, ll_7, ll_8, ll_9, ll_12, ll_15, ll_16, ll_20, ll_22, ll_24, ll_25, ll_28, ll_32, ll_40, ll_48, ll_64, ll_72, ll_80, ll_133, ll_255, ll_256, ll_512, ll_1024, ll_2048, ll_4096, ll_16384, ll_65535, ll_16777215, ll_16777228, ll_2147483647, ll_2147483648, ll_2147483700, ll_4277009103, ll_4294967295, ll_68719476735, ll_68719476736, ll_2234207627640832, ll_2251795518717952, ll_72057594037927935, ↓lm_1, ↓llm_1, ev_add, ev_sub, ev_mul, ev_div, ev_cl, ev_ltT, ev_ltF, ev_leT, ev_leF, ev_eqT, ev_eqF, ev_m1, ev_m1', ev_m1s, ev_dec, ev_nn, el_add, el_sub, el_mul, el_div, el_ltT, el_ltF, el_leT, el_leF, el_eqT, el_eqF, ev_l, el_i, el_m1, el_m1', rdI, rdJ, rdR, updF, updT, updLF, updLT, sI_l, sJ_l, sR_l, f_X8_hasRoom, f_X5_has, h3, b1]); first | done | rfl)
      · ((try simp (disch := first | decide | assumption | (simp (disch := first | decide | omega) only [ImC_sI, ImC_sJ, ImM_sI, ImM_sJ]; assumption) | omega) only [↓reduceIte, Nat.reduceAdd, Nat.reduceMul, Nat.reduceSub, Nat.reduceEqDiff, Nat.reducePow, Nat.reduceDiv, ↓zn_d, ↓bi_d, ↓bv_d, gd_T, ev_ib, true_or, or_true, eq_self, ite_true, ite_false, if_true, if_false, not_true_eq_false, not_false_eq_true, li_0, li_1, li_2, li_3, li_4, li_5, li_6, li_7, li_8, li_9, li_10, li_11, li_12, li_13, li_14, li_15, li_16, li_17, li_18, li_19, li_20, li_22, li_24, li_28, li_30, li_31, li_32, li_33, li_36, li_40, li_48, li_51, li_52, li_56, li_64, li_72, li_80, li_100, li_126, li_127, li_255, li_256, li_1024, li_1040, li_2048, li_4095, li_4096, li_65535, li_1073741824, ll_0, ll_1, ll_2, ll_3, ll_4, ll_5, ll_6, ll_7, ll_8, ll_9, ll_12, ll_15, ll_16, ll_20, ll_22, ll_24, ll_25, ll_28, ll_32, ll_40, ll_48, ll_64, ll_72, ll_80, ll_133, ll_255, ll_256, ll_512, ll_1024, ll_2048, ll_4096, ll_16384, ll_65535, ll_16777215, ll_16777228, ll_2147483647, ll_2147483648, ll_2147483700, ll_4277009103, ll_4294967295, ll_68719476735, ll_68719476736, ll_2234207627640832, ll_2251795518717952, ll_72057594037927935, ↓lm_1, ↓llm_1, ev_add, ev_sub, ev_mul, ev_div, ev_cl, ev_ltT, ev_ltF, ev_leT, ev_leF, ev_eqT, ev_eqF, ev_m1, ev_m1', ev_m1s, ev_dec, ev_nn, el_add, el_sub, el_mul, el_div, el_ltT, el_ltF, el_leT, el_leF, el_eqT, el_eqF, ev_l, el_i, el_m1, el_m1', rdI, rdJ, rdR, updF, updT, updLF, updLT, sI_l, sJ_l, sR_l, f_X8_hasRoom, f_X5_has, h3, b1, sl]); first | done | rfl)
    have an := and_pg (y := y) hy h5
    by_cases g5 : y % pg + 8 ≤ pg
    · exact absurd ⟨s, y, B, g1, rfl, b1, b2, rfl, g3, g4, g5⟩ hn
    · have : y % pg < pg := Nat.mod_lt _ (by omega)
      ((try simp (disch := first | decide | assumption | (simp (disch := first | decide | omega) only [ImC_sI, ImC_sJ, ImM_sI, ImM_sJ]; assumption) | omega) only [↓reduceIte, Nat.reduceAdd, Nat.reduceMul, Nat.reduceSub, Nat.reduceEqDiff, Nat.reducePow, Nat.reduceDiv, ↓zn_d, ↓bi_d, ↓bv_d, gd_T, ev_ib, true_or, or_true, eq_self, ite_true, ite_false, if_true, if_false, not_true_eq_false, not_false_eq_true, li_0, li_1, li_2, li_3, li_4, li_5, li_6, li_7, li_8, li_9, li_10, li_11, li_12, li_13, li_14, li_15, li_16, li_17, li_18, li_19, li_20, li_22, li_24, li_28, li_30, li_31, li_32, li_33, li_36, li_40, li_48, li_51, li_52, li_56, li_64, li_72, li_80, li_100, li_126, li_127, li_255, li_256, li_1024, li_1040, li_2048, li_4095, li_4096, li_65535, li_1073741824, ll_0, ll_1, ll_2, ll_3, ll_4, ll_5, ll_6, ll_7, ll_8, ll_9, ll_12, ll_15, ll_16, ll_20, ll_22, ll_24, ll_25, ll_28, ll_32, ll_40, ll_48, ll_64, ll_72, ll_80, ll_133, ll_255, ll_256, ll_512, ll_1024, ll_2048, ll_4096, ll_16384, ll_65535, ll_16777215, ll_16777228, ll_2147483647, ll_2147483648, ll_2147483700, ll_4277009103, ll_4294967295, ll_68719476735, ll_68719476736, ll_2234207627640832, ll_2251795518717952, ll_72057594037927935, ↓lm_1, ↓llm_1, ev_add, ev_sub, ev_mul, ev_div, ev_cl, ev_ltT, ev_ltF, ev_leT, ev_leF, ev_eqT, ev_eqF, ev_m1, ev_m1', ev_m1s, ev_dec, ev_nn, el_add, el_sub, el_mul, el_div, el_ltT, el_ltF, el_leT, el_leF, el_eqT, el_eqF, ev_l, el_i, el_m1, el_m1', rdI, rdJ, rdR, updF, updT, updLF, updLT, sI_l, sJ_l, sR_l, f_X8_hasRoom, f_X5_has, h3, h4, b1, an]); first | done | rfl)
theorem pg_div {y pg : Nat} (hp : isPg pg) : (y / pg = (y + 7) / pg) ↔ y % pg + 8 ≤ pg := by
  unfold isPg at hp
  rcases hp with h | h | h | h | h <;> subst h <;> omega
