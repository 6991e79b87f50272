/-! loops that count -/
theorem it_u {α β : Type} {F : (α → Option β) → α → Option β} {n : Nat} (h : 0 < n) (a : α) : it F n a = F (it F (n - 1)) a := by
  obtain ⟨m, rfl⟩ : ∃ m, n = m + 1 := ⟨n - 1, by omega⟩
  rfl
theorem it_for {α β : Type} {F : (α → Option β) → α → Option β} (I : Nat → α → Prop) (e : Nat) (Post : Option β → Prop) (hx : ∀ K a, I e a → Post (F K a)) (hs : ∀ K i a, i < e → I i a → (∀ a', I (i + 1) a' → Post (K a')) → Post (F K a)) : ∀ (f i : Nat) (a : α), i ≤ e → e - i < f → I i a → Post (it F f a) := by
  intro f
  induction f with
  | zero => intro i a _ h; exact absurd h (Nat.not_lt_zero _)
  | succ f ih =>
    intro i a hi hf ha
    rcases Nat.lt_or_ge i e with h | h
    · exact hs _ i a h ha (fun a' h' => ih (i + 1) a' h (by omega) h')
    · have : i = e := by omega
      subst this
      exact hx _ a ha
theorem it_for2 {α β α' β' : Type} {F : (α → Option β) → α → Option β} {F' : (α' → Option β') → α' → Option β'} (I : Nat → α → α' → Prop) (e : Nat) (Post : Option β → Option β' → Prop) (hx : ∀ K K' a a', I e a a' → Post (F K a) (F' K' a')) (hs : ∀ K K' i a a', i < e → I i a a' → (∀ x x', I (i + 1) x x' → Post (K x) (K' x')) → Post (F K a) (F' K' a')) : ∀ (f f' i : Nat) (a : α) (a' : α'), i ≤ e → e - i < f → e - i < f' → I i a a' → Post (it F f a) (it F' f' a') := by
  intro f
  induction f with
  | zero => intro f' i a a' _ h; exact absurd h (Nat.not_lt_zero _)
  | succ f ih =>
    intro f' i a a' hi hf hf' ha
    cases f' with
    | zero => exact absurd hf' (Nat.not_lt_zero _)
    | succ f' =>
      rcases Nat.lt_or_ge i e with h | h
      · exact hs _ _ i a a' h ha (fun x x' h' => ih f' (i + 1) x x' h (by omega) (by omega) h')
      · have : i = e := by omega
        subst this
        exact hx _ _ a a' ha
theorem FU_lt {n : Nat} (h : n < 100000) : n < FU := h
theorem sI_sI (σ : St) (k j : Nat) (v w : Int32) : sI (sI σ k j v) k j w = sI σ k j w := by
  refine st_ext (fun a b => ?_) (fun _ _ => rfl)
  rw [sI_g, sI_g, sI_g]
  by_cases h1 : a = k
  · by_cases h2 : b = j
    · rw [if_pos h1, if_pos h2, if_pos h1, if_pos h2]
    · rw [if_pos h1, if_neg h2, if_pos h1, if_neg h2, if_pos h1, if_neg h2]
  · rw [if_neg h1, if_neg h1, if_neg h1]
theorem sI_self {σ : St} {k j : Nat} {v : Int32} (h : σ.1 k j = v) : sI σ k j v = σ := by
  refine st_ext (fun a b => ?_) (fun _ _ => rfl)
  rw [sI_g]
  by_cases h1 : a = k
  · by_cases h2 : b = j
    · rw [if_pos h1, if_pos h2, h1, h2, h]
    · rw [if_pos h1, if_neg h2]
  · rw [if_neg h1]
/-! the commands as both have read them so far -/
def sumS (f : Nat → Nat) : Nat → Nat
  | 0 => 0
  | n + 1 => sumS f n + f n
def SgR (z n : Nat) (G : Nat → Nat → Nat) (σ τ : St) : Prop :=
  n ≤ 4 ∧ σ.1 41 4 = nI n ∧ τ.1 68 41 = nI n ∧ τ.1 68 43 = nI (sumS (G 1) n) ∧ sumS (G 1) n ≤ 16384 ∧
  (∀ s, s < n → σ.1 42 s = nI (G 0 s) ∧ σ.1 43 s = nI (G 1 s) ∧ σ.1 44 s = nI (G 2 s) ∧ σ.1 45 s = nI (G 3 s) ∧ τ.2 91 s = lN (G 0 s) ∧ τ.2 92 s = lN (G 1 s) ∧ τ.2 93 s = lN (G 2 s) ∧ τ.2 94 s = lN (G 3 s) ∧ G 0 s + G 1 s ≤ 2147483647 ∧ G 2 s + G 3 s ≤ z ∧ G 3 s ≤ G 1 s) ∧
  (∀ s t, s < n → t < n → s ≠ t → G 1 s = 0 ∨ G 1 t = 0 ∨ G 0 s + G 1 s ≤ G 0 t ∨ G 0 t + G 1 t ≤ G 0 s)
def SyR (z hs : Nat) (V : Nat → Nat) (σ τ : St) : Prop :=
  hs ≤ 1 ∧ σ.1 40 4 = nI hs ∧ τ.1 68 48 = nI hs ∧ σ.1 40 5 = nI (V 1) ∧ σ.1 40 6 = nI (V 0) ∧ σ.1 40 7 = nI (V 2) ∧ σ.1 40 8 = nI (V 3) ∧
  (hs = 1 → τ.2 68 50 = lN (V 0) ∧ τ.2 68 51 = lN (V 1) ∧ τ.2 68 52 = lN (V 2) ∧ τ.2 68 53 = lN (V 3)) ∧ (hs = 0 → V 1 = 0) ∧ V 1 ≤ 64 ∧ V 0 + 16 * V 1 ≤ z ∧ V 2 + V 3 ≤ z
def ChR (z hc : Nat) (X : Nat → Nat) (σ τ : St) : Prop :=
  hc ≤ 1 ∧ σ.1 40 9 = nI hc ∧ τ.1 68 49 = nI hc ∧ σ.1 40 10 = nI (X 0) ∧ σ.1 40 11 = nI (X 1) ∧ (hc = 1 → τ.2 68 54 = lN (X 0) ∧ τ.2 68 55 = lN (X 0 + X 1)) ∧ X 0 + X 1 ≤ z
def FtR (σ τ : St) : Prop := ∃ k w, σ.1 39 0 = nI k ∧ σ.1 39 1 = nI w ∧ τ.1 68 39 = nI k ∧ τ.2 68 40 = lN w
/-- what a step leaves: it went on, or both tell the same fault -/
def RR (P : St → St → Prop) (o o' : Option (Int32 × St)) : Prop := ∃ r σ' τ', o = some (r, σ') ∧ o' = some (r, τ') ∧ ((r = nI 1 ∧ P σ' τ') ∨ (r = nI 0 ∧ FtR σ' τ'))
theorem RR_1 {P : St → St → Prop} {o o' : Option (Int32 × St)} {σ' τ' : St} (h1 : o = some (nI 1, σ')) (h2 : o' = some (nI 1, τ')) (h : P σ' τ') : RR P o o' := ⟨_, _, _, h1, h2, Or.inl ⟨rfl, h⟩⟩
theorem RR_0 {P : St → St → Prop} {o o' : Option (Int32 × St)} {σ' τ' : St} {k w : Nat} (h1 : o = some (nI 0, sI (sI σ' 39 0 (nI k)) 39 1 (nI w))) (h2 : o' = some (nI 0, sJ (sI τ' 68 39 (nI k)) 68 40 (lN w))) : RR P o o' := ⟨_, _, _, h1, h2, Or.inr ⟨rfl, k, w, by simp (disch := first | decide | omega) only [↓reduceIte, Nat.reduceAdd, Nat.reduceMul, Nat.reduceSub, Nat.reduceEqDiff, Nat.reducePow, Nat.reduceDiv, ↓zn_d, ↓bi_d, ↓bv_d, gd_T, ev_ib, true_or, or_true, eq_self, ite_true, ite_false, if_true, if_false, not_true_eq_false, not_false_eq_true, li_0, li_1, li_2, li_3, li_4, li_5, li_6, li_7, li_8, li_9, li_10, li_11, li_12, li_13, li_14, li_15, li_16, li_17, li_18, li_19, li_20, li_22, li_24, li_28, li_30, li_31, li_32, li_33, li_36, li_40, li_48, li_51, li_52, li_56, li_64, li_72, li_80, li_100, li_126, li_127, li_255, li_256, li_1024, li_1040, li_2048, li_4095, li_4096, li_65535, li_1073741824, ll_0, ll_1, ll_2, ll_3, ll_4, ll_5, ll_6, ll_7, ll_8, ll_9, ll_12, ll_15, ll_16, ll_20, ll_22, ll_24, ll_25, ll_28, ll_32, ll_40, ll_48, ll_64, ll_72, ll_80, ll_133, ll_255, ll_256, ll_512, ll_1024, ll_2048, ll_4096, ll_16384, ll_65535, ll_16777215, ll_16777228, ll_2147483647, ll_2147483648, ll_2147483700, ll_4277009103, ll_4294967295, ll_68719476735, ll_68719476736, ll_2234207627640832, ll_2251795518717952, ll_72057594037927935, ↓lm_1, ↓llm_1, ev_add, ev_sub, ev_mul, ev_div, ev_cl, ev_ltT, ev_ltF, ev_leT, ev_leF, ev_eqT, ev_eqF, ev_m1, ev_m1', ev_m1s, ev_dec, ev_nn, el_add, el_sub, el_mul, el_div, el_ltT, el_ltF, el_leT, el_leF, el_eqT, el_eqF, ev_l, el_i, el_m1, el_m1', rdI, rdJ, rdR, updF, updT, updLF, updLT, sI_l, sJ_l, sR_l], by simp (disch := first | decide | omega) only [↓reduceIte, Nat.reduceAdd, Nat.reduceMul, Nat.reduceSub, Nat.reduceEqDiff, Nat.reducePow, Nat.reduceDiv, ↓zn_d, ↓bi_d, ↓bv_d, gd_T, ev_ib, true_or, or_true, eq_self, ite_true, ite_false, if_true, if_false, not_true_eq_false, not_false_eq_true, li_0, li_1, li_2, li_3, li_4, li_5, li_6, li_7, li_8, li_9, li_10, li_11, li_12, li_13, li_14, li_15, li_16, li_17, li_18, li_19, li_20, li_22, li_24, li_28, li_30, li_31, li_32, li_33, li_36, li_40, li_48, li_51, li_52, li_56, li_64, li_72, li_80, li_100, li_126, li_127, li_255, li_256, li_1024, li_1040, li_2048, li_4095, li_4096, li_65535, li_1073741824, ll_0, ll_1, ll_2, ll_3, ll_4, ll_5, ll_6, ll_7, ll_8, ll_9, ll_12, ll_15, ll_16, ll_20, ll_22, ll_24, ll_25, ll_28, ll_32, ll_40, ll_48, ll_64, ll_72, ll_80, ll_133, ll_255, ll_256, ll_512, ll_1024, ll_2048, ll_4096, ll_16384, ll_65535, ll_16777215, ll_16777228, ll_2147483647, ll_2147483648, ll_2147483700, ll_4277009103, ll_4294967295, ll_68719476735, ll_68719476736, ll_2234207627640832, ll_2251795518717952, ll_72057594037927935, ↓lm_1, ↓llm_1, ev_add, ev_sub, ev_mul, ev_div, ev_cl, ev_ltT, ev_ltF, ev_leT, ev_leF, ev_eqT, ev_eqF, ev_m1, ev_m1', ev_m1s, ev_dec, ev_nn, el_add, el_sub, el_mul, el_div, el_ltT, el_ltF, el_leT, el_leF, el_eqT, el_eqF, ev_l, el_i, el_m1, el_m1', rdI, rdJ, rdR, updF, updT, updLF, updLT, sI_l, sJ_l, sR_l], by simp (disch := first | decide | omega) only [↓reduceIte, Nat.reduceAdd, Nat.reduceMul, Nat.reduceSub, Nat.reduceEqDiff, Nat.reducePow, Nat.reduceDiv, ↓zn_d, ↓bi_d, ↓bv_d, gd_T, ev_ib, true_or, or_true, eq_self, ite_true, ite_false, if_true, if_false, not_true_eq_false, not_false_eq_true, li_0, li_1, li_2, li_3, li_4, li_5, li_6, li_7, li_8, li_9, li_10, li_11, li_12, li_13, li_14, li_15, li_16, li_17, li_18, li_19, li_20, li_22, li_24, li_28, li_30, li_31, li_32, li_33, li_36, li_40, li_48, li_51, li_52, li_56, li_64, li_72, li_80, li_100, li_126, li_127, li_255, li_256, li_1024, li_1040, li_2048, li_4095, li_4096, li_65535, li_1073741824, ll_0, ll_1, ll_2, ll_3, ll_4, ll_5, ll_6, ll_7, ll_8, ll_9, ll_12, ll_15, ll_16, ll_20, ll_22, ll_24, ll_25, ll_28, ll_32, ll_40, ll_48, ll_64, ll_72, ll_80, ll_133, ll_255, ll_256, ll_512, ll_1024, ll_2048, ll_4096, ll_16384, ll_65535, ll_16777215, ll_16777228, ll_2147483647, ll_2147483648, ll_2147483700, ll_4277009103, ll_4294967295, ll_68719476735, ll_68719476736, ll_2234207627640832, ll_2251795518717952, ll_72057594037927935, ↓lm_1, ↓llm_1, ev_add, ev_sub, ev_mul, ev_div, ev_cl, ev_ltT, ev_ltF, ev_leT, ev_leF, ev_eqT, ev_eqF, ev_m1, ev_m1', ev_m1s, ev_dec, ev_nn, el_add, el_sub, el_mul, el_div, el_ltT, el_ltF, el_leT, el_leF, el_eqT, el_eqF, ev_l, el_i, el_m1, el_m1', rdI, rdJ, rdR, updF, updT, updLF, updLT, sI_l, sJ_l, sR_l], by simp (disch := first | decide | omega) only [↓reduceIte, Nat.reduceAdd, Nat.reduceMul, Nat.reduceSub, Nat.reduceEqDiff, Nat.reducePow, Nat.reduceDiv, ↓zn_d, ↓bi_d, ↓bv_d, gd_T, ev_ib, true_or, or_true, eq_self, ite_true, ite_false, if_true, if_false, not_true_eq_false, not_false_eq_true, li_0, li_1, li_2, li_3, li_4, li_5, li_6, li_7, li_8, li_9, li_10, li_11, li_12, li_13, li_14, li_15, li_16, li_17, li_18, li_19, li_20, li_22, li_24, li_28, li_30, li_31, li_32, li_33, li_36, li_40, li_48, li_51, li_52, li_56, li_64, li_72, li_80, li_100, li_126, li_127, li_255, li_256, li_1024, li_1040, li_2048, li_4095, li_4096, li_65535, li_1073741824, ll_0, ll_1, ll_2, ll_3, ll_4, ll_5, ll_6, ll_7, ll_8, ll_9, ll_12, ll_15, ll_16, ll_20, ll_22, ll_24, ll_25, ll_28, ll_32, ll_40, ll_48, ll_64, ll_72, ll_80, ll_133, ll_255, ll_256, ll_512, ll_1024, ll_2048, ll_4096, ll_16384, ll_65535, ll_16777215, ll_16777228, ll_2147483647, ll_2147483648, ll_2147483700, ll_4277009103, ll_4294967295, ll_68719476735, ll_68719476736, ll_2234207627640832, ll_2251795518717952, ll_72057594037927935, ↓lm_1, ↓llm_1, ev_add, ev_sub, ev_mul, ev_div, ev_cl, ev_ltT, ev_ltF, ev_leT, ev_leF, ev_eqT, ev_eqF, ev_m1, ev_m1', ev_m1s, ev_dec, ev_nn, el_add, el_sub, el_mul, el_div, el_ltT, el_ltF, el_leT, el_leF, el_eqT, el_eqF, ev_l, el_i, el_m1, el_m1', rdI, rdJ, rdR, updF, updT, updLF, updLT, sI_l, sJ_l, sR_l]⟩⟩
