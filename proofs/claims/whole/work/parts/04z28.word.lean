theorem it_run2 {α β α' β' : Type} {F : (α → Option β) → α → Option β} {F' : (α' → Option β') → α' → Option β'} (I : α → α' → Prop) (μ : α → Nat) (Post : Option β → Option β' → Prop) (hs : ∀ K n' a a', I a a' → 0 < n' → (∀ x x', I x x' → μ x < μ a → Post (K x) (it F' n' x')) → Post (F K a) (F' (it F' n') a')) : ∀ (n n' : Nat) (a : α) (a' : α'), I a a' → μ a < n → μ a + 1 < n' → Post (it F n a) (it F' n' a') := by
  intro n
  induction n with
  | zero => intro n' a a' _ h; exact absurd h (Nat.not_lt_zero _)
  | succ n ih =>
    intro n' a a' ha hn hn'
    cases n' with
    | zero => exact absurd hn' (Nat.not_lt_zero _)
    | succ n' => exact hs _ n' a a' ha (by omega) (fun x x' hx hm => ih n' x x' hx (by omega) (by omega))
/-- the eight bytes of a segment at a place -/
def gby (b : Nat → Nat) (F B : Nat) (j : Nat) : Nat := if j < B then b (F + j) else 0
def wd8 (b : Nat → Nat) (F B p : Nat) : Nat := nbf (gby b F B) p 8
theorem gby_lt {b : Nat → Nat} (h : ∀ j, b j < 256) (F B j : Nat) : gby b F B j < 256 := by
  unfold gby
  split
  · exact h _
  · decide
theorem wd8_lt {b : Nat → Nat} (h : ∀ j, b j < 256) (F B p : Nat) : wd8 b F B p < 18446744073709551616 := nbf_lt (gby_lt h F B) 8 p
theorem or_8 {x c : Nat} (h : c < 256) : lN (x * 256) ||| lN c = lN (x * 256 + c) := by
  rw [← zs_8 x, ← nI_l (n := c) (by omega)]
  exact zl8 x c h
theorem ev_decm {a : Nat} : nI a - 1 + m1 = nI a - 1 - 1 := (Int32.sub_eq_add_neg _ _).symm
theorem c_pbits {b : Nat → Nat} {z s F B p : Nat} {σ : St} (hI : ImC b z σ) (hs : s < 4) (e44 : σ.1 44 s = nI F) (e45 : σ.1 45 s = nI B) (hF : F + B ≤ z) (hp : p < 2 ^ 30) : f_X7_pointerBits 41 3 6400 (nI s) (nI p) σ = some (lN (wd8 b F B p), σ) := by
  have hz := hI.1
  have e0 : f_X7_pointerBits 41 3 6400 (nI s) (nI p) σ = f_X7_pointerBits_11 41 3 6400 (nI s) (nI p) (lN 0) (nI (p + 8 - 0) - 1) σ := by
    unfold f_X7_pointerBits
    dsimp only [zn]
    rw [show nI p + 8 = nI (p + 8) from nI_add p 8]
    rfl
  rw [e0]
  unfold f_X7_pointerBits_11
  refine it_for (F := fun K a => f_X7_pointerBits_11b 41 3 6400 K a.1 a.2.1 a.2.2.1 a.2.2.2.1 a.2.2.2.2) (fun i (q : Int32 × Int32 × Int64 × Int32 × St) => q = (nI s, nI p, lN (nbf (gby b F B) (p + 8 - i) i), nI (p + 8 - i) - 1, σ)) 8 (fun o => o = some (lN (wd8 b F B p), σ)) ?_ ?_ FU 0 _ (by omega) (FU_lt (by omega)) rfl
  · rintro K q rfl
    dsimp only
    rw [show p + 8 - 8 = p by omega]
    unfold f_X7_pointerBits_11b
    have hc : nI p - 1 < nI p := by
      rcases Nat.eq_zero_or_pos p with h0 | h0
      · subst h0; decide
      · rw [show nI p - 1 = nI (p - 1) from ev_sub (a := p) (b := 1) h0]
        exact nI_lt (by omega) (by omega)
    rw [if_pos hc]
    rfl
  · rintro K i q hi rfl ih
    dsimp only
    have e1 : nI (p + 8 - i) - 1 = nI (p + 8 - i - 1) := ev_sub (a := p + 8 - i) (b := 1) (by omega)
    have hb := hI.2.2.2.2 (F + (p + 8 - i - 1))
    have hn : nbf (gby b F B) (p + 8 - (i + 1)) (i + 1) = nbf (gby b F B) (p + 8 - i) i * 256 + gby b F B (p + 8 - i - 1) := by
      show gby b F B (p + 8 - (i + 1)) + 256 * nbf (gby b F B) (p + 8 - (i + 1) + 1) i = _
      rw [show p + 8 - (i + 1) + 1 = p + 8 - i by omega, show p + 8 - (i + 1) = p + 8 - i - 1 by omega, Nat.mul_comm, Nat.add_comm]
    have e2 : f_X7_pointerBits_11b 41 3 6400 K (nI s) (nI p) (lN (nbf (gby b F B) (p + 8 - i) i)) (nI (p + 8 - i) - 1) σ = K (nI s, nI p, lN (nbf (gby b F B) (p + 8 - (i + 1)) (i + 1)), nI (p + 8 - (i + 1)) - 1, σ) := by
      rw [hn, show nI (p + 8 - (i + 1)) - 1 = nI (p + 8 - i) - 1 + (-1) from by rw [e1, show p + 8 - (i + 1) = p + 8 - i - 1 by omega]; exact Int32.sub_eq_add_neg _ _, e1]
      unfold gby
      by_cases g : p + 8 - i - 1 < B
      · ((try simp (disch := first | decide | assumption | (simp (disch := first | decide | omega) only [ImC_sI, ImC_sJ, ImM_sI, ImM_sJ]; assumption) | omega) only [↓reduceIte, Nat.reduceAdd, Nat.reduceMul, Nat.reduceSub, Nat.reduceEqDiff, Nat.reducePow, Nat.reduceDiv, ↓zn_d, ↓bi_d, ↓bv_d, gd_T, ev_ib, true_or, or_true, eq_self, ite_true, ite_false, if_true, if_false, not_true_eq_false, not_false_eq_true, li_0, li_1, li_2, li_3, li_4, li_5, li_6, li_7, li_8, li_9, li_10, li_11, li_12, li_13, li_14, li_15, li_16, li_17, li_18, li_19, li_20, li_22, li_24, li_28, li_30, li_31, li_32, li_33, li_36, li_40, li_48, li_51, li_52, li_56, li_64, li_72, li_80, li_100, li_126, li_127, li_255, li_256, li_1024, li_1040, li_2048, li_4095, li_4096, li_65535, li_1073741824, ll_0, ll_1, ll_2, ll_3, ll_4, ll_5, ll_6, ll_7, ll_8, ll_9, ll_12, ll_15, ll_16, ll_20, ll_22, ll_24, ll_25, ll_28, ll_32, ll_40, ll_48, ll_64, ll_72, ll_80, ll_133, ll_255, ll_256, ll_512, ll_1024, ll_2048, ll_4096, ll_16384, ll_65535, ll_16777215, ll_16777228, ll_2147483647, ll_2147483648, ll_2147483700, ll_4277009103, ll_4294967295, ll_68719476735, ll_68719476736, ll_2234207627640832, ll_2251795518717952, ll_72057594037927935, ↓lm_1, ↓llm_1, ev_add, ev_sub, ev_mul, ev_div, ev_cl, ev_ltT, ev_ltF, ev_leT, ev_leF, ev_eqT, ev_eqF, ev_m1, ev_m1', ev_m1s, ev_dec, ev_nn, el_add, el_sub, el_mul, el_div, el_ltT, el_ltF, el_leT, el_leF, el_eqT, el_eqF, ev_l, el_i, el_m1, el_m1', rdI, rdJ, rdR, updF, updT, updLF, updLT, sI_l, sJ_l, sR_l, f_X7_pointerBits_11b, f_X7_pointerBits_50, e44, e45, c_at (b := b) (z := z), zs_8, or_8, g]); first | done | rfl)
      · ((try simp (disch := first | decide | assumption | (simp (disch := first | decide | omega) only [ImC_sI, ImC_sJ, ImM_sI, ImM_sJ]; assumption) | omega) only [↓reduceIte, Nat.reduceAdd, Nat.reduceMul, Nat.reduceSub, Nat.reduceEqDiff, Nat.reducePow, Nat.reduceDiv, ↓zn_d, ↓bi_d, ↓bv_d, gd_T, ev_ib, true_or, or_true, eq_self, ite_true, ite_false, if_true, if_false, not_true_eq_false, not_false_eq_true, li_0, li_1, li_2, li_3, li_4, li_5, li_6, li_7, li_8, li_9, li_10, li_11, li_12, li_13, li_14, li_15, li_16, li_17, li_18, li_19, li_20, li_22, li_24, li_28, li_30, li_31, li_32, li_33, li_36, li_40, li_48, li_51, li_52, li_56, li_64, li_72, li_80, li_100, li_126, li_127, li_255, li_256, li_1024, li_1040, li_2048, li_4095, li_4096, li_65535, li_1073741824, ll_0, ll_1, ll_2, ll_3, ll_4, ll_5, ll_6, ll_7, ll_8, ll_9, ll_12, ll_15, ll_16, ll_20, ll_22, ll_24, ll_25, ll_28, ll_32, ll_40, ll_48, ll_64, ll_72, ll_80, ll_133, ll_255, ll_256, ll_512, ll_1024, ll_2048, ll_4096, ll_16384, ll_65535, ll_16777215, ll_16777228, ll_2147483647, ll_2147483648, ll_2147483700, ll_4277009103, ll_4294967295, ll_68719476735, ll_68719476736, ll_2234207627640832, ll_2251795518717952, ll_72057594037927935, ↓lm_1, ↓llm_1, ev_add, ev_sub, ev_mul, ev_div, ev_cl, ev_ltT, ev_ltF, ev_leT, ev_leF, ev_eqT, ev_eqF, ev_m1, ev_m1', ev_m1s, ev_dec, ev_nn, el_add, el_sub, el_mul, el_div, el_ltT, el_ltF, el_leT, el_leF, el_eqT, el_eqF, ev_l, el_i, el_m1, el_m1', rdI, rdJ, rdR, updF, updT, updLF, updLT, sI_l, sJ_l, sR_l, f_X7_pointerBits_11b, f_X7_pointerBits_50, e44, e45, zs_8, or_8, g]); first | done | rfl)
    rw [e2]
    exact ih _ rfl
theorem m_word {b : Nat → Nat} {z s F B p : Nat} {τ : St} (hM : ImM b z τ) (hs : s < 4) (e93 : τ.2 93 s = lN F) (e94 : τ.2 94 s = lN B) (hF : F + B ≤ z) (hp : p < 2 ^ 30) : f_X12_wordOf (nI s) (lN p) τ = some (lN (wd8 b F B p), τ) := by
  have hz := hM.1
  have e0 : f_X12_wordOf (nI s) (lN p) τ = f_X12_wordOf_7 (nI s) (lN p) (lN 0) (nI (8 - 0) - 1) τ := rfl
  rw [e0]
  unfold f_X12_wordOf_7
  refine it_for (F := fun K a => f_X12_wordOf_7b K a.1 a.2.1 a.2.2.1 a.2.2.2.1 a.2.2.2.2) (fun i (q : Int32 × Int64 × Int64 × Int32 × St) => q = (nI s, lN p, lN (nbf (gby b F B) (p + 8 - i) i), nI (8 - i) - 1, τ)) 8 (fun o => o = some (lN (wd8 b F B p), τ)) ?_ ?_ FU 0 _ (by omega) (FU_lt (by omega)) rfl
  · rintro K q rfl
    dsimp only
    rw [show p + 8 - 8 = p by omega]
    unfold f_X12_wordOf_7b
    rw [if_pos (show nI (8 - 8) - 1 < 0 by decide)]
    rfl
  · rintro K i q hi rfl ih
    dsimp only
    have e1 : nI (8 - i) - 1 = nI (8 - i - 1) := ev_sub (a := 8 - i) (b := 1) (by omega)
    have hb := hM.2.2.2.2 (F + p + (8 - i - 1))
    have hn : nbf (gby b F B) (p + 8 - (i + 1)) (i + 1) = nbf (gby b F B) (p + 8 - i) i * 256 + gby b F B (p + (8 - i - 1)) := by
      show gby b F B (p + 8 - (i + 1)) + 256 * nbf (gby b F B) (p + 8 - (i + 1) + 1) i = _
      rw [show p + 8 - (i + 1) + 1 = p + 8 - i by omega, show p + 8 - (i + 1) = p + (8 - i - 1) by omega, Nat.mul_comm, Nat.add_comm]
    have e2 : f_X12_wordOf_7b K (nI s) (lN p) (lN (nbf (gby b F B) (p + 8 - i) i)) (nI (8 - i) - 1) τ = K (nI s, lN p, lN (nbf (gby b F B) (p + 8 - (i + 1)) (i + 1)), nI (8 - (i + 1)) - 1, τ) := by
      rw [hn, show nI (8 - (i + 1)) - 1 = nI (8 - i) - 1 + (-1) from by rw [e1, show 8 - (i + 1) = 8 - i - 1 by omega]; exact Int32.sub_eq_add_neg _ _, e1]
      unfold gby
      by_cases g : p + (8 - i - 1) < B
      · have e88 := hM.2.2.1 (F + p + (8 - i - 1)) (by omega)
        have e5 : b (F + (p + (8 - i - 1))) = b (F + p + (8 - i - 1)) := by rw [Nat.add_assoc]
        ((try simp (disch := first | decide | assumption | (simp (disch := first | decide | omega) only [ImC_sI, ImC_sJ, ImM_sI, ImM_sJ]; assumption) | omega) only [↓reduceIte, Nat.reduceAdd, Nat.reduceMul, Nat.reduceSub, Nat.reduceEqDiff, Nat.reducePow, Nat.reduceDiv, ↓zn_d, ↓bi_d, ↓bv_d, gd_T, ev_ib, true_or, or_true, eq_self, ite_true, ite_false, if_true, if_false, not_true_eq_false, not_false_eq_true, li_0, li_1, li_2, li_3, li_4, li_5, li_6, li_7, li_8, li_9, li_10, li_11, li_12, li_13, li_14, li_15, li_16, li_17, li_18, li_19, li_20, li_22, li_24, li_28, li_30, li_31, li_32, li_33, li_36, li_40, li_48, li_51, li_52, li_56, li_64, li_72, li_80, li_100, li_126, li_127, li_255, li_256, li_1024, li_1040, li_2048, li_4095, li_4096, li_65535, li_1073741824, ll_0, ll_1, ll_2, ll_3, ll_4, ll_5, ll_6, ll_7, ll_8, ll_9, ll_12, ll_15, ll_16, ll_20, ll_22, ll_24, ll_25, ll_28, ll_32, ll_40, ll_48, ll_64, ll_72, ll_80, ll_133, ll_255, ll_256, ll_512, ll_1024, ll_2048, ll_4096, ll_16384, ll_65535, ll_16777215, ll_16777228, ll_2147483647, ll_2147483648, ll_2147483700, ll_4277009103, ll_4294967295, ll_68719476735, ll_68719476736, ll_2234207627640832, ll_2251795518717952, ll_72057594037927935, ↓lm_1, ↓llm_1, ev_add, ev_sub, ev_mul, ev_div, ev_cl, ev_ltT, ev_ltF, ev_leT, ev_leF, ev_eqT, ev_eqF, ev_m1, ev_m1', ev_m1s, ev_dec, ev_nn, el_add, el_sub, el_mul, el_div, el_ltT, el_ltF, el_leT, el_leF, el_eqT, el_eqF, ev_l, el_i, el_m1, el_m1', rdI, rdJ, rdR, updF, updT, updLF, updLT, sI_l, sJ_l, sR_l, f_X12_wordOf_7b, f_X12_wordOf_54, e93, e94, e88, zs_8, or_8, g, e5]); first | done | rfl)
      · ((try simp (disch := first | decide | assumption | (simp (disch := first | decide | omega) only [ImC_sI, ImC_sJ, ImM_sI, ImM_sJ]; assumption) | omega) only [↓reduceIte, Nat.reduceAdd, Nat.reduceMul, Nat.reduceSub, Nat.reduceEqDiff, Nat.reducePow, Nat.reduceDiv, ↓zn_d, ↓bi_d, ↓bv_d, gd_T, ev_ib, true_or, or_true, eq_self, ite_true, ite_false, if_true, if_false, not_true_eq_false, not_false_eq_true, li_0, li_1, li_2, li_3, li_4, li_5, li_6, li_7, li_8, li_9, li_10, li_11, li_12, li_13, li_14, li_15, li_16, li_17, li_18, li_19, li_20, li_22, li_24, li_28, li_30, li_31, li_32, li_33, li_36, li_40, li_48, li_51, li_52, li_56, li_64, li_72, li_80, li_100, li_126, li_127, li_255, li_256, li_1024, li_1040, li_2048, li_4095, li_4096, li_65535, li_1073741824, ll_0, ll_1, ll_2, ll_3, ll_4, ll_5, ll_6, ll_7, ll_8, ll_9, ll_12, ll_15, ll_16, ll_20, ll_22, ll_24, ll_25, ll_28, ll_32, ll_40, ll_48, ll_64, ll_72, ll_80, ll_133, ll_255, ll_256, ll_512, ll_1024, ll_2048, ll_4096, ll_16384, ll_65535, ll_16777215, ll_16777228, ll_2147483647, ll_2147483648, ll_2147483700, ll_4277009103, ll_4294967295, ll_68719476735, ll_68719476736, ll_2234207627640832, ll_2251795518717952, ll_72057594037927935, ↓lm_1, ↓llm_1, ev_add, ev_sub, ev_mul, ev_div, ev_cl, ev_ltT, ev_ltF, ev_leT, ev_leF, ev_eqT, ev_eqF, ev_m1, ev_m1', ev_m1s, ev_dec, ev_nn, el_add, el_sub, el_mul, el_div, el_ltT, el_ltF, el_leT, el_leF, el_eqT, el_eqF, ev_l, el_i, el_m1, el_m1', rdI, rdJ, rdR, updF, updT, updLF, updLT, sI_l, sJ_l, sR_l, f_X12_wordOf_7b, f_X12_wordOf_54, e93, e94, zs_8, or_8, g]); first | done | rfl)
    rw [e2]
    exact ih _ rfl
