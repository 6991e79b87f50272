/-! contents and the pointers over them -/
def nx (D : Nat → Nat → Nat) (k : Nat) : Nat := if k + 1 < (D 0 4) ∧ D 20 (k + 1) = D 20 k ∧ D 21 (k + 1) / (D 0 5) = D 21 k / (D 0 5) then (D 21 (k + 1) - D 21 k) / 4 else 0
def pv (D : Nat → Nat → Nat) (k : Nat) : Int64 := lN (enc (D 22 k) (D 23 k) (D 24 k)) ||| zlshl (lN (nx D k)) (nI 51)
def pw (D : Nat → Nat → Nat) (k : Nat) : Nat := (pv D k).toBitVec.toNat
theorem pw_lt (D : Nat → Nat → Nat) (k : Nat) : pw D k < 2 ^ 64 := (pv D k).toBitVec.isLt
theorem pw_l (D : Nat → Nat → Nat) (k : Nat) : lN (pw D k) = pv D k := by
  apply Int64.toBitVec_inj.mp
  apply BitVec.eq_of_toNat_eq
  rw [lN_tn (pw_lt D k)]
  rfl
def ovy (D : Nat → Nat → Nat) (s x : Nat) : Nat → Nat
  | 0 => D 3 (1024 * s + x)
  | k + 1 => if D 20 k = s ∧ D 21 k ≤ x ∧ x < D 21 k + 8 then byt (pw D k) (x - D 21 k) else ovy D s x k
theorem ovy_n {D : Nat → Nat → Nat} {s x k : Nat} : ∀ d, (∀ j, k ≤ j → j < k + d → D 20 j ≠ s) → ovy D s x (k + d) = ovy D s x k := by
  intro d
  induction d with
  | zero => intro _; rfl
  | succ d ih =>
    intro h
    show (if D 20 (k + d) = s ∧ D 21 (k + d) ≤ x ∧ x < D 21 (k + d) + 8 then byt (pw D (k + d)) (x - D 21 (k + d)) else ovy D s x (k + d)) = _
    rw [if_neg (fun q => h (k + d) (by omega) (by omega) q.1), ih (fun j h1 h2 => h j h1 (by omega))]
theorem ovy_lt {D : Nat → Nat → Nat} {s x : Nat} (h : D 3 (1024 * s + x) < 256) : ∀ k, ovy D s x k < 256 := by
  intro k
  induction k with
  | zero => exact h
  | succ k ih =>
    show (if D 20 k = s ∧ D 21 k ≤ x ∧ x < D 21 k + 8 then byt (pw D k) (x - D 21 k) else ovy D s x k) < 256
    split
    · exact byt_lt _ _
    · exact ih
theorem rng_cg {c : Nat} {f g : Nat → Nat} (h : ∀ x, x < c → f x = g x) : rng c f = rng c g := by
  unfold rng
  exact List.map_congr_left (fun x hx => h x (List.mem_range.mp hx))
theorem nx_spec {D : Nat → Nat → Nat} {σ : St} (hO : DOK D) (hC : DC D σ) {k : Nat} (hk : k < (D 0 4)) : ∃ e, f_X11_filledUp (nI (D 21 k) + 1) (σ.1 5 1) σ = some (nI e, σ) ∧ ((nx D k = 0 ∧ f_X8_firstPointer (nI (D 20 k)) (nI (D 21 k + 4)) (nI e) σ = some (-1, σ)) ∨ (∃ q, q < 1024 ∧ D 21 k ≤ q ∧ nx D k = (q - D 21 k) / 4 ∧ f_X8_firstPointer (nI (D 20 k)) (nI (D 21 k + 4)) (nI e) σ = some (nI q, σ))) := by
  have hO' := hO
  obtain ⟨o1, _, _, _, _, o6, _, _, o9, _, _, _, _, o14, o15⟩ := hO'
  obtain ⟨x1, x2, x3, x4, _⟩ := o14 k hk
  have lB := (o9 _ x1).2.1
  have hp : 256 ≤ (D 0 5) ∧ (D 0 5) ≤ 4096 := by unfold isPg at o6; omega
  have lu := up_le (z := D 21 k + 1) (a := (D 0 5)) (by omega)
  have e1 := c_filled (z := D 21 k + 1) (a := (D 0 5)) (σ := σ) (by omega) (Or.inr (Or.inr o6))
  refine ⟨up (D 21 k + 1) (D 0 5), by rw [hC.1.2.2.2.2.1, show nI (D 21 k) + 1 = nI (D 21 k + 1) from nI_add _ 1, e1], ?_⟩
  have lu4 : 4 ≤ up (D 21 k + 1) (D 0 5) := by
    unfold up
    unfold isPg at o6
    rcases o6 with g | g | g | g | g <;> rw [g] <;> omega
  rcases c_first hO hC (s := D 20 k) (a := D 21 k + 4) (e := up (D 21 k + 1) (D 0 5)) x1 (by omega) (by omega) (by omega) (by omega) with ⟨m, m1, m2, m3, m4, m5, m6⟩ | ⟨q1, q2⟩
  · right
    obtain ⟨y1, y2, y3, y4, _⟩ := o14 m m1
    have lB2 := (o9 _ y1).2.1
    have h1 : k < m := by
      rcases Nat.lt_trichotomy k m with g | g | g
      · exact g
      · subst g; omega
      · have := o15 m k g hk
        omega
    have h2 : m = k + 1 := by
      rcases Nat.lt_or_ge (k + 1) m with g | g
      · have a1 := o15 k (k + 1) (by omega) (by omega)
        have a2 := o15 (k + 1) m g m1
        have a3 := m5 (k + 1) (by omega)
        omega
      · omega
    subst h2
    refine ⟨D 21 (k + 1), by omega, by omega, ?_, m6⟩
    unfold nx
    refine if_pos ⟨m1, m2, ?_⟩
    unfold up at m4
    unfold isPg at o6
    rcases o6 with g | g | g | g | g <;> rw [g] at m4 ⊢ <;> omega
  · left
    refine ⟨?_, q2⟩
    unfold nx
    refine if_neg (fun ⟨a1, a2, a3⟩ => ?_)
    obtain ⟨y1, y2, y3, y4, _⟩ := o14 (k + 1) a1
    have a4 := o15 k (k + 1) (by omega) a1
    have a5 := q1 (k + 1) a1 a2 (by omega)
    unfold up at a5
    unfold isPg at o6
    rcases o6 with g | g | g | g | g <;> rw [g] at a5 a3 y4 <;> omega
theorem c_thr {D : Nat → Nat → Nat} {σ : St} (hO : DOK D) (hC : DC D σ) {k : Nat} (hk : k < (D 0 4)) : f_X10_threaded (nI (D 20 k)) (nI (D 21 k)) σ = some (pv D k, σ) := by
  obtain ⟨e, e1, hn⟩ := nx_spec hO hC hk
  obtain ⟨o1, _, _, _, _, o6, _, _, o9, _, _, _, _, o14, o15⟩ := hO
  obtain ⟨x1, x2, x3, x4, _⟩ := o14 k hk
  have lB := (o9 _ x1).2.1
  obtain ⟨⟨c1, _⟩, _, _, _, _, _, _, c8, _⟩ := hC
  obtain ⟨g1, g2⟩ := c8 k hk
  have eh := c_hasS (v := 1) o1 c1 x1 (show D 21 k < 1024 by omega) x3 g1 (by decide)
  have es : (D 20 k * 1024 + D 21 k) / 4 = 256 * D 20 k + D 21 k / 4 := by omega
  have eb : f_X8_bitsAt (nI (D 20 k)) (nI (D 21 k)) σ = some (lN (enc (D 22 k) (D 23 k) (D 24 k)), σ) := by
    ((try simp (disch := first | decide | assumption | (simp (disch := first | decide | omega) only [ImC_sI, ImC_sJ, ImM_sI, ImM_sJ]; assumption) | omega) only [↓reduceIte, Nat.reduceAdd, Nat.reduceMul, Nat.reduceSub, Nat.reduceEqDiff, Nat.reducePow, Nat.reduceDiv, ↓zn_d, ↓bi_d, ↓bv_d, gd_T, ev_ib, true_or, or_true, eq_self, ite_true, ite_false, if_true, if_false, not_true_eq_false, not_false_eq_true, li_0, li_1, li_2, li_3, li_4, li_5, li_6, li_7, li_8, li_9, li_10, li_11, li_12, li_13, li_14, li_15, li_16, li_17, li_18, li_19, li_20, li_22, li_24, li_28, li_30, li_31, li_32, li_33, li_36, li_40, li_48, li_51, li_52, li_56, li_64, li_72, li_80, li_100, li_126, li_127, li_255, li_256, li_1024, li_1040, li_2048, li_4095, li_4096, li_65535, li_1073741824, ll_0, ll_1, ll_2, ll_3, ll_4, ll_5, ll_6, ll_7, ll_8, ll_9, ll_12, ll_15, ll_16, ll_20, ll_22, ll_24, ll_25, ll_28, ll_32, ll_40, ll_48, ll_64, ll_72, ll_80, ll_133, ll_255, ll_256, ll_512, ll_1024, ll_2048, ll_4096, ll_16384, ll_65535, ll_16777215, ll_16777228, ll_2147483647, ll_2147483648, ll_2147483700, ll_4277009103, ll_4294967295, ll_68719476735, ll_68719476736, ll_2234207627640832, ll_2251795518717952, ll_72057594037927935, ↓lm_1, ↓llm_1, ev_add, ev_sub, ev_mul, ev_div, ev_cl, ev_ltT, ev_ltF, ev_leT, ev_leF, ev_eqT, ev_eqF, ev_m1, ev_m1', ev_m1s, ev_dec, ev_nn, el_add, el_sub, el_mul, el_div, el_ltT, el_ltF, el_leT, el_leF, el_eqT, el_eqF, ev_l, el_i, el_m1, el_m1', rdI, rdJ, rdR, updF, updT, updLF, updLT, sI_l, sJ_l, sR_l, f_X8_bitsAt, f_X8_slot, eh, es, g2]); first | done | rfl)
  have e1' : f_X11_filledUp (nI (D 21 k + 1)) (σ.1 5 1) σ = some (nI e, σ) := by rw [← e1, show nI (D 21 k) + 1 = nI (D 21 k + 1) from nI_add _ 1]
  unfold pv
  rcases hn with ⟨n1, n2⟩ | ⟨q, n1, n2, n3, n4⟩
  · rw [n1]
    ((try simp (disch := first | decide | assumption | (simp (disch := first | decide | omega) only [ImC_sI, ImC_sJ, ImM_sI, ImM_sJ]; assumption) | omega) only [↓reduceIte, Nat.reduceAdd, Nat.reduceMul, Nat.reduceSub, Nat.reduceEqDiff, Nat.reducePow, Nat.reduceDiv, ↓zn_d, ↓bi_d, ↓bv_d, gd_T, ev_ib, true_or, or_true, eq_self, ite_true, ite_false, if_true, if_false, not_true_eq_false, not_false_eq_true, li_0, li_1, li_2, li_3, li_4, li_5, li_6, li_7, li_8, li_9, li_10, li_11, li_12, li_13, li_14, li_15, li_16, li_17, li_18, li_19, li_20, li_22, li_24, li_28, li_30, li_31, li_32, li_33, li_36, li_40, li_48, li_51, li_52, li_56, li_64, li_72, li_80, li_100, li_126, li_127, li_255, li_256, li_1024, li_1040, li_2048, li_4095, li_4096, li_65535, li_1073741824, ll_0, ll_1, ll_2, ll_3, ll_4, ll_5, ll_6, ll_7, ll_8, ll_9, ll_12, ll_15, ll_16, ll_20, ll_22, ll_24, ll_25, ll_28, ll_32, ll_40, ll_48, ll_64, ll_72, ll_80, ll_133, ll_255, ll_256, ll_512, ll_1024, ll_2048, ll_4096, ll_16384, ll_65535, ll_16777215, ll_16777228, ll_2147483647, ll_2147483648, ll_2147483700, ll_4277009103, ll_4294967295, ll_68719476735, ll_68719476736, ll_2234207627640832, ll_2251795518717952, ll_72057594037927935, ↓lm_1, ↓llm_1, ev_add, ev_sub, ev_mul, ev_div, ev_cl, ev_ltT, ev_ltF, ev_leT, ev_leF, ev_eqT, ev_eqF, ev_m1, ev_m1', ev_m1s, ev_dec, ev_nn, el_add, el_sub, el_mul, el_div, el_ltT, el_ltF, el_leT, el_leF, el_eqT, el_eqF, ev_l, el_i, el_m1, el_m1', rdI, rdJ, rdR, updF, updT, updLF, updLT, sI_l, sJ_l, sR_l, f_X10_threaded, f_X10_threaded_45, e1', n2, eb]); first | done | rfl)
  · rw [n3]
    ((try simp (disch := first | decide | assumption | (simp (disch := first | decide | omega) only [ImC_sI, ImC_sJ, ImM_sI, ImM_sJ]; assumption) | omega) only [↓reduceIte, Nat.reduceAdd, Nat.reduceMul, Nat.reduceSub, Nat.reduceEqDiff, Nat.reducePow, Nat.reduceDiv, ↓zn_d, ↓bi_d, ↓bv_d, gd_T, ev_ib, true_or, or_true, eq_self, ite_true, ite_false, if_true, if_false, not_true_eq_false, not_false_eq_true, li_0, li_1, li_2, li_3, li_4, li_5, li_6, li_7, li_8, li_9, li_10, li_11, li_12, li_13, li_14, li_15, li_16, li_17, li_18, li_19, li_20, li_22, li_24, li_28, li_30, li_31, li_32, li_33, li_36, li_40, li_48, li_51, li_52, li_56, li_64, li_72, li_80, li_100, li_126, li_127, li_255, li_256, li_1024, li_1040, li_2048, li_4095, li_4096, li_65535, li_1073741824, ll_0, ll_1, ll_2, ll_3, ll_4, ll_5, ll_6, ll_7, ll_8, ll_9, ll_12, ll_15, ll_16, ll_20, ll_22, ll_24, ll_25, ll_28, ll_32, ll_40, ll_48, ll_64, ll_72, ll_80, ll_133, ll_255, ll_256, ll_512, ll_1024, ll_2048, ll_4096, ll_16384, ll_65535, ll_16777215, ll_16777228, ll_2147483647, ll_2147483648, ll_2147483700, ll_4277009103, ll_4294967295, ll_68719476735, ll_68719476736, ll_2234207627640832, ll_2251795518717952, ll_72057594037927935, ↓lm_1, ↓llm_1, ev_add, ev_sub, ev_mul, ev_div, ev_cl, ev_ltT, ev_ltF, ev_leT, ev_leF, ev_eqT, ev_eqF, ev_m1, ev_m1', ev_m1s, ev_dec, ev_nn, el_add, el_sub, el_mul, el_div, el_ltT, el_ltF, el_leT, el_leF, el_eqT, el_eqF, ev_l, el_i, el_m1, el_m1', rdI, rdJ, rdR, updF, updT, updLF, updLT, sI_l, sJ_l, sR_l, f_X10_threaded, f_X10_threaded_45, e1', n4, eb]); first | done | rfl)
theorem Wc_put {z c p v : Nat} {f : Nat → Nat} {σ σ' : St} (h : Wc z (rng c f) σ σ') (hz : z + c ≤ 6400) (hp : p + 8 ≤ c) (hv : v < 2 ^ 64) : ∃ σ2, f_X6_put 3 6400 (nI (z + p)) (nI 8) (lN v) σ' = some σ2 ∧ Wc z (rng c (fun x => if p ≤ x ∧ x < p + 8 then byt v (x - p) else f x)) σ σ2 := by
  obtain ⟨a1, a2, a3, a4, a5⟩ := h
  rw [rng_len] at a1
  refine ⟨_, p_X6_put (by decide) hz a1 (by omega) _, ?_⟩
  refine ⟨?_, fun i hi => ?_, fun j hj => ?_, fun q j => ?_, ?_⟩
  · rw [putR_n _ _ _ _ _ (by decide), rng_len]; exact a1
  · rw [rng_len] at hi
    unfold putR
    rw [sR_g, if_pos rfl, rng_at hi]
    by_cases g : p ≤ i ∧ i < p + 8
    · rw [if_pos (by omega), if_pos g, ub_bo hv (by omega), show z + i - (z + p) = i - p by omega]
    · rw [if_neg (by omega), if_neg g, a2 i (by rw [rng_len]; exact hi), rng_at hi]
  · unfold putR
    rw [sR_g, if_pos rfl, if_neg (by omega)]; exact a3 j hj
  · unfold putR
    rw [sR_g, if_pos rfl]
    split
    · exact fit_nar _
    · exact a4 q j
  · unfold putR
    exact OM.sR a5 (fun j => Or.inr rfl)
def ctp (D : Nat → Nat → Nat) (k s : Nat) : List Nat := zer (ofs D s - en D s) ++ rng (D 1 s) (fun x => ovy D s x k)
theorem ctp_len (D : Nat → Nat → Nat) (k s : Nat) : en D s + (ctp D k s).length = en D (s + 1) := by
  unfold ctp
  rw [List.length_append, zer_len, rng_len]
  have h1 : en D (s + 1) = ofs D s + D 1 s := rfl
  have := ofs_ge (D := D) (s := s)
  omega
theorem ctl_len (D : Nat → Nat → Nat) (k : Nat) : ∀ n, 32 + dC D + (cat (ctp D k) n).length = en D n := by
  intro n
  induction n with
  | zero => rfl
  | succ n ih =>
    show 32 + dC D + (cat (ctp D k) n ++ ctp D k n).length = _
    rw [List.length_append, ← ctp_len D k n]
    omega
set_option maxHeartbeats 1000000 in
theorem c_cont {D : Nat → Nat → Nat} {σ : St} (hO : DOK D) (hC : DC D σ) (hL : LaC D σ) {s : Nat} (hs : s < (D 0 0)) (h3 : σ.1 3 1 = nI (en D s)) : ∃ σ', f_X10_addContents (nI s) σ = some σ' ∧ Wc (en D s) (ctp D (D 0 4) s) σ σ' := by
  have hO' := hO
  obtain ⟨o1, _, _, _, o5, o6, _, _, o9, o10, _, _, _, o14, o15⟩ := hO'
  have lB := (o9 s hs).2.1
  have lo := ofs_le hO (show s ≤ (D 0 0) by omega)
  have lg := ofs_ge (D := D) (s := s)
  obtain ⟨σ1, e1, w1⟩ := w_fill (a := 8) h3 (by omega) (show up (en D s) 8 ≤ 6400 by have : up (en D s) 8 = ofs D s := rfl; omega)
  have w1 : Wc (en D s) (zer (ofs D s - en D s)) σ σ1 := w1
  have x1 := w1.1
  rw [zer_len, show en D s + (ofs D s - en D s) = ofs D s by omega] at x1
  have hC1 := DC_c w1.2.2.2.2 hC
  have hL1 := LaC_c w1.2.2.2.2 hL
  obtain ⟨σ2, e2, w2⟩ := w_from (k1 := 11) (n1 := 4096) (fr := s * 1024) (c := D 1 s) (f := fun x => ovy D s x 0) x1 (by omega) (by omega) (by decide) (fun i hi => by
    have : s * 1024 + i = 1024 * s + i := by omega
    rw [this]
    exact ⟨hC1.2.2.2.1 _ (by omega), o10 _ (by omega)⟩)
  have d9 := (hC1.2.2.1 s hs).1
  have e0 : f_X10_addContents (nI s) σ = f_X10_addContents_39 (nI s) (nI 0) σ2 := by
    ((try simp (disch := first | decide | assumption | (simp (disch := first | decide | omega) only [ImC_sI, ImC_sJ, ImM_sI, ImM_sJ]; assumption) | omega) only [↓reduceIte, Nat.reduceAdd, Nat.reduceMul, Nat.reduceSub, Nat.reduceEqDiff, Nat.reducePow, Nat.reduceDiv, ↓zn_d, ↓bi_d, ↓bv_d, gd_T, ev_ib, true_or, or_true, eq_self, ite_true, ite_false, if_true, if_false, not_true_eq_false, not_false_eq_true, li_0, li_1, li_2, li_3, li_4, li_5, li_6, li_7, li_8, li_9, li_10, li_11, li_12, li_13, li_14, li_15, li_16, li_17, li_18, li_19, li_20, li_22, li_24, li_28, li_30, li_31, li_32, li_33, li_36, li_40, li_48, li_51, li_52, li_56, li_64, li_72, li_80, li_100, li_126, li_127, li_255, li_256, li_1024, li_1040, li_2048, li_4095, li_4096, li_65535, li_1073741824, ll_0, ll_1, ll_2, ll_3, ll_4, ll_5, ll_6, ll_7, ll_8, ll_9, ll_12, ll_15, ll_16, ll_20, ll_22, ll_24, ll_25, ll_28, ll_32, ll_40, ll_48, ll_64, ll_72, ll_80, ll_133, ll_255, ll_256, ll_512, ll_1024, ll_2048, ll_4096, ll_16384, ll_65535, ll_16777215, ll_16777228, ll_2147483647, ll_2147483648, ll_2147483700, ll_4277009103, ll_4294967295, ll_68719476735, ll_68719476736, ll_2234207627640832, ll_2251795518717952, ll_72057594037927935, ↓lm_1, ↓llm_1, ev_add, ev_sub, ev_mul, ev_div, ev_cl, ev_ltT, ev_ltF, ev_leT, ev_leF, ev_eqT, ev_eqF, ev_m1, ev_m1', ev_m1s, ev_dec, ev_nn, el_add, el_sub, el_mul, el_div, el_ltT, el_ltF, el_leT, el_leF, el_eqT, el_eqF, ev_l, el_i, el_m1, el_m1', rdI, rdJ, rdR, updF, updT, updLF, updLT, sI_l, sJ_l, sR_l, f_X10_addContents, e1, d9, e2]); first | done | rfl)
  obtain ⟨k0, k1, k2, k3⟩ : ∃ k, k ≤ (D 0 4) ∧ (∀ j, j < k → D 20 j < s) ∧ ∀ j, k ≤ j → j < (D 0 4) → s ≤ D 20 j := by
    rcases least (P := fun j => s ≤ D 20 j) (D 0 4) with ⟨m, m1, m2, m3⟩ | q
    · refine ⟨m, by omega, fun j hj => by have := m3 j hj; omega, fun j h1 h2 => ?_⟩
      rcases Nat.lt_or_ge m j with g | g
      · have := o15 m j g h2
        omega
      · rw [show j = m by omega]; exact m2
    · exact ⟨(D 0 4), Nat.le_refl _, fun j hj => by have := q j hj; omega, fun j h1 h2 => by omega⟩
  have w3 : Wc (ofs D s) (rng (D 1 s) (fun x => ovy D s x k0)) σ1 σ2 := by
    rw [rng_cg (f := fun x => ovy D s x k0) (g := fun x => ovy D s x 0) (fun x _ => by
      have := ovy_n (D := D) (s := s) (x := x) (k := 0) k0 (fun j _ h2 => by have := k2 j (by omega); omega)
      rwa [Nat.zero_add] at this)]
    exact w2
  have fin : ∃ σ', f_X10_addContents_39 (nI s) (nI 0) σ2 = some σ' ∧ Wc (ofs D s) (rng (D 1 s) (fun x => ovy D s x (D 0 4))) σ1 σ' := by
    unfold f_X10_addContents_39
    have key := it_for (F := fun K (q : Int32 × Int32 × St) => f_X10_addContents_39b K q.1 q.2.1 q.2.2) (fun i q => ∃ σ' k, q = (nI s, nI (4 * i), σ') ∧ k ≤ (D 0 4) ∧ (∀ j, k ≤ j → j < (D 0 4) → s < D 20 j ∨ (D 20 j = s ∧ 4 * i ≤ D 21 j)) ∧ (∀ j, j < k → D 20 j < s ∨ (D 20 j = s ∧ D 21 j < 4 * i)) ∧ Wc (ofs D s) (rng (D 1 s) (fun x => ovy D s x k)) σ1 σ') ((D 1 s + 3) / 4) (fun o => ∃ σ', o = some σ' ∧ Wc (ofs D s) (rng (D 1 s) (fun x => ovy D s x (D 0 4))) σ1 σ') ?_ ?_ FU 0 (nI s, nI 0, σ2) (by omega) (FU_lt (by omega)) ⟨σ2, k0, rfl, k1, fun j h1 h2 => by have := k3 j h1 h2; omega, fun j hj => Or.inl (k2 j hj), w3⟩
    · exact key
    · rintro K q ⟨σ', k, rfl, g1, g2, g3, g4⟩
      have hC2 := DC_c g4.2.2.2.2 hC1
      have d9 := (hC2.2.2.1 s hs).1
      refine ⟨σ', ?_, ?_⟩
      · show f_X10_addContents_39b K (nI s) (nI (4 * ((D 1 s + 3) / 4))) σ' = _
        ((try simp (disch := first | decide | assumption | (simp (disch := first | decide | omega) only [ImC_sI, ImC_sJ, ImM_sI, ImM_sJ]; assumption) | omega) only [↓reduceIte, Nat.reduceAdd, Nat.reduceMul, Nat.reduceSub, Nat.reduceEqDiff, Nat.reducePow, Nat.reduceDiv, ↓zn_d, ↓bi_d, ↓bv_d, gd_T, ev_ib, true_or, or_true, eq_self, ite_true, ite_false, if_true, if_false, not_true_eq_false, not_false_eq_true, li_0, li_1, li_2, li_3, li_4, li_5, li_6, li_7, li_8, li_9, li_10, li_11, li_12, li_13, li_14, li_15, li_16, li_17, li_18, li_19, li_20, li_22, li_24, li_28, li_30, li_31, li_32, li_33, li_36, li_40, li_48, li_51, li_52, li_56, li_64, li_72, li_80, li_100, li_126, li_127, li_255, li_256, li_1024, li_1040, li_2048, li_4095, li_4096, li_65535, li_1073741824, ll_0, ll_1, ll_2, ll_3, ll_4, ll_5, ll_6, ll_7, ll_8, ll_9, ll_12, ll_15, ll_16, ll_20, ll_22, ll_24, ll_25, ll_28, ll_32, ll_40, ll_48, ll_64, ll_72, ll_80, ll_133, ll_255, ll_256, ll_512, ll_1024, ll_2048, ll_4096, ll_16384, ll_65535, ll_16777215, ll_16777228, ll_2147483647, ll_2147483648, ll_2147483700, ll_4277009103, ll_4294967295, ll_68719476735, ll_68719476736, ll_2234207627640832, ll_2251795518717952, ll_72057594037927935, ↓lm_1, ↓llm_1, ev_add, ev_sub, ev_mul, ev_div, ev_cl, ev_ltT, ev_ltF, ev_leT, ev_leF, ev_eqT, ev_eqF, ev_m1, ev_m1', ev_m1s, ev_dec, ev_nn, el_add, el_sub, el_mul, el_div, el_ltT, el_ltF, el_leT, el_leF, el_eqT, el_eqF, ev_l, el_i, el_m1, el_m1', rdI, rdJ, rdR, updF, updT, updLF, updLT, sI_l, sJ_l, sR_l, f_X10_addContents_39b, d9]); first | done | rfl)
      · rw [rng_cg (f := fun x => ovy D s x (D 0 4)) (g := fun x => ovy D s x k) (fun x _ => by
          have := ovy_n (D := D) (s := s) (x := x) (k := k) ((D 0 4) - k) (fun j h1 h2 => by
            have a1 := g2 j h1 (by omega)
            obtain ⟨b1, b2, _⟩ := o14 j (by omega)
            intro e
            rw [e] at b2
            omega)
          rwa [show k + ((D 0 4) - k) = (D 0 4) by omega] at this)]
        exact g4
    · rintro K i q hi ⟨σ', k, rfl, g1, g2, g3, g4⟩ ih
      have hC2 := DC_c g4.2.2.2.2 hC1
      have hL2 := LaC_c g4.2.2.2.2 hL1
      have d9 := (hC2.2.2.1 s hs).1
      have d31 := hL2.2.1 s hs
      have i4 : 4 * i < D 1 s := by omega
      show ∃ σ'', f_X10_addContents_39b K (nI s) (nI (4 * i)) σ' = some σ'' ∧ _
      rcases D_find hO hC2 hs (show 4 * i < 1024 by omega) (by omega) with ⟨q1, m, m1, m2, m3⟩ | ⟨q1, q2⟩
      · have hmk : m = k := by
          rcases Nat.lt_trichotomy m k with g | g | g
          · have := g3 m g
            omega
          · exact g
          · have a1 := o15 k m g m1
            have a2 := g2 k (Nat.le_refl _) (by omega)
            omega
        subst hmk
        have eh := c_hasS (v := 1) o1 hC2.1.1 hs (show 4 * i < 1024 by omega) (by omega) q1 (by decide)
        have et := c_thr hO hC2 m1
        rw [m2, m3, ← pw_l] at et
        have lF := (o14 m m1).2.1
        rw [m2, m3] at lF
        obtain ⟨σ3, e3, w4⟩ := Wc_put (p := 4 * i) g4 (by omega) lF (pw_lt D m)
        have e : f_X10_addContents_39b K (nI s) (nI (4 * i)) σ' = K (nI s, nI (4 * i + 4), σ3) := by
          ((try simp (disch := first | decide | assumption | (simp (disch := first | decide | omega) only [ImC_sI, ImC_sJ, ImM_sI, ImM_sJ]; assumption) | omega) only [↓reduceIte, Nat.reduceAdd, Nat.reduceMul, Nat.reduceSub, Nat.reduceEqDiff, Nat.reducePow, Nat.reduceDiv, ↓zn_d, ↓bi_d, ↓bv_d, gd_T, ev_ib, true_or, or_true, eq_self, ite_true, ite_false, if_true, if_false, not_true_eq_false, not_false_eq_true, li_0, li_1, li_2, li_3, li_4, li_5, li_6, li_7, li_8, li_9, li_10, li_11, li_12, li_13, li_14, li_15, li_16, li_17, li_18, li_19, li_20, li_22, li_24, li_28, li_30, li_31, li_32, li_33, li_36, li_40, li_48, li_51, li_52, li_56, li_64, li_72, li_80, li_100, li_126, li_127, li_255, li_256, li_1024, li_1040, li_2048, li_4095, li_4096, li_65535, li_1073741824, ll_0, ll_1, ll_2, ll_3, ll_4, ll_5, ll_6, ll_7, ll_8, ll_9, ll_12, ll_15, ll_16, ll_20, ll_22, ll_24, ll_25, ll_28, ll_32, ll_40, ll_48, ll_64, ll_72, ll_80, ll_133, ll_255, ll_256, ll_512, ll_1024, ll_2048, ll_4096, ll_16384, ll_65535, ll_16777215, ll_16777228, ll_2147483647, ll_2147483648, ll_2147483700, ll_4277009103, ll_4294967295, ll_68719476735, ll_68719476736, ll_2234207627640832, ll_2251795518717952, ll_72057594037927935, ↓lm_1, ↓llm_1, ev_add, ev_sub, ev_mul, ev_div, ev_cl, ev_ltT, ev_ltF, ev_leT, ev_leF, ev_eqT, ev_eqF, ev_m1, ev_m1', ev_m1s, ev_dec, ev_nn, el_add, el_sub, el_mul, el_div, el_ltT, el_ltF, el_leT, el_leF, el_eqT, el_eqF, ev_l, el_i, el_m1, el_m1', rdI, rdJ, rdR, updF, updT, updLF, updLT, sI_l, sJ_l, sR_l, f_X10_addContents_39b, f_X10_addContents_87, d9, eh, et, d31, e3]); first | done | rfl)
        rw [e]
        refine ih _ ⟨σ3, m + 1, by rw [show 4 * (i + 1) = 4 * i + 4 by omega], m1, fun j h1 h2 => ?_, fun j h1 => ?_, ?_⟩
        · have := o15 m j (by omega) h2
          omega
        · rcases Nat.lt_or_ge j m with g | g
          · have := g3 j g
            omega
          · have : j = m := by omega
            subst this
            omega
        · rw [rng_cg (f := fun x => ovy D s x (m + 1)) (g := fun x => if 4 * i ≤ x ∧ x < 4 * i + 8 then byt (pw D m) (x - 4 * i) else ovy D s x m) (fun x _ => by
            show (if D 20 m = s ∧ D 21 m ≤ x ∧ x < D 21 m + 8 then byt (pw D m) (x - D 21 m) else ovy D s x m) = if 4 * i ≤ x ∧ x < 4 * i + 8 then byt (pw D m) (x - 4 * i) else ovy D s x m
            rw [m2, m3]
            by_cases c : 4 * i ≤ x ∧ x < 4 * i + 8
            · rw [if_pos c, if_pos ⟨rfl, c⟩]
            · rw [if_neg c, if_neg (fun q => c q.2)])]
          exact w4
      · have eh := c_hasS (v := 0) o1 hC2.1.1 hs (show 4 * i < 1024 by omega) (by omega) q1 (by decide)
        have e : f_X10_addContents_39b K (nI s) (nI (4 * i)) σ' = K (nI s, nI (4 * i + 4), σ') := by
          ((try simp (disch := first | decide | assumption | (simp (disch := first | decide | omega) only [ImC_sI, ImC_sJ, ImM_sI, ImM_sJ]; assumption) | omega) only [↓reduceIte, Nat.reduceAdd, Nat.reduceMul, Nat.reduceSub, Nat.reduceEqDiff, Nat.reducePow, Nat.reduceDiv, ↓zn_d, ↓bi_d, ↓bv_d, gd_T, ev_ib, true_or, or_true, eq_self, ite_true, ite_false, if_true, if_false, not_true_eq_false, not_false_eq_true, li_0, li_1, li_2, li_3, li_4, li_5, li_6, li_7, li_8, li_9, li_10, li_11, li_12, li_13, li_14, li_15, li_16, li_17, li_18, li_19, li_20, li_22, li_24, li_28, li_30, li_31, li_32, li_33, li_36, li_40, li_48, li_51, li_52, li_56, li_64, li_72, li_80, li_100, li_126, li_127, li_255, li_256, li_1024, li_1040, li_2048, li_4095, li_4096, li_65535, li_1073741824, ll_0, ll_1, ll_2, ll_3, ll_4, ll_5, ll_6, ll_7, ll_8, ll_9, ll_12, ll_15, ll_16, ll_20, ll_22, ll_24, ll_25, ll_28, ll_32, ll_40, ll_48, ll_64, ll_72, ll_80, ll_133, ll_255, ll_256, ll_512, ll_1024, ll_2048, ll_4096, ll_16384, ll_65535, ll_16777215, ll_16777228, ll_2147483647, ll_2147483648, ll_2147483700, ll_4277009103, ll_4294967295, ll_68719476735, ll_68719476736, ll_2234207627640832, ll_2251795518717952, ll_72057594037927935, ↓lm_1, ↓llm_1, ev_add, ev_sub, ev_mul, ev_div, ev_cl, ev_ltT, ev_ltF, ev_leT, ev_leF, ev_eqT, ev_eqF, ev_m1, ev_m1', ev_m1s, ev_dec, ev_nn, el_add, el_sub, el_mul, el_div, el_ltT, el_ltF, el_leT, el_leF, el_eqT, el_eqF, ev_l, el_i, el_m1, el_m1', rdI, rdJ, rdR, updF, updT, updLF, updLT, sI_l, sJ_l, sR_l, f_X10_addContents_39b, f_X10_addContents_87, d9, eh]); first | done | rfl)
        rw [e]
        refine ih _ ⟨σ', k, by rw [show 4 * (i + 1) = 4 * i + 4 by omega], g1, fun j h1 h2 => ?_, fun j h1 => ?_, g4⟩
        · rcases g2 j h1 h2 with a | ⟨a1, a2⟩
          · exact Or.inl a
          · have b := q2 j h2 a1
            have := (o14 j h2).2.2.1
            omega
        · have := g3 j h1
          omega
  obtain ⟨σ', f1, f2⟩ := fin
  refine ⟨σ', by rw [e0, f1], ?_⟩
  unfold ctp
  refine Wc_tr w1 ?_
  rw [zer_len, show en D s + (ofs D s - en D s) = ofs D s by omega]
  exact f2
theorem c_conts {D : Nat → Nat → Nat} {σ : St} (hO : DOK D) (hC : DC D σ) (hL : LaC D σ) (h3 : σ.1 3 1 = nI (32 + dC D)) : ∃ K σ', f_X10_writeAll_102 (nI 0) σ = f_X10_writeAll_102b K (nI (D 0 0)) σ' ∧ Wc (32 + dC D) (cat (ctp D (D 0 4)) (D 0 0)) σ σ' := by
  have o1 := hO.1
  unfold f_X10_writeAll_102
  have key := it_for (F := fun K (q : Int32 × St) => f_X10_writeAll_102b K q.1 q.2) (fun i q => ∃ σ', q = (nI i, σ') ∧ Wc (32 + dC D) (cat (ctp D (D 0 4)) i) σ σ') (D 0 0) (fun o => ∃ K σ', o = f_X10_writeAll_102b K (nI (D 0 0)) σ' ∧ Wc (32 + dC D) (cat (ctp D (D 0 4)) (D 0 0)) σ σ') ?_ ?_ FU 0 (nI 0, σ) (by omega) (FU_lt (by omega)) ⟨_, rfl, Wc_nil h3⟩
  · exact key
  · rintro K q ⟨σ', rfl, hw⟩
    exact ⟨K, σ', rfl, hw⟩
  · rintro K i q hi ⟨σ', rfl, hw⟩ ih
    have hC1 := DC_c hw.2.2.2.2 hC
    have hL1 := LaC_c hw.2.2.2.2 hL
    have x3 := hw.1
    rw [ctl_len] at x3
    have d1 := hC1.1.1
    obtain ⟨σ2, e2, w⟩ := c_cont hO hC1 hL1 hi x3
    have e : f_X10_writeAll_102b K (nI i) σ' = K (nI (i + 1), σ2) := by
      ((try simp (disch := first | decide | assumption | (simp (disch := first | decide | omega) only [ImC_sI, ImC_sJ, ImM_sI, ImM_sJ]; assumption) | omega) only [↓reduceIte, Nat.reduceAdd, Nat.reduceMul, Nat.reduceSub, Nat.reduceEqDiff, Nat.reducePow, Nat.reduceDiv, ↓zn_d, ↓bi_d, ↓bv_d, gd_T, ev_ib, true_or, or_true, eq_self, ite_true, ite_false, if_true, if_false, not_true_eq_false, not_false_eq_true, li_0, li_1, li_2, li_3, li_4, li_5, li_6, li_7, li_8, li_9, li_10, li_11, li_12, li_13, li_14, li_15, li_16, li_17, li_18, li_19, li_20, li_22, li_24, li_28, li_30, li_31, li_32, li_33, li_36, li_40, li_48, li_51, li_52, li_56, li_64, li_72, li_80, li_100, li_126, li_127, li_255, li_256, li_1024, li_1040, li_2048, li_4095, li_4096, li_65535, li_1073741824, ll_0, ll_1, ll_2, ll_3, ll_4, ll_5, ll_6, ll_7, ll_8, ll_9, ll_12, ll_15, ll_16, ll_20, ll_22, ll_24, ll_25, ll_28, ll_32, ll_40, ll_48, ll_64, ll_72, ll_80, ll_133, ll_255, ll_256, ll_512, ll_1024, ll_2048, ll_4096, ll_16384, ll_65535, ll_16777215, ll_16777228, ll_2147483647, ll_2147483648, ll_2147483700, ll_4277009103, ll_4294967295, ll_68719476735, ll_68719476736, ll_2234207627640832, ll_2251795518717952, ll_72057594037927935, ↓lm_1, ↓llm_1, ev_add, ev_sub, ev_mul, ev_div, ev_cl, ev_ltT, ev_ltF, ev_leT, ev_leF, ev_eqT, ev_eqF, ev_m1, ev_m1', ev_m1s, ev_dec, ev_nn, el_add, el_sub, el_mul, el_div, el_ltT, el_ltF, el_leT, el_leF, el_eqT, el_eqF, ev_l, el_i, el_m1, el_m1', rdI, rdJ, rdR, updF, updT, updLF, updLT, sI_l, sJ_l, sR_l, f_X10_writeAll_102b, d1, e2]); first | done | rfl)
    show ∃ K' σ'', f_X10_writeAll_102b K (nI i) σ' = f_X10_writeAll_102b K' (nI (D 0 0)) σ'' ∧ _
    rw [e]
    refine ih _ ⟨σ2, rfl, ?_⟩
    exact Wc_tr hw (by rw [ctl_len]; exact w)
