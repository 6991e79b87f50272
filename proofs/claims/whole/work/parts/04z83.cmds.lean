/-! the commands of all segments -/
def dad (D : Nat → Nat → Nat) (s : Nat) : Nat := adr (D 0 6) (D 0 5) (D 1) s
def sgp (D : Nat → Nat → Nat) (s : Nat) : List Nat := segc (fun i => D 4 (16 * s + i)) (dad D s) (up (D 1 s) (D 0 5)) (ofs D s) (D 1 s) (D 2 s) (cnt (D 6) s (D 0 1))
def scp (D : Nat → Nat → Nat) (k : Nat) : List Nat := secc (fun i => D 9 (16 * k + i)) (fun i => D 4 (16 * D 6 k + i)) (dad D (D 6 k) + D 7 k) (D 8 k) (ofs D (D 6 k) + D 7 k)
def cmp (D : Nat → Nat → Nat) (s : Nat) : List Nat := sgp D s ++ secL (D 6) s (scp D) (D 0 1)
def csm (G : Nat → Nat) (nc : Nat) : Nat → Nat
  | 0 => 0
  | s + 1 => csm G nc s + cnt G s nc
theorem csm_s (G : Nat → Nat) (k : Nat) : ∀ n, csm G (k + 1) n = csm G k n + if G k < n then 1 else 0 := by
  intro n
  induction n with
  | zero => rfl
  | succ n ih =>
    show csm G (k + 1) n + (if G k = n then cnt G n k + 1 else cnt G n k) = csm G k n + cnt G n k + _
    rw [ih]
    by_cases h : G k = n
    · rw [if_pos h, if_neg (by omega), if_pos (by omega)]
      omega
    · rw [if_neg h]
      by_cases h2 : G k < n
      · rw [if_pos h2, if_pos (by omega)]
        omega
      · rw [if_neg h2, if_neg (by omega)]
        omega
theorem csm_le (G : Nat → Nat) (n : Nat) : ∀ k, csm G k n ≤ k := by
  intro k
  induction k with
  | zero =>
    have : ∀ n, csm G 0 n = 0 := fun n => by
      induction n with
      | zero => rfl
      | succ n ih => show csm G 0 n + 0 = 0; rw [ih]
    rw [this]
    exact Nat.le_refl _
  | succ k ih =>
    rw [csm_s]
    split <;> omega
theorem csm_e (G : Nat → Nat) (n : Nat) : ∀ k, (∀ j, j < k → G j < n) → csm G k n = k := by
  intro k
  induction k with
  | zero => intro _; exact Nat.le_zero.mp (csm_le G n 0)
  | succ k ih =>
    intro h
    rw [csm_s, ih (fun j hj => h j (by omega)), if_pos (h k (by omega))]
theorem sgp_len (D : Nat → Nat → Nat) (s : Nat) : (sgp D s).length = 72 := by
  unfold sgp segc
  simp only [List.length_append, num_len, rng_len, List.length_nil]
theorem scp_len (D : Nat → Nat → Nat) (s : Nat) : (scp D s).length = 80 := by
  unfold scp secc
  simp only [List.length_append, num_len, rng_len, List.length_nil, zer_len]
theorem cmp_len (D : Nat → Nat → Nat) (s : Nat) : (cmp D s).length = 72 + 80 * cnt (D 6) s (D 0 1) := by
  unfold cmp
  rw [List.length_append, sgp_len, secL_len _ (fun k _ _ => scp_len D k)]
theorem cml_len (D : Nat → Nat → Nat) : ∀ n, (cat (cmp D) n).length = 72 * n + 80 * csm (D 6) (D 0 1) n := by
  intro n
  induction n with
  | zero => rfl
  | succ n ih =>
    show (cat (cmp D) n ++ cmp D n).length = _ + 80 * (csm (D 6) (D 0 1) n + cnt (D 6) n (D 0 1))
    rw [List.length_append, ih, cmp_len]
    omega
theorem dad_le {D : Nat → Nat → Nat} (hO : DOK D) {s : Nat} (hs : s ≤ (D 0 0)) : dad D s ≤ 1073741824 + 20480 := by
  obtain ⟨o1, _, _, _, _, o6, o7, _, o9, _⟩ := hO
  have := adr_le (b := (D 0 6)) (B := D 1) o6 s (fun t ht => (o9 t (by omega)).2.1)
  unfold dad
  omega
theorem c_addrD {D : Nat → Nat → Nat} {σ : St} (hO : DOK D) (hC : DC D σ) {s : Nat} (hs : s ≤ (D 0 0)) : f_X8_addressOf (nI s) σ = some (nI (dad D s), σ) := by
  obtain ⟨o1, _, _, _, _, o6, o7, _, o9, _⟩ := hO
  obtain ⟨⟨c1, _, _, _, c5, c6⟩, _, c3, _⟩ := hC
  exact c_addr o1 c1 hs (fun t ht => ⟨(c3 t ht).1, (o9 t ht).2.1⟩) c5 o6 c6 o7
theorem m_addrD {D : Nat → Nat → Nat} {τ : St} (hO : DOK D) (hM : DM D τ) {s : Nat} (hs : s ≤ (D 0 0)) : f_X12_addressOf (nI s) τ = some (nI (dad D s), τ) := by
  obtain ⟨o1, _, _, _, _, o6, o7, _, o9, _⟩ := hO
  obtain ⟨⟨c1, _, _, _, _, c5, c6⟩, _, c3, _⟩ := hM
  exact m_addr o1 hs (fun t ht => ⟨(c3 t ht).1, (o9 t ht).2.1⟩) c5 o6 c6 o7
theorem m_spanD {D : Nat → Nat → Nat} {τ : St} (hO : DOK D) (hM : DM D τ) {s : Nat} (hs : s < (D 0 0)) : f_X12_spanOf (nI s) τ = some (nI (up (D 1 s) (D 0 5)), τ) := by
  obtain ⟨o1, _, _, _, _, o6, _, _, o9, _⟩ := hO
  obtain ⟨⟨_, _, _, _, _, c5, _⟩, _, c3, _⟩ := hM
  exact m_span (by omega) (c3 s hs).1 (o9 s hs).2.1 c5 o6
theorem DC_c {D : Nat → Nat → Nat} {σ σ' : St} (o : OM Eic σ σ') (h : DC D σ) : DC D σ' := DC_f (o.mono (fun a b h => by unfold Eic at h; unfold Ewc; omega)) h
theorem DM_m {D : Nat → Nat → Nat} {τ τ' : St} (o : OM Eim τ τ') (h : DM D τ) : DM D τ' := DM_f (o.mono (fun a b h => by unfold Eim at h; unfold Ewm; omega)) h
theorem LaC_c {D : Nat → Nat → Nat} {σ σ' : St} (o : OM Eic σ σ') (h : LaC D σ) : LaC D σ' := by
  obtain ⟨h1, h2, h3, h4, h5, h6, h7, h8, h9⟩ := h
  have f : ∀ a b, 30 ≤ a → σ'.1 a b = σ.1 a b := fun a b q => o.1 a b (by unfold Eic; omega)
  exact ⟨(f _ _ (by decide)).trans h1, fun s hs => (f _ _ (by decide)).trans (h2 s hs), (f _ _ (by decide)).trans h3, fun s hs => (f _ _ (by decide)).trans (h4 s hs), (f _ _ (by decide)).trans h5, (f _ _ (by decide)).trans h6, (f _ _ (by decide)).trans h7, (f _ _ (by decide)).trans h8, (f _ _ (by decide)).trans h9⟩
theorem up_pg {D : Nat → Nat → Nat} (hO : DOK D) {s : Nat} (hs : s < (D 0 0)) : up (D 1 s) (D 0 5) ≤ 5120 := by
  obtain ⟨_, _, _, _, _, o6, _, _, o9, _⟩ := hO
  have h1 := (up_le (z := D 1 s) (a := (D 0 5)) (by unfold isPg at o6; omega)).2
  have h2 := (o9 s hs).2.1
  unfold isPg at o6
  omega
/-- the class's turn for one segment: its command and its sections -/
theorem c_cmd1 {D : Nat → Nat → Nat} {σ : St} (hO : DOK D) (hC : DC D σ) (hL : LaC D σ) {z s : Nat} (hs : s < (D 0 0)) (h3 : σ.1 3 1 = nI z) (hz : z + 72 + 80 * cnt (D 6) s (D 0 1) ≤ 6400) : ∃ σ1 σ2, f_X10_addSegmentCommand (nI s) σ = some σ1 ∧ f_X10_addSectionsOf (nI s) σ1 = some σ2 ∧ Wc z (cmp D s) σ σ2 := by
  have hO' := hO
  obtain ⟨o1, o2, o3, o4, o5, o6, o7, ⟨m1, m2, _⟩, o9, o10, o11, _⟩ := hO'
  have hC' := hC
  obtain ⟨⟨c1, c2, _⟩, ⟨n1, n2, _⟩, c3, c4, c5, _⟩ := hC'
  have lc := cnt_le (D 6) s (D 0 1)
  have la := dad_le hO (show s ≤ (D 0 0) by omega)
  have lu := up_pg hO hs
  have lo := ofs_le hO (show s ≤ (D 0 0) by omega)
  have lB := o9 s hs
  have nf : ∀ k, k < (D 0 0) → ∀ i, i < 16 → σ.1 7 (k * 16 + i) = sb_b (D 4 (16 * k + i)) ∧ D 4 (16 * k + i) < 256 := fun k hk i hi => ⟨by rw [Nat.mul_comm]; exact (n1 k hk).2 i hi, ((m1 k hk).2.2 i hi).1⟩
  have nf2 : ∀ k, k < (D 0 1) → ∀ i, i < 16 → σ.1 13 (k * 16 + i) = sb_b (D 9 (16 * k + i)) ∧ D 9 (16 * k + i) < 256 := fun k hk i hi => ⟨by rw [Nat.mul_comm]; exact (n2 k hk).2 i hi, ((m2 k hk).2.2 i hi).1⟩
  obtain ⟨σ1, e1, w1, _⟩ := c_segc (z := z) (s := s) (ad := dad D s) (sp := up (D 1 s) (D 0 5)) (O := ofs D s) (B := D 1 s) (A := D 2 s) (c := cnt (D 6) s (D 0 1)) (N := fun i => D 4 (16 * s + i)) h3 (by omega) (by omega) (by omega) (c_secs o2 c2 (by omega) (fun k hk => ⟨(c5 k hk).1, by have := (o11 k hk).1; omega⟩)) (fun σ' o => c_addrD hO (DC_c o hC) (by omega)) (fun σ' o => c_spanD hO (DC_c o hC) hs) (nf s hs) (hL.2.1 s hs) (c3 s hs).1 (c3 s hs).2 (by omega) (by omega) (by omega) (by omega) (by omega)
  have w1' : Wc z (sgp D s) σ σ1 := w1
  have hC1 := DC_c w1'.2.2.2.2 hC
  have hL1 := LaC_c w1'.2.2.2.2 hL
  have x3 := w1'.1
  rw [sgp_len] at x3
  obtain ⟨σ2, e2, w2⟩ := c_secL (z := z + 72) (s := s) (nc := (D 0 1)) (G := D 6) (P := scp D) (σ := σ1) o2 (by omega) hC1.1.2.1 (fun k hk => ⟨(hC1.2.2.2.2.1 k hk).1, by have := (o11 k hk).1; omega⟩) x3 (fun K k σ' hk hg hw => by
    have len := secL_len (G := D 6) (s := s) (P := scp D) k (fun k _ _ => scp_len D k)
    have y3 := hw.1
    rw [len] at y3
    have hC2 := DC_c hw.2.2.2.2 hC1
    have hL2 := LaC_c hw.2.2.2.2 hL1
    have lk : cnt (D 6) s (k + 1) ≤ cnt (D 6) s (D 0 1) := by
      have : ∀ d, cnt (D 6) s (k + 1) ≤ cnt (D 6) s (k + 1 + d) := fun d => by
        induction d with
        | zero => exact Nat.le_refl _
        | succ d ih =>
          show _ ≤ (if D 6 (k + 1 + d) = s then cnt (D 6) s (k + 1 + d) + 1 else cnt (D 6) s (k + 1 + d))
          split <;> omega
      have q := this ((D 0 1) - (k + 1))
      rwa [show k + 1 + ((D 0 1) - (k + 1)) = (D 0 1) by omega] at q
    have lk2 : cnt (D 6) s (k + 1) = cnt (D 6) s k + 1 := if_pos hg
    have lp := (o11 k hk).2
    obtain ⟨σ3, e3, w3, _⟩ := c_secc (z := z + 72 + 80 * cnt (D 6) s k) (s := s) (k := k) (nc := (D 0 1)) (ad := dad D s) (sp := 0) (O := ofs D s) (pl := D 7 k) (sz := D 8 k) (N := fun i => D 9 (16 * k + i)) (M := fun i => D 4 (16 * s + i)) (σ := σ') K y3 (by omega) (by omega) hk o2 hC2.1.2.1 (by rw [(hC2.2.2.2.2.1 k hk).1, hg]) (fun σ' o => c_addrD hO (DC_c o hC2) (by omega)) (fun i hi => ⟨by rw [Nat.mul_comm]; exact (hC2.2.1.2.1 k hk).2 i hi, (nf2 k hk i hi).2⟩) (fun i hi => ⟨by rw [Nat.mul_comm]; exact (hC2.2.1.1 s hs).2 i hi, (nf s hs i hi).2⟩) (hL2.2.1 s hs) (hC2.2.2.2.2.1 k hk).2.1 (hC2.2.2.2.2.1 k hk).2.2 (by omega) (by omega) (by omega)
    refine ⟨σ3, e3, Wc_tr hw ?_⟩
    rw [len]
    unfold scp
    rw [hg]
    exact w3)
  refine ⟨σ1, σ2, e1, e2, ?_⟩
  unfold cmp
  exact Wc_tr w1' (by rw [sgp_len]; exact w2)
theorem c_cmds {D : Nat → Nat → Nat} {σ : St} (hO : DOK D) (hC : DC D σ) (hL : LaC D σ) (h3 : σ.1 3 1 = nI 32) : ∃ K σ', f_X10_writeAll_66 (nI 0) σ = f_X10_writeAll_66b K (nI (D 0 0)) σ' ∧ Wc 32 (cat (cmp D) (D 0 0)) σ σ' := by
  have o1 := hO.1
  have o2 := hO.2.1
  unfold f_X10_writeAll_66
  have key := it_for (F := fun K (q : Int32 × St) => f_X10_writeAll_66b K q.1 q.2) (fun i q => ∃ σ', q = (nI i, σ') ∧ Wc 32 (cat (cmp D) i) σ σ') (D 0 0) (fun o => ∃ K σ', o = f_X10_writeAll_66b K (nI (D 0 0)) σ' ∧ Wc 32 (cat (cmp D) (D 0 0)) σ σ') ?_ ?_ FU 0 (nI 0, σ) (by omega) (FU_lt (by omega)) ⟨_, rfl, Wc_nil h3⟩
  · exact key
  · rintro K q ⟨σ', rfl, hw⟩
    exact ⟨K, σ', rfl, hw⟩
  · rintro K i q hi ⟨σ', rfl, hw⟩ ih
    have hC1 := DC_c hw.2.2.2.2 hC
    have hL1 := LaC_c hw.2.2.2.2 hL
    have x3 := hw.1
    rw [cml_len] at x3
    have d1 := hC1.1.1
    have l1 := csm_le (D 6) (i + 1) (D 0 1)
    have l2 : csm (D 6) (D 0 1) (i + 1) = csm (D 6) (D 0 1) i + cnt (D 6) i (D 0 1) := rfl
    obtain ⟨σ1, σ2, e1, e2, w⟩ := c_cmd1 hO hC1 hL1 hi x3 (by omega)
    have e : f_X10_writeAll_66b K (nI i) σ' = K (nI (i + 1), σ2) := by
      ((try simp (disch := first | decide | assumption | (simp (disch := first | decide | omega) only [ImC_sI, ImC_sJ, ImM_sI, ImM_sJ]; assumption) | omega) only [↓reduceIte, Nat.reduceAdd, Nat.reduceMul, Nat.reduceSub, Nat.reduceEqDiff, Nat.reducePow, Nat.reduceDiv, ↓zn_d, ↓bi_d, ↓bv_d, gd_T, ev_ib, true_or, or_true, eq_self, ite_true, ite_false, if_true, if_false, not_true_eq_false, not_false_eq_true, li_0, li_1, li_2, li_3, li_4, li_5, li_6, li_7, li_8, li_9, li_10, li_11, li_12, li_13, li_14, li_15, li_16, li_17, li_18, li_19, li_20, li_22, li_24, li_28, li_30, li_31, li_32, li_33, li_36, li_40, li_48, li_51, li_52, li_56, li_64, li_72, li_80, li_100, li_126, li_127, li_255, li_256, li_1024, li_1040, li_2048, li_4095, li_4096, li_65535, li_1073741824, ll_0, ll_1, ll_2, ll_3, ll_4, ll_5, ll_6, ll_7, ll_8, ll_9, ll_12, ll_15, ll_16, ll_20, ll_22, ll_24, ll_25, ll_28, ll_32, ll_40, ll_48, ll_64, ll_72, ll_80, ll_133, ll_255, ll_256, ll_512, ll_1024, ll_2048, ll_4096, ll_16384, ll_65535, ll_16777215, ll_16777228, ll_2147483647, ll_2147483648, ll_2147483700, ll_4277009103, ll_4294967295, ll_68719476735, ll_68719476736, ll_2234207627640832, ll_2251795518717952, ll_72057594037927935, ↓lm_1, ↓llm_1, ev_add, ev_sub, ev_mul, ev_div, ev_cl, ev_ltT, ev_ltF, ev_leT, ev_leF, ev_eqT, ev_eqF, ev_m1, ev_m1', ev_m1s, ev_dec, ev_nn, el_add, el_sub, el_mul, el_div, el_ltT, el_ltF, el_leT, el_leF, el_eqT, el_eqF, ev_l, el_i, el_m1, el_m1', rdI, rdJ, rdR, updF, updT, updLF, updLT, sI_l, sJ_l, sR_l, f_X10_writeAll_66b, d1, e1, e2]); first | done | rfl)
    show ∃ K' σ'', f_X10_writeAll_66b K (nI i) σ' = f_X10_writeAll_66b K' (nI (D 0 0)) σ'' ∧ _
    rw [e]
    refine ih _ ⟨σ2, rfl, ?_⟩
    exact Wc_tr hw (by rw [cml_len]; exact w)
