/-! the commands, as the reference puts them -/
theorem cnt_mono {G : Nat → Nat} {s k : Nat} : ∀ d, cnt G s k ≤ cnt G s (k + d) := fun d => by
  induction d with
  | zero => exact Nat.le_refl _
  | succ d ih =>
    show _ ≤ (if G (k + d) = s then cnt G s (k + d) + 1 else cnt G s (k + d))
    split <;> omega
theorem m_cmd1 {D : Nat → Nat → Nat} {τ : St} (K33 : (Int32 × St) → Option St) (hO : DOK D) (hM : DM D τ) (hL : ∀ s, s < (D 0 0) → τ.1 89 s = nI (ofs D s)) {p s : Nat} (hs : s < (D 0 0)) (h3 : τ.1 68 31 = nI p) (hz : p + 72 + 80 * cnt (D 6) s (D 0 1) ≤ 9000) : ∃ τ2, f_X12_writeCommands_33b K33 (nI s) τ = K33 (nI (s + 1), τ2) ∧ Wm p (cmp D s) τ τ2 := by
  have hO' := hO
  obtain ⟨o1, o2, o3, o4, o5, o6, o7, ⟨m1, m2, _⟩, o9, o10, o11, _⟩ := hO'
  have hM' := hM
  obtain ⟨⟨c1, c2, _⟩, ⟨n1, n2, _⟩, c3, c4, c5, _⟩ := hM'
  have lc := cnt_le (D 6) s (D 0 1)
  have la := dad_le hO (show s ≤ (D 0 0) by omega)
  have lu := up_pg hO hs
  have lo := ofs_le hO (show s ≤ (D 0 0) by omega)
  have lB := o9 s hs
  obtain ⟨τ1, e1, w1, _⟩ := m_segc (p := p) (s := s) (ns := (D 0 0)) (ad := dad D s) (sp := up (D 1 s) (D 0 5)) (O := ofs D s) (B := D 1 s) (A := D 2 s) (c := cnt (D 6) s (D 0 1)) (N := fun i => D 4 (16 * s + i)) K33 h3 (by omega) hs o1 c1 (by omega) (m_secs o2 c2 (by omega) (fun k hk => ⟨(c5 k hk).1, by have := (o11 k hk).1; omega⟩)) (fun σ' o => m_addrD hO (DM_m o hM) (by omega)) (fun σ' o => m_spanD hO (DM_m o hM) hs) (fun i hi => ⟨by have := n1 s hs i hi; rwa [Nat.zero_add] at this, ((m1 s hs).2.2 i hi).1⟩) (hL s hs) (c3 s hs).1 (c3 s hs).2 (by omega) (by omega) (by omega) (by omega) (by omega)
  have w1' : Wm p (sgp D s) τ τ1 := w1
  have hM1 := DM_m w1'.2.2.2 hM
  have hL1 : ∀ s, s < (D 0 0) → τ1.1 89 s = nI (ofs D s) := fun s hs => (Wm_f w1' (a := 89) (b := s) (by unfold Eim; omega)).trans (hL s hs)
  have x3 := w1'.1
  rw [sgp_len] at x3
  obtain ⟨τ2, e2, w2⟩ := m_secL (p := p + 72) (s := s) (nc := (D 0 1)) (G := D 6) (P := scp D) (τ := τ1) K33 o2 (by omega) hM1.1.2.1 (fun k hk => ⟨(hM1.2.2.2.2.1 k hk).1, by have := (o11 k hk).1; omega⟩) x3 (fun K k τ' hk hg hw => by
    have len := secL_len (G := D 6) (s := s) (P := scp D) k (fun k _ _ => scp_len D k)
    have y3 := hw.1
    rw [len] at y3
    have hM2 := DM_m hw.2.2.2 hM1
    have hL2 := (Wm_f hw (a := 89) (b := s) (by unfold Eim; omega)).trans (hL1 s hs)
    have lk : cnt (D 6) s (k + 1) ≤ cnt (D 6) s (D 0 1) := by
      have q := cnt_mono (G := D 6) (s := s) (k := k + 1) ((D 0 1) - (k + 1))
      rwa [show k + 1 + ((D 0 1) - (k + 1)) = (D 0 1) by omega] at q
    have lk2 : cnt (D 6) s (k + 1) = cnt (D 6) s k + 1 := if_pos hg
    have lp := (o11 k hk).2
    obtain ⟨τ3, e3, w3, _⟩ := m_secc (p := p + 72 + 80 * cnt (D 6) s k) (s := s) (k := k) (nc := (D 0 1)) (ad := dad D s) (O := ofs D s) (pl := D 7 k) (sz := D 8 k) (N := fun i => D 9 (16 * k + i)) (M := fun i => D 4 (16 * s + i)) (τ := τ') K33 K y3 (by omega) (by omega) hk o2 hM2.1.2.1 (by rw [(hM2.2.2.2.2.1 k hk).1, hg]) (fun σ' o => m_addrD hO (DM_m o hM2) (by omega)) (fun i hi => ⟨hM2.2.1.2.1 k hk i hi, ((m2 k hk).2.2 i hi).1⟩) (fun i hi => ⟨by have := hM2.2.1.1 s hs i hi; rwa [Nat.zero_add] at this, ((m1 s hs).2.2 i hi).1⟩) hL2 (hM2.2.2.2.2.1 k hk).2.1 (hM2.2.2.2.2.1 k hk).2.2 (by omega) (by omega) (by omega)
    refine ⟨τ3, e3, Wm_tr hw ?_⟩
    rw [len]
    unfold scp
    rw [hg]
    exact w3)
  refine ⟨τ2, e1.trans e2, ?_⟩
  unfold cmp
  exact Wm_tr w1' (by rw [sgp_len]; exact w2)
theorem m_cmds {D : Nat → Nat → Nat} {τ : St} (hO : DOK D) (hM : DM D τ) (hL : ∀ s, s < (D 0 0) → τ.1 89 s = nI (ofs D s)) (h3 : τ.1 68 31 = nI 32) : ∃ K τ', f_X12_writeCommands_33 (nI 0) τ = f_X12_writeCommands_33b K (nI (D 0 0)) τ' ∧ Wm 32 (cat (cmp D) (D 0 0)) τ τ' := by
  have o1 := hO.1
  have o2 := hO.2.1
  unfold f_X12_writeCommands_33
  have key := it_for (F := fun K (q : Int32 × St) => f_X12_writeCommands_33b K q.1 q.2) (fun i q => ∃ τ', q = (nI i, τ') ∧ Wm 32 (cat (cmp D) i) τ τ') (D 0 0) (fun o => ∃ K τ', o = f_X12_writeCommands_33b K (nI (D 0 0)) τ' ∧ Wm 32 (cat (cmp D) (D 0 0)) τ τ') ?_ ?_ FU 0 (nI 0, τ) (by omega) (FU_lt (by omega)) ⟨_, rfl, Wm_nil h3⟩
  · exact key
  · rintro K q ⟨τ', rfl, hw⟩
    exact ⟨K, τ', rfl, hw⟩
  · rintro K i q hi ⟨τ', rfl, hw⟩ ih
    have hM1 := DM_m hw.2.2.2 hM
    have hL1 : ∀ s, s < (D 0 0) → τ'.1 89 s = nI (ofs D s) := fun s hs => (Wm_f hw (a := 89) (b := s) (by unfold Eim; omega)).trans (hL s hs)
    have x3 := hw.1
    rw [cml_len] at x3
    have l1 := csm_le (D 6) (i + 1) (D 0 1)
    have l2 : csm (D 6) (D 0 1) (i + 1) = csm (D 6) (D 0 1) i + cnt (D 6) i (D 0 1) := rfl
    obtain ⟨τ2, e, w⟩ := m_cmd1 K hO hM1 hL1 hi x3 (by omega)
    show ∃ K' τ'', f_X12_writeCommands_33b K (nI i) τ' = f_X12_writeCommands_33b K' (nI (D 0 0)) τ'' ∧ _
    rw [e]
    refine ih _ ⟨τ2, rfl, ?_⟩
    exact Wm_tr hw (by rw [cml_len]; exact w)
/-- head, commands of the segments, commands of the tables -/
def cmL (D : Nat → Nat → Nat) : List Nat := head (D 0 0) (dC D) ++ cat (cmp D) (D 0 0) ++ tabs (dSO D) (D 0 2) (dTO D) (1 + lsm (D 14) (D 0 2)) (ofs D (D 0 0)) (dFS D)
theorem head_len (a b : Nat) : (head a b).length = 32 := by
  unfold head
  simp only [List.length_append, num_len, List.length_nil]
theorem cmL_len {D : Nat → Nat → Nat} (hO : DOK D) : (cmL D).length = 32 + dC D := by
  obtain ⟨_, _, _, _, _, _, _, _, _, _, o11, _⟩ := hO
  unfold cmL tabs dC
  simp only [List.length_append, num_len, List.length_nil, head_len]
  rw [cml_len, csm_e _ _ _ (fun j hj => (o11 j hj).1)]
  omega
theorem cml_e {D : Nat → Nat → Nat} (hO : DOK D) : 32 + (cat (cmp D) (D 0 0)).length + 40 = 32 + dC D := by
  obtain ⟨_, _, _, _, _, _, _, _, _, _, o11, _⟩ := hO
  rw [cml_len, csm_e _ _ _ (fun j hj => (o11 j hj).1)]
  unfold dC
  omega
theorem m_cmL {D : Nat → Nat → Nat} {τ : St} (hO : DOK D) (hM : DM D τ) (hL : ∀ s, s < (D 0 0) → τ.1 89 s = nI (ofs D s)) (h35 : τ.1 68 35 = nI (dSO D)) (h36 : τ.1 68 36 = nI (dTO D)) (h37 : τ.1 68 37 = nI (1 + lsm (D 14) (D 0 2))) (h33 : τ.1 68 33 = nI (ofs D (D 0 0))) (h34 : τ.1 68 34 = nI (dFS D)) (h3 : τ.1 68 31 = nI 0) : ∃ τ', f_X12_writeCommands (nI (dC D)) τ = some τ' ∧ Wm 0 (cmL D) τ τ' := by
  have o1 := hO.1
  have lC := dC_le hO
  obtain ⟨τ1, e1, w1, _⟩ := m_head h3 o1 hM.1.1 (show dC D < 2 ^ 31 by omega)
  have hM1 := DM_m w1.2.2.2 hM
  have x1 := w1.1
  rw [head_len] at x1
  obtain ⟨K, τ2, e2, w2⟩ := m_cmds hO hM1 (fun s hs => (Wm_f w1 (a := 89) (b := s) (by unfold Eim; omega)).trans (hL s hs)) x1
  have w12 := Wm_tr w1 (by rw [head_len]; exact w2)
  have hM2 := DM_m w12.2.2.2 hM
  have ce := cml_e hO
  have y1 := (dSO_le hO).2
  have y2 := (dTO_le hO).2
  have y3 := (dFS_le hO).2.2
  have y4 := ofs_le hO (Nat.le_refl (D 0 0))
  have y5 := (l24_le hO).2
  have y6 : (D 0 2) ≤ 20 := hO.2.2.1
  obtain ⟨τ3, e3, w3, _⟩ := m_tabs (p := 32 + (cat (cmp D) (D 0 0)).length) (ns := (D 0 0)) (ny := (D 0 2)) (SO := dSO D) (TO := dTO D) (TS := 1 + lsm (D 14) (D 0 2)) (FO := ofs D (D 0 0)) (FS := dFS D) K w2.1 (by omega) o1 hM2.1.1 hM2.1.2.2.1 y6 ((Wm_f w12 (a := 68) (b := 35) (by unfold Eim; omega)).trans h35) ((Wm_f w12 (a := 68) (b := 36) (by unfold Eim; omega)).trans h36) ((Wm_f w12 (a := 68) (b := 37) (by unfold Eim; omega)).trans h37) ((Wm_f w12 (a := 68) (b := 33) (by unfold Eim; omega)).trans h33) ((Wm_f w12 (a := 68) (b := 34) (by unfold Eim; omega)).trans h34) (by omega) (by omega) (by omega) (by omega) (by omega)
  refine ⟨τ3, by rw [e1, e2, e3], ?_⟩
  unfold cmL
  refine Wm_tr w12 ?_
  rw [List.length_append, head_len, ← Nat.add_assoc, Nat.zero_add]
  exact w3
theorem c_cmL {D : Nat → Nat → Nat} {σ : St} (hO : DOK D) (hC : DC D σ) (hL : LaC D σ) (h3 : σ.1 3 1 = nI 0) : ∃ σ', bv (f_X10_addHead σ) (fun s16 => f_X10_writeAll_66 (nI 0) s16) = f_X10_writeAll_102 (nI 0) σ' ∧ Wc 0 (cmL D) σ σ' := by
  have o1 := hO.1
  have lC := dC_le hO
  obtain ⟨σ1, e1, w1, _⟩ := c_head h3 o1 hC.1.1 (show dC D < 2 ^ 31 by omega) hL.1
  have hC1 := DC_c w1.2.2.2.2 hC
  have hL1 := LaC_c w1.2.2.2.2 hL
  have x1 := w1.1
  rw [head_len] at x1
  obtain ⟨K, σ2, e2, w2⟩ := c_cmds hO hC1 hL1 x1
  have w12 := Wc_tr w1 (by rw [head_len]; exact w2)
  have hC2 := DC_c w12.2.2.2.2 hC
  have hL2 := LaC_c w12.2.2.2.2 hL
  have ce := cml_e hO
  have y1 := (dSO_le hO).2
  have y2 := (dTO_le hO).2
  have y3 := (dFS_le hO).2.2
  have y4 := ofs_le hO (Nat.le_refl (D 0 0))
  have y6 : (D 0 2) ≤ 20 := hO.2.2.1
  obtain ⟨_, _, _, _, _, _, _, ⟨_, _, m3, _⟩, _⟩ := hO
  obtain ⟨a1, a2, a3, a4, a5, a6, a7, a8, a9⟩ := hL2
  obtain ⟨⟨d1, _, d3, _⟩, ⟨_, _, n3, _⟩, _⟩ := hC2
  obtain ⟨σ3, e3, w3, _⟩ := c_tabs (z := 32 + (cat (cmp D) (D 0 0)).length) (ny := (D 0 2)) (SO := dSO D) (TO := dTO D) (FO := ofs D (D 0 0)) (FS := dFS D) (L := D 14) w2.1 (by omega) y6 d3 (fun k hk => ⟨(n3 k hk).1, (m3 k hk).2.1⟩) a8 a9 a3 a7 (by omega) (by omega) (by omega) (by omega)
  refine ⟨σ3, ?_, ?_⟩
  · rw [e1, bv_t, e2]
    ((try simp (disch := first | decide | assumption | (simp (disch := first | decide | omega) only [ImC_sI, ImC_sJ, ImM_sI, ImM_sJ]; assumption) | omega) only [↓reduceIte, Nat.reduceAdd, Nat.reduceMul, Nat.reduceSub, Nat.reduceEqDiff, Nat.reducePow, Nat.reduceDiv, ↓zn_d, ↓bi_d, ↓bv_d, gd_T, ev_ib, true_or, or_true, eq_self, ite_true, ite_false, if_true, if_false, not_true_eq_false, not_false_eq_true, li_0, li_1, li_2, li_3, li_4, li_5, li_6, li_7, li_8, li_9, li_10, li_11, li_12, li_13, li_14, li_15, li_16, li_17, li_18, li_19, li_20, li_22, li_24, li_28, li_30, li_31, li_32, li_33, li_36, li_40, li_48, li_51, li_52, li_56, li_64, li_72, li_80, li_100, li_126, li_127, li_255, li_256, li_1024, li_1040, li_2048, li_4095, li_4096, li_65535, li_1073741824, ll_0, ll_1, ll_2, ll_3, ll_4, ll_5, ll_6, ll_7, ll_8, ll_9, ll_12, ll_15, ll_16, ll_20, ll_22, ll_24, ll_25, ll_28, ll_32, ll_40, ll_48, ll_64, ll_72, ll_80, ll_133, ll_255, ll_256, ll_512, ll_1024, ll_2048, ll_4096, ll_16384, ll_65535, ll_16777215, ll_16777228, ll_2147483647, ll_2147483648, ll_2147483700, ll_4277009103, ll_4294967295, ll_68719476735, ll_68719476736, ll_2234207627640832, ll_2251795518717952, ll_72057594037927935, ↓lm_1, ↓llm_1, ev_add, ev_sub, ev_mul, ev_div, ev_cl, ev_ltT, ev_ltF, ev_leT, ev_leF, ev_eqT, ev_eqF, ev_m1, ev_m1', ev_m1s, ev_dec, ev_nn, el_add, el_sub, el_mul, el_div, el_ltT, el_ltF, el_leT, el_leF, el_eqT, el_eqF, ev_l, el_i, el_m1, el_m1', rdI, rdJ, rdR, updF, updT, updLF, updLT, sI_l, sJ_l, sR_l, f_X10_writeAll_66b, d1, e3]); first | done | rfl)
  · unfold cmL
    refine Wc_tr w12 ?_
    rw [List.length_append, head_len, ← Nat.add_assoc, Nat.zero_add]
    exact w3
