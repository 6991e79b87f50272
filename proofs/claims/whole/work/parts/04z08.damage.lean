theorem nI_ix {a : Int32} {n : Nat} (h : 0 ≤ a.toInt ∧ a.toInt < n) : a.toNatClampNeg < n ∧ a = nI a.toNatClampNeg := by
  have e := nI_i h.1
  refine ⟨?_, e⟩
  have h9 : (nI a.toNatClampNeg).toInt < n := by rw [← e]; exact h.2
  rw [nI_toInt (by have := a.toInt_lt; unfold Int32.toNatClampNeg; omega)] at h9
  omega
theorem ub_nI {n : Nat} (h : n < 256) : ub (nI n) = n := by
  unfold ub
  rw [pk_tn (by omega), Nat.mod_eq_of_lt h]
theorem e_damage {σ : St} (hI : Rimg σ) (a v : Int32) : ∃ (r : Int32) (σ1 σ2 : St), f_X11_damage a v σ = some (r, σ1) ∧ f_X12_damage a v σ1 = some (r, σ2) ∧ Rimg σ2 ∧ Only Eimg σ σ2 ∧ σ2.1 68 0 = 0 := by
  have hI0 := hI
  obtain ⟨n, hn, h1, h2, h3, h4⟩ := hI
  unfold f_X11_damage f_X12_damage f_X11_isByte
  dsimp only [zn]
  have hni := nI_toInt (n := n) (by omega)
  have e2 : (sI σ 68 0 0).1 68 30 = nI n := by simp [sI_g, h2]
  have no : Only Eimg σ (sI σ 68 0 0) := ⟨fun p q hpq => (only_th σ).1 p q (fun hq => hpq (by unfold Eth at hq; unfold Eimg; omega)), fun _ _ _ => rfl⟩
  rw [p_X6_has (by omega) h1, bi_t]
  by_cases ha : 0 ≤ a.toInt ∧ a.toInt < n
  · rw [if_pos ha, if_neg (by decide)]
    by_cases hv : 0 ≤ v.toInt ∧ v.toInt < (256 : Nat)
    · obtain ⟨x1, x2⟩ := nI_ix ha
      obtain ⟨y1, y2⟩ := nI_ix hv
      generalize a.toNatClampNeg = j at x1 x2
      generalize v.toNatClampNeg = w at y1 y2
      subst x2
      subst y2
      have hw := nI_toInt (n := w) (by omega)
      have h5 : (255 : Int32).toInt = 255 := by decide
      have hj := nI_toInt (n := j) (by omega)
      refine ⟨1, sI σ 4 j (bo (nI w).toInt64 0), sI (sI (sI σ 4 j (bo (nI w).toInt64 0)) 68 0 0) 88 j (nI w), ?_, ?_, ?_, ?_, by simp [sI_g]⟩
      · rw [if_neg (nI_pos (by omega)), if_neg (fun q : (255 : Int32) < nI w => by have := i_lt.mp q; omega), bi_t, if_neg (by decide)]
        have hp := p_X6_put (k := 3) (n := 6400) (z := n) (K := j) (m := 1) (by omega) hn h1 (by omega) (nI w).toInt64
        rw [show nI 1 = (1 : Int32) from rfl] at hp
        rw [hp, bv_t, putR_1]
      · have e3 : (sI (sI σ 4 j (bo (nI w).toInt64 0)) 68 0 0).1 68 30 = nI n := by simp [sI_g, h2]
        rw [if_neg (nI_pos (by omega)), e3, if_neg (nI_ge x1 (by omega)), if_neg (nI_pos (by omega)), if_pos (show nI w ≤ 255 from i_le.mpr (by omega)), gd_t (show ib (nI j) 9000 from ⟨by rw [hj]; omega, by rw [hj]; omega⟩)]
      · refine ⟨n, hn, by simp [sI_g, h1], by simp [sI_g, h2], fun i hi => ?_, fun i => ?_⟩
        · by_cases hij : i = j
          · subst hij
            have q1 : (sI (sI (sI σ 4 i (bo (nI w).toInt64 0)) 68 0 0) 88 i (nI w)).1 4 i = bo (nI w).toInt64 0 := by simp [sI_g]
            rw [q1, ub_bo0, ub_nI y1]
            simp [sI_g]
          · have := h3 i hi
            simpa [sI_g, hij] using this
        · by_cases hij : i = j
          · subst hij
            have q1 : (sI (sI (sI σ 4 i (bo (nI w).toInt64 0)) 68 0 0) 88 i (nI w)).1 4 i = bo (nI w).toInt64 0 := by simp [sI_g]
            show fits .byte (.int _) = true
            rw [q1]
            exact fit_nar _
          · have := h4 i
            simpa [sI_g, hij] using this
      · refine ⟨fun p q hpq => ?_, fun _ _ _ => rfl⟩
        unfold Eimg at hpq
        rw [sI_g, if_neg (by omega), sI_g]
        by_cases hp : p = 68
        · rw [if_pos hp, if_neg (by omega), sI_g, if_neg (by omega)]
        · rw [if_neg hp, sI_g, if_neg (by omega)]
    · refine ⟨0, σ, sI σ 68 0 0, ?_, ?_, Rimg_th hI0, no, by simp [sI_g]⟩
      · have h5 : (255 : Int32).toInt = 255 := by decide
        by_cases v0 : v < 0
        · rw [if_pos v0, bi_t, if_pos rfl]
        · rw [if_neg v0, if_pos (i_lt.mpr (by have := i_ge0 v0; omega)), bi_t, if_pos rfl]
      · have h5 : (255 : Int32).toInt = 255 := by decide
        rw [if_neg (fun q => by have := i_lt0 q; omega), e2, if_neg (fun q => by have := i_le.mp q; omega)]
        by_cases v0 : v < 0
        · rw [if_pos v0]
        · rw [if_neg v0, if_neg (fun q => by have := i_le.mp q; have := i_ge0 v0; omega)]
  · refine ⟨0, σ, sI σ 68 0 0, ?_, ?_, Rimg_th hI0, no, by simp [sI_g]⟩
    · rw [if_neg ha, if_pos rfl]
    · by_cases h0 : a < 0
      · rw [if_pos h0]
      · rw [if_neg h0, e2, if_pos (i_le.mpr (by have := i_ge0 h0; omega))]
