/-! the image as bytes -/
def Rimg (σ : St) : Prop := ∃ n, n ≤ 6400 ∧ σ.1 3 1 = nI n ∧ σ.1 68 30 = nI n ∧ (∀ j, j < n → σ.1 88 j = nI (ub (σ.1 4 j))) ∧ Bys (σ.1 4)
def Eth (a b : Nat) : Prop := a = 68 ∧ b = 0
def Eimg (a b : Nat) : Prop := (a = 3 ∧ b = 1) ∨ a = 4 ∨ a = 88 ∨ (a = 68 ∧ (b = 0 ∨ b = 30))
theorem only_th (σ : St) : Only Eth σ (sI σ 68 0 0) := by
  refine ⟨fun p q hpq => ?_, fun _ _ _ => rfl⟩
  unfold Eth at hpq
  rw [sI_g]
  by_cases hp : p = 68
  · rw [if_pos hp, if_neg (by omega)]
  · rw [if_neg hp]
theorem Rimg_th {σ : St} (h : Rimg σ) : Rimg (sI σ 68 0 0) := by
  obtain ⟨n, hn, h1, h2, h3, h4⟩ := h
  refine ⟨n, hn, by simp [sI_g, h1], by simp [sI_g, h2], fun j hj => ?_, fun j => ?_⟩
  · have := h3 j hj
    simpa [sI_g] using this
  · have := h4 j
    simpa [sI_g] using this
theorem e_image {σ : St} (hI : Rimg σ) (a : Int32) : ∃ (r : Int32) (σ1 σ2 : St), f_X11_image a σ = some (r, σ1) ∧ f_X12_image a σ1 = some (r, σ2) ∧ Rimg σ2 ∧ Only Eth σ σ2 ∧ σ2.1 68 0 = 0 := by
  have hI0 := hI
  obtain ⟨n, hn, h1, h2, h3, h4⟩ := hI
  unfold f_X11_image f_X12_image
  dsimp only [zn]
  have hni := nI_toInt (n := n) (by omega)
  have e2 : (sI σ 68 0 0).1 68 30 = nI n := by simp [sI_g, h2]
  rw [p_X6_has (by omega) h1, bi_t]
  by_cases ha : 0 ≤ a.toInt ∧ a.toInt < n
  · refine ⟨nI (ub (σ.1 4 a.toNatClampNeg)), σ, sI σ 68 0 0, ?_, ?_, Rimg_th hI0, only_th σ, by simp [sI_g]⟩
    · rw [if_pos ha, if_neg (by decide), p_X6_at (by omega) hn h1, bi_t, if_pos ha]
    · rw [if_neg (fun q => by have := i_lt0 q; omega), e2, if_pos (i_lt.mpr (by omega)), gd_t (show ib a 9000 from ⟨ha.1, by omega⟩)]
      have e3 : a.toNatClampNeg < n := by
        have := nI_i ha.1
        have h9 : (nI a.toNatClampNeg).toInt < n := by rw [← this]; exact ha.2
        rw [nI_toInt (by have := a.toInt_lt; unfold Int32.toNatClampNeg; omega)] at h9
        omega
      have e4 : (sI σ 68 0 0).1 88 a.toNatClampNeg = nI (ub (σ.1 4 a.toNatClampNeg)) := by simp [sI_g, h3 _ e3]
      rw [e4]
  · refine ⟨-1, σ, sI σ 68 0 0, ?_, ?_, Rimg_th hI0, only_th σ, by simp [sI_g]⟩
    · rw [if_neg ha, if_pos rfl]
    · by_cases h0 : a < 0
      · rw [if_pos h0]
      · rw [if_neg h0, e2, if_neg (fun q => ha ⟨i_ge0 h0, by have := i_lt.mp q; omega⟩)]
theorem e_cut {σ : St} (hI : Rimg σ) (a : Int32) : ∃ (r : Int32) (σ1 σ2 : St), f_X11_cut a σ = some (r, σ1) ∧ f_X12_cut a σ1 = some (r, σ2) ∧ Rimg σ2 ∧ Only Eimg σ σ2 ∧ σ2.1 68 0 = 0 := by
  have hI0 := hI
  obtain ⟨n, hn, h1, h2, h3, h4⟩ := hI
  unfold f_X11_cut f_X12_cut
  dsimp only [zn]
  rw [p_X6_shorten (by omega) h1]
  have hni := nI_toInt (n := n) (by omega)
  by_cases ha : 0 ≤ a.toInt ∧ a.toInt ≤ n
  · refine ⟨1, sI σ 3 1 a, sI (sI (sI σ 3 1 a) 68 0 0) 68 30 a, ?_, ?_, ?_, ?_, by simp [sI_g]⟩
    · rw [if_pos ha, bi_t]
      rfl
    · have e1 : (sI (sI σ 3 1 a) 68 0 0).1 68 30 = nI n := by simp [sI_g, h2]
      rw [e1, if_neg (fun q => by have := i_lt0 q; omega), if_pos (i_le.mpr (by omega))]
    · obtain ⟨m, hm⟩ : ∃ m : Nat, a.toInt = m := ⟨a.toInt.toNat, by omega⟩
      have ea : a = nI m := by rw [← Int32.toInt_inj, nI_toInt (by omega)]; exact hm
      refine ⟨m, by omega, by simp [sI_g, ea], by simp [sI_g, ea], fun j hj => ?_, fun j => ?_⟩
      · have := h3 j (by omega)
        simpa [sI_g] using this
      · have := h4 j
        simpa [sI_g] using this
    · refine ⟨fun p q hpq => ?_, fun _ _ _ => rfl⟩
      unfold Eimg at hpq
      rw [sI_g, sI_g, sI_g]
      by_cases hp : p = 68
      · rw [if_pos hp, if_neg (by omega), if_pos hp, if_neg (by omega), if_neg (by omega)]
      · rw [if_neg hp, if_neg hp]
        by_cases hp3 : p = 3
        · rw [if_pos hp3, if_neg (by omega)]
        · rw [if_neg hp3]
  · refine ⟨0, σ, sI σ 68 0 0, ?_, ?_, Rimg_th hI0, ?_, by simp [sI_g]⟩
    · rw [if_neg ha, bi_t]
      rfl
    · have e1 : (sI σ 68 0 0).1 68 30 = nI n := by simp [sI_g, h2]
      rw [e1]
      by_cases h0 : a < 0
      · rw [if_pos h0]
      · rw [if_neg h0, if_neg (fun q => ha ⟨i_ge0 h0, by have := i_le.mp q; omega⟩)]
    · refine ⟨fun p q hpq => (only_th σ).1 p q (fun hq => hpq ?_), fun _ _ _ => rfl⟩
      unfold Eth at hq
      unfold Eimg
      omega
