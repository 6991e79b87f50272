theorem X6_add1 {z : Nat} {σ : St} (hz : z < 1040) (hs : σ.1 1 1 = nI z) (v : Int64) : f_X6_add 1 1040 (1 : Int32) v σ = some (sI (sI σ 1 1 (nI (z + 1))) 2 z (bo v 0)) := by
  have := p_X6_add (k := 1) (n := 1040) (z := z) (m := 1) (σ := σ) (by omega) (by omega) (by omega) hs v
  rw [if_pos (by omega), putR_1] at this
  exact this
theorem fit_nar (x : Int32) : fits .byte (.int (vp_nar .byte x)) = true := by rw [vp_nar_byte]; exact pk_fb x
def Ec (a b : Nat) : Prop := (a = 1 ∧ b = 1) ∨ a = 2
theorem sh_ok {i : Nat} (hi : i < 4) : ¬ ((24 : Int32) - 8 * nI i < 0) ∧ ((24 : Int32) - 8 * nI i) + (-8) = 24 - 8 * nI (i + 1) ∧ (((24 : Int32) - 8 * nI (i + 1)) + 8).toNatClampNeg < (((24 : Int32) - 8 * nI i) + 8).toNatClampNeg := by
  rcases (show i = 0 ∨ i = 1 ∨ i = 2 ∨ i = 3 by omega) with rfl | rfl | rfl | rfl <;> decide
/-- one number comes to the tape: the class -/
theorem fn_c {z : Nat} {σ : St} (hz : z + 4 ≤ 1040) (hs : σ.1 1 1 = nI z) (hB : Bys (σ.1 2)) (a : Int32) : ∃ σ', f_X11_feedNumber a σ = some σ' ∧ σ'.1 1 1 = nI (z + 4) ∧ (∀ j, j < 4 → ub (σ'.1 2 (z + j)) = ub (zushr a (24 - 8 * nI j))) ∧ (∀ j, j < z → σ'.1 2 j = σ.1 2 j) ∧ Bys (σ'.1 2) ∧ Only Ec σ σ' := by
  unfold f_X11_feedNumber f_X11_feedNumber_3
  dsimp only [zn]
  have h0 : (24 : Int32) = 24 - 8 * nI 0 := by decide
  have hm : ((24 : Int32) + 8).toNatClampNeg < FU := by unfold FU; decide
  refine it_run (F := fun K q => f_X11_feedNumber_3b K q.1 q.2.1 q.2.2) (fun q : Int32 × Int32 × St => ∃ i, i ≤ 4 ∧ q.1 = a ∧ q.2.1 = 24 - 8 * nI i ∧ q.2.2.1 1 1 = nI (z + i) ∧ (∀ j, j < i → ub (q.2.2.1 2 (z + j)) = ub (zushr a (24 - 8 * nI j))) ∧ (∀ j, j < z → q.2.2.1 2 j = σ.1 2 j) ∧ Bys (q.2.2.1 2) ∧ Only Ec σ q.2.2) (fun q => (q.2.1 + 8).toNatClampNeg) (fun o => ∃ σ', o = some σ' ∧ σ'.1 1 1 = nI (z + 4) ∧ (∀ j, j < 4 → ub (σ'.1 2 (z + j)) = ub (zushr a (24 - 8 * nI j))) ∧ (∀ j, j < z → σ'.1 2 j = σ.1 2 j) ∧ Bys (σ'.1 2) ∧ Only Ec σ σ') ?_ FU (a, 24, σ) ⟨0, by omega, rfl, h0, hs, fun j hj => absurd hj (Nat.not_lt_zero _), fun _ _ => rfl, hB, fun _ _ _ => rfl, fun _ _ _ => rfl⟩ hm
  rintro kk ⟨x1, x2, τ⟩ ⟨i, hi, h1, h2, h3, h4, h5, h6, h7⟩ ih
  dsimp only at h1 h2 h3 h4 h5 h6 h7 ih ⊢
  subst h1
  subst h2
  unfold f_X11_feedNumber_3b
  by_cases h8 : i = 4
  · subst h8
    rw [if_pos (by decide)]
    exact ⟨τ, rfl, h3, h4, h5, h6, h7⟩
  · obtain ⟨g1, g2, g3⟩ := sh_ok (i := i) (by omega)
    rw [if_neg g1, X6_add1 (by omega) h3, bv_t]
    dsimp only [zn]
    rw [g2]
    refine ih _ ⟨i + 1, by omega, rfl, rfl, ?_, fun j hj => ?_, fun j hj => ?_, fun j => ?_, ?_, ?_⟩ g3
    · simp [sI_g, Nat.add_assoc]
    · by_cases hj2 : j = i
      · subst hj2
        have : (sI (sI τ 1 1 (nI (z + j + 1))) 2 (z + j) (bo ((zushr x1 (24 - 8 * nI j)).toInt64) 0)).1 2 (z + j) = bo ((zushr x1 (24 - 8 * nI j)).toInt64) 0 := by simp [sI_g]
        rw [this, ub_bo0]
      · have : (sI (sI τ 1 1 (nI (z + i + 1))) 2 (z + i) (bo ((zushr x1 (24 - 8 * nI i)).toInt64) 0)).1 2 (z + j) = τ.1 2 (z + j) := by simp [sI_g, hj2]
        rw [this]
        exact h4 j (by omega)
    · have : (sI (sI τ 1 1 (nI (z + i + 1))) 2 (z + i) (bo ((zushr x1 (24 - 8 * nI i)).toInt64) 0)).1 2 j = τ.1 2 j := by
        simp [sI_g, show ¬ j = z + i by omega]
      rw [this]
      exact h5 j hj
    · by_cases hj2 : j = z + i
      · subst hj2
        have : (sI (sI τ 1 1 (nI (z + i + 1))) 2 (z + i) (bo ((zushr x1 (24 - 8 * nI i)).toInt64) 0)).1 2 (z + i) = bo ((zushr x1 (24 - 8 * nI i)).toInt64) 0 := by simp [sI_g]
        rw [this]
        exact fit_nar _
      · have : (sI (sI τ 1 1 (nI (z + i + 1))) 2 (z + i) (bo ((zushr x1 (24 - 8 * nI i)).toInt64) 0)).1 2 j = τ.1 2 j := by simp [sI_g, hj2]
        rw [this]
        exact h6 j
    · intro p q hpq
      unfold Ec at hpq
      rw [sI_g, sI_g, if_neg (by omega)]
      rw [← h7.1 p q hpq]
      by_cases hp : p = 1
      · rw [if_pos hp, if_neg (by omega)]
      · rw [if_neg hp]
    · intro p q hpq
      exact h7.2 p q hpq
