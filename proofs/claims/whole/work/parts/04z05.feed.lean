def Em (a b : Nat) : Prop := (a = 68 ∧ b = 2) ∨ a = 69
/-- one number comes to the tape: the reference -/
theorem fn_m {z : Nat} {σ : St} (hz : z + 4 ≤ 1040) (hs : σ.1 68 2 = nI z) (a : Int32) : ∃ σ', f_X12_come a σ = some σ' ∧ σ'.1 68 2 = nI (z + 4) ∧ (∀ j, j < 4 → σ'.1 69 (z + j) = nI (ub (zushr a (24 - 8 * nI j)))) ∧ (∀ j, j < z → σ'.1 69 j = σ.1 69 j) ∧ Only Em σ σ' := by
  unfold f_X12_come f_X12_come_3
  dsimp only [zn]
  have h0 : (24 : Int32) = 24 - 8 * nI 0 := by decide
  have hm : ((24 : Int32) + 8).toNatClampNeg < FU := by unfold FU; decide
  refine it_run (F := fun K q => f_X12_come_3b K q.1 q.2.1 q.2.2) (fun q : Int32 × Int32 × St => ∃ i, i ≤ 4 ∧ q.1 = a ∧ q.2.1 = 24 - 8 * nI i ∧ q.2.2.1 68 2 = nI (z + i) ∧ (∀ j, j < i → q.2.2.1 69 (z + j) = nI (ub (zushr a (24 - 8 * nI j)))) ∧ (∀ j, j < z → q.2.2.1 69 j = σ.1 69 j) ∧ Only Em σ q.2.2) (fun q => (q.2.1 + 8).toNatClampNeg) (fun o => ∃ σ', o = some σ' ∧ σ'.1 68 2 = nI (z + 4) ∧ (∀ j, j < 4 → σ'.1 69 (z + j) = nI (ub (zushr a (24 - 8 * nI j)))) ∧ (∀ j, j < z → σ'.1 69 j = σ.1 69 j) ∧ Only Em σ σ') ?_ FU (a, 24, σ) ⟨0, by omega, rfl, h0, hs, fun j hj => absurd hj (Nat.not_lt_zero _), fun _ _ => rfl, fun _ _ _ => rfl, fun _ _ _ => rfl⟩ hm
  rintro kk ⟨x1, x2, τ⟩ ⟨i, hi, h1, h2, h3, h4, h5, h7⟩ ih
  dsimp only at h1 h2 h3 h4 h5 h7 ih ⊢
  subst h1
  subst h2
  unfold f_X12_come_3b
  by_cases h8 : i = 4
  · subst h8
    rw [if_pos (by decide)]
    exact ⟨τ, rfl, h3, h4, h5, h7⟩
  · obtain ⟨g1, g2, g3⟩ := sh_ok (i := i) (by omega)
    have ht := nI_toInt (n := z + i) (by omega)
    rw [if_neg g1, h3, gd_t (show ib (nI (z + i)) 1040 from ⟨by rw [ht]; omega, by rw [ht]; omega⟩)]
    dsimp only [zn]
    have e1 : ∀ w : Int32, (sI τ 69 (nI (z + i)).toNatClampNeg w).1 68 2 = nI (z + i) := fun w => by simp [sI_g, h3]
    rw [e1, nI_1, g2, nI_clamp (by omega), and255]
    generalize hv : nI (ub (zushr x1 (24 - 8 * nI i))) = vv
    refine ih _ ⟨i + 1, by omega, rfl, rfl, ?_, fun j hj => ?_, fun j hj => ?_, ?_, ?_⟩ g3
    · simp [sI_g, Nat.add_assoc]
    · by_cases hj2 : j = i
      · subst hj2
        simp [sI_g, hv]
      · have : (sI (sI τ 69 (z + i) vv) 68 2 (nI (z + i + 1))).1 69 (z + j) = τ.1 69 (z + j) := by simp [sI_g, hj2]
        rw [this]
        exact h4 j (by omega)
    · have : (sI (sI τ 69 (z + i) vv) 68 2 (nI (z + i + 1))).1 69 j = τ.1 69 j := by simp [sI_g, show ¬ j = z + i by omega]
      rw [this]
      exact h5 j hj
    · intro p q hpq
      have hpq' := hpq
      unfold Em at hpq
      rw [sI_g, sI_g]
      by_cases hp : p = 68
      · rw [if_pos hp, if_neg (by omega), if_neg (by omega)]
        exact h7.1 p q hpq'
      · rw [if_neg hp, if_neg (by omega)]
        exact h7.1 p q hpq'
    · intro p q hpq
      exact h7.2 p q hpq
