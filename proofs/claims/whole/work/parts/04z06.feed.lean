/-- the byte at place j, behind k numbers that came from place z on -/
def fby (σ : St) (z : Nat) (A : Nat → Int32) (j : Nat) : Nat := if j < z then ub (σ.1 2 j) else ub (zushr (A ((j - z) / 4)) (24 - 8 * nI ((j - z) % 4)))
def FC (σ : St) (z : Nat) (A : Nat → Int32) (k : Nat) (τ : St) : Prop := τ.1 1 1 = nI (z + 4 * k) ∧ (∀ j, j < z + 4 * k → ub (τ.1 2 j) = fby σ z A j) ∧ Bys (τ.1 2) ∧ Only Ec σ τ
def FM (ρ : St) (z : Nat) (U : Nat → Nat) (k : Nat) (τ : St) : Prop := τ.1 68 2 = nI (z + 4 * k) ∧ (∀ j, j < z + 4 * k → τ.1 69 j = nI (U j)) ∧ Only Em ρ τ
theorem Only.tr {E : Nat → Nat → Prop} {σ σ1 σ2 : St} (h1 : Only E σ σ1) (h2 : Only E σ1 σ2) : Only E σ σ2 := ⟨fun a b h => (h2.1 a b h).trans (h1.1 a b h), fun a b h => (h2.2 a b h).trans (h1.2 a b h)⟩
theorem stepC {σ τ : St} {z k : Nat} {A : Nat → Int32} (hz : z + 4 * k + 4 ≤ 1040) (h : FC σ z A k τ) : ∃ τ', f_X11_feedNumber (A k) τ = some τ' ∧ FC σ z A (k + 1) τ' := by
  obtain ⟨h1, h2, h3, h4⟩ := h
  obtain ⟨τ', e1, e2, e3, e4, e5, e6⟩ := fn_c (z := z + 4 * k) (by omega) h1 h3 (A k)
  refine ⟨τ', e1, by rw [e2]; congr 1, fun j hj => ?_, e5, h4.tr e6⟩
  by_cases hj2 : j < z + 4 * k
  · rw [e4 j hj2, h2 j hj2]
  · obtain ⟨i, rfl⟩ : ∃ i, j = z + 4 * k + i := ⟨j - (z + 4 * k), by omega⟩
    rw [e3 i (by omega)]
    unfold fby
    rw [if_neg (by omega), show z + 4 * k + i - z = 4 * k + i by omega, show (4 * k + i) / 4 = k by omega, show (4 * k + i) % 4 = i by omega]
theorem stepM {ρ τ : St} {z k : Nat} {A : Nat → Int32} {U : Nat → Nat} (hU : ∀ j, z ≤ j → U j = ub (zushr (A ((j - z) / 4)) (24 - 8 * nI ((j - z) % 4)))) (hz : z + 4 * k + 4 ≤ 1040) (h : FM ρ z U k τ) : ∃ τ', f_X12_come (A k) τ = some τ' ∧ FM ρ z U (k + 1) τ' := by
  obtain ⟨h1, h2, h4⟩ := h
  obtain ⟨τ', e1, e2, e3, e4, e6⟩ := fn_m (z := z + 4 * k) (by omega) h1 (A k)
  refine ⟨τ', e1, by rw [e2]; congr 1, fun j hj => ?_, h4.tr e6⟩
  by_cases hj2 : j < z + 4 * k
  · rw [e4 j hj2, h2 j hj2]
  · obtain ⟨i, rfl⟩ : ∃ i, j = z + 4 * k + i := ⟨j - (z + 4 * k), by omega⟩
    rw [e3 i (by omega), hU _ (by omega), show z + 4 * k + i - z = 4 * k + i by omega, show (4 * k + i) / 4 = k by omega, show (4 * k + i) % 4 = i by omega]
theorem e_feed {σ : St} (hT : Rtape σ) (a b c d e : Int32) : ∃ (r : Int32) (σ1 σ2 : St), f_X11_feed a b c d e σ = some (r, σ1) ∧ f_X12_feed a b c d e σ1 = some (r, σ2) ∧ Rtape σ2 ∧ Only Etape σ σ2 ∧ σ2.1 68 0 = 0 := by
  obtain ⟨z, hz, h1, h2, h3, h4⟩ := hT
  unfold f_X11_feed f_X12_feed
  dsimp only [zn]
  rw [h1, show nI z + 20 = nI (z + 20) from nI_add z 20]
  by_cases hz2 : z + 20 ≤ 1040
  · obtain ⟨A, hA⟩ : ∃ A : Nat → Int32, A = fun k => [a, b, c, d, e].getD k 0 := ⟨_, rfl⟩
    have hA0 : A 0 = a := by rw [hA]; rfl
    have hA1 : A 1 = b := by rw [hA]; rfl
    have hA2 : A 2 = c := by rw [hA]; rfl
    have hA3 : A 3 = d := by rw [hA]; rfl
    have hA4 : A 4 = e := by rw [hA]; rfl
    have c0 : FC σ z A 0 σ := ⟨h1, fun j hj => by unfold fby; rw [if_pos (by omega)], h4, fun _ _ _ => rfl, fun _ _ _ => rfl⟩
    obtain ⟨s1, f1, c1⟩ := stepC (by omega) c0
    obtain ⟨s2, f2, c2⟩ := stepC (by omega) c1
    obtain ⟨s3, f3, c3⟩ := stepC (by omega) c2
    obtain ⟨s4, f4, c4⟩ := stepC (by omega) c3
    obtain ⟨s5, f5, c5⟩ := stepC (by omega) c4
    rw [hA0] at f1
    rw [hA1] at f2
    rw [hA2] at f3
    rw [hA3] at f4
    rw [hA4] at f5
    obtain ⟨g1, g2, g3, g4⟩ := c5
    have m0 : FM (sI s5 68 0 0) z (fby σ z A) 0 (sI s5 68 0 0) := by
      refine ⟨?_, fun j hj => ?_, fun _ _ _ => rfl, fun _ _ _ => rfl⟩
      · have := g4.1 68 2 (by unfold Ec; omega)
        simp [sI_g, this, h2]
      · have := g4.1 69 j (by unfold Ec; omega)
        unfold fby
        rw [if_pos (by omega)]
        simp [sI_g, this, h3 j (by omega)]
    have hU : ∀ j, z ≤ j → fby σ z A j = ub (zushr (A ((j - z) / 4)) (24 - 8 * nI ((j - z) % 4))) := fun j hj => by unfold fby; rw [if_neg (by omega)]
    obtain ⟨t1, k1, m1⟩ := stepM hU (by omega) m0
    obtain ⟨t2, k2, m2⟩ := stepM hU (by omega) m1
    obtain ⟨t3, k3, m3⟩ := stepM hU (by omega) m2
    obtain ⟨t4, k4, m4⟩ := stepM hU (by omega) m3
    obtain ⟨t5, k5, m5⟩ := stepM hU (by omega) m4
    rw [hA0] at k1
    rw [hA1] at k2
    rw [hA2] at k3
    rw [hA3] at k4
    rw [hA4] at k5
    obtain ⟨n1, n2, n3⟩ := m5
    refine ⟨nI (z + 20), s5, t5, ?_, ?_, ?_, ?_, ?_⟩
    · rw [if_pos (show nI (z + 20) ≤ 1040 from nI_le (b := 1040) hz2 (by decide)), f1, bv_t, f2, bv_t, f3, bv_t, f4, bv_t, f5, bv_t, g1]
    · rw [m0.1, show nI (z + 4 * 0) + 20 = nI (z + 20) from nI_add z 20, if_pos (show nI (z + 20) ≤ 1040 from nI_le (b := 1040) hz2 (by decide)), k1, bv_t, k2, bv_t, k3, bv_t, k4, bv_t, k5, bv_t, n1]
    · have q2 : ∀ j, t5.1 2 j = s5.1 2 j := fun j => by rw [n3.1 2 j (by unfold Em; omega)]; simp [sI_g]
      refine ⟨z + 20, hz2, ?_, n1, fun j hj => ?_, fun j => by rw [q2]; exact g3 j⟩
      · rw [n3.1 1 1 (by unfold Em; omega)]
        simp [sI_g, g1]
      · rw [n2 j hj, q2, g2 j hj]
    · refine ⟨fun p q hpq => ?_, fun p q hpq => ?_⟩
      · unfold Etape at hpq
        rw [n3.1 p q (by unfold Em; omega), sI_g]
        rw [← g4.1 p q (by unfold Ec; omega)]
        by_cases hp : p = 68
        · rw [if_pos hp, if_neg (by omega)]
        · rw [if_neg hp]
      · unfold Etape at hpq
        rw [n3.2 p q (by unfold Em; omega)]
        exact g4.2 p q (by unfold Ec; omega)
    · rw [n3.1 68 0 (by unfold Em; omega)]
      simp [sI_g]
  · refine ⟨-1, σ, sI σ 68 0 0, ?_, ?_, ?_, ?_, ?_⟩
    · rw [if_neg (show ¬ nI (z + 20) ≤ 1040 from nI_ge (a := 1040) (by omega) (by omega))]
    · have e1 : (sI σ 68 0 0).1 68 2 = nI z := by simp [sI_g, h2]
      rw [e1, show nI z + 20 = nI (z + 20) from nI_add z 20, if_neg (show ¬ nI (z + 20) ≤ 1040 from nI_ge (a := 1040) (by omega) (by omega))]
    · refine ⟨z, hz, by simp [sI_g, h1], by simp [sI_g, h2], fun j hj => ?_, fun j => ?_⟩
      · have := h3 j hj
        simpa [sI_g] using this
      · have := h4 j
        simpa [sI_g] using this
    · refine ⟨fun p q hpq => ?_, fun _ _ _ => rfl⟩
      unfold Etape at hpq
      rw [sI_g]
      by_cases hp : p = 68
      · rw [if_pos hp, if_neg (by omega)]
      · rw [if_neg hp]
    · simp [sI_g]
