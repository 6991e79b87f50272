theorem putR_1 (σ : St) (c K : Nat) (v : Int64) : putR σ c K 1 v = sI σ c K (bo v 0) := by
  rw [← putR_s σ c K 0 v, putR_0]
  rfl
/-- Row.add -/
theorem p_X6_add {k n z m : Nat} {σ : St} (hn : n ≤ 20000) (hz : z ≤ n) (hm : m ≤ 20000) (hs : σ.1 k 1 = nI z) (v : Int64) : f_X6_add k n (nI m) v σ = some (if z + m ≤ n then putR (sI σ k 1 (nI (z + m))) (k + 1) z m v else σ) := by
  unfold f_X6_add
  rw [if_neg (nI_pos (by omega)), hs]
  have e1 : Int32.ofNat n - nI z = nI (n - z) := pk_sub hz
  rw [e1]
  by_cases h : z + m ≤ n
  · rw [if_neg (nI_nlt (by omega) (by omega)), if_pos h]
    dsimp only [zn]
    rw [nI_add]
    have e2 : (sI σ k 1 (nI (z + m))).1 k 1 = nI (z + m) := by rw [sI_g, if_pos rfl, if_pos rfl]
    rw [e2, pk_sub (by omega), Nat.add_sub_cancel, p_X6_put hn (by omega) e2 (Nat.le_refl _), bv_t]
  · rw [if_pos (nI_lt (by omega) (by omega)), if_neg h]
theorem ub_set (x : Int32) : ub x = (x.toBitVec.setWidth 8).toNat := by
  unfold ub
  rw [BitVec.toNat_setWidth]
theorem ub_8 (x : Int32) : ub (x.toInt8.toInt32) = ub x := by
  rw [ub_set, ub_set]
  congr 1
  rw [Int8.toBitVec_toInt32, Int32.toBitVec_toInt8, BitVec.signExtend_eq_setWidth_of_le x.toBitVec (by decide : 8 ≤ 32)]
  apply BitVec.eq_of_getLsbD_eq
  intro i hi
  rw [BitVec.getLsbD_setWidth, BitVec.getLsbD_signExtend]
  simp [hi, show i < 32 by omega]
theorem ub_nar (x : Int32) : ub (vp_nar .byte x) = ub x := by rw [vp_nar_byte, ub_8]
theorem zlushr_0 (v : Int64) : zlushr v (8 * nI 0) = v := by
  unfold zlushr
  have e : ((8 * nI 0 : Int32).toInt64.toUInt64 &&& Int64.toUInt64 63) = 0 := by decide
  rw [e]
  apply Int64.toBitVec_inj.mp
  simp
theorem ub_bo0 (x : Int32) : ub (bo x.toInt64 0) = ub x := by
  unfold bo
  rw [zlushr_0, ub_nar, ub_8, Int32.toInt32_toInt64]
/-! the tape -/
def Bys (f : Nat → Int32) : Prop := ∀ j, fits .byte (.int (f j)) = true
def Rtape (σ : St) : Prop := ∃ n, n ≤ 1040 ∧ σ.1 1 1 = nI n ∧ σ.1 68 2 = nI n ∧ (∀ j, j < n → σ.1 69 j = nI (ub (σ.1 2 j))) ∧ Bys (σ.1 2)
/-- all but some entries are the same -/
def Only (E : Nat → Nat → Prop) (σ σ' : St) : Prop := (∀ a b, ¬ E a b → σ'.1 a b = σ.1 a b) ∧ ∀ a b, ¬ E a b → σ'.2 a b = σ.2 a b
def Etape (a b : Nat) : Prop := (a = 1 ∧ b = 1) ∨ a = 2 ∨ a = 69 ∨ (a = 68 ∧ (b = 0 ∨ b = 2))
theorem e_end {σ : St} (hT : Rtape σ) (a : Int32) : ∃ (r : Int32) (σ1 σ2 : St), f_X11_end a σ = some (r, σ1) ∧ f_X12_end a σ1 = some (r, σ2) ∧ Rtape σ2 ∧ Only Etape σ σ2 ∧ σ2.1 68 0 = 0 := by
  obtain ⟨n, hn, h1, h2, h3, h4⟩ := hT
  unfold f_X11_end f_X12_end
  dsimp only [zn]
  rw [p_X6_shorten (by omega) h1]
  have hni := nI_toInt (n := n) (by omega)
  by_cases ha : 0 ≤ a.toInt ∧ a.toInt ≤ n
  · refine ⟨1, sI σ 1 1 a, sI (sI (sI σ 1 1 a) 68 0 0) 68 2 a, ?_, ?_, ?_, ?_, ?_⟩
    · rw [if_pos ha, bi_t]
      rfl
    · have e1 : (sI (sI σ 1 1 a) 68 0 0).1 68 2 = nI n := by simp [sI_g, h2]
      rw [e1, if_neg (fun q => by have := i_lt0 q; omega), if_pos (i_le.mpr (by omega))]
    · obtain ⟨m, hm⟩ : ∃ m : Nat, a.toInt = m := ⟨a.toInt.toNat, by omega⟩
      have ea : a = nI m := by rw [← Int32.toInt_inj, nI_toInt (by omega)]; exact hm
      refine ⟨m, by omega, by simp [sI_g, ea], by simp [sI_g, ea], fun j hj => ?_, fun j => ?_⟩
      · have := h3 j (by omega)
        simpa [sI_g] using this
      · have := h4 j
        simpa [sI_g] using this
    · refine ⟨fun p q hpq => ?_, fun _ _ _ => rfl⟩
      unfold Etape at hpq
      rw [sI_g, sI_g, sI_g]
      split <;> split <;> try split
      all_goals first | rfl | (exfalso; apply hpq; omega) | skip
      all_goals (try split) <;> first | rfl | (exfalso; apply hpq; omega) | skip
    · simp [sI_g]
  · refine ⟨0, σ, sI σ 68 0 0, ?_, ?_, ?_, ?_, ?_⟩
    · rw [if_neg ha, bi_t]
      rfl
    · have e1 : (sI σ 68 0 0).1 68 2 = nI n := by simp [sI_g, h2]
      rw [e1]
      by_cases h0 : a < 0
      · rw [if_pos h0]
      · rw [if_neg h0, if_neg (fun q => ha ⟨i_ge0 h0, by have := i_le.mp q; omega⟩)]
    · refine ⟨n, hn, by simp [sI_g, h1], by simp [sI_g, h2], fun j hj => ?_, fun j => ?_⟩
      · have := h3 j hj
        simpa [sI_g] using this
      · have := h4 j
        simpa [sI_g] using this
    · refine ⟨fun p q hpq => ?_, fun _ _ _ => rfl⟩
      unfold Etape at hpq
      rw [sI_g]
      split
      · split
        · exfalso; apply hpq; omega
        · rfl
      · rfl
    · simp [sI_g]
