/-! rows grow -/
theorem c_addFrom {k0 n0 k1 n1 z fr c : Nat} {σ : St} (hs : σ.1 k0 1 = nI z) (h1 : z + c ≤ n0) (h2 : fr + c ≤ n1) (hn0 : n0 ≤ 20000) (hn1 : n1 ≤ 20000) (hB : ∀ i, i < c → fits .byte (.int (σ.1 k1 (fr + i))) = true) : f_X6_addFrom k0 n0 k1 n1 (nI fr) (nI c) σ = some (sI (sR σ (k0 + 1) (va_cpy (σ.1 k1) (σ.1 (k0 + 1)) fr z c)) k0 1 (nI (z + c))) := by
  have q1 : (nI fr).toNatClampNeg = fr := nI_clamp (by omega)
  have q2 : (nI z).toNatClampNeg = z := nI_clamp (by omega)
  have q3 : (nI c).toNatClampNeg = c := nI_clamp (by omega)
  have e : cpOk σ k1 n1 n0 (nI fr) (σ.1 k0 1) (nI c) := by
    rw [hs]
    exact ⟨nI_pos (by omega), nI_pos (by omega), nI_pos (by omega), by rw [q1, q3]; exact h2, by rw [q2, q3]; exact h1, fun i hi => by rw [q3] at hi; rw [q1]; exact hB i hi⟩
  unfold f_X6_addFrom
  rw [if_neg (nI_pos (by omega)), if_neg (nI_pos (by omega)), show Int32.ofNat n1 - nI fr = nI (n1 - fr) from pk_sub (by omega), if_neg (nI_nlt (by omega) (by omega)), gd_t e, hs, show Int32.ofNat n0 - nI z = nI (n0 - z) from pk_sub (by omega), if_neg (nI_nlt (by omega) (by omega))]
  dsimp only [zn]
  rw [q1, q2, q3, sR_g, if_neg (by omega), hs, nI_add]
theorem c_fill {k n a c : Nat} {σ : St} (h : a + c ≤ n) (hn : n ≤ 20000) : f_J7_fill_eb02e k n (nI a) (nI (a + c)) 0 σ = some (sR σ k (fun j => if a ≤ j ∧ j < a + c then 0 else σ.1 k j)) := by
  unfold f_J7_fill_eb02e f_J7_rangeCheck_23922
  rw [if_pos (nI_le (by omega) (by omega)), if_pos (nI_pos' (by omega)), show Int32.ofNat n = nI n from rfl, if_pos (nI_le h (by omega)), bv_t]
  unfold f_J7_fill_eb02e_10
  refine it_for (F := fun K q => f_J7_fill_eb02e_10b k n K q.1 q.2.1 q.2.2.1 q.2.2.2) (fun i (q : Int32 × Int32 × Int32 × St) => q = (nI (a + c), 0, nI (a + i), sR σ k (fun j => if a ≤ j ∧ j < a + i then 0 else σ.1 k j))) c (fun o => o = some (sR σ k (fun j => if a ≤ j ∧ j < a + c then 0 else σ.1 k j))) ?_ ?_ FU 0 _ (by omega) (FU_lt (by omega)) ?_
  · rintro K q rfl
    dsimp only
    unfold f_J7_fill_eb02e_10b
    rw [if_pos (nI_le (Nat.le_refl _) (by omega))]
  · rintro K i q hi rfl ih
    dsimp only
    unfold f_J7_fill_eb02e_10b
    rw [if_neg (nI_ge (by omega) (by omega)), ev_ib (by omega) (by omega), nI_clamp (by omega)]
    dsimp only [zn]
    rw [nI_1, show vp_nar .byte 0 = 0 from by decide]
    have e : sI (sR σ k (fun j => if a ≤ j ∧ j < a + i then 0 else σ.1 k j)) k (a + i) 0 = sR σ k (fun j => if a ≤ j ∧ j < a + (i + 1) then 0 else σ.1 k j) := by
      refine st_ext (fun x y => ?_) (fun _ _ => rfl)
      rw [sI_g, sR_g, sR_g]
      by_cases hx : x = k
      · rw [if_pos hx, if_pos hx, if_pos hx]
        by_cases hy : y = a + i
        · rw [if_pos hy, if_pos (by omega)]
        · rw [if_neg hy]
          by_cases hy2 : a ≤ y ∧ y < a + i
          · rw [if_pos hy2, if_pos (by omega)]
          · rw [if_neg hy2, if_neg (by omega)]
      · rw [if_neg hx, if_neg hx, if_neg hx]
    rw [e]
    exact ih _ rfl
  · have e : sR σ k (fun j => if a ≤ j ∧ j < a + 0 then 0 else σ.1 k j) = σ := by
      refine st_ext (fun x y => ?_) (fun _ _ => rfl)
      rw [sR_g]
      by_cases hx : x = k
      · rw [if_pos hx, if_neg (by omega), hx]
      · rw [if_neg hx]
    rw [e]
    rfl
theorem c_addZeros {k0 n0 z c : Nat} {σ : St} (hs : σ.1 k0 1 = nI z) (h1 : z + c ≤ n0) (hn0 : n0 ≤ 20000) : f_X6_addZeros k0 n0 (nI c) σ = some (sI (sR σ (k0 + 1) (fun j => if z ≤ j ∧ j < z + c then 0 else σ.1 (k0 + 1) j)) k0 1 (nI (z + c))) := by
  unfold f_X6_addZeros
  rw [if_neg (nI_pos (by omega)), hs, show Int32.ofNat n0 - nI z = nI (n0 - z) from pk_sub (by omega), if_neg (nI_nlt (by omega) (by omega)), nI_add, c_fill h1 hn0, bv_t]
  dsimp only [zn]
  rw [sR_g, if_neg (by omega), hs, nI_add]
/-! bytes of a number -/
theorem lN_ex (v : Int64) : ∃ x, x < 2 ^ 64 ∧ v = lN x := ⟨v.toBitVec.toNat, v.toBitVec.isLt, by
  apply Int64.toBitVec_inj.mp
  apply BitVec.eq_of_toNat_eq
  rw [lN_tn v.toBitVec.isLt]⟩
def byt (x i : Nat) : Nat := x / 2 ^ (8 * i) % 256
theorem byt_lt (x i : Nat) : byt x i < 256 := Nat.mod_lt _ (by decide)
theorem i8 {i : Nat} (h : i < 8) : i = 0 ∨ i = 1 ∨ i = 2 ∨ i = 3 ∨ i = 4 ∨ i = 5 ∨ i = 6 ∨ i = 7 := by omega
theorem m_byt {x i : Nat} (hx : x < 2 ^ 64) (hi : i < 8) : (zlshr (lN x) (nI (8 * i))).toInt32 &&& nI 255 = nI (byt x i) := by
  refine zlshr_low (m := 8) hx _ _ (8 * i) ?_ (by decide) (by omega) (by decide) (by omega)
  rcases i8 hi with h | h | h | h | h | h | h | h <;> subst h <;> decide
theorem ub_nIw (n : Nat) : ub (nI n) = n % 256 := by
  unfold ub
  show n % 2 ^ 32 % 256 = n % 256
  omega
theorem ub_bo {x i : Nat} (hx : x < 2 ^ 64) (hi : i < 8) : ub (bo (lN x) i) = byt x i := by
  unfold bo
  have e : zlushr (lN x) (8 * nI i) = lN (x / 2 ^ (8 * i)) := by
    refine zlushr_N hx _ (8 * i) (by omega) ?_
    rcases i8 hi with h | h | h | h | h | h | h | h <;> subst h <;> decide
  rw [e, ub_nar, ub_8, lN_i, ub_nIw]
  rfl
