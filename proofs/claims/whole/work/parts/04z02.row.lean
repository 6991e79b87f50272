/-! Row, as its methods answer -/
theorem st_ext {σ σ' : St} (h1 : ∀ a b, σ.1 a b = σ'.1 a b) (h2 : ∀ a b, σ.2 a b = σ'.2 a b) : σ = σ' := Prod.ext (funext fun a => funext fun b => h1 a b) (funext fun a => funext fun b => h2 a b)
theorem i_lt0 {i : Int32} (h : i < 0) : i.toInt < 0 := by have := Int32.lt_iff_toInt_lt.mp h; simpa using this
theorem i_ge0 {i : Int32} (h : ¬ i < 0) : 0 ≤ i.toInt := by
  have : ¬ i.toInt < 0 := fun q => h (Int32.lt_iff_toInt_lt.mpr (by simpa using q))
  omega
theorem i_le {i j : Int32} : i ≤ j ↔ i.toInt ≤ j.toInt := Int32.le_iff_toInt_le
theorem i_lt {i j : Int32} : i < j ↔ i.toInt < j.toInt := Int32.lt_iff_toInt_lt
theorem nI_i {i : Int32} (h : 0 ≤ i.toInt) : i = nI i.toNatClampNeg := by
  have hz : ¬ i < 0 := fun q => by have := i_lt0 q; omega
  obtain ⟨j, hj, rfl⟩ := nI_of hz
  rw [nI_clamp hj]
/-- Row.has -/
theorem p_X6_has {k n z : Nat} {σ : St} (hz : z < 2 ^ 31) (hs : σ.1 k 1 = nI z) (i : Int32) : f_X6_has k n i σ = some (if 0 ≤ i.toInt ∧ i.toInt < z then 1 else 0, σ) := by
  unfold f_X6_has
  rw [hs]
  have hzi := nI_toInt hz
  by_cases h0 : i < 0
  · rw [if_pos h0, if_neg (by have := i_lt0 h0; omega)]
  · rw [if_neg h0]
    have h1 := i_ge0 h0
    by_cases h2 : nI z ≤ i
    · rw [if_pos h2, if_neg (by have := i_le.mp h2; omega)]
    · rw [if_neg h2, if_pos ⟨h1, by have : ¬ (nI z).toInt ≤ i.toInt := fun q => h2 (i_le.mpr q); omega⟩]
/-- Row.shorten -/
theorem p_X6_shorten {k n z : Nat} {σ : St} (hz : z < 2 ^ 31) (hs : σ.1 k 1 = nI z) (i : Int32) : f_X6_shorten k n i σ = if 0 ≤ i.toInt ∧ i.toInt ≤ z then some (1, sI σ k 1 i) else some (0, σ) := by
  unfold f_X6_shorten
  rw [hs]
  have hzi := nI_toInt hz
  by_cases h0 : i < 0
  · rw [if_pos h0, if_neg (by have := i_lt0 h0; omega)]
  · rw [if_neg h0]
    have h1 := i_ge0 h0
    by_cases h2 : i ≤ nI z
    · rw [if_pos h2, if_pos ⟨h1, by have := i_le.mp h2; omega⟩]
      rfl
    · rw [if_neg h2, if_neg (by have : ¬ i.toInt ≤ (nI z).toInt := fun q => h2 (i_le.mpr q); omega)]
/-- byte i of a number, as a byte row holds it -/
def bo (v : Int64) (i : Nat) : Int32 := vp_nar .byte ((zlushr v (8 * nI i)).toInt32.toInt8.toInt32)
def putR (σ : St) (c K m : Nat) (v : Int64) : St := sR σ c (fun j => if K ≤ j ∧ j < K + m then bo v (j - K) else σ.1 c j)
theorem putR_0 (σ : St) (c K : Nat) (v : Int64) : putR σ c K 0 v = σ := by
  refine st_ext (fun a b => ?_) (fun _ _ => rfl)
  unfold putR
  rw [sR_g]
  by_cases h : a = c
  · subst h
    rw [if_pos rfl, if_neg (by omega)]
  · rw [if_neg h]
theorem putR_s (σ : St) (c K m : Nat) (v : Int64) : sI (putR σ c K m v) c (K + m) (bo v m) = putR σ c K (m + 1) v := by
  refine st_ext (fun a b => ?_) (fun _ _ => rfl)
  unfold putR
  rw [sI_g, sR_g, sR_g]
  by_cases h : a = c
  · subst h
    rw [if_pos rfl, if_pos rfl, if_pos rfl]
    by_cases h2 : b = K + m
    · subst h2
      rw [if_pos rfl, if_pos (by omega), Nat.add_sub_cancel_left]
    · rw [if_neg h2]
      by_cases h3 : K ≤ b ∧ b < K + m
      · rw [if_pos h3, if_pos (by omega)]
      · rw [if_neg h3, if_neg (by omega)]
  · rw [if_neg h, if_neg h, if_neg h]
theorem putR_n (σ : St) (c K m : Nat) (v : Int64) {a : Nat} (h : a ≠ c) (b : Nat) : (putR σ c K m v).1 a b = σ.1 a b := by
  unfold putR
  rw [sR_g, if_neg h]
/-- Row.put, where all of it is there -/
theorem p_X6_put {k n z K m : Nat} {σ : St} (hn : n ≤ 20000) (hz : z ≤ n) (hs : σ.1 k 1 = nI z) (hK : K + m ≤ z) (v : Int64) : f_X6_put k n (nI K) (nI m) v σ = some (putR σ (k + 1) K m v) := by
  unfold f_X6_put f_X6_put_3 zn
  refine it_run (fun a : Int32 × Int32 × Int64 × Int32 × St => ∃ i, i ≤ m ∧ a = (nI K, nI m, v, nI i, putR σ (k + 1) K i v)) (fun a => m - a.2.2.2.1.toNatClampNeg) (fun o => o = some (putR σ (k + 1) K m v)) ?_ FU _ ⟨0, Nat.zero_le _, by rw [putR_0, nI_0]⟩ (by unfold FU; show m - _ < 100000; omega)
  rintro kk a ⟨i, hi, rfl⟩ ih
  show f_X6_put_3b k n kk (nI K) (nI m) v (nI i) (putR σ (k + 1) K i v) = _
  unfold f_X6_put_3b
  by_cases h1 : m ≤ i
  · rw [if_pos (nI_le h1 (by omega))]
    rw [show i = m by omega]
  · have h2 : i < m := by omega
    rw [if_neg (nI_ge h2 (by omega)), nI_add]
    have hs2 : (putR σ (k + 1) K i v).1 k 1 = nI z := by rw [putR_n _ _ _ _ _ (by omega), hs]
    have ht := nI_toInt (n := K + i) (by omega)
    rw [p_X6_has (by omega) hs2, if_pos ⟨by rw [ht]; omega, by rw [ht]; omega⟩, bi_t, if_neg (by decide), gd_t (show ib (nI (K + i)) n from ⟨by rw [ht]; omega, by rw [ht]; omega⟩)]
    unfold zn f_X6_put_38 zn
    rw [nI_clamp (by omega), nI_1]
    have hb : vp_nar .byte ((zlushr v (8 * nI i)).toInt32.toInt8.toInt32) = bo v i := rfl
    rw [hb, putR_s]
    exact ih _ ⟨i + 1, by omega, rfl⟩ (by show m - (nI (i + 1)).toNatClampNeg < m - (nI i).toNatClampNeg; rw [nI_clamp (by omega), nI_clamp (by omega)]; omega)
