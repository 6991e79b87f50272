theorem lN_bv (x : Nat) : (lN x).toBitVec = BitVec.ofNat 64 x := rfl
theorem or8 (x b : Nat) (hb : b < 256) : ((BitVec.ofNat 64 x) <<< 8) ||| BitVec.ofNat 64 b = BitVec.ofNat 64 (x * 256 + b) := by
  apply BitVec.eq_of_toNat_eq
  rw [BitVec.toNat_or, BitVec.toNat_shiftLeft, BitVec.toNat_ofNat, BitVec.toNat_ofNat, BitVec.toNat_ofNat, Nat.shiftLeft_eq, Nat.mod_eq_of_lt (a := b) (by omega)]
  have e : x % 2 ^ 64 * 2 ^ 8 % 2 ^ 64 = (x % 2 ^ 56) * 2 ^ 8 := by omega
  rw [e, ← Nat.shiftLeft_eq, ← Nat.shiftLeft_add_eq_or_of_lt (show b < 2 ^ 8 by omega), Nat.shiftLeft_eq]
  omega
theorem zl8 (x b : Nat) (hb : b < 256) : zlshl (lN x) 8 ||| (nI b).toInt64 = lN (x * 256 + b) := by
  rw [nI_l (by omega)]
  apply Int64.toBitVec_inj.mp
  rw [Int64.toBitVec_or, lN_bv, lN_bv, ← or8 x b hb]
  congr 1
def nbf (f : Nat → Nat) : Nat → Nat → Nat
  | _, 0 => 0
  | k, m + 1 => f k + 256 * nbf f (k + 1) m
def rb (σ : St) (c z : Nat) (j : Nat) : Nat := if j < z then ub (σ.1 c j) else 0
theorem rb_lt (σ : St) (c z j : Nat) : rb σ c z j < 256 := by
  unfold rb
  split
  · exact ub_lt _
  · decide
/-- Row.number -/
theorem p_X6_number {k n z K m : Nat} {σ : St} (hn : n ≤ 20000) (hz : z ≤ n) (hs : σ.1 k 1 = nI z) (hm : m ≤ 8) (hK : K + m < 2 ^ 31) : f_X6_number k n (nI K) (nI m) σ = some (lN (nbf (rb σ (k + 1) z) K m), σ) := by
  unfold f_X6_number f_X6_number_7
  dsimp only [zn]
  have h0 : nI m - 1 = nI m + nI 0 - 1 := by rw [nI_add]; rfl
  refine it_run (F := fun Q a => f_X6_number_7b k n Q a.1 a.2.1 a.2.2.1 a.2.2.2) (fun q : Int32 × Int64 × Int32 × St => ∃ i, i ≤ m ∧ q = (nI K, lN (nbf (rb σ (k + 1) z) (K + i) (m - i)), nI i - 1, σ)) (fun q => (q.2.2.1 + 1).toNatClampNeg) (fun o => o = some (lN (nbf (rb σ (k + 1) z) K m), σ)) ?_ FU (nI K, 0, nI m - 1, σ) ⟨m, Nat.le_refl _, by rw [Nat.sub_self]; rfl⟩ (by
    show (nI m - 1 + 1).toNatClampNeg < FU
    rw [show nI m - 1 + 1 = nI m by simp [Int32.sub_add_cancel], nI_clamp (by omega)]
    unfold FU
    omega)
  rintro kk q ⟨i, hi, rfl⟩ ih
  dsimp only at ih ⊢
  unfold f_X6_number_7b
  cases i with
  | zero =>
    rw [if_pos (show nI 0 - 1 < 0 by decide)]
    rfl
  | succ i =>
    rw [nI_pred, if_neg (nI_pos (by omega)), nI_add]
    dsimp only [zn]
    rw [if_neg (nI_pos (by omega)), hs]
    have key : ∀ b : Nat, b = rb σ (k + 1) z (K + i) → f_X6_number_51 k n kk (nI K) (nI i) (nI b) (zlshl (lN (nbf (rb σ (k + 1) z) (K + (i + 1)) (m - (i + 1)))) 8) σ = some (lN (nbf (rb σ (k + 1) z) K m), σ) := by
      intro b hb
      unfold f_X6_number_51
      dsimp only [zn]
      rw [zl8 _ _ (by rw [hb]; exact rb_lt _ _ _ _)]
      refine ih _ ⟨i, by omega, ?_⟩ ?_
      · have e1 : m - i = (m - (i + 1)) + 1 := by omega
        rw [e1]
        show _ = (nI K, lN (rb σ (k + 1) z (K + i) + 256 * nbf (rb σ (k + 1) z) (K + i + 1) (m - (i + 1))), nI i - 1, σ)
        rw [hb, Nat.mul_comm, Nat.add_comm, Nat.add_assoc K i 1, Int32.sub_eq_add_neg]
      · show (nI i + (-1) + 1).toNatClampNeg < (nI (i + 1) - 1 + 1).toNatClampNeg
        rw [nI_pred, show nI i + (-1) + 1 = nI i by simp [Int32.add_assoc], nI_1, nI_clamp (by omega), nI_clamp (by omega)]
        omega
    by_cases h2 : z ≤ K + i
    · rw [if_pos (nI_le h2 (by omega))]
      unfold f_X6_number_50
      exact key 0 (by unfold rb; rw [if_neg (by omega)])
    · have ht := nI_toInt (n := K + i) (by omega)
      rw [if_neg (nI_ge (by omega) (by omega)), gd_t (show ib (nI (K + i)) n from ⟨by rw [ht]; omega, by rw [ht]; omega⟩), nI_clamp (by omega), and255]
      exact key _ (by unfold rb; rw [if_pos (by omega)])
