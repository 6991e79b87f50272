/-! reading behind a write -/
theorem sI_g (σ : St) (k j : Nat) (v : Int32) (a b : Nat) : (sI σ k j v).1 a b = if a = k then (if b = j then v else σ.1 a b) else σ.1 a b := by
  by_cases h : a = k
  · subst h
    rw [sI_1, if_pos rfl]
    by_cases h2 : b = j
    · subst h2
      rw [if_pos rfl, pk_us]
    · rw [if_neg h2, pk_un h2]
  · rw [sI_n a h, if_neg h]
theorem sI_l (σ : St) (k j : Nat) (v : Int32) : (sI σ k j v).2 = σ.2 := rfl
theorem sJ_g (σ : St) (k j : Nat) (v : Int64) (a b : Nat) : (sJ σ k j v).2 a b = if a = k then (if b = j then v else σ.2 a b) else σ.2 a b := by
  by_cases h : a = k
  · subst h
    rw [sJ_1, if_pos rfl]
    by_cases h2 : b = j
    · subst h2
      rw [if_pos rfl, pk_uLs]
    · rw [if_neg h2, pk_uLn h2]
  · rw [sJ_n a h, if_neg h]
theorem sJ_l (σ : St) (k j : Nat) (v : Int64) : (sJ σ k j v).1 = σ.1 := rfl
theorem sR_g (σ : St) (k : Nat) (f : Nat → Int32) (a b : Nat) : (sR σ k f).1 a b = if a = k then f b else σ.1 a b := by
  by_cases h : a = k
  · subst h
    rw [sR_1, if_pos rfl]
  · rw [sR_n a h, if_neg h]
theorem sR_l (σ : St) (k : Nat) (f : Nat → Int32) : (sR σ k f).2 = σ.2 := rfl
/-! a loop: what holds of all that come after holds of it -/
theorem it_run {α β : Type} {F : (α → Option β) → α → Option β} (I : α → Prop) (μ : α → Nat) (Post : Option β → Prop) (hs : ∀ (k : α → Option β) (a : α), I a → (∀ a', I a' → μ a' < μ a → Post (k a')) → Post (F k a)) : ∀ (n : Nat) (a : α), I a → μ a < n → Post (it F n a) := by
  intro n
  induction n with
  | zero => intro a _ h; exact absurd h (Nat.not_lt_zero _)
  | succ n ih =>
    intro a ha hm
    exact hs _ a ha (fun a' h1 h2 => ih a' h1 (Nat.lt_of_lt_of_le h2 (Nat.le_of_lt_succ hm)))
/-! nothing else has changed -/
def Fr (S : List Nat) (σ σ' : St) : Prop := ∀ a, a ∉ S → σ'.1 a = σ.1 a ∧ σ'.2 a = σ.2 a
theorem Fr.rf {S : List Nat} {σ : St} : Fr S σ σ := fun _ _ => ⟨rfl, rfl⟩
theorem Fr.tr {S : List Nat} {σ σ1 σ2 : St} (h1 : Fr S σ σ1) (h2 : Fr S σ1 σ2) : Fr S σ σ2 := fun a ha => ⟨(h2 a ha).1.trans (h1 a ha).1, (h2 a ha).2.trans (h1 a ha).2⟩
theorem Fr.sI {S : List Nat} {σ σ1 : St} (h1 : Fr S σ σ1) {k j : Nat} {v : Int32} (hk : k ∈ S) : Fr S σ (sI σ1 k j v) := fun a ha => ⟨(sI_n a (fun e => ha (e ▸ hk))).trans (h1 a ha).1, (h1 a ha).2⟩
theorem Fr.sJ {S : List Nat} {σ σ1 : St} (h1 : Fr S σ σ1) {k j : Nat} {v : Int64} (hk : k ∈ S) : Fr S σ (sJ σ1 k j v) := fun a ha => ⟨(h1 a ha).1, (sJ_n a (fun e => ha (e ▸ hk))).trans (h1 a ha).2⟩
theorem Fr.sR {S : List Nat} {σ σ1 : St} (h1 : Fr S σ σ1) {k : Nat} {f : Nat → Int32} (hk : k ∈ S) : Fr S σ (sR σ1 k f) := fun a ha => ⟨(sR_n a (fun e => ha (e ▸ hk))).trans (h1 a ha).1, (h1 a ha).2⟩
/-! a byte of a byte row, as a number -/
def ub (x : Int32) : Nat := x.toBitVec.toNat % 256
theorem ub_lt (x : Int32) : ub x < 256 := Nat.mod_lt _ (by decide)
theorem and255 (x : Int32) : x &&& 255 = nI (ub x) := pk_and x 8 (by decide)
/-- Row.at -/
theorem p_X6_at {k n z : Nat} {σ : St} (hn : n < 2 ^ 31) (hz : z ≤ n) (hs : σ.1 k 1 = nI z) (i : Int32) : f_X6_at k n i σ = some (if 0 ≤ i.toInt ∧ i.toInt < z then nI (ub (σ.1 (k + 1) i.toNatClampNeg)) else 0, σ) := by
  unfold f_X6_at
  rw [hs]
  have hzi := nI_toInt (n := z) (by omega)
  by_cases h0 : i < 0
  · rw [if_pos h0]
    have : i.toInt < 0 := by have := Int32.lt_iff_toInt_lt.mp h0; simpa using this
    rw [if_neg (by omega)]
  · rw [if_neg h0]
    have h1 : 0 ≤ i.toInt := by
      have : ¬ i.toInt < 0 := fun q => h0 (Int32.lt_iff_toInt_lt.mpr (by simpa using q))
      omega
    by_cases h2 : nI z ≤ i
    · rw [if_pos h2]
      have := Int32.le_iff_toInt_le.mp h2
      rw [if_neg (by omega)]
    · rw [if_neg h2]
      have h3 : i.toInt < z := by
        have : ¬ (nI z).toInt ≤ i.toInt := fun q => h2 (Int32.le_iff_toInt_le.mpr q)
        omega
      rw [gd_t (show ib i n from ⟨h1, by omega⟩), if_pos ⟨h1, h3⟩, and255]
