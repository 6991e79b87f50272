/-! what is written, as numbers -/
theorem ch1 {n : Nat} {P : Nat → Nat → Prop} (h : ∀ k, k < n → ∃ v, P k v) : ∃ f : Nat → Nat, ∀ k, k < n → P k (f k) :=
  ⟨fun k => if g : k < n then (h k g).choose else 0, fun k hk => by dsimp only; rw [dif_pos hk]; exact (h k hk).choose_spec⟩
def DOK (D : Nat → Nat → Nat) : Prop := (D 0 0) ≤ 4 ∧ (D 0 1) ≤ 8 ∧ (D 0 2) ≤ 20 ∧ (D 0 3) ≤ 20 ∧ (D 0 4) ≤ 100 ∧ isPg (D 0 5) ∧ (D 0 6) ≤ 1073741824 ∧
  (NmOK (D 0 0) (D 5) (D 4) ∧ NmOK (D 0 1) (D 10) (D 9) ∧ NmOK (D 0 2) (D 14) (D 13) ∧ NmOK (D 0 3) (D 18) (D 17)) ∧
  (∀ s, s < (D 0 0) → 1 ≤ D 1 s ∧ D 1 s ≤ 1024 ∧ D 2 s ≤ 7) ∧ (∀ j, j < 1024 * (D 0 0) → D 3 j < 256) ∧
  (∀ k, k < (D 0 1) → D 6 k < (D 0 0) ∧ D 7 k + D 8 k ≤ 1024) ∧
  (∀ k, k < (D 0 2) → D 11 k < (D 0 1) ∧ D 12 k ≤ 1024) ∧
  (∀ k, k < (D 0 3) → 1 ≤ D 15 k ∧ D 15 k ≤ 3 ∧ D 16 k ≤ 1) ∧
  (∀ k, k < (D 0 4) → D 20 k < (D 0 0) ∧ D 21 k + 8 ≤ D 1 (D 20 k) ∧ D 21 k % 4 = 0 ∧ D 21 k % (D 0 5) + 8 ≤ (D 0 5) ∧ D 23 k < 256 ∧ D 24 k ≤ 1 ∧ D 22 k < 2 ^ 36 ∧ (D 24 k = 1 → D 22 k < 2 ^ 24)) ∧
  (∀ i j, i < j → j < (D 0 4) → D 20 i < D 20 j ∨ (D 20 i = D 20 j ∧ D 21 i + 8 ≤ D 21 j))
def DC (D : Nat → Nat → Nat) (σ : St) : Prop := (σ.1 6 2 = nI (D 0 0) ∧ σ.1 12 2 = nI (D 0 1) ∧ σ.1 18 2 = nI (D 0 2) ∧ σ.1 23 2 = nI (D 0 3) ∧ σ.1 5 1 = nI (D 0 5) ∧ σ.1 5 0 = nI (D 0 6)) ∧
  (NmC 7 8 (D 0 0) (D 5) (D 4) σ ∧ NmC 13 14 (D 0 1) (D 10) (D 9) σ ∧ NmC 19 20 (D 0 2) (D 14) (D 13) σ ∧ NmC 24 25 (D 0 3) (D 18) (D 17) σ) ∧
  (∀ s, s < (D 0 0) → σ.1 9 s = nI (D 1 s) ∧ σ.1 10 s = nI (D 2 s)) ∧ (∀ j, j < 1024 * (D 0 0) → σ.1 11 j = sb_b (D 3 j)) ∧
  (∀ k, k < (D 0 1) → σ.1 15 k = nI (D 6 k) ∧ σ.1 16 k = nI (D 7 k) ∧ σ.1 17 k = nI (D 8 k)) ∧
  (∀ k, k < (D 0 2) → σ.1 21 k = nI (D 11 k + 1) ∧ σ.1 22 k = nI (D 12 k)) ∧
  (∀ k, k < (D 0 3) → σ.1 26 k = nI (D 15 k) ∧ σ.1 27 k = nI (D 16 k)) ∧
  (∀ k, k < (D 0 4) → σ.1 28 (256 * D 20 k + D 21 k / 4) = nI 1 ∧ σ.2 29 (256 * D 20 k + D 21 k / 4) = lN (enc (D 22 k) (D 23 k) (D 24 k))) ∧
  (∀ q, q < 1024 → σ.1 28 q = nI 0 ∨ (σ.1 28 q = nI 1 ∧ ∃ k, k < (D 0 4) ∧ q = 256 * D 20 k + D 21 k / 4))
def DM (D : Nat → Nat → Nat) (τ : St) : Prop := (τ.1 68 6 = nI (D 0 0) ∧ τ.1 68 7 = nI (D 0 1) ∧ τ.1 68 8 = nI (D 0 2) ∧ τ.1 68 9 = nI (D 0 3) ∧ τ.1 68 10 = nI (D 0 4) ∧ τ.1 68 5 = nI (D 0 5) ∧ τ.1 68 4 = nI (D 0 6)) ∧
  (NmM 0 (D 0 0) (D 4) τ ∧ NmM 4 (D 0 1) (D 9) τ ∧ NmM 12 (D 0 2) (D 13) τ ∧ NmM 32 (D 0 3) (D 17) τ) ∧
  (∀ s, s < (D 0 0) → τ.1 71 s = nI (D 1 s) ∧ τ.1 72 s = nI (D 2 s)) ∧ (∀ j, j < 1024 * (D 0 0) → τ.1 73 j = nI (D 3 j)) ∧
  (∀ k, k < (D 0 1) → τ.1 74 (k + 1) = nI (D 6 k) ∧ τ.1 75 (k + 1) = nI (D 7 k) ∧ τ.1 76 (k + 1) = nI (D 8 k)) ∧
  (∀ k, k < (D 0 2) → τ.1 77 k = nI (D 11 k + 1) ∧ τ.1 78 k = nI (D 12 k)) ∧
  (∀ k, k < (D 0 3) → τ.1 79 k = nI (D 15 k) ∧ τ.1 80 k = nI (D 16 k)) ∧
  (∀ k, k < (D 0 4) → τ.1 81 k = nI (D 20 k) ∧ τ.1 82 k = nI (D 21 k) ∧ τ.1 83 k = nI (D 23 k) ∧ τ.2 84 k = lN (D 22 k) ∧ τ.1 85 k = nI (D 24 k))
def Ewc (a b : Nat) : Prop := (a = 3 ∧ b = 1) ∨ a = 4 ∨ (30 ≤ a ∧ a ≤ 32)
def Ewm (a b : Nat) : Prop := (a = 68 ∧ (b = 0 ∨ b = 30 ∨ b = 31 ∨ (33 ≤ b ∧ b ≤ 37))) ∨ (88 ≤ a ∧ a ≤ 90)
theorem DC_f {D : Nat → Nat → Nat} {σ σ' : St} (o : OM Ewc σ σ') (h : DC D σ) : DC D σ' := by
  have f : ∀ a b, 5 ≤ a → a < 30 → σ'.1 a b = σ.1 a b := fun a b h1 h2 => o.1 a b (by unfold Ewc; omega)
  have f2 : ∀ b, σ'.2 29 b = σ.2 29 b := fun b => o.2 29 b (by unfold Ewc; omega)
  have e : ∀ a, 5 ≤ a → a < 30 → σ'.1 a = σ.1 a := fun a h1 h2 => funext fun b => f a b h1 h2
  have e2 : σ'.2 29 = σ.2 29 := funext f2
  unfold DC NmC at h ⊢
  rw [e 5 (by omega) (by omega), e 6 (by omega) (by omega), e 7 (by omega) (by omega), e 8 (by omega) (by omega), e 9 (by omega) (by omega), e 10 (by omega) (by omega), e 11 (by omega) (by omega), e 12 (by omega) (by omega), e 13 (by omega) (by omega), e 14 (by omega) (by omega), e 15 (by omega) (by omega), e 16 (by omega) (by omega), e 17 (by omega) (by omega), e 18 (by omega) (by omega), e 19 (by omega) (by omega), e 20 (by omega) (by omega), e 21 (by omega) (by omega), e 22 (by omega) (by omega), e 23 (by omega) (by omega), e 24 (by omega) (by omega), e 25 (by omega) (by omega), e 26 (by omega) (by omega), e 27 (by omega) (by omega), e 28 (by omega) (by omega), e2]
  exact h
theorem DM_f {D : Nat → Nat → Nat} {τ τ' : St} (o : OM Ewm τ τ') (h : DM D τ) : DM D τ' := by
  have e : ∀ a, 70 ≤ a → a < 86 → τ'.1 a = τ.1 a := fun a h1 h2 => funext fun b => o.1 a b (by unfold Ewm; omega)
  have e2 : τ'.2 84 = τ.2 84 := funext fun b => o.2 84 b (by unfold Ewm; omega)
  have g : ∀ b, 4 ≤ b → b < 11 → τ'.1 68 b = τ.1 68 b := fun b h1 h2 => o.1 68 b (by unfold Ewm; omega)
  unfold DM NmM at h ⊢
  rw [g 4 (by omega) (by omega), g 5 (by omega) (by omega), g 6 (by omega) (by omega), g 7 (by omega) (by omega), g 8 (by omega) (by omega), g 9 (by omega) (by omega), g 10 (by omega) (by omega), e 70 (by omega) (by omega), e 71 (by omega) (by omega), e 72 (by omega) (by omega), e 73 (by omega) (by omega), e 74 (by omega) (by omega), e 75 (by omega) (by omega), e 76 (by omega) (by omega), e 77 (by omega) (by omega), e 78 (by omega) (by omega), e 79 (by omega) (by omega), e 80 (by omega) (by omega), e 81 (by omega) (by omega), e 82 (by omega) (by omega), e 83 (by omega) (by omega), e2, e 85 (by omega) (by omega)]
  exact h
theorem nm_of {kb ks row ne : Nat} {σ τ : St} (h : NmR kb ks row ne σ τ) : ∃ L N, NmOK ne L N ∧ NmC kb ks ne L N σ ∧ NmM row ne N τ := by
  obtain ⟨L, hL⟩ := ch1 h
  have h2 : ∀ m, m < 16 * ne → ∃ c, σ.1 kb m = sb_b c ∧ τ.1 70 (16 * row + m) = nI c ∧ c < 256 ∧ (m % 16 < L (m / 16) → 33 ≤ c ∧ c ≤ 126) ∧ (L (m / 16) ≤ m % 16 → c = 0) := by
    intro m hm
    obtain ⟨_, _, _, g⟩ := hL (m / 16) (by omega)
    obtain ⟨c, c1, c2, c3⟩ := g (m % 16) (by omega)
    refine ⟨c, ?_, ?_, c3⟩
    · rw [← c1, show 16 * (m / 16) + m % 16 = m by omega]
    · rw [← c2, show 16 * (row + m / 16) + m % 16 = 16 * row + m by omega]
  obtain ⟨N, hN⟩ := ch1 h2
  refine ⟨L, N, fun k hk => ?_, fun k hk => ?_, fun k hk j hj => ?_⟩
  · obtain ⟨a1, a2, a3, _⟩ := hL k hk
    refine ⟨a2, a3, fun j hj => ?_⟩
    obtain ⟨_, _, b3, b4, b5⟩ := hN (16 * k + j) (by omega)
    rw [show (16 * k + j) % 16 = j by omega, show (16 * k + j) / 16 = k by omega] at b4 b5
    exact ⟨b3, b4, b5⟩
  · exact ⟨(hL k hk).1, fun j hj => (hN (16 * k + j) (by omega)).1⟩
  · rw [← (hN (16 * k + j) (by omega)).2.1, show 16 * (row + k) + j = 16 * row + (16 * k + j) by omega]
