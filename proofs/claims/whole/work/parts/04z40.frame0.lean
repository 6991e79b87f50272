/-! what is left as it was -/
def Pr2 (E : Nat → Nat → Prop) (σ : St) {α : Type} (o : Option (α × St)) : Prop := ∀ y, o = some y → OM E σ y.2
def PrS (E : Nat → Nat → Prop) (σ : St) (o : Option St) : Prop := ∀ y, o = some y → OM E σ y
theorem Pr2_some {E : Nat → Nat → Prop} {σ s : St} {α : Type} {r : α} (h : OM E σ s) : Pr2 E σ (some (r, s)) := fun y e => by cases e; exact h
theorem PrS_some {E : Nat → Nat → Prop} {σ s : St} (h : OM E σ s) : PrS E σ (some s) := fun y e => by cases e; exact h
theorem Pr2_none {E : Nat → Nat → Prop} {σ : St} {α : Type} : Pr2 E σ (none : Option (α × St)) := fun y e => by cases e
theorem PrS_none {E : Nat → Nat → Prop} {σ : St} : PrS E σ none := fun y e => by cases e
theorem Pr2_ite {E : Nat → Nat → Prop} {σ : St} {α : Type} {c : Prop} {i : Decidable c} {a b : Option (α × St)} (h1 : Pr2 E σ a) (h2 : Pr2 E σ b) : Pr2 E σ (@ite _ c i a b) := by
  by_cases h : c
  · rw [if_pos h]; exact h1
  · rw [if_neg h]; exact h2
theorem PrS_ite {E : Nat → Nat → Prop} {σ : St} {c : Prop} {i : Decidable c} {a b : Option St} (h1 : PrS E σ a) (h2 : PrS E σ b) : PrS E σ (@ite _ c i a b) := by
  by_cases h : c
  · rw [if_pos h]; exact h1
  · rw [if_neg h]; exact h2
theorem Pr2_gd {E : Nat → Nat → Prop} {σ : St} {α : Type} {c : Prop} {i : Decidable c} {x : Option (α × St)} (h : Pr2 E σ x) : Pr2 E σ (@gd c i _ x) := fun y e => h y (gd_s e).2
theorem PrS_gd {E : Nat → Nat → Prop} {σ : St} {c : Prop} {i : Decidable c} {x : Option St} (h : PrS E σ x) : PrS E σ (@gd c i _ x) := fun y e => h y (gd_s e).2
theorem Pr2_zn {E : Nat → Nat → Prop} {σ : St} {α β : Type} {x : β} {f : β → Option (α × St)} (h : Pr2 E σ (f x)) : Pr2 E σ (zn x f) := h
theorem PrS_zn {E : Nat → Nat → Prop} {σ : St} {β : Type} {x : β} {f : β → Option St} (h : PrS E σ (f x)) : PrS E σ (zn x f) := h
theorem Pr2_bi {E : Nat → Nat → Prop} {σ : St} {α β : Type} {x : Option (β × St)} {f : β → St → Option (α × St)} (h1 : Pr2 E σ x) (h2 : ∀ a s, OM E σ s → Pr2 E σ (f a s)) : Pr2 E σ (bi x f) := fun y e => by
  obtain ⟨a, s, e1, e2⟩ := bi_s e
  exact h2 a s (h1 _ e1) y e2
theorem PrS_bi {E : Nat → Nat → Prop} {σ : St} {β : Type} {x : Option (β × St)} {f : β → St → Option St} (h1 : Pr2 E σ x) (h2 : ∀ a s, OM E σ s → PrS E σ (f a s)) : PrS E σ (bi x f) := fun y e => by
  obtain ⟨a, s, e1, e2⟩ := bi_s e
  exact h2 a s (h1 _ e1) y e2
theorem Pr2_bv {E : Nat → Nat → Prop} {σ : St} {α : Type} {x : Option St} {f : St → Option (α × St)} (h1 : PrS E σ x) (h2 : ∀ s, OM E σ s → Pr2 E σ (f s)) : Pr2 E σ (bv x f) := fun y e => by
  obtain ⟨s, e1, e2⟩ := bv_s e
  exact h2 s (h1 _ e1) y e2
theorem PrS_bv {E : Nat → Nat → Prop} {σ : St} {x : Option St} {f : St → Option St} (h1 : PrS E σ x) (h2 : ∀ s, OM E σ s → PrS E σ (f s)) : PrS E σ (bv x f) := fun y e => by
  obtain ⟨s, e1, e2⟩ := bv_s e
  exact h2 s (h1 _ e1) y e2
theorem Pr2_it {E : Nat → Nat → Prop} {σ : St} {α β : Type} {st : α → St} {F : (α → Option (β × St)) → α → Option (β × St)} (hs : ∀ K, (∀ a, OM E σ (st a) → Pr2 E σ (K a)) → ∀ a, OM E σ (st a) → Pr2 E σ (F K a)) : ∀ n a, OM E σ (st a) → Pr2 E σ (it F n a) := by
  intro n
  induction n with
  | zero => intro a _ y e; cases e
  | succ n ih => intro a ha; exact hs _ ih a ha
theorem PrS_it {E : Nat → Nat → Prop} {σ : St} {α : Type} {st : α → St} {F : (α → Option St) → α → Option St} (hs : ∀ K, (∀ a, OM E σ (st a) → PrS E σ (K a)) → ∀ a, OM E σ (st a) → PrS E σ (F K a)) : ∀ n a, OM E σ (st a) → PrS E σ (it F n a) := by
  intro n
  induction n with
  | zero => intro a _ y e; cases e
  | succ n ih => intro a ha; exact hs _ ih a ha
def ELC (a _b : Nat) : Prop := 39 ≤ a ∧ a ≤ 52
def ELM (a b : Nat) : Prop := (a = 68 ∧ 39 ≤ b ∧ b ≤ 59) ∨ (91 ≤ a ∧ a ≤ 97)
