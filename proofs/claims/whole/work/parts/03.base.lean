/-! the state: numbers by cell and place -/
abbrev St : Type := (Nat → Nat → Int32) × (Nat → Nat → Int64)
def sI (σ : St) (k j : Nat) (v : Int32) : St := (fun a => if a = k then upd (σ.1 k) j v else σ.1 a, σ.2)
def sJ (σ : St) (k j : Nat) (v : Int64) : St := (σ.1, fun a => if a = k then vp_updL (σ.2 k) j v else σ.2 a)
def sR (σ : St) (k : Nat) (f : Nat → Int32) : St := (fun a => if a = k then f else σ.1 a, σ.2)
abbrev Ce : Type := (Nat → Int32) → (Nat → Int64) → va_E

def cT (h : Nat → Nat) (cy : Nat → ClassId) : List Ce := [(fun x y => .inr (11, [.ref (h 1), .ref (h 3), .ref (h 5), .ref (h 30), .ref (h 33), .ref (h 39), .ref (h 40), .ref (h 46), .ref (h 53)])),
  (fun x y => .inr (6, [.ref (h 2), .int (x 1)])),
  (fun x y => .inl (cy 0, 1040, .inl x)),
  (fun x y => .inr (6, [.ref (h 4), .int (x 1)])),
  (fun x y => .inl (cy 0, 6400, .inl x)),
  (fun x y => .inr (8, [.int (x 0), .int (x 1), .ref (h 6), .ref (h 9), .ref (h 10), .ref (h 11), .ref (h 12), .ref (h 15), .ref (h 16), .ref (h 17), .ref (h 18), .ref (h 21), .ref (h 22), .ref (h 23), .ref (h 26), .ref (h 27), .ref (h 28), .ref (h 29), .int (x 18)])),
  (fun x y => .inr (5, [.ref (h 7), .ref (h 8), .int (x 2)])),
  (fun x y => .inl (cy 0, 64, .inl x)),
  (fun x y => .inl (cy 1, 4, .inl x)),
  (fun x y => .inl (cy 1, 4, .inl x)),
  (fun x y => .inl (cy 1, 4, .inl x)),
  (fun x y => .inl (cy 0, 4096, .inl x)),
  (fun x y => .inr (5, [.ref (h 13), .ref (h 14), .int (x 2)])),
  (fun x y => .inl (cy 0, 128, .inl x)),
  (fun x y => .inl (cy 1, 8, .inl x)),
  (fun x y => .inl (cy 1, 8, .inl x)),
  (fun x y => .inl (cy 1, 8, .inl x)),
  (fun x y => .inl (cy 1, 8, .inl x)),
  (fun x y => .inr (5, [.ref (h 19), .ref (h 20), .int (x 2)])),
  (fun x y => .inl (cy 0, 320, .inl x)),
  (fun x y => .inl (cy 1, 20, .inl x)),
  (fun x y => .inl (cy 1, 20, .inl x)),
  (fun x y => .inl (cy 1, 20, .inl x)),
  (fun x y => .inr (5, [.ref (h 24), .ref (h 25), .int (x 2)])),
  (fun x y => .inl (cy 0, 320, .inl x)),
  (fun x y => .inl (cy 1, 20, .inl x)),
  (fun x y => .inl (cy 1, 20, .inl x)),
  (fun x y => .inl (cy 3, 20, .inl x)),
  (fun x y => .inl (cy 3, 1024, .inl x)),
  (fun x y => .inl (cy 2, 1024, .inr (.inl y))),
  (fun x y => .inr (10, [.ref (h 5), .ref (h 3), .ref (h 31), .ref (h 32), .int (x 4), .int (x 5), .int (x 6), .int (x 7), .int (x 8), .int (x 9), .int (x 10)])),
  (fun x y => .inl (cy 1, 4, .inl x)),
  (fun x y => .inl (cy 1, 4, .inl x)),
  (fun x y => .inr (1, [.ref (h 34), .ref (h 37), .ref (h 38)])),
  (fun x y => .inr (5, [.ref (h 35), .ref (h 36), .int (x 2)])),
  (fun x y => .inl (cy 0, 480, .inl x)),
  (fun x y => .inl (cy 1, 30, .inl x)),
  (fun x y => .inl (cy 1, 30, .inl x)),
  (fun x y => .inl (cy 1, 30, .inl x)),
  (fun x y => .inr (2, [.int (x 0), .int (x 1)])),
  (fun x y => .inr (0, [.ref (h 3), .ref (h 39), .ref (h 41), .int (x 3), .int (x 4), .int (x 5), .int (x 6), .int (x 7), .int (x 8), .int (x 9), .int (x 10), .int (x 11)])),
  (fun x y => .inr (7, [.ref (h 42), .ref (h 43), .ref (h 44), .ref (h 45), .int (x 4)])),
  (fun x y => .inl (cy 1, 4, .inl x)),
  (fun x y => .inl (cy 1, 4, .inl x)),
  (fun x y => .inl (cy 1, 4, .inl x)),
  (fun x y => .inl (cy 1, 4, .inl x)),
  (fun x y => .inr (3, [.ref (h 3), .ref (h 39), .ref (h 33), .ref (h 40), .ref (h 41), .ref (h 47), .ref (h 50), .ref (h 51), .ref (h 52), .int (x 9), .int (x 10), .int (x 11), .int (x 12)])),
  (fun x y => .inr (9, [.ref (h 48), .ref (h 49), .int (x 2)])),
  (fun x y => .inl (cy 1, 2048, .inl x)),
  (fun x y => .inl (cy 2, 2048, .inr (.inl y))),
  (fun x y => .inl (cy 1, 4, .inl x)),
  (fun x y => .inl (cy 3, 64, .inl x)),
  (fun x y => .inl (cy 1, 64, .inl x)),
  (fun x y => .inr (4, [.ref (h 54), .ref (h 59), .ref (h 61), .ref (h 64), .ref (h 66), .ref (h 67), .int (x 6)])),
  (fun x y => .inr (7, [.ref (h 55), .ref (h 56), .ref (h 57), .ref (h 58), .int (x 4)])),
  (fun x y => .inl (cy 1, 4, .inl x)),
  (fun x y => .inl (cy 1, 4, .inl x)),
  (fun x y => .inl (cy 1, 4, .inl x)),
  (fun x y => .inl (cy 1, 4, .inl x)),
  (fun x y => .inr (6, [.ref (h 60), .int (x 1)])),
  (fun x y => .inl (cy 0, 16384, .inl x)),
  (fun x y => .inr (9, [.ref (h 62), .ref (h 63), .int (x 2)])),
  (fun x y => .inl (cy 1, 2048, .inl x)),
  (fun x y => .inl (cy 2, 2048, .inr (.inl y))),
  (fun x y => .inr (6, [.ref (h 65), .int (x 1)])),
  (fun x y => .inl (cy 0, 6400, .inl x)),
  (fun x y => .inl (cy 1, 64, .inl x)),
  (fun x y => .inl (cy 1, 64, .inl x)),
  (fun x y => .inr (12, [.int (x 0), .ref (h 69), .int (x 2), .ref (h 70), .int (x 4), .int (x 5), .int (x 6), .int (x 7), .int (x 8), .int (x 9), .int (x 10), .int (x 11), .ref (h 71), .ref (h 72), .ref (h 73), .ref (h 74), .ref (h 75), .ref (h 76), .ref (h 77), .ref (h 78), .ref (h 79), .ref (h 80), .ref (h 81), .ref (h 82), .ref (h 83), .ref (h 84), .ref (h 85), .ref (h 86), .ref (h 87), .ref (h 88), .int (x 30), .int (x 31), .ref (h 89), .int (x 33), .int (x 34), .int (x 35), .int (x 36), .int (x 37), .ref (h 90), .int (x 39), .long (y 40), .int (x 41), .int (x 42), .int (x 43), .ref (h 91), .ref (h 92), .ref (h 93), .ref (h 94), .int (x 48), .int (x 49), .long (y 50), .long (y 51), .long (y 52), .long (y 53), .long (y 54), .long (y 55), .long (y 56), .long (y 57), .long (y 58), .int (x 59), .ref (h 95), .ref (h 96), .ref (h 97), .int (x 63), .int (x 64), .int (x 65), .ref (h 98), .ref (h 99), .ref (h 100), .ref (h 101), .ref (h 102), .ref (h 103), .ref (h 104), .ref (h 105), .ref (h 106), .ref (h 107), .ref (h 108), .ref (h 109)])),
  (fun x y => .inl (cy 1, 1040, .inl x)),
  (fun x y => .inl (cy 1, 1312, .inl x)),
  (fun x y => .inl (cy 1, 4, .inl x)),
  (fun x y => .inl (cy 1, 4, .inl x)),
  (fun x y => .inl (cy 1, 4096, .inl x)),
  (fun x y => .inl (cy 1, 9, .inl x)),
  (fun x y => .inl (cy 1, 9, .inl x)),
  (fun x y => .inl (cy 1, 9, .inl x)),
  (fun x y => .inl (cy 1, 20, .inl x)),
  (fun x y => .inl (cy 1, 20, .inl x)),
  (fun x y => .inl (cy 1, 20, .inl x)),
  (fun x y => .inl (cy 3, 20, .inl x)),
  (fun x y => .inl (cy 1, 101, .inl x)),
  (fun x y => .inl (cy 1, 101, .inl x)),
  (fun x y => .inl (cy 1, 101, .inl x)),
  (fun x y => .inl (cy 2, 101, .inr (.inl y))),
  (fun x y => .inl (cy 3, 101, .inl x)),
  (fun x y => .inl (cy 1, 30, .inl x)),
  (fun x y => .inl (cy 1, 30, .inl x)),
  (fun x y => .inl (cy 1, 9000, .inl x)),
  (fun x y => .inl (cy 1, 4, .inl x)),
  (fun x y => .inl (cy 1, 4, .inl x)),
  (fun x y => .inl (cy 2, 4, .inr (.inl y))),
  (fun x y => .inl (cy 2, 4, .inr (.inl y))),
  (fun x y => .inl (cy 2, 4, .inr (.inl y))),
  (fun x y => .inl (cy 2, 4, .inr (.inl y))),
  (fun x y => .inl (cy 2, 2100, .inr (.inl y))),
  (fun x y => .inl (cy 1, 2100, .inl x)),
  (fun x y => .inl (cy 1, 2100, .inl x)),
  (fun x y => .inl (cy 2, 4, .inr (.inl y))),
  (fun x y => .inl (cy 2, 4, .inr (.inl y))),
  (fun x y => .inl (cy 1, 4, .inl x)),
  (fun x y => .inl (cy 1, 16384, .inl x)),
  (fun x y => .inl (cy 2, 2100, .inr (.inl y))),
  (fun x y => .inl (cy 2, 2100, .inr (.inl y))),
  (fun x y => .inl (cy 1, 2100, .inl x)),
  (fun x y => .inl (cy 3, 2100, .inl x)),
  (fun x y => .inl (cy 1, 9000, .inl x)),
  (fun x y => .inl (cy 1, 64, .inl x)),
  (fun x y => .inl (cy 1, 64, .inl x)),
  (fun x y => .inl (cy 1, 64, .inl x)),
  (fun x y => .inl (cy 2, 1, .inr (.inl y)))]
abbrev NC : Nat := 111
theorem cT_len (h : Nat → Nat) (cy : Nat → ClassId) : (cT h cy).length = 111 := rfl
def cF (h : Nat → Nat) (cy : Nat → ClassId) (k : Nat) : Ce := (cT h cy).getD k (fun _ _ => .inr (0, []))
def wd (h : Nat → Nat) (cy : Nat → ClassId) (σ : St) : va_W := (List.range NC).map (fun k => (h k, cF h cy k (σ.1 k) (σ.2 k)))
def Sh (k : Nat) (f : (Nat → Nat) → (Nat → ClassId) → Ce) : Prop := k < NC ∧ ∀ h cy, cF h cy k = f h cy
def Inj (h : Nat → Nat) : Prop := ∀ i j, i < NC → j < NC → h i = h j → i = j
def Az (h : Nat → Nat) (sz : Nat) : Nat → Prop := fun q => (∃ k, k < NC ∧ q = h k) ∨ sz ≤ q
def tyL (cy : Nat → ClassId) : List (ClassId × FieldType) := [(cy 0, .byte), (cy 1, .int), (cy 2, .long), (cy 3, .boolean)]
theorem wd_get {h : Nat → Nat} {cy : Nat → ClassId} {σ : St} {k : Nat} (hk : k < NC) : (wd h cy σ)[k]? = some (h k, cF h cy k (σ.1 k) (σ.2 k)) := by
  simp only [wd, List.getElem?_map, List.getElem?_range hk, Option.map_some]
theorem wd_at {h : Nat → Nat} {cy : Nat → ClassId} {σ : St} {k : Nat} {f : (Nat → Nat) → (Nat → ClassId) → Ce} (hk : Sh k f) : (wd h cy σ)[k]? = some (h k, f h cy (σ.1 k) (σ.2 k)) := by
  rw [wd_get hk.1, hk.2]
theorem wd_set {h : Nat → Nat} {cy : Nat → ClassId} {σ : St} (σ' : St) {k : Nat} {e : va_E} (hk : k < NC) (h1 : ∀ a, a ≠ k → σ'.1 a = σ.1 a) (h2 : ∀ a, a ≠ k → σ'.2 a = σ.2 a) (he : e = cF h cy k (σ'.1 k) (σ'.2 k)) : (wd h cy σ).set k (h k, e) = wd h cy σ' := by
  apply List.ext_getElem?
  intro i
  rw [List.getElem?_set]
  by_cases hi : k = i
  · subst hi
    have hl : k < (wd h cy σ).length := by simpa [wd] using hk
    rw [if_pos rfl, if_pos hl, wd_get hk, he]
  · rw [if_neg hi]
    by_cases hn : i < NC
    · rw [wd_get hn, wd_get hn, h1 i (fun q => hi q.symm), h2 i (fun q => hi q.symm)]
    · have e1 : (wd h cy σ)[i]? = none := List.getElem?_eq_none (by simpa [wd] using Nat.le_of_not_lt hn)
      have e2 : (wd h cy σ')[i]? = none := List.getElem?_eq_none (by simpa [wd] using Nat.le_of_not_lt hn)
      rw [e1, e2]
theorem wd_D {h : Nat → Nat} {cy : Nat → ClassId} {sz : Nat} (hj : Inj h) (σ : St) : va_D (Az h sz) (wd h cy σ) := by
  have key : ∀ i q, (wd h cy σ)[i]? = some q → i < NC ∧ q.1 = h i := by
    intro i q hq
    by_cases hn : i < NC
    · rw [wd_get hn] at hq
      cases hq
      exact ⟨hn, rfl⟩
    · rw [List.getElem?_eq_none (by simpa [wd] using Nat.le_of_not_lt hn)] at hq
      cases hq
  refine ⟨fun i j p q hp hq e => ?_, fun k q hq => ?_⟩
  · obtain ⟨a1, a2⟩ := key i p hp
    obtain ⟨b1, b2⟩ := key j q hq
    exact hj i j a1 b1 (by rw [← a2, ← b2, e])
  · obtain ⟨a1, a2⟩ := key k q hq
    exact Or.inl ⟨k, a1, a2⟩
theorem sI_1 {σ : St} {k j : Nat} {v : Int32} : (sI σ k j v).1 k = upd (σ.1 k) j v := if_pos rfl
theorem sI_n {σ : St} {k j : Nat} {v : Int32} (a : Nat) (ha : a ≠ k) : (sI σ k j v).1 a = σ.1 a := if_neg ha
theorem sJ_1 {σ : St} {k j : Nat} {v : Int64} : (sJ σ k j v).2 k = vp_updL (σ.2 k) j v := if_pos rfl
theorem sJ_n {σ : St} {k j : Nat} {v : Int64} (a : Nat) (ha : a ≠ k) : (sJ σ k j v).2 a = σ.2 a := if_neg ha
theorem sR_1 {σ : St} {k : Nat} {f : Nat → Int32} : (sR σ k f).1 k = f := if_pos rfl
theorem sR_n {σ : St} {k : Nat} {f : Nat → Int32} (a : Nat) (ha : a ≠ k) : (sR σ k f).1 a = σ.1 a := if_neg ha
theorem wd_sI {h : Nat → Nat} {cy : Nat → ClassId} {σ : St} {k j : Nat} {v : Int32} {f : (Nat → Nat) → (Nat → ClassId) → Ce} {e : va_E} (hk : Sh k f) (he : e = f h cy (upd (σ.1 k) j v) (σ.2 k)) : (wd h cy σ).set k (h k, e) = wd h cy (sI σ k j v) :=
  wd_set (sI σ k j v) hk.1 (fun a ha => sI_n a ha) (fun _ _ => rfl) (by rw [he, hk.2, sI_1]; rfl)
theorem wd_sJ {h : Nat → Nat} {cy : Nat → ClassId} {σ : St} {k j : Nat} {v : Int64} {f : (Nat → Nat) → (Nat → ClassId) → Ce} {e : va_E} (hk : Sh k f) (he : e = f h cy (σ.1 k) (vp_updL (σ.2 k) j v)) : (wd h cy σ).set k (h k, e) = wd h cy (sJ σ k j v) :=
  wd_set (sJ σ k j v) hk.1 (fun _ _ => rfl) (fun a ha => sJ_n a ha) (by rw [he, hk.2, sJ_1]; rfl)
theorem wd_sR {h : Nat → Nat} {cy : Nat → ClassId} {σ : St} {k : Nat} {g : Nat → Int32} {f : (Nat → Nat) → (Nat → ClassId) → Ce} {e : va_E} (hk : Sh k f) (he : e = f h cy g (σ.2 k)) : (wd h cy σ).set k (h k, e) = wd h cy (sR σ k g) :=
  wd_set (sR σ k g) hk.1 (fun a ha => sR_n a ha) (fun _ _ => rfl) (by rw [he, hk.2, sR_1]; rfl)
/-! the pure side: what a method does, or none -/
def gd (c : Prop) [Decidable c] {β : Type} (x : Option β) : Option β := if c then x else none
theorem gd_s {c : Prop} [Decidable c] {β : Type} {x : Option β} {y : β} (h : gd c x = some y) : c ∧ x = some y := by
  unfold gd at h
  by_cases hc : c
  · rw [if_pos hc] at h
    exact ⟨hc, h⟩
  · rw [if_neg hc] at h
    cases h
def bi {α β : Type} (x : Option (α × St)) (f : α → St → Option β) : Option β := match x with
  | none => none
  | some q => f q.1 q.2
theorem bi_s {α β : Type} {x : Option (α × St)} {f : α → St → Option β} {y : β} (h : bi x f = some y) : ∃ (a : α) (σ : St), x = some (a, σ) ∧ f a σ = some y := by
  cases x with
  | none => cases h
  | some q => exact ⟨q.1, q.2, rfl, h⟩
def bv {β : Type} (x : Option St) (f : St → Option β) : Option β := match x with
  | none => none
  | some q => f q
theorem bv_s {β : Type} {x : Option St} {f : St → Option β} {y : β} (h : bv x f = some y) : ∃ (σ : St), x = some σ ∧ f σ = some y := by
  cases x with
  | none => cases h
  | some q => exact ⟨q, rfl, h⟩
def zn {α β : Type} (x : α) (f : α → β) : β := f x
theorem zn_e {α β : Type} {x z : α} {f : α → β} {y : β} (e : z = x) (h : zn x f = y) : f z = y := by
  subst e
  exact h
theorem itp {c : Prop} {i : Decidable c} {β : Type} {a b y : β} (hc : c) (h : @ite β c i a b = y) : a = y := by
  rw [if_pos hc] at h
  exact h
theorem itn {c : Prop} {i : Decidable c} {β : Type} {a b y : β} (hc : ¬ c) (h : @ite β c i a b = y) : b = y := by
  rw [if_neg hc] at h
  exact h
theorem nn {β : Type} {y : β} {P : Prop} (h : (none : Option β) = some y) : P := by cases h
def it {α β : Type} (F : (α → Option β) → α → Option β) : Nat → α → Option β
  | 0, _ => none
  | n + 1, a => F (it F n) a
theorem it_W {α β : Type} {F : (α → Option β) → α → Option β} {P : α → β → Prop} (hs : ∀ k : α → Option β, (∀ a y, k a = some y → P a y) → ∀ a y, F k a = some y → P a y) : ∀ (n : Nat) (a : α) (y : β), it F n a = some y → P a y := by
  intro n
  induction n with
  | zero => intro a y h; cases h
  | succ n ih => intro a y h; exact hs _ ih a y h
def FU : Nat := 100000

theorem sh_0 : Sh 0 (fun h cy x y => .inr (11, [.ref (h 1), .ref (h 3), .ref (h 5), .ref (h 30), .ref (h 33), .ref (h 39), .ref (h 40), .ref (h 46), .ref (h 53)])) := ⟨by decide, fun _ _ => rfl⟩
theorem sh_1 : Sh 1 (fun h cy x y => .inr (6, [.ref (h 2), .int (x 1)])) := ⟨by decide, fun _ _ => rfl⟩
theorem sh_2 : Sh 2 (fun h cy x y => .inl (cy 0, 1040, .inl x)) := ⟨by decide, fun _ _ => rfl⟩
theorem sh_3 : Sh 3 (fun h cy x y => .inr (6, [.ref (h 4), .int (x 1)])) := ⟨by decide, fun _ _ => rfl⟩
theorem sh_4 : Sh 4 (fun h cy x y => .inl (cy 0, 6400, .inl x)) := ⟨by decide, fun _ _ => rfl⟩
theorem sh_5 : Sh 5 (fun h cy x y => .inr (8, [.int (x 0), .int (x 1), .ref (h 6), .ref (h 9), .ref (h 10), .ref (h 11), .ref (h 12), .ref (h 15), .ref (h 16), .ref (h 17), .ref (h 18), .ref (h 21), .ref (h 22), .ref (h 23), .ref (h 26), .ref (h 27), .ref (h 28), .ref (h 29), .int (x 18)])) := ⟨by decide, fun _ _ => rfl⟩
theorem sh_6 : Sh 6 (fun h cy x y => .inr (5, [.ref (h 7), .ref (h 8), .int (x 2)])) := ⟨by decide, fun _ _ => rfl⟩
theorem sh_7 : Sh 7 (fun h cy x y => .inl (cy 0, 64, .inl x)) := ⟨by decide, fun _ _ => rfl⟩
theorem sh_8 : Sh 8 (fun h cy x y => .inl (cy 1, 4, .inl x)) := ⟨by decide, fun _ _ => rfl⟩
theorem sh_9 : Sh 9 (fun h cy x y => .inl (cy 1, 4, .inl x)) := ⟨by decide, fun _ _ => rfl⟩
theorem sh_10 : Sh 10 (fun h cy x y => .inl (cy 1, 4, .inl x)) := ⟨by decide, fun _ _ => rfl⟩
theorem sh_11 : Sh 11 (fun h cy x y => .inl (cy 0, 4096, .inl x)) := ⟨by decide, fun _ _ => rfl⟩
theorem sh_12 : Sh 12 (fun h cy x y => .inr (5, [.ref (h 13), .ref (h 14), .int (x 2)])) := ⟨by decide, fun _ _ => rfl⟩
theorem sh_13 : Sh 13 (fun h cy x y => .inl (cy 0, 128, .inl x)) := ⟨by decide, fun _ _ => rfl⟩
theorem sh_14 : Sh 14 (fun h cy x y => .inl (cy 1, 8, .inl x)) := ⟨by decide, fun _ _ => rfl⟩
theorem sh_15 : Sh 15 (fun h cy x y => .inl (cy 1, 8, .inl x)) := ⟨by decide, fun _ _ => rfl⟩
theorem sh_16 : Sh 16 (fun h cy x y => .inl (cy 1, 8, .inl x)) := ⟨by decide, fun _ _ => rfl⟩
theorem sh_17 : Sh 17 (fun h cy x y => .inl (cy 1, 8, .inl x)) := ⟨by decide, fun _ _ => rfl⟩
theorem sh_18 : Sh 18 (fun h cy x y => .inr (5, [.ref (h 19), .ref (h 20), .int (x 2)])) := ⟨by decide, fun _ _ => rfl⟩
theorem sh_19 : Sh 19 (fun h cy x y => .inl (cy 0, 320, .inl x)) := ⟨by decide, fun _ _ => rfl⟩
theorem sh_20 : Sh 20 (fun h cy x y => .inl (cy 1, 20, .inl x)) := ⟨by decide, fun _ _ => rfl⟩
theorem sh_21 : Sh 21 (fun h cy x y => .inl (cy 1, 20, .inl x)) := ⟨by decide, fun _ _ => rfl⟩
theorem sh_22 : Sh 22 (fun h cy x y => .inl (cy 1, 20, .inl x)) := ⟨by decide, fun _ _ => rfl⟩
theorem sh_23 : Sh 23 (fun h cy x y => .inr (5, [.ref (h 24), .ref (h 25), .int (x 2)])) := ⟨by decide, fun _ _ => rfl⟩
theorem sh_24 : Sh 24 (fun h cy x y => .inl (cy 0, 320, .inl x)) := ⟨by decide, fun _ _ => rfl⟩
theorem sh_25 : Sh 25 (fun h cy x y => .inl (cy 1, 20, .inl x)) := ⟨by decide, fun _ _ => rfl⟩
theorem sh_26 : Sh 26 (fun h cy x y => .inl (cy 1, 20, .inl x)) := ⟨by decide, fun _ _ => rfl⟩
theorem sh_27 : Sh 27 (fun h cy x y => .inl (cy 3, 20, .inl x)) := ⟨by decide, fun _ _ => rfl⟩
theorem sh_28 : Sh 28 (fun h cy x y => .inl (cy 3, 1024, .inl x)) := ⟨by decide, fun _ _ => rfl⟩
theorem sh_29 : Sh 29 (fun h cy x y => .inl (cy 2, 1024, .inr (.inl y))) := ⟨by decide, fun _ _ => rfl⟩
theorem sh_30 : Sh 30 (fun h cy x y => .inr (10, [.ref (h 5), .ref (h 3), .ref (h 31), .ref (h 32), .int (x 4), .int (x 5), .int (x 6), .int (x 7), .int (x 8), .int (x 9), .int (x 10)])) := ⟨by decide, fun _ _ => rfl⟩
theorem sh_31 : Sh 31 (fun h cy x y => .inl (cy 1, 4, .inl x)) := ⟨by decide, fun _ _ => rfl⟩
theorem sh_32 : Sh 32 (fun h cy x y => .inl (cy 1, 4, .inl x)) := ⟨by decide, fun _ _ => rfl⟩
theorem sh_33 : Sh 33 (fun h cy x y => .inr (1, [.ref (h 34), .ref (h 37), .ref (h 38)])) := ⟨by decide, fun _ _ => rfl⟩
theorem sh_34 : Sh 34 (fun h cy x y => .inr (5, [.ref (h 35), .ref (h 36), .int (x 2)])) := ⟨by decide, fun _ _ => rfl⟩
theorem sh_35 : Sh 35 (fun h cy x y => .inl (cy 0, 480, .inl x)) := ⟨by decide, fun _ _ => rfl⟩
theorem sh_36 : Sh 36 (fun h cy x y => .inl (cy 1, 30, .inl x)) := ⟨by decide, fun _ _ => rfl⟩
theorem sh_37 : Sh 37 (fun h cy x y => .inl (cy 1, 30, .inl x)) := ⟨by decide, fun _ _ => rfl⟩
theorem sh_38 : Sh 38 (fun h cy x y => .inl (cy 1, 30, .inl x)) := ⟨by decide, fun _ _ => rfl⟩
theorem sh_39 : Sh 39 (fun h cy x y => .inr (2, [.int (x 0), .int (x 1)])) := ⟨by decide, fun _ _ => rfl⟩
theorem sh_40 : Sh 40 (fun h cy x y => .inr (0, [.ref (h 3), .ref (h 39), .ref (h 41), .int (x 3), .int (x 4), .int (x 5), .int (x 6), .int (x 7), .int (x 8), .int (x 9), .int (x 10), .int (x 11)])) := ⟨by decide, fun _ _ => rfl⟩
theorem sh_41 : Sh 41 (fun h cy x y => .inr (7, [.ref (h 42), .ref (h 43), .ref (h 44), .ref (h 45), .int (x 4)])) := ⟨by decide, fun _ _ => rfl⟩
theorem sh_42 : Sh 42 (fun h cy x y => .inl (cy 1, 4, .inl x)) := ⟨by decide, fun _ _ => rfl⟩
theorem sh_43 : Sh 43 (fun h cy x y => .inl (cy 1, 4, .inl x)) := ⟨by decide, fun _ _ => rfl⟩
theorem sh_44 : Sh 44 (fun h cy x y => .inl (cy 1, 4, .inl x)) := ⟨by decide, fun _ _ => rfl⟩
theorem sh_45 : Sh 45 (fun h cy x y => .inl (cy 1, 4, .inl x)) := ⟨by decide, fun _ _ => rfl⟩
theorem sh_46 : Sh 46 (fun h cy x y => .inr (3, [.ref (h 3), .ref (h 39), .ref (h 33), .ref (h 40), .ref (h 41), .ref (h 47), .ref (h 50), .ref (h 51), .ref (h 52), .int (x 9), .int (x 10), .int (x 11), .int (x 12)])) := ⟨by decide, fun _ _ => rfl⟩
theorem sh_47 : Sh 47 (fun h cy x y => .inr (9, [.ref (h 48), .ref (h 49), .int (x 2)])) := ⟨by decide, fun _ _ => rfl⟩
theorem sh_48 : Sh 48 (fun h cy x y => .inl (cy 1, 2048, .inl x)) := ⟨by decide, fun _ _ => rfl⟩
theorem sh_49 : Sh 49 (fun h cy x y => .inl (cy 2, 2048, .inr (.inl y))) := ⟨by decide, fun _ _ => rfl⟩
theorem sh_50 : Sh 50 (fun h cy x y => .inl (cy 1, 4, .inl x)) := ⟨by decide, fun _ _ => rfl⟩
theorem sh_51 : Sh 51 (fun h cy x y => .inl (cy 3, 64, .inl x)) := ⟨by decide, fun _ _ => rfl⟩
theorem sh_52 : Sh 52 (fun h cy x y => .inl (cy 1, 64, .inl x)) := ⟨by decide, fun _ _ => rfl⟩
theorem sh_53 : Sh 53 (fun h cy x y => .inr (4, [.ref (h 54), .ref (h 59), .ref (h 61), .ref (h 64), .ref (h 66), .ref (h 67), .int (x 6)])) := ⟨by decide, fun _ _ => rfl⟩
theorem sh_54 : Sh 54 (fun h cy x y => .inr (7, [.ref (h 55), .ref (h 56), .ref (h 57), .ref (h 58), .int (x 4)])) := ⟨by decide, fun _ _ => rfl⟩
theorem sh_55 : Sh 55 (fun h cy x y => .inl (cy 1, 4, .inl x)) := ⟨by decide, fun _ _ => rfl⟩
theorem sh_56 : Sh 56 (fun h cy x y => .inl (cy 1, 4, .inl x)) := ⟨by decide, fun _ _ => rfl⟩
theorem sh_57 : Sh 57 (fun h cy x y => .inl (cy 1, 4, .inl x)) := ⟨by decide, fun _ _ => rfl⟩
theorem sh_58 : Sh 58 (fun h cy x y => .inl (cy 1, 4, .inl x)) := ⟨by decide, fun _ _ => rfl⟩
theorem sh_59 : Sh 59 (fun h cy x y => .inr (6, [.ref (h 60), .int (x 1)])) := ⟨by decide, fun _ _ => rfl⟩
theorem sh_60 : Sh 60 (fun h cy x y => .inl (cy 0, 16384, .inl x)) := ⟨by decide, fun _ _ => rfl⟩
theorem sh_61 : Sh 61 (fun h cy x y => .inr (9, [.ref (h 62), .ref (h 63), .int (x 2)])) := ⟨by decide, fun _ _ => rfl⟩
theorem sh_62 : Sh 62 (fun h cy x y => .inl (cy 1, 2048, .inl x)) := ⟨by decide, fun _ _ => rfl⟩
theorem sh_63 : Sh 63 (fun h cy x y => .inl (cy 2, 2048, .inr (.inl y))) := ⟨by decide, fun _ _ => rfl⟩
theorem sh_64 : Sh 64 (fun h cy x y => .inr (6, [.ref (h 65), .int (x 1)])) := ⟨by decide, fun _ _ => rfl⟩
theorem sh_65 : Sh 65 (fun h cy x y => .inl (cy 0, 6400, .inl x)) := ⟨by decide, fun _ _ => rfl⟩
theorem sh_66 : Sh 66 (fun h cy x y => .inl (cy 1, 64, .inl x)) := ⟨by decide, fun _ _ => rfl⟩
theorem sh_67 : Sh 67 (fun h cy x y => .inl (cy 1, 64, .inl x)) := ⟨by decide, fun _ _ => rfl⟩
theorem sh_68 : Sh 68 (fun h cy x y => .inr (12, [.int (x 0), .ref (h 69), .int (x 2), .ref (h 70), .int (x 4), .int (x 5), .int (x 6), .int (x 7), .int (x 8), .int (x 9), .int (x 10), .int (x 11), .ref (h 71), .ref (h 72), .ref (h 73), .ref (h 74), .ref (h 75), .ref (h 76), .ref (h 77), .ref (h 78), .ref (h 79), .ref (h 80), .ref (h 81), .ref (h 82), .ref (h 83), .ref (h 84), .ref (h 85), .ref (h 86), .ref (h 87), .ref (h 88), .int (x 30), .int (x 31), .ref (h 89), .int (x 33), .int (x 34), .int (x 35), .int (x 36), .int (x 37), .ref (h 90), .int (x 39), .long (y 40), .int (x 41), .int (x 42), .int (x 43), .ref (h 91), .ref (h 92), .ref (h 93), .ref (h 94), .int (x 48), .int (x 49), .long (y 50), .long (y 51), .long (y 52), .long (y 53), .long (y 54), .long (y 55), .long (y 56), .long (y 57), .long (y 58), .int (x 59), .ref (h 95), .ref (h 96), .ref (h 97), .int (x 63), .int (x 64), .int (x 65), .ref (h 98), .ref (h 99), .ref (h 100), .ref (h 101), .ref (h 102), .ref (h 103), .ref (h 104), .ref (h 105), .ref (h 106), .ref (h 107), .ref (h 108), .ref (h 109)])) := ⟨by decide, fun _ _ => rfl⟩
theorem sh_69 : Sh 69 (fun h cy x y => .inl (cy 1, 1040, .inl x)) := ⟨by decide, fun _ _ => rfl⟩
theorem sh_70 : Sh 70 (fun h cy x y => .inl (cy 1, 1312, .inl x)) := ⟨by decide, fun _ _ => rfl⟩
theorem sh_71 : Sh 71 (fun h cy x y => .inl (cy 1, 4, .inl x)) := ⟨by decide, fun _ _ => rfl⟩
theorem sh_72 : Sh 72 (fun h cy x y => .inl (cy 1, 4, .inl x)) := ⟨by decide, fun _ _ => rfl⟩
theorem sh_73 : Sh 73 (fun h cy x y => .inl (cy 1, 4096, .inl x)) := ⟨by decide, fun _ _ => rfl⟩
theorem sh_74 : Sh 74 (fun h cy x y => .inl (cy 1, 9, .inl x)) := ⟨by decide, fun _ _ => rfl⟩
theorem sh_75 : Sh 75 (fun h cy x y => .inl (cy 1, 9, .inl x)) := ⟨by decide, fun _ _ => rfl⟩
theorem sh_76 : Sh 76 (fun h cy x y => .inl (cy 1, 9, .inl x)) := ⟨by decide, fun _ _ => rfl⟩
theorem sh_77 : Sh 77 (fun h cy x y => .inl (cy 1, 20, .inl x)) := ⟨by decide, fun _ _ => rfl⟩
theorem sh_78 : Sh 78 (fun h cy x y => .inl (cy 1, 20, .inl x)) := ⟨by decide, fun _ _ => rfl⟩
theorem sh_79 : Sh 79 (fun h cy x y => .inl (cy 1, 20, .inl x)) := ⟨by decide, fun _ _ => rfl⟩
theorem sh_80 : Sh 80 (fun h cy x y => .inl (cy 3, 20, .inl x)) := ⟨by decide, fun _ _ => rfl⟩
theorem sh_81 : Sh 81 (fun h cy x y => .inl (cy 1, 101, .inl x)) := ⟨by decide, fun _ _ => rfl⟩
theorem sh_82 : Sh 82 (fun h cy x y => .inl (cy 1, 101, .inl x)) := ⟨by decide, fun _ _ => rfl⟩
theorem sh_83 : Sh 83 (fun h cy x y => .inl (cy 1, 101, .inl x)) := ⟨by decide, fun _ _ => rfl⟩
theorem sh_84 : Sh 84 (fun h cy x y => .inl (cy 2, 101, .inr (.inl y))) := ⟨by decide, fun _ _ => rfl⟩
theorem sh_85 : Sh 85 (fun h cy x y => .inl (cy 3, 101, .inl x)) := ⟨by decide, fun _ _ => rfl⟩
theorem sh_86 : Sh 86 (fun h cy x y => .inl (cy 1, 30, .inl x)) := ⟨by decide, fun _ _ => rfl⟩
theorem sh_87 : Sh 87 (fun h cy x y => .inl (cy 1, 30, .inl x)) := ⟨by decide, fun _ _ => rfl⟩
theorem sh_88 : Sh 88 (fun h cy x y => .inl (cy 1, 9000, .inl x)) := ⟨by decide, fun _ _ => rfl⟩
theorem sh_89 : Sh 89 (fun h cy x y => .inl (cy 1, 4, .inl x)) := ⟨by decide, fun _ _ => rfl⟩
theorem sh_90 : Sh 90 (fun h cy x y => .inl (cy 1, 4, .inl x)) := ⟨by decide, fun _ _ => rfl⟩
theorem sh_91 : Sh 91 (fun h cy x y => .inl (cy 2, 4, .inr (.inl y))) := ⟨by decide, fun _ _ => rfl⟩
theorem sh_92 : Sh 92 (fun h cy x y => .inl (cy 2, 4, .inr (.inl y))) := ⟨by decide, fun _ _ => rfl⟩
theorem sh_93 : Sh 93 (fun h cy x y => .inl (cy 2, 4, .inr (.inl y))) := ⟨by decide, fun _ _ => rfl⟩
theorem sh_94 : Sh 94 (fun h cy x y => .inl (cy 2, 4, .inr (.inl y))) := ⟨by decide, fun _ _ => rfl⟩
theorem sh_95 : Sh 95 (fun h cy x y => .inl (cy 2, 2100, .inr (.inl y))) := ⟨by decide, fun _ _ => rfl⟩
theorem sh_96 : Sh 96 (fun h cy x y => .inl (cy 1, 2100, .inl x)) := ⟨by decide, fun _ _ => rfl⟩
theorem sh_97 : Sh 97 (fun h cy x y => .inl (cy 1, 2100, .inl x)) := ⟨by decide, fun _ _ => rfl⟩
theorem sh_98 : Sh 98 (fun h cy x y => .inl (cy 2, 4, .inr (.inl y))) := ⟨by decide, fun _ _ => rfl⟩
theorem sh_99 : Sh 99 (fun h cy x y => .inl (cy 2, 4, .inr (.inl y))) := ⟨by decide, fun _ _ => rfl⟩
theorem sh_100 : Sh 100 (fun h cy x y => .inl (cy 1, 4, .inl x)) := ⟨by decide, fun _ _ => rfl⟩
theorem sh_101 : Sh 101 (fun h cy x y => .inl (cy 1, 16384, .inl x)) := ⟨by decide, fun _ _ => rfl⟩
theorem sh_102 : Sh 102 (fun h cy x y => .inl (cy 2, 2100, .inr (.inl y))) := ⟨by decide, fun _ _ => rfl⟩
theorem sh_103 : Sh 103 (fun h cy x y => .inl (cy 2, 2100, .inr (.inl y))) := ⟨by decide, fun _ _ => rfl⟩
theorem sh_104 : Sh 104 (fun h cy x y => .inl (cy 1, 2100, .inl x)) := ⟨by decide, fun _ _ => rfl⟩
theorem sh_105 : Sh 105 (fun h cy x y => .inl (cy 3, 2100, .inl x)) := ⟨by decide, fun _ _ => rfl⟩
theorem sh_106 : Sh 106 (fun h cy x y => .inl (cy 1, 9000, .inl x)) := ⟨by decide, fun _ _ => rfl⟩
theorem sh_107 : Sh 107 (fun h cy x y => .inl (cy 1, 64, .inl x)) := ⟨by decide, fun _ _ => rfl⟩
theorem sh_108 : Sh 108 (fun h cy x y => .inl (cy 1, 64, .inl x)) := ⟨by decide, fun _ _ => rfl⟩
theorem sh_109 : Sh 109 (fun h cy x y => .inl (cy 1, 64, .inl x)) := ⟨by decide, fun _ _ => rfl⟩
theorem sh_110 : Sh 110 (fun h cy x y => .inl (cy 2, 1, .inr (.inl y))) := ⟨by decide, fun _ _ => rfl⟩
def RowS (k n : Nat) : Prop := Sh k (fun h cy x y => .inr (6, [.ref (h (k + 1)), .int (x 1)])) ∧ Sh (k + 1) (fun h cy x y => .inl (cy 0, n, .inl x))
def NamesS (k b n : Nat) : Prop := Sh k (fun h cy x y => .inr (5, [.ref (h (k + 1)), .ref (h (k + 2)), .int (x 2)])) ∧ Sh (k + 1) (fun h cy x y => .inl (cy 0, b, .inl x)) ∧ Sh (k + 2) (fun h cy x y => .inl (cy 1, n, .inl x))
def SegsS (k : Nat) : Prop := Sh k (fun h cy x y => .inr (7, [.ref (h (k + 1)), .ref (h (k + 2)), .ref (h (k + 3)), .ref (h (k + 4)), .int (x 4)])) ∧ Sh (k + 1) (fun h cy x y => .inl (cy 1, 4, .inl x)) ∧ Sh (k + 2) (fun h cy x y => .inl (cy 1, 4, .inl x)) ∧ Sh (k + 3) (fun h cy x y => .inl (cy 1, 4, .inl x)) ∧ Sh (k + 4) (fun h cy x y => .inl (cy 1, 4, .inl x))
def VisS (k : Nat) : Prop := Sh k (fun h cy x y => .inr (9, [.ref (h (k + 1)), .ref (h (k + 2)), .int (x 2)])) ∧ Sh (k + 1) (fun h cy x y => .inl (cy 1, 2048, .inl x)) ∧ Sh (k + 2) (fun h cy x y => .inl (cy 2, 2048, .inr (.inl y)))
theorem row_1 : RowS 1 1040 := ⟨sh_1, sh_2⟩
theorem row_3 : RowS 3 6400 := ⟨sh_3, sh_4⟩
theorem names_6 : NamesS 6 64 4 := ⟨sh_6, sh_7, sh_8⟩
theorem names_12 : NamesS 12 128 8 := ⟨sh_12, sh_13, sh_14⟩
theorem names_18 : NamesS 18 320 20 := ⟨sh_18, sh_19, sh_20⟩
theorem names_23 : NamesS 23 320 20 := ⟨sh_23, sh_24, sh_25⟩
theorem names_34 : NamesS 34 480 30 := ⟨sh_34, sh_35, sh_36⟩
theorem segs_41 : SegsS 41 := ⟨sh_41, sh_42, sh_43, sh_44, sh_45⟩
theorem vis_47 : VisS 47 := ⟨sh_47, sh_48, sh_49⟩
theorem segs_54 : SegsS 54 := ⟨sh_54, sh_55, sh_56, sh_57, sh_58⟩
theorem row_59 : RowS 59 16384 := ⟨sh_59, sh_60⟩
theorem vis_61 : VisS 61 := ⟨sh_61, sh_62, sh_63⟩
theorem row_64 : RowS 64 6400 := ⟨sh_64, sh_65⟩
def NWs : List Cond := [Cond.methodLinkNest RX8 115 yX11_isLibrary RX11, Cond.methodLinkNest RX10 39 yX11_filledUp RX11, Cond.methodLinkNest RX8 134 yX11_filledUp RX11, Cond.methodLinkNest RX10 112 yX11_pagesIn RX11, Cond.methodLinkNest RX6 39 yX11_filledUp RX11, Cond.methodLinkNest RX1 33 yX11_isLibrary RX11, Cond.methodLinkNest RX3 140 yX11_isPage RX11, Cond.methodLinkNest RX3 154 yX11_pagesIn RX11, Cond.declares ⟨"java/lang/RuntimeException", "<init>", "()V"⟩, Cond.declares ⟨"java/lang/Exception", "<init>", "()V"⟩, Cond.declares ⟨"java/lang/Throwable", "<init>", "()V"⟩, Cond.castable "java/util/NoSuchElementException" "java/util/NoSuchElementException"]
theorem NWs_ok : ∀ w ∈ NWs, w ∈ lw_tbl := by
  intro w hw
  have h : NWs = [663, 715, 733, 734, 800, 865, 1042, 1044, 1160, 1162, 1164, 1159].filterMap (fun i => lw_tbl[i]?) := by decide +kernel
  rw [h] at hw
  obtain ⟨i, -, hi⟩ := List.mem_filterMap.mp hw
  exact List.mem_of_getElem? hi
theorem NWs_M : ∀ w ∈ NWs, (∃ a i x h, w = Cond.methodLinkNest a i x h) ∨ (∃ x, w = Cond.declares x) ∨ ∃ a b, w = Cond.castable a b := by
  intro w hw
  simp only [NWs, List.mem_cons, List.not_mem_nil, or_false] at hw
  rcases hw with rfl | rfl | rfl | rfl | rfl | rfl | rfl | rfl | rfl | rfl | rfl | rfl <;> first | exact Or.inl ⟨_, _, _, _, rfl⟩ | exact Or.inr (Or.inl ⟨_, rfl⟩) | exact Or.inr (Or.inr ⟨_, _, rfl⟩)
theorem ac_nat : Cond.native arraycopyName ∈ GT := GT_ix 638 (by decide +kernel) (by decide +kernel)
theorem ac_st : Cond.static arraycopyName ∈ GT := GT_ix 637 (by decide +kernel) (by decide +kernel)
theorem ac_in : Cond.initialized "java/lang/System" ∈ GT := GT_ix 101 (by decide +kernel) (by decide +kernel)
theorem zcmp_eq (x y : Int64) : (lg_cmp x y = 0) ↔ (x = y) := by
  unfold lg_cmp
  simp only [gt_iff_lt, Int64.lt_iff_toInt_lt, Int64.le_iff_toInt_le, ← Int64.toInt_inj]
  repeat' split
  all_goals (first | (simp; omega) | simp_all | omega)
theorem zcmp_ne (x y : Int64) : (¬ lg_cmp x y = 0) ↔ (¬ x = y) := by
  unfold lg_cmp
  simp only [gt_iff_lt, Int64.lt_iff_toInt_lt, Int64.le_iff_toInt_le, ← Int64.toInt_inj]
  repeat' split
  all_goals (first | (simp; omega) | simp_all | omega)
theorem zcmp_lt (x y : Int64) : (lg_cmp x y < 0) ↔ (x < y) := by
  unfold lg_cmp
  simp only [gt_iff_lt, Int64.lt_iff_toInt_lt, Int64.le_iff_toInt_le, ← Int64.toInt_inj]
  repeat' split
  all_goals (first | (simp; omega) | simp_all | omega)
theorem zcmp_ge (x y : Int64) : (0 ≤ lg_cmp x y) ↔ (y ≤ x) := by
  unfold lg_cmp
  simp only [gt_iff_lt, Int64.lt_iff_toInt_lt, Int64.le_iff_toInt_le, ← Int64.toInt_inj]
  repeat' split
  all_goals (first | (simp; omega) | simp_all | omega)
theorem zcmp_gt (x y : Int64) : (0 < lg_cmp x y) ↔ (y < x) := by
  unfold lg_cmp
  simp only [gt_iff_lt, Int64.lt_iff_toInt_lt, Int64.le_iff_toInt_le, ← Int64.toInt_inj]
  repeat' split
  all_goals (first | (simp; omega) | simp_all | omega)
theorem zcmp_le (x y : Int64) : (lg_cmp x y ≤ 0) ↔ (x ≤ y) := by
  unfold lg_cmp
  simp only [gt_iff_lt, Int64.lt_iff_toInt_lt, Int64.le_iff_toInt_le, ← Int64.toInt_inj]
  repeat' split
  all_goals (first | (simp; omega) | simp_all | omega)
abbrev ib (i : Int32) (n : Nat) : Prop := 0 ≤ i.toInt ∧ i.toInt < n
def Nst (U : State) : Prop := ∀ w ∈ NWs, va_Nw w U
theorem Nst.warm {s U : State} (hW : s.WarmedH U.vm) (h : Nst s) : Nst U := by
  intro w hw
  rcases NWs_M w hw with ⟨a, i, x, hh, rfl⟩ | ⟨x, rfl⟩ | ⟨a, b, rfl⟩
  · exact (h _ hw).warmM hW
  · exact (h _ hw).warmD hW
  · exact (h _ hw).warmC hW
theorem Nst.same {u U : State} (e : u.vm = U.vm) (h : Nst u) : Nst U := by
  intro w hw
  rcases NWs_M w hw with ⟨a, i, x, hh, rfl⟩ | ⟨x, rfl⟩ | ⟨a, b, rfl⟩
  · exact (h _ hw).same rfl e
  · exact (h _ hw).same rfl e
  · exact (h _ hw).same rfl e
def rmz (f lo : Nat) : Room := { frames := f, cells := 0, slots := 0, locals := lo }
def wz (y : MethodName) (b : ByteArray) (n : Nat) (r : Option FieldType) : List Cond := .code y b n r :: GT
theorem good_wz {y : MethodName} {b : ByteArray} {n : Nat} {r : Option FieldType} (h : Cond.code y b n r ∈ GT) : GoodIn GT (wz y b n r) := by
  intro w hw
  rcases List.mem_cons.mp hw with rfl | hw
  · exact ⟨h, good_of_word (List.mem_filter.mp h).2⟩
  · exact ⟨hw, good_of_word (List.mem_filter.mp hw).2⟩
/-- what holds at a method's entry and on -/
def Cx (p : Program) (s : State) (m : MethodId) (args : Array Value) (c : Code) (D : va_G) (h : Nat → Nat) (cy : Nat → ClassId) (own : String) (cc : ByteArray) (nL : Nat) : Prop :=
  p.tables.exec = Jvm.exec ∧ c.code = cc ∧ c.maxLocals = nL ∧ s.vm.findClass own = some m.cls ∧ (∀ w ∈ GT, w.before args s = true) ∧ va_K D vwCl (tyL cy) s ∧ Inj h ∧ Nst s
def Zt (D : va_G) (h : Nat → Nat) (cy : Nat → ClassId) (s : State) (σ : St) (H : Heap) (locs : List Loc) : Prop :=
  va_P D vwCl (wd h cy σ) H ∧ va_S (Az h s.heap.size) s.heap H locs
def Pz (D : va_G) (h : Nat → Nat) (cy : Nat → ClassId) (av : List Value) (σ : St) (sz : Nat) : Array Value → State → Prop := va_Pc av (fun U => U.heap.size = sz ∧ va_P D vwCl (wd h cy σ) U.heap ∧ va_K D vwCl (tyL cy) U ∧ Inj h ∧ Nst U)
def Bz (D : va_G) (h : Nat → Nat) (cy : Nat → ClassId) (u : St) (t : State) : Prop := va_P D vwCl (wd h cy u) t.heap
def QI (D : va_G) (h : Nat → Nat) (cy : Nat → ClassId) (sz : Nat) (y : Int32 × St) := va_Qi (fun r (u : St) => r = y.1 ∧ u = y.2) (Bz D h cy) (Az h sz)
def QL (D : va_G) (h : Nat → Nat) (cy : Nat → ClassId) (sz : Nat) (y : Int64 × St) := va_Ql (fun r (u : St) => r = y.1 ∧ u = y.2) (Bz D h cy) (Az h sz)
def QV (D : va_G) (h : Nat → Nat) (cy : Nat → ClassId) (sz : Nat) (y : St) := va_Qv (fun (u : St) => u = y) (Bz D h cy) (Az h sz)
def CI (l : Launch) (y : MethodName) (b : ByteArray) (n : Nat) (ret : Option FieldType) (f lo : Nat) (D : va_G) (h : Nat → Nat) (cy : Nat → ClassId) (av : List Value) (σ : St) (z : Int32 × St) : Prop := ∀ sz, Met l y (wz y b n ret) (rmz f lo) (Pz D h cy av σ sz) (QI D h cy sz z) 0 0 (Az h sz)
def CL (l : Launch) (y : MethodName) (b : ByteArray) (n : Nat) (ret : Option FieldType) (f lo : Nat) (D : va_G) (h : Nat → Nat) (cy : Nat → ClassId) (av : List Value) (σ : St) (z : Int64 × St) : Prop := ∀ sz, Met l y (wz y b n ret) (rmz f lo) (Pz D h cy av σ sz) (QL D h cy sz z) 0 0 (Az h sz)
def CV (l : Launch) (y : MethodName) (b : ByteArray) (n : Nat) (ret : Option FieldType) (f lo : Nat) (D : va_G) (h : Nat → Nat) (cy : Nat → ClassId) (av : List Value) (σ : St) (z : St) : Prop := ∀ sz, Met l y (wz y b n ret) (rmz f lo) (Pz D h cy av σ sz) (QV D h cy sz z) 0 0 (Az h sz)
def EI (below : List Frame) (args : Array Value) (s : State) (D : va_G) (h : Nat → Nat) (cy : Nat → ClassId) (y : Int32 × St) : State → Prop := MQ below (QI D h cy s.heap.size y) args s 0 0 (Az h s.heap.size)
def EL (below : List Frame) (args : Array Value) (s : State) (D : va_G) (h : Nat → Nat) (cy : Nat → ClassId) (y : Int64 × St) : State → Prop := MQ below (QL D h cy s.heap.size y) args s 0 0 (Az h s.heap.size)
def EV (below : List Frame) (args : Array Value) (s : State) (D : va_G) (h : Nat → Nat) (cy : Nat → ClassId) (y : St) : State → Prop := MQ below (QV D h cy s.heap.size y) args s 0 0 (Az h s.heap.size)
theorem ent {l : Launch} {y : MethodName} {b : ByteArray} {n : Nat} {ret : Option FieldType} {f lo : Nat} {D : va_G} {h : Nat → Nat} {cy : Nat → ClassId} {av : List Value} {σ : St} {Qc : Nat → Array Value → State → Outcome → State → Prop} (hy : plainName y.cls = true) (hn : (lg_sl av).length ≤ n)
    (body : ∀ (p : Program) (e : Env) (s : State) (m : MethodId) (below : List Frame) (meth : Method) (c : Code) (ls : Array Slot), Cx p s m av.toArray c D h cy y.cls b n → Zt D h cy s σ s.heap [] → meth.sig.returnType = ret → meth.locks = false → lv_has ls n (lv_args 0 av) → W p l e (rmz f lo) s m av.toArray below meth c s.heap [] 0 0 (MQ below (Qc s.heap.size) av.toArray s 0 0 (Az h s.heap.size)) (F0 m 0 ls [])) :
    ∀ sz, Met l y (wz y b n ret) (rmz f lo) (Pz D h cy av σ sz) (Qc sz) 0 0 (Az h sz) := by
  intro sz
  refine Met.ofW (cc := b) (maxL := n) (ret := ret) hy rfl ?_
  intro p e s m args below meth c s₁ B hml hv
  obtain ⟨rfl, hsz, hP, hK, hj, hN⟩ := hv
  subst hsz
  have hts0 := atoms_spec (ws := wz y b n ret) B.pre
  have hl := lv_entry av (n := n) hn
  rw [lg_entry_eq]
  generalize (lg_sl av ++ List.replicate (n - (lg_sl av).length) Slot.unset).toArray = ls at hl ⊢
  exact body p e s m below meth c ls ⟨B.exec, B.bytes, hml, findClass_of_methodNamed B.named, fun w hw => hts0 w (List.mem_cons_of_mem _ hw), hK, hj, hN⟩ ⟨hP, va_S.rf⟩ B.returns B.notSynchronized hl
section RT
variable {p : Program} {l : Launch} {e : Env} {R : Room} {s : State} {m : MethodId} {args : Array Value} {below : List Frame} {meth : Method} {c : Code} {H : Heap} {locs : List Loc} {cells slots : Nat} {Q : State → Prop} {D : va_G} {h : Nat → Nat} {cy : Nat → ClassId} {σ : St} {own : String} {cc : ByteArray} {nL pc : Nat} {ls : Array Slot} {rest : List Value}
theorem Cx.x (X : Cx p s m args c D h cy own cc nL) : p.tables.exec = Jvm.exec := X.1
theorem Cx.b (X : Cx p s m args c D h cy own cc nL) : c.code = cc := X.2.1
theorem Cx.n (X : Cx p s m args c D h cy own cc nL) : c.maxLocals = nL := X.2.2.1
theorem Cx.o (X : Cx p s m args c D h cy own cc nL) : s.vm.findClass own = some m.cls := X.2.2.2.1
theorem Cx.t (X : Cx p s m args c D h cy own cc nL) : ∀ w ∈ GT, w.before args s = true := X.2.2.2.2.1
theorem Cx.k (X : Cx p s m args c D h cy own cc nL) : va_K D vwCl (tyL cy) s := X.2.2.2.2.2.1
theorem Cx.j (X : Cx p s m args c D h cy own cc nL) : Inj h := X.2.2.2.2.2.2.1
theorem Cx.w (X : Cx p s m args c D h cy own cc nL) : Nst s := X.2.2.2.2.2.2.2
theorem retI (X : Cx p s m args c D h cy own cc nL) (hr : meth.sig.returnType = some .int) (hk : meth.locks = false) (Z : Zt D h cy s σ H locs) {v : Int32} {y : Int32 × St} (hf : some (v, σ) = some y) (hdg : decode cc pc = .ok (.ireturn, 1)) : W p l e R s m args below meth c H locs 0 0 (EI below args s D h cy y) (F0 m pc ls [.int v]) := by
  cases hf
  exact W.iret (v := v) X.x X.b hr (fun t ht hW => ⟨⟨v, σ, rfl, ⟨rfl, rfl⟩, by show va_P _ _ _ t.heap; rw [ht]; exact Z.1⟩, Z.2.F ht⟩) Z.2.2.2 hdg
theorem retZ (X : Cx p s m args c D h cy own cc nL) (hr : meth.sig.returnType = some .boolean) (hk : meth.locks = false) (Z : Zt D h cy s σ H locs) {v : Int32} {y : Int32 × St} (hv : v = 0 ∨ v = 1) (hf : some (v, σ) = some y) (hdg : decode cc pc = .ok (.ireturn, 1)) : W p l e R s m args below meth c H locs 0 0 (EI below args s D h cy y) (F0 m pc ls [.int v]) := by
  cases hf
  exact W.zret (v := v) X.x X.b hr (by rcases hv with rfl | rfl <;> rfl) (fun t ht hW => ⟨⟨v, σ, rfl, ⟨rfl, rfl⟩, by show va_P _ _ _ t.heap; rw [ht]; exact Z.1⟩, Z.2.F ht⟩) Z.2.2.2 hdg
theorem retL (X : Cx p s m args c D h cy own cc nL) (hr : meth.sig.returnType = some .long) (hk : meth.locks = false) (Z : Zt D h cy s σ H locs) {v : Int64} {y : Int64 × St} (hf : some (v, σ) = some y) (hdg : decode cc pc = .ok (.lreturn, 1)) : W p l e R s m args below meth c H locs 0 0 (EL below args s D h cy y) (F0 m pc ls [.long v]) := by
  cases hf
  exact W.lret (v := v) X.x X.b hr (fun t ht hW => ⟨⟨v, σ, rfl, ⟨rfl, rfl⟩, by show va_P _ _ _ t.heap; rw [ht]; exact Z.1⟩, Z.2.F ht⟩) Z.2.2.2 hdg
theorem retV (X : Cx p s m args c D h cy own cc nL) (hr : meth.sig.returnType = none) (hk : meth.locks = false) (Z : Zt D h cy s σ H locs) {y : St} (hf : some σ = some y) (hdg : decode cc pc = .ok (.return_, 1)) : W p l e R s m args below meth c H locs 0 0 (EV below args s D h cy y) (F0 m pc ls []) := by
  cases hf
  exact W.vret X.x X.b hr (fun t ht hW => ⟨⟨σ, rfl, rfl, by show va_P _ _ _ t.heap; rw [ht]; exact Z.1⟩, Z.2.F ht⟩) Z.2.2.2 hdg
/-! fields -/
theorem x_get (X : Cx p s m args c D h cy own cc nL) (Z : Zt D h cy s σ H locs) {C : String} {T : u_T} {N ci index k : Nat} {f : (Nat → Nat) → (Nat → ClassId) → Ce} {fs : List Value} (hk : Sh k f) (hin : ∀ w ∈ u_ws C T N, w ∈ GT) (hc : vwCl[ci]? = some (C, T, N)) (j : Nat) (hj : j < N) (hl : Cond.fieldLink own index (T j).1 (T j).2.1 (T j).2.2.1 ∈ GT) (he : f h cy (σ.1 k) (σ.2 k) = .inr (ci, fs)) {v : Value} (hv : fs[j]? = some v) (hdg : decode cc pc = .ok (.getfield index, 3))
    (kk : W p l e R s m args below meth c H locs cells slots Q (F0 m (pc + 3) ls (v :: rest))) : W p l e R s m args below meth c H locs cells slots Q (F0 m pc ls (.ref (h k) :: rest)) :=
  va_get (D := D) (cl := vwCl) (ci := ci) (C := C) (T := T) (N := N) X.x X.b X.t hin X.o X.k Z.1 k (by rw [wd_at hk, he]) hc j hj (X.t _ hl) (fun _ h9 => h9) hv hdg kk
theorem x_put (X : Cx p s m args c D h cy own cc nL) (Z : Zt D h cy s σ H locs) {C : String} {T : u_T} {N ci index k : Nat} {f : (Nat → Nat) → (Nat → ClassId) → Ce} {fs : List Value} (hk : Sh k f) (hin : ∀ w ∈ u_ws C T N, w ∈ GT) (ty0 : Nat → FieldType) (hty : ∀ k, k < N → parseFieldDescriptor (T k).2.2.1 = some (ty0 k)) (hnm : ∀ a, a < N → ∀ b, b < N → a ≠ b → (T a).2.1 ≠ (T b).2.1) (hc : vwCl[ci]? = some (C, T, N)) (j : Nat) (hj : j < N) (hl : Cond.fieldLink own index (T j).1 (T j).2.1 (T j).2.2.1 ∈ GT) (hfin : (T j).2.2.2 = false) (he : f h cy (σ.1 k) (σ.2 k) = .inr (ci, fs)) {v : Value} (hn : narrow (ty0 j) v = v) (hfit : fits (ty0 j) v = true) (hjl : j < fs.length) (σ' : St) (hw : (wd h cy σ).set k (h k, .inr (ci, fs.set j v)) = wd h cy σ') (hdg : decode cc pc = .ok (.putfield index, 3))
    (kk : ∀ (σ2 : St) (H : Heap) (locs : List Loc), σ2 = σ' → Zt D h cy s σ2 H locs → W p l e R s m args below meth c H locs cells slots Q (F0 m (pc + 3) ls rest)) : W p l e R s m args below meth c H locs cells slots Q (F0 m pc ls (v :: .ref (h k) :: rest)) :=
  va_put (D := D) (cl := vwCl) (ci := ci) (C := C) (T := T) (N := N) X.x X.b X.t hin ty0 hty hnm X.o X.k Z.1 (wd_D X.j σ) Z.2 k (by rw [wd_at hk, he]) hc j hj (X.t _ hl) (fun _ h9 => h9) hfin (hty j hj) hn hfit hjl hdg (fun H1 l1 hP hD hS => kk _ H1 l1 rfl ⟨by rw [← hw]; exact hP, hS⟩)
/-! arrays -/
theorem in_of {i : Int32} {n : Nat} (hi : 0 ≤ i.toInt ∧ i.toInt < n) : vp_in i n := vp_in_iff.mpr hi
theorem x_iald (X : Cx p s m args c D h cy own cc nL) (Z : Zt D h cy s σ H locs) {k n : Nat} {i : Int32} (hk : Sh k (fun _ cy x _ => .inl (cy 1, n, .inl x))) (hi : 0 ≤ i.toInt ∧ i.toInt < n) (hdg : decode cc pc = .ok (.iaload, 1))
    (kk : W p l e R s m args below meth c H locs cells slots Q (F0 m (pc + 1) ls (.int (σ.1 k i.toNatClampNeg) :: rest))) : W p l e R s m args below meth c H locs cells slots Q (F0 m pc ls (.int i :: .ref (h k) :: rest)) :=
  va_iald X.x X.b X.k Z.1 k 1 (wd_at hk) rfl (in_of hi) hdg kk
theorem x_bald (X : Cx p s m args c D h cy own cc nL) (Z : Zt D h cy s σ H locs) {k n : Nat} {i : Int32} (hk : Sh k (fun _ cy x _ => .inl (cy 0, n, .inl x))) (hi : 0 ≤ i.toInt ∧ i.toInt < n) (hdg : decode cc pc = .ok (.baload, 1))
    (kk : W p l e R s m args below meth c H locs cells slots Q (F0 m (pc + 1) ls (.int (σ.1 k i.toNatClampNeg) :: rest))) : W p l e R s m args below meth c H locs cells slots Q (F0 m pc ls (.int i :: .ref (h k) :: rest)) :=
  va_bald X.x X.b X.k Z.1 k 0 (wd_at hk) rfl (in_of hi) hdg kk
theorem x_zald (X : Cx p s m args c D h cy own cc nL) (Z : Zt D h cy s σ H locs) {k n : Nat} {i : Int32} (hk : Sh k (fun _ cy x _ => .inl (cy 3, n, .inl x))) (hi : 0 ≤ i.toInt ∧ i.toInt < n) (hdg : decode cc pc = .ok (.baload, 1))
    (kk : W p l e R s m args below meth c H locs cells slots Q (F0 m (pc + 1) ls (.int (σ.1 k i.toNatClampNeg) :: rest))) : W p l e R s m args below meth c H locs cells slots Q (F0 m pc ls (.int i :: .ref (h k) :: rest)) :=
  va_zald X.x X.b X.k Z.1 k 3 (wd_at hk) rfl (in_of hi) hdg kk
theorem x_lald (X : Cx p s m args c D h cy own cc nL) (Z : Zt D h cy s σ H locs) {k n : Nat} {i : Int32} (hk : Sh k (fun _ cy _ y => .inl (cy 2, n, .inr (.inl y)))) (hi : 0 ≤ i.toInt ∧ i.toInt < n) (hdg : decode cc pc = .ok (.laload, 1))
    (kk : W p l e R s m args below meth c H locs cells slots Q (F0 m (pc + 1) ls (.long (σ.2 k i.toNatClampNeg) :: rest))) : W p l e R s m args below meth c H locs cells slots Q (F0 m pc ls (.int i :: .ref (h k) :: rest)) :=
  va_lald X.x X.b X.k Z.1 k 2 (wd_at hk) rfl (in_of hi) hdg kk
theorem x_iast (X : Cx p s m args c D h cy own cc nL) (Z : Zt D h cy s σ H locs) {k n : Nat} {i x : Int32} (hk : Sh k (fun _ cy x _ => .inl (cy 1, n, .inl x))) (hi : 0 ≤ i.toInt ∧ i.toInt < n) (hdg : decode cc pc = .ok (.iastore, 1))
    (kk : ∀ (σ2 : St) (H : Heap) (locs : List Loc), σ2 = sI σ k i.toNatClampNeg x → Zt D h cy s σ2 H locs → W p l e R s m args below meth c H locs cells slots Q (F0 m (pc + 1) ls rest)) : W p l e R s m args below meth c H locs cells slots Q (F0 m pc ls (.int x :: .int i :: .ref (h k) :: rest)) :=
  va_iast X.x X.b X.k Z.1 (wd_D X.j σ) Z.2 k 1 (wd_at hk) rfl (in_of hi) hdg (fun H1 l1 hP hD hS => kk _ H1 l1 rfl ⟨by rw [← wd_sI hk rfl]; exact hP, hS⟩)
theorem x_bast (X : Cx p s m args c D h cy own cc nL) (Z : Zt D h cy s σ H locs) {k n : Nat} {i x : Int32} (hk : Sh k (fun _ cy x _ => .inl (cy 0, n, .inl x))) (hi : 0 ≤ i.toInt ∧ i.toInt < n) (hdg : decode cc pc = .ok (.bastore, 1))
    (kk : ∀ (σ2 : St) (H : Heap) (locs : List Loc), σ2 = sI σ k i.toNatClampNeg (vp_nar .byte x) → Zt D h cy s σ2 H locs → W p l e R s m args below meth c H locs cells slots Q (F0 m (pc + 1) ls rest)) : W p l e R s m args below meth c H locs cells slots Q (F0 m pc ls (.int x :: .int i :: .ref (h k) :: rest)) :=
  va_bast X.x X.b X.k Z.1 (wd_D X.j σ) Z.2 k 0 (wd_at hk) rfl (in_of hi) hdg (fun H1 l1 hP hD hS => kk _ H1 l1 rfl ⟨by rw [← wd_sI hk rfl]; exact hP, hS⟩)
theorem x_zast (X : Cx p s m args c D h cy own cc nL) (Z : Zt D h cy s σ H locs) {k n : Nat} {i x : Int32} (hk : Sh k (fun _ cy x _ => .inl (cy 3, n, .inl x))) (hi : 0 ≤ i.toInt ∧ i.toInt < n) (hdg : decode cc pc = .ok (.bastore, 1))
    (kk : ∀ (σ2 : St) (H : Heap) (locs : List Loc), σ2 = sI σ k i.toNatClampNeg (vp_nar .boolean x) → Zt D h cy s σ2 H locs → W p l e R s m args below meth c H locs cells slots Q (F0 m (pc + 1) ls rest)) : W p l e R s m args below meth c H locs cells slots Q (F0 m pc ls (.int x :: .int i :: .ref (h k) :: rest)) :=
  va_zast X.x X.b X.k Z.1 (wd_D X.j σ) Z.2 k 3 (wd_at hk) rfl (in_of hi) hdg (fun H1 l1 hP hD hS => kk _ H1 l1 rfl ⟨by rw [← wd_sI hk rfl]; exact hP, hS⟩)
theorem x_last (X : Cx p s m args c D h cy own cc nL) (Z : Zt D h cy s σ H locs) {k n : Nat} {i : Int32} {x : Int64} (hk : Sh k (fun _ cy _ y => .inl (cy 2, n, .inr (.inl y)))) (hi : 0 ≤ i.toInt ∧ i.toInt < n) (hdg : decode cc pc = .ok (.lastore, 1))
    (kk : ∀ (σ2 : St) (H : Heap) (locs : List Loc), σ2 = sJ σ k i.toNatClampNeg x → Zt D h cy s σ2 H locs → W p l e R s m args below meth c H locs cells slots Q (F0 m (pc + 1) ls rest)) : W p l e R s m args below meth c H locs cells slots Q (F0 m pc ls (.long x :: .int i :: .ref (h k) :: rest)) :=
  va_last X.x X.b X.k Z.1 (wd_D X.j σ) Z.2 k 2 (wd_at hk) rfl (in_of hi) hdg (fun H1 l1 hP hD hS => kk _ H1 l1 rfl ⟨by rw [← wd_sJ hk rfl]; exact hP, hS⟩)
theorem x_blen (X : Cx p s m args c D h cy own cc nL) (Z : Zt D h cy s σ H locs) {k n : Nat} (hk : Sh k (fun _ cy x _ => .inl (cy 0, n, .inl x))) (hdg : decode cc pc = .ok (.arraylength, 1))
    (kk : W p l e R s m args below meth c H locs cells slots Q (F0 m (pc + 1) ls (.int (Int32.ofNat n) :: rest))) : W p l e R s m args below meth c H locs cells slots Q (F0 m pc ls (.ref (h k) :: rest)) :=
  va_alen X.x X.b X.k Z.1 k 0 (wd_at hk) rfl rfl hdg kk
theorem x_ilen (X : Cx p s m args c D h cy own cc nL) (Z : Zt D h cy s σ H locs) {k n : Nat} (hk : Sh k (fun _ cy x _ => .inl (cy 1, n, .inl x))) (hdg : decode cc pc = .ok (.arraylength, 1))
    (kk : W p l e R s m args below meth c H locs cells slots Q (F0 m (pc + 1) ls (.int (Int32.ofNat n) :: rest))) : W p l e R s m args below meth c H locs cells slots Q (F0 m pc ls (.ref (h k) :: rest)) :=
  va_alen X.x X.b X.k Z.1 k 1 (wd_at hk) rfl rfl hdg kk
theorem x_zlen (X : Cx p s m args c D h cy own cc nL) (Z : Zt D h cy s σ H locs) {k n : Nat} (hk : Sh k (fun _ cy x _ => .inl (cy 3, n, .inl x))) (hdg : decode cc pc = .ok (.arraylength, 1))
    (kk : W p l e R s m args below meth c H locs cells slots Q (F0 m (pc + 1) ls (.int (Int32.ofNat n) :: rest))) : W p l e R s m args below meth c H locs cells slots Q (F0 m pc ls (.ref (h k) :: rest)) :=
  va_alen X.x X.b X.k Z.1 k 3 (wd_at hk) rfl rfl hdg kk
/-! calls -/
def Lk (own : String) (idx : Nat) (y : MethodName) (b : ByteArray) (n : Nat) (ret : Option FieldType) (na : Nat) : Prop :=
  Cond.methodLink own idx y ∈ GT ∧ Cond.code y b n ret ∈ GT ∧ Cond.initialized y.cls ∈ GT ∧ (y.cls ≠ "java/lang/invoke/MethodHandle" ∧ y.cls ≠ "java/lang/invoke/VarHandle" ∧ (parseMethodDescriptor y.desc).map (fun d => d.parameters.length) = some na)
def LkV (own : String) (idx : Nat) (y : MethodName) (b : ByteArray) (n : Nat) (ret : Option FieldType) (na : Nat) : Prop := Lk own idx y b n ret na ∧ Cond.instanceMethod y ∈ GT ∧ Cond.selects y.cls y y ∈ GT
def LkS (own : String) (idx : Nat) (y : MethodName) (b : ByteArray) (n : Nat) (ret : Option FieldType) (na : Nat) : Prop := Lk own idx y b n ret na ∧ Cond.static y ∈ GT
def LkN (own : String) (idx : Nat) (y : MethodName) (b : ByteArray) (n : Nat) (ret : Option FieldType) (na : Nat) (host : String) : Prop :=
  Cond.methodLinkNest own idx y host ∈ NWs ∧ Cond.code y b n ret ∈ GT ∧ Cond.initialized y.cls ∈ GT ∧ (y.cls ≠ "java/lang/invoke/MethodHandle" ∧ y.cls ≠ "java/lang/invoke/VarHandle" ∧ (parseMethodDescriptor y.desc).map (fun d => d.parameters.length) = some na) ∧ Cond.static y ∈ GT
theorem Pz_blind {av : List Value} {sz : Nat} : FrameBlind (Pz D h cy av σ sz) := fun a U g mk q => by
  obtain ⟨q0, q1, qP, qK, qj, qN⟩ := q
  exact ⟨q0, q1, qP, va_K.moved (u := U) (U := U.calling g mk a) (Vm.Alike.refl U.vm) qK, qj, Nst.same (u := U) rfl qN⟩
theorem Pz_at (X : Cx p s m args c D h cy own cc nL) (Z : Zt D h cy s σ H locs) (av : List Value) : ∀ U : State, U.heap = H → s.WarmedH U.vm → Pz D h cy av σ H.size av.toArray U := fun U hU hW =>
  ⟨rfl, by rw [hU], by rw [hU]; exact Z.1, va_K.moved hW.alike X.k, X.j, X.w.warm hW⟩
theorem Az_le (Z : Zt D h cy s σ H locs) : ∀ q, Az h H.size q → Az h s.heap.size q := fun q hq => hq.elim Or.inl (fun g => Or.inr (Nat.le_trans Z.2.1 g))
theorem lkB (X : Cx p s m args c D h cy own cc nL) {idx n na f lo : Nat} {y : MethodName} {b : ByteArray} {ret : Option FieldType} (hL : Lk own idx y b n ret na) (hR : f + 1 ≤ R.frames ∧ 8 + (n + 11) + lo ≤ R.locals) : CallB R s args own idx y b n ret (wz y b n ret) (rmz f lo) 0 0 na :=
  callB_of na X.t (good_wz hL.2.1) rfl rfl rfl (X.t _ hL.2.2.1) (X.t _ hL.1) hL.2.2.2 hR
def Recv (C : String) (k : Nat) : Prop := ∃ (ci : Nat) (T : u_T) (N : Nat) (F : (Nat → Nat) → (Nat → ClassId) → (Nat → Int32) → (Nat → Int64) → List Value), vwCl[ci]? = some (C, T, N) ∧ Sh k (fun h cy x y => .inr (ci, F h cy x y))
theorem x_recv (X : Cx p s m args c D h cy own cc nL) (Z : Zt D h cy s σ H locs) {C : String} {k : Nat} (hr : Recv C k) : ∃ cellB : Cell, H[h k]? = some cellB ∧ cellB.vm.isStatics = false ∧ s.vm.findClass C = some cellB.cls := by
  obtain ⟨ci, T, N, F, h1, h2⟩ := hr
  exact va_recv X.k Z.1 h1 (wd_at h2)
theorem run_V (X : Cx p s m args c D h cy own cc nL) (Z : Zt D h cy s σ H locs) {idx n na f lo k : Nat} {y : MethodName} {b : ByteArray} {ret : Option FieldType} {As : List Value} {Qc : Array Value → State → Outcome → State → Prop} (hM : Met l y (wz y b n ret) (rmz f lo) (Pz D h cy (.ref (h k) :: As) σ H.size) Qc 0 0 (Az h H.size)) (hL : LkV own idx y b n ret na) (hR : f + 1 ≤ R.frames ∧ 8 + (n + 11) + lo ≤ R.locals) (hrv : Recv y.cls k) (hn : As.length = na) (hsz : ls.size = nL) {st0 : List Value} (hst : st0 = As.reverse ++ .ref (h k) :: rest) (hrm : (rest.map fun v => v.category).sum ≤ 8) (hcs : cells ≤ R.cells ∧ slots ≤ R.slots) (hdg : decode cc pc = .ok (.invokevirtual idx, 3)) :
    va_Run p l e R s m args below meth c H locs cells slots 0 0 (F0 m pc ls st0) rest (Qc (Value.ref (h k) :: As).toArray) (Az h H.size) :=
  va_runV (As := As) (rest := rest) ⟨X.x, X.b, X.n, X.o, X.t⟩ hM ⟨lkB X hL.1 hR, X.t _ hL.2.1, X.t _ hL.2.2⟩ ⟨Pz_blind, x_recv X Z hrv, Pz_at X Z _⟩ rfl hn hsz hst (lv_room hrm) hdg hcs
theorem run_S (X : Cx p s m args c D h cy own cc nL) (Z : Zt D h cy s σ H locs) {idx n na f lo : Nat} {y : MethodName} {b : ByteArray} {ret : Option FieldType} {As : List Value} {Qc : Array Value → State → Outcome → State → Prop} (hM : Met l y (wz y b n ret) (rmz f lo) (Pz D h cy As σ H.size) Qc 0 0 (Az h H.size)) (hL : LkS own idx y b n ret na) (hR : f + 1 ≤ R.frames ∧ 8 + (n + 11) + lo ≤ R.locals) (hn : As.length = na) (hsz : ls.size = nL) {st0 : List Value} (hst : st0 = As.reverse ++ rest) (hrm : (rest.map fun v => v.category).sum ≤ 8) (hcs : cells ≤ R.cells ∧ slots ≤ R.slots) (hdg : decode cc pc = .ok (.invokestatic idx, 3)) :
    va_Run p l e R s m args below meth c H locs cells slots 0 0 (F0 m pc ls st0) rest (Qc As.toArray) (Az h H.size) :=
  va_runS (As := As) (rest := rest) ⟨X.x, X.b, X.n, X.o, X.t⟩ hM ⟨lkB X hL.1 hR, X.t _ hL.2⟩ ⟨Pz_blind, Pz_at X Z _⟩ rfl hn hsz hst (lv_room hrm) hdg hcs
theorem run_N (X : Cx p s m args c D h cy own cc nL) (Z : Zt D h cy s σ H locs) {idx n na f lo : Nat} {y : MethodName} {b : ByteArray} {ret : Option FieldType} {host : String} {As : List Value} {Qc : Array Value → State → Outcome → State → Prop} (hM : Met l y (wz y b n ret) (rmz f lo) (Pz D h cy As σ H.size) Qc 0 0 (Az h H.size)) (hL : LkN own idx y b n ret na host) (hR : f + 1 ≤ R.frames ∧ 8 + (n + 11) + lo ≤ R.locals) (hn : As.length = na) (hsz : ls.size = nL) {st0 : List Value} (hst : st0 = As.reverse ++ rest) (hrm : (rest.map fun v => v.category).sum ≤ 8) (hcs : cells ≤ R.cells ∧ slots ≤ R.slots) (hdg : decode cc pc = .ok (.invokestatic idx, 3)) :
    va_Run p l e R s m args below meth c H locs cells slots 0 0 (F0 m pc ls st0) rest (Qc As.toArray) (Az h H.size) :=
  va_runSN (As := As) (rest := rest) ⟨X.x, X.b, X.n, X.o, X.t⟩ hM ⟨va_cnB na X.t (good_wz hL.2.1) rfl rfl rfl (X.w _ hL.1) (X.t _ hL.2.2.1) hL.2.2.2.1 hR, X.t _ hL.2.2.2.2, trivial⟩ ⟨Pz_blind, Pz_at X Z _⟩ rfl hn hsz hst (lv_room hrm) hdg hcs
theorem goI (Z : Zt D h cy s σ H locs) {st0 : List Value} {a : Array Value} {r : Int32} {σ1 : St} (hr : va_Run p l e R s m args below meth c H locs cells slots 0 0 (F0 m pc ls st0) rest (QI D h cy H.size (r, σ1) a) (Az h H.size))
    (kk : ∀ (H : Heap) (locs : List Loc), Zt D h cy s σ1 H locs → W p l e R s m args below meth c H locs cells slots Q (F0 m (pc + 3) ls (.int r :: rest))) : W p l e R s m args below meth c H locs cells slots Q (F0 m pc ls st0) :=
  va_calli hr Z.2 (fun q _ hq => Az_le Z q hq) (Az_le Z) (fun r1 u t H1 l1 ht hvm hw hB hz hk hS => by
    obtain ⟨rfl, rfl⟩ := hw
    exact kk H1 l1 ⟨by rw [← ht]; exact hB, hS⟩)
theorem goL (Z : Zt D h cy s σ H locs) {st0 : List Value} {a : Array Value} {r : Int64} {σ1 : St} (hr : va_Run p l e R s m args below meth c H locs cells slots 0 0 (F0 m pc ls st0) rest (QL D h cy H.size (r, σ1) a) (Az h H.size))
    (kk : ∀ (H : Heap) (locs : List Loc), Zt D h cy s σ1 H locs → W p l e R s m args below meth c H locs cells slots Q (F0 m (pc + 3) ls (.long r :: rest))) : W p l e R s m args below meth c H locs cells slots Q (F0 m pc ls st0) :=
  va_calll hr Z.2 (fun q _ hq => Az_le Z q hq) (Az_le Z) (fun r1 u t H1 l1 ht hvm hw hB hz hk hS => by
    obtain ⟨rfl, rfl⟩ := hw
    exact kk H1 l1 ⟨by rw [← ht]; exact hB, hS⟩)
theorem goV (Z : Zt D h cy s σ H locs) {st0 : List Value} {a : Array Value} {y : St} (hr : va_Run p l e R s m args below meth c H locs cells slots 0 0 (F0 m pc ls st0) rest (QV D h cy H.size y a) (Az h H.size))
    (kk : ∀ (H : Heap) (locs : List Loc), Zt D h cy s y H locs → W p l e R s m args below meth c H locs cells slots Q (F0 m (pc + 3) ls rest)) : W p l e R s m args below meth c H locs cells slots Q (F0 m pc ls st0) :=
  va_callv hr Z.2 (fun q _ hq => Az_le Z q hq) (Az_le Z) (fun u t H1 l1 ht hvm hw hB hz hk hS => by
    subst hw
    exact kk H1 l1 ⟨by rw [← ht]; exact hB, hS⟩)
/-! a long compare and its branch -/
theorem x_lif_eq (X : Cx p s m args c D h cy own cc nL) {x y : Int64} {off : Int} {tgt : Nat} (hd1 : decode cc pc = .ok (.lcmp, 1)) (hd2 : decode cc (pc + 1) = .ok (.ifCond .eq off, 3)) (ht : ((pc + 1 : Nat) : Int) + off = (tgt : Int)) (kt : x = y → W p l e R s m args below meth c H locs cells slots Q (F0 m tgt ls rest)) (kf : ¬ (x = y) → W p l e R s m args below meth c H locs cells slots Q (F0 m (pc + 4) ls rest)) : W p l e R s m args below meth c H locs cells slots Q (F0 m pc ls (.long y :: .long x :: rest)) :=
  W.lcmp X.x X.b hd1 (lv_if_eq X.x X.b hd2 ht (fun hc => kt ((zcmp_eq x y).mp hc)) (fun hc => kf (fun q => hc ((zcmp_eq x y).mpr q))))
theorem x_lif_ne (X : Cx p s m args c D h cy own cc nL) {x y : Int64} {off : Int} {tgt : Nat} (hd1 : decode cc pc = .ok (.lcmp, 1)) (hd2 : decode cc (pc + 1) = .ok (.ifCond .ne off, 3)) (ht : ((pc + 1 : Nat) : Int) + off = (tgt : Int)) (kt : ¬ x = y → W p l e R s m args below meth c H locs cells slots Q (F0 m tgt ls rest)) (kf : x = y → W p l e R s m args below meth c H locs cells slots Q (F0 m (pc + 4) ls rest)) : W p l e R s m args below meth c H locs cells slots Q (F0 m pc ls (.long y :: .long x :: rest)) :=
  W.lcmp X.x X.b hd1 (lv_if_ne X.x X.b hd2 ht (fun hc => kt ((zcmp_ne x y).mp hc)) (fun hc => kf ((zcmp_eq x y).mp hc)))
theorem x_lif_lt (X : Cx p s m args c D h cy own cc nL) {x y : Int64} {off : Int} {tgt : Nat} (hd1 : decode cc pc = .ok (.lcmp, 1)) (hd2 : decode cc (pc + 1) = .ok (.ifCond .lt off, 3)) (ht : ((pc + 1 : Nat) : Int) + off = (tgt : Int)) (kt : x < y → W p l e R s m args below meth c H locs cells slots Q (F0 m tgt ls rest)) (kf : ¬ (x < y) → W p l e R s m args below meth c H locs cells slots Q (F0 m (pc + 4) ls rest)) : W p l e R s m args below meth c H locs cells slots Q (F0 m pc ls (.long y :: .long x :: rest)) :=
  W.lcmp X.x X.b hd1 (lv_if_lt X.x X.b hd2 ht (fun hc => kt ((zcmp_lt x y).mp hc)) (fun hc => kf (fun q => hc ((zcmp_lt x y).mpr q))))
theorem x_lif_ge (X : Cx p s m args c D h cy own cc nL) {x y : Int64} {off : Int} {tgt : Nat} (hd1 : decode cc pc = .ok (.lcmp, 1)) (hd2 : decode cc (pc + 1) = .ok (.ifCond .ge off, 3)) (ht : ((pc + 1 : Nat) : Int) + off = (tgt : Int)) (kt : y ≤ x → W p l e R s m args below meth c H locs cells slots Q (F0 m tgt ls rest)) (kf : ¬ (y ≤ x) → W p l e R s m args below meth c H locs cells slots Q (F0 m (pc + 4) ls rest)) : W p l e R s m args below meth c H locs cells slots Q (F0 m pc ls (.long y :: .long x :: rest)) :=
  W.lcmp X.x X.b hd1 (lv_if_ge X.x X.b hd2 ht (fun hc => kt ((zcmp_ge x y).mp hc)) (fun hc => kf (fun q => hc ((zcmp_ge x y).mpr q))))
theorem x_lif_gt (X : Cx p s m args c D h cy own cc nL) {x y : Int64} {off : Int} {tgt : Nat} (hd1 : decode cc pc = .ok (.lcmp, 1)) (hd2 : decode cc (pc + 1) = .ok (.ifCond .gt off, 3)) (ht : ((pc + 1 : Nat) : Int) + off = (tgt : Int)) (kt : y < x → W p l e R s m args below meth c H locs cells slots Q (F0 m tgt ls rest)) (kf : ¬ (y < x) → W p l e R s m args below meth c H locs cells slots Q (F0 m (pc + 4) ls rest)) : W p l e R s m args below meth c H locs cells slots Q (F0 m pc ls (.long y :: .long x :: rest)) :=
  W.lcmp X.x X.b hd1 (lv_if_gt X.x X.b hd2 ht (fun hc => kt ((zcmp_gt x y).mp hc)) (fun hc => kf (fun q => hc ((zcmp_gt x y).mpr q))))
theorem x_lif_le (X : Cx p s m args c D h cy own cc nL) {x y : Int64} {off : Int} {tgt : Nat} (hd1 : decode cc pc = .ok (.lcmp, 1)) (hd2 : decode cc (pc + 1) = .ok (.ifCond .le off, 3)) (ht : ((pc + 1 : Nat) : Int) + off = (tgt : Int)) (kt : x ≤ y → W p l e R s m args below meth c H locs cells slots Q (F0 m tgt ls rest)) (kf : ¬ (x ≤ y) → W p l e R s m args below meth c H locs cells slots Q (F0 m (pc + 4) ls rest)) : W p l e R s m args below meth c H locs cells slots Q (F0 m pc ls (.long y :: .long x :: rest)) :=
  W.lcmp X.x X.b hd1 (lv_if_le X.x X.b hd2 ht (fun hc => kt ((zcmp_le x y).mp hc)) (fun hc => kf (fun q => hc ((zcmp_le x y).mpr q))))
/-! a block copy -/
abbrev cpOk (σ : St) (k0 n0 n1 : Nat) (sp dp n : Int32) : Prop := ¬ sp < 0 ∧ ¬ dp < 0 ∧ ¬ n < 0 ∧ sp.toNatClampNeg + n.toNatClampNeg ≤ n0 ∧ dp.toNatClampNeg + n.toNatClampNeg ≤ n1 ∧ ∀ i, i < n.toNatClampNeg → fits .byte (.int (σ.1 k0 (sp.toNatClampNeg + i))) = true
theorem x_copyb (X : Cx p s m args c D h cy own cc nL) (Z : Zt D h cy s σ H locs) (hsz : ls.size = nL) {k0 k1 n0 n1 idx : Nat} (h0 : Sh k0 (fun _ cy x _ => .inl (cy 0, n0, .inl x))) (h1 : Sh k1 (fun _ cy x _ => .inl (cy 0, n1, .inl x))) {sp dp n : Int32} (hg : cpOk σ k0 n0 n1 sp dp n) (hlk : Cond.methodLink own idx arraycopyName ∈ GT) (hfr : 1 ≤ R.frames) (hlo : (rest.map fun v => v.category).sum + (nativeFrameWords "java/lang/System" "arraycopy" 5 + 11) ≤ R.locals) (hdg : decode cc pc = .ok (.invokestatic idx, 3))
    (kk : ∀ (σ2 : St) (H : Heap) (locs : List Loc), σ2 = sR σ k1 (va_cpy (σ.1 k0) (σ.1 k1) sp.toNatClampNeg dp.toNatClampNeg n.toNatClampNeg) → Zt D h cy s σ2 H locs → W p l e R s m args below meth c H locs cells slots Q (F0 m (pc + 3) ls rest)) : W p l e R s m args below meth c H locs cells slots Q (F0 m pc ls (.int n :: .int dp :: .ref (h k1) :: .int sp :: .ref (h k0) :: rest)) :=
  va_copyi X.x X.b (by rw [X.n, hsz]) X.o (X.t _ hlk) (X.t _ ac_nat) (X.t _ ac_st) (X.t _ ac_in) X.k Z.1 (wd_D X.j σ) Z.2 k0 k1 0 0 (wd_at h0) (wd_at h1) rfl rfl rfl hg.1 hg.2.1 hg.2.2.1 hg.2.2.2.1 hg.2.2.2.2.1 hg.2.2.2.2.2 hfr hlo hdg (fun H1 l1 hP hD hS => kk _ H1 l1 rfl ⟨by rw [← wd_sR h1 rfl]; exact hP, hS⟩)
end RT

