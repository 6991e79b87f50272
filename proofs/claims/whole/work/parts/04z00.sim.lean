theorem gd_t {c : Prop} [Decidable c] {β : Type} {x : Option β} (h : c) : gd c x = x := if_pos h
theorem bi_t {α β : Type} {a : α} {σ : St} {f : α → St → Option β} : bi (some (a, σ)) f = f a σ := rfl
theorem bv_t {β : Type} {σ : St} {f : St → Option β} : bv (some σ) f = f σ := rfl
def Sim (R : St → Prop) (f g : St → Option (Int32 × St)) : Prop := ∀ σ, R σ → ∃ (r : Int32) (σ1 σ2 : St), f σ = some (r, σ1) ∧ g σ1 = some (r, σ2) ∧ R σ2
def SimX (R : St → Prop) (f : St → Option (Int32 × St)) (g : St → Option (Int64 × St)) : Prop := ∀ σ, R σ → ∃ (k : Int32) (σ1 : St) (q : Int64) (σ2 : St), f σ = some (k, σ1) ∧ g σ1 = some (q, σ2) ∧ f_X12_thrown σ2 = some (k, σ2) ∧ (k = 0 → σ2.2 110 0 = q) ∧ R σ2
theorem law_ib {L w : Nat} (hL : L ≤ 3072) (h6 : 6 * w + 6 ≤ L) (j : Nat) (hj : j < 6) : ib (nI (6 * w) + nI j) L := by
  rw [nI_add]
  have h := nI_toInt (n := 6 * w + j) (by omega)
  exact ⟨by rw [h]; omega, by rw [h]; omega⟩
set_option maxRecDepth 100000 in
set_option maxHeartbeats 8000000 in
theorem pure_of (R : St → Prop) (h0 : R σ0) (s_feed : ∀ (a1 a2 a3 a4 a5 : Int32), Sim R (f_X11_feed a1 a2 a3 a4 a5) (f_X12_feed a1 a2 a3 a4 a5))
    (s_end : ∀ (a1 : Int32), Sim R (f_X11_end a1) (f_X12_end a1))
    (s_anew : ∀ (a1 a2 : Int32), Sim R (f_X11_anew a1 a2) (f_X12_anew a1 a2))
    (s_segment : ∀ (a1 a2 : Int32), Sim R (f_X11_segment a1 a2) (f_X12_segment a1 a2))
    (s_fill : ∀ (a1 a2 : Int32), Sim R (f_X11_fill a1 a2) (f_X12_fill a1 a2))
    (s_section : ∀ (a1 a2 a3 : Int32), Sim R (f_X11_section a1 a2 a3) (f_X12_section a1 a2 a3))
    (s_symbol : ∀ (a1 a2 : Int32), Sim R (f_X11_symbol a1 a2) (f_X12_symbol a1 a2))
    (s_imports : ∀ (a1 z : Int32), (z = 0 ∨ z = 1) → Sim R (f_X11_imports a1 z) (f_X12_imports a1 z))
    (s_rebase : ∀ (a1 a2 : Int32) (a3 : Int64) (a4 : Int32), Sim R (f_X11_rebase a1 a2 a3 a4) (f_X12_rebase a1 a2 a3 a4))
    (s_bind : ∀ (a1 a2 a3 a4 : Int32), Sim R (f_X11_bind a1 a2 a3 a4) (f_X12_bind a1 a2 a3 a4))
    (s_drop : ∀ (a1 a2 : Int32), Sim R (f_X11_drop a1 a2) (f_X12_drop a1 a2))
    (s_write : Sim R (f_X11_write) (f_X12_write))
    (s_image : ∀ (a1 : Int32), Sim R (f_X11_image a1) (f_X12_image a1))
    (s_damage : ∀ (a1 a2 : Int32), Sim R (f_X11_damage a1 a2) (f_X12_damage a1 a2))
    (s_cut : ∀ (a1 : Int32), Sim R (f_X11_cut a1) (f_X12_cut a1))
    (s_export : ∀ (a1 a2 : Int32), Sim R (f_X11_export a1 a2) (f_X12_export a1 a2))
    (s_load : ∀ (a1 : Int32), Sim R (f_X11_load a1) (f_X12_load a1))
    (s_place : Sim R (f_X11_place) (f_X12_place))
    (s_memory : ∀ (a1 : Int32), Sim R (f_X11_memory a1) (f_X12_memory a1))
    (s_pointer : ∀ (a1 : Int32), SimX R (f_L_pointer a1) (f_X12_pointer a1))
    (s_visit : ∀ (a1 a2 : Int32), SimX R (f_L_visit a1 a2) (f_X12_visit a1 a2))
    (s_find : Sim R (f_X11_find) (f_X12_find))
    (s_count : ∀ (a1 : Int32), Sim R (f_X11_count a1) (f_X12_count a1))
    (L : Nat) (xs : Nat → Int32) (hL : L ≤ 3072) : ∃ y, f_L_law_23 L xs 0 σ0 = some y ∧ y.1 = 1 := by
  have key : ∀ (n w : Nat) (σ : St), R σ → 6 * w ≤ L → L < 6 * (w + n) → ∃ y, it (fun K a => f_L_law_23b L xs K a.1 a.2) n (nI (6 * w), σ) = some y ∧ y.1 = 1 := by
    intro n
    induction n with
    | zero => intro w σ _ h1 h2; omega
    | succ n ih =>
      intro w σ hR hw hn
      show ∃ y, f_L_law_23b L xs (it (fun K a => f_L_law_23b L xs K a.1 a.2) n) (nI (6 * w)) σ = some y ∧ y.1 = 1
      have nx : ∀ σ', R σ' → 6 * w + 6 ≤ L → ∃ y, f_L_law_1047 L xs (it (fun K a => f_L_law_23b L xs K a.1 a.2) n) (nI (6 * w)) σ' = some y ∧ y.1 = 1 := by
        intro σ' hR' h6
        have h7 := ih (w + 1) σ' hR' (by omega) (by omega)
        unfold f_L_law_1047 zn
        rw [law_6]
        exact h7
      generalize it (fun K a => f_L_law_23b L xs K a.1 a.2) n = K at nx ⊢
      unfold f_L_law_23b
      by_cases hc : Int32.ofNat L - 6 < nI (6 * w)
      · rw [if_pos hc]
        exact ⟨_, rfl, rfl⟩
      · rw [if_neg hc]
        have h6 := law_lt hL rfl hw hc
        have nx := fun σ' hR' => nx σ' hR' h6
        have i0 : ib (nI (6 * w)) L := by
          have h := nI_toInt (n := 6 * w) (by omega)
          exact ⟨by rw [h]; omega, by rw [h]; omega⟩
        have i1 : ib (nI (6 * w) + 1) L := law_ib hL h6 1 (by decide)
        have i2 : ib (nI (6 * w) + 2) L := law_ib hL h6 2 (by decide)
        have i3 : ib (nI (6 * w) + 3) L := law_ib hL h6 3 (by decide)
        have i4 : ib (nI (6 * w) + 4) L := law_ib hL h6 4 (by decide)
        have i5 : ib (nI (6 * w) + 5) L := law_ib hL h6 5 (by decide)
        have iz : ib (0 : Int32) 1 := by decide
        have i00 : (0 : Int32).toNatClampNeg = 0 := by decide
        clear hc
        generalize nI (6 * w) = x4 at nx i0 i1 i2 i3 i4 i5 ⊢
        rw [gd_t i0]
        generalize (xs x4.toNatClampNeg) &&& (31 : Int32) = op
        by_cases c0 : op = 0
        · rw [if_pos c0]
          obtain ⟨r, s1, s2, h1, h2, h3⟩ := s_feed ((xs ((x4 + (1 : Int32))).toNatClampNeg)) ((xs ((x4 + (2 : Int32))).toNatClampNeg)) ((xs ((x4 + (3 : Int32))).toNatClampNeg)) ((xs ((x4 + (4 : Int32))).toNatClampNeg)) ((xs ((x4 + (5 : Int32))).toNatClampNeg)) σ hR
          simp only [gd_t i1, gd_t i2, gd_t i3, gd_t i4, gd_t i5, h1, bi_t, h2, if_true]
          exact nx s2 h3
        rw [if_neg c0]
        by_cases c1 : op = 1
        · rw [if_pos c1]
          obtain ⟨r, s1, s2, h1, h2, h3⟩ := s_end ((xs ((x4 + (1 : Int32))).toNatClampNeg)) σ hR
          simp only [gd_t i1, gd_t i2, gd_t i3, gd_t i4, gd_t i5, h1, bi_t, h2, if_true]
          exact nx s2 h3
        rw [if_neg c1]
        by_cases c2 : op = 2
        · rw [if_pos c2]
          obtain ⟨r, s1, s2, h1, h2, h3⟩ := s_anew ((xs ((x4 + (1 : Int32))).toNatClampNeg)) ((xs ((x4 + (2 : Int32))).toNatClampNeg)) σ hR
          simp only [gd_t i1, gd_t i2, gd_t i3, gd_t i4, gd_t i5, h1, bi_t, h2, if_true]
          exact nx s2 h3
        rw [if_neg c2]
        by_cases c3 : op = 3
        · rw [if_pos c3]
          obtain ⟨r, s1, s2, h1, h2, h3⟩ := s_segment ((xs ((x4 + (1 : Int32))).toNatClampNeg)) ((xs ((x4 + (2 : Int32))).toNatClampNeg)) σ hR
          simp only [gd_t i1, gd_t i2, gd_t i3, gd_t i4, gd_t i5, h1, bi_t, h2, if_true]
          exact nx s2 h3
        rw [if_neg c3]
        by_cases c4 : op = 4
        · rw [if_pos c4]
          obtain ⟨r, s1, s2, h1, h2, h3⟩ := s_fill ((xs ((x4 + (1 : Int32))).toNatClampNeg)) ((xs ((x4 + (2 : Int32))).toNatClampNeg)) σ hR
          simp only [gd_t i1, gd_t i2, gd_t i3, gd_t i4, gd_t i5, h1, bi_t, h2, if_true]
          exact nx s2 h3
        rw [if_neg c4]
        by_cases c5 : op = 5
        · rw [if_pos c5]
          obtain ⟨r, s1, s2, h1, h2, h3⟩ := s_section ((xs ((x4 + (1 : Int32))).toNatClampNeg)) ((xs ((x4 + (2 : Int32))).toNatClampNeg)) ((xs ((x4 + (3 : Int32))).toNatClampNeg)) σ hR
          simp only [gd_t i1, gd_t i2, gd_t i3, gd_t i4, gd_t i5, h1, bi_t, h2, if_true]
          exact nx s2 h3
        rw [if_neg c5]
        by_cases c6 : op = 6
        · rw [if_pos c6]
          obtain ⟨r, s1, s2, h1, h2, h3⟩ := s_symbol ((xs ((x4 + (1 : Int32))).toNatClampNeg)) ((xs ((x4 + (2 : Int32))).toNatClampNeg)) σ hR
          simp only [gd_t i1, gd_t i2, gd_t i3, gd_t i4, gd_t i5, h1, bi_t, h2, if_true]
          exact nx s2 h3
        rw [if_neg c6]
        by_cases c7 : op = 7
        · rw [if_pos c7]
          by_cases cz : (xs (x4 + 2).toNatClampNeg) = 0
          · obtain ⟨r, s1, s2, h1, h2, h3⟩ := s_imports (xs (x4 + 1).toNatClampNeg) 0 (by decide) σ hR
            simp only [gd_t i1, gd_t i2, gd_t i3, gd_t i4, gd_t i5, if_pos cz, f_L_law_464, f_L_law_488, h1, bi_t, h2, if_true]
            exact nx s2 h3
          · obtain ⟨r, s1, s2, h1, h2, h3⟩ := s_imports (xs (x4 + 1).toNatClampNeg) 1 (by decide) σ hR
            simp only [gd_t i1, gd_t i2, gd_t i3, gd_t i4, gd_t i5, if_neg cz, f_L_law_464, f_L_law_488, h1, bi_t, h2, if_true]
            exact nx s2 h3
        rw [if_neg c7]
        by_cases c8 : op = 8
        · rw [if_pos c8]
          obtain ⟨r, s1, s2, h1, h2, h3⟩ := s_rebase ((xs ((x4 + (1 : Int32))).toNatClampNeg)) ((xs ((x4 + (2 : Int32))).toNatClampNeg)) (((zlshl (((xs ((x4 + (3 : Int32))).toNatClampNeg)).toInt64) (32 : Int32)) ||| (((xs ((x4 + (4 : Int32))).toNatClampNeg)).toInt64 &&& (4294967295 : Int64)))) ((xs ((x4 + (5 : Int32))).toNatClampNeg)) σ hR
          simp only [gd_t i1, gd_t i2, gd_t i3, gd_t i4, gd_t i5, h1, bi_t, h2, if_true]
          exact nx s2 h3
        rw [if_neg c8]
        by_cases c9 : op = 9
        · rw [if_pos c9]
          obtain ⟨r, s1, s2, h1, h2, h3⟩ := s_bind ((xs ((x4 + (1 : Int32))).toNatClampNeg)) ((xs ((x4 + (2 : Int32))).toNatClampNeg)) ((xs ((x4 + (3 : Int32))).toNatClampNeg)) ((xs ((x4 + (4 : Int32))).toNatClampNeg)) σ hR
          simp only [gd_t i1, gd_t i2, gd_t i3, gd_t i4, gd_t i5, h1, bi_t, h2, if_true]
          exact nx s2 h3
        rw [if_neg c9]
        by_cases c10 : op = 10
        · rw [if_pos c10]
          obtain ⟨r, s1, s2, h1, h2, h3⟩ := s_drop ((xs ((x4 + (1 : Int32))).toNatClampNeg)) ((xs ((x4 + (2 : Int32))).toNatClampNeg)) σ hR
          simp only [gd_t i1, gd_t i2, gd_t i3, gd_t i4, gd_t i5, h1, bi_t, h2, if_true]
          exact nx s2 h3
        rw [if_neg c10]
        by_cases c11 : op = 11
        · rw [if_pos c11]
          obtain ⟨r, s1, s2, h1, h2, h3⟩ := s_write σ hR
          simp only [gd_t i1, gd_t i2, gd_t i3, gd_t i4, gd_t i5, h1, bi_t, h2, if_true]
          exact nx s2 h3
        rw [if_neg c11]
        by_cases c12 : op = 12
        · rw [if_pos c12]
          obtain ⟨r, s1, s2, h1, h2, h3⟩ := s_image ((xs ((x4 + (1 : Int32))).toNatClampNeg)) σ hR
          simp only [gd_t i1, gd_t i2, gd_t i3, gd_t i4, gd_t i5, h1, bi_t, h2, if_true]
          exact nx s2 h3
        rw [if_neg c12]
        by_cases c13 : op = 13
        · rw [if_pos c13]
          obtain ⟨r, s1, s2, h1, h2, h3⟩ := s_damage ((xs ((x4 + (1 : Int32))).toNatClampNeg)) ((xs ((x4 + (2 : Int32))).toNatClampNeg)) σ hR
          simp only [gd_t i1, gd_t i2, gd_t i3, gd_t i4, gd_t i5, h1, bi_t, h2, if_true]
          exact nx s2 h3
        rw [if_neg c13]
        by_cases c14 : op = 14
        · rw [if_pos c14]
          obtain ⟨r, s1, s2, h1, h2, h3⟩ := s_cut ((xs ((x4 + (1 : Int32))).toNatClampNeg)) σ hR
          simp only [gd_t i1, gd_t i2, gd_t i3, gd_t i4, gd_t i5, h1, bi_t, h2, if_true]
          exact nx s2 h3
        rw [if_neg c14]
        by_cases c15 : op = 15
        · rw [if_pos c15]
          obtain ⟨r, s1, s2, h1, h2, h3⟩ := s_export ((xs ((x4 + (1 : Int32))).toNatClampNeg)) ((xs ((x4 + (2 : Int32))).toNatClampNeg)) σ hR
          simp only [gd_t i1, gd_t i2, gd_t i3, gd_t i4, gd_t i5, h1, bi_t, h2, if_true]
          exact nx s2 h3
        rw [if_neg c15]
        by_cases c16 : op = 16
        · rw [if_pos c16]
          obtain ⟨r, s1, s2, h1, h2, h3⟩ := s_load ((xs ((x4 + (1 : Int32))).toNatClampNeg)) σ hR
          simp only [gd_t i1, gd_t i2, gd_t i3, gd_t i4, gd_t i5, h1, bi_t, h2, if_true]
          exact nx s2 h3
        rw [if_neg c16]
        by_cases c17 : op = 17
        · rw [if_pos c17]
          obtain ⟨r, s1, s2, h1, h2, h3⟩ := s_place σ hR
          simp only [gd_t i1, gd_t i2, gd_t i3, gd_t i4, gd_t i5, h1, bi_t, h2, if_true]
          exact nx s2 h3
        rw [if_neg c17]
        by_cases c18 : op = 18
        · rw [if_pos c18]
          obtain ⟨r, s1, s2, h1, h2, h3⟩ := s_memory ((xs ((x4 + (1 : Int32))).toNatClampNeg)) σ hR
          simp only [gd_t i1, gd_t i2, gd_t i3, gd_t i4, gd_t i5, h1, bi_t, h2, if_true]
          exact nx s2 h3
        rw [if_neg c18]
        by_cases c19 : op = 19
        · rw [if_pos c19]
          obtain ⟨r, s1, q, s2, h1, h2, h3, h4, h5⟩ := s_pointer ((xs ((x4 + (1 : Int32))).toNatClampNeg)) σ hR
          by_cases cr : r = 0
          · simp only [gd_t i1, gd_t i2, gd_t i3, gd_t i4, gd_t i5, h1, bi_t, h2, h3, if_true, if_pos cr, gd_t iz, h4 cr, i00, f_L_law_939]
            exact nx s2 h5
          · simp only [gd_t i1, gd_t i2, gd_t i3, gd_t i4, gd_t i5, h1, bi_t, h2, h3, if_true, if_neg cr, f_L_law_939]
            exact nx s2 h5
        rw [if_neg c19]
        by_cases c20 : op = 20
        · rw [if_pos c20]
          obtain ⟨r, s1, q, s2, h1, h2, h3, h4, h5⟩ := s_visit ((xs ((x4 + (1 : Int32))).toNatClampNeg)) ((xs ((x4 + (2 : Int32))).toNatClampNeg)) σ hR
          by_cases cr : r = 0
          · simp only [gd_t i1, gd_t i2, gd_t i3, gd_t i4, gd_t i5, h1, bi_t, h2, h3, if_true, if_pos cr, gd_t iz, h4 cr, i00, f_L_law_1006]
            exact nx s2 h5
          · simp only [gd_t i1, gd_t i2, gd_t i3, gd_t i4, gd_t i5, h1, bi_t, h2, h3, if_true, if_neg cr, f_L_law_1006]
            exact nx s2 h5
        rw [if_neg c20]
        by_cases c21 : op = 21
        · rw [if_pos c21]
          obtain ⟨r, s1, s2, h1, h2, h3⟩ := s_find σ hR
          simp only [gd_t i1, gd_t i2, gd_t i3, gd_t i4, gd_t i5, h1, bi_t, h2, if_true]
          exact nx s2 h3
        rw [if_neg c21]
        by_cases c22 : op = 22
        · rw [if_pos c22]
          obtain ⟨r, s1, s2, h1, h2, h3⟩ := s_count ((xs ((x4 + (1 : Int32))).toNatClampNeg)) σ hR
          simp only [gd_t i1, gd_t i2, gd_t i3, gd_t i4, gd_t i5, h1, bi_t, h2, if_true]
          exact nx s2 h3
        rw [if_neg c22]
        exact nx σ hR
  exact key FU 0 σ0 h0 (Nat.zero_le _) (by unfold FU; omega)
