/-! numbers as nI and lN, decided by omega -/
theorem li_0 : (0 : Int32) = nI 0 := rfl
theorem li_1 : (1 : Int32) = nI 1 := rfl
theorem li_2 : (2 : Int32) = nI 2 := rfl
theorem li_3 : (3 : Int32) = nI 3 := rfl
theorem li_4 : (4 : Int32) = nI 4 := rfl
theorem li_5 : (5 : Int32) = nI 5 := rfl
theorem li_6 : (6 : Int32) = nI 6 := rfl
theorem li_7 : (7 : Int32) = nI 7 := rfl
theorem li_8 : (8 : Int32) = nI 8 := rfl
theorem li_9 : (9 : Int32) = nI 9 := rfl
theorem li_10 : (10 : Int32) = nI 10 := rfl
theorem li_11 : (11 : Int32) = nI 11 := rfl
theorem li_12 : (12 : Int32) = nI 12 := rfl
theorem li_13 : (13 : Int32) = nI 13 := rfl
theorem li_14 : (14 : Int32) = nI 14 := rfl
theorem li_15 : (15 : Int32) = nI 15 := rfl
theorem li_16 : (16 : Int32) = nI 16 := rfl
theorem li_17 : (17 : Int32) = nI 17 := rfl
theorem li_18 : (18 : Int32) = nI 18 := rfl
theorem li_19 : (19 : Int32) = nI 19 := rfl
theorem li_20 : (20 : Int32) = nI 20 := rfl
theorem li_22 : (22 : Int32) = nI 22 := rfl
theorem li_24 : (24 : Int32) = nI 24 := rfl
theorem li_28 : (28 : Int32) = nI 28 := rfl
theorem li_30 : (30 : Int32) = nI 30 := rfl
theorem li_31 : (31 : Int32) = nI 31 := rfl
theorem li_32 : (32 : Int32) = nI 32 := rfl
theorem li_33 : (33 : Int32) = nI 33 := rfl
theorem li_36 : (36 : Int32) = nI 36 := rfl
theorem li_40 : (40 : Int32) = nI 40 := rfl
theorem li_48 : (48 : Int32) = nI 48 := rfl
theorem li_51 : (51 : Int32) = nI 51 := rfl
theorem li_52 : (52 : Int32) = nI 52 := rfl
theorem li_56 : (56 : Int32) = nI 56 := rfl
theorem li_64 : (64 : Int32) = nI 64 := rfl
theorem li_72 : (72 : Int32) = nI 72 := rfl
theorem li_80 : (80 : Int32) = nI 80 := rfl
theorem li_100 : (100 : Int32) = nI 100 := rfl
theorem li_126 : (126 : Int32) = nI 126 := rfl
theorem li_127 : (127 : Int32) = nI 127 := rfl
theorem li_255 : (255 : Int32) = nI 255 := rfl
theorem li_256 : (256 : Int32) = nI 256 := rfl
theorem li_1024 : (1024 : Int32) = nI 1024 := rfl
theorem li_1040 : (1040 : Int32) = nI 1040 := rfl
theorem li_2048 : (2048 : Int32) = nI 2048 := rfl
theorem li_4095 : (4095 : Int32) = nI 4095 := rfl
theorem li_4096 : (4096 : Int32) = nI 4096 := rfl
theorem li_65535 : (65535 : Int32) = nI 65535 := rfl
theorem li_1073741824 : (1073741824 : Int32) = nI 1073741824 := rfl
theorem ll_0 : (0 : Int64) = lN 0 := rfl
theorem ll_1 : (1 : Int64) = lN 1 := rfl
theorem ll_2 : (2 : Int64) = lN 2 := rfl
theorem ll_3 : (3 : Int64) = lN 3 := rfl
theorem ll_4 : (4 : Int64) = lN 4 := rfl
theorem ll_5 : (5 : Int64) = lN 5 := rfl
theorem ll_6 : (6 : Int64) = lN 6 := rfl
theorem ll_7 : (7 : Int64) = lN 7 := rfl
theorem ll_8 : (8 : Int64) = lN 8 := rfl
theorem ll_9 : (9 : Int64) = lN 9 := rfl
theorem ll_12 : (12 : Int64) = lN 12 := rfl
theorem ll_15 : (15 : Int64) = lN 15 := rfl
theorem ll_16 : (16 : Int64) = lN 16 := rfl
theorem ll_20 : (20 : Int64) = lN 20 := rfl
theorem ll_22 : (22 : Int64) = lN 22 := rfl
theorem ll_24 : (24 : Int64) = lN 24 := rfl
theorem ll_25 : (25 : Int64) = lN 25 := rfl
theorem ll_28 : (28 : Int64) = lN 28 := rfl
theorem ll_32 : (32 : Int64) = lN 32 := rfl
theorem ll_40 : (40 : Int64) = lN 40 := rfl
theorem ll_48 : (48 : Int64) = lN 48 := rfl
theorem ll_64 : (64 : Int64) = lN 64 := rfl
theorem ll_72 : (72 : Int64) = lN 72 := rfl
theorem ll_80 : (80 : Int64) = lN 80 := rfl
theorem ll_133 : (133 : Int64) = lN 133 := rfl
theorem ll_255 : (255 : Int64) = lN 255 := rfl
theorem ll_256 : (256 : Int64) = lN 256 := rfl
theorem ll_512 : (512 : Int64) = lN 512 := rfl
theorem ll_1024 : (1024 : Int64) = lN 1024 := rfl
theorem ll_2048 : (2048 : Int64) = lN 2048 := rfl
theorem ll_4096 : (4096 : Int64) = lN 4096 := rfl
theorem ll_16384 : (16384 : Int64) = lN 16384 := rfl
theorem ll_65535 : (65535 : Int64) = lN 65535 := rfl
theorem ll_16777215 : (16777215 : Int64) = lN 16777215 := rfl
theorem ll_16777228 : (16777228 : Int64) = lN 16777228 := rfl
theorem ll_2147483647 : (2147483647 : Int64) = lN 2147483647 := rfl
theorem ll_2147483648 : (2147483648 : Int64) = lN 2147483648 := rfl
theorem ll_2147483700 : (2147483700 : Int64) = lN 2147483700 := rfl
theorem ll_4277009103 : (4277009103 : Int64) = lN 4277009103 := rfl
theorem ll_4294967295 : (4294967295 : Int64) = lN 4294967295 := rfl
theorem ll_68719476735 : (68719476735 : Int64) = lN 68719476735 := rfl
theorem ll_68719476736 : (68719476736 : Int64) = lN 68719476736 := rfl
theorem ll_2234207627640832 : (2234207627640832 : Int64) = lN 2234207627640832 := rfl
theorem ll_2251795518717952 : (2251795518717952 : Int64) = lN 2251795518717952 := rfl
theorem ll_72057594037927935 : (72057594037927935 : Int64) = lN 72057594037927935 := rfl
def m1 : Int32 := -1
def lm1 : Int64 := -1
theorem lm_1 : (-1 : Int32) = m1 := rfl
theorem llm_1 : (-1 : Int64) = lm1 := rfl
theorem zn_d {α β : Type} (x : α) (f : α → β) : zn x f = f x := rfl
theorem bi_d {α β : Type} (x : Option (α × St)) (f : α → St → Option β) : bi x f = match x with
    | some (a, s) => f a s
    | none => none := by cases x <;> rfl
theorem bv_d {β : Type} (x : Option St) (f : St → Option β) : bv x f = match x with
    | some s => f s
    | none => none := by cases x <;> rfl
theorem gd_T {β : Type} {i : Decidable True} (x : Option β) : @gd True i β x = x := if_pos trivial
theorem ib_nI {a n : Nat} (h : a < n) (h2 : a < 2 ^ 31) : ib (nI a) n := by
  have := nI_toInt h2
  exact ⟨by omega, by omega⟩
theorem ev_ib {β : Type} {a n : Nat} {x : Option β} (h : a < n) (h2 : a < 2 ^ 31) : gd (ib (nI a) n) x = x := gd_t (ib_nI h h2)
theorem ev_add (a b : Nat) : nI a + nI b = nI (a + b) := nI_add a b
theorem ev_sub {a b : Nat} (h : b ≤ a) : nI a - nI b = nI (a - b) := pk_sub h
theorem ev_mul (a b : Nat) : nI a * nI b = nI (a * b) := pk_mul a b
theorem ev_div {a d : Nat} (ha : a < 2 ^ 31) (h0 : 0 < d) (hd : d < 2 ^ 31) : nI a / nI d = nI (a / d) := pk_div ha h0 hd
theorem ev_cl {n : Nat} (h : n < 2 ^ 31) : (nI n).toNatClampNeg = n := nI_clamp h
theorem ev_ltT {a b : Nat} (h : a < b) (hb : b < 2 ^ 31) : (nI a < nI b) = True := eq_true (nI_lt h hb)
theorem ev_ltF {a b : Nat} (h : b ≤ a) (hb : a < 2 ^ 31) : (nI a < nI b) = False := eq_false (nI_nlt h hb)
theorem ev_leT {a b : Nat} (h : a ≤ b) (hb : b < 2 ^ 31) : (nI a ≤ nI b) = True := eq_true (nI_le h hb)
theorem ev_leF {a b : Nat} (h : b < a) (hb : a < 2 ^ 31) : (nI a ≤ nI b) = False := eq_false (nI_ge h hb)
theorem ev_eqT {a b : Nat} (h : a = b) : (nI a = nI b) = True := eq_true (by rw [h])
theorem ev_eqF {a b : Nat} (h : a ≠ b) (ha : a < 2 ^ 31) (hb : b < 2 ^ 31) : (nI a = nI b) = False := eq_false (fun q => h ((nI_eq ha hb).mp q))
theorem m1_toInt : m1.toInt = -1 := by decide
theorem ev_m1 {a : Nat} (h : a < 2 ^ 31) : (nI a = m1) = False := eq_false (fun q => by
  have h1 := nI_toInt h
  rw [q, m1_toInt] at h1
  omega)
theorem ev_m1' {a : Nat} (h : a < 2 ^ 31) : (m1 = nI a) = False := eq_false (fun q => (ev_m1 h).mp q.symm)
theorem ev_m1s : (m1 = m1) = True := eq_self m1
theorem ev_dec {a : Nat} (h : 0 < a) : nI a + m1 = nI (a - 1) := by
  obtain ⟨b, rfl⟩ : ∃ b, a = b + 1 := ⟨a - 1, by omega⟩
  exact pk_m1 b
theorem ev_nn {a : Nat} (h : a < 2 ^ 31) : (nI a < 0) = False := eq_false (nI_pos h)
theorem el_add (a b : Nat) : lN a + lN b = lN (a + b) := lN_add a b
theorem el_sub {a b : Nat} (h : b ≤ a) : lN a - lN b = lN (a - b) := lN_sub h
theorem el_mul (a b : Nat) : lN a * lN b = lN (a * b) := lN_mul a b
theorem el_div {a d : Nat} (ha : a < 2 ^ 63) (h0 : 0 < d) (hd : d < 2 ^ 63) : lN a / lN d = lN (a / d) := pk_lDiv ha h0 hd
theorem el_ltT {a b : Nat} (h : a < b) (hb : b < 2 ^ 63) : (lN a < lN b) = True := eq_true ((pk_lLT (by omega) hb).mpr h)
theorem el_ltF {a b : Nat} (h : b ≤ a) (hb : a < 2 ^ 63) : (lN a < lN b) = False := eq_false (fun q => by have := (pk_lLT hb (by omega)).mp q; omega)
theorem el_leT {a b : Nat} (h : a ≤ b) (hb : b < 2 ^ 63) : (lN a ≤ lN b) = True := eq_true ((pk_lLE (by omega) hb).mpr h)
theorem el_leF {a b : Nat} (h : b < a) (hb : a < 2 ^ 63) : (lN a ≤ lN b) = False := eq_false (fun q => by have := (pk_lLE hb (by omega)).mp q; omega)
theorem el_eqT {a b : Nat} (h : a = b) : (lN a = lN b) = True := eq_true (by rw [h])
theorem el_eqF {a b : Nat} (h : a ≠ b) (ha : a < 2 ^ 63) (hb : b < 2 ^ 63) : (lN a = lN b) = False := eq_false (fun q => h ((pk_lEQ ha hb).mp q))
theorem ev_l {n : Nat} (h : n < 2 ^ 31) : (nI n).toInt64 = lN n := nI_l h
theorem el_i (n : Nat) : (lN n).toInt32 = nI n := lN_i n
theorem lm1_toInt : lm1.toInt = -1 := by decide
theorem el_m1 {a : Nat} (h : a < 2 ^ 63) : (lN a = lm1) = False := eq_false (fun q => by
  have h1 := pk_lT h
  rw [q, lm1_toInt] at h1
  omega)
theorem el_m1' {a : Nat} (h : a < 2 ^ 63) : (lm1 = lN a) = False := eq_false (fun q => (el_m1 h).mp q.symm)
/-! the state -/
theorem rdI (σ : St) (k j : Nat) (v : Int32) (a b : Nat) : (sI σ k j v).1 a b = if a = k then upd (σ.1 k) j v b else σ.1 a b := by
  by_cases h : a = k
  · subst h; rw [sI_1, if_pos rfl]
  · rw [sI_n a h, if_neg h]
theorem rdJ (σ : St) (k j : Nat) (v : Int64) (a b : Nat) : (sJ σ k j v).2 a b = if a = k then vp_updL (σ.2 k) j v b else σ.2 a b := by
  by_cases h : a = k
  · subst h; rw [sJ_1, if_pos rfl]
  · rw [sJ_n a h, if_neg h]
theorem rdR (σ : St) (k : Nat) (f : Nat → Int32) (a b : Nat) : (sR σ k f).1 a b = if a = k then f b else σ.1 a b := sR_g σ k f a b
theorem updT {f : Nat → Int32} {k j : Nat} {x : Int32} (h : j = k) : upd f k x j = x := by subst h; exact pk_us
theorem updF {f : Nat → Int32} {k j : Nat} {x : Int32} (h : j ≠ k) : upd f k x j = f j := pk_un h
theorem updLT {f : Nat → Int64} {k j : Nat} {x : Int64} (h : j = k) : vp_updL f k x j = x := by subst h; exact pk_uLs
theorem updLF {f : Nat → Int64} {k j : Nat} {x : Int64} (h : j ≠ k) : vp_updL f k x j = f j := pk_uLn h
theorem ev_sIt {σ : St} {k j a b : Nat} {v : Int32} (h : a = k ∧ b = j) : (sI σ k j v).1 a b = v := by rw [sI_g, if_pos h.1, if_pos h.2]
theorem ev_sIf {σ : St} {k j a b : Nat} {v : Int32} (h : ¬ (a = k ∧ b = j)) : (sI σ k j v).1 a b = σ.1 a b := by
  rw [sI_g]
  by_cases h1 : a = k
  · rw [if_pos h1, if_neg (fun q => h ⟨h1, q⟩)]
  · rw [if_neg h1]
theorem ev_sJt {σ : St} {k j a b : Nat} {v : Int64} (h : a = k ∧ b = j) : (sJ σ k j v).2 a b = v := by rw [sJ_g, if_pos h.1, if_pos h.2]
theorem ev_sJf {σ : St} {k j a b : Nat} {v : Int64} (h : ¬ (a = k ∧ b = j)) : (sJ σ k j v).2 a b = σ.2 a b := by
  rw [sJ_g]
  by_cases h1 : a = k
  · rw [if_pos h1, if_neg (fun q => h ⟨h1, q⟩)]
  · rw [if_neg h1]
theorem ev_sRt {σ : St} {k a b : Nat} {f : Nat → Int32} (h : a = k) : (sR σ k f).1 a b = f b := by rw [sR_g, if_pos h]
theorem ev_sRf {σ : St} {k a b : Nat} {f : Nat → Int32} (h : a ≠ k) : (sR σ k f).1 a b = σ.1 a b := by rw [sR_g, if_neg h]
/-! the image as both hold it: size z, bytes b -/
def ImC (b : Nat → Nat) (z : Nat) (σ : St) : Prop := z ≤ 6400 ∧ σ.1 3 1 = nI z ∧ (∀ j, j < z → ub (σ.1 4 j) = b j) ∧ (∀ j, z ≤ j → b j = 0) ∧ ∀ j, b j < 256
def ImM (b : Nat → Nat) (z : Nat) (τ : St) : Prop := z ≤ 6400 ∧ τ.1 68 30 = nI z ∧ (∀ j, j < z → τ.1 88 j = nI (b j)) ∧ (∀ j, z ≤ j → b j = 0) ∧ ∀ j, b j < 256
theorem ImC_sI {b : Nat → Nat} {z k j : Nat} {σ : St} {v : Int32} (h1 : k ≠ 3) (h2 : k ≠ 4) : ImC b z (sI σ k j v) = ImC b z σ := by
  unfold ImC
  have e1 : (sI σ k j v).1 3 = σ.1 3 := sI_n 3 (Ne.symm h1)
  have e2 : (sI σ k j v).1 4 = σ.1 4 := sI_n 4 (Ne.symm h2)
  rw [e1, e2]
theorem ImC_sJ {b : Nat → Nat} {z k j : Nat} {σ : St} {v : Int64} : ImC b z (sJ σ k j v) = ImC b z σ := rfl
theorem ImM_sI {b : Nat → Nat} {z k j : Nat} {σ : St} {v : Int32} (h1 : ¬ (k = 68 ∧ j = 30)) (h2 : k ≠ 88) : ImM b z (sI σ k j v) = ImM b z σ := by
  unfold ImM
  have e1 : (sI σ k j v).1 68 30 = σ.1 68 30 := ev_sIf (by omega)
  have e2 : (sI σ k j v).1 88 = σ.1 88 := sI_n 88 (Ne.symm h2)
  rw [e1, e2]
theorem ImM_sJ {b : Nat → Nat} {z k j : Nat} {σ : St} {v : Int64} : ImM b z (sJ σ k j v) = ImM b z σ := rfl
theorem nbf_congr {f g : Nat → Nat} (h : ∀ j, f j = g j) : ∀ m k, nbf f k m = nbf g k m := by
  intro m
  induction m with
  | zero => intro k; rfl
  | succ m ih => intro k; show f k + 256 * nbf f (k + 1) m = g k + 256 * nbf g (k + 1) m; rw [h, ih]
theorem nbf_lt {f : Nat → Nat} (h : ∀ j, f j < 256) : ∀ m k, nbf f k m < 256 ^ m := by
  intro m
  induction m with
  | zero => intro k; exact Nat.one_pos
  | succ m ih =>
    intro k
    show f k + 256 * nbf f (k + 1) m < 256 ^ m * 256
    have := ih (k + 1)
    have := h k
    omega
theorem ImC_rb {b : Nat → Nat} {z : Nat} {σ : St} (h : ImC b z σ) (j : Nat) : rb σ 4 z j = b j := by
  obtain ⟨h0, h1, h2, h3, h4⟩ := h
  unfold rb
  by_cases hj : j < z
  · rw [if_pos hj, h2 j hj]
  · rw [if_neg hj, h3 j (by omega)]
/-- Row.number of the image -/
theorem c_num {b : Nat → Nat} {z K m : Nat} {σ : St} (h : ImC b z σ) (hm : m ≤ 8) (hK : K + m < 2 ^ 31) : f_X6_number 3 6400 (nI K) (nI m) σ = some (lN (nbf b K m), σ) := by
  rw [p_X6_number (k := 3) (n := 6400) (z := z) (by omega) h.1 h.2.1 hm hK, nbf_congr (ImC_rb h)]
theorem u4_lt {b : Nat → Nat} {z : Nat} {σ : St} (h : ImC b z σ) (K : Nat) : nbf b K 4 < 4294967296 := nbf_lt h.2.2.2.2 4 K
theorem u2_lt {b : Nat → Nat} {z : Nat} {σ : St} (h : ImC b z σ) (K : Nat) : nbf b K 2 < 65536 := nbf_lt h.2.2.2.2 2 K
theorem u8_lt {b : Nat → Nat} {z : Nat} {σ : St} (h : ImC b z σ) (K : Nat) : nbf b K 8 < 18446744073709551616 := nbf_lt h.2.2.2.2 8 K
