def zushr (x y : Int32) : Int32 := (x.toUInt32 >>> (y.toUInt32 &&& Int32.toUInt32 31)).toInt32
def zlshl (x : Int64) (y : Int32) : Int64 := x <<< (y.toInt64 &&& 63)
def zlshr (x : Int64) (y : Int32) : Int64 := x >>> (y.toInt64 &&& 63)
def zlushr (x : Int64) (y : Int32) : Int64 := (x.toUInt64 >>> (y.toInt64.toUInt64 &&& Int64.toUInt64 63)).toInt64
theorem tsw_out {x : Int32} (n : Nat) (h : ∀ i : Nat, i < n → ¬ x = Int32.ofNat i) : x.toInt < 0 ∨ ((n : Int) - 1) < x.toInt := by
  rcases Int.lt_or_le x.toInt 0 with h0 | h0
  · exact Or.inl h0
  · refine Or.inr ?_
    rcases Int.lt_or_le x.toInt n with h1 | h1
    · exfalso
      refine h x.toInt.toNat (by omega) ?_
      rw [← Int32.toInt_inj, Int32.toInt_ofNat_of_lt (by have := x.toInt_lt; omega)]
      omega
    · omega

def f_X7_clear (k0 : Nat) (σ : St) : Option (St) :=
  zn (sI σ k0 4 (0 : Int32)) fun s1 => some s1

def f_X0_forget (σ : St) : Option (St) :=
  bv (f_X7_clear 41 σ) fun s2 => zn (sI s2 40 3 (0 : Int32)) fun s3 => zn (sI s3 40 4 (0 : Int32)) fun s4 => zn (sI s4 40 5 (0 : Int32)) fun s5 => zn (sI s5 40 6 (0 : Int32)) fun s6 => zn (sI s6 40 7 (0 : Int32)) fun s7 => zn (sI s7 40 8 (0 : Int32)) fun s8 => zn (sI s8 40 9 (0 : Int32)) fun s9 => zn (sI s9 40 10 (0 : Int32)) fun s10 => zn (sI s10 40 11 (0 : Int32)) fun s11 => some s11

def f_X2_unless (a1 : Int32) (a2 : Int32) (a3 : Int32) (σ : St) : Option (Int32 × St) :=
  if a1 = 0 then (zn (sI σ 39 0 a2) fun s3 => zn (sI s3 39 1 a3) fun s4 => gd (a1 = 0 ∨ a1 = 1) (some (a1, s4))) else (gd (a1 = 0 ∨ a1 = 1) (some (a1, σ)))

def f_X6_number_51 (k0 n0 : Nat) (K7 : (Int32 × Int64 × Int32 × St) → Option (Int64 × St)) (x1 : Int32) (x5 : Int32) (t0 : Int32) (t1 : Int64) (σ : St) : Option (Int64 × St) :=
  zn (t1 ||| t0.toInt64) fun v6 => zn (x5 + (-1)) fun v7 => K7 (x1, v6, v7, σ)

def f_X6_number_50 (k0 n0 : Nat) (K7 : (Int32 × Int64 × Int32 × St) → Option (Int64 × St)) (x1 : Int32) (x5 : Int32) (t0 : Int64) (σ : St) : Option (Int64 × St) :=
  f_X6_number_51 k0 n0 K7 x1 x5 (0 : Int32) t0 σ

def f_X6_number_7b (k0 n0 : Nat) (K7 : (Int32 × Int64 × Int32 × St) → Option (Int64 × St)) (x1 : Int32) (x3 : Int64) (x5 : Int32) (σ : St) : Option (Int64 × St) :=
  if x5 < 0 then (some (x3, σ)) else (zn (x1 + x5) fun v4 => if v4 < 0 then (f_X6_number_50 k0 n0 K7 x1 x5 ((zlshl x3 (8 : Int32))) σ) else (if (σ.1 k0 1) ≤ v4 then (f_X6_number_50 k0 n0 K7 x1 x5 ((zlshl x3 (8 : Int32))) σ) else (gd (ib v4 n0) (f_X6_number_51 k0 n0 K7 x1 x5 (((σ.1 (k0 + 1) v4.toNatClampNeg) &&& (255 : Int32))) ((zlshl x3 (8 : Int32))) σ))))

def f_X6_number_7 (k0 n0 : Nat) (x1 : Int32) (x3 : Int64) (x5 : Int32) (σ : St) : Option (Int64 × St) :=
  it (fun K a => f_X6_number_7b k0 n0 K a.1 a.2.1 a.2.2.1 a.2.2.2) FU (x1, x3, x5, σ)

def f_X6_number (k0 n0 : Nat) (a1 : Int32) (a2 : Int32) (σ : St) : Option (Int64 × St) :=
  zn (0 : Int64) fun v1 => zn ((a2 - (1 : Int32))) fun v2 => f_X6_number_7 k0 n0 a1 v1 v2 σ

def f_X0_u4 (a1 : Int32) (σ : St) : Option (Int64 × St) :=
  bi (f_X6_number 3 6400 a1 (4 : Int32) σ) fun r3 s2 => some (r3, s2)

def f_X0_headHolds_126 (t0 : Int32) (σ : St) : Option (Int32 × St) :=
  bi (f_X2_unless t0 (1 : Int32) (20 : Int32) σ) fun r28 s27 => if r28 = 0 then (some ((0 : Int32), s27)) else (some ((1 : Int32), s27))

def f_X0_headHolds_86 (t0 : Int32) (σ : St) : Option (Int32 × St) :=
  bi (f_X2_unless t0 (3 : Int32) (16 : Int32) σ) fun r20 s19 => if r20 = 0 then (some ((0 : Int32), s19)) else (bi (f_X0_u4 (20 : Int32) s19) fun r24 s23 => if (s23.1 3 1).toInt64 < ((32 : Int64) + r24) then (f_X0_headHolds_126 (0 : Int32) s23) else (f_X0_headHolds_126 (1 : Int32) s23))

def f_X0_headHolds_56 (t0 : Int32) (σ : St) : Option (Int32 × St) :=
  bi (f_X2_unless t0 (2 : Int32) (0 : Int32) σ) fun r12 s11 => if r12 = 0 then (some ((0 : Int32), s11)) else (bi (f_X0_u4 (16 : Int32) s11) fun r16 s15 => if (16 : Int64) < r16 then (f_X0_headHolds_86 (0 : Int32) s15) else (f_X0_headHolds_86 (1 : Int32) s15))

def f_X0_headHolds_21 (t0 : Int32) (σ : St) : Option (Int32 × St) :=
  bi (f_X2_unless t0 (1 : Int32) (σ.1 3 1) σ) fun r4 s3 => if r4 = 0 then (some ((0 : Int32), s3)) else (bi (f_X0_u4 (0 : Int32) s3) fun r8 s7 => if r8 = (4277009103 : Int64) then (f_X0_headHolds_56 (1 : Int32) s7) else (f_X0_headHolds_56 (0 : Int32) s7))

def f_X0_headHolds (σ : St) : Option (Int32 × St) :=
  if (σ.1 3 1) < (32 : Int32) then (f_X0_headHolds_21 (0 : Int32) σ) else (f_X0_headHolds_21 (1 : Int32) σ)

def f_X0_sizeHolds_70 (x1 : Int32) (t0 : Int32) (σ : St) : Option (Int32 × St) :=
  bi (f_X2_unless t0 (3 : Int32) ((x1 + (4 : Int32))) σ) fun r12 s11 => if r12 = 0 then (some ((0 : Int32), s11)) else (some ((1 : Int32), s11))

def f_X0_sizeHolds_69 (x1 : Int32) (σ : St) : Option (Int32 × St) :=
  f_X0_sizeHolds_70 x1 (0 : Int32) σ

def f_X0_sizeHolds_25 (x1 : Int32) (x2 : Int32) (x3 : Int64) (t0 : Int32) (σ : St) : Option (Int32 × St) :=
  bi (f_X2_unless t0 (3 : Int32) x1 σ) fun r7 s6 => if r7 = 0 then (some ((0 : Int32), s6)) else (if x3 < (8 : Int64) then (f_X0_sizeHolds_69 x1 s6) else (if (x3 - x3 / (8 : Int64) * (8 : Int64)) = (0 : Int64) then (if x2.toInt64 < (x1.toInt64 + x3) then (f_X0_sizeHolds_69 x1 s6) else (f_X0_sizeHolds_70 x1 (1 : Int32) s6)) else (f_X0_sizeHolds_69 x1 s6)))

def f_X0_sizeHolds (a1 : Int32) (a2 : Int32) (σ : St) : Option (Int32 × St) :=
  bi (f_X0_u4 ((a1 + (4 : Int32))) σ) fun r3 s2 => if (a2 - a1) < (8 : Int32) then (f_X0_sizeHolds_25 a1 a2 r3 (0 : Int32) s2) else (f_X0_sizeHolds_25 a1 a2 r3 (1 : Int32) s2)

def f_X0_chainsHold_95 (x1 : Int32) (t0 : Int32) (σ : St) : Option (Int32 × St) :=
  bi (f_X2_unless t0 (1 : Int32) ((x1 + (8 : Int32))) σ) fun r23 s22 => if r23 = 0 then (some ((0 : Int32), s22)) else (zn (sI s22 40 9 (1 : Int32)) fun s25 => bi (f_X0_u4 ((x1 + (8 : Int32))) s25) fun r28 s27 => zn (sI s27 40 10 r28.toInt32) fun s29 => bi (f_X0_u4 ((x1 + (12 : Int32))) s29) fun r32 s31 => zn (sI s31 40 11 r32.toInt32) fun s33 => some ((1 : Int32), s33))

def f_X0_chainsHold_47 (x1 : Int32) (t0 : Int32) (σ : St) : Option (Int32 × St) :=
  bi (f_X2_unless t0 (3 : Int32) ((x1 + (4 : Int32))) σ) fun r12 s11 => if r12 = 0 then (some ((0 : Int32), s11)) else (bi (f_X0_u4 ((x1 + (8 : Int32))) s11) fun r16 s15 => bi (f_X0_u4 ((x1 + (12 : Int32))) s15) fun r19 s18 => if (s18.1 3 1).toInt64 < (r16 + r19) then (f_X0_chainsHold_95 x1 (0 : Int32) s18) else (f_X0_chainsHold_95 x1 (1 : Int32) s18))

def f_X0_chainsHold_16 (x1 : Int32) (t0 : Int32) (σ : St) : Option (Int32 × St) :=
  bi (f_X2_unless t0 (3 : Int32) x1 σ) fun r4 s3 => if r4 = 0 then (some ((0 : Int32), s3)) else (bi (f_X0_u4 ((x1 + (4 : Int32))) s3) fun r8 s7 => if r8 = (16 : Int64) then (f_X0_chainsHold_47 x1 (1 : Int32) s7) else (f_X0_chainsHold_47 x1 (0 : Int32) s7))

def f_X0_chainsHold (a1 : Int32) (σ : St) : Option (Int32 × St) :=
  if (σ.1 40 9) = 0 then (f_X0_chainsHold_16 a1 (1 : Int32) σ) else (f_X0_chainsHold_16 a1 (0 : Int32) σ)

def f_X0_symtabHolds_178 (x1 : Int32) (x2 : Int64) (t0 : Int32) (σ : St) : Option (Int32 × St) :=
  bi (f_X2_unless t0 (1 : Int32) ((x1 + (16 : Int32))) σ) fun r39 s38 => if r39 = 0 then (some ((0 : Int32), s38)) else (zn (sI s38 40 4 (1 : Int32)) fun s41 => bi (f_X0_u4 ((x1 + (8 : Int32))) s41) fun r44 s43 => zn (sI s43 40 6 r44.toInt32) fun s45 => zn (sI s45 40 5 x2.toInt32) fun s46 => bi (f_X0_u4 ((x1 + (16 : Int32))) s46) fun r49 s48 => zn (sI s48 40 7 r49.toInt32) fun s50 => bi (f_X0_u4 ((x1 + (20 : Int32))) s50) fun r53 s52 => zn (sI s52 40 8 r53.toInt32) fun s54 => some ((1 : Int32), s54))

def f_X0_symtabHolds_129 (x1 : Int32) (x2 : Int64) (t0 : Int32) (σ : St) : Option (Int32 × St) :=
  bi (f_X2_unless t0 (1 : Int32) ((x1 + (8 : Int32))) σ) fun r28 s27 => if r28 = 0 then (some ((0 : Int32), s27)) else (bi (f_X0_u4 ((x1 + (16 : Int32))) s27) fun r32 s31 => bi (f_X0_u4 ((x1 + (20 : Int32))) s31) fun r35 s34 => if (s34.1 3 1).toInt64 < (r32 + r35) then (f_X0_symtabHolds_178 x1 x2 (0 : Int32) s34) else (f_X0_symtabHolds_178 x1 x2 (1 : Int32) s34))

def f_X0_symtabHolds_83 (x1 : Int32) (x2 : Int64) (t0 : Int32) (σ : St) : Option (Int32 × St) :=
  bi (f_X2_unless t0 (3 : Int32) ((x1 + (12 : Int32))) σ) fun r20 s19 => if r20 = 0 then (some ((0 : Int32), s19)) else (bi (f_X0_u4 ((x1 + (8 : Int32))) s19) fun r24 s23 => if (s23.1 3 1).toInt64 < (r24 + ((16 : Int64) * x2)) then (f_X0_symtabHolds_129 x1 x2 (0 : Int32) s23) else (f_X0_symtabHolds_129 x1 x2 (1 : Int32) s23))

def f_X0_symtabHolds_56 (x1 : Int32) (x2 : Int64) (t0 : Int32) (σ : St) : Option (Int32 × St) :=
  bi (f_X2_unless t0 (3 : Int32) ((x1 + (4 : Int32))) σ) fun r15 s14 => if r15 = 0 then (some ((0 : Int32), s14)) else (if (64 : Int64) < x2 then (f_X0_symtabHolds_83 x1 x2 (0 : Int32) s14) else (f_X0_symtabHolds_83 x1 x2 (1 : Int32) s14))

def f_X0_symtabHolds_25 (x1 : Int32) (x2 : Int64) (t0 : Int32) (σ : St) : Option (Int32 × St) :=
  bi (f_X2_unless t0 (3 : Int32) x1 σ) fun r7 s6 => if r7 = 0 then (some ((0 : Int32), s6)) else (bi (f_X0_u4 ((x1 + (4 : Int32))) s6) fun r11 s10 => if r11 = (24 : Int64) then (f_X0_symtabHolds_56 x1 x2 (1 : Int32) s10) else (f_X0_symtabHolds_56 x1 x2 (0 : Int32) s10))

def f_X0_symtabHolds (a1 : Int32) (σ : St) : Option (Int32 × St) :=
  bi (f_X0_u4 ((a1 + (12 : Int32))) σ) fun r3 s2 => if (s2.1 40 4) = 0 then (f_X0_symtabHolds_25 a1 r3 (1 : Int32) s2) else (f_X0_symtabHolds_25 a1 r3 (0 : Int32) s2)

def f_X0_u8 (a1 : Int32) (σ : St) : Option (Int64 × St) :=
  bi (f_X6_number 3 6400 a1 (8 : Int32) σ) fun r3 s2 => some (r3, s2)

def f_X0_numberHolds_29 (x1 : Int32) (t0 : Int32) (σ : St) : Option (Int32 × St) :=
  bi (f_X2_unless t0 (5 : Int32) x1 σ) fun r7 s6 => gd (r7 = 0 ∨ r7 = 1) (some (r7, s6))

def f_X0_numberHolds_28 (x1 : Int32) (σ : St) : Option (Int32 × St) :=
  f_X0_numberHolds_29 x1 (0 : Int32) σ

def f_X0_numberHolds (a1 : Int32) (σ : St) : Option (Int32 × St) :=
  bi (f_X0_u8 a1 σ) fun r3 s2 => if r3 < (0 : Int64) then (f_X0_numberHolds_28 a1 s2) else (if (2147483647 : Int64) < r3 then (f_X0_numberHolds_28 a1 s2) else (f_X0_numberHolds_29 a1 (1 : Int32) s2))

def f_X0_segmentHolds_93 (x1 : Int32) (t0 : Int32) (σ : St) : Option (Int32 × St) :=
  bi (f_X2_unless t0 (3 : Int32) ((x1 + (4 : Int32))) σ) fun r20 s19 => if r20 = 0 then (some ((0 : Int32), s19)) else (bi (f_X0_numberHolds ((x1 + (24 : Int32))) s19) fun r24 s23 => if r24 = 0 then (some ((0 : Int32), s23)) else (bi (f_X0_numberHolds ((x1 + (32 : Int32))) s23) fun r28 s27 => if r28 = 0 then (some ((0 : Int32), s27)) else (bi (f_X0_numberHolds ((x1 + (40 : Int32))) s27) fun r32 s31 => if r32 = 0 then (some ((0 : Int32), s31)) else (bi (f_X0_numberHolds ((x1 + (48 : Int32))) s31) fun r36 s35 => if r36 = 0 then (some ((0 : Int32), s35)) else (some ((1 : Int32), s35))))))

def f_X0_segmentHolds_53 (x1 : Int32) (x2 : Int64) (t0 : Int32) (σ : St) : Option (Int32 × St) :=
  bi (f_X2_unless t0 (3 : Int32) ((x1 + (4 : Int32))) σ) fun r12 s11 => if r12 = 0 then (some ((0 : Int32), s11)) else (bi (f_X0_u4 ((x1 + (64 : Int32))) s11) fun r16 s15 => if x2 = ((72 : Int64) + ((80 : Int64) * r16)) then (f_X0_segmentHolds_93 x1 (1 : Int32) s15) else (f_X0_segmentHolds_93 x1 (0 : Int32) s15))

def f_X0_segmentHolds_28 (x1 : Int32) (x2 : Int64) (t0 : Int32) (σ : St) : Option (Int32 × St) :=
  bi (f_X2_unless t0 (3 : Int32) x1 σ) fun r7 s6 => if r7 = 0 then (some ((0 : Int32), s6)) else (if x2 < (72 : Int64) then (f_X0_segmentHolds_53 x1 x2 (0 : Int32) s6) else (f_X0_segmentHolds_53 x1 x2 (1 : Int32) s6))

def f_X0_segmentHolds (a1 : Int32) (σ : St) : Option (Int32 × St) :=
  bi (f_X0_u4 ((a1 + (4 : Int32))) σ) fun r3 s2 => if (4 : Int32) ≤ (s2.1 41 4) then (f_X0_segmentHolds_28 a1 r3 (0 : Int32) s2) else (f_X0_segmentHolds_28 a1 r3 (1 : Int32) s2)

def f_X7_spanOfAll_4b (k0 : Nat) (K4 : (Int32 × Int32 × St) → Option (Int32 × St)) (x1 : Int32) (x2 : Int32) (σ : St) : Option (Int32 × St) :=
  if (σ.1 k0 4) ≤ x2 then (some (x1, σ)) else (gd (ib x2 4) (zn ((x1 + (σ.1 (k0 + 2) x2.toNatClampNeg))) fun v5 => zn (x2 + 1) fun v6 => K4 (v5, v6, σ)))

def f_X7_spanOfAll_4 (k0 : Nat) (x1 : Int32) (x2 : Int32) (σ : St) : Option (Int32 × St) :=
  it (fun K a => f_X7_spanOfAll_4b k0 K a.1 a.2.1 a.2.2) FU (x1, x2, σ)

def f_X7_spanOfAll (k0 : Nat) (σ : St) : Option (Int32 × St) :=
  zn (0 : Int32) fun v1 => zn (0 : Int32) fun v2 => f_X7_spanOfAll_4 k0 v1 v2 σ

def f_X7_shareByte_3b (k0 : Nat) (K3 : (Int64 × Int64 × Int32 × St) → Option (Int32 × St)) (x1 : Int64) (x3 : Int64) (x5 : Int32) (σ : St) : Option (Int32 × St) :=
  if (σ.1 k0 4) ≤ x5 then (some ((0 : Int32), σ)) else (gd (ib x5 4) (gd (ib x5 4) (zn ((if (((σ.1 (k0 + 1) x5.toNatClampNeg)).toInt64 + ((σ.1 (k0 + 2) x5.toNatClampNeg)).toInt64) < (x1 + x3) then (((σ.1 (k0 + 1) x5.toNatClampNeg)).toInt64 + ((σ.1 (k0 + 2) x5.toNatClampNeg)).toInt64) else (x1 + x3))) fun v5 => gd (ib x5 4) (if v5 ≤ (if ((σ.1 (k0 + 1) x5.toNatClampNeg)).toInt64 < x1 then x1 else ((σ.1 (k0 + 1) x5.toNatClampNeg)).toInt64) then (zn (x5 + 1) fun v8 => K3 (x1, x3, v8, σ)) else (some ((1 : Int32), σ))))))

def f_X7_shareByte_3 (k0 : Nat) (x1 : Int64) (x3 : Int64) (x5 : Int32) (σ : St) : Option (Int32 × St) :=
  it (fun K a => f_X7_shareByte_3b k0 K a.1 a.2.1 a.2.2.1 a.2.2.2) FU (x1, x3, x5, σ)

def f_X7_shareByte (k0 : Nat) (a1 : Int64) (a2 : Int64) (σ : St) : Option (Int32 × St) :=
  zn (0 : Int32) fun v1 => f_X7_shareByte_3 k0 a1 a2 v1 σ

def f_X7_add (k0 : Nat) (a1 : Int32) (a2 : Int32) (a3 : Int32) (a4 : Int32) (σ : St) : Option (St) :=
  if (4 : Int32) ≤ (σ.1 k0 4) then (some σ) else (gd (ib (σ.1 k0 4) 4) (zn (sI σ (k0 + 1) (σ.1 k0 4).toNatClampNeg a1) fun s3 => gd (ib (s3.1 k0 4) 4) (zn (sI s3 (k0 + 2) (s3.1 k0 4).toNatClampNeg a2) fun s5 => gd (ib (s5.1 k0 4) 4) (zn (sI s5 (k0 + 3) (s5.1 k0 4).toNatClampNeg a3) fun s7 => gd (ib (s7.1 k0 4) 4) (zn (sI s7 (k0 + 4) (s7.1 k0 4).toNatClampNeg a4) fun s9 => zn (sI s9 k0 4 (((s9.1 k0 4) + (1 : Int32)))) fun s10 => some s10)))))

def f_X0_spanHolds_196 (x1 : Int32) (x2 : Int64) (x4 : Int64) (x6 : Int64) (x8 : Int64) (t0 : Int32) (σ : St) : Option (Int32 × St) :=
  bi (f_X2_unless t0 (6 : Int32) ((x1 + (24 : Int32))) σ) fun r42 s41 => if r42 = 0 then (some ((0 : Int32), s41)) else (bv (f_X7_add 41 x2.toInt32 x4.toInt32 x6.toInt32 x8.toInt32 s41) fun s45 => some ((1 : Int32), s45))

def f_X0_spanHolds_162 (x1 : Int32) (x2 : Int64) (x4 : Int64) (x6 : Int64) (x8 : Int64) (t0 : Int32) (σ : St) : Option (Int32 × St) :=
  bi (f_X2_unless t0 (6 : Int32) ((x1 + (48 : Int32))) σ) fun r34 s33 => if r34 = 0 then (some ((0 : Int32), s33)) else (bi (f_X7_shareByte 41 x2 x4 s33) fun r38 s37 => if r38 = 0 then (f_X0_spanHolds_196 x1 x2 x4 x6 x8 (1 : Int32) s37) else (f_X0_spanHolds_196 x1 x2 x4 x6 x8 (0 : Int32) s37))

def f_X0_spanHolds_134 (x1 : Int32) (x2 : Int64) (x4 : Int64) (x6 : Int64) (x8 : Int64) (t0 : Int32) (σ : St) : Option (Int32 × St) :=
  bi (f_X2_unless t0 (1 : Int32) ((x1 + (40 : Int32))) σ) fun r29 s28 => if r29 = 0 then (some ((0 : Int32), s28)) else (if x4 < x8 then (f_X0_spanHolds_162 x1 x2 x4 x6 x8 (0 : Int32) s28) else (f_X0_spanHolds_162 x1 x2 x4 x6 x8 (1 : Int32) s28))

def f_X0_spanHolds_97 (x1 : Int32) (x2 : Int64) (x4 : Int64) (x6 : Int64) (x8 : Int64) (t0 : Int32) (σ : St) : Option (Int32 × St) :=
  bi (f_X2_unless t0 (5 : Int32) ((x1 + (24 : Int32))) σ) fun r24 s23 => if r24 = 0 then (some ((0 : Int32), s23)) else (if (s23.1 3 1).toInt64 < (x6 + x8) then (f_X0_spanHolds_134 x1 x2 x4 x6 x8 (0 : Int32) s23) else (f_X0_spanHolds_134 x1 x2 x4 x6 x8 (1 : Int32) s23))

def f_X0_spanHolds_66 (x1 : Int32) (x2 : Int64) (x4 : Int64) (x6 : Int64) (x8 : Int64) (t0 : Int32) (σ : St) : Option (Int32 × St) :=
  bi (f_X2_unless t0 (5 : Int32) ((x1 + (32 : Int32))) σ) fun r19 s18 => if r19 = 0 then (some ((0 : Int32), s18)) else (if (2147483647 : Int64) < (x2 + x4) then (f_X0_spanHolds_97 x1 x2 x4 x6 x8 (0 : Int32) s18) else (f_X0_spanHolds_97 x1 x2 x4 x6 x8 (1 : Int32) s18))

def f_X0_spanHolds (a1 : Int32) (σ : St) : Option (Int32 × St) :=
  bi (f_X0_u8 ((a1 + (24 : Int32))) σ) fun r3 s2 => bi (f_X0_u8 ((a1 + (32 : Int32))) s2) fun r6 s5 => bi (f_X0_u8 ((a1 + (40 : Int32))) s5) fun r9 s8 => bi (f_X0_u8 ((a1 + (48 : Int32))) s8) fun r12 s11 => bi (f_X7_spanOfAll 41 s11) fun r15 s14 => if (16384 : Int64) < (r15.toInt64 + r6) then (f_X0_spanHolds_66 a1 r3 r6 r9 r12 (0 : Int32) s14) else (f_X0_spanHolds_66 a1 r3 r6 r9 r12 (1 : Int32) s14)

def f_X0_sectionsHold_148 (K35 : (Int32 × Int64 × Int64 × Int32 × Int32 × St) → Option (Int32 × St)) (x1 : Int32) (x2 : Int64) (x4 : Int64) (x6 : Int32) (x7 : Int32) (x8 : Int32) (t0 : Int32) (σ : St) : Option (Int32 × St) :=
  bi (f_X2_unless t0 (7 : Int32) x8 σ) fun r34 s33 => if r34 = 0 then (some ((0 : Int32), s33)) else (zn (sI s33 40 3 (((s33.1 40 3) + (1 : Int32)))) fun s36 => zn (x7 + 1) fun v37 => K35 (x1, x2, x4, x6, v37, s36))

def f_X0_sectionsHold_147 (K35 : (Int32 × Int64 × Int64 × Int32 × Int32 × St) → Option (Int32 × St)) (x1 : Int32) (x2 : Int64) (x4 : Int64) (x6 : Int32) (x7 : Int32) (x8 : Int32) (σ : St) : Option (Int32 × St) :=
  f_X0_sectionsHold_148 K35 x1 x2 x4 x6 x7 x8 (0 : Int32) σ

def f_X0_sectionsHold_72 (K35 : (Int32 × Int64 × Int64 × Int32 × Int32 × St) → Option (Int32 × St)) (x1 : Int32) (x2 : Int64) (x4 : Int64) (x6 : Int32) (x7 : Int32) (x8 : Int32) (t0 : Int32) (σ : St) : Option (Int32 × St) :=
  bi (f_X2_unless t0 (3 : Int32) x8 σ) fun r18 s17 => if r18 = 0 then (some ((0 : Int32), s17)) else (bi (f_X0_numberHolds ((x8 + (32 : Int32))) s17) fun r22 s21 => if r22 = 0 then (some ((0 : Int32), s21)) else (bi (f_X0_numberHolds ((x8 + (40 : Int32))) s21) fun r26 s25 => if r26 = 0 then (some ((0 : Int32), s25)) else (bi (f_X0_u8 ((x8 + (32 : Int32))) s25) fun r30 s29 => if r30 < x2 then (f_X0_sectionsHold_147 K35 x1 x2 x4 x6 x7 x8 s29) else (bi (f_X0_u8 ((x8 + (40 : Int32))) s29) fun r40 s39 => if x4 < (r30 + r40) then (f_X0_sectionsHold_147 K35 x1 x2 x4 x6 x7 x8 s39) else (f_X0_sectionsHold_148 K35 x1 x2 x4 x6 x7 x8 (1 : Int32) s39)))))

def f_X0_sectionsHold_35b (K35 : (Int32 × Int64 × Int64 × Int32 × Int32 × St) → Option (Int32 × St)) (x1 : Int32) (x2 : Int64) (x4 : Int64) (x6 : Int32) (x7 : Int32) (σ : St) : Option (Int32 × St) :=
  if x6 ≤ x7 then (some ((1 : Int32), σ)) else (zn (((x1 + (72 : Int32)) + ((80 : Int32) * x7))) fun v14 => if (16 : Int32) ≤ (σ.1 40 3) then (f_X0_sectionsHold_72 K35 x1 x2 x4 x6 x7 v14 (0 : Int32) σ) else (f_X0_sectionsHold_72 K35 x1 x2 x4 x6 x7 v14 (1 : Int32) σ))

def f_X0_sectionsHold_35 (x1 : Int32) (x2 : Int64) (x4 : Int64) (x6 : Int32) (x7 : Int32) (σ : St) : Option (Int32 × St) :=
  it (fun K a => f_X0_sectionsHold_35b K a.1 a.2.1 a.2.2.1 a.2.2.2.1 a.2.2.2.2.1 a.2.2.2.2.2) FU (x1, x2, x4, x6, x7, σ)

def f_X0_sectionsHold (a1 : Int32) (σ : St) : Option (Int32 × St) :=
  bi (f_X0_u8 ((a1 + (24 : Int32))) σ) fun r3 s2 => bi (f_X0_u8 ((a1 + (32 : Int32))) s2) fun r6 s5 => zn (r3 + r6) fun v7 => bi (f_X0_u4 ((a1 + (64 : Int32))) s5) fun r10 s9 => zn r10.toInt32 fun v11 => zn (0 : Int32) fun v12 => f_X0_sectionsHold_35 a1 r3 v7 v11 v12 s9

def f_X0_commandHolds_91 (x1 : Int32) (t0 : Int32) (σ : St) : Option (Int32 × St) :=
  bi (f_X2_unless t0 (4 : Int32) x1 σ) fun r10 s9 => gd (r10 = 0 ∨ r10 = 1) (some (r10, s9))

def f_X0_commandHolds (a1 : Int32) (σ : St) : Option (Int32 × St) :=
  bi (f_X0_u4 a1 σ) fun r3 s2 => if r3 = (25 : Int64) then (bi (f_X0_segmentHolds a1 s2) fun r22 s21 => if r22 = 0 then (some ((0 : Int32), s21)) else (bi (f_X0_spanHolds a1 s21) fun r26 s25 => if r26 = 0 then (some ((0 : Int32), s25)) else (bi (f_X0_sectionsHold a1 s25) fun r30 s29 => if r30 = 0 then (some ((0 : Int32), s29)) else (some ((1 : Int32), s29))))) else (if r3 = (2 : Int64) then (bi (f_X0_symtabHolds a1 s2) fun r18 s17 => gd (r18 = 0 ∨ r18 = 1) (some (r18, s17))) else (if r3 = (2147483700 : Int64) then (bi (f_X0_chainsHold a1 s2) fun r14 s13 => gd (r14 = 0 ∨ r14 = 1) (some (r14, s13))) else (if (r3 &&& (2147483648 : Int64)) = (0 : Int64) then (f_X0_commandHolds_91 a1 (1 : Int32) s2) else (f_X0_commandHolds_91 a1 (0 : Int32) s2))))

def f_X0_commandsHold_81 (x3 : Int32) (t0 : Int32) (σ : St) : Option (Int32 × St) :=
  bi (f_X2_unless t0 (3 : Int32) x3 σ) fun r15 s14 => gd (r15 = 0 ∨ r15 = 1) (some (r15, s14))

def f_X0_commandsHold_25b (K25 : (Int32 × Int32 × Int32 × Int32 × St) → Option (Int32 × St)) (x1 : Int32) (x2 : Int32) (x3 : Int32) (x4 : Int32) (σ : St) : Option (Int32 × St) :=
  if x1 ≤ x4 then (if x3 = x2 then (f_X0_commandsHold_81 x3 (1 : Int32) σ) else (f_X0_commandsHold_81 x3 (0 : Int32) σ)) else (bi (f_X0_sizeHolds x3 x2 σ) fun r19 s18 => if r19 = 0 then (some ((0 : Int32), s18)) else (bi (f_X0_commandHolds x3 s18) fun r23 s22 => if r23 = 0 then (some ((0 : Int32), s22)) else (bi (f_X0_u4 ((x3 + (4 : Int32))) s22) fun r27 s26 => zn (x3 + r27.toInt32) fun v28 => zn (x4 + 1) fun v29 => K25 (x1, x2, v28, v29, s26))))

def f_X0_commandsHold_25 (x1 : Int32) (x2 : Int32) (x3 : Int32) (x4 : Int32) (σ : St) : Option (Int32 × St) :=
  it (fun K a => f_X0_commandsHold_25b K a.1 a.2.1 a.2.2.1 a.2.2.2.1 a.2.2.2.2) FU (x1, x2, x3, x4, σ)

def f_X0_commandsHold (σ : St) : Option (Int32 × St) :=
  bi (f_X0_u4 (16 : Int32) σ) fun r3 s2 => zn r3.toInt32 fun v4 => bi (f_X0_u4 (20 : Int32) s2) fun r7 s6 => zn (((32 : Int32) + r7.toInt32)) fun v8 => zn (32 : Int32) fun v9 => zn (0 : Int32) fun v10 => f_X0_commandsHold_25 v4 v8 v9 v10 s6

def f_X6_at (k0 n0 : Nat) (a1 : Int32) (σ : St) : Option (Int32 × St) :=
  if a1 < 0 then (some ((0 : Int32), σ)) else (if (σ.1 k0 1) ≤ a1 then (some ((0 : Int32), σ)) else (gd (ib a1 n0) (some (((σ.1 (k0 + 1) a1.toNatClampNeg) &&& (255 : Int32)), σ))))

def f_X6_lastZero_4b (k0 n0 : Nat) (K4 : (Int32 × Int32 × St) → Option (Int32 × St)) (x1 : Int32) (x3 : Int32) (σ : St) : Option (Int32 × St) :=
  if x3 < x1 then (some ((-1 : Int32), σ)) else (bi (f_X6_at k0 n0 x3 σ) fun r5 s4 => if r5 = 0 then (some (x3, s4)) else (zn (x3 + (-1)) fun v7 => K4 (x1, v7, s4)))

def f_X6_lastZero_4 (k0 n0 : Nat) (x1 : Int32) (x3 : Int32) (σ : St) : Option (Int32 × St) :=
  it (fun K a => f_X6_lastZero_4b k0 n0 K a.1 a.2.1 a.2.2) FU (x1, x3, σ)

def f_X6_lastZero (k0 n0 : Nat) (a1 : Int32) (a2 : Int32) (σ : St) : Option (Int32 × St) :=
  zn ((a2 - (1 : Int32))) fun v1 => f_X6_lastZero_4 k0 n0 a1 v1 σ

def f_X0_symbolsHold_102 (K23 : (Int32 × Int32 × St) → Option (Int32 × St)) (x1 : Int32) (x2 : Int32) (x3 : Int32) (t0 : Int32) (σ : St) : Option (Int32 × St) :=
  bi (f_X2_unless t0 (8 : Int32) ((x3 + (5 : Int32))) σ) fun r21 s20 => if r21 = 0 then (some ((0 : Int32), s20)) else (bi (f_X0_numberHolds ((x3 + (8 : Int32))) s20) fun r25 s24 => if r25 = 0 then (some ((0 : Int32), s24)) else (zn (x2 + 1) fun v27 => K23 (x1, v27, s24)))

def f_X0_symbolsHold_67 (K23 : (Int32 × Int32 × St) → Option (Int32 × St)) (x1 : Int32) (x2 : Int32) (x3 : Int32) (t0 : Int32) (σ : St) : Option (Int32 × St) :=
  bi (f_X2_unless t0 (8 : Int32) x3 σ) fun r13 s12 => if r13 = 0 then (some ((0 : Int32), s12)) else (bi (f_X6_at 3 6400 ((x3 + (5 : Int32))) s12) fun r17 s16 => if (s16.1 40 3) < r17 then (f_X0_symbolsHold_102 K23 x1 x2 x3 (0 : Int32) s16) else (f_X0_symbolsHold_102 K23 x1 x2 x3 (1 : Int32) s16))

def f_X0_symbolsHold_23b (K23 : (Int32 × Int32 × St) → Option (Int32 × St)) (x1 : Int32) (x2 : Int32) (σ : St) : Option (Int32 × St) :=
  if (σ.1 40 5) ≤ x2 then (some ((1 : Int32), σ)) else (zn (((σ.1 40 6) + ((16 : Int32) * x2))) fun v6 => bi (f_X0_u4 v6 σ) fun r9 s8 => if x1.toInt64 < ((σ.1 40 7).toInt64 + r9) then (f_X0_symbolsHold_67 K23 x1 x2 v6 (0 : Int32) s8) else (f_X0_symbolsHold_67 K23 x1 x2 v6 (1 : Int32) s8))

def f_X0_symbolsHold_23 (x1 : Int32) (x2 : Int32) (σ : St) : Option (Int32 × St) :=
  it (fun K a => f_X0_symbolsHold_23b K a.1 a.2.1 a.2.2) FU (x1, x2, σ)

def f_X0_symbolsHold (σ : St) : Option (Int32 × St) :=
  bi (f_X6_lastZero 3 6400 (σ.1 40 7) (((σ.1 40 7) + (σ.1 40 8))) σ) fun r3 s2 => zn (0 : Int32) fun v4 => f_X0_symbolsHold_23 r3 v4 s2

def f_X0_hold (σ : St) : Option (Int32 × St) :=
  bv (f_X0_forget σ) fun s2 => bi (f_X0_headHolds s2) fun r5 s4 => if r5 = 0 then (some ((0 : Int32), s4)) else (bi (f_X0_commandsHold s4) fun r9 s8 => if r9 = 0 then (some ((0 : Int32), s8)) else (bi (f_X0_symbolsHold s8) fun r13 s12 => if r13 = 0 then (some ((0 : Int32), s12)) else (some ((1 : Int32), s12))))

def f_X6_isName_21b (k0 n0 : Nat) (K21 : (Int32 × St) → Option (Int32 × St)) (x1 : Int32) (σ : St) : Option (Int32 × St) :=
  if (σ.1 k0 1) ≤ x1 then (some ((1 : Int32), σ)) else (gd (ib x1 n0) (if (σ.1 (k0 + 1) x1.toNatClampNeg) < (33 : Int32) then (some ((0 : Int32), σ)) else (gd (ib x1 n0) (if (σ.1 (k0 + 1) x1.toNatClampNeg) ≤ (126 : Int32) then (zn (x1 + 1) fun v9 => K21 (v9, σ)) else (some ((0 : Int32), σ))))))

def f_X6_isName_21 (k0 n0 : Nat) (x1 : Int32) (σ : St) : Option (Int32 × St) :=
  it (fun K a => f_X6_isName_21b k0 n0 K a.1 a.2) FU (x1, σ)

def f_X6_isName (k0 n0 : Nat) (σ : St) : Option (Int32 × St) :=
  if (σ.1 k0 1) < (1 : Int32) then (some ((0 : Int32), σ)) else (if (σ.1 k0 1) ≤ (16 : Int32) then (zn (0 : Int32) fun v3 => f_X6_isName_21 k0 n0 v3 σ) else (some ((0 : Int32), σ)))

def f_X11_isLibrary (a0 : Int32) (σ : St) : Option (Int32 × St) :=
  if a0 < (1 : Int32) then (some ((0 : Int32), σ)) else (if (3 : Int32) < a0 then (some ((0 : Int32), σ)) else (some ((1 : Int32), σ)))

def f_X6_reads_23b (k0 n0 : Nat) (k2 n2 : Nat) (K23 : (Int32 × Int32 × Int32 × Int32 × St) → Option (Int32 × St)) (x1 : Int32) (x3 : Int32) (x4 : Int32) (x5 : Int32) (σ : St) : Option (Int32 × St) :=
  if x4 ≤ x5 then (bi (f_X6_at k0 n0 (x1 + x4) σ) fun r8 s7 => if r8 = 0 then (some ((1 : Int32), s7)) else (some ((0 : Int32), s7))) else (gd (ib (x3 + x5) n2) (if (σ.1 k2 (x3 + x5).toNatClampNeg) = 0 then (some ((0 : Int32), σ)) else (bi (f_X6_at k0 n0 (x1 + x5) σ) fun r14 s13 => gd (ib (x3 + x5) n2) (if r14 = ((s13.1 k2 (x3 + x5).toNatClampNeg) &&& (255 : Int32)) then (zn (x5 + 1) fun v17 => K23 (x1, x3, x4, v17, s13)) else (some ((0 : Int32), s13))))))

def f_X6_reads_23 (k0 n0 : Nat) (k2 n2 : Nat) (x1 : Int32) (x3 : Int32) (x4 : Int32) (x5 : Int32) (σ : St) : Option (Int32 × St) :=
  it (fun K a => f_X6_reads_23b k0 n0 k2 n2 K a.1 a.2.1 a.2.2.1 a.2.2.2.1 a.2.2.2.2) FU (x1, x3, x4, x5, σ)

def f_X6_reads (k0 n0 : Nat) (k2 n2 : Nat) (a1 : Int32) (a3 : Int32) (a4 : Int32) (σ : St) : Option (Int32 × St) :=
  if a3 < 0 then (some ((0 : Int32), σ)) else (if a4 < 0 then (some ((0 : Int32), σ)) else (if a4 ≤ ((Int32.ofNat n2) - a3) then (zn (0 : Int32) fun v4 => f_X6_reads_23 k0 n0 k2 n2 a1 a3 a4 v4 σ) else (some ((0 : Int32), σ))))

def f_X1_indexOf_59 (k2 n2 : Nat) (K3 : (Int32 × Int32 × Int32 × St) → Option (Int32 × St)) (x1 : Int32) (x3 : Int32) (x4 : Int32) (σ : St) : Option (Int32 × St) :=
  zn (x4 + 1) fun v5 => K3 (x1, x3, v5, σ)

def f_X1_indexOf_3b (k2 n2 : Nat) (K3 : (Int32 × Int32 × Int32 × St) → Option (Int32 × St)) (x1 : Int32) (x3 : Int32) (x4 : Int32) (σ : St) : Option (Int32 × St) :=
  if (σ.1 34 2) ≤ x4 then (some ((-1 : Int32), σ)) else (gd (ib x4 30) (if (σ.1 37 x4.toNatClampNeg) = x1 then (gd (ib x4 30) (bi (f_X6_reads k2 n2 35 480 x3 ((x4 * (16 : Int32))) (σ.1 36 x4.toNatClampNeg) σ) fun r9 s8 => if r9 = 0 then (f_X1_indexOf_59 k2 n2 K3 x1 x3 x4 s8) else (some (x4, s8)))) else (f_X1_indexOf_59 k2 n2 K3 x1 x3 x4 σ)))

def f_X1_indexOf_3 (k2 n2 : Nat) (x1 : Int32) (x3 : Int32) (x4 : Int32) (σ : St) : Option (Int32 × St) :=
  it (fun K a => f_X1_indexOf_3b k2 n2 K a.1 a.2.1 a.2.2.1 a.2.2.2) FU (x1, x3, x4, σ)

def f_X1_indexOf (k2 n2 : Nat) (a1 : Int32) (a3 : Int32) (σ : St) : Option (Int32 × St) :=
  zn (0 : Int32) fun v1 => f_X1_indexOf_3 k2 n2 a1 a3 v1 σ

def f_X5_add_18b (k0 b0 n0 : Nat) (k1 n1 : Nat) (K18 : (Int32 × Int32 × St) → Option (Int32 × St)) (x2 : Int32) (x3 : Int32) (σ : St) : Option (Int32 × St) :=
  if (16 : Int32) ≤ x3 then (gd (ib x2 n0) (zn (sI σ (k0 + 2) x2.toNatClampNeg (σ.1 k1 1)) fun s6 => zn (sI s6 k0 2 (((s6.1 k0 2) + (1 : Int32)))) fun s7 => some (x2, s7))) else (bi (f_X6_at k1 n1 x3 σ) fun r10 s9 => gd (ib (((x2 * (16 : Int32)) + x3)) b0) (zn (sI s9 (k0 + 1) (((x2 * (16 : Int32)) + x3)).toNatClampNeg (vp_nar .byte r10.toInt8.toInt32)) fun s12 => zn (x3 + 1) fun v13 => K18 (x2, v13, s12)))

def f_X5_add_18 (k0 b0 n0 : Nat) (k1 n1 : Nat) (x2 : Int32) (x3 : Int32) (σ : St) : Option (Int32 × St) :=
  it (fun K a => f_X5_add_18b k0 b0 n0 k1 n1 K a.1 a.2.1 a.2.2) FU (x2, x3, σ)

def f_X5_add (k0 b0 n0 : Nat) (k1 n1 : Nat) (σ : St) : Option (Int32 × St) :=
  zn (σ.1 k0 2) fun v1 => if v1 < (Int32.ofNat n0) then (zn (0 : Int32) fun v3 => f_X5_add_18 k0 b0 n0 k1 n1 v1 v3 σ) else (some ((-1 : Int32), σ))

def f_X1_put_45 (k1 n1 : Nat) (x2 : Int32) (x3 : Int32) (x4 : Int32) (σ : St) : Option (Int32 × St) :=
  if x4 = (-1 : Int32) then (some ((0 : Int32), σ)) else (gd (ib x4 30) (zn (sI σ 37 x4.toNatClampNeg x2) fun s16 => gd (ib x4 30) (zn (sI s16 38 x4.toNatClampNeg x3) fun s18 => some ((1 : Int32), s18))))

def f_X1_put (k1 n1 : Nat) (a2 : Int32) (a3 : Int32) (σ : St) : Option (Int32 × St) :=
  bi (f_X6_isName k1 n1 σ) fun r3 s2 => if r3 = 0 then (some ((0 : Int32), s2)) else (bi (f_X11_isLibrary a2 s2) fun r7 s6 => if r7 = 0 then (some ((0 : Int32), s6)) else (if 0 ≤ a3 then (bi (f_X1_indexOf k1 n1 a2 (0 : Int32) s6) fun r12 s11 => if r12 = (-1 : Int32) then (bi (f_X5_add 34 480 30 k1 n1 s11) fun r21 s20 => f_X1_put_45 k1 n1 a2 a3 r21 s20) else (f_X1_put_45 k1 n1 a2 a3 r12 s11)) else (some ((0 : Int32), s6))))

def f_X1_addressOf (k2 n2 : Nat) (a1 : Int32) (a3 : Int32) (σ : St) : Option (Int32 × St) :=
  bi (f_X1_indexOf k2 n2 a1 a3 σ) fun r3 s2 => if r3 = (-1 : Int32) then (some ((-1 : Int32), s2)) else (gd (ib r3 30) (some ((s2.1 38 r3.toNatClampNeg), s2)))

def f_X2_clear (σ : St) : Option (St) :=
  zn (sI σ 39 0 (0 : Int32)) fun s1 => zn (sI s1 39 1 (-1 : Int32)) fun s2 => some s2

def f_X9_clear (k0 : Nat) (σ : St) : Option (St) :=
  zn (sI σ k0 2 (0 : Int32)) fun s1 => some s1

def f_X3_needs (a1 : Int32) (a2 : Int32) (σ : St) : Option (Int32 × St) :=
  bi (f_X2_unless a1 (9 : Int32) a2 σ) fun r3 s2 => gd (r3 = 0 ∨ r3 = 1) (some (r3, s2))

def f_X3_u4 (a1 : Int32) (σ : St) : Option (Int64 × St) :=
  bi (f_X6_number 3 6400 a1 (4 : Int32) σ) fun r3 s2 => some (r3, s2)

def f_X3_headHolds_95 (t0 : Int32) (σ : St) : Option (Int32 × St) :=
  bi (f_X3_needs t0 (((σ.1 46 10) + (24 : Int32))) σ) fun r20 s19 => if r20 = 0 then (some ((0 : Int32), s19)) else (some ((1 : Int32), s19))

def f_X3_headHolds_60 (t0 : Int32) (σ : St) : Option (Int32 × St) :=
  bi (f_X3_needs t0 (((σ.1 46 10) + (20 : Int32))) σ) fun r12 s11 => if r12 = 0 then (some ((0 : Int32), s11)) else (bi (f_X3_u4 (((s11.1 46 10) + (24 : Int32))) s11) fun r16 s15 => if r16 = (0 : Int64) then (f_X3_headHolds_95 (1 : Int32) s15) else (f_X3_headHolds_95 (0 : Int32) s15))

def f_X3_headHolds_28 (t0 : Int32) (σ : St) : Option (Int32 × St) :=
  bi (f_X3_needs t0 (σ.1 46 10) σ) fun r4 s3 => if r4 = 0 then (some ((0 : Int32), s3)) else (bi (f_X3_u4 (((s3.1 46 10) + (20 : Int32))) s3) fun r8 s7 => if r8 = (1 : Int64) then (f_X3_headHolds_60 (1 : Int32) s7) else (f_X3_headHolds_60 (0 : Int32) s7))

def f_X3_headHolds_27 (σ : St) : Option (Int32 × St) :=
  f_X3_headHolds_28 (0 : Int32) σ

def f_X3_headHolds (σ : St) : Option (Int32 × St) :=
  if (σ.1 46 11) < (28 : Int32) then (f_X3_headHolds_27 σ) else (bi (f_X3_u4 (σ.1 46 10) σ) fun r24 s23 => if r24 = (0 : Int64) then (f_X3_headHolds_28 (1 : Int32) s23) else (f_X3_headHolds_27 s23))

def f_X3_startsHold_107 (t0 : Int32) (σ : St) : Option (Int32 × St) :=
  bi (f_X3_needs t0 (((σ.1 46 10) + (σ.1 46 12))) σ) fun r16 s15 => gd (r16 = 0 ∨ r16 = 1) (some (r16, s15))

def f_X3_startsHold_106 (σ : St) : Option (Int32 × St) :=
  f_X3_startsHold_107 (0 : Int32) σ

def f_X3_startsHold_31 (x1 : Int64) (t0 : Int32) (σ : St) : Option (Int32 × St) :=
  bi (f_X3_needs t0 (((σ.1 46 10) + (4 : Int32))) σ) fun r7 s6 => if r7 = 0 then (some ((0 : Int32), s6)) else (zn (sI s6 46 12 x1.toInt32) fun s9 => bi (f_X3_u4 (((s9.1 46 10) + (s9.1 46 12))) s9) fun r12 s11 => if r12 = (s11.1 41 4).toInt64 then (if (s11.1 46 11).toInt64 < ((x1 + (4 : Int64)) + (((4 : Int32) * (s11.1 41 4))).toInt64) then (f_X3_startsHold_106 s11) else (f_X3_startsHold_107 (1 : Int32) s11)) else (f_X3_startsHold_106 s11))

def f_X3_startsHold (σ : St) : Option (Int32 × St) :=
  bi (f_X3_u4 (((σ.1 46 10) + (4 : Int32))) σ) fun r3 s2 => if (s2.1 46 11).toInt64 < (r3 + (4 : Int64)) then (f_X3_startsHold_31 r3 (0 : Int32) s2) else (f_X3_startsHold_31 r3 (1 : Int32) s2)

def f_X3_importsHold_229 (K148 : (Int64 × Int32 × Int64 × Int32 × Int32 × St) → Option (Int32 × St)) (x1 : Int64) (x3 : Int32) (x4 : Int64) (x6 : Int32) (x7 : Int32) (x8 : Int64) (x10 : Int64) (t0 : Int32) (t1 : Int32) (σ : St) : Option (Int32 × St) :=
  gd (ib t1 64) (zn (sI σ 51 t1.toNatClampNeg (vp_nar .boolean t0)) fun s42 => bi (f_X1_addressOf 3 6400 (((x8 &&& (255 : Int64))).toInt32) x10.toInt32 s42) fun r45 s44 => gd (ib x7 64) (zn (sI s44 52 x7.toNatClampNeg r45) fun s47 => zn (x7 + 1) fun v48 => K148 (x1, x3, x4, x6, v48, s47)))

def f_X3_importsHold_193 (K148 : (Int64 × Int32 × Int64 × Int32 × Int32 × St) → Option (Int32 × St)) (x1 : Int64) (x3 : Int32) (x4 : Int64) (x6 : Int32) (x7 : Int32) (x8 : Int64) (x10 : Int64) (t0 : Int32) (σ : St) : Option (Int32 × St) :=
  bi (f_X3_needs t0 ((x3 + ((4 : Int32) * x7))) σ) fun r38 s37 => if r38 = 0 then (some ((0 : Int32), s37)) else (if (x8 &&& (256 : Int64)) = (0 : Int64) then (f_X3_importsHold_229 K148 x1 x3 x4 x6 x7 x8 x10 (0 : Int32) x7 s37) else (f_X3_importsHold_229 K148 x1 x3 x4 x6 x7 x8 x10 (1 : Int32) x7 s37))

def f_X3_importsHold_148b (K148 : (Int64 × Int32 × Int64 × Int32 × Int32 × St) → Option (Int32 × St)) (x1 : Int64) (x3 : Int32) (x4 : Int64) (x6 : Int32) (x7 : Int32) (σ : St) : Option (Int32 × St) :=
  if x1 ≤ x7.toInt64 then (zn (sI σ 46 9 x1.toInt32) fun s30 => some ((1 : Int32), s30)) else (bi (f_X3_u4 ((x3 + ((4 : Int32) * x7))) σ) fun r33 s32 => zn ((x4 + (zlushr r33 (9 : Int32)))) fun v34 => if x6.toInt64 < v34 then (f_X3_importsHold_193 K148 x1 x3 x4 x6 x7 r33 v34 (0 : Int32) s32) else (f_X3_importsHold_193 K148 x1 x3 x4 x6 x7 r33 v34 (1 : Int32) s32))

def f_X3_importsHold_148 (x1 : Int64) (x3 : Int32) (x4 : Int64) (x6 : Int32) (x7 : Int32) (σ : St) : Option (Int32 × St) :=
  it (fun K a => f_X3_importsHold_148b K a.1 a.2.1 a.2.2.1 a.2.2.2.1 a.2.2.2.2.1 a.2.2.2.2.2) FU (x1, x3, x4, x6, x7, σ)

def f_X3_importsHold_71 (x1 : Int64) (t0 : Int32) (σ : St) : Option (Int32 × St) :=
  bi (f_X3_needs t0 (((σ.1 46 10) + (8 : Int32))) σ) fun r15 s14 => if r15 = 0 then (some ((0 : Int32), s14)) else (bi (f_X3_u4 (((s14.1 46 10) + (8 : Int32))) s14) fun r19 s18 => zn (((s14.1 46 10) + r19.toInt32)) fun v20 => bi (f_X3_u4 (((s18.1 46 10) + (12 : Int32))) s18) fun r23 s22 => zn (((s18.1 46 10).toInt64 + r23)) fun v24 => bi (f_X6_lastZero 3 6400 (s22.1 46 10) (((s22.1 46 10) + (s22.1 46 11))) s22) fun r27 s26 => zn (0 : Int32) fun v28 => f_X3_importsHold_148 x1 v20 v24 r27 v28 s26)

def f_X3_importsHold_26 (x1 : Int64) (t0 : Int32) (σ : St) : Option (Int32 × St) :=
  bi (f_X3_needs t0 (((σ.1 46 10) + (16 : Int32))) σ) fun r7 s6 => if r7 = 0 then (some ((0 : Int32), s6)) else (bi (f_X3_u4 (((s6.1 46 10) + (8 : Int32))) s6) fun r11 s10 => if (s10.1 46 11).toInt64 < (r11 + ((4 : Int64) * x1)) then (f_X3_importsHold_71 x1 (0 : Int32) s10) else (f_X3_importsHold_71 x1 (1 : Int32) s10))

def f_X3_importsHold (σ : St) : Option (Int32 × St) :=
  bi (f_X3_u4 (((σ.1 46 10) + (16 : Int32))) σ) fun r3 s2 => if (64 : Int64) < r3 then (f_X3_importsHold_26 r3 (0 : Int32) s2) else (f_X3_importsHold_26 r3 (1 : Int32) s2)

def f_X3_u2 (a1 : Int32) (σ : St) : Option (Int32 × St) :=
  bi (f_X6_number 3 6400 a1 (2 : Int32) σ) fun r3 s2 => some (r3.toInt32, s2)

def f_X11_isPage (a0 : Int32) (σ : St) : Option (Int32 × St) :=
  if a0 < (256 : Int32) then (some ((0 : Int32), σ)) else (if (4096 : Int32) < a0 then (some ((0 : Int32), σ)) else (if (a0 &&& (a0 - (1 : Int32))) = 0 then (some ((1 : Int32), σ)) else (some ((0 : Int32), σ))))

def f_X11_pagesIn (a0 : Int32) (a1 : Int32) (σ : St) : Option (Int32 × St) :=
  if (1 : Int32) ≤ a1 then (gd (¬ a1 = 0) (some ((((a0 + a1) - (1 : Int32)) / a1), σ))) else (some ((0 : Int32), σ))

def f_X3_pagesHold_207 (x2 : Int32) (t0 : Int32) (σ : St) : Option (Int32 × St) :=
  bi (f_X3_needs t0 ((x2 + (20 : Int32))) σ) fun r56 s55 => if r56 = 0 then (some ((0 : Int32), s55)) else (some ((1 : Int32), s55))

def f_X3_pagesHold_166 (x1 : Int32) (x2 : Int32) (x4 : Int32) (t0 : Int32) (σ : St) : Option (Int32 × St) :=
  bi (f_X3_needs t0 ((x2 + (8 : Int32))) σ) fun r44 s43 => if r44 = 0 then (some ((0 : Int32), s43)) else (bi (f_X3_u2 ((x2 + (20 : Int32))) s43) fun r48 s47 => gd (ib x1 4) (bi (f_X11_pagesIn (s47.1 43 x1.toNatClampNeg) x4 s47) fun r52 s51 => if r52 < r48 then (f_X3_pagesHold_207 x2 (0 : Int32) s51) else (f_X3_pagesHold_207 x2 (1 : Int32) s51)))

def f_X3_pagesHold_116 (x1 : Int32) (x2 : Int32) (x4 : Int32) (x5 : Int32) (t0 : Int32) (σ : St) : Option (Int32 × St) :=
  bi (f_X3_needs t0 ((x2 + (6 : Int32))) σ) fun r32 s31 => if r32 = 0 then (some ((0 : Int32), s31)) else (bi (f_X0_numberHolds ((x2 + (8 : Int32))) s31) fun r36 s35 => if r36 = 0 then (some ((0 : Int32), s35)) else (bi (f_X6_number 3 6400 ((x2 + (8 : Int32))) (8 : Int32) s35) fun r40 s39 => if r40 = x5.toInt64 then (f_X3_pagesHold_166 x1 x2 x4 (1 : Int32) s39) else (f_X3_pagesHold_166 x1 x2 x4 (0 : Int32) s39)))

def f_X3_pagesHold_76 (x1 : Int32) (x2 : Int32) (x4 : Int32) (x5 : Int32) (t0 : Int32) (σ : St) : Option (Int32 × St) :=
  bi (f_X3_needs t0 x2 σ) fun r17 s16 => if r17 = 0 then (some ((0 : Int32), s16)) else (bi (f_X11_isPage x4 s16) fun r21 s20 => bi (f_X3_needs r21 ((x2 + (4 : Int32))) s20) fun r24 s23 => if r24 = 0 then (some ((0 : Int32), s23)) else (bi (f_X3_u2 ((x2 + (6 : Int32))) s23) fun r28 s27 => if r28 = (2 : Int32) then (f_X3_pagesHold_116 x1 x2 x4 x5 (1 : Int32) s27) else (f_X3_pagesHold_116 x1 x2 x4 x5 (0 : Int32) s27)))

def f_X3_pagesHold_75 (x1 : Int32) (x2 : Int32) (x4 : Int32) (x5 : Int32) (σ : St) : Option (Int32 × St) :=
  f_X3_pagesHold_76 x1 x2 x4 x5 (0 : Int32) σ

def f_X3_pagesHold (a1 : Int32) (a2 : Int32) (σ : St) : Option (Int32 × St) :=
  bi (f_X3_u2 ((a2 + (20 : Int32))) σ) fun r3 s2 => zn (((22 : Int32) + ((2 : Int32) * r3))) fun v4 => bi (f_X3_u2 ((a2 + (4 : Int32))) s2) fun r7 s6 => gd (ib a1 4) (gd (ib (0 : Int32) 4) (zn (((s6.1 42 a1.toNatClampNeg) - (s6.1 42 (0 : Int32).toNatClampNeg))) fun v10 => bi (f_X3_u4 a2 s6) fun r13 s12 => if r13 = v4.toInt64 then (if (s12.1 46 11) < ((a2 - (s12.1 46 10)) + v4) then (f_X3_pagesHold_75 a1 a2 r7 v10 s12) else (f_X3_pagesHold_76 a1 a2 r7 v10 (1 : Int32) s12)) else (f_X3_pagesHold_75 a1 a2 r7 v10 s12)))

def f_X3_allPagesHold_117 (K2 : (Int32 × St) → Option (Int32 × St)) (x1 : Int32) (σ : St) : Option (Int32 × St) :=
  zn (x1 + 1) fun v10 => K2 (v10, σ)

def f_X3_allPagesHold_74 (K2 : (Int32 × St) → Option (Int32 × St)) (x1 : Int32) (x2 : Int32) (x3 : Int64) (t0 : Int32) (σ : St) : Option (Int32 × St) :=
  bi (f_X3_needs t0 x2 σ) fun r14 s13 => if r14 = 0 then (some ((0 : Int32), s13)) else (gd (ib x1 4) (zn (sI s13 50 x1.toNatClampNeg ((((s13.1 46 10) + (s13.1 46 12)) + x3.toInt32))) fun s17 => gd (ib x1 4) (bi (f_X3_pagesHold x1 (s17.1 50 x1.toNatClampNeg) s17) fun r21 s20 => if r21 = 0 then (some ((0 : Int32), s20)) else (f_X3_allPagesHold_117 K2 x1 s20))))

def f_X3_allPagesHold_2b (K2 : (Int32 × St) → Option (Int32 × St)) (x1 : Int32) (σ : St) : Option (Int32 × St) :=
  if (σ.1 41 4) ≤ x1 then (some ((1 : Int32), σ)) else (gd (ib x1 4) (zn (sI σ 50 x1.toNatClampNeg (-1 : Int32)) fun s4 => zn (((((s4.1 46 10) + (s4.1 46 12)) + (4 : Int32)) + ((4 : Int32) * x1))) fun v5 => bi (f_X3_u4 v5 s4) fun r8 s7 => if r8 = (0 : Int64) then (f_X3_allPagesHold_117 K2 x1 s7) else (if (s7.1 46 11).toInt64 < (((s7.1 46 12).toInt64 + r8) + (22 : Int64)) then (f_X3_allPagesHold_74 K2 x1 v5 r8 (0 : Int32) s7) else (f_X3_allPagesHold_74 K2 x1 v5 r8 (1 : Int32) s7))))

def f_X3_allPagesHold_2 (x1 : Int32) (σ : St) : Option (Int32 × St) :=
  it (fun K a => f_X3_allPagesHold_2b K a.1 a.2) FU (x1, σ)

def f_X3_allPagesHold (σ : St) : Option (Int32 × St) :=
  zn (0 : Int32) fun v1 => f_X3_allPagesHold_2 v1 σ

def f_X7_pointerBits_50 (k0 : Nat) (k1 n1 : Nat) (K11 : (Int32 × Int32 × Int64 × Int32 × St) → Option (Int64 × St)) (x2 : Int32) (x3 : Int32) (x6 : Int32) (t0 : Int32) (t1 : Int64) (σ : St) : Option (Int64 × St) :=
  zn (t1 ||| t0.toInt64) fun v6 => zn (x6 + (-1)) fun v7 => K11 (x2, x3, v6, v7, σ)

def f_X7_pointerBits_11b (k0 : Nat) (k1 n1 : Nat) (K11 : (Int32 × Int32 × Int64 × Int32 × St) → Option (Int64 × St)) (x2 : Int32) (x3 : Int32) (x4 : Int64) (x6 : Int32) (σ : St) : Option (Int64 × St) :=
  if x6 < x3 then (some (x4, σ)) else (gd (ib x2 4) (if (σ.1 (k0 + 4) x2.toNatClampNeg) ≤ x6 then (f_X7_pointerBits_50 k0 k1 n1 K11 x2 x3 x6 (0 : Int32) ((zlshl x4 (8 : Int32))) σ) else (gd (ib x2 4) (bi (f_X6_at k1 n1 (((σ.1 (k0 + 3) x2.toNatClampNeg) + x6)) σ) fun r11 s10 => f_X7_pointerBits_50 k0 k1 n1 K11 x2 x3 x6 r11 ((zlshl x4 (8 : Int32))) s10))))

def f_X7_pointerBits_11 (k0 : Nat) (k1 n1 : Nat) (x2 : Int32) (x3 : Int32) (x4 : Int64) (x6 : Int32) (σ : St) : Option (Int64 × St) :=
  it (fun K a => f_X7_pointerBits_11b k0 k1 n1 K a.1 a.2.1 a.2.2.1 a.2.2.2.1 a.2.2.2.2) FU (x2, x3, x4, x6, σ)

def f_X7_pointerBits (k0 : Nat) (k1 n1 : Nat) (a2 : Int32) (a3 : Int32) (σ : St) : Option (Int64 × St) :=
  zn (0 : Int64) fun v1 => zn (((a3 + (8 : Int32)) - (1 : Int32))) fun v2 => f_X7_pointerBits_11 k0 k1 n1 a2 a3 v1 v2 σ

def f_X9_nextOf (a0 : Int64) (σ : St) : Option (Int32 × St) :=
  some ((((zlushr a0 (51 : Int32))).toInt32 &&& (4095 : Int32)), σ)

def f_X9_isBind (a0 : Int64) (σ : St) : Option (Int32 × St) :=
  if (0 : Int64) ≤ a0 then (some ((0 : Int32), σ)) else (some ((1 : Int32), σ))

def f_X3_pointerHolds_126 (x3 : Int32) (t0 : Int32) (σ : St) : Option (Int32 × St) :=
  bi (f_X2_unless t0 (12 : Int32) x3 σ) fun r20 s19 => if r20 = 0 then (some ((0 : Int32), s19)) else (some ((1 : Int32), s19))

def f_X3_pointerHolds_121 (x3 : Int32) (σ : St) : Option (Int32 × St) :=
  f_X3_pointerHolds_126 x3 (1 : Int32) σ

def f_X3_pointerHolds_87 (x3 : Int32) (x4 : Int32) (t0 : Int32) (σ : St) : Option (Int32 × St) :=
  bi (f_X2_unless t0 (11 : Int32) x3 σ) fun r14 s13 => if r14 = 0 then (some ((0 : Int32), s13)) else (gd (ib x4 64) (if (s13.1 51 x4.toNatClampNeg) = 0 then (gd (ib x4 64) (if (s13.1 52 x4.toNatClampNeg) = (-1 : Int32) then (f_X3_pointerHolds_126 x3 (0 : Int32) s13) else (f_X3_pointerHolds_121 x3 s13))) else (f_X3_pointerHolds_121 x3 s13)))

def f_X3_pointerHolds_60 (x3 : Int32) (x4 : Int32) (t0 : Int32) (σ : St) : Option (Int32 × St) :=
  bi (f_X2_unless t0 (11 : Int32) x3 σ) fun r9 s8 => if r9 = 0 then (some ((0 : Int32), s8)) else (if (s8.1 46 9) ≤ x4 then (f_X3_pointerHolds_87 x3 x4 (0 : Int32) s8) else (f_X3_pointerHolds_87 x3 x4 (1 : Int32) s8))

def f_X3_pointerHolds_26 (x3 : Int32) (t0 : Int32) (σ : St) : Option (Int32 × St) :=
  bi (f_X2_unless t0 (11 : Int32) x3 σ) fun r27 s26 => gd (r27 = 0 ∨ r27 = 1) (some (r27, s26))

def f_X3_pointerHolds (a1 : Int64) (a2 : Int32) (σ : St) : Option (Int32 × St) :=
  bi (f_X9_isBind a1 σ) fun r3 s2 => if r3 = 0 then (if (a1 &&& (2234207627640832 : Int64)) = (0 : Int64) then (f_X3_pointerHolds_26 a2 (1 : Int32) s2) else (f_X3_pointerHolds_26 a2 (0 : Int32) s2)) else (zn (((a1 &&& (16777215 : Int64))).toInt32) fun v5 => if (a1 &&& (2251795518717952 : Int64)) = (0 : Int64) then (f_X3_pointerHolds_60 a2 v5 (1 : Int32) s2) else (f_X3_pointerHolds_60 a2 v5 (0 : Int32) s2))

def f_X9_add (k0 : Nat) (a1 : Int32) (a2 : Int64) (σ : St) : Option (St) :=
  if (2048 : Int32) ≤ (σ.1 k0 2) then (some σ) else (gd (ib (σ.1 k0 2) 2048) (zn (sI σ (k0 + 1) (σ.1 k0 2).toNatClampNeg a1) fun s3 => gd (ib (s3.1 k0 2) 2048) (zn (sJ s3 (k0 + 2) (s3.1 k0 2).toNatClampNeg a2) fun s5 => zn (sI s5 k0 2 (((s5.1 k0 2) + (1 : Int32)))) fun s6 => some s6)))

def f_X3_chainHolds_91 (K6 : (Int32 × Int32 × Int32 × Int32 × St) → Option (Int32 × St)) (x1 : Int32) (x3 : Int32) (x4 : Int32) (x5 : Int32) (x6 : Int64) (x8 : Int32) (x9 : Int32) (t0 : Int32) (σ : St) : Option (Int32 × St) :=
  bi (f_X3_pointerHolds x6 x8 σ) fun r15 s14 => if r15 = 0 then (some ((0 : Int32), s14)) else (bi (f_X2_unless t0 (10 : Int32) x8 s14) fun r19 s18 => if r19 = 0 then (some ((0 : Int32), s18)) else (gd (ib x1 4) (bv (f_X9_add 47 (((s18.1 42 x1.toNatClampNeg) + x4)) x6 s18) fun s23 => if x9 = 0 then (some ((1 : Int32), s23)) else (zn ((x4 + ((4 : Int32) * x9))) fun v25 => zn (x5 + 1) fun v26 => K6 (x1, x3, v25, v26, s23)))))

def f_X3_chainHolds_86 (K6 : (Int32 × Int32 × Int32 × Int32 × St) → Option (Int32 × St)) (x1 : Int32) (x3 : Int32) (x4 : Int32) (x5 : Int32) (x6 : Int64) (x8 : Int32) (x9 : Int32) (σ : St) : Option (Int32 × St) :=
  f_X3_chainHolds_91 K6 x1 x3 x4 x5 x6 x8 x9 (1 : Int32) σ

def f_X3_chainHolds_90 (K6 : (Int32 × Int32 × Int32 × Int32 × St) → Option (Int32 × St)) (x1 : Int32) (x3 : Int32) (x4 : Int32) (x5 : Int32) (x6 : Int64) (x8 : Int32) (x9 : Int32) (σ : St) : Option (Int32 × St) :=
  f_X3_chainHolds_91 K6 x1 x3 x4 x5 x6 x8 x9 (0 : Int32) σ

def f_X3_chainHolds_6b (K6 : (Int32 × Int32 × Int32 × Int32 × St) → Option (Int32 × St)) (x1 : Int32) (x3 : Int32) (x4 : Int32) (x5 : Int32) (σ : St) : Option (Int32 × St) :=
  if (2048 : Int32) ≤ x5 then (some ((1 : Int32), σ)) else (bi (f_X7_pointerBits 41 3 6400 x1 x4 σ) fun r5 s4 => gd (ib x1 4) (gd (ib (0 : Int32) 4) (zn ((((s4.1 42 x1.toNatClampNeg) - (s4.1 42 (0 : Int32).toNatClampNeg)) + x4)) fun v8 => bi (f_X9_nextOf r5 s4) fun r11 s10 => if r11 = 0 then (f_X3_chainHolds_86 K6 x1 x3 x4 x5 r5 v8 r11 s10) else (if r11 ≤ (1 : Int32) then (f_X3_chainHolds_90 K6 x1 x3 x4 x5 r5 v8 r11 s10) else (if x3 < ((x4 + ((4 : Int32) * r11)) + (8 : Int32)) then (f_X3_chainHolds_90 K6 x1 x3 x4 x5 r5 v8 r11 s10) else (f_X3_chainHolds_86 K6 x1 x3 x4 x5 r5 v8 r11 s10))))))

def f_X3_chainHolds_6 (x1 : Int32) (x3 : Int32) (x4 : Int32) (x5 : Int32) (σ : St) : Option (Int32 × St) :=
  it (fun K a => f_X3_chainHolds_6b K a.1 a.2.1 a.2.2.1 a.2.2.2.1 a.2.2.2.2) FU (x1, x3, x4, x5, σ)

def f_X3_chainHolds (a1 : Int32) (a2 : Int32) (a3 : Int32) (σ : St) : Option (Int32 × St) :=
  zn (0 : Int32) fun v1 => f_X3_chainHolds_6 a1 a3 a2 v1 σ

def f_X3_chainsOfHold_138 (K21 : (Int32 × Int32 × Int32 × Int32 × Int32 × St) → Option (Int32 × St)) (x1 : Int32) (x2 : Int32) (x3 : Int32) (x4 : Int32) (x5 : Int32) (σ : St) : Option (Int32 × St) :=
  zn (x5 + 1) fun v16 => K21 (x1, x2, x3, x4, v16, σ)

def f_X3_chainsOfHold_101 (K21 : (Int32 × Int32 × Int32 × Int32 × Int32 × St) → Option (Int32 × St)) (x1 : Int32) (x2 : Int32) (x3 : Int32) (x4 : Int32) (x5 : Int32) (x6 : Int32) (x7 : Int32) (x8 : Int32) (t0 : Int32) (σ : St) : Option (Int32 × St) :=
  bi (f_X2_unless t0 (10 : Int32) x6 σ) fun r20 s19 => if r20 = 0 then (some ((0 : Int32), s19)) else (bi (f_X3_chainHolds x1 (((x3 * x5) + x7)) x8 s19) fun r24 s23 => if r24 = 0 then (some ((0 : Int32), s23)) else (f_X3_chainsOfHold_138 K21 x1 x2 x3 x4 x5 s23))

def f_X3_chainsOfHold_100 (K21 : (Int32 × Int32 × Int32 × Int32 × Int32 × St) → Option (Int32 × St)) (x1 : Int32) (x2 : Int32) (x3 : Int32) (x4 : Int32) (x5 : Int32) (x6 : Int32) (x7 : Int32) (x8 : Int32) (σ : St) : Option (Int32 × St) :=
  f_X3_chainsOfHold_101 K21 x1 x2 x3 x4 x5 x6 x7 x8 (0 : Int32) σ

def f_X3_chainsOfHold_21b (K21 : (Int32 × Int32 × Int32 × Int32 × Int32 × St) → Option (Int32 × St)) (x1 : Int32) (x2 : Int32) (x3 : Int32) (x4 : Int32) (x5 : Int32) (σ : St) : Option (Int32 × St) :=
  if x4 ≤ x5 then (some ((1 : Int32), σ)) else (zn (((x2 + (22 : Int32)) + ((2 : Int32) * x5))) fun v9 => bi (f_X3_u2 v9 σ) fun r12 s11 => gd (ib x1 4) (zn ((if (s11.1 43 x1.toNatClampNeg) < (x3 * (x5 + (1 : Int32))) then (s11.1 43 x1.toNatClampNeg) else (x3 * (x5 + (1 : Int32))))) fun v14 => if r12 = (65535 : Int32) then (f_X3_chainsOfHold_138 K21 x1 x2 x3 x4 x5 s11) else (if (r12 - r12 / (4 : Int32) * (4 : Int32)) = 0 then (if v14 < (((x3 * x5) + r12) + (8 : Int32)) then (f_X3_chainsOfHold_100 K21 x1 x2 x3 x4 x5 v9 r12 v14 s11) else (f_X3_chainsOfHold_101 K21 x1 x2 x3 x4 x5 v9 r12 v14 (1 : Int32) s11)) else (f_X3_chainsOfHold_100 K21 x1 x2 x3 x4 x5 v9 r12 v14 s11))))

def f_X3_chainsOfHold_21 (x1 : Int32) (x2 : Int32) (x3 : Int32) (x4 : Int32) (x5 : Int32) (σ : St) : Option (Int32 × St) :=
  it (fun K a => f_X3_chainsOfHold_21b K a.1 a.2.1 a.2.2.1 a.2.2.2.1 a.2.2.2.2.1 a.2.2.2.2.2) FU (x1, x2, x3, x4, x5, σ)

def f_X3_chainsOfHold (a1 : Int32) (a2 : Int32) (σ : St) : Option (Int32 × St) :=
  bi (f_X3_u2 ((a2 + (4 : Int32))) σ) fun r3 s2 => bi (f_X3_u2 ((a2 + (20 : Int32))) s2) fun r6 s5 => zn (0 : Int32) fun v7 => f_X3_chainsOfHold_21 a1 a2 r3 r6 v7 s5

def f_X3_allChainsHold_39 (K2 : (Int32 × St) → Option (Int32 × St)) (x1 : Int32) (σ : St) : Option (Int32 × St) :=
  zn (x1 + 1) fun v5 => K2 (v5, σ)

def f_X3_allChainsHold_2b (K2 : (Int32 × St) → Option (Int32 × St)) (x1 : Int32) (σ : St) : Option (Int32 × St) :=
  if (σ.1 41 4) ≤ x1 then (some ((1 : Int32), σ)) else (gd (ib x1 4) (if (σ.1 50 x1.toNatClampNeg) = (-1 : Int32) then (f_X3_allChainsHold_39 K2 x1 σ) else (gd (ib x1 4) (bi (f_X3_chainsOfHold x1 (σ.1 50 x1.toNatClampNeg) σ) fun r9 s8 => if r9 = 0 then (some ((0 : Int32), s8)) else (f_X3_allChainsHold_39 K2 x1 s8)))))

def f_X3_allChainsHold_2 (x1 : Int32) (σ : St) : Option (Int32 × St) :=
  it (fun K a => f_X3_allChainsHold_2b K a.1 a.2) FU (x1, σ)

def f_X3_allChainsHold (σ : St) : Option (Int32 × St) :=
  zn (0 : Int32) fun v1 => f_X3_allChainsHold_2 v1 σ

def f_X3_hold (σ : St) : Option (Int32 × St) :=
  bv (f_X9_clear 47 σ) fun s2 => zn (sI s2 46 9 (0 : Int32)) fun s3 => if (s3.1 40 9) = 0 then (some ((1 : Int32), s3)) else (zn (sI s3 46 10 (s3.1 40 10)) fun s5 => zn (sI s5 46 11 (s5.1 40 11)) fun s6 => bi (f_X3_headHolds s6) fun r9 s8 => if r9 = 0 then (some ((0 : Int32), s8)) else (bi (f_X3_startsHold s8) fun r13 s12 => if r13 = 0 then (some ((0 : Int32), s12)) else (bi (f_X3_importsHold s12) fun r17 s16 => if r17 = 0 then (some ((0 : Int32), s16)) else (bi (f_X3_allPagesHold s16) fun r21 s20 => if r21 = 0 then (some ((0 : Int32), s20)) else (bi (f_X3_allChainsHold s20) fun r25 s24 => if r25 = 0 then (some ((0 : Int32), s24)) else (some ((1 : Int32), s24)))))))

def f_X9_subjectOf (a0 : Int64) (σ : St) : Option (Int64 × St) :=
  bi (f_X9_isBind a0 σ) fun r3 s2 => if r3 = 0 then (some ((a0 &&& (68719476735 : Int64)), s2)) else (some ((a0 &&& (16777215 : Int64)), s2))

def f_X9_extraOf (a0 : Int64) (σ : St) : Option (Int64 × St) :=
  bi (f_X9_isBind a0 σ) fun r3 s2 => if r3 = 0 then (some (((zlushr a0 (36 : Int32)) &&& (255 : Int64)), s2)) else (some (((zlushr a0 (24 : Int32)) &&& (255 : Int64)), s2))

def f_X3_valueOf_67 (x4 : Int64) (x6 : Int64) (t0 : Int32) (σ : St) : Option (Int64 × St) :=
  if t0 = 0 then (some (((0 : Int32).toInt64 + x6), σ)) else (gd (ib x4.toInt32 64) (some (((σ.1 52 x4.toInt32.toNatClampNeg).toInt64 + x6), σ)))

def f_X3_valueOf_66 (x4 : Int64) (x6 : Int64) (σ : St) : Option (Int64 × St) :=
  f_X3_valueOf_67 x4 x6 (0 : Int32) σ

def f_X3_valueOf (a1 : Int64) (a2 : Int32) (σ : St) : Option (Int64 × St) :=
  bi (f_X9_subjectOf a1 σ) fun r3 s2 => bi (f_X9_extraOf a1 s2) fun r6 s5 => bi (f_X9_isBind a1 s5) fun r9 s8 => if r9 = 0 then (zn (72057594037927935 : Int64) fun v16 => some ((((r3 + a2.toInt64) &&& v16) ||| (zlshl r6 (56 : Int32))), s8)) else (if (s8.1 46 9).toInt64 ≤ r3 then (f_X3_valueOf_66 r3 r6 s8) else (gd (ib r3.toInt32 64) (if (s8.1 52 r3.toInt32.toNatClampNeg) = (-1 : Int32) then (f_X3_valueOf_66 r3 r6 s8) else (f_X3_valueOf_67 r3 r6 (1 : Int32) s8))))

def f_X6_clear (k0 n0 : Nat) (σ : St) : Option (St) :=
  zn (sI σ k0 1 (0 : Int32)) fun s1 => some s1

def f_X6_addFrom (k0 n0 : Nat) (k1 n1 : Nat) (a2 : Int32) (a3 : Int32) (σ : St) : Option (St) :=
  if a2 < 0 then (some σ) else (if a3 < 0 then (some σ) else (if ((Int32.ofNat n1) - a2) < a3 then (some σ) else (if ((Int32.ofNat n0) - (σ.1 k0 1)) < a3 then (some σ) else (gd (cpOk σ k1 n1 n0 a2 (σ.1 k0 1) a3) (zn (sR σ (k0 + 1) (va_cpy (σ.1 k1) (σ.1 (k0 + 1)) a2.toNatClampNeg (σ.1 k0 1).toNatClampNeg a3.toNatClampNeg)) fun s6 => zn (sI s6 k0 1 (((s6.1 k0 1) + a3))) fun s7 => some s7)))))

def f_J7_rangeCheck_23922 (a0 : Int32) (a1 : Int32) (a2 : Int32) (σ : St) : Option (St) :=
  if a1 ≤ a2 then (if 0 ≤ a1 then (if a2 ≤ a0 then (some σ) else (none)) else (none)) else (none)

def f_J7_fill_eb02e_10b (k0 n0 : Nat) (K10 : (Int32 × Int32 × Int32 × St) → Option (St)) (x2 : Int32) (x3 : Int32) (x4 : Int32) (σ : St) : Option (St) :=
  if x2 ≤ x4 then (some σ) else (gd (ib x4 n0) (zn (sI σ k0 x4.toNatClampNeg (vp_nar .byte x3)) fun s5 => zn (x4 + 1) fun v6 => K10 (x2, x3, v6, s5)))

def f_J7_fill_eb02e_10 (k0 n0 : Nat) (x2 : Int32) (x3 : Int32) (x4 : Int32) (σ : St) : Option (St) :=
  it (fun K a => f_J7_fill_eb02e_10b k0 n0 K a.1 a.2.1 a.2.2.1 a.2.2.2) FU (x2, x3, x4, σ)

def f_J7_fill_eb02e (k0 n0 : Nat) (a1 : Int32) (a2 : Int32) (a3 : Int32) (σ : St) : Option (St) :=
  bv (f_J7_rangeCheck_23922 (Int32.ofNat n0) a1 a2 σ) fun s2 => f_J7_fill_eb02e_10 k0 n0 a2 a3 a1 s2

def f_X6_addZeros (k0 n0 : Nat) (a1 : Int32) (σ : St) : Option (St) :=
  if a1 < 0 then (some σ) else (if ((Int32.ofNat n0) - (σ.1 k0 1)) < a1 then (some σ) else (bv (f_J7_fill_eb02e (k0 + 1) n0 (σ.1 k0 1) (((σ.1 k0 1) + a1)) (0 : Int32) σ) fun s4 => zn (sI s4 k0 1 (((s4.1 k0 1) + a1))) fun s5 => some s5))

def f_X4_takeSegments_17b (k1 n1 : Nat) (k2 : Nat) (K17 : (Int32 × Int32 × St) → Option (St)) (x3 : Int32) (x4 : Int32) (σ : St) : Option (St) :=
  if (σ.1 k2 4) ≤ x4 then (some σ) else (gd (ib x4 4) (gd (ib x4 4) (gd (ib x4 4) (bv (f_X7_add 54 (((σ.1 (k2 + 1) x4.toNatClampNeg) + x3)) ((σ.1 (k2 + 2) x4.toNatClampNeg)) (σ.1 59 1) ((σ.1 (k2 + 4) x4.toNatClampNeg)) σ) fun s11 => gd (ib x4 4) (gd (ib x4 4) (bv (f_X6_addFrom 59 16384 (k1 + 1) n1 ((s11.1 (k2 + 3) x4.toNatClampNeg)) ((s11.1 (k2 + 4) x4.toNatClampNeg)) s11) fun s15 => gd (ib x4 4) (gd (ib x4 4) (bv (f_X6_addZeros 59 16384 (((s15.1 (k2 + 2) x4.toNatClampNeg) - (s15.1 (k2 + 4) x4.toNatClampNeg))) s15) fun s19 => zn (x4 + 1) fun v20 => K17 (x3, v20, s19)))))))))

def f_X4_takeSegments_17 (k1 n1 : Nat) (k2 : Nat) (x3 : Int32) (x4 : Int32) (σ : St) : Option (St) :=
  it (fun K a => f_X4_takeSegments_17b k1 n1 k2 K a.1 a.2.1 a.2.2) FU (x3, x4, σ)

def f_X4_takeSegments (k1 n1 : Nat) (k2 : Nat) (a3 : Int32) (σ : St) : Option (St) :=
  bv (f_X7_clear 54 σ) fun s2 => bv (f_X6_clear 59 16384 s2) fun s4 => zn (0 : Int32) fun v5 => f_X4_takeSegments_17 k1 n1 k2 a3 v5 s4

def f_X4_take_47b (k1 n1 : Nat) (K47 : (Int32 × Int32 × St) → Option (St)) (x3 : Int32) (x4 : Int32) (σ : St) : Option (St) :=
  if (σ.1 53 6) ≤ x4 then (some σ) else (zn (((σ.1 40 6) + ((16 : Int32) * x4))) fun v10 => bi (f_X6_number k1 n1 v10 (4 : Int32) σ) fun r13 s12 => gd (ib x4 64) (zn (sI s12 66 x4.toNatClampNeg r13.toInt32) fun s15 => bi (f_X6_number k1 n1 ((v10 + (8 : Int32))) (4 : Int32) s15) fun r18 s17 => gd (ib x4 64) (zn (sI s17 67 x4.toNatClampNeg (r18.toInt32 + x3)) fun s20 => zn (x4 + 1) fun v21 => K47 (x3, v21, s20))))

def f_X4_take_47 (k1 n1 : Nat) (x3 : Int32) (x4 : Int32) (σ : St) : Option (St) :=
  it (fun K a => f_X4_take_47b k1 n1 K a.1 a.2.1 a.2.2) FU (x3, x4, σ)

def f_X4_take (k1 n1 : Nat) (a3 : Int32) (σ : St) : Option (St) :=
  bv (f_X4_takeSegments k1 n1 41 a3 σ) fun s2 => bv (f_X6_clear 64 6400 s2) fun s4 => bv (f_X6_addFrom 64 6400 (k1 + 1) n1 (s4.1 40 7) (s4.1 40 8) s4) fun s6 => zn (sI s6 53 6 (s6.1 40 5)) fun s7 => zn (0 : Int32) fun v8 => f_X4_take_47 k1 n1 a3 v8 s7

def f_X7_placeOf_56 (k0 : Nat) (K2 : (Int32 × Int32 × Int32 × St) → Option (Int32 × St)) (x1 : Int32) (x2 : Int32) (x3 : Int32) (σ : St) : Option (Int32 × St) :=
  zn (x3 + 1) fun v6 => K2 (x1, x2, v6, σ)

def f_X7_placeOf_2b (k0 : Nat) (K2 : (Int32 × Int32 × Int32 × St) → Option (Int32 × St)) (x1 : Int32) (x2 : Int32) (x3 : Int32) (σ : St) : Option (Int32 × St) :=
  if (σ.1 k0 4) ≤ x3 then (some ((-1 : Int32), σ)) else (gd (ib x3 4) (zn ((x1.toInt64 - ((σ.1 (k0 + 1) x3.toNatClampNeg)).toInt64)) fun v4 => if v4 < (0 : Int64) then (f_X7_placeOf_56 k0 K2 x1 x2 x3 σ) else (gd (ib x3 4) (if ((σ.1 (k0 + 2) x3.toNatClampNeg)).toInt64 < (v4 + x2.toInt64) then (f_X7_placeOf_56 k0 K2 x1 x2 x3 σ) else (gd (ib x3 4) (some (((σ.1 (k0 + 3) x3.toNatClampNeg) + v4.toInt32), σ)))))))

def f_X7_placeOf_2 (k0 : Nat) (x1 : Int32) (x2 : Int32) (x3 : Int32) (σ : St) : Option (Int32 × St) :=
  it (fun K a => f_X7_placeOf_2b k0 K a.1 a.2.1 a.2.2.1 a.2.2.2) FU (x1, x2, x3, σ)

def f_X7_placeOf (k0 : Nat) (a1 : Int32) (a2 : Int32) (σ : St) : Option (Int32 × St) :=
  zn (0 : Int32) fun v1 => f_X7_placeOf_2 k0 a1 a2 v1 σ

def f_X6_has (k0 n0 : Nat) (a1 : Int32) (σ : St) : Option (Int32 × St) :=
  if a1 < 0 then (some ((0 : Int32), σ)) else (if (σ.1 k0 1) ≤ a1 then (some ((0 : Int32), σ)) else (some ((1 : Int32), σ)))

def f_X6_put_38 (k0 n0 : Nat) (K3 : (Int32 × Int32 × Int64 × Int32 × St) → Option (St)) (x1 : Int32) (x2 : Int32) (x3 : Int64) (x5 : Int32) (σ : St) : Option (St) :=
  zn (x5 + 1) fun v7 => K3 (x1, x2, x3, v7, σ)

def f_X6_put_3b (k0 n0 : Nat) (K3 : (Int32 × Int32 × Int64 × Int32 × St) → Option (St)) (x1 : Int32) (x2 : Int32) (x3 : Int64) (x5 : Int32) (σ : St) : Option (St) :=
  if x2 ≤ x5 then (some σ) else (bi (f_X6_has k0 n0 (x1 + x5) σ) fun r5 s4 => if r5 = 0 then (f_X6_put_38 k0 n0 K3 x1 x2 x3 x5 s4) else (gd (ib (x1 + x5) n0) (zn (sI s4 (k0 + 1) (x1 + x5).toNatClampNeg (vp_nar .byte ((((zlushr x3 (((8 : Int32) * x5)))).toInt32).toInt8.toInt32))) fun s9 => f_X6_put_38 k0 n0 K3 x1 x2 x3 x5 s9)))

def f_X6_put_3 (k0 n0 : Nat) (x1 : Int32) (x2 : Int32) (x3 : Int64) (x5 : Int32) (σ : St) : Option (St) :=
  it (fun K a => f_X6_put_3b k0 n0 K a.1 a.2.1 a.2.2.1 a.2.2.2.1 a.2.2.2.2) FU (x1, x2, x3, x5, σ)

def f_X6_put (k0 n0 : Nat) (a1 : Int32) (a2 : Int32) (a3 : Int64) (σ : St) : Option (St) :=
  zn (0 : Int32) fun v1 => f_X6_put_3 k0 n0 a1 a2 a3 v1 σ

def f_X4_setPointers_92 (K9 : (Int32 × Int32 × St) → Option (St)) (x2 : Int32) (x3 : Int32) (σ : St) : Option (St) :=
  zn (x3 + 1) fun v15 => K9 (x2, v15, σ)

def f_X4_setPointers_9b (K9 : (Int32 × Int32 × St) → Option (St)) (x2 : Int32) (x3 : Int32) (σ : St) : Option (St) :=
  if (σ.1 47 2) ≤ x3 then (some σ) else (gd (ib x3 2048) (zn (((σ.1 48 x3.toNatClampNeg) + x2)) fun v6 => gd (ib x3 2048) (zn (σ.2 49 x3.toNatClampNeg) fun v8 => bv (f_X9_add 61 v6 v8 σ) fun s10 => bi (f_X7_placeOf 54 v6 (8 : Int32) s10) fun r13 s12 => if r13 = (-1 : Int32) then (f_X4_setPointers_92 K9 x2 x3 s12) else (bi (f_X3_valueOf v8 x2 s12) fun r18 s17 => bv (f_X6_put 59 16384 r13 (8 : Int32) r18 s17) fun s20 => f_X4_setPointers_92 K9 x2 x3 s20))))

def f_X4_setPointers_9 (x2 : Int32) (x3 : Int32) (σ : St) : Option (St) :=
  it (fun K a => f_X4_setPointers_9b K a.1 a.2.1 a.2.2) FU (x2, x3, σ)

def f_X4_setPointers (a2 : Int32) (σ : St) : Option (St) :=
  bv (f_X9_clear 61 σ) fun s2 => zn (0 : Int32) fun v3 => f_X4_setPointers_9 a2 v3 s2

def f_X4_symbolAddress_2b (k1 n1 : Nat) (K2 : (Int32 × St) → Option (Int32 × St)) (x2 : Int32) (σ : St) : Option (Int32 × St) :=
  if (σ.1 53 6) ≤ x2 then (some ((-1 : Int32), σ)) else (gd (ib x2 64) (bi (f_X6_reads 64 6400 (k1 + 1) n1 (σ.1 66 x2.toNatClampNeg) (0 : Int32) (σ.1 k1 1) σ) fun r6 s5 => if r6 = 0 then (zn (x2 + 1) fun v8 => K2 (v8, s5)) else (gd (ib x2 64) (some ((s5.1 67 x2.toNatClampNeg), s5)))))

def f_X4_symbolAddress_2 (k1 n1 : Nat) (x2 : Int32) (σ : St) : Option (Int32 × St) :=
  it (fun K a => f_X4_symbolAddress_2b k1 n1 K a.1 a.2) FU (x2, σ)

def f_X4_symbolAddress (k1 n1 : Nat) (σ : St) : Option (Int32 × St) :=
  zn (0 : Int32) fun v1 => f_X4_symbolAddress_2 k1 n1 v1 σ

def f_X5_clear (k0 b0 n0 : Nat) (σ : St) : Option (St) :=
  zn (sI σ k0 2 (0 : Int32)) fun s1 => some s1

def f_X5_has (k0 b0 n0 : Nat) (a1 : Int32) (σ : St) : Option (Int32 × St) :=
  if a1 < 0 then (some ((0 : Int32), σ)) else (if (σ.1 k0 2) ≤ a1 then (some ((0 : Int32), σ)) else (some ((1 : Int32), σ)))

def f_X5_takes (k0 b0 n0 : Nat) (k1 n1 : Nat) (σ : St) : Option (Int32 × St) :=
  if (Int32.ofNat n0) ≤ (σ.1 k0 2) then (some ((0 : Int32), σ)) else (bi (f_X6_isName k1 n1 σ) fun r4 s3 => if r4 = 0 then (some ((0 : Int32), s3)) else (some ((1 : Int32), s3)))

def f_X5_bytesWithZeros_4b (k0 b0 n0 : Nat) (K4 : (Int32 × Int32 × St) → Option (Int32 × St)) (x1 : Int32) (x2 : Int32) (σ : St) : Option (Int32 × St) :=
  if (σ.1 k0 2) ≤ x2 then (some (x1, σ)) else (gd (ib x2 n0) (zn ((x1 + ((σ.1 (k0 + 2) x2.toNatClampNeg) + (1 : Int32)))) fun v5 => zn (x2 + 1) fun v6 => K4 (v5, v6, σ)))

def f_X5_bytesWithZeros_4 (k0 b0 n0 : Nat) (x1 : Int32) (x2 : Int32) (σ : St) : Option (Int32 × St) :=
  it (fun K a => f_X5_bytesWithZeros_4b k0 b0 n0 K a.1 a.2.1 a.2.2) FU (x1, x2, σ)

def f_X5_bytesWithZeros (k0 b0 n0 : Nat) (σ : St) : Option (Int32 × St) :=
  zn (0 : Int32) fun v1 => zn (0 : Int32) fun v2 => f_X5_bytesWithZeros_4 k0 b0 n0 v1 v2 σ

def f_X5_addFilledTo (k0 b0 n0 : Nat) (k1 n1 : Nat) (a2 : Int32) (σ : St) : Option (St) :=
  bv (f_X6_addFrom k1 n1 (k0 + 1) b0 ((a2 * (16 : Int32))) (16 : Int32) σ) fun s2 => some s2

def f_X5_addAllTo_2b (k0 b0 n0 : Nat) (k1 n1 : Nat) (K2 : (Int32 × St) → Option (St)) (x2 : Int32) (σ : St) : Option (St) :=
  if (σ.1 k0 2) ≤ x2 then (some σ) else (gd (ib x2 n0) (bv (f_X6_addFrom k1 n1 (k0 + 1) b0 ((x2 * (16 : Int32))) ((σ.1 (k0 + 2) x2.toNatClampNeg)) σ) fun s5 => bv (f_X6_addZeros k1 n1 (1 : Int32) s5) fun s7 => zn (x2 + 1) fun v8 => K2 (v8, s7)))

def f_X5_addAllTo_2 (k0 b0 n0 : Nat) (k1 n1 : Nat) (x2 : Int32) (σ : St) : Option (St) :=
  it (fun K a => f_X5_addAllTo_2b k0 b0 n0 k1 n1 K a.1 a.2) FU (x2, σ)

def f_X5_addAllTo (k0 b0 n0 : Nat) (k1 n1 : Nat) (σ : St) : Option (St) :=
  zn (0 : Int32) fun v1 => f_X5_addAllTo_2 k0 b0 n0 k1 n1 v1 σ

def f_X6_shorten (k0 n0 : Nat) (a1 : Int32) (σ : St) : Option (Int32 × St) :=
  if a1 < 0 then (some ((0 : Int32), σ)) else (if a1 ≤ (σ.1 k0 1) then (zn (sI σ k0 1 a1) fun s3 => some ((1 : Int32), s3)) else (some ((0 : Int32), σ)))

def f_X6_add (k0 n0 : Nat) (a1 : Int32) (a2 : Int64) (σ : St) : Option (St) :=
  if a1 < 0 then (some σ) else (if ((Int32.ofNat n0) - (σ.1 k0 1)) < a1 then (some σ) else (zn (sI σ k0 1 (((σ.1 k0 1) + a1))) fun s3 => bv (f_X6_put k0 n0 (((s3.1 k0 1) - a1)) a1 a2 s3) fun s5 => some s5))

def f_X11_filledUp (a0 : Int32) (a1 : Int32) (σ : St) : Option (Int32 × St) :=
  some ((((a0 + a1) - (1 : Int32)) &&& (-a1)), σ)

def f_X6_fillUp (k0 n0 : Nat) (a1 : Int32) (σ : St) : Option (St) :=
  bi (f_X11_filledUp (σ.1 k0 1) a1 σ) fun r3 s2 => bv (f_X6_addZeros k0 n0 ((r3 - (s2.1 k0 1))) s2) fun s5 => some s5

def f_X7_fitWith_56 (k0 : Nat) (K2 : (Int32 × Int32 × St) → Option (Int32 × St)) (x1 : Int32) (x2 : Int32) (σ : St) : Option (Int32 × St) :=
  zn (x2 + 1) fun v7 => K2 (x1, v7, σ)

def f_X7_fitWith_2b (k0 : Nat) (K2 : (Int32 × Int32 × St) → Option (Int32 × St)) (x1 : Int32) (x2 : Int32) (σ : St) : Option (Int32 × St) :=
  if (σ.1 k0 4) ≤ x2 then (some ((1 : Int32), σ)) else (gd (ib x2 4) (zn ((((σ.1 (k0 + 1) x2.toNatClampNeg)).toInt64 + x1.toInt64)) fun v4 => gd (ib x2 4) (if (σ.1 (k0 + 2) x2.toNatClampNeg) ≤ 0 then (f_X7_fitWith_56 k0 K2 x1 x2 σ) else (if v4 < (0 : Int64) then (some ((0 : Int32), σ)) else (gd (ib x2 4) (if ((v4 + ((σ.1 (k0 + 2) x2.toNatClampNeg)).toInt64) - (1 : Int64)) ≤ (2147483647 : Int64) then (f_X7_fitWith_56 k0 K2 x1 x2 σ) else (some ((0 : Int32), σ))))))))

def f_X7_fitWith_2 (k0 : Nat) (x1 : Int32) (x2 : Int32) (σ : St) : Option (Int32 × St) :=
  it (fun K a => f_X7_fitWith_2b k0 K a.1 a.2.1 a.2.2) FU (x1, x2, σ)

def f_X7_fitWith (k0 : Nat) (a1 : Int32) (σ : St) : Option (Int32 × St) :=
  zn (0 : Int32) fun v1 => f_X7_fitWith_2 k0 a1 v1 σ

def f_X8_forget_40b (K40 : (Int32 × St) → Option (St)) (x3 : Int32) (σ : St) : Option (St) :=
  if (Int32.ofNat 1024) ≤ x3 then (zn (sI σ 5 18 (0 : Int32)) fun s13 => some s13) else (gd (ib x3 1024) (zn (sI σ 28 x3.toNatClampNeg (vp_nar .boolean (0 : Int32))) fun s15 => zn (x3 + 1) fun v16 => K40 (v16, s15)))

def f_X8_forget_40 (x3 : Int32) (σ : St) : Option (St) :=
  it (fun K a => f_X8_forget_40b K a.1 a.2) FU (x3, σ)

def f_X8_forget (a1 : Int32) (a2 : Int32) (σ : St) : Option (St) :=
  zn (sI σ 5 0 a1) fun s1 => zn (sI s1 5 1 a2) fun s2 => bv (f_X5_clear 6 64 4 s2) fun s4 => bv (f_X5_clear 12 128 8 s4) fun s6 => bv (f_X5_clear 18 320 20 s6) fun s8 => bv (f_X5_clear 23 320 20 s8) fun s10 => zn (0 : Int32) fun v11 => f_X8_forget_40 v11 s10

def f_X8_addSegment (k1 n1 : Nat) (a2 : Int32) (a3 : Int32) (σ : St) : Option (Int32 × St) :=
  bi (f_X5_takes 6 64 4 k1 n1 σ) fun r3 s2 => if r3 = 0 then (some ((-1 : Int32), s2)) else (if a2 < (1 : Int32) then (some ((-1 : Int32), s2)) else (if (1024 : Int32) < a2 then (some ((-1 : Int32), s2)) else (if a3 < 0 then (some ((-1 : Int32), s2)) else (if a3 ≤ (7 : Int32) then (bi (f_X5_add 6 64 4 k1 n1 s2) fun r11 s10 => gd (ib r11 4) (zn (sI s10 9 r11.toNatClampNeg a2) fun s13 => gd (ib r11 4) (zn (sI s13 10 r11.toNatClampNeg a3) fun s15 => bv (f_J7_fill_eb02e 11 4096 ((r11 * (1024 : Int32))) (((r11 + (1 : Int32)) * (1024 : Int32))) (0 : Int32) s15) fun s17 => some (r11, s17)))) else (some ((-1 : Int32), s2))))))

def f_X8_setContents (k1 n1 : Nat) (a2 : Int32) (a3 : Int32) (σ : St) : Option (Int32 × St) :=
  bi (f_X5_has 6 64 4 a2 σ) fun r3 s2 => if r3 = 0 then (some ((0 : Int32), s2)) else (if a3 < 0 then (some ((0 : Int32), s2)) else (gd (ib a2 4) (if a3 ≤ ((s2.1 9 a2.toNatClampNeg) - (s2.1 k1 1)) then (gd (cpOk s2 (k1 + 1) n1 4096 (0 : Int32) (((a2 * (1024 : Int32)) + a3)) (s2.1 k1 1)) (zn (sR s2 11 (va_cpy (s2.1 (k1 + 1)) (s2.1 11) (0 : Int32).toNatClampNeg (((a2 * (1024 : Int32)) + a3)).toNatClampNeg (s2.1 k1 1).toNatClampNeg)) fun s9 => some ((1 : Int32), s9))) else (some ((0 : Int32), s2)))))

def f_X8_addSection (k1 n1 : Nat) (a2 : Int32) (a3 : Int32) (a4 : Int32) (σ : St) : Option (Int32 × St) :=
  bi (f_X5_takes 12 128 8 k1 n1 σ) fun r3 s2 => if r3 = 0 then (some ((-1 : Int32), s2)) else (bi (f_X5_has 6 64 4 a2 s2) fun r7 s6 => if r7 = 0 then (some ((-1 : Int32), s6)) else (if a3 < 0 then (some ((-1 : Int32), s6)) else (if a4 < 0 then (some ((-1 : Int32), s6)) else (gd (ib a2 4) (if (a3.toInt64 + a4.toInt64) ≤ (s6.1 9 a2.toNatClampNeg).toInt64 then (bi (f_X5_add 12 128 8 k1 n1 s6) fun r15 s14 => gd (ib r15 8) (zn (sI s14 15 r15.toNatClampNeg a2) fun s17 => gd (ib r15 8) (zn (sI s17 16 r15.toNatClampNeg a3) fun s19 => gd (ib r15 8) (zn (sI s19 17 r15.toNatClampNeg a4) fun s21 => some ((r15 + (1 : Int32)), s21))))) else (some ((-1 : Int32), s6)))))))

def f_X8_addSymbol (k1 n1 : Nat) (a2 : Int32) (a3 : Int32) (σ : St) : Option (Int32 × St) :=
  bi (f_X5_takes 18 320 20 k1 n1 σ) fun r3 s2 => if r3 = 0 then (some ((-1 : Int32), s2)) else (if a2 < (1 : Int32) then (some ((-1 : Int32), s2)) else (bi (f_X5_has 12 128 8 ((a2 - (1 : Int32))) s2) fun r8 s7 => if r8 = 0 then (some ((-1 : Int32), s7)) else (if a3 < 0 then (some ((-1 : Int32), s7)) else (gd (ib ((a2 - (1 : Int32))) 8) (if a3 ≤ (s7.1 17 ((a2 - (1 : Int32))).toNatClampNeg) then (bi (f_X5_add 18 320 20 k1 n1 s7) fun r15 s14 => gd (ib r15 20) (zn (sI s14 21 r15.toNatClampNeg a2) fun s17 => gd (ib r15 20) (zn (sI s17 22 r15.toNatClampNeg a3) fun s19 => some (r15, s19)))) else (some ((-1 : Int32), s7)))))))

def f_X8_addImport (k1 n1 : Nat) (a2 : Int32) (a3 : Int32) (σ : St) : Option (Int32 × St) :=
  bi (f_X5_takes 23 320 20 k1 n1 σ) fun r3 s2 => if r3 = 0 then (some ((-1 : Int32), s2)) else (bi (f_X11_isLibrary a2 s2) fun r7 s6 => if r7 = 0 then (some ((-1 : Int32), s6)) else (bi (f_X5_add 23 320 20 k1 n1 s6) fun r11 s10 => gd (ib r11 20) (zn (sI s10 26 r11.toNatClampNeg a2) fun s13 => gd (ib r11 20) (zn (sI s13 27 r11.toNatClampNeg (vp_nar .boolean a3)) fun s15 => some (r11, s15)))))

def f_X8_hasRoom (a1 : Int32) (a2 : Int32) (σ : St) : Option (Int32 × St) :=
  bi (f_X5_has 6 64 4 a1 σ) fun r3 s2 => if r3 = 0 then (some ((0 : Int32), s2)) else (if a2 < 0 then (some ((0 : Int32), s2)) else (if (a2 - a2 / (4 : Int32) * (4 : Int32)) = 0 then (gd (ib a1 4) (if ((s2.1 9 a1.toNatClampNeg) - (8 : Int32)) < a2 then (some ((0 : Int32), s2)) else (if (s2.1 5 1) < ((a2 &&& ((s2.1 5 1) - (1 : Int32))) + (8 : Int32)) then (some ((0 : Int32), s2)) else (some ((1 : Int32), s2))))) else (some ((0 : Int32), s2))))

def f_X8_slot (a0 : Int32) (a1 : Int32) (σ : St) : Option (Int32 × St) :=
  some ((((a0 * (1024 : Int32)) + a1) / (4 : Int32)), σ)

def f_X8_hasPointer (a1 : Int32) (a2 : Int32) (σ : St) : Option (Int32 × St) :=
  bi (f_X5_has 6 64 4 a1 σ) fun r3 s2 => if r3 = 0 then (some ((0 : Int32), s2)) else (if a2 < 0 then (some ((0 : Int32), s2)) else (if (1024 : Int32) ≤ a2 then (some ((0 : Int32), s2)) else (if (a2 - a2 / (4 : Int32) * (4 : Int32)) = 0 then (bi (f_X8_slot a1 a2 s2) fun r10 s9 => gd (ib r10 1024) (if (s9.1 28 r10.toNatClampNeg) = 0 then (some ((0 : Int32), s9)) else (some ((1 : Int32), s9)))) else (some ((0 : Int32), s2)))))

def f_X8_setPointer_63 (x1 : Int32) (x2 : Int32) (x3 : Int64) (σ : St) : Option (Int32 × St) :=
  bi (f_X8_slot x1 x2 σ) fun r19 s18 => gd (ib r19 1024) (zn (sI s18 28 r19.toNatClampNeg (vp_nar .boolean (1 : Int32))) fun s21 => bi (f_X8_slot x1 x2 s21) fun r24 s23 => gd (ib r24 1024) (zn (sJ s23 29 r24.toNatClampNeg x3) fun s26 => some ((1 : Int32), s26)))

def f_X8_setPointer (a1 : Int32) (a2 : Int32) (a3 : Int64) (σ : St) : Option (Int32 × St) :=
  bi (f_X8_hasRoom a1 a2 σ) fun r3 s2 => if r3 = 0 then (some ((0 : Int32), s2)) else (bi (f_X8_hasPointer a1 ((a2 - (4 : Int32))) s2) fun r7 s6 => if r7 = 0 then (bi (f_X8_hasPointer a1 ((a2 + (4 : Int32))) s6) fun r11 s10 => if r11 = 0 then (bi (f_X8_hasPointer a1 a2 s10) fun r15 s14 => if r15 = 0 then (if (s14.1 5 18) < (100 : Int32) then (zn (sI s14 5 18 (((s14.1 5 18) + (1 : Int32)))) fun s28 => f_X8_setPointer_63 a1 a2 a3 s28) else (some ((0 : Int32), s14))) else (f_X8_setPointer_63 a1 a2 a3 s14)) else (some ((0 : Int32), s10))) else (some ((0 : Int32), s6)))

def f_X8_removePointer (a1 : Int32) (a2 : Int32) (σ : St) : Option (Int32 × St) :=
  bi (f_X8_hasPointer a1 a2 σ) fun r3 s2 => if r3 = 0 then (some ((0 : Int32), s2)) else (bi (f_X8_slot a1 a2 s2) fun r7 s6 => gd (ib r7 1024) (zn (sI s6 28 r7.toNatClampNeg (vp_nar .boolean (0 : Int32))) fun s9 => zn (sI s9 5 18 (((s9.1 5 18) - (1 : Int32)))) fun s10 => some ((1 : Int32), s10)))

def f_X8_bitsAt (a1 : Int32) (a2 : Int32) (σ : St) : Option (Int64 × St) :=
  bi (f_X8_hasPointer a1 a2 σ) fun r3 s2 => if r3 = 0 then (some ((0 : Int64), s2)) else (bi (f_X8_slot a1 a2 s2) fun r7 s6 => gd (ib r7 1024) (some ((s6.2 29 r7.toNatClampNeg), s6)))

def f_X8_firstPointer_14b (K14 : (Int32 × Int32 × Int32 × St) → Option (Int32 × St)) (x1 : Int32) (x4 : Int32) (x5 : Int32) (σ : St) : Option (Int32 × St) :=
  if x4 < x5 then (some ((-1 : Int32), σ)) else (bi (f_X8_hasPointer x1 x5 σ) fun r5 s4 => if r5 = 0 then (zn (x5 + 4) fun v7 => K14 (x1, x4, v7, s4)) else (some (x5, s4)))

def f_X8_firstPointer_14 (x1 : Int32) (x4 : Int32) (x5 : Int32) (σ : St) : Option (Int32 × St) :=
  it (fun K a => f_X8_firstPointer_14b K a.1 a.2.1 a.2.2.1 a.2.2.2) FU (x1, x4, x5, σ)

def f_X8_firstPointer (a1 : Int32) (a2 : Int32) (a3 : Int32) (σ : St) : Option (Int32 × St) :=
  zn (((if (1024 : Int32) < a3 then (1024 : Int32) else a3) - (4 : Int32))) fun v1 => f_X8_firstPointer_14 a1 v1 a2 σ

def f_X8_spanOf (a1 : Int32) (σ : St) : Option (Int32 × St) :=
  bi (f_X5_has 6 64 4 a1 σ) fun r3 s2 => if r3 = 0 then (some ((0 : Int32), s2)) else (gd (ib a1 4) (bi (f_X11_filledUp (s2.1 9 a1.toNatClampNeg) (s2.1 5 1) s2) fun r8 s7 => some (r8, s7)))

def f_X8_addressOf_7b (K7 : (Int32 × Int32 × Int32 × St) → Option (Int32 × St)) (x1 : Int32) (x2 : Int32) (x3 : Int32) (σ : St) : Option (Int32 × St) :=
  if x1 ≤ x3 then (some (x2, σ)) else (bi (f_X8_spanOf x3 σ) fun r6 s5 => zn (x2 + r6) fun v7 => zn (x3 + 1) fun v8 => K7 (x1, v7, v8, s5))

def f_X8_addressOf_7 (x1 : Int32) (x2 : Int32) (x3 : Int32) (σ : St) : Option (Int32 × St) :=
  it (fun K a => f_X8_addressOf_7b K a.1 a.2.1 a.2.2.1 a.2.2.2) FU (x1, x2, x3, σ)

def f_X8_addressOf (a1 : Int32) (σ : St) : Option (Int32 × St) :=
  zn (σ.1 5 0) fun v1 => zn (0 : Int32) fun v2 => f_X8_addressOf_7 a1 v1 v2 σ

def f_X8_sectionsOf_28 (K4 : (Int32 × Int32 × Int32 × St) → Option (Int32 × St)) (x1 : Int32) (x2 : Int32) (x3 : Int32) (σ : St) : Option (Int32 × St) :=
  zn (x3 + 1) fun v6 => K4 (x1, x2, v6, σ)

def f_X8_sectionsOf_4b (K4 : (Int32 × Int32 × Int32 × St) → Option (Int32 × St)) (x1 : Int32) (x2 : Int32) (x3 : Int32) (σ : St) : Option (Int32 × St) :=
  if (σ.1 12 2) ≤ x3 then (some (x2, σ)) else (gd (ib x3 8) (if (σ.1 15 x3.toNatClampNeg) = x1 then (zn (x2 + 1) fun v7 => f_X8_sectionsOf_28 K4 x1 v7 x3 σ) else (f_X8_sectionsOf_28 K4 x1 x2 x3 σ)))

def f_X8_sectionsOf_4 (x1 : Int32) (x2 : Int32) (x3 : Int32) (σ : St) : Option (Int32 × St) :=
  it (fun K a => f_X8_sectionsOf_4b K a.1 a.2.1 a.2.2.1 a.2.2.2) FU (x1, x2, x3, σ)

def f_X8_sectionsOf (a1 : Int32) (σ : St) : Option (Int32 × St) :=
  zn (0 : Int32) fun v1 => zn (0 : Int32) fun v2 => f_X8_sectionsOf_4 a1 v1 v2 σ

def f_X9_has (k0 : Nat) (a1 : Int32) (σ : St) : Option (Int32 × St) :=
  if a1 < 0 then (some ((0 : Int32), σ)) else (if (σ.1 k0 2) ≤ a1 then (some ((0 : Int32), σ)) else (some ((1 : Int32), σ)))

def f_X10_layOut_47b (K47 : (Int32 × Int32 × St) → Option (St)) (x1 : Int32) (x2 : Int32) (σ : St) : Option (St) :=
  if (σ.1 6 2) ≤ x2 then (bi (f_X11_filledUp x1 (8 : Int32) σ) fun r7 s6 => zn (sI s6 30 5 r7) fun s8 => some s8) else (bi (f_X11_filledUp x1 (8 : Int32) σ) fun r11 s10 => gd (ib x2 4) (zn (sI s10 31 x2.toNatClampNeg r11) fun s13 => gd (ib x2 4) (gd (ib x2 4) (zn (((s13.1 31 x2.toNatClampNeg) + (s13.1 9 x2.toNatClampNeg))) fun v16 => zn (x2 + 1) fun v17 => K47 (v16, v17, s13)))))

def f_X10_layOut_47 (x1 : Int32) (x2 : Int32) (σ : St) : Option (St) :=
  it (fun K a => f_X10_layOut_47b K a.1 a.2.1 a.2.2) FU (x1, x2, σ)

def f_X10_layOut (σ : St) : Option (St) :=
  zn (sI σ 30 4 ((((((72 : Int32) * (σ.1 6 2)) + ((80 : Int32) * (σ.1 12 2))) + (24 : Int32)) + (16 : Int32)))) fun s1 => zn (((32 : Int32) + (s1.1 30 4))) fun v2 => zn (0 : Int32) fun v3 => f_X10_layOut_47 v2 v3 s1

def f_X10_layOutFixups_97 (K18 : (Int32 × Int32 × St) → Option (St)) (x1 : Int32) (x2 : Int32) (σ : St) : Option (St) :=
  zn (x2 + 1) fun v19 => K18 (x1, v19, σ)

def f_X10_layOutFixups_18b (K18 : (Int32 × Int32 × St) → Option (St)) (x1 : Int32) (x2 : Int32) (σ : St) : Option (St) :=
  if (σ.1 6 2) ≤ x2 then (bi (f_X11_filledUp x1 (4 : Int32) σ) fun r6 s5 => zn (sI s5 30 7 r6) fun s7 => zn (sI s7 30 8 (((s7.1 30 7) + ((4 : Int32) * (s7.1 23 2))))) fun s8 => bi (f_X5_bytesWithZeros 23 320 20 s8) fun r11 s10 => zn (sI s10 30 6 (((s8.1 30 8) + r11))) fun s12 => some s12) else (gd (ib x2 4) (zn (sI σ 32 x2.toNatClampNeg (0 : Int32)) fun s14 => bi (f_X8_firstPointer x2 (0 : Int32) (1024 : Int32) s14) fun r17 s16 => if r17 = (-1 : Int32) then (f_X10_layOutFixups_97 K18 x1 x2 s16) else (bi (f_X11_filledUp x1 (4 : Int32) s16) fun r22 s21 => gd (ib x2 4) (zn (sI s21 32 x2.toNatClampNeg ((r22 - (28 : Int32)))) fun s24 => bi (f_X8_spanOf x2 s24) fun r27 s26 => bi (f_X11_pagesIn r27 (s26.1 5 1) s26) fun r30 s29 => zn ((r22 + ((22 : Int32) + ((2 : Int32) * r30)))) fun v31 => f_X10_layOutFixups_97 K18 v31 x2 s29))))

def f_X10_layOutFixups_18 (x1 : Int32) (x2 : Int32) (σ : St) : Option (St) :=
  it (fun K a => f_X10_layOutFixups_18b K a.1 a.2.1 a.2.2) FU (x1, x2, σ)

def f_X10_layOutFixups (σ : St) : Option (St) :=
  zn (((32 : Int32) + ((4 : Int32) * (σ.1 6 2)))) fun v1 => zn (0 : Int32) fun v2 => f_X10_layOutFixups_18 v1 v2 σ

def f_X10_addHead (σ : St) : Option (St) :=
  bv (f_X6_add 3 6400 (4 : Int32) (4277009103 : Int64) σ) fun s2 => bv (f_X6_add 3 6400 (4 : Int32) (16777228 : Int64) s2) fun s4 => bv (f_X6_add 3 6400 (4 : Int32) (0 : Int64) s4) fun s6 => bv (f_X6_add 3 6400 (4 : Int32) (6 : Int64) s6) fun s8 => bv (f_X6_add 3 6400 (4 : Int32) ((((s8.1 6 2) + (2 : Int32))).toInt64) s8) fun s10 => bv (f_X6_add 3 6400 (4 : Int32) ((s10.1 30 4).toInt64) s10) fun s12 => bv (f_X6_add 3 6400 (4 : Int32) (133 : Int64) s12) fun s14 => bv (f_X6_add 3 6400 (4 : Int32) (0 : Int64) s14) fun s16 => some s16

def f_X10_addTableCommands (σ : St) : Option (St) :=
  bv (f_X6_add 3 6400 (4 : Int32) (2 : Int64) σ) fun s2 => bv (f_X6_add 3 6400 (4 : Int32) (24 : Int64) s2) fun s4 => bv (f_X6_add 3 6400 (4 : Int32) ((s4.1 30 9).toInt64) s4) fun s6 => bv (f_X6_add 3 6400 (4 : Int32) ((s6.1 18 2).toInt64) s6) fun s8 => bv (f_X6_add 3 6400 (4 : Int32) ((s8.1 30 10).toInt64) s8) fun s10 => bi (f_X5_bytesWithZeros 18 320 20 s10) fun r13 s12 => bv (f_X6_add 3 6400 (4 : Int32) ((((1 : Int32) + r13)).toInt64) s12) fun s15 => bv (f_X6_add 3 6400 (4 : Int32) (2147483700 : Int64) s15) fun s17 => bv (f_X6_add 3 6400 (4 : Int32) (16 : Int64) s17) fun s19 => bv (f_X6_add 3 6400 (4 : Int32) ((s19.1 30 5).toInt64) s19) fun s21 => bv (f_X6_add 3 6400 (4 : Int32) ((s21.1 30 6).toInt64) s21) fun s23 => some s23

def f_X10_addImports_35 (K4 : (Int32 × Int32 × St) → Option (St)) (x1 : Int32) (x2 : Int32) (t0 : Int32) (σ : St) : Option (St) :=
  gd (ib x2 20) (bv (f_X6_add 3 6400 (4 : Int32) (((((σ.1 26 x2.toNatClampNeg) ||| (t0 <<< ((8 : Int32) &&& 31))) ||| (x1 <<< ((9 : Int32) &&& 31)))).toInt64) σ) fun s8 => gd (ib x2 20) (zn ((x1 + ((s8.1 25 x2.toNatClampNeg) + (1 : Int32)))) fun v10 => zn (x2 + 1) fun v11 => K4 (v10, v11, s8)))

def f_X10_addImports_4b (K4 : (Int32 × Int32 × St) → Option (St)) (x1 : Int32) (x2 : Int32) (σ : St) : Option (St) :=
  if (σ.1 23 2) ≤ x2 then (some σ) else (gd (ib x2 20) (if (σ.1 27 x2.toNatClampNeg) = 0 then (f_X10_addImports_35 K4 x1 x2 (0 : Int32) σ) else (f_X10_addImports_35 K4 x1 x2 (1 : Int32) σ)))

def f_X10_addImports_4 (x1 : Int32) (x2 : Int32) (σ : St) : Option (St) :=
  it (fun K a => f_X10_addImports_4b K a.1 a.2.1 a.2.2) FU (x1, x2, σ)

def f_X10_addImports (σ : St) : Option (St) :=
  zn (0 : Int32) fun v1 => zn (0 : Int32) fun v2 => f_X10_addImports_4 v1 v2 σ

def f_X10_addPages_177 (K116 : (Int32 × Int32 × Int32 × St) → Option (St)) (x1 : Int32) (x2 : Int32) (x3 : Int32) (t0 : Int64) (t1 : Int32) (σ : St) : Option (St) :=
  bv (f_X6_add 3 6400 t1 t0 σ) fun s32 => zn (x3 + 1) fun v33 => K116 (x1, x2, v33, s32)

def f_X10_addPages_116b (K116 : (Int32 × Int32 × Int32 × St) → Option (St)) (x1 : Int32) (x2 : Int32) (x3 : Int32) (σ : St) : Option (St) :=
  if x2 ≤ x3 then (some σ) else (zn ((x3 * (σ.1 5 1))) fun v26 => bi (f_X8_firstPointer x1 v26 ((v26 + (σ.1 5 1))) σ) fun r29 s28 => if r29 = (-1 : Int32) then (f_X10_addPages_177 K116 x1 x2 x3 (65535 : Int64) (2 : Int32) s28) else (f_X10_addPages_177 K116 x1 x2 x3 ((r29 - v26).toInt64) (2 : Int32) s28))

def f_X10_addPages_116 (x1 : Int32) (x2 : Int32) (x3 : Int32) (σ : St) : Option (St) :=
  it (fun K a => f_X10_addPages_116b K a.1 a.2.1 a.2.2.1 a.2.2.2) FU (x1, x2, x3, σ)

def f_X10_addPages (a1 : Int32) (σ : St) : Option (St) :=
  bi (f_X8_spanOf a1 σ) fun r3 s2 => bi (f_X11_pagesIn r3 (s2.1 5 1) s2) fun r6 s5 => bv (f_X6_fillUp 3 6400 (4 : Int32) s5) fun s8 => bv (f_X6_add 3 6400 (4 : Int32) ((((22 : Int32) + ((2 : Int32) * r6))).toInt64) s8) fun s10 => bv (f_X6_add 3 6400 (2 : Int32) ((s10.1 5 1).toInt64) s10) fun s12 => bv (f_X6_add 3 6400 (2 : Int32) (2 : Int64) s12) fun s14 => bi (f_X8_addressOf a1 s14) fun r17 s16 => bv (f_X6_add 3 6400 (8 : Int32) (((r17 - (s16.1 5 0))).toInt64) s16) fun s19 => bv (f_X6_add 3 6400 (4 : Int32) (0 : Int64) s19) fun s21 => bv (f_X6_add 3 6400 (2 : Int32) r6.toInt64 s21) fun s23 => zn (0 : Int32) fun v24 => f_X10_addPages_116 a1 r6 v24 s23

def f_X10_addFixups_178 (K150 : (Int32 × St) → Option (St)) (x1 : Int32) (σ : St) : Option (St) :=
  zn (x1 + 1) fun v31 => K150 (v31, σ)

def f_X10_addFixups_150b (K150 : (Int32 × St) → Option (St)) (x1 : Int32) (σ : St) : Option (St) :=
  if (σ.1 6 2) ≤ x1 then (bv (f_X6_fillUp 3 6400 (4 : Int32) σ) fun s24 => bv (f_X10_addImports s24) fun s26 => bv (f_X5_addAllTo 23 320 20 3 6400 s26) fun s28 => some s28) else (gd (ib x1 4) (if (σ.1 32 x1.toNatClampNeg) = 0 then (f_X10_addFixups_178 K150 x1 σ) else (bv (f_X10_addPages x1 σ) fun s33 => f_X10_addFixups_178 K150 x1 s33)))

def f_X10_addFixups_150 (x1 : Int32) (σ : St) : Option (St) :=
  it (fun K a => f_X10_addFixups_150b K a.1 a.2) FU (x1, σ)

def f_X10_addFixups_113b (K113 : (Int32 × St) → Option (St)) (x1 : Int32) (σ : St) : Option (St) :=
  if (σ.1 6 2) ≤ x1 then (zn (0 : Int32) fun v21 => f_X10_addFixups_150 v21 σ) else (gd (ib x1 4) (bv (f_X6_add 3 6400 (4 : Int32) ((σ.1 32 x1.toNatClampNeg).toInt64) σ) fun s36 => zn (x1 + 1) fun v37 => K113 (v37, s36)))

def f_X10_addFixups_113 (x1 : Int32) (σ : St) : Option (St) :=
  it (fun K a => f_X10_addFixups_113b K a.1 a.2) FU (x1, σ)

def f_X10_addFixups (σ : St) : Option (St) :=
  bv (f_X6_fillUp 3 6400 (8 : Int32) σ) fun s2 => bv (f_X6_add 3 6400 (4 : Int32) (0 : Int64) s2) fun s4 => bv (f_X6_add 3 6400 (4 : Int32) (28 : Int64) s4) fun s6 => bv (f_X6_add 3 6400 (4 : Int32) ((s6.1 30 7).toInt64) s6) fun s8 => bv (f_X6_add 3 6400 (4 : Int32) ((s8.1 30 8).toInt64) s8) fun s10 => bv (f_X6_add 3 6400 (4 : Int32) ((s10.1 23 2).toInt64) s10) fun s12 => bv (f_X6_add 3 6400 (4 : Int32) (1 : Int64) s12) fun s14 => bv (f_X6_add 3 6400 (4 : Int32) (0 : Int64) s14) fun s16 => bv (f_X6_add 3 6400 (4 : Int32) ((s16.1 6 2).toInt64) s16) fun s18 => zn (0 : Int32) fun v19 => f_X10_addFixups_113 v19 s18

def f_X10_addSymbols_13b (K13 : (Int32 × Int32 × St) → Option (St)) (x1 : Int32) (x2 : Int32) (σ : St) : Option (St) :=
  if (σ.1 18 2) ≤ x2 then (some σ) else (gd (ib x2 20) (zn (σ.1 21 x2.toNatClampNeg) fun v7 => gd (ib ((v7 - (1 : Int32))) 8) (gd (ib x2 20) (zn (((σ.1 16 ((v7 - (1 : Int32))).toNatClampNeg) + (σ.1 22 x2.toNatClampNeg))) fun v10 => bv (f_X6_add 3 6400 (4 : Int32) x1.toInt64 σ) fun s12 => bv (f_X6_add 3 6400 (1 : Int32) (15 : Int64) s12) fun s14 => bv (f_X6_add 3 6400 (1 : Int32) v7.toInt64 s14) fun s16 => bv (f_X6_add 3 6400 (2 : Int32) (0 : Int64) s16) fun s18 => gd (ib ((v7 - (1 : Int32))) 8) (bi (f_X8_addressOf ((s18.1 15 ((v7 - (1 : Int32))).toNatClampNeg)) s18) fun r22 s21 => bv (f_X6_add 3 6400 (8 : Int32) ((r22 + v10).toInt64) s21) fun s24 => gd (ib x2 20) (zn ((x1 + ((s24.1 20 x2.toNatClampNeg) + (1 : Int32)))) fun v26 => zn (x2 + 1) fun v27 => K13 (v26, v27, s24)))))))

def f_X10_addSymbols_13 (x1 : Int32) (x2 : Int32) (σ : St) : Option (St) :=
  it (fun K a => f_X10_addSymbols_13b K a.1 a.2.1 a.2.2) FU (x1, x2, σ)

def f_X10_addSymbols (σ : St) : Option (St) :=
  bv (f_X6_fillUp 3 6400 (8 : Int32) σ) fun s2 => zn (1 : Int32) fun v3 => zn (0 : Int32) fun v4 => f_X10_addSymbols_13 v3 v4 s2

def f_X10_addStrings (σ : St) : Option (St) :=
  bv (f_X6_fillUp 3 6400 (8 : Int32) σ) fun s2 => bv (f_X6_addZeros 3 6400 (1 : Int32) s2) fun s4 => bv (f_X5_addAllTo 18 320 20 3 6400 s4) fun s6 => some s6

def f_X10_threaded_45 (x1 : Int32) (x2 : Int32) (t0 : Int64) (σ : St) : Option (Int64 × St) :=
  bi (f_X8_bitsAt x1 x2 σ) fun r10 s9 => some ((r10 ||| (zlshl t0 (51 : Int32))), s9)

def f_X10_threaded (a1 : Int32) (a2 : Int32) (σ : St) : Option (Int64 × St) :=
  bi (f_X11_filledUp ((a2 + (1 : Int32))) (σ.1 5 1) σ) fun r3 s2 => bi (f_X8_firstPointer a1 ((a2 + (4 : Int32))) r3 s2) fun r6 s5 => if r6 = (-1 : Int32) then (f_X10_threaded_45 a1 a2 (0 : Int64) s5) else (f_X10_threaded_45 a1 a2 ((((r6 - a2) / (4 : Int32))).toInt64) s5)

def f_X10_addContents_87 (K39 : (Int32 × Int32 × St) → Option (St)) (x1 : Int32) (x2 : Int32) (σ : St) : Option (St) :=
  zn (x2 + 4) fun v13 => K39 (x1, v13, σ)

def f_X10_addContents_39b (K39 : (Int32 × Int32 × St) → Option (St)) (x1 : Int32) (x2 : Int32) (σ : St) : Option (St) :=
  gd (ib x1 4) (if (σ.1 9 x1.toNatClampNeg) ≤ x2 then (some σ) else (bi (f_X8_hasPointer x1 x2 σ) fun r11 s10 => if r11 = 0 then (f_X10_addContents_87 K39 x1 x2 s10) else (gd (ib x1 4) (bi (f_X10_threaded x1 x2 s10) fun r17 s16 => bv (f_X6_put 3 6400 (((s10.1 31 x1.toNatClampNeg) + x2)) (8 : Int32) r17 s16) fun s19 => f_X10_addContents_87 K39 x1 x2 s19))))

def f_X10_addContents_39 (x1 : Int32) (x2 : Int32) (σ : St) : Option (St) :=
  it (fun K a => f_X10_addContents_39b K a.1 a.2.1 a.2.2) FU (x1, x2, σ)

def f_X10_addContents (a1 : Int32) (σ : St) : Option (St) :=
  bv (f_X6_fillUp 3 6400 (8 : Int32) σ) fun s2 => gd (ib a1 4) (bv (f_X6_addFrom 3 6400 11 4096 ((a1 * (1024 : Int32))) (s2.1 9 a1.toNatClampNeg) s2) fun s5 => zn (0 : Int32) fun v6 => f_X10_addContents_39 a1 v6 s5)

def f_X10_addSegmentCommand (a1 : Int32) (σ : St) : Option (St) :=
  bi (f_X8_sectionsOf a1 σ) fun r3 s2 => bv (f_X6_add 3 6400 (4 : Int32) (25 : Int64) s2) fun s5 => bv (f_X6_add 3 6400 (4 : Int32) ((((72 : Int32) + ((80 : Int32) * r3))).toInt64) s5) fun s7 => bv (f_X5_addFilledTo 6 64 4 3 6400 a1 s7) fun s9 => bi (f_X8_addressOf a1 s9) fun r12 s11 => bv (f_X6_add 3 6400 (8 : Int32) r12.toInt64 s11) fun s14 => bi (f_X8_spanOf a1 s14) fun r17 s16 => bv (f_X6_add 3 6400 (8 : Int32) r17.toInt64 s16) fun s19 => gd (ib a1 4) (bv (f_X6_add 3 6400 (8 : Int32) ((s19.1 31 a1.toNatClampNeg).toInt64) s19) fun s22 => gd (ib a1 4) (bv (f_X6_add 3 6400 (8 : Int32) ((s22.1 9 a1.toNatClampNeg).toInt64) s22) fun s25 => bv (f_X6_add 3 6400 (4 : Int32) (7 : Int64) s25) fun s27 => gd (ib a1 4) (bv (f_X6_add 3 6400 (4 : Int32) ((s27.1 10 a1.toNatClampNeg).toInt64) s27) fun s30 => bv (f_X6_add 3 6400 (4 : Int32) r3.toInt64 s30) fun s32 => bv (f_X6_add 3 6400 (4 : Int32) (0 : Int64) s32) fun s34 => some s34)))

def f_X10_addSectionsOf_140 (K2 : (Int32 × Int32 × St) → Option (St)) (x1 : Int32) (x2 : Int32) (σ : St) : Option (St) :=
  zn (x2 + 1) fun v5 => K2 (x1, v5, σ)

def f_X10_addSectionsOf_2b (K2 : (Int32 × Int32 × St) → Option (St)) (x1 : Int32) (x2 : Int32) (σ : St) : Option (St) :=
  if (σ.1 12 2) ≤ x2 then (some σ) else (gd (ib x2 8) (if (σ.1 15 x2.toNatClampNeg) = x1 then (bv (f_X5_addFilledTo 12 128 8 3 6400 x2 σ) fun s7 => bv (f_X5_addFilledTo 6 64 4 3 6400 x1 s7) fun s9 => bi (f_X8_addressOf x1 s9) fun r12 s11 => gd (ib x2 8) (bv (f_X6_add 3 6400 (8 : Int32) (((r12 + (s11.1 16 x2.toNatClampNeg))).toInt64) s11) fun s15 => gd (ib x2 8) (bv (f_X6_add 3 6400 (8 : Int32) ((s15.1 17 x2.toNatClampNeg).toInt64) s15) fun s18 => gd (ib x1 4) (gd (ib x2 8) (bv (f_X6_add 3 6400 (4 : Int32) ((((s18.1 31 x1.toNatClampNeg) + (s18.1 16 x2.toNatClampNeg))).toInt64) s18) fun s22 => bv (f_X6_addZeros 3 6400 (28 : Int32) s22) fun s24 => f_X10_addSectionsOf_140 K2 x1 x2 s24))))) else (f_X10_addSectionsOf_140 K2 x1 x2 σ)))

def f_X10_addSectionsOf_2 (x1 : Int32) (x2 : Int32) (σ : St) : Option (St) :=
  it (fun K a => f_X10_addSectionsOf_2b K a.1 a.2.1 a.2.2) FU (x1, x2, σ)

def f_X10_addSectionsOf (a1 : Int32) (σ : St) : Option (St) :=
  zn (0 : Int32) fun v1 => f_X10_addSectionsOf_2 a1 v1 σ

def f_X10_writeAll_102b (K102 : (Int32 × St) → Option (St)) (x1 : Int32) (σ : St) : Option (St) :=
  if (σ.1 6 2) ≤ x1 then (bv (f_X10_addFixups σ) fun s24 => bv (f_X10_addSymbols s24) fun s26 => bv (f_X10_addStrings s26) fun s28 => some s28) else (bv (f_X10_addContents x1 σ) fun s30 => zn (x1 + 1) fun v31 => K102 (v31, s30))

def f_X10_writeAll_102 (x1 : Int32) (σ : St) : Option (St) :=
  it (fun K a => f_X10_writeAll_102b K a.1 a.2) FU (x1, σ)

def f_X10_writeAll_66b (K66 : (Int32 × St) → Option (St)) (x1 : Int32) (σ : St) : Option (St) :=
  if (σ.1 6 2) ≤ x1 then (bv (f_X10_addTableCommands σ) fun s20 => zn (0 : Int32) fun v21 => f_X10_writeAll_102 v21 s20) else (bv (f_X10_addSegmentCommand x1 σ) fun s33 => bv (f_X10_addSectionsOf x1 s33) fun s35 => zn (x1 + 1) fun v36 => K66 (v36, s35))

def f_X10_writeAll_66 (x1 : Int32) (σ : St) : Option (St) :=
  it (fun K a => f_X10_writeAll_66b K a.1 a.2) FU (x1, σ)

def f_X10_writeAll (σ : St) : Option (St) :=
  bv (f_X10_layOut σ) fun s2 => bv (f_X10_layOutFixups s2) fun s4 => bi (f_X11_filledUp (((s4.1 30 5) + (s4.1 30 6))) (8 : Int32) s4) fun r7 s6 => zn (sI s6 30 9 r7) fun s8 => bi (f_X11_filledUp (((s8.1 30 9) + ((16 : Int32) * (s8.1 18 2)))) (8 : Int32) s8) fun r11 s10 => zn (sI s10 30 10 r11) fun s12 => bv (f_X6_clear 3 6400 s12) fun s14 => bv (f_X10_addHead s14) fun s16 => zn (0 : Int32) fun v17 => f_X10_writeAll_66 v17 s16

def f_X11_feedNumber_3b (K3 : (Int32 × Int32 × St) → Option (St)) (x1 : Int32) (x2 : Int32) (σ : St) : Option (St) :=
  if x2 < 0 then (some σ) else (bv (f_X6_add 1 1040 (1 : Int32) ((zushr x1 x2).toInt64) σ) fun s4 => zn (x2 + (-8)) fun v5 => K3 (x1, v5, s4))

def f_X11_feedNumber_3 (x1 : Int32) (x2 : Int32) (σ : St) : Option (St) :=
  it (fun K a => f_X11_feedNumber_3b K a.1 a.2.1 a.2.2) FU (x1, x2, σ)

def f_X11_feedNumber (a1 : Int32) (σ : St) : Option (St) :=
  zn (24 : Int32) fun v1 => f_X11_feedNumber_3 a1 v1 σ

def f_X11_feed (a1 : Int32) (a2 : Int32) (a3 : Int32) (a4 : Int32) (a5 : Int32) (σ : St) : Option (Int32 × St) :=
  if ((σ.1 1 1) + (20 : Int32)) ≤ (1040 : Int32) then (bv (f_X11_feedNumber a1 σ) fun s3 => bv (f_X11_feedNumber a2 s3) fun s5 => bv (f_X11_feedNumber a3 s5) fun s7 => bv (f_X11_feedNumber a4 s7) fun s9 => bv (f_X11_feedNumber a5 s9) fun s11 => some ((s11.1 1 1), s11)) else (some ((-1 : Int32), σ))

def f_X11_end (a1 : Int32) (σ : St) : Option (Int32 × St) :=
  bi (f_X6_shorten 1 1040 a1 σ) fun r3 s2 => gd (r3 = 0 ∨ r3 = 1) (some (r3, s2))

def f_X11_anew (a1 : Int32) (a2 : Int32) (σ : St) : Option (Int32 × St) :=
  if a1 < 0 then (some ((0 : Int32), σ)) else (if (1073741824 : Int32) < a1 then (some ((0 : Int32), σ)) else (if (a1 - a1 / (4096 : Int32) * (4096 : Int32)) = 0 then (bi (f_X11_isPage a2 σ) fun r6 s5 => if r6 = 0 then (some ((0 : Int32), s5)) else (bv (f_X8_forget a1 a2 s5) fun s9 => some ((1 : Int32), s9))) else (some ((0 : Int32), σ))))

def f_X11_segment (a1 : Int32) (a2 : Int32) (σ : St) : Option (Int32 × St) :=
  bi (f_X8_addSegment 1 1040 a1 a2 σ) fun r3 s2 => bv (f_X6_clear 1 1040 s2) fun s5 => some (r3, s5)

def f_X11_fill (a1 : Int32) (a2 : Int32) (σ : St) : Option (Int32 × St) :=
  bi (f_X8_setContents 1 1040 a1 a2 σ) fun r3 s2 => bv (f_X6_clear 1 1040 s2) fun s5 => gd (r3 = 0 ∨ r3 = 1) (some (r3, s5))

def f_X11_section (a1 : Int32) (a2 : Int32) (a3 : Int32) (σ : St) : Option (Int32 × St) :=
  bi (f_X8_addSection 1 1040 a1 a2 a3 σ) fun r3 s2 => bv (f_X6_clear 1 1040 s2) fun s5 => some (r3, s5)

def f_X11_symbol (a1 : Int32) (a2 : Int32) (σ : St) : Option (Int32 × St) :=
  bi (f_X8_addSymbol 1 1040 a1 a2 σ) fun r3 s2 => bv (f_X6_clear 1 1040 s2) fun s5 => some (r3, s5)

def f_X11_imports (a1 : Int32) (a2 : Int32) (σ : St) : Option (Int32 × St) :=
  bi (f_X8_addImport 1 1040 a1 a2 σ) fun r3 s2 => bv (f_X6_clear 1 1040 s2) fun s5 => some (r3, s5)

def f_X11_isByte (a0 : Int32) (σ : St) : Option (Int32 × St) :=
  if a0 < 0 then (some ((0 : Int32), σ)) else (if (255 : Int32) < a0 then (some ((0 : Int32), σ)) else (some ((1 : Int32), σ)))

def f_X11_rebase (a1 : Int32) (a2 : Int32) (a3 : Int64) (a4 : Int32) (σ : St) : Option (Int32 × St) :=
  if a3 < (0 : Int64) then (some ((0 : Int32), σ)) else (if (68719476735 : Int64) < a3 then (some ((0 : Int32), σ)) else (bi (f_X11_isByte a4 σ) fun r5 s4 => if r5 = 0 then (some ((0 : Int32), s4)) else (bi (f_X8_setPointer a1 a2 ((a3 ||| (zlshl a4.toInt64 (36 : Int32)))) s4) fun r9 s8 => gd (r9 = 0 ∨ r9 = 1) (some (r9, s8)))))

def f_X11_bind (a1 : Int32) (a2 : Int32) (a3 : Int32) (a4 : Int32) (σ : St) : Option (Int32 × St) :=
  bi (f_X5_has 23 320 20 a3 σ) fun r3 s2 => if r3 = 0 then (some ((0 : Int32), s2)) else (bi (f_X11_isByte a4 s2) fun r7 s6 => if r7 = 0 then (some ((0 : Int32), s6)) else (bi (f_X8_setPointer a1 a2 ((((-9223372036854775808 : Int64) ||| (zlshl a4.toInt64 (24 : Int32))) ||| a3.toInt64)) s6) fun r11 s10 => gd (r11 = 0 ∨ r11 = 1) (some (r11, s10))))

def f_X11_drop (a1 : Int32) (a2 : Int32) (σ : St) : Option (Int32 × St) :=
  bi (f_X8_removePointer a1 a2 σ) fun r3 s2 => gd (r3 = 0 ∨ r3 = 1) (some (r3, s2))

def f_X11_write (σ : St) : Option (Int32 × St) :=
  bv (f_X10_writeAll σ) fun s2 => some ((s2.1 3 1), s2)

def f_X11_image (a1 : Int32) (σ : St) : Option (Int32 × St) :=
  bi (f_X6_has 3 6400 a1 σ) fun r3 s2 => if r3 = 0 then (some ((-1 : Int32), s2)) else (bi (f_X6_at 3 6400 a1 s2) fun r7 s6 => some (r7, s6))

def f_X11_damage (a1 : Int32) (a2 : Int32) (σ : St) : Option (Int32 × St) :=
  bi (f_X6_has 3 6400 a1 σ) fun r3 s2 => if r3 = 0 then (some ((0 : Int32), s2)) else (bi (f_X11_isByte a2 s2) fun r7 s6 => if r7 = 0 then (some ((0 : Int32), s6)) else (bv (f_X6_put 3 6400 a1 (1 : Int32) a2.toInt64 s6) fun s10 => some ((1 : Int32), s10)))

def f_X11_cut (a1 : Int32) (σ : St) : Option (Int32 × St) :=
  bi (f_X6_shorten 3 6400 a1 σ) fun r3 s2 => gd (r3 = 0 ∨ r3 = 1) (some (r3, s2))

def f_X11_export (a1 : Int32) (a2 : Int32) (σ : St) : Option (Int32 × St) :=
  bi (f_X1_put 1 1040 a1 a2 σ) fun r3 s2 => bv (f_X6_clear 1 1040 s2) fun s5 => gd (r3 = 0 ∨ r3 = 1) (some (r3, s5))

def f_X11_load (a1 : Int32) (σ : St) : Option (Int32 × St) :=
  bv (f_X2_clear σ) fun s2 => bi (f_X0_hold s2) fun r5 s4 => if r5 = 0 then (some ((s4.1 39 0), s4)) else (bi (f_X3_hold s4) fun r9 s8 => if r9 = 0 then (some ((s8.1 39 0), s8)) else (bi (f_X7_fitWith 41 a1 s8) fun r13 s12 => bi (f_X2_unless r13 (13 : Int32) (0 : Int32) s12) fun r16 s15 => if r16 = 0 then (some ((s15.1 39 0), s15)) else (bv (f_X4_take 3 6400 a1 s15) fun s19 => bv (f_X4_setPointers a1 s19) fun s21 => some ((s21.1 39 0), s21))))

def f_X11_place (σ : St) : Option (Int32 × St) :=
  some ((σ.1 39 1), σ)

def f_X11_memory (a1 : Int32) (σ : St) : Option (Int32 × St) :=
  bi (f_X7_placeOf 54 a1 (1 : Int32) σ) fun r3 s2 => if r3 = (-1 : Int32) then (some ((-1 : Int32), s2)) else (bi (f_X6_at 59 16384 r3 s2) fun r7 s6 => some (r7, s6))

def f_X11_find (σ : St) : Option (Int32 × St) :=
  bi (f_X4_symbolAddress 1 1040 σ) fun r3 s2 => bv (f_X6_clear 1 1040 s2) fun s5 => some (r3, s5)

def f_X11_count (a1 : Int32) (σ : St) : Option (Int32 × St) :=
  if a1 = 0 then (some ((σ.1 6 2), σ)) else (if a1 = 1 then (some ((σ.1 12 2), σ)) else (if a1 = 2 then (some ((σ.1 18 2), σ)) else (if a1 = 3 then (some ((σ.1 23 2), σ)) else (if a1 = 4 then (some ((σ.1 5 18), σ)) else (if a1 = 5 then (some ((σ.1 3 1), σ)) else (if a1 = 6 then (some ((σ.1 34 2), σ)) else (if a1 = 7 then (some ((σ.1 54 4), σ)) else (if a1 = 8 then (some ((σ.1 61 2), σ)) else (if a1 = 9 then (some ((σ.1 53 6), σ)) else (if a1 = 10 then (some ((σ.1 1 1), σ)) else ((some ((-1 : Int32), σ)))))))))))))

def f_X12_thrown (σ : St) : Option (Int32 × St) :=
  some ((σ.1 68 0), σ)

def f_X12_come_3b (K3 : (Int32 × Int32 × St) → Option (St)) (x1 : Int32) (x2 : Int32) (σ : St) : Option (St) :=
  if x2 < 0 then (some σ) else (gd (ib (σ.1 68 2) 1040) (zn (sI σ 69 (σ.1 68 2).toNatClampNeg (((zushr x1 x2) &&& (255 : Int32)))) fun s4 => zn (sI s4 68 2 (((s4.1 68 2) + (1 : Int32)))) fun s5 => zn (x2 + (-8)) fun v6 => K3 (x1, v6, s5)))

def f_X12_come_3 (x1 : Int32) (x2 : Int32) (σ : St) : Option (St) :=
  it (fun K a => f_X12_come_3b K a.1 a.2.1 a.2.2) FU (x1, x2, σ)

def f_X12_come (a1 : Int32) (σ : St) : Option (St) :=
  zn (24 : Int32) fun v1 => f_X12_come_3 a1 v1 σ

def f_X12_feed (a1 : Int32) (a2 : Int32) (a3 : Int32) (a4 : Int32) (a5 : Int32) (σ : St) : Option (Int32 × St) :=
  zn (sI σ 68 0 (0 : Int32)) fun s1 => if ((s1.1 68 2) + (20 : Int32)) ≤ (1040 : Int32) then (bv (f_X12_come a1 s1) fun s4 => bv (f_X12_come a2 s4) fun s6 => bv (f_X12_come a3 s6) fun s8 => bv (f_X12_come a4 s8) fun s10 => bv (f_X12_come a5 s10) fun s12 => some ((s12.1 68 2), s12)) else (some ((-1 : Int32), s1))

def f_X12_end (a1 : Int32) (σ : St) : Option (Int32 × St) :=
  zn (sI σ 68 0 (0 : Int32)) fun s1 => if a1 < 0 then (some ((0 : Int32), s1)) else (if a1 ≤ (s1.1 68 2) then (zn (sI s1 68 2 a1) fun s4 => some ((1 : Int32), s4)) else (some ((0 : Int32), s1)))

def f_X12_takes_118 (K79 : (Int32 × Int32 × Int32 × Int32 × St) → Option (Int32 × St)) (x1 : Int32) (x2 : Int32) (x3 : Int32) (x4 : Int32) (t0 : Int32) (t1 : Int32) (σ : St) : Option (Int32 × St) :=
  gd (ib t1 1312) (zn (sI σ 70 t1.toNatClampNeg t0) fun s13 => zn (x4 + 1) fun v14 => K79 (x1, x2, x3, v14, s13))

def f_X12_takes_79b (K79 : (Int32 × Int32 × Int32 × Int32 × St) → Option (Int32 × St)) (x1 : Int32) (x2 : Int32) (x3 : Int32) (x4 : Int32) (σ : St) : Option (Int32 × St) :=
  if (16 : Int32) ≤ x4 then (gd (x3 = 0 ∨ x3 = 1) (some (x3, σ))) else (if x3 = 0 then (gd (x3 = 0 ∨ x3 = 1) (some (x3, σ))) else (if x2 ≤ x4 then (f_X12_takes_118 K79 x1 x2 x3 x4 (0 : Int32) ((((16 : Int32) * x1) + x4)) σ) else (gd (ib x4 1040) (f_X12_takes_118 K79 x1 x2 x3 x4 (σ.1 69 x4.toNatClampNeg) ((((16 : Int32) * x1) + x4)) σ))))

def f_X12_takes_79 (x1 : Int32) (x2 : Int32) (x3 : Int32) (x4 : Int32) (σ : St) : Option (Int32 × St) :=
  it (fun K a => f_X12_takes_79b K a.1 a.2.1 a.2.2.1 a.2.2.2.1 a.2.2.2.2) FU (x1, x2, x3, x4, σ)

def f_X12_takes_76 (x1 : Int32) (x2 : Int32) (x3 : Int32) (σ : St) : Option (Int32 × St) :=
  zn (0 : Int32) fun v6 => f_X12_takes_79 x1 x2 x3 v6 σ

def f_X12_takes_69 (K30 : (Int32 × Int32 × Int32 × Int32 × St) → Option (Int32 × St)) (x1 : Int32) (x2 : Int32) (x4 : Int32) (t0 : Int32) (σ : St) : Option (Int32 × St) :=
  zn (x4 + 1) fun v19 => K30 (x1, x2, t0, v19, σ)

def f_X12_takes_68 (K30 : (Int32 × Int32 × Int32 × Int32 × St) → Option (Int32 × St)) (x1 : Int32) (x2 : Int32) (x4 : Int32) (σ : St) : Option (Int32 × St) :=
  f_X12_takes_69 K30 x1 x2 x4 (0 : Int32) σ

def f_X12_takes_30b (K30 : (Int32 × Int32 × Int32 × Int32 × St) → Option (Int32 × St)) (x1 : Int32) (x2 : Int32) (x3 : Int32) (x4 : Int32) (σ : St) : Option (Int32 × St) :=
  if x2 ≤ x4 then (f_X12_takes_76 x1 x2 x3 σ) else (if x3 = 0 then (f_X12_takes_76 x1 x2 x3 σ) else (gd (ib x4 1040) (if (σ.1 69 x4.toNatClampNeg) ≤ (32 : Int32) then (f_X12_takes_68 K30 x1 x2 x4 σ) else (gd (ib x4 1040) (if (127 : Int32) ≤ (σ.1 69 x4.toNatClampNeg) then (f_X12_takes_68 K30 x1 x2 x4 σ) else (f_X12_takes_69 K30 x1 x2 x4 (1 : Int32) σ))))))

def f_X12_takes_30 (x1 : Int32) (x2 : Int32) (x3 : Int32) (x4 : Int32) (σ : St) : Option (Int32 × St) :=
  it (fun K a => f_X12_takes_30b K a.1 a.2.1 a.2.2.1 a.2.2.2.1 a.2.2.2.2) FU (x1, x2, x3, x4, σ)

def f_X12_takes_26 (x1 : Int32) (x2 : Int32) (t0 : Int32) (σ : St) : Option (Int32 × St) :=
  zn (0 : Int32) fun v4 => f_X12_takes_30 x1 x2 t0 v4 σ

def f_X12_takes_25 (x1 : Int32) (x2 : Int32) (σ : St) : Option (Int32 × St) :=
  f_X12_takes_26 x1 x2 (0 : Int32) σ

def f_X12_takes (a1 : Int32) (σ : St) : Option (Int32 × St) :=
  zn (σ.1 68 2) fun v1 => zn (sI σ 68 2 (0 : Int32)) fun s2 => if v1 < (1 : Int32) then (f_X12_takes_25 a1 v1 s2) else (if (16 : Int32) < v1 then (f_X12_takes_25 a1 v1 s2) else (f_X12_takes_26 a1 v1 (1 : Int32) s2))

def f_X12_longOf_2b (K2 : (Int32 × Int32 × St) → Option (Int32 × St)) (x1 : Int32) (x2 : Int32) (σ : St) : Option (Int32 × St) :=
  if (16 : Int32) ≤ x2 then (some (x2, σ)) else (gd (ib ((((16 : Int32) * x1) + x2)) 1312) (if (σ.1 70 ((((16 : Int32) * x1) + x2)).toNatClampNeg) = 0 then (some (x2, σ)) else (zn (x2 + 1) fun v5 => K2 (x1, v5, σ))))

def f_X12_longOf_2 (x1 : Int32) (x2 : Int32) (σ : St) : Option (Int32 × St) :=
  it (fun K a => f_X12_longOf_2b K a.1 a.2.1 a.2.2) FU (x1, x2, σ)

def f_X12_longOf (a1 : Int32) (σ : St) : Option (Int32 × St) :=
  zn (0 : Int32) fun v1 => f_X12_longOf_2 a1 v1 σ

def f_X12_isPage (a0 : Int64) (σ : St) : Option (Int32 × St) :=
  if a0 = (256 : Int64) then (some ((1 : Int32), σ)) else (if a0 = (512 : Int64) then (some ((1 : Int32), σ)) else (if a0 = (1024 : Int64) then (some ((1 : Int32), σ)) else (if a0 = (2048 : Int64) then (some ((1 : Int32), σ)) else (if a0 = (4096 : Int64) then (some ((1 : Int32), σ)) else (some ((0 : Int32), σ))))))

def f_X12_anew (a1 : Int32) (a2 : Int32) (σ : St) : Option (Int32 × St) :=
  zn (sI σ 68 0 (0 : Int32)) fun s1 => if a1 < 0 then (some ((0 : Int32), s1)) else (if (1073741824 : Int32) < a1 then (some ((0 : Int32), s1)) else (if (a1 - a1 / (4096 : Int32) * (4096 : Int32)) = 0 then (bi (f_X12_isPage a2.toInt64 s1) fun r7 s6 => if r7 = 0 then (some ((0 : Int32), s6)) else (zn (sI s6 68 4 a1) fun s9 => zn (sI s9 68 5 a2) fun s10 => zn (sI s10 68 6 (0 : Int32)) fun s11 => zn (sI s11 68 7 (0 : Int32)) fun s12 => zn (sI s12 68 8 (0 : Int32)) fun s13 => zn (sI s13 68 9 (0 : Int32)) fun s14 => zn (sI s14 68 10 (0 : Int32)) fun s15 => some ((1 : Int32), s15))) else (some ((0 : Int32), s1))))

def f_X12_segment_88b (K88 : (Int32 × St) → Option (Int32 × St)) (x4 : Int32) (σ : St) : Option (Int32 × St) :=
  if (1024 : Int32) ≤ x4 then (zn (sI σ 68 6 (((σ.1 68 6) + (1 : Int32)))) fun s14 => some (((s14.1 68 6) - (1 : Int32)), s14)) else (gd (ib ((((1024 : Int32) * (σ.1 68 6)) + x4)) 4096) (zn (sI σ 73 ((((1024 : Int32) * (σ.1 68 6)) + x4)).toNatClampNeg (0 : Int32)) fun s16 => zn (x4 + 1) fun v17 => K88 (v17, s16)))

def f_X12_segment_88 (x4 : Int32) (σ : St) : Option (Int32 × St) :=
  it (fun K a => f_X12_segment_88b K a.1 a.2) FU (x4, σ)

def f_X12_segment_40 (x1 : Int32) (x2 : Int32) (t0 : Int32) (σ : St) : Option (Int32 × St) :=
  if t0 = 0 then (zn (sI σ 68 2 (0 : Int32)) fun s18 => some ((-1 : Int32), s18)) else (bi (f_X12_takes (σ.1 68 6) σ) fun r6 s5 => if r6 = 0 then (some ((-1 : Int32), s5)) else (gd (ib (s5.1 68 6) 4) (zn (sI s5 71 (s5.1 68 6).toNatClampNeg x1) fun s9 => gd (ib (s9.1 68 6) 4) (zn (sI s9 72 (s9.1 68 6).toNatClampNeg x2) fun s11 => zn (0 : Int32) fun v12 => f_X12_segment_88 v12 s11))))

def f_X12_segment_39 (x1 : Int32) (x2 : Int32) (σ : St) : Option (Int32 × St) :=
  f_X12_segment_40 x1 x2 (0 : Int32) σ

def f_X12_segment (a1 : Int32) (a2 : Int32) (σ : St) : Option (Int32 × St) :=
  zn (sI σ 68 0 (0 : Int32)) fun s1 => if (4 : Int32) ≤ (s1.1 68 6) then (f_X12_segment_39 a1 a2 s1) else (if a1 < (1 : Int32) then (f_X12_segment_39 a1 a2 s1) else (if (1024 : Int32) < a1 then (f_X12_segment_39 a1 a2 s1) else (if a2 < 0 then (f_X12_segment_39 a1 a2 s1) else (if (7 : Int32) < a2 then (f_X12_segment_39 a1 a2 s1) else (f_X12_segment_40 a1 a2 (1 : Int32) s1)))))

def f_X12_isSegment (a1 : Int32) (σ : St) : Option (Int32 × St) :=
  if a1 < 0 then (some ((0 : Int32), σ)) else (if (σ.1 68 6) ≤ a1 then (some ((0 : Int32), σ)) else (some ((1 : Int32), σ)))

def f_X12_fill_44b (K44 : (Int32 × Int32 × Int32 × Int32 × St) → Option (Int32 × St)) (x1 : Int32) (x2 : Int32) (x3 : Int32) (x4 : Int32) (σ : St) : Option (Int32 × St) :=
  if x3 ≤ x4 then (some ((1 : Int32), σ)) else (gd (ib x4 1040) (gd (ib (((((1024 : Int32) * x1) + x2) + x4)) 4096) (zn (sI σ 73 (((((1024 : Int32) * x1) + x2) + x4)).toNatClampNeg (σ.1 69 x4.toNatClampNeg)) fun s15 => zn (x4 + 1) fun v16 => K44 (x1, x2, x3, v16, s15))))

def f_X12_fill_44 (x1 : Int32) (x2 : Int32) (x3 : Int32) (x4 : Int32) (σ : St) : Option (Int32 × St) :=
  it (fun K a => f_X12_fill_44b K a.1 a.2.1 a.2.2.1 a.2.2.2.1 a.2.2.2.2) FU (x1, x2, x3, x4, σ)

def f_X12_fill (a1 : Int32) (a2 : Int32) (σ : St) : Option (Int32 × St) :=
  zn (sI σ 68 0 (0 : Int32)) fun s1 => zn (s1.1 68 2) fun v2 => zn (sI s1 68 2 (0 : Int32)) fun s3 => bi (f_X12_isSegment a1 s3) fun r6 s5 => if r6 = 0 then (some ((0 : Int32), s5)) else (if a2 < 0 then (some ((0 : Int32), s5)) else (gd (ib a1 4) (if a2 ≤ ((s5.1 71 a1.toNatClampNeg) - v2) then (zn (0 : Int32) fun v11 => f_X12_fill_44 a1 a2 v2 v11 s5) else (some ((0 : Int32), s5)))))

def f_X12_section_61 (x1 : Int32) (x2 : Int32) (x3 : Int32) (t0 : Int32) (σ : St) : Option (Int32 × St) :=
  if t0 = 0 then (zn (sI σ 68 2 (0 : Int32)) fun s15 => some ((-1 : Int32), s15)) else (bi (f_X12_takes (((4 : Int32) + (σ.1 68 7))) σ) fun r6 s5 => if r6 = 0 then (some ((-1 : Int32), s5)) else (zn (sI s5 68 7 (((s5.1 68 7) + (1 : Int32)))) fun s8 => gd (ib (s8.1 68 7) 9) (zn (sI s8 74 (s8.1 68 7).toNatClampNeg x1) fun s10 => gd (ib (s10.1 68 7) 9) (zn (sI s10 75 (s10.1 68 7).toNatClampNeg x2) fun s12 => gd (ib (s12.1 68 7) 9) (zn (sI s12 76 (s12.1 68 7).toNatClampNeg x3) fun s14 => some ((s14.1 68 7), s14))))))

def f_X12_section_60 (x1 : Int32) (x2 : Int32) (x3 : Int32) (σ : St) : Option (Int32 × St) :=
  f_X12_section_61 x1 x2 x3 (0 : Int32) σ

def f_X12_section (a1 : Int32) (a2 : Int32) (a3 : Int32) (σ : St) : Option (Int32 × St) :=
  zn (sI σ 68 0 (0 : Int32)) fun s1 => if (8 : Int32) ≤ (s1.1 68 7) then (f_X12_section_60 a1 a2 a3 s1) else (bi (f_X12_isSegment a1 s1) fun r18 s17 => if r18 = 0 then (f_X12_section_60 a1 a2 a3 s17) else (if a2 < 0 then (f_X12_section_60 a1 a2 a3 s17) else (if a3 < 0 then (f_X12_section_60 a1 a2 a3 s17) else (if (1024 : Int32) < a2 then (f_X12_section_60 a1 a2 a3 s17) else (if (1024 : Int32) < a3 then (f_X12_section_60 a1 a2 a3 s17) else (gd (ib a1 4) (if (s17.1 71 a1.toNatClampNeg) < (a2 + a3) then (f_X12_section_60 a1 a2 a3 s17) else (f_X12_section_61 a1 a2 a3 (1 : Int32) s17))))))))

def f_X12_symbol_46 (x1 : Int32) (x2 : Int32) (t0 : Int32) (σ : St) : Option (Int32 × St) :=
  if t0 = 0 then (zn (sI σ 68 2 (0 : Int32)) fun s13 => some ((-1 : Int32), s13)) else (bi (f_X12_takes (((12 : Int32) + (σ.1 68 8))) σ) fun r6 s5 => if r6 = 0 then (some ((-1 : Int32), s5)) else (gd (ib (s5.1 68 8) 20) (zn (sI s5 77 (s5.1 68 8).toNatClampNeg x1) fun s9 => gd (ib (s9.1 68 8) 20) (zn (sI s9 78 (s9.1 68 8).toNatClampNeg x2) fun s11 => zn (sI s11 68 8 (((s11.1 68 8) + (1 : Int32)))) fun s12 => some (((s12.1 68 8) - (1 : Int32)), s12)))))

def f_X12_symbol_45 (x1 : Int32) (x2 : Int32) (σ : St) : Option (Int32 × St) :=
  f_X12_symbol_46 x1 x2 (0 : Int32) σ

def f_X12_symbol (a1 : Int32) (a2 : Int32) (σ : St) : Option (Int32 × St) :=
  zn (sI σ 68 0 (0 : Int32)) fun s1 => if (20 : Int32) ≤ (s1.1 68 8) then (f_X12_symbol_45 a1 a2 s1) else (if a1 < (1 : Int32) then (f_X12_symbol_45 a1 a2 s1) else (if (s1.1 68 7) < a1 then (f_X12_symbol_45 a1 a2 s1) else (if a2 < 0 then (f_X12_symbol_45 a1 a2 s1) else (gd (ib a1 9) (if (s1.1 76 a1.toNatClampNeg) < a2 then (f_X12_symbol_45 a1 a2 s1) else (f_X12_symbol_46 a1 a2 (1 : Int32) s1))))))

def f_X12_imports_24 (σ : St) : Option (Int32 × St) :=
  zn (sI σ 68 2 (0 : Int32)) fun s3 => some ((-1 : Int32), s3)

def f_X12_imports (a1 : Int32) (a2 : Int32) (σ : St) : Option (Int32 × St) :=
  zn (sI σ 68 0 (0 : Int32)) fun s1 => if (s1.1 68 9) = (20 : Int32) then (f_X12_imports_24 s1) else (if a1 < (1 : Int32) then (f_X12_imports_24 s1) else (if a1 ≤ (3 : Int32) then (bi (f_X12_takes (((32 : Int32) + (s1.1 68 9))) s1) fun r8 s7 => if r8 = 0 then (some ((-1 : Int32), s7)) else (gd (ib (s7.1 68 9) 20) (zn (sI s7 79 (s7.1 68 9).toNatClampNeg a1) fun s11 => gd (ib (s11.1 68 9) 20) (zn (sI s11 80 (s11.1 68 9).toNatClampNeg (vp_nar .boolean a2)) fun s13 => zn (sI s13 68 9 (((s13.1 68 9) + (1 : Int32)))) fun s14 => some (((s14.1 68 9) - (1 : Int32)), s14))))) else (f_X12_imports_24 s1)))

def f_X12_pointerAtPlace_32 (K2 : (Int32 × Int32 × Int32 × St) → Option (Int32 × St)) (x1 : Int32) (x2 : Int32) (x3 : Int32) (σ : St) : Option (Int32 × St) :=
  zn (x3 + 1) fun v5 => K2 (x1, x2, v5, σ)

def f_X12_pointerAtPlace_2b (K2 : (Int32 × Int32 × Int32 × St) → Option (Int32 × St)) (x1 : Int32) (x2 : Int32) (x3 : Int32) (σ : St) : Option (Int32 × St) :=
  if (σ.1 68 10) ≤ x3 then (some ((-1 : Int32), σ)) else (gd (ib x3 101) (if (σ.1 81 x3.toNatClampNeg) = x1 then (gd (ib x3 101) (if (σ.1 82 x3.toNatClampNeg) = x2 then (some (x3, σ)) else (f_X12_pointerAtPlace_32 K2 x1 x2 x3 σ))) else (f_X12_pointerAtPlace_32 K2 x1 x2 x3 σ)))

def f_X12_pointerAtPlace_2 (x1 : Int32) (x2 : Int32) (x3 : Int32) (σ : St) : Option (Int32 × St) :=
  it (fun K a => f_X12_pointerAtPlace_2b K a.1 a.2.1 a.2.2.1 a.2.2.2) FU (x1, x2, x3, σ)

def f_X12_pointerAtPlace (a1 : Int32) (a2 : Int32) (σ : St) : Option (Int32 × St) :=
  zn (0 : Int32) fun v1 => f_X12_pointerAtPlace_2 a1 a2 v1 σ

def f_X12_move (a1 : Int32) (a2 : Int32) (σ : St) : Option (St) :=
  gd (ib a1 101) (gd (ib a2 101) (zn (sI σ 81 a2.toNatClampNeg (σ.1 81 a1.toNatClampNeg)) fun s3 => gd (ib a1 101) (gd (ib a2 101) (zn (sI s3 82 a2.toNatClampNeg (s3.1 82 a1.toNatClampNeg)) fun s6 => gd (ib a1 101) (gd (ib a2 101) (zn (sJ s6 84 a2.toNatClampNeg (s6.2 84 a1.toNatClampNeg)) fun s9 => gd (ib a1 101) (gd (ib a2 101) (zn (sI s9 83 a2.toNatClampNeg (s9.1 83 a1.toNatClampNeg)) fun s12 => gd (ib a1 101) (gd (ib a2 101) (zn (sI s12 85 a2.toNatClampNeg (vp_nar .boolean (s12.1 85 a1.toNatClampNeg))) fun s15 => some s15))))))))))

def f_X12_gone_12b (K12 : (Int32 × St) → Option (St)) (x2 : Int32) (σ : St) : Option (St) :=
  if (σ.1 68 10) ≤ x2 then (some σ) else (bv (f_X12_move ((x2 + (1 : Int32))) x2 σ) fun s4 => zn (x2 + 1) fun v5 => K12 (v5, s4))

def f_X12_gone_12 (x2 : Int32) (σ : St) : Option (St) :=
  it (fun K a => f_X12_gone_12b K a.1 a.2) FU (x2, σ)

def f_X12_gone (a1 : Int32) (σ : St) : Option (St) :=
  zn (sI σ 68 10 (((σ.1 68 10) - (1 : Int32)))) fun s1 => f_X12_gone_12 a1 s1

def f_X12_points_238 (x1 : Int32) (x2 : Int32) (x3 : Int64) (x5 : Int32) (x6 : Int32) (x8 : Int32) (σ : St) : Option (Int32 × St) :=
  gd (ib x8 101) (zn (sI σ 81 x8.toNatClampNeg x1) fun s25 => gd (ib x8 101) (zn (sI s25 82 x8.toNatClampNeg x2) fun s27 => gd (ib x8 101) (zn (sJ s27 84 x8.toNatClampNeg x3) fun s29 => gd (ib x8 101) (zn (sI s29 83 x8.toNatClampNeg x5) fun s31 => gd (ib x8 101) (zn (sI s31 85 x8.toNatClampNeg (vp_nar .boolean x6)) fun s33 => zn (sI s33 68 10 (((s33.1 68 10) + (1 : Int32)))) fun s34 => some ((1 : Int32), s34))))))

def f_X12_points_222 (K178 : (Int32 × Int32 × Int64 × Int32 × Int32 × Int32 × St) → Option (Int32 × St)) (x1 : Int32) (x2 : Int32) (x3 : Int64) (x5 : Int32) (x6 : Int32) (x8 : Int32) (σ : St) : Option (Int32 × St) :=
  bv (f_X12_move ((x8 - (1 : Int32))) x8 σ) fun s38 => zn (x8 + (-1)) fun v39 => K178 (x1, x2, x3, x5, x6, v39, s38)

def f_X12_points_178b (K178 : (Int32 × Int32 × Int64 × Int32 × Int32 × Int32 × St) → Option (Int32 × St)) (x1 : Int32) (x2 : Int32) (x3 : Int64) (x5 : Int32) (x6 : Int32) (x8 : Int32) (σ : St) : Option (Int32 × St) :=
  if x8 ≤ 0 then (f_X12_points_238 x1 x2 x3 x5 x6 x8 σ) else (gd (ib ((x8 - (1 : Int32))) 101) (if x1 < (σ.1 81 ((x8 - (1 : Int32))).toNatClampNeg) then (f_X12_points_222 K178 x1 x2 x3 x5 x6 x8 σ) else (gd (ib ((x8 - (1 : Int32))) 101) (if (σ.1 81 ((x8 - (1 : Int32))).toNatClampNeg) = x1 then (gd (ib ((x8 - (1 : Int32))) 101) (if (σ.1 82 ((x8 - (1 : Int32))).toNatClampNeg) ≤ x2 then (f_X12_points_238 x1 x2 x3 x5 x6 x8 σ) else (f_X12_points_222 K178 x1 x2 x3 x5 x6 x8 σ))) else (f_X12_points_238 x1 x2 x3 x5 x6 x8 σ)))))

def f_X12_points_178 (x1 : Int32) (x2 : Int32) (x3 : Int64) (x5 : Int32) (x6 : Int32) (x8 : Int32) (σ : St) : Option (Int32 × St) :=
  it (fun K a => f_X12_points_178b K a.1 a.2.1 a.2.2.1 a.2.2.2.1 a.2.2.2.2.1 a.2.2.2.2.2.1 a.2.2.2.2.2.2) FU (x1, x2, x3, x5, x6, x8, σ)

def f_X12_points_172 (x1 : Int32) (x2 : Int32) (x3 : Int64) (x5 : Int32) (x6 : Int32) (σ : St) : Option (Int32 × St) :=
  zn (σ.1 68 10) fun v22 => f_X12_points_178 x1 x2 x3 x5 x6 v22 σ

def f_X12_points_154 (K97 : (Int32 × Int32 × Int64 × Int32 × Int32 × Int32 × Int32 × St) → Option (Int32 × St)) (x1 : Int32) (x2 : Int32) (x3 : Int64) (x5 : Int32) (x6 : Int32) (x7 : Int32) (x8 : Int32) (σ : St) : Option (Int32 × St) :=
  zn (x8 + 1) fun v48 => K97 (x1, x2, x3, x5, x6, x7, v48, σ)

def f_X12_points_97b (K97 : (Int32 × Int32 × Int64 × Int32 × Int32 × Int32 × Int32 × St) → Option (Int32 × St)) (x1 : Int32) (x2 : Int32) (x3 : Int64) (x5 : Int32) (x6 : Int32) (x7 : Int32) (x8 : Int32) (σ : St) : Option (Int32 × St) :=
  if (σ.1 68 10) ≤ x8 then (if x7 = (-1 : Int32) then (f_X12_points_172 x1 x2 x3 x5 x6 σ) else (bv (f_X12_gone x7 σ) fun s45 => f_X12_points_172 x1 x2 x3 x5 x6 s45)) else (gd (ib x8 101) (if (σ.1 81 x8.toNatClampNeg) = x1 then (if x8 = x7 then (f_X12_points_154 K97 x1 x2 x3 x5 x6 x7 x8 σ) else (gd (ib x8 101) (if (σ.1 82 x8.toNatClampNeg) ≤ (x2 - (8 : Int32)) then (f_X12_points_154 K97 x1 x2 x3 x5 x6 x7 x8 σ) else (gd (ib x8 101) (if (x2 + (8 : Int32)) ≤ (σ.1 82 x8.toNatClampNeg) then (f_X12_points_154 K97 x1 x2 x3 x5 x6 x7 x8 σ) else (some ((0 : Int32), σ))))))) else (f_X12_points_154 K97 x1 x2 x3 x5 x6 x7 x8 σ)))

def f_X12_points_97 (x1 : Int32) (x2 : Int32) (x3 : Int64) (x5 : Int32) (x6 : Int32) (x7 : Int32) (x8 : Int32) (σ : St) : Option (Int32 × St) :=
  it (fun K a => f_X12_points_97b K a.1 a.2.1 a.2.2.1 a.2.2.2.1 a.2.2.2.2.1 a.2.2.2.2.2.1 a.2.2.2.2.2.2.1 a.2.2.2.2.2.2.2) FU (x1, x2, x3, x5, x6, x7, x8, σ)

def f_X12_points_94 (x1 : Int32) (x2 : Int32) (x3 : Int64) (x5 : Int32) (x6 : Int32) (x7 : Int32) (σ : St) : Option (Int32 × St) :=
  zn (0 : Int32) fun v19 => f_X12_points_97 x1 x2 x3 x5 x6 x7 v19 σ

def f_X12_points (a1 : Int32) (a2 : Int32) (a3 : Int64) (a4 : Int32) (a5 : Int32) (σ : St) : Option (Int32 × St) :=
  zn (sI σ 68 0 (0 : Int32)) fun s1 => bi (f_X12_isSegment a1 s1) fun r4 s3 => if r4 = 0 then (some ((0 : Int32), s3)) else (if a2 < 0 then (some ((0 : Int32), s3)) else (if (a2 - a2 / (4 : Int32) * (4 : Int32)) = 0 then (gd (ib a1 4) (if ((s3.1 71 a1.toNatClampNeg) - (8 : Int32)) < a2 then (some ((0 : Int32), s3)) else (gd (¬ (s3.1 68 5) = 0) (gd (¬ (s3.1 68 5) = 0) (if (a2 / (s3.1 68 5)) = ((a2 + (7 : Int32)) / (s3.1 68 5)) then (if a4 < 0 then (some ((0 : Int32), s3)) else (if a4 ≤ (255 : Int32) then (bi (f_X12_pointerAtPlace a1 a2 s3) fun r17 s16 => if r17 = (-1 : Int32) then (if (s16.1 68 10) = (100 : Int32) then (some ((0 : Int32), s16)) else (f_X12_points_94 a1 a2 a3 a4 a5 r17 s16)) else (f_X12_points_94 a1 a2 a3 a4 a5 r17 s16)) else (some ((0 : Int32), s3)))) else (some ((0 : Int32), s3))))))) else (some ((0 : Int32), s3))))

def f_X12_rebase (a1 : Int32) (a2 : Int32) (a3 : Int64) (a4 : Int32) (σ : St) : Option (Int32 × St) :=
  zn (sI σ 68 0 (0 : Int32)) fun s1 => if a3 < (0 : Int64) then (some ((0 : Int32), s1)) else (if (68719476736 : Int64) ≤ a3 then (some ((0 : Int32), s1)) else (bi (f_X12_points a1 a2 a3 a4 (0 : Int32) s1) fun r6 s5 => if r6 = 0 then (some ((0 : Int32), s5)) else (some ((1 : Int32), s5))))

def f_X12_bind (a1 : Int32) (a2 : Int32) (a3 : Int32) (a4 : Int32) (σ : St) : Option (Int32 × St) :=
  zn (sI σ 68 0 (0 : Int32)) fun s1 => if a3 < 0 then (some ((0 : Int32), s1)) else (if (s1.1 68 9) ≤ a3 then (some ((0 : Int32), s1)) else (bi (f_X12_points a1 a2 a3.toInt64 a4 (1 : Int32) s1) fun r6 s5 => if r6 = 0 then (some ((0 : Int32), s5)) else (some ((1 : Int32), s5))))

def f_X12_drop (a1 : Int32) (a2 : Int32) (σ : St) : Option (Int32 × St) :=
  zn (sI σ 68 0 (0 : Int32)) fun s1 => bi (f_X12_pointerAtPlace a1 a2 s1) fun r4 s3 => if r4 = (-1 : Int32) then (some ((0 : Int32), s3)) else (bv (f_X12_gone r4 s3) fun s7 => some ((1 : Int32), s7))

def f_X12_put_3b (K3 : (Int64 × Int32 × Int32 × St) → Option (St)) (x1 : Int64) (x3 : Int32) (x4 : Int32) (σ : St) : Option (St) :=
  if x3 ≤ x4 then (some σ) else (gd (ib (σ.1 68 31) 9000) (zn (sI σ 88 (σ.1 68 31).toNatClampNeg ((((zlshr x1 (((8 : Int32) * x4)))).toInt32 &&& (255 : Int32)))) fun s4 => zn (sI s4 68 31 (((s4.1 68 31) + (1 : Int32)))) fun s5 => zn (x4 + 1) fun v6 => K3 (x1, x3, v6, s5)))

def f_X12_put_3 (x1 : Int64) (x3 : Int32) (x4 : Int32) (σ : St) : Option (St) :=
  it (fun K a => f_X12_put_3b K a.1 a.2.1 a.2.2.1 a.2.2.2) FU (x1, x3, x4, σ)

def f_X12_put (a1 : Int64) (a2 : Int32) (σ : St) : Option (St) :=
  zn (0 : Int32) fun v1 => f_X12_put_3 a1 a2 v1 σ

def f_X12_putFours (a1 : Int64) (a2 : Int64) (a3 : Int64) (a4 : Int64) (σ : St) : Option (St) :=
  bv (f_X12_put a1 (4 : Int32) σ) fun s2 => bv (f_X12_put a2 (4 : Int32) s2) fun s4 => bv (f_X12_put a3 (4 : Int32) s4) fun s6 => bv (f_X12_put a4 (4 : Int32) s6) fun s8 => some s8

def f_X12_putName_2b (K2 : (Int32 × Int32 × Int32 × St) → Option (St)) (x1 : Int32) (x2 : Int32) (x3 : Int32) (σ : St) : Option (St) :=
  if x2 ≤ x3 then (some σ) else (gd (ib ((((16 : Int32) * x1) + x3)) 1312) (bv (f_X12_put (((σ.1 70 ((((16 : Int32) * x1) + x3)).toNatClampNeg)).toInt64) (1 : Int32) σ) fun s5 => zn (x3 + 1) fun v6 => K2 (x1, x2, v6, s5)))

def f_X12_putName_2 (x1 : Int32) (x2 : Int32) (x3 : Int32) (σ : St) : Option (St) :=
  it (fun K a => f_X12_putName_2b K a.1 a.2.1 a.2.2.1 a.2.2.2) FU (x1, x2, x3, σ)

def f_X12_putName (a1 : Int32) (a2 : Int32) (σ : St) : Option (St) :=
  zn (0 : Int32) fun v1 => f_X12_putName_2 a1 a2 v1 σ

def f_X12_even_0b (K0 : (Int32 × St) → Option (St)) (x1 : Int32) (σ : St) : Option (St) :=
  gd (¬ x1 = 0) (if ((σ.1 68 31) - (σ.1 68 31) / x1 * x1) = 0 then (some σ) else (bv (f_X12_put (0 : Int64) (1 : Int32) σ) fun s4 => K0 (x1, s4)))

def f_X12_even_0 (x1 : Int32) (σ : St) : Option (St) :=
  it (fun K a => f_X12_even_0b K a.1 a.2) FU (x1, σ)

def f_X12_even (a1 : Int32) (σ : St) : Option (St) :=
  f_X12_even_0 a1 σ

def f_X12_spanOf (a1 : Int32) (σ : St) : Option (Int32 × St) :=
  gd (ib a1 4) (gd (¬ (σ.1 68 5) = 0) (some ((((((σ.1 71 a1.toNatClampNeg) + (σ.1 68 5)) - (1 : Int32)) / (σ.1 68 5)) * (σ.1 68 5)), σ)))

def f_X12_addressOf_7b (K7 : (Int32 × Int32 × Int32 × St) → Option (Int32 × St)) (x1 : Int32) (x2 : Int32) (x3 : Int32) (σ : St) : Option (Int32 × St) :=
  if x1 ≤ x3 then (some (x2, σ)) else (bi (f_X12_spanOf x3 σ) fun r6 s5 => zn (x2 + r6) fun v7 => zn (x3 + 1) fun v8 => K7 (x1, v7, v8, s5))

def f_X12_addressOf_7 (x1 : Int32) (x2 : Int32) (x3 : Int32) (σ : St) : Option (Int32 × St) :=
  it (fun K a => f_X12_addressOf_7b K a.1 a.2.1 a.2.2.1 a.2.2.2) FU (x1, x2, x3, σ)

def f_X12_addressOf (a1 : Int32) (σ : St) : Option (Int32 × St) :=
  zn (σ.1 68 4) fun v1 => zn (0 : Int32) fun v2 => f_X12_addressOf_7 a1 v1 v2 σ

def f_X12_sectionsOf_25 (K4 : (Int32 × Int32 × Int32 × St) → Option (Int32 × St)) (x1 : Int32) (x2 : Int32) (x3 : Int32) (σ : St) : Option (Int32 × St) :=
  zn (x3 + 1) fun v6 => K4 (x1, x2, v6, σ)

def f_X12_sectionsOf_4b (K4 : (Int32 × Int32 × Int32 × St) → Option (Int32 × St)) (x1 : Int32) (x2 : Int32) (x3 : Int32) (σ : St) : Option (Int32 × St) :=
  if (σ.1 68 7) < x3 then (some (x2, σ)) else (gd (ib x3 9) (if (σ.1 74 x3.toNatClampNeg) = x1 then (zn (x2 + 1) fun v7 => f_X12_sectionsOf_25 K4 x1 v7 x3 σ) else (f_X12_sectionsOf_25 K4 x1 x2 x3 σ)))

def f_X12_sectionsOf_4 (x1 : Int32) (x2 : Int32) (x3 : Int32) (σ : St) : Option (Int32 × St) :=
  it (fun K a => f_X12_sectionsOf_4b K a.1 a.2.1 a.2.2.1 a.2.2.2) FU (x1, x2, x3, σ)

def f_X12_sectionsOf (a1 : Int32) (σ : St) : Option (Int32 × St) :=
  zn (0 : Int32) fun v1 => zn (1 : Int32) fun v2 => f_X12_sectionsOf_4 a1 v1 v2 σ

def f_X12_hasPointers_2b (K2 : (Int32 × Int32 × St) → Option (Int32 × St)) (x1 : Int32) (x2 : Int32) (σ : St) : Option (Int32 × St) :=
  if (σ.1 68 10) ≤ x2 then (some ((0 : Int32), σ)) else (gd (ib x2 101) (if (σ.1 81 x2.toNatClampNeg) = x1 then (some ((1 : Int32), σ)) else (zn (x2 + 1) fun v5 => K2 (x1, v5, σ))))

def f_X12_hasPointers_2 (x1 : Int32) (x2 : Int32) (σ : St) : Option (Int32 × St) :=
  it (fun K a => f_X12_hasPointers_2b K a.1 a.2.1 a.2.2) FU (x1, x2, σ)

def f_X12_hasPointers (a1 : Int32) (σ : St) : Option (Int32 × St) :=
  zn (0 : Int32) fun v1 => f_X12_hasPointers_2 a1 v1 σ

def f_X12_writeFixups_454b (K454 : (Int32 × Int32 × St) → Option (St)) (x5 : Int32) (x6 : Int32) (σ : St) : Option (St) :=
  if (σ.1 68 6) ≤ x6 then (zn (sI σ 68 31 x5) fun s30 => some s30) else (gd (ib x6 4) (bv (f_X12_put ((σ.1 90 x6.toNatClampNeg).toInt64) (4 : Int32) σ) fun s33 => zn (x6 + 1) fun v34 => K454 (x5, v34, s33)))

def f_X12_writeFixups_454 (x5 : Int32) (x6 : Int32) (σ : St) : Option (St) :=
  it (fun K a => f_X12_writeFixups_454b K a.1 a.2.1 a.2.2) FU (x5, x6, σ)

def f_X12_writeFixups_330b (K330 : (Int32 × Int32 × Int32 × St) → Option (St)) (x2 : Int32) (x4 : Int32) (x5 : Int32) (σ : St) : Option (St) :=
  if (σ.1 68 9) ≤ x5 then (zn (sI σ 68 34 (((σ.1 68 31) - (σ.1 68 33)))) fun s15 => zn (s15.1 68 31) fun v16 => zn (sI s15 68 31 (s15.1 68 33)) fun s17 => bv (f_X12_putFours (0 : Int64) (28 : Int64) (((x2 - (s17.1 68 33))).toInt64) (((x4 - (s17.1 68 33))).toInt64) s17) fun s19 => bv (f_X12_put ((s19.1 68 9).toInt64) (4 : Int32) s19) fun s21 => bv (f_X12_put (1 : Int64) (4 : Int32) s21) fun s23 => bv (f_X12_put (0 : Int64) (4 : Int32) s23) fun s25 => bv (f_X12_put ((s25.1 68 6).toInt64) (4 : Int32) s25) fun s27 => zn (0 : Int32) fun v28 => f_X12_writeFixups_454 v16 v28 s27) else (bi (f_X12_longOf (((32 : Int32) + x5)) σ) fun r37 s36 => bv (f_X12_putName (((32 : Int32) + x5)) r37 s36) fun s39 => bv (f_X12_put (0 : Int64) (1 : Int32) s39) fun s41 => zn (x5 + 1) fun v42 => K330 (x2, x4, v42, s41))

def f_X12_writeFixups_330 (x2 : Int32) (x4 : Int32) (x5 : Int32) (σ : St) : Option (St) :=
  it (fun K a => f_X12_writeFixups_330b K a.1 a.2.1 a.2.2.1 a.2.2.2) FU (x2, x4, x5, σ)

def f_X12_writeFixups_290 (K256 : (Int32 × Int32 × Int32 × St) → Option (St)) (x2 : Int32) (x3 : Int32) (x4 : Int32) (t0 : Int32) (t1 : Int32) (σ : St) : Option (St) :=
  bv (f_X12_put ((((t1 ||| t0) ||| (x3 <<< ((9 : Int32) &&& 31)))).toInt64) (4 : Int32) σ) fun s47 => bi (f_X12_longOf (((32 : Int32) + x4)) s47) fun r50 s49 => zn ((x3 + (r50 + (1 : Int32)))) fun v51 => zn (x4 + 1) fun v52 => K256 (x2, v51, v52, s49)

def f_X12_writeFixups_256b (K256 : (Int32 × Int32 × Int32 × St) → Option (St)) (x2 : Int32) (x3 : Int32) (x4 : Int32) (σ : St) : Option (St) :=
  if (σ.1 68 9) ≤ x4 then (zn (σ.1 68 31) fun v12 => zn (0 : Int32) fun v13 => f_X12_writeFixups_330 x2 v12 v13 σ) else (gd (ib x4 20) (gd (ib x4 20) (if (σ.1 80 x4.toNatClampNeg) = 0 then (f_X12_writeFixups_290 K256 x2 x3 x4 (0 : Int32) (σ.1 79 x4.toNatClampNeg) σ) else (f_X12_writeFixups_290 K256 x2 x3 x4 (256 : Int32) (σ.1 79 x4.toNatClampNeg) σ))))

def f_X12_writeFixups_256 (x2 : Int32) (x3 : Int32) (x4 : Int32) (σ : St) : Option (St) :=
  it (fun K a => f_X12_writeFixups_256b K a.1 a.2.1 a.2.2.1 a.2.2.2) FU (x2, x3, x4, σ)

def f_X12_writeFixups_235 (K32 : (Int32 × Int32 × St) → Option (St)) (x1 : Int32) (x2 : Int32) (σ : St) : Option (St) :=
  zn (x2 + 1) fun v85 => K32 (x1, v85, σ)

def f_X12_writeFixups_215 (K168 : (Int32 × Int32 × Int32 × Int32 × Int32 × Int32 × St) → Option (St)) (x1 : Int32) (x2 : Int32) (x3 : Int32) (x4 : Int32) (x5 : Int32) (x6 : Int32) (σ : St) : Option (St) :=
  zn (x6 + (-1)) fun v94 => K168 (x1, x2, x3, x4, x5, v94, σ)

def f_X12_writeFixups_168b (K149 : (Int32 × Int32 × Int32 × Int32 × St) → Option (St)) (K168 : (Int32 × Int32 × Int32 × Int32 × Int32 × Int32 × St) → Option (St)) (x1 : Int32) (x2 : Int32) (x3 : Int32) (x4 : Int32) (x5 : Int32) (x6 : Int32) (σ : St) : Option (St) :=
  if x6 < 0 then (bv (f_X12_put x5.toInt64 (2 : Int32) σ) fun s90 => zn (x4 + 1) fun v91 => K149 (x1, x2, x3, v91, s90)) else (gd (ib x6 101) (if (σ.1 81 x6.toNatClampNeg) = x2 then (gd (ib x6 101) (gd (¬ (σ.1 68 5) = 0) (if ((σ.1 82 x6.toNatClampNeg) / (σ.1 68 5)) = x4 then (gd (ib x6 101) (gd (¬ (σ.1 68 5) = 0) (zn (((σ.1 82 x6.toNatClampNeg) - (σ.1 82 x6.toNatClampNeg) / (σ.1 68 5) * (σ.1 68 5))) fun v100 => f_X12_writeFixups_215 K168 x1 x2 x3 x4 v100 x6 σ))) else (f_X12_writeFixups_215 K168 x1 x2 x3 x4 x5 x6 σ)))) else (f_X12_writeFixups_215 K168 x1 x2 x3 x4 x5 x6 σ)))

def f_X12_writeFixups_168 (K149 : (Int32 × Int32 × Int32 × Int32 × St) → Option (St)) (x1 : Int32) (x2 : Int32) (x3 : Int32) (x4 : Int32) (x5 : Int32) (x6 : Int32) (σ : St) : Option (St) :=
  it (fun K a => f_X12_writeFixups_168b K149 K a.1 a.2.1 a.2.2.1 a.2.2.2.1 a.2.2.2.2.1 a.2.2.2.2.2.1 a.2.2.2.2.2.2) FU (x1, x2, x3, x4, x5, x6, σ)

def f_X12_writeFixups_149b (K32 : (Int32 × Int32 × St) → Option (St)) (K149 : (Int32 × Int32 × Int32 × Int32 × St) → Option (St)) (x1 : Int32) (x2 : Int32) (x3 : Int32) (x4 : Int32) (σ : St) : Option (St) :=
  if x3 ≤ x4 then (f_X12_writeFixups_235 K32 x1 x2 σ) else (zn (65535 : Int32) fun v86 => zn (((σ.1 68 10) - (1 : Int32))) fun v87 => f_X12_writeFixups_168 K149 x1 x2 x3 x4 v86 v87 σ)

def f_X12_writeFixups_149 (K32 : (Int32 × Int32 × St) → Option (St)) (x1 : Int32) (x2 : Int32) (x3 : Int32) (x4 : Int32) (σ : St) : Option (St) :=
  it (fun K a => f_X12_writeFixups_149b K32 K a.1 a.2.1 a.2.2.1 a.2.2.2.1 a.2.2.2.2) FU (x1, x2, x3, x4, σ)

def f_X12_writeFixups_32b (K32 : (Int32 × Int32 × St) → Option (St)) (x1 : Int32) (x2 : Int32) (σ : St) : Option (St) :=
  if (σ.1 68 6) ≤ x2 then (bv (f_X12_even (4 : Int32) σ) fun s7 => zn (s7.1 68 31) fun v8 => zn (0 : Int32) fun v9 => zn (0 : Int32) fun v10 => f_X12_writeFixups_256 v8 v9 v10 s7) else (gd (ib x2 4) (zn (sI σ 90 x2.toNatClampNeg (0 : Int32)) fun s54 => bi (f_X12_hasPointers x2 s54) fun r57 s56 => if r57 = 0 then (f_X12_writeFixups_235 K32 x1 x2 s56) else (bv (f_X12_even (4 : Int32) s56) fun s60 => gd (ib x2 4) (zn (sI s60 90 x2.toNatClampNeg (((s60.1 68 31) - x1))) fun s62 => bi (f_X12_spanOf x2 s62) fun r65 s64 => gd (¬ (s64.1 68 5) = 0) (zn ((r65 / (s64.1 68 5))) fun v67 => bv (f_X12_put ((((22 : Int32) + ((2 : Int32) * v67))).toInt64) (4 : Int32) s64) fun s69 => bv (f_X12_put ((s69.1 68 5).toInt64) (2 : Int32) s69) fun s71 => bv (f_X12_put (2 : Int64) (2 : Int32) s71) fun s73 => bi (f_X12_addressOf x2 s73) fun r76 s75 => bv (f_X12_put (((r76 - (s75.1 68 4))).toInt64) (8 : Int32) s75) fun s78 => bv (f_X12_put (0 : Int64) (4 : Int32) s78) fun s80 => bv (f_X12_put v67.toInt64 (2 : Int32) s80) fun s82 => zn (0 : Int32) fun v83 => f_X12_writeFixups_149 K32 x1 x2 v67 v83 s82)))))

def f_X12_writeFixups_32 (x1 : Int32) (x2 : Int32) (σ : St) : Option (St) :=
  it (fun K a => f_X12_writeFixups_32b K a.1 a.2.1 a.2.2) FU (x1, x2, σ)

def f_X12_writeFixups (σ : St) : Option (St) :=
  zn (sI σ 68 33 (σ.1 68 31)) fun s1 => zn (((s1.1 68 31) + (28 : Int32))) fun v2 => zn (sI s1 68 31 (((v2 + (4 : Int32)) + ((4 : Int32) * (s1.1 68 6))))) fun s3 => zn (0 : Int32) fun v4 => f_X12_writeFixups_32 v2 v4 s3

def f_X12_writePointers_137 (K2 : (Int32 × St) → Option (St)) (x1 : Int32) (x3 : Int64) (σ : St) : Option (St) :=
  gd (ib x1 101) (gd (ib (σ.1 81 x1.toNatClampNeg) 4) (gd (ib x1 101) (zn (sI σ 68 31 (((σ.1 89 (σ.1 81 x1.toNatClampNeg).toNatClampNeg) + (σ.1 82 x1.toNatClampNeg)))) fun s15 => bv (f_X12_put x3 (8 : Int32) s15) fun s17 => zn (x1 + 1) fun v18 => K2 (v18, s17))))

def f_X12_writePointers_113 (K2 : (Int32 × St) → Option (St)) (x1 : Int32) (x2 : Int32) (t0 : Int32) (t1 : Int64) (t2 : Int64) (σ : St) : Option (St) :=
  zn (((t2 ||| (zlshl t1 t0)) ||| (zlshl x2.toInt64 (51 : Int32)))) fun v9 => gd (ib x1 101) (if (σ.1 85 x1.toNatClampNeg) = 0 then (f_X12_writePointers_137 K2 x1 v9 σ) else (zn ((v9 ||| (-9223372036854775808 : Int64))) fun v19 => f_X12_writePointers_137 K2 x1 v19 σ))

def f_X12_writePointers_84 (K2 : (Int32 × St) → Option (St)) (x1 : Int32) (x2 : Int32) (σ : St) : Option (St) :=
  gd (ib x1 101) (gd (ib x1 101) (gd (ib x1 101) (if (σ.1 85 x1.toNatClampNeg) = 0 then (f_X12_writePointers_113 K2 x1 x2 (36 : Int32) ((σ.1 83 x1.toNatClampNeg).toInt64) (σ.2 84 x1.toNatClampNeg) σ) else (f_X12_writePointers_113 K2 x1 x2 (24 : Int32) ((σ.1 83 x1.toNatClampNeg).toInt64) (σ.2 84 x1.toNatClampNeg) σ))))

def f_X12_writePointers_2b (K2 : (Int32 × St) → Option (St)) (x1 : Int32) (σ : St) : Option (St) :=
  if (σ.1 68 10) ≤ x1 then (some σ) else (zn (0 : Int32) fun v3 => if (σ.1 68 10) ≤ (x1 + (1 : Int32)) then (f_X12_writePointers_84 K2 x1 v3 σ) else (gd (ib ((x1 + (1 : Int32))) 101) (gd (ib x1 101) (if (σ.1 81 ((x1 + (1 : Int32))).toNatClampNeg) = (σ.1 81 x1.toNatClampNeg) then (gd (ib ((x1 + (1 : Int32))) 101) (gd (¬ (σ.1 68 5) = 0) (gd (ib x1 101) (gd (¬ (σ.1 68 5) = 0) (if ((σ.1 82 ((x1 + (1 : Int32))).toNatClampNeg) / (σ.1 68 5)) = ((σ.1 82 x1.toNatClampNeg) / (σ.1 68 5)) then (gd (ib ((x1 + (1 : Int32))) 101) (gd (ib x1 101) (zn ((((σ.1 82 ((x1 + (1 : Int32))).toNatClampNeg) - (σ.1 82 x1.toNatClampNeg)) / (4 : Int32))) fun v30 => f_X12_writePointers_84 K2 x1 v30 σ))) else (f_X12_writePointers_84 K2 x1 v3 σ)))))) else (f_X12_writePointers_84 K2 x1 v3 σ)))))

def f_X12_writePointers_2 (x1 : Int32) (σ : St) : Option (St) :=
  it (fun K a => f_X12_writePointers_2b K a.1 a.2) FU (x1, σ)

def f_X12_writePointers (σ : St) : Option (St) :=
  zn (0 : Int32) fun v1 => f_X12_writePointers_2 v1 σ

def f_X12_writeCommands_261 (K145 : (Int32 × Int32 × St) → Option (St)) (x2 : Int32) (x4 : Int32) (σ : St) : Option (St) :=
  zn (x4 + 1) fun v67 => K145 (x2, v67, σ)

def f_X12_writeCommands_242b (K145 : (Int32 × Int32 × St) → Option (St)) (K242 : (Int32 × Int32 × Int32 × St) → Option (St)) (x2 : Int32) (x4 : Int32) (x5 : Int32) (σ : St) : Option (St) :=
  if (7 : Int32) ≤ x5 then (f_X12_writeCommands_261 K145 x2 x4 σ) else (bv (f_X12_put (0 : Int64) (4 : Int32) σ) fun s69 => zn (x5 + 1) fun v70 => K242 (x2, x4, v70, s69))

def f_X12_writeCommands_242 (K145 : (Int32 × Int32 × St) → Option (St)) (x2 : Int32) (x4 : Int32) (x5 : Int32) (σ : St) : Option (St) :=
  it (fun K a => f_X12_writeCommands_242b K145 K a.1 a.2.1 a.2.2.1 a.2.2.2) FU (x2, x4, x5, σ)

def f_X12_writeCommands_145b (K33 : (Int32 × St) → Option (St)) (K145 : (Int32 × Int32 × St) → Option (St)) (x2 : Int32) (x4 : Int32) (σ : St) : Option (St) :=
  if (σ.1 68 7) < x4 then (zn (x2 + 1) fun v45 => K33 (v45, σ)) else (gd (ib x4 9) (if (σ.1 74 x4.toNatClampNeg) = x2 then (bv (f_X12_putName (((3 : Int32) + x4)) (16 : Int32) σ) fun s49 => bv (f_X12_putName x2 (16 : Int32) s49) fun s51 => bi (f_X12_addressOf x2 s51) fun r54 s53 => gd (ib x4 9) (bv (f_X12_put (((r54 + (s53.1 75 x4.toNatClampNeg))).toInt64) (8 : Int32) s53) fun s57 => gd (ib x4 9) (bv (f_X12_put ((s57.1 76 x4.toNatClampNeg).toInt64) (8 : Int32) s57) fun s60 => gd (ib x2 4) (gd (ib x4 9) (bv (f_X12_put ((((s60.1 89 x2.toNatClampNeg) + (s60.1 75 x4.toNatClampNeg))).toInt64) (4 : Int32) s60) fun s64 => zn (0 : Int32) fun v65 => f_X12_writeCommands_242 K145 x2 x4 v65 s64))))) else (f_X12_writeCommands_261 K145 x2 x4 σ)))

def f_X12_writeCommands_145 (K33 : (Int32 × St) → Option (St)) (x2 : Int32) (x4 : Int32) (σ : St) : Option (St) :=
  it (fun K a => f_X12_writeCommands_145b K33 K a.1 a.2.1 a.2.2) FU (x2, x4, σ)

def f_X12_writeCommands_33b (K33 : (Int32 × St) → Option (St)) (x2 : Int32) (σ : St) : Option (St) :=
  if (σ.1 68 6) ≤ x2 then (bv (f_X12_putFours (2 : Int64) (24 : Int64) ((σ.1 68 35).toInt64) ((σ.1 68 8).toInt64) σ) fun s8 => bv (f_X12_put ((s8.1 68 36).toInt64) (4 : Int32) s8) fun s10 => bv (f_X12_put ((s10.1 68 37).toInt64) (4 : Int32) s10) fun s12 => bv (f_X12_putFours (2147483700 : Int64) (16 : Int64) ((s12.1 68 33).toInt64) ((s12.1 68 34).toInt64) s12) fun s14 => some s14) else (bi (f_X12_sectionsOf x2 σ) fun r17 s16 => bv (f_X12_put (25 : Int64) (4 : Int32) s16) fun s19 => bv (f_X12_put ((((72 : Int32) + ((80 : Int32) * r17))).toInt64) (4 : Int32) s19) fun s21 => bv (f_X12_putName x2 (16 : Int32) s21) fun s23 => bi (f_X12_addressOf x2 s23) fun r26 s25 => bv (f_X12_put r26.toInt64 (8 : Int32) s25) fun s28 => bi (f_X12_spanOf x2 s28) fun r31 s30 => bv (f_X12_put r31.toInt64 (8 : Int32) s30) fun s33 => gd (ib x2 4) (bv (f_X12_put ((s33.1 89 x2.toNatClampNeg).toInt64) (8 : Int32) s33) fun s36 => gd (ib x2 4) (bv (f_X12_put ((s36.1 71 x2.toNatClampNeg).toInt64) (8 : Int32) s36) fun s39 => gd (ib x2 4) (bv (f_X12_putFours (7 : Int64) ((s39.1 72 x2.toNatClampNeg).toInt64) r17.toInt64 (0 : Int64) s39) fun s42 => zn (1 : Int32) fun v43 => f_X12_writeCommands_145 K33 x2 v43 s42))))

def f_X12_writeCommands_33 (x2 : Int32) (σ : St) : Option (St) :=
  it (fun K a => f_X12_writeCommands_33b K a.1 a.2) FU (x2, σ)

def f_X12_writeCommands (a1 : Int32) (σ : St) : Option (St) :=
  bv (f_X12_putFours (4277009103 : Int64) (16777228 : Int64) (0 : Int64) (6 : Int64) σ) fun s2 => bv (f_X12_putFours ((((s2.1 68 6) + (2 : Int32))).toInt64) a1.toInt64 (133 : Int64) (0 : Int64) s2) fun s4 => zn (0 : Int32) fun v5 => f_X12_writeCommands_33 v5 s4

def f_X12_write_261b (K261 : (Int32 × Int32 × St) → Option (Int32 × St)) (x1 : Int32) (x3 : Int32) (σ : St) : Option (Int32 × St) :=
  if (σ.1 68 8) ≤ x3 then (zn (sI σ 68 37 (((σ.1 68 31) - (σ.1 68 36)))) fun s25 => zn (sI s25 68 30 (s25.1 68 31)) fun s26 => bv (f_X12_writePointers s26) fun s28 => zn (sI s28 68 31 (0 : Int32)) fun s29 => bv (f_X12_writeCommands x1 s29) fun s31 => some ((s31.1 68 30), s31)) else (bi (f_X12_longOf (((12 : Int32) + x3)) σ) fun r34 s33 => bv (f_X12_putName (((12 : Int32) + x3)) r34 s33) fun s36 => bv (f_X12_put (0 : Int64) (1 : Int32) s36) fun s38 => zn (x3 + 1) fun v39 => K261 (x1, v39, s38))

def f_X12_write_261 (x1 : Int32) (x3 : Int32) (σ : St) : Option (Int32 × St) :=
  it (fun K a => f_X12_write_261b K a.1 a.2.1 a.2.2) FU (x1, x3, σ)

def f_X12_write_142b (K142 : (Int32 × Int32 × Int32 × St) → Option (Int32 × St)) (x1 : Int32) (x2 : Int32) (x3 : Int32) (σ : St) : Option (Int32 × St) :=
  if (σ.1 68 8) ≤ x3 then (bv (f_X12_even (8 : Int32) σ) fun s19 => zn (sI s19 68 36 (s19.1 68 31)) fun s20 => bv (f_X12_put (0 : Int64) (1 : Int32) s20) fun s22 => zn (0 : Int32) fun v23 => f_X12_write_261 x1 v23 s22) else (gd (ib x3 20) (zn (σ.1 77 x3.toNatClampNeg) fun v41 => bv (f_X12_put x2.toInt64 (4 : Int32) σ) fun s43 => bv (f_X12_put (15 : Int64) (1 : Int32) s43) fun s45 => bv (f_X12_put v41.toInt64 (1 : Int32) s45) fun s47 => bv (f_X12_put (0 : Int64) (2 : Int32) s47) fun s49 => gd (ib v41 9) (bi (f_X12_addressOf (s49.1 74 v41.toNatClampNeg) s49) fun r53 s52 => gd (ib v41 9) (gd (ib x3 20) (bv (f_X12_put ((((r53 + (s52.1 75 v41.toNatClampNeg)) + (s52.1 78 x3.toNatClampNeg))).toInt64) (8 : Int32) s52) fun s57 => bi (f_X12_longOf (((12 : Int32) + x3)) s57) fun r60 s59 => zn ((x2 + (r60 + (1 : Int32)))) fun v61 => zn (x3 + 1) fun v62 => K142 (x1, v61, v62, s59))))))

def f_X12_write_142 (x1 : Int32) (x2 : Int32) (x3 : Int32) (σ : St) : Option (Int32 × St) :=
  it (fun K a => f_X12_write_142b K a.1 a.2.1 a.2.2.1 a.2.2.2) FU (x1, x2, x3, σ)

def f_X12_write_74b (K48 : (Int32 × Int32 × St) → Option (Int32 × St)) (K74 : (Int32 × Int32 × Int32 × St) → Option (Int32 × St)) (x1 : Int32) (x2 : Int32) (x3 : Int32) (σ : St) : Option (Int32 × St) :=
  gd (ib x2 4) (if (σ.1 71 x2.toNatClampNeg) ≤ x3 then (zn (x2 + 1) fun v70 => K48 (x1, v70, σ)) else (gd (ib ((((1024 : Int32) * x2) + x3)) 4096) (bv (f_X12_put (((σ.1 73 ((((1024 : Int32) * x2) + x3)).toNatClampNeg)).toInt64) (1 : Int32) σ) fun s73 => zn (x3 + 1) fun v74 => K74 (x1, x2, v74, s73))))

def f_X12_write_74 (K48 : (Int32 × Int32 × St) → Option (Int32 × St)) (x1 : Int32) (x2 : Int32) (x3 : Int32) (σ : St) : Option (Int32 × St) :=
  it (fun K a => f_X12_write_74b K48 K a.1 a.2.1 a.2.2.1 a.2.2.2) FU (x1, x2, x3, σ)

def f_X12_write_48b (K48 : (Int32 × Int32 × St) → Option (Int32 × St)) (x1 : Int32) (x2 : Int32) (σ : St) : Option (Int32 × St) :=
  if (σ.1 68 6) ≤ x2 then (bv (f_X12_even (8 : Int32) σ) fun s9 => bv (f_X12_writeFixups s9) fun s11 => bv (f_X12_even (8 : Int32) s11) fun s13 => zn (sI s13 68 35 (s13.1 68 31)) fun s14 => zn (1 : Int32) fun v15 => zn (0 : Int32) fun v16 => f_X12_write_142 x1 v15 v16 s14) else (bv (f_X12_even (8 : Int32) σ) fun s64 => gd (ib x2 4) (zn (sI s64 89 x2.toNatClampNeg (s64.1 68 31)) fun s66 => zn (0 : Int32) fun v67 => f_X12_write_74 K48 x1 x2 v67 s66))

def f_X12_write_48 (x1 : Int32) (x2 : Int32) (σ : St) : Option (Int32 × St) :=
  it (fun K a => f_X12_write_48b K a.1 a.2.1 a.2.2) FU (x1, x2, σ)

def f_X12_write_10b (K10 : (Int32 × Int32 × St) → Option (Int32 × St)) (x1 : Int32) (x2 : Int32) (σ : St) : Option (Int32 × St) :=
  if (σ.1 68 6) ≤ x2 then (zn (sI σ 68 31 (((32 : Int32) + x1))) fun s5 => zn (0 : Int32) fun v6 => f_X12_write_48 x1 v6 s5) else (bi (f_X12_sectionsOf x2 σ) fun r77 s76 => zn ((x1 + ((72 : Int32) + ((80 : Int32) * r77)))) fun v78 => zn (x2 + 1) fun v79 => K10 (v78, v79, s76))

def f_X12_write_10 (x1 : Int32) (x2 : Int32) (σ : St) : Option (Int32 × St) :=
  it (fun K a => f_X12_write_10b K a.1 a.2.1 a.2.2) FU (x1, x2, σ)

def f_X12_write (σ : St) : Option (Int32 × St) :=
  zn (sI σ 68 0 (0 : Int32)) fun s1 => zn (40 : Int32) fun v2 => zn (0 : Int32) fun v3 => f_X12_write_10 v2 v3 s1

def f_X12_image (a1 : Int32) (σ : St) : Option (Int32 × St) :=
  zn (sI σ 68 0 (0 : Int32)) fun s1 => if a1 < 0 then (some ((-1 : Int32), s1)) else (if a1 < (s1.1 68 30) then (gd (ib a1 9000) (some ((s1.1 88 a1.toNatClampNeg), s1))) else (some ((-1 : Int32), s1)))

def f_X12_damage (a1 : Int32) (a2 : Int32) (σ : St) : Option (Int32 × St) :=
  zn (sI σ 68 0 (0 : Int32)) fun s1 => if a1 < 0 then (some ((0 : Int32), s1)) else (if (s1.1 68 30) ≤ a1 then (some ((0 : Int32), s1)) else (if a2 < 0 then (some ((0 : Int32), s1)) else (if a2 ≤ (255 : Int32) then (gd (ib a1 9000) (zn (sI s1 88 a1.toNatClampNeg a2) fun s7 => some ((1 : Int32), s7))) else (some ((0 : Int32), s1)))))

def f_X12_cut (a1 : Int32) (σ : St) : Option (Int32 × St) :=
  zn (sI σ 68 0 (0 : Int32)) fun s1 => if a1 < 0 then (some ((0 : Int32), s1)) else (if a1 ≤ (s1.1 68 30) then (zn (sI s1 68 30 a1) fun s4 => some ((1 : Int32), s4)) else (some ((0 : Int32), s1)))

def f_X12_isTaped_13b (K13 : (Int32 × Int32 × Int32 × St) → Option (Int32 × St)) (x1 : Int32) (x2 : Int32) (x3 : Int32) (σ : St) : Option (Int32 × St) :=
  if x2 ≤ x3 then (some ((1 : Int32), σ)) else (gd (ib ((((16 : Int32) * x1) + x3)) 1312) (gd (ib x3 1040) (if (σ.1 70 ((((16 : Int32) * x1) + x3)).toNatClampNeg) = (σ.1 69 x3.toNatClampNeg) then (zn (x3 + 1) fun v10 => K13 (x1, x2, v10, σ)) else (some ((0 : Int32), σ)))))

def f_X12_isTaped_13 (x1 : Int32) (x2 : Int32) (x3 : Int32) (σ : St) : Option (Int32 × St) :=
  it (fun K a => f_X12_isTaped_13b K a.1 a.2.1 a.2.2.1 a.2.2.2) FU (x1, x2, x3, σ)

def f_X12_isTaped (a1 : Int32) (a2 : Int32) (σ : St) : Option (Int32 × St) :=
  bi (f_X12_longOf a1 σ) fun r3 s2 => if r3 = a2 then (zn (0 : Int32) fun v5 => f_X12_isTaped_13 a1 a2 v5 s2) else (some ((0 : Int32), s2))

def f_X12_export_19 (σ : St) : Option (Int32 × St) :=
  zn (sI σ 68 2 (0 : Int32)) fun s3 => some ((0 : Int32), s3)

def f_X12_export_239 (x2 : Int32) (x5 : Int32) (σ : St) : Option (Int32 × St) :=
  gd (ib x5 30) (zn (sI σ 87 x5.toNatClampNeg x2) fun s17 => some ((1 : Int32), s17))

def f_X12_export_214 (K175 : (Int32 × Int32 × Int32 × Int32 × Int32 × St) → Option (Int32 × St)) (x1 : Int32) (x2 : Int32) (x3 : Int32) (x5 : Int32) (x6 : Int32) (t0 : Int32) (t1 : Int32) (σ : St) : Option (Int32 × St) :=
  gd (ib t1 1312) (zn (sI σ 70 t1.toNatClampNeg t0) fun s25 => zn (x6 + 1) fun v26 => K175 (x1, x2, x3, x5, v26, s25))

def f_X12_export_175b (K175 : (Int32 × Int32 × Int32 × Int32 × Int32 × St) → Option (Int32 × St)) (x1 : Int32) (x2 : Int32) (x3 : Int32) (x5 : Int32) (x6 : Int32) (σ : St) : Option (Int32 × St) :=
  if (16 : Int32) ≤ x6 then (gd (ib x5 30) (zn (sI σ 86 x5.toNatClampNeg x1) fun s21 => zn (sI s21 68 11 (((s21.1 68 11) + (1 : Int32)))) fun s22 => f_X12_export_239 x2 x5 s22)) else (if x3 ≤ x6 then (f_X12_export_214 K175 x1 x2 x3 x5 x6 (0 : Int32) ((((16 : Int32) * ((52 : Int32) + x5)) + x6)) σ) else (gd (ib x6 1040) (f_X12_export_214 K175 x1 x2 x3 x5 x6 (σ.1 69 x6.toNatClampNeg) ((((16 : Int32) * ((52 : Int32) + x5)) + x6)) σ)))

def f_X12_export_175 (x1 : Int32) (x2 : Int32) (x3 : Int32) (x5 : Int32) (x6 : Int32) (σ : St) : Option (Int32 × St) :=
  it (fun K a => f_X12_export_175b K a.1 a.2.1 a.2.2.1 a.2.2.2.1 a.2.2.2.2.1 a.2.2.2.2.2) FU (x1, x2, x3, x5, x6, σ)

def f_X12_export_154 (x1 : Int32) (x2 : Int32) (x3 : Int32) (x5 : Int32) (σ : St) : Option (Int32 × St) :=
  if x5 = (30 : Int32) then (some ((0 : Int32), σ)) else (if x5 = (σ.1 68 11) then (zn (0 : Int32) fun v18 => f_X12_export_175 x1 x2 x3 x5 v18 σ) else (f_X12_export_239 x2 x5 σ))

def f_X12_export_148 (K115 : (Int32 × Int32 × Int32 × Int32 × St) → Option (Int32 × St)) (x1 : Int32) (x2 : Int32) (x3 : Int32) (x5 : Int32) (σ : St) : Option (Int32 × St) :=
  zn (x5 + 1) fun v30 => K115 (x1, x2, x3, v30, σ)

def f_X12_export_115b (K115 : (Int32 × Int32 × Int32 × Int32 × St) → Option (Int32 × St)) (x1 : Int32) (x2 : Int32) (x3 : Int32) (x5 : Int32) (σ : St) : Option (Int32 × St) :=
  if (σ.1 68 11) ≤ x5 then (f_X12_export_154 x1 x2 x3 x5 σ) else (gd (ib x5 30) (if (σ.1 86 x5.toNatClampNeg) = x1 then (bi (f_X12_isTaped (((52 : Int32) + x5)) x3 σ) fun r33 s32 => if r33 = 0 then (f_X12_export_148 K115 x1 x2 x3 x5 s32) else (f_X12_export_154 x1 x2 x3 x5 s32)) else (f_X12_export_148 K115 x1 x2 x3 x5 σ)))

def f_X12_export_115 (x1 : Int32) (x2 : Int32) (x3 : Int32) (x5 : Int32) (σ : St) : Option (Int32 × St) :=
  it (fun K a => f_X12_export_115b K a.1 a.2.1 a.2.2.1 a.2.2.2.1 a.2.2.2.2) FU (x1, x2, x3, x5, σ)

def f_X12_export_100 (x1 : Int32) (x2 : Int32) (x3 : Int32) (x4 : Int32) (σ : St) : Option (Int32 × St) :=
  zn (sI σ 68 2 (0 : Int32)) fun s10 => if x4 = 0 then (some ((0 : Int32), s10)) else (zn (0 : Int32) fun v12 => f_X12_export_115 x1 x2 x3 v12 s10)

def f_X12_export_92 (K52 : (Int32 × Int32 × Int32 × Int32 × Int32 × St) → Option (Int32 × St)) (x1 : Int32) (x2 : Int32) (x3 : Int32) (x5 : Int32) (t0 : Int32) (σ : St) : Option (Int32 × St) :=
  zn (x5 + 1) fun v38 => K52 (x1, x2, x3, t0, v38, σ)

def f_X12_export_91 (K52 : (Int32 × Int32 × Int32 × Int32 × Int32 × St) → Option (Int32 × St)) (x1 : Int32) (x2 : Int32) (x3 : Int32) (x5 : Int32) (σ : St) : Option (Int32 × St) :=
  f_X12_export_92 K52 x1 x2 x3 x5 (0 : Int32) σ

def f_X12_export_52b (K52 : (Int32 × Int32 × Int32 × Int32 × Int32 × St) → Option (Int32 × St)) (x1 : Int32) (x2 : Int32) (x3 : Int32) (x4 : Int32) (x5 : Int32) (σ : St) : Option (Int32 × St) :=
  if x3 ≤ x5 then (f_X12_export_100 x1 x2 x3 x4 σ) else (if x4 = 0 then (f_X12_export_100 x1 x2 x3 x4 σ) else (gd (ib x5 1040) (if (σ.1 69 x5.toNatClampNeg) ≤ (32 : Int32) then (f_X12_export_91 K52 x1 x2 x3 x5 σ) else (gd (ib x5 1040) (if (127 : Int32) ≤ (σ.1 69 x5.toNatClampNeg) then (f_X12_export_91 K52 x1 x2 x3 x5 σ) else (f_X12_export_92 K52 x1 x2 x3 x5 (1 : Int32) σ))))))

def f_X12_export_52 (x1 : Int32) (x2 : Int32) (x3 : Int32) (x4 : Int32) (x5 : Int32) (σ : St) : Option (Int32 × St) :=
  it (fun K a => f_X12_export_52b K a.1 a.2.1 a.2.2.1 a.2.2.2.1 a.2.2.2.2.1 a.2.2.2.2.2) FU (x1, x2, x3, x4, x5, σ)

def f_X12_export_47 (x1 : Int32) (x2 : Int32) (x3 : Int32) (t0 : Int32) (σ : St) : Option (Int32 × St) :=
  zn (0 : Int32) fun v8 => f_X12_export_52 x1 x2 x3 t0 v8 σ

def f_X12_export_46 (x1 : Int32) (x2 : Int32) (x3 : Int32) (σ : St) : Option (Int32 × St) :=
  f_X12_export_47 x1 x2 x3 (0 : Int32) σ

def f_X12_export (a1 : Int32) (a2 : Int32) (σ : St) : Option (Int32 × St) :=
  zn (sI σ 68 0 (0 : Int32)) fun s1 => if a1 < (1 : Int32) then (f_X12_export_19 s1) else (if (3 : Int32) < a1 then (f_X12_export_19 s1) else (if 0 ≤ a2 then (zn (s1.1 68 2) fun v6 => if v6 < (1 : Int32) then (f_X12_export_46 a1 a2 v6 s1) else (if (16 : Int32) < v6 then (f_X12_export_46 a1 a2 v6 s1) else (f_X12_export_47 a1 a2 v6 (1 : Int32) s1))) else (f_X12_export_19 s1)))

def f_X12_four (a1 : Int64) (σ : St) : Option (Int64 × St) :=
  zn a1.toInt32 fun v1 => gd (ib v1 9000) (gd (ib ((v1 + (1 : Int32))) 9000) (gd (ib ((v1 + (2 : Int32))) 9000) (gd (ib ((v1 + (3 : Int32))) 9000) (some ((((((σ.1 88 v1.toNatClampNeg) ||| ((σ.1 88 ((v1 + (1 : Int32))).toNatClampNeg) <<< ((8 : Int32) &&& 31))) ||| ((σ.1 88 ((v1 + (2 : Int32))).toNatClampNeg) <<< ((16 : Int32) &&& 31)))).toInt64 ||| (zlshl (((σ.1 88 ((v1 + (3 : Int32))).toNatClampNeg)).toInt64) (24 : Int32))), σ)))))

def f_X12_two (a1 : Int64) (σ : St) : Option (Int32 × St) :=
  gd (ib a1.toInt32 9000) (gd (ib ((a1.toInt32 + (1 : Int32))) 9000) (some (((σ.1 88 a1.toInt32.toNatClampNeg) ||| ((σ.1 88 ((a1.toInt32 + (1 : Int32))).toNatClampNeg) <<< ((8 : Int32) &&& 31))), σ)))

def f_X12_eight (a1 : Int64) (σ : St) : Option (Int64 × St) :=
  bi (f_X12_four a1 σ) fun r3 s2 => bi (f_X12_four ((a1 + (4 : Int64))) s2) fun r6 s5 => some ((r3 ||| (zlshl r6 (32 : Int32))), s5)

def f_X12_bad (a1 : Int32) (a2 : Int64) (σ : St) : Option (Int32 × St) :=
  zn (sI σ 68 39 a1) fun s1 => zn (sJ s1 68 40 a2) fun s2 => some ((0 : Int32), s2)

def f_X12_isNumber_20 (x1 : Int64) (σ : St) : Option (Int32 × St) :=
  bi (f_X12_bad (5 : Int32) x1 σ) fun r7 s6 => if r7 = 0 then (some ((0 : Int32), s6)) else (some ((1 : Int32), s6))

def f_X12_isNumber (a1 : Int64) (σ : St) : Option (Int32 × St) :=
  bi (f_X12_eight a1 σ) fun r3 s2 => if r3 < (0 : Int64) then (f_X12_isNumber_20 a1 s2) else (if r3 ≤ (2147483647 : Int64) then (some ((1 : Int32), s2)) else (f_X12_isNumber_20 a1 s2))

def f_X12_readChains (a1 : Int64) (a2 : Int64) (σ : St) : Option (Int32 × St) :=
  if (σ.1 68 49) = 0 then (if a2 = (16 : Int64) then (zn (sI σ 68 49 (1 : Int32)) fun s3 => bi (f_X12_four ((a1 + (8 : Int64))) s3) fun r6 s5 => zn (sJ s5 68 54 r6) fun s7 => bi (f_X12_four ((a1 + (12 : Int64))) s7) fun r10 s9 => zn (sJ s9 68 55 (((s7.2 68 54) + r10))) fun s11 => if (s11.2 68 55) ≤ (s11.1 68 30).toInt64 then (some ((1 : Int32), s11)) else (bi (f_X12_bad (1 : Int32) ((a1 + (8 : Int64))) s11) fun r15 s14 => if r15 = 0 then (some ((0 : Int32), s14)) else (some ((1 : Int32), s14)))) else (bi (f_X12_bad (3 : Int32) ((a1 + (4 : Int64))) σ) fun r19 s18 => gd (r19 = 0 ∨ r19 = 1) (some (r19, s18)))) else (bi (f_X12_bad (3 : Int32) a1 σ) fun r23 s22 => gd (r23 = 0 ∨ r23 = 1) (some (r23, s22)))

def f_X12_readTable (a1 : Int64) (a2 : Int64) (σ : St) : Option (Int32 × St) :=
  if (σ.1 68 48) = 0 then (if a2 = (24 : Int64) then (zn (sI σ 68 48 (1 : Int32)) fun s3 => bi (f_X12_four ((a1 + (8 : Int64))) s3) fun r6 s5 => zn (sJ s5 68 50 r6) fun s7 => bi (f_X12_four ((a1 + (12 : Int64))) s7) fun r10 s9 => zn (sJ s9 68 51 r10) fun s11 => bi (f_X12_four ((a1 + (16 : Int64))) s11) fun r14 s13 => zn (sJ s13 68 52 r14) fun s15 => bi (f_X12_four ((a1 + (20 : Int64))) s15) fun r18 s17 => zn (sJ s17 68 53 r18) fun s19 => if (s19.2 68 51) ≤ (64 : Int64) then (if ((s19.2 68 50) + ((16 : Int64) * (s19.2 68 51))) ≤ (s19.1 68 30).toInt64 then (if ((s19.2 68 52) + (s19.2 68 53)) ≤ (s19.1 68 30).toInt64 then (some ((1 : Int32), s19)) else (bi (f_X12_bad (1 : Int32) ((a1 + (16 : Int64))) s19) fun r25 s24 => if r25 = 0 then (some ((0 : Int32), s24)) else (some ((1 : Int32), s24)))) else (bi (f_X12_bad (1 : Int32) ((a1 + (8 : Int64))) s19) fun r29 s28 => gd (r29 = 0 ∨ r29 = 1) (some (r29, s28)))) else (bi (f_X12_bad (3 : Int32) ((a1 + (12 : Int64))) s19) fun r33 s32 => gd (r33 = 0 ∨ r33 = 1) (some (r33, s32)))) else (bi (f_X12_bad (3 : Int32) ((a1 + (4 : Int64))) σ) fun r37 s36 => gd (r37 = 0 ∨ r37 = 1) (some (r37, s36)))) else (bi (f_X12_bad (3 : Int32) a1 σ) fun r41 s40 => gd (r41 = 0 ∨ r41 = 1) (some (r41, s40)))

def f_X12_readSegment_45 (x1 : Int64) (σ : St) : Option (Int32 × St) :=
  bi (f_X12_bad (3 : Int32) ((x1 + (4 : Int64))) σ) fun r5 s4 => gd (r5 = 0 ∨ r5 = 1) (some (r5, s4))

def f_X12_readSegment_519 (x9 : Int64) (σ : St) : Option (Int32 × St) :=
  bi (f_X12_bad (7 : Int32) x9 σ) fun r68 s67 => gd (r68 = 0 ∨ r68 = 1) (some (r68, s67))

def f_X12_readSegment_426b (K426 : (Int64 × Int64 × Int64 × Int64 × Int64 × St) → Option (Int32 × St)) (x1 : Int64) (x3 : Int64) (x5 : Int64) (x7 : Int64) (x9 : Int64) (σ : St) : Option (Int32 × St) :=
  if (x1 + x3) ≤ x9 then (zn (sI σ 68 41 (((σ.1 68 41) + (1 : Int32)))) fun s52 => some ((1 : Int32), s52)) else (if (σ.1 68 42) = (16 : Int32) then (bi (f_X12_bad (3 : Int32) x9 σ) fun r78 s77 => gd (r78 = 0 ∨ r78 = 1) (some (r78, s77))) else (bi (f_X12_isNumber ((x9 + (32 : Int64))) σ) fun r56 s55 => if r56 = 0 then (some ((0 : Int32), s55)) else (bi (f_X12_isNumber ((x9 + (40 : Int64))) s55) fun r60 s59 => if r60 = 0 then (some ((0 : Int32), s59)) else (bi (f_X12_eight ((x9 + (32 : Int64))) s59) fun r64 s63 => if r64 < x5 then (f_X12_readSegment_519 x9 s63) else (bi (f_X12_eight ((x9 + (40 : Int64))) s63) fun r72 s71 => if (r64 + r72) ≤ x7 then (zn (sI s71 68 42 (((s71.1 68 42) + (1 : Int32)))) fun s74 => zn ((x9 + (80 : Int64))) fun v75 => K426 (x1, x3, x5, x7, v75, s74)) else (f_X12_readSegment_519 x9 s71))))))

def f_X12_readSegment_426 (x1 : Int64) (x3 : Int64) (x5 : Int64) (x7 : Int64) (x9 : Int64) (σ : St) : Option (Int32 × St) :=
  it (fun K a => f_X12_readSegment_426b K a.1 a.2.1 a.2.2.1 a.2.2.2.1 a.2.2.2.2.1 a.2.2.2.2.2) FU (x1, x3, x5, x7, x9, σ)

def f_X12_readSegment_394 (K313 : (Int64 × Int64 × Int64 × Int64 × Int32 × St) → Option (Int32 × St)) (x1 : Int64) (x3 : Int64) (x5 : Int64) (x7 : Int64) (x9 : Int32) (σ : St) : Option (Int32 × St) :=
  zn (x9 + 1) fun v82 => K313 (x1, x3, x5, x7, v82, σ)

def f_X12_readSegment_313b (K313 : (Int64 × Int64 × Int64 × Int64 × Int32 × St) → Option (Int32 × St)) (x1 : Int64) (x3 : Int64) (x5 : Int64) (x7 : Int64) (x9 : Int32) (σ : St) : Option (Int32 × St) :=
  if (σ.1 68 41) ≤ x9 then (gd (ib (σ.1 68 41) 4) (zn (sI σ 68 43 (((σ.1 68 43) + ((σ.2 92 (σ.1 68 41).toNatClampNeg)).toInt32))) fun s49 => zn ((x1 + (72 : Int64))) fun v50 => f_X12_readSegment_426 x1 x3 x5 x7 v50 s49)) else (gd (ib (σ.1 68 41) 4) (if (σ.2 92 (σ.1 68 41).toNatClampNeg) ≤ (0 : Int64) then (f_X12_readSegment_394 K313 x1 x3 x5 x7 x9 σ) else (gd (ib x9 4) (if (σ.2 92 x9.toNatClampNeg) ≤ (0 : Int64) then (f_X12_readSegment_394 K313 x1 x3 x5 x7 x9 σ) else (gd (ib x9 4) (gd (ib x9 4) (if ((σ.2 91 x9.toNatClampNeg) + (σ.2 92 x9.toNatClampNeg)) ≤ x5 then (f_X12_readSegment_394 K313 x1 x3 x5 x7 x9 σ) else (gd (ib x9 4) (if x7 ≤ (σ.2 91 x9.toNatClampNeg) then (f_X12_readSegment_394 K313 x1 x3 x5 x7 x9 σ) else (bi (f_X12_bad (6 : Int32) ((x1 + (24 : Int64))) σ) fun r92 s91 => gd (r92 = 0 ∨ r92 = 1) (some (r92, s91))))))))))))

def f_X12_readSegment_313 (x1 : Int64) (x3 : Int64) (x5 : Int64) (x7 : Int64) (x9 : Int32) (σ : St) : Option (Int32 × St) :=
  it (fun K a => f_X12_readSegment_313b K a.1 a.2.1 a.2.2.1 a.2.2.2.1 a.2.2.2.2.1 a.2.2.2.2.2) FU (x1, x3, x5, x7, x9, σ)

def f_X12_readSegment_60b (K60 : (Int64 × Int64 × Int32 × St) → Option (Int32 × St)) (x1 : Int64) (x3 : Int64) (x5 : Int32) (σ : St) : Option (Int32 × St) :=
  if (48 : Int32) < x5 then (bi (f_X12_eight ((x1 + (24 : Int64))) σ) fun r15 s14 => gd (ib (σ.1 68 41) 4) (zn (sJ s14 91 (σ.1 68 41).toNatClampNeg r15) fun s17 => bi (f_X12_eight ((x1 + (32 : Int64))) s17) fun r20 s19 => gd (ib (s17.1 68 41) 4) (zn (sJ s19 92 (s17.1 68 41).toNatClampNeg r20) fun s22 => bi (f_X12_eight ((x1 + (40 : Int64))) s22) fun r25 s24 => gd (ib (s22.1 68 41) 4) (zn (sJ s24 93 (s22.1 68 41).toNatClampNeg r25) fun s27 => bi (f_X12_eight ((x1 + (48 : Int64))) s27) fun r30 s29 => gd (ib (s27.1 68 41) 4) (zn (sJ s29 94 (s27.1 68 41).toNatClampNeg r30) fun s32 => gd (ib (s32.1 68 41) 4) (zn ((s32.2 91 (s32.1 68 41).toNatClampNeg)) fun v34 => gd (ib (s32.1 68 41) 4) (zn ((v34 + (s32.2 92 (s32.1 68 41).toNatClampNeg))) fun v36 => gd (ib (s32.1 68 41) 4) (if ((s32.1 68 43).toInt64 + (s32.2 92 (s32.1 68 41).toNatClampNeg)) ≤ (16384 : Int64) then (if v36 ≤ (2147483647 : Int64) then (gd (ib (s32.1 68 41) 4) (gd (ib (s32.1 68 41) 4) (if ((s32.2 93 (s32.1 68 41).toNatClampNeg) + (s32.2 94 (s32.1 68 41).toNatClampNeg)) ≤ (s32.1 68 30).toInt64 then (gd (ib (s32.1 68 41) 4) (gd (ib (s32.1 68 41) 4) (if (s32.2 94 (s32.1 68 41).toNatClampNeg) ≤ (s32.2 92 (s32.1 68 41).toNatClampNeg) then (zn (0 : Int32) fun v46 => f_X12_readSegment_313 x1 x3 v34 v36 v46 s32) else (bi (f_X12_bad (6 : Int32) ((x1 + (48 : Int64))) s32) fun r96 s95 => gd (r96 = 0 ∨ r96 = 1) (some (r96, s95)))))) else (bi (f_X12_bad (1 : Int32) ((x1 + (40 : Int64))) s32) fun r100 s99 => gd (r100 = 0 ∨ r100 = 1) (some (r100, s99)))))) else (bi (f_X12_bad (5 : Int32) ((x1 + (24 : Int64))) s32) fun r104 s103 => gd (r104 = 0 ∨ r104 = 1) (some (r104, s103)))) else (bi (f_X12_bad (5 : Int32) ((x1 + (32 : Int64))) s32) fun r108 s107 => gd (r108 = 0 ∨ r108 = 1) (some (r108, s107))))))))))) else (bi (f_X12_isNumber (x1 + x5.toInt64) σ) fun r112 s111 => if r112 = 0 then (some ((0 : Int32), s111)) else (zn (x5 + 8) fun v114 => K60 (x1, x3, v114, s111)))

def f_X12_readSegment_60 (x1 : Int64) (x3 : Int64) (x5 : Int32) (σ : St) : Option (Int32 × St) :=
  it (fun K a => f_X12_readSegment_60b K a.1 a.2.1 a.2.2.1 a.2.2.2) FU (x1, x3, x5, σ)

def f_X12_readSegment (a1 : Int64) (a2 : Int64) (σ : St) : Option (Int32 × St) :=
  if (σ.1 68 41) = (4 : Int32) then (bi (f_X12_bad (3 : Int32) a1 σ) fun r117 s116 => gd (r117 = 0 ∨ r117 = 1) (some (r117, s116))) else (if a2 < (72 : Int64) then (f_X12_readSegment_45 a1 σ) else (bi (f_X12_four ((a1 + (64 : Int64))) σ) fun r9 s8 => if a2 = ((72 : Int64) + ((80 : Int64) * r9)) then (zn (24 : Int32) fun v11 => f_X12_readSegment_60 a1 a2 v11 s8) else (f_X12_readSegment_45 a1 s8)))

def f_X12_reads_197 (x5 : Int64) (σ : St) : Option (Int32 × St) :=
  bi (f_X12_bad (3 : Int32) ((x5 + (4 : Int64))) σ) fun r35 s34 => gd (r35 = 0 ∨ r35 = 1) (some (r35, s34))

def f_X12_reads_304 (K128 : (Int64 × Int64 × Int64 × Int32 × St) → Option (Int32 × St)) (x1 : Int64) (x3 : Int64) (x5 : Int64) (x7 : Int32) (x8 : Int64) (x12 : Int32) (σ : St) : Option (Int32 × St) :=
  if x12 = 0 then (some ((0 : Int32), σ)) else (zn (x5 + x8) fun v48 => zn (x7 + 1) fun v49 => K128 (x1, x3, v48, v49, σ))

def f_X12_reads_128b (K128 : (Int64 × Int64 × Int64 × Int32 × St) → Option (Int32 × St)) (x1 : Int64) (x3 : Int64) (x5 : Int64) (x7 : Int32) (σ : St) : Option (Int32 × St) :=
  if x1 ≤ x7.toInt64 then (if x5 = x3 then (some ((1 : Int32), σ)) else (bi (f_X12_bad (3 : Int32) x5 σ) fun r26 s25 => if r26 = 0 then (some ((0 : Int32), s25)) else (some ((1 : Int32), s25)))) else (if (8 : Int64) ≤ (x3 - x5) then (bi (f_X12_four ((x5 + (4 : Int64))) σ) fun r31 s30 => if r31 < (8 : Int64) then (f_X12_reads_197 x5 s30) else (if (r31 - r31 / (8 : Int64) * (8 : Int64)) = (0 : Int64) then (if r31 ≤ (x3 - x5) then (bi (f_X12_four x5 s30) fun r41 s40 => zn (1 : Int32) fun v42 => if r41 = (25 : Int64) then (bi (f_X12_readSegment x5 r31 s40) fun r61 s60 => f_X12_reads_304 K128 x1 x3 x5 x7 r31 r61 s60) else (if r41 = (2 : Int64) then (bi (f_X12_readTable x5 r31 s40) fun r58 s57 => f_X12_reads_304 K128 x1 x3 x5 x7 r31 r58 s57) else (if r41 = (2147483700 : Int64) then (bi (f_X12_readChains x5 r31 s40) fun r55 s54 => f_X12_reads_304 K128 x1 x3 x5 x7 r31 r55 s54) else (if r41 < (2147483648 : Int64) then (f_X12_reads_304 K128 x1 x3 x5 x7 r31 v42 s40) else (bi (f_X12_bad (4 : Int32) x5 s40) fun r52 s51 => f_X12_reads_304 K128 x1 x3 x5 x7 r31 r52 s51))))) else (f_X12_reads_197 x5 s30)) else (f_X12_reads_197 x5 s30))) else (bi (f_X12_bad (3 : Int32) x5 σ) fun r64 s63 => gd (r64 = 0 ∨ r64 = 1) (some (r64, s63))))

def f_X12_reads_128 (x1 : Int64) (x3 : Int64) (x5 : Int64) (x7 : Int32) (σ : St) : Option (Int32 × St) :=
  it (fun K a => f_X12_reads_128b K a.1 a.2.1 a.2.2.1 a.2.2.2.1 a.2.2.2.2) FU (x1, x3, x5, x7, σ)

def f_X12_reads (σ : St) : Option (Int32 × St) :=
  zn (sI σ 68 41 (0 : Int32)) fun s1 => zn (sI s1 68 42 (0 : Int32)) fun s2 => zn (sI s2 68 43 (0 : Int32)) fun s3 => zn (sI s3 68 48 (0 : Int32)) fun s4 => zn (sI s4 68 49 (0 : Int32)) fun s5 => if (32 : Int32) ≤ (s5.1 68 30) then (bi (f_X12_four (0 : Int64) s5) fun r9 s8 => if r9 = (4277009103 : Int64) then (bi (f_X12_four (16 : Int64) s8) fun r13 s12 => if r13 ≤ (16 : Int64) then (bi (f_X12_four (20 : Int64) s12) fun r17 s16 => zn (((32 : Int64) + r17)) fun v18 => if v18 ≤ (s16.1 68 30).toInt64 then (zn (32 : Int64) fun v20 => zn (0 : Int32) fun v21 => f_X12_reads_128 r13 v18 v20 v21 s16) else (bi (f_X12_bad (1 : Int32) (20 : Int64) s16) fun r68 s67 => gd (r68 = 0 ∨ r68 = 1) (some (r68, s67)))) else (bi (f_X12_bad (3 : Int32) (16 : Int64) s12) fun r72 s71 => gd (r72 = 0 ∨ r72 = 1) (some (r72, s71)))) else (bi (f_X12_bad (2 : Int32) (0 : Int64) s8) fun r76 s75 => gd (r76 = 0 ∨ r76 = 1) (some (r76, s75)))) else (bi (f_X12_bad (1 : Int32) ((s5.1 68 30).toInt64) s5) fun r80 s79 => gd (r80 = 0 ∨ r80 = 1) (some (r80, s79)))

def f_X12_zero_3b (K3 : (Int64 × Int64 × St) → Option (Int64 × St)) (x3 : Int64) (x5 : Int64) (σ : St) : Option (Int64 × St) :=
  if x3 ≤ x5 then (some ((-1 : Int64), σ)) else (gd (ib x5.toInt32 9000) (if (σ.1 88 x5.toInt32.toNatClampNeg) = 0 then (some (x5, σ)) else (zn ((x5 + (1 : Int64))) fun v4 => K3 (x3, v4, σ))))

def f_X12_zero_3 (x3 : Int64) (x5 : Int64) (σ : St) : Option (Int64 × St) :=
  it (fun K a => f_X12_zero_3b K a.1 a.2.1 a.2.2) FU (x3, x5, σ)

def f_X12_zero (a1 : Int64) (a2 : Int64) (σ : St) : Option (Int64 × St) :=
  f_X12_zero_3 a2 a1 σ

def f_X12_readsSymbols_5b (K5 : (Int64 × St) → Option (Int32 × St)) (x1 : Int64) (σ : St) : Option (Int32 × St) :=
  if (σ.1 68 48) = 0 then (some ((1 : Int32), σ)) else (if ((σ.2 68 50) + ((16 : Int64) * (σ.2 68 51))) ≤ x1 then (some ((1 : Int32), σ)) else (bi (f_X12_four x1 σ) fun r6 s5 => bi (f_X12_zero (((σ.2 68 52) + r6)) (((s5.2 68 52) + (s5.2 68 53))) s5) fun r9 s8 => if r9 = (-1 : Int64) then (bi (f_X12_bad (8 : Int32) x1 s8) fun r24 s23 => gd (r24 = 0 ∨ r24 = 1) (some (r24, s23))) else (gd (ib ((x1.toInt32 + (5 : Int32))) 9000) (if (s8.1 88 ((x1.toInt32 + (5 : Int32))).toNatClampNeg) ≤ (s8.1 68 42) then (bi (f_X12_isNumber ((x1 + (8 : Int64))) s8) fun r15 s14 => if r15 = 0 then (some ((0 : Int32), s14)) else (zn ((x1 + (16 : Int64))) fun v17 => K5 (v17, s14))) else (bi (f_X12_bad (8 : Int32) ((x1 + (5 : Int64))) s8) fun r20 s19 => gd (r20 = 0 ∨ r20 = 1) (some (r20, s19)))))))

def f_X12_readsSymbols_5 (x1 : Int64) (σ : St) : Option (Int32 × St) :=
  it (fun K a => f_X12_readsSymbols_5b K a.1 a.2) FU (x1, σ)

def f_X12_readsSymbols (σ : St) : Option (Int32 × St) :=
  zn (σ.2 68 50) fun v1 => f_X12_readsSymbols_5 v1 σ

def f_X12_isWithin (a1 : Int32) (a2 : Int32) (a3 : Int32) (a4 : Int32) (σ : St) : Option (Int32 × St) :=
  if a3 < (a4 + (8 : Int32)) then (some ((0 : Int32), σ)) else (gd (ib a1 4) (if (σ.2 92 a1.toNatClampNeg) < (((a2.toInt64 * a3.toInt64) + a4.toInt64) + (8 : Int64)) then (some ((0 : Int32), σ)) else (some ((1 : Int32), σ))))

def f_X12_wordOf_54 (K7 : (Int32 × Int64 × Int64 × Int32 × St) → Option (Int64 × St)) (x1 : Int32) (x2 : Int64) (x6 : Int32) (t0 : Int32) (t1 : Int64) (σ : St) : Option (Int64 × St) :=
  zn (t1 ||| t0.toInt64) fun v6 => zn (x6 + (-1)) fun v7 => K7 (x1, x2, v6, v7, σ)

def f_X12_wordOf_7b (K7 : (Int32 × Int64 × Int64 × Int32 × St) → Option (Int64 × St)) (x1 : Int32) (x2 : Int64) (x4 : Int64) (x6 : Int32) (σ : St) : Option (Int64 × St) :=
  if x6 < 0 then (some (x4, σ)) else (gd (ib x1 4) (if (σ.2 94 x1.toNatClampNeg) ≤ (x2 + x6.toInt64) then (f_X12_wordOf_54 K7 x1 x2 x6 (0 : Int32) ((zlshl x4 (8 : Int32))) σ) else (gd (ib x1 4) (gd (ib (((((σ.2 93 x1.toNatClampNeg) + x2) + x6.toInt64)).toInt32) 9000) (f_X12_wordOf_54 K7 x1 x2 x6 ((σ.1 88 (((((σ.2 93 x1.toNatClampNeg) + x2) + x6.toInt64)).toInt32).toNatClampNeg)) ((zlshl x4 (8 : Int32))) σ)))))

def f_X12_wordOf_7 (x1 : Int32) (x2 : Int64) (x4 : Int64) (x6 : Int32) (σ : St) : Option (Int64 × St) :=
  it (fun K a => f_X12_wordOf_7b K a.1 a.2.1 a.2.2.1 a.2.2.2.1 a.2.2.2.2) FU (x1, x2, x4, x6, σ)

def f_X12_wordOf (a1 : Int32) (a2 : Int64) (σ : St) : Option (Int64 × St) :=
  zn (0 : Int64) fun v1 => zn (7 : Int32) fun v2 => f_X12_wordOf_7 a1 a2 v1 v2 σ

def f_X12_importOf (a1 : Int64) (σ : St) : Option (Int64 × St) :=
  bi (f_X12_four (((σ.2 68 56) + ((4 : Int64) * (a1 &&& (16777215 : Int64))))) σ) fun r3 s2 => some (r3, s2)

def f_X12_isWeakImport (a1 : Int64) (σ : St) : Option (Int32 × St) :=
  bi (f_X12_importOf a1 σ) fun r3 s2 => if ((zlshr r3 (8 : Int32)) &&& (1 : Int64)) = (1 : Int64) then (some ((1 : Int32), s2)) else (some ((0 : Int32), s2))

def f_X12_exportFor_147 (K32 : (Int64 × Int64 × Int64 × Int32 × St) → Option (Int32 × St)) (x3 : Int64) (x5 : Int64) (x7 : Int64) (x9 : Int32) (x10 : Int32) (σ : St) : Option (Int32 × St) :=
  if x10 = 0 then (zn (x9 + 1) fun v15 => K32 (x3, x5, x7, v15, σ)) else (some (x9, σ))

def f_X12_exportFor_139 (K87 : (Int64 × Int64 × Int64 × Int32 × Int32 × Int32 × St) → Option (Int32 × St)) (x3 : Int64) (x5 : Int64) (x7 : Int64) (x9 : Int32) (x11 : Int32) (t0 : Int32) (σ : St) : Option (Int32 × St) :=
  zn (x11 + 1) fun v20 => K87 (x3, x5, x7, x9, t0, v20, σ)

def f_X12_exportFor_87b (K32 : (Int64 × Int64 × Int64 × Int32 × St) → Option (Int32 × St)) (K87 : (Int64 × Int64 × Int64 × Int32 × Int32 × Int32 × St) → Option (Int32 × St)) (x3 : Int64) (x5 : Int64) (x7 : Int64) (x9 : Int32) (x10 : Int32) (x11 : Int32) (σ : St) : Option (Int32 × St) :=
  if (x7 - x5) ≤ x11.toInt64 then (f_X12_exportFor_147 K32 x3 x5 x7 x9 x10 σ) else (if x10 = 0 then (f_X12_exportFor_147 K32 x3 x5 x7 x9 x10 σ) else (gd (ib ((((16 : Int32) * ((52 : Int32) + x9)) + x11)) 1312) (gd (ib (x5.toInt32 + x11) 9000) (if (σ.1 70 ((((16 : Int32) * ((52 : Int32) + x9)) + x11)).toNatClampNeg) = (σ.1 88 (x5.toInt32 + x11).toNatClampNeg) then (f_X12_exportFor_139 K87 x3 x5 x7 x9 x11 (1 : Int32) σ) else (f_X12_exportFor_139 K87 x3 x5 x7 x9 x11 (0 : Int32) σ)))))

def f_X12_exportFor_87 (K32 : (Int64 × Int64 × Int64 × Int32 × St) → Option (Int32 × St)) (x3 : Int64) (x5 : Int64) (x7 : Int64) (x9 : Int32) (x10 : Int32) (x11 : Int32) (σ : St) : Option (Int32 × St) :=
  it (fun K a => f_X12_exportFor_87b K32 K a.1 a.2.1 a.2.2.1 a.2.2.2.1 a.2.2.2.2.1 a.2.2.2.2.2.1 a.2.2.2.2.2.2) FU (x3, x5, x7, x9, x10, x11, σ)

def f_X12_exportFor_82 (K32 : (Int64 × Int64 × Int64 × Int32 × St) → Option (Int32 × St)) (x3 : Int64) (x5 : Int64) (x7 : Int64) (x9 : Int32) (t0 : Int32) (σ : St) : Option (Int32 × St) :=
  zn (0 : Int32) fun v12 => f_X12_exportFor_87 K32 x3 x5 x7 x9 t0 v12 σ

def f_X12_exportFor_81 (K32 : (Int64 × Int64 × Int64 × Int32 × St) → Option (Int32 × St)) (x3 : Int64) (x5 : Int64) (x7 : Int64) (x9 : Int32) (σ : St) : Option (Int32 × St) :=
  f_X12_exportFor_82 K32 x3 x5 x7 x9 (0 : Int32) σ

def f_X12_exportFor_32b (K32 : (Int64 × Int64 × Int64 × Int32 × St) → Option (Int32 × St)) (x3 : Int64) (x5 : Int64) (x7 : Int64) (x9 : Int32) (σ : St) : Option (Int32 × St) :=
  if (σ.1 68 11) ≤ x9 then (some ((-1 : Int32), σ)) else (gd (ib x9 30) (if (σ.1 86 x9.toNatClampNeg).toInt64 = (x3 &&& (255 : Int64)) then (bi (f_X12_longOf (((52 : Int32) + x9)) σ) fun r23 s22 => if r23.toInt64 = (x7 - x5) then (f_X12_exportFor_82 K32 x3 x5 x7 x9 (1 : Int32) s22) else (f_X12_exportFor_81 K32 x3 x5 x7 x9 s22)) else (f_X12_exportFor_81 K32 x3 x5 x7 x9 σ)))

def f_X12_exportFor_32 (x3 : Int64) (x5 : Int64) (x7 : Int64) (x9 : Int32) (σ : St) : Option (Int32 × St) :=
  it (fun K a => f_X12_exportFor_32b K a.1 a.2.1 a.2.2.1 a.2.2.2.1 a.2.2.2.2) FU (x3, x5, x7, x9, σ)

def f_X12_exportFor (a1 : Int64) (σ : St) : Option (Int32 × St) :=
  bi (f_X12_importOf a1 σ) fun r3 s2 => zn (((s2.2 68 58) + (zlshr r3 (9 : Int32)))) fun v4 => bi (f_X12_zero v4 (s2.2 68 55) s2) fun r7 s6 => zn (0 : Int32) fun v8 => f_X12_exportFor_32 r3 v4 r7 v8 s6

def f_X12_walks_37 (x4 : Int64) (σ : St) : Option (Int32 × St) :=
  bi (f_X12_bad (10 : Int32) x4 σ) fun r8 s7 => gd (r8 = 0 ∨ r8 = 1) (some (r8, s7))

def f_X12_walks_300 (x10 : Int64) (σ : St) : Option (Int32 × St) :=
  bi (f_X12_bad (10 : Int32) x10 σ) fun r42 s41 => gd (r42 = 0 ∨ r42 = 1) (some (r42, s41))

def f_X12_walks_263 (K49 : (Int32 × Int32 × Int32 × Int32 × Int32 × St) → Option (Int32 × St)) (x1 : Int32) (x2 : Int32) (x3 : Int32) (x6 : Int32) (x10 : Int64) (x15 : Int32) (t0 : Int32) (σ : St) : Option (Int32 × St) :=
  if t0 = 0 then (K49 (x1, x2, x3, x6, t0, σ)) else (zn ((x6 + ((4 : Int32) * x15))) fun v38 => if x15 = (1 : Int32) then (f_X12_walks_300 x10 σ) else (bi (f_X12_isWithin x1 x2 x3 v38 σ) fun r46 s45 => if r46 = 0 then (f_X12_walks_300 x10 s45) else (K49 (x1, x2, x3, v38, t0, s45))))

def f_X12_walks_198 (K49 : (Int32 × Int32 × Int32 × Int32 × Int32 × St) → Option (Int32 × St)) (x1 : Int32) (x2 : Int32) (x3 : Int32) (x6 : Int32) (x8 : Int64) (x10 : Int64) (x12 : Int64) (σ : St) : Option (Int32 × St) :=
  gd (ib (σ.1 68 59) 2100) (zn (sJ σ 95 (σ.1 68 59).toNatClampNeg x12) fun s29 => gd (ib (s29.1 68 59) 2100) (zn (sI s29 96 (s29.1 68 59).toNatClampNeg x1) fun s31 => gd (ib (s31.1 68 59) 2100) (zn (sI s31 97 (s31.1 68 59).toNatClampNeg x8.toInt32) fun s33 => zn (sI s33 68 59 (((s33.1 68 59) + (1 : Int32)))) fun s34 => zn ((((zlshr x12 (51 : Int32))).toInt32 &&& (4095 : Int32))) fun v35 => if v35 ≤ 0 then (f_X12_walks_263 K49 x1 x2 x3 x6 x10 v35 (0 : Int32) s34) else (f_X12_walks_263 K49 x1 x2 x3 x6 x10 v35 (1 : Int32) s34))))

def f_X12_walks_165 (K49 : (Int32 × Int32 × Int32 × Int32 × Int32 × St) → Option (Int32 × St)) (x1 : Int32) (x2 : Int32) (x3 : Int32) (x6 : Int32) (x8 : Int64) (x10 : Int64) (x12 : Int64) (x14 : Int32) (σ : St) : Option (Int32 × St) :=
  if x14 = 0 then (f_X12_walks_198 K49 x1 x2 x3 x6 x8 x10 x12 σ) else (bi (f_X12_isWeakImport x12 σ) fun r50 s49 => if r50 = 0 then (bi (f_X12_exportFor x12 s49) fun r54 s53 => if r54 = (-1 : Int32) then (bi (f_X12_bad (12 : Int32) x10 s53) fun r58 s57 => gd (r58 = 0 ∨ r58 = 1) (some (r58, s57))) else (f_X12_walks_198 K49 x1 x2 x3 x6 x8 x10 x12 s53)) else (f_X12_walks_198 K49 x1 x2 x3 x6 x8 x10 x12 s49))

def f_X12_walks_122 (K49 : (Int32 × Int32 × Int32 × Int32 × Int32 × St) → Option (Int32 × St)) (x1 : Int32) (x2 : Int32) (x3 : Int32) (x6 : Int32) (x8 : Int64) (x10 : Int64) (x12 : Int64) (x14 : Int32) (t0 : Int64) (t1 : Int64) (σ : St) : Option (Int32 × St) :=
  if (t1 &&& t0) = (0 : Int64) then (if x14 = 0 then (f_X12_walks_165 K49 x1 x2 x3 x6 x8 x10 x12 x14 σ) else (if (x12 &&& (16777215 : Int64)) < (σ.2 68 57) then (f_X12_walks_165 K49 x1 x2 x3 x6 x8 x10 x12 x14 σ) else (bi (f_X12_bad (11 : Int32) x10 σ) fun r63 s62 => gd (r63 = 0 ∨ r63 = 1) (some (r63, s62))))) else (bi (f_X12_bad (11 : Int32) x10 σ) fun r67 s66 => gd (r67 = 0 ∨ r67 = 1) (some (r67, s66)))

def f_X12_walks_104 (K49 : (Int32 × Int32 × Int32 × Int32 × Int32 × St) → Option (Int32 × St)) (x1 : Int32) (x2 : Int32) (x3 : Int32) (x6 : Int32) (x8 : Int64) (x10 : Int64) (x12 : Int64) (t0 : Int32) (σ : St) : Option (Int32 × St) :=
  if t0 = 0 then (f_X12_walks_122 K49 x1 x2 x3 x6 x8 x10 x12 t0 (2234207627640832 : Int64) x12 σ) else (f_X12_walks_122 K49 x1 x2 x3 x6 x8 x10 x12 t0 (2251795518717952 : Int64) x12 σ)

def f_X12_walks_49b (K49 : (Int32 × Int32 × Int32 × Int32 × Int32 × St) → Option (Int32 × St)) (x1 : Int32) (x2 : Int32) (x3 : Int32) (x6 : Int32) (x7 : Int32) (σ : St) : Option (Int32 × St) :=
  if x7 = 0 then (some ((1 : Int32), σ)) else (zn (((x2.toInt64 * x3.toInt64) + x6.toInt64)) fun v16 => gd (ib x1 4) (gd (ib (0 : Int32) 4) (zn ((((σ.2 91 x1.toNatClampNeg) + v16) - (σ.2 91 (0 : Int32).toNatClampNeg))) fun v19 => bi (f_X12_wordOf x1 v16 σ) fun r22 s21 => if (0 : Int64) ≤ r22 then (f_X12_walks_104 K49 x1 x2 x3 x6 v16 v19 r22 (0 : Int32) s21) else (f_X12_walks_104 K49 x1 x2 x3 x6 v16 v19 r22 (1 : Int32) s21))))

def f_X12_walks_49 (x1 : Int32) (x2 : Int32) (x3 : Int32) (x6 : Int32) (x7 : Int32) (σ : St) : Option (Int32 × St) :=
  it (fun K a => f_X12_walks_49b K a.1 a.2.1 a.2.2.1 a.2.2.2.1 a.2.2.2.2.1 a.2.2.2.2.2) FU (x1, x2, x3, x6, x7, σ)

def f_X12_walks (a1 : Int32) (a2 : Int32) (a3 : Int32) (a4 : Int64) (σ : St) : Option (Int32 × St) :=
  bi (f_X12_two a4 σ) fun r3 s2 => if r3 = (65535 : Int32) then (some ((1 : Int32), s2)) else (if (r3 - r3 / (4 : Int32) * (4 : Int32)) = 0 then (bi (f_X12_isWithin a1 a2 a3 r3 s2) fun r12 s11 => if r12 = 0 then (f_X12_walks_37 a4 s11) else (zn (1 : Int32) fun v14 => f_X12_walks_49 a1 a2 a3 r3 v14 s11)) else (f_X12_walks_37 a4 s2))

def f_X12_readsPages_73 (x2 : Int64) (σ : St) : Option (Int32 × St) :=
  bi (f_X12_bad (9 : Int32) x2 σ) fun r12 s11 => gd (r12 = 0 ∨ r12 = 1) (some (r12, s11))

def f_X12_readsPages (a1 : Int32) (a2 : Int64) (a3 : Int64) (σ : St) : Option (Int32 × St) :=
  if (22 : Int64) ≤ ((σ.2 68 55) - a2) then (bi (f_X12_two ((a2 + (20 : Int64))) σ) fun r4 s3 => zn r4.toInt64 fun v5 => bi (f_X12_four a2 s3) fun r8 s7 => if r8 = ((22 : Int64) + ((2 : Int64) * v5)) then (if ((22 : Int64) + ((2 : Int64) * v5)) ≤ ((s7.2 68 55) - a2) then (bi (f_X12_two ((a2 + (4 : Int64))) s7) fun r17 s16 => bi (f_X12_isPage r17.toInt64 s16) fun r20 s19 => if r20 = 0 then (bi (f_X12_bad (9 : Int32) ((a2 + (4 : Int64))) s19) fun r53 s52 => gd (r53 = 0 ∨ r53 = 1) (some (r53, s52))) else (bi (f_X12_two ((a2 + (6 : Int64))) s19) fun r24 s23 => if r24 = (2 : Int32) then (bi (f_X12_isNumber ((a2 + (8 : Int64))) s23) fun r28 s27 => if r28 = 0 then (some ((0 : Int32), s27)) else (bi (f_X12_eight ((a2 + (8 : Int64))) s27) fun r32 s31 => gd (ib a1 4) (gd (ib (0 : Int32) 4) (if r32 = ((s31.2 91 a1.toNatClampNeg) - (s31.2 91 (0 : Int32).toNatClampNeg)) then (gd (ib a1 4) (gd (¬ r17.toInt64 = 0) (if v5 ≤ ((((s31.2 92 a1.toNatClampNeg) + r17.toInt64) - (1 : Int64)) / r17.toInt64) then (some ((1 : Int32), s31)) else (bi (f_X12_bad (9 : Int32) ((a2 + (20 : Int64))) s31) fun r41 s40 => if r41 = 0 then (some ((0 : Int32), s40)) else (some ((1 : Int32), s40)))))) else (bi (f_X12_bad (9 : Int32) ((a2 + (8 : Int64))) s31) fun r45 s44 => gd (r45 = 0 ∨ r45 = 1) (some (r45, s44))))))) else (bi (f_X12_bad (9 : Int32) ((a2 + (6 : Int64))) s23) fun r49 s48 => gd (r49 = 0 ∨ r49 = 1) (some (r49, s48))))) else (f_X12_readsPages_73 a2 s7)) else (f_X12_readsPages_73 a2 s7)) else (bi (f_X12_bad (9 : Int32) a3 σ) fun r57 s56 => gd (r57 = 0 ∨ r57 = 1) (some (r57, s56)))

def f_X12_readsFixups_42 (x2 : Int64) (σ : St) : Option (Int32 × St) :=
  bi (f_X12_bad (9 : Int32) x2 σ) fun r7 s6 => gd (r7 = 0 ∨ r7 = 1) (some (r7, s6))

def f_X12_readsFixups_180 (x4 : Int64) (σ : St) : Option (Int32 × St) :=
  bi (f_X12_bad (9 : Int32) x4 σ) fun r32 s31 => gd (r32 = 0 ∨ r32 = 1) (some (r32, s31))

def f_X12_readsFixups_553 (K444 : (Int64 × Int32 × St) → Option (Int32 × St)) (x4 : Int64) (x6 : Int32) (σ : St) : Option (Int32 × St) :=
  zn (x6 + 1) fun v64 => K444 (x4, v64, σ)

def f_X12_readsFixups_486b (K444 : (Int64 × Int32 × St) → Option (Int32 × St)) (K486 : (Int64 × Int32 × Int64 × Int32 × St) → Option (Int32 × St)) (x4 : Int64) (x6 : Int32) (x7 : Int64) (x9 : Int32) (σ : St) : Option (Int32 × St) :=
  bi (f_X12_two (((x4 + x7) + (20 : Int64))) σ) fun r62 s61 => if r62 ≤ x9 then (f_X12_readsFixups_553 K444 x4 x6 s61) else (bi (f_X12_two (((x4 + x7) + (4 : Int64))) s61) fun r67 s66 => bi (f_X12_walks x6 x9 r67 ((((x4 + x7) + (22 : Int64)) + ((2 : Int64) * x9.toInt64))) s66) fun r70 s69 => if r70 = 0 then (some ((0 : Int32), s69)) else (zn (x9 + 1) fun v72 => K486 (x4, x6, x7, v72, s69)))

def f_X12_readsFixups_486 (K444 : (Int64 × Int32 × St) → Option (Int32 × St)) (x4 : Int64) (x6 : Int32) (x7 : Int64) (x9 : Int32) (σ : St) : Option (Int32 × St) :=
  it (fun K a => f_X12_readsFixups_486b K444 K a.1 a.2.1 a.2.2.1 a.2.2.2.1 a.2.2.2.2) FU (x4, x6, x7, x9, σ)

def f_X12_readsFixups_444b (K444 : (Int64 × Int32 × St) → Option (Int32 × St)) (x4 : Int64) (x6 : Int32) (σ : St) : Option (Int32 × St) :=
  if (σ.1 68 41) ≤ x6 then (some ((1 : Int32), σ)) else (bi (f_X12_four (((x4 + (4 : Int64)) + ((4 : Int64) * x6.toInt64))) σ) fun r57 s56 => if r57 = (0 : Int64) then (f_X12_readsFixups_553 K444 x4 x6 s56) else (zn (0 : Int32) fun v59 => f_X12_readsFixups_486 K444 x4 x6 r57 v59 s56))

def f_X12_readsFixups_444 (x4 : Int64) (x6 : Int32) (σ : St) : Option (Int32 × St) :=
  it (fun K a => f_X12_readsFixups_444b K a.1 a.2.1 a.2.2) FU (x4, x6, σ)

def f_X12_readsFixups_435 (K369 : (Int64 × Int32 × St) → Option (Int32 × St)) (x4 : Int64) (x6 : Int32) (σ : St) : Option (Int32 × St) :=
  zn (x6 + 1) fun v77 => K369 (x4, v77, σ)

def f_X12_readsFixups_369b (K369 : (Int64 × Int32 × St) → Option (Int32 × St)) (x4 : Int64) (x6 : Int32) (σ : St) : Option (Int32 × St) :=
  if (σ.1 68 41) ≤ x6 then (zn (0 : Int32) fun v53 => f_X12_readsFixups_444 x4 v53 σ) else (bi (f_X12_four (((x4 + (4 : Int64)) + ((4 : Int64) * x6.toInt64))) σ) fun r75 s74 => if r75 = (0 : Int64) then (f_X12_readsFixups_435 K369 x4 x6 s74) else (bi (f_X12_readsPages x6 (x4 + r75) (((x4 + (4 : Int64)) + ((4 : Int64) * x6.toInt64))) s74) fun r80 s79 => if r80 = 0 then (some ((0 : Int32), s79)) else (f_X12_readsFixups_435 K369 x4 x6 s79)))

def f_X12_readsFixups_369 (x4 : Int64) (x6 : Int32) (σ : St) : Option (Int32 × St) :=
  it (fun K a => f_X12_readsFixups_369b K a.1 a.2.1 a.2.2) FU (x4, x6, σ)

def f_X12_readsFixups_291b (K291 : (Int64 × Int32 × St) → Option (Int32 × St)) (x4 : Int64) (x6 : Int32) (σ : St) : Option (Int32 × St) :=
  if (σ.2 68 57) ≤ x6.toInt64 then (zn (0 : Int32) fun v51 => f_X12_readsFixups_369 x4 v51 σ) else (bi (f_X12_four (((σ.2 68 56) + ((4 : Int64) * x6.toInt64))) σ) fun r84 s83 => bi (f_X12_zero (((σ.2 68 58) + (zlshr r84 (9 : Int32)))) (s83.2 68 55) s83) fun r87 s86 => if r87 = (-1 : Int64) then (bi (f_X12_bad (9 : Int32) (((s86.2 68 56) + ((4 : Int64) * x6.toInt64))) s86) fun r92 s91 => gd (r92 = 0 ∨ r92 = 1) (some (r92, s91))) else (zn (x6 + 1) fun v89 => K291 (x4, v89, s86)))

def f_X12_readsFixups_291 (x4 : Int64) (x6 : Int32) (σ : St) : Option (Int32 × St) :=
  it (fun K a => f_X12_readsFixups_291b K a.1 a.2.1 a.2.2) FU (x4, x6, σ)

def f_X12_readsFixups (a1 : Int32) (σ : St) : Option (Int32 × St) :=
  zn (sI σ 68 59 (0 : Int32)) fun s1 => if (s1.1 68 49) = 0 then (some ((1 : Int32), s1)) else (zn (s1.2 68 54) fun v3 => if ((s1.2 68 55) - v3) < (28 : Int64) then (f_X12_readsFixups_42 v3 s1) else (bi (f_X12_four v3 s1) fun r11 s10 => if r11 = (0 : Int64) then (bi (f_X12_four ((v3 + (20 : Int64))) s10) fun r15 s14 => if r15 = (1 : Int64) then (bi (f_X12_four ((v3 + (24 : Int64))) s14) fun r19 s18 => if r19 = (0 : Int64) then (bi (f_X12_four ((v3 + (4 : Int64))) s18) fun r23 s22 => zn (v3 + r23) fun v24 => if (4 : Int64) ≤ ((s22.2 68 55) - v24) then (bi (f_X12_four v24 s22) fun r28 s27 => if r28 = (s27.1 68 41).toInt64 then (if ((4 : Int64) + ((4 : Int64) * (s27.1 68 41).toInt64)) ≤ ((s27.2 68 55) - v24) then (bi (f_X12_four ((v3 + (16 : Int64))) s27) fun r37 s36 => zn (sJ s36 68 57 r37) fun s38 => bi (f_X12_four ((v3 + (8 : Int64))) s38) fun r41 s40 => zn (sJ s40 68 56 (v3 + r41)) fun s42 => bi (f_X12_four ((v3 + (12 : Int64))) s42) fun r45 s44 => zn (sJ s44 68 58 (v3 + r45)) fun s46 => if (s46.2 68 57) ≤ (64 : Int64) then (if ((s46.2 68 56) + ((4 : Int64) * (s46.2 68 57))) ≤ (s46.2 68 55) then (zn (0 : Int32) fun v49 => f_X12_readsFixups_291 v24 v49 s46) else (bi (f_X12_bad (9 : Int32) ((v3 + (8 : Int64))) s46) fun r96 s95 => gd (r96 = 0 ∨ r96 = 1) (some (r96, s95)))) else (bi (f_X12_bad (9 : Int32) ((v3 + (16 : Int64))) s46) fun r100 s99 => gd (r100 = 0 ∨ r100 = 1) (some (r100, s99)))) else (f_X12_readsFixups_180 v24 s27)) else (f_X12_readsFixups_180 v24 s27)) else (bi (f_X12_bad (9 : Int32) ((v3 + (4 : Int64))) s22) fun r104 s103 => gd (r104 = 0 ∨ r104 = 1) (some (r104, s103)))) else (bi (f_X12_bad (9 : Int32) ((v3 + (24 : Int64))) s18) fun r108 s107 => gd (r108 = 0 ∨ r108 = 1) (some (r108, s107)))) else (bi (f_X12_bad (9 : Int32) ((v3 + (20 : Int64))) s14) fun r112 s111 => gd (r112 = 0 ∨ r112 = 1) (some (r112, s111)))) else (f_X12_readsFixups_42 v3 s10)))

def f_X12_fits_68 (K2 : (Int32 × Int32 × St) → Option (Int32 × St)) (x1 : Int32) (x2 : Int32) (σ : St) : Option (Int32 × St) :=
  zn (x2 + 1) fun v5 => K2 (x1, v5, σ)

def f_X12_fits_60 (σ : St) : Option (Int32 × St) :=
  bi (f_X12_bad (13 : Int32) (0 : Int64) σ) fun r10 s9 => gd (r10 = 0 ∨ r10 = 1) (some (r10, s9))

def f_X12_fits_2b (K2 : (Int32 × Int32 × St) → Option (Int32 × St)) (x1 : Int32) (x2 : Int32) (σ : St) : Option (Int32 × St) :=
  if (σ.1 68 41) ≤ x2 then (some ((1 : Int32), σ)) else (gd (ib x2 4) (if (σ.2 92 x2.toNatClampNeg) ≤ (0 : Int64) then (f_X12_fits_68 K2 x1 x2 σ) else (gd (ib x2 4) (if ((σ.2 91 x2.toNatClampNeg) + x1.toInt64) < (0 : Int64) then (f_X12_fits_60 σ) else (gd (ib x2 4) (gd (ib x2 4) (if ((((σ.2 91 x2.toNatClampNeg) + x1.toInt64) + (σ.2 92 x2.toNatClampNeg)) - (1 : Int64)) ≤ (2147483647 : Int64) then (f_X12_fits_68 K2 x1 x2 σ) else (f_X12_fits_60 σ))))))))

def f_X12_fits_2 (x1 : Int32) (x2 : Int32) (σ : St) : Option (Int32 × St) :=
  it (fun K a => f_X12_fits_2b K a.1 a.2.1 a.2.2) FU (x1, x2, σ)

def f_X12_fits (a1 : Int32) (σ : St) : Option (Int32 × St) :=
  zn (0 : Int32) fun v1 => f_X12_fits_2 a1 v1 σ

def f_X12_keeps_436b (K436 : (Int32 × Int32 × St) → Option (St)) (x1 : Int32) (x3 : Int32) (σ : St) : Option (St) :=
  if (σ.1 68 65) ≤ x3 then (some σ) else (zn (((σ.2 68 50) + ((16 : Int64) * x3.toInt64))) fun v14 => bi (f_X12_four v14 σ) fun r17 s16 => gd (ib x3 64) (zn (sI s16 107 x3.toNatClampNeg ((((σ.2 68 52) + r17)).toInt32)) fun s19 => gd (ib x3 64) (bi (f_X12_zero ((s19.1 107 x3.toNatClampNeg).toInt64) (((s19.2 68 52) + (s19.2 68 53))) s19) fun r23 s22 => gd (ib x3 64) (gd (ib x3 64) (zn (sI s22 108 x3.toNatClampNeg ((r23.toInt32 - (s22.1 107 x3.toNatClampNeg)))) fun s26 => bi (f_X12_eight ((v14 + (8 : Int64))) s26) fun r29 s28 => gd (ib x3 64) (zn (sI s28 109 x3.toNatClampNeg (r29.toInt32 + x1)) fun s31 => zn (x3 + 1) fun v32 => K436 (x1, v32, s31)))))))

def f_X12_keeps_436 (x1 : Int32) (x3 : Int32) (σ : St) : Option (St) :=
  it (fun K a => f_X12_keeps_436b K a.1 a.2.1 a.2.2) FU (x1, x3, σ)

def f_X12_keeps_431 (x1 : Int32) (t0 : Int32) (σ : St) : Option (St) :=
  zn (sI σ 68 65 t0) fun s11 => zn (0 : Int32) fun v12 => f_X12_keeps_436 x1 v12 s11

def f_X12_keeps_388b (K388 : (Int32 × Int32 × St) → Option (St)) (x1 : Int32) (x3 : Int32) (σ : St) : Option (St) :=
  if (σ.1 68 30) ≤ x3 then (if (σ.1 68 48) = 0 then (f_X12_keeps_431 x1 (0 : Int32) σ) else (f_X12_keeps_431 x1 ((σ.2 68 51).toInt32) σ)) else (gd (ib x3 9000) (gd (ib x3 9000) (zn (sI σ 106 x3.toNatClampNeg (σ.1 88 x3.toNatClampNeg)) fun s35 => zn (x3 + 1) fun v36 => K388 (x1, v36, s35))))

def f_X12_keeps_388 (x1 : Int32) (x3 : Int32) (σ : St) : Option (St) :=
  it (fun K a => f_X12_keeps_388b K a.1 a.2.1 a.2.2) FU (x1, x3, σ)

def f_X12_keeps_328b (K143 : (Int32 × Int32 × St) → Option (St)) (K328 : (Int32 × Int32 × Int64 × Int32 × St) → Option (St)) (x1 : Int32) (x3 : Int32) (x7 : Int64) (x9 : Int32) (σ : St) : Option (St) :=
  if (8 : Int32) ≤ x9 then (zn (x3 + 1) fun v59 => K143 (x1, v59, σ)) else (gd (ib x3 2100) (gd (ib (σ.1 96 x3.toNatClampNeg) 4) (gd (ib x3 2100) (gd (ib ((((σ.1 100 (σ.1 96 x3.toNatClampNeg).toNatClampNeg) + (σ.1 97 x3.toNatClampNeg)) + x9)) 16384) (zn (sI σ 101 ((((σ.1 100 (σ.1 96 x3.toNatClampNeg).toNatClampNeg) + (σ.1 97 x3.toNatClampNeg)) + x9)).toNatClampNeg ((((zlshr x7 (((8 : Int32) * x9)))).toInt32 &&& (255 : Int32)))) fun s64 => zn (x9 + 1) fun v65 => K328 (x1, x3, x7, v65, s64))))))

def f_X12_keeps_328 (K143 : (Int32 × Int32 × St) → Option (St)) (x1 : Int32) (x3 : Int32) (x7 : Int64) (x9 : Int32) (σ : St) : Option (St) :=
  it (fun K a => f_X12_keeps_328b K143 K a.1 a.2.1 a.2.2.1 a.2.2.2.1 a.2.2.2.2) FU (x1, x3, x7, x9, σ)

def f_X12_keeps_325 (K143 : (Int32 × Int32 × St) → Option (St)) (x1 : Int32) (x3 : Int32) (x7 : Int64) (σ : St) : Option (St) :=
  zn (0 : Int32) fun v57 => f_X12_keeps_328 K143 x1 x3 x7 v57 σ

def f_X12_keeps_315 (K143 : (Int32 × Int32 × St) → Option (St)) (x1 : Int32) (x3 : Int32) (t0 : Int64) (σ : St) : Option (St) :=
  gd (ib x3 2100) (zn ((t0 + (σ.1 104 x3.toNatClampNeg).toInt64)) fun v72 => f_X12_keeps_325 K143 x1 x3 v72 σ)

def f_X12_keeps_251 (K143 : (Int32 × Int32 × St) → Option (St)) (x1 : Int32) (x3 : Int32) (x4 : Int64) (x6 : Int32) (t0 : Int32) (t1 : Int64) (t2 : Int32) (σ : St) : Option (St) :=
  gd (ib t2 2100) (zn (sI σ 104 t2.toNatClampNeg (((zlshr t1 t0).toInt32 &&& (255 : Int32)))) fun s52 => gd (ib x3 2100) (gd (ib x3 2100) (zn (((((s52.2 103 x3.toNatClampNeg) + x1.toInt64) &&& (72057594037927935 : Int64)) ||| (zlshl ((s52.1 104 x3.toNatClampNeg).toInt64) (56 : Int32)))) fun v55 => if x6 = 0 then (f_X12_keeps_325 K143 x1 x3 v55 s52) else (bi (f_X12_exportFor x4 s52) fun r68 s67 => if r68 = (-1 : Int32) then (f_X12_keeps_315 K143 x1 x3 (0 : Int64) s67) else (gd (ib r68 30) (f_X12_keeps_315 K143 x1 x3 ((s67.1 87 r68.toNatClampNeg).toInt64) s67))))))

def f_X12_keeps_231 (K143 : (Int32 × Int32 × St) → Option (St)) (x1 : Int32) (x3 : Int32) (x4 : Int64) (x6 : Int32) (t0 : Int64) (t1 : Int32) (σ : St) : Option (St) :=
  gd (ib t1 2100) (zn (sJ σ 103 t1.toNatClampNeg t0) fun s49 => if x6 = 0 then (f_X12_keeps_251 K143 x1 x3 x4 x6 (36 : Int32) x4 x3 s49) else (f_X12_keeps_251 K143 x1 x3 x4 x6 (24 : Int32) x4 x3 s49))

def f_X12_keeps_171 (K143 : (Int32 × Int32 × St) → Option (St)) (x1 : Int32) (x3 : Int32) (x4 : Int64) (t0 : Int32) (σ : St) : Option (St) :=
  gd (ib x3 2100) (gd (ib (σ.1 96 x3.toNatClampNeg) 4) (gd (ib x3 2100) (gd (ib x3 2100) (zn (sJ σ 102 x3.toNatClampNeg (((σ.2 98 (σ.1 96 x3.toNatClampNeg).toNatClampNeg) + (σ.1 97 x3.toNatClampNeg).toInt64))) fun s44 => gd (ib x3 2100) (zn (sI s44 105 x3.toNatClampNeg (vp_nar .boolean t0)) fun s46 => if t0 = 0 then (f_X12_keeps_231 K143 x1 x3 x4 t0 ((x4 &&& (68719476735 : Int64))) x3 s46) else (f_X12_keeps_231 K143 x1 x3 x4 t0 ((x4 &&& (16777215 : Int64))) x3 s46))))))

def f_X12_keeps_143b (K143 : (Int32 × Int32 × St) → Option (St)) (x1 : Int32) (x3 : Int32) (σ : St) : Option (St) :=
  if (σ.1 68 59) ≤ x3 then (zn (0 : Int32) fun v8 => f_X12_keeps_388 x1 v8 σ) else (gd (ib x3 2100) (zn (σ.2 95 x3.toNatClampNeg) fun v38 => if (0 : Int64) ≤ v38 then (f_X12_keeps_171 K143 x1 x3 v38 (0 : Int32) σ) else (f_X12_keeps_171 K143 x1 x3 v38 (1 : Int32) σ)))

def f_X12_keeps_143 (x1 : Int32) (x3 : Int32) (σ : St) : Option (St) :=
  it (fun K a => f_X12_keeps_143b K a.1 a.2.1 a.2.2) FU (x1, x3, σ)

def f_X12_keeps_110 (K57 : (Int32 × Int32 × Int32 × Int32 × St) → Option (St)) (x1 : Int32) (x2 : Int32) (x3 : Int32) (x4 : Int32) (t0 : Int32) (t1 : Int32) (σ : St) : Option (St) :=
  gd (ib t1 16384) (zn (sI σ 101 t1.toNatClampNeg t0) fun s90 => zn (x4 + 1) fun v91 => K57 (x1, x2, x3, v91, s90))

def f_X12_keeps_57b (K12 : (Int32 × Int32 × Int32 × St) → Option (St)) (K57 : (Int32 × Int32 × Int32 × Int32 × St) → Option (St)) (x1 : Int32) (x2 : Int32) (x3 : Int32) (x4 : Int32) (σ : St) : Option (St) :=
  gd (ib x3 4) (if (σ.2 92 x3.toNatClampNeg) ≤ x4.toInt64 then (gd (ib x3 4) (zn ((x2 + (σ.2 92 x3.toNatClampNeg).toInt32)) fun v85 => zn (x3 + 1) fun v86 => K12 (x1, v85, v86, σ))) else (gd (ib x3 4) (if (σ.2 94 x3.toNatClampNeg) ≤ x4.toInt64 then (f_X12_keeps_110 K57 x1 x2 x3 x4 (0 : Int32) (x2 + x4) σ) else (gd (ib x3 4) (gd (ib (((σ.2 93 x3.toNatClampNeg).toInt32 + x4)) 9000) (f_X12_keeps_110 K57 x1 x2 x3 x4 ((σ.1 88 (((σ.2 93 x3.toNatClampNeg).toInt32 + x4)).toNatClampNeg)) (x2 + x4) σ))))))

def f_X12_keeps_57 (K12 : (Int32 × Int32 × Int32 × St) → Option (St)) (x1 : Int32) (x2 : Int32) (x3 : Int32) (x4 : Int32) (σ : St) : Option (St) :=
  it (fun K a => f_X12_keeps_57b K12 K a.1 a.2.1 a.2.2.1 a.2.2.2.1 a.2.2.2.2) FU (x1, x2, x3, x4, σ)

def f_X12_keeps_12b (K12 : (Int32 × Int32 × Int32 × St) → Option (St)) (x1 : Int32) (x2 : Int32) (x3 : Int32) (σ : St) : Option (St) :=
  if (σ.1 68 41) ≤ x3 then (zn (sI σ 68 64 (σ.1 68 59)) fun s5 => zn (0 : Int32) fun v6 => f_X12_keeps_143 x1 v6 s5) else (gd (ib x3 4) (gd (ib x3 4) (zn (sJ σ 98 x3.toNatClampNeg (((σ.2 91 x3.toNatClampNeg) + x1.toInt64))) fun s75 => gd (ib x3 4) (gd (ib x3 4) (zn (sJ s75 99 x3.toNatClampNeg (s75.2 92 x3.toNatClampNeg)) fun s78 => gd (ib x3 4) (zn (sI s78 100 x3.toNatClampNeg x2) fun s80 => zn (0 : Int32) fun v81 => f_X12_keeps_57 K12 x1 x2 x3 v81 s80))))))

def f_X12_keeps_12 (x1 : Int32) (x2 : Int32) (x3 : Int32) (σ : St) : Option (St) :=
  it (fun K a => f_X12_keeps_12b K a.1 a.2.1 a.2.2.1 a.2.2.2) FU (x1, x2, x3, σ)

def f_X12_keeps (a1 : Int32) (σ : St) : Option (St) :=
  zn (sI σ 68 63 (σ.1 68 41)) fun s1 => zn (0 : Int32) fun v2 => zn (0 : Int32) fun v3 => f_X12_keeps_12 a1 v2 v3 s1

def f_X12_load (a1 : Int32) (σ : St) : Option (Int32 × St) :=
  zn (sI σ 68 0 (0 : Int32)) fun s1 => zn (sI s1 68 39 (0 : Int32)) fun s2 => zn (sJ s2 68 40 (-1 : Int64)) fun s3 => bi (f_X12_reads s3) fun r6 s5 => if r6 = 0 then (some ((s5.1 68 39), s5)) else (bi (f_X12_readsSymbols s5) fun r10 s9 => if r10 = 0 then (some ((s9.1 68 39), s9)) else (bi (f_X12_readsFixups a1 s9) fun r14 s13 => if r14 = 0 then (some ((s13.1 68 39), s13)) else (bi (f_X12_fits a1 s13) fun r18 s17 => if r18 = 0 then (some ((s17.1 68 39), s17)) else (bv (f_X12_keeps a1 s17) fun s21 => some ((s21.1 68 39), s21)))))

def f_X12_place (σ : St) : Option (Int32 × St) :=
  zn (sI σ 68 0 (0 : Int32)) fun s1 => some ((s1.2 68 40).toInt32, s1)

def f_X12_holds_50 (K3 : (Int64 × Int32 × Int32 × St) → Option (Int32 × St)) (x1 : Int64) (x3 : Int32) (x4 : Int32) (σ : St) : Option (Int32 × St) :=
  zn (x4 + 1) fun v5 => K3 (x1, x3, v5, σ)

def f_X12_holds_3b (K3 : (Int64 × Int32 × Int32 × St) → Option (Int32 × St)) (x1 : Int64) (x3 : Int32) (x4 : Int32) (σ : St) : Option (Int32 × St) :=
  if (σ.1 68 63) ≤ x4 then (some ((-1 : Int32), σ)) else (gd (ib x4 4) (if x1 < (σ.2 98 x4.toNatClampNeg) then (f_X12_holds_50 K3 x1 x3 x4 σ) else (gd (ib x4 4) (gd (ib x4 4) (if ((σ.2 98 x4.toNatClampNeg) + (σ.2 99 x4.toNatClampNeg)) < (x1 + x3.toInt64) then (f_X12_holds_50 K3 x1 x3 x4 σ) else (some (x4, σ)))))))

def f_X12_holds_3 (x1 : Int64) (x3 : Int32) (x4 : Int32) (σ : St) : Option (Int32 × St) :=
  it (fun K a => f_X12_holds_3b K a.1 a.2.1 a.2.2.1 a.2.2.2) FU (x1, x3, x4, σ)

def f_X12_holds (a1 : Int64) (a2 : Int32) (σ : St) : Option (Int32 × St) :=
  zn (0 : Int32) fun v1 => f_X12_holds_3 a1 a2 v1 σ

def f_X12_byteAt (a1 : Int32) (a2 : Int64) (σ : St) : Option (Int32 × St) :=
  gd (ib a1 4) (gd (ib a1 4) (gd (ib (((σ.1 100 a1.toNatClampNeg) + ((a2 - (σ.2 98 a1.toNatClampNeg))).toInt32)) 16384) (some ((σ.1 101 (((σ.1 100 a1.toNatClampNeg) + ((a2 - (σ.2 98 a1.toNatClampNeg))).toInt32)).toNatClampNeg), σ))))

def f_X12_memory (a1 : Int32) (σ : St) : Option (Int32 × St) :=
  zn (sI σ 68 0 (0 : Int32)) fun s1 => bi (f_X12_holds a1.toInt64 (1 : Int32) s1) fun r4 s3 => if r4 = (-1 : Int32) then (some ((-1 : Int32), s3)) else (bi (f_X12_byteAt r4 a1.toInt64 s3) fun r8 s7 => some (r8, s7))

def f_X12_pointer_38b (K38 : (Int32 × Int32 × Int64 × Int32 × St) → Option (Int64 × St)) (x1 : Int32) (x2 : Int32) (x3 : Int64) (x5 : Int32) (σ : St) : Option (Int64 × St) :=
  if x5 < 0 then (some (x3, σ)) else (bi (f_X12_byteAt x2 (x1.toInt64 + x5.toInt64) σ) fun r12 s11 => zn (((zlshl x3 (8 : Int32)) ||| r12.toInt64)) fun v13 => zn (x5 + (-1)) fun v14 => K38 (x1, x2, v13, v14, s11))

def f_X12_pointer_38 (x1 : Int32) (x2 : Int32) (x3 : Int64) (x5 : Int32) (σ : St) : Option (Int64 × St) :=
  it (fun K a => f_X12_pointer_38b K a.1 a.2.1 a.2.2.1 a.2.2.2.1 a.2.2.2.2) FU (x1, x2, x3, x5, σ)

def f_X12_pointer_20 (x1 : Int32) (x2 : Int32) (t0 : Int32) (σ : St) : Option (Int64 × St) :=
  zn (sI σ 68 0 t0) fun s5 => if (s5.1 68 0) ≤ 0 then (zn (0 : Int64) fun v7 => zn (7 : Int32) fun v8 => f_X12_pointer_38 x1 x2 v7 v8 s5) else (some ((0 : Int64), s5))

def f_X12_pointer (a1 : Int32) (σ : St) : Option (Int64 × St) :=
  bi (f_X12_holds a1.toInt64 (8 : Int32) σ) fun r3 s2 => if r3 = (-1 : Int32) then (f_X12_pointer_20 a1 r3 (1 : Int32) s2) else (f_X12_pointer_20 a1 r3 (0 : Int32) s2)

def f_X12_visit_27 (x1 : Int32) (x2 : Int32) (t0 : Int32) (σ : St) : Option (Int64 × St) :=
  zn (sI σ 68 0 t0) fun s2 => if (s2.1 68 0) ≤ 0 then (if x2 = 0 then (gd (ib x1 2100) (some ((s2.2 102 x1.toNatClampNeg), s2))) else (if x2 = (1 : Int32) then (gd (ib x1 2100) (if (s2.1 105 x1.toNatClampNeg) = 0 then (some ((0 : Int64), s2)) else (some ((1 : Int64), s2)))) else (if x2 = (2 : Int32) then (gd (ib x1 2100) (some ((s2.2 103 x1.toNatClampNeg), s2))) else (gd (ib x1 2100) (some ((s2.1 104 x1.toNatClampNeg).toInt64, s2)))))) else (some ((0 : Int64), s2))

def f_X12_visit_22 (x1 : Int32) (x2 : Int32) (σ : St) : Option (Int64 × St) :=
  f_X12_visit_27 x1 x2 (1 : Int32) σ

def f_X12_visit (a1 : Int32) (a2 : Int32) (σ : St) : Option (Int64 × St) :=
  if a1 < 0 then (f_X12_visit_22 a1 a2 σ) else (if (σ.1 68 64) ≤ a1 then (f_X12_visit_22 a1 a2 σ) else (if a2 < 0 then (f_X12_visit_22 a1 a2 σ) else (if a2 ≤ (3 : Int32) then (f_X12_visit_27 a1 a2 (0 : Int32) σ) else (f_X12_visit_22 a1 a2 σ))))

def f_X12_find_90 (K17 : (Int32 × Int32 × St) → Option (Int32 × St)) (x1 : Int32) (x2 : Int32) (x3 : Int32) (σ : St) : Option (Int32 × St) :=
  if x3 = 0 then (zn (x2 + 1) fun v11 => K17 (x1, v11, σ)) else (gd (ib x2 64) (some ((σ.1 109 x2.toNatClampNeg), σ)))

def f_X12_find_83 (K44 : (Int32 × Int32 × Int32 × Int32 × St) → Option (Int32 × St)) (x1 : Int32) (x2 : Int32) (x4 : Int32) (t0 : Int32) (σ : St) : Option (Int32 × St) :=
  zn (x4 + 1) fun v18 => K44 (x1, x2, t0, v18, σ)

def f_X12_find_44b (K17 : (Int32 × Int32 × St) → Option (Int32 × St)) (K44 : (Int32 × Int32 × Int32 × Int32 × St) → Option (Int32 × St)) (x1 : Int32) (x2 : Int32) (x3 : Int32) (x4 : Int32) (σ : St) : Option (Int32 × St) :=
  if x1 ≤ x4 then (f_X12_find_90 K17 x1 x2 x3 σ) else (if x3 = 0 then (f_X12_find_90 K17 x1 x2 x3 σ) else (gd (ib x2 64) (gd (ib (((σ.1 107 x2.toNatClampNeg) + x4)) 9000) (gd (ib x4 1040) (if (σ.1 106 (((σ.1 107 x2.toNatClampNeg) + x4)).toNatClampNeg) = (σ.1 69 x4.toNatClampNeg) then (f_X12_find_83 K44 x1 x2 x4 (1 : Int32) σ) else (f_X12_find_83 K44 x1 x2 x4 (0 : Int32) σ))))))

def f_X12_find_44 (K17 : (Int32 × Int32 × St) → Option (Int32 × St)) (x1 : Int32) (x2 : Int32) (x3 : Int32) (x4 : Int32) (σ : St) : Option (Int32 × St) :=
  it (fun K a => f_X12_find_44b K17 K a.1 a.2.1 a.2.2.1 a.2.2.2.1 a.2.2.2.2) FU (x1, x2, x3, x4, σ)

def f_X12_find_40 (K17 : (Int32 × Int32 × St) → Option (Int32 × St)) (x1 : Int32) (x2 : Int32) (t0 : Int32) (σ : St) : Option (Int32 × St) :=
  zn (0 : Int32) fun v8 => f_X12_find_44 K17 x1 x2 t0 v8 σ

def f_X12_find_17b (K17 : (Int32 × Int32 × St) → Option (Int32 × St)) (x1 : Int32) (x2 : Int32) (σ : St) : Option (Int32 × St) :=
  if (σ.1 68 65) ≤ x2 then (some ((-1 : Int32), σ)) else (gd (ib x2 64) (if (σ.1 108 x2.toNatClampNeg) = x1 then (f_X12_find_40 K17 x1 x2 (1 : Int32) σ) else (f_X12_find_40 K17 x1 x2 (0 : Int32) σ)))

def f_X12_find_17 (x1 : Int32) (x2 : Int32) (σ : St) : Option (Int32 × St) :=
  it (fun K a => f_X12_find_17b K a.1 a.2.1 a.2.2) FU (x1, x2, σ)

def f_X12_find (σ : St) : Option (Int32 × St) :=
  zn (sI σ 68 0 (0 : Int32)) fun s1 => zn (s1.1 68 2) fun v2 => zn (sI s1 68 2 (0 : Int32)) fun s3 => zn (0 : Int32) fun v4 => f_X12_find_17 v2 v4 s3

def f_X12_count (a1 : Int32) (σ : St) : Option (Int32 × St) :=
  zn (sI σ 68 0 (0 : Int32)) fun s1 => if a1 = 0 then (some ((s1.1 68 6), s1)) else (if a1 = 1 then (some ((s1.1 68 7), s1)) else (if a1 = 2 then (some ((s1.1 68 8), s1)) else (if a1 = 3 then (some ((s1.1 68 9), s1)) else (if a1 = 4 then (some ((s1.1 68 10), s1)) else (if a1 = 5 then (some ((s1.1 68 30), s1)) else (if a1 = 6 then (some ((s1.1 68 11), s1)) else (if a1 = 7 then (some ((s1.1 68 63), s1)) else (if a1 = 8 then (some ((s1.1 68 64), s1)) else (if a1 = 9 then (some ((s1.1 68 65), s1)) else (if a1 = 10 then (some ((s1.1 68 2), s1)) else ((some ((-1 : Int32), s1)))))))))))))
