set_option maxRecDepth 100000 in
set_option maxHeartbeats 4000000 in
theorem c_X12_four (l : Launch) (D : va_G) (h : Nat → Nat) (cy : Nat → ClassId) (a1 : Int64) (σ : St) (y : Int64 × St) (hf : f_X12_four a1 σ = some y) : CL l yX12_four cX12_four 4 (some .long) 0 0 D h cy [.ref (h 68), .long a1] σ y := by
  refine ent (Qc := fun sz => QL D h cy sz y) (by decide) (Nat.le_of_ble_eq_true rfl) ?_
  intro p e s m below meth c ls X Z hr hk hl
  have X : Cx p s m _ c D h cy RX12 cX12_four 4 := X
  have hx := X.x
  have hb := X.b
  have hl : lv_has ls 4 [(0, .ref (h 68)), (1, .long a1)] := hl
  unfold f_X12_four at hf
  refine lv_lload_n hx hb dX12_four_0 rfl (lv_at hl 1 rfl) ?_
  refine lv_l2i (v := a1.toInt32) hx hb dX12_four_1 rfl ?_
  refine lv_topi (fun v1 ev1 => ?_)
  have hf := zn_e ev1 hf
  refine lv_istore_n (lv' := [(3, .int v1), (0, .ref (h 68)), (1, .long a1)]) hx hb dX12_four_2 rfl hl (by decide) rfl (fun ls hl => ?_)
  refine lv_aload_n hx hb dX12_four_3 rfl (lv_at hl 1 rfl) ?_
  refine gf_RX12_77 X Z dX12_four_4 ?_
  refine lv_iload_n hx hb dX12_four_7 rfl (lv_at hl 0 rfl) ?_
  obtain ⟨g2, hf⟩ := gd_s hf
  refine x_iald (k := 88) X Z sh_88 g2 dX12_four_8 ?_
  refine lv_aload_n hx hb dX12_four_9 rfl (lv_at hl 1 rfl) ?_
  refine gf_RX12_77 X Z dX12_four_10 ?_
  refine lv_iload_n hx hb dX12_four_13 rfl (lv_at hl 0 rfl) ?_
  refine lv_iconst (v := 1) hx hb dX12_four_14 (by decide) ?_
  refine lv_iadd hx hb dX12_four_15 ?_
  obtain ⟨g3, hf⟩ := gd_s hf
  refine x_iald (k := 88) X Z sh_88 g3 dX12_four_16 ?_
  refine lv_bipush (v := 8) hx hb dX12_four_17 (by decide) ?_
  refine lv_ishl hx hb dX12_four_19 ?_
  refine lv_ior hx hb dX12_four_20 ?_
  refine lv_aload_n hx hb dX12_four_21 rfl (lv_at hl 1 rfl) ?_
  refine gf_RX12_77 X Z dX12_four_22 ?_
  refine lv_iload_n hx hb dX12_four_25 rfl (lv_at hl 0 rfl) ?_
  refine lv_iconst (v := 2) hx hb dX12_four_26 (by decide) ?_
  refine lv_iadd hx hb dX12_four_27 ?_
  obtain ⟨g4, hf⟩ := gd_s hf
  refine x_iald (k := 88) X Z sh_88 g4 dX12_four_28 ?_
  refine lv_bipush (v := 16) hx hb dX12_four_29 (by decide) ?_
  refine lv_ishl hx hb dX12_four_31 ?_
  refine lv_ior hx hb dX12_four_32 ?_
  refine lv_i2l (v := ((((σ.1 88 v1.toNatClampNeg) ||| ((σ.1 88 ((v1 + (1 : Int32))).toNatClampNeg) <<< ((8 : Int32) &&& 31))) ||| ((σ.1 88 ((v1 + (2 : Int32))).toNatClampNeg) <<< ((16 : Int32) &&& 31)))).toInt64) hx hb dX12_four_33 rfl ?_
  refine lv_aload_n hx hb dX12_four_34 rfl (lv_at hl 1 rfl) ?_
  refine gf_RX12_77 X Z dX12_four_35 ?_
  refine lv_iload_n hx hb dX12_four_38 rfl (lv_at hl 0 rfl) ?_
  refine lv_iconst (v := 3) hx hb dX12_four_39 (by decide) ?_
  refine lv_iadd hx hb dX12_four_40 ?_
  obtain ⟨g5, hf⟩ := gd_s hf
  refine x_iald (k := 88) X Z sh_88 g5 dX12_four_41 ?_
  refine lv_i2l (v := ((σ.1 88 ((v1 + (3 : Int32))).toNatClampNeg)).toInt64) hx hb dX12_four_42 rfl ?_
  refine lv_bipush (v := 24) hx hb dX12_four_43 (by decide) ?_
  refine lv_lshl (v := zlshl (((σ.1 88 ((v1 + (3 : Int32))).toNatClampNeg)).toInt64) (24 : Int32)) hx hb dX12_four_45 rfl ?_
  refine lv_lor hx hb dX12_four_46 ?_
  exact retL X hr hk Z hf dX12_four_47

set_option maxRecDepth 100000 in
set_option maxHeartbeats 4000000 in
theorem c_X12_two (l : Launch) (D : va_G) (h : Nat → Nat) (cy : Nat → ClassId) (a1 : Int64) (σ : St) (y : Int32 × St) (hf : f_X12_two a1 σ = some y) : CI l yX12_two cX12_two 3 (some .int) 0 0 D h cy [.ref (h 68), .long a1] σ y := by
  refine ent (Qc := fun sz => QI D h cy sz y) (by decide) (Nat.le_of_ble_eq_true rfl) ?_
  intro p e s m below meth c ls X Z hr hk hl
  have X : Cx p s m _ c D h cy RX12 cX12_two 3 := X
  have hx := X.x
  have hb := X.b
  have hl : lv_has ls 3 [(0, .ref (h 68)), (1, .long a1)] := hl
  unfold f_X12_two at hf
  refine lv_aload_n hx hb dX12_two_0 rfl (lv_at hl 0 rfl) ?_
  refine gf_RX12_77 X Z dX12_two_1 ?_
  refine lv_lload_n hx hb dX12_two_4 rfl (lv_at hl 1 rfl) ?_
  refine lv_l2i (v := a1.toInt32) hx hb dX12_two_5 rfl ?_
  obtain ⟨g1, hf⟩ := gd_s hf
  refine x_iald (k := 88) X Z sh_88 g1 dX12_two_6 ?_
  refine lv_aload_n hx hb dX12_two_7 rfl (lv_at hl 0 rfl) ?_
  refine gf_RX12_77 X Z dX12_two_8 ?_
  refine lv_lload_n hx hb dX12_two_11 rfl (lv_at hl 1 rfl) ?_
  refine lv_l2i (v := a1.toInt32) hx hb dX12_two_12 rfl ?_
  refine lv_iconst (v := 1) hx hb dX12_two_13 (by decide) ?_
  refine lv_iadd hx hb dX12_two_14 ?_
  obtain ⟨g2, hf⟩ := gd_s hf
  refine x_iald (k := 88) X Z sh_88 g2 dX12_two_15 ?_
  refine lv_bipush (v := 8) hx hb dX12_two_16 (by decide) ?_
  refine lv_ishl hx hb dX12_two_18 ?_
  refine lv_ior hx hb dX12_two_19 ?_
  exact retI X hr hk Z hf dX12_two_20

set_option maxRecDepth 100000 in
set_option maxHeartbeats 4000000 in
theorem c_X12_eight (l : Launch) (D : va_G) (h : Nat → Nat) (cy : Nat → ClassId) (a1 : Int64) (σ : St) (y : Int64 × St) (hf : f_X12_eight a1 σ = some y) : CL l yX12_eight cX12_eight 3 (some .long) 1 23 D h cy [.ref (h 68), .long a1] σ y := by
  refine ent (Qc := fun sz => QL D h cy sz y) (by decide) (Nat.le_of_ble_eq_true rfl) ?_
  intro p e s m below meth c ls X Z hr hk hl
  have X : Cx p s m _ c D h cy RX12 cX12_eight 3 := X
  have hx := X.x
  have hb := X.b
  have hl : lv_has ls 3 [(0, .ref (h 68)), (1, .long a1)] := hl
  unfold f_X12_eight at hf
  refine lv_aload_n hx hb dX12_eight_0 rfl (lv_at hl 0 rfl) ?_
  refine lv_lload_n hx hb dX12_eight_1 rfl (lv_at hl 1 rfl) ?_
  obtain ⟨r3, s2, h1, hf⟩ := bi_s hf
  refine goL Z (run_V (As := [.long a1]) (rest := []) X Z (c_X12_four l D h cy a1 σ (r3, s2) h1 _) lk_RX12_307 ⟨by decide, by decide⟩ rv_68 rfl hl.1 rfl (Nat.le_of_ble_eq_true rfl) ⟨Nat.le_refl _, Nat.le_refl _⟩ dX12_eight_2) (fun H locs Z => ?_)
  refine lv_aload_n hx hb dX12_eight_5 rfl (lv_at hl 0 rfl) ?_
  refine lv_lload_n hx hb dX12_eight_6 rfl (lv_at hl 1 rfl) ?_
  refine lv_ldc2 (v := 4) hx hb X.o (X.t _ kc_RX12_311) dX12_eight_7 ?_
  refine lv_ladd hx hb dX12_eight_10 ?_
  obtain ⟨r6, s5, h4, hf⟩ := bi_s hf
  refine goL Z (run_V (As := [.long ((a1 + (4 : Int64)))]) (rest := [.long r3]) X Z (c_X12_four l D h cy ((a1 + (4 : Int64))) s2 (r6, s5) h4 _) lk_RX12_307 ⟨by decide, by decide⟩ rv_68 rfl hl.1 rfl (Nat.le_of_ble_eq_true rfl) ⟨Nat.le_refl _, Nat.le_refl _⟩ dX12_eight_11) (fun H locs Z => ?_)
  refine lv_bipush (v := 32) hx hb dX12_eight_14 (by decide) ?_
  refine lv_lshl (v := zlshl r6 (32 : Int32)) hx hb dX12_eight_16 rfl ?_
  refine lv_lor hx hb dX12_eight_17 ?_
  exact retL X hr hk Z hf dX12_eight_18

set_option maxRecDepth 100000 in
set_option maxHeartbeats 4000000 in
theorem c_X12_bad (l : Launch) (D : va_G) (h : Nat → Nat) (cy : Nat → ClassId) (a1 : Int32) (a2 : Int64) (σ : St) (y : Int32 × St) (hf : f_X12_bad a1 a2 σ = some y) : CI l yX12_bad cX12_bad 4 (some .boolean) 0 0 D h cy [.ref (h 68), .int a1, .long a2] σ y := by
  refine ent (Qc := fun sz => QI D h cy sz y) (by decide) (Nat.le_of_ble_eq_true rfl) ?_
  intro p e s m below meth c ls X Z hr hk hl
  have X : Cx p s m _ c D h cy RX12 cX12_bad 4 := X
  have hx := X.x
  have hb := X.b
  have hl : lv_has ls 4 [(0, .ref (h 68)), (1, .int a1), (2, .long a2)] := hl
  unfold f_X12_bad at hf
  refine lv_aload_n hx hb dX12_bad_0 rfl (lv_at hl 0 rfl) ?_
  refine lv_iload_n hx hb dX12_bad_1 rfl (lv_at hl 1 rfl) ?_
  refine pf_RX12_313 X Z dX12_bad_2 (fun s1 H locs es1 Z => ?_)
  have hf := zn_e es1 hf
  refine lv_aload_n hx hb dX12_bad_5 rfl (lv_at hl 0 rfl) ?_
  refine lv_lload_n hx hb dX12_bad_6 rfl (lv_at hl 2 rfl) ?_
  refine pf_RX12_88 X Z dX12_bad_7 (fun s2 H locs es2 Z => ?_)
  have hf := zn_e es2 hf
  refine lv_iconst (v := 0) hx hb dX12_bad_10 (by decide) ?_
  exact retZ X hr hk Z (by decide) hf dX12_bad_11

set_option maxRecDepth 100000 in
set_option maxHeartbeats 4000000 in
theorem b_X12_isNumber_20 {p : Program} {l : Launch} {e : Env} {s : State} {m : MethodId} {args : Array Value} {below : List Frame} {meth : Method} {c : Code} {D : va_G} {h : Nat → Nat} {cy : Nat → ClassId} (X : Cx p s m args c D h cy RX12 cX12_isNumber 5) (hr : meth.sig.returnType = some .boolean) (hk : meth.locks = false) (x1 : Int64) (σ : St) (y : Int32 × St) (hf : f_X12_isNumber_20 x1 σ = some y) : ∀ (H : Heap) (locs : List Loc) (ls : Array Slot), Zt D h cy s σ H locs → lv_has ls 5 [(0, .ref (h 68)), (1, .long x1)] → W p l e (rmz 2 45) s m args below meth c H locs 0 0 (EI below args s D h cy y) (F0 m 20 ls []) := by
  intro H locs ls Z hl
  have hx := X.x
  have hb := X.b
  unfold f_X12_isNumber_20 at hf
  refine lv_aload_n hx hb dX12_isNumber_20 rfl (lv_at hl 0 rfl) ?_
  refine lv_iconst (v := 5) hx hb dX12_isNumber_21 (by decide) ?_
  refine lv_lload_n hx hb dX12_isNumber_22 rfl (lv_at hl 1 rfl) ?_
  obtain ⟨r7, s6, h5, hf⟩ := bi_s hf
  refine goI Z (run_V (As := [.int (5 : Int32), .long x1]) (rest := []) X Z (c_X12_bad l D h cy (5 : Int32) x1 σ (r7, s6) h5 _) lk_RX12_321 ⟨by decide, by decide⟩ rv_68 rfl hl.1 rfl (Nat.le_of_ble_eq_true rfl) ⟨Nat.le_refl _, Nat.le_refl _⟩ dX12_isNumber_23) (fun H locs Z => ?_)
  refine lv_if_eq (tgt := 33) hx hb dX12_isNumber_26 (by decide) (fun c8 => ?_) (fun c8 => ?_)
  · have hf := itp c8 hf
    refine lv_iconst (v := 0) hx hb dX12_isNumber_33 (by decide) ?_
    exact retZ X hr hk Z (by decide) hf dX12_isNumber_34
  · have hf := itn c8 hf
    refine lv_iconst (v := 1) hx hb dX12_isNumber_29 (by decide) ?_
    refine lv_goto (tgt := 34) hx hb dX12_isNumber_30 (by decide) ?_
    exact retZ X hr hk Z (by decide) hf dX12_isNumber_34

set_option maxRecDepth 100000 in
set_option maxHeartbeats 4000000 in
theorem c_X12_isNumber (l : Launch) (D : va_G) (h : Nat → Nat) (cy : Nat → ClassId) (a1 : Int64) (σ : St) (y : Int32 × St) (hf : f_X12_isNumber a1 σ = some y) : CI l yX12_isNumber cX12_isNumber 5 (some .boolean) 2 45 D h cy [.ref (h 68), .long a1] σ y := by
  refine ent (Qc := fun sz => QI D h cy sz y) (by decide) (Nat.le_of_ble_eq_true rfl) ?_
  intro p e s m below meth c ls X Z hr hk hl
  have X : Cx p s m _ c D h cy RX12 cX12_isNumber 5 := X
  have hx := X.x
  have hb := X.b
  have hl : lv_has ls 5 [(0, .ref (h 68)), (1, .long a1)] := hl
  unfold f_X12_isNumber at hf
  refine lv_aload_n hx hb dX12_isNumber_0 rfl (lv_at hl 0 rfl) ?_
  refine lv_lload_n hx hb dX12_isNumber_1 rfl (lv_at hl 1 rfl) ?_
  obtain ⟨r3, s2, h1, hf⟩ := bi_s hf
  refine goL Z (run_V (As := [.long a1]) (rest := []) X Z (c_X12_eight l D h cy a1 σ (r3, s2) h1 _) lk_RX12_316 ⟨by decide, by decide⟩ rv_68 rfl hl.1 rfl (Nat.le_of_ble_eq_true rfl) ⟨Nat.le_refl _, Nat.le_refl _⟩ dX12_isNumber_2) (fun H locs Z => ?_)
  refine lv_lstore_n (lv' := [(3, .long r3), (0, .ref (h 68)), (1, .long a1)]) hx hb dX12_isNumber_5 rfl hl (by decide) rfl (fun ls hl => ?_)
  refine lv_lload_n hx hb dX12_isNumber_6 rfl (lv_at hl 0 rfl) ?_
  refine lv_lconst (v := 0) hx hb dX12_isNumber_7 (by decide) ?_
  refine x_lif_lt (tgt := 20) X dX12_isNumber_8 dX12_isNumber_9 (by decide) (fun c4 => ?_) (fun c4 => ?_)
  · have hf := itp c4 hf
    exact b_X12_isNumber_20 X hr hk a1 s2 _ hf _ _ _ Z (lv_sub hl [1, 2] rfl)
  · have hf := itn c4 hf
    refine lv_lload_n hx hb dX12_isNumber_12 rfl (lv_at hl 0 rfl) ?_
    refine lv_ldc2 (v := 2147483647) hx hb X.o (X.t _ kc_RX12_319) dX12_isNumber_13 ?_
    refine x_lif_le (tgt := 29) X dX12_isNumber_16 dX12_isNumber_17 (by decide) (fun c9 => ?_) (fun c9 => ?_)
    · have hf := itp c9 hf
      refine lv_iconst (v := 1) hx hb dX12_isNumber_29 (by decide) ?_
      refine lv_goto (tgt := 34) hx hb dX12_isNumber_30 (by decide) ?_
      exact retZ X hr hk Z (by decide) hf dX12_isNumber_34
    · have hf := itn c9 hf
      exact b_X12_isNumber_20 X hr hk a1 s2 _ hf _ _ _ Z (lv_sub hl [1, 2] rfl)

set_option maxRecDepth 100000 in
set_option maxHeartbeats 4000000 in
theorem c_X12_readChains (l : Launch) (D : va_G) (h : Nat → Nat) (cy : Nat → ClassId) (a1 : Int64) (a2 : Int64) (σ : St) (y : Int32 × St) (hf : f_X12_readChains a1 a2 σ = some y) : CI l yX12_readChains cX12_readChains 5 (some .boolean) 1 23 D h cy [.ref (h 68), .long a1, .long a2] σ y := by
  refine ent (Qc := fun sz => QI D h cy sz y) (by decide) (Nat.le_of_ble_eq_true rfl) ?_
  intro p e s m below meth c ls X Z hr hk hl
  have X : Cx p s m _ c D h cy RX12 cX12_readChains 5 := X
  have hx := X.x
  have hb := X.b
  have hl : lv_has ls 5 [(0, .ref (h 68)), (1, .long a1), (3, .long a2)] := hl
  unfold f_X12_readChains at hf
  refine lv_aload_n hx hb dX12_readChains_0 rfl (lv_at hl 0 rfl) ?_
  refine gf_RX12_354 X Z dX12_readChains_1 ?_
  refine lv_if_eq (tgt := 14) hx hb dX12_readChains_4 (by decide) (fun c1 => ?_) (fun c1 => ?_)
  · have hf := itp c1 hf
    refine lv_lload_n hx hb dX12_readChains_14 rfl (lv_at hl 2 rfl) ?_
    refine lv_ldc2 (v := 16) hx hb X.o (X.t _ kc_RX12_298) dX12_readChains_15 ?_
    refine x_lif_eq (tgt := 33) X dX12_readChains_18 dX12_readChains_19 (by decide) (fun c2 => ?_) (fun c2 => ?_)
    · have hf := itp c2 hf
      refine lv_aload_n hx hb dX12_readChains_33 rfl (lv_at hl 0 rfl) ?_
      refine lv_iconst (v := 1) hx hb dX12_readChains_34 (by decide) ?_
      refine pf_RX12_354 X Z (by decide) dX12_readChains_35 (fun s3 H locs es3 Z => ?_)
      have hf := zn_e es3 hf
      refine lv_aload_n hx hb dX12_readChains_38 rfl (lv_at hl 0 rfl) ?_
      refine lv_aload_n hx hb dX12_readChains_39 rfl (lv_at hl 0 rfl) ?_
      refine lv_lload_n hx hb dX12_readChains_40 rfl (lv_at hl 1 rfl) ?_
      refine lv_ldc2 (v := 8) hx hb X.o (X.t _ kc_RX12_361) dX12_readChains_41 ?_
      refine lv_ladd hx hb dX12_readChains_44 ?_
      obtain ⟨r6, s5, h4, hf⟩ := bi_s hf
      refine goL Z (run_V (As := [.long ((a1 + (8 : Int64)))]) (rest := [.ref (h 68)]) X Z (c_X12_four l D h cy ((a1 + (8 : Int64))) s3 (r6, s5) h4 _) lk_RX12_307 ⟨by decide, by decide⟩ rv_68 rfl hl.1 rfl (Nat.le_of_ble_eq_true rfl) ⟨Nat.le_refl _, Nat.le_refl _⟩ dX12_readChains_45) (fun H locs Z => ?_)
      refine pf_RX12_404 X Z dX12_readChains_48 (fun s7 H locs es7 Z => ?_)
      have hf := zn_e es7 hf
      refine lv_aload_n hx hb dX12_readChains_51 rfl (lv_at hl 0 rfl) ?_
      refine lv_aload_n hx hb dX12_readChains_52 rfl (lv_at hl 0 rfl) ?_
      refine gf_RX12_404 X Z dX12_readChains_53 ?_
      refine lv_aload_n hx hb dX12_readChains_56 rfl (lv_at hl 0 rfl) ?_
      refine lv_lload_n hx hb dX12_readChains_57 rfl (lv_at hl 1 rfl) ?_
      refine lv_ldc2 (v := 12) hx hb X.o (X.t _ kc_RX12_393) dX12_readChains_58 ?_
      refine lv_ladd hx hb dX12_readChains_61 ?_
      obtain ⟨r10, s9, h8, hf⟩ := bi_s hf
      refine goL Z (run_V (As := [.long ((a1 + (12 : Int64)))]) (rest := [.long (s7.2 68 54), .ref (h 68)]) X Z (c_X12_four l D h cy ((a1 + (12 : Int64))) s7 (r10, s9) h8 _) lk_RX12_307 ⟨by decide, by decide⟩ rv_68 rfl hl.1 rfl (Nat.le_of_ble_eq_true rfl) ⟨Nat.le_refl _, Nat.le_refl _⟩ dX12_readChains_62) (fun H locs Z => ?_)
      refine lv_ladd hx hb dX12_readChains_65 ?_
      refine pf_RX12_407 X Z dX12_readChains_66 (fun s11 H locs es11 Z => ?_)
      have hf := zn_e es11 hf
      refine lv_aload_n hx hb dX12_readChains_69 rfl (lv_at hl 0 rfl) ?_
      refine gf_RX12_407 X Z dX12_readChains_70 ?_
      refine lv_aload_n hx hb dX12_readChains_73 rfl (lv_at hl 0 rfl) ?_
      refine gf_RX12_253 X Z dX12_readChains_74 ?_
      refine lv_i2l (v := (s11.1 68 30).toInt64) hx hb dX12_readChains_77 rfl ?_
      refine x_lif_le (tgt := 95) X dX12_readChains_78 dX12_readChains_79 (by decide) (fun c12 => ?_) (fun c12 => ?_)
      · have hf := itp c12 hf
        refine lv_iconst (v := 1) hx hb dX12_readChains_95 (by decide) ?_
        refine lv_goto (tgt := 100) hx hb dX12_readChains_96 (by decide) ?_
        exact retZ X hr hk Z (by decide) hf dX12_readChains_100
      · have hf := itn c12 hf
        refine lv_aload_n hx hb dX12_readChains_82 rfl (lv_at hl 0 rfl) ?_
        refine lv_iconst (v := 1) hx hb dX12_readChains_83 (by decide) ?_
        refine lv_lload_n hx hb dX12_readChains_84 rfl (lv_at hl 1 rfl) ?_
        refine lv_ldc2 (v := 8) hx hb X.o (X.t _ kc_RX12_361) dX12_readChains_85 ?_
        refine lv_ladd hx hb dX12_readChains_88 ?_
        obtain ⟨r15, s14, h13, hf⟩ := bi_s hf
        refine goI Z (run_V (As := [.int (1 : Int32), .long ((a1 + (8 : Int64)))]) (rest := []) X Z (c_X12_bad l D h cy (1 : Int32) ((a1 + (8 : Int64))) s11 (r15, s14) h13 _) lk_RX12_321 ⟨by decide, by decide⟩ rv_68 rfl hl.1 rfl (Nat.le_of_ble_eq_true rfl) ⟨Nat.le_refl _, Nat.le_refl _⟩ dX12_readChains_89) (fun H locs Z => ?_)
        refine lv_if_eq (tgt := 99) hx hb dX12_readChains_92 (by decide) (fun c16 => ?_) (fun c16 => ?_)
        · have hf := itp c16 hf
          refine lv_iconst (v := 0) hx hb dX12_readChains_99 (by decide) ?_
          exact retZ X hr hk Z (by decide) hf dX12_readChains_100
        · have hf := itn c16 hf
          refine lv_iconst (v := 1) hx hb dX12_readChains_95 (by decide) ?_
          refine lv_goto (tgt := 100) hx hb dX12_readChains_96 (by decide) ?_
          exact retZ X hr hk Z (by decide) hf dX12_readChains_100
    · have hf := itn c2 hf
      refine lv_aload_n hx hb dX12_readChains_22 rfl (lv_at hl 0 rfl) ?_
      refine lv_iconst (v := 3) hx hb dX12_readChains_23 (by decide) ?_
      refine lv_lload_n hx hb dX12_readChains_24 rfl (lv_at hl 1 rfl) ?_
      refine lv_ldc2 (v := 4) hx hb X.o (X.t _ kc_RX12_311) dX12_readChains_25 ?_
      refine lv_ladd hx hb dX12_readChains_28 ?_
      obtain ⟨r19, s18, h17, hf⟩ := bi_s hf
      refine goI Z (run_V (As := [.int (3 : Int32), .long ((a1 + (4 : Int64)))]) (rest := []) X Z (c_X12_bad l D h cy (3 : Int32) ((a1 + (4 : Int64))) σ (r19, s18) h17 _) lk_RX12_321 ⟨by decide, by decide⟩ rv_68 rfl hl.1 rfl (Nat.le_of_ble_eq_true rfl) ⟨Nat.le_refl _, Nat.le_refl _⟩ dX12_readChains_29) (fun H locs Z => ?_)
      obtain ⟨g20, hf⟩ := gd_s hf
      exact retZ X hr hk Z g20 hf dX12_readChains_32
  · have hf := itn c1 hf
    refine lv_aload_n hx hb dX12_readChains_7 rfl (lv_at hl 0 rfl) ?_
    refine lv_iconst (v := 3) hx hb dX12_readChains_8 (by decide) ?_
    refine lv_lload_n hx hb dX12_readChains_9 rfl (lv_at hl 1 rfl) ?_
    obtain ⟨r23, s22, h21, hf⟩ := bi_s hf
    refine goI Z (run_V (As := [.int (3 : Int32), .long a1]) (rest := []) X Z (c_X12_bad l D h cy (3 : Int32) a1 σ (r23, s22) h21 _) lk_RX12_321 ⟨by decide, by decide⟩ rv_68 rfl hl.1 rfl (Nat.le_of_ble_eq_true rfl) ⟨Nat.le_refl _, Nat.le_refl _⟩ dX12_readChains_10) (fun H locs Z => ?_)
    obtain ⟨g24, hf⟩ := gd_s hf
    exact retZ X hr hk Z g24 hf dX12_readChains_13

set_option maxRecDepth 100000 in
set_option maxHeartbeats 4000000 in
theorem c_X12_readTable (l : Launch) (D : va_G) (h : Nat → Nat) (cy : Nat → ClassId) (a1 : Int64) (a2 : Int64) (σ : St) (y : Int32 × St) (hf : f_X12_readTable a1 a2 σ = some y) : CI l yX12_readTable cX12_readTable 5 (some .boolean) 1 23 D h cy [.ref (h 68), .long a1, .long a2] σ y := by
  refine ent (Qc := fun sz => QI D h cy sz y) (by decide) (Nat.le_of_ble_eq_true rfl) ?_
  intro p e s m below meth c ls X Z hr hk hl
  have X : Cx p s m _ c D h cy RX12 cX12_readTable 5 := X
  have hx := X.x
  have hb := X.b
  have hl : lv_has ls 5 [(0, .ref (h 68)), (1, .long a1), (3, .long a2)] := hl
  unfold f_X12_readTable at hf
  refine lv_aload_n hx hb dX12_readTable_0 rfl (lv_at hl 0 rfl) ?_
  refine gf_RX12_350 X Z dX12_readTable_1 ?_
  refine lv_if_eq (tgt := 14) hx hb dX12_readTable_4 (by decide) (fun c1 => ?_) (fun c1 => ?_)
  · have hf := itp c1 hf
    refine lv_lload_n hx hb dX12_readTable_14 rfl (lv_at hl 2 rfl) ?_
    refine lv_ldc2 (v := 24) hx hb X.o (X.t _ kc_RX12_294) dX12_readTable_15 ?_
    refine x_lif_eq (tgt := 33) X dX12_readTable_18 dX12_readTable_19 (by decide) (fun c2 => ?_) (fun c2 => ?_)
    · have hf := itp c2 hf
      refine lv_aload_n hx hb dX12_readTable_33 rfl (lv_at hl 0 rfl) ?_
      refine lv_iconst (v := 1) hx hb dX12_readTable_34 (by decide) ?_
      refine pf_RX12_350 X Z (by decide) dX12_readTable_35 (fun s3 H locs es3 Z => ?_)
      have hf := zn_e es3 hf
      refine lv_aload_n hx hb dX12_readTable_38 rfl (lv_at hl 0 rfl) ?_
      refine lv_aload_n hx hb dX12_readTable_39 rfl (lv_at hl 0 rfl) ?_
      refine lv_lload_n hx hb dX12_readTable_40 rfl (lv_at hl 1 rfl) ?_
      refine lv_ldc2 (v := 8) hx hb X.o (X.t _ kc_RX12_361) dX12_readTable_41 ?_
      refine lv_ladd hx hb dX12_readTable_44 ?_
      obtain ⟨r6, s5, h4, hf⟩ := bi_s hf
      refine goL Z (run_V (As := [.long ((a1 + (8 : Int64)))]) (rest := [.ref (h 68)]) X Z (c_X12_four l D h cy ((a1 + (8 : Int64))) s3 (r6, s5) h4 _) lk_RX12_307 ⟨by decide, by decide⟩ rv_68 rfl hl.1 rfl (Nat.le_of_ble_eq_true rfl) ⟨Nat.le_refl _, Nat.le_refl _⟩ dX12_readTable_45) (fun H locs Z => ?_)
      refine pf_RX12_390 X Z dX12_readTable_48 (fun s7 H locs es7 Z => ?_)
      have hf := zn_e es7 hf
      refine lv_aload_n hx hb dX12_readTable_51 rfl (lv_at hl 0 rfl) ?_
      refine lv_aload_n hx hb dX12_readTable_52 rfl (lv_at hl 0 rfl) ?_
      refine lv_lload_n hx hb dX12_readTable_53 rfl (lv_at hl 1 rfl) ?_
      refine lv_ldc2 (v := 12) hx hb X.o (X.t _ kc_RX12_393) dX12_readTable_54 ?_
      refine lv_ladd hx hb dX12_readTable_57 ?_
      obtain ⟨r10, s9, h8, hf⟩ := bi_s hf
      refine goL Z (run_V (As := [.long ((a1 + (12 : Int64)))]) (rest := [.ref (h 68)]) X Z (c_X12_four l D h cy ((a1 + (12 : Int64))) s7 (r10, s9) h8 _) lk_RX12_307 ⟨by decide, by decide⟩ rv_68 rfl hl.1 rfl (Nat.le_of_ble_eq_true rfl) ⟨Nat.le_refl _, Nat.le_refl _⟩ dX12_readTable_58) (fun H locs Z => ?_)
      refine pf_RX12_395 X Z dX12_readTable_61 (fun s11 H locs es11 Z => ?_)
      have hf := zn_e es11 hf
      refine lv_aload_n hx hb dX12_readTable_64 rfl (lv_at hl 0 rfl) ?_
      refine lv_aload_n hx hb dX12_readTable_65 rfl (lv_at hl 0 rfl) ?_
      refine lv_lload_n hx hb dX12_readTable_66 rfl (lv_at hl 1 rfl) ?_
      refine lv_ldc2 (v := 16) hx hb X.o (X.t _ kc_RX12_298) dX12_readTable_67 ?_
      refine lv_ladd hx hb dX12_readTable_70 ?_
      obtain ⟨r14, s13, h12, hf⟩ := bi_s hf
      refine goL Z (run_V (As := [.long ((a1 + (16 : Int64)))]) (rest := [.ref (h 68)]) X Z (c_X12_four l D h cy ((a1 + (16 : Int64))) s11 (r14, s13) h12 _) lk_RX12_307 ⟨by decide, by decide⟩ rv_68 rfl hl.1 rfl (Nat.le_of_ble_eq_true rfl) ⟨Nat.le_refl _, Nat.le_refl _⟩ dX12_readTable_71) (fun H locs Z => ?_)
      refine pf_RX12_398 X Z dX12_readTable_74 (fun s15 H locs es15 Z => ?_)
      have hf := zn_e es15 hf
      refine lv_aload_n hx hb dX12_readTable_77 rfl (lv_at hl 0 rfl) ?_
      refine lv_aload_n hx hb dX12_readTable_78 rfl (lv_at hl 0 rfl) ?_
      refine lv_lload_n hx hb dX12_readTable_79 rfl (lv_at hl 1 rfl) ?_
      refine lv_ldc2 (v := 20) hx hb X.o (X.t _ kc_RX12_359) dX12_readTable_80 ?_
      refine lv_ladd hx hb dX12_readTable_83 ?_
      obtain ⟨r18, s17, h16, hf⟩ := bi_s hf
      refine goL Z (run_V (As := [.long ((a1 + (20 : Int64)))]) (rest := [.ref (h 68)]) X Z (c_X12_four l D h cy ((a1 + (20 : Int64))) s15 (r18, s17) h16 _) lk_RX12_307 ⟨by decide, by decide⟩ rv_68 rfl hl.1 rfl (Nat.le_of_ble_eq_true rfl) ⟨Nat.le_refl _, Nat.le_refl _⟩ dX12_readTable_84) (fun H locs Z => ?_)
      refine pf_RX12_401 X Z dX12_readTable_87 (fun s19 H locs es19 Z => ?_)
      have hf := zn_e es19 hf
      refine lv_aload_n hx hb dX12_readTable_90 rfl (lv_at hl 0 rfl) ?_
      refine gf_RX12_395 X Z dX12_readTable_91 ?_
      refine lv_ldc2 (v := 64) hx hb X.o (X.t _ kc_RX12_379) dX12_readTable_94 ?_
      refine x_lif_le (tgt := 112) X dX12_readTable_97 dX12_readTable_98 (by decide) (fun c20 => ?_) (fun c20 => ?_)
      · have hf := itp c20 hf
        refine lv_aload_n hx hb dX12_readTable_112 rfl (lv_at hl 0 rfl) ?_
        refine gf_RX12_390 X Z dX12_readTable_113 ?_
        refine lv_ldc2 (v := 16) hx hb X.o (X.t _ kc_RX12_298) dX12_readTable_116 ?_
        refine lv_aload_n hx hb dX12_readTable_119 rfl (lv_at hl 0 rfl) ?_
        refine gf_RX12_395 X Z dX12_readTable_120 ?_
        refine lv_lmul hx hb dX12_readTable_123 ?_
        refine lv_ladd hx hb dX12_readTable_124 ?_
        refine lv_aload_n hx hb dX12_readTable_125 rfl (lv_at hl 0 rfl) ?_
        refine gf_RX12_253 X Z dX12_readTable_126 ?_
        refine lv_i2l (v := (s19.1 68 30).toInt64) hx hb dX12_readTable_129 rfl ?_
        refine x_lif_le (tgt := 145) X dX12_readTable_130 dX12_readTable_131 (by decide) (fun c21 => ?_) (fun c21 => ?_)
        · have hf := itp c21 hf
          refine lv_aload_n hx hb dX12_readTable_145 rfl (lv_at hl 0 rfl) ?_
          refine gf_RX12_398 X Z dX12_readTable_146 ?_
          refine lv_aload_n hx hb dX12_readTable_149 rfl (lv_at hl 0 rfl) ?_
          refine gf_RX12_401 X Z dX12_readTable_150 ?_
          refine lv_ladd hx hb dX12_readTable_153 ?_
          refine lv_aload_n hx hb dX12_readTable_154 rfl (lv_at hl 0 rfl) ?_
          refine gf_RX12_253 X Z dX12_readTable_155 ?_
          refine lv_i2l (v := (s19.1 68 30).toInt64) hx hb dX12_readTable_158 rfl ?_
          refine x_lif_le (tgt := 176) X dX12_readTable_159 dX12_readTable_160 (by decide) (fun c22 => ?_) (fun c22 => ?_)
          · have hf := itp c22 hf
            refine lv_iconst (v := 1) hx hb dX12_readTable_176 (by decide) ?_
            refine lv_goto (tgt := 181) hx hb dX12_readTable_177 (by decide) ?_
            exact retZ X hr hk Z (by decide) hf dX12_readTable_181
          · have hf := itn c22 hf
            refine lv_aload_n hx hb dX12_readTable_163 rfl (lv_at hl 0 rfl) ?_
            refine lv_iconst (v := 1) hx hb dX12_readTable_164 (by decide) ?_
            refine lv_lload_n hx hb dX12_readTable_165 rfl (lv_at hl 1 rfl) ?_
            refine lv_ldc2 (v := 16) hx hb X.o (X.t _ kc_RX12_298) dX12_readTable_166 ?_
            refine lv_ladd hx hb dX12_readTable_169 ?_
            obtain ⟨r25, s24, h23, hf⟩ := bi_s hf
            refine goI Z (run_V (As := [.int (1 : Int32), .long ((a1 + (16 : Int64)))]) (rest := []) X Z (c_X12_bad l D h cy (1 : Int32) ((a1 + (16 : Int64))) s19 (r25, s24) h23 _) lk_RX12_321 ⟨by decide, by decide⟩ rv_68 rfl hl.1 rfl (Nat.le_of_ble_eq_true rfl) ⟨Nat.le_refl _, Nat.le_refl _⟩ dX12_readTable_170) (fun H locs Z => ?_)
            refine lv_if_eq (tgt := 180) hx hb dX12_readTable_173 (by decide) (fun c26 => ?_) (fun c26 => ?_)
            · have hf := itp c26 hf
              refine lv_iconst (v := 0) hx hb dX12_readTable_180 (by decide) ?_
              exact retZ X hr hk Z (by decide) hf dX12_readTable_181
            · have hf := itn c26 hf
              refine lv_iconst (v := 1) hx hb dX12_readTable_176 (by decide) ?_
              refine lv_goto (tgt := 181) hx hb dX12_readTable_177 (by decide) ?_
              exact retZ X hr hk Z (by decide) hf dX12_readTable_181
        · have hf := itn c21 hf
          refine lv_aload_n hx hb dX12_readTable_134 rfl (lv_at hl 0 rfl) ?_
          refine lv_iconst (v := 1) hx hb dX12_readTable_135 (by decide) ?_
          refine lv_lload_n hx hb dX12_readTable_136 rfl (lv_at hl 1 rfl) ?_
          refine lv_ldc2 (v := 8) hx hb X.o (X.t _ kc_RX12_361) dX12_readTable_137 ?_
          refine lv_ladd hx hb dX12_readTable_140 ?_
          obtain ⟨r29, s28, h27, hf⟩ := bi_s hf
          refine goI Z (run_V (As := [.int (1 : Int32), .long ((a1 + (8 : Int64)))]) (rest := []) X Z (c_X12_bad l D h cy (1 : Int32) ((a1 + (8 : Int64))) s19 (r29, s28) h27 _) lk_RX12_321 ⟨by decide, by decide⟩ rv_68 rfl hl.1 rfl (Nat.le_of_ble_eq_true rfl) ⟨Nat.le_refl _, Nat.le_refl _⟩ dX12_readTable_141) (fun H locs Z => ?_)
          obtain ⟨g30, hf⟩ := gd_s hf
          exact retZ X hr hk Z g30 hf dX12_readTable_144
      · have hf := itn c20 hf
        refine lv_aload_n hx hb dX12_readTable_101 rfl (lv_at hl 0 rfl) ?_
        refine lv_iconst (v := 3) hx hb dX12_readTable_102 (by decide) ?_
        refine lv_lload_n hx hb dX12_readTable_103 rfl (lv_at hl 1 rfl) ?_
        refine lv_ldc2 (v := 12) hx hb X.o (X.t _ kc_RX12_393) dX12_readTable_104 ?_
        refine lv_ladd hx hb dX12_readTable_107 ?_
        obtain ⟨r33, s32, h31, hf⟩ := bi_s hf
        refine goI Z (run_V (As := [.int (3 : Int32), .long ((a1 + (12 : Int64)))]) (rest := []) X Z (c_X12_bad l D h cy (3 : Int32) ((a1 + (12 : Int64))) s19 (r33, s32) h31 _) lk_RX12_321 ⟨by decide, by decide⟩ rv_68 rfl hl.1 rfl (Nat.le_of_ble_eq_true rfl) ⟨Nat.le_refl _, Nat.le_refl _⟩ dX12_readTable_108) (fun H locs Z => ?_)
        obtain ⟨g34, hf⟩ := gd_s hf
        exact retZ X hr hk Z g34 hf dX12_readTable_111
    · have hf := itn c2 hf
      refine lv_aload_n hx hb dX12_readTable_22 rfl (lv_at hl 0 rfl) ?_
      refine lv_iconst (v := 3) hx hb dX12_readTable_23 (by decide) ?_
      refine lv_lload_n hx hb dX12_readTable_24 rfl (lv_at hl 1 rfl) ?_
      refine lv_ldc2 (v := 4) hx hb X.o (X.t _ kc_RX12_311) dX12_readTable_25 ?_
      refine lv_ladd hx hb dX12_readTable_28 ?_
      obtain ⟨r37, s36, h35, hf⟩ := bi_s hf
      refine goI Z (run_V (As := [.int (3 : Int32), .long ((a1 + (4 : Int64)))]) (rest := []) X Z (c_X12_bad l D h cy (3 : Int32) ((a1 + (4 : Int64))) σ (r37, s36) h35 _) lk_RX12_321 ⟨by decide, by decide⟩ rv_68 rfl hl.1 rfl (Nat.le_of_ble_eq_true rfl) ⟨Nat.le_refl _, Nat.le_refl _⟩ dX12_readTable_29) (fun H locs Z => ?_)
      obtain ⟨g38, hf⟩ := gd_s hf
      exact retZ X hr hk Z g38 hf dX12_readTable_32
  · have hf := itn c1 hf
    refine lv_aload_n hx hb dX12_readTable_7 rfl (lv_at hl 0 rfl) ?_
    refine lv_iconst (v := 3) hx hb dX12_readTable_8 (by decide) ?_
    refine lv_lload_n hx hb dX12_readTable_9 rfl (lv_at hl 1 rfl) ?_
    obtain ⟨r41, s40, h39, hf⟩ := bi_s hf
    refine goI Z (run_V (As := [.int (3 : Int32), .long a1]) (rest := []) X Z (c_X12_bad l D h cy (3 : Int32) a1 σ (r41, s40) h39 _) lk_RX12_321 ⟨by decide, by decide⟩ rv_68 rfl hl.1 rfl (Nat.le_of_ble_eq_true rfl) ⟨Nat.le_refl _, Nat.le_refl _⟩ dX12_readTable_10) (fun H locs Z => ?_)
    obtain ⟨g42, hf⟩ := gd_s hf
    exact retZ X hr hk Z g42 hf dX12_readTable_13

set_option maxRecDepth 100000 in
set_option maxHeartbeats 4000000 in
theorem b_X12_readSegment_45 {p : Program} {l : Launch} {e : Env} {s : State} {m : MethodId} {args : Array Value} {below : List Frame} {meth : Method} {c : Code} {D : va_G} {h : Nat → Nat} {cy : Nat → ClassId} (X : Cx p s m args c D h cy RX12 cX12_readSegment 13) (hr : meth.sig.returnType = some .boolean) (hk : meth.locks = false) (x1 : Int64) (σ : St) (y : Int32 × St) (hf : f_X12_readSegment_45 x1 σ = some y) : ∀ (H : Heap) (locs : List Loc) (ls : Array Slot), Zt D h cy s σ H locs → lv_has ls 13 [(0, .ref (h 68)), (1, .long x1)] → W p l e (rmz 3 69) s m args below meth c H locs 0 0 (EI below args s D h cy y) (F0 m 45 ls []) := by
  intro H locs ls Z hl
  have hx := X.x
  have hb := X.b
  unfold f_X12_readSegment_45 at hf
  refine lv_aload_n hx hb dX12_readSegment_45 rfl (lv_at hl 0 rfl) ?_
  refine lv_iconst (v := 3) hx hb dX12_readSegment_46 (by decide) ?_
  refine lv_lload_n hx hb dX12_readSegment_47 rfl (lv_at hl 1 rfl) ?_
  refine lv_ldc2 (v := 4) hx hb X.o (X.t _ kc_RX12_311) dX12_readSegment_48 ?_
  refine lv_ladd hx hb dX12_readSegment_51 ?_
  obtain ⟨r5, s4, h3, hf⟩ := bi_s hf
  refine goI Z (run_V (As := [.int (3 : Int32), .long ((x1 + (4 : Int64)))]) (rest := []) X Z (c_X12_bad l D h cy (3 : Int32) ((x1 + (4 : Int64))) σ (r5, s4) h3 _) lk_RX12_321 ⟨by decide, by decide⟩ rv_68 rfl hl.1 rfl (Nat.le_of_ble_eq_true rfl) ⟨Nat.le_refl _, Nat.le_refl _⟩ dX12_readSegment_52) (fun H locs Z => ?_)
  obtain ⟨g6, hf⟩ := gd_s hf
  exact retZ X hr hk Z g6 hf dX12_readSegment_55

set_option maxRecDepth 100000 in
set_option maxHeartbeats 4000000 in
theorem b_X12_readSegment_519 {p : Program} {l : Launch} {e : Env} {s : State} {m : MethodId} {args : Array Value} {below : List Frame} {meth : Method} {c : Code} {D : va_G} {h : Nat → Nat} {cy : Nat → ClassId} (X : Cx p s m args c D h cy RX12 cX12_readSegment 13) (hr : meth.sig.returnType = some .boolean) (hk : meth.locks = false) (x9 : Int64) (σ : St) (y : Int32 × St) (hf : f_X12_readSegment_519 x9 σ = some y) : ∀ (H : Heap) (locs : List Loc) (ls : Array Slot), Zt D h cy s σ H locs → lv_has ls 13 [(0, .ref (h 68)), (9, .long x9)] → W p l e (rmz 3 69) s m args below meth c H locs 0 0 (EI below args s D h cy y) (F0 m 519 ls []) := by
  intro H locs ls Z hl
  have hx := X.x
  have hb := X.b
  unfold f_X12_readSegment_519 at hf
  refine lv_aload_n hx hb dX12_readSegment_519 rfl (lv_at hl 0 rfl) ?_
  refine lv_bipush (v := 7) hx hb dX12_readSegment_520 (by decide) ?_
  refine lv_lload hx hb dX12_readSegment_522 (lv_at hl 1 rfl) ?_
  obtain ⟨r68, s67, h66, hf⟩ := bi_s hf
  refine goI Z (run_V (As := [.int (7 : Int32), .long x9]) (rest := []) X Z (c_X12_bad l D h cy (7 : Int32) x9 σ (r68, s67) h66 _) lk_RX12_321 ⟨by decide, by decide⟩ rv_68 rfl hl.1 rfl (Nat.le_of_ble_eq_true rfl) ⟨Nat.le_refl _, Nat.le_refl _⟩ dX12_readSegment_524) (fun H locs Z => ?_)
  obtain ⟨g69, hf⟩ := gd_s hf
  exact retZ X hr hk Z g69 hf dX12_readSegment_527

set_option maxRecDepth 100000 in
set_option maxHeartbeats 4000000 in
theorem b_X12_readSegment_426b {p : Program} {l : Launch} {e : Env} {s : State} {m : MethodId} {args : Array Value} {below : List Frame} {meth : Method} {c : Code} {D : va_G} {h : Nat → Nat} {cy : Nat → ClassId} (X : Cx p s m args c D h cy RX12 cX12_readSegment 13) (hr : meth.sig.returnType = some .boolean) (hk : meth.locks = false) (K426 : (Int64 × Int64 × Int64 × Int64 × Int64 × St) → Option (Int32 × St)) (hK426 : ∀ (a : Int64 × Int64 × Int64 × Int64 × Int64 × St) (y : Int32 × St), K426 a = some y → ∀ (H : Heap) (locs : List Loc) (ls : Array Slot), Zt D h cy s a.2.2.2.2.2 H locs → lv_has ls 13 [(0, .ref (h 68)), (1, .long a.1), (3, .long a.2.1), (5, .long a.2.2.1), (7, .long a.2.2.2.1), (9, .long a.2.2.2.2.1)] → W p l e (rmz 3 69) s m args below meth c H locs 0 0 (EI below args s D h cy y) (F0 m 426 ls [])) (x1 : Int64) (x3 : Int64) (x5 : Int64) (x7 : Int64) (x9 : Int64) (σ : St) (y : Int32 × St) (hf : f_X12_readSegment_426b K426 x1 x3 x5 x7 x9 σ = some y) : ∀ (H : Heap) (locs : List Loc) (ls : Array Slot), Zt D h cy s σ H locs → lv_has ls 13 [(0, .ref (h 68)), (1, .long x1), (3, .long x3), (5, .long x5), (7, .long x7), (9, .long x9)] → W p l e (rmz 3 69) s m args below meth c H locs 0 0 (EI below args s D h cy y) (F0 m 426 ls []) := by
  intro H locs ls Z hl
  have hx := X.x
  have hb := X.b
  unfold f_X12_readSegment_426b at hf
  refine lv_lload hx hb dX12_readSegment_426 (lv_at hl 5 rfl) ?_
  refine lv_lload_n hx hb dX12_readSegment_428 rfl (lv_at hl 1 rfl) ?_
  refine lv_lload_n hx hb dX12_readSegment_429 rfl (lv_at hl 2 rfl) ?_
  refine lv_ladd hx hb dX12_readSegment_430 ?_
  refine x_lif_ge (tgt := 549) X dX12_readSegment_431 dX12_readSegment_432 (by decide) (fun c51 => ?_) (fun c51 => ?_)
  · have hf := itp c51 hf
    refine lv_aload_n hx hb dX12_readSegment_549 rfl (lv_at hl 0 rfl) ?_
    refine lv_dup hx hb dX12_readSegment_550 rfl ?_
    refine gf_RX12_341 X Z dX12_readSegment_551 ?_
    refine lv_iconst (v := 1) hx hb dX12_readSegment_554 (by decide) ?_
    refine lv_iadd hx hb dX12_readSegment_555 ?_
    refine pf_RX12_341 X Z dX12_readSegment_556 (fun s52 H locs es52 Z => ?_)
    have hf := zn_e es52 hf
    refine lv_iconst (v := 1) hx hb dX12_readSegment_559 (by decide) ?_
    exact retZ X hr hk Z (by decide) hf dX12_readSegment_560
  · have hf := itn c51 hf
    refine lv_aload_n hx hb dX12_readSegment_435 rfl (lv_at hl 0 rfl) ?_
    refine gf_RX12_344 X Z dX12_readSegment_436 ?_
    refine lv_bipush (v := 16) hx hb dX12_readSegment_439 (by decide) ?_
    refine lv_icmp_ne (tgt := 452) hx hb dX12_readSegment_441 (by decide) (fun c53 => ?_) (fun c53 => ?_)
    · have hf := itn c53 hf
      refine lv_aload_n hx hb dX12_readSegment_452 rfl (lv_at hl 0 rfl) ?_
      refine lv_lload hx hb dX12_readSegment_453 (lv_at hl 5 rfl) ?_
      refine lv_ldc2 (v := 32) hx hb X.o (X.t _ kc_RX12_357) dX12_readSegment_455 ?_
      refine lv_ladd hx hb dX12_readSegment_458 ?_
      obtain ⟨r56, s55, h54, hf⟩ := bi_s hf
      refine goI Z (run_V (As := [.long ((x9 + (32 : Int64)))]) (rest := []) X Z (c_X12_isNumber l D h cy ((x9 + (32 : Int64))) σ (r56, s55) h54 _) lk_RX12_381 ⟨by decide, by decide⟩ rv_68 rfl hl.1 rfl (Nat.le_of_ble_eq_true rfl) ⟨Nat.le_refl _, Nat.le_refl _⟩ dX12_readSegment_459) (fun H locs Z => ?_)
      refine lv_if_eq (tgt := 478) hx hb dX12_readSegment_462 (by decide) (fun c57 => ?_) (fun c57 => ?_)
      · have hf := itp c57 hf
        refine lv_iconst (v := 0) hx hb dX12_readSegment_478 (by decide) ?_
        exact retZ X hr hk Z (by decide) hf dX12_readSegment_479
      · have hf := itn c57 hf
        refine lv_aload_n hx hb dX12_readSegment_465 rfl (lv_at hl 0 rfl) ?_
        refine lv_lload hx hb dX12_readSegment_466 (lv_at hl 5 rfl) ?_
        refine lv_ldc2 (v := 40) hx hb X.o (X.t _ kc_RX12_384) dX12_readSegment_468 ?_
        refine lv_ladd hx hb dX12_readSegment_471 ?_
        obtain ⟨r60, s59, h58, hf⟩ := bi_s hf
        refine goI Z (run_V (As := [.long ((x9 + (40 : Int64)))]) (rest := []) X Z (c_X12_isNumber l D h cy ((x9 + (40 : Int64))) s55 (r60, s59) h58 _) lk_RX12_381 ⟨by decide, by decide⟩ rv_68 rfl hl.1 rfl (Nat.le_of_ble_eq_true rfl) ⟨Nat.le_refl _, Nat.le_refl _⟩ dX12_readSegment_472) (fun H locs Z => ?_)
        refine lv_if_ne (tgt := 480) hx hb dX12_readSegment_475 (by decide) (fun c61 => ?_) (fun c61 => ?_)
        · have hf := itn c61 hf
          refine lv_aload_n hx hb dX12_readSegment_480 rfl (lv_at hl 0 rfl) ?_
          refine lv_lload hx hb dX12_readSegment_481 (lv_at hl 5 rfl) ?_
          refine lv_ldc2 (v := 32) hx hb X.o (X.t _ kc_RX12_357) dX12_readSegment_483 ?_
          refine lv_ladd hx hb dX12_readSegment_486 ?_
          obtain ⟨r64, s63, h62, hf⟩ := bi_s hf
          refine goL Z (run_V (As := [.long ((x9 + (32 : Int64)))]) (rest := []) X Z (c_X12_eight l D h cy ((x9 + (32 : Int64))) s59 (r64, s63) h62 _) lk_RX12_316 ⟨by decide, by decide⟩ rv_68 rfl hl.1 rfl (Nat.le_of_ble_eq_true rfl) ⟨Nat.le_refl _, Nat.le_refl _⟩ dX12_readSegment_487) (fun H locs Z => ?_)
          refine lv_lstore (lv' := [(11, .long r64), (0, .ref (h 68)), (1, .long x1), (3, .long x3), (5, .long x5), (7, .long x7), (9, .long x9)]) hx hb dX12_readSegment_490 hl (by decide) rfl (fun ls hl => ?_)
          refine lv_lload hx hb dX12_readSegment_492 (lv_at hl 0 rfl) ?_
          refine lv_lload hx hb dX12_readSegment_494 (lv_at hl 4 rfl) ?_
          refine x_lif_lt (tgt := 519) X dX12_readSegment_496 dX12_readSegment_497 (by decide) (fun c65 => ?_) (fun c65 => ?_)
          · have hf := itp c65 hf
            exact b_X12_readSegment_519 X hr hk x9 s63 _ hf _ _ _ Z (lv_sub hl [1, 6] rfl)
          · have hf := itn c65 hf
            refine lv_lload hx hb dX12_readSegment_500 (lv_at hl 0 rfl) ?_
            refine lv_aload_n hx hb dX12_readSegment_502 rfl (lv_at hl 1 rfl) ?_
            refine lv_lload hx hb dX12_readSegment_503 (lv_at hl 6 rfl) ?_
            refine lv_ldc2 (v := 40) hx hb X.o (X.t _ kc_RX12_384) dX12_readSegment_505 ?_
            refine lv_ladd hx hb dX12_readSegment_508 ?_
            obtain ⟨r72, s71, h70, hf⟩ := bi_s hf
            refine goL Z (run_V (As := [.long ((x9 + (40 : Int64)))]) (rest := [.long r64]) X Z (c_X12_eight l D h cy ((x9 + (40 : Int64))) s63 (r72, s71) h70 _) lk_RX12_316 ⟨by decide, by decide⟩ rv_68 rfl hl.1 rfl (Nat.le_of_ble_eq_true rfl) ⟨Nat.le_refl _, Nat.le_refl _⟩ dX12_readSegment_509) (fun H locs Z => ?_)
            refine lv_ladd hx hb dX12_readSegment_512 ?_
            refine lv_lload hx hb dX12_readSegment_513 (lv_at hl 5 rfl) ?_
            refine x_lif_le (tgt := 528) X dX12_readSegment_515 dX12_readSegment_516 (by decide) (fun c73 => ?_) (fun c73 => ?_)
            · have hf := itp c73 hf
              refine lv_aload_n hx hb dX12_readSegment_528 rfl (lv_at hl 1 rfl) ?_
              refine lv_dup hx hb dX12_readSegment_529 rfl ?_
              refine gf_RX12_344 X Z dX12_readSegment_530 ?_
              refine lv_iconst (v := 1) hx hb dX12_readSegment_533 (by decide) ?_
              refine lv_iadd hx hb dX12_readSegment_534 ?_
              refine pf_RX12_344 X Z dX12_readSegment_535 (fun s74 H locs es74 Z => ?_)
              have hf := zn_e es74 hf
              refine lv_lload hx hb dX12_readSegment_538 (lv_at hl 6 rfl) ?_
              refine lv_ldc2 (v := 80) hx hb X.o (X.t _ kc_RX12_377) dX12_readSegment_540 ?_
              refine lv_ladd hx hb dX12_readSegment_543 ?_
              refine lv_topl (fun v75 ev75 => ?_)
              have hf := zn_e ev75 hf
              refine lv_lstore (lv' := [(9, .long v75), (11, .long r64), (0, .ref (h 68)), (1, .long x1), (3, .long x3), (5, .long x5), (7, .long x7)]) hx hb dX12_readSegment_544 hl (by decide) rfl (fun ls hl => ?_)
              refine lv_goto (tgt := 426) hx hb dX12_readSegment_546 (by decide) ?_
              exact hK426 (x1, x3, x5, x7, v75, s74) _ hf _ _ _ Z (lv_sub hl [2, 3, 4, 5, 6, 0] rfl)
            · have hf := itn c73 hf
              exact b_X12_readSegment_519 X hr hk x9 s71 _ hf _ _ _ Z (lv_sub hl [1, 6] rfl)
        · have hf := itp c61 hf
          refine lv_iconst (v := 0) hx hb dX12_readSegment_478 (by decide) ?_
          exact retZ X hr hk Z (by decide) hf dX12_readSegment_479
    · have hf := itp c53 hf
      refine lv_aload_n hx hb dX12_readSegment_444 rfl (lv_at hl 0 rfl) ?_
      refine lv_iconst (v := 3) hx hb dX12_readSegment_445 (by decide) ?_
      refine lv_lload hx hb dX12_readSegment_446 (lv_at hl 5 rfl) ?_
      obtain ⟨r78, s77, h76, hf⟩ := bi_s hf
      refine goI Z (run_V (As := [.int (3 : Int32), .long x9]) (rest := []) X Z (c_X12_bad l D h cy (3 : Int32) x9 σ (r78, s77) h76 _) lk_RX12_321 ⟨by decide, by decide⟩ rv_68 rfl hl.1 rfl (Nat.le_of_ble_eq_true rfl) ⟨Nat.le_refl _, Nat.le_refl _⟩ dX12_readSegment_448) (fun H locs Z => ?_)
      obtain ⟨g79, hf⟩ := gd_s hf
      exact retZ X hr hk Z g79 hf dX12_readSegment_451

set_option maxRecDepth 100000 in
set_option maxHeartbeats 4000000 in
theorem b_X12_readSegment_426 {p : Program} {l : Launch} {e : Env} {s : State} {m : MethodId} {args : Array Value} {below : List Frame} {meth : Method} {c : Code} {D : va_G} {h : Nat → Nat} {cy : Nat → ClassId} (X : Cx p s m args c D h cy RX12 cX12_readSegment 13) (hr : meth.sig.returnType = some .boolean) (hk : meth.locks = false) (x1 : Int64) (x3 : Int64) (x5 : Int64) (x7 : Int64) (x9 : Int64) (σ : St) (y : Int32 × St) (hf : f_X12_readSegment_426 x1 x3 x5 x7 x9 σ = some y) : ∀ (H : Heap) (locs : List Loc) (ls : Array Slot), Zt D h cy s σ H locs → lv_has ls 13 [(0, .ref (h 68)), (1, .long x1), (3, .long x3), (5, .long x5), (7, .long x7), (9, .long x9)] → W p l e (rmz 3 69) s m args below meth c H locs 0 0 (EI below args s D h cy y) (F0 m 426 ls []) := by
  exact it_W (F := fun K a => f_X12_readSegment_426b K a.1 a.2.1 a.2.2.1 a.2.2.2.1 a.2.2.2.2.1 a.2.2.2.2.2) (P := fun a y => ∀ (H : Heap) (locs : List Loc) (ls : Array Slot), Zt D h cy s a.2.2.2.2.2 H locs → lv_has ls 13 [(0, .ref (h 68)), (1, .long a.1), (3, .long a.2.1), (5, .long a.2.2.1), (7, .long a.2.2.2.1), (9, .long a.2.2.2.2.1)] → W p l e (rmz 3 69) s m args below meth c H locs 0 0 (EI below args s D h cy y) (F0 m 426 ls [])) (fun K hK a y hf => b_X12_readSegment_426b X hr hk K hK (a.1) (a.2.1) (a.2.2.1) (a.2.2.2.1) (a.2.2.2.2.1) (a.2.2.2.2.2) y hf) FU _ y hf

set_option maxRecDepth 100000 in
set_option maxHeartbeats 4000000 in
theorem b_X12_readSegment_394 {p : Program} {l : Launch} {e : Env} {s : State} {m : MethodId} {args : Array Value} {below : List Frame} {meth : Method} {c : Code} {D : va_G} {h : Nat → Nat} {cy : Nat → ClassId} (X : Cx p s m args c D h cy RX12 cX12_readSegment 13) (hr : meth.sig.returnType = some .boolean) (hk : meth.locks = false) (K313 : (Int64 × Int64 × Int64 × Int64 × Int32 × St) → Option (Int32 × St)) (hK313 : ∀ (a : Int64 × Int64 × Int64 × Int64 × Int32 × St) (y : Int32 × St), K313 a = some y → ∀ (H : Heap) (locs : List Loc) (ls : Array Slot), Zt D h cy s a.2.2.2.2.2 H locs → lv_has ls 13 [(0, .ref (h 68)), (1, .long a.1), (3, .long a.2.1), (5, .long a.2.2.1), (7, .long a.2.2.2.1), (9, .int a.2.2.2.2.1)] → W p l e (rmz 3 69) s m args below meth c H locs 0 0 (EI below args s D h cy y) (F0 m 313 ls [])) (x1 : Int64) (x3 : Int64) (x5 : Int64) (x7 : Int64) (x9 : Int32) (σ : St) (y : Int32 × St) (hf : f_X12_readSegment_394 K313 x1 x3 x5 x7 x9 σ = some y) : ∀ (H : Heap) (locs : List Loc) (ls : Array Slot), Zt D h cy s σ H locs → lv_has ls 13 [(0, .ref (h 68)), (1, .long x1), (3, .long x3), (5, .long x5), (7, .long x7), (9, .int x9)] → W p l e (rmz 3 69) s m args below meth c H locs 0 0 (EI below args s D h cy y) (F0 m 394 ls []) := by
  intro H locs ls Z hl
  have hx := X.x
  have hb := X.b
  unfold f_X12_readSegment_394 at hf
  obtain ⟨v82, ev82⟩ : ∃ z : Int32, z = x9 + 1 := ⟨_, rfl⟩
  have hf := zn_e ev82 hf
  refine lv_iinc (v := v82) (lv' := [(9, .int v82), (0, .ref (h 68)), (1, .long x1), (3, .long x3), (5, .long x5), (7, .long x7)]) hx hb dX12_readSegment_394 hl (k := 5) rfl (by rw [ev82]; rfl) (by decide) rfl (fun ls hl => ?_)
  refine lv_goto (tgt := 313) hx hb dX12_readSegment_397 (by decide) ?_
  exact hK313 (x1, x3, x5, x7, v82, σ) _ hf _ _ _ Z (lv_sub hl [1, 2, 3, 4, 5, 0] rfl)

set_option maxRecDepth 100000 in
set_option maxHeartbeats 4000000 in
theorem b_X12_readSegment_313b {p : Program} {l : Launch} {e : Env} {s : State} {m : MethodId} {args : Array Value} {below : List Frame} {meth : Method} {c : Code} {D : va_G} {h : Nat → Nat} {cy : Nat → ClassId} (X : Cx p s m args c D h cy RX12 cX12_readSegment 13) (hr : meth.sig.returnType = some .boolean) (hk : meth.locks = false) (K313 : (Int64 × Int64 × Int64 × Int64 × Int32 × St) → Option (Int32 × St)) (hK313 : ∀ (a : Int64 × Int64 × Int64 × Int64 × Int32 × St) (y : Int32 × St), K313 a = some y → ∀ (H : Heap) (locs : List Loc) (ls : Array Slot), Zt D h cy s a.2.2.2.2.2 H locs → lv_has ls 13 [(0, .ref (h 68)), (1, .long a.1), (3, .long a.2.1), (5, .long a.2.2.1), (7, .long a.2.2.2.1), (9, .int a.2.2.2.2.1)] → W p l e (rmz 3 69) s m args below meth c H locs 0 0 (EI below args s D h cy y) (F0 m 313 ls [])) (x1 : Int64) (x3 : Int64) (x5 : Int64) (x7 : Int64) (x9 : Int32) (σ : St) (y : Int32 × St) (hf : f_X12_readSegment_313b K313 x1 x3 x5 x7 x9 σ = some y) : ∀ (H : Heap) (locs : List Loc) (ls : Array Slot), Zt D h cy s σ H locs → lv_has ls 13 [(0, .ref (h 68)), (1, .long x1), (3, .long x3), (5, .long x5), (7, .long x7), (9, .int x9)] → W p l e (rmz 3 69) s m args below meth c H locs 0 0 (EI below args s D h cy y) (F0 m 313 ls []) := by
  intro H locs ls Z hl
  have hx := X.x
  have hb := X.b
  unfold f_X12_readSegment_313b at hf
  refine lv_iload hx hb dX12_readSegment_313 (lv_at hl 5 rfl) ?_
  refine lv_aload_n hx hb dX12_readSegment_315 rfl (lv_at hl 0 rfl) ?_
  refine gf_RX12_341 X Z dX12_readSegment_316 ?_
  refine lv_icmp_ge (tgt := 400) hx hb dX12_readSegment_319 (by decide) (fun c47 => ?_) (fun c47 => ?_)
  · have hf := itp c47 hf
    refine lv_aload_n hx hb dX12_readSegment_400 rfl (lv_at hl 0 rfl) ?_
    refine lv_dup hx hb dX12_readSegment_401 rfl ?_
    refine gf_RX12_347 X Z dX12_readSegment_402 ?_
    refine lv_aload_n hx hb dX12_readSegment_405 rfl (lv_at hl 0 rfl) ?_
    refine gf_RX12_95 X Z dX12_readSegment_406 ?_
    refine lv_aload_n hx hb dX12_readSegment_409 rfl (lv_at hl 0 rfl) ?_
    refine gf_RX12_341 X Z dX12_readSegment_410 ?_
    obtain ⟨g48, hf⟩ := gd_s hf
    refine x_lald (k := 92) X Z sh_92 g48 dX12_readSegment_413 ?_
    refine lv_l2i (v := ((σ.2 92 (σ.1 68 41).toNatClampNeg)).toInt32) hx hb dX12_readSegment_414 rfl ?_
    refine lv_iadd hx hb dX12_readSegment_415 ?_
    refine pf_RX12_347 X Z dX12_readSegment_416 (fun s49 H locs es49 Z => ?_)
    have hf := zn_e es49 hf
    refine lv_lload_n hx hb dX12_readSegment_419 rfl (lv_at hl 1 rfl) ?_
    refine lv_ldc2 (v := 72) hx hb X.o (X.t _ kc_RX12_375) dX12_readSegment_420 ?_
    refine lv_ladd hx hb dX12_readSegment_423 ?_
    refine lv_topl (fun v50 ev50 => ?_)
    have hf := zn_e ev50 hf
    refine lv_lstore (lv' := [(9, .long v50), (0, .ref (h 68)), (1, .long x1), (3, .long x3), (5, .long x5), (7, .long x7)]) hx hb dX12_readSegment_424 hl (by decide) rfl (fun ls hl => ?_)
    exact b_X12_readSegment_426 X hr hk x1 x3 x5 x7 v50 s49 _ hf _ _ _ Z (lv_sub hl [1, 2, 3, 4, 5, 0] rfl)
  · have hf := itn c47 hf
    refine lv_aload_n hx hb dX12_readSegment_322 rfl (lv_at hl 0 rfl) ?_
    refine gf_RX12_95 X Z dX12_readSegment_323 ?_
    refine lv_aload_n hx hb dX12_readSegment_326 rfl (lv_at hl 0 rfl) ?_
    refine gf_RX12_341 X Z dX12_readSegment_327 ?_
    obtain ⟨g80, hf⟩ := gd_s hf
    refine x_lald (k := 92) X Z sh_92 g80 dX12_readSegment_330 ?_
    refine lv_lconst (v := 0) hx hb dX12_readSegment_331 (by decide) ?_
    refine x_lif_le (tgt := 394) X dX12_readSegment_332 dX12_readSegment_333 (by decide) (fun c81 => ?_) (fun c81 => ?_)
    · have hf := itp c81 hf
      exact b_X12_readSegment_394 X hr hk K313 hK313 x1 x3 x5 x7 x9 σ _ hf _ _ _ Z (lv_sub hl [0, 1, 2, 3, 4, 5] rfl)
    · have hf := itn c81 hf
      refine lv_aload_n hx hb dX12_readSegment_336 rfl (lv_at hl 0 rfl) ?_
      refine gf_RX12_95 X Z dX12_readSegment_337 ?_
      refine lv_iload hx hb dX12_readSegment_340 (lv_at hl 5 rfl) ?_
      obtain ⟨g83, hf⟩ := gd_s hf
      refine x_lald (k := 92) X Z sh_92 g83 dX12_readSegment_342 ?_
      refine lv_lconst (v := 0) hx hb dX12_readSegment_343 (by decide) ?_
      refine x_lif_le (tgt := 394) X dX12_readSegment_344 dX12_readSegment_345 (by decide) (fun c84 => ?_) (fun c84 => ?_)
      · have hf := itp c84 hf
        exact b_X12_readSegment_394 X hr hk K313 hK313 x1 x3 x5 x7 x9 σ _ hf _ _ _ Z (lv_sub hl [0, 1, 2, 3, 4, 5] rfl)
      · have hf := itn c84 hf
        refine lv_lload hx hb dX12_readSegment_348 (lv_at hl 3 rfl) ?_
        refine lv_aload_n hx hb dX12_readSegment_350 rfl (lv_at hl 0 rfl) ?_
        refine gf_RX12_92 X Z dX12_readSegment_351 ?_
        refine lv_iload hx hb dX12_readSegment_354 (lv_at hl 5 rfl) ?_
        obtain ⟨g85, hf⟩ := gd_s hf
        refine x_lald (k := 91) X Z sh_91 g85 dX12_readSegment_356 ?_
        refine lv_aload_n hx hb dX12_readSegment_357 rfl (lv_at hl 0 rfl) ?_
        refine gf_RX12_95 X Z dX12_readSegment_358 ?_
        refine lv_iload hx hb dX12_readSegment_361 (lv_at hl 5 rfl) ?_
        obtain ⟨g86, hf⟩ := gd_s hf
        refine x_lald (k := 92) X Z sh_92 g86 dX12_readSegment_363 ?_
        refine lv_ladd hx hb dX12_readSegment_364 ?_
        refine x_lif_ge (tgt := 394) X dX12_readSegment_365 dX12_readSegment_366 (by decide) (fun c87 => ?_) (fun c87 => ?_)
        · have hf := itp c87 hf
          exact b_X12_readSegment_394 X hr hk K313 hK313 x1 x3 x5 x7 x9 σ _ hf _ _ _ Z (lv_sub hl [0, 1, 2, 3, 4, 5] rfl)
        · have hf := itn c87 hf
          refine lv_aload_n hx hb dX12_readSegment_369 rfl (lv_at hl 0 rfl) ?_
          refine gf_RX12_92 X Z dX12_readSegment_370 ?_
          refine lv_iload hx hb dX12_readSegment_373 (lv_at hl 5 rfl) ?_
          obtain ⟨g88, hf⟩ := gd_s hf
          refine x_lald (k := 91) X Z sh_91 g88 dX12_readSegment_375 ?_
          refine lv_lload hx hb dX12_readSegment_376 (lv_at hl 4 rfl) ?_
          refine x_lif_ge (tgt := 394) X dX12_readSegment_378 dX12_readSegment_379 (by decide) (fun c89 => ?_) (fun c89 => ?_)
          · have hf := itp c89 hf
            exact b_X12_readSegment_394 X hr hk K313 hK313 x1 x3 x5 x7 x9 σ _ hf _ _ _ Z (lv_sub hl [0, 1, 2, 3, 4, 5] rfl)
          · have hf := itn c89 hf
            refine lv_aload_n hx hb dX12_readSegment_382 rfl (lv_at hl 0 rfl) ?_
            refine lv_bipush (v := 6) hx hb dX12_readSegment_383 (by decide) ?_
            refine lv_lload_n hx hb dX12_readSegment_385 rfl (lv_at hl 1 rfl) ?_
            refine lv_ldc2 (v := 24) hx hb X.o (X.t _ kc_RX12_294) dX12_readSegment_386 ?_
            refine lv_ladd hx hb dX12_readSegment_389 ?_
            obtain ⟨r92, s91, h90, hf⟩ := bi_s hf
            refine goI Z (run_V (As := [.int (6 : Int32), .long ((x1 + (24 : Int64)))]) (rest := []) X Z (c_X12_bad l D h cy (6 : Int32) ((x1 + (24 : Int64))) σ (r92, s91) h90 _) lk_RX12_321 ⟨by decide, by decide⟩ rv_68 rfl hl.1 rfl (Nat.le_of_ble_eq_true rfl) ⟨Nat.le_refl _, Nat.le_refl _⟩ dX12_readSegment_390) (fun H locs Z => ?_)
            obtain ⟨g93, hf⟩ := gd_s hf
            exact retZ X hr hk Z g93 hf dX12_readSegment_393

set_option maxRecDepth 100000 in
set_option maxHeartbeats 4000000 in
theorem b_X12_readSegment_313 {p : Program} {l : Launch} {e : Env} {s : State} {m : MethodId} {args : Array Value} {below : List Frame} {meth : Method} {c : Code} {D : va_G} {h : Nat → Nat} {cy : Nat → ClassId} (X : Cx p s m args c D h cy RX12 cX12_readSegment 13) (hr : meth.sig.returnType = some .boolean) (hk : meth.locks = false) (x1 : Int64) (x3 : Int64) (x5 : Int64) (x7 : Int64) (x9 : Int32) (σ : St) (y : Int32 × St) (hf : f_X12_readSegment_313 x1 x3 x5 x7 x9 σ = some y) : ∀ (H : Heap) (locs : List Loc) (ls : Array Slot), Zt D h cy s σ H locs → lv_has ls 13 [(0, .ref (h 68)), (1, .long x1), (3, .long x3), (5, .long x5), (7, .long x7), (9, .int x9)] → W p l e (rmz 3 69) s m args below meth c H locs 0 0 (EI below args s D h cy y) (F0 m 313 ls []) := by
  exact it_W (F := fun K a => f_X12_readSegment_313b K a.1 a.2.1 a.2.2.1 a.2.2.2.1 a.2.2.2.2.1 a.2.2.2.2.2) (P := fun a y => ∀ (H : Heap) (locs : List Loc) (ls : Array Slot), Zt D h cy s a.2.2.2.2.2 H locs → lv_has ls 13 [(0, .ref (h 68)), (1, .long a.1), (3, .long a.2.1), (5, .long a.2.2.1), (7, .long a.2.2.2.1), (9, .int a.2.2.2.2.1)] → W p l e (rmz 3 69) s m args below meth c H locs 0 0 (EI below args s D h cy y) (F0 m 313 ls [])) (fun K hK a y hf => b_X12_readSegment_313b X hr hk K hK (a.1) (a.2.1) (a.2.2.1) (a.2.2.2.1) (a.2.2.2.2.1) (a.2.2.2.2.2) y hf) FU _ y hf

set_option maxRecDepth 100000 in
set_option maxHeartbeats 4000000 in
theorem b_X12_readSegment_60b {p : Program} {l : Launch} {e : Env} {s : State} {m : MethodId} {args : Array Value} {below : List Frame} {meth : Method} {c : Code} {D : va_G} {h : Nat → Nat} {cy : Nat → ClassId} (X : Cx p s m args c D h cy RX12 cX12_readSegment 13) (hr : meth.sig.returnType = some .boolean) (hk : meth.locks = false) (K60 : (Int64 × Int64 × Int32 × St) → Option (Int32 × St)) (hK60 : ∀ (a : Int64 × Int64 × Int32 × St) (y : Int32 × St), K60 a = some y → ∀ (H : Heap) (locs : List Loc) (ls : Array Slot), Zt D h cy s a.2.2.2 H locs → lv_has ls 13 [(0, .ref (h 68)), (1, .long a.1), (3, .long a.2.1), (5, .int a.2.2.1)] → W p l e (rmz 3 69) s m args below meth c H locs 0 0 (EI below args s D h cy y) (F0 m 60 ls [])) (x1 : Int64) (x3 : Int64) (x5 : Int32) (σ : St) (y : Int32 × St) (hf : f_X12_readSegment_60b K60 x1 x3 x5 σ = some y) : ∀ (H : Heap) (locs : List Loc) (ls : Array Slot), Zt D h cy s σ H locs → lv_has ls 13 [(0, .ref (h 68)), (1, .long x1), (3, .long x3), (5, .int x5)] → W p l e (rmz 3 69) s m args below meth c H locs 0 0 (EI below args s D h cy y) (F0 m 60 ls []) := by
  intro H locs ls Z hl
  have hx := X.x
  have hb := X.b
  unfold f_X12_readSegment_60b at hf
  refine lv_iload hx hb dX12_readSegment_60 (lv_at hl 3 rfl) ?_
  refine lv_bipush (v := 48) hx hb dX12_readSegment_62 (by decide) ?_
  refine lv_icmp_gt (tgt := 87) hx hb dX12_readSegment_64 (by decide) (fun c12 => ?_) (fun c12 => ?_)
  · have hf := itp c12 hf
    refine lv_aload_n hx hb dX12_readSegment_87 rfl (lv_at hl 0 rfl) ?_
    refine gf_RX12_92 X Z dX12_readSegment_88 ?_
    refine lv_aload_n hx hb dX12_readSegment_91 rfl (lv_at hl 0 rfl) ?_
    refine gf_RX12_341 X Z dX12_readSegment_92 ?_
    refine lv_aload_n hx hb dX12_readSegment_95 rfl (lv_at hl 0 rfl) ?_
    refine lv_lload_n hx hb dX12_readSegment_96 rfl (lv_at hl 1 rfl) ?_
    refine lv_ldc2 (v := 24) hx hb X.o (X.t _ kc_RX12_294) dX12_readSegment_97 ?_
    refine lv_ladd hx hb dX12_readSegment_100 ?_
    obtain ⟨r15, s14, h13, hf⟩ := bi_s hf
    refine goL Z (run_V (As := [.long ((x1 + (24 : Int64)))]) (rest := [.int (σ.1 68 41), .ref (h 91)]) X Z (c_X12_eight l D h cy ((x1 + (24 : Int64))) σ (r15, s14) h13 _) lk_RX12_316 ⟨by decide, by decide⟩ rv_68 rfl hl.1 rfl (Nat.le_of_ble_eq_true rfl) ⟨Nat.le_refl _, Nat.le_refl _⟩ dX12_readSegment_101) (fun H locs Z => ?_)
    obtain ⟨g16, hf⟩ := gd_s hf
    refine x_last (k := 91) X Z sh_91 g16 dX12_readSegment_104 (fun s17 H locs es17 Z => ?_)
    have hf := zn_e es17 hf
    refine lv_aload_n hx hb dX12_readSegment_105 rfl (lv_at hl 0 rfl) ?_
    refine gf_RX12_95 X Z dX12_readSegment_106 ?_
    refine lv_aload_n hx hb dX12_readSegment_109 rfl (lv_at hl 0 rfl) ?_
    refine gf_RX12_341 X Z dX12_readSegment_110 ?_
    refine lv_aload_n hx hb dX12_readSegment_113 rfl (lv_at hl 0 rfl) ?_
    refine lv_lload_n hx hb dX12_readSegment_114 rfl (lv_at hl 1 rfl) ?_
    refine lv_ldc2 (v := 32) hx hb X.o (X.t _ kc_RX12_357) dX12_readSegment_115 ?_
    refine lv_ladd hx hb dX12_readSegment_118 ?_
    obtain ⟨r20, s19, h18, hf⟩ := bi_s hf
    refine goL Z (run_V (As := [.long ((x1 + (32 : Int64)))]) (rest := [.int (s17.1 68 41), .ref (h 92)]) X Z (c_X12_eight l D h cy ((x1 + (32 : Int64))) s17 (r20, s19) h18 _) lk_RX12_316 ⟨by decide, by decide⟩ rv_68 rfl hl.1 rfl (Nat.le_of_ble_eq_true rfl) ⟨Nat.le_refl _, Nat.le_refl _⟩ dX12_readSegment_119) (fun H locs Z => ?_)
    obtain ⟨g21, hf⟩ := gd_s hf
    refine x_last (k := 92) X Z sh_92 g21 dX12_readSegment_122 (fun s22 H locs es22 Z => ?_)
    have hf := zn_e es22 hf
    refine lv_aload_n hx hb dX12_readSegment_123 rfl (lv_at hl 0 rfl) ?_
    refine gf_RX12_98 X Z dX12_readSegment_124 ?_
    refine lv_aload_n hx hb dX12_readSegment_127 rfl (lv_at hl 0 rfl) ?_
    refine gf_RX12_341 X Z dX12_readSegment_128 ?_
    refine lv_aload_n hx hb dX12_readSegment_131 rfl (lv_at hl 0 rfl) ?_
    refine lv_lload_n hx hb dX12_readSegment_132 rfl (lv_at hl 1 rfl) ?_
    refine lv_ldc2 (v := 40) hx hb X.o (X.t _ kc_RX12_384) dX12_readSegment_133 ?_
    refine lv_ladd hx hb dX12_readSegment_136 ?_
    obtain ⟨r25, s24, h23, hf⟩ := bi_s hf
    refine goL Z (run_V (As := [.long ((x1 + (40 : Int64)))]) (rest := [.int (s22.1 68 41), .ref (h 93)]) X Z (c_X12_eight l D h cy ((x1 + (40 : Int64))) s22 (r25, s24) h23 _) lk_RX12_316 ⟨by decide, by decide⟩ rv_68 rfl hl.1 rfl (Nat.le_of_ble_eq_true rfl) ⟨Nat.le_refl _, Nat.le_refl _⟩ dX12_readSegment_137) (fun H locs Z => ?_)
    obtain ⟨g26, hf⟩ := gd_s hf
    refine x_last (k := 93) X Z sh_93 g26 dX12_readSegment_140 (fun s27 H locs es27 Z => ?_)
    have hf := zn_e es27 hf
    refine lv_aload_n hx hb dX12_readSegment_141 rfl (lv_at hl 0 rfl) ?_
    refine gf_RX12_101 X Z dX12_readSegment_142 ?_
    refine lv_aload_n hx hb dX12_readSegment_145 rfl (lv_at hl 0 rfl) ?_
    refine gf_RX12_341 X Z dX12_readSegment_146 ?_
    refine lv_aload_n hx hb dX12_readSegment_149 rfl (lv_at hl 0 rfl) ?_
    refine lv_lload_n hx hb dX12_readSegment_150 rfl (lv_at hl 1 rfl) ?_
    refine lv_ldc2 (v := 48) hx hb X.o (X.t _ kc_RX12_386) dX12_readSegment_151 ?_
    refine lv_ladd hx hb dX12_readSegment_154 ?_
    obtain ⟨r30, s29, h28, hf⟩ := bi_s hf
    refine goL Z (run_V (As := [.long ((x1 + (48 : Int64)))]) (rest := [.int (s27.1 68 41), .ref (h 94)]) X Z (c_X12_eight l D h cy ((x1 + (48 : Int64))) s27 (r30, s29) h28 _) lk_RX12_316 ⟨by decide, by decide⟩ rv_68 rfl hl.1 rfl (Nat.le_of_ble_eq_true rfl) ⟨Nat.le_refl _, Nat.le_refl _⟩ dX12_readSegment_155) (fun H locs Z => ?_)
    obtain ⟨g31, hf⟩ := gd_s hf
    refine x_last (k := 94) X Z sh_94 g31 dX12_readSegment_158 (fun s32 H locs es32 Z => ?_)
    have hf := zn_e es32 hf
    refine lv_aload_n hx hb dX12_readSegment_159 rfl (lv_at hl 0 rfl) ?_
    refine gf_RX12_92 X Z dX12_readSegment_160 ?_
    refine lv_aload_n hx hb dX12_readSegment_163 rfl (lv_at hl 0 rfl) ?_
    refine gf_RX12_341 X Z dX12_readSegment_164 ?_
    obtain ⟨g33, hf⟩ := gd_s hf
    refine x_lald (k := 91) X Z sh_91 g33 dX12_readSegment_167 ?_
    refine lv_topl (fun v34 ev34 => ?_)
    have hf := zn_e ev34 hf
    refine lv_lstore (lv' := [(5, .long v34), (0, .ref (h 68)), (1, .long x1), (3, .long x3)]) hx hb dX12_readSegment_168 hl (by decide) rfl (fun ls hl => ?_)
    refine lv_lload hx hb dX12_readSegment_170 (lv_at hl 0 rfl) ?_
    refine lv_aload_n hx hb dX12_readSegment_172 rfl (lv_at hl 1 rfl) ?_
    refine gf_RX12_95 X Z dX12_readSegment_173 ?_
    refine lv_aload_n hx hb dX12_readSegment_176 rfl (lv_at hl 1 rfl) ?_
    refine gf_RX12_341 X Z dX12_readSegment_177 ?_
    obtain ⟨g35, hf⟩ := gd_s hf
    refine x_lald (k := 92) X Z sh_92 g35 dX12_readSegment_180 ?_
    refine lv_ladd hx hb dX12_readSegment_181 ?_
    refine lv_topl (fun v36 ev36 => ?_)
    have hf := zn_e ev36 hf
    refine lv_lstore (lv' := [(7, .long v36), (5, .long v34), (0, .ref (h 68)), (1, .long x1), (3, .long x3)]) hx hb dX12_readSegment_182 hl (by decide) rfl (fun ls hl => ?_)
    refine lv_aload_n hx hb dX12_readSegment_184 rfl (lv_at hl 2 rfl) ?_
    refine gf_RX12_347 X Z dX12_readSegment_185 ?_
    refine lv_i2l (v := (s32.1 68 43).toInt64) hx hb dX12_readSegment_188 rfl ?_
    refine lv_aload_n hx hb dX12_readSegment_189 rfl (lv_at hl 2 rfl) ?_
    refine gf_RX12_95 X Z dX12_readSegment_190 ?_
    refine lv_aload_n hx hb dX12_readSegment_193 rfl (lv_at hl 2 rfl) ?_
    refine gf_RX12_341 X Z dX12_readSegment_194 ?_
    obtain ⟨g37, hf⟩ := gd_s hf
    refine x_lald (k := 92) X Z sh_92 g37 dX12_readSegment_197 ?_
    refine lv_ladd hx hb dX12_readSegment_198 ?_
    refine lv_ldc2 (v := 16384) hx hb X.o (X.t _ kc_RX12_388) dX12_readSegment_199 ?_
    refine x_lif_le (tgt := 217) X dX12_readSegment_202 dX12_readSegment_203 (by decide) (fun c38 => ?_) (fun c38 => ?_)
    · have hf := itp c38 hf
      refine lv_lload hx hb dX12_readSegment_217 (lv_at hl 0 rfl) ?_
      refine lv_ldc2 (v := 2147483647) hx hb X.o (X.t _ kc_RX12_319) dX12_readSegment_219 ?_
      refine x_lif_le (tgt := 237) X dX12_readSegment_222 dX12_readSegment_223 (by decide) (fun c39 => ?_) (fun c39 => ?_)
      · have hf := itp c39 hf
        refine lv_aload_n hx hb dX12_readSegment_237 rfl (lv_at hl 2 rfl) ?_
        refine gf_RX12_98 X Z dX12_readSegment_238 ?_
        refine lv_aload_n hx hb dX12_readSegment_241 rfl (lv_at hl 2 rfl) ?_
        refine gf_RX12_341 X Z dX12_readSegment_242 ?_
        obtain ⟨g40, hf⟩ := gd_s hf
        refine x_lald (k := 93) X Z sh_93 g40 dX12_readSegment_245 ?_
        refine lv_aload_n hx hb dX12_readSegment_246 rfl (lv_at hl 2 rfl) ?_
        refine gf_RX12_101 X Z dX12_readSegment_247 ?_
        refine lv_aload_n hx hb dX12_readSegment_250 rfl (lv_at hl 2 rfl) ?_
        refine gf_RX12_341 X Z dX12_readSegment_251 ?_
        obtain ⟨g41, hf⟩ := gd_s hf
        refine x_lald (k := 94) X Z sh_94 g41 dX12_readSegment_254 ?_
        refine lv_ladd hx hb dX12_readSegment_255 ?_
        refine lv_aload_n hx hb dX12_readSegment_256 rfl (lv_at hl 2 rfl) ?_
        refine gf_RX12_253 X Z dX12_readSegment_257 ?_
        refine lv_i2l (v := (s32.1 68 30).toInt64) hx hb dX12_readSegment_260 rfl ?_
        refine x_lif_le (tgt := 276) X dX12_readSegment_261 dX12_readSegment_262 (by decide) (fun c42 => ?_) (fun c42 => ?_)
        · have hf := itp c42 hf
          refine lv_aload_n hx hb dX12_readSegment_276 rfl (lv_at hl 2 rfl) ?_
          refine gf_RX12_101 X Z dX12_readSegment_277 ?_
          refine lv_aload_n hx hb dX12_readSegment_280 rfl (lv_at hl 2 rfl) ?_
          refine gf_RX12_341 X Z dX12_readSegment_281 ?_
          obtain ⟨g43, hf⟩ := gd_s hf
          refine x_lald (k := 94) X Z sh_94 g43 dX12_readSegment_284 ?_
          refine lv_aload_n hx hb dX12_readSegment_285 rfl (lv_at hl 2 rfl) ?_
          refine gf_RX12_95 X Z dX12_readSegment_286 ?_
          refine lv_aload_n hx hb dX12_readSegment_289 rfl (lv_at hl 2 rfl) ?_
          refine gf_RX12_341 X Z dX12_readSegment_290 ?_
          obtain ⟨g44, hf⟩ := gd_s hf
          refine x_lald (k := 92) X Z sh_92 g44 dX12_readSegment_293 ?_
          refine x_lif_le (tgt := 310) X dX12_readSegment_294 dX12_readSegment_295 (by decide) (fun c45 => ?_) (fun c45 => ?_)
          · have hf := itp c45 hf
            refine lv_iconst (v := 0) hx hb dX12_readSegment_310 (by decide) ?_
            refine lv_topi (fun v46 ev46 => ?_)
            have hf := zn_e ev46 hf
            refine lv_istore (lv' := [(9, .int v46), (7, .long v36), (5, .long v34), (0, .ref (h 68)), (1, .long x1), (3, .long x3)]) hx hb dX12_readSegment_311 hl (by decide) rfl (fun ls hl => ?_)
            exact b_X12_readSegment_313 X hr hk x1 x3 v34 v36 v46 s32 _ hf _ _ _ Z (lv_sub hl [3, 4, 5, 2, 1, 0] rfl)
          · have hf := itn c45 hf
            refine lv_aload_n hx hb dX12_readSegment_298 rfl (lv_at hl 2 rfl) ?_
            refine lv_bipush (v := 6) hx hb dX12_readSegment_299 (by decide) ?_
            refine lv_lload_n hx hb dX12_readSegment_301 rfl (lv_at hl 3 rfl) ?_
            refine lv_ldc2 (v := 48) hx hb X.o (X.t _ kc_RX12_386) dX12_readSegment_302 ?_
            refine lv_ladd hx hb dX12_readSegment_305 ?_
            obtain ⟨r96, s95, h94, hf⟩ := bi_s hf
            refine goI Z (run_V (As := [.int (6 : Int32), .long ((x1 + (48 : Int64)))]) (rest := []) X Z (c_X12_bad l D h cy (6 : Int32) ((x1 + (48 : Int64))) s32 (r96, s95) h94 _) lk_RX12_321 ⟨by decide, by decide⟩ rv_68 rfl hl.1 rfl (Nat.le_of_ble_eq_true rfl) ⟨Nat.le_refl _, Nat.le_refl _⟩ dX12_readSegment_306) (fun H locs Z => ?_)
            obtain ⟨g97, hf⟩ := gd_s hf
            exact retZ X hr hk Z g97 hf dX12_readSegment_309
        · have hf := itn c42 hf
          refine lv_aload_n hx hb dX12_readSegment_265 rfl (lv_at hl 2 rfl) ?_
          refine lv_iconst (v := 1) hx hb dX12_readSegment_266 (by decide) ?_
          refine lv_lload_n hx hb dX12_readSegment_267 rfl (lv_at hl 3 rfl) ?_
          refine lv_ldc2 (v := 40) hx hb X.o (X.t _ kc_RX12_384) dX12_readSegment_268 ?_
          refine lv_ladd hx hb dX12_readSegment_271 ?_
          obtain ⟨r100, s99, h98, hf⟩ := bi_s hf
          refine goI Z (run_V (As := [.int (1 : Int32), .long ((x1 + (40 : Int64)))]) (rest := []) X Z (c_X12_bad l D h cy (1 : Int32) ((x1 + (40 : Int64))) s32 (r100, s99) h98 _) lk_RX12_321 ⟨by decide, by decide⟩ rv_68 rfl hl.1 rfl (Nat.le_of_ble_eq_true rfl) ⟨Nat.le_refl _, Nat.le_refl _⟩ dX12_readSegment_272) (fun H locs Z => ?_)
          obtain ⟨g101, hf⟩ := gd_s hf
          exact retZ X hr hk Z g101 hf dX12_readSegment_275
      · have hf := itn c39 hf
        refine lv_aload_n hx hb dX12_readSegment_226 rfl (lv_at hl 2 rfl) ?_
        refine lv_iconst (v := 5) hx hb dX12_readSegment_227 (by decide) ?_
        refine lv_lload_n hx hb dX12_readSegment_228 rfl (lv_at hl 3 rfl) ?_
        refine lv_ldc2 (v := 24) hx hb X.o (X.t _ kc_RX12_294) dX12_readSegment_229 ?_
        refine lv_ladd hx hb dX12_readSegment_232 ?_
        obtain ⟨r104, s103, h102, hf⟩ := bi_s hf
        refine goI Z (run_V (As := [.int (5 : Int32), .long ((x1 + (24 : Int64)))]) (rest := []) X Z (c_X12_bad l D h cy (5 : Int32) ((x1 + (24 : Int64))) s32 (r104, s103) h102 _) lk_RX12_321 ⟨by decide, by decide⟩ rv_68 rfl hl.1 rfl (Nat.le_of_ble_eq_true rfl) ⟨Nat.le_refl _, Nat.le_refl _⟩ dX12_readSegment_233) (fun H locs Z => ?_)
        obtain ⟨g105, hf⟩ := gd_s hf
        exact retZ X hr hk Z g105 hf dX12_readSegment_236
    · have hf := itn c38 hf
      refine lv_aload_n hx hb dX12_readSegment_206 rfl (lv_at hl 2 rfl) ?_
      refine lv_iconst (v := 5) hx hb dX12_readSegment_207 (by decide) ?_
      refine lv_lload_n hx hb dX12_readSegment_208 rfl (lv_at hl 3 rfl) ?_
      refine lv_ldc2 (v := 32) hx hb X.o (X.t _ kc_RX12_357) dX12_readSegment_209 ?_
      refine lv_ladd hx hb dX12_readSegment_212 ?_
      obtain ⟨r108, s107, h106, hf⟩ := bi_s hf
      refine goI Z (run_V (As := [.int (5 : Int32), .long ((x1 + (32 : Int64)))]) (rest := []) X Z (c_X12_bad l D h cy (5 : Int32) ((x1 + (32 : Int64))) s32 (r108, s107) h106 _) lk_RX12_321 ⟨by decide, by decide⟩ rv_68 rfl hl.1 rfl (Nat.le_of_ble_eq_true rfl) ⟨Nat.le_refl _, Nat.le_refl _⟩ dX12_readSegment_213) (fun H locs Z => ?_)
      obtain ⟨g109, hf⟩ := gd_s hf
      exact retZ X hr hk Z g109 hf dX12_readSegment_216
  · have hf := itn c12 hf
    refine lv_aload_n hx hb dX12_readSegment_67 rfl (lv_at hl 0 rfl) ?_
    refine lv_lload_n hx hb dX12_readSegment_68 rfl (lv_at hl 1 rfl) ?_
    refine lv_iload hx hb dX12_readSegment_69 (lv_at hl 3 rfl) ?_
    refine lv_i2l (v := x5.toInt64) hx hb dX12_readSegment_71 rfl ?_
    refine lv_ladd hx hb dX12_readSegment_72 ?_
    obtain ⟨r112, s111, h110, hf⟩ := bi_s hf
    refine goI Z (run_V (As := [.long (x1 + x5.toInt64)]) (rest := []) X Z (c_X12_isNumber l D h cy (x1 + x5.toInt64) σ (r112, s111) h110 _) lk_RX12_381 ⟨by decide, by decide⟩ rv_68 rfl hl.1 rfl (Nat.le_of_ble_eq_true rfl) ⟨Nat.le_refl _, Nat.le_refl _⟩ dX12_readSegment_73) (fun H locs Z => ?_)
    refine lv_if_ne (tgt := 81) hx hb dX12_readSegment_76 (by decide) (fun c113 => ?_) (fun c113 => ?_)
    · have hf := itn c113 hf
      obtain ⟨v114, ev114⟩ : ∃ z : Int32, z = x5 + 8 := ⟨_, rfl⟩
      have hf := zn_e ev114 hf
      refine lv_iinc (v := v114) (lv' := [(5, .int v114), (0, .ref (h 68)), (1, .long x1), (3, .long x3)]) hx hb dX12_readSegment_81 hl (k := 3) rfl (by rw [ev114]; rfl) (by decide) rfl (fun ls hl => ?_)
      refine lv_goto (tgt := 60) hx hb dX12_readSegment_84 (by decide) ?_
      exact hK60 (x1, x3, v114, s111) _ hf _ _ _ Z (lv_sub hl [1, 2, 3, 0] rfl)
    · have hf := itp c113 hf
      refine lv_iconst (v := 0) hx hb dX12_readSegment_79 (by decide) ?_
      exact retZ X hr hk Z (by decide) hf dX12_readSegment_80

set_option maxRecDepth 100000 in
set_option maxHeartbeats 4000000 in
theorem b_X12_readSegment_60 {p : Program} {l : Launch} {e : Env} {s : State} {m : MethodId} {args : Array Value} {below : List Frame} {meth : Method} {c : Code} {D : va_G} {h : Nat → Nat} {cy : Nat → ClassId} (X : Cx p s m args c D h cy RX12 cX12_readSegment 13) (hr : meth.sig.returnType = some .boolean) (hk : meth.locks = false) (x1 : Int64) (x3 : Int64) (x5 : Int32) (σ : St) (y : Int32 × St) (hf : f_X12_readSegment_60 x1 x3 x5 σ = some y) : ∀ (H : Heap) (locs : List Loc) (ls : Array Slot), Zt D h cy s σ H locs → lv_has ls 13 [(0, .ref (h 68)), (1, .long x1), (3, .long x3), (5, .int x5)] → W p l e (rmz 3 69) s m args below meth c H locs 0 0 (EI below args s D h cy y) (F0 m 60 ls []) := by
  exact it_W (F := fun K a => f_X12_readSegment_60b K a.1 a.2.1 a.2.2.1 a.2.2.2) (P := fun a y => ∀ (H : Heap) (locs : List Loc) (ls : Array Slot), Zt D h cy s a.2.2.2 H locs → lv_has ls 13 [(0, .ref (h 68)), (1, .long a.1), (3, .long a.2.1), (5, .int a.2.2.1)] → W p l e (rmz 3 69) s m args below meth c H locs 0 0 (EI below args s D h cy y) (F0 m 60 ls [])) (fun K hK a y hf => b_X12_readSegment_60b X hr hk K hK (a.1) (a.2.1) (a.2.2.1) (a.2.2.2) y hf) FU _ y hf

set_option maxRecDepth 100000 in
set_option maxHeartbeats 4000000 in
theorem c_X12_readSegment (l : Launch) (D : va_G) (h : Nat → Nat) (cy : Nat → ClassId) (a1 : Int64) (a2 : Int64) (σ : St) (y : Int32 × St) (hf : f_X12_readSegment a1 a2 σ = some y) : CI l yX12_readSegment cX12_readSegment 13 (some .boolean) 3 69 D h cy [.ref (h 68), .long a1, .long a2] σ y := by
  refine ent (Qc := fun sz => QI D h cy sz y) (by decide) (Nat.le_of_ble_eq_true rfl) ?_
  intro p e s m below meth c ls X Z hr hk hl
  have X : Cx p s m _ c D h cy RX12 cX12_readSegment 13 := X
  have hx := X.x
  have hb := X.b
  have hl : lv_has ls 13 [(0, .ref (h 68)), (1, .long a1), (3, .long a2)] := hl
  unfold f_X12_readSegment at hf
  refine lv_aload_n hx hb dX12_readSegment_0 rfl (lv_at hl 0 rfl) ?_
  refine gf_RX12_341 X Z dX12_readSegment_1 ?_
  refine lv_iconst (v := 4) hx hb dX12_readSegment_4 (by decide) ?_
  refine lv_icmp_ne (tgt := 15) hx hb dX12_readSegment_5 (by decide) (fun c1 => ?_) (fun c1 => ?_)
  · have hf := itn c1 hf
    refine lv_lload_n hx hb dX12_readSegment_15 rfl (lv_at hl 2 rfl) ?_
    refine lv_ldc2 (v := 72) hx hb X.o (X.t _ kc_RX12_375) dX12_readSegment_16 ?_
    refine x_lif_lt (tgt := 45) X dX12_readSegment_19 dX12_readSegment_20 (by decide) (fun c2 => ?_) (fun c2 => ?_)
    · have hf := itp c2 hf
      exact b_X12_readSegment_45 X hr hk a1 σ _ hf _ _ _ Z (lv_sub hl [0, 1] rfl)
    · have hf := itn c2 hf
      refine lv_lload_n hx hb dX12_readSegment_23 rfl (lv_at hl 2 rfl) ?_
      refine lv_ldc2 (v := 72) hx hb X.o (X.t _ kc_RX12_375) dX12_readSegment_24 ?_
      refine lv_ldc2 (v := 80) hx hb X.o (X.t _ kc_RX12_377) dX12_readSegment_27 ?_
      refine lv_aload_n hx hb dX12_readSegment_30 rfl (lv_at hl 0 rfl) ?_
      refine lv_lload_n hx hb dX12_readSegment_31 rfl (lv_at hl 1 rfl) ?_
      refine lv_ldc2 (v := 64) hx hb X.o (X.t _ kc_RX12_379) dX12_readSegment_32 ?_
      refine lv_ladd hx hb dX12_readSegment_35 ?_
      obtain ⟨r9, s8, h7, hf⟩ := bi_s hf
      refine goL Z (run_V (As := [.long ((a1 + (64 : Int64)))]) (rest := [.long (80 : Int64), .long (72 : Int64), .long a2]) X Z (c_X12_four l D h cy ((a1 + (64 : Int64))) σ (r9, s8) h7 _) lk_RX12_307 ⟨by decide, by decide⟩ rv_68 rfl hl.1 rfl (Nat.le_of_ble_eq_true rfl) ⟨Nat.le_refl _, Nat.le_refl _⟩ dX12_readSegment_36) (fun H locs Z => ?_)
      refine lv_lmul hx hb dX12_readSegment_39 ?_
      refine lv_ladd hx hb dX12_readSegment_40 ?_
      refine x_lif_eq (tgt := 56) X dX12_readSegment_41 dX12_readSegment_42 (by decide) (fun c10 => ?_) (fun c10 => ?_)
      · have hf := itp c10 hf
        refine lv_bipush (v := 24) hx hb dX12_readSegment_56 (by decide) ?_
        refine lv_topi (fun v11 ev11 => ?_)
        have hf := zn_e ev11 hf
        refine lv_istore (lv' := [(5, .int v11), (0, .ref (h 68)), (1, .long a1), (3, .long a2)]) hx hb dX12_readSegment_58 hl (by decide) rfl (fun ls hl => ?_)
        exact b_X12_readSegment_60 X hr hk a1 a2 v11 s8 _ hf _ _ _ Z (lv_sub hl [1, 2, 3, 0] rfl)
      · have hf := itn c10 hf
        exact b_X12_readSegment_45 X hr hk a1 s8 _ hf _ _ _ Z (lv_sub hl [0, 1] rfl)
  · have hf := itp c1 hf
    refine lv_aload_n hx hb dX12_readSegment_8 rfl (lv_at hl 0 rfl) ?_
    refine lv_iconst (v := 3) hx hb dX12_readSegment_9 (by decide) ?_
    refine lv_lload_n hx hb dX12_readSegment_10 rfl (lv_at hl 1 rfl) ?_
    obtain ⟨r117, s116, h115, hf⟩ := bi_s hf
    refine goI Z (run_V (As := [.int (3 : Int32), .long a1]) (rest := []) X Z (c_X12_bad l D h cy (3 : Int32) a1 σ (r117, s116) h115 _) lk_RX12_321 ⟨by decide, by decide⟩ rv_68 rfl hl.1 rfl (Nat.le_of_ble_eq_true rfl) ⟨Nat.le_refl _, Nat.le_refl _⟩ dX12_readSegment_11) (fun H locs Z => ?_)
    obtain ⟨g118, hf⟩ := gd_s hf
    exact retZ X hr hk Z g118 hf dX12_readSegment_14

set_option maxRecDepth 100000 in
set_option maxHeartbeats 4000000 in
theorem b_X12_reads_197 {p : Program} {l : Launch} {e : Env} {s : State} {m : MethodId} {args : Array Value} {below : List Frame} {meth : Method} {c : Code} {D : va_G} {h : Nat → Nat} {cy : Nat → ClassId} (X : Cx p s m args c D h cy RX12 cX12_reads 13) (hr : meth.sig.returnType = some .boolean) (hk : meth.locks = false) (x5 : Int64) (σ : St) (y : Int32 × St) (hf : f_X12_reads_197 x5 σ = some y) : ∀ (H : Heap) (locs : List Loc) (ls : Array Slot), Zt D h cy s σ H locs → lv_has ls 13 [(0, .ref (h 68)), (5, .long x5)] → W p l e (rmz 4 101) s m args below meth c H locs 0 0 (EI below args s D h cy y) (F0 m 197 ls []) := by
  intro H locs ls Z hl
  have hx := X.x
  have hb := X.b
  unfold f_X12_reads_197 at hf
  refine lv_aload_n hx hb dX12_reads_197 rfl (lv_at hl 0 rfl) ?_
  refine lv_iconst (v := 3) hx hb dX12_reads_198 (by decide) ?_
  refine lv_lload hx hb dX12_reads_199 (lv_at hl 1 rfl) ?_
  refine lv_ldc2 (v := 4) hx hb X.o (X.t _ kc_RX12_311) dX12_reads_201 ?_
  refine lv_ladd hx hb dX12_reads_204 ?_
  obtain ⟨r35, s34, h33, hf⟩ := bi_s hf
  refine goI Z (run_V (As := [.int (3 : Int32), .long ((x5 + (4 : Int64)))]) (rest := []) X Z (c_X12_bad l D h cy (3 : Int32) ((x5 + (4 : Int64))) σ (r35, s34) h33 _) lk_RX12_321 ⟨by decide, by decide⟩ rv_68 rfl hl.1 rfl (Nat.le_of_ble_eq_true rfl) ⟨Nat.le_refl _, Nat.le_refl _⟩ dX12_reads_205) (fun H locs Z => ?_)
  obtain ⟨g36, hf⟩ := gd_s hf
  exact retZ X hr hk Z g36 hf dX12_reads_208

set_option maxRecDepth 100000 in
set_option maxHeartbeats 4000000 in
theorem b_X12_reads_304 {p : Program} {l : Launch} {e : Env} {s : State} {m : MethodId} {args : Array Value} {below : List Frame} {meth : Method} {c : Code} {D : va_G} {h : Nat → Nat} {cy : Nat → ClassId} (X : Cx p s m args c D h cy RX12 cX12_reads 13) (hr : meth.sig.returnType = some .boolean) (hk : meth.locks = false) (K128 : (Int64 × Int64 × Int64 × Int32 × St) → Option (Int32 × St)) (hK128 : ∀ (a : Int64 × Int64 × Int64 × Int32 × St) (y : Int32 × St), K128 a = some y → ∀ (H : Heap) (locs : List Loc) (ls : Array Slot), Zt D h cy s a.2.2.2.2 H locs → lv_has ls 13 [(0, .ref (h 68)), (1, .long a.1), (3, .long a.2.1), (5, .long a.2.2.1), (7, .int a.2.2.2.1)] → W p l e (rmz 4 101) s m args below meth c H locs 0 0 (EI below args s D h cy y) (F0 m 128 ls [])) (x1 : Int64) (x3 : Int64) (x5 : Int64) (x7 : Int32) (x8 : Int64) (x12 : Int32) (σ : St) (y : Int32 × St) (hf : f_X12_reads_304 K128 x1 x3 x5 x7 x8 x12 σ = some y) : ∀ (H : Heap) (locs : List Loc) (ls : Array Slot), Zt D h cy s σ H locs → lv_has ls 13 [(0, .ref (h 68)), (1, .long x1), (3, .long x3), (5, .long x5), (7, .int x7), (8, .long x8), (12, .int x12)] → W p l e (rmz 4 101) s m args below meth c H locs 0 0 (EI below args s D h cy y) (F0 m 304 ls []) := by
  intro H locs ls Z hl
  have hx := X.x
  have hb := X.b
  unfold f_X12_reads_304 at hf
  refine lv_iload hx hb dX12_reads_304 (lv_at hl 6 rfl) ?_
  refine lv_if_ne (tgt := 311) hx hb dX12_reads_306 (by decide) (fun c47 => ?_) (fun c47 => ?_)
  · have hf := itn c47 hf
    refine lv_lload hx hb dX12_reads_311 (lv_at hl 3 rfl) ?_
    refine lv_lload hx hb dX12_reads_313 (lv_at hl 5 rfl) ?_
    refine lv_ladd hx hb dX12_reads_315 ?_
    refine lv_topl (fun v48 ev48 => ?_)
    have hf := zn_e ev48 hf
    refine lv_lstore (lv' := [(5, .long v48), (0, .ref (h 68)), (1, .long x1), (3, .long x3), (7, .int x7), (8, .long x8), (12, .int x12)]) hx hb dX12_reads_316 hl (by decide) rfl (fun ls hl => ?_)
    obtain ⟨v49, ev49⟩ : ∃ z : Int32, z = x7 + 1 := ⟨_, rfl⟩
    have hf := zn_e ev49 hf
    refine lv_iinc (v := v49) (lv' := [(7, .int v49), (5, .long v48), (0, .ref (h 68)), (1, .long x1), (3, .long x3), (8, .long x8), (12, .int x12)]) hx hb dX12_reads_318 hl (k := 4) rfl (by rw [ev49]; rfl) (by decide) rfl (fun ls hl => ?_)
    refine lv_goto (tgt := 128) hx hb dX12_reads_321 (by decide) ?_
    exact hK128 (x1, x3, v48, v49, σ) _ hf _ _ _ Z (lv_sub hl [2, 3, 4, 1, 0] rfl)
  · have hf := itp c47 hf
    refine lv_iconst (v := 0) hx hb dX12_reads_309 (by decide) ?_
    exact retZ X hr hk Z (by decide) hf dX12_reads_310

set_option maxRecDepth 100000 in
set_option maxHeartbeats 4000000 in
theorem b_X12_reads_128b {p : Program} {l : Launch} {e : Env} {s : State} {m : MethodId} {args : Array Value} {below : List Frame} {meth : Method} {c : Code} {D : va_G} {h : Nat → Nat} {cy : Nat → ClassId} (X : Cx p s m args c D h cy RX12 cX12_reads 13) (hr : meth.sig.returnType = some .boolean) (hk : meth.locks = false) (K128 : (Int64 × Int64 × Int64 × Int32 × St) → Option (Int32 × St)) (hK128 : ∀ (a : Int64 × Int64 × Int64 × Int32 × St) (y : Int32 × St), K128 a = some y → ∀ (H : Heap) (locs : List Loc) (ls : Array Slot), Zt D h cy s a.2.2.2.2 H locs → lv_has ls 13 [(0, .ref (h 68)), (1, .long a.1), (3, .long a.2.1), (5, .long a.2.2.1), (7, .int a.2.2.2.1)] → W p l e (rmz 4 101) s m args below meth c H locs 0 0 (EI below args s D h cy y) (F0 m 128 ls [])) (x1 : Int64) (x3 : Int64) (x5 : Int64) (x7 : Int32) (σ : St) (y : Int32 × St) (hf : f_X12_reads_128b K128 x1 x3 x5 x7 σ = some y) : ∀ (H : Heap) (locs : List Loc) (ls : Array Slot), Zt D h cy s σ H locs → lv_has ls 13 [(0, .ref (h 68)), (1, .long x1), (3, .long x3), (5, .long x5), (7, .int x7)] → W p l e (rmz 4 101) s m args below meth c H locs 0 0 (EI below args s D h cy y) (F0 m 128 ls []) := by
  intro H locs ls Z hl
  have hx := X.x
  have hb := X.b
  unfold f_X12_reads_128b at hf
  refine lv_iload hx hb dX12_reads_128 (lv_at hl 4 rfl) ?_
  refine lv_i2l (v := x7.toInt64) hx hb dX12_reads_130 rfl ?_
  refine lv_lload_n hx hb dX12_reads_131 rfl (lv_at hl 1 rfl) ?_
  refine x_lif_ge (tgt := 324) X dX12_reads_132 dX12_reads_133 (by decide) (fun c22 => ?_) (fun c22 => ?_)
  · have hf := itp c22 hf
    refine lv_lload hx hb dX12_reads_324 (lv_at hl 3 rfl) ?_
    refine lv_lload_n hx hb dX12_reads_326 rfl (lv_at hl 2 rfl) ?_
    refine x_lif_eq (tgt := 341) X dX12_reads_327 dX12_reads_328 (by decide) (fun c23 => ?_) (fun c23 => ?_)
    · have hf := itp c23 hf
      refine lv_iconst (v := 1) hx hb dX12_reads_341 (by decide) ?_
      refine lv_goto (tgt := 346) hx hb dX12_reads_342 (by decide) ?_
      exact retZ X hr hk Z (by decide) hf dX12_reads_346
    · have hf := itn c23 hf
      refine lv_aload_n hx hb dX12_reads_331 rfl (lv_at hl 0 rfl) ?_
      refine lv_iconst (v := 3) hx hb dX12_reads_332 (by decide) ?_
      refine lv_lload hx hb dX12_reads_333 (lv_at hl 3 rfl) ?_
      obtain ⟨r26, s25, h24, hf⟩ := bi_s hf
      refine goI Z (run_V (As := [.int (3 : Int32), .long x5]) (rest := []) X Z (c_X12_bad l D h cy (3 : Int32) x5 σ (r26, s25) h24 _) lk_RX12_321 ⟨by decide, by decide⟩ rv_68 rfl hl.1 rfl (Nat.le_of_ble_eq_true rfl) ⟨Nat.le_refl _, Nat.le_refl _⟩ dX12_reads_335) (fun H locs Z => ?_)
      refine lv_if_eq (tgt := 345) hx hb dX12_reads_338 (by decide) (fun c27 => ?_) (fun c27 => ?_)
      · have hf := itp c27 hf
        refine lv_iconst (v := 0) hx hb dX12_reads_345 (by decide) ?_
        exact retZ X hr hk Z (by decide) hf dX12_reads_346
      · have hf := itn c27 hf
        refine lv_iconst (v := 1) hx hb dX12_reads_341 (by decide) ?_
        refine lv_goto (tgt := 346) hx hb dX12_reads_342 (by decide) ?_
        exact retZ X hr hk Z (by decide) hf dX12_reads_346
  · have hf := itn c22 hf
    refine lv_lload_n hx hb dX12_reads_136 rfl (lv_at hl 2 rfl) ?_
    refine lv_lload hx hb dX12_reads_137 (lv_at hl 3 rfl) ?_
    refine lv_lsub hx hb dX12_reads_139 ?_
    refine lv_ldc2 (v := 8) hx hb X.o (X.t _ kc_RX12_361) dX12_reads_140 ?_
    refine x_lif_ge (tgt := 155) X dX12_reads_143 dX12_reads_144 (by decide) (fun c28 => ?_) (fun c28 => ?_)
    · have hf := itp c28 hf
      refine lv_aload_n hx hb dX12_reads_155 rfl (lv_at hl 0 rfl) ?_
      refine lv_lload hx hb dX12_reads_156 (lv_at hl 3 rfl) ?_
      refine lv_ldc2 (v := 4) hx hb X.o (X.t _ kc_RX12_311) dX12_reads_158 ?_
      refine lv_ladd hx hb dX12_reads_161 ?_
      obtain ⟨r31, s30, h29, hf⟩ := bi_s hf
      refine goL Z (run_V (As := [.long ((x5 + (4 : Int64)))]) (rest := []) X Z (c_X12_four l D h cy ((x5 + (4 : Int64))) σ (r31, s30) h29 _) lk_RX12_307 ⟨by decide, by decide⟩ rv_68 rfl hl.1 rfl (Nat.le_of_ble_eq_true rfl) ⟨Nat.le_refl _, Nat.le_refl _⟩ dX12_reads_162) (fun H locs Z => ?_)
      refine lv_lstore (lv' := [(8, .long r31), (0, .ref (h 68)), (1, .long x1), (3, .long x3), (5, .long x5), (7, .int x7)]) hx hb dX12_reads_165 hl (by decide) rfl (fun ls hl => ?_)
      refine lv_lload hx hb dX12_reads_167 (lv_at hl 0 rfl) ?_
      refine lv_ldc2 (v := 8) hx hb X.o (X.t _ kc_RX12_361) dX12_reads_169 ?_
      refine x_lif_lt (tgt := 197) X dX12_reads_172 dX12_reads_173 (by decide) (fun c32 => ?_) (fun c32 => ?_)
      · have hf := itp c32 hf
        exact b_X12_reads_197 X hr hk x5 s30 _ hf _ _ _ Z (lv_sub hl [1, 4] rfl)
      · have hf := itn c32 hf
        refine lv_lload hx hb dX12_reads_176 (lv_at hl 0 rfl) ?_
        refine lv_ldc2 (v := 8) hx hb X.o (X.t _ kc_RX12_361) dX12_reads_178 ?_
        refine lv_lrem hx hb dX12_reads_181 (by decide) ?_
        refine lv_lconst (v := 0) hx hb dX12_reads_182 (by decide) ?_
        refine x_lif_ne (tgt := 197) X dX12_reads_183 dX12_reads_184 (by decide) (fun c37 => ?_) (fun c37 => ?_)
        · have hf := itn c37 hf
          exact b_X12_reads_197 X hr hk x5 s30 _ hf _ _ _ Z (lv_sub hl [1, 4] rfl)
        · have hf := itp c37 hf
          refine lv_lload hx hb dX12_reads_187 (lv_at hl 0 rfl) ?_
          refine lv_lload_n hx hb dX12_reads_189 rfl (lv_at hl 3 rfl) ?_
          refine lv_lload hx hb dX12_reads_190 (lv_at hl 4 rfl) ?_
          refine lv_lsub hx hb dX12_reads_192 ?_
          refine x_lif_le (tgt := 209) X dX12_reads_193 dX12_reads_194 (by decide) (fun c38 => ?_) (fun c38 => ?_)
          · have hf := itp c38 hf
            refine lv_aload_n hx hb dX12_reads_209 rfl (lv_at hl 1 rfl) ?_
            refine lv_lload hx hb dX12_reads_210 (lv_at hl 4 rfl) ?_
            obtain ⟨r41, s40, h39, hf⟩ := bi_s hf
            refine goL Z (run_V (As := [.long x5]) (rest := []) X Z (c_X12_four l D h cy x5 s30 (r41, s40) h39 _) lk_RX12_307 ⟨by decide, by decide⟩ rv_68 rfl hl.1 rfl (Nat.le_of_ble_eq_true rfl) ⟨Nat.le_refl _, Nat.le_refl _⟩ dX12_reads_212) (fun H locs Z => ?_)
            refine lv_lstore (lv' := [(10, .long r41), (8, .long r31), (0, .ref (h 68)), (1, .long x1), (3, .long x3), (5, .long x5), (7, .int x7)]) hx hb dX12_reads_215 hl (by decide) rfl (fun ls hl => ?_)
            refine lv_iconst (v := 1) hx hb dX12_reads_217 (by decide) ?_
            refine lv_topi (fun v42 ev42 => ?_)
            have hf := zn_e ev42 hf
            refine lv_istore (lv' := [(12, .int v42), (10, .long r41), (8, .long r31), (0, .ref (h 68)), (1, .long x1), (3, .long x3), (5, .long x5), (7, .int x7)]) hx hb dX12_reads_218 hl (by decide) rfl (fun ls hl => ?_)
            refine lv_lload hx hb dX12_reads_220 (lv_at hl 1 rfl) ?_
            refine lv_ldc2 (v := 25) hx hb X.o (X.t _ kc_RX12_290) dX12_reads_222 ?_
            refine x_lif_ne (tgt := 242) X dX12_reads_225 dX12_reads_226 (by decide) (fun c43 => ?_) (fun c43 => ?_)
            · have hf := itn c43 hf
              refine lv_lload hx hb dX12_reads_242 (lv_at hl 1 rfl) ?_
              refine lv_ldc2 (v := 2) hx hb X.o (X.t _ kc_RX12_270) dX12_reads_244 ?_
              refine x_lif_ne (tgt := 264) X dX12_reads_247 dX12_reads_248 (by decide) (fun c44 => ?_) (fun c44 => ?_)
              · have hf := itn c44 hf
                refine lv_lload hx hb dX12_reads_264 (lv_at hl 1 rfl) ?_
                refine lv_ldc2 (v := 2147483700) hx hb X.o (X.t _ kc_RX12_296) dX12_reads_266 ?_
                refine x_lif_ne (tgt := 286) X dX12_reads_269 dX12_reads_270 (by decide) (fun c45 => ?_) (fun c45 => ?_)
                · have hf := itn c45 hf
                  refine lv_lload hx hb dX12_reads_286 (lv_at hl 1 rfl) ?_
                  refine lv_ldc2 (v := 2147483648) hx hb X.o (X.t _ kc_RX12_373) dX12_reads_288 ?_
                  refine x_lif_lt (tgt := 304) X dX12_reads_291 dX12_reads_292 (by decide) (fun c46 => ?_) (fun c46 => ?_)
                  · have hf := itp c46 hf
                    exact b_X12_reads_304 X hr hk K128 hK128 x1 x3 x5 x7 r31 v42 s40 _ hf _ _ _ Z (lv_sub hl [3, 4, 5, 6, 7, 2, 0] rfl)
                  · have hf := itn c46 hf
                    refine lv_aload_n hx hb dX12_reads_295 rfl (lv_at hl 3 rfl) ?_
                    refine lv_iconst (v := 4) hx hb dX12_reads_296 (by decide) ?_
                    refine lv_lload hx hb dX12_reads_297 (lv_at hl 6 rfl) ?_
                    obtain ⟨r52, s51, h50, hf⟩ := bi_s hf
                    refine goI Z (run_V (As := [.int (4 : Int32), .long x5]) (rest := []) X Z (c_X12_bad l D h cy (4 : Int32) x5 s40 (r52, s51) h50 _) lk_RX12_321 ⟨by decide, by decide⟩ rv_68 rfl hl.1 rfl (Nat.le_of_ble_eq_true rfl) ⟨Nat.le_refl _, Nat.le_refl _⟩ dX12_reads_299) (fun H locs Z => ?_)
                    refine lv_istore (lv' := [(12, .int r52), (10, .long r41), (8, .long r31), (0, .ref (h 68)), (1, .long x1), (3, .long x3), (5, .long x5), (7, .int x7)]) hx hb dX12_reads_302 hl (by decide) rfl (fun ls hl => ?_)
                    exact b_X12_reads_304 X hr hk K128 hK128 x1 x3 x5 x7 r31 r52 s51 _ hf _ _ _ Z (lv_sub hl [3, 4, 5, 6, 7, 2, 0] rfl)
                · have hf := itp c45 hf
                  refine lv_aload_n hx hb dX12_reads_273 rfl (lv_at hl 3 rfl) ?_
                  refine lv_lload hx hb dX12_reads_274 (lv_at hl 6 rfl) ?_
                  refine lv_lload hx hb dX12_reads_276 (lv_at hl 2 rfl) ?_
                  obtain ⟨r55, s54, h53, hf⟩ := bi_s hf
                  refine goI Z (run_V (As := [.long x5, .long r31]) (rest := []) X Z (c_X12_readChains l D h cy x5 r31 s40 (r55, s54) h53 _) lk_RX12_370 ⟨by decide, by decide⟩ rv_68 rfl hl.1 rfl (Nat.le_of_ble_eq_true rfl) ⟨Nat.le_refl _, Nat.le_refl _⟩ dX12_reads_278) (fun H locs Z => ?_)
                  refine lv_istore (lv' := [(12, .int r55), (10, .long r41), (8, .long r31), (0, .ref (h 68)), (1, .long x1), (3, .long x3), (5, .long x5), (7, .int x7)]) hx hb dX12_reads_281 hl (by decide) rfl (fun ls hl => ?_)
                  refine lv_goto (tgt := 304) hx hb dX12_reads_283 (by decide) ?_
                  exact b_X12_reads_304 X hr hk K128 hK128 x1 x3 x5 x7 r31 r55 s54 _ hf _ _ _ Z (lv_sub hl [3, 4, 5, 6, 7, 2, 0] rfl)
              · have hf := itp c44 hf
                refine lv_aload_n hx hb dX12_reads_251 rfl (lv_at hl 3 rfl) ?_
                refine lv_lload hx hb dX12_reads_252 (lv_at hl 6 rfl) ?_
                refine lv_lload hx hb dX12_reads_254 (lv_at hl 2 rfl) ?_
                obtain ⟨r58, s57, h56, hf⟩ := bi_s hf
                refine goI Z (run_V (As := [.long x5, .long r31]) (rest := []) X Z (c_X12_readTable l D h cy x5 r31 s40 (r58, s57) h56 _) lk_RX12_367 ⟨by decide, by decide⟩ rv_68 rfl hl.1 rfl (Nat.le_of_ble_eq_true rfl) ⟨Nat.le_refl _, Nat.le_refl _⟩ dX12_reads_256) (fun H locs Z => ?_)
                refine lv_istore (lv' := [(12, .int r58), (10, .long r41), (8, .long r31), (0, .ref (h 68)), (1, .long x1), (3, .long x3), (5, .long x5), (7, .int x7)]) hx hb dX12_reads_259 hl (by decide) rfl (fun ls hl => ?_)
                refine lv_goto (tgt := 304) hx hb dX12_reads_261 (by decide) ?_
                exact b_X12_reads_304 X hr hk K128 hK128 x1 x3 x5 x7 r31 r58 s57 _ hf _ _ _ Z (lv_sub hl [3, 4, 5, 6, 7, 2, 0] rfl)
            · have hf := itp c43 hf
              refine lv_aload_n hx hb dX12_reads_229 rfl (lv_at hl 3 rfl) ?_
              refine lv_lload hx hb dX12_reads_230 (lv_at hl 6 rfl) ?_
              refine lv_lload hx hb dX12_reads_232 (lv_at hl 2 rfl) ?_
              obtain ⟨r61, s60, h59, hf⟩ := bi_s hf
              refine goI Z (run_V (As := [.long x5, .long r31]) (rest := []) X Z (c_X12_readSegment l D h cy x5 r31 s40 (r61, s60) h59 _) lk_RX12_363 ⟨by decide, by decide⟩ rv_68 rfl hl.1 rfl (Nat.le_of_ble_eq_true rfl) ⟨Nat.le_refl _, Nat.le_refl _⟩ dX12_reads_234) (fun H locs Z => ?_)
              refine lv_istore (lv' := [(12, .int r61), (10, .long r41), (8, .long r31), (0, .ref (h 68)), (1, .long x1), (3, .long x3), (5, .long x5), (7, .int x7)]) hx hb dX12_reads_237 hl (by decide) rfl (fun ls hl => ?_)
              refine lv_goto (tgt := 304) hx hb dX12_reads_239 (by decide) ?_
              exact b_X12_reads_304 X hr hk K128 hK128 x1 x3 x5 x7 r31 r61 s60 _ hf _ _ _ Z (lv_sub hl [3, 4, 5, 6, 7, 2, 0] rfl)
          · have hf := itn c38 hf
            exact b_X12_reads_197 X hr hk x5 s30 _ hf _ _ _ Z (lv_sub hl [1, 4] rfl)
    · have hf := itn c28 hf
      refine lv_aload_n hx hb dX12_reads_147 rfl (lv_at hl 0 rfl) ?_
      refine lv_iconst (v := 3) hx hb dX12_reads_148 (by decide) ?_
      refine lv_lload hx hb dX12_reads_149 (lv_at hl 3 rfl) ?_
      obtain ⟨r64, s63, h62, hf⟩ := bi_s hf
      refine goI Z (run_V (As := [.int (3 : Int32), .long x5]) (rest := []) X Z (c_X12_bad l D h cy (3 : Int32) x5 σ (r64, s63) h62 _) lk_RX12_321 ⟨by decide, by decide⟩ rv_68 rfl hl.1 rfl (Nat.le_of_ble_eq_true rfl) ⟨Nat.le_refl _, Nat.le_refl _⟩ dX12_reads_151) (fun H locs Z => ?_)
      obtain ⟨g65, hf⟩ := gd_s hf
      exact retZ X hr hk Z g65 hf dX12_reads_154

set_option maxRecDepth 100000 in
set_option maxHeartbeats 4000000 in
theorem b_X12_reads_128 {p : Program} {l : Launch} {e : Env} {s : State} {m : MethodId} {args : Array Value} {below : List Frame} {meth : Method} {c : Code} {D : va_G} {h : Nat → Nat} {cy : Nat → ClassId} (X : Cx p s m args c D h cy RX12 cX12_reads 13) (hr : meth.sig.returnType = some .boolean) (hk : meth.locks = false) (x1 : Int64) (x3 : Int64) (x5 : Int64) (x7 : Int32) (σ : St) (y : Int32 × St) (hf : f_X12_reads_128 x1 x3 x5 x7 σ = some y) : ∀ (H : Heap) (locs : List Loc) (ls : Array Slot), Zt D h cy s σ H locs → lv_has ls 13 [(0, .ref (h 68)), (1, .long x1), (3, .long x3), (5, .long x5), (7, .int x7)] → W p l e (rmz 4 101) s m args below meth c H locs 0 0 (EI below args s D h cy y) (F0 m 128 ls []) := by
  exact it_W (F := fun K a => f_X12_reads_128b K a.1 a.2.1 a.2.2.1 a.2.2.2.1 a.2.2.2.2) (P := fun a y => ∀ (H : Heap) (locs : List Loc) (ls : Array Slot), Zt D h cy s a.2.2.2.2 H locs → lv_has ls 13 [(0, .ref (h 68)), (1, .long a.1), (3, .long a.2.1), (5, .long a.2.2.1), (7, .int a.2.2.2.1)] → W p l e (rmz 4 101) s m args below meth c H locs 0 0 (EI below args s D h cy y) (F0 m 128 ls [])) (fun K hK a y hf => b_X12_reads_128b X hr hk K hK (a.1) (a.2.1) (a.2.2.1) (a.2.2.2.1) (a.2.2.2.2) y hf) FU _ y hf

set_option maxRecDepth 100000 in
set_option maxHeartbeats 4000000 in
theorem c_X12_reads (l : Launch) (D : va_G) (h : Nat → Nat) (cy : Nat → ClassId) (σ : St) (y : Int32 × St) (hf : f_X12_reads σ = some y) : CI l yX12_reads cX12_reads 13 (some .boolean) 4 101 D h cy [.ref (h 68)] σ y := by
  refine ent (Qc := fun sz => QI D h cy sz y) (by decide) (Nat.le_of_ble_eq_true rfl) ?_
  intro p e s m below meth c ls X Z hr hk hl
  have X : Cx p s m _ c D h cy RX12 cX12_reads 13 := X
  have hx := X.x
  have hb := X.b
  have hl : lv_has ls 13 [(0, .ref (h 68))] := hl
  unfold f_X12_reads at hf
  refine lv_aload_n hx hb dX12_reads_0 rfl (lv_at hl 0 rfl) ?_
  refine lv_iconst (v := 0) hx hb dX12_reads_1 (by decide) ?_
  refine pf_RX12_341 X Z dX12_reads_2 (fun s1 H locs es1 Z => ?_)
  have hf := zn_e es1 hf
  refine lv_aload_n hx hb dX12_reads_5 rfl (lv_at hl 0 rfl) ?_
  refine lv_iconst (v := 0) hx hb dX12_reads_6 (by decide) ?_
  refine pf_RX12_344 X Z dX12_reads_7 (fun s2 H locs es2 Z => ?_)
  have hf := zn_e es2 hf
  refine lv_aload_n hx hb dX12_reads_10 rfl (lv_at hl 0 rfl) ?_
  refine lv_iconst (v := 0) hx hb dX12_reads_11 (by decide) ?_
  refine pf_RX12_347 X Z dX12_reads_12 (fun s3 H locs es3 Z => ?_)
  have hf := zn_e es3 hf
  refine lv_aload_n hx hb dX12_reads_15 rfl (lv_at hl 0 rfl) ?_
  refine lv_iconst (v := 0) hx hb dX12_reads_16 (by decide) ?_
  refine pf_RX12_350 X Z (by decide) dX12_reads_17 (fun s4 H locs es4 Z => ?_)
  have hf := zn_e es4 hf
  refine lv_aload_n hx hb dX12_reads_20 rfl (lv_at hl 0 rfl) ?_
  refine lv_iconst (v := 0) hx hb dX12_reads_21 (by decide) ?_
  refine pf_RX12_354 X Z (by decide) dX12_reads_22 (fun s5 H locs es5 Z => ?_)
  have hf := zn_e es5 hf
  refine lv_aload_n hx hb dX12_reads_25 rfl (lv_at hl 0 rfl) ?_
  refine gf_RX12_253 X Z dX12_reads_26 ?_
  refine lv_bipush (v := 32) hx hb dX12_reads_29 (by decide) ?_
  refine lv_icmp_ge (tgt := 45) hx hb dX12_reads_31 (by decide) (fun c6 => ?_) (fun c6 => ?_)
  · have hf := itp c6 hf
    refine lv_aload_n hx hb dX12_reads_45 rfl (lv_at hl 0 rfl) ?_
    refine lv_lconst (v := 0) hx hb dX12_reads_46 (by decide) ?_
    obtain ⟨r9, s8, h7, hf⟩ := bi_s hf
    refine goL Z (run_V (As := [.long (0 : Int64)]) (rest := []) X Z (c_X12_four l D h cy (0 : Int64) s5 (r9, s8) h7 _) lk_RX12_307 ⟨by decide, by decide⟩ rv_68 rfl hl.1 rfl (Nat.le_of_ble_eq_true rfl) ⟨Nat.le_refl _, Nat.le_refl _⟩ dX12_reads_47) (fun H locs Z => ?_)
    refine lv_ldc2 (v := 4277009103) hx hb X.o (X.t _ kc_RX12_282) dX12_reads_50 ?_
    refine x_lif_eq (tgt := 64) X dX12_reads_53 dX12_reads_54 (by decide) (fun c10 => ?_) (fun c10 => ?_)
    · have hf := itp c10 hf
      refine lv_aload_n hx hb dX12_reads_64 rfl (lv_at hl 0 rfl) ?_
      refine lv_ldc2 (v := 16) hx hb X.o (X.t _ kc_RX12_298) dX12_reads_65 ?_
      obtain ⟨r13, s12, h11, hf⟩ := bi_s hf
      refine goL Z (run_V (As := [.long (16 : Int64)]) (rest := []) X Z (c_X12_four l D h cy (16 : Int64) s8 (r13, s12) h11 _) lk_RX12_307 ⟨by decide, by decide⟩ rv_68 rfl hl.1 rfl (Nat.le_of_ble_eq_true rfl) ⟨Nat.le_refl _, Nat.le_refl _⟩ dX12_reads_68) (fun H locs Z => ?_)
      refine lv_lstore_n (lv' := [(1, .long r13), (0, .ref (h 68))]) hx hb dX12_reads_71 rfl hl (by decide) rfl (fun ls hl => ?_)
      refine lv_lload_n hx hb dX12_reads_72 rfl (lv_at hl 0 rfl) ?_
      refine lv_ldc2 (v := 16) hx hb X.o (X.t _ kc_RX12_298) dX12_reads_73 ?_
      refine x_lif_le (tgt := 89) X dX12_reads_76 dX12_reads_77 (by decide) (fun c14 => ?_) (fun c14 => ?_)
      · have hf := itp c14 hf
        refine lv_ldc2 (v := 32) hx hb X.o (X.t _ kc_RX12_357) dX12_reads_89 ?_
        refine lv_aload_n hx hb dX12_reads_92 rfl (lv_at hl 1 rfl) ?_
        refine lv_ldc2 (v := 20) hx hb X.o (X.t _ kc_RX12_359) dX12_reads_93 ?_
        obtain ⟨r17, s16, h15, hf⟩ := bi_s hf
        refine goL Z (run_V (As := [.long (20 : Int64)]) (rest := [.long (32 : Int64)]) X Z (c_X12_four l D h cy (20 : Int64) s12 (r17, s16) h15 _) lk_RX12_307 ⟨by decide, by decide⟩ rv_68 rfl hl.1 rfl (Nat.le_of_ble_eq_true rfl) ⟨Nat.le_refl _, Nat.le_refl _⟩ dX12_reads_96) (fun H locs Z => ?_)
        refine lv_ladd hx hb dX12_reads_99 ?_
        refine lv_topl (fun v18 ev18 => ?_)
        have hf := zn_e ev18 hf
        refine lv_lstore_n (lv' := [(3, .long v18), (1, .long r13), (0, .ref (h 68))]) hx hb dX12_reads_100 rfl hl (by decide) rfl (fun ls hl => ?_)
        refine lv_lload_n hx hb dX12_reads_101 rfl (lv_at hl 0 rfl) ?_
        refine lv_aload_n hx hb dX12_reads_102 rfl (lv_at hl 2 rfl) ?_
        refine gf_RX12_253 X Z dX12_reads_103 ?_
        refine lv_i2l (v := (s16.1 68 30).toInt64) hx hb dX12_reads_106 rfl ?_
        refine x_lif_le (tgt := 120) X dX12_reads_107 dX12_reads_108 (by decide) (fun c19 => ?_) (fun c19 => ?_)
        · have hf := itp c19 hf
          refine lv_ldc2 (v := 32) hx hb X.o (X.t _ kc_RX12_357) dX12_reads_120 ?_
          refine lv_topl (fun v20 ev20 => ?_)
          have hf := zn_e ev20 hf
          refine lv_lstore (lv' := [(5, .long v20), (3, .long v18), (1, .long r13), (0, .ref (h 68))]) hx hb dX12_reads_123 hl (by decide) rfl (fun ls hl => ?_)
          refine lv_iconst (v := 0) hx hb dX12_reads_125 (by decide) ?_
          refine lv_topi (fun v21 ev21 => ?_)
          have hf := zn_e ev21 hf
          refine lv_istore (lv' := [(7, .int v21), (5, .long v20), (3, .long v18), (1, .long r13), (0, .ref (h 68))]) hx hb dX12_reads_126 hl (by decide) rfl (fun ls hl => ?_)
          exact b_X12_reads_128 X hr hk r13 v18 v20 v21 s16 _ hf _ _ _ Z (lv_sub hl [4, 3, 2, 1, 0] rfl)
        · have hf := itn c19 hf
          refine lv_aload_n hx hb dX12_reads_111 rfl (lv_at hl 2 rfl) ?_
          refine lv_iconst (v := 1) hx hb dX12_reads_112 (by decide) ?_
          refine lv_ldc2 (v := 20) hx hb X.o (X.t _ kc_RX12_359) dX12_reads_113 ?_
          obtain ⟨r68, s67, h66, hf⟩ := bi_s hf
          refine goI Z (run_V (As := [.int (1 : Int32), .long (20 : Int64)]) (rest := []) X Z (c_X12_bad l D h cy (1 : Int32) (20 : Int64) s16 (r68, s67) h66 _) lk_RX12_321 ⟨by decide, by decide⟩ rv_68 rfl hl.1 rfl (Nat.le_of_ble_eq_true rfl) ⟨Nat.le_refl _, Nat.le_refl _⟩ dX12_reads_116) (fun H locs Z => ?_)
          obtain ⟨g69, hf⟩ := gd_s hf
          exact retZ X hr hk Z g69 hf dX12_reads_119
      · have hf := itn c14 hf
        refine lv_aload_n hx hb dX12_reads_80 rfl (lv_at hl 1 rfl) ?_
        refine lv_iconst (v := 3) hx hb dX12_reads_81 (by decide) ?_
        refine lv_ldc2 (v := 16) hx hb X.o (X.t _ kc_RX12_298) dX12_reads_82 ?_
        obtain ⟨r72, s71, h70, hf⟩ := bi_s hf
        refine goI Z (run_V (As := [.int (3 : Int32), .long (16 : Int64)]) (rest := []) X Z (c_X12_bad l D h cy (3 : Int32) (16 : Int64) s12 (r72, s71) h70 _) lk_RX12_321 ⟨by decide, by decide⟩ rv_68 rfl hl.1 rfl (Nat.le_of_ble_eq_true rfl) ⟨Nat.le_refl _, Nat.le_refl _⟩ dX12_reads_85) (fun H locs Z => ?_)
        obtain ⟨g73, hf⟩ := gd_s hf
        exact retZ X hr hk Z g73 hf dX12_reads_88
    · have hf := itn c10 hf
      refine lv_aload_n hx hb dX12_reads_57 rfl (lv_at hl 0 rfl) ?_
      refine lv_iconst (v := 2) hx hb dX12_reads_58 (by decide) ?_
      refine lv_lconst (v := 0) hx hb dX12_reads_59 (by decide) ?_
      obtain ⟨r76, s75, h74, hf⟩ := bi_s hf
      refine goI Z (run_V (As := [.int (2 : Int32), .long (0 : Int64)]) (rest := []) X Z (c_X12_bad l D h cy (2 : Int32) (0 : Int64) s8 (r76, s75) h74 _) lk_RX12_321 ⟨by decide, by decide⟩ rv_68 rfl hl.1 rfl (Nat.le_of_ble_eq_true rfl) ⟨Nat.le_refl _, Nat.le_refl _⟩ dX12_reads_60) (fun H locs Z => ?_)
      obtain ⟨g77, hf⟩ := gd_s hf
      exact retZ X hr hk Z g77 hf dX12_reads_63
  · have hf := itn c6 hf
    refine lv_aload_n hx hb dX12_reads_34 rfl (lv_at hl 0 rfl) ?_
    refine lv_iconst (v := 1) hx hb dX12_reads_35 (by decide) ?_
    refine lv_aload_n hx hb dX12_reads_36 rfl (lv_at hl 0 rfl) ?_
    refine gf_RX12_253 X Z dX12_reads_37 ?_
    refine lv_i2l (v := (s5.1 68 30).toInt64) hx hb dX12_reads_40 rfl ?_
    obtain ⟨r80, s79, h78, hf⟩ := bi_s hf
    refine goI Z (run_V (As := [.int (1 : Int32), .long ((s5.1 68 30).toInt64)]) (rest := []) X Z (c_X12_bad l D h cy (1 : Int32) ((s5.1 68 30).toInt64) s5 (r80, s79) h78 _) lk_RX12_321 ⟨by decide, by decide⟩ rv_68 rfl hl.1 rfl (Nat.le_of_ble_eq_true rfl) ⟨Nat.le_refl _, Nat.le_refl _⟩ dX12_reads_41) (fun H locs Z => ?_)
    obtain ⟨g81, hf⟩ := gd_s hf
    exact retZ X hr hk Z g81 hf dX12_reads_44

set_option maxRecDepth 100000 in
set_option maxHeartbeats 4000000 in
theorem b_X12_zero_3b {p : Program} {l : Launch} {e : Env} {s : State} {m : MethodId} {args : Array Value} {below : List Frame} {meth : Method} {c : Code} {D : va_G} {h : Nat → Nat} {cy : Nat → ClassId} (X : Cx p s m args c D h cy RX12 cX12_zero 7) (hr : meth.sig.returnType = some .long) (hk : meth.locks = false) (K3 : (Int64 × Int64 × St) → Option (Int64 × St)) (hK3 : ∀ (a : Int64 × Int64 × St) (y : Int64 × St), K3 a = some y → ∀ (H : Heap) (locs : List Loc) (ls : Array Slot), Zt D h cy s a.2.2 H locs → lv_has ls 7 [(0, .ref (h 68)), (3, .long a.1), (5, .long a.2.1)] → W p l e (rmz 0 0) s m args below meth c H locs 0 0 (EL below args s D h cy y) (F0 m 3 ls [])) (x3 : Int64) (x5 : Int64) (σ : St) (y : Int64 × St) (hf : f_X12_zero_3b K3 x3 x5 σ = some y) : ∀ (H : Heap) (locs : List Loc) (ls : Array Slot), Zt D h cy s σ H locs → lv_has ls 7 [(0, .ref (h 68)), (3, .long x3), (5, .long x5)] → W p l e (rmz 0 0) s m args below meth c H locs 0 0 (EL below args s D h cy y) (F0 m 3 ls []) := by
  intro H locs ls Z hl
  have hx := X.x
  have hb := X.b
  unfold f_X12_zero_3b at hf
  refine lv_lload hx hb dX12_zero_3 (lv_at hl 2 rfl) ?_
  refine lv_lload_n hx hb dX12_zero_5 rfl (lv_at hl 1 rfl) ?_
  refine x_lif_ge (tgt := 33) X dX12_zero_6 dX12_zero_7 (by decide) (fun c1 => ?_) (fun c1 => ?_)
  · have hf := itp c1 hf
    refine lv_ldc2 (v := (-1)) hx hb X.o (X.t _ kc_RX12_86) dX12_zero_33 ?_
    exact retL X hr hk Z hf dX12_zero_36
  · have hf := itn c1 hf
    refine lv_aload_n hx hb dX12_zero_10 rfl (lv_at hl 0 rfl) ?_
    refine gf_RX12_77 X Z dX12_zero_11 ?_
    refine lv_lload hx hb dX12_zero_14 (lv_at hl 2 rfl) ?_
    refine lv_l2i (v := x5.toInt32) hx hb dX12_zero_16 rfl ?_
    obtain ⟨g2, hf⟩ := gd_s hf
    refine x_iald (k := 88) X Z sh_88 g2 dX12_zero_17 ?_
    refine lv_if_ne (tgt := 24) hx hb dX12_zero_18 (by decide) (fun c3 => ?_) (fun c3 => ?_)
    · have hf := itn c3 hf
      refine lv_lload hx hb dX12_zero_24 (lv_at hl 2 rfl) ?_
      refine lv_lconst (v := 1) hx hb dX12_zero_26 (by decide) ?_
      refine lv_ladd hx hb dX12_zero_27 ?_
      refine lv_topl (fun v4 ev4 => ?_)
      have hf := zn_e ev4 hf
      refine lv_lstore (lv' := [(5, .long v4), (0, .ref (h 68)), (3, .long x3)]) hx hb dX12_zero_28 hl (by decide) rfl (fun ls hl => ?_)
      refine lv_goto (tgt := 3) hx hb dX12_zero_30 (by decide) ?_
      exact hK3 (x3, v4, σ) _ hf _ _ _ Z (lv_sub hl [1, 2, 0] rfl)
    · have hf := itp c3 hf
      refine lv_lload hx hb dX12_zero_21 (lv_at hl 2 rfl) ?_
      exact retL X hr hk Z hf dX12_zero_23

set_option maxRecDepth 100000 in
set_option maxHeartbeats 4000000 in
theorem b_X12_zero_3 {p : Program} {l : Launch} {e : Env} {s : State} {m : MethodId} {args : Array Value} {below : List Frame} {meth : Method} {c : Code} {D : va_G} {h : Nat → Nat} {cy : Nat → ClassId} (X : Cx p s m args c D h cy RX12 cX12_zero 7) (hr : meth.sig.returnType = some .long) (hk : meth.locks = false) (x3 : Int64) (x5 : Int64) (σ : St) (y : Int64 × St) (hf : f_X12_zero_3 x3 x5 σ = some y) : ∀ (H : Heap) (locs : List Loc) (ls : Array Slot), Zt D h cy s σ H locs → lv_has ls 7 [(0, .ref (h 68)), (3, .long x3), (5, .long x5)] → W p l e (rmz 0 0) s m args below meth c H locs 0 0 (EL below args s D h cy y) (F0 m 3 ls []) := by
  exact it_W (F := fun K a => f_X12_zero_3b K a.1 a.2.1 a.2.2) (P := fun a y => ∀ (H : Heap) (locs : List Loc) (ls : Array Slot), Zt D h cy s a.2.2 H locs → lv_has ls 7 [(0, .ref (h 68)), (3, .long a.1), (5, .long a.2.1)] → W p l e (rmz 0 0) s m args below meth c H locs 0 0 (EL below args s D h cy y) (F0 m 3 ls [])) (fun K hK a y hf => b_X12_zero_3b X hr hk K hK (a.1) (a.2.1) (a.2.2) y hf) FU _ y hf

set_option maxRecDepth 100000 in
set_option maxHeartbeats 4000000 in
theorem c_X12_zero (l : Launch) (D : va_G) (h : Nat → Nat) (cy : Nat → ClassId) (a1 : Int64) (a2 : Int64) (σ : St) (y : Int64 × St) (hf : f_X12_zero a1 a2 σ = some y) : CL l yX12_zero cX12_zero 7 (some .long) 0 0 D h cy [.ref (h 68), .long a1, .long a2] σ y := by
  refine ent (Qc := fun sz => QL D h cy sz y) (by decide) (Nat.le_of_ble_eq_true rfl) ?_
  intro p e s m below meth c ls X Z hr hk hl
  have X : Cx p s m _ c D h cy RX12 cX12_zero 7 := X
  have hx := X.x
  have hb := X.b
  have hl : lv_has ls 7 [(0, .ref (h 68)), (1, .long a1), (3, .long a2)] := hl
  unfold f_X12_zero at hf
  refine lv_lload_n hx hb dX12_zero_0 rfl (lv_at hl 1 rfl) ?_
  refine lv_lstore (lv' := [(5, .long a1), (0, .ref (h 68)), (1, .long a1), (3, .long a2)]) hx hb dX12_zero_1 hl (by decide) rfl (fun ls hl => ?_)
  exact b_X12_zero_3 X hr hk a2 a1 σ _ hf _ _ _ Z (lv_sub hl [1, 3, 0] rfl)

set_option maxRecDepth 100000 in
set_option maxHeartbeats 4000000 in
theorem b_X12_readsSymbols_5b {p : Program} {l : Launch} {e : Env} {s : State} {m : MethodId} {args : Array Value} {below : List Frame} {meth : Method} {c : Code} {D : va_G} {h : Nat → Nat} {cy : Nat → ClassId} (X : Cx p s m args c D h cy RX12 cX12_readsSymbols 3) (hr : meth.sig.returnType = some .boolean) (hk : meth.locks = false) (K5 : (Int64 × St) → Option (Int32 × St)) (hK5 : ∀ (a : Int64 × St) (y : Int32 × St), K5 a = some y → ∀ (H : Heap) (locs : List Loc) (ls : Array Slot), Zt D h cy s a.2 H locs → lv_has ls 3 [(0, .ref (h 68)), (1, .long a.1)] → W p l e (rmz 3 69) s m args below meth c H locs 0 0 (EI below args s D h cy y) (F0 m 5 ls [])) (x1 : Int64) (σ : St) (y : Int32 × St) (hf : f_X12_readsSymbols_5b K5 x1 σ = some y) : ∀ (H : Heap) (locs : List Loc) (ls : Array Slot), Zt D h cy s σ H locs → lv_has ls 3 [(0, .ref (h 68)), (1, .long x1)] → W p l e (rmz 3 69) s m args below meth c H locs 0 0 (EI below args s D h cy y) (F0 m 5 ls []) := by
  intro H locs ls Z hl
  have hx := X.x
  have hb := X.b
  unfold f_X12_readsSymbols_5b at hf
  refine lv_aload_n hx hb dX12_readsSymbols_5 rfl (lv_at hl 0 rfl) ?_
  refine gf_RX12_350 X Z dX12_readsSymbols_6 ?_
  refine lv_if_eq (tgt := 119) hx hb dX12_readsSymbols_9 (by decide) (fun c2 => ?_) (fun c2 => ?_)
  · have hf := itp c2 hf
    refine lv_iconst (v := 1) hx hb dX12_readsSymbols_119 (by decide) ?_
    exact retZ X hr hk Z (by decide) hf dX12_readsSymbols_120
  · have hf := itn c2 hf
    refine lv_lload_n hx hb dX12_readsSymbols_12 rfl (lv_at hl 1 rfl) ?_
    refine lv_aload_n hx hb dX12_readsSymbols_13 rfl (lv_at hl 0 rfl) ?_
    refine gf_RX12_390 X Z dX12_readsSymbols_14 ?_
    refine lv_ldc2 (v := 16) hx hb X.o (X.t _ kc_RX12_298) dX12_readsSymbols_17 ?_
    refine lv_aload_n hx hb dX12_readsSymbols_20 rfl (lv_at hl 0 rfl) ?_
    refine gf_RX12_395 X Z dX12_readsSymbols_21 ?_
    refine lv_lmul hx hb dX12_readsSymbols_24 ?_
    refine lv_ladd hx hb dX12_readsSymbols_25 ?_
    refine x_lif_ge (tgt := 119) X dX12_readsSymbols_26 dX12_readsSymbols_27 (by decide) (fun c3 => ?_) (fun c3 => ?_)
    · have hf := itp c3 hf
      refine lv_iconst (v := 1) hx hb dX12_readsSymbols_119 (by decide) ?_
      exact retZ X hr hk Z (by decide) hf dX12_readsSymbols_120
    · have hf := itn c3 hf
      refine lv_aload_n hx hb dX12_readsSymbols_30 rfl (lv_at hl 0 rfl) ?_
      refine lv_aload_n hx hb dX12_readsSymbols_31 rfl (lv_at hl 0 rfl) ?_
      refine gf_RX12_398 X Z dX12_readsSymbols_32 ?_
      refine lv_aload_n hx hb dX12_readsSymbols_35 rfl (lv_at hl 0 rfl) ?_
      refine lv_lload_n hx hb dX12_readsSymbols_36 rfl (lv_at hl 1 rfl) ?_
      obtain ⟨r6, s5, h4, hf⟩ := bi_s hf
      refine goL Z (run_V (As := [.long x1]) (rest := [.long (σ.2 68 52), .ref (h 68)]) X Z (c_X12_four l D h cy x1 σ (r6, s5) h4 _) lk_RX12_307 ⟨by decide, by decide⟩ rv_68 rfl hl.1 rfl (Nat.le_of_ble_eq_true rfl) ⟨Nat.le_refl _, Nat.le_refl _⟩ dX12_readsSymbols_37) (fun H locs Z => ?_)
      refine lv_ladd hx hb dX12_readsSymbols_40 ?_
      refine lv_aload_n hx hb dX12_readsSymbols_41 rfl (lv_at hl 0 rfl) ?_
      refine gf_RX12_398 X Z dX12_readsSymbols_42 ?_
      refine lv_aload_n hx hb dX12_readsSymbols_45 rfl (lv_at hl 0 rfl) ?_
      refine gf_RX12_401 X Z dX12_readsSymbols_46 ?_
      refine lv_ladd hx hb dX12_readsSymbols_49 ?_
      obtain ⟨r9, s8, h7, hf⟩ := bi_s hf
      refine goL Z (run_V (As := [.long (((σ.2 68 52) + r6)), .long (((s5.2 68 52) + (s5.2 68 53)))]) (rest := []) X Z (c_X12_zero l D h cy (((σ.2 68 52) + r6)) (((s5.2 68 52) + (s5.2 68 53))) s5 (r9, s8) h7 _) lk_RX12_410 ⟨by decide, by decide⟩ rv_68 rfl hl.1 rfl (Nat.le_of_ble_eq_true rfl) ⟨Nat.le_refl _, Nat.le_refl _⟩ dX12_readsSymbols_50) (fun H locs Z => ?_)
      refine lv_ldc2 (v := (-1)) hx hb X.o (X.t _ kc_RX12_86) dX12_readsSymbols_53 ?_
      refine x_lif_ne (tgt := 68) X dX12_readsSymbols_56 dX12_readsSymbols_57 (by decide) (fun c10 => ?_) (fun c10 => ?_)
      · have hf := itn c10 hf
        refine lv_aload_n hx hb dX12_readsSymbols_68 rfl (lv_at hl 0 rfl) ?_
        refine gf_RX12_77 X Z dX12_readsSymbols_69 ?_
        refine lv_lload_n hx hb dX12_readsSymbols_72 rfl (lv_at hl 1 rfl) ?_
        refine lv_l2i (v := x1.toInt32) hx hb dX12_readsSymbols_73 rfl ?_
        refine lv_iconst (v := 5) hx hb dX12_readsSymbols_74 (by decide) ?_
        refine lv_iadd hx hb dX12_readsSymbols_75 ?_
        obtain ⟨g11, hf⟩ := gd_s hf
        refine x_iald (k := 88) X Z sh_88 g11 dX12_readsSymbols_76 ?_
        refine lv_aload_n hx hb dX12_readsSymbols_77 rfl (lv_at hl 0 rfl) ?_
        refine gf_RX12_344 X Z dX12_readsSymbols_78 ?_
        refine lv_icmp_le (tgt := 96) hx hb dX12_readsSymbols_81 (by decide) (fun c12 => ?_) (fun c12 => ?_)
        · have hf := itp c12 hf
          refine lv_aload_n hx hb dX12_readsSymbols_96 rfl (lv_at hl 0 rfl) ?_
          refine lv_lload_n hx hb dX12_readsSymbols_97 rfl (lv_at hl 1 rfl) ?_
          refine lv_ldc2 (v := 8) hx hb X.o (X.t _ kc_RX12_361) dX12_readsSymbols_98 ?_
          refine lv_ladd hx hb dX12_readsSymbols_101 ?_
          obtain ⟨r15, s14, h13, hf⟩ := bi_s hf
          refine goI Z (run_V (As := [.long ((x1 + (8 : Int64)))]) (rest := []) X Z (c_X12_isNumber l D h cy ((x1 + (8 : Int64))) s8 (r15, s14) h13 _) lk_RX12_381 ⟨by decide, by decide⟩ rv_68 rfl hl.1 rfl (Nat.le_of_ble_eq_true rfl) ⟨Nat.le_refl _, Nat.le_refl _⟩ dX12_readsSymbols_102) (fun H locs Z => ?_)
          refine lv_if_ne (tgt := 110) hx hb dX12_readsSymbols_105 (by decide) (fun c16 => ?_) (fun c16 => ?_)
          · have hf := itn c16 hf
            refine lv_lload_n hx hb dX12_readsSymbols_110 rfl (lv_at hl 1 rfl) ?_
            refine lv_ldc2 (v := 16) hx hb X.o (X.t _ kc_RX12_298) dX12_readsSymbols_111 ?_
            refine lv_ladd hx hb dX12_readsSymbols_114 ?_
            refine lv_topl (fun v17 ev17 => ?_)
            have hf := zn_e ev17 hf
            refine lv_lstore_n (lv' := [(1, .long v17), (0, .ref (h 68))]) hx hb dX12_readsSymbols_115 rfl hl (by decide) rfl (fun ls hl => ?_)
            refine lv_goto (tgt := 5) hx hb dX12_readsSymbols_116 (by decide) ?_
            exact hK5 (v17, s14) _ hf _ _ _ Z (lv_sub hl [1, 0] rfl)
          · have hf := itp c16 hf
            refine lv_iconst (v := 0) hx hb dX12_readsSymbols_108 (by decide) ?_
            exact retZ X hr hk Z (by decide) hf dX12_readsSymbols_109
        · have hf := itn c12 hf
          refine lv_aload_n hx hb dX12_readsSymbols_84 rfl (lv_at hl 0 rfl) ?_
          refine lv_bipush (v := 8) hx hb dX12_readsSymbols_85 (by decide) ?_
          refine lv_lload_n hx hb dX12_readsSymbols_87 rfl (lv_at hl 1 rfl) ?_
          refine lv_ldc2 (v := 5) hx hb X.o (X.t _ kc_RX12_414) dX12_readsSymbols_88 ?_
          refine lv_ladd hx hb dX12_readsSymbols_91 ?_
          obtain ⟨r20, s19, h18, hf⟩ := bi_s hf
          refine goI Z (run_V (As := [.int (8 : Int32), .long ((x1 + (5 : Int64)))]) (rest := []) X Z (c_X12_bad l D h cy (8 : Int32) ((x1 + (5 : Int64))) s8 (r20, s19) h18 _) lk_RX12_321 ⟨by decide, by decide⟩ rv_68 rfl hl.1 rfl (Nat.le_of_ble_eq_true rfl) ⟨Nat.le_refl _, Nat.le_refl _⟩ dX12_readsSymbols_92) (fun H locs Z => ?_)
          obtain ⟨g21, hf⟩ := gd_s hf
          exact retZ X hr hk Z g21 hf dX12_readsSymbols_95
      · have hf := itp c10 hf
        refine lv_aload_n hx hb dX12_readsSymbols_60 rfl (lv_at hl 0 rfl) ?_
        refine lv_bipush (v := 8) hx hb dX12_readsSymbols_61 (by decide) ?_
        refine lv_lload_n hx hb dX12_readsSymbols_63 rfl (lv_at hl 1 rfl) ?_
        obtain ⟨r24, s23, h22, hf⟩ := bi_s hf
        refine goI Z (run_V (As := [.int (8 : Int32), .long x1]) (rest := []) X Z (c_X12_bad l D h cy (8 : Int32) x1 s8 (r24, s23) h22 _) lk_RX12_321 ⟨by decide, by decide⟩ rv_68 rfl hl.1 rfl (Nat.le_of_ble_eq_true rfl) ⟨Nat.le_refl _, Nat.le_refl _⟩ dX12_readsSymbols_64) (fun H locs Z => ?_)
        obtain ⟨g25, hf⟩ := gd_s hf
        exact retZ X hr hk Z g25 hf dX12_readsSymbols_67

set_option maxRecDepth 100000 in
set_option maxHeartbeats 4000000 in
theorem b_X12_readsSymbols_5 {p : Program} {l : Launch} {e : Env} {s : State} {m : MethodId} {args : Array Value} {below : List Frame} {meth : Method} {c : Code} {D : va_G} {h : Nat → Nat} {cy : Nat → ClassId} (X : Cx p s m args c D h cy RX12 cX12_readsSymbols 3) (hr : meth.sig.returnType = some .boolean) (hk : meth.locks = false) (x1 : Int64) (σ : St) (y : Int32 × St) (hf : f_X12_readsSymbols_5 x1 σ = some y) : ∀ (H : Heap) (locs : List Loc) (ls : Array Slot), Zt D h cy s σ H locs → lv_has ls 3 [(0, .ref (h 68)), (1, .long x1)] → W p l e (rmz 3 69) s m args below meth c H locs 0 0 (EI below args s D h cy y) (F0 m 5 ls []) := by
  exact it_W (F := fun K a => f_X12_readsSymbols_5b K a.1 a.2) (P := fun a y => ∀ (H : Heap) (locs : List Loc) (ls : Array Slot), Zt D h cy s a.2 H locs → lv_has ls 3 [(0, .ref (h 68)), (1, .long a.1)] → W p l e (rmz 3 69) s m args below meth c H locs 0 0 (EI below args s D h cy y) (F0 m 5 ls [])) (fun K hK a y hf => b_X12_readsSymbols_5b X hr hk K hK (a.1) (a.2) y hf) FU _ y hf

set_option maxRecDepth 100000 in
set_option maxHeartbeats 4000000 in
theorem c_X12_readsSymbols (l : Launch) (D : va_G) (h : Nat → Nat) (cy : Nat → ClassId) (σ : St) (y : Int32 × St) (hf : f_X12_readsSymbols σ = some y) : CI l yX12_readsSymbols cX12_readsSymbols 3 (some .boolean) 3 69 D h cy [.ref (h 68)] σ y := by
  refine ent (Qc := fun sz => QI D h cy sz y) (by decide) (Nat.le_of_ble_eq_true rfl) ?_
  intro p e s m below meth c ls X Z hr hk hl
  have X : Cx p s m _ c D h cy RX12 cX12_readsSymbols 3 := X
  have hx := X.x
  have hb := X.b
  have hl : lv_has ls 3 [(0, .ref (h 68))] := hl
  unfold f_X12_readsSymbols at hf
  refine lv_aload_n hx hb dX12_readsSymbols_0 rfl (lv_at hl 0 rfl) ?_
  refine gf_RX12_390 X Z dX12_readsSymbols_1 ?_
  refine lv_topl (fun v1 ev1 => ?_)
  have hf := zn_e ev1 hf
  refine lv_lstore_n (lv' := [(1, .long v1), (0, .ref (h 68))]) hx hb dX12_readsSymbols_4 rfl hl (by decide) rfl (fun ls hl => ?_)
  exact b_X12_readsSymbols_5 X hr hk v1 σ _ hf _ _ _ Z (lv_sub hl [1, 0] rfl)

set_option maxRecDepth 100000 in
set_option maxHeartbeats 4000000 in
theorem c_X12_isWithin (l : Launch) (D : va_G) (h : Nat → Nat) (cy : Nat → ClassId) (a1 : Int32) (a2 : Int32) (a3 : Int32) (a4 : Int32) (σ : St) (y : Int32 × St) (hf : f_X12_isWithin a1 a2 a3 a4 σ = some y) : CI l yX12_isWithin cX12_isWithin 5 (some .boolean) 0 0 D h cy [.ref (h 68), .int a1, .int a2, .int a3, .int a4] σ y := by
  refine ent (Qc := fun sz => QI D h cy sz y) (by decide) (Nat.le_of_ble_eq_true rfl) ?_
  intro p e s m below meth c ls X Z hr hk hl
  have X : Cx p s m _ c D h cy RX12 cX12_isWithin 5 := X
  have hx := X.x
  have hb := X.b
  have hl : lv_has ls 5 [(0, .ref (h 68)), (1, .int a1), (2, .int a2), (3, .int a3), (4, .int a4)] := hl
  unfold f_X12_isWithin at hf
  refine lv_iload hx hb dX12_isWithin_0 (lv_at hl 4 rfl) ?_
  refine lv_bipush (v := 8) hx hb dX12_isWithin_2 (by decide) ?_
  refine lv_iadd hx hb dX12_isWithin_4 ?_
  refine lv_iload_n hx hb dX12_isWithin_5 rfl (lv_at hl 3 rfl) ?_
  refine lv_icmp_gt (tgt := 36) hx hb dX12_isWithin_6 (by decide) (fun c1 => ?_) (fun c1 => ?_)
  · have hf := itp c1 hf
    refine lv_iconst (v := 0) hx hb dX12_isWithin_36 (by decide) ?_
    exact retZ X hr hk Z (by decide) hf dX12_isWithin_37
  · have hf := itn c1 hf
    refine lv_iload_n hx hb dX12_isWithin_9 rfl (lv_at hl 2 rfl) ?_
    refine lv_i2l (v := a2.toInt64) hx hb dX12_isWithin_10 rfl ?_
    refine lv_iload_n hx hb dX12_isWithin_11 rfl (lv_at hl 3 rfl) ?_
    refine lv_i2l (v := a3.toInt64) hx hb dX12_isWithin_12 rfl ?_
    refine lv_lmul hx hb dX12_isWithin_13 ?_
    refine lv_iload hx hb dX12_isWithin_14 (lv_at hl 4 rfl) ?_
    refine lv_i2l (v := a4.toInt64) hx hb dX12_isWithin_16 rfl ?_
    refine lv_ladd hx hb dX12_isWithin_17 ?_
    refine lv_ldc2 (v := 8) hx hb X.o (X.t _ kc_RX12_361) dX12_isWithin_18 ?_
    refine lv_ladd hx hb dX12_isWithin_21 ?_
    refine lv_aload_n hx hb dX12_isWithin_22 rfl (lv_at hl 0 rfl) ?_
    refine gf_RX12_95 X Z dX12_isWithin_23 ?_
    refine lv_iload_n hx hb dX12_isWithin_26 rfl (lv_at hl 1 rfl) ?_
    obtain ⟨g2, hf⟩ := gd_s hf
    refine x_lald (k := 92) X Z sh_92 g2 dX12_isWithin_27 ?_
    refine x_lif_gt (tgt := 36) X dX12_isWithin_28 dX12_isWithin_29 (by decide) (fun c3 => ?_) (fun c3 => ?_)
    · have hf := itp c3 hf
      refine lv_iconst (v := 0) hx hb dX12_isWithin_36 (by decide) ?_
      exact retZ X hr hk Z (by decide) hf dX12_isWithin_37
    · have hf := itn c3 hf
      refine lv_iconst (v := 1) hx hb dX12_isWithin_32 (by decide) ?_
      refine lv_goto (tgt := 37) hx hb dX12_isWithin_33 (by decide) ?_
      exact retZ X hr hk Z (by decide) hf dX12_isWithin_37

set_option maxRecDepth 100000 in
set_option maxHeartbeats 4000000 in
theorem b_X12_wordOf_54 {p : Program} {l : Launch} {e : Env} {s : State} {m : MethodId} {args : Array Value} {below : List Frame} {meth : Method} {c : Code} {D : va_G} {h : Nat → Nat} {cy : Nat → ClassId} (X : Cx p s m args c D h cy RX12 cX12_wordOf 7) (hr : meth.sig.returnType = some .long) (hk : meth.locks = false) (K7 : (Int32 × Int64 × Int64 × Int32 × St) → Option (Int64 × St)) (hK7 : ∀ (a : Int32 × Int64 × Int64 × Int32 × St) (y : Int64 × St), K7 a = some y → ∀ (H : Heap) (locs : List Loc) (ls : Array Slot), Zt D h cy s a.2.2.2.2 H locs → lv_has ls 7 [(0, .ref (h 68)), (1, .int a.1), (2, .long a.2.1), (4, .long a.2.2.1), (6, .int a.2.2.2.1)] → W p l e (rmz 0 0) s m args below meth c H locs 0 0 (EL below args s D h cy y) (F0 m 7 ls [])) (x1 : Int32) (x2 : Int64) (x6 : Int32) (t0 : Int32) (t1 : Int64) (σ : St) (y : Int64 × St) (hf : f_X12_wordOf_54 K7 x1 x2 x6 t0 t1 σ = some y) : ∀ (H : Heap) (locs : List Loc) (ls : Array Slot), Zt D h cy s σ H locs → lv_has ls 7 [(0, .ref (h 68)), (1, .int x1), (2, .long x2), (6, .int x6)] → W p l e (rmz 0 0) s m args below meth c H locs 0 0 (EL below args s D h cy y) (F0 m 54 ls [.int t0, .long t1]) := by
  intro H locs ls Z hl
  have hx := X.x
  have hb := X.b
  unfold f_X12_wordOf_54 at hf
  refine lv_i2l (v := t0.toInt64) hx hb dX12_wordOf_54 rfl ?_
  refine lv_lor hx hb dX12_wordOf_55 ?_
  refine lv_topl (fun v6 ev6 => ?_)
  have hf := zn_e ev6 hf
  refine lv_lstore (lv' := [(4, .long v6), (0, .ref (h 68)), (1, .int x1), (2, .long x2), (6, .int x6)]) hx hb dX12_wordOf_56 hl (by decide) rfl (fun ls hl => ?_)
  obtain ⟨v7, ev7⟩ : ∃ z : Int32, z = x6 + (-1) := ⟨_, rfl⟩
  have hf := zn_e ev7 hf
  refine lv_iinc (v := v7) (lv' := [(6, .int v7), (4, .long v6), (0, .ref (h 68)), (1, .int x1), (2, .long x2)]) hx hb dX12_wordOf_58 hl (k := 4) rfl (by rw [ev7]; rfl) (by decide) rfl (fun ls hl => ?_)
  refine lv_goto (tgt := 7) hx hb dX12_wordOf_61 (by decide) ?_
  exact hK7 (x1, x2, v6, v7, σ) _ hf _ _ _ Z (lv_sub hl [2, 3, 4, 1, 0] rfl)

set_option maxRecDepth 100000 in
set_option maxHeartbeats 4000000 in
theorem b_X12_wordOf_7b {p : Program} {l : Launch} {e : Env} {s : State} {m : MethodId} {args : Array Value} {below : List Frame} {meth : Method} {c : Code} {D : va_G} {h : Nat → Nat} {cy : Nat → ClassId} (X : Cx p s m args c D h cy RX12 cX12_wordOf 7) (hr : meth.sig.returnType = some .long) (hk : meth.locks = false) (K7 : (Int32 × Int64 × Int64 × Int32 × St) → Option (Int64 × St)) (hK7 : ∀ (a : Int32 × Int64 × Int64 × Int32 × St) (y : Int64 × St), K7 a = some y → ∀ (H : Heap) (locs : List Loc) (ls : Array Slot), Zt D h cy s a.2.2.2.2 H locs → lv_has ls 7 [(0, .ref (h 68)), (1, .int a.1), (2, .long a.2.1), (4, .long a.2.2.1), (6, .int a.2.2.2.1)] → W p l e (rmz 0 0) s m args below meth c H locs 0 0 (EL below args s D h cy y) (F0 m 7 ls [])) (x1 : Int32) (x2 : Int64) (x4 : Int64) (x6 : Int32) (σ : St) (y : Int64 × St) (hf : f_X12_wordOf_7b K7 x1 x2 x4 x6 σ = some y) : ∀ (H : Heap) (locs : List Loc) (ls : Array Slot), Zt D h cy s σ H locs → lv_has ls 7 [(0, .ref (h 68)), (1, .int x1), (2, .long x2), (4, .long x4), (6, .int x6)] → W p l e (rmz 0 0) s m args below meth c H locs 0 0 (EL below args s D h cy y) (F0 m 7 ls []) := by
  intro H locs ls Z hl
  have hx := X.x
  have hb := X.b
  unfold f_X12_wordOf_7b at hf
  refine lv_iload hx hb dX12_wordOf_7 (lv_at hl 4 rfl) ?_
  refine lv_if_lt (tgt := 64) hx hb dX12_wordOf_9 (by decide) (fun c3 => ?_) (fun c3 => ?_)
  · have hf := itp c3 hf
    refine lv_lload hx hb dX12_wordOf_64 (lv_at hl 3 rfl) ?_
    exact retL X hr hk Z hf dX12_wordOf_66
  · have hf := itn c3 hf
    refine lv_lload hx hb dX12_wordOf_12 (lv_at hl 3 rfl) ?_
    refine lv_bipush (v := 8) hx hb dX12_wordOf_14 (by decide) ?_
    refine lv_lshl (v := zlshl x4 (8 : Int32)) hx hb dX12_wordOf_16 rfl ?_
    refine lv_lload_n hx hb dX12_wordOf_17 rfl (lv_at hl 2 rfl) ?_
    refine lv_iload hx hb dX12_wordOf_18 (lv_at hl 4 rfl) ?_
    refine lv_i2l (v := x6.toInt64) hx hb dX12_wordOf_20 rfl ?_
    refine lv_ladd hx hb dX12_wordOf_21 ?_
    refine lv_aload_n hx hb dX12_wordOf_22 rfl (lv_at hl 0 rfl) ?_
    refine gf_RX12_101 X Z dX12_wordOf_23 ?_
    refine lv_iload_n hx hb dX12_wordOf_26 rfl (lv_at hl 1 rfl) ?_
    obtain ⟨g4, hf⟩ := gd_s hf
    refine x_lald (k := 94) X Z sh_94 g4 dX12_wordOf_27 ?_
    refine x_lif_ge (tgt := 53) X dX12_wordOf_28 dX12_wordOf_29 (by decide) (fun c5 => ?_) (fun c5 => ?_)
    · have hf := itp c5 hf
      refine lv_iconst (v := 0) hx hb dX12_wordOf_53 (by decide) ?_
      exact b_X12_wordOf_54 X hr hk K7 hK7 x1 x2 x6 (0 : Int32) ((zlshl x4 (8 : Int32))) σ _ hf _ _ _ Z (lv_sub hl [0, 1, 2, 4] rfl)
    · have hf := itn c5 hf
      refine lv_aload_n hx hb dX12_wordOf_32 rfl (lv_at hl 0 rfl) ?_
      refine gf_RX12_77 X Z dX12_wordOf_33 ?_
      refine lv_aload_n hx hb dX12_wordOf_36 rfl (lv_at hl 0 rfl) ?_
      refine gf_RX12_98 X Z dX12_wordOf_37 ?_
      refine lv_iload_n hx hb dX12_wordOf_40 rfl (lv_at hl 1 rfl) ?_
      obtain ⟨g8, hf⟩ := gd_s hf
      refine x_lald (k := 93) X Z sh_93 g8 dX12_wordOf_41 ?_
      refine lv_lload_n hx hb dX12_wordOf_42 rfl (lv_at hl 2 rfl) ?_
      refine lv_ladd hx hb dX12_wordOf_43 ?_
      refine lv_iload hx hb dX12_wordOf_44 (lv_at hl 4 rfl) ?_
      refine lv_i2l (v := x6.toInt64) hx hb dX12_wordOf_46 rfl ?_
      refine lv_ladd hx hb dX12_wordOf_47 ?_
      refine lv_l2i (v := ((((σ.2 93 x1.toNatClampNeg) + x2) + x6.toInt64)).toInt32) hx hb dX12_wordOf_48 rfl ?_
      obtain ⟨g9, hf⟩ := gd_s hf
      refine x_iald (k := 88) X Z sh_88 g9 dX12_wordOf_49 ?_
      refine lv_goto (tgt := 54) hx hb dX12_wordOf_50 (by decide) ?_
      exact b_X12_wordOf_54 X hr hk K7 hK7 x1 x2 x6 ((σ.1 88 (((((σ.2 93 x1.toNatClampNeg) + x2) + x6.toInt64)).toInt32).toNatClampNeg)) ((zlshl x4 (8 : Int32))) σ _ hf _ _ _ Z (lv_sub hl [0, 1, 2, 4] rfl)

set_option maxRecDepth 100000 in
set_option maxHeartbeats 4000000 in
theorem b_X12_wordOf_7 {p : Program} {l : Launch} {e : Env} {s : State} {m : MethodId} {args : Array Value} {below : List Frame} {meth : Method} {c : Code} {D : va_G} {h : Nat → Nat} {cy : Nat → ClassId} (X : Cx p s m args c D h cy RX12 cX12_wordOf 7) (hr : meth.sig.returnType = some .long) (hk : meth.locks = false) (x1 : Int32) (x2 : Int64) (x4 : Int64) (x6 : Int32) (σ : St) (y : Int64 × St) (hf : f_X12_wordOf_7 x1 x2 x4 x6 σ = some y) : ∀ (H : Heap) (locs : List Loc) (ls : Array Slot), Zt D h cy s σ H locs → lv_has ls 7 [(0, .ref (h 68)), (1, .int x1), (2, .long x2), (4, .long x4), (6, .int x6)] → W p l e (rmz 0 0) s m args below meth c H locs 0 0 (EL below args s D h cy y) (F0 m 7 ls []) := by
  exact it_W (F := fun K a => f_X12_wordOf_7b K a.1 a.2.1 a.2.2.1 a.2.2.2.1 a.2.2.2.2) (P := fun a y => ∀ (H : Heap) (locs : List Loc) (ls : Array Slot), Zt D h cy s a.2.2.2.2 H locs → lv_has ls 7 [(0, .ref (h 68)), (1, .int a.1), (2, .long a.2.1), (4, .long a.2.2.1), (6, .int a.2.2.2.1)] → W p l e (rmz 0 0) s m args below meth c H locs 0 0 (EL below args s D h cy y) (F0 m 7 ls [])) (fun K hK a y hf => b_X12_wordOf_7b X hr hk K hK (a.1) (a.2.1) (a.2.2.1) (a.2.2.2.1) (a.2.2.2.2) y hf) FU _ y hf

set_option maxRecDepth 100000 in
set_option maxHeartbeats 4000000 in
theorem c_X12_wordOf (l : Launch) (D : va_G) (h : Nat → Nat) (cy : Nat → ClassId) (a1 : Int32) (a2 : Int64) (σ : St) (y : Int64 × St) (hf : f_X12_wordOf a1 a2 σ = some y) : CL l yX12_wordOf cX12_wordOf 7 (some .long) 0 0 D h cy [.ref (h 68), .int a1, .long a2] σ y := by
  refine ent (Qc := fun sz => QL D h cy sz y) (by decide) (Nat.le_of_ble_eq_true rfl) ?_
  intro p e s m below meth c ls X Z hr hk hl
  have X : Cx p s m _ c D h cy RX12 cX12_wordOf 7 := X
  have hx := X.x
  have hb := X.b
  have hl : lv_has ls 7 [(0, .ref (h 68)), (1, .int a1), (2, .long a2)] := hl
  unfold f_X12_wordOf at hf
  refine lv_lconst (v := 0) hx hb dX12_wordOf_0 (by decide) ?_
  refine lv_topl (fun v1 ev1 => ?_)
  have hf := zn_e ev1 hf
  refine lv_lstore (lv' := [(4, .long v1), (0, .ref (h 68)), (1, .int a1), (2, .long a2)]) hx hb dX12_wordOf_1 hl (by decide) rfl (fun ls hl => ?_)
  refine lv_bipush (v := 7) hx hb dX12_wordOf_3 (by decide) ?_
  refine lv_topi (fun v2 ev2 => ?_)
  have hf := zn_e ev2 hf
  refine lv_istore (lv' := [(6, .int v2), (4, .long v1), (0, .ref (h 68)), (1, .int a1), (2, .long a2)]) hx hb dX12_wordOf_5 hl (by decide) rfl (fun ls hl => ?_)
  exact b_X12_wordOf_7 X hr hk a1 a2 v1 v2 σ _ hf _ _ _ Z (lv_sub hl [2, 3, 4, 1, 0] rfl)

set_option maxRecDepth 100000 in
set_option maxHeartbeats 4000000 in
theorem c_X12_importOf (l : Launch) (D : va_G) (h : Nat → Nat) (cy : Nat → ClassId) (a1 : Int64) (σ : St) (y : Int64 × St) (hf : f_X12_importOf a1 σ = some y) : CL l yX12_importOf cX12_importOf 3 (some .long) 1 23 D h cy [.ref (h 68), .long a1] σ y := by
  refine ent (Qc := fun sz => QL D h cy sz y) (by decide) (Nat.le_of_ble_eq_true rfl) ?_
  intro p e s m below meth c ls X Z hr hk hl
  have X : Cx p s m _ c D h cy RX12 cX12_importOf 3 := X
  have hx := X.x
  have hb := X.b
  have hl : lv_has ls 3 [(0, .ref (h 68)), (1, .long a1)] := hl
  unfold f_X12_importOf at hf
  refine lv_aload_n hx hb dX12_importOf_0 rfl (lv_at hl 0 rfl) ?_
  refine lv_aload_n hx hb dX12_importOf_1 rfl (lv_at hl 0 rfl) ?_
  refine gf_RX12_422 X Z dX12_importOf_2 ?_
  refine lv_ldc2 (v := 4) hx hb X.o (X.t _ kc_RX12_311) dX12_importOf_5 ?_
  refine lv_lload_n hx hb dX12_importOf_8 rfl (lv_at hl 1 rfl) ?_
  refine lv_ldc2 (v := 16777215) hx hb X.o (X.t _ kc_RX12_454) dX12_importOf_9 ?_
  refine lv_land hx hb dX12_importOf_12 ?_
  refine lv_lmul hx hb dX12_importOf_13 ?_
  refine lv_ladd hx hb dX12_importOf_14 ?_
  obtain ⟨r3, s2, h1, hf⟩ := bi_s hf
  refine goL Z (run_V (As := [.long (((σ.2 68 56) + ((4 : Int64) * (a1 &&& (16777215 : Int64)))))]) (rest := []) X Z (c_X12_four l D h cy (((σ.2 68 56) + ((4 : Int64) * (a1 &&& (16777215 : Int64))))) σ (r3, s2) h1 _) lk_RX12_307 ⟨by decide, by decide⟩ rv_68 rfl hl.1 rfl (Nat.le_of_ble_eq_true rfl) ⟨Nat.le_refl _, Nat.le_refl _⟩ dX12_importOf_15) (fun H locs Z => ?_)
  exact retL X hr hk Z hf dX12_importOf_18

set_option maxRecDepth 100000 in
set_option maxHeartbeats 4000000 in
theorem c_X12_isWeakImport (l : Launch) (D : va_G) (h : Nat → Nat) (cy : Nat → ClassId) (a1 : Int64) (σ : St) (y : Int32 × St) (hf : f_X12_isWeakImport a1 σ = some y) : CI l yX12_isWeakImport cX12_isWeakImport 3 (some .boolean) 2 45 D h cy [.ref (h 68), .long a1] σ y := by
  refine ent (Qc := fun sz => QI D h cy sz y) (by decide) (Nat.le_of_ble_eq_true rfl) ?_
  intro p e s m below meth c ls X Z hr hk hl
  have X : Cx p s m _ c D h cy RX12 cX12_isWeakImport 3 := X
  have hx := X.x
  have hb := X.b
  have hl : lv_has ls 3 [(0, .ref (h 68)), (1, .long a1)] := hl
  unfold f_X12_isWeakImport at hf
  refine lv_aload_n hx hb dX12_isWeakImport_0 rfl (lv_at hl 0 rfl) ?_
  refine lv_lload_n hx hb dX12_isWeakImport_1 rfl (lv_at hl 1 rfl) ?_
  obtain ⟨r3, s2, h1, hf⟩ := bi_s hf
  refine goL Z (run_V (As := [.long a1]) (rest := []) X Z (c_X12_importOf l D h cy a1 σ (r3, s2) h1 _) lk_RX12_462 ⟨by decide, by decide⟩ rv_68 rfl hl.1 rfl (Nat.le_of_ble_eq_true rfl) ⟨Nat.le_refl _, Nat.le_refl _⟩ dX12_isWeakImport_2) (fun H locs Z => ?_)
  refine lv_bipush (v := 8) hx hb dX12_isWeakImport_5 (by decide) ?_
  refine lv_lshr (v := zlshr r3 (8 : Int32)) hx hb dX12_isWeakImport_7 rfl ?_
  refine lv_lconst (v := 1) hx hb dX12_isWeakImport_8 (by decide) ?_
  refine lv_land hx hb dX12_isWeakImport_9 ?_
  refine lv_lconst (v := 1) hx hb dX12_isWeakImport_10 (by decide) ?_
  refine x_lif_ne (tgt := 19) X dX12_isWeakImport_11 dX12_isWeakImport_12 (by decide) (fun c4 => ?_) (fun c4 => ?_)
  · have hf := itn c4 hf
    refine lv_iconst (v := 0) hx hb dX12_isWeakImport_19 (by decide) ?_
    exact retZ X hr hk Z (by decide) hf dX12_isWeakImport_20
  · have hf := itp c4 hf
    refine lv_iconst (v := 1) hx hb dX12_isWeakImport_15 (by decide) ?_
    refine lv_goto (tgt := 20) hx hb dX12_isWeakImport_16 (by decide) ?_
    exact retZ X hr hk Z (by decide) hf dX12_isWeakImport_20

set_option maxRecDepth 100000 in
set_option maxHeartbeats 4000000 in
theorem b_X12_exportFor_147 {p : Program} {l : Launch} {e : Env} {s : State} {m : MethodId} {args : Array Value} {below : List Frame} {meth : Method} {c : Code} {D : va_G} {h : Nat → Nat} {cy : Nat → ClassId} (X : Cx p s m args c D h cy RX12 cX12_exportFor 12) (hr : meth.sig.returnType = some .int) (hk : meth.locks = false) (K32 : (Int64 × Int64 × Int64 × Int32 × St) → Option (Int32 × St)) (hK32 : ∀ (a : Int64 × Int64 × Int64 × Int32 × St) (y : Int32 × St), K32 a = some y → ∀ (H : Heap) (locs : List Loc) (ls : Array Slot), Zt D h cy s a.2.2.2.2 H locs → lv_has ls 12 [(0, .ref (h 68)), (3, .long a.1), (5, .long a.2.1), (7, .long a.2.2.1), (9, .int a.2.2.2.1)] → W p l e (rmz 2 45) s m args below meth c H locs 0 0 (EI below args s D h cy y) (F0 m 32 ls [])) (x3 : Int64) (x5 : Int64) (x7 : Int64) (x9 : Int32) (x10 : Int32) (σ : St) (y : Int32 × St) (hf : f_X12_exportFor_147 K32 x3 x5 x7 x9 x10 σ = some y) : ∀ (H : Heap) (locs : List Loc) (ls : Array Slot), Zt D h cy s σ H locs → lv_has ls 12 [(0, .ref (h 68)), (3, .long x3), (5, .long x5), (7, .long x7), (9, .int x9), (10, .int x10)] → W p l e (rmz 2 45) s m args below meth c H locs 0 0 (EI below args s D h cy y) (F0 m 147 ls []) := by
  intro H locs ls Z hl
  have hx := X.x
  have hb := X.b
  unfold f_X12_exportFor_147 at hf
  refine lv_iload hx hb dX12_exportFor_147 (lv_at hl 5 rfl) ?_
  refine lv_if_eq (tgt := 155) hx hb dX12_exportFor_149 (by decide) (fun c14 => ?_) (fun c14 => ?_)
  · have hf := itp c14 hf
    obtain ⟨v15, ev15⟩ : ∃ z : Int32, z = x9 + 1 := ⟨_, rfl⟩
    have hf := zn_e ev15 hf
    refine lv_iinc (v := v15) (lv' := [(9, .int v15), (0, .ref (h 68)), (3, .long x3), (5, .long x5), (7, .long x7), (10, .int x10)]) hx hb dX12_exportFor_155 hl (k := 4) rfl (by rw [ev15]; rfl) (by decide) rfl (fun ls hl => ?_)
    refine lv_goto (tgt := 32) hx hb dX12_exportFor_158 (by decide) ?_
    exact hK32 (x3, x5, x7, v15, σ) _ hf _ _ _ Z (lv_sub hl [1, 2, 3, 4, 0] rfl)
  · have hf := itn c14 hf
    refine lv_iload hx hb dX12_exportFor_152 (lv_at hl 4 rfl) ?_
    exact retI X hr hk Z hf dX12_exportFor_154

set_option maxRecDepth 100000 in
set_option maxHeartbeats 4000000 in
theorem b_X12_exportFor_139 {p : Program} {l : Launch} {e : Env} {s : State} {m : MethodId} {args : Array Value} {below : List Frame} {meth : Method} {c : Code} {D : va_G} {h : Nat → Nat} {cy : Nat → ClassId} (X : Cx p s m args c D h cy RX12 cX12_exportFor 12) (hr : meth.sig.returnType = some .int) (hk : meth.locks = false) (K87 : (Int64 × Int64 × Int64 × Int32 × Int32 × Int32 × St) → Option (Int32 × St)) (hK87 : ∀ (a : Int64 × Int64 × Int64 × Int32 × Int32 × Int32 × St) (y : Int32 × St), K87 a = some y → ∀ (H : Heap) (locs : List Loc) (ls : Array Slot), Zt D h cy s a.2.2.2.2.2.2 H locs → lv_has ls 12 [(0, .ref (h 68)), (3, .long a.1), (5, .long a.2.1), (7, .long a.2.2.1), (9, .int a.2.2.2.1), (10, .int a.2.2.2.2.1), (11, .int a.2.2.2.2.2.1)] → W p l e (rmz 2 45) s m args below meth c H locs 0 0 (EI below args s D h cy y) (F0 m 87 ls [])) (x3 : Int64) (x5 : Int64) (x7 : Int64) (x9 : Int32) (x11 : Int32) (t0 : Int32) (σ : St) (y : Int32 × St) (hf : f_X12_exportFor_139 K87 x3 x5 x7 x9 x11 t0 σ = some y) : ∀ (H : Heap) (locs : List Loc) (ls : Array Slot), Zt D h cy s σ H locs → lv_has ls 12 [(0, .ref (h 68)), (3, .long x3), (5, .long x5), (7, .long x7), (9, .int x9), (11, .int x11)] → W p l e (rmz 2 45) s m args below meth c H locs 0 0 (EI below args s D h cy y) (F0 m 139 ls [.int t0]) := by
  intro H locs ls Z hl
  have hx := X.x
  have hb := X.b
  unfold f_X12_exportFor_139 at hf
  refine lv_istore (lv' := [(10, .int t0), (0, .ref (h 68)), (3, .long x3), (5, .long x5), (7, .long x7), (9, .int x9), (11, .int x11)]) hx hb dX12_exportFor_139 hl (by decide) rfl (fun ls hl => ?_)
  obtain ⟨v20, ev20⟩ : ∃ z : Int32, z = x11 + 1 := ⟨_, rfl⟩
  have hf := zn_e ev20 hf
  refine lv_iinc (v := v20) (lv' := [(11, .int v20), (10, .int t0), (0, .ref (h 68)), (3, .long x3), (5, .long x5), (7, .long x7), (9, .int x9)]) hx hb dX12_exportFor_141 hl (k := 6) rfl (by rw [ev20]; rfl) (by decide) rfl (fun ls hl => ?_)
  refine lv_goto (tgt := 87) hx hb dX12_exportFor_144 (by decide) ?_
  exact hK87 (x3, x5, x7, x9, t0, v20, σ) _ hf _ _ _ Z (lv_sub hl [2, 3, 4, 5, 6, 1, 0] rfl)

set_option maxRecDepth 100000 in
set_option maxHeartbeats 4000000 in
theorem b_X12_exportFor_87b {p : Program} {l : Launch} {e : Env} {s : State} {m : MethodId} {args : Array Value} {below : List Frame} {meth : Method} {c : Code} {D : va_G} {h : Nat → Nat} {cy : Nat → ClassId} (X : Cx p s m args c D h cy RX12 cX12_exportFor 12) (hr : meth.sig.returnType = some .int) (hk : meth.locks = false) (K32 : (Int64 × Int64 × Int64 × Int32 × St) → Option (Int32 × St)) (hK32 : ∀ (a : Int64 × Int64 × Int64 × Int32 × St) (y : Int32 × St), K32 a = some y → ∀ (H : Heap) (locs : List Loc) (ls : Array Slot), Zt D h cy s a.2.2.2.2 H locs → lv_has ls 12 [(0, .ref (h 68)), (3, .long a.1), (5, .long a.2.1), (7, .long a.2.2.1), (9, .int a.2.2.2.1)] → W p l e (rmz 2 45) s m args below meth c H locs 0 0 (EI below args s D h cy y) (F0 m 32 ls [])) (K87 : (Int64 × Int64 × Int64 × Int32 × Int32 × Int32 × St) → Option (Int32 × St)) (hK87 : ∀ (a : Int64 × Int64 × Int64 × Int32 × Int32 × Int32 × St) (y : Int32 × St), K87 a = some y → ∀ (H : Heap) (locs : List Loc) (ls : Array Slot), Zt D h cy s a.2.2.2.2.2.2 H locs → lv_has ls 12 [(0, .ref (h 68)), (3, .long a.1), (5, .long a.2.1), (7, .long a.2.2.1), (9, .int a.2.2.2.1), (10, .int a.2.2.2.2.1), (11, .int a.2.2.2.2.2.1)] → W p l e (rmz 2 45) s m args below meth c H locs 0 0 (EI below args s D h cy y) (F0 m 87 ls [])) (x3 : Int64) (x5 : Int64) (x7 : Int64) (x9 : Int32) (x10 : Int32) (x11 : Int32) (σ : St) (y : Int32 × St) (hf : f_X12_exportFor_87b K32 K87 x3 x5 x7 x9 x10 x11 σ = some y) : ∀ (H : Heap) (locs : List Loc) (ls : Array Slot), Zt D h cy s σ H locs → lv_has ls 12 [(0, .ref (h 68)), (3, .long x3), (5, .long x5), (7, .long x7), (9, .int x9), (10, .int x10), (11, .int x11)] → W p l e (rmz 2 45) s m args below meth c H locs 0 0 (EI below args s D h cy y) (F0 m 87 ls []) := by
  intro H locs ls Z hl
  have hx := X.x
  have hb := X.b
  unfold f_X12_exportFor_87b at hf
  refine lv_iload hx hb dX12_exportFor_87 (lv_at hl 6 rfl) ?_
  refine lv_i2l (v := x11.toInt64) hx hb dX12_exportFor_89 rfl ?_
  refine lv_lload hx hb dX12_exportFor_90 (lv_at hl 3 rfl) ?_
  refine lv_lload hx hb dX12_exportFor_92 (lv_at hl 2 rfl) ?_
  refine lv_lsub hx hb dX12_exportFor_94 ?_
  refine x_lif_ge (tgt := 147) X dX12_exportFor_95 dX12_exportFor_96 (by decide) (fun c13 => ?_) (fun c13 => ?_)
  · have hf := itp c13 hf
    exact b_X12_exportFor_147 X hr hk K32 hK32 x3 x5 x7 x9 x10 σ _ hf _ _ _ Z (lv_sub hl [0, 1, 2, 3, 4, 5] rfl)
  · have hf := itn c13 hf
    refine lv_iload hx hb dX12_exportFor_99 (lv_at hl 5 rfl) ?_
    refine lv_if_eq (tgt := 147) hx hb dX12_exportFor_101 (by decide) (fun c16 => ?_) (fun c16 => ?_)
    · have hf := itp c16 hf
      exact b_X12_exportFor_147 X hr hk K32 hK32 x3 x5 x7 x9 x10 σ _ hf _ _ _ Z (lv_sub hl [0, 1, 2, 3, 4, 5] rfl)
    · have hf := itn c16 hf
      refine lv_aload_n hx hb dX12_exportFor_104 rfl (lv_at hl 0 rfl) ?_
      refine gf_RX12_13 X Z dX12_exportFor_105 ?_
      refine lv_bipush (v := 16) hx hb dX12_exportFor_108 (by decide) ?_
      refine lv_bipush (v := 52) hx hb dX12_exportFor_110 (by decide) ?_
      refine lv_iload hx hb dX12_exportFor_112 (lv_at hl 4 rfl) ?_
      refine lv_iadd hx hb dX12_exportFor_114 ?_
      refine lv_imul hx hb dX12_exportFor_115 ?_
      refine lv_iload hx hb dX12_exportFor_116 (lv_at hl 6 rfl) ?_
      refine lv_iadd hx hb dX12_exportFor_118 ?_
      obtain ⟨g17, hf⟩ := gd_s hf
      refine x_iald (k := 70) X Z sh_70 g17 dX12_exportFor_119 ?_
      refine lv_aload_n hx hb dX12_exportFor_120 rfl (lv_at hl 0 rfl) ?_
      refine gf_RX12_77 X Z dX12_exportFor_121 ?_
      refine lv_lload hx hb dX12_exportFor_124 (lv_at hl 2 rfl) ?_
      refine lv_l2i (v := x5.toInt32) hx hb dX12_exportFor_126 rfl ?_
      refine lv_iload hx hb dX12_exportFor_127 (lv_at hl 6 rfl) ?_
      refine lv_iadd hx hb dX12_exportFor_129 ?_
      obtain ⟨g18, hf⟩ := gd_s hf
      refine x_iald (k := 88) X Z sh_88 g18 dX12_exportFor_130 ?_
      refine lv_icmp_ne (tgt := 138) hx hb dX12_exportFor_131 (by decide) (fun c19 => ?_) (fun c19 => ?_)
      · have hf := itn c19 hf
        refine lv_iconst (v := 0) hx hb dX12_exportFor_138 (by decide) ?_
        exact b_X12_exportFor_139 X hr hk K87 hK87 x3 x5 x7 x9 x11 (0 : Int32) σ _ hf _ _ _ Z (lv_sub hl [0, 1, 2, 3, 4, 6] rfl)
      · have hf := itp c19 hf
        refine lv_iconst (v := 1) hx hb dX12_exportFor_134 (by decide) ?_
        refine lv_goto (tgt := 139) hx hb dX12_exportFor_135 (by decide) ?_
        exact b_X12_exportFor_139 X hr hk K87 hK87 x3 x5 x7 x9 x11 (1 : Int32) σ _ hf _ _ _ Z (lv_sub hl [0, 1, 2, 3, 4, 6] rfl)

set_option maxRecDepth 100000 in
set_option maxHeartbeats 4000000 in
theorem b_X12_exportFor_87 {p : Program} {l : Launch} {e : Env} {s : State} {m : MethodId} {args : Array Value} {below : List Frame} {meth : Method} {c : Code} {D : va_G} {h : Nat → Nat} {cy : Nat → ClassId} (X : Cx p s m args c D h cy RX12 cX12_exportFor 12) (hr : meth.sig.returnType = some .int) (hk : meth.locks = false) (K32 : (Int64 × Int64 × Int64 × Int32 × St) → Option (Int32 × St)) (hK32 : ∀ (a : Int64 × Int64 × Int64 × Int32 × St) (y : Int32 × St), K32 a = some y → ∀ (H : Heap) (locs : List Loc) (ls : Array Slot), Zt D h cy s a.2.2.2.2 H locs → lv_has ls 12 [(0, .ref (h 68)), (3, .long a.1), (5, .long a.2.1), (7, .long a.2.2.1), (9, .int a.2.2.2.1)] → W p l e (rmz 2 45) s m args below meth c H locs 0 0 (EI below args s D h cy y) (F0 m 32 ls [])) (x3 : Int64) (x5 : Int64) (x7 : Int64) (x9 : Int32) (x10 : Int32) (x11 : Int32) (σ : St) (y : Int32 × St) (hf : f_X12_exportFor_87 K32 x3 x5 x7 x9 x10 x11 σ = some y) : ∀ (H : Heap) (locs : List Loc) (ls : Array Slot), Zt D h cy s σ H locs → lv_has ls 12 [(0, .ref (h 68)), (3, .long x3), (5, .long x5), (7, .long x7), (9, .int x9), (10, .int x10), (11, .int x11)] → W p l e (rmz 2 45) s m args below meth c H locs 0 0 (EI below args s D h cy y) (F0 m 87 ls []) := by
  exact it_W (F := fun K a => f_X12_exportFor_87b K32 K a.1 a.2.1 a.2.2.1 a.2.2.2.1 a.2.2.2.2.1 a.2.2.2.2.2.1 a.2.2.2.2.2.2) (P := fun a y => ∀ (H : Heap) (locs : List Loc) (ls : Array Slot), Zt D h cy s a.2.2.2.2.2.2 H locs → lv_has ls 12 [(0, .ref (h 68)), (3, .long a.1), (5, .long a.2.1), (7, .long a.2.2.1), (9, .int a.2.2.2.1), (10, .int a.2.2.2.2.1), (11, .int a.2.2.2.2.2.1)] → W p l e (rmz 2 45) s m args below meth c H locs 0 0 (EI below args s D h cy y) (F0 m 87 ls [])) (fun K hK a y hf => b_X12_exportFor_87b X hr hk K32 hK32 K hK (a.1) (a.2.1) (a.2.2.1) (a.2.2.2.1) (a.2.2.2.2.1) (a.2.2.2.2.2.1) (a.2.2.2.2.2.2) y hf) FU _ y hf

set_option maxRecDepth 100000 in
set_option maxHeartbeats 4000000 in
theorem b_X12_exportFor_82 {p : Program} {l : Launch} {e : Env} {s : State} {m : MethodId} {args : Array Value} {below : List Frame} {meth : Method} {c : Code} {D : va_G} {h : Nat → Nat} {cy : Nat → ClassId} (X : Cx p s m args c D h cy RX12 cX12_exportFor 12) (hr : meth.sig.returnType = some .int) (hk : meth.locks = false) (K32 : (Int64 × Int64 × Int64 × Int32 × St) → Option (Int32 × St)) (hK32 : ∀ (a : Int64 × Int64 × Int64 × Int32 × St) (y : Int32 × St), K32 a = some y → ∀ (H : Heap) (locs : List Loc) (ls : Array Slot), Zt D h cy s a.2.2.2.2 H locs → lv_has ls 12 [(0, .ref (h 68)), (3, .long a.1), (5, .long a.2.1), (7, .long a.2.2.1), (9, .int a.2.2.2.1)] → W p l e (rmz 2 45) s m args below meth c H locs 0 0 (EI below args s D h cy y) (F0 m 32 ls [])) (x3 : Int64) (x5 : Int64) (x7 : Int64) (x9 : Int32) (t0 : Int32) (σ : St) (y : Int32 × St) (hf : f_X12_exportFor_82 K32 x3 x5 x7 x9 t0 σ = some y) : ∀ (H : Heap) (locs : List Loc) (ls : Array Slot), Zt D h cy s σ H locs → lv_has ls 12 [(0, .ref (h 68)), (3, .long x3), (5, .long x5), (7, .long x7), (9, .int x9)] → W p l e (rmz 2 45) s m args below meth c H locs 0 0 (EI below args s D h cy y) (F0 m 82 ls [.int t0]) := by
  intro H locs ls Z hl
  have hx := X.x
  have hb := X.b
  unfold f_X12_exportFor_82 at hf
  refine lv_istore (lv' := [(10, .int t0), (0, .ref (h 68)), (3, .long x3), (5, .long x5), (7, .long x7), (9, .int x9)]) hx hb dX12_exportFor_82 hl (by decide) rfl (fun ls hl => ?_)
  refine lv_iconst (v := 0) hx hb dX12_exportFor_84 (by decide) ?_
  refine lv_topi (fun v12 ev12 => ?_)
  have hf := zn_e ev12 hf
  refine lv_istore (lv' := [(11, .int v12), (10, .int t0), (0, .ref (h 68)), (3, .long x3), (5, .long x5), (7, .long x7), (9, .int x9)]) hx hb dX12_exportFor_85 hl (by decide) rfl (fun ls hl => ?_)
  exact b_X12_exportFor_87 X hr hk K32 hK32 x3 x5 x7 x9 t0 v12 σ _ hf _ _ _ Z (lv_sub hl [2, 3, 4, 5, 6, 1, 0] rfl)

set_option maxRecDepth 100000 in
set_option maxHeartbeats 4000000 in
theorem b_X12_exportFor_81 {p : Program} {l : Launch} {e : Env} {s : State} {m : MethodId} {args : Array Value} {below : List Frame} {meth : Method} {c : Code} {D : va_G} {h : Nat → Nat} {cy : Nat → ClassId} (X : Cx p s m args c D h cy RX12 cX12_exportFor 12) (hr : meth.sig.returnType = some .int) (hk : meth.locks = false) (K32 : (Int64 × Int64 × Int64 × Int32 × St) → Option (Int32 × St)) (hK32 : ∀ (a : Int64 × Int64 × Int64 × Int32 × St) (y : Int32 × St), K32 a = some y → ∀ (H : Heap) (locs : List Loc) (ls : Array Slot), Zt D h cy s a.2.2.2.2 H locs → lv_has ls 12 [(0, .ref (h 68)), (3, .long a.1), (5, .long a.2.1), (7, .long a.2.2.1), (9, .int a.2.2.2.1)] → W p l e (rmz 2 45) s m args below meth c H locs 0 0 (EI below args s D h cy y) (F0 m 32 ls [])) (x3 : Int64) (x5 : Int64) (x7 : Int64) (x9 : Int32) (σ : St) (y : Int32 × St) (hf : f_X12_exportFor_81 K32 x3 x5 x7 x9 σ = some y) : ∀ (H : Heap) (locs : List Loc) (ls : Array Slot), Zt D h cy s σ H locs → lv_has ls 12 [(0, .ref (h 68)), (3, .long x3), (5, .long x5), (7, .long x7), (9, .int x9)] → W p l e (rmz 2 45) s m args below meth c H locs 0 0 (EI below args s D h cy y) (F0 m 81 ls []) := by
  intro H locs ls Z hl
  have hx := X.x
  have hb := X.b
  unfold f_X12_exportFor_81 at hf
  refine lv_iconst (v := 0) hx hb dX12_exportFor_81 (by decide) ?_
  exact b_X12_exportFor_82 X hr hk K32 hK32 x3 x5 x7 x9 (0 : Int32) σ _ hf _ _ _ Z (lv_sub hl [0, 1, 2, 3, 4] rfl)

set_option maxRecDepth 100000 in
set_option maxHeartbeats 4000000 in
theorem b_X12_exportFor_32b {p : Program} {l : Launch} {e : Env} {s : State} {m : MethodId} {args : Array Value} {below : List Frame} {meth : Method} {c : Code} {D : va_G} {h : Nat → Nat} {cy : Nat → ClassId} (X : Cx p s m args c D h cy RX12 cX12_exportFor 12) (hr : meth.sig.returnType = some .int) (hk : meth.locks = false) (K32 : (Int64 × Int64 × Int64 × Int32 × St) → Option (Int32 × St)) (hK32 : ∀ (a : Int64 × Int64 × Int64 × Int32 × St) (y : Int32 × St), K32 a = some y → ∀ (H : Heap) (locs : List Loc) (ls : Array Slot), Zt D h cy s a.2.2.2.2 H locs → lv_has ls 12 [(0, .ref (h 68)), (3, .long a.1), (5, .long a.2.1), (7, .long a.2.2.1), (9, .int a.2.2.2.1)] → W p l e (rmz 2 45) s m args below meth c H locs 0 0 (EI below args s D h cy y) (F0 m 32 ls [])) (x3 : Int64) (x5 : Int64) (x7 : Int64) (x9 : Int32) (σ : St) (y : Int32 × St) (hf : f_X12_exportFor_32b K32 x3 x5 x7 x9 σ = some y) : ∀ (H : Heap) (locs : List Loc) (ls : Array Slot), Zt D h cy s σ H locs → lv_has ls 12 [(0, .ref (h 68)), (3, .long x3), (5, .long x5), (7, .long x7), (9, .int x9)] → W p l e (rmz 2 45) s m args below meth c H locs 0 0 (EI below args s D h cy y) (F0 m 32 ls []) := by
  intro H locs ls Z hl
  have hx := X.x
  have hb := X.b
  unfold f_X12_exportFor_32b at hf
  refine lv_iload hx hb dX12_exportFor_32 (lv_at hl 4 rfl) ?_
  refine lv_aload_n hx hb dX12_exportFor_34 rfl (lv_at hl 0 rfl) ?_
  refine gf_RX12_300 X Z dX12_exportFor_35 ?_
  refine lv_icmp_ge (tgt := 161) hx hb dX12_exportFor_38 (by decide) (fun c9 => ?_) (fun c9 => ?_)
  · have hf := itp c9 hf
    refine lv_iconst (v := (-1)) hx hb dX12_exportFor_161 (by decide) ?_
    exact retI X hr hk Z hf dX12_exportFor_162
  · have hf := itn c9 hf
    refine lv_aload_n hx hb dX12_exportFor_41 rfl (lv_at hl 0 rfl) ?_
    refine gf_RX12_71 X Z dX12_exportFor_42 ?_
    refine lv_iload hx hb dX12_exportFor_45 (lv_at hl 4 rfl) ?_
    obtain ⟨g10, hf⟩ := gd_s hf
    refine x_iald (k := 86) X Z sh_86 g10 dX12_exportFor_47 ?_
    refine lv_i2l (v := (σ.1 86 x9.toNatClampNeg).toInt64) hx hb dX12_exportFor_48 rfl ?_
    refine lv_lload_n hx hb dX12_exportFor_49 rfl (lv_at hl 1 rfl) ?_
    refine lv_ldc2 (v := 255) hx hb X.o (X.t _ kc_RX12_465) dX12_exportFor_50 ?_
    refine lv_land hx hb dX12_exportFor_53 ?_
    refine x_lif_ne (tgt := 81) X dX12_exportFor_54 dX12_exportFor_55 (by decide) (fun c11 => ?_) (fun c11 => ?_)
    · have hf := itn c11 hf
      exact b_X12_exportFor_81 X hr hk K32 hK32 x3 x5 x7 x9 σ _ hf _ _ _ Z (lv_sub hl [0, 1, 2, 3, 4] rfl)
    · have hf := itp c11 hf
      refine lv_aload_n hx hb dX12_exportFor_58 rfl (lv_at hl 0 rfl) ?_
      refine lv_bipush (v := 52) hx hb dX12_exportFor_59 (by decide) ?_
      refine lv_iload hx hb dX12_exportFor_61 (lv_at hl 4 rfl) ?_
      refine lv_iadd hx hb dX12_exportFor_63 ?_
      obtain ⟨r23, s22, h21, hf⟩ := bi_s hf
      refine goI Z (run_V (As := [.int (((52 : Int32) + x9))]) (rest := []) X Z (c_X12_longOf l D h cy (((52 : Int32) + x9)) σ (r23, s22) h21 _) lk_RX12_241 ⟨by decide, by decide⟩ rv_68 rfl hl.1 rfl (Nat.le_of_ble_eq_true rfl) ⟨Nat.le_refl _, Nat.le_refl _⟩ dX12_exportFor_64) (fun H locs Z => ?_)
      refine lv_i2l (v := r23.toInt64) hx hb dX12_exportFor_67 rfl ?_
      refine lv_lload hx hb dX12_exportFor_68 (lv_at hl 3 rfl) ?_
      refine lv_lload hx hb dX12_exportFor_70 (lv_at hl 2 rfl) ?_
      refine lv_lsub hx hb dX12_exportFor_72 ?_
      refine x_lif_ne (tgt := 81) X dX12_exportFor_73 dX12_exportFor_74 (by decide) (fun c24 => ?_) (fun c24 => ?_)
      · have hf := itn c24 hf
        exact b_X12_exportFor_81 X hr hk K32 hK32 x3 x5 x7 x9 s22 _ hf _ _ _ Z (lv_sub hl [0, 1, 2, 3, 4] rfl)
      · have hf := itp c24 hf
        refine lv_iconst (v := 1) hx hb dX12_exportFor_77 (by decide) ?_
        refine lv_goto (tgt := 82) hx hb dX12_exportFor_78 (by decide) ?_
        exact b_X12_exportFor_82 X hr hk K32 hK32 x3 x5 x7 x9 (1 : Int32) s22 _ hf _ _ _ Z (lv_sub hl [0, 1, 2, 3, 4] rfl)

set_option maxRecDepth 100000 in
set_option maxHeartbeats 4000000 in
theorem b_X12_exportFor_32 {p : Program} {l : Launch} {e : Env} {s : State} {m : MethodId} {args : Array Value} {below : List Frame} {meth : Method} {c : Code} {D : va_G} {h : Nat → Nat} {cy : Nat → ClassId} (X : Cx p s m args c D h cy RX12 cX12_exportFor 12) (hr : meth.sig.returnType = some .int) (hk : meth.locks = false) (x3 : Int64) (x5 : Int64) (x7 : Int64) (x9 : Int32) (σ : St) (y : Int32 × St) (hf : f_X12_exportFor_32 x3 x5 x7 x9 σ = some y) : ∀ (H : Heap) (locs : List Loc) (ls : Array Slot), Zt D h cy s σ H locs → lv_has ls 12 [(0, .ref (h 68)), (3, .long x3), (5, .long x5), (7, .long x7), (9, .int x9)] → W p l e (rmz 2 45) s m args below meth c H locs 0 0 (EI below args s D h cy y) (F0 m 32 ls []) := by
  exact it_W (F := fun K a => f_X12_exportFor_32b K a.1 a.2.1 a.2.2.1 a.2.2.2.1 a.2.2.2.2) (P := fun a y => ∀ (H : Heap) (locs : List Loc) (ls : Array Slot), Zt D h cy s a.2.2.2.2 H locs → lv_has ls 12 [(0, .ref (h 68)), (3, .long a.1), (5, .long a.2.1), (7, .long a.2.2.1), (9, .int a.2.2.2.1)] → W p l e (rmz 2 45) s m args below meth c H locs 0 0 (EI below args s D h cy y) (F0 m 32 ls [])) (fun K hK a y hf => b_X12_exportFor_32b X hr hk K hK (a.1) (a.2.1) (a.2.2.1) (a.2.2.2.1) (a.2.2.2.2) y hf) FU _ y hf

set_option maxRecDepth 100000 in
set_option maxHeartbeats 4000000 in
theorem c_X12_exportFor (l : Launch) (D : va_G) (h : Nat → Nat) (cy : Nat → ClassId) (a1 : Int64) (σ : St) (y : Int32 × St) (hf : f_X12_exportFor a1 σ = some y) : CI l yX12_exportFor cX12_exportFor 12 (some .int) 2 45 D h cy [.ref (h 68), .long a1] σ y := by
  refine ent (Qc := fun sz => QI D h cy sz y) (by decide) (Nat.le_of_ble_eq_true rfl) ?_
  intro p e s m below meth c ls X Z hr hk hl
  have X : Cx p s m _ c D h cy RX12 cX12_exportFor 12 := X
  have hx := X.x
  have hb := X.b
  have hl : lv_has ls 12 [(0, .ref (h 68)), (1, .long a1)] := hl
  unfold f_X12_exportFor at hf
  refine lv_aload_n hx hb dX12_exportFor_0 rfl (lv_at hl 0 rfl) ?_
  refine lv_lload_n hx hb dX12_exportFor_1 rfl (lv_at hl 1 rfl) ?_
  obtain ⟨r3, s2, h1, hf⟩ := bi_s hf
  refine goL Z (run_V (As := [.long a1]) (rest := []) X Z (c_X12_importOf l D h cy a1 σ (r3, s2) h1 _) lk_RX12_462 ⟨by decide, by decide⟩ rv_68 rfl hl.1 rfl (Nat.le_of_ble_eq_true rfl) ⟨Nat.le_refl _, Nat.le_refl _⟩ dX12_exportFor_2) (fun H locs Z => ?_)
  refine lv_lstore_n (lv' := [(3, .long r3), (0, .ref (h 68)), (1, .long a1)]) hx hb dX12_exportFor_5 rfl hl (by decide) rfl (fun ls hl => ?_)
  refine lv_aload_n hx hb dX12_exportFor_6 rfl (lv_at hl 1 rfl) ?_
  refine gf_RX12_425 X Z dX12_exportFor_7 ?_
  refine lv_lload_n hx hb dX12_exportFor_10 rfl (lv_at hl 0 rfl) ?_
  refine lv_bipush (v := 9) hx hb dX12_exportFor_11 (by decide) ?_
  refine lv_lshr (v := zlshr r3 (9 : Int32)) hx hb dX12_exportFor_13 rfl ?_
  refine lv_ladd hx hb dX12_exportFor_14 ?_
  refine lv_topl (fun v4 ev4 => ?_)
  have hf := zn_e ev4 hf
  refine lv_lstore (lv' := [(5, .long v4), (3, .long r3), (0, .ref (h 68)), (1, .long a1)]) hx hb dX12_exportFor_15 hl (by decide) rfl (fun ls hl => ?_)
  refine lv_aload_n hx hb dX12_exportFor_17 rfl (lv_at hl 2 rfl) ?_
  refine lv_lload hx hb dX12_exportFor_18 (lv_at hl 0 rfl) ?_
  refine lv_aload_n hx hb dX12_exportFor_20 rfl (lv_at hl 2 rfl) ?_
  refine gf_RX12_407 X Z dX12_exportFor_21 ?_
  obtain ⟨r7, s6, h5, hf⟩ := bi_s hf
  refine goL Z (run_V (As := [.long v4, .long (s2.2 68 55)]) (rest := []) X Z (c_X12_zero l D h cy v4 (s2.2 68 55) s2 (r7, s6) h5 _) lk_RX12_410 ⟨by decide, by decide⟩ rv_68 rfl hl.1 rfl (Nat.le_of_ble_eq_true rfl) ⟨Nat.le_refl _, Nat.le_refl _⟩ dX12_exportFor_24) (fun H locs Z => ?_)
  refine lv_lstore (lv' := [(7, .long r7), (5, .long v4), (3, .long r3), (0, .ref (h 68)), (1, .long a1)]) hx hb dX12_exportFor_27 hl (by decide) rfl (fun ls hl => ?_)
  refine lv_iconst (v := 0) hx hb dX12_exportFor_29 (by decide) ?_
  refine lv_topi (fun v8 ev8 => ?_)
  have hf := zn_e ev8 hf
  refine lv_istore (lv' := [(9, .int v8), (7, .long r7), (5, .long v4), (3, .long r3), (0, .ref (h 68)), (1, .long a1)]) hx hb dX12_exportFor_30 hl (by decide) rfl (fun ls hl => ?_)
  exact b_X12_exportFor_32 X hr hk r3 v4 r7 v8 s6 _ hf _ _ _ Z (lv_sub hl [4, 3, 2, 1, 0] rfl)

set_option maxRecDepth 100000 in
set_option maxHeartbeats 4000000 in
theorem b_X12_walks_37 {p : Program} {l : Launch} {e : Env} {s : State} {m : MethodId} {args : Array Value} {below : List Frame} {meth : Method} {c : Code} {D : va_G} {h : Nat → Nat} {cy : Nat → ClassId} (X : Cx p s m args c D h cy RX12 cX12_walks 16) (hr : meth.sig.returnType = some .boolean) (hk : meth.locks = false) (x4 : Int64) (σ : St) (y : Int32 × St) (hf : f_X12_walks_37 x4 σ = some y) : ∀ (H : Heap) (locs : List Loc) (ls : Array Slot), Zt D h cy s σ H locs → lv_has ls 16 [(0, .ref (h 68)), (4, .long x4)] → W p l e (rmz 3 76) s m args below meth c H locs 0 0 (EI below args s D h cy y) (F0 m 37 ls []) := by
  intro H locs ls Z hl
  have hx := X.x
  have hb := X.b
  unfold f_X12_walks_37 at hf
  refine lv_aload_n hx hb dX12_walks_37 rfl (lv_at hl 0 rfl) ?_
  refine lv_bipush (v := 10) hx hb dX12_walks_38 (by decide) ?_
  refine lv_lload hx hb dX12_walks_40 (lv_at hl 1 rfl) ?_
  obtain ⟨r8, s7, h6, hf⟩ := bi_s hf
  refine goI Z (run_V (As := [.int (10 : Int32), .long x4]) (rest := []) X Z (c_X12_bad l D h cy (10 : Int32) x4 σ (r8, s7) h6 _) lk_RX12_321 ⟨by decide, by decide⟩ rv_68 rfl hl.1 rfl (Nat.le_of_ble_eq_true rfl) ⟨Nat.le_refl _, Nat.le_refl _⟩ dX12_walks_42) (fun H locs Z => ?_)
  obtain ⟨g9, hf⟩ := gd_s hf
  exact retZ X hr hk Z g9 hf dX12_walks_45

set_option maxRecDepth 100000 in
set_option maxHeartbeats 4000000 in
theorem b_X12_walks_300 {p : Program} {l : Launch} {e : Env} {s : State} {m : MethodId} {args : Array Value} {below : List Frame} {meth : Method} {c : Code} {D : va_G} {h : Nat → Nat} {cy : Nat → ClassId} (X : Cx p s m args c D h cy RX12 cX12_walks 16) (hr : meth.sig.returnType = some .boolean) (hk : meth.locks = false) (x10 : Int64) (σ : St) (y : Int32 × St) (hf : f_X12_walks_300 x10 σ = some y) : ∀ (H : Heap) (locs : List Loc) (ls : Array Slot), Zt D h cy s σ H locs → lv_has ls 16 [(0, .ref (h 68)), (10, .long x10)] → W p l e (rmz 3 76) s m args below meth c H locs 0 0 (EI below args s D h cy y) (F0 m 300 ls []) := by
  intro H locs ls Z hl
  have hx := X.x
  have hb := X.b
  unfold f_X12_walks_300 at hf
  refine lv_aload_n hx hb dX12_walks_300 rfl (lv_at hl 0 rfl) ?_
  refine lv_bipush (v := 10) hx hb dX12_walks_301 (by decide) ?_
  refine lv_lload hx hb dX12_walks_303 (lv_at hl 1 rfl) ?_
  obtain ⟨r42, s41, h40, hf⟩ := bi_s hf
  refine goI Z (run_V (As := [.int (10 : Int32), .long x10]) (rest := []) X Z (c_X12_bad l D h cy (10 : Int32) x10 σ (r42, s41) h40 _) lk_RX12_321 ⟨by decide, by decide⟩ rv_68 rfl hl.1 rfl (Nat.le_of_ble_eq_true rfl) ⟨Nat.le_refl _, Nat.le_refl _⟩ dX12_walks_305) (fun H locs Z => ?_)
  obtain ⟨g43, hf⟩ := gd_s hf
  exact retZ X hr hk Z g43 hf dX12_walks_308

set_option maxRecDepth 100000 in
set_option maxHeartbeats 4000000 in
theorem b_X12_walks_263 {p : Program} {l : Launch} {e : Env} {s : State} {m : MethodId} {args : Array Value} {below : List Frame} {meth : Method} {c : Code} {D : va_G} {h : Nat → Nat} {cy : Nat → ClassId} (X : Cx p s m args c D h cy RX12 cX12_walks 16) (hr : meth.sig.returnType = some .boolean) (hk : meth.locks = false) (K49 : (Int32 × Int32 × Int32 × Int32 × Int32 × St) → Option (Int32 × St)) (hK49 : ∀ (a : Int32 × Int32 × Int32 × Int32 × Int32 × St) (y : Int32 × St), K49 a = some y → ∀ (H : Heap) (locs : List Loc) (ls : Array Slot), Zt D h cy s a.2.2.2.2.2 H locs → lv_has ls 16 [(0, .ref (h 68)), (1, .int a.1), (2, .int a.2.1), (3, .int a.2.2.1), (6, .int a.2.2.2.1), (7, .int a.2.2.2.2.1)] → W p l e (rmz 3 76) s m args below meth c H locs 0 0 (EI below args s D h cy y) (F0 m 49 ls [])) (x1 : Int32) (x2 : Int32) (x3 : Int32) (x6 : Int32) (x10 : Int64) (x15 : Int32) (t0 : Int32) (σ : St) (y : Int32 × St) (hf : f_X12_walks_263 K49 x1 x2 x3 x6 x10 x15 t0 σ = some y) : ∀ (H : Heap) (locs : List Loc) (ls : Array Slot), Zt D h cy s σ H locs → lv_has ls 16 [(0, .ref (h 68)), (1, .int x1), (2, .int x2), (3, .int x3), (6, .int x6), (10, .long x10), (15, .int x15)] → W p l e (rmz 3 76) s m args below meth c H locs 0 0 (EI below args s D h cy y) (F0 m 263 ls [.int t0]) := by
  intro H locs ls Z hl
  have hx := X.x
  have hb := X.b
  unfold f_X12_walks_263 at hf
  refine lv_istore (lv' := [(7, .int t0), (0, .ref (h 68)), (1, .int x1), (2, .int x2), (3, .int x3), (6, .int x6), (10, .long x10), (15, .int x15)]) hx hb dX12_walks_263 hl (by decide) rfl (fun ls hl => ?_)
  refine lv_iload hx hb dX12_walks_265 (lv_at hl 0 rfl) ?_
  refine lv_if_ne (tgt := 273) hx hb dX12_walks_267 (by decide) (fun c37 => ?_) (fun c37 => ?_)
  · have hf := itn c37 hf
    refine lv_iload hx hb dX12_walks_273 (lv_at hl 5 rfl) ?_
    refine lv_iconst (v := 4) hx hb dX12_walks_275 (by decide) ?_
    refine lv_iload hx hb dX12_walks_276 (lv_at hl 7 rfl) ?_
    refine lv_imul hx hb dX12_walks_278 ?_
    refine lv_iadd hx hb dX12_walks_279 ?_
    refine lv_topi (fun v38 ev38 => ?_)
    have hf := zn_e ev38 hf
    refine lv_istore (lv' := [(6, .int v38), (7, .int t0), (0, .ref (h 68)), (1, .int x1), (2, .int x2), (3, .int x3), (10, .long x10), (15, .int x15)]) hx hb dX12_walks_280 hl (by decide) rfl (fun ls hl => ?_)
    refine lv_iload hx hb dX12_walks_282 (lv_at hl 7 rfl) ?_
    refine lv_iconst (v := 1) hx hb dX12_walks_284 (by decide) ?_
    refine lv_icmp_eq (tgt := 300) hx hb dX12_walks_285 (by decide) (fun c39 => ?_) (fun c39 => ?_)
    · have hf := itp c39 hf
      exact b_X12_walks_300 X hr hk x10 σ _ hf _ _ _ Z (lv_sub hl [2, 6] rfl)
    · have hf := itn c39 hf
      refine lv_aload_n hx hb dX12_walks_288 rfl (lv_at hl 2 rfl) ?_
      refine lv_iload_n hx hb dX12_walks_289 rfl (lv_at hl 3 rfl) ?_
      refine lv_iload_n hx hb dX12_walks_290 rfl (lv_at hl 4 rfl) ?_
      refine lv_iload_n hx hb dX12_walks_291 rfl (lv_at hl 5 rfl) ?_
      refine lv_iload hx hb dX12_walks_292 (lv_at hl 0 rfl) ?_
      obtain ⟨r46, s45, h44, hf⟩ := bi_s hf
      refine goI Z (run_V (As := [.int x1, .int x2, .int x3, .int v38]) (rest := []) X Z (c_X12_isWithin l D h cy x1 x2 x3 v38 σ (r46, s45) h44 _) lk_RX12_442 ⟨by decide, by decide⟩ rv_68 rfl hl.1 rfl (Nat.le_of_ble_eq_true rfl) ⟨Nat.le_refl _, Nat.le_refl _⟩ dX12_walks_294) (fun H locs Z => ?_)
      refine lv_if_ne (tgt := 309) hx hb dX12_walks_297 (by decide) (fun c47 => ?_) (fun c47 => ?_)
      · have hf := itn c47 hf
        refine lv_goto (tgt := 49) hx hb dX12_walks_309 (by decide) ?_
        exact hK49 (x1, x2, x3, v38, t0, s45) _ hf _ _ _ Z (lv_sub hl [2, 3, 4, 5, 0, 1] rfl)
      · have hf := itp c47 hf
        exact b_X12_walks_300 X hr hk x10 s45 _ hf _ _ _ Z (lv_sub hl [2, 6] rfl)
  · have hf := itp c37 hf
    refine lv_goto (tgt := 49) hx hb dX12_walks_270 (by decide) ?_
    exact hK49 (x1, x2, x3, x6, t0, σ) _ hf _ _ _ Z (lv_sub hl [1, 2, 3, 4, 5, 0] rfl)

set_option maxRecDepth 100000 in
set_option maxHeartbeats 4000000 in
theorem b_X12_walks_198 {p : Program} {l : Launch} {e : Env} {s : State} {m : MethodId} {args : Array Value} {below : List Frame} {meth : Method} {c : Code} {D : va_G} {h : Nat → Nat} {cy : Nat → ClassId} (X : Cx p s m args c D h cy RX12 cX12_walks 16) (hr : meth.sig.returnType = some .boolean) (hk : meth.locks = false) (K49 : (Int32 × Int32 × Int32 × Int32 × Int32 × St) → Option (Int32 × St)) (hK49 : ∀ (a : Int32 × Int32 × Int32 × Int32 × Int32 × St) (y : Int32 × St), K49 a = some y → ∀ (H : Heap) (locs : List Loc) (ls : Array Slot), Zt D h cy s a.2.2.2.2.2 H locs → lv_has ls 16 [(0, .ref (h 68)), (1, .int a.1), (2, .int a.2.1), (3, .int a.2.2.1), (6, .int a.2.2.2.1), (7, .int a.2.2.2.2.1)] → W p l e (rmz 3 76) s m args below meth c H locs 0 0 (EI below args s D h cy y) (F0 m 49 ls [])) (x1 : Int32) (x2 : Int32) (x3 : Int32) (x6 : Int32) (x8 : Int64) (x10 : Int64) (x12 : Int64) (σ : St) (y : Int32 × St) (hf : f_X12_walks_198 K49 x1 x2 x3 x6 x8 x10 x12 σ = some y) : ∀ (H : Heap) (locs : List Loc) (ls : Array Slot), Zt D h cy s σ H locs → lv_has ls 16 [(0, .ref (h 68)), (1, .int x1), (2, .int x2), (3, .int x3), (6, .int x6), (8, .long x8), (10, .long x10), (12, .long x12)] → W p l e (rmz 3 76) s m args below meth c H locs 0 0 (EI below args s D h cy y) (F0 m 198 ls []) := by
  intro H locs ls Z hl
  have hx := X.x
  have hb := X.b
  unfold f_X12_walks_198 at hf
  refine lv_aload_n hx hb dX12_walks_198 rfl (lv_at hl 0 rfl) ?_
  refine gf_RX12_104 X Z dX12_walks_199 ?_
  refine lv_aload_n hx hb dX12_walks_202 rfl (lv_at hl 0 rfl) ?_
  refine gf_RX12_416 X Z dX12_walks_203 ?_
  refine lv_lload hx hb dX12_walks_206 (lv_at hl 7 rfl) ?_
  obtain ⟨g28, hf⟩ := gd_s hf
  refine x_last (k := 95) X Z sh_95 g28 dX12_walks_208 (fun s29 H locs es29 Z => ?_)
  have hf := zn_e es29 hf
  refine lv_aload_n hx hb dX12_walks_209 rfl (lv_at hl 0 rfl) ?_
  refine gf_RX12_107 X Z dX12_walks_210 ?_
  refine lv_aload_n hx hb dX12_walks_213 rfl (lv_at hl 0 rfl) ?_
  refine gf_RX12_416 X Z dX12_walks_214 ?_
  refine lv_iload_n hx hb dX12_walks_217 rfl (lv_at hl 1 rfl) ?_
  obtain ⟨g30, hf⟩ := gd_s hf
  refine x_iast (k := 96) X Z sh_96 g30 dX12_walks_218 (fun s31 H locs es31 Z => ?_)
  have hf := zn_e es31 hf
  refine lv_aload_n hx hb dX12_walks_219 rfl (lv_at hl 0 rfl) ?_
  refine gf_RX12_110 X Z dX12_walks_220 ?_
  refine lv_aload_n hx hb dX12_walks_223 rfl (lv_at hl 0 rfl) ?_
  refine gf_RX12_416 X Z dX12_walks_224 ?_
  refine lv_lload hx hb dX12_walks_227 (lv_at hl 5 rfl) ?_
  refine lv_l2i (v := x8.toInt32) hx hb dX12_walks_229 rfl ?_
  obtain ⟨g32, hf⟩ := gd_s hf
  refine x_iast (k := 97) X Z sh_97 g32 dX12_walks_230 (fun s33 H locs es33 Z => ?_)
  have hf := zn_e es33 hf
  refine lv_aload_n hx hb dX12_walks_231 rfl (lv_at hl 0 rfl) ?_
  refine lv_dup hx hb dX12_walks_232 rfl ?_
  refine gf_RX12_416 X Z dX12_walks_233 ?_
  refine lv_iconst (v := 1) hx hb dX12_walks_236 (by decide) ?_
  refine lv_iadd hx hb dX12_walks_237 ?_
  refine pf_RX12_416 X Z dX12_walks_238 (fun s34 H locs es34 Z => ?_)
  have hf := zn_e es34 hf
  refine lv_lload hx hb dX12_walks_241 (lv_at hl 7 rfl) ?_
  refine lv_bipush (v := 51) hx hb dX12_walks_243 (by decide) ?_
  refine lv_lshr (v := zlshr x12 (51 : Int32)) hx hb dX12_walks_245 rfl ?_
  refine lv_l2i (v := ((zlshr x12 (51 : Int32))).toInt32) hx hb dX12_walks_246 rfl ?_
  refine lv_sipush (v := 4095) hx hb dX12_walks_247 (by decide) ?_
  refine lv_iand hx hb dX12_walks_250 ?_
  refine lv_topi (fun v35 ev35 => ?_)
  have hf := zn_e ev35 hf
  refine lv_istore (lv' := [(15, .int v35), (0, .ref (h 68)), (1, .int x1), (2, .int x2), (3, .int x3), (6, .int x6), (8, .long x8), (10, .long x10), (12, .long x12)]) hx hb dX12_walks_251 hl (by decide) rfl (fun ls hl => ?_)
  refine lv_iload hx hb dX12_walks_253 (lv_at hl 0 rfl) ?_
  refine lv_if_le (tgt := 262) hx hb dX12_walks_255 (by decide) (fun c36 => ?_) (fun c36 => ?_)
  · have hf := itp c36 hf
    refine lv_iconst (v := 0) hx hb dX12_walks_262 (by decide) ?_
    exact b_X12_walks_263 X hr hk K49 hK49 x1 x2 x3 x6 x10 v35 (0 : Int32) s34 _ hf _ _ _ Z (lv_sub hl [1, 2, 3, 4, 5, 7, 0] rfl)
  · have hf := itn c36 hf
    refine lv_iconst (v := 1) hx hb dX12_walks_258 (by decide) ?_
    refine lv_goto (tgt := 263) hx hb dX12_walks_259 (by decide) ?_
    exact b_X12_walks_263 X hr hk K49 hK49 x1 x2 x3 x6 x10 v35 (1 : Int32) s34 _ hf _ _ _ Z (lv_sub hl [1, 2, 3, 4, 5, 7, 0] rfl)

set_option maxRecDepth 100000 in
set_option maxHeartbeats 4000000 in
theorem b_X12_walks_165 {p : Program} {l : Launch} {e : Env} {s : State} {m : MethodId} {args : Array Value} {below : List Frame} {meth : Method} {c : Code} {D : va_G} {h : Nat → Nat} {cy : Nat → ClassId} (X : Cx p s m args c D h cy RX12 cX12_walks 16) (hr : meth.sig.returnType = some .boolean) (hk : meth.locks = false) (K49 : (Int32 × Int32 × Int32 × Int32 × Int32 × St) → Option (Int32 × St)) (hK49 : ∀ (a : Int32 × Int32 × Int32 × Int32 × Int32 × St) (y : Int32 × St), K49 a = some y → ∀ (H : Heap) (locs : List Loc) (ls : Array Slot), Zt D h cy s a.2.2.2.2.2 H locs → lv_has ls 16 [(0, .ref (h 68)), (1, .int a.1), (2, .int a.2.1), (3, .int a.2.2.1), (6, .int a.2.2.2.1), (7, .int a.2.2.2.2.1)] → W p l e (rmz 3 76) s m args below meth c H locs 0 0 (EI below args s D h cy y) (F0 m 49 ls [])) (x1 : Int32) (x2 : Int32) (x3 : Int32) (x6 : Int32) (x8 : Int64) (x10 : Int64) (x12 : Int64) (x14 : Int32) (σ : St) (y : Int32 × St) (hf : f_X12_walks_165 K49 x1 x2 x3 x6 x8 x10 x12 x14 σ = some y) : ∀ (H : Heap) (locs : List Loc) (ls : Array Slot), Zt D h cy s σ H locs → lv_has ls 16 [(0, .ref (h 68)), (1, .int x1), (2, .int x2), (3, .int x3), (6, .int x6), (8, .long x8), (10, .long x10), (12, .long x12), (14, .int x14)] → W p l e (rmz 3 76) s m args below meth c H locs 0 0 (EI below args s D h cy y) (F0 m 165 ls []) := by
  intro H locs ls Z hl
  have hx := X.x
  have hb := X.b
  unfold f_X12_walks_165 at hf
  refine lv_iload hx hb dX12_walks_165 (lv_at hl 8 rfl) ?_
  refine lv_if_eq (tgt := 198) hx hb dX12_walks_167 (by decide) (fun c27 => ?_) (fun c27 => ?_)
  · have hf := itp c27 hf
    exact b_X12_walks_198 X hr hk K49 hK49 x1 x2 x3 x6 x8 x10 x12 σ _ hf _ _ _ Z (lv_sub hl [0, 1, 2, 3, 4, 5, 6, 7] rfl)
  · have hf := itn c27 hf
    refine lv_aload_n hx hb dX12_walks_170 rfl (lv_at hl 0 rfl) ?_
    refine lv_lload hx hb dX12_walks_171 (lv_at hl 7 rfl) ?_
    obtain ⟨r50, s49, h48, hf⟩ := bi_s hf
    refine goI Z (run_V (As := [.long x12]) (rest := []) X Z (c_X12_isWeakImport l D h cy x12 σ (r50, s49) h48 _) lk_RX12_456 ⟨by decide, by decide⟩ rv_68 rfl hl.1 rfl (Nat.le_of_ble_eq_true rfl) ⟨Nat.le_refl _, Nat.le_refl _⟩ dX12_walks_173) (fun H locs Z => ?_)
    refine lv_if_ne (tgt := 198) hx hb dX12_walks_176 (by decide) (fun c51 => ?_) (fun c51 => ?_)
    · have hf := itn c51 hf
      exact b_X12_walks_198 X hr hk K49 hK49 x1 x2 x3 x6 x8 x10 x12 s49 _ hf _ _ _ Z (lv_sub hl [0, 1, 2, 3, 4, 5, 6, 7] rfl)
    · have hf := itp c51 hf
      refine lv_aload_n hx hb dX12_walks_179 rfl (lv_at hl 0 rfl) ?_
      refine lv_lload hx hb dX12_walks_180 (lv_at hl 7 rfl) ?_
      obtain ⟨r54, s53, h52, hf⟩ := bi_s hf
      refine goI Z (run_V (As := [.long x12]) (rest := []) X Z (c_X12_exportFor l D h cy x12 s49 (r54, s53) h52 _) lk_RX12_459 ⟨by decide, by decide⟩ rv_68 rfl hl.1 rfl (Nat.le_of_ble_eq_true rfl) ⟨Nat.le_refl _, Nat.le_refl _⟩ dX12_walks_182) (fun H locs Z => ?_)
      refine lv_iconst (v := (-1)) hx hb dX12_walks_185 (by decide) ?_
      refine lv_icmp_ne (tgt := 198) hx hb dX12_walks_186 (by decide) (fun c55 => ?_) (fun c55 => ?_)
      · have hf := itn c55 hf
        exact b_X12_walks_198 X hr hk K49 hK49 x1 x2 x3 x6 x8 x10 x12 s53 _ hf _ _ _ Z (lv_sub hl [0, 1, 2, 3, 4, 5, 6, 7] rfl)
      · have hf := itp c55 hf
        refine lv_aload_n hx hb dX12_walks_189 rfl (lv_at hl 0 rfl) ?_
        refine lv_bipush (v := 12) hx hb dX12_walks_190 (by decide) ?_
        refine lv_lload hx hb dX12_walks_192 (lv_at hl 6 rfl) ?_
        obtain ⟨r58, s57, h56, hf⟩ := bi_s hf
        refine goI Z (run_V (As := [.int (12 : Int32), .long x10]) (rest := []) X Z (c_X12_bad l D h cy (12 : Int32) x10 s53 (r58, s57) h56 _) lk_RX12_321 ⟨by decide, by decide⟩ rv_68 rfl hl.1 rfl (Nat.le_of_ble_eq_true rfl) ⟨Nat.le_refl _, Nat.le_refl _⟩ dX12_walks_194) (fun H locs Z => ?_)
        obtain ⟨g59, hf⟩ := gd_s hf
        exact retZ X hr hk Z g59 hf dX12_walks_197

set_option maxRecDepth 100000 in
set_option maxHeartbeats 4000000 in
theorem b_X12_walks_122 {p : Program} {l : Launch} {e : Env} {s : State} {m : MethodId} {args : Array Value} {below : List Frame} {meth : Method} {c : Code} {D : va_G} {h : Nat → Nat} {cy : Nat → ClassId} (X : Cx p s m args c D h cy RX12 cX12_walks 16) (hr : meth.sig.returnType = some .boolean) (hk : meth.locks = false) (K49 : (Int32 × Int32 × Int32 × Int32 × Int32 × St) → Option (Int32 × St)) (hK49 : ∀ (a : Int32 × Int32 × Int32 × Int32 × Int32 × St) (y : Int32 × St), K49 a = some y → ∀ (H : Heap) (locs : List Loc) (ls : Array Slot), Zt D h cy s a.2.2.2.2.2 H locs → lv_has ls 16 [(0, .ref (h 68)), (1, .int a.1), (2, .int a.2.1), (3, .int a.2.2.1), (6, .int a.2.2.2.1), (7, .int a.2.2.2.2.1)] → W p l e (rmz 3 76) s m args below meth c H locs 0 0 (EI below args s D h cy y) (F0 m 49 ls [])) (x1 : Int32) (x2 : Int32) (x3 : Int32) (x6 : Int32) (x8 : Int64) (x10 : Int64) (x12 : Int64) (x14 : Int32) (t0 : Int64) (t1 : Int64) (σ : St) (y : Int32 × St) (hf : f_X12_walks_122 K49 x1 x2 x3 x6 x8 x10 x12 x14 t0 t1 σ = some y) : ∀ (H : Heap) (locs : List Loc) (ls : Array Slot), Zt D h cy s σ H locs → lv_has ls 16 [(0, .ref (h 68)), (1, .int x1), (2, .int x2), (3, .int x3), (6, .int x6), (8, .long x8), (10, .long x10), (12, .long x12), (14, .int x14)] → W p l e (rmz 3 76) s m args below meth c H locs 0 0 (EI below args s D h cy y) (F0 m 122 ls [.long t0, .long t1]) := by
  intro H locs ls Z hl
  have hx := X.x
  have hb := X.b
  unfold f_X12_walks_122 at hf
  refine lv_land hx hb dX12_walks_122 ?_
  refine lv_lconst (v := 0) hx hb dX12_walks_123 (by decide) ?_
  refine x_lif_eq (tgt := 137) X dX12_walks_124 dX12_walks_125 (by decide) (fun c25 => ?_) (fun c25 => ?_)
  · have hf := itp c25 hf
    refine lv_iload hx hb dX12_walks_137 (lv_at hl 8 rfl) ?_
    refine lv_if_eq (tgt := 165) hx hb dX12_walks_139 (by decide) (fun c26 => ?_) (fun c26 => ?_)
    · have hf := itp c26 hf
      exact b_X12_walks_165 X hr hk K49 hK49 x1 x2 x3 x6 x8 x10 x12 x14 σ _ hf _ _ _ Z (lv_sub hl [0, 1, 2, 3, 4, 5, 6, 7, 8] rfl)
    · have hf := itn c26 hf
      refine lv_lload hx hb dX12_walks_142 (lv_at hl 7 rfl) ?_
      refine lv_ldc2 (v := 16777215) hx hb X.o (X.t _ kc_RX12_454) dX12_walks_144 ?_
      refine lv_land hx hb dX12_walks_147 ?_
      refine lv_aload_n hx hb dX12_walks_148 rfl (lv_at hl 0 rfl) ?_
      refine gf_RX12_419 X Z dX12_walks_149 ?_
      refine x_lif_lt (tgt := 165) X dX12_walks_152 dX12_walks_153 (by decide) (fun c60 => ?_) (fun c60 => ?_)
      · have hf := itp c60 hf
        exact b_X12_walks_165 X hr hk K49 hK49 x1 x2 x3 x6 x8 x10 x12 x14 σ _ hf _ _ _ Z (lv_sub hl [0, 1, 2, 3, 4, 5, 6, 7, 8] rfl)
      · have hf := itn c60 hf
        refine lv_aload_n hx hb dX12_walks_156 rfl (lv_at hl 0 rfl) ?_
        refine lv_bipush (v := 11) hx hb dX12_walks_157 (by decide) ?_
        refine lv_lload hx hb dX12_walks_159 (lv_at hl 6 rfl) ?_
        obtain ⟨r63, s62, h61, hf⟩ := bi_s hf
        refine goI Z (run_V (As := [.int (11 : Int32), .long x10]) (rest := []) X Z (c_X12_bad l D h cy (11 : Int32) x10 σ (r63, s62) h61 _) lk_RX12_321 ⟨by decide, by decide⟩ rv_68 rfl hl.1 rfl (Nat.le_of_ble_eq_true rfl) ⟨Nat.le_refl _, Nat.le_refl _⟩ dX12_walks_161) (fun H locs Z => ?_)
        obtain ⟨g64, hf⟩ := gd_s hf
        exact retZ X hr hk Z g64 hf dX12_walks_164
  · have hf := itn c25 hf
    refine lv_aload_n hx hb dX12_walks_128 rfl (lv_at hl 0 rfl) ?_
    refine lv_bipush (v := 11) hx hb dX12_walks_129 (by decide) ?_
    refine lv_lload hx hb dX12_walks_131 (lv_at hl 6 rfl) ?_
    obtain ⟨r67, s66, h65, hf⟩ := bi_s hf
    refine goI Z (run_V (As := [.int (11 : Int32), .long x10]) (rest := []) X Z (c_X12_bad l D h cy (11 : Int32) x10 σ (r67, s66) h65 _) lk_RX12_321 ⟨by decide, by decide⟩ rv_68 rfl hl.1 rfl (Nat.le_of_ble_eq_true rfl) ⟨Nat.le_refl _, Nat.le_refl _⟩ dX12_walks_133) (fun H locs Z => ?_)
    obtain ⟨g68, hf⟩ := gd_s hf
    exact retZ X hr hk Z g68 hf dX12_walks_136

set_option maxRecDepth 100000 in
set_option maxHeartbeats 4000000 in
theorem b_X12_walks_104 {p : Program} {l : Launch} {e : Env} {s : State} {m : MethodId} {args : Array Value} {below : List Frame} {meth : Method} {c : Code} {D : va_G} {h : Nat → Nat} {cy : Nat → ClassId} (X : Cx p s m args c D h cy RX12 cX12_walks 16) (hr : meth.sig.returnType = some .boolean) (hk : meth.locks = false) (K49 : (Int32 × Int32 × Int32 × Int32 × Int32 × St) → Option (Int32 × St)) (hK49 : ∀ (a : Int32 × Int32 × Int32 × Int32 × Int32 × St) (y : Int32 × St), K49 a = some y → ∀ (H : Heap) (locs : List Loc) (ls : Array Slot), Zt D h cy s a.2.2.2.2.2 H locs → lv_has ls 16 [(0, .ref (h 68)), (1, .int a.1), (2, .int a.2.1), (3, .int a.2.2.1), (6, .int a.2.2.2.1), (7, .int a.2.2.2.2.1)] → W p l e (rmz 3 76) s m args below meth c H locs 0 0 (EI below args s D h cy y) (F0 m 49 ls [])) (x1 : Int32) (x2 : Int32) (x3 : Int32) (x6 : Int32) (x8 : Int64) (x10 : Int64) (x12 : Int64) (t0 : Int32) (σ : St) (y : Int32 × St) (hf : f_X12_walks_104 K49 x1 x2 x3 x6 x8 x10 x12 t0 σ = some y) : ∀ (H : Heap) (locs : List Loc) (ls : Array Slot), Zt D h cy s σ H locs → lv_has ls 16 [(0, .ref (h 68)), (1, .int x1), (2, .int x2), (3, .int x3), (6, .int x6), (8, .long x8), (10, .long x10), (12, .long x12)] → W p l e (rmz 3 76) s m args below meth c H locs 0 0 (EI below args s D h cy y) (F0 m 104 ls [.int t0]) := by
  intro H locs ls Z hl
  have hx := X.x
  have hb := X.b
  unfold f_X12_walks_104 at hf
  refine lv_istore (lv' := [(14, .int t0), (0, .ref (h 68)), (1, .int x1), (2, .int x2), (3, .int x3), (6, .int x6), (8, .long x8), (10, .long x10), (12, .long x12)]) hx hb dX12_walks_104 hl (by decide) rfl (fun ls hl => ?_)
  refine lv_lload hx hb dX12_walks_106 (lv_at hl 8 rfl) ?_
  refine lv_iload hx hb dX12_walks_108 (lv_at hl 0 rfl) ?_
  refine lv_if_eq (tgt := 119) hx hb dX12_walks_110 (by decide) (fun c24 => ?_) (fun c24 => ?_)
  · have hf := itp c24 hf
    refine lv_ldc2 (v := 2234207627640832) hx hb X.o (X.t _ kc_RX12_452) dX12_walks_119 ?_
    exact b_X12_walks_122 X hr hk K49 hK49 x1 x2 x3 x6 x8 x10 x12 t0 (2234207627640832 : Int64) x12 σ _ hf _ _ _ Z (lv_sub hl [1, 2, 3, 4, 5, 6, 7, 8, 0] rfl)
  · have hf := itn c24 hf
    refine lv_ldc2 (v := 2251795518717952) hx hb X.o (X.t _ kc_RX12_450) dX12_walks_113 ?_
    refine lv_goto (tgt := 122) hx hb dX12_walks_116 (by decide) ?_
    exact b_X12_walks_122 X hr hk K49 hK49 x1 x2 x3 x6 x8 x10 x12 t0 (2251795518717952 : Int64) x12 σ _ hf _ _ _ Z (lv_sub hl [1, 2, 3, 4, 5, 6, 7, 8, 0] rfl)

set_option maxRecDepth 100000 in
set_option maxHeartbeats 4000000 in
theorem b_X12_walks_49b {p : Program} {l : Launch} {e : Env} {s : State} {m : MethodId} {args : Array Value} {below : List Frame} {meth : Method} {c : Code} {D : va_G} {h : Nat → Nat} {cy : Nat → ClassId} (X : Cx p s m args c D h cy RX12 cX12_walks 16) (hr : meth.sig.returnType = some .boolean) (hk : meth.locks = false) (K49 : (Int32 × Int32 × Int32 × Int32 × Int32 × St) → Option (Int32 × St)) (hK49 : ∀ (a : Int32 × Int32 × Int32 × Int32 × Int32 × St) (y : Int32 × St), K49 a = some y → ∀ (H : Heap) (locs : List Loc) (ls : Array Slot), Zt D h cy s a.2.2.2.2.2 H locs → lv_has ls 16 [(0, .ref (h 68)), (1, .int a.1), (2, .int a.2.1), (3, .int a.2.2.1), (6, .int a.2.2.2.1), (7, .int a.2.2.2.2.1)] → W p l e (rmz 3 76) s m args below meth c H locs 0 0 (EI below args s D h cy y) (F0 m 49 ls [])) (x1 : Int32) (x2 : Int32) (x3 : Int32) (x6 : Int32) (x7 : Int32) (σ : St) (y : Int32 × St) (hf : f_X12_walks_49b K49 x1 x2 x3 x6 x7 σ = some y) : ∀ (H : Heap) (locs : List Loc) (ls : Array Slot), Zt D h cy s σ H locs → lv_has ls 16 [(0, .ref (h 68)), (1, .int x1), (2, .int x2), (3, .int x3), (6, .int x6), (7, .int x7)] → W p l e (rmz 3 76) s m args below meth c H locs 0 0 (EI below args s D h cy y) (F0 m 49 ls []) := by
  intro H locs ls Z hl
  have hx := X.x
  have hb := X.b
  unfold f_X12_walks_49b at hf
  refine lv_iload hx hb dX12_walks_49 (lv_at hl 5 rfl) ?_
  refine lv_if_eq (tgt := 312) hx hb dX12_walks_51 (by decide) (fun c15 => ?_) (fun c15 => ?_)
  · have hf := itp c15 hf
    refine lv_iconst (v := 1) hx hb dX12_walks_312 (by decide) ?_
    exact retZ X hr hk Z (by decide) hf dX12_walks_313
  · have hf := itn c15 hf
    refine lv_iload_n hx hb dX12_walks_54 rfl (lv_at hl 2 rfl) ?_
    refine lv_i2l (v := x2.toInt64) hx hb dX12_walks_55 rfl ?_
    refine lv_iload_n hx hb dX12_walks_56 rfl (lv_at hl 3 rfl) ?_
    refine lv_i2l (v := x3.toInt64) hx hb dX12_walks_57 rfl ?_
    refine lv_lmul hx hb dX12_walks_58 ?_
    refine lv_iload hx hb dX12_walks_59 (lv_at hl 4 rfl) ?_
    refine lv_i2l (v := x6.toInt64) hx hb dX12_walks_61 rfl ?_
    refine lv_ladd hx hb dX12_walks_62 ?_
    refine lv_topl (fun v16 ev16 => ?_)
    have hf := zn_e ev16 hf
    refine lv_lstore (lv' := [(8, .long v16), (0, .ref (h 68)), (1, .int x1), (2, .int x2), (3, .int x3), (6, .int x6), (7, .int x7)]) hx hb dX12_walks_63 hl (by decide) rfl (fun ls hl => ?_)
    refine lv_aload_n hx hb dX12_walks_65 rfl (lv_at hl 1 rfl) ?_
    refine gf_RX12_92 X Z dX12_walks_66 ?_
    refine lv_iload_n hx hb dX12_walks_69 rfl (lv_at hl 2 rfl) ?_
    obtain ⟨g17, hf⟩ := gd_s hf
    refine x_lald (k := 91) X Z sh_91 g17 dX12_walks_70 ?_
    refine lv_lload hx hb dX12_walks_71 (lv_at hl 0 rfl) ?_
    refine lv_ladd hx hb dX12_walks_73 ?_
    refine lv_aload_n hx hb dX12_walks_74 rfl (lv_at hl 1 rfl) ?_
    refine gf_RX12_92 X Z dX12_walks_75 ?_
    refine lv_iconst (v := 0) hx hb dX12_walks_78 (by decide) ?_
    obtain ⟨g18, hf⟩ := gd_s hf
    refine x_lald (k := 91) X Z sh_91 g18 dX12_walks_79 ?_
    refine lv_lsub hx hb dX12_walks_80 ?_
    refine lv_topl (fun v19 ev19 => ?_)
    have hf := zn_e ev19 hf
    refine lv_lstore (lv' := [(10, .long v19), (8, .long v16), (0, .ref (h 68)), (1, .int x1), (2, .int x2), (3, .int x3), (6, .int x6), (7, .int x7)]) hx hb dX12_walks_81 hl (by decide) rfl (fun ls hl => ?_)
    refine lv_aload_n hx hb dX12_walks_83 rfl (lv_at hl 2 rfl) ?_
    refine lv_iload_n hx hb dX12_walks_84 rfl (lv_at hl 3 rfl) ?_
    refine lv_lload hx hb dX12_walks_85 (lv_at hl 1 rfl) ?_
    obtain ⟨r22, s21, h20, hf⟩ := bi_s hf
    refine goL Z (run_V (As := [.int x1, .long v16]) (rest := []) X Z (c_X12_wordOf l D h cy x1 v16 σ (r22, s21) h20 _) lk_RX12_446 ⟨by decide, by decide⟩ rv_68 rfl hl.1 rfl (Nat.le_of_ble_eq_true rfl) ⟨Nat.le_refl _, Nat.le_refl _⟩ dX12_walks_87) (fun H locs Z => ?_)
    refine lv_lstore (lv' := [(12, .long r22), (10, .long v19), (8, .long v16), (0, .ref (h 68)), (1, .int x1), (2, .int x2), (3, .int x3), (6, .int x6), (7, .int x7)]) hx hb dX12_walks_90 hl (by decide) rfl (fun ls hl => ?_)
    refine lv_lload hx hb dX12_walks_92 (lv_at hl 0 rfl) ?_
    refine lv_lconst (v := 0) hx hb dX12_walks_94 (by decide) ?_
    refine x_lif_ge (tgt := 103) X dX12_walks_95 dX12_walks_96 (by decide) (fun c23 => ?_) (fun c23 => ?_)
    · have hf := itp c23 hf
      refine lv_iconst (v := 0) hx hb dX12_walks_103 (by decide) ?_
      exact b_X12_walks_104 X hr hk K49 hK49 x1 x2 x3 x6 v16 v19 r22 (0 : Int32) s21 _ hf _ _ _ Z (lv_sub hl [3, 4, 5, 6, 7, 2, 1, 0] rfl)
    · have hf := itn c23 hf
      refine lv_iconst (v := 1) hx hb dX12_walks_99 (by decide) ?_
      refine lv_goto (tgt := 104) hx hb dX12_walks_100 (by decide) ?_
      exact b_X12_walks_104 X hr hk K49 hK49 x1 x2 x3 x6 v16 v19 r22 (1 : Int32) s21 _ hf _ _ _ Z (lv_sub hl [3, 4, 5, 6, 7, 2, 1, 0] rfl)

set_option maxRecDepth 100000 in
set_option maxHeartbeats 4000000 in
theorem b_X12_walks_49 {p : Program} {l : Launch} {e : Env} {s : State} {m : MethodId} {args : Array Value} {below : List Frame} {meth : Method} {c : Code} {D : va_G} {h : Nat → Nat} {cy : Nat → ClassId} (X : Cx p s m args c D h cy RX12 cX12_walks 16) (hr : meth.sig.returnType = some .boolean) (hk : meth.locks = false) (x1 : Int32) (x2 : Int32) (x3 : Int32) (x6 : Int32) (x7 : Int32) (σ : St) (y : Int32 × St) (hf : f_X12_walks_49 x1 x2 x3 x6 x7 σ = some y) : ∀ (H : Heap) (locs : List Loc) (ls : Array Slot), Zt D h cy s σ H locs → lv_has ls 16 [(0, .ref (h 68)), (1, .int x1), (2, .int x2), (3, .int x3), (6, .int x6), (7, .int x7)] → W p l e (rmz 3 76) s m args below meth c H locs 0 0 (EI below args s D h cy y) (F0 m 49 ls []) := by
  exact it_W (F := fun K a => f_X12_walks_49b K a.1 a.2.1 a.2.2.1 a.2.2.2.1 a.2.2.2.2.1 a.2.2.2.2.2) (P := fun a y => ∀ (H : Heap) (locs : List Loc) (ls : Array Slot), Zt D h cy s a.2.2.2.2.2 H locs → lv_has ls 16 [(0, .ref (h 68)), (1, .int a.1), (2, .int a.2.1), (3, .int a.2.2.1), (6, .int a.2.2.2.1), (7, .int a.2.2.2.2.1)] → W p l e (rmz 3 76) s m args below meth c H locs 0 0 (EI below args s D h cy y) (F0 m 49 ls [])) (fun K hK a y hf => b_X12_walks_49b X hr hk K hK (a.1) (a.2.1) (a.2.2.1) (a.2.2.2.1) (a.2.2.2.2.1) (a.2.2.2.2.2) y hf) FU _ y hf

set_option maxRecDepth 100000 in
set_option maxHeartbeats 4000000 in
theorem c_X12_walks (l : Launch) (D : va_G) (h : Nat → Nat) (cy : Nat → ClassId) (a1 : Int32) (a2 : Int32) (a3 : Int32) (a4 : Int64) (σ : St) (y : Int32 × St) (hf : f_X12_walks a1 a2 a3 a4 σ = some y) : CI l yX12_walks cX12_walks 16 (some .boolean) 3 76 D h cy [.ref (h 68), .int a1, .int a2, .int a3, .long a4] σ y := by
  refine ent (Qc := fun sz => QI D h cy sz y) (by decide) (Nat.le_of_ble_eq_true rfl) ?_
  intro p e s m below meth c ls X Z hr hk hl
  have X : Cx p s m _ c D h cy RX12 cX12_walks 16 := X
  have hx := X.x
  have hb := X.b
  have hl : lv_has ls 16 [(0, .ref (h 68)), (1, .int a1), (2, .int a2), (3, .int a3), (4, .long a4)] := hl
  unfold f_X12_walks at hf
  refine lv_aload_n hx hb dX12_walks_0 rfl (lv_at hl 0 rfl) ?_
  refine lv_lload hx hb dX12_walks_1 (lv_at hl 4 rfl) ?_
  obtain ⟨r3, s2, h1, hf⟩ := bi_s hf
  refine goI Z (run_V (As := [.long a4]) (rest := []) X Z (c_X12_two l D h cy a4 σ (r3, s2) h1 _) lk_RX12_432 ⟨by decide, by decide⟩ rv_68 rfl hl.1 rfl (Nat.le_of_ble_eq_true rfl) ⟨Nat.le_refl _, Nat.le_refl _⟩ dX12_walks_3) (fun H locs Z => ?_)
  refine lv_istore (lv' := [(6, .int r3), (0, .ref (h 68)), (1, .int a1), (2, .int a2), (3, .int a3), (4, .long a4)]) hx hb dX12_walks_6 hl (by decide) rfl (fun ls hl => ?_)
  refine lv_iload hx hb dX12_walks_8 (lv_at hl 0 rfl) ?_
  refine lv_ldcw (v := 65535) hx hb X.o (X.t _ kc_RX12_272) dX12_walks_10 ?_
  refine lv_icmp_ne (tgt := 18) hx hb dX12_walks_13 (by decide) (fun c4 => ?_) (fun c4 => ?_)
  · have hf := itn c4 hf
    refine lv_iload hx hb dX12_walks_18 (lv_at hl 0 rfl) ?_
    refine lv_iconst (v := 4) hx hb dX12_walks_20 (by decide) ?_
    refine lv_irem hx hb dX12_walks_21 (by decide) ?_
    refine lv_if_ne (tgt := 37) hx hb dX12_walks_22 (by decide) (fun c5 => ?_) (fun c5 => ?_)
    · have hf := itn c5 hf
      exact b_X12_walks_37 X hr hk a4 s2 _ hf _ _ _ Z (lv_sub hl [1, 5] rfl)
    · have hf := itp c5 hf
      refine lv_aload_n hx hb dX12_walks_25 rfl (lv_at hl 1 rfl) ?_
      refine lv_iload_n hx hb dX12_walks_26 rfl (lv_at hl 2 rfl) ?_
      refine lv_iload_n hx hb dX12_walks_27 rfl (lv_at hl 3 rfl) ?_
      refine lv_iload_n hx hb dX12_walks_28 rfl (lv_at hl 4 rfl) ?_
      refine lv_iload hx hb dX12_walks_29 (lv_at hl 0 rfl) ?_
      obtain ⟨r12, s11, h10, hf⟩ := bi_s hf
      refine goI Z (run_V (As := [.int a1, .int a2, .int a3, .int r3]) (rest := []) X Z (c_X12_isWithin l D h cy a1 a2 a3 r3 s2 (r12, s11) h10 _) lk_RX12_442 ⟨by decide, by decide⟩ rv_68 rfl hl.1 rfl (Nat.le_of_ble_eq_true rfl) ⟨Nat.le_refl _, Nat.le_refl _⟩ dX12_walks_31) (fun H locs Z => ?_)
      refine lv_if_ne (tgt := 46) hx hb dX12_walks_34 (by decide) (fun c13 => ?_) (fun c13 => ?_)
      · have hf := itn c13 hf
        refine lv_iconst (v := 1) hx hb dX12_walks_46 (by decide) ?_
        refine lv_topi (fun v14 ev14 => ?_)
        have hf := zn_e ev14 hf
        refine lv_istore (lv' := [(7, .int v14), (6, .int r3), (0, .ref (h 68)), (1, .int a1), (2, .int a2), (3, .int a3), (4, .long a4)]) hx hb dX12_walks_47 hl (by decide) rfl (fun ls hl => ?_)
        exact b_X12_walks_49 X hr hk a1 a2 a3 r3 v14 s11 _ hf _ _ _ Z (lv_sub hl [2, 3, 4, 5, 1, 0] rfl)
      · have hf := itp c13 hf
        exact b_X12_walks_37 X hr hk a4 s11 _ hf _ _ _ Z (lv_sub hl [1, 5] rfl)
  · have hf := itp c4 hf
    refine lv_iconst (v := 1) hx hb dX12_walks_16 (by decide) ?_
    exact retZ X hr hk Z (by decide) hf dX12_walks_17

set_option maxRecDepth 100000 in
set_option maxHeartbeats 4000000 in
theorem b_X12_readsPages_73 {p : Program} {l : Launch} {e : Env} {s : State} {m : MethodId} {args : Array Value} {below : List Frame} {meth : Method} {c : Code} {D : va_G} {h : Nat → Nat} {cy : Nat → ClassId} (X : Cx p s m args c D h cy RX12 cX12_readsPages 9) (hr : meth.sig.returnType = some .boolean) (hk : meth.locks = false) (x2 : Int64) (σ : St) (y : Int32 × St) (hf : f_X12_readsPages_73 x2 σ = some y) : ∀ (H : Heap) (locs : List Loc) (ls : Array Slot), Zt D h cy s σ H locs → lv_has ls 9 [(0, .ref (h 68)), (2, .long x2)] → W p l e (rmz 3 69) s m args below meth c H locs 0 0 (EI below args s D h cy y) (F0 m 73 ls []) := by
  intro H locs ls Z hl
  have hx := X.x
  have hb := X.b
  unfold f_X12_readsPages_73 at hf
  refine lv_aload_n hx hb dX12_readsPages_73 rfl (lv_at hl 0 rfl) ?_
  refine lv_bipush (v := 9) hx hb dX12_readsPages_74 (by decide) ?_
  refine lv_lload_n hx hb dX12_readsPages_76 rfl (lv_at hl 1 rfl) ?_
  obtain ⟨r12, s11, h10, hf⟩ := bi_s hf
  refine goI Z (run_V (As := [.int (9 : Int32), .long x2]) (rest := []) X Z (c_X12_bad l D h cy (9 : Int32) x2 σ (r12, s11) h10 _) lk_RX12_321 ⟨by decide, by decide⟩ rv_68 rfl hl.1 rfl (Nat.le_of_ble_eq_true rfl) ⟨Nat.le_refl _, Nat.le_refl _⟩ dX12_readsPages_77) (fun H locs Z => ?_)
  obtain ⟨g13, hf⟩ := gd_s hf
  exact retZ X hr hk Z g13 hf dX12_readsPages_80

set_option maxRecDepth 100000 in
set_option maxHeartbeats 4000000 in
theorem c_X12_readsPages (l : Launch) (D : va_G) (h : Nat → Nat) (cy : Nat → ClassId) (a1 : Int32) (a2 : Int64) (a3 : Int64) (σ : St) (y : Int32 × St) (hf : f_X12_readsPages a1 a2 a3 σ = some y) : CI l yX12_readsPages cX12_readsPages 9 (some .boolean) 3 69 D h cy [.ref (h 68), .int a1, .long a2, .long a3] σ y := by
  refine ent (Qc := fun sz => QI D h cy sz y) (by decide) (Nat.le_of_ble_eq_true rfl) ?_
  intro p e s m below meth c ls X Z hr hk hl
  have X : Cx p s m _ c D h cy RX12 cX12_readsPages 9 := X
  have hx := X.x
  have hb := X.b
  have hl : lv_has ls 9 [(0, .ref (h 68)), (1, .int a1), (2, .long a2), (4, .long a3)] := hl
  unfold f_X12_readsPages at hf
  refine lv_aload_n hx hb dX12_readsPages_0 rfl (lv_at hl 0 rfl) ?_
  refine gf_RX12_407 X Z dX12_readsPages_1 ?_
  refine lv_lload_n hx hb dX12_readsPages_4 rfl (lv_at hl 2 rfl) ?_
  refine lv_lsub hx hb dX12_readsPages_5 ?_
  refine lv_ldc2 (v := 22) hx hb X.o (X.t _ kc_RX12_436) dX12_readsPages_6 ?_
  refine x_lif_ge (tgt := 22) X dX12_readsPages_9 dX12_readsPages_10 (by decide) (fun c1 => ?_) (fun c1 => ?_)
  · have hf := itp c1 hf
    refine lv_aload_n hx hb dX12_readsPages_22 rfl (lv_at hl 0 rfl) ?_
    refine lv_lload_n hx hb dX12_readsPages_23 rfl (lv_at hl 2 rfl) ?_
    refine lv_ldc2 (v := 20) hx hb X.o (X.t _ kc_RX12_359) dX12_readsPages_24 ?_
    refine lv_ladd hx hb dX12_readsPages_27 ?_
    obtain ⟨r4, s3, h2, hf⟩ := bi_s hf
    refine goI Z (run_V (As := [.long ((a2 + (20 : Int64)))]) (rest := []) X Z (c_X12_two l D h cy ((a2 + (20 : Int64))) σ (r4, s3) h2 _) lk_RX12_432 ⟨by decide, by decide⟩ rv_68 rfl hl.1 rfl (Nat.le_of_ble_eq_true rfl) ⟨Nat.le_refl _, Nat.le_refl _⟩ dX12_readsPages_28) (fun H locs Z => ?_)
    refine lv_i2l (v := r4.toInt64) hx hb dX12_readsPages_31 rfl ?_
    refine lv_topl (fun v5 ev5 => ?_)
    have hf := zn_e ev5 hf
    refine lv_lstore (lv' := [(6, .long v5), (0, .ref (h 68)), (1, .int a1), (2, .long a2), (4, .long a3)]) hx hb dX12_readsPages_32 hl (by decide) rfl (fun ls hl => ?_)
    refine lv_aload_n hx hb dX12_readsPages_34 rfl (lv_at hl 1 rfl) ?_
    refine lv_lload_n hx hb dX12_readsPages_35 rfl (lv_at hl 3 rfl) ?_
    obtain ⟨r8, s7, h6, hf⟩ := bi_s hf
    refine goL Z (run_V (As := [.long a2]) (rest := []) X Z (c_X12_four l D h cy a2 s3 (r8, s7) h6 _) lk_RX12_307 ⟨by decide, by decide⟩ rv_68 rfl hl.1 rfl (Nat.le_of_ble_eq_true rfl) ⟨Nat.le_refl _, Nat.le_refl _⟩ dX12_readsPages_36) (fun H locs Z => ?_)
    refine lv_ldc2 (v := 22) hx hb X.o (X.t _ kc_RX12_436) dX12_readsPages_39 ?_
    refine lv_ldc2 (v := 2) hx hb X.o (X.t _ kc_RX12_270) dX12_readsPages_42 ?_
    refine lv_lload hx hb dX12_readsPages_45 (lv_at hl 0 rfl) ?_
    refine lv_lmul hx hb dX12_readsPages_47 ?_
    refine lv_ladd hx hb dX12_readsPages_48 ?_
    refine x_lif_ne (tgt := 73) X dX12_readsPages_49 dX12_readsPages_50 (by decide) (fun c9 => ?_) (fun c9 => ?_)
    · have hf := itn c9 hf
      exact b_X12_readsPages_73 X hr hk a2 s7 _ hf _ _ _ Z (lv_sub hl [1, 3] rfl)
    · have hf := itp c9 hf
      refine lv_aload_n hx hb dX12_readsPages_53 rfl (lv_at hl 1 rfl) ?_
      refine gf_RX12_407 X Z dX12_readsPages_54 ?_
      refine lv_lload_n hx hb dX12_readsPages_57 rfl (lv_at hl 3 rfl) ?_
      refine lv_lsub hx hb dX12_readsPages_58 ?_
      refine lv_ldc2 (v := 22) hx hb X.o (X.t _ kc_RX12_436) dX12_readsPages_59 ?_
      refine lv_ldc2 (v := 2) hx hb X.o (X.t _ kc_RX12_270) dX12_readsPages_62 ?_
      refine lv_lload hx hb dX12_readsPages_65 (lv_at hl 0 rfl) ?_
      refine lv_lmul hx hb dX12_readsPages_67 ?_
      refine lv_ladd hx hb dX12_readsPages_68 ?_
      refine x_lif_ge (tgt := 81) X dX12_readsPages_69 dX12_readsPages_70 (by decide) (fun c14 => ?_) (fun c14 => ?_)
      · have hf := itp c14 hf
        refine lv_aload_n hx hb dX12_readsPages_81 rfl (lv_at hl 1 rfl) ?_
        refine lv_lload_n hx hb dX12_readsPages_82 rfl (lv_at hl 3 rfl) ?_
        refine lv_ldc2 (v := 4) hx hb X.o (X.t _ kc_RX12_311) dX12_readsPages_83 ?_
        refine lv_ladd hx hb dX12_readsPages_86 ?_
        obtain ⟨r17, s16, h15, hf⟩ := bi_s hf
        refine goI Z (run_V (As := [.long ((a2 + (4 : Int64)))]) (rest := []) X Z (c_X12_two l D h cy ((a2 + (4 : Int64))) s7 (r17, s16) h15 _) lk_RX12_432 ⟨by decide, by decide⟩ rv_68 rfl hl.1 rfl (Nat.le_of_ble_eq_true rfl) ⟨Nat.le_refl _, Nat.le_refl _⟩ dX12_readsPages_87) (fun H locs Z => ?_)
        refine lv_istore (lv' := [(8, .int r17), (6, .long v5), (0, .ref (h 68)), (1, .int a1), (2, .long a2), (4, .long a3)]) hx hb dX12_readsPages_90 hl (by decide) rfl (fun ls hl => ?_)
        refine lv_iload hx hb dX12_readsPages_92 (lv_at hl 0 rfl) ?_
        refine lv_i2l (v := r17.toInt64) hx hb dX12_readsPages_94 rfl ?_
        obtain ⟨r20, s19, h18, hf⟩ := bi_s hf
        refine goI Z (run_S (As := [.long r17.toInt64]) (rest := []) X Z (c_X12_isPage l D h cy r17.toInt64 s16 (r20, s19) h18 _) lk_RX12_170 ⟨by decide, by decide⟩ rfl hl.1 rfl (Nat.le_of_ble_eq_true rfl) ⟨Nat.le_refl _, Nat.le_refl _⟩ dX12_readsPages_95) (fun H locs Z => ?_)
        refine lv_if_ne (tgt := 113) hx hb dX12_readsPages_98 (by decide) (fun c21 => ?_) (fun c21 => ?_)
        · have hf := itn c21 hf
          refine lv_aload_n hx hb dX12_readsPages_113 rfl (lv_at hl 2 rfl) ?_
          refine lv_lload_n hx hb dX12_readsPages_114 rfl (lv_at hl 4 rfl) ?_
          refine lv_ldc2 (v := 6) hx hb X.o (X.t _ kc_RX12_286) dX12_readsPages_115 ?_
          refine lv_ladd hx hb dX12_readsPages_118 ?_
          obtain ⟨r24, s23, h22, hf⟩ := bi_s hf
          refine goI Z (run_V (As := [.long ((a2 + (6 : Int64)))]) (rest := []) X Z (c_X12_two l D h cy ((a2 + (6 : Int64))) s19 (r24, s23) h22 _) lk_RX12_432 ⟨by decide, by decide⟩ rv_68 rfl hl.1 rfl (Nat.le_of_ble_eq_true rfl) ⟨Nat.le_refl _, Nat.le_refl _⟩ dX12_readsPages_119) (fun H locs Z => ?_)
          refine lv_iconst (v := 2) hx hb dX12_readsPages_122 (by decide) ?_
          refine lv_icmp_eq (tgt := 138) hx hb dX12_readsPages_123 (by decide) (fun c25 => ?_) (fun c25 => ?_)
          · have hf := itp c25 hf
            refine lv_aload_n hx hb dX12_readsPages_138 rfl (lv_at hl 2 rfl) ?_
            refine lv_lload_n hx hb dX12_readsPages_139 rfl (lv_at hl 4 rfl) ?_
            refine lv_ldc2 (v := 8) hx hb X.o (X.t _ kc_RX12_361) dX12_readsPages_140 ?_
            refine lv_ladd hx hb dX12_readsPages_143 ?_
            obtain ⟨r28, s27, h26, hf⟩ := bi_s hf
            refine goI Z (run_V (As := [.long ((a2 + (8 : Int64)))]) (rest := []) X Z (c_X12_isNumber l D h cy ((a2 + (8 : Int64))) s23 (r28, s27) h26 _) lk_RX12_381 ⟨by decide, by decide⟩ rv_68 rfl hl.1 rfl (Nat.le_of_ble_eq_true rfl) ⟨Nat.le_refl _, Nat.le_refl _⟩ dX12_readsPages_144) (fun H locs Z => ?_)
            refine lv_if_ne (tgt := 152) hx hb dX12_readsPages_147 (by decide) (fun c29 => ?_) (fun c29 => ?_)
            · have hf := itn c29 hf
              refine lv_aload_n hx hb dX12_readsPages_152 rfl (lv_at hl 2 rfl) ?_
              refine lv_lload_n hx hb dX12_readsPages_153 rfl (lv_at hl 4 rfl) ?_
              refine lv_ldc2 (v := 8) hx hb X.o (X.t _ kc_RX12_361) dX12_readsPages_154 ?_
              refine lv_ladd hx hb dX12_readsPages_157 ?_
              obtain ⟨r32, s31, h30, hf⟩ := bi_s hf
              refine goL Z (run_V (As := [.long ((a2 + (8 : Int64)))]) (rest := []) X Z (c_X12_eight l D h cy ((a2 + (8 : Int64))) s27 (r32, s31) h30 _) lk_RX12_316 ⟨by decide, by decide⟩ rv_68 rfl hl.1 rfl (Nat.le_of_ble_eq_true rfl) ⟨Nat.le_refl _, Nat.le_refl _⟩ dX12_readsPages_158) (fun H locs Z => ?_)
              refine lv_aload_n hx hb dX12_readsPages_161 rfl (lv_at hl 2 rfl) ?_
              refine gf_RX12_92 X Z dX12_readsPages_162 ?_
              refine lv_iload_n hx hb dX12_readsPages_165 rfl (lv_at hl 3 rfl) ?_
              obtain ⟨g33, hf⟩ := gd_s hf
              refine x_lald (k := 91) X Z sh_91 g33 dX12_readsPages_166 ?_
              refine lv_aload_n hx hb dX12_readsPages_167 rfl (lv_at hl 2 rfl) ?_
              refine gf_RX12_92 X Z dX12_readsPages_168 ?_
              refine lv_iconst (v := 0) hx hb dX12_readsPages_171 (by decide) ?_
              obtain ⟨g34, hf⟩ := gd_s hf
              refine x_lald (k := 91) X Z sh_91 g34 dX12_readsPages_172 ?_
              refine lv_lsub hx hb dX12_readsPages_173 ?_
              refine x_lif_eq (tgt := 190) X dX12_readsPages_174 dX12_readsPages_175 (by decide) (fun c35 => ?_) (fun c35 => ?_)
              · have hf := itp c35 hf
                refine lv_lload hx hb dX12_readsPages_190 (lv_at hl 1 rfl) ?_
                refine lv_aload_n hx hb dX12_readsPages_192 rfl (lv_at hl 2 rfl) ?_
                refine gf_RX12_95 X Z dX12_readsPages_193 ?_
                refine lv_iload_n hx hb dX12_readsPages_196 rfl (lv_at hl 3 rfl) ?_
                obtain ⟨g36, hf⟩ := gd_s hf
                refine x_lald (k := 92) X Z sh_92 g36 dX12_readsPages_197 ?_
                refine lv_iload hx hb dX12_readsPages_198 (lv_at hl 0 rfl) ?_
                refine lv_i2l (v := r17.toInt64) hx hb dX12_readsPages_200 rfl ?_
                refine lv_ladd hx hb dX12_readsPages_201 ?_
                refine lv_lconst (v := 1) hx hb dX12_readsPages_202 (by decide) ?_
                refine lv_lsub hx hb dX12_readsPages_203 ?_
                refine lv_iload hx hb dX12_readsPages_204 (lv_at hl 0 rfl) ?_
                refine lv_i2l (v := r17.toInt64) hx hb dX12_readsPages_206 rfl ?_
                obtain ⟨g37, hf⟩ := gd_s hf
                refine lv_ldiv hx hb dX12_readsPages_207 g37 ?_
                refine x_lif_le (tgt := 226) X dX12_readsPages_208 dX12_readsPages_209 (by decide) (fun c38 => ?_) (fun c38 => ?_)
                · have hf := itp c38 hf
                  refine lv_iconst (v := 1) hx hb dX12_readsPages_226 (by decide) ?_
                  refine lv_goto (tgt := 231) hx hb dX12_readsPages_227 (by decide) ?_
                  exact retZ X hr hk Z (by decide) hf dX12_readsPages_231
                · have hf := itn c38 hf
                  refine lv_aload_n hx hb dX12_readsPages_212 rfl (lv_at hl 2 rfl) ?_
                  refine lv_bipush (v := 9) hx hb dX12_readsPages_213 (by decide) ?_
                  refine lv_lload_n hx hb dX12_readsPages_215 rfl (lv_at hl 4 rfl) ?_
                  refine lv_ldc2 (v := 20) hx hb X.o (X.t _ kc_RX12_359) dX12_readsPages_216 ?_
                  refine lv_ladd hx hb dX12_readsPages_219 ?_
                  obtain ⟨r41, s40, h39, hf⟩ := bi_s hf
                  refine goI Z (run_V (As := [.int (9 : Int32), .long ((a2 + (20 : Int64)))]) (rest := []) X Z (c_X12_bad l D h cy (9 : Int32) ((a2 + (20 : Int64))) s31 (r41, s40) h39 _) lk_RX12_321 ⟨by decide, by decide⟩ rv_68 rfl hl.1 rfl (Nat.le_of_ble_eq_true rfl) ⟨Nat.le_refl _, Nat.le_refl _⟩ dX12_readsPages_220) (fun H locs Z => ?_)
                  refine lv_if_eq (tgt := 230) hx hb dX12_readsPages_223 (by decide) (fun c42 => ?_) (fun c42 => ?_)
                  · have hf := itp c42 hf
                    refine lv_iconst (v := 0) hx hb dX12_readsPages_230 (by decide) ?_
                    exact retZ X hr hk Z (by decide) hf dX12_readsPages_231
                  · have hf := itn c42 hf
                    refine lv_iconst (v := 1) hx hb dX12_readsPages_226 (by decide) ?_
                    refine lv_goto (tgt := 231) hx hb dX12_readsPages_227 (by decide) ?_
                    exact retZ X hr hk Z (by decide) hf dX12_readsPages_231
              · have hf := itn c35 hf
                refine lv_aload_n hx hb dX12_readsPages_178 rfl (lv_at hl 2 rfl) ?_
                refine lv_bipush (v := 9) hx hb dX12_readsPages_179 (by decide) ?_
                refine lv_lload_n hx hb dX12_readsPages_181 rfl (lv_at hl 4 rfl) ?_
                refine lv_ldc2 (v := 8) hx hb X.o (X.t _ kc_RX12_361) dX12_readsPages_182 ?_
                refine lv_ladd hx hb dX12_readsPages_185 ?_
                obtain ⟨r45, s44, h43, hf⟩ := bi_s hf
                refine goI Z (run_V (As := [.int (9 : Int32), .long ((a2 + (8 : Int64)))]) (rest := []) X Z (c_X12_bad l D h cy (9 : Int32) ((a2 + (8 : Int64))) s31 (r45, s44) h43 _) lk_RX12_321 ⟨by decide, by decide⟩ rv_68 rfl hl.1 rfl (Nat.le_of_ble_eq_true rfl) ⟨Nat.le_refl _, Nat.le_refl _⟩ dX12_readsPages_186) (fun H locs Z => ?_)
                obtain ⟨g46, hf⟩ := gd_s hf
                exact retZ X hr hk Z g46 hf dX12_readsPages_189
            · have hf := itp c29 hf
              refine lv_iconst (v := 0) hx hb dX12_readsPages_150 (by decide) ?_
              exact retZ X hr hk Z (by decide) hf dX12_readsPages_151
          · have hf := itn c25 hf
            refine lv_aload_n hx hb dX12_readsPages_126 rfl (lv_at hl 2 rfl) ?_
            refine lv_bipush (v := 9) hx hb dX12_readsPages_127 (by decide) ?_
            refine lv_lload_n hx hb dX12_readsPages_129 rfl (lv_at hl 4 rfl) ?_
            refine lv_ldc2 (v := 6) hx hb X.o (X.t _ kc_RX12_286) dX12_readsPages_130 ?_
            refine lv_ladd hx hb dX12_readsPages_133 ?_
            obtain ⟨r49, s48, h47, hf⟩ := bi_s hf
            refine goI Z (run_V (As := [.int (9 : Int32), .long ((a2 + (6 : Int64)))]) (rest := []) X Z (c_X12_bad l D h cy (9 : Int32) ((a2 + (6 : Int64))) s23 (r49, s48) h47 _) lk_RX12_321 ⟨by decide, by decide⟩ rv_68 rfl hl.1 rfl (Nat.le_of_ble_eq_true rfl) ⟨Nat.le_refl _, Nat.le_refl _⟩ dX12_readsPages_134) (fun H locs Z => ?_)
            obtain ⟨g50, hf⟩ := gd_s hf
            exact retZ X hr hk Z g50 hf dX12_readsPages_137
        · have hf := itp c21 hf
          refine lv_aload_n hx hb dX12_readsPages_101 rfl (lv_at hl 2 rfl) ?_
          refine lv_bipush (v := 9) hx hb dX12_readsPages_102 (by decide) ?_
          refine lv_lload_n hx hb dX12_readsPages_104 rfl (lv_at hl 4 rfl) ?_
          refine lv_ldc2 (v := 4) hx hb X.o (X.t _ kc_RX12_311) dX12_readsPages_105 ?_
          refine lv_ladd hx hb dX12_readsPages_108 ?_
          obtain ⟨r53, s52, h51, hf⟩ := bi_s hf
          refine goI Z (run_V (As := [.int (9 : Int32), .long ((a2 + (4 : Int64)))]) (rest := []) X Z (c_X12_bad l D h cy (9 : Int32) ((a2 + (4 : Int64))) s19 (r53, s52) h51 _) lk_RX12_321 ⟨by decide, by decide⟩ rv_68 rfl hl.1 rfl (Nat.le_of_ble_eq_true rfl) ⟨Nat.le_refl _, Nat.le_refl _⟩ dX12_readsPages_109) (fun H locs Z => ?_)
          obtain ⟨g54, hf⟩ := gd_s hf
          exact retZ X hr hk Z g54 hf dX12_readsPages_112
      · have hf := itn c14 hf
        exact b_X12_readsPages_73 X hr hk a2 s7 _ hf _ _ _ Z (lv_sub hl [1, 3] rfl)
  · have hf := itn c1 hf
    refine lv_aload_n hx hb dX12_readsPages_13 rfl (lv_at hl 0 rfl) ?_
    refine lv_bipush (v := 9) hx hb dX12_readsPages_14 (by decide) ?_
    refine lv_lload hx hb dX12_readsPages_16 (lv_at hl 3 rfl) ?_
    obtain ⟨r57, s56, h55, hf⟩ := bi_s hf
    refine goI Z (run_V (As := [.int (9 : Int32), .long a3]) (rest := []) X Z (c_X12_bad l D h cy (9 : Int32) a3 σ (r57, s56) h55 _) lk_RX12_321 ⟨by decide, by decide⟩ rv_68 rfl hl.1 rfl (Nat.le_of_ble_eq_true rfl) ⟨Nat.le_refl _, Nat.le_refl _⟩ dX12_readsPages_18) (fun H locs Z => ?_)
    obtain ⟨g58, hf⟩ := gd_s hf
    exact retZ X hr hk Z g58 hf dX12_readsPages_21
