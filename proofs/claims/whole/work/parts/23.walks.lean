set_option maxRecDepth 100000 in
set_option maxHeartbeats 4000000 in
theorem c_X10_addStrings (l : Launch) (D : va_G) (h : Nat → Nat) (cy : Nat → ClassId) (σ : St) (y : St) (hf : f_X10_addStrings σ = some y) : CV l yX10_addStrings cX10_addStrings 1 none 4 105 D h cy [.ref (h 30)] σ y := by
  refine ent (Qc := fun sz => QV D h cy sz y) (by decide) (Nat.le_of_ble_eq_true rfl) ?_
  intro p e s m below meth c ls X Z hr hk hl
  have X : Cx p s m _ c D h cy RX10 cX10_addStrings 1 := X
  have hx := X.x
  have hb := X.b
  have hl : lv_has ls 1 [(0, .ref (h 30))] := hl
  unfold f_X10_addStrings at hf
  refine lv_aload_n hx hb dX10_addStrings_0 rfl (lv_at hl 0 rfl) ?_
  refine gf_RX10_15 X Z dX10_addStrings_1 ?_
  refine lv_bipush (v := 8) hx hb dX10_addStrings_4 (by decide) ?_
  obtain ⟨s2, h1, hf⟩ := bv_s hf
  refine goV Z (run_V (As := [.int (8 : Int32)]) (rest := []) X Z (c_X6_fillUp l D h cy row_3 (8 : Int32) σ s2 h1 _) lk_RX10_177 ⟨by decide, by decide⟩ (rv_RowS row_3) rfl hl.1 rfl (Nat.le_of_ble_eq_true rfl) ⟨Nat.le_refl _, Nat.le_refl _⟩ dX10_addStrings_6) (fun H locs Z => ?_)
  refine lv_aload_n hx hb dX10_addStrings_9 rfl (lv_at hl 0 rfl) ?_
  refine gf_RX10_15 X Z dX10_addStrings_10 ?_
  refine lv_iconst (v := 1) hx hb dX10_addStrings_13 (by decide) ?_
  obtain ⟨s4, h3, hf⟩ := bv_s hf
  refine goV Z (run_V (As := [.int (1 : Int32)]) (rest := []) X Z (c_X6_addZeros l D h cy row_3 (1 : Int32) s2 s4 h3 _) lk_RX10_166 ⟨by decide, by decide⟩ (rv_RowS row_3) rfl hl.1 rfl (Nat.le_of_ble_eq_true rfl) ⟨Nat.le_refl _, Nat.le_refl _⟩ dX10_addStrings_14) (fun H locs Z => ?_)
  refine lv_aload_n hx hb dX10_addStrings_17 rfl (lv_at hl 0 rfl) ?_
  refine gf_RX10_9 X Z dX10_addStrings_18 ?_
  refine gf_RX10_46 X Z dX10_addStrings_21 ?_
  refine lv_aload_n hx hb dX10_addStrings_24 rfl (lv_at hl 0 rfl) ?_
  refine gf_RX10_15 X Z dX10_addStrings_25 ?_
  obtain ⟨s6, h5, hf⟩ := bv_s hf
  refine goV Z (run_V (As := [.ref (h 3)]) (rest := []) X Z (c_X5_addAllTo l D h cy names_18 row_3 s4 s6 h5 _) lk_RX10_211 ⟨by decide, by decide⟩ (rv_NamesS names_18) rfl hl.1 rfl (Nat.le_of_ble_eq_true rfl) ⟨Nat.le_refl _, Nat.le_refl _⟩ dX10_addStrings_28) (fun H locs Z => ?_)
  exact retV X hr hk Z hf dX10_addStrings_31

set_option maxRecDepth 100000 in
set_option maxHeartbeats 4000000 in
theorem b_X10_threaded_45 {p : Program} {l : Launch} {e : Env} {s : State} {m : MethodId} {args : Array Value} {below : List Frame} {meth : Method} {c : Code} {D : va_G} {h : Nat → Nat} {cy : Nat → ClassId} (X : Cx p s m args c D h cy RX10 cX10_threaded 7) (hr : meth.sig.returnType = some .long) (hk : meth.locks = false) (x1 : Int32) (x2 : Int32) (t0 : Int64) (σ : St) (y : Int64 × St) (hf : f_X10_threaded_45 x1 x2 t0 σ = some y) : ∀ (H : Heap) (locs : List Loc) (ls : Array Slot), Zt D h cy s σ H locs → lv_has ls 7 [(0, .ref (h 30)), (1, .int x1), (2, .int x2)] → W p l e (rmz 3 68) s m args below meth c H locs 0 0 (EL below args s D h cy y) (F0 m 45 ls [.long t0]) := by
  intro H locs ls Z hl
  have hx := X.x
  have hb := X.b
  unfold f_X10_threaded_45 at hf
  refine lv_lstore (lv' := [(5, .long t0), (0, .ref (h 30)), (1, .int x1), (2, .int x2)]) hx hb dX10_threaded_45 hl (by decide) rfl (fun ls hl => ?_)
  refine lv_aload_n hx hb dX10_threaded_47 rfl (lv_at hl 1 rfl) ?_
  refine gf_RX10_9 X Z dX10_threaded_48 ?_
  refine lv_iload_n hx hb dX10_threaded_51 rfl (lv_at hl 2 rfl) ?_
  refine lv_iload_n hx hb dX10_threaded_52 rfl (lv_at hl 3 rfl) ?_
  obtain ⟨r10, s9, h8, hf⟩ := bi_s hf
  refine goL Z (run_V (As := [.int x1, .int x2]) (rest := []) X Z (c_X8_bitsAt l D h cy x1 x2 σ (r10, s9) h8 _) lk_RX10_200 ⟨by decide, by decide⟩ rv_5 rfl hl.1 rfl (Nat.le_of_ble_eq_true rfl) ⟨Nat.le_refl _, Nat.le_refl _⟩ dX10_threaded_53) (fun H locs Z => ?_)
  refine lv_lload hx hb dX10_threaded_56 (lv_at hl 0 rfl) ?_
  refine lv_bipush (v := 51) hx hb dX10_threaded_58 (by decide) ?_
  refine lv_lshl (v := zlshl t0 (51 : Int32)) hx hb dX10_threaded_60 rfl ?_
  refine lv_lor hx hb dX10_threaded_61 ?_
  exact retL X hr hk Z hf dX10_threaded_62

set_option maxRecDepth 100000 in
set_option maxHeartbeats 4000000 in
theorem c_X10_threaded (l : Launch) (D : va_G) (h : Nat → Nat) (cy : Nat → ClassId) (a1 : Int32) (a2 : Int32) (σ : St) (y : Int64 × St) (hf : f_X10_threaded a1 a2 σ = some y) : CL l yX10_threaded cX10_threaded 7 (some .long) 3 68 D h cy [.ref (h 30), .int a1, .int a2] σ y := by
  refine ent (Qc := fun sz => QL D h cy sz y) (by decide) (Nat.le_of_ble_eq_true rfl) ?_
  intro p e s m below meth c ls X Z hr hk hl
  have X : Cx p s m _ c D h cy RX10 cX10_threaded 7 := X
  have hx := X.x
  have hb := X.b
  have hl : lv_has ls 7 [(0, .ref (h 30)), (1, .int a1), (2, .int a2)] := hl
  unfold f_X10_threaded at hf
  refine lv_iload_n hx hb dX10_threaded_0 rfl (lv_at hl 2 rfl) ?_
  refine lv_iconst (v := 1) hx hb dX10_threaded_1 (by decide) ?_
  refine lv_iadd hx hb dX10_threaded_2 ?_
  refine lv_aload_n hx hb dX10_threaded_3 rfl (lv_at hl 0 rfl) ?_
  refine gf_RX10_9 X Z dX10_threaded_4 ?_
  refine gf_RX10_109 X Z dX10_threaded_7 ?_
  obtain ⟨r3, s2, h1, hf⟩ := bi_s hf
  refine goI Z (run_N (As := [.int ((a2 + (1 : Int32))), .int (σ.1 5 1)]) (rest := []) X Z (c_X11_filledUp l D h cy ((a2 + (1 : Int32))) (σ.1 5 1) σ (r3, s2) h1 _) lk_RX10_39 ⟨by decide, by decide⟩ rfl hl.1 rfl (Nat.le_of_ble_eq_true rfl) ⟨Nat.le_refl _, Nat.le_refl _⟩ dX10_threaded_10) (fun H locs Z => ?_)
  refine lv_istore_n (lv' := [(3, .int r3), (0, .ref (h 30)), (1, .int a1), (2, .int a2)]) hx hb dX10_threaded_13 rfl hl (by decide) rfl (fun ls hl => ?_)
  refine lv_aload_n hx hb dX10_threaded_14 rfl (lv_at hl 1 rfl) ?_
  refine gf_RX10_9 X Z dX10_threaded_15 ?_
  refine lv_iload_n hx hb dX10_threaded_18 rfl (lv_at hl 2 rfl) ?_
  refine lv_iload_n hx hb dX10_threaded_19 rfl (lv_at hl 3 rfl) ?_
  refine lv_iconst (v := 4) hx hb dX10_threaded_20 (by decide) ?_
  refine lv_iadd hx hb dX10_threaded_21 ?_
  refine lv_iload_n hx hb dX10_threaded_22 rfl (lv_at hl 0 rfl) ?_
  obtain ⟨r6, s5, h4, hf⟩ := bi_s hf
  refine goI Z (run_V (As := [.int a1, .int ((a2 + (4 : Int32))), .int r3]) (rest := []) X Z (c_X8_firstPointer l D h cy a1 ((a2 + (4 : Int32))) r3 s2 (r6, s5) h4 _) lk_RX10_101 ⟨by decide, by decide⟩ rv_5 rfl hl.1 rfl (Nat.le_of_ble_eq_true rfl) ⟨Nat.le_refl _, Nat.le_refl _⟩ dX10_threaded_23) (fun H locs Z => ?_)
  refine lv_istore (lv' := [(4, .int r6), (3, .int r3), (0, .ref (h 30)), (1, .int a1), (2, .int a2)]) hx hb dX10_threaded_26 hl (by decide) rfl (fun ls hl => ?_)
  refine lv_iload hx hb dX10_threaded_28 (lv_at hl 0 rfl) ?_
  refine lv_iconst (v := (-1)) hx hb dX10_threaded_30 (by decide) ?_
  refine lv_icmp_ne (tgt := 38) hx hb dX10_threaded_31 (by decide) (fun c7 => ?_) (fun c7 => ?_)
  · have hf := itn c7 hf
    refine lv_iload hx hb dX10_threaded_38 (lv_at hl 0 rfl) ?_
    refine lv_iload_n hx hb dX10_threaded_40 rfl (lv_at hl 4 rfl) ?_
    refine lv_isub hx hb dX10_threaded_41 ?_
    refine lv_iconst (v := 4) hx hb dX10_threaded_42 (by decide) ?_
    refine lv_idiv hx hb dX10_threaded_43 (by decide) ?_
    refine lv_i2l (v := (((r6 - a2) / (4 : Int32))).toInt64) hx hb dX10_threaded_44 rfl ?_
    exact b_X10_threaded_45 X hr hk a1 a2 ((((r6 - a2) / (4 : Int32))).toInt64) s5 _ hf _ _ _ Z (lv_sub hl [2, 3, 4] rfl)
  · have hf := itp c7 hf
    refine lv_lconst (v := 0) hx hb dX10_threaded_34 (by decide) ?_
    refine lv_goto (tgt := 45) hx hb dX10_threaded_35 (by decide) ?_
    exact b_X10_threaded_45 X hr hk a1 a2 (0 : Int64) s5 _ hf _ _ _ Z (lv_sub hl [2, 3, 4] rfl)

set_option maxRecDepth 100000 in
set_option maxHeartbeats 4000000 in
theorem b_X10_addContents_87 {p : Program} {l : Launch} {e : Env} {s : State} {m : MethodId} {args : Array Value} {below : List Frame} {meth : Method} {c : Code} {D : va_G} {h : Nat → Nat} {cy : Nat → ClassId} (X : Cx p s m args c D h cy RX10 cX10_addContents 3) (hr : meth.sig.returnType = none) (hk : meth.locks = false) (K39 : (Int32 × Int32 × St) → Option (St)) (hK39 : ∀ (a : Int32 × Int32 × St) (y : St), K39 a = some y → ∀ (H : Heap) (locs : List Loc) (ls : Array Slot), Zt D h cy s a.2.2 H locs → lv_has ls 3 [(0, .ref (h 30)), (1, .int a.1), (2, .int a.2.1)] → W p l e (rmz 4 94) s m args below meth c H locs 0 0 (EV below args s D h cy y) (F0 m 39 ls [])) (x1 : Int32) (x2 : Int32) (σ : St) (y : St) (hf : f_X10_addContents_87 K39 x1 x2 σ = some y) : ∀ (H : Heap) (locs : List Loc) (ls : Array Slot), Zt D h cy s σ H locs → lv_has ls 3 [(0, .ref (h 30)), (1, .int x1), (2, .int x2)] → W p l e (rmz 4 94) s m args below meth c H locs 0 0 (EV below args s D h cy y) (F0 m 87 ls []) := by
  intro H locs ls Z hl
  have hx := X.x
  have hb := X.b
  unfold f_X10_addContents_87 at hf
  obtain ⟨v13, ev13⟩ : ∃ z : Int32, z = x2 + 4 := ⟨_, rfl⟩
  have hf := zn_e ev13 hf
  refine lv_iinc (v := v13) (lv' := [(2, .int v13), (0, .ref (h 30)), (1, .int x1)]) hx hb dX10_addContents_87 hl (k := 2) rfl (by rw [ev13]; rfl) (by decide) rfl (fun ls hl => ?_)
  refine lv_goto (tgt := 39) hx hb dX10_addContents_90 (by decide) ?_
  exact hK39 (x1, v13, σ) _ hf _ _ _ Z (lv_sub hl [1, 2, 0] rfl)

set_option maxRecDepth 100000 in
set_option maxHeartbeats 4000000 in
theorem b_X10_addContents_39b {p : Program} {l : Launch} {e : Env} {s : State} {m : MethodId} {args : Array Value} {below : List Frame} {meth : Method} {c : Code} {D : va_G} {h : Nat → Nat} {cy : Nat → ClassId} (X : Cx p s m args c D h cy RX10 cX10_addContents 3) (hr : meth.sig.returnType = none) (hk : meth.locks = false) (K39 : (Int32 × Int32 × St) → Option (St)) (hK39 : ∀ (a : Int32 × Int32 × St) (y : St), K39 a = some y → ∀ (H : Heap) (locs : List Loc) (ls : Array Slot), Zt D h cy s a.2.2 H locs → lv_has ls 3 [(0, .ref (h 30)), (1, .int a.1), (2, .int a.2.1)] → W p l e (rmz 4 94) s m args below meth c H locs 0 0 (EV below args s D h cy y) (F0 m 39 ls [])) (x1 : Int32) (x2 : Int32) (σ : St) (y : St) (hf : f_X10_addContents_39b K39 x1 x2 σ = some y) : ∀ (H : Heap) (locs : List Loc) (ls : Array Slot), Zt D h cy s σ H locs → lv_has ls 3 [(0, .ref (h 30)), (1, .int x1), (2, .int x2)] → W p l e (rmz 4 94) s m args below meth c H locs 0 0 (EV below args s D h cy y) (F0 m 39 ls []) := by
  intro H locs ls Z hl
  have hx := X.x
  have hb := X.b
  unfold f_X10_addContents_39b at hf
  refine lv_iload_n hx hb dX10_addContents_39 rfl (lv_at hl 2 rfl) ?_
  refine lv_aload_n hx hb dX10_addContents_40 rfl (lv_at hl 0 rfl) ?_
  refine gf_RX10_9 X Z dX10_addContents_41 ?_
  refine gf_RX10_98 X Z dX10_addContents_44 ?_
  refine lv_iload_n hx hb dX10_addContents_47 rfl (lv_at hl 1 rfl) ?_
  obtain ⟨g7, hf⟩ := gd_s hf
  refine x_iald (k := 9) X Z sh_9 g7 dX10_addContents_48 ?_
  refine lv_icmp_ge (tgt := 93) hx hb dX10_addContents_49 (by decide) (fun c8 => ?_) (fun c8 => ?_)
  · have hf := itp c8 hf
    exact retV X hr hk Z hf dX10_addContents_93
  · have hf := itn c8 hf
    refine lv_aload_n hx hb dX10_addContents_52 rfl (lv_at hl 0 rfl) ?_
    refine gf_RX10_9 X Z dX10_addContents_53 ?_
    refine lv_iload_n hx hb dX10_addContents_56 rfl (lv_at hl 1 rfl) ?_
    refine lv_iload_n hx hb dX10_addContents_57 rfl (lv_at hl 2 rfl) ?_
    obtain ⟨r11, s10, h9, hf⟩ := bi_s hf
    refine goI Z (run_V (As := [.int x1, .int x2]) (rest := []) X Z (c_X8_hasPointer l D h cy x1 x2 σ (r11, s10) h9 _) lk_RX10_188 ⟨by decide, by decide⟩ rv_5 rfl hl.1 rfl (Nat.le_of_ble_eq_true rfl) ⟨Nat.le_refl _, Nat.le_refl _⟩ dX10_addContents_58) (fun H locs Z => ?_)
    refine lv_if_eq (tgt := 87) hx hb dX10_addContents_61 (by decide) (fun c12 => ?_) (fun c12 => ?_)
    · have hf := itp c12 hf
      exact b_X10_addContents_87 X hr hk K39 hK39 x1 x2 s10 _ hf _ _ _ Z (lv_sub hl [0, 1, 2] rfl)
    · have hf := itn c12 hf
      refine lv_aload_n hx hb dX10_addContents_64 rfl (lv_at hl 0 rfl) ?_
      refine gf_RX10_15 X Z dX10_addContents_65 ?_
      refine lv_aload_n hx hb dX10_addContents_68 rfl (lv_at hl 0 rfl) ?_
      refine gf_RX10_19 X Z dX10_addContents_69 ?_
      refine lv_iload_n hx hb dX10_addContents_72 rfl (lv_at hl 1 rfl) ?_
      obtain ⟨g14, hf⟩ := gd_s hf
      refine x_iald (k := 31) X Z sh_31 g14 dX10_addContents_73 ?_
      refine lv_iload_n hx hb dX10_addContents_74 rfl (lv_at hl 2 rfl) ?_
      refine lv_iadd hx hb dX10_addContents_75 ?_
      refine lv_bipush (v := 8) hx hb dX10_addContents_76 (by decide) ?_
      refine lv_aload_n hx hb dX10_addContents_78 rfl (lv_at hl 0 rfl) ?_
      refine lv_iload_n hx hb dX10_addContents_79 rfl (lv_at hl 1 rfl) ?_
      refine lv_iload_n hx hb dX10_addContents_80 rfl (lv_at hl 2 rfl) ?_
      obtain ⟨r17, s16, h15, hf⟩ := bi_s hf
      refine goL Z (run_V (As := [.int x1, .int x2]) (rest := [.int (8 : Int32), .int (((s10.1 31 x1.toNatClampNeg) + x2)), .ref (h 3)]) X Z (c_X10_threaded l D h cy x1 x2 s10 (r17, s16) h15 _) lk_RX10_192 ⟨by decide, by decide⟩ rv_30 rfl hl.1 rfl (Nat.le_of_ble_eq_true rfl) ⟨Nat.le_refl _, Nat.le_refl _⟩ dX10_addContents_81) (fun H locs Z => ?_)
      obtain ⟨s19, h18, hf⟩ := bv_s hf
      refine goV Z (run_V (As := [.int (((s10.1 31 x1.toNatClampNeg) + x2)), .int (8 : Int32), .long r17]) (rest := []) X Z (c_X6_put l D h cy row_3 (((s10.1 31 x1.toNatClampNeg) + x2)) (8 : Int32) r17 s16 s19 h18 _) lk_RX10_196 ⟨by decide, by decide⟩ (rv_RowS row_3) rfl hl.1 rfl (Nat.le_of_ble_eq_true rfl) ⟨Nat.le_refl _, Nat.le_refl _⟩ dX10_addContents_84) (fun H locs Z => ?_)
      exact b_X10_addContents_87 X hr hk K39 hK39 x1 x2 s19 _ hf _ _ _ Z (lv_sub hl [0, 1, 2] rfl)

set_option maxRecDepth 100000 in
set_option maxHeartbeats 4000000 in
theorem b_X10_addContents_39 {p : Program} {l : Launch} {e : Env} {s : State} {m : MethodId} {args : Array Value} {below : List Frame} {meth : Method} {c : Code} {D : va_G} {h : Nat → Nat} {cy : Nat → ClassId} (X : Cx p s m args c D h cy RX10 cX10_addContents 3) (hr : meth.sig.returnType = none) (hk : meth.locks = false) (x1 : Int32) (x2 : Int32) (σ : St) (y : St) (hf : f_X10_addContents_39 x1 x2 σ = some y) : ∀ (H : Heap) (locs : List Loc) (ls : Array Slot), Zt D h cy s σ H locs → lv_has ls 3 [(0, .ref (h 30)), (1, .int x1), (2, .int x2)] → W p l e (rmz 4 94) s m args below meth c H locs 0 0 (EV below args s D h cy y) (F0 m 39 ls []) := by
  exact it_W (F := fun K a => f_X10_addContents_39b K a.1 a.2.1 a.2.2) (P := fun a y => ∀ (H : Heap) (locs : List Loc) (ls : Array Slot), Zt D h cy s a.2.2 H locs → lv_has ls 3 [(0, .ref (h 30)), (1, .int a.1), (2, .int a.2.1)] → W p l e (rmz 4 94) s m args below meth c H locs 0 0 (EV below args s D h cy y) (F0 m 39 ls [])) (fun K hK a y hf => b_X10_addContents_39b X hr hk K hK (a.1) (a.2.1) (a.2.2) y hf) FU _ y hf

set_option maxRecDepth 100000 in
set_option maxHeartbeats 4000000 in
theorem c_X10_addContents (l : Launch) (D : va_G) (h : Nat → Nat) (cy : Nat → ClassId) (a1 : Int32) (σ : St) (y : St) (hf : f_X10_addContents a1 σ = some y) : CV l yX10_addContents cX10_addContents 3 none 4 94 D h cy [.ref (h 30), .int a1] σ y := by
  refine ent (Qc := fun sz => QV D h cy sz y) (by decide) (Nat.le_of_ble_eq_true rfl) ?_
  intro p e s m below meth c ls X Z hr hk hl
  have X : Cx p s m _ c D h cy RX10 cX10_addContents 3 := X
  have hx := X.x
  have hb := X.b
  have hl : lv_has ls 3 [(0, .ref (h 30)), (1, .int a1)] := hl
  unfold f_X10_addContents at hf
  refine lv_aload_n hx hb dX10_addContents_0 rfl (lv_at hl 0 rfl) ?_
  refine gf_RX10_15 X Z dX10_addContents_1 ?_
  refine lv_bipush (v := 8) hx hb dX10_addContents_4 (by decide) ?_
  obtain ⟨s2, h1, hf⟩ := bv_s hf
  refine goV Z (run_V (As := [.int (8 : Int32)]) (rest := []) X Z (c_X6_fillUp l D h cy row_3 (8 : Int32) σ s2 h1 _) lk_RX10_177 ⟨by decide, by decide⟩ (rv_RowS row_3) rfl hl.1 rfl (Nat.le_of_ble_eq_true rfl) ⟨Nat.le_refl _, Nat.le_refl _⟩ dX10_addContents_6) (fun H locs Z => ?_)
  refine lv_aload_n hx hb dX10_addContents_9 rfl (lv_at hl 0 rfl) ?_
  refine gf_RX10_15 X Z dX10_addContents_10 ?_
  refine lv_aload_n hx hb dX10_addContents_13 rfl (lv_at hl 0 rfl) ?_
  refine gf_RX10_9 X Z dX10_addContents_14 ?_
  refine gf_RX10_180 X Z dX10_addContents_17 ?_
  refine lv_iload_n hx hb dX10_addContents_20 rfl (lv_at hl 1 rfl) ?_
  refine lv_sipush (v := 1024) hx hb dX10_addContents_21 (by decide) ?_
  refine lv_imul hx hb dX10_addContents_24 ?_
  refine lv_aload_n hx hb dX10_addContents_25 rfl (lv_at hl 0 rfl) ?_
  refine gf_RX10_9 X Z dX10_addContents_26 ?_
  refine gf_RX10_98 X Z dX10_addContents_29 ?_
  refine lv_iload_n hx hb dX10_addContents_32 rfl (lv_at hl 1 rfl) ?_
  obtain ⟨g3, hf⟩ := gd_s hf
  refine x_iald (k := 9) X Z sh_9 g3 dX10_addContents_33 ?_
  obtain ⟨s5, h4, hf⟩ := bv_s hf
  refine goV Z (run_V (As := [.ref (h 11), .int ((a1 * (1024 : Int32))), .int (s2.1 9 a1.toNatClampNeg)]) (rest := []) X Z (c_X6_addFrom l D h cy row_3 sh_11 ((a1 * (1024 : Int32))) (s2.1 9 a1.toNatClampNeg) s2 s5 h4 _) lk_RX10_184 ⟨by decide, by decide⟩ (rv_RowS row_3) rfl hl.1 rfl (Nat.le_of_ble_eq_true rfl) ⟨Nat.le_refl _, Nat.le_refl _⟩ dX10_addContents_34) (fun H locs Z => ?_)
  refine lv_iconst (v := 0) hx hb dX10_addContents_37 (by decide) ?_
  refine lv_topi (fun v6 ev6 => ?_)
  have hf := zn_e ev6 hf
  refine lv_istore_n (lv' := [(2, .int v6), (0, .ref (h 30)), (1, .int a1)]) hx hb dX10_addContents_38 rfl hl (by decide) rfl (fun ls hl => ?_)
  exact b_X10_addContents_39 X hr hk a1 v6 s5 _ hf _ _ _ Z (lv_sub hl [1, 2, 0] rfl)

set_option maxRecDepth 100000 in
set_option maxHeartbeats 4000000 in
theorem c_X10_addSegmentCommand (l : Launch) (D : va_G) (h : Nat → Nat) (cy : Nat → ClassId) (a1 : Int32) (σ : St) (y : St) (hf : f_X10_addSegmentCommand a1 σ = some y) : CV l yX10_addSegmentCommand cX10_addSegmentCommand 3 none 3 105 D h cy [.ref (h 30), .int a1] σ y := by
  refine ent (Qc := fun sz => QV D h cy sz y) (by decide) (Nat.le_of_ble_eq_true rfl) ?_
  intro p e s m below meth c ls X Z hr hk hl
  have X : Cx p s m _ c D h cy RX10 cX10_addSegmentCommand 3 := X
  have hx := X.x
  have hb := X.b
  have hl : lv_has ls 3 [(0, .ref (h 30)), (1, .int a1)] := hl
  unfold f_X10_addSegmentCommand at hf
  refine lv_aload_n hx hb dX10_addSegmentCommand_0 rfl (lv_at hl 0 rfl) ?_
  refine gf_RX10_9 X Z dX10_addSegmentCommand_1 ?_
  refine lv_iload_n hx hb dX10_addSegmentCommand_4 rfl (lv_at hl 1 rfl) ?_
  obtain ⟨r3, s2, h1, hf⟩ := bi_s hf
  refine goI Z (run_V (As := [.int a1]) (rest := []) X Z (c_X8_sectionsOf l D h cy a1 σ (r3, s2) h1 _) lk_RX10_140 ⟨by decide, by decide⟩ rv_5 rfl hl.1 rfl (Nat.le_of_ble_eq_true rfl) ⟨Nat.le_refl _, Nat.le_refl _⟩ dX10_addSegmentCommand_5) (fun H locs Z => ?_)
  refine lv_istore_n (lv' := [(2, .int r3), (0, .ref (h 30)), (1, .int a1)]) hx hb dX10_addSegmentCommand_8 rfl hl (by decide) rfl (fun ls hl => ?_)
  refine lv_aload_n hx hb dX10_addSegmentCommand_9 rfl (lv_at hl 1 rfl) ?_
  refine gf_RX10_15 X Z dX10_addSegmentCommand_10 ?_
  refine lv_iconst (v := 4) hx hb dX10_addSegmentCommand_13 (by decide) ?_
  refine lv_ldc2 (v := 25) hx hb X.o (X.t _ kc_RX10_143) dX10_addSegmentCommand_14 ?_
  obtain ⟨s5, h4, hf⟩ := bv_s hf
  refine goV Z (run_V (As := [.int (4 : Int32), .long (25 : Int64)]) (rest := []) X Z (c_X6_add l D h cy row_3 (4 : Int32) (25 : Int64) s2 s5 h4 _) lk_RX10_130 ⟨by decide, by decide⟩ (rv_RowS row_3) rfl hl.1 rfl (Nat.le_of_ble_eq_true rfl) ⟨Nat.le_refl _, Nat.le_refl _⟩ dX10_addSegmentCommand_17) (fun H locs Z => ?_)
  refine lv_aload_n hx hb dX10_addSegmentCommand_20 rfl (lv_at hl 1 rfl) ?_
  refine gf_RX10_15 X Z dX10_addSegmentCommand_21 ?_
  refine lv_iconst (v := 4) hx hb dX10_addSegmentCommand_24 (by decide) ?_
  refine lv_bipush (v := 72) hx hb dX10_addSegmentCommand_25 (by decide) ?_
  refine lv_bipush (v := 80) hx hb dX10_addSegmentCommand_27 (by decide) ?_
  refine lv_iload_n hx hb dX10_addSegmentCommand_29 rfl (lv_at hl 0 rfl) ?_
  refine lv_imul hx hb dX10_addSegmentCommand_30 ?_
  refine lv_iadd hx hb dX10_addSegmentCommand_31 ?_
  refine lv_i2l (v := (((72 : Int32) + ((80 : Int32) * r3))).toInt64) hx hb dX10_addSegmentCommand_32 rfl ?_
  obtain ⟨s7, h6, hf⟩ := bv_s hf
  refine goV Z (run_V (As := [.int (4 : Int32), .long ((((72 : Int32) + ((80 : Int32) * r3))).toInt64)]) (rest := []) X Z (c_X6_add l D h cy row_3 (4 : Int32) ((((72 : Int32) + ((80 : Int32) * r3))).toInt64) s5 s7 h6 _) lk_RX10_130 ⟨by decide, by decide⟩ (rv_RowS row_3) rfl hl.1 rfl (Nat.le_of_ble_eq_true rfl) ⟨Nat.le_refl _, Nat.le_refl _⟩ dX10_addSegmentCommand_33) (fun H locs Z => ?_)
  refine lv_aload_n hx hb dX10_addSegmentCommand_36 rfl (lv_at hl 1 rfl) ?_
  refine gf_RX10_9 X Z dX10_addSegmentCommand_37 ?_
  refine gf_RX10_67 X Z dX10_addSegmentCommand_40 ?_
  refine lv_aload_n hx hb dX10_addSegmentCommand_43 rfl (lv_at hl 1 rfl) ?_
  refine gf_RX10_15 X Z dX10_addSegmentCommand_44 ?_
  refine lv_iload_n hx hb dX10_addSegmentCommand_47 rfl (lv_at hl 2 rfl) ?_
  obtain ⟨s9, h8, hf⟩ := bv_s hf
  refine goV Z (run_V (As := [.ref (h 3), .int a1]) (rest := []) X Z (c_X5_addFilledTo l D h cy names_6 row_3 a1 s7 s9 h8 _) lk_RX10_145 ⟨by decide, by decide⟩ (rv_NamesS names_6) rfl hl.1 rfl (Nat.le_of_ble_eq_true rfl) ⟨Nat.le_refl _, Nat.le_refl _⟩ dX10_addSegmentCommand_48) (fun H locs Z => ?_)
  refine lv_aload_n hx hb dX10_addSegmentCommand_51 rfl (lv_at hl 1 rfl) ?_
  refine gf_RX10_15 X Z dX10_addSegmentCommand_52 ?_
  refine lv_bipush (v := 8) hx hb dX10_addSegmentCommand_55 (by decide) ?_
  refine lv_aload_n hx hb dX10_addSegmentCommand_57 rfl (lv_at hl 1 rfl) ?_
  refine gf_RX10_9 X Z dX10_addSegmentCommand_58 ?_
  refine lv_iload_n hx hb dX10_addSegmentCommand_61 rfl (lv_at hl 2 rfl) ?_
  obtain ⟨r12, s11, h10, hf⟩ := bi_s hf
  refine goI Z (run_V (As := [.int a1]) (rest := [.int (8 : Int32), .ref (h 3)]) X Z (c_X8_addressOf l D h cy a1 s9 (r12, s11) h10 _) lk_RX10_149 ⟨by decide, by decide⟩ rv_5 rfl hl.1 rfl (Nat.le_of_ble_eq_true rfl) ⟨Nat.le_refl _, Nat.le_refl _⟩ dX10_addSegmentCommand_62) (fun H locs Z => ?_)
  refine lv_i2l (v := r12.toInt64) hx hb dX10_addSegmentCommand_65 rfl ?_
  obtain ⟨s14, h13, hf⟩ := bv_s hf
  refine goV Z (run_V (As := [.int (8 : Int32), .long r12.toInt64]) (rest := []) X Z (c_X6_add l D h cy row_3 (8 : Int32) r12.toInt64 s11 s14 h13 _) lk_RX10_130 ⟨by decide, by decide⟩ (rv_RowS row_3) rfl hl.1 rfl (Nat.le_of_ble_eq_true rfl) ⟨Nat.le_refl _, Nat.le_refl _⟩ dX10_addSegmentCommand_66) (fun H locs Z => ?_)
  refine lv_aload_n hx hb dX10_addSegmentCommand_69 rfl (lv_at hl 1 rfl) ?_
  refine gf_RX10_15 X Z dX10_addSegmentCommand_70 ?_
  refine lv_bipush (v := 8) hx hb dX10_addSegmentCommand_73 (by decide) ?_
  refine lv_aload_n hx hb dX10_addSegmentCommand_75 rfl (lv_at hl 1 rfl) ?_
  refine gf_RX10_9 X Z dX10_addSegmentCommand_76 ?_
  refine lv_iload_n hx hb dX10_addSegmentCommand_79 rfl (lv_at hl 2 rfl) ?_
  obtain ⟨r17, s16, h15, hf⟩ := bi_s hf
  refine goI Z (run_V (As := [.int a1]) (rest := [.int (8 : Int32), .ref (h 3)]) X Z (c_X8_spanOf l D h cy a1 s14 (r17, s16) h15 _) lk_RX10_105 ⟨by decide, by decide⟩ rv_5 rfl hl.1 rfl (Nat.le_of_ble_eq_true rfl) ⟨Nat.le_refl _, Nat.le_refl _⟩ dX10_addSegmentCommand_80) (fun H locs Z => ?_)
  refine lv_i2l (v := r17.toInt64) hx hb dX10_addSegmentCommand_83 rfl ?_
  obtain ⟨s19, h18, hf⟩ := bv_s hf
  refine goV Z (run_V (As := [.int (8 : Int32), .long r17.toInt64]) (rest := []) X Z (c_X6_add l D h cy row_3 (8 : Int32) r17.toInt64 s16 s19 h18 _) lk_RX10_130 ⟨by decide, by decide⟩ (rv_RowS row_3) rfl hl.1 rfl (Nat.le_of_ble_eq_true rfl) ⟨Nat.le_refl _, Nat.le_refl _⟩ dX10_addSegmentCommand_84) (fun H locs Z => ?_)
  refine lv_aload_n hx hb dX10_addSegmentCommand_87 rfl (lv_at hl 1 rfl) ?_
  refine gf_RX10_15 X Z dX10_addSegmentCommand_88 ?_
  refine lv_bipush (v := 8) hx hb dX10_addSegmentCommand_91 (by decide) ?_
  refine lv_aload_n hx hb dX10_addSegmentCommand_93 rfl (lv_at hl 1 rfl) ?_
  refine gf_RX10_19 X Z dX10_addSegmentCommand_94 ?_
  refine lv_iload_n hx hb dX10_addSegmentCommand_97 rfl (lv_at hl 2 rfl) ?_
  obtain ⟨g20, hf⟩ := gd_s hf
  refine x_iald (k := 31) X Z sh_31 g20 dX10_addSegmentCommand_98 ?_
  refine lv_i2l (v := (s19.1 31 a1.toNatClampNeg).toInt64) hx hb dX10_addSegmentCommand_99 rfl ?_
  obtain ⟨s22, h21, hf⟩ := bv_s hf
  refine goV Z (run_V (As := [.int (8 : Int32), .long ((s19.1 31 a1.toNatClampNeg).toInt64)]) (rest := []) X Z (c_X6_add l D h cy row_3 (8 : Int32) ((s19.1 31 a1.toNatClampNeg).toInt64) s19 s22 h21 _) lk_RX10_130 ⟨by decide, by decide⟩ (rv_RowS row_3) rfl hl.1 rfl (Nat.le_of_ble_eq_true rfl) ⟨Nat.le_refl _, Nat.le_refl _⟩ dX10_addSegmentCommand_100) (fun H locs Z => ?_)
  refine lv_aload_n hx hb dX10_addSegmentCommand_103 rfl (lv_at hl 1 rfl) ?_
  refine gf_RX10_15 X Z dX10_addSegmentCommand_104 ?_
  refine lv_bipush (v := 8) hx hb dX10_addSegmentCommand_107 (by decide) ?_
  refine lv_aload_n hx hb dX10_addSegmentCommand_109 rfl (lv_at hl 1 rfl) ?_
  refine gf_RX10_9 X Z dX10_addSegmentCommand_110 ?_
  refine gf_RX10_98 X Z dX10_addSegmentCommand_113 ?_
  refine lv_iload_n hx hb dX10_addSegmentCommand_116 rfl (lv_at hl 2 rfl) ?_
  obtain ⟨g23, hf⟩ := gd_s hf
  refine x_iald (k := 9) X Z sh_9 g23 dX10_addSegmentCommand_117 ?_
  refine lv_i2l (v := (s22.1 9 a1.toNatClampNeg).toInt64) hx hb dX10_addSegmentCommand_118 rfl ?_
  obtain ⟨s25, h24, hf⟩ := bv_s hf
  refine goV Z (run_V (As := [.int (8 : Int32), .long ((s22.1 9 a1.toNatClampNeg).toInt64)]) (rest := []) X Z (c_X6_add l D h cy row_3 (8 : Int32) ((s22.1 9 a1.toNatClampNeg).toInt64) s22 s25 h24 _) lk_RX10_130 ⟨by decide, by decide⟩ (rv_RowS row_3) rfl hl.1 rfl (Nat.le_of_ble_eq_true rfl) ⟨Nat.le_refl _, Nat.le_refl _⟩ dX10_addSegmentCommand_119) (fun H locs Z => ?_)
  refine lv_aload_n hx hb dX10_addSegmentCommand_122 rfl (lv_at hl 1 rfl) ?_
  refine gf_RX10_15 X Z dX10_addSegmentCommand_123 ?_
  refine lv_iconst (v := 4) hx hb dX10_addSegmentCommand_126 (by decide) ?_
  refine lv_ldc2 (v := 7) hx hb X.o (X.t _ kc_RX10_152) dX10_addSegmentCommand_127 ?_
  obtain ⟨s27, h26, hf⟩ := bv_s hf
  refine goV Z (run_V (As := [.int (4 : Int32), .long (7 : Int64)]) (rest := []) X Z (c_X6_add l D h cy row_3 (4 : Int32) (7 : Int64) s25 s27 h26 _) lk_RX10_130 ⟨by decide, by decide⟩ (rv_RowS row_3) rfl hl.1 rfl (Nat.le_of_ble_eq_true rfl) ⟨Nat.le_refl _, Nat.le_refl _⟩ dX10_addSegmentCommand_130) (fun H locs Z => ?_)
  refine lv_aload_n hx hb dX10_addSegmentCommand_133 rfl (lv_at hl 1 rfl) ?_
  refine gf_RX10_15 X Z dX10_addSegmentCommand_134 ?_
  refine lv_iconst (v := 4) hx hb dX10_addSegmentCommand_137 (by decide) ?_
  refine lv_aload_n hx hb dX10_addSegmentCommand_138 rfl (lv_at hl 1 rfl) ?_
  refine gf_RX10_9 X Z dX10_addSegmentCommand_139 ?_
  refine gf_RX10_154 X Z dX10_addSegmentCommand_142 ?_
  refine lv_iload_n hx hb dX10_addSegmentCommand_145 rfl (lv_at hl 2 rfl) ?_
  obtain ⟨g28, hf⟩ := gd_s hf
  refine x_iald (k := 10) X Z sh_10 g28 dX10_addSegmentCommand_146 ?_
  refine lv_i2l (v := (s27.1 10 a1.toNatClampNeg).toInt64) hx hb dX10_addSegmentCommand_147 rfl ?_
  obtain ⟨s30, h29, hf⟩ := bv_s hf
  refine goV Z (run_V (As := [.int (4 : Int32), .long ((s27.1 10 a1.toNatClampNeg).toInt64)]) (rest := []) X Z (c_X6_add l D h cy row_3 (4 : Int32) ((s27.1 10 a1.toNatClampNeg).toInt64) s27 s30 h29 _) lk_RX10_130 ⟨by decide, by decide⟩ (rv_RowS row_3) rfl hl.1 rfl (Nat.le_of_ble_eq_true rfl) ⟨Nat.le_refl _, Nat.le_refl _⟩ dX10_addSegmentCommand_148) (fun H locs Z => ?_)
  refine lv_aload_n hx hb dX10_addSegmentCommand_151 rfl (lv_at hl 1 rfl) ?_
  refine gf_RX10_15 X Z dX10_addSegmentCommand_152 ?_
  refine lv_iconst (v := 4) hx hb dX10_addSegmentCommand_155 (by decide) ?_
  refine lv_iload_n hx hb dX10_addSegmentCommand_156 rfl (lv_at hl 0 rfl) ?_
  refine lv_i2l (v := r3.toInt64) hx hb dX10_addSegmentCommand_157 rfl ?_
  obtain ⟨s32, h31, hf⟩ := bv_s hf
  refine goV Z (run_V (As := [.int (4 : Int32), .long r3.toInt64]) (rest := []) X Z (c_X6_add l D h cy row_3 (4 : Int32) r3.toInt64 s30 s32 h31 _) lk_RX10_130 ⟨by decide, by decide⟩ (rv_RowS row_3) rfl hl.1 rfl (Nat.le_of_ble_eq_true rfl) ⟨Nat.le_refl _, Nat.le_refl _⟩ dX10_addSegmentCommand_158) (fun H locs Z => ?_)
  refine lv_aload_n hx hb dX10_addSegmentCommand_161 rfl (lv_at hl 1 rfl) ?_
  refine gf_RX10_15 X Z dX10_addSegmentCommand_162 ?_
  refine lv_iconst (v := 4) hx hb dX10_addSegmentCommand_165 (by decide) ?_
  refine lv_lconst (v := 0) hx hb dX10_addSegmentCommand_166 (by decide) ?_
  obtain ⟨s34, h33, hf⟩ := bv_s hf
  refine goV Z (run_V (As := [.int (4 : Int32), .long (0 : Int64)]) (rest := []) X Z (c_X6_add l D h cy row_3 (4 : Int32) (0 : Int64) s32 s34 h33 _) lk_RX10_130 ⟨by decide, by decide⟩ (rv_RowS row_3) rfl hl.1 rfl (Nat.le_of_ble_eq_true rfl) ⟨Nat.le_refl _, Nat.le_refl _⟩ dX10_addSegmentCommand_167) (fun H locs Z => ?_)
  exact retV X hr hk Z hf dX10_addSegmentCommand_170

set_option maxRecDepth 100000 in
set_option maxHeartbeats 4000000 in
theorem b_X10_addSectionsOf_140 {p : Program} {l : Launch} {e : Env} {s : State} {m : MethodId} {args : Array Value} {below : List Frame} {meth : Method} {c : Code} {D : va_G} {h : Nat → Nat} {cy : Nat → ClassId} (X : Cx p s m args c D h cy RX10 cX10_addSectionsOf 3) (hr : meth.sig.returnType = none) (hk : meth.locks = false) (K2 : (Int32 × Int32 × St) → Option (St)) (hK2 : ∀ (a : Int32 × Int32 × St) (y : St), K2 a = some y → ∀ (H : Heap) (locs : List Loc) (ls : Array Slot), Zt D h cy s a.2.2 H locs → lv_has ls 3 [(0, .ref (h 30)), (1, .int a.1), (2, .int a.2.1)] → W p l e (rmz 3 105) s m args below meth c H locs 0 0 (EV below args s D h cy y) (F0 m 2 ls [])) (x1 : Int32) (x2 : Int32) (σ : St) (y : St) (hf : f_X10_addSectionsOf_140 K2 x1 x2 σ = some y) : ∀ (H : Heap) (locs : List Loc) (ls : Array Slot), Zt D h cy s σ H locs → lv_has ls 3 [(0, .ref (h 30)), (1, .int x1), (2, .int x2)] → W p l e (rmz 3 105) s m args below meth c H locs 0 0 (EV below args s D h cy y) (F0 m 140 ls []) := by
  intro H locs ls Z hl
  have hx := X.x
  have hb := X.b
  unfold f_X10_addSectionsOf_140 at hf
  obtain ⟨v5, ev5⟩ : ∃ z : Int32, z = x2 + 1 := ⟨_, rfl⟩
  have hf := zn_e ev5 hf
  refine lv_iinc (v := v5) (lv' := [(2, .int v5), (0, .ref (h 30)), (1, .int x1)]) hx hb dX10_addSectionsOf_140 hl (k := 2) rfl (by rw [ev5]; rfl) (by decide) rfl (fun ls hl => ?_)
  refine lv_goto (tgt := 2) hx hb dX10_addSectionsOf_143 (by decide) ?_
  exact hK2 (x1, v5, σ) _ hf _ _ _ Z (lv_sub hl [1, 2, 0] rfl)

set_option maxRecDepth 100000 in
set_option maxHeartbeats 4000000 in
theorem b_X10_addSectionsOf_2b {p : Program} {l : Launch} {e : Env} {s : State} {m : MethodId} {args : Array Value} {below : List Frame} {meth : Method} {c : Code} {D : va_G} {h : Nat → Nat} {cy : Nat → ClassId} (X : Cx p s m args c D h cy RX10 cX10_addSectionsOf 3) (hr : meth.sig.returnType = none) (hk : meth.locks = false) (K2 : (Int32 × Int32 × St) → Option (St)) (hK2 : ∀ (a : Int32 × Int32 × St) (y : St), K2 a = some y → ∀ (H : Heap) (locs : List Loc) (ls : Array Slot), Zt D h cy s a.2.2 H locs → lv_has ls 3 [(0, .ref (h 30)), (1, .int a.1), (2, .int a.2.1)] → W p l e (rmz 3 105) s m args below meth c H locs 0 0 (EV below args s D h cy y) (F0 m 2 ls [])) (x1 : Int32) (x2 : Int32) (σ : St) (y : St) (hf : f_X10_addSectionsOf_2b K2 x1 x2 σ = some y) : ∀ (H : Heap) (locs : List Loc) (ls : Array Slot), Zt D h cy s σ H locs → lv_has ls 3 [(0, .ref (h 30)), (1, .int x1), (2, .int x2)] → W p l e (rmz 3 105) s m args below meth c H locs 0 0 (EV below args s D h cy y) (F0 m 2 ls []) := by
  intro H locs ls Z hl
  have hx := X.x
  have hb := X.b
  unfold f_X10_addSectionsOf_2b at hf
  refine lv_iload_n hx hb dX10_addSectionsOf_2 rfl (lv_at hl 2 rfl) ?_
  refine lv_aload_n hx hb dX10_addSectionsOf_3 rfl (lv_at hl 0 rfl) ?_
  refine gf_RX10_9 X Z dX10_addSectionsOf_4 ?_
  refine gf_RX10_92 X Z dX10_addSectionsOf_7 ?_
  refine gf_RX10_51 X Z names_12 dX10_addSectionsOf_10 ?_
  refine lv_icmp_ge (tgt := 146) hx hb dX10_addSectionsOf_13 (by decide) (fun c2 => ?_) (fun c2 => ?_)
  · have hf := itp c2 hf
    exact retV X hr hk Z hf dX10_addSectionsOf_146
  · have hf := itn c2 hf
    refine lv_aload_n hx hb dX10_addSectionsOf_16 rfl (lv_at hl 0 rfl) ?_
    refine gf_RX10_9 X Z dX10_addSectionsOf_17 ?_
    refine gf_RX10_157 X Z dX10_addSectionsOf_20 ?_
    refine lv_iload_n hx hb dX10_addSectionsOf_23 rfl (lv_at hl 2 rfl) ?_
    obtain ⟨g3, hf⟩ := gd_s hf
    refine x_iald (k := 15) X Z sh_15 g3 dX10_addSectionsOf_24 ?_
    refine lv_iload_n hx hb dX10_addSectionsOf_25 rfl (lv_at hl 1 rfl) ?_
    refine lv_icmp_ne (tgt := 140) hx hb dX10_addSectionsOf_26 (by decide) (fun c4 => ?_) (fun c4 => ?_)
    · have hf := itn c4 hf
      exact b_X10_addSectionsOf_140 X hr hk K2 hK2 x1 x2 σ _ hf _ _ _ Z (lv_sub hl [0, 1, 2] rfl)
    · have hf := itp c4 hf
      refine lv_aload_n hx hb dX10_addSectionsOf_29 rfl (lv_at hl 0 rfl) ?_
      refine gf_RX10_9 X Z dX10_addSectionsOf_30 ?_
      refine gf_RX10_92 X Z dX10_addSectionsOf_33 ?_
      refine lv_aload_n hx hb dX10_addSectionsOf_36 rfl (lv_at hl 0 rfl) ?_
      refine gf_RX10_15 X Z dX10_addSectionsOf_37 ?_
      refine lv_iload_n hx hb dX10_addSectionsOf_40 rfl (lv_at hl 2 rfl) ?_
      obtain ⟨s7, h6, hf⟩ := bv_s hf
      refine goV Z (run_V (As := [.ref (h 3), .int x2]) (rest := []) X Z (c_X5_addFilledTo l D h cy names_12 row_3 x2 σ s7 h6 _) lk_RX10_145 ⟨by decide, by decide⟩ (rv_NamesS names_12) rfl hl.1 rfl (Nat.le_of_ble_eq_true rfl) ⟨Nat.le_refl _, Nat.le_refl _⟩ dX10_addSectionsOf_41) (fun H locs Z => ?_)
      refine lv_aload_n hx hb dX10_addSectionsOf_44 rfl (lv_at hl 0 rfl) ?_
      refine gf_RX10_9 X Z dX10_addSectionsOf_45 ?_
      refine gf_RX10_67 X Z dX10_addSectionsOf_48 ?_
      refine lv_aload_n hx hb dX10_addSectionsOf_51 rfl (lv_at hl 0 rfl) ?_
      refine gf_RX10_15 X Z dX10_addSectionsOf_52 ?_
      refine lv_iload_n hx hb dX10_addSectionsOf_55 rfl (lv_at hl 1 rfl) ?_
      obtain ⟨s9, h8, hf⟩ := bv_s hf
      refine goV Z (run_V (As := [.ref (h 3), .int x1]) (rest := []) X Z (c_X5_addFilledTo l D h cy names_6 row_3 x1 s7 s9 h8 _) lk_RX10_145 ⟨by decide, by decide⟩ (rv_NamesS names_6) rfl hl.1 rfl (Nat.le_of_ble_eq_true rfl) ⟨Nat.le_refl _, Nat.le_refl _⟩ dX10_addSectionsOf_56) (fun H locs Z => ?_)
      refine lv_aload_n hx hb dX10_addSectionsOf_59 rfl (lv_at hl 0 rfl) ?_
      refine gf_RX10_15 X Z dX10_addSectionsOf_60 ?_
      refine lv_bipush (v := 8) hx hb dX10_addSectionsOf_63 (by decide) ?_
      refine lv_aload_n hx hb dX10_addSectionsOf_65 rfl (lv_at hl 0 rfl) ?_
      refine gf_RX10_9 X Z dX10_addSectionsOf_66 ?_
      refine lv_iload_n hx hb dX10_addSectionsOf_69 rfl (lv_at hl 1 rfl) ?_
      obtain ⟨r12, s11, h10, hf⟩ := bi_s hf
      refine goI Z (run_V (As := [.int x1]) (rest := [.int (8 : Int32), .ref (h 3)]) X Z (c_X8_addressOf l D h cy x1 s9 (r12, s11) h10 _) lk_RX10_149 ⟨by decide, by decide⟩ rv_5 rfl hl.1 rfl (Nat.le_of_ble_eq_true rfl) ⟨Nat.le_refl _, Nat.le_refl _⟩ dX10_addSectionsOf_70) (fun H locs Z => ?_)
      refine lv_aload_n hx hb dX10_addSectionsOf_73 rfl (lv_at hl 0 rfl) ?_
      refine gf_RX10_9 X Z dX10_addSectionsOf_74 ?_
      refine gf_RX10_160 X Z dX10_addSectionsOf_77 ?_
      refine lv_iload_n hx hb dX10_addSectionsOf_80 rfl (lv_at hl 2 rfl) ?_
      obtain ⟨g13, hf⟩ := gd_s hf
      refine x_iald (k := 16) X Z sh_16 g13 dX10_addSectionsOf_81 ?_
      refine lv_iadd hx hb dX10_addSectionsOf_82 ?_
      refine lv_i2l (v := ((r12 + (s11.1 16 x2.toNatClampNeg))).toInt64) hx hb dX10_addSectionsOf_83 rfl ?_
      obtain ⟨s15, h14, hf⟩ := bv_s hf
      refine goV Z (run_V (As := [.int (8 : Int32), .long (((r12 + (s11.1 16 x2.toNatClampNeg))).toInt64)]) (rest := []) X Z (c_X6_add l D h cy row_3 (8 : Int32) (((r12 + (s11.1 16 x2.toNatClampNeg))).toInt64) s11 s15 h14 _) lk_RX10_130 ⟨by decide, by decide⟩ (rv_RowS row_3) rfl hl.1 rfl (Nat.le_of_ble_eq_true rfl) ⟨Nat.le_refl _, Nat.le_refl _⟩ dX10_addSectionsOf_84) (fun H locs Z => ?_)
      refine lv_aload_n hx hb dX10_addSectionsOf_87 rfl (lv_at hl 0 rfl) ?_
      refine gf_RX10_15 X Z dX10_addSectionsOf_88 ?_
      refine lv_bipush (v := 8) hx hb dX10_addSectionsOf_91 (by decide) ?_
      refine lv_aload_n hx hb dX10_addSectionsOf_93 rfl (lv_at hl 0 rfl) ?_
      refine gf_RX10_9 X Z dX10_addSectionsOf_94 ?_
      refine gf_RX10_163 X Z dX10_addSectionsOf_97 ?_
      refine lv_iload_n hx hb dX10_addSectionsOf_100 rfl (lv_at hl 2 rfl) ?_
      obtain ⟨g16, hf⟩ := gd_s hf
      refine x_iald (k := 17) X Z sh_17 g16 dX10_addSectionsOf_101 ?_
      refine lv_i2l (v := (s15.1 17 x2.toNatClampNeg).toInt64) hx hb dX10_addSectionsOf_102 rfl ?_
      obtain ⟨s18, h17, hf⟩ := bv_s hf
      refine goV Z (run_V (As := [.int (8 : Int32), .long ((s15.1 17 x2.toNatClampNeg).toInt64)]) (rest := []) X Z (c_X6_add l D h cy row_3 (8 : Int32) ((s15.1 17 x2.toNatClampNeg).toInt64) s15 s18 h17 _) lk_RX10_130 ⟨by decide, by decide⟩ (rv_RowS row_3) rfl hl.1 rfl (Nat.le_of_ble_eq_true rfl) ⟨Nat.le_refl _, Nat.le_refl _⟩ dX10_addSectionsOf_103) (fun H locs Z => ?_)
      refine lv_aload_n hx hb dX10_addSectionsOf_106 rfl (lv_at hl 0 rfl) ?_
      refine gf_RX10_15 X Z dX10_addSectionsOf_107 ?_
      refine lv_iconst (v := 4) hx hb dX10_addSectionsOf_110 (by decide) ?_
      refine lv_aload_n hx hb dX10_addSectionsOf_111 rfl (lv_at hl 0 rfl) ?_
      refine gf_RX10_19 X Z dX10_addSectionsOf_112 ?_
      refine lv_iload_n hx hb dX10_addSectionsOf_115 rfl (lv_at hl 1 rfl) ?_
      obtain ⟨g19, hf⟩ := gd_s hf
      refine x_iald (k := 31) X Z sh_31 g19 dX10_addSectionsOf_116 ?_
      refine lv_aload_n hx hb dX10_addSectionsOf_117 rfl (lv_at hl 0 rfl) ?_
      refine gf_RX10_9 X Z dX10_addSectionsOf_118 ?_
      refine gf_RX10_160 X Z dX10_addSectionsOf_121 ?_
      refine lv_iload_n hx hb dX10_addSectionsOf_124 rfl (lv_at hl 2 rfl) ?_
      obtain ⟨g20, hf⟩ := gd_s hf
      refine x_iald (k := 16) X Z sh_16 g20 dX10_addSectionsOf_125 ?_
      refine lv_iadd hx hb dX10_addSectionsOf_126 ?_
      refine lv_i2l (v := (((s18.1 31 x1.toNatClampNeg) + (s18.1 16 x2.toNatClampNeg))).toInt64) hx hb dX10_addSectionsOf_127 rfl ?_
      obtain ⟨s22, h21, hf⟩ := bv_s hf
      refine goV Z (run_V (As := [.int (4 : Int32), .long ((((s18.1 31 x1.toNatClampNeg) + (s18.1 16 x2.toNatClampNeg))).toInt64)]) (rest := []) X Z (c_X6_add l D h cy row_3 (4 : Int32) ((((s18.1 31 x1.toNatClampNeg) + (s18.1 16 x2.toNatClampNeg))).toInt64) s18 s22 h21 _) lk_RX10_130 ⟨by decide, by decide⟩ (rv_RowS row_3) rfl hl.1 rfl (Nat.le_of_ble_eq_true rfl) ⟨Nat.le_refl _, Nat.le_refl _⟩ dX10_addSectionsOf_128) (fun H locs Z => ?_)
      refine lv_aload_n hx hb dX10_addSectionsOf_131 rfl (lv_at hl 0 rfl) ?_
      refine gf_RX10_15 X Z dX10_addSectionsOf_132 ?_
      refine lv_bipush (v := 28) hx hb dX10_addSectionsOf_135 (by decide) ?_
      obtain ⟨s24, h23, hf⟩ := bv_s hf
      refine goV Z (run_V (As := [.int (28 : Int32)]) (rest := []) X Z (c_X6_addZeros l D h cy row_3 (28 : Int32) s22 s24 h23 _) lk_RX10_166 ⟨by decide, by decide⟩ (rv_RowS row_3) rfl hl.1 rfl (Nat.le_of_ble_eq_true rfl) ⟨Nat.le_refl _, Nat.le_refl _⟩ dX10_addSectionsOf_137) (fun H locs Z => ?_)
      exact b_X10_addSectionsOf_140 X hr hk K2 hK2 x1 x2 s24 _ hf _ _ _ Z (lv_sub hl [0, 1, 2] rfl)

set_option maxRecDepth 100000 in
set_option maxHeartbeats 4000000 in
theorem b_X10_addSectionsOf_2 {p : Program} {l : Launch} {e : Env} {s : State} {m : MethodId} {args : Array Value} {below : List Frame} {meth : Method} {c : Code} {D : va_G} {h : Nat → Nat} {cy : Nat → ClassId} (X : Cx p s m args c D h cy RX10 cX10_addSectionsOf 3) (hr : meth.sig.returnType = none) (hk : meth.locks = false) (x1 : Int32) (x2 : Int32) (σ : St) (y : St) (hf : f_X10_addSectionsOf_2 x1 x2 σ = some y) : ∀ (H : Heap) (locs : List Loc) (ls : Array Slot), Zt D h cy s σ H locs → lv_has ls 3 [(0, .ref (h 30)), (1, .int x1), (2, .int x2)] → W p l e (rmz 3 105) s m args below meth c H locs 0 0 (EV below args s D h cy y) (F0 m 2 ls []) := by
  exact it_W (F := fun K a => f_X10_addSectionsOf_2b K a.1 a.2.1 a.2.2) (P := fun a y => ∀ (H : Heap) (locs : List Loc) (ls : Array Slot), Zt D h cy s a.2.2 H locs → lv_has ls 3 [(0, .ref (h 30)), (1, .int a.1), (2, .int a.2.1)] → W p l e (rmz 3 105) s m args below meth c H locs 0 0 (EV below args s D h cy y) (F0 m 2 ls [])) (fun K hK a y hf => b_X10_addSectionsOf_2b X hr hk K hK (a.1) (a.2.1) (a.2.2) y hf) FU _ y hf

set_option maxRecDepth 100000 in
set_option maxHeartbeats 4000000 in
theorem c_X10_addSectionsOf (l : Launch) (D : va_G) (h : Nat → Nat) (cy : Nat → ClassId) (a1 : Int32) (σ : St) (y : St) (hf : f_X10_addSectionsOf a1 σ = some y) : CV l yX10_addSectionsOf cX10_addSectionsOf 3 none 3 105 D h cy [.ref (h 30), .int a1] σ y := by
  refine ent (Qc := fun sz => QV D h cy sz y) (by decide) (Nat.le_of_ble_eq_true rfl) ?_
  intro p e s m below meth c ls X Z hr hk hl
  have X : Cx p s m _ c D h cy RX10 cX10_addSectionsOf 3 := X
  have hx := X.x
  have hb := X.b
  have hl : lv_has ls 3 [(0, .ref (h 30)), (1, .int a1)] := hl
  unfold f_X10_addSectionsOf at hf
  refine lv_iconst (v := 0) hx hb dX10_addSectionsOf_0 (by decide) ?_
  refine lv_topi (fun v1 ev1 => ?_)
  have hf := zn_e ev1 hf
  refine lv_istore_n (lv' := [(2, .int v1), (0, .ref (h 30)), (1, .int a1)]) hx hb dX10_addSectionsOf_1 rfl hl (by decide) rfl (fun ls hl => ?_)
  exact b_X10_addSectionsOf_2 X hr hk a1 v1 σ _ hf _ _ _ Z (lv_sub hl [1, 2, 0] rfl)

set_option maxRecDepth 100000 in
set_option maxHeartbeats 4000000 in
theorem b_X10_writeAll_102b {p : Program} {l : Launch} {e : Env} {s : State} {m : MethodId} {args : Array Value} {below : List Frame} {meth : Method} {c : Code} {D : va_G} {h : Nat → Nat} {cy : Nat → ClassId} (X : Cx p s m args c D h cy RX10 cX10_writeAll 2) (hr : meth.sig.returnType = none) (hk : meth.locks = false) (K102 : (Int32 × St) → Option (St)) (hK102 : ∀ (a : Int32 × St) (y : St), K102 a = some y → ∀ (H : Heap) (locs : List Loc) (ls : Array Slot), Zt D h cy s a.2 H locs → lv_has ls 2 [(0, .ref (h 30)), (1, .int a.1)] → W p l e (rmz 6 134) s m args below meth c H locs 0 0 (EV below args s D h cy y) (F0 m 102 ls [])) (x1 : Int32) (σ : St) (y : St) (hf : f_X10_writeAll_102b K102 x1 σ = some y) : ∀ (H : Heap) (locs : List Loc) (ls : Array Slot), Zt D h cy s σ H locs → lv_has ls 2 [(0, .ref (h 30)), (1, .int x1)] → W p l e (rmz 6 134) s m args below meth c H locs 0 0 (EV below args s D h cy y) (F0 m 102 ls []) := by
  intro H locs ls Z hl
  have hx := X.x
  have hb := X.b
  unfold f_X10_writeAll_102b at hf
  refine lv_iload_n hx hb dX10_writeAll_102 rfl (lv_at hl 1 rfl) ?_
  refine lv_aload_n hx hb dX10_writeAll_103 rfl (lv_at hl 0 rfl) ?_
  refine gf_RX10_9 X Z dX10_writeAll_104 ?_
  refine gf_RX10_67 X Z dX10_writeAll_107 ?_
  refine gf_RX10_51 X Z names_6 dX10_writeAll_110 ?_
  refine lv_icmp_ge (tgt := 127) hx hb dX10_writeAll_113 (by decide) (fun c22 => ?_) (fun c22 => ?_)
  · have hf := itp c22 hf
    refine lv_aload_n hx hb dX10_writeAll_127 rfl (lv_at hl 0 rfl) ?_
    obtain ⟨s24, h23, hf⟩ := bv_s hf
    refine goV Z (run_V (As := []) (rest := []) X Z (c_X10_addFixups l D h cy σ s24 h23 _) lk_RX10_83 ⟨by decide, by decide⟩ rv_30 rfl hl.1 rfl (Nat.le_of_ble_eq_true rfl) ⟨Nat.le_refl _, Nat.le_refl _⟩ dX10_writeAll_128) (fun H locs Z => ?_)
    refine lv_aload_n hx hb dX10_writeAll_131 rfl (lv_at hl 0 rfl) ?_
    obtain ⟨s26, h25, hf⟩ := bv_s hf
    refine goV Z (run_V (As := []) (rest := []) X Z (c_X10_addSymbols l D h cy s24 s26 h25 _) lk_RX10_86 ⟨by decide, by decide⟩ rv_30 rfl hl.1 rfl (Nat.le_of_ble_eq_true rfl) ⟨Nat.le_refl _, Nat.le_refl _⟩ dX10_writeAll_132) (fun H locs Z => ?_)
    refine lv_aload_n hx hb dX10_writeAll_135 rfl (lv_at hl 0 rfl) ?_
    obtain ⟨s28, h27, hf⟩ := bv_s hf
    refine goV Z (run_V (As := []) (rest := []) X Z (c_X10_addStrings l D h cy s26 s28 h27 _) lk_RX10_89 ⟨by decide, by decide⟩ rv_30 rfl hl.1 rfl (Nat.le_of_ble_eq_true rfl) ⟨Nat.le_refl _, Nat.le_refl _⟩ dX10_writeAll_136) (fun H locs Z => ?_)
    exact retV X hr hk Z hf dX10_writeAll_139
  · have hf := itn c22 hf
    refine lv_aload_n hx hb dX10_writeAll_116 rfl (lv_at hl 0 rfl) ?_
    refine lv_iload_n hx hb dX10_writeAll_117 rfl (lv_at hl 1 rfl) ?_
    obtain ⟨s30, h29, hf⟩ := bv_s hf
    refine goV Z (run_V (As := [.int x1]) (rest := []) X Z (c_X10_addContents l D h cy x1 σ s30 h29 _) lk_RX10_80 ⟨by decide, by decide⟩ rv_30 rfl hl.1 rfl (Nat.le_of_ble_eq_true rfl) ⟨Nat.le_refl _, Nat.le_refl _⟩ dX10_writeAll_118) (fun H locs Z => ?_)
    obtain ⟨v31, ev31⟩ : ∃ z : Int32, z = x1 + 1 := ⟨_, rfl⟩
    have hf := zn_e ev31 hf
    refine lv_iinc (v := v31) (lv' := [(1, .int v31), (0, .ref (h 30))]) hx hb dX10_writeAll_121 hl (k := 1) rfl (by rw [ev31]; rfl) (by decide) rfl (fun ls hl => ?_)
    refine lv_goto (tgt := 102) hx hb dX10_writeAll_124 (by decide) ?_
    exact hK102 (v31, s30) _ hf _ _ _ Z (lv_sub hl [1, 0] rfl)

set_option maxRecDepth 100000 in
set_option maxHeartbeats 4000000 in
theorem b_X10_writeAll_102 {p : Program} {l : Launch} {e : Env} {s : State} {m : MethodId} {args : Array Value} {below : List Frame} {meth : Method} {c : Code} {D : va_G} {h : Nat → Nat} {cy : Nat → ClassId} (X : Cx p s m args c D h cy RX10 cX10_writeAll 2) (hr : meth.sig.returnType = none) (hk : meth.locks = false) (x1 : Int32) (σ : St) (y : St) (hf : f_X10_writeAll_102 x1 σ = some y) : ∀ (H : Heap) (locs : List Loc) (ls : Array Slot), Zt D h cy s σ H locs → lv_has ls 2 [(0, .ref (h 30)), (1, .int x1)] → W p l e (rmz 6 134) s m args below meth c H locs 0 0 (EV below args s D h cy y) (F0 m 102 ls []) := by
  exact it_W (F := fun K a => f_X10_writeAll_102b K a.1 a.2) (P := fun a y => ∀ (H : Heap) (locs : List Loc) (ls : Array Slot), Zt D h cy s a.2 H locs → lv_has ls 2 [(0, .ref (h 30)), (1, .int a.1)] → W p l e (rmz 6 134) s m args below meth c H locs 0 0 (EV below args s D h cy y) (F0 m 102 ls [])) (fun K hK a y hf => b_X10_writeAll_102b X hr hk K hK (a.1) (a.2) y hf) FU _ y hf

set_option maxRecDepth 100000 in
set_option maxHeartbeats 4000000 in
theorem b_X10_writeAll_66b {p : Program} {l : Launch} {e : Env} {s : State} {m : MethodId} {args : Array Value} {below : List Frame} {meth : Method} {c : Code} {D : va_G} {h : Nat → Nat} {cy : Nat → ClassId} (X : Cx p s m args c D h cy RX10 cX10_writeAll 2) (hr : meth.sig.returnType = none) (hk : meth.locks = false) (K66 : (Int32 × St) → Option (St)) (hK66 : ∀ (a : Int32 × St) (y : St), K66 a = some y → ∀ (H : Heap) (locs : List Loc) (ls : Array Slot), Zt D h cy s a.2 H locs → lv_has ls 2 [(0, .ref (h 30)), (1, .int a.1)] → W p l e (rmz 6 134) s m args below meth c H locs 0 0 (EV below args s D h cy y) (F0 m 66 ls [])) (x1 : Int32) (σ : St) (y : St) (hf : f_X10_writeAll_66b K66 x1 σ = some y) : ∀ (H : Heap) (locs : List Loc) (ls : Array Slot), Zt D h cy s σ H locs → lv_has ls 2 [(0, .ref (h 30)), (1, .int x1)] → W p l e (rmz 6 134) s m args below meth c H locs 0 0 (EV below args s D h cy y) (F0 m 66 ls []) := by
  intro H locs ls Z hl
  have hx := X.x
  have hb := X.b
  unfold f_X10_writeAll_66b at hf
  refine lv_iload_n hx hb dX10_writeAll_66 rfl (lv_at hl 1 rfl) ?_
  refine lv_aload_n hx hb dX10_writeAll_67 rfl (lv_at hl 0 rfl) ?_
  refine gf_RX10_9 X Z dX10_writeAll_68 ?_
  refine gf_RX10_67 X Z dX10_writeAll_71 ?_
  refine gf_RX10_51 X Z names_6 dX10_writeAll_74 ?_
  refine lv_icmp_ge (tgt := 96) hx hb dX10_writeAll_77 (by decide) (fun c18 => ?_) (fun c18 => ?_)
  · have hf := itp c18 hf
    refine lv_aload_n hx hb dX10_writeAll_96 rfl (lv_at hl 0 rfl) ?_
    obtain ⟨s20, h19, hf⟩ := bv_s hf
    refine goV Z (run_V (As := []) (rest := []) X Z (c_X10_addTableCommands l D h cy σ s20 h19 _) lk_RX10_77 ⟨by decide, by decide⟩ rv_30 rfl hl.1 rfl (Nat.le_of_ble_eq_true rfl) ⟨Nat.le_refl _, Nat.le_refl _⟩ dX10_writeAll_97) (fun H locs Z => ?_)
    refine lv_iconst (v := 0) hx hb dX10_writeAll_100 (by decide) ?_
    refine lv_topi (fun v21 ev21 => ?_)
    have hf := zn_e ev21 hf
    refine lv_istore_n (lv' := [(1, .int v21), (0, .ref (h 30))]) hx hb dX10_writeAll_101 rfl hl (by decide) rfl (fun ls hl => ?_)
    exact b_X10_writeAll_102 X hr hk v21 s20 _ hf _ _ _ Z (lv_sub hl [1, 0] rfl)
  · have hf := itn c18 hf
    refine lv_aload_n hx hb dX10_writeAll_80 rfl (lv_at hl 0 rfl) ?_
    refine lv_iload_n hx hb dX10_writeAll_81 rfl (lv_at hl 1 rfl) ?_
    obtain ⟨s33, h32, hf⟩ := bv_s hf
    refine goV Z (run_V (As := [.int x1]) (rest := []) X Z (c_X10_addSegmentCommand l D h cy x1 σ s33 h32 _) lk_RX10_70 ⟨by decide, by decide⟩ rv_30 rfl hl.1 rfl (Nat.le_of_ble_eq_true rfl) ⟨Nat.le_refl _, Nat.le_refl _⟩ dX10_writeAll_82) (fun H locs Z => ?_)
    refine lv_aload_n hx hb dX10_writeAll_85 rfl (lv_at hl 0 rfl) ?_
    refine lv_iload_n hx hb dX10_writeAll_86 rfl (lv_at hl 1 rfl) ?_
    obtain ⟨s35, h34, hf⟩ := bv_s hf
    refine goV Z (run_V (As := [.int x1]) (rest := []) X Z (c_X10_addSectionsOf l D h cy x1 s33 s35 h34 _) lk_RX10_74 ⟨by decide, by decide⟩ rv_30 rfl hl.1 rfl (Nat.le_of_ble_eq_true rfl) ⟨Nat.le_refl _, Nat.le_refl _⟩ dX10_writeAll_87) (fun H locs Z => ?_)
    obtain ⟨v36, ev36⟩ : ∃ z : Int32, z = x1 + 1 := ⟨_, rfl⟩
    have hf := zn_e ev36 hf
    refine lv_iinc (v := v36) (lv' := [(1, .int v36), (0, .ref (h 30))]) hx hb dX10_writeAll_90 hl (k := 1) rfl (by rw [ev36]; rfl) (by decide) rfl (fun ls hl => ?_)
    refine lv_goto (tgt := 66) hx hb dX10_writeAll_93 (by decide) ?_
    exact hK66 (v36, s35) _ hf _ _ _ Z (lv_sub hl [1, 0] rfl)

set_option maxRecDepth 100000 in
set_option maxHeartbeats 4000000 in
theorem b_X10_writeAll_66 {p : Program} {l : Launch} {e : Env} {s : State} {m : MethodId} {args : Array Value} {below : List Frame} {meth : Method} {c : Code} {D : va_G} {h : Nat → Nat} {cy : Nat → ClassId} (X : Cx p s m args c D h cy RX10 cX10_writeAll 2) (hr : meth.sig.returnType = none) (hk : meth.locks = false) (x1 : Int32) (σ : St) (y : St) (hf : f_X10_writeAll_66 x1 σ = some y) : ∀ (H : Heap) (locs : List Loc) (ls : Array Slot), Zt D h cy s σ H locs → lv_has ls 2 [(0, .ref (h 30)), (1, .int x1)] → W p l e (rmz 6 134) s m args below meth c H locs 0 0 (EV below args s D h cy y) (F0 m 66 ls []) := by
  exact it_W (F := fun K a => f_X10_writeAll_66b K a.1 a.2) (P := fun a y => ∀ (H : Heap) (locs : List Loc) (ls : Array Slot), Zt D h cy s a.2 H locs → lv_has ls 2 [(0, .ref (h 30)), (1, .int a.1)] → W p l e (rmz 6 134) s m args below meth c H locs 0 0 (EV below args s D h cy y) (F0 m 66 ls [])) (fun K hK a y hf => b_X10_writeAll_66b X hr hk K hK (a.1) (a.2) y hf) FU _ y hf

set_option maxRecDepth 100000 in
set_option maxHeartbeats 4000000 in
theorem c_X10_writeAll (l : Launch) (D : va_G) (h : Nat → Nat) (cy : Nat → ClassId) (σ : St) (y : St) (hf : f_X10_writeAll σ = some y) : CV l yX10_writeAll cX10_writeAll 2 none 6 134 D h cy [.ref (h 30)] σ y := by
  refine ent (Qc := fun sz => QV D h cy sz y) (by decide) (Nat.le_of_ble_eq_true rfl) ?_
  intro p e s m below meth c ls X Z hr hk hl
  have X : Cx p s m _ c D h cy RX10 cX10_writeAll 2 := X
  have hx := X.x
  have hb := X.b
  have hl : lv_has ls 2 [(0, .ref (h 30))] := hl
  unfold f_X10_writeAll at hf
  refine lv_aload_n hx hb dX10_writeAll_0 rfl (lv_at hl 0 rfl) ?_
  obtain ⟨s2, h1, hf⟩ := bv_s hf
  refine goV Z (run_V (As := []) (rest := []) X Z (c_X10_layOut l D h cy σ s2 h1 _) lk_RX10_26 ⟨by decide, by decide⟩ rv_30 rfl hl.1 rfl (Nat.le_of_ble_eq_true rfl) ⟨Nat.le_refl _, Nat.le_refl _⟩ dX10_writeAll_1) (fun H locs Z => ?_)
  refine lv_aload_n hx hb dX10_writeAll_4 rfl (lv_at hl 0 rfl) ?_
  obtain ⟨s4, h3, hf⟩ := bv_s hf
  refine goV Z (run_V (As := []) (rest := []) X Z (c_X10_layOutFixups l D h cy s2 s4 h3 _) lk_RX10_29 ⟨by decide, by decide⟩ rv_30 rfl hl.1 rfl (Nat.le_of_ble_eq_true rfl) ⟨Nat.le_refl _, Nat.le_refl _⟩ dX10_writeAll_5) (fun H locs Z => ?_)
  refine lv_aload_n hx hb dX10_writeAll_8 rfl (lv_at hl 0 rfl) ?_
  refine lv_aload_n hx hb dX10_writeAll_9 rfl (lv_at hl 0 rfl) ?_
  refine gf_RX10_32 X Z dX10_writeAll_10 ?_
  refine lv_aload_n hx hb dX10_writeAll_13 rfl (lv_at hl 0 rfl) ?_
  refine gf_RX10_36 X Z dX10_writeAll_14 ?_
  refine lv_iadd hx hb dX10_writeAll_17 ?_
  refine lv_bipush (v := 8) hx hb dX10_writeAll_18 (by decide) ?_
  obtain ⟨r7, s6, h5, hf⟩ := bi_s hf
  refine goI Z (run_N (As := [.int (((s4.1 30 5) + (s4.1 30 6))), .int (8 : Int32)]) (rest := [.ref (h 30)]) X Z (c_X11_filledUp l D h cy (((s4.1 30 5) + (s4.1 30 6))) (8 : Int32) s4 (r7, s6) h5 _) lk_RX10_39 ⟨by decide, by decide⟩ rfl hl.1 rfl (Nat.le_of_ble_eq_true rfl) ⟨Nat.le_refl _, Nat.le_refl _⟩ dX10_writeAll_20) (fun H locs Z => ?_)
  refine pf_RX10_43 X Z dX10_writeAll_23 (fun s8 H locs es8 Z => ?_)
  have hf := zn_e es8 hf
  refine lv_aload_n hx hb dX10_writeAll_26 rfl (lv_at hl 0 rfl) ?_
  refine lv_aload_n hx hb dX10_writeAll_27 rfl (lv_at hl 0 rfl) ?_
  refine gf_RX10_43 X Z dX10_writeAll_28 ?_
  refine lv_bipush (v := 16) hx hb dX10_writeAll_31 (by decide) ?_
  refine lv_aload_n hx hb dX10_writeAll_33 rfl (lv_at hl 0 rfl) ?_
  refine gf_RX10_9 X Z dX10_writeAll_34 ?_
  refine gf_RX10_46 X Z dX10_writeAll_37 ?_
  refine gf_RX10_51 X Z names_18 dX10_writeAll_40 ?_
  refine lv_imul hx hb dX10_writeAll_43 ?_
  refine lv_iadd hx hb dX10_writeAll_44 ?_
  refine lv_bipush (v := 8) hx hb dX10_writeAll_45 (by decide) ?_
  obtain ⟨r11, s10, h9, hf⟩ := bi_s hf
  refine goI Z (run_N (As := [.int (((s8.1 30 9) + ((16 : Int32) * (s8.1 18 2)))), .int (8 : Int32)]) (rest := [.ref (h 30)]) X Z (c_X11_filledUp l D h cy (((s8.1 30 9) + ((16 : Int32) * (s8.1 18 2)))) (8 : Int32) s8 (r11, s10) h9 _) lk_RX10_39 ⟨by decide, by decide⟩ rfl hl.1 rfl (Nat.le_of_ble_eq_true rfl) ⟨Nat.le_refl _, Nat.le_refl _⟩ dX10_writeAll_47) (fun H locs Z => ?_)
  refine pf_RX10_56 X Z dX10_writeAll_50 (fun s12 H locs es12 Z => ?_)
  have hf := zn_e es12 hf
  refine lv_aload_n hx hb dX10_writeAll_53 rfl (lv_at hl 0 rfl) ?_
  refine gf_RX10_15 X Z dX10_writeAll_54 ?_
  obtain ⟨s14, h13, hf⟩ := bv_s hf
  refine goV Z (run_V (As := []) (rest := []) X Z (c_X6_clear l D h cy row_3 s12 s14 h13 _) lk_RX10_59 ⟨by decide, by decide⟩ (rv_RowS row_3) rfl hl.1 rfl (Nat.le_of_ble_eq_true rfl) ⟨Nat.le_refl _, Nat.le_refl _⟩ dX10_writeAll_57) (fun H locs Z => ?_)
  refine lv_aload_n hx hb dX10_writeAll_60 rfl (lv_at hl 0 rfl) ?_
  obtain ⟨s16, h15, hf⟩ := bv_s hf
  refine goV Z (run_V (As := []) (rest := []) X Z (c_X10_addHead l D h cy s14 s16 h15 _) lk_RX10_64 ⟨by decide, by decide⟩ rv_30 rfl hl.1 rfl (Nat.le_of_ble_eq_true rfl) ⟨Nat.le_refl _, Nat.le_refl _⟩ dX10_writeAll_61) (fun H locs Z => ?_)
  refine lv_iconst (v := 0) hx hb dX10_writeAll_64 (by decide) ?_
  refine lv_topi (fun v17 ev17 => ?_)
  have hf := zn_e ev17 hf
  refine lv_istore_n (lv' := [(1, .int v17), (0, .ref (h 30))]) hx hb dX10_writeAll_65 rfl hl (by decide) rfl (fun ls hl => ?_)
  exact b_X10_writeAll_66 X hr hk v17 s16 _ hf _ _ _ Z (lv_sub hl [1, 0] rfl)

set_option maxRecDepth 100000 in
set_option maxHeartbeats 4000000 in
theorem b_X11_feedNumber_3b {p : Program} {l : Launch} {e : Env} {s : State} {m : MethodId} {args : Array Value} {below : List Frame} {meth : Method} {c : Code} {D : va_G} {h : Nat → Nat} {cy : Nat → ClassId} (X : Cx p s m args c D h cy RX11 cX11_feedNumber 3) (hr : meth.sig.returnType = none) (hk : meth.locks = false) (K3 : (Int32 × Int32 × St) → Option (St)) (hK3 : ∀ (a : Int32 × Int32 × St) (y : St), K3 a = some y → ∀ (H : Heap) (locs : List Loc) (ls : Array Slot), Zt D h cy s a.2.2 H locs → lv_has ls 3 [(0, .ref (h 0)), (1, .int a.1), (2, .int a.2.1)] → W p l e (rmz 3 69) s m args below meth c H locs 0 0 (EV below args s D h cy y) (F0 m 3 ls [])) (x1 : Int32) (x2 : Int32) (σ : St) (y : St) (hf : f_X11_feedNumber_3b K3 x1 x2 σ = some y) : ∀ (H : Heap) (locs : List Loc) (ls : Array Slot), Zt D h cy s σ H locs → lv_has ls 3 [(0, .ref (h 0)), (1, .int x1), (2, .int x2)] → W p l e (rmz 3 69) s m args below meth c H locs 0 0 (EV below args s D h cy y) (F0 m 3 ls []) := by
  intro H locs ls Z hl
  have hx := X.x
  have hb := X.b
  unfold f_X11_feedNumber_3b at hf
  refine lv_iload_n hx hb dX11_feedNumber_3 rfl (lv_at hl 2 rfl) ?_
  refine lv_if_lt (tgt := 25) hx hb dX11_feedNumber_4 (by decide) (fun c2 => ?_) (fun c2 => ?_)
  · have hf := itp c2 hf
    exact retV X hr hk Z hf dX11_feedNumber_25
  · have hf := itn c2 hf
    refine lv_aload_n hx hb dX11_feedNumber_7 rfl (lv_at hl 0 rfl) ?_
    refine gf_RX11_14 X Z dX11_feedNumber_8 ?_
    refine lv_iconst (v := 1) hx hb dX11_feedNumber_11 (by decide) ?_
    refine lv_iload_n hx hb dX11_feedNumber_12 rfl (lv_at hl 1 rfl) ?_
    refine lv_iload_n hx hb dX11_feedNumber_13 rfl (lv_at hl 2 rfl) ?_
    refine lv_iushr (v := zushr x1 x2) hx hb dX11_feedNumber_14 rfl ?_
    refine lv_i2l (v := (zushr x1 x2).toInt64) hx hb dX11_feedNumber_15 rfl ?_
    obtain ⟨s4, h3, hf⟩ := bv_s hf
    refine goV Z (run_V (As := [.int (1 : Int32), .long ((zushr x1 x2).toInt64)]) (rest := []) X Z (c_X6_add l D h cy row_1 (1 : Int32) ((zushr x1 x2).toInt64) σ s4 h3 _) lk_RX11_83 ⟨by decide, by decide⟩ (rv_RowS row_1) rfl hl.1 rfl (Nat.le_of_ble_eq_true rfl) ⟨Nat.le_refl _, Nat.le_refl _⟩ dX11_feedNumber_16) (fun H locs Z => ?_)
    obtain ⟨v5, ev5⟩ : ∃ z : Int32, z = x2 + (-8) := ⟨_, rfl⟩
    have hf := zn_e ev5 hf
    refine lv_iinc (v := v5) (lv' := [(2, .int v5), (0, .ref (h 0)), (1, .int x1)]) hx hb dX11_feedNumber_19 hl (k := 2) rfl (by rw [ev5]; rfl) (by decide) rfl (fun ls hl => ?_)
    refine lv_goto (tgt := 3) hx hb dX11_feedNumber_22 (by decide) ?_
    exact hK3 (x1, v5, s4) _ hf _ _ _ Z (lv_sub hl [1, 2, 0] rfl)

set_option maxRecDepth 100000 in
set_option maxHeartbeats 4000000 in
theorem b_X11_feedNumber_3 {p : Program} {l : Launch} {e : Env} {s : State} {m : MethodId} {args : Array Value} {below : List Frame} {meth : Method} {c : Code} {D : va_G} {h : Nat → Nat} {cy : Nat → ClassId} (X : Cx p s m args c D h cy RX11 cX11_feedNumber 3) (hr : meth.sig.returnType = none) (hk : meth.locks = false) (x1 : Int32) (x2 : Int32) (σ : St) (y : St) (hf : f_X11_feedNumber_3 x1 x2 σ = some y) : ∀ (H : Heap) (locs : List Loc) (ls : Array Slot), Zt D h cy s σ H locs → lv_has ls 3 [(0, .ref (h 0)), (1, .int x1), (2, .int x2)] → W p l e (rmz 3 69) s m args below meth c H locs 0 0 (EV below args s D h cy y) (F0 m 3 ls []) := by
  exact it_W (F := fun K a => f_X11_feedNumber_3b K a.1 a.2.1 a.2.2) (P := fun a y => ∀ (H : Heap) (locs : List Loc) (ls : Array Slot), Zt D h cy s a.2.2 H locs → lv_has ls 3 [(0, .ref (h 0)), (1, .int a.1), (2, .int a.2.1)] → W p l e (rmz 3 69) s m args below meth c H locs 0 0 (EV below args s D h cy y) (F0 m 3 ls [])) (fun K hK a y hf => b_X11_feedNumber_3b X hr hk K hK (a.1) (a.2.1) (a.2.2) y hf) FU _ y hf

set_option maxRecDepth 100000 in
set_option maxHeartbeats 4000000 in
theorem c_X11_feedNumber (l : Launch) (D : va_G) (h : Nat → Nat) (cy : Nat → ClassId) (a1 : Int32) (σ : St) (y : St) (hf : f_X11_feedNumber a1 σ = some y) : CV l yX11_feedNumber cX11_feedNumber 3 none 3 69 D h cy [.ref (h 0), .int a1] σ y := by
  refine ent (Qc := fun sz => QV D h cy sz y) (by decide) (Nat.le_of_ble_eq_true rfl) ?_
  intro p e s m below meth c ls X Z hr hk hl
  have X : Cx p s m _ c D h cy RX11 cX11_feedNumber 3 := X
  have hx := X.x
  have hb := X.b
  have hl : lv_has ls 3 [(0, .ref (h 0)), (1, .int a1)] := hl
  unfold f_X11_feedNumber at hf
  refine lv_bipush (v := 24) hx hb dX11_feedNumber_0 (by decide) ?_
  refine lv_topi (fun v1 ev1 => ?_)
  have hf := zn_e ev1 hf
  refine lv_istore_n (lv' := [(2, .int v1), (0, .ref (h 0)), (1, .int a1)]) hx hb dX11_feedNumber_2 rfl hl (by decide) rfl (fun ls hl => ?_)
  exact b_X11_feedNumber_3 X hr hk a1 v1 σ _ hf _ _ _ Z (lv_sub hl [1, 2, 0] rfl)

set_option maxRecDepth 100000 in
set_option maxHeartbeats 4000000 in
theorem c_X11_feed (l : Launch) (D : va_G) (h : Nat → Nat) (cy : Nat → ClassId) (a1 : Int32) (a2 : Int32) (a3 : Int32) (a4 : Int32) (a5 : Int32) (σ : St) (y : Int32 × St) (hf : f_X11_feed a1 a2 a3 a4 a5 σ = some y) : CI l yX11_feed cX11_feed 6 (some .int) 4 91 D h cy [.ref (h 0), .int a1, .int a2, .int a3, .int a4, .int a5] σ y := by
  refine ent (Qc := fun sz => QI D h cy sz y) (by decide) (Nat.le_of_ble_eq_true rfl) ?_
  intro p e s m below meth c ls X Z hr hk hl
  have X : Cx p s m _ c D h cy RX11 cX11_feed 6 := X
  have hx := X.x
  have hb := X.b
  have hl : lv_has ls 6 [(0, .ref (h 0)), (1, .int a1), (2, .int a2), (3, .int a3), (4, .int a4), (5, .int a5)] := hl
  unfold f_X11_feed at hf
  refine lv_aload_n hx hb dX11_feed_0 rfl (lv_at hl 0 rfl) ?_
  refine gf_RX11_14 X Z dX11_feed_1 ?_
  refine gf_RX11_76 X Z row_1 dX11_feed_4 ?_
  refine lv_bipush (v := 20) hx hb dX11_feed_7 (by decide) ?_
  refine lv_iadd hx hb dX11_feed_9 ?_
  refine lv_sipush (v := 1040) hx hb dX11_feed_10 (by decide) ?_
  refine lv_icmp_le (tgt := 18) hx hb dX11_feed_13 (by decide) (fun c1 => ?_) (fun c1 => ?_)
  · have hf := itp c1 hf
    refine lv_aload_n hx hb dX11_feed_18 rfl (lv_at hl 0 rfl) ?_
    refine lv_iload_n hx hb dX11_feed_19 rfl (lv_at hl 1 rfl) ?_
    obtain ⟨s3, h2, hf⟩ := bv_s hf
    refine goV Z (run_V (As := [.int a1]) (rest := []) X Z (c_X11_feedNumber l D h cy a1 σ s3 h2 _) lk_RX11_80 ⟨by decide, by decide⟩ rv_0 rfl hl.1 rfl (Nat.le_of_ble_eq_true rfl) ⟨Nat.le_refl _, Nat.le_refl _⟩ dX11_feed_20) (fun H locs Z => ?_)
    refine lv_aload_n hx hb dX11_feed_23 rfl (lv_at hl 0 rfl) ?_
    refine lv_iload_n hx hb dX11_feed_24 rfl (lv_at hl 2 rfl) ?_
    obtain ⟨s5, h4, hf⟩ := bv_s hf
    refine goV Z (run_V (As := [.int a2]) (rest := []) X Z (c_X11_feedNumber l D h cy a2 s3 s5 h4 _) lk_RX11_80 ⟨by decide, by decide⟩ rv_0 rfl hl.1 rfl (Nat.le_of_ble_eq_true rfl) ⟨Nat.le_refl _, Nat.le_refl _⟩ dX11_feed_25) (fun H locs Z => ?_)
    refine lv_aload_n hx hb dX11_feed_28 rfl (lv_at hl 0 rfl) ?_
    refine lv_iload_n hx hb dX11_feed_29 rfl (lv_at hl 3 rfl) ?_
    obtain ⟨s7, h6, hf⟩ := bv_s hf
    refine goV Z (run_V (As := [.int a3]) (rest := []) X Z (c_X11_feedNumber l D h cy a3 s5 s7 h6 _) lk_RX11_80 ⟨by decide, by decide⟩ rv_0 rfl hl.1 rfl (Nat.le_of_ble_eq_true rfl) ⟨Nat.le_refl _, Nat.le_refl _⟩ dX11_feed_30) (fun H locs Z => ?_)
    refine lv_aload_n hx hb dX11_feed_33 rfl (lv_at hl 0 rfl) ?_
    refine lv_iload hx hb dX11_feed_34 (lv_at hl 4 rfl) ?_
    obtain ⟨s9, h8, hf⟩ := bv_s hf
    refine goV Z (run_V (As := [.int a4]) (rest := []) X Z (c_X11_feedNumber l D h cy a4 s7 s9 h8 _) lk_RX11_80 ⟨by decide, by decide⟩ rv_0 rfl hl.1 rfl (Nat.le_of_ble_eq_true rfl) ⟨Nat.le_refl _, Nat.le_refl _⟩ dX11_feed_36) (fun H locs Z => ?_)
    refine lv_aload_n hx hb dX11_feed_39 rfl (lv_at hl 0 rfl) ?_
    refine lv_iload hx hb dX11_feed_40 (lv_at hl 5 rfl) ?_
    obtain ⟨s11, h10, hf⟩ := bv_s hf
    refine goV Z (run_V (As := [.int a5]) (rest := []) X Z (c_X11_feedNumber l D h cy a5 s9 s11 h10 _) lk_RX11_80 ⟨by decide, by decide⟩ rv_0 rfl hl.1 rfl (Nat.le_of_ble_eq_true rfl) ⟨Nat.le_refl _, Nat.le_refl _⟩ dX11_feed_42) (fun H locs Z => ?_)
    refine lv_aload_n hx hb dX11_feed_45 rfl (lv_at hl 0 rfl) ?_
    refine gf_RX11_14 X Z dX11_feed_46 ?_
    refine gf_RX11_76 X Z row_1 dX11_feed_49 ?_
    exact retI X hr hk Z hf dX11_feed_52
  · have hf := itn c1 hf
    refine lv_iconst (v := (-1)) hx hb dX11_feed_16 (by decide) ?_
    exact retI X hr hk Z hf dX11_feed_17

set_option maxRecDepth 100000 in
set_option maxHeartbeats 4000000 in
theorem c_X11_end (l : Launch) (D : va_G) (h : Nat → Nat) (cy : Nat → ClassId) (a1 : Int32) (σ : St) (y : Int32 × St) (hf : f_X11_end a1 σ = some y) : CI l yX11_end cX11_end 2 (some .boolean) 1 21 D h cy [.ref (h 0), .int a1] σ y := by
  refine ent (Qc := fun sz => QI D h cy sz y) (by decide) (Nat.le_of_ble_eq_true rfl) ?_
  intro p e s m below meth c ls X Z hr hk hl
  have X : Cx p s m _ c D h cy RX11 cX11_end 2 := X
  have hx := X.x
  have hb := X.b
  have hl : lv_has ls 2 [(0, .ref (h 0)), (1, .int a1)] := hl
  unfold f_X11_end at hf
  refine lv_aload_n hx hb dX11_end_0 rfl (lv_at hl 0 rfl) ?_
  refine gf_RX11_14 X Z dX11_end_1 ?_
  refine lv_iload_n hx hb dX11_end_4 rfl (lv_at hl 1 rfl) ?_
  obtain ⟨r3, s2, h1, hf⟩ := bi_s hf
  refine goI Z (run_V (As := [.int a1]) (rest := []) X Z (c_X6_shorten l D h cy row_1 a1 σ (r3, s2) h1 _) lk_RX11_87 ⟨by decide, by decide⟩ (rv_RowS row_1) rfl hl.1 rfl (Nat.le_of_ble_eq_true rfl) ⟨Nat.le_refl _, Nat.le_refl _⟩ dX11_end_5) (fun H locs Z => ?_)
  obtain ⟨g4, hf⟩ := gd_s hf
  exact retZ X hr hk Z g4 hf dX11_end_8

set_option maxRecDepth 100000 in
set_option maxHeartbeats 4000000 in
theorem c_X11_anew (l : Launch) (D : va_G) (h : Nat → Nat) (cy : Nat → ClassId) (a1 : Int32) (a2 : Int32) (σ : St) (y : Int32 × St) (hf : f_X11_anew a1 a2 σ = some y) : CI l yX11_anew cX11_anew 3 (some .boolean) 2 43 D h cy [.ref (h 0), .int a1, .int a2] σ y := by
  refine ent (Qc := fun sz => QI D h cy sz y) (by decide) (Nat.le_of_ble_eq_true rfl) ?_
  intro p e s m below meth c ls X Z hr hk hl
  have X : Cx p s m _ c D h cy RX11 cX11_anew 3 := X
  have hx := X.x
  have hb := X.b
  have hl : lv_has ls 3 [(0, .ref (h 0)), (1, .int a1), (2, .int a2)] := hl
  unfold f_X11_anew at hf
  refine lv_iload_n hx hb dX11_anew_0 rfl (lv_at hl 1 rfl) ?_
  refine lv_if_lt (tgt := 25) hx hb dX11_anew_1 (by decide) (fun c1 => ?_) (fun c1 => ?_)
  · have hf := itp c1 hf
    refine lv_iconst (v := 0) hx hb dX11_anew_25 (by decide) ?_
    exact retZ X hr hk Z (by decide) hf dX11_anew_26
  · have hf := itn c1 hf
    refine lv_iload_n hx hb dX11_anew_4 rfl (lv_at hl 1 rfl) ?_
    refine lv_ldc (v := 1073741824) hx hb X.o (X.t _ kc_RX11_91) dX11_anew_5 ?_
    refine lv_icmp_gt (tgt := 25) hx hb dX11_anew_7 (by decide) (fun c2 => ?_) (fun c2 => ?_)
    · have hf := itp c2 hf
      refine lv_iconst (v := 0) hx hb dX11_anew_25 (by decide) ?_
      exact retZ X hr hk Z (by decide) hf dX11_anew_26
    · have hf := itn c2 hf
      refine lv_iload_n hx hb dX11_anew_10 rfl (lv_at hl 1 rfl) ?_
      refine lv_sipush (v := 4096) hx hb dX11_anew_11 (by decide) ?_
      refine lv_irem hx hb dX11_anew_14 (by decide) ?_
      refine lv_if_ne (tgt := 25) hx hb dX11_anew_15 (by decide) (fun c3 => ?_) (fun c3 => ?_)
      · have hf := itn c3 hf
        refine lv_iconst (v := 0) hx hb dX11_anew_25 (by decide) ?_
        exact retZ X hr hk Z (by decide) hf dX11_anew_26
      · have hf := itp c3 hf
        refine lv_iload_n hx hb dX11_anew_18 rfl (lv_at hl 2 rfl) ?_
        obtain ⟨r6, s5, h4, hf⟩ := bi_s hf
        refine goI Z (run_S (As := [.int a2]) (rest := []) X Z (c_X11_isPage l D h cy a2 σ (r6, s5) h4 _) lk_RX11_92 ⟨by decide, by decide⟩ rfl hl.1 rfl (Nat.le_of_ble_eq_true rfl) ⟨Nat.le_refl _, Nat.le_refl _⟩ dX11_anew_19) (fun H locs Z => ?_)
        refine lv_if_ne (tgt := 27) hx hb dX11_anew_22 (by decide) (fun c7 => ?_) (fun c7 => ?_)
        · have hf := itn c7 hf
          refine lv_aload_n hx hb dX11_anew_27 rfl (lv_at hl 0 rfl) ?_
          refine gf_RX11_24 X Z dX11_anew_28 ?_
          refine lv_iload_n hx hb dX11_anew_31 rfl (lv_at hl 1 rfl) ?_
          refine lv_iload_n hx hb dX11_anew_32 rfl (lv_at hl 2 rfl) ?_
          obtain ⟨s9, h8, hf⟩ := bv_s hf
          refine goV Z (run_V (As := [.int a1, .int a2]) (rest := []) X Z (c_X8_forget l D h cy a1 a2 s5 s9 h8 _) lk_RX11_95 ⟨by decide, by decide⟩ rv_5 rfl hl.1 rfl (Nat.le_of_ble_eq_true rfl) ⟨Nat.le_refl _, Nat.le_refl _⟩ dX11_anew_33) (fun H locs Z => ?_)
          refine lv_iconst (v := 1) hx hb dX11_anew_36 (by decide) ?_
          exact retZ X hr hk Z (by decide) hf dX11_anew_37
        · have hf := itp c7 hf
          refine lv_iconst (v := 0) hx hb dX11_anew_25 (by decide) ?_
          exact retZ X hr hk Z (by decide) hf dX11_anew_26

set_option maxRecDepth 100000 in
set_option maxHeartbeats 4000000 in
theorem c_X11_segment (l : Launch) (D : va_G) (h : Nat → Nat) (cy : Nat → ClassId) (a1 : Int32) (a2 : Int32) (σ : St) (y : Int32 × St) (hf : f_X11_segment a1 a2 σ = some y) : CI l yX11_segment cX11_segment 4 (some .int) 3 70 D h cy [.ref (h 0), .int a1, .int a2] σ y := by
  refine ent (Qc := fun sz => QI D h cy sz y) (by decide) (Nat.le_of_ble_eq_true rfl) ?_
  intro p e s m below meth c ls X Z hr hk hl
  have X : Cx p s m _ c D h cy RX11 cX11_segment 4 := X
  have hx := X.x
  have hb := X.b
  have hl : lv_has ls 4 [(0, .ref (h 0)), (1, .int a1), (2, .int a2)] := hl
  unfold f_X11_segment at hf
  refine lv_aload_n hx hb dX11_segment_0 rfl (lv_at hl 0 rfl) ?_
  refine gf_RX11_24 X Z dX11_segment_1 ?_
  refine lv_aload_n hx hb dX11_segment_4 rfl (lv_at hl 0 rfl) ?_
  refine gf_RX11_14 X Z dX11_segment_5 ?_
  refine lv_iload_n hx hb dX11_segment_8 rfl (lv_at hl 1 rfl) ?_
  refine lv_iload_n hx hb dX11_segment_9 rfl (lv_at hl 2 rfl) ?_
  obtain ⟨r3, s2, h1, hf⟩ := bi_s hf
  refine goI Z (run_V (As := [.ref (h 1), .int a1, .int a2]) (rest := []) X Z (c_X8_addSegment l D h cy row_1 a1 a2 σ (r3, s2) h1 _) lk_RX11_99 ⟨by decide, by decide⟩ rv_5 rfl hl.1 rfl (Nat.le_of_ble_eq_true rfl) ⟨Nat.le_refl _, Nat.le_refl _⟩ dX11_segment_10) (fun H locs Z => ?_)
  refine lv_istore_n (lv' := [(3, .int r3), (0, .ref (h 0)), (1, .int a1), (2, .int a2)]) hx hb dX11_segment_13 rfl hl (by decide) rfl (fun ls hl => ?_)
  refine lv_aload_n hx hb dX11_segment_14 rfl (lv_at hl 1 rfl) ?_
  refine gf_RX11_14 X Z dX11_segment_15 ?_
  obtain ⟨s5, h4, hf⟩ := bv_s hf
  refine goV Z (run_V (As := []) (rest := []) X Z (c_X6_clear l D h cy row_1 s2 s5 h4 _) lk_RX11_103 ⟨by decide, by decide⟩ (rv_RowS row_1) rfl hl.1 rfl (Nat.le_of_ble_eq_true rfl) ⟨Nat.le_refl _, Nat.le_refl _⟩ dX11_segment_18) (fun H locs Z => ?_)
  refine lv_iload_n hx hb dX11_segment_21 rfl (lv_at hl 0 rfl) ?_
  exact retI X hr hk Z hf dX11_segment_22

set_option maxRecDepth 100000 in
set_option maxHeartbeats 4000000 in
theorem c_X11_fill (l : Launch) (D : va_G) (h : Nat → Nat) (cy : Nat → ClassId) (a1 : Int32) (a2 : Int32) (σ : St) (y : Int32 × St) (hf : f_X11_fill a1 a2 σ = some y) : CI l yX11_fill cX11_fill 4 (some .boolean) 2 83 D h cy [.ref (h 0), .int a1, .int a2] σ y := by
  refine ent (Qc := fun sz => QI D h cy sz y) (by decide) (Nat.le_of_ble_eq_true rfl) ?_
  intro p e s m below meth c ls X Z hr hk hl
  have X : Cx p s m _ c D h cy RX11 cX11_fill 4 := X
  have hx := X.x
  have hb := X.b
  have hl : lv_has ls 4 [(0, .ref (h 0)), (1, .int a1), (2, .int a2)] := hl
  unfold f_X11_fill at hf
  refine lv_aload_n hx hb dX11_fill_0 rfl (lv_at hl 0 rfl) ?_
  refine gf_RX11_24 X Z dX11_fill_1 ?_
  refine lv_aload_n hx hb dX11_fill_4 rfl (lv_at hl 0 rfl) ?_
  refine gf_RX11_14 X Z dX11_fill_5 ?_
  refine lv_iload_n hx hb dX11_fill_8 rfl (lv_at hl 1 rfl) ?_
  refine lv_iload_n hx hb dX11_fill_9 rfl (lv_at hl 2 rfl) ?_
  obtain ⟨r3, s2, h1, hf⟩ := bi_s hf
  refine goI Z (run_V (As := [.ref (h 1), .int a1, .int a2]) (rest := []) X Z (c_X8_setContents l D h cy row_1 a1 a2 σ (r3, s2) h1 _) lk_RX11_106 ⟨by decide, by decide⟩ rv_5 rfl hl.1 rfl (Nat.le_of_ble_eq_true rfl) ⟨Nat.le_refl _, Nat.le_refl _⟩ dX11_fill_10) (fun H locs Z => ?_)
  refine lv_istore_n (lv' := [(3, .int r3), (0, .ref (h 0)), (1, .int a1), (2, .int a2)]) hx hb dX11_fill_13 rfl hl (by decide) rfl (fun ls hl => ?_)
  refine lv_aload_n hx hb dX11_fill_14 rfl (lv_at hl 1 rfl) ?_
  refine gf_RX11_14 X Z dX11_fill_15 ?_
  obtain ⟨s5, h4, hf⟩ := bv_s hf
  refine goV Z (run_V (As := []) (rest := []) X Z (c_X6_clear l D h cy row_1 s2 s5 h4 _) lk_RX11_103 ⟨by decide, by decide⟩ (rv_RowS row_1) rfl hl.1 rfl (Nat.le_of_ble_eq_true rfl) ⟨Nat.le_refl _, Nat.le_refl _⟩ dX11_fill_18) (fun H locs Z => ?_)
  refine lv_iload_n hx hb dX11_fill_21 rfl (lv_at hl 0 rfl) ?_
  obtain ⟨g6, hf⟩ := gd_s hf
  exact retZ X hr hk Z g6 hf dX11_fill_22

set_option maxRecDepth 100000 in
set_option maxHeartbeats 4000000 in
theorem c_X11_section (l : Launch) (D : va_G) (h : Nat → Nat) (cy : Nat → ClassId) (a1 : Int32) (a2 : Int32) (a3 : Int32) (σ : St) (y : Int32 × St) (hf : f_X11_section a1 a2 a3 σ = some y) : CI l yX11_section cX11_section 5 (some .int) 3 69 D h cy [.ref (h 0), .int a1, .int a2, .int a3] σ y := by
  refine ent (Qc := fun sz => QI D h cy sz y) (by decide) (Nat.le_of_ble_eq_true rfl) ?_
  intro p e s m below meth c ls X Z hr hk hl
  have X : Cx p s m _ c D h cy RX11 cX11_section 5 := X
  have hx := X.x
  have hb := X.b
  have hl : lv_has ls 5 [(0, .ref (h 0)), (1, .int a1), (2, .int a2), (3, .int a3)] := hl
  unfold f_X11_section at hf
  refine lv_aload_n hx hb dX11_section_0 rfl (lv_at hl 0 rfl) ?_
  refine gf_RX11_24 X Z dX11_section_1 ?_
  refine lv_aload_n hx hb dX11_section_4 rfl (lv_at hl 0 rfl) ?_
  refine gf_RX11_14 X Z dX11_section_5 ?_
  refine lv_iload_n hx hb dX11_section_8 rfl (lv_at hl 1 rfl) ?_
  refine lv_iload_n hx hb dX11_section_9 rfl (lv_at hl 2 rfl) ?_
  refine lv_iload_n hx hb dX11_section_10 rfl (lv_at hl 3 rfl) ?_
  obtain ⟨r3, s2, h1, hf⟩ := bi_s hf
  refine goI Z (run_V (As := [.ref (h 1), .int a1, .int a2, .int a3]) (rest := []) X Z (c_X8_addSection l D h cy row_1 a1 a2 a3 σ (r3, s2) h1 _) lk_RX11_110 ⟨by decide, by decide⟩ rv_5 rfl hl.1 rfl (Nat.le_of_ble_eq_true rfl) ⟨Nat.le_refl _, Nat.le_refl _⟩ dX11_section_11) (fun H locs Z => ?_)
  refine lv_istore (lv' := [(4, .int r3), (0, .ref (h 0)), (1, .int a1), (2, .int a2), (3, .int a3)]) hx hb dX11_section_14 hl (by decide) rfl (fun ls hl => ?_)
  refine lv_aload_n hx hb dX11_section_16 rfl (lv_at hl 1 rfl) ?_
  refine gf_RX11_14 X Z dX11_section_17 ?_
  obtain ⟨s5, h4, hf⟩ := bv_s hf
  refine goV Z (run_V (As := []) (rest := []) X Z (c_X6_clear l D h cy row_1 s2 s5 h4 _) lk_RX11_103 ⟨by decide, by decide⟩ (rv_RowS row_1) rfl hl.1 rfl (Nat.le_of_ble_eq_true rfl) ⟨Nat.le_refl _, Nat.le_refl _⟩ dX11_section_20) (fun H locs Z => ?_)
  refine lv_iload hx hb dX11_section_23 (lv_at hl 0 rfl) ?_
  exact retI X hr hk Z hf dX11_section_25

set_option maxRecDepth 100000 in
set_option maxHeartbeats 4000000 in
theorem c_X11_symbol (l : Launch) (D : va_G) (h : Nat → Nat) (cy : Nat → ClassId) (a1 : Int32) (a2 : Int32) (σ : St) (y : Int32 × St) (hf : f_X11_symbol a1 a2 σ = some y) : CI l yX11_symbol cX11_symbol 4 (some .int) 3 68 D h cy [.ref (h 0), .int a1, .int a2] σ y := by
  refine ent (Qc := fun sz => QI D h cy sz y) (by decide) (Nat.le_of_ble_eq_true rfl) ?_
  intro p e s m below meth c ls X Z hr hk hl
  have X : Cx p s m _ c D h cy RX11 cX11_symbol 4 := X
  have hx := X.x
  have hb := X.b
  have hl : lv_has ls 4 [(0, .ref (h 0)), (1, .int a1), (2, .int a2)] := hl
  unfold f_X11_symbol at hf
  refine lv_aload_n hx hb dX11_symbol_0 rfl (lv_at hl 0 rfl) ?_
  refine gf_RX11_24 X Z dX11_symbol_1 ?_
  refine lv_aload_n hx hb dX11_symbol_4 rfl (lv_at hl 0 rfl) ?_
  refine gf_RX11_14 X Z dX11_symbol_5 ?_
  refine lv_iload_n hx hb dX11_symbol_8 rfl (lv_at hl 1 rfl) ?_
  refine lv_iload_n hx hb dX11_symbol_9 rfl (lv_at hl 2 rfl) ?_
  obtain ⟨r3, s2, h1, hf⟩ := bi_s hf
  refine goI Z (run_V (As := [.ref (h 1), .int a1, .int a2]) (rest := []) X Z (c_X8_addSymbol l D h cy row_1 a1 a2 σ (r3, s2) h1 _) lk_RX11_114 ⟨by decide, by decide⟩ rv_5 rfl hl.1 rfl (Nat.le_of_ble_eq_true rfl) ⟨Nat.le_refl _, Nat.le_refl _⟩ dX11_symbol_10) (fun H locs Z => ?_)
  refine lv_istore_n (lv' := [(3, .int r3), (0, .ref (h 0)), (1, .int a1), (2, .int a2)]) hx hb dX11_symbol_13 rfl hl (by decide) rfl (fun ls hl => ?_)
  refine lv_aload_n hx hb dX11_symbol_14 rfl (lv_at hl 1 rfl) ?_
  refine gf_RX11_14 X Z dX11_symbol_15 ?_
  obtain ⟨s5, h4, hf⟩ := bv_s hf
  refine goV Z (run_V (As := []) (rest := []) X Z (c_X6_clear l D h cy row_1 s2 s5 h4 _) lk_RX11_103 ⟨by decide, by decide⟩ (rv_RowS row_1) rfl hl.1 rfl (Nat.le_of_ble_eq_true rfl) ⟨Nat.le_refl _, Nat.le_refl _⟩ dX11_symbol_18) (fun H locs Z => ?_)
  refine lv_iload_n hx hb dX11_symbol_21 rfl (lv_at hl 0 rfl) ?_
  exact retI X hr hk Z hf dX11_symbol_22

set_option maxRecDepth 100000 in
set_option maxHeartbeats 4000000 in
theorem c_X11_imports (l : Launch) (D : va_G) (h : Nat → Nat) (cy : Nat → ClassId) (a1 : Int32) (a2 : Int32) (σ : St) (y : Int32 × St) (hf : f_X11_imports a1 a2 σ = some y) : CI l yX11_imports cX11_imports 4 (some .int) 3 68 D h cy [.ref (h 0), .int a1, .int a2] σ y := by
  refine ent (Qc := fun sz => QI D h cy sz y) (by decide) (Nat.le_of_ble_eq_true rfl) ?_
  intro p e s m below meth c ls X Z hr hk hl
  have X : Cx p s m _ c D h cy RX11 cX11_imports 4 := X
  have hx := X.x
  have hb := X.b
  have hl : lv_has ls 4 [(0, .ref (h 0)), (1, .int a1), (2, .int a2)] := hl
  unfold f_X11_imports at hf
  refine lv_aload_n hx hb dX11_imports_0 rfl (lv_at hl 0 rfl) ?_
  refine gf_RX11_24 X Z dX11_imports_1 ?_
  refine lv_aload_n hx hb dX11_imports_4 rfl (lv_at hl 0 rfl) ?_
  refine gf_RX11_14 X Z dX11_imports_5 ?_
  refine lv_iload_n hx hb dX11_imports_8 rfl (lv_at hl 1 rfl) ?_
  refine lv_iload_n hx hb dX11_imports_9 rfl (lv_at hl 2 rfl) ?_
  obtain ⟨r3, s2, h1, hf⟩ := bi_s hf
  refine goI Z (run_V (As := [.ref (h 1), .int a1, .int a2]) (rest := []) X Z (c_X8_addImport l D h cy row_1 a1 a2 σ (r3, s2) h1 _) lk_RX11_117 ⟨by decide, by decide⟩ rv_5 rfl hl.1 rfl (Nat.le_of_ble_eq_true rfl) ⟨Nat.le_refl _, Nat.le_refl _⟩ dX11_imports_10) (fun H locs Z => ?_)
  refine lv_istore_n (lv' := [(3, .int r3), (0, .ref (h 0)), (1, .int a1), (2, .int a2)]) hx hb dX11_imports_13 rfl hl (by decide) rfl (fun ls hl => ?_)
  refine lv_aload_n hx hb dX11_imports_14 rfl (lv_at hl 1 rfl) ?_
  refine gf_RX11_14 X Z dX11_imports_15 ?_
  obtain ⟨s5, h4, hf⟩ := bv_s hf
  refine goV Z (run_V (As := []) (rest := []) X Z (c_X6_clear l D h cy row_1 s2 s5 h4 _) lk_RX11_103 ⟨by decide, by decide⟩ (rv_RowS row_1) rfl hl.1 rfl (Nat.le_of_ble_eq_true rfl) ⟨Nat.le_refl _, Nat.le_refl _⟩ dX11_imports_18) (fun H locs Z => ?_)
  refine lv_iload_n hx hb dX11_imports_21 rfl (lv_at hl 0 rfl) ?_
  exact retI X hr hk Z hf dX11_imports_22

set_option maxRecDepth 100000 in
set_option maxHeartbeats 4000000 in
theorem c_X11_isByte (l : Launch) (D : va_G) (h : Nat → Nat) (cy : Nat → ClassId) (a0 : Int32) (σ : St) (y : Int32 × St) (hf : f_X11_isByte a0 σ = some y) : CI l yX11_isByte cX11_isByte 1 (some .boolean) 0 0 D h cy [.int a0] σ y := by
  refine ent (Qc := fun sz => QI D h cy sz y) (by decide) (Nat.le_of_ble_eq_true rfl) ?_
  intro p e s m below meth c ls X Z hr hk hl
  have X : Cx p s m _ c D h cy RX11 cX11_isByte 1 := X
  have hx := X.x
  have hb := X.b
  have hl : lv_has ls 1 [(0, .int a0)] := hl
  unfold f_X11_isByte at hf
  refine lv_iload_n hx hb dX11_isByte_0 rfl (lv_at hl 0 rfl) ?_
  refine lv_if_lt (tgt := 15) hx hb dX11_isByte_1 (by decide) (fun c1 => ?_) (fun c1 => ?_)
  · have hf := itp c1 hf
    refine lv_iconst (v := 0) hx hb dX11_isByte_15 (by decide) ?_
    exact retZ X hr hk Z (by decide) hf dX11_isByte_16
  · have hf := itn c1 hf
    refine lv_iload_n hx hb dX11_isByte_4 rfl (lv_at hl 0 rfl) ?_
    refine lv_sipush (v := 255) hx hb dX11_isByte_5 (by decide) ?_
    refine lv_icmp_gt (tgt := 15) hx hb dX11_isByte_8 (by decide) (fun c2 => ?_) (fun c2 => ?_)
    · have hf := itp c2 hf
      refine lv_iconst (v := 0) hx hb dX11_isByte_15 (by decide) ?_
      exact retZ X hr hk Z (by decide) hf dX11_isByte_16
    · have hf := itn c2 hf
      refine lv_iconst (v := 1) hx hb dX11_isByte_11 (by decide) ?_
      refine lv_goto (tgt := 16) hx hb dX11_isByte_12 (by decide) ?_
      exact retZ X hr hk Z (by decide) hf dX11_isByte_16

set_option maxRecDepth 100000 in
set_option maxHeartbeats 4000000 in
theorem c_X11_rebase (l : Launch) (D : va_G) (h : Nat → Nat) (cy : Nat → ClassId) (a1 : Int32) (a2 : Int32) (a3 : Int64) (a4 : Int32) (σ : St) (y : Int32 × St) (hf : f_X11_rebase a1 a2 a3 a4 σ = some y) : CI l yX11_rebase cX11_rebase 6 (some .boolean) 3 67 D h cy [.ref (h 0), .int a1, .int a2, .long a3, .int a4] σ y := by
  refine ent (Qc := fun sz => QI D h cy sz y) (by decide) (Nat.le_of_ble_eq_true rfl) ?_
  intro p e s m below meth c ls X Z hr hk hl
  have X : Cx p s m _ c D h cy RX11 cX11_rebase 6 := X
  have hx := X.x
  have hb := X.b
  have hl : lv_has ls 6 [(0, .ref (h 0)), (1, .int a1), (2, .int a2), (3, .long a3), (5, .int a4)] := hl
  unfold f_X11_rebase at hf
  refine lv_lload_n hx hb dX11_rebase_0 rfl (lv_at hl 3 rfl) ?_
  refine lv_lconst (v := 0) hx hb dX11_rebase_1 (by decide) ?_
  refine x_lif_lt (tgt := 22) X dX11_rebase_2 dX11_rebase_3 (by decide) (fun c1 => ?_) (fun c1 => ?_)
  · have hf := itp c1 hf
    refine lv_iconst (v := 0) hx hb dX11_rebase_22 (by decide) ?_
    exact retZ X hr hk Z (by decide) hf dX11_rebase_23
  · have hf := itn c1 hf
    refine lv_lload_n hx hb dX11_rebase_6 rfl (lv_at hl 3 rfl) ?_
    refine lv_ldc2 (v := 68719476735) hx hb X.o (X.t _ kc_RX11_121) dX11_rebase_7 ?_
    refine x_lif_gt (tgt := 22) X dX11_rebase_10 dX11_rebase_11 (by decide) (fun c2 => ?_) (fun c2 => ?_)
    · have hf := itp c2 hf
      refine lv_iconst (v := 0) hx hb dX11_rebase_22 (by decide) ?_
      exact retZ X hr hk Z (by decide) hf dX11_rebase_23
    · have hf := itn c2 hf
      refine lv_iload hx hb dX11_rebase_14 (lv_at hl 4 rfl) ?_
      obtain ⟨r5, s4, h3, hf⟩ := bi_s hf
      refine goI Z (run_S (As := [.int a4]) (rest := []) X Z (c_X11_isByte l D h cy a4 σ (r5, s4) h3 _) lk_RX11_123 ⟨by decide, by decide⟩ rfl hl.1 rfl (Nat.le_of_ble_eq_true rfl) ⟨Nat.le_refl _, Nat.le_refl _⟩ dX11_rebase_16) (fun H locs Z => ?_)
      refine lv_if_ne (tgt := 24) hx hb dX11_rebase_19 (by decide) (fun c6 => ?_) (fun c6 => ?_)
      · have hf := itn c6 hf
        refine lv_aload_n hx hb dX11_rebase_24 rfl (lv_at hl 0 rfl) ?_
        refine gf_RX11_24 X Z dX11_rebase_25 ?_
        refine lv_iload_n hx hb dX11_rebase_28 rfl (lv_at hl 1 rfl) ?_
        refine lv_iload_n hx hb dX11_rebase_29 rfl (lv_at hl 2 rfl) ?_
        refine lv_lload_n hx hb dX11_rebase_30 rfl (lv_at hl 3 rfl) ?_
        refine lv_iload hx hb dX11_rebase_31 (lv_at hl 4 rfl) ?_
        refine lv_i2l (v := a4.toInt64) hx hb dX11_rebase_33 rfl ?_
        refine lv_bipush (v := 36) hx hb dX11_rebase_34 (by decide) ?_
        refine lv_lshl (v := zlshl a4.toInt64 (36 : Int32)) hx hb dX11_rebase_36 rfl ?_
        refine lv_lor hx hb dX11_rebase_37 ?_
        obtain ⟨r9, s8, h7, hf⟩ := bi_s hf
        refine goI Z (run_V (As := [.int a1, .int a2, .long ((a3 ||| (zlshl a4.toInt64 (36 : Int32))))]) (rest := []) X Z (c_X8_setPointer l D h cy a1 a2 ((a3 ||| (zlshl a4.toInt64 (36 : Int32)))) s4 (r9, s8) h7 _) lk_RX11_126 ⟨by decide, by decide⟩ rv_5 rfl hl.1 rfl (Nat.le_of_ble_eq_true rfl) ⟨Nat.le_refl _, Nat.le_refl _⟩ dX11_rebase_38) (fun H locs Z => ?_)
        obtain ⟨g10, hf⟩ := gd_s hf
        exact retZ X hr hk Z g10 hf dX11_rebase_41
      · have hf := itp c6 hf
        refine lv_iconst (v := 0) hx hb dX11_rebase_22 (by decide) ?_
        exact retZ X hr hk Z (by decide) hf dX11_rebase_23

set_option maxRecDepth 100000 in
set_option maxHeartbeats 4000000 in
theorem c_X11_bind (l : Launch) (D : va_G) (h : Nat → Nat) (cy : Nat → ClassId) (a1 : Int32) (a2 : Int32) (a3 : Int32) (a4 : Int32) (σ : St) (y : Int32 × St) (hf : f_X11_bind a1 a2 a3 a4 σ = some y) : CI l yX11_bind cX11_bind 5 (some .boolean) 3 67 D h cy [.ref (h 0), .int a1, .int a2, .int a3, .int a4] σ y := by
  refine ent (Qc := fun sz => QI D h cy sz y) (by decide) (Nat.le_of_ble_eq_true rfl) ?_
  intro p e s m below meth c ls X Z hr hk hl
  have X : Cx p s m _ c D h cy RX11 cX11_bind 5 := X
  have hx := X.x
  have hb := X.b
  have hl : lv_has ls 5 [(0, .ref (h 0)), (1, .int a1), (2, .int a2), (3, .int a3), (4, .int a4)] := hl
  unfold f_X11_bind at hf
  refine lv_aload_n hx hb dX11_bind_0 rfl (lv_at hl 0 rfl) ?_
  refine gf_RX11_24 X Z dX11_bind_1 ?_
  refine gf_RX11_130 X Z dX11_bind_4 ?_
  refine lv_iload_n hx hb dX11_bind_7 rfl (lv_at hl 3 rfl) ?_
  obtain ⟨r3, s2, h1, hf⟩ := bi_s hf
  refine goI Z (run_V (As := [.int a3]) (rest := []) X Z (c_X5_has l D h cy names_23 a3 σ (r3, s2) h1 _) lk_RX11_134 ⟨by decide, by decide⟩ (rv_NamesS names_23) rfl hl.1 rfl (Nat.le_of_ble_eq_true rfl) ⟨Nat.le_refl _, Nat.le_refl _⟩ dX11_bind_8) (fun H locs Z => ?_)
  refine lv_if_eq (tgt := 22) hx hb dX11_bind_11 (by decide) (fun c4 => ?_) (fun c4 => ?_)
  · have hf := itp c4 hf
    refine lv_iconst (v := 0) hx hb dX11_bind_22 (by decide) ?_
    exact retZ X hr hk Z (by decide) hf dX11_bind_23
  · have hf := itn c4 hf
    refine lv_iload hx hb dX11_bind_14 (lv_at hl 4 rfl) ?_
    obtain ⟨r7, s6, h5, hf⟩ := bi_s hf
    refine goI Z (run_S (As := [.int a4]) (rest := []) X Z (c_X11_isByte l D h cy a4 s2 (r7, s6) h5 _) lk_RX11_123 ⟨by decide, by decide⟩ rfl hl.1 rfl (Nat.le_of_ble_eq_true rfl) ⟨Nat.le_refl _, Nat.le_refl _⟩ dX11_bind_16) (fun H locs Z => ?_)
    refine lv_if_ne (tgt := 24) hx hb dX11_bind_19 (by decide) (fun c8 => ?_) (fun c8 => ?_)
    · have hf := itn c8 hf
      refine lv_aload_n hx hb dX11_bind_24 rfl (lv_at hl 0 rfl) ?_
      refine gf_RX11_24 X Z dX11_bind_25 ?_
      refine lv_iload_n hx hb dX11_bind_28 rfl (lv_at hl 1 rfl) ?_
      refine lv_iload_n hx hb dX11_bind_29 rfl (lv_at hl 2 rfl) ?_
      refine lv_ldc2 (v := (-9223372036854775808)) hx hb X.o (X.t _ kc_RX11_139) dX11_bind_30 ?_
      refine lv_iload hx hb dX11_bind_33 (lv_at hl 4 rfl) ?_
      refine lv_i2l (v := a4.toInt64) hx hb dX11_bind_35 rfl ?_
      refine lv_bipush (v := 24) hx hb dX11_bind_36 (by decide) ?_
      refine lv_lshl (v := zlshl a4.toInt64 (24 : Int32)) hx hb dX11_bind_38 rfl ?_
      refine lv_lor hx hb dX11_bind_39 ?_
      refine lv_iload_n hx hb dX11_bind_40 rfl (lv_at hl 3 rfl) ?_
      refine lv_i2l (v := a3.toInt64) hx hb dX11_bind_41 rfl ?_
      refine lv_lor hx hb dX11_bind_42 ?_
      obtain ⟨r11, s10, h9, hf⟩ := bi_s hf
      refine goI Z (run_V (As := [.int a1, .int a2, .long ((((-9223372036854775808 : Int64) ||| (zlshl a4.toInt64 (24 : Int32))) ||| a3.toInt64))]) (rest := []) X Z (c_X8_setPointer l D h cy a1 a2 ((((-9223372036854775808 : Int64) ||| (zlshl a4.toInt64 (24 : Int32))) ||| a3.toInt64)) s6 (r11, s10) h9 _) lk_RX11_126 ⟨by decide, by decide⟩ rv_5 rfl hl.1 rfl (Nat.le_of_ble_eq_true rfl) ⟨Nat.le_refl _, Nat.le_refl _⟩ dX11_bind_43) (fun H locs Z => ?_)
      obtain ⟨g12, hf⟩ := gd_s hf
      exact retZ X hr hk Z g12 hf dX11_bind_46
    · have hf := itp c8 hf
      refine lv_iconst (v := 0) hx hb dX11_bind_22 (by decide) ?_
      exact retZ X hr hk Z (by decide) hf dX11_bind_23

set_option maxRecDepth 100000 in
set_option maxHeartbeats 4000000 in
theorem c_X11_drop (l : Launch) (D : va_G) (h : Nat → Nat) (cy : Nat → ClassId) (a1 : Int32) (a2 : Int32) (σ : St) (y : Int32 × St) (hf : f_X11_drop a1 a2 σ = some y) : CI l yX11_drop cX11_drop 3 (some .boolean) 3 65 D h cy [.ref (h 0), .int a1, .int a2] σ y := by
  refine ent (Qc := fun sz => QI D h cy sz y) (by decide) (Nat.le_of_ble_eq_true rfl) ?_
  intro p e s m below meth c ls X Z hr hk hl
  have X : Cx p s m _ c D h cy RX11 cX11_drop 3 := X
  have hx := X.x
  have hb := X.b
  have hl : lv_has ls 3 [(0, .ref (h 0)), (1, .int a1), (2, .int a2)] := hl
  unfold f_X11_drop at hf
  refine lv_aload_n hx hb dX11_drop_0 rfl (lv_at hl 0 rfl) ?_
  refine gf_RX11_24 X Z dX11_drop_1 ?_
  refine lv_iload_n hx hb dX11_drop_4 rfl (lv_at hl 1 rfl) ?_
  refine lv_iload_n hx hb dX11_drop_5 rfl (lv_at hl 2 rfl) ?_
  obtain ⟨r3, s2, h1, hf⟩ := bi_s hf
  refine goI Z (run_V (As := [.int a1, .int a2]) (rest := []) X Z (c_X8_removePointer l D h cy a1 a2 σ (r3, s2) h1 _) lk_RX11_141 ⟨by decide, by decide⟩ rv_5 rfl hl.1 rfl (Nat.le_of_ble_eq_true rfl) ⟨Nat.le_refl _, Nat.le_refl _⟩ dX11_drop_6) (fun H locs Z => ?_)
  obtain ⟨g4, hf⟩ := gd_s hf
  exact retZ X hr hk Z g4 hf dX11_drop_9

set_option maxRecDepth 100000 in
set_option maxHeartbeats 4000000 in
theorem c_X11_write (l : Launch) (D : va_G) (h : Nat → Nat) (cy : Nat → ClassId) (σ : St) (y : Int32 × St) (hf : f_X11_write σ = some y) : CI l yX11_write cX11_write 1 (some .int) 7 155 D h cy [.ref (h 0)] σ y := by
  refine ent (Qc := fun sz => QI D h cy sz y) (by decide) (Nat.le_of_ble_eq_true rfl) ?_
  intro p e s m below meth c ls X Z hr hk hl
  have X : Cx p s m _ c D h cy RX11 cX11_write 1 := X
  have hx := X.x
  have hb := X.b
  have hl : lv_has ls 1 [(0, .ref (h 0))] := hl
  unfold f_X11_write at hf
  refine lv_aload_n hx hb dX11_write_0 rfl (lv_at hl 0 rfl) ?_
  refine gf_RX11_33 X Z dX11_write_1 ?_
  obtain ⟨s2, h1, hf⟩ := bv_s hf
  refine goV Z (run_V (As := []) (rest := []) X Z (c_X10_writeAll l D h cy σ s2 h1 _) lk_RX11_145 ⟨by decide, by decide⟩ rv_30 rfl hl.1 rfl (Nat.le_of_ble_eq_true rfl) ⟨Nat.le_refl _, Nat.le_refl _⟩ dX11_write_4) (fun H locs Z => ?_)
  refine lv_aload_n hx hb dX11_write_7 rfl (lv_at hl 0 rfl) ?_
  refine gf_RX11_18 X Z dX11_write_8 ?_
  refine gf_RX11_76 X Z row_3 dX11_write_11 ?_
  exact retI X hr hk Z hf dX11_write_14

set_option maxRecDepth 100000 in
set_option maxHeartbeats 4000000 in
theorem c_X11_image (l : Launch) (D : va_G) (h : Nat → Nat) (cy : Nat → ClassId) (a1 : Int32) (σ : St) (y : Int32 × St) (hf : f_X11_image a1 σ = some y) : CI l yX11_image cX11_image 2 (some .int) 1 21 D h cy [.ref (h 0), .int a1] σ y := by
  refine ent (Qc := fun sz => QI D h cy sz y) (by decide) (Nat.le_of_ble_eq_true rfl) ?_
  intro p e s m below meth c ls X Z hr hk hl
  have X : Cx p s m _ c D h cy RX11 cX11_image 2 := X
  have hx := X.x
  have hb := X.b
  have hl : lv_has ls 2 [(0, .ref (h 0)), (1, .int a1)] := hl
  unfold f_X11_image at hf
  refine lv_aload_n hx hb dX11_image_0 rfl (lv_at hl 0 rfl) ?_
  refine gf_RX11_18 X Z dX11_image_1 ?_
  refine lv_iload_n hx hb dX11_image_4 rfl (lv_at hl 1 rfl) ?_
  obtain ⟨r3, s2, h1, hf⟩ := bi_s hf
  refine goI Z (run_V (As := [.int a1]) (rest := []) X Z (c_X6_has l D h cy row_3 a1 σ (r3, s2) h1 _) lk_RX11_148 ⟨by decide, by decide⟩ (rv_RowS row_3) rfl hl.1 rfl (Nat.le_of_ble_eq_true rfl) ⟨Nat.le_refl _, Nat.le_refl _⟩ dX11_image_5) (fun H locs Z => ?_)
  refine lv_if_eq (tgt := 22) hx hb dX11_image_8 (by decide) (fun c4 => ?_) (fun c4 => ?_)
  · have hf := itp c4 hf
    refine lv_iconst (v := (-1)) hx hb dX11_image_22 (by decide) ?_
    exact retI X hr hk Z hf dX11_image_23
  · have hf := itn c4 hf
    refine lv_aload_n hx hb dX11_image_11 rfl (lv_at hl 0 rfl) ?_
    refine gf_RX11_18 X Z dX11_image_12 ?_
    refine lv_iload_n hx hb dX11_image_15 rfl (lv_at hl 1 rfl) ?_
    obtain ⟨r7, s6, h5, hf⟩ := bi_s hf
    refine goI Z (run_V (As := [.int a1]) (rest := []) X Z (c_X6_at l D h cy row_3 a1 s2 (r7, s6) h5 _) lk_RX11_149 ⟨by decide, by decide⟩ (rv_RowS row_3) rfl hl.1 rfl (Nat.le_of_ble_eq_true rfl) ⟨Nat.le_refl _, Nat.le_refl _⟩ dX11_image_16) (fun H locs Z => ?_)
    refine lv_goto (tgt := 23) hx hb dX11_image_19 (by decide) ?_
    exact retI X hr hk Z hf dX11_image_23

set_option maxRecDepth 100000 in
set_option maxHeartbeats 4000000 in
theorem c_X11_damage (l : Launch) (D : va_G) (h : Nat → Nat) (cy : Nat → ClassId) (a1 : Int32) (a2 : Int32) (σ : St) (y : Int32 × St) (hf : f_X11_damage a1 a2 σ = some y) : CI l yX11_damage cX11_damage 3 (some .boolean) 2 46 D h cy [.ref (h 0), .int a1, .int a2] σ y := by
  refine ent (Qc := fun sz => QI D h cy sz y) (by decide) (Nat.le_of_ble_eq_true rfl) ?_
  intro p e s m below meth c ls X Z hr hk hl
  have X : Cx p s m _ c D h cy RX11 cX11_damage 3 := X
  have hx := X.x
  have hb := X.b
  have hl : lv_has ls 3 [(0, .ref (h 0)), (1, .int a1), (2, .int a2)] := hl
  unfold f_X11_damage at hf
  refine lv_aload_n hx hb dX11_damage_0 rfl (lv_at hl 0 rfl) ?_
  refine gf_RX11_18 X Z dX11_damage_1 ?_
  refine lv_iload_n hx hb dX11_damage_4 rfl (lv_at hl 1 rfl) ?_
  obtain ⟨r3, s2, h1, hf⟩ := bi_s hf
  refine goI Z (run_V (As := [.int a1]) (rest := []) X Z (c_X6_has l D h cy row_3 a1 σ (r3, s2) h1 _) lk_RX11_148 ⟨by decide, by decide⟩ (rv_RowS row_3) rfl hl.1 rfl (Nat.le_of_ble_eq_true rfl) ⟨Nat.le_refl _, Nat.le_refl _⟩ dX11_damage_5) (fun H locs Z => ?_)
  refine lv_if_eq (tgt := 18) hx hb dX11_damage_8 (by decide) (fun c4 => ?_) (fun c4 => ?_)
  · have hf := itp c4 hf
    refine lv_iconst (v := 0) hx hb dX11_damage_18 (by decide) ?_
    exact retZ X hr hk Z (by decide) hf dX11_damage_19
  · have hf := itn c4 hf
    refine lv_iload_n hx hb dX11_damage_11 rfl (lv_at hl 2 rfl) ?_
    obtain ⟨r7, s6, h5, hf⟩ := bi_s hf
    refine goI Z (run_S (As := [.int a2]) (rest := []) X Z (c_X11_isByte l D h cy a2 s2 (r7, s6) h5 _) lk_RX11_123 ⟨by decide, by decide⟩ rfl hl.1 rfl (Nat.le_of_ble_eq_true rfl) ⟨Nat.le_refl _, Nat.le_refl _⟩ dX11_damage_12) (fun H locs Z => ?_)
    refine lv_if_ne (tgt := 20) hx hb dX11_damage_15 (by decide) (fun c8 => ?_) (fun c8 => ?_)
    · have hf := itn c8 hf
      refine lv_aload_n hx hb dX11_damage_20 rfl (lv_at hl 0 rfl) ?_
      refine gf_RX11_18 X Z dX11_damage_21 ?_
      refine lv_iload_n hx hb dX11_damage_24 rfl (lv_at hl 1 rfl) ?_
      refine lv_iconst (v := 1) hx hb dX11_damage_25 (by decide) ?_
      refine lv_iload_n hx hb dX11_damage_26 rfl (lv_at hl 2 rfl) ?_
      refine lv_i2l (v := a2.toInt64) hx hb dX11_damage_27 rfl ?_
      obtain ⟨s10, h9, hf⟩ := bv_s hf
      refine goV Z (run_V (As := [.int a1, .int (1 : Int32), .long a2.toInt64]) (rest := []) X Z (c_X6_put l D h cy row_3 a1 (1 : Int32) a2.toInt64 s6 s10 h9 _) lk_RX11_153 ⟨by decide, by decide⟩ (rv_RowS row_3) rfl hl.1 rfl (Nat.le_of_ble_eq_true rfl) ⟨Nat.le_refl _, Nat.le_refl _⟩ dX11_damage_28) (fun H locs Z => ?_)
      refine lv_iconst (v := 1) hx hb dX11_damage_31 (by decide) ?_
      exact retZ X hr hk Z (by decide) hf dX11_damage_32
    · have hf := itp c8 hf
      refine lv_iconst (v := 0) hx hb dX11_damage_18 (by decide) ?_
      exact retZ X hr hk Z (by decide) hf dX11_damage_19

set_option maxRecDepth 100000 in
set_option maxHeartbeats 4000000 in
theorem c_X11_cut (l : Launch) (D : va_G) (h : Nat → Nat) (cy : Nat → ClassId) (a1 : Int32) (σ : St) (y : Int32 × St) (hf : f_X11_cut a1 σ = some y) : CI l yX11_cut cX11_cut 2 (some .boolean) 1 21 D h cy [.ref (h 0), .int a1] σ y := by
  refine ent (Qc := fun sz => QI D h cy sz y) (by decide) (Nat.le_of_ble_eq_true rfl) ?_
  intro p e s m below meth c ls X Z hr hk hl
  have X : Cx p s m _ c D h cy RX11 cX11_cut 2 := X
  have hx := X.x
  have hb := X.b
  have hl : lv_has ls 2 [(0, .ref (h 0)), (1, .int a1)] := hl
  unfold f_X11_cut at hf
  refine lv_aload_n hx hb dX11_cut_0 rfl (lv_at hl 0 rfl) ?_
  refine gf_RX11_18 X Z dX11_cut_1 ?_
  refine lv_iload_n hx hb dX11_cut_4 rfl (lv_at hl 1 rfl) ?_
  obtain ⟨r3, s2, h1, hf⟩ := bi_s hf
  refine goI Z (run_V (As := [.int a1]) (rest := []) X Z (c_X6_shorten l D h cy row_3 a1 σ (r3, s2) h1 _) lk_RX11_87 ⟨by decide, by decide⟩ (rv_RowS row_3) rfl hl.1 rfl (Nat.le_of_ble_eq_true rfl) ⟨Nat.le_refl _, Nat.le_refl _⟩ dX11_cut_5) (fun H locs Z => ?_)
  obtain ⟨g4, hf⟩ := gd_s hf
  exact retZ X hr hk Z g4 hf dX11_cut_8

set_option maxRecDepth 100000 in
set_option maxHeartbeats 4000000 in
theorem c_X11_export (l : Launch) (D : va_G) (h : Nat → Nat) (cy : Nat → ClassId) (a1 : Int32) (a2 : Int32) (σ : St) (y : Int32 × St) (hf : f_X11_export a1 a2 σ = some y) : CI l yX11_export cX11_export 4 (some .boolean) 4 94 D h cy [.ref (h 0), .int a1, .int a2] σ y := by
  refine ent (Qc := fun sz => QI D h cy sz y) (by decide) (Nat.le_of_ble_eq_true rfl) ?_
  intro p e s m below meth c ls X Z hr hk hl
  have X : Cx p s m _ c D h cy RX11 cX11_export 4 := X
  have hx := X.x
  have hb := X.b
  have hl : lv_has ls 4 [(0, .ref (h 0)), (1, .int a1), (2, .int a2)] := hl
  unfold f_X11_export at hf
  refine lv_aload_n hx hb dX11_export_0 rfl (lv_at hl 0 rfl) ?_
  refine gf_RX11_40 X Z dX11_export_1 ?_
  refine lv_aload_n hx hb dX11_export_4 rfl (lv_at hl 0 rfl) ?_
  refine gf_RX11_14 X Z dX11_export_5 ?_
  refine lv_iload_n hx hb dX11_export_8 rfl (lv_at hl 1 rfl) ?_
  refine lv_iload_n hx hb dX11_export_9 rfl (lv_at hl 2 rfl) ?_
  obtain ⟨r3, s2, h1, hf⟩ := bi_s hf
  refine goI Z (run_V (As := [.ref (h 1), .int a1, .int a2]) (rest := []) X Z (c_X1_put l D h cy row_1 a1 a2 σ (r3, s2) h1 _) lk_RX11_157 ⟨by decide, by decide⟩ rv_33 rfl hl.1 rfl (Nat.le_of_ble_eq_true rfl) ⟨Nat.le_refl _, Nat.le_refl _⟩ dX11_export_10) (fun H locs Z => ?_)
  refine lv_istore_n (lv' := [(3, .int r3), (0, .ref (h 0)), (1, .int a1), (2, .int a2)]) hx hb dX11_export_13 rfl hl (by decide) rfl (fun ls hl => ?_)
  refine lv_aload_n hx hb dX11_export_14 rfl (lv_at hl 1 rfl) ?_
  refine gf_RX11_14 X Z dX11_export_15 ?_
  obtain ⟨s5, h4, hf⟩ := bv_s hf
  refine goV Z (run_V (As := []) (rest := []) X Z (c_X6_clear l D h cy row_1 s2 s5 h4 _) lk_RX11_103 ⟨by decide, by decide⟩ (rv_RowS row_1) rfl hl.1 rfl (Nat.le_of_ble_eq_true rfl) ⟨Nat.le_refl _, Nat.le_refl _⟩ dX11_export_18) (fun H locs Z => ?_)
  refine lv_iload_n hx hb dX11_export_21 rfl (lv_at hl 0 rfl) ?_
  obtain ⟨g6, hf⟩ := gd_s hf
  exact retZ X hr hk Z g6 hf dX11_export_22

set_option maxRecDepth 100000 in
set_option maxHeartbeats 4000000 in
theorem c_X11_load (l : Launch) (D : va_G) (h : Nat → Nat) (cy : Nat → ClassId) (a1 : Int32) (σ : St) (y : Int32 × St) (hf : f_X11_load a1 σ = some y) : CI l yX11_load cX11_load 2 (some .int) 7 168 D h cy [.ref (h 0), .int a1] σ y := by
  refine ent (Qc := fun sz => QI D h cy sz y) (by decide) (Nat.le_of_ble_eq_true rfl) ?_
  intro p e s m below meth c ls X Z hr hk hl
  have X : Cx p s m _ c D h cy RX11 cX11_load 2 := X
  have hx := X.x
  have hb := X.b
  have hl : lv_has ls 2 [(0, .ref (h 0)), (1, .int a1)] := hl
  unfold f_X11_load at hf
  refine lv_aload_n hx hb dX11_load_0 rfl (lv_at hl 0 rfl) ?_
  refine gf_RX11_47 X Z dX11_load_1 ?_
  obtain ⟨s2, h1, hf⟩ := bv_s hf
  refine goV Z (run_V (As := []) (rest := []) X Z (c_X2_clear l D h cy σ s2 h1 _) lk_RX11_159 ⟨by decide, by decide⟩ rv_39 rfl hl.1 rfl (Nat.le_of_ble_eq_true rfl) ⟨Nat.le_refl _, Nat.le_refl _⟩ dX11_load_4) (fun H locs Z => ?_)
  refine lv_aload_n hx hb dX11_load_7 rfl (lv_at hl 0 rfl) ?_
  refine gf_RX11_56 X Z dX11_load_8 ?_
  obtain ⟨r5, s4, h3, hf⟩ := bi_s hf
  refine goI Z (run_V (As := []) (rest := []) X Z (c_X0_hold l D h cy s2 (r5, s4) h3 _) lk_RX11_160 ⟨by decide, by decide⟩ rv_40 rfl hl.1 rfl (Nat.le_of_ble_eq_true rfl) ⟨Nat.le_refl _, Nat.le_refl _⟩ dX11_load_11) (fun H locs Z => ?_)
  refine lv_if_eq (tgt := 79) hx hb dX11_load_14 (by decide) (fun c6 => ?_) (fun c6 => ?_)
  · have hf := itp c6 hf
    refine lv_aload_n hx hb dX11_load_79 rfl (lv_at hl 0 rfl) ?_
    refine gf_RX11_47 X Z dX11_load_80 ?_
    refine gf_RX11_186 X Z dX11_load_83 ?_
    exact retI X hr hk Z hf dX11_load_86
  · have hf := itn c6 hf
    refine lv_aload_n hx hb dX11_load_17 rfl (lv_at hl 0 rfl) ?_
    refine gf_RX11_65 X Z dX11_load_18 ?_
    obtain ⟨r9, s8, h7, hf⟩ := bi_s hf
    refine goI Z (run_V (As := []) (rest := []) X Z (c_X3_hold l D h cy s4 (r9, s8) h7 _) lk_RX11_164 ⟨by decide, by decide⟩ rv_46 rfl hl.1 rfl (Nat.le_of_ble_eq_true rfl) ⟨Nat.le_refl _, Nat.le_refl _⟩ dX11_load_21) (fun H locs Z => ?_)
    refine lv_if_eq (tgt := 79) hx hb dX11_load_24 (by decide) (fun c10 => ?_) (fun c10 => ?_)
    · have hf := itp c10 hf
      refine lv_aload_n hx hb dX11_load_79 rfl (lv_at hl 0 rfl) ?_
      refine gf_RX11_47 X Z dX11_load_80 ?_
      refine gf_RX11_186 X Z dX11_load_83 ?_
      exact retI X hr hk Z hf dX11_load_86
    · have hf := itn c10 hf
      refine lv_aload_n hx hb dX11_load_27 rfl (lv_at hl 0 rfl) ?_
      refine gf_RX11_47 X Z dX11_load_28 ?_
      refine lv_aload_n hx hb dX11_load_31 rfl (lv_at hl 0 rfl) ?_
      refine gf_RX11_56 X Z dX11_load_32 ?_
      refine gf_RX11_165 X Z dX11_load_35 ?_
      refine lv_iload_n hx hb dX11_load_38 rfl (lv_at hl 1 rfl) ?_
      obtain ⟨r13, s12, h11, hf⟩ := bi_s hf
      refine goI Z (run_V (As := [.int a1]) (rest := [.ref (h 39)]) X Z (c_X7_fitWith l D h cy segs_41 a1 s8 (r13, s12) h11 _) lk_RX11_169 ⟨by decide, by decide⟩ (rv_SegsS segs_41) rfl hl.1 rfl (Nat.le_of_ble_eq_true rfl) ⟨Nat.le_refl _, Nat.le_refl _⟩ dX11_load_39) (fun H locs Z => ?_)
      refine lv_bipush (v := 13) hx hb dX11_load_42 (by decide) ?_
      refine lv_iconst (v := 0) hx hb dX11_load_44 (by decide) ?_
      obtain ⟨r16, s15, h14, hf⟩ := bi_s hf
      refine goI Z (run_V (As := [.int r13, .int (13 : Int32), .int (0 : Int32)]) (rest := []) X Z (c_X2_unless l D h cy r13 (13 : Int32) (0 : Int32) s12 (r16, s15) h14 _) lk_RX11_174 ⟨by decide, by decide⟩ rv_39 rfl hl.1 rfl (Nat.le_of_ble_eq_true rfl) ⟨Nat.le_refl _, Nat.le_refl _⟩ dX11_load_45) (fun H locs Z => ?_)
      refine lv_if_eq (tgt := 79) hx hb dX11_load_48 (by decide) (fun c17 => ?_) (fun c17 => ?_)
      · have hf := itp c17 hf
        refine lv_aload_n hx hb dX11_load_79 rfl (lv_at hl 0 rfl) ?_
        refine gf_RX11_47 X Z dX11_load_80 ?_
        refine gf_RX11_186 X Z dX11_load_83 ?_
        exact retI X hr hk Z hf dX11_load_86
      · have hf := itn c17 hf
        refine lv_aload_n hx hb dX11_load_51 rfl (lv_at hl 0 rfl) ?_
        refine gf_RX11_72 X Z dX11_load_52 ?_
        refine lv_aload_n hx hb dX11_load_55 rfl (lv_at hl 0 rfl) ?_
        refine gf_RX11_18 X Z dX11_load_56 ?_
        refine lv_aload_n hx hb dX11_load_59 rfl (lv_at hl 0 rfl) ?_
        refine gf_RX11_56 X Z dX11_load_60 ?_
        refine lv_iload_n hx hb dX11_load_63 rfl (lv_at hl 1 rfl) ?_
        obtain ⟨s19, h18, hf⟩ := bv_s hf
        refine goV Z (run_V (As := [.ref (h 3), .ref (h 40), .int a1]) (rest := []) X Z (c_X4_take l D h cy row_3 a1 s15 s19 h18 _) lk_RX11_178 ⟨by decide, by decide⟩ rv_53 rfl hl.1 rfl (Nat.le_of_ble_eq_true rfl) ⟨Nat.le_refl _, Nat.le_refl _⟩ dX11_load_64) (fun H locs Z => ?_)
        refine lv_aload_n hx hb dX11_load_67 rfl (lv_at hl 0 rfl) ?_
        refine gf_RX11_72 X Z dX11_load_68 ?_
        refine lv_aload_n hx hb dX11_load_71 rfl (lv_at hl 0 rfl) ?_
        refine gf_RX11_65 X Z dX11_load_72 ?_
        refine lv_iload_n hx hb dX11_load_75 rfl (lv_at hl 1 rfl) ?_
        obtain ⟨s21, h20, hf⟩ := bv_s hf
        refine goV Z (run_V (As := [.ref (h 46), .int a1]) (rest := []) X Z (c_X4_setPointers l D h cy a1 s19 s21 h20 _) lk_RX11_182 ⟨by decide, by decide⟩ rv_53 rfl hl.1 rfl (Nat.le_of_ble_eq_true rfl) ⟨Nat.le_refl _, Nat.le_refl _⟩ dX11_load_76) (fun H locs Z => ?_)
        refine lv_aload_n hx hb dX11_load_79 rfl (lv_at hl 0 rfl) ?_
        refine gf_RX11_47 X Z dX11_load_80 ?_
        refine gf_RX11_186 X Z dX11_load_83 ?_
        exact retI X hr hk Z hf dX11_load_86

set_option maxRecDepth 100000 in
set_option maxHeartbeats 4000000 in
theorem c_X11_place (l : Launch) (D : va_G) (h : Nat → Nat) (cy : Nat → ClassId) (σ : St) (y : Int32 × St) (hf : f_X11_place σ = some y) : CI l yX11_place cX11_place 1 (some .int) 0 0 D h cy [.ref (h 0)] σ y := by
  refine ent (Qc := fun sz => QI D h cy sz y) (by decide) (Nat.le_of_ble_eq_true rfl) ?_
  intro p e s m below meth c ls X Z hr hk hl
  have X : Cx p s m _ c D h cy RX11 cX11_place 1 := X
  have hx := X.x
  have hb := X.b
  have hl : lv_has ls 1 [(0, .ref (h 0))] := hl
  unfold f_X11_place at hf
  refine lv_aload_n hx hb dX11_place_0 rfl (lv_at hl 0 rfl) ?_
  refine gf_RX11_47 X Z dX11_place_1 ?_
  refine gf_RX11_189 X Z dX11_place_4 ?_
  exact retI X hr hk Z hf dX11_place_7

set_option maxRecDepth 100000 in
set_option maxHeartbeats 4000000 in
theorem c_X11_memory (l : Launch) (D : va_G) (h : Nat → Nat) (cy : Nat → ClassId) (a1 : Int32) (σ : St) (y : Int32 × St) (hf : f_X11_memory a1 σ = some y) : CI l yX11_memory cX11_memory 3 (some .int) 1 25 D h cy [.ref (h 0), .int a1] σ y := by
  refine ent (Qc := fun sz => QI D h cy sz y) (by decide) (Nat.le_of_ble_eq_true rfl) ?_
  intro p e s m below meth c ls X Z hr hk hl
  have X : Cx p s m _ c D h cy RX11 cX11_memory 3 := X
  have hx := X.x
  have hb := X.b
  have hl : lv_has ls 3 [(0, .ref (h 0)), (1, .int a1)] := hl
  unfold f_X11_memory at hf
  refine lv_aload_n hx hb dX11_memory_0 rfl (lv_at hl 0 rfl) ?_
  refine gf_RX11_72 X Z dX11_memory_1 ?_
  refine gf_RX11_192 X Z dX11_memory_4 ?_
  refine lv_iload_n hx hb dX11_memory_7 rfl (lv_at hl 1 rfl) ?_
  refine lv_iconst (v := 1) hx hb dX11_memory_8 (by decide) ?_
  obtain ⟨r3, s2, h1, hf⟩ := bi_s hf
  refine goI Z (run_V (As := [.int a1, .int (1 : Int32)]) (rest := []) X Z (c_X7_placeOf l D h cy segs_54 a1 (1 : Int32) σ (r3, s2) h1 _) lk_RX11_193 ⟨by decide, by decide⟩ (rv_SegsS segs_54) rfl hl.1 rfl (Nat.le_of_ble_eq_true rfl) ⟨Nat.le_refl _, Nat.le_refl _⟩ dX11_memory_9) (fun H locs Z => ?_)
  refine lv_istore_n (lv' := [(2, .int r3), (0, .ref (h 0)), (1, .int a1)]) hx hb dX11_memory_12 rfl hl (by decide) rfl (fun ls hl => ?_)
  refine lv_iload_n hx hb dX11_memory_13 rfl (lv_at hl 0 rfl) ?_
  refine lv_iconst (v := (-1)) hx hb dX11_memory_14 (by decide) ?_
  refine lv_icmp_ne (tgt := 22) hx hb dX11_memory_15 (by decide) (fun c4 => ?_) (fun c4 => ?_)
  · have hf := itn c4 hf
    refine lv_aload_n hx hb dX11_memory_22 rfl (lv_at hl 1 rfl) ?_
    refine gf_RX11_72 X Z dX11_memory_23 ?_
    refine gf_RX11_197 X Z dX11_memory_26 ?_
    refine lv_iload_n hx hb dX11_memory_29 rfl (lv_at hl 0 rfl) ?_
    obtain ⟨r7, s6, h5, hf⟩ := bi_s hf
    refine goI Z (run_V (As := [.int r3]) (rest := []) X Z (c_X6_at l D h cy row_59 r3 s2 (r7, s6) h5 _) lk_RX11_149 ⟨by decide, by decide⟩ (rv_RowS row_59) rfl hl.1 rfl (Nat.le_of_ble_eq_true rfl) ⟨Nat.le_refl _, Nat.le_refl _⟩ dX11_memory_30) (fun H locs Z => ?_)
    exact retI X hr hk Z hf dX11_memory_33
  · have hf := itp c4 hf
    refine lv_iconst (v := (-1)) hx hb dX11_memory_18 (by decide) ?_
    refine lv_goto (tgt := 33) hx hb dX11_memory_19 (by decide) ?_
    exact retI X hr hk Z hf dX11_memory_33

set_option maxRecDepth 100000 in
set_option maxHeartbeats 4000000 in
theorem c_X11_find (l : Launch) (D : va_G) (h : Nat → Nat) (cy : Nat → ClassId) (σ : St) (y : Int32 × St) (hf : f_X11_find σ = some y) : CI l yX11_find cX11_find 2 (some .int) 3 68 D h cy [.ref (h 0)] σ y := by
  refine ent (Qc := fun sz => QI D h cy sz y) (by decide) (Nat.le_of_ble_eq_true rfl) ?_
  intro p e s m below meth c ls X Z hr hk hl
  have X : Cx p s m _ c D h cy RX11 cX11_find 2 := X
  have hx := X.x
  have hb := X.b
  have hl : lv_has ls 2 [(0, .ref (h 0))] := hl
  unfold f_X11_find at hf
  refine lv_aload_n hx hb dX11_find_0 rfl (lv_at hl 0 rfl) ?_
  refine gf_RX11_72 X Z dX11_find_1 ?_
  refine lv_aload_n hx hb dX11_find_4 rfl (lv_at hl 0 rfl) ?_
  refine gf_RX11_14 X Z dX11_find_5 ?_
  obtain ⟨r3, s2, h1, hf⟩ := bi_s hf
  refine goI Z (run_V (As := [.ref (h 1)]) (rest := []) X Z (c_X4_symbolAddress l D h cy row_1 σ (r3, s2) h1 _) lk_RX11_233 ⟨by decide, by decide⟩ rv_53 rfl hl.1 rfl (Nat.le_of_ble_eq_true rfl) ⟨Nat.le_refl _, Nat.le_refl _⟩ dX11_find_8) (fun H locs Z => ?_)
  refine lv_istore_n (lv' := [(1, .int r3), (0, .ref (h 0))]) hx hb dX11_find_11 rfl hl (by decide) rfl (fun ls hl => ?_)
  refine lv_aload_n hx hb dX11_find_12 rfl (lv_at hl 1 rfl) ?_
  refine gf_RX11_14 X Z dX11_find_13 ?_
  obtain ⟨s5, h4, hf⟩ := bv_s hf
  refine goV Z (run_V (As := []) (rest := []) X Z (c_X6_clear l D h cy row_1 s2 s5 h4 _) lk_RX11_103 ⟨by decide, by decide⟩ (rv_RowS row_1) rfl hl.1 rfl (Nat.le_of_ble_eq_true rfl) ⟨Nat.le_refl _, Nat.le_refl _⟩ dX11_find_16) (fun H locs Z => ?_)
  refine lv_iload_n hx hb dX11_find_19 rfl (lv_at hl 0 rfl) ?_
  exact retI X hr hk Z hf dX11_find_20

set_option maxRecDepth 100000 in
set_option maxHeartbeats 4000000 in
theorem c_X11_count (l : Launch) (D : va_G) (h : Nat → Nat) (cy : Nat → ClassId) (a1 : Int32) (σ : St) (y : Int32 × St) (hf : f_X11_count a1 σ = some y) : CI l yX11_count cX11_count 2 (some .int) 0 0 D h cy [.ref (h 0), .int a1] σ y := by
  refine ent (Qc := fun sz => QI D h cy sz y) (by decide) (Nat.le_of_ble_eq_true rfl) ?_
  intro p e s m below meth c ls X Z hr hk hl
  have X : Cx p s m _ c D h cy RX11 cX11_count 2 := X
  have hx := X.x
  have hb := X.b
  have hl : lv_has ls 2 [(0, .ref (h 0)), (1, .int a1)] := hl
  unfold f_X11_count at hf
  refine lv_iload_n hx hb dX11_count_0 rfl (lv_at hl 1 rfl) ?_
  refine Or.elim (Decidable.em (a1 = 0)) (fun c1 => ?_) (fun c1 => ?_)
  · have hf := itp c1 hf
    refine lv_tableIn (off := 59) (tgt := 60) hx hb dX11_count_1 (by rw [c1]; decide) (by rw [c1]; decide) (by rw [c1]; rfl) (by decide) ?_
    refine lv_aload_n hx hb dX11_count_60 rfl (lv_at hl 0 rfl) ?_
    refine gf_RX11_24 X Z dX11_count_61 ?_
    refine gf_RX11_237 X Z dX11_count_64 ?_
    refine gf_RX11_239 X Z names_6 dX11_count_67 ?_
    exact retI X hr hk Z hf dX11_count_70
  have hf := itn c1 hf
  refine Or.elim (Decidable.em (a1 = 1)) (fun c2 => ?_) (fun c2 => ?_)
  · have hf := itp c2 hf
    refine lv_tableIn (off := 70) (tgt := 71) hx hb dX11_count_1 (by rw [c2]; decide) (by rw [c2]; decide) (by rw [c2]; rfl) (by decide) ?_
    refine lv_aload_n hx hb dX11_count_71 rfl (lv_at hl 0 rfl) ?_
    refine gf_RX11_24 X Z dX11_count_72 ?_
    refine gf_RX11_242 X Z dX11_count_75 ?_
    refine gf_RX11_239 X Z names_12 dX11_count_78 ?_
    exact retI X hr hk Z hf dX11_count_81
  have hf := itn c2 hf
  refine Or.elim (Decidable.em (a1 = 2)) (fun c3 => ?_) (fun c3 => ?_)
  · have hf := itp c3 hf
    refine lv_tableIn (off := 81) (tgt := 82) hx hb dX11_count_1 (by rw [c3]; decide) (by rw [c3]; decide) (by rw [c3]; rfl) (by decide) ?_
    refine lv_aload_n hx hb dX11_count_82 rfl (lv_at hl 0 rfl) ?_
    refine gf_RX11_24 X Z dX11_count_83 ?_
    refine gf_RX11_245 X Z dX11_count_86 ?_
    refine gf_RX11_239 X Z names_18 dX11_count_89 ?_
    exact retI X hr hk Z hf dX11_count_92
  have hf := itn c3 hf
  refine Or.elim (Decidable.em (a1 = 3)) (fun c4 => ?_) (fun c4 => ?_)
  · have hf := itp c4 hf
    refine lv_tableIn (off := 92) (tgt := 93) hx hb dX11_count_1 (by rw [c4]; decide) (by rw [c4]; decide) (by rw [c4]; rfl) (by decide) ?_
    refine lv_aload_n hx hb dX11_count_93 rfl (lv_at hl 0 rfl) ?_
    refine gf_RX11_24 X Z dX11_count_94 ?_
    refine gf_RX11_130 X Z dX11_count_97 ?_
    refine gf_RX11_239 X Z names_23 dX11_count_100 ?_
    exact retI X hr hk Z hf dX11_count_103
  have hf := itn c4 hf
  refine Or.elim (Decidable.em (a1 = 4)) (fun c5 => ?_) (fun c5 => ?_)
  · have hf := itp c5 hf
    refine lv_tableIn (off := 103) (tgt := 104) hx hb dX11_count_1 (by rw [c5]; decide) (by rw [c5]; decide) (by rw [c5]; rfl) (by decide) ?_
    refine lv_aload_n hx hb dX11_count_104 rfl (lv_at hl 0 rfl) ?_
    refine gf_RX11_24 X Z dX11_count_105 ?_
    refine gf_RX11_248 X Z dX11_count_108 ?_
    exact retI X hr hk Z hf dX11_count_111
  have hf := itn c5 hf
  refine Or.elim (Decidable.em (a1 = 5)) (fun c6 => ?_) (fun c6 => ?_)
  · have hf := itp c6 hf
    refine lv_tableIn (off := 111) (tgt := 112) hx hb dX11_count_1 (by rw [c6]; decide) (by rw [c6]; decide) (by rw [c6]; rfl) (by decide) ?_
    refine lv_aload_n hx hb dX11_count_112 rfl (lv_at hl 0 rfl) ?_
    refine gf_RX11_18 X Z dX11_count_113 ?_
    refine gf_RX11_76 X Z row_3 dX11_count_116 ?_
    exact retI X hr hk Z hf dX11_count_119
  have hf := itn c6 hf
  refine Or.elim (Decidable.em (a1 = 6)) (fun c7 => ?_) (fun c7 => ?_)
  · have hf := itp c7 hf
    refine lv_tableIn (off := 119) (tgt := 120) hx hb dX11_count_1 (by rw [c7]; decide) (by rw [c7]; decide) (by rw [c7]; rfl) (by decide) ?_
    refine lv_aload_n hx hb dX11_count_120 rfl (lv_at hl 0 rfl) ?_
    refine gf_RX11_40 X Z dX11_count_121 ?_
    refine gf_RX11_251 X Z dX11_count_124 ?_
    refine gf_RX11_239 X Z names_34 dX11_count_127 ?_
    exact retI X hr hk Z hf dX11_count_130
  have hf := itn c7 hf
  refine Or.elim (Decidable.em (a1 = 7)) (fun c8 => ?_) (fun c8 => ?_)
  · have hf := itp c8 hf
    refine lv_tableIn (off := 130) (tgt := 131) hx hb dX11_count_1 (by rw [c8]; decide) (by rw [c8]; decide) (by rw [c8]; rfl) (by decide) ?_
    refine lv_aload_n hx hb dX11_count_131 rfl (lv_at hl 0 rfl) ?_
    refine gf_RX11_72 X Z dX11_count_132 ?_
    refine gf_RX11_192 X Z dX11_count_135 ?_
    refine gf_RX11_254 X Z segs_54 dX11_count_138 ?_
    exact retI X hr hk Z hf dX11_count_141
  have hf := itn c8 hf
  refine Or.elim (Decidable.em (a1 = 8)) (fun c9 => ?_) (fun c9 => ?_)
  · have hf := itp c9 hf
    refine lv_tableIn (off := 141) (tgt := 142) hx hb dX11_count_1 (by rw [c9]; decide) (by rw [c9]; decide) (by rw [c9]; rfl) (by decide) ?_
    refine lv_aload_n hx hb dX11_count_142 rfl (lv_at hl 0 rfl) ?_
    refine gf_RX11_72 X Z dX11_count_143 ?_
    refine gf_RX11_207 X Z dX11_count_146 ?_
    refine gf_RX11_255 X Z vis_61 dX11_count_149 ?_
    exact retI X hr hk Z hf dX11_count_152
  have hf := itn c9 hf
  refine Or.elim (Decidable.em (a1 = 9)) (fun c10 => ?_) (fun c10 => ?_)
  · have hf := itp c10 hf
    refine lv_tableIn (off := 152) (tgt := 153) hx hb dX11_count_1 (by rw [c10]; decide) (by rw [c10]; decide) (by rw [c10]; rfl) (by decide) ?_
    refine lv_aload_n hx hb dX11_count_153 rfl (lv_at hl 0 rfl) ?_
    refine gf_RX11_72 X Z dX11_count_154 ?_
    refine gf_RX11_256 X Z dX11_count_157 ?_
    exact retI X hr hk Z hf dX11_count_160
  have hf := itn c10 hf
  refine Or.elim (Decidable.em (a1 = 10)) (fun c11 => ?_) (fun c11 => ?_)
  · have hf := itp c11 hf
    refine lv_tableIn (off := 160) (tgt := 161) hx hb dX11_count_1 (by rw [c11]; decide) (by rw [c11]; decide) (by rw [c11]; rfl) (by decide) ?_
    refine lv_aload_n hx hb dX11_count_161 rfl (lv_at hl 0 rfl) ?_
    refine gf_RX11_14 X Z dX11_count_162 ?_
    refine gf_RX11_76 X Z row_1 dX11_count_165 ?_
    exact retI X hr hk Z hf dX11_count_168
  have hf := itn c11 hf
  refine lv_tableOut (tgt := 169) hx hb dX11_count_1 (tsw_out 11 (fun i hi => by rcases (show i = 0 ∨ i = 1 ∨ i = 2 ∨ i = 3 ∨ i = 4 ∨ i = 5 ∨ i = 6 ∨ i = 7 ∨ i = 8 ∨ i = 9 ∨ i = 10 by omega) with rfl | rfl | rfl | rfl | rfl | rfl | rfl | rfl | rfl | rfl | rfl <;> assumption)) (by decide) ?_
  refine lv_iconst (v := (-1)) hx hb dX11_count_169 (by decide) ?_
  exact retI X hr hk Z hf dX11_count_170

set_option maxRecDepth 100000 in
set_option maxHeartbeats 4000000 in
theorem c_X12_thrown (l : Launch) (D : va_G) (h : Nat → Nat) (cy : Nat → ClassId) (σ : St) (y : Int32 × St) (hf : f_X12_thrown σ = some y) : CI l yX12_thrown cX12_thrown 1 (some .int) 0 0 D h cy [.ref (h 68)] σ y := by
  refine ent (Qc := fun sz => QI D h cy sz y) (by decide) (Nat.le_of_ble_eq_true rfl) ?_
  intro p e s m below meth c ls X Z hr hk hl
  have X : Cx p s m _ c D h cy RX12 cX12_thrown 1 := X
  have hx := X.x
  have hb := X.b
  have hl : lv_has ls 1 [(0, .ref (h 68))] := hl
  unfold f_X12_thrown at hf
  refine lv_aload_n hx hb dX12_thrown_0 rfl (lv_at hl 0 rfl) ?_
  refine gf_RX12_149 X Z dX12_thrown_1 ?_
  exact retI X hr hk Z hf dX12_thrown_4

set_option maxRecDepth 100000 in
set_option maxHeartbeats 4000000 in
theorem b_X12_come_3b {p : Program} {l : Launch} {e : Env} {s : State} {m : MethodId} {args : Array Value} {below : List Frame} {meth : Method} {c : Code} {D : va_G} {h : Nat → Nat} {cy : Nat → ClassId} (X : Cx p s m args c D h cy RX12 cX12_come 3) (hr : meth.sig.returnType = none) (hk : meth.locks = false) (K3 : (Int32 × Int32 × St) → Option (St)) (hK3 : ∀ (a : Int32 × Int32 × St) (y : St), K3 a = some y → ∀ (H : Heap) (locs : List Loc) (ls : Array Slot), Zt D h cy s a.2.2 H locs → lv_has ls 3 [(0, .ref (h 68)), (1, .int a.1), (2, .int a.2.1)] → W p l e (rmz 0 0) s m args below meth c H locs 0 0 (EV below args s D h cy y) (F0 m 3 ls [])) (x1 : Int32) (x2 : Int32) (σ : St) (y : St) (hf : f_X12_come_3b K3 x1 x2 σ = some y) : ∀ (H : Heap) (locs : List Loc) (ls : Array Slot), Zt D h cy s σ H locs → lv_has ls 3 [(0, .ref (h 68)), (1, .int x1), (2, .int x2)] → W p l e (rmz 0 0) s m args below meth c H locs 0 0 (EV below args s D h cy y) (F0 m 3 ls []) := by
  intro H locs ls Z hl
  have hx := X.x
  have hb := X.b
  unfold f_X12_come_3b at hf
  refine lv_iload_n hx hb dX12_come_3 rfl (lv_at hl 2 rfl) ?_
  refine lv_if_lt (tgt := 39) hx hb dX12_come_4 (by decide) (fun c2 => ?_) (fun c2 => ?_)
  · have hf := itp c2 hf
    exact retV X hr hk Z hf dX12_come_39
  · have hf := itn c2 hf
    refine lv_aload_n hx hb dX12_come_7 rfl (lv_at hl 0 rfl) ?_
    refine gf_RX12_7 X Z dX12_come_8 ?_
    refine lv_aload_n hx hb dX12_come_11 rfl (lv_at hl 0 rfl) ?_
    refine gf_RX12_152 X Z dX12_come_12 ?_
    refine lv_iload_n hx hb dX12_come_15 rfl (lv_at hl 1 rfl) ?_
    refine lv_iload_n hx hb dX12_come_16 rfl (lv_at hl 2 rfl) ?_
    refine lv_iushr (v := zushr x1 x2) hx hb dX12_come_17 rfl ?_
    refine lv_sipush (v := 255) hx hb dX12_come_18 (by decide) ?_
    refine lv_iand hx hb dX12_come_21 ?_
    obtain ⟨g3, hf⟩ := gd_s hf
    refine x_iast (k := 69) X Z sh_69 g3 dX12_come_22 (fun s4 H locs es4 Z => ?_)
    have hf := zn_e es4 hf
    refine lv_aload_n hx hb dX12_come_23 rfl (lv_at hl 0 rfl) ?_
    refine lv_dup hx hb dX12_come_24 rfl ?_
    refine gf_RX12_152 X Z dX12_come_25 ?_
    refine lv_iconst (v := 1) hx hb dX12_come_28 (by decide) ?_
    refine lv_iadd hx hb dX12_come_29 ?_
    refine pf_RX12_152 X Z dX12_come_30 (fun s5 H locs es5 Z => ?_)
    have hf := zn_e es5 hf
    obtain ⟨v6, ev6⟩ : ∃ z : Int32, z = x2 + (-8) := ⟨_, rfl⟩
    have hf := zn_e ev6 hf
    refine lv_iinc (v := v6) (lv' := [(2, .int v6), (0, .ref (h 68)), (1, .int x1)]) hx hb dX12_come_33 hl (k := 2) rfl (by rw [ev6]; rfl) (by decide) rfl (fun ls hl => ?_)
    refine lv_goto (tgt := 3) hx hb dX12_come_36 (by decide) ?_
    exact hK3 (x1, v6, s5) _ hf _ _ _ Z (lv_sub hl [1, 2, 0] rfl)

set_option maxRecDepth 100000 in
set_option maxHeartbeats 4000000 in
theorem b_X12_come_3 {p : Program} {l : Launch} {e : Env} {s : State} {m : MethodId} {args : Array Value} {below : List Frame} {meth : Method} {c : Code} {D : va_G} {h : Nat → Nat} {cy : Nat → ClassId} (X : Cx p s m args c D h cy RX12 cX12_come 3) (hr : meth.sig.returnType = none) (hk : meth.locks = false) (x1 : Int32) (x2 : Int32) (σ : St) (y : St) (hf : f_X12_come_3 x1 x2 σ = some y) : ∀ (H : Heap) (locs : List Loc) (ls : Array Slot), Zt D h cy s σ H locs → lv_has ls 3 [(0, .ref (h 68)), (1, .int x1), (2, .int x2)] → W p l e (rmz 0 0) s m args below meth c H locs 0 0 (EV below args s D h cy y) (F0 m 3 ls []) := by
  exact it_W (F := fun K a => f_X12_come_3b K a.1 a.2.1 a.2.2) (P := fun a y => ∀ (H : Heap) (locs : List Loc) (ls : Array Slot), Zt D h cy s a.2.2 H locs → lv_has ls 3 [(0, .ref (h 68)), (1, .int a.1), (2, .int a.2.1)] → W p l e (rmz 0 0) s m args below meth c H locs 0 0 (EV below args s D h cy y) (F0 m 3 ls [])) (fun K hK a y hf => b_X12_come_3b X hr hk K hK (a.1) (a.2.1) (a.2.2) y hf) FU _ y hf

set_option maxRecDepth 100000 in
set_option maxHeartbeats 4000000 in
theorem c_X12_come (l : Launch) (D : va_G) (h : Nat → Nat) (cy : Nat → ClassId) (a1 : Int32) (σ : St) (y : St) (hf : f_X12_come a1 σ = some y) : CV l yX12_come cX12_come 3 none 0 0 D h cy [.ref (h 68), .int a1] σ y := by
  refine ent (Qc := fun sz => QV D h cy sz y) (by decide) (Nat.le_of_ble_eq_true rfl) ?_
  intro p e s m below meth c ls X Z hr hk hl
  have X : Cx p s m _ c D h cy RX12 cX12_come 3 := X
  have hx := X.x
  have hb := X.b
  have hl : lv_has ls 3 [(0, .ref (h 68)), (1, .int a1)] := hl
  unfold f_X12_come at hf
  refine lv_bipush (v := 24) hx hb dX12_come_0 (by decide) ?_
  refine lv_topi (fun v1 ev1 => ?_)
  have hf := zn_e ev1 hf
  refine lv_istore_n (lv' := [(2, .int v1), (0, .ref (h 68)), (1, .int a1)]) hx hb dX12_come_2 rfl hl (by decide) rfl (fun ls hl => ?_)
  exact b_X12_come_3 X hr hk a1 v1 σ _ hf _ _ _ Z (lv_sub hl [1, 2, 0] rfl)

set_option maxRecDepth 100000 in
set_option maxHeartbeats 4000000 in
theorem c_X12_feed (l : Launch) (D : va_G) (h : Nat → Nat) (cy : Nat → ClassId) (a1 : Int32) (a2 : Int32) (a3 : Int32) (a4 : Int32) (a5 : Int32) (σ : St) (y : Int32 × St) (hf : f_X12_feed a1 a2 a3 a4 a5 σ = some y) : CI l yX12_feed cX12_feed 6 (some .int) 1 22 D h cy [.ref (h 68), .int a1, .int a2, .int a3, .int a4, .int a5] σ y := by
  refine ent (Qc := fun sz => QI D h cy sz y) (by decide) (Nat.le_of_ble_eq_true rfl) ?_
  intro p e s m below meth c ls X Z hr hk hl
  have X : Cx p s m _ c D h cy RX12 cX12_feed 6 := X
  have hx := X.x
  have hb := X.b
  have hl : lv_has ls 6 [(0, .ref (h 68)), (1, .int a1), (2, .int a2), (3, .int a3), (4, .int a4), (5, .int a5)] := hl
  unfold f_X12_feed at hf
  refine lv_aload_n hx hb dX12_feed_0 rfl (lv_at hl 0 rfl) ?_
  refine lv_iconst (v := 0) hx hb dX12_feed_1 (by decide) ?_
  refine pf_RX12_149 X Z dX12_feed_2 (fun s1 H locs es1 Z => ?_)
  have hf := zn_e es1 hf
  refine lv_aload_n hx hb dX12_feed_5 rfl (lv_at hl 0 rfl) ?_
  refine gf_RX12_152 X Z dX12_feed_6 ?_
  refine lv_bipush (v := 20) hx hb dX12_feed_9 (by decide) ?_
  refine lv_iadd hx hb dX12_feed_11 ?_
  refine lv_sipush (v := 1040) hx hb dX12_feed_12 (by decide) ?_
  refine lv_icmp_le (tgt := 20) hx hb dX12_feed_15 (by decide) (fun c2 => ?_) (fun c2 => ?_)
  · have hf := itp c2 hf
    refine lv_aload_n hx hb dX12_feed_20 rfl (lv_at hl 0 rfl) ?_
    refine lv_iload_n hx hb dX12_feed_21 rfl (lv_at hl 1 rfl) ?_
    obtain ⟨s4, h3, hf⟩ := bv_s hf
    refine goV Z (run_V (As := [.int a1]) (rest := []) X Z (c_X12_come l D h cy a1 s1 s4 h3 _) lk_RX12_155 ⟨by decide, by decide⟩ rv_68 rfl hl.1 rfl (Nat.le_of_ble_eq_true rfl) ⟨Nat.le_refl _, Nat.le_refl _⟩ dX12_feed_22) (fun H locs Z => ?_)
    refine lv_aload_n hx hb dX12_feed_25 rfl (lv_at hl 0 rfl) ?_
    refine lv_iload_n hx hb dX12_feed_26 rfl (lv_at hl 2 rfl) ?_
    obtain ⟨s6, h5, hf⟩ := bv_s hf
    refine goV Z (run_V (As := [.int a2]) (rest := []) X Z (c_X12_come l D h cy a2 s4 s6 h5 _) lk_RX12_155 ⟨by decide, by decide⟩ rv_68 rfl hl.1 rfl (Nat.le_of_ble_eq_true rfl) ⟨Nat.le_refl _, Nat.le_refl _⟩ dX12_feed_27) (fun H locs Z => ?_)
    refine lv_aload_n hx hb dX12_feed_30 rfl (lv_at hl 0 rfl) ?_
    refine lv_iload_n hx hb dX12_feed_31 rfl (lv_at hl 3 rfl) ?_
    obtain ⟨s8, h7, hf⟩ := bv_s hf
    refine goV Z (run_V (As := [.int a3]) (rest := []) X Z (c_X12_come l D h cy a3 s6 s8 h7 _) lk_RX12_155 ⟨by decide, by decide⟩ rv_68 rfl hl.1 rfl (Nat.le_of_ble_eq_true rfl) ⟨Nat.le_refl _, Nat.le_refl _⟩ dX12_feed_32) (fun H locs Z => ?_)
    refine lv_aload_n hx hb dX12_feed_35 rfl (lv_at hl 0 rfl) ?_
    refine lv_iload hx hb dX12_feed_36 (lv_at hl 4 rfl) ?_
    obtain ⟨s10, h9, hf⟩ := bv_s hf
    refine goV Z (run_V (As := [.int a4]) (rest := []) X Z (c_X12_come l D h cy a4 s8 s10 h9 _) lk_RX12_155 ⟨by decide, by decide⟩ rv_68 rfl hl.1 rfl (Nat.le_of_ble_eq_true rfl) ⟨Nat.le_refl _, Nat.le_refl _⟩ dX12_feed_38) (fun H locs Z => ?_)
    refine lv_aload_n hx hb dX12_feed_41 rfl (lv_at hl 0 rfl) ?_
    refine lv_iload hx hb dX12_feed_42 (lv_at hl 5 rfl) ?_
    obtain ⟨s12, h11, hf⟩ := bv_s hf
    refine goV Z (run_V (As := [.int a5]) (rest := []) X Z (c_X12_come l D h cy a5 s10 s12 h11 _) lk_RX12_155 ⟨by decide, by decide⟩ rv_68 rfl hl.1 rfl (Nat.le_of_ble_eq_true rfl) ⟨Nat.le_refl _, Nat.le_refl _⟩ dX12_feed_44) (fun H locs Z => ?_)
    refine lv_aload_n hx hb dX12_feed_47 rfl (lv_at hl 0 rfl) ?_
    refine gf_RX12_152 X Z dX12_feed_48 ?_
    exact retI X hr hk Z hf dX12_feed_51
  · have hf := itn c2 hf
    refine lv_iconst (v := (-1)) hx hb dX12_feed_18 (by decide) ?_
    exact retI X hr hk Z hf dX12_feed_19

set_option maxRecDepth 100000 in
set_option maxHeartbeats 4000000 in
theorem c_X12_end (l : Launch) (D : va_G) (h : Nat → Nat) (cy : Nat → ClassId) (a1 : Int32) (σ : St) (y : Int32 × St) (hf : f_X12_end a1 σ = some y) : CI l yX12_end cX12_end 2 (some .boolean) 0 0 D h cy [.ref (h 68), .int a1] σ y := by
  refine ent (Qc := fun sz => QI D h cy sz y) (by decide) (Nat.le_of_ble_eq_true rfl) ?_
  intro p e s m below meth c ls X Z hr hk hl
  have X : Cx p s m _ c D h cy RX12 cX12_end 2 := X
  have hx := X.x
  have hb := X.b
  have hl : lv_has ls 2 [(0, .ref (h 68)), (1, .int a1)] := hl
  unfold f_X12_end at hf
  refine lv_aload_n hx hb dX12_end_0 rfl (lv_at hl 0 rfl) ?_
  refine lv_iconst (v := 0) hx hb dX12_end_1 (by decide) ?_
  refine pf_RX12_149 X Z dX12_end_2 (fun s1 H locs es1 Z => ?_)
  have hf := zn_e es1 hf
  refine lv_iload_n hx hb dX12_end_5 rfl (lv_at hl 1 rfl) ?_
  refine lv_if_lt (tgt := 17) hx hb dX12_end_6 (by decide) (fun c2 => ?_) (fun c2 => ?_)
  · have hf := itp c2 hf
    refine lv_iconst (v := 0) hx hb dX12_end_17 (by decide) ?_
    exact retZ X hr hk Z (by decide) hf dX12_end_18
  · have hf := itn c2 hf
    refine lv_iload_n hx hb dX12_end_9 rfl (lv_at hl 1 rfl) ?_
    refine lv_aload_n hx hb dX12_end_10 rfl (lv_at hl 0 rfl) ?_
    refine gf_RX12_152 X Z dX12_end_11 ?_
    refine lv_icmp_le (tgt := 19) hx hb dX12_end_14 (by decide) (fun c3 => ?_) (fun c3 => ?_)
    · have hf := itp c3 hf
      refine lv_aload_n hx hb dX12_end_19 rfl (lv_at hl 0 rfl) ?_
      refine lv_iload_n hx hb dX12_end_20 rfl (lv_at hl 1 rfl) ?_
      refine pf_RX12_152 X Z dX12_end_21 (fun s4 H locs es4 Z => ?_)
      have hf := zn_e es4 hf
      refine lv_iconst (v := 1) hx hb dX12_end_24 (by decide) ?_
      exact retZ X hr hk Z (by decide) hf dX12_end_25
    · have hf := itn c3 hf
      refine lv_iconst (v := 0) hx hb dX12_end_17 (by decide) ?_
      exact retZ X hr hk Z (by decide) hf dX12_end_18

set_option maxRecDepth 100000 in
set_option maxHeartbeats 4000000 in
theorem b_X12_takes_118 {p : Program} {l : Launch} {e : Env} {s : State} {m : MethodId} {args : Array Value} {below : List Frame} {meth : Method} {c : Code} {D : va_G} {h : Nat → Nat} {cy : Nat → ClassId} (X : Cx p s m args c D h cy RX12 cX12_takes 5) (hr : meth.sig.returnType = some .boolean) (hk : meth.locks = false) (K79 : (Int32 × Int32 × Int32 × Int32 × St) → Option (Int32 × St)) (hK79 : ∀ (a : Int32 × Int32 × Int32 × Int32 × St) (y : Int32 × St), K79 a = some y → ∀ (H : Heap) (locs : List Loc) (ls : Array Slot), Zt D h cy s a.2.2.2.2 H locs → lv_has ls 5 [(0, .ref (h 68)), (1, .int a.1), (2, .int a.2.1), (3, .int a.2.2.1), (4, .int a.2.2.2.1)] → W p l e (rmz 0 0) s m args below meth c H locs 0 0 (EI below args s D h cy y) (F0 m 79 ls [])) (x1 : Int32) (x2 : Int32) (x3 : Int32) (x4 : Int32) (t0 : Int32) (t1 : Int32) (σ : St) (y : Int32 × St) (hf : f_X12_takes_118 K79 x1 x2 x3 x4 t0 t1 σ = some y) : ∀ (H : Heap) (locs : List Loc) (ls : Array Slot), Zt D h cy s σ H locs → lv_has ls 5 [(0, .ref (h 68)), (1, .int x1), (2, .int x2), (3, .int x3), (4, .int x4)] → W p l e (rmz 0 0) s m args below meth c H locs 0 0 (EI below args s D h cy y) (F0 m 118 ls [.int t0, .int t1, .ref (h 70)]) := by
  intro H locs ls Z hl
  have hx := X.x
  have hb := X.b
  unfold f_X12_takes_118 at hf
  obtain ⟨g12, hf⟩ := gd_s hf
  refine x_iast (k := 70) X Z sh_70 g12 dX12_takes_118 (fun s13 H locs es13 Z => ?_)
  have hf := zn_e es13 hf
  obtain ⟨v14, ev14⟩ : ∃ z : Int32, z = x4 + 1 := ⟨_, rfl⟩
  have hf := zn_e ev14 hf
  refine lv_iinc (v := v14) (lv' := [(4, .int v14), (0, .ref (h 68)), (1, .int x1), (2, .int x2), (3, .int x3)]) hx hb dX12_takes_119 hl (k := 4) rfl (by rw [ev14]; rfl) (by decide) rfl (fun ls hl => ?_)
  refine lv_goto (tgt := 79) hx hb dX12_takes_122 (by decide) ?_
  exact hK79 (x1, x2, x3, v14, s13) _ hf _ _ _ Z (lv_sub hl [1, 2, 3, 4, 0] rfl)

set_option maxRecDepth 100000 in
set_option maxHeartbeats 4000000 in
theorem b_X12_takes_79b {p : Program} {l : Launch} {e : Env} {s : State} {m : MethodId} {args : Array Value} {below : List Frame} {meth : Method} {c : Code} {D : va_G} {h : Nat → Nat} {cy : Nat → ClassId} (X : Cx p s m args c D h cy RX12 cX12_takes 5) (hr : meth.sig.returnType = some .boolean) (hk : meth.locks = false) (K79 : (Int32 × Int32 × Int32 × Int32 × St) → Option (Int32 × St)) (hK79 : ∀ (a : Int32 × Int32 × Int32 × Int32 × St) (y : Int32 × St), K79 a = some y → ∀ (H : Heap) (locs : List Loc) (ls : Array Slot), Zt D h cy s a.2.2.2.2 H locs → lv_has ls 5 [(0, .ref (h 68)), (1, .int a.1), (2, .int a.2.1), (3, .int a.2.2.1), (4, .int a.2.2.2.1)] → W p l e (rmz 0 0) s m args below meth c H locs 0 0 (EI below args s D h cy y) (F0 m 79 ls [])) (x1 : Int32) (x2 : Int32) (x3 : Int32) (x4 : Int32) (σ : St) (y : Int32 × St) (hf : f_X12_takes_79b K79 x1 x2 x3 x4 σ = some y) : ∀ (H : Heap) (locs : List Loc) (ls : Array Slot), Zt D h cy s σ H locs → lv_has ls 5 [(0, .ref (h 68)), (1, .int x1), (2, .int x2), (3, .int x3), (4, .int x4)] → W p l e (rmz 0 0) s m args below meth c H locs 0 0 (EI below args s D h cy y) (F0 m 79 ls []) := by
  intro H locs ls Z hl
  have hx := X.x
  have hb := X.b
  unfold f_X12_takes_79b at hf
  refine lv_iload hx hb dX12_takes_79 (lv_at hl 4 rfl) ?_
  refine lv_bipush (v := 16) hx hb dX12_takes_81 (by decide) ?_
  refine lv_icmp_ge (tgt := 125) hx hb dX12_takes_83 (by decide) (fun c7 => ?_) (fun c7 => ?_)
  · have hf := itp c7 hf
    refine lv_iload_n hx hb dX12_takes_125 rfl (lv_at hl 3 rfl) ?_
    obtain ⟨g8, hf⟩ := gd_s hf
    exact retZ X hr hk Z g8 hf dX12_takes_126
  · have hf := itn c7 hf
    refine lv_iload_n hx hb dX12_takes_86 rfl (lv_at hl 3 rfl) ?_
    refine lv_if_eq (tgt := 125) hx hb dX12_takes_87 (by decide) (fun c9 => ?_) (fun c9 => ?_)
    · have hf := itp c9 hf
      refine lv_iload_n hx hb dX12_takes_125 rfl (lv_at hl 3 rfl) ?_
      obtain ⟨g10, hf⟩ := gd_s hf
      exact retZ X hr hk Z g10 hf dX12_takes_126
    · have hf := itn c9 hf
      refine lv_aload_n hx hb dX12_takes_90 rfl (lv_at hl 0 rfl) ?_
      refine gf_RX12_13 X Z dX12_takes_91 ?_
      refine lv_bipush (v := 16) hx hb dX12_takes_94 (by decide) ?_
      refine lv_iload_n hx hb dX12_takes_96 rfl (lv_at hl 1 rfl) ?_
      refine lv_imul hx hb dX12_takes_97 ?_
      refine lv_iload hx hb dX12_takes_98 (lv_at hl 4 rfl) ?_
      refine lv_iadd hx hb dX12_takes_100 ?_
      refine lv_iload hx hb dX12_takes_101 (lv_at hl 4 rfl) ?_
      refine lv_iload_n hx hb dX12_takes_103 rfl (lv_at hl 2 rfl) ?_
      refine lv_icmp_ge (tgt := 117) hx hb dX12_takes_104 (by decide) (fun c11 => ?_) (fun c11 => ?_)
      · have hf := itp c11 hf
        refine lv_iconst (v := 0) hx hb dX12_takes_117 (by decide) ?_
        exact b_X12_takes_118 X hr hk K79 hK79 x1 x2 x3 x4 (0 : Int32) ((((16 : Int32) * x1) + x4)) σ _ hf _ _ _ Z (lv_sub hl [0, 1, 2, 3, 4] rfl)
      · have hf := itn c11 hf
        refine lv_aload_n hx hb dX12_takes_107 rfl (lv_at hl 0 rfl) ?_
        refine gf_RX12_7 X Z dX12_takes_108 ?_
        refine lv_iload hx hb dX12_takes_111 (lv_at hl 4 rfl) ?_
        obtain ⟨g15, hf⟩ := gd_s hf
        refine x_iald (k := 69) X Z sh_69 g15 dX12_takes_113 ?_
        refine lv_goto (tgt := 118) hx hb dX12_takes_114 (by decide) ?_
        exact b_X12_takes_118 X hr hk K79 hK79 x1 x2 x3 x4 (σ.1 69 x4.toNatClampNeg) ((((16 : Int32) * x1) + x4)) σ _ hf _ _ _ Z (lv_sub hl [0, 1, 2, 3, 4] rfl)

set_option maxRecDepth 100000 in
set_option maxHeartbeats 4000000 in
theorem b_X12_takes_79 {p : Program} {l : Launch} {e : Env} {s : State} {m : MethodId} {args : Array Value} {below : List Frame} {meth : Method} {c : Code} {D : va_G} {h : Nat → Nat} {cy : Nat → ClassId} (X : Cx p s m args c D h cy RX12 cX12_takes 5) (hr : meth.sig.returnType = some .boolean) (hk : meth.locks = false) (x1 : Int32) (x2 : Int32) (x3 : Int32) (x4 : Int32) (σ : St) (y : Int32 × St) (hf : f_X12_takes_79 x1 x2 x3 x4 σ = some y) : ∀ (H : Heap) (locs : List Loc) (ls : Array Slot), Zt D h cy s σ H locs → lv_has ls 5 [(0, .ref (h 68)), (1, .int x1), (2, .int x2), (3, .int x3), (4, .int x4)] → W p l e (rmz 0 0) s m args below meth c H locs 0 0 (EI below args s D h cy y) (F0 m 79 ls []) := by
  exact it_W (F := fun K a => f_X12_takes_79b K a.1 a.2.1 a.2.2.1 a.2.2.2.1 a.2.2.2.2) (P := fun a y => ∀ (H : Heap) (locs : List Loc) (ls : Array Slot), Zt D h cy s a.2.2.2.2 H locs → lv_has ls 5 [(0, .ref (h 68)), (1, .int a.1), (2, .int a.2.1), (3, .int a.2.2.1), (4, .int a.2.2.2.1)] → W p l e (rmz 0 0) s m args below meth c H locs 0 0 (EI below args s D h cy y) (F0 m 79 ls [])) (fun K hK a y hf => b_X12_takes_79b X hr hk K hK (a.1) (a.2.1) (a.2.2.1) (a.2.2.2.1) (a.2.2.2.2) y hf) FU _ y hf

set_option maxRecDepth 100000 in
set_option maxHeartbeats 4000000 in
theorem b_X12_takes_76 {p : Program} {l : Launch} {e : Env} {s : State} {m : MethodId} {args : Array Value} {below : List Frame} {meth : Method} {c : Code} {D : va_G} {h : Nat → Nat} {cy : Nat → ClassId} (X : Cx p s m args c D h cy RX12 cX12_takes 5) (hr : meth.sig.returnType = some .boolean) (hk : meth.locks = false) (x1 : Int32) (x2 : Int32) (x3 : Int32) (σ : St) (y : Int32 × St) (hf : f_X12_takes_76 x1 x2 x3 σ = some y) : ∀ (H : Heap) (locs : List Loc) (ls : Array Slot), Zt D h cy s σ H locs → lv_has ls 5 [(0, .ref (h 68)), (1, .int x1), (2, .int x2), (3, .int x3)] → W p l e (rmz 0 0) s m args below meth c H locs 0 0 (EI below args s D h cy y) (F0 m 76 ls []) := by
  intro H locs ls Z hl
  have hx := X.x
  have hb := X.b
  unfold f_X12_takes_76 at hf
  refine lv_iconst (v := 0) hx hb dX12_takes_76 (by decide) ?_
  refine lv_topi (fun v6 ev6 => ?_)
  have hf := zn_e ev6 hf
  refine lv_istore (lv' := [(4, .int v6), (0, .ref (h 68)), (1, .int x1), (2, .int x2), (3, .int x3)]) hx hb dX12_takes_77 hl (by decide) rfl (fun ls hl => ?_)
  exact b_X12_takes_79 X hr hk x1 x2 x3 v6 σ _ hf _ _ _ Z (lv_sub hl [1, 2, 3, 4, 0] rfl)

set_option maxRecDepth 100000 in
set_option maxHeartbeats 4000000 in
theorem b_X12_takes_69 {p : Program} {l : Launch} {e : Env} {s : State} {m : MethodId} {args : Array Value} {below : List Frame} {meth : Method} {c : Code} {D : va_G} {h : Nat → Nat} {cy : Nat → ClassId} (X : Cx p s m args c D h cy RX12 cX12_takes 5) (hr : meth.sig.returnType = some .boolean) (hk : meth.locks = false) (K30 : (Int32 × Int32 × Int32 × Int32 × St) → Option (Int32 × St)) (hK30 : ∀ (a : Int32 × Int32 × Int32 × Int32 × St) (y : Int32 × St), K30 a = some y → ∀ (H : Heap) (locs : List Loc) (ls : Array Slot), Zt D h cy s a.2.2.2.2 H locs → lv_has ls 5 [(0, .ref (h 68)), (1, .int a.1), (2, .int a.2.1), (3, .int a.2.2.1), (4, .int a.2.2.2.1)] → W p l e (rmz 0 0) s m args below meth c H locs 0 0 (EI below args s D h cy y) (F0 m 30 ls [])) (x1 : Int32) (x2 : Int32) (x4 : Int32) (t0 : Int32) (σ : St) (y : Int32 × St) (hf : f_X12_takes_69 K30 x1 x2 x4 t0 σ = some y) : ∀ (H : Heap) (locs : List Loc) (ls : Array Slot), Zt D h cy s σ H locs → lv_has ls 5 [(0, .ref (h 68)), (1, .int x1), (2, .int x2), (4, .int x4)] → W p l e (rmz 0 0) s m args below meth c H locs 0 0 (EI below args s D h cy y) (F0 m 69 ls [.int t0]) := by
  intro H locs ls Z hl
  have hx := X.x
  have hb := X.b
  unfold f_X12_takes_69 at hf
  refine lv_istore_n (lv' := [(3, .int t0), (0, .ref (h 68)), (1, .int x1), (2, .int x2), (4, .int x4)]) hx hb dX12_takes_69 rfl hl (by decide) rfl (fun ls hl => ?_)
  obtain ⟨v19, ev19⟩ : ∃ z : Int32, z = x4 + 1 := ⟨_, rfl⟩
  have hf := zn_e ev19 hf
  refine lv_iinc (v := v19) (lv' := [(4, .int v19), (3, .int t0), (0, .ref (h 68)), (1, .int x1), (2, .int x2)]) hx hb dX12_takes_70 hl (k := 4) rfl (by rw [ev19]; rfl) (by decide) rfl (fun ls hl => ?_)
  refine lv_goto (tgt := 30) hx hb dX12_takes_73 (by decide) ?_
  exact hK30 (x1, x2, t0, v19, σ) _ hf _ _ _ Z (lv_sub hl [2, 3, 4, 1, 0] rfl)

set_option maxRecDepth 100000 in
set_option maxHeartbeats 4000000 in
theorem b_X12_takes_68 {p : Program} {l : Launch} {e : Env} {s : State} {m : MethodId} {args : Array Value} {below : List Frame} {meth : Method} {c : Code} {D : va_G} {h : Nat → Nat} {cy : Nat → ClassId} (X : Cx p s m args c D h cy RX12 cX12_takes 5) (hr : meth.sig.returnType = some .boolean) (hk : meth.locks = false) (K30 : (Int32 × Int32 × Int32 × Int32 × St) → Option (Int32 × St)) (hK30 : ∀ (a : Int32 × Int32 × Int32 × Int32 × St) (y : Int32 × St), K30 a = some y → ∀ (H : Heap) (locs : List Loc) (ls : Array Slot), Zt D h cy s a.2.2.2.2 H locs → lv_has ls 5 [(0, .ref (h 68)), (1, .int a.1), (2, .int a.2.1), (3, .int a.2.2.1), (4, .int a.2.2.2.1)] → W p l e (rmz 0 0) s m args below meth c H locs 0 0 (EI below args s D h cy y) (F0 m 30 ls [])) (x1 : Int32) (x2 : Int32) (x4 : Int32) (σ : St) (y : Int32 × St) (hf : f_X12_takes_68 K30 x1 x2 x4 σ = some y) : ∀ (H : Heap) (locs : List Loc) (ls : Array Slot), Zt D h cy s σ H locs → lv_has ls 5 [(0, .ref (h 68)), (1, .int x1), (2, .int x2), (4, .int x4)] → W p l e (rmz 0 0) s m args below meth c H locs 0 0 (EI below args s D h cy y) (F0 m 68 ls []) := by
  intro H locs ls Z hl
  have hx := X.x
  have hb := X.b
  unfold f_X12_takes_68 at hf
  refine lv_iconst (v := 0) hx hb dX12_takes_68 (by decide) ?_
  exact b_X12_takes_69 X hr hk K30 hK30 x1 x2 x4 (0 : Int32) σ _ hf _ _ _ Z (lv_sub hl [0, 1, 2, 3] rfl)

set_option maxRecDepth 100000 in
set_option maxHeartbeats 4000000 in
theorem b_X12_takes_30b {p : Program} {l : Launch} {e : Env} {s : State} {m : MethodId} {args : Array Value} {below : List Frame} {meth : Method} {c : Code} {D : va_G} {h : Nat → Nat} {cy : Nat → ClassId} (X : Cx p s m args c D h cy RX12 cX12_takes 5) (hr : meth.sig.returnType = some .boolean) (hk : meth.locks = false) (K30 : (Int32 × Int32 × Int32 × Int32 × St) → Option (Int32 × St)) (hK30 : ∀ (a : Int32 × Int32 × Int32 × Int32 × St) (y : Int32 × St), K30 a = some y → ∀ (H : Heap) (locs : List Loc) (ls : Array Slot), Zt D h cy s a.2.2.2.2 H locs → lv_has ls 5 [(0, .ref (h 68)), (1, .int a.1), (2, .int a.2.1), (3, .int a.2.2.1), (4, .int a.2.2.2.1)] → W p l e (rmz 0 0) s m args below meth c H locs 0 0 (EI below args s D h cy y) (F0 m 30 ls [])) (x1 : Int32) (x2 : Int32) (x3 : Int32) (x4 : Int32) (σ : St) (y : Int32 × St) (hf : f_X12_takes_30b K30 x1 x2 x3 x4 σ = some y) : ∀ (H : Heap) (locs : List Loc) (ls : Array Slot), Zt D h cy s σ H locs → lv_has ls 5 [(0, .ref (h 68)), (1, .int x1), (2, .int x2), (3, .int x3), (4, .int x4)] → W p l e (rmz 0 0) s m args below meth c H locs 0 0 (EI below args s D h cy y) (F0 m 30 ls []) := by
  intro H locs ls Z hl
  have hx := X.x
  have hb := X.b
  unfold f_X12_takes_30b at hf
  refine lv_iload hx hb dX12_takes_30 (lv_at hl 4 rfl) ?_
  refine lv_iload_n hx hb dX12_takes_32 rfl (lv_at hl 2 rfl) ?_
  refine lv_icmp_ge (tgt := 76) hx hb dX12_takes_33 (by decide) (fun c5 => ?_) (fun c5 => ?_)
  · have hf := itp c5 hf
    exact b_X12_takes_76 X hr hk x1 x2 x3 σ _ hf _ _ _ Z (lv_sub hl [0, 1, 2, 3] rfl)
  · have hf := itn c5 hf
    refine lv_iload_n hx hb dX12_takes_36 rfl (lv_at hl 3 rfl) ?_
    refine lv_if_eq (tgt := 76) hx hb dX12_takes_37 (by decide) (fun c16 => ?_) (fun c16 => ?_)
    · have hf := itp c16 hf
      exact b_X12_takes_76 X hr hk x1 x2 x3 σ _ hf _ _ _ Z (lv_sub hl [0, 1, 2, 3] rfl)
    · have hf := itn c16 hf
      refine lv_aload_n hx hb dX12_takes_40 rfl (lv_at hl 0 rfl) ?_
      refine gf_RX12_7 X Z dX12_takes_41 ?_
      refine lv_iload hx hb dX12_takes_44 (lv_at hl 4 rfl) ?_
      obtain ⟨g17, hf⟩ := gd_s hf
      refine x_iald (k := 69) X Z sh_69 g17 dX12_takes_46 ?_
      refine lv_bipush (v := 32) hx hb dX12_takes_47 (by decide) ?_
      refine lv_icmp_le (tgt := 68) hx hb dX12_takes_49 (by decide) (fun c18 => ?_) (fun c18 => ?_)
      · have hf := itp c18 hf
        exact b_X12_takes_68 X hr hk K30 hK30 x1 x2 x4 σ _ hf _ _ _ Z (lv_sub hl [0, 1, 2, 4] rfl)
      · have hf := itn c18 hf
        refine lv_aload_n hx hb dX12_takes_52 rfl (lv_at hl 0 rfl) ?_
        refine gf_RX12_7 X Z dX12_takes_53 ?_
        refine lv_iload hx hb dX12_takes_56 (lv_at hl 4 rfl) ?_
        obtain ⟨g20, hf⟩ := gd_s hf
        refine x_iald (k := 69) X Z sh_69 g20 dX12_takes_58 ?_
        refine lv_bipush (v := 127) hx hb dX12_takes_59 (by decide) ?_
        refine lv_icmp_ge (tgt := 68) hx hb dX12_takes_61 (by decide) (fun c21 => ?_) (fun c21 => ?_)
        · have hf := itp c21 hf
          exact b_X12_takes_68 X hr hk K30 hK30 x1 x2 x4 σ _ hf _ _ _ Z (lv_sub hl [0, 1, 2, 4] rfl)
        · have hf := itn c21 hf
          refine lv_iconst (v := 1) hx hb dX12_takes_64 (by decide) ?_
          refine lv_goto (tgt := 69) hx hb dX12_takes_65 (by decide) ?_
          exact b_X12_takes_69 X hr hk K30 hK30 x1 x2 x4 (1 : Int32) σ _ hf _ _ _ Z (lv_sub hl [0, 1, 2, 4] rfl)

set_option maxRecDepth 100000 in
set_option maxHeartbeats 4000000 in
theorem b_X12_takes_30 {p : Program} {l : Launch} {e : Env} {s : State} {m : MethodId} {args : Array Value} {below : List Frame} {meth : Method} {c : Code} {D : va_G} {h : Nat → Nat} {cy : Nat → ClassId} (X : Cx p s m args c D h cy RX12 cX12_takes 5) (hr : meth.sig.returnType = some .boolean) (hk : meth.locks = false) (x1 : Int32) (x2 : Int32) (x3 : Int32) (x4 : Int32) (σ : St) (y : Int32 × St) (hf : f_X12_takes_30 x1 x2 x3 x4 σ = some y) : ∀ (H : Heap) (locs : List Loc) (ls : Array Slot), Zt D h cy s σ H locs → lv_has ls 5 [(0, .ref (h 68)), (1, .int x1), (2, .int x2), (3, .int x3), (4, .int x4)] → W p l e (rmz 0 0) s m args below meth c H locs 0 0 (EI below args s D h cy y) (F0 m 30 ls []) := by
  exact it_W (F := fun K a => f_X12_takes_30b K a.1 a.2.1 a.2.2.1 a.2.2.2.1 a.2.2.2.2) (P := fun a y => ∀ (H : Heap) (locs : List Loc) (ls : Array Slot), Zt D h cy s a.2.2.2.2 H locs → lv_has ls 5 [(0, .ref (h 68)), (1, .int a.1), (2, .int a.2.1), (3, .int a.2.2.1), (4, .int a.2.2.2.1)] → W p l e (rmz 0 0) s m args below meth c H locs 0 0 (EI below args s D h cy y) (F0 m 30 ls [])) (fun K hK a y hf => b_X12_takes_30b X hr hk K hK (a.1) (a.2.1) (a.2.2.1) (a.2.2.2.1) (a.2.2.2.2) y hf) FU _ y hf

set_option maxRecDepth 100000 in
set_option maxHeartbeats 4000000 in
theorem b_X12_takes_26 {p : Program} {l : Launch} {e : Env} {s : State} {m : MethodId} {args : Array Value} {below : List Frame} {meth : Method} {c : Code} {D : va_G} {h : Nat → Nat} {cy : Nat → ClassId} (X : Cx p s m args c D h cy RX12 cX12_takes 5) (hr : meth.sig.returnType = some .boolean) (hk : meth.locks = false) (x1 : Int32) (x2 : Int32) (t0 : Int32) (σ : St) (y : Int32 × St) (hf : f_X12_takes_26 x1 x2 t0 σ = some y) : ∀ (H : Heap) (locs : List Loc) (ls : Array Slot), Zt D h cy s σ H locs → lv_has ls 5 [(0, .ref (h 68)), (1, .int x1), (2, .int x2)] → W p l e (rmz 0 0) s m args below meth c H locs 0 0 (EI below args s D h cy y) (F0 m 26 ls [.int t0]) := by
  intro H locs ls Z hl
  have hx := X.x
  have hb := X.b
  unfold f_X12_takes_26 at hf
  refine lv_istore_n (lv' := [(3, .int t0), (0, .ref (h 68)), (1, .int x1), (2, .int x2)]) hx hb dX12_takes_26 rfl hl (by decide) rfl (fun ls hl => ?_)
  refine lv_iconst (v := 0) hx hb dX12_takes_27 (by decide) ?_
  refine lv_topi (fun v4 ev4 => ?_)
  have hf := zn_e ev4 hf
  refine lv_istore (lv' := [(4, .int v4), (3, .int t0), (0, .ref (h 68)), (1, .int x1), (2, .int x2)]) hx hb dX12_takes_28 hl (by decide) rfl (fun ls hl => ?_)
  exact b_X12_takes_30 X hr hk x1 x2 t0 v4 σ _ hf _ _ _ Z (lv_sub hl [2, 3, 4, 1, 0] rfl)

set_option maxRecDepth 100000 in
set_option maxHeartbeats 4000000 in
theorem b_X12_takes_25 {p : Program} {l : Launch} {e : Env} {s : State} {m : MethodId} {args : Array Value} {below : List Frame} {meth : Method} {c : Code} {D : va_G} {h : Nat → Nat} {cy : Nat → ClassId} (X : Cx p s m args c D h cy RX12 cX12_takes 5) (hr : meth.sig.returnType = some .boolean) (hk : meth.locks = false) (x1 : Int32) (x2 : Int32) (σ : St) (y : Int32 × St) (hf : f_X12_takes_25 x1 x2 σ = some y) : ∀ (H : Heap) (locs : List Loc) (ls : Array Slot), Zt D h cy s σ H locs → lv_has ls 5 [(0, .ref (h 68)), (1, .int x1), (2, .int x2)] → W p l e (rmz 0 0) s m args below meth c H locs 0 0 (EI below args s D h cy y) (F0 m 25 ls []) := by
  intro H locs ls Z hl
  have hx := X.x
  have hb := X.b
  unfold f_X12_takes_25 at hf
  refine lv_iconst (v := 0) hx hb dX12_takes_25 (by decide) ?_
  exact b_X12_takes_26 X hr hk x1 x2 (0 : Int32) σ _ hf _ _ _ Z (lv_sub hl [0, 1, 2] rfl)

set_option maxRecDepth 100000 in
set_option maxHeartbeats 4000000 in
theorem c_X12_takes (l : Launch) (D : va_G) (h : Nat → Nat) (cy : Nat → ClassId) (a1 : Int32) (σ : St) (y : Int32 × St) (hf : f_X12_takes a1 σ = some y) : CI l yX12_takes cX12_takes 5 (some .boolean) 0 0 D h cy [.ref (h 68), .int a1] σ y := by
  refine ent (Qc := fun sz => QI D h cy sz y) (by decide) (Nat.le_of_ble_eq_true rfl) ?_
  intro p e s m below meth c ls X Z hr hk hl
  have X : Cx p s m _ c D h cy RX12 cX12_takes 5 := X
  have hx := X.x
  have hb := X.b
  have hl : lv_has ls 5 [(0, .ref (h 68)), (1, .int a1)] := hl
  unfold f_X12_takes at hf
  refine lv_aload_n hx hb dX12_takes_0 rfl (lv_at hl 0 rfl) ?_
  refine gf_RX12_152 X Z dX12_takes_1 ?_
  refine lv_topi (fun v1 ev1 => ?_)
  have hf := zn_e ev1 hf
  refine lv_istore_n (lv' := [(2, .int v1), (0, .ref (h 68)), (1, .int a1)]) hx hb dX12_takes_4 rfl hl (by decide) rfl (fun ls hl => ?_)
  refine lv_aload_n hx hb dX12_takes_5 rfl (lv_at hl 1 rfl) ?_
  refine lv_iconst (v := 0) hx hb dX12_takes_6 (by decide) ?_
  refine pf_RX12_152 X Z dX12_takes_7 (fun s2 H locs es2 Z => ?_)
  have hf := zn_e es2 hf
  refine lv_iload_n hx hb dX12_takes_10 rfl (lv_at hl 0 rfl) ?_
  refine lv_iconst (v := 1) hx hb dX12_takes_11 (by decide) ?_
  refine lv_icmp_lt (tgt := 25) hx hb dX12_takes_12 (by decide) (fun c3 => ?_) (fun c3 => ?_)
  · have hf := itp c3 hf
    exact b_X12_takes_25 X hr hk a1 v1 s2 _ hf _ _ _ Z (lv_sub hl [1, 2, 0] rfl)
  · have hf := itn c3 hf
    refine lv_iload_n hx hb dX12_takes_15 rfl (lv_at hl 0 rfl) ?_
    refine lv_bipush (v := 16) hx hb dX12_takes_16 (by decide) ?_
    refine lv_icmp_gt (tgt := 25) hx hb dX12_takes_18 (by decide) (fun c22 => ?_) (fun c22 => ?_)
    · have hf := itp c22 hf
      exact b_X12_takes_25 X hr hk a1 v1 s2 _ hf _ _ _ Z (lv_sub hl [1, 2, 0] rfl)
    · have hf := itn c22 hf
      refine lv_iconst (v := 1) hx hb dX12_takes_21 (by decide) ?_
      refine lv_goto (tgt := 26) hx hb dX12_takes_22 (by decide) ?_
      exact b_X12_takes_26 X hr hk a1 v1 (1 : Int32) s2 _ hf _ _ _ Z (lv_sub hl [1, 2, 0] rfl)

set_option maxRecDepth 100000 in
set_option maxHeartbeats 4000000 in
theorem b_X12_longOf_2b {p : Program} {l : Launch} {e : Env} {s : State} {m : MethodId} {args : Array Value} {below : List Frame} {meth : Method} {c : Code} {D : va_G} {h : Nat → Nat} {cy : Nat → ClassId} (X : Cx p s m args c D h cy RX12 cX12_longOf 3) (hr : meth.sig.returnType = some .int) (hk : meth.locks = false) (K2 : (Int32 × Int32 × St) → Option (Int32 × St)) (hK2 : ∀ (a : Int32 × Int32 × St) (y : Int32 × St), K2 a = some y → ∀ (H : Heap) (locs : List Loc) (ls : Array Slot), Zt D h cy s a.2.2 H locs → lv_has ls 3 [(0, .ref (h 68)), (1, .int a.1), (2, .int a.2.1)] → W p l e (rmz 0 0) s m args below meth c H locs 0 0 (EI below args s D h cy y) (F0 m 2 ls [])) (x1 : Int32) (x2 : Int32) (σ : St) (y : Int32 × St) (hf : f_X12_longOf_2b K2 x1 x2 σ = some y) : ∀ (H : Heap) (locs : List Loc) (ls : Array Slot), Zt D h cy s σ H locs → lv_has ls 3 [(0, .ref (h 68)), (1, .int x1), (2, .int x2)] → W p l e (rmz 0 0) s m args below meth c H locs 0 0 (EI below args s D h cy y) (F0 m 2 ls []) := by
  intro H locs ls Z hl
  have hx := X.x
  have hb := X.b
  unfold f_X12_longOf_2b at hf
  refine lv_iload_n hx hb dX12_longOf_2 rfl (lv_at hl 2 rfl) ?_
  refine lv_bipush (v := 16) hx hb dX12_longOf_3 (by decide) ?_
  refine lv_icmp_ge (tgt := 28) hx hb dX12_longOf_5 (by decide) (fun c2 => ?_) (fun c2 => ?_)
  · have hf := itp c2 hf
    refine lv_iload_n hx hb dX12_longOf_28 rfl (lv_at hl 2 rfl) ?_
    exact retI X hr hk Z hf dX12_longOf_29
  · have hf := itn c2 hf
    refine lv_aload_n hx hb dX12_longOf_8 rfl (lv_at hl 0 rfl) ?_
    refine gf_RX12_13 X Z dX12_longOf_9 ?_
    refine lv_bipush (v := 16) hx hb dX12_longOf_12 (by decide) ?_
    refine lv_iload_n hx hb dX12_longOf_14 rfl (lv_at hl 1 rfl) ?_
    refine lv_imul hx hb dX12_longOf_15 ?_
    refine lv_iload_n hx hb dX12_longOf_16 rfl (lv_at hl 2 rfl) ?_
    refine lv_iadd hx hb dX12_longOf_17 ?_
    obtain ⟨g3, hf⟩ := gd_s hf
    refine x_iald (k := 70) X Z sh_70 g3 dX12_longOf_18 ?_
    refine lv_if_eq (tgt := 28) hx hb dX12_longOf_19 (by decide) (fun c4 => ?_) (fun c4 => ?_)
    · have hf := itp c4 hf
      refine lv_iload_n hx hb dX12_longOf_28 rfl (lv_at hl 2 rfl) ?_
      exact retI X hr hk Z hf dX12_longOf_29
    · have hf := itn c4 hf
      obtain ⟨v5, ev5⟩ : ∃ z : Int32, z = x2 + 1 := ⟨_, rfl⟩
      have hf := zn_e ev5 hf
      refine lv_iinc (v := v5) (lv' := [(2, .int v5), (0, .ref (h 68)), (1, .int x1)]) hx hb dX12_longOf_22 hl (k := 2) rfl (by rw [ev5]; rfl) (by decide) rfl (fun ls hl => ?_)
      refine lv_goto (tgt := 2) hx hb dX12_longOf_25 (by decide) ?_
      exact hK2 (x1, v5, σ) _ hf _ _ _ Z (lv_sub hl [1, 2, 0] rfl)

set_option maxRecDepth 100000 in
set_option maxHeartbeats 4000000 in
theorem b_X12_longOf_2 {p : Program} {l : Launch} {e : Env} {s : State} {m : MethodId} {args : Array Value} {below : List Frame} {meth : Method} {c : Code} {D : va_G} {h : Nat → Nat} {cy : Nat → ClassId} (X : Cx p s m args c D h cy RX12 cX12_longOf 3) (hr : meth.sig.returnType = some .int) (hk : meth.locks = false) (x1 : Int32) (x2 : Int32) (σ : St) (y : Int32 × St) (hf : f_X12_longOf_2 x1 x2 σ = some y) : ∀ (H : Heap) (locs : List Loc) (ls : Array Slot), Zt D h cy s σ H locs → lv_has ls 3 [(0, .ref (h 68)), (1, .int x1), (2, .int x2)] → W p l e (rmz 0 0) s m args below meth c H locs 0 0 (EI below args s D h cy y) (F0 m 2 ls []) := by
  exact it_W (F := fun K a => f_X12_longOf_2b K a.1 a.2.1 a.2.2) (P := fun a y => ∀ (H : Heap) (locs : List Loc) (ls : Array Slot), Zt D h cy s a.2.2 H locs → lv_has ls 3 [(0, .ref (h 68)), (1, .int a.1), (2, .int a.2.1)] → W p l e (rmz 0 0) s m args below meth c H locs 0 0 (EI below args s D h cy y) (F0 m 2 ls [])) (fun K hK a y hf => b_X12_longOf_2b X hr hk K hK (a.1) (a.2.1) (a.2.2) y hf) FU _ y hf

set_option maxRecDepth 100000 in
set_option maxHeartbeats 4000000 in
theorem c_X12_longOf (l : Launch) (D : va_G) (h : Nat → Nat) (cy : Nat → ClassId) (a1 : Int32) (σ : St) (y : Int32 × St) (hf : f_X12_longOf a1 σ = some y) : CI l yX12_longOf cX12_longOf 3 (some .int) 0 0 D h cy [.ref (h 68), .int a1] σ y := by
  refine ent (Qc := fun sz => QI D h cy sz y) (by decide) (Nat.le_of_ble_eq_true rfl) ?_
  intro p e s m below meth c ls X Z hr hk hl
  have X : Cx p s m _ c D h cy RX12 cX12_longOf 3 := X
  have hx := X.x
  have hb := X.b
  have hl : lv_has ls 3 [(0, .ref (h 68)), (1, .int a1)] := hl
  unfold f_X12_longOf at hf
  refine lv_iconst (v := 0) hx hb dX12_longOf_0 (by decide) ?_
  refine lv_topi (fun v1 ev1 => ?_)
  have hf := zn_e ev1 hf
  refine lv_istore_n (lv' := [(2, .int v1), (0, .ref (h 68)), (1, .int a1)]) hx hb dX12_longOf_1 rfl hl (by decide) rfl (fun ls hl => ?_)
  exact b_X12_longOf_2 X hr hk a1 v1 σ _ hf _ _ _ Z (lv_sub hl [1, 2, 0] rfl)

set_option maxRecDepth 100000 in
set_option maxHeartbeats 4000000 in
theorem c_X12_isPage (l : Launch) (D : va_G) (h : Nat → Nat) (cy : Nat → ClassId) (a0 : Int64) (σ : St) (y : Int32 × St) (hf : f_X12_isPage a0 σ = some y) : CI l yX12_isPage cX12_isPage 2 (some .boolean) 0 0 D h cy [.long a0] σ y := by
  refine ent (Qc := fun sz => QI D h cy sz y) (by decide) (Nat.le_of_ble_eq_true rfl) ?_
  intro p e s m below meth c ls X Z hr hk hl
  have X : Cx p s m _ c D h cy RX12 cX12_isPage 2 := X
  have hx := X.x
  have hb := X.b
  have hl : lv_has ls 2 [(0, .long a0)] := hl
  unfold f_X12_isPage at hf
  refine lv_lload_n hx hb dX12_isPage_0 rfl (lv_at hl 0 rfl) ?_
  refine lv_ldc2 (v := 256) hx hb X.o (X.t _ kc_RX12_159) dX12_isPage_1 ?_
  refine x_lif_eq (tgt := 40) X dX12_isPage_4 dX12_isPage_5 (by decide) (fun c1 => ?_) (fun c1 => ?_)
  · have hf := itp c1 hf
    refine lv_iconst (v := 1) hx hb dX12_isPage_40 (by decide) ?_
    refine lv_goto (tgt := 45) hx hb dX12_isPage_41 (by decide) ?_
    exact retZ X hr hk Z (by decide) hf dX12_isPage_45
  · have hf := itn c1 hf
    refine lv_lload_n hx hb dX12_isPage_8 rfl (lv_at hl 0 rfl) ?_
    refine lv_ldc2 (v := 512) hx hb X.o (X.t _ kc_RX12_161) dX12_isPage_9 ?_
    refine x_lif_eq (tgt := 40) X dX12_isPage_12 dX12_isPage_13 (by decide) (fun c2 => ?_) (fun c2 => ?_)
    · have hf := itp c2 hf
      refine lv_iconst (v := 1) hx hb dX12_isPage_40 (by decide) ?_
      refine lv_goto (tgt := 45) hx hb dX12_isPage_41 (by decide) ?_
      exact retZ X hr hk Z (by decide) hf dX12_isPage_45
    · have hf := itn c2 hf
      refine lv_lload_n hx hb dX12_isPage_16 rfl (lv_at hl 0 rfl) ?_
      refine lv_ldc2 (v := 1024) hx hb X.o (X.t _ kc_RX12_163) dX12_isPage_17 ?_
      refine x_lif_eq (tgt := 40) X dX12_isPage_20 dX12_isPage_21 (by decide) (fun c3 => ?_) (fun c3 => ?_)
      · have hf := itp c3 hf
        refine lv_iconst (v := 1) hx hb dX12_isPage_40 (by decide) ?_
        refine lv_goto (tgt := 45) hx hb dX12_isPage_41 (by decide) ?_
        exact retZ X hr hk Z (by decide) hf dX12_isPage_45
      · have hf := itn c3 hf
        refine lv_lload_n hx hb dX12_isPage_24 rfl (lv_at hl 0 rfl) ?_
        refine lv_ldc2 (v := 2048) hx hb X.o (X.t _ kc_RX12_165) dX12_isPage_25 ?_
        refine x_lif_eq (tgt := 40) X dX12_isPage_28 dX12_isPage_29 (by decide) (fun c4 => ?_) (fun c4 => ?_)
        · have hf := itp c4 hf
          refine lv_iconst (v := 1) hx hb dX12_isPage_40 (by decide) ?_
          refine lv_goto (tgt := 45) hx hb dX12_isPage_41 (by decide) ?_
          exact retZ X hr hk Z (by decide) hf dX12_isPage_45
        · have hf := itn c4 hf
          refine lv_lload_n hx hb dX12_isPage_32 rfl (lv_at hl 0 rfl) ?_
          refine lv_ldc2 (v := 4096) hx hb X.o (X.t _ kc_RX12_167) dX12_isPage_33 ?_
          refine x_lif_ne (tgt := 44) X dX12_isPage_36 dX12_isPage_37 (by decide) (fun c5 => ?_) (fun c5 => ?_)
          · have hf := itn c5 hf
            refine lv_iconst (v := 0) hx hb dX12_isPage_44 (by decide) ?_
            exact retZ X hr hk Z (by decide) hf dX12_isPage_45
          · have hf := itp c5 hf
            refine lv_iconst (v := 1) hx hb dX12_isPage_40 (by decide) ?_
            refine lv_goto (tgt := 45) hx hb dX12_isPage_41 (by decide) ?_
            exact retZ X hr hk Z (by decide) hf dX12_isPage_45

set_option maxRecDepth 100000 in
set_option maxHeartbeats 4000000 in
theorem c_X12_anew (l : Launch) (D : va_G) (h : Nat → Nat) (cy : Nat → ClassId) (a1 : Int32) (a2 : Int32) (σ : St) (y : Int32 × St) (hf : f_X12_anew a1 a2 σ = some y) : CI l yX12_anew cX12_anew 3 (some .boolean) 1 21 D h cy [.ref (h 68), .int a1, .int a2] σ y := by
  refine ent (Qc := fun sz => QI D h cy sz y) (by decide) (Nat.le_of_ble_eq_true rfl) ?_
  intro p e s m below meth c ls X Z hr hk hl
  have X : Cx p s m _ c D h cy RX12 cX12_anew 3 := X
  have hx := X.x
  have hb := X.b
  have hl : lv_has ls 3 [(0, .ref (h 68)), (1, .int a1), (2, .int a2)] := hl
  unfold f_X12_anew at hf
  refine lv_aload_n hx hb dX12_anew_0 rfl (lv_at hl 0 rfl) ?_
  refine lv_iconst (v := 0) hx hb dX12_anew_1 (by decide) ?_
  refine pf_RX12_149 X Z dX12_anew_2 (fun s1 H locs es1 Z => ?_)
  have hf := zn_e es1 hf
  refine lv_iload_n hx hb dX12_anew_5 rfl (lv_at hl 1 rfl) ?_
  refine lv_if_lt (tgt := 31) hx hb dX12_anew_6 (by decide) (fun c2 => ?_) (fun c2 => ?_)
  · have hf := itp c2 hf
    refine lv_iconst (v := 0) hx hb dX12_anew_31 (by decide) ?_
    exact retZ X hr hk Z (by decide) hf dX12_anew_32
  · have hf := itn c2 hf
    refine lv_iload_n hx hb dX12_anew_9 rfl (lv_at hl 1 rfl) ?_
    refine lv_ldc (v := 1073741824) hx hb X.o (X.t _ kc_RX12_169) dX12_anew_10 ?_
    refine lv_icmp_gt (tgt := 31) hx hb dX12_anew_12 (by decide) (fun c3 => ?_) (fun c3 => ?_)
    · have hf := itp c3 hf
      refine lv_iconst (v := 0) hx hb dX12_anew_31 (by decide) ?_
      exact retZ X hr hk Z (by decide) hf dX12_anew_32
    · have hf := itn c3 hf
      refine lv_iload_n hx hb dX12_anew_15 rfl (lv_at hl 1 rfl) ?_
      refine lv_sipush (v := 4096) hx hb dX12_anew_16 (by decide) ?_
      refine lv_irem hx hb dX12_anew_19 (by decide) ?_
      refine lv_if_ne (tgt := 31) hx hb dX12_anew_20 (by decide) (fun c4 => ?_) (fun c4 => ?_)
      · have hf := itn c4 hf
        refine lv_iconst (v := 0) hx hb dX12_anew_31 (by decide) ?_
        exact retZ X hr hk Z (by decide) hf dX12_anew_32
      · have hf := itp c4 hf
        refine lv_iload_n hx hb dX12_anew_23 rfl (lv_at hl 2 rfl) ?_
        refine lv_i2l (v := a2.toInt64) hx hb dX12_anew_24 rfl ?_
        obtain ⟨r7, s6, h5, hf⟩ := bi_s hf
        refine goI Z (run_S (As := [.long a2.toInt64]) (rest := []) X Z (c_X12_isPage l D h cy a2.toInt64 s1 (r7, s6) h5 _) lk_RX12_170 ⟨by decide, by decide⟩ rfl hl.1 rfl (Nat.le_of_ble_eq_true rfl) ⟨Nat.le_refl _, Nat.le_refl _⟩ dX12_anew_25) (fun H locs Z => ?_)
        refine lv_if_ne (tgt := 33) hx hb dX12_anew_28 (by decide) (fun c8 => ?_) (fun c8 => ?_)
        · have hf := itn c8 hf
          refine lv_aload_n hx hb dX12_anew_33 rfl (lv_at hl 0 rfl) ?_
          refine lv_iload_n hx hb dX12_anew_34 rfl (lv_at hl 1 rfl) ?_
          refine pf_RX12_17 X Z dX12_anew_35 (fun s9 H locs es9 Z => ?_)
          have hf := zn_e es9 hf
          refine lv_aload_n hx hb dX12_anew_38 rfl (lv_at hl 0 rfl) ?_
          refine lv_iload_n hx hb dX12_anew_39 rfl (lv_at hl 2 rfl) ?_
          refine pf_RX12_21 X Z dX12_anew_40 (fun s10 H locs es10 Z => ?_)
          have hf := zn_e es10 hf
          refine lv_aload_n hx hb dX12_anew_43 rfl (lv_at hl 0 rfl) ?_
          refine lv_iconst (v := 0) hx hb dX12_anew_44 (by decide) ?_
          refine pf_RX12_174 X Z dX12_anew_45 (fun s11 H locs es11 Z => ?_)
          have hf := zn_e es11 hf
          refine lv_aload_n hx hb dX12_anew_48 rfl (lv_at hl 0 rfl) ?_
          refine lv_iconst (v := 0) hx hb dX12_anew_49 (by decide) ?_
          refine pf_RX12_177 X Z dX12_anew_50 (fun s12 H locs es12 Z => ?_)
          have hf := zn_e es12 hf
          refine lv_aload_n hx hb dX12_anew_53 rfl (lv_at hl 0 rfl) ?_
          refine lv_iconst (v := 0) hx hb dX12_anew_54 (by decide) ?_
          refine pf_RX12_180 X Z dX12_anew_55 (fun s13 H locs es13 Z => ?_)
          have hf := zn_e es13 hf
          refine lv_aload_n hx hb dX12_anew_58 rfl (lv_at hl 0 rfl) ?_
          refine lv_iconst (v := 0) hx hb dX12_anew_59 (by decide) ?_
          refine pf_RX12_183 X Z dX12_anew_60 (fun s14 H locs es14 Z => ?_)
          have hf := zn_e es14 hf
          refine lv_aload_n hx hb dX12_anew_63 rfl (lv_at hl 0 rfl) ?_
          refine lv_iconst (v := 0) hx hb dX12_anew_64 (by decide) ?_
          refine pf_RX12_186 X Z dX12_anew_65 (fun s15 H locs es15 Z => ?_)
          have hf := zn_e es15 hf
          refine lv_iconst (v := 1) hx hb dX12_anew_68 (by decide) ?_
          exact retZ X hr hk Z (by decide) hf dX12_anew_69
        · have hf := itp c8 hf
          refine lv_iconst (v := 0) hx hb dX12_anew_31 (by decide) ?_
          exact retZ X hr hk Z (by decide) hf dX12_anew_32

set_option maxRecDepth 100000 in
set_option maxHeartbeats 4000000 in
theorem b_X12_segment_88b {p : Program} {l : Launch} {e : Env} {s : State} {m : MethodId} {args : Array Value} {below : List Frame} {meth : Method} {c : Code} {D : va_G} {h : Nat → Nat} {cy : Nat → ClassId} (X : Cx p s m args c D h cy RX12 cX12_segment 5) (hr : meth.sig.returnType = some .int) (hk : meth.locks = false) (K88 : (Int32 × St) → Option (Int32 × St)) (hK88 : ∀ (a : Int32 × St) (y : Int32 × St), K88 a = some y → ∀ (H : Heap) (locs : List Loc) (ls : Array Slot), Zt D h cy s a.2 H locs → lv_has ls 5 [(0, .ref (h 68)), (4, .int a.1)] → W p l e (rmz 1 24) s m args below meth c H locs 0 0 (EI below args s D h cy y) (F0 m 88 ls [])) (x4 : Int32) (σ : St) (y : Int32 × St) (hf : f_X12_segment_88b K88 x4 σ = some y) : ∀ (H : Heap) (locs : List Loc) (ls : Array Slot), Zt D h cy s σ H locs → lv_has ls 5 [(0, .ref (h 68)), (4, .int x4)] → W p l e (rmz 1 24) s m args below meth c H locs 0 0 (EI below args s D h cy y) (F0 m 88 ls []) := by
  intro H locs ls Z hl
  have hx := X.x
  have hb := X.b
  unfold f_X12_segment_88b at hf
  refine lv_iload hx hb dX12_segment_88 (lv_at hl 1 rfl) ?_
  refine lv_sipush (v := 1024) hx hb dX12_segment_90 (by decide) ?_
  refine lv_icmp_ge (tgt := 119) hx hb dX12_segment_93 (by decide) (fun c13 => ?_) (fun c13 => ?_)
  · have hf := itp c13 hf
    refine lv_aload_n hx hb dX12_segment_119 rfl (lv_at hl 0 rfl) ?_
    refine lv_dup hx hb dX12_segment_120 rfl ?_
    refine gf_RX12_174 X Z dX12_segment_121 ?_
    refine lv_iconst (v := 1) hx hb dX12_segment_124 (by decide) ?_
    refine lv_iadd hx hb dX12_segment_125 ?_
    refine pf_RX12_174 X Z dX12_segment_126 (fun s14 H locs es14 Z => ?_)
    have hf := zn_e es14 hf
    refine lv_aload_n hx hb dX12_segment_129 rfl (lv_at hl 0 rfl) ?_
    refine gf_RX12_174 X Z dX12_segment_130 ?_
    refine lv_iconst (v := 1) hx hb dX12_segment_133 (by decide) ?_
    refine lv_isub hx hb dX12_segment_134 ?_
    exact retI X hr hk Z hf dX12_segment_135
  · have hf := itn c13 hf
    refine lv_aload_n hx hb dX12_segment_96 rfl (lv_at hl 0 rfl) ?_
    refine gf_RX12_30 X Z dX12_segment_97 ?_
    refine lv_sipush (v := 1024) hx hb dX12_segment_100 (by decide) ?_
    refine lv_aload_n hx hb dX12_segment_103 rfl (lv_at hl 0 rfl) ?_
    refine gf_RX12_174 X Z dX12_segment_104 ?_
    refine lv_imul hx hb dX12_segment_107 ?_
    refine lv_iload hx hb dX12_segment_108 (lv_at hl 1 rfl) ?_
    refine lv_iadd hx hb dX12_segment_110 ?_
    refine lv_iconst (v := 0) hx hb dX12_segment_111 (by decide) ?_
    obtain ⟨g15, hf⟩ := gd_s hf
    refine x_iast (k := 73) X Z sh_73 g15 dX12_segment_112 (fun s16 H locs es16 Z => ?_)
    have hf := zn_e es16 hf
    obtain ⟨v17, ev17⟩ : ∃ z : Int32, z = x4 + 1 := ⟨_, rfl⟩
    have hf := zn_e ev17 hf
    refine lv_iinc (v := v17) (lv' := [(4, .int v17), (0, .ref (h 68))]) hx hb dX12_segment_113 hl (k := 1) rfl (by rw [ev17]; rfl) (by decide) rfl (fun ls hl => ?_)
    refine lv_goto (tgt := 88) hx hb dX12_segment_116 (by decide) ?_
    exact hK88 (v17, s16) _ hf _ _ _ Z (lv_sub hl [1, 0] rfl)

set_option maxRecDepth 100000 in
set_option maxHeartbeats 4000000 in
theorem b_X12_segment_88 {p : Program} {l : Launch} {e : Env} {s : State} {m : MethodId} {args : Array Value} {below : List Frame} {meth : Method} {c : Code} {D : va_G} {h : Nat → Nat} {cy : Nat → ClassId} (X : Cx p s m args c D h cy RX12 cX12_segment 5) (hr : meth.sig.returnType = some .int) (hk : meth.locks = false) (x4 : Int32) (σ : St) (y : Int32 × St) (hf : f_X12_segment_88 x4 σ = some y) : ∀ (H : Heap) (locs : List Loc) (ls : Array Slot), Zt D h cy s σ H locs → lv_has ls 5 [(0, .ref (h 68)), (4, .int x4)] → W p l e (rmz 1 24) s m args below meth c H locs 0 0 (EI below args s D h cy y) (F0 m 88 ls []) := by
  exact it_W (F := fun K a => f_X12_segment_88b K a.1 a.2) (P := fun a y => ∀ (H : Heap) (locs : List Loc) (ls : Array Slot), Zt D h cy s a.2 H locs → lv_has ls 5 [(0, .ref (h 68)), (4, .int a.1)] → W p l e (rmz 1 24) s m args below meth c H locs 0 0 (EI below args s D h cy y) (F0 m 88 ls [])) (fun K hK a y hf => b_X12_segment_88b X hr hk K hK (a.1) (a.2) y hf) FU _ y hf

set_option maxRecDepth 100000 in
set_option maxHeartbeats 4000000 in
theorem b_X12_segment_40 {p : Program} {l : Launch} {e : Env} {s : State} {m : MethodId} {args : Array Value} {below : List Frame} {meth : Method} {c : Code} {D : va_G} {h : Nat → Nat} {cy : Nat → ClassId} (X : Cx p s m args c D h cy RX12 cX12_segment 5) (hr : meth.sig.returnType = some .int) (hk : meth.locks = false) (x1 : Int32) (x2 : Int32) (t0 : Int32) (σ : St) (y : Int32 × St) (hf : f_X12_segment_40 x1 x2 t0 σ = some y) : ∀ (H : Heap) (locs : List Loc) (ls : Array Slot), Zt D h cy s σ H locs → lv_has ls 5 [(0, .ref (h 68)), (1, .int x1), (2, .int x2)] → W p l e (rmz 1 24) s m args below meth c H locs 0 0 (EI below args s D h cy y) (F0 m 40 ls [.int t0]) := by
  intro H locs ls Z hl
  have hx := X.x
  have hb := X.b
  unfold f_X12_segment_40 at hf
  refine lv_istore_n (lv' := [(3, .int t0), (0, .ref (h 68)), (1, .int x1), (2, .int x2)]) hx hb dX12_segment_40 rfl hl (by decide) rfl (fun ls hl => ?_)
  refine lv_iload_n hx hb dX12_segment_41 rfl (lv_at hl 0 rfl) ?_
  refine lv_if_ne (tgt := 52) hx hb dX12_segment_42 (by decide) (fun c3 => ?_) (fun c3 => ?_)
  · have hf := itn c3 hf
    refine lv_aload_n hx hb dX12_segment_52 rfl (lv_at hl 1 rfl) ?_
    refine lv_aload_n hx hb dX12_segment_53 rfl (lv_at hl 1 rfl) ?_
    refine gf_RX12_174 X Z dX12_segment_54 ?_
    obtain ⟨r6, s5, h4, hf⟩ := bi_s hf
    refine goI Z (run_V (As := [.int (σ.1 68 6)]) (rest := []) X Z (c_X12_takes l D h cy (σ.1 68 6) σ (r6, s5) h4 _) lk_RX12_189 ⟨by decide, by decide⟩ rv_68 rfl hl.1 rfl (Nat.le_of_ble_eq_true rfl) ⟨Nat.le_refl _, Nat.le_refl _⟩ dX12_segment_57) (fun H locs Z => ?_)
    refine lv_if_ne (tgt := 65) hx hb dX12_segment_60 (by decide) (fun c7 => ?_) (fun c7 => ?_)
    · have hf := itn c7 hf
      refine lv_aload_n hx hb dX12_segment_65 rfl (lv_at hl 1 rfl) ?_
      refine gf_RX12_24 X Z dX12_segment_66 ?_
      refine lv_aload_n hx hb dX12_segment_69 rfl (lv_at hl 1 rfl) ?_
      refine gf_RX12_174 X Z dX12_segment_70 ?_
      refine lv_iload_n hx hb dX12_segment_73 rfl (lv_at hl 2 rfl) ?_
      obtain ⟨g8, hf⟩ := gd_s hf
      refine x_iast (k := 71) X Z sh_71 g8 dX12_segment_74 (fun s9 H locs es9 Z => ?_)
      have hf := zn_e es9 hf
      refine lv_aload_n hx hb dX12_segment_75 rfl (lv_at hl 1 rfl) ?_
      refine gf_RX12_27 X Z dX12_segment_76 ?_
      refine lv_aload_n hx hb dX12_segment_79 rfl (lv_at hl 1 rfl) ?_
      refine gf_RX12_174 X Z dX12_segment_80 ?_
      refine lv_iload_n hx hb dX12_segment_83 rfl (lv_at hl 3 rfl) ?_
      obtain ⟨g10, hf⟩ := gd_s hf
      refine x_iast (k := 72) X Z sh_72 g10 dX12_segment_84 (fun s11 H locs es11 Z => ?_)
      have hf := zn_e es11 hf
      refine lv_iconst (v := 0) hx hb dX12_segment_85 (by decide) ?_
      refine lv_topi (fun v12 ev12 => ?_)
      have hf := zn_e ev12 hf
      refine lv_istore (lv' := [(4, .int v12), (3, .int t0), (0, .ref (h 68)), (1, .int x1), (2, .int x2)]) hx hb dX12_segment_86 hl (by decide) rfl (fun ls hl => ?_)
      exact b_X12_segment_88 X hr hk v12 s11 _ hf _ _ _ Z (lv_sub hl [2, 0] rfl)
    · have hf := itp c7 hf
      refine lv_iconst (v := (-1)) hx hb dX12_segment_63 (by decide) ?_
      exact retI X hr hk Z hf dX12_segment_64
  · have hf := itp c3 hf
    refine lv_aload_n hx hb dX12_segment_45 rfl (lv_at hl 1 rfl) ?_
    refine lv_iconst (v := 0) hx hb dX12_segment_46 (by decide) ?_
    refine pf_RX12_152 X Z dX12_segment_47 (fun s18 H locs es18 Z => ?_)
    have hf := zn_e es18 hf
    refine lv_iconst (v := (-1)) hx hb dX12_segment_50 (by decide) ?_
    exact retI X hr hk Z hf dX12_segment_51

set_option maxRecDepth 100000 in
set_option maxHeartbeats 4000000 in
theorem b_X12_segment_39 {p : Program} {l : Launch} {e : Env} {s : State} {m : MethodId} {args : Array Value} {below : List Frame} {meth : Method} {c : Code} {D : va_G} {h : Nat → Nat} {cy : Nat → ClassId} (X : Cx p s m args c D h cy RX12 cX12_segment 5) (hr : meth.sig.returnType = some .int) (hk : meth.locks = false) (x1 : Int32) (x2 : Int32) (σ : St) (y : Int32 × St) (hf : f_X12_segment_39 x1 x2 σ = some y) : ∀ (H : Heap) (locs : List Loc) (ls : Array Slot), Zt D h cy s σ H locs → lv_has ls 5 [(0, .ref (h 68)), (1, .int x1), (2, .int x2)] → W p l e (rmz 1 24) s m args below meth c H locs 0 0 (EI below args s D h cy y) (F0 m 39 ls []) := by
  intro H locs ls Z hl
  have hx := X.x
  have hb := X.b
  unfold f_X12_segment_39 at hf
  refine lv_iconst (v := 0) hx hb dX12_segment_39 (by decide) ?_
  exact b_X12_segment_40 X hr hk x1 x2 (0 : Int32) σ _ hf _ _ _ Z (lv_sub hl [0, 1, 2] rfl)

set_option maxRecDepth 100000 in
set_option maxHeartbeats 4000000 in
theorem c_X12_segment (l : Launch) (D : va_G) (h : Nat → Nat) (cy : Nat → ClassId) (a1 : Int32) (a2 : Int32) (σ : St) (y : Int32 × St) (hf : f_X12_segment a1 a2 σ = some y) : CI l yX12_segment cX12_segment 5 (some .int) 1 24 D h cy [.ref (h 68), .int a1, .int a2] σ y := by
  refine ent (Qc := fun sz => QI D h cy sz y) (by decide) (Nat.le_of_ble_eq_true rfl) ?_
  intro p e s m below meth c ls X Z hr hk hl
  have X : Cx p s m _ c D h cy RX12 cX12_segment 5 := X
  have hx := X.x
  have hb := X.b
  have hl : lv_has ls 5 [(0, .ref (h 68)), (1, .int a1), (2, .int a2)] := hl
  unfold f_X12_segment at hf
  refine lv_aload_n hx hb dX12_segment_0 rfl (lv_at hl 0 rfl) ?_
  refine lv_iconst (v := 0) hx hb dX12_segment_1 (by decide) ?_
  refine pf_RX12_149 X Z dX12_segment_2 (fun s1 H locs es1 Z => ?_)
  have hf := zn_e es1 hf
  refine lv_aload_n hx hb dX12_segment_5 rfl (lv_at hl 0 rfl) ?_
  refine gf_RX12_174 X Z dX12_segment_6 ?_
  refine lv_iconst (v := 4) hx hb dX12_segment_9 (by decide) ?_
  refine lv_icmp_ge (tgt := 39) hx hb dX12_segment_10 (by decide) (fun c2 => ?_) (fun c2 => ?_)
  · have hf := itp c2 hf
    exact b_X12_segment_39 X hr hk a1 a2 s1 _ hf _ _ _ Z (lv_sub hl [0, 1, 2] rfl)
  · have hf := itn c2 hf
    refine lv_iload_n hx hb dX12_segment_13 rfl (lv_at hl 1 rfl) ?_
    refine lv_iconst (v := 1) hx hb dX12_segment_14 (by decide) ?_
    refine lv_icmp_lt (tgt := 39) hx hb dX12_segment_15 (by decide) (fun c19 => ?_) (fun c19 => ?_)
    · have hf := itp c19 hf
      exact b_X12_segment_39 X hr hk a1 a2 s1 _ hf _ _ _ Z (lv_sub hl [0, 1, 2] rfl)
    · have hf := itn c19 hf
      refine lv_iload_n hx hb dX12_segment_18 rfl (lv_at hl 1 rfl) ?_
      refine lv_sipush (v := 1024) hx hb dX12_segment_19 (by decide) ?_
      refine lv_icmp_gt (tgt := 39) hx hb dX12_segment_22 (by decide) (fun c20 => ?_) (fun c20 => ?_)
      · have hf := itp c20 hf
        exact b_X12_segment_39 X hr hk a1 a2 s1 _ hf _ _ _ Z (lv_sub hl [0, 1, 2] rfl)
      · have hf := itn c20 hf
        refine lv_iload_n hx hb dX12_segment_25 rfl (lv_at hl 2 rfl) ?_
        refine lv_if_lt (tgt := 39) hx hb dX12_segment_26 (by decide) (fun c21 => ?_) (fun c21 => ?_)
        · have hf := itp c21 hf
          exact b_X12_segment_39 X hr hk a1 a2 s1 _ hf _ _ _ Z (lv_sub hl [0, 1, 2] rfl)
        · have hf := itn c21 hf
          refine lv_iload_n hx hb dX12_segment_29 rfl (lv_at hl 2 rfl) ?_
          refine lv_bipush (v := 7) hx hb dX12_segment_30 (by decide) ?_
          refine lv_icmp_gt (tgt := 39) hx hb dX12_segment_32 (by decide) (fun c22 => ?_) (fun c22 => ?_)
          · have hf := itp c22 hf
            exact b_X12_segment_39 X hr hk a1 a2 s1 _ hf _ _ _ Z (lv_sub hl [0, 1, 2] rfl)
          · have hf := itn c22 hf
            refine lv_iconst (v := 1) hx hb dX12_segment_35 (by decide) ?_
            refine lv_goto (tgt := 40) hx hb dX12_segment_36 (by decide) ?_
            exact b_X12_segment_40 X hr hk a1 a2 (1 : Int32) s1 _ hf _ _ _ Z (lv_sub hl [0, 1, 2] rfl)

set_option maxRecDepth 100000 in
set_option maxHeartbeats 4000000 in
theorem c_X12_isSegment (l : Launch) (D : va_G) (h : Nat → Nat) (cy : Nat → ClassId) (a1 : Int32) (σ : St) (y : Int32 × St) (hf : f_X12_isSegment a1 σ = some y) : CI l yX12_isSegment cX12_isSegment 2 (some .boolean) 0 0 D h cy [.ref (h 68), .int a1] σ y := by
  refine ent (Qc := fun sz => QI D h cy sz y) (by decide) (Nat.le_of_ble_eq_true rfl) ?_
  intro p e s m below meth c ls X Z hr hk hl
  have X : Cx p s m _ c D h cy RX12 cX12_isSegment 2 := X
  have hx := X.x
  have hb := X.b
  have hl : lv_has ls 2 [(0, .ref (h 68)), (1, .int a1)] := hl
  unfold f_X12_isSegment at hf
  refine lv_iload_n hx hb dX12_isSegment_0 rfl (lv_at hl 1 rfl) ?_
  refine lv_if_lt (tgt := 16) hx hb dX12_isSegment_1 (by decide) (fun c1 => ?_) (fun c1 => ?_)
  · have hf := itp c1 hf
    refine lv_iconst (v := 0) hx hb dX12_isSegment_16 (by decide) ?_
    exact retZ X hr hk Z (by decide) hf dX12_isSegment_17
  · have hf := itn c1 hf
    refine lv_iload_n hx hb dX12_isSegment_4 rfl (lv_at hl 1 rfl) ?_
    refine lv_aload_n hx hb dX12_isSegment_5 rfl (lv_at hl 0 rfl) ?_
    refine gf_RX12_174 X Z dX12_isSegment_6 ?_
    refine lv_icmp_ge (tgt := 16) hx hb dX12_isSegment_9 (by decide) (fun c2 => ?_) (fun c2 => ?_)
    · have hf := itp c2 hf
      refine lv_iconst (v := 0) hx hb dX12_isSegment_16 (by decide) ?_
      exact retZ X hr hk Z (by decide) hf dX12_isSegment_17
    · have hf := itn c2 hf
      refine lv_iconst (v := 1) hx hb dX12_isSegment_12 (by decide) ?_
      refine lv_goto (tgt := 17) hx hb dX12_isSegment_13 (by decide) ?_
      exact retZ X hr hk Z (by decide) hf dX12_isSegment_17

set_option maxRecDepth 100000 in
set_option maxHeartbeats 4000000 in
theorem b_X12_fill_44b {p : Program} {l : Launch} {e : Env} {s : State} {m : MethodId} {args : Array Value} {below : List Frame} {meth : Method} {c : Code} {D : va_G} {h : Nat → Nat} {cy : Nat → ClassId} (X : Cx p s m args c D h cy RX12 cX12_fill 5) (hr : meth.sig.returnType = some .boolean) (hk : meth.locks = false) (K44 : (Int32 × Int32 × Int32 × Int32 × St) → Option (Int32 × St)) (hK44 : ∀ (a : Int32 × Int32 × Int32 × Int32 × St) (y : Int32 × St), K44 a = some y → ∀ (H : Heap) (locs : List Loc) (ls : Array Slot), Zt D h cy s a.2.2.2.2 H locs → lv_has ls 5 [(0, .ref (h 68)), (1, .int a.1), (2, .int a.2.1), (3, .int a.2.2.1), (4, .int a.2.2.2.1)] → W p l e (rmz 1 21) s m args below meth c H locs 0 0 (EI below args s D h cy y) (F0 m 44 ls [])) (x1 : Int32) (x2 : Int32) (x3 : Int32) (x4 : Int32) (σ : St) (y : Int32 × St) (hf : f_X12_fill_44b K44 x1 x2 x3 x4 σ = some y) : ∀ (H : Heap) (locs : List Loc) (ls : Array Slot), Zt D h cy s σ H locs → lv_has ls 5 [(0, .ref (h 68)), (1, .int x1), (2, .int x2), (3, .int x3), (4, .int x4)] → W p l e (rmz 1 21) s m args below meth c H locs 0 0 (EI below args s D h cy y) (F0 m 44 ls []) := by
  intro H locs ls Z hl
  have hx := X.x
  have hb := X.b
  unfold f_X12_fill_44b at hf
  refine lv_iload hx hb dX12_fill_44 (lv_at hl 4 rfl) ?_
  refine lv_iload_n hx hb dX12_fill_46 rfl (lv_at hl 3 rfl) ?_
  refine lv_icmp_ge (tgt := 78) hx hb dX12_fill_47 (by decide) (fun c12 => ?_) (fun c12 => ?_)
  · have hf := itp c12 hf
    refine lv_iconst (v := 1) hx hb dX12_fill_78 (by decide) ?_
    exact retZ X hr hk Z (by decide) hf dX12_fill_79
  · have hf := itn c12 hf
    refine lv_aload_n hx hb dX12_fill_50 rfl (lv_at hl 0 rfl) ?_
    refine gf_RX12_30 X Z dX12_fill_51 ?_
    refine lv_sipush (v := 1024) hx hb dX12_fill_54 (by decide) ?_
    refine lv_iload_n hx hb dX12_fill_57 rfl (lv_at hl 1 rfl) ?_
    refine lv_imul hx hb dX12_fill_58 ?_
    refine lv_iload_n hx hb dX12_fill_59 rfl (lv_at hl 2 rfl) ?_
    refine lv_iadd hx hb dX12_fill_60 ?_
    refine lv_iload hx hb dX12_fill_61 (lv_at hl 4 rfl) ?_
    refine lv_iadd hx hb dX12_fill_63 ?_
    refine lv_aload_n hx hb dX12_fill_64 rfl (lv_at hl 0 rfl) ?_
    refine gf_RX12_7 X Z dX12_fill_65 ?_
    refine lv_iload hx hb dX12_fill_68 (lv_at hl 4 rfl) ?_
    obtain ⟨g13, hf⟩ := gd_s hf
    refine x_iald (k := 69) X Z sh_69 g13 dX12_fill_70 ?_
    obtain ⟨g14, hf⟩ := gd_s hf
    refine x_iast (k := 73) X Z sh_73 g14 dX12_fill_71 (fun s15 H locs es15 Z => ?_)
    have hf := zn_e es15 hf
    obtain ⟨v16, ev16⟩ : ∃ z : Int32, z = x4 + 1 := ⟨_, rfl⟩
    have hf := zn_e ev16 hf
    refine lv_iinc (v := v16) (lv' := [(4, .int v16), (0, .ref (h 68)), (1, .int x1), (2, .int x2), (3, .int x3)]) hx hb dX12_fill_72 hl (k := 4) rfl (by rw [ev16]; rfl) (by decide) rfl (fun ls hl => ?_)
    refine lv_goto (tgt := 44) hx hb dX12_fill_75 (by decide) ?_
    exact hK44 (x1, x2, x3, v16, s15) _ hf _ _ _ Z (lv_sub hl [1, 2, 3, 4, 0] rfl)

set_option maxRecDepth 100000 in
set_option maxHeartbeats 4000000 in
theorem b_X12_fill_44 {p : Program} {l : Launch} {e : Env} {s : State} {m : MethodId} {args : Array Value} {below : List Frame} {meth : Method} {c : Code} {D : va_G} {h : Nat → Nat} {cy : Nat → ClassId} (X : Cx p s m args c D h cy RX12 cX12_fill 5) (hr : meth.sig.returnType = some .boolean) (hk : meth.locks = false) (x1 : Int32) (x2 : Int32) (x3 : Int32) (x4 : Int32) (σ : St) (y : Int32 × St) (hf : f_X12_fill_44 x1 x2 x3 x4 σ = some y) : ∀ (H : Heap) (locs : List Loc) (ls : Array Slot), Zt D h cy s σ H locs → lv_has ls 5 [(0, .ref (h 68)), (1, .int x1), (2, .int x2), (3, .int x3), (4, .int x4)] → W p l e (rmz 1 21) s m args below meth c H locs 0 0 (EI below args s D h cy y) (F0 m 44 ls []) := by
  exact it_W (F := fun K a => f_X12_fill_44b K a.1 a.2.1 a.2.2.1 a.2.2.2.1 a.2.2.2.2) (P := fun a y => ∀ (H : Heap) (locs : List Loc) (ls : Array Slot), Zt D h cy s a.2.2.2.2 H locs → lv_has ls 5 [(0, .ref (h 68)), (1, .int a.1), (2, .int a.2.1), (3, .int a.2.2.1), (4, .int a.2.2.2.1)] → W p l e (rmz 1 21) s m args below meth c H locs 0 0 (EI below args s D h cy y) (F0 m 44 ls [])) (fun K hK a y hf => b_X12_fill_44b X hr hk K hK (a.1) (a.2.1) (a.2.2.1) (a.2.2.2.1) (a.2.2.2.2) y hf) FU _ y hf

set_option maxRecDepth 100000 in
set_option maxHeartbeats 4000000 in
theorem c_X12_fill (l : Launch) (D : va_G) (h : Nat → Nat) (cy : Nat → ClassId) (a1 : Int32) (a2 : Int32) (σ : St) (y : Int32 × St) (hf : f_X12_fill a1 a2 σ = some y) : CI l yX12_fill cX12_fill 5 (some .boolean) 1 21 D h cy [.ref (h 68), .int a1, .int a2] σ y := by
  refine ent (Qc := fun sz => QI D h cy sz y) (by decide) (Nat.le_of_ble_eq_true rfl) ?_
  intro p e s m below meth c ls X Z hr hk hl
  have X : Cx p s m _ c D h cy RX12 cX12_fill 5 := X
  have hx := X.x
  have hb := X.b
  have hl : lv_has ls 5 [(0, .ref (h 68)), (1, .int a1), (2, .int a2)] := hl
  unfold f_X12_fill at hf
  refine lv_aload_n hx hb dX12_fill_0 rfl (lv_at hl 0 rfl) ?_
  refine lv_iconst (v := 0) hx hb dX12_fill_1 (by decide) ?_
  refine pf_RX12_149 X Z dX12_fill_2 (fun s1 H locs es1 Z => ?_)
  have hf := zn_e es1 hf
  refine lv_aload_n hx hb dX12_fill_5 rfl (lv_at hl 0 rfl) ?_
  refine gf_RX12_152 X Z dX12_fill_6 ?_
  refine lv_topi (fun v2 ev2 => ?_)
  have hf := zn_e ev2 hf
  refine lv_istore_n (lv' := [(3, .int v2), (0, .ref (h 68)), (1, .int a1), (2, .int a2)]) hx hb dX12_fill_9 rfl hl (by decide) rfl (fun ls hl => ?_)
  refine lv_aload_n hx hb dX12_fill_10 rfl (lv_at hl 1 rfl) ?_
  refine lv_iconst (v := 0) hx hb dX12_fill_11 (by decide) ?_
  refine pf_RX12_152 X Z dX12_fill_12 (fun s3 H locs es3 Z => ?_)
  have hf := zn_e es3 hf
  refine lv_aload_n hx hb dX12_fill_15 rfl (lv_at hl 1 rfl) ?_
  refine lv_iload_n hx hb dX12_fill_16 rfl (lv_at hl 2 rfl) ?_
  obtain ⟨r6, s5, h4, hf⟩ := bi_s hf
  refine goI Z (run_V (As := [.int a1]) (rest := []) X Z (c_X12_isSegment l D h cy a1 s3 (r6, s5) h4 _) lk_RX12_193 ⟨by decide, by decide⟩ rv_68 rfl hl.1 rfl (Nat.le_of_ble_eq_true rfl) ⟨Nat.le_refl _, Nat.le_refl _⟩ dX12_fill_17) (fun H locs Z => ?_)
  refine lv_if_eq (tgt := 39) hx hb dX12_fill_20 (by decide) (fun c7 => ?_) (fun c7 => ?_)
  · have hf := itp c7 hf
    refine lv_iconst (v := 0) hx hb dX12_fill_39 (by decide) ?_
    exact retZ X hr hk Z (by decide) hf dX12_fill_40
  · have hf := itn c7 hf
    refine lv_iload_n hx hb dX12_fill_23 rfl (lv_at hl 3 rfl) ?_
    refine lv_if_lt (tgt := 39) hx hb dX12_fill_24 (by decide) (fun c8 => ?_) (fun c8 => ?_)
    · have hf := itp c8 hf
      refine lv_iconst (v := 0) hx hb dX12_fill_39 (by decide) ?_
      exact retZ X hr hk Z (by decide) hf dX12_fill_40
    · have hf := itn c8 hf
      refine lv_iload_n hx hb dX12_fill_27 rfl (lv_at hl 3 rfl) ?_
      refine lv_aload_n hx hb dX12_fill_28 rfl (lv_at hl 1 rfl) ?_
      refine gf_RX12_24 X Z dX12_fill_29 ?_
      refine lv_iload_n hx hb dX12_fill_32 rfl (lv_at hl 2 rfl) ?_
      obtain ⟨g9, hf⟩ := gd_s hf
      refine x_iald (k := 71) X Z sh_71 g9 dX12_fill_33 ?_
      refine lv_iload_n hx hb dX12_fill_34 rfl (lv_at hl 0 rfl) ?_
      refine lv_isub hx hb dX12_fill_35 ?_
      refine lv_icmp_le (tgt := 41) hx hb dX12_fill_36 (by decide) (fun c10 => ?_) (fun c10 => ?_)
      · have hf := itp c10 hf
        refine lv_iconst (v := 0) hx hb dX12_fill_41 (by decide) ?_
        refine lv_topi (fun v11 ev11 => ?_)
        have hf := zn_e ev11 hf
        refine lv_istore (lv' := [(4, .int v11), (3, .int v2), (0, .ref (h 68)), (1, .int a1), (2, .int a2)]) hx hb dX12_fill_42 hl (by decide) rfl (fun ls hl => ?_)
        exact b_X12_fill_44 X hr hk a1 a2 v2 v11 s5 _ hf _ _ _ Z (lv_sub hl [2, 3, 4, 1, 0] rfl)
      · have hf := itn c10 hf
        refine lv_iconst (v := 0) hx hb dX12_fill_39 (by decide) ?_
        exact retZ X hr hk Z (by decide) hf dX12_fill_40

set_option maxRecDepth 100000 in
set_option maxHeartbeats 4000000 in
theorem b_X12_section_61 {p : Program} {l : Launch} {e : Env} {s : State} {m : MethodId} {args : Array Value} {below : List Frame} {meth : Method} {c : Code} {D : va_G} {h : Nat → Nat} {cy : Nat → ClassId} (X : Cx p s m args c D h cy RX12 cX12_section 5) (hr : meth.sig.returnType = some .int) (hk : meth.locks = false) (x1 : Int32) (x2 : Int32) (x3 : Int32) (t0 : Int32) (σ : St) (y : Int32 × St) (hf : f_X12_section_61 x1 x2 x3 t0 σ = some y) : ∀ (H : Heap) (locs : List Loc) (ls : Array Slot), Zt D h cy s σ H locs → lv_has ls 5 [(0, .ref (h 68)), (1, .int x1), (2, .int x2), (3, .int x3)] → W p l e (rmz 1 24) s m args below meth c H locs 0 0 (EI below args s D h cy y) (F0 m 61 ls [.int t0]) := by
  intro H locs ls Z hl
  have hx := X.x
  have hb := X.b
  unfold f_X12_section_61 at hf
  refine lv_istore (lv' := [(4, .int t0), (0, .ref (h 68)), (1, .int x1), (2, .int x2), (3, .int x3)]) hx hb dX12_section_61 hl (by decide) rfl (fun ls hl => ?_)
  refine lv_iload hx hb dX12_section_63 (lv_at hl 0 rfl) ?_
  refine lv_if_ne (tgt := 75) hx hb dX12_section_65 (by decide) (fun c3 => ?_) (fun c3 => ?_)
  · have hf := itn c3 hf
    refine lv_aload_n hx hb dX12_section_75 rfl (lv_at hl 1 rfl) ?_
    refine lv_iconst (v := 4) hx hb dX12_section_76 (by decide) ?_
    refine lv_aload_n hx hb dX12_section_77 rfl (lv_at hl 1 rfl) ?_
    refine gf_RX12_177 X Z dX12_section_78 ?_
    refine lv_iadd hx hb dX12_section_81 ?_
    obtain ⟨r6, s5, h4, hf⟩ := bi_s hf
    refine goI Z (run_V (As := [.int (((4 : Int32) + (σ.1 68 7)))]) (rest := []) X Z (c_X12_takes l D h cy (((4 : Int32) + (σ.1 68 7))) σ (r6, s5) h4 _) lk_RX12_189 ⟨by decide, by decide⟩ rv_68 rfl hl.1 rfl (Nat.le_of_ble_eq_true rfl) ⟨Nat.le_refl _, Nat.le_refl _⟩ dX12_section_82) (fun H locs Z => ?_)
    refine lv_if_ne (tgt := 90) hx hb dX12_section_85 (by decide) (fun c7 => ?_) (fun c7 => ?_)
    · have hf := itn c7 hf
      refine lv_aload_n hx hb dX12_section_90 rfl (lv_at hl 1 rfl) ?_
      refine lv_dup hx hb dX12_section_91 rfl ?_
      refine gf_RX12_177 X Z dX12_section_92 ?_
      refine lv_iconst (v := 1) hx hb dX12_section_95 (by decide) ?_
      refine lv_iadd hx hb dX12_section_96 ?_
      refine pf_RX12_177 X Z dX12_section_97 (fun s8 H locs es8 Z => ?_)
      have hf := zn_e es8 hf
      refine lv_aload_n hx hb dX12_section_100 rfl (lv_at hl 1 rfl) ?_
      refine gf_RX12_33 X Z dX12_section_101 ?_
      refine lv_aload_n hx hb dX12_section_104 rfl (lv_at hl 1 rfl) ?_
      refine gf_RX12_177 X Z dX12_section_105 ?_
      refine lv_iload_n hx hb dX12_section_108 rfl (lv_at hl 2 rfl) ?_
      obtain ⟨g9, hf⟩ := gd_s hf
      refine x_iast (k := 74) X Z sh_74 g9 dX12_section_109 (fun s10 H locs es10 Z => ?_)
      have hf := zn_e es10 hf
      refine lv_aload_n hx hb dX12_section_110 rfl (lv_at hl 1 rfl) ?_
      refine gf_RX12_36 X Z dX12_section_111 ?_
      refine lv_aload_n hx hb dX12_section_114 rfl (lv_at hl 1 rfl) ?_
      refine gf_RX12_177 X Z dX12_section_115 ?_
      refine lv_iload_n hx hb dX12_section_118 rfl (lv_at hl 3 rfl) ?_
      obtain ⟨g11, hf⟩ := gd_s hf
      refine x_iast (k := 75) X Z sh_75 g11 dX12_section_119 (fun s12 H locs es12 Z => ?_)
      have hf := zn_e es12 hf
      refine lv_aload_n hx hb dX12_section_120 rfl (lv_at hl 1 rfl) ?_
      refine gf_RX12_39 X Z dX12_section_121 ?_
      refine lv_aload_n hx hb dX12_section_124 rfl (lv_at hl 1 rfl) ?_
      refine gf_RX12_177 X Z dX12_section_125 ?_
      refine lv_iload_n hx hb dX12_section_128 rfl (lv_at hl 4 rfl) ?_
      obtain ⟨g13, hf⟩ := gd_s hf
      refine x_iast (k := 76) X Z sh_76 g13 dX12_section_129 (fun s14 H locs es14 Z => ?_)
      have hf := zn_e es14 hf
      refine lv_aload_n hx hb dX12_section_130 rfl (lv_at hl 1 rfl) ?_
      refine gf_RX12_177 X Z dX12_section_131 ?_
      exact retI X hr hk Z hf dX12_section_134
    · have hf := itp c7 hf
      refine lv_iconst (v := (-1)) hx hb dX12_section_88 (by decide) ?_
      exact retI X hr hk Z hf dX12_section_89
  · have hf := itp c3 hf
    refine lv_aload_n hx hb dX12_section_68 rfl (lv_at hl 1 rfl) ?_
    refine lv_iconst (v := 0) hx hb dX12_section_69 (by decide) ?_
    refine pf_RX12_152 X Z dX12_section_70 (fun s15 H locs es15 Z => ?_)
    have hf := zn_e es15 hf
    refine lv_iconst (v := (-1)) hx hb dX12_section_73 (by decide) ?_
    exact retI X hr hk Z hf dX12_section_74

set_option maxRecDepth 100000 in
set_option maxHeartbeats 4000000 in
theorem b_X12_section_60 {p : Program} {l : Launch} {e : Env} {s : State} {m : MethodId} {args : Array Value} {below : List Frame} {meth : Method} {c : Code} {D : va_G} {h : Nat → Nat} {cy : Nat → ClassId} (X : Cx p s m args c D h cy RX12 cX12_section 5) (hr : meth.sig.returnType = some .int) (hk : meth.locks = false) (x1 : Int32) (x2 : Int32) (x3 : Int32) (σ : St) (y : Int32 × St) (hf : f_X12_section_60 x1 x2 x3 σ = some y) : ∀ (H : Heap) (locs : List Loc) (ls : Array Slot), Zt D h cy s σ H locs → lv_has ls 5 [(0, .ref (h 68)), (1, .int x1), (2, .int x2), (3, .int x3)] → W p l e (rmz 1 24) s m args below meth c H locs 0 0 (EI below args s D h cy y) (F0 m 60 ls []) := by
  intro H locs ls Z hl
  have hx := X.x
  have hb := X.b
  unfold f_X12_section_60 at hf
  refine lv_iconst (v := 0) hx hb dX12_section_60 (by decide) ?_
  exact b_X12_section_61 X hr hk x1 x2 x3 (0 : Int32) σ _ hf _ _ _ Z (lv_sub hl [0, 1, 2, 3] rfl)

set_option maxRecDepth 100000 in
set_option maxHeartbeats 4000000 in
theorem c_X12_section (l : Launch) (D : va_G) (h : Nat → Nat) (cy : Nat → ClassId) (a1 : Int32) (a2 : Int32) (a3 : Int32) (σ : St) (y : Int32 × St) (hf : f_X12_section a1 a2 a3 σ = some y) : CI l yX12_section cX12_section 5 (some .int) 1 24 D h cy [.ref (h 68), .int a1, .int a2, .int a3] σ y := by
  refine ent (Qc := fun sz => QI D h cy sz y) (by decide) (Nat.le_of_ble_eq_true rfl) ?_
  intro p e s m below meth c ls X Z hr hk hl
  have X : Cx p s m _ c D h cy RX12 cX12_section 5 := X
  have hx := X.x
  have hb := X.b
  have hl : lv_has ls 5 [(0, .ref (h 68)), (1, .int a1), (2, .int a2), (3, .int a3)] := hl
  unfold f_X12_section at hf
  refine lv_aload_n hx hb dX12_section_0 rfl (lv_at hl 0 rfl) ?_
  refine lv_iconst (v := 0) hx hb dX12_section_1 (by decide) ?_
  refine pf_RX12_149 X Z dX12_section_2 (fun s1 H locs es1 Z => ?_)
  have hf := zn_e es1 hf
  refine lv_aload_n hx hb dX12_section_5 rfl (lv_at hl 0 rfl) ?_
  refine gf_RX12_177 X Z dX12_section_6 ?_
  refine lv_bipush (v := 8) hx hb dX12_section_9 (by decide) ?_
  refine lv_icmp_ge (tgt := 60) hx hb dX12_section_11 (by decide) (fun c2 => ?_) (fun c2 => ?_)
  · have hf := itp c2 hf
    exact b_X12_section_60 X hr hk a1 a2 a3 s1 _ hf _ _ _ Z (lv_sub hl [0, 1, 2, 3] rfl)
  · have hf := itn c2 hf
    refine lv_aload_n hx hb dX12_section_14 rfl (lv_at hl 0 rfl) ?_
    refine lv_iload_n hx hb dX12_section_15 rfl (lv_at hl 1 rfl) ?_
    obtain ⟨r18, s17, h16, hf⟩ := bi_s hf
    refine goI Z (run_V (As := [.int a1]) (rest := []) X Z (c_X12_isSegment l D h cy a1 s1 (r18, s17) h16 _) lk_RX12_193 ⟨by decide, by decide⟩ rv_68 rfl hl.1 rfl (Nat.le_of_ble_eq_true rfl) ⟨Nat.le_refl _, Nat.le_refl _⟩ dX12_section_16) (fun H locs Z => ?_)
    refine lv_if_eq (tgt := 60) hx hb dX12_section_19 (by decide) (fun c19 => ?_) (fun c19 => ?_)
    · have hf := itp c19 hf
      exact b_X12_section_60 X hr hk a1 a2 a3 s17 _ hf _ _ _ Z (lv_sub hl [0, 1, 2, 3] rfl)
    · have hf := itn c19 hf
      refine lv_iload_n hx hb dX12_section_22 rfl (lv_at hl 2 rfl) ?_
      refine lv_if_lt (tgt := 60) hx hb dX12_section_23 (by decide) (fun c20 => ?_) (fun c20 => ?_)
      · have hf := itp c20 hf
        exact b_X12_section_60 X hr hk a1 a2 a3 s17 _ hf _ _ _ Z (lv_sub hl [0, 1, 2, 3] rfl)
      · have hf := itn c20 hf
        refine lv_iload_n hx hb dX12_section_26 rfl (lv_at hl 3 rfl) ?_
        refine lv_if_lt (tgt := 60) hx hb dX12_section_27 (by decide) (fun c21 => ?_) (fun c21 => ?_)
        · have hf := itp c21 hf
          exact b_X12_section_60 X hr hk a1 a2 a3 s17 _ hf _ _ _ Z (lv_sub hl [0, 1, 2, 3] rfl)
        · have hf := itn c21 hf
          refine lv_iload_n hx hb dX12_section_30 rfl (lv_at hl 2 rfl) ?_
          refine lv_sipush (v := 1024) hx hb dX12_section_31 (by decide) ?_
          refine lv_icmp_gt (tgt := 60) hx hb dX12_section_34 (by decide) (fun c22 => ?_) (fun c22 => ?_)
          · have hf := itp c22 hf
            exact b_X12_section_60 X hr hk a1 a2 a3 s17 _ hf _ _ _ Z (lv_sub hl [0, 1, 2, 3] rfl)
          · have hf := itn c22 hf
            refine lv_iload_n hx hb dX12_section_37 rfl (lv_at hl 3 rfl) ?_
            refine lv_sipush (v := 1024) hx hb dX12_section_38 (by decide) ?_
            refine lv_icmp_gt (tgt := 60) hx hb dX12_section_41 (by decide) (fun c23 => ?_) (fun c23 => ?_)
            · have hf := itp c23 hf
              exact b_X12_section_60 X hr hk a1 a2 a3 s17 _ hf _ _ _ Z (lv_sub hl [0, 1, 2, 3] rfl)
            · have hf := itn c23 hf
              refine lv_iload_n hx hb dX12_section_44 rfl (lv_at hl 2 rfl) ?_
              refine lv_iload_n hx hb dX12_section_45 rfl (lv_at hl 3 rfl) ?_
              refine lv_iadd hx hb dX12_section_46 ?_
              refine lv_aload_n hx hb dX12_section_47 rfl (lv_at hl 0 rfl) ?_
              refine gf_RX12_24 X Z dX12_section_48 ?_
              refine lv_iload_n hx hb dX12_section_51 rfl (lv_at hl 1 rfl) ?_
              obtain ⟨g24, hf⟩ := gd_s hf
              refine x_iald (k := 71) X Z sh_71 g24 dX12_section_52 ?_
              refine lv_icmp_gt (tgt := 60) hx hb dX12_section_53 (by decide) (fun c25 => ?_) (fun c25 => ?_)
              · have hf := itp c25 hf
                exact b_X12_section_60 X hr hk a1 a2 a3 s17 _ hf _ _ _ Z (lv_sub hl [0, 1, 2, 3] rfl)
              · have hf := itn c25 hf
                refine lv_iconst (v := 1) hx hb dX12_section_56 (by decide) ?_
                refine lv_goto (tgt := 61) hx hb dX12_section_57 (by decide) ?_
                exact b_X12_section_61 X hr hk a1 a2 a3 (1 : Int32) s17 _ hf _ _ _ Z (lv_sub hl [0, 1, 2, 3] rfl)

set_option maxRecDepth 100000 in
set_option maxHeartbeats 4000000 in
theorem b_X12_symbol_46 {p : Program} {l : Launch} {e : Env} {s : State} {m : MethodId} {args : Array Value} {below : List Frame} {meth : Method} {c : Code} {D : va_G} {h : Nat → Nat} {cy : Nat → ClassId} (X : Cx p s m args c D h cy RX12 cX12_symbol 4) (hr : meth.sig.returnType = some .int) (hk : meth.locks = false) (x1 : Int32) (x2 : Int32) (t0 : Int32) (σ : St) (y : Int32 × St) (hf : f_X12_symbol_46 x1 x2 t0 σ = some y) : ∀ (H : Heap) (locs : List Loc) (ls : Array Slot), Zt D h cy s σ H locs → lv_has ls 4 [(0, .ref (h 68)), (1, .int x1), (2, .int x2)] → W p l e (rmz 1 24) s m args below meth c H locs 0 0 (EI below args s D h cy y) (F0 m 46 ls [.int t0]) := by
  intro H locs ls Z hl
  have hx := X.x
  have hb := X.b
  unfold f_X12_symbol_46 at hf
  refine lv_istore_n (lv' := [(3, .int t0), (0, .ref (h 68)), (1, .int x1), (2, .int x2)]) hx hb dX12_symbol_46 rfl hl (by decide) rfl (fun ls hl => ?_)
  refine lv_iload_n hx hb dX12_symbol_47 rfl (lv_at hl 0 rfl) ?_
  refine lv_if_ne (tgt := 58) hx hb dX12_symbol_48 (by decide) (fun c3 => ?_) (fun c3 => ?_)
  · have hf := itn c3 hf
    refine lv_aload_n hx hb dX12_symbol_58 rfl (lv_at hl 1 rfl) ?_
    refine lv_bipush (v := 12) hx hb dX12_symbol_59 (by decide) ?_
    refine lv_aload_n hx hb dX12_symbol_61 rfl (lv_at hl 1 rfl) ?_
    refine gf_RX12_180 X Z dX12_symbol_62 ?_
    refine lv_iadd hx hb dX12_symbol_65 ?_
    obtain ⟨r6, s5, h4, hf⟩ := bi_s hf
    refine goI Z (run_V (As := [.int (((12 : Int32) + (σ.1 68 8)))]) (rest := []) X Z (c_X12_takes l D h cy (((12 : Int32) + (σ.1 68 8))) σ (r6, s5) h4 _) lk_RX12_189 ⟨by decide, by decide⟩ rv_68 rfl hl.1 rfl (Nat.le_of_ble_eq_true rfl) ⟨Nat.le_refl _, Nat.le_refl _⟩ dX12_symbol_66) (fun H locs Z => ?_)
    refine lv_if_ne (tgt := 74) hx hb dX12_symbol_69 (by decide) (fun c7 => ?_) (fun c7 => ?_)
    · have hf := itn c7 hf
      refine lv_aload_n hx hb dX12_symbol_74 rfl (lv_at hl 1 rfl) ?_
      refine gf_RX12_42 X Z dX12_symbol_75 ?_
      refine lv_aload_n hx hb dX12_symbol_78 rfl (lv_at hl 1 rfl) ?_
      refine gf_RX12_180 X Z dX12_symbol_79 ?_
      refine lv_iload_n hx hb dX12_symbol_82 rfl (lv_at hl 2 rfl) ?_
      obtain ⟨g8, hf⟩ := gd_s hf
      refine x_iast (k := 77) X Z sh_77 g8 dX12_symbol_83 (fun s9 H locs es9 Z => ?_)
      have hf := zn_e es9 hf
      refine lv_aload_n hx hb dX12_symbol_84 rfl (lv_at hl 1 rfl) ?_
      refine gf_RX12_45 X Z dX12_symbol_85 ?_
      refine lv_aload_n hx hb dX12_symbol_88 rfl (lv_at hl 1 rfl) ?_
      refine gf_RX12_180 X Z dX12_symbol_89 ?_
      refine lv_iload_n hx hb dX12_symbol_92 rfl (lv_at hl 3 rfl) ?_
      obtain ⟨g10, hf⟩ := gd_s hf
      refine x_iast (k := 78) X Z sh_78 g10 dX12_symbol_93 (fun s11 H locs es11 Z => ?_)
      have hf := zn_e es11 hf
      refine lv_aload_n hx hb dX12_symbol_94 rfl (lv_at hl 1 rfl) ?_
      refine lv_dup hx hb dX12_symbol_95 rfl ?_
      refine gf_RX12_180 X Z dX12_symbol_96 ?_
      refine lv_iconst (v := 1) hx hb dX12_symbol_99 (by decide) ?_
      refine lv_iadd hx hb dX12_symbol_100 ?_
      refine pf_RX12_180 X Z dX12_symbol_101 (fun s12 H locs es12 Z => ?_)
      have hf := zn_e es12 hf
      refine lv_aload_n hx hb dX12_symbol_104 rfl (lv_at hl 1 rfl) ?_
      refine gf_RX12_180 X Z dX12_symbol_105 ?_
      refine lv_iconst (v := 1) hx hb dX12_symbol_108 (by decide) ?_
      refine lv_isub hx hb dX12_symbol_109 ?_
      exact retI X hr hk Z hf dX12_symbol_110
    · have hf := itp c7 hf
      refine lv_iconst (v := (-1)) hx hb dX12_symbol_72 (by decide) ?_
      exact retI X hr hk Z hf dX12_symbol_73
  · have hf := itp c3 hf
    refine lv_aload_n hx hb dX12_symbol_51 rfl (lv_at hl 1 rfl) ?_
    refine lv_iconst (v := 0) hx hb dX12_symbol_52 (by decide) ?_
    refine pf_RX12_152 X Z dX12_symbol_53 (fun s13 H locs es13 Z => ?_)
    have hf := zn_e es13 hf
    refine lv_iconst (v := (-1)) hx hb dX12_symbol_56 (by decide) ?_
    exact retI X hr hk Z hf dX12_symbol_57

set_option maxRecDepth 100000 in
set_option maxHeartbeats 4000000 in
theorem b_X12_symbol_45 {p : Program} {l : Launch} {e : Env} {s : State} {m : MethodId} {args : Array Value} {below : List Frame} {meth : Method} {c : Code} {D : va_G} {h : Nat → Nat} {cy : Nat → ClassId} (X : Cx p s m args c D h cy RX12 cX12_symbol 4) (hr : meth.sig.returnType = some .int) (hk : meth.locks = false) (x1 : Int32) (x2 : Int32) (σ : St) (y : Int32 × St) (hf : f_X12_symbol_45 x1 x2 σ = some y) : ∀ (H : Heap) (locs : List Loc) (ls : Array Slot), Zt D h cy s σ H locs → lv_has ls 4 [(0, .ref (h 68)), (1, .int x1), (2, .int x2)] → W p l e (rmz 1 24) s m args below meth c H locs 0 0 (EI below args s D h cy y) (F0 m 45 ls []) := by
  intro H locs ls Z hl
  have hx := X.x
  have hb := X.b
  unfold f_X12_symbol_45 at hf
  refine lv_iconst (v := 0) hx hb dX12_symbol_45 (by decide) ?_
  exact b_X12_symbol_46 X hr hk x1 x2 (0 : Int32) σ _ hf _ _ _ Z (lv_sub hl [0, 1, 2] rfl)

set_option maxRecDepth 100000 in
set_option maxHeartbeats 4000000 in
theorem c_X12_symbol (l : Launch) (D : va_G) (h : Nat → Nat) (cy : Nat → ClassId) (a1 : Int32) (a2 : Int32) (σ : St) (y : Int32 × St) (hf : f_X12_symbol a1 a2 σ = some y) : CI l yX12_symbol cX12_symbol 4 (some .int) 1 24 D h cy [.ref (h 68), .int a1, .int a2] σ y := by
  refine ent (Qc := fun sz => QI D h cy sz y) (by decide) (Nat.le_of_ble_eq_true rfl) ?_
  intro p e s m below meth c ls X Z hr hk hl
  have X : Cx p s m _ c D h cy RX12 cX12_symbol 4 := X
  have hx := X.x
  have hb := X.b
  have hl : lv_has ls 4 [(0, .ref (h 68)), (1, .int a1), (2, .int a2)] := hl
  unfold f_X12_symbol at hf
  refine lv_aload_n hx hb dX12_symbol_0 rfl (lv_at hl 0 rfl) ?_
  refine lv_iconst (v := 0) hx hb dX12_symbol_1 (by decide) ?_
  refine pf_RX12_149 X Z dX12_symbol_2 (fun s1 H locs es1 Z => ?_)
  have hf := zn_e es1 hf
  refine lv_aload_n hx hb dX12_symbol_5 rfl (lv_at hl 0 rfl) ?_
  refine gf_RX12_180 X Z dX12_symbol_6 ?_
  refine lv_bipush (v := 20) hx hb dX12_symbol_9 (by decide) ?_
  refine lv_icmp_ge (tgt := 45) hx hb dX12_symbol_11 (by decide) (fun c2 => ?_) (fun c2 => ?_)
  · have hf := itp c2 hf
    exact b_X12_symbol_45 X hr hk a1 a2 s1 _ hf _ _ _ Z (lv_sub hl [0, 1, 2] rfl)
  · have hf := itn c2 hf
    refine lv_iload_n hx hb dX12_symbol_14 rfl (lv_at hl 1 rfl) ?_
    refine lv_iconst (v := 1) hx hb dX12_symbol_15 (by decide) ?_
    refine lv_icmp_lt (tgt := 45) hx hb dX12_symbol_16 (by decide) (fun c14 => ?_) (fun c14 => ?_)
    · have hf := itp c14 hf
      exact b_X12_symbol_45 X hr hk a1 a2 s1 _ hf _ _ _ Z (lv_sub hl [0, 1, 2] rfl)
    · have hf := itn c14 hf
      refine lv_iload_n hx hb dX12_symbol_19 rfl (lv_at hl 1 rfl) ?_
      refine lv_aload_n hx hb dX12_symbol_20 rfl (lv_at hl 0 rfl) ?_
      refine gf_RX12_177 X Z dX12_symbol_21 ?_
      refine lv_icmp_gt (tgt := 45) hx hb dX12_symbol_24 (by decide) (fun c15 => ?_) (fun c15 => ?_)
      · have hf := itp c15 hf
        exact b_X12_symbol_45 X hr hk a1 a2 s1 _ hf _ _ _ Z (lv_sub hl [0, 1, 2] rfl)
      · have hf := itn c15 hf
        refine lv_iload_n hx hb dX12_symbol_27 rfl (lv_at hl 2 rfl) ?_
        refine lv_if_lt (tgt := 45) hx hb dX12_symbol_28 (by decide) (fun c16 => ?_) (fun c16 => ?_)
        · have hf := itp c16 hf
          exact b_X12_symbol_45 X hr hk a1 a2 s1 _ hf _ _ _ Z (lv_sub hl [0, 1, 2] rfl)
        · have hf := itn c16 hf
          refine lv_iload_n hx hb dX12_symbol_31 rfl (lv_at hl 2 rfl) ?_
          refine lv_aload_n hx hb dX12_symbol_32 rfl (lv_at hl 0 rfl) ?_
          refine gf_RX12_39 X Z dX12_symbol_33 ?_
          refine lv_iload_n hx hb dX12_symbol_36 rfl (lv_at hl 1 rfl) ?_
          obtain ⟨g17, hf⟩ := gd_s hf
          refine x_iald (k := 76) X Z sh_76 g17 dX12_symbol_37 ?_
          refine lv_icmp_gt (tgt := 45) hx hb dX12_symbol_38 (by decide) (fun c18 => ?_) (fun c18 => ?_)
          · have hf := itp c18 hf
            exact b_X12_symbol_45 X hr hk a1 a2 s1 _ hf _ _ _ Z (lv_sub hl [0, 1, 2] rfl)
          · have hf := itn c18 hf
            refine lv_iconst (v := 1) hx hb dX12_symbol_41 (by decide) ?_
            refine lv_goto (tgt := 46) hx hb dX12_symbol_42 (by decide) ?_
            exact b_X12_symbol_46 X hr hk a1 a2 (1 : Int32) s1 _ hf _ _ _ Z (lv_sub hl [0, 1, 2] rfl)

set_option maxRecDepth 100000 in
set_option maxHeartbeats 4000000 in
theorem b_X12_imports_24 {p : Program} {l : Launch} {e : Env} {s : State} {m : MethodId} {args : Array Value} {below : List Frame} {meth : Method} {c : Code} {D : va_G} {h : Nat → Nat} {cy : Nat → ClassId} (X : Cx p s m args c D h cy RX12 cX12_imports 3) (hr : meth.sig.returnType = some .int) (hk : meth.locks = false) (σ : St) (y : Int32 × St) (hf : f_X12_imports_24 σ = some y) : ∀ (H : Heap) (locs : List Loc) (ls : Array Slot), Zt D h cy s σ H locs → lv_has ls 3 [(0, .ref (h 68))] → W p l e (rmz 1 24) s m args below meth c H locs 0 0 (EI below args s D h cy y) (F0 m 24 ls []) := by
  intro H locs ls Z hl
  have hx := X.x
  have hb := X.b
  unfold f_X12_imports_24 at hf
  refine lv_aload_n hx hb dX12_imports_24 rfl (lv_at hl 0 rfl) ?_
  refine lv_iconst (v := 0) hx hb dX12_imports_25 (by decide) ?_
  refine pf_RX12_152 X Z dX12_imports_26 (fun s3 H locs es3 Z => ?_)
  have hf := zn_e es3 hf
  refine lv_iconst (v := (-1)) hx hb dX12_imports_29 (by decide) ?_
  exact retI X hr hk Z hf dX12_imports_30

set_option maxRecDepth 100000 in
set_option maxHeartbeats 4000000 in
theorem c_X12_imports (l : Launch) (D : va_G) (h : Nat → Nat) (cy : Nat → ClassId) (a1 : Int32) (a2 : Int32) (σ : St) (y : Int32 × St) (hf : f_X12_imports a1 a2 σ = some y) : CI l yX12_imports cX12_imports 3 (some .int) 1 24 D h cy [.ref (h 68), .int a1, .int a2] σ y := by
  refine ent (Qc := fun sz => QI D h cy sz y) (by decide) (Nat.le_of_ble_eq_true rfl) ?_
  intro p e s m below meth c ls X Z hr hk hl
  have X : Cx p s m _ c D h cy RX12 cX12_imports 3 := X
  have hx := X.x
  have hb := X.b
  have hl : lv_has ls 3 [(0, .ref (h 68)), (1, .int a1), (2, .int a2)] := hl
  unfold f_X12_imports at hf
  refine lv_aload_n hx hb dX12_imports_0 rfl (lv_at hl 0 rfl) ?_
  refine lv_iconst (v := 0) hx hb dX12_imports_1 (by decide) ?_
  refine pf_RX12_149 X Z dX12_imports_2 (fun s1 H locs es1 Z => ?_)
  have hf := zn_e es1 hf
  refine lv_aload_n hx hb dX12_imports_5 rfl (lv_at hl 0 rfl) ?_
  refine gf_RX12_183 X Z dX12_imports_6 ?_
  refine lv_bipush (v := 20) hx hb dX12_imports_9 (by decide) ?_
  refine lv_icmp_eq (tgt := 24) hx hb dX12_imports_11 (by decide) (fun c2 => ?_) (fun c2 => ?_)
  · have hf := itp c2 hf
    exact b_X12_imports_24 X hr hk s1 _ hf _ _ _ Z (lv_sub hl [0] rfl)
  · have hf := itn c2 hf
    refine lv_iload_n hx hb dX12_imports_14 rfl (lv_at hl 1 rfl) ?_
    refine lv_iconst (v := 1) hx hb dX12_imports_15 (by decide) ?_
    refine lv_icmp_lt (tgt := 24) hx hb dX12_imports_16 (by decide) (fun c4 => ?_) (fun c4 => ?_)
    · have hf := itp c4 hf
      exact b_X12_imports_24 X hr hk s1 _ hf _ _ _ Z (lv_sub hl [0] rfl)
    · have hf := itn c4 hf
      refine lv_iload_n hx hb dX12_imports_19 rfl (lv_at hl 1 rfl) ?_
      refine lv_iconst (v := 3) hx hb dX12_imports_20 (by decide) ?_
      refine lv_icmp_le (tgt := 31) hx hb dX12_imports_21 (by decide) (fun c5 => ?_) (fun c5 => ?_)
      · have hf := itp c5 hf
        refine lv_aload_n hx hb dX12_imports_31 rfl (lv_at hl 0 rfl) ?_
        refine lv_bipush (v := 32) hx hb dX12_imports_32 (by decide) ?_
        refine lv_aload_n hx hb dX12_imports_34 rfl (lv_at hl 0 rfl) ?_
        refine gf_RX12_183 X Z dX12_imports_35 ?_
        refine lv_iadd hx hb dX12_imports_38 ?_
        obtain ⟨r8, s7, h6, hf⟩ := bi_s hf
        refine goI Z (run_V (As := [.int (((32 : Int32) + (s1.1 68 9)))]) (rest := []) X Z (c_X12_takes l D h cy (((32 : Int32) + (s1.1 68 9))) s1 (r8, s7) h6 _) lk_RX12_189 ⟨by decide, by decide⟩ rv_68 rfl hl.1 rfl (Nat.le_of_ble_eq_true rfl) ⟨Nat.le_refl _, Nat.le_refl _⟩ dX12_imports_39) (fun H locs Z => ?_)
        refine lv_if_ne (tgt := 47) hx hb dX12_imports_42 (by decide) (fun c9 => ?_) (fun c9 => ?_)
        · have hf := itn c9 hf
          refine lv_aload_n hx hb dX12_imports_47 rfl (lv_at hl 0 rfl) ?_
          refine gf_RX12_48 X Z dX12_imports_48 ?_
          refine lv_aload_n hx hb dX12_imports_51 rfl (lv_at hl 0 rfl) ?_
          refine gf_RX12_183 X Z dX12_imports_52 ?_
          refine lv_iload_n hx hb dX12_imports_55 rfl (lv_at hl 1 rfl) ?_
          obtain ⟨g10, hf⟩ := gd_s hf
          refine x_iast (k := 79) X Z sh_79 g10 dX12_imports_56 (fun s11 H locs es11 Z => ?_)
          have hf := zn_e es11 hf
          refine lv_aload_n hx hb dX12_imports_57 rfl (lv_at hl 0 rfl) ?_
          refine gf_RX12_51 X Z dX12_imports_58 ?_
          refine lv_aload_n hx hb dX12_imports_61 rfl (lv_at hl 0 rfl) ?_
          refine gf_RX12_183 X Z dX12_imports_62 ?_
          refine lv_iload_n hx hb dX12_imports_65 rfl (lv_at hl 2 rfl) ?_
          obtain ⟨g12, hf⟩ := gd_s hf
          refine x_zast (k := 80) X Z sh_80 g12 dX12_imports_66 (fun s13 H locs es13 Z => ?_)
          have hf := zn_e es13 hf
          refine lv_aload_n hx hb dX12_imports_67 rfl (lv_at hl 0 rfl) ?_
          refine lv_dup hx hb dX12_imports_68 rfl ?_
          refine gf_RX12_183 X Z dX12_imports_69 ?_
          refine lv_iconst (v := 1) hx hb dX12_imports_72 (by decide) ?_
          refine lv_iadd hx hb dX12_imports_73 ?_
          refine pf_RX12_183 X Z dX12_imports_74 (fun s14 H locs es14 Z => ?_)
          have hf := zn_e es14 hf
          refine lv_aload_n hx hb dX12_imports_77 rfl (lv_at hl 0 rfl) ?_
          refine gf_RX12_183 X Z dX12_imports_78 ?_
          refine lv_iconst (v := 1) hx hb dX12_imports_81 (by decide) ?_
          refine lv_isub hx hb dX12_imports_82 ?_
          exact retI X hr hk Z hf dX12_imports_83
        · have hf := itp c9 hf
          refine lv_iconst (v := (-1)) hx hb dX12_imports_45 (by decide) ?_
          exact retI X hr hk Z hf dX12_imports_46
      · have hf := itn c5 hf
        exact b_X12_imports_24 X hr hk s1 _ hf _ _ _ Z (lv_sub hl [0] rfl)

set_option maxRecDepth 100000 in
set_option maxHeartbeats 4000000 in
theorem b_X12_pointerAtPlace_32 {p : Program} {l : Launch} {e : Env} {s : State} {m : MethodId} {args : Array Value} {below : List Frame} {meth : Method} {c : Code} {D : va_G} {h : Nat → Nat} {cy : Nat → ClassId} (X : Cx p s m args c D h cy RX12 cX12_pointerAtPlace 4) (hr : meth.sig.returnType = some .int) (hk : meth.locks = false) (K2 : (Int32 × Int32 × Int32 × St) → Option (Int32 × St)) (hK2 : ∀ (a : Int32 × Int32 × Int32 × St) (y : Int32 × St), K2 a = some y → ∀ (H : Heap) (locs : List Loc) (ls : Array Slot), Zt D h cy s a.2.2.2 H locs → lv_has ls 4 [(0, .ref (h 68)), (1, .int a.1), (2, .int a.2.1), (3, .int a.2.2.1)] → W p l e (rmz 0 0) s m args below meth c H locs 0 0 (EI below args s D h cy y) (F0 m 2 ls [])) (x1 : Int32) (x2 : Int32) (x3 : Int32) (σ : St) (y : Int32 × St) (hf : f_X12_pointerAtPlace_32 K2 x1 x2 x3 σ = some y) : ∀ (H : Heap) (locs : List Loc) (ls : Array Slot), Zt D h cy s σ H locs → lv_has ls 4 [(0, .ref (h 68)), (1, .int x1), (2, .int x2), (3, .int x3)] → W p l e (rmz 0 0) s m args below meth c H locs 0 0 (EI below args s D h cy y) (F0 m 32 ls []) := by
  intro H locs ls Z hl
  have hx := X.x
  have hb := X.b
  unfold f_X12_pointerAtPlace_32 at hf
  obtain ⟨v5, ev5⟩ : ∃ z : Int32, z = x3 + 1 := ⟨_, rfl⟩
  have hf := zn_e ev5 hf
  refine lv_iinc (v := v5) (lv' := [(3, .int v5), (0, .ref (h 68)), (1, .int x1), (2, .int x2)]) hx hb dX12_pointerAtPlace_32 hl (k := 3) rfl (by rw [ev5]; rfl) (by decide) rfl (fun ls hl => ?_)
  refine lv_goto (tgt := 2) hx hb dX12_pointerAtPlace_35 (by decide) ?_
  exact hK2 (x1, x2, v5, σ) _ hf _ _ _ Z (lv_sub hl [1, 2, 3, 0] rfl)

set_option maxRecDepth 100000 in
set_option maxHeartbeats 4000000 in
theorem b_X12_pointerAtPlace_2b {p : Program} {l : Launch} {e : Env} {s : State} {m : MethodId} {args : Array Value} {below : List Frame} {meth : Method} {c : Code} {D : va_G} {h : Nat → Nat} {cy : Nat → ClassId} (X : Cx p s m args c D h cy RX12 cX12_pointerAtPlace 4) (hr : meth.sig.returnType = some .int) (hk : meth.locks = false) (K2 : (Int32 × Int32 × Int32 × St) → Option (Int32 × St)) (hK2 : ∀ (a : Int32 × Int32 × Int32 × St) (y : Int32 × St), K2 a = some y → ∀ (H : Heap) (locs : List Loc) (ls : Array Slot), Zt D h cy s a.2.2.2 H locs → lv_has ls 4 [(0, .ref (h 68)), (1, .int a.1), (2, .int a.2.1), (3, .int a.2.2.1)] → W p l e (rmz 0 0) s m args below meth c H locs 0 0 (EI below args s D h cy y) (F0 m 2 ls [])) (x1 : Int32) (x2 : Int32) (x3 : Int32) (σ : St) (y : Int32 × St) (hf : f_X12_pointerAtPlace_2b K2 x1 x2 x3 σ = some y) : ∀ (H : Heap) (locs : List Loc) (ls : Array Slot), Zt D h cy s σ H locs → lv_has ls 4 [(0, .ref (h 68)), (1, .int x1), (2, .int x2), (3, .int x3)] → W p l e (rmz 0 0) s m args below meth c H locs 0 0 (EI below args s D h cy y) (F0 m 2 ls []) := by
  intro H locs ls Z hl
  have hx := X.x
  have hb := X.b
  unfold f_X12_pointerAtPlace_2b at hf
  refine lv_iload_n hx hb dX12_pointerAtPlace_2 rfl (lv_at hl 3 rfl) ?_
  refine lv_aload_n hx hb dX12_pointerAtPlace_3 rfl (lv_at hl 0 rfl) ?_
  refine gf_RX12_186 X Z dX12_pointerAtPlace_4 ?_
  refine lv_icmp_ge (tgt := 38) hx hb dX12_pointerAtPlace_7 (by decide) (fun c2 => ?_) (fun c2 => ?_)
  · have hf := itp c2 hf
    refine lv_iconst (v := (-1)) hx hb dX12_pointerAtPlace_38 (by decide) ?_
    exact retI X hr hk Z hf dX12_pointerAtPlace_39
  · have hf := itn c2 hf
    refine lv_aload_n hx hb dX12_pointerAtPlace_10 rfl (lv_at hl 0 rfl) ?_
    refine gf_RX12_55 X Z dX12_pointerAtPlace_11 ?_
    refine lv_iload_n hx hb dX12_pointerAtPlace_14 rfl (lv_at hl 3 rfl) ?_
    obtain ⟨g3, hf⟩ := gd_s hf
    refine x_iald (k := 81) X Z sh_81 g3 dX12_pointerAtPlace_15 ?_
    refine lv_iload_n hx hb dX12_pointerAtPlace_16 rfl (lv_at hl 1 rfl) ?_
    refine lv_icmp_ne (tgt := 32) hx hb dX12_pointerAtPlace_17 (by decide) (fun c4 => ?_) (fun c4 => ?_)
    · have hf := itn c4 hf
      exact b_X12_pointerAtPlace_32 X hr hk K2 hK2 x1 x2 x3 σ _ hf _ _ _ Z (lv_sub hl [0, 1, 2, 3] rfl)
    · have hf := itp c4 hf
      refine lv_aload_n hx hb dX12_pointerAtPlace_20 rfl (lv_at hl 0 rfl) ?_
      refine gf_RX12_58 X Z dX12_pointerAtPlace_21 ?_
      refine lv_iload_n hx hb dX12_pointerAtPlace_24 rfl (lv_at hl 3 rfl) ?_
      obtain ⟨g6, hf⟩ := gd_s hf
      refine x_iald (k := 82) X Z sh_82 g6 dX12_pointerAtPlace_25 ?_
      refine lv_iload_n hx hb dX12_pointerAtPlace_26 rfl (lv_at hl 2 rfl) ?_
      refine lv_icmp_ne (tgt := 32) hx hb dX12_pointerAtPlace_27 (by decide) (fun c7 => ?_) (fun c7 => ?_)
      · have hf := itn c7 hf
        exact b_X12_pointerAtPlace_32 X hr hk K2 hK2 x1 x2 x3 σ _ hf _ _ _ Z (lv_sub hl [0, 1, 2, 3] rfl)
      · have hf := itp c7 hf
        refine lv_iload_n hx hb dX12_pointerAtPlace_30 rfl (lv_at hl 3 rfl) ?_
        exact retI X hr hk Z hf dX12_pointerAtPlace_31

set_option maxRecDepth 100000 in
set_option maxHeartbeats 4000000 in
theorem b_X12_pointerAtPlace_2 {p : Program} {l : Launch} {e : Env} {s : State} {m : MethodId} {args : Array Value} {below : List Frame} {meth : Method} {c : Code} {D : va_G} {h : Nat → Nat} {cy : Nat → ClassId} (X : Cx p s m args c D h cy RX12 cX12_pointerAtPlace 4) (hr : meth.sig.returnType = some .int) (hk : meth.locks = false) (x1 : Int32) (x2 : Int32) (x3 : Int32) (σ : St) (y : Int32 × St) (hf : f_X12_pointerAtPlace_2 x1 x2 x3 σ = some y) : ∀ (H : Heap) (locs : List Loc) (ls : Array Slot), Zt D h cy s σ H locs → lv_has ls 4 [(0, .ref (h 68)), (1, .int x1), (2, .int x2), (3, .int x3)] → W p l e (rmz 0 0) s m args below meth c H locs 0 0 (EI below args s D h cy y) (F0 m 2 ls []) := by
  exact it_W (F := fun K a => f_X12_pointerAtPlace_2b K a.1 a.2.1 a.2.2.1 a.2.2.2) (P := fun a y => ∀ (H : Heap) (locs : List Loc) (ls : Array Slot), Zt D h cy s a.2.2.2 H locs → lv_has ls 4 [(0, .ref (h 68)), (1, .int a.1), (2, .int a.2.1), (3, .int a.2.2.1)] → W p l e (rmz 0 0) s m args below meth c H locs 0 0 (EI below args s D h cy y) (F0 m 2 ls [])) (fun K hK a y hf => b_X12_pointerAtPlace_2b X hr hk K hK (a.1) (a.2.1) (a.2.2.1) (a.2.2.2) y hf) FU _ y hf

set_option maxRecDepth 100000 in
set_option maxHeartbeats 4000000 in
theorem c_X12_pointerAtPlace (l : Launch) (D : va_G) (h : Nat → Nat) (cy : Nat → ClassId) (a1 : Int32) (a2 : Int32) (σ : St) (y : Int32 × St) (hf : f_X12_pointerAtPlace a1 a2 σ = some y) : CI l yX12_pointerAtPlace cX12_pointerAtPlace 4 (some .int) 0 0 D h cy [.ref (h 68), .int a1, .int a2] σ y := by
  refine ent (Qc := fun sz => QI D h cy sz y) (by decide) (Nat.le_of_ble_eq_true rfl) ?_
  intro p e s m below meth c ls X Z hr hk hl
  have X : Cx p s m _ c D h cy RX12 cX12_pointerAtPlace 4 := X
  have hx := X.x
  have hb := X.b
  have hl : lv_has ls 4 [(0, .ref (h 68)), (1, .int a1), (2, .int a2)] := hl
  unfold f_X12_pointerAtPlace at hf
  refine lv_iconst (v := 0) hx hb dX12_pointerAtPlace_0 (by decide) ?_
  refine lv_topi (fun v1 ev1 => ?_)
  have hf := zn_e ev1 hf
  refine lv_istore_n (lv' := [(3, .int v1), (0, .ref (h 68)), (1, .int a1), (2, .int a2)]) hx hb dX12_pointerAtPlace_1 rfl hl (by decide) rfl (fun ls hl => ?_)
  exact b_X12_pointerAtPlace_2 X hr hk a1 a2 v1 σ _ hf _ _ _ Z (lv_sub hl [1, 2, 3, 0] rfl)

set_option maxRecDepth 100000 in
set_option maxHeartbeats 4000000 in
theorem c_X12_move (l : Launch) (D : va_G) (h : Nat → Nat) (cy : Nat → ClassId) (a1 : Int32) (a2 : Int32) (σ : St) (y : St) (hf : f_X12_move a1 a2 σ = some y) : CV l yX12_move cX12_move 3 none 0 0 D h cy [.ref (h 68), .int a1, .int a2] σ y := by
  refine ent (Qc := fun sz => QV D h cy sz y) (by decide) (Nat.le_of_ble_eq_true rfl) ?_
  intro p e s m below meth c ls X Z hr hk hl
  have X : Cx p s m _ c D h cy RX12 cX12_move 3 := X
  have hx := X.x
  have hb := X.b
  have hl : lv_has ls 3 [(0, .ref (h 68)), (1, .int a1), (2, .int a2)] := hl
  unfold f_X12_move at hf
  refine lv_aload_n hx hb dX12_move_0 rfl (lv_at hl 0 rfl) ?_
  refine gf_RX12_55 X Z dX12_move_1 ?_
  refine lv_iload_n hx hb dX12_move_4 rfl (lv_at hl 2 rfl) ?_
  refine lv_aload_n hx hb dX12_move_5 rfl (lv_at hl 0 rfl) ?_
  refine gf_RX12_55 X Z dX12_move_6 ?_
  refine lv_iload_n hx hb dX12_move_9 rfl (lv_at hl 1 rfl) ?_
  obtain ⟨g1, hf⟩ := gd_s hf
  refine x_iald (k := 81) X Z sh_81 g1 dX12_move_10 ?_
  obtain ⟨g2, hf⟩ := gd_s hf
  refine x_iast (k := 81) X Z sh_81 g2 dX12_move_11 (fun s3 H locs es3 Z => ?_)
  have hf := zn_e es3 hf
  refine lv_aload_n hx hb dX12_move_12 rfl (lv_at hl 0 rfl) ?_
  refine gf_RX12_58 X Z dX12_move_13 ?_
  refine lv_iload_n hx hb dX12_move_16 rfl (lv_at hl 2 rfl) ?_
  refine lv_aload_n hx hb dX12_move_17 rfl (lv_at hl 0 rfl) ?_
  refine gf_RX12_58 X Z dX12_move_18 ?_
  refine lv_iload_n hx hb dX12_move_21 rfl (lv_at hl 1 rfl) ?_
  obtain ⟨g4, hf⟩ := gd_s hf
  refine x_iald (k := 82) X Z sh_82 g4 dX12_move_22 ?_
  obtain ⟨g5, hf⟩ := gd_s hf
  refine x_iast (k := 82) X Z sh_82 g5 dX12_move_23 (fun s6 H locs es6 Z => ?_)
  have hf := zn_e es6 hf
  refine lv_aload_n hx hb dX12_move_24 rfl (lv_at hl 0 rfl) ?_
  refine gf_RX12_64 X Z dX12_move_25 ?_
  refine lv_iload_n hx hb dX12_move_28 rfl (lv_at hl 2 rfl) ?_
  refine lv_aload_n hx hb dX12_move_29 rfl (lv_at hl 0 rfl) ?_
  refine gf_RX12_64 X Z dX12_move_30 ?_
  refine lv_iload_n hx hb dX12_move_33 rfl (lv_at hl 1 rfl) ?_
  obtain ⟨g7, hf⟩ := gd_s hf
  refine x_lald (k := 84) X Z sh_84 g7 dX12_move_34 ?_
  obtain ⟨g8, hf⟩ := gd_s hf
  refine x_last (k := 84) X Z sh_84 g8 dX12_move_35 (fun s9 H locs es9 Z => ?_)
  have hf := zn_e es9 hf
  refine lv_aload_n hx hb dX12_move_36 rfl (lv_at hl 0 rfl) ?_
  refine gf_RX12_61 X Z dX12_move_37 ?_
  refine lv_iload_n hx hb dX12_move_40 rfl (lv_at hl 2 rfl) ?_
  refine lv_aload_n hx hb dX12_move_41 rfl (lv_at hl 0 rfl) ?_
  refine gf_RX12_61 X Z dX12_move_42 ?_
  refine lv_iload_n hx hb dX12_move_45 rfl (lv_at hl 1 rfl) ?_
  obtain ⟨g10, hf⟩ := gd_s hf
  refine x_iald (k := 83) X Z sh_83 g10 dX12_move_46 ?_
  obtain ⟨g11, hf⟩ := gd_s hf
  refine x_iast (k := 83) X Z sh_83 g11 dX12_move_47 (fun s12 H locs es12 Z => ?_)
  have hf := zn_e es12 hf
  refine lv_aload_n hx hb dX12_move_48 rfl (lv_at hl 0 rfl) ?_
  refine gf_RX12_68 X Z dX12_move_49 ?_
  refine lv_iload_n hx hb dX12_move_52 rfl (lv_at hl 2 rfl) ?_
  refine lv_aload_n hx hb dX12_move_53 rfl (lv_at hl 0 rfl) ?_
  refine gf_RX12_68 X Z dX12_move_54 ?_
  refine lv_iload_n hx hb dX12_move_57 rfl (lv_at hl 1 rfl) ?_
  obtain ⟨g13, hf⟩ := gd_s hf
  refine x_zald (k := 85) X Z sh_85 g13 dX12_move_58 ?_
  obtain ⟨g14, hf⟩ := gd_s hf
  refine x_zast (k := 85) X Z sh_85 g14 dX12_move_59 (fun s15 H locs es15 Z => ?_)
  have hf := zn_e es15 hf
  exact retV X hr hk Z hf dX12_move_60
