set_option maxRecDepth 100000 in
set_option maxHeartbeats 4000000 in
theorem c_X1_addressOf (l : Launch) (D : va_G) (h : Nat → Nat) (cy : Nat → ClassId) {k2 n2 : Nat} (hR2 : RowS k2 n2) (a1 : Int32) (a3 : Int32) (σ : St) (y : Int32 × St) (hf : f_X1_addressOf k2 n2 a1 a3 σ = some y) : CI l yX1_addressOf cX1_addressOf 5 (some .int) 3 70 D h cy [.ref (h 33), .int a1, .ref (h k2), .int a3] σ y := by
  refine ent (Qc := fun sz => QI D h cy sz y) (by decide) (Nat.le_of_ble_eq_true rfl) ?_
  intro p e s m below meth c ls X Z hr hk hl
  have X : Cx p s m _ c D h cy RX1 cX1_addressOf 5 := X
  have hx := X.x
  have hb := X.b
  have hl : lv_has ls 5 [(0, .ref (h 33)), (1, .int a1), (2, .ref (h k2)), (3, .int a3)] := hl
  unfold f_X1_addressOf at hf
  refine lv_aload_n hx hb dX1_addressOf_0 rfl (lv_at hl 0 rfl) ?_
  refine lv_iload_n hx hb dX1_addressOf_1 rfl (lv_at hl 1 rfl) ?_
  refine lv_aload_n hx hb dX1_addressOf_2 rfl (lv_at hl 2 rfl) ?_
  refine lv_iload_n hx hb dX1_addressOf_3 rfl (lv_at hl 3 rfl) ?_
  obtain ⟨r3, s2, h1, hf⟩ := bi_s hf
  refine goI Z (run_V (As := [.int a1, .ref (h k2), .int a3]) (rest := []) X Z (c_X1_indexOf l D h cy hR2 a1 a3 σ (r3, s2) h1 _) lk_RX1_37 ⟨by decide, by decide⟩ rv_33 rfl hl.1 rfl (Nat.le_of_ble_eq_true rfl) ⟨Nat.le_refl _, Nat.le_refl _⟩ dX1_addressOf_4) (fun H locs Z => ?_)
  refine lv_istore (lv' := [(4, .int r3), (0, .ref (h 33)), (1, .int a1), (2, .ref (h k2)), (3, .int a3)]) hx hb dX1_addressOf_7 hl (by decide) rfl (fun ls hl => ?_)
  refine lv_iload hx hb dX1_addressOf_9 (lv_at hl 0 rfl) ?_
  refine lv_iconst (v := (-1)) hx hb dX1_addressOf_11 (by decide) ?_
  refine lv_icmp_ne (tgt := 19) hx hb dX1_addressOf_12 (by decide) (fun c4 => ?_) (fun c4 => ?_)
  · have hf := itn c4 hf
    refine lv_aload_n hx hb dX1_addressOf_19 rfl (lv_at hl 1 rfl) ?_
    refine gf_RX1_24 X Z dX1_addressOf_20 ?_
    refine lv_iload hx hb dX1_addressOf_23 (lv_at hl 0 rfl) ?_
    obtain ⟨g5, hf⟩ := gd_s hf
    refine x_iald (k := 38) X Z sh_38 g5 dX1_addressOf_25 ?_
    exact retI X hr hk Z hf dX1_addressOf_26
  · have hf := itp c4 hf
    refine lv_iconst (v := (-1)) hx hb dX1_addressOf_15 (by decide) ?_
    refine lv_goto (tgt := 26) hx hb dX1_addressOf_16 (by decide) ?_
    exact retI X hr hk Z hf dX1_addressOf_26

set_option maxRecDepth 100000 in
set_option maxHeartbeats 4000000 in
theorem c_X2_clear (l : Launch) (D : va_G) (h : Nat → Nat) (cy : Nat → ClassId) (σ : St) (y : St) (hf : f_X2_clear σ = some y) : CV l yX2_clear cX2_clear 1 none 0 0 D h cy [.ref (h 39)] σ y := by
  refine ent (Qc := fun sz => QV D h cy sz y) (by decide) (Nat.le_of_ble_eq_true rfl) ?_
  intro p e s m below meth c ls X Z hr hk hl
  have X : Cx p s m _ c D h cy RX2 cX2_clear 1 := X
  have hx := X.x
  have hb := X.b
  have hl : lv_has ls 1 [(0, .ref (h 39))] := hl
  unfold f_X2_clear at hf
  refine lv_aload_n hx hb dX2_clear_0 rfl (lv_at hl 0 rfl) ?_
  refine lv_iconst (v := 0) hx hb dX2_clear_1 (by decide) ?_
  refine pf_RX2_14 X Z dX2_clear_2 (fun s1 H locs es1 Z => ?_)
  have hf := zn_e es1 hf
  refine lv_aload_n hx hb dX2_clear_5 rfl (lv_at hl 0 rfl) ?_
  refine lv_iconst (v := (-1)) hx hb dX2_clear_6 (by decide) ?_
  refine pf_RX2_18 X Z dX2_clear_7 (fun s2 H locs es2 Z => ?_)
  have hf := zn_e es2 hf
  exact retV X hr hk Z hf dX2_clear_10

set_option maxRecDepth 100000 in
set_option maxHeartbeats 4000000 in
theorem c_X9_clear (l : Launch) (D : va_G) (h : Nat → Nat) (cy : Nat → ClassId) {k0 : Nat} (hR0 : VisS k0) (σ : St) (y : St) (hf : f_X9_clear k0 σ = some y) : CV l yX9_clear cX9_clear 1 none 0 0 D h cy [.ref (h k0)] σ y := by
  refine ent (Qc := fun sz => QV D h cy sz y) (by decide) (Nat.le_of_ble_eq_true rfl) ?_
  intro p e s m below meth c ls X Z hr hk hl
  have X : Cx p s m _ c D h cy RX9 cX9_clear 1 := X
  have hx := X.x
  have hb := X.b
  have hl : lv_has ls 1 [(0, .ref (h k0))] := hl
  unfold f_X9_clear at hf
  refine lv_aload_n hx hb dX9_clear_0 rfl (lv_at hl 0 rfl) ?_
  refine lv_iconst (v := 0) hx hb dX9_clear_1 (by decide) ?_
  refine pf_RX9_19 X Z hR0 dX9_clear_2 (fun s1 H locs es1 Z => ?_)
  have hf := zn_e es1 hf
  exact retV X hr hk Z hf dX9_clear_5

set_option maxRecDepth 100000 in
set_option maxHeartbeats 4000000 in
theorem c_X3_needs (l : Launch) (D : va_G) (h : Nat → Nat) (cy : Nat → ClassId) (a1 : Int32) (a2 : Int32) (σ : St) (y : Int32 × St) (hf : f_X3_needs a1 a2 σ = some y) : CI l yX3_needs cX3_needs 3 (some .boolean) 1 23 D h cy [.ref (h 46), .int a1, .int a2] σ y := by
  refine ent (Qc := fun sz => QI D h cy sz y) (by decide) (Nat.le_of_ble_eq_true rfl) ?_
  intro p e s m below meth c ls X Z hr hk hl
  have X : Cx p s m _ c D h cy RX3 cX3_needs 3 := X
  have hx := X.x
  have hb := X.b
  have hl : lv_has ls 3 [(0, .ref (h 46)), (1, .int a1), (2, .int a2)] := hl
  unfold f_X3_needs at hf
  refine lv_aload_n hx hb dX3_needs_0 rfl (lv_at hl 0 rfl) ?_
  refine gf_RX3_15 X Z dX3_needs_1 ?_
  refine lv_iload_n hx hb dX3_needs_4 rfl (lv_at hl 1 rfl) ?_
  refine lv_bipush (v := 9) hx hb dX3_needs_5 (by decide) ?_
  refine lv_iload_n hx hb dX3_needs_7 rfl (lv_at hl 2 rfl) ?_
  obtain ⟨r3, s2, h1, hf⟩ := bi_s hf
  refine goI Z (run_V (As := [.int a1, .int (9 : Int32), .int a2]) (rest := []) X Z (c_X2_unless l D h cy a1 (9 : Int32) a2 σ (r3, s2) h1 _) lk_RX3_166 ⟨by decide, by decide⟩ rv_39 rfl hl.1 rfl (Nat.le_of_ble_eq_true rfl) ⟨Nat.le_refl _, Nat.le_refl _⟩ dX3_needs_8) (fun H locs Z => ?_)
  obtain ⟨g4, hf⟩ := gd_s hf
  exact retZ X hr hk Z g4 hf dX3_needs_11

set_option maxRecDepth 100000 in
set_option maxHeartbeats 4000000 in
theorem c_X3_u4 (l : Launch) (D : va_G) (h : Nat → Nat) (cy : Nat → ClassId) (a1 : Int32) (σ : St) (y : Int64 × St) (hf : f_X3_u4 a1 σ = some y) : CL l yX3_u4 cX3_u4 2 (some .long) 1 26 D h cy [.ref (h 46), .int a1] σ y := by
  refine ent (Qc := fun sz => QL D h cy sz y) (by decide) (Nat.le_of_ble_eq_true rfl) ?_
  intro p e s m below meth c ls X Z hr hk hl
  have X : Cx p s m _ c D h cy RX3 cX3_u4 2 := X
  have hx := X.x
  have hb := X.b
  have hl : lv_has ls 2 [(0, .ref (h 46)), (1, .int a1)] := hl
  unfold f_X3_u4 at hf
  refine lv_aload_n hx hb dX3_u4_0 rfl (lv_at hl 0 rfl) ?_
  refine gf_RX3_9 X Z dX3_u4_1 ?_
  refine lv_iload_n hx hb dX3_u4_4 rfl (lv_at hl 1 rfl) ?_
  refine lv_iconst (v := 4) hx hb dX3_u4_5 (by decide) ?_
  obtain ⟨r3, s2, h1, hf⟩ := bi_s hf
  refine goL Z (run_V (As := [.int a1, .int (4 : Int32)]) (rest := []) X Z (c_X6_number l D h cy row_3 a1 (4 : Int32) σ (r3, s2) h1 _) lk_RX3_147 ⟨by decide, by decide⟩ (rv_RowS row_3) rfl hl.1 rfl (Nat.le_of_ble_eq_true rfl) ⟨Nat.le_refl _, Nat.le_refl _⟩ dX3_u4_6) (fun H locs Z => ?_)
  exact retL X hr hk Z hf dX3_u4_9

set_option maxRecDepth 100000 in
set_option maxHeartbeats 4000000 in
theorem b_X3_headHolds_95 {p : Program} {l : Launch} {e : Env} {s : State} {m : MethodId} {args : Array Value} {below : List Frame} {meth : Method} {c : Code} {D : va_G} {h : Nat → Nat} {cy : Nat → ClassId} (X : Cx p s m args c D h cy RX3 cX3_headHolds 1) (hr : meth.sig.returnType = some .boolean) (hk : meth.locks = false) (t0 : Int32) (σ : St) (y : Int32 × St) (hf : f_X3_headHolds_95 t0 σ = some y) : ∀ (H : Heap) (locs : List Loc) (ls : Array Slot), Zt D h cy s σ H locs → lv_has ls 1 [(0, .ref (h 46))] → W p l e (rmz 2 47) s m args below meth c H locs 0 0 (EI below args s D h cy y) (F0 m 95 ls [.int t0, .ref (h 46)]) := by
  intro H locs ls Z hl
  have hx := X.x
  have hb := X.b
  unfold f_X3_headHolds_95 at hf
  refine lv_aload_n hx hb dX3_headHolds_95 rfl (lv_at hl 0 rfl) ?_
  refine gf_RX3_66 X Z dX3_headHolds_96 ?_
  refine lv_bipush (v := 24) hx hb dX3_headHolds_99 (by decide) ?_
  refine lv_iadd hx hb dX3_headHolds_101 ?_
  obtain ⟨r20, s19, h18, hf⟩ := bi_s hf
  refine goI Z (run_V (As := [.int t0, .int (((σ.1 46 10) + (24 : Int32)))]) (rest := []) X Z (c_X3_needs l D h cy t0 (((σ.1 46 10) + (24 : Int32))) σ (r20, s19) h18 _) lk_RX3_95 ⟨by decide, by decide⟩ rv_46 rfl hl.1 rfl (Nat.le_of_ble_eq_true rfl) ⟨Nat.le_refl _, Nat.le_refl _⟩ dX3_headHolds_102) (fun H locs Z => ?_)
  refine lv_if_eq (tgt := 112) hx hb dX3_headHolds_105 (by decide) (fun c21 => ?_) (fun c21 => ?_)
  · have hf := itp c21 hf
    refine lv_iconst (v := 0) hx hb dX3_headHolds_112 (by decide) ?_
    exact retZ X hr hk Z (by decide) hf dX3_headHolds_113
  · have hf := itn c21 hf
    refine lv_iconst (v := 1) hx hb dX3_headHolds_108 (by decide) ?_
    refine lv_goto (tgt := 113) hx hb dX3_headHolds_109 (by decide) ?_
    exact retZ X hr hk Z (by decide) hf dX3_headHolds_113

set_option maxRecDepth 100000 in
set_option maxHeartbeats 4000000 in
theorem b_X3_headHolds_60 {p : Program} {l : Launch} {e : Env} {s : State} {m : MethodId} {args : Array Value} {below : List Frame} {meth : Method} {c : Code} {D : va_G} {h : Nat → Nat} {cy : Nat → ClassId} (X : Cx p s m args c D h cy RX3 cX3_headHolds 1) (hr : meth.sig.returnType = some .boolean) (hk : meth.locks = false) (t0 : Int32) (σ : St) (y : Int32 × St) (hf : f_X3_headHolds_60 t0 σ = some y) : ∀ (H : Heap) (locs : List Loc) (ls : Array Slot), Zt D h cy s σ H locs → lv_has ls 1 [(0, .ref (h 46))] → W p l e (rmz 2 47) s m args below meth c H locs 0 0 (EI below args s D h cy y) (F0 m 60 ls [.int t0, .ref (h 46)]) := by
  intro H locs ls Z hl
  have hx := X.x
  have hb := X.b
  unfold f_X3_headHolds_60 at hf
  refine lv_aload_n hx hb dX3_headHolds_60 rfl (lv_at hl 0 rfl) ?_
  refine gf_RX3_66 X Z dX3_headHolds_61 ?_
  refine lv_bipush (v := 20) hx hb dX3_headHolds_64 (by decide) ?_
  refine lv_iadd hx hb dX3_headHolds_66 ?_
  obtain ⟨r12, s11, h10, hf⟩ := bi_s hf
  refine goI Z (run_V (As := [.int t0, .int (((σ.1 46 10) + (20 : Int32)))]) (rest := []) X Z (c_X3_needs l D h cy t0 (((σ.1 46 10) + (20 : Int32))) σ (r12, s11) h10 _) lk_RX3_95 ⟨by decide, by decide⟩ rv_46 rfl hl.1 rfl (Nat.le_of_ble_eq_true rfl) ⟨Nat.le_refl _, Nat.le_refl _⟩ dX3_headHolds_67) (fun H locs Z => ?_)
  refine lv_if_eq (tgt := 112) hx hb dX3_headHolds_70 (by decide) (fun c13 => ?_) (fun c13 => ?_)
  · have hf := itp c13 hf
    refine lv_iconst (v := 0) hx hb dX3_headHolds_112 (by decide) ?_
    exact retZ X hr hk Z (by decide) hf dX3_headHolds_113
  · have hf := itn c13 hf
    refine lv_aload_n hx hb dX3_headHolds_73 rfl (lv_at hl 0 rfl) ?_
    refine lv_aload_n hx hb dX3_headHolds_74 rfl (lv_at hl 0 rfl) ?_
    refine lv_aload_n hx hb dX3_headHolds_75 rfl (lv_at hl 0 rfl) ?_
    refine gf_RX3_66 X Z dX3_headHolds_76 ?_
    refine lv_bipush (v := 24) hx hb dX3_headHolds_79 (by decide) ?_
    refine lv_iadd hx hb dX3_headHolds_81 ?_
    obtain ⟨r16, s15, h14, hf⟩ := bi_s hf
    refine goL Z (run_V (As := [.int (((s11.1 46 10) + (24 : Int32)))]) (rest := [.ref (h 46)]) X Z (c_X3_u4 l D h cy (((s11.1 46 10) + (24 : Int32))) s11 (r16, s15) h14 _) lk_RX3_91 ⟨by decide, by decide⟩ rv_46 rfl hl.1 rfl (Nat.le_of_ble_eq_true rfl) ⟨Nat.le_refl _, Nat.le_refl _⟩ dX3_headHolds_82) (fun H locs Z => ?_)
    refine lv_lconst (v := 0) hx hb dX3_headHolds_85 (by decide) ?_
    refine x_lif_ne (tgt := 94) X dX3_headHolds_86 dX3_headHolds_87 (by decide) (fun c17 => ?_) (fun c17 => ?_)
    · have hf := itn c17 hf
      refine lv_iconst (v := 0) hx hb dX3_headHolds_94 (by decide) ?_
      exact b_X3_headHolds_95 X hr hk (0 : Int32) s15 _ hf _ _ _ Z (lv_sub hl [0] rfl)
    · have hf := itp c17 hf
      refine lv_iconst (v := 1) hx hb dX3_headHolds_90 (by decide) ?_
      refine lv_goto (tgt := 95) hx hb dX3_headHolds_91 (by decide) ?_
      exact b_X3_headHolds_95 X hr hk (1 : Int32) s15 _ hf _ _ _ Z (lv_sub hl [0] rfl)

set_option maxRecDepth 100000 in
set_option maxHeartbeats 4000000 in
theorem b_X3_headHolds_28 {p : Program} {l : Launch} {e : Env} {s : State} {m : MethodId} {args : Array Value} {below : List Frame} {meth : Method} {c : Code} {D : va_G} {h : Nat → Nat} {cy : Nat → ClassId} (X : Cx p s m args c D h cy RX3 cX3_headHolds 1) (hr : meth.sig.returnType = some .boolean) (hk : meth.locks = false) (t0 : Int32) (σ : St) (y : Int32 × St) (hf : f_X3_headHolds_28 t0 σ = some y) : ∀ (H : Heap) (locs : List Loc) (ls : Array Slot), Zt D h cy s σ H locs → lv_has ls 1 [(0, .ref (h 46))] → W p l e (rmz 2 47) s m args below meth c H locs 0 0 (EI below args s D h cy y) (F0 m 28 ls [.int t0, .ref (h 46)]) := by
  intro H locs ls Z hl
  have hx := X.x
  have hb := X.b
  unfold f_X3_headHolds_28 at hf
  refine lv_aload_n hx hb dX3_headHolds_28 rfl (lv_at hl 0 rfl) ?_
  refine gf_RX3_66 X Z dX3_headHolds_29 ?_
  obtain ⟨r4, s3, h2, hf⟩ := bi_s hf
  refine goI Z (run_V (As := [.int t0, .int (σ.1 46 10)]) (rest := []) X Z (c_X3_needs l D h cy t0 (σ.1 46 10) σ (r4, s3) h2 _) lk_RX3_95 ⟨by decide, by decide⟩ rv_46 rfl hl.1 rfl (Nat.le_of_ble_eq_true rfl) ⟨Nat.le_refl _, Nat.le_refl _⟩ dX3_headHolds_32) (fun H locs Z => ?_)
  refine lv_if_eq (tgt := 112) hx hb dX3_headHolds_35 (by decide) (fun c5 => ?_) (fun c5 => ?_)
  · have hf := itp c5 hf
    refine lv_iconst (v := 0) hx hb dX3_headHolds_112 (by decide) ?_
    exact retZ X hr hk Z (by decide) hf dX3_headHolds_113
  · have hf := itn c5 hf
    refine lv_aload_n hx hb dX3_headHolds_38 rfl (lv_at hl 0 rfl) ?_
    refine lv_aload_n hx hb dX3_headHolds_39 rfl (lv_at hl 0 rfl) ?_
    refine lv_aload_n hx hb dX3_headHolds_40 rfl (lv_at hl 0 rfl) ?_
    refine gf_RX3_66 X Z dX3_headHolds_41 ?_
    refine lv_bipush (v := 20) hx hb dX3_headHolds_44 (by decide) ?_
    refine lv_iadd hx hb dX3_headHolds_46 ?_
    obtain ⟨r8, s7, h6, hf⟩ := bi_s hf
    refine goL Z (run_V (As := [.int (((s3.1 46 10) + (20 : Int32)))]) (rest := [.ref (h 46)]) X Z (c_X3_u4 l D h cy (((s3.1 46 10) + (20 : Int32))) s3 (r8, s7) h6 _) lk_RX3_91 ⟨by decide, by decide⟩ rv_46 rfl hl.1 rfl (Nat.le_of_ble_eq_true rfl) ⟨Nat.le_refl _, Nat.le_refl _⟩ dX3_headHolds_47) (fun H locs Z => ?_)
    refine lv_lconst (v := 1) hx hb dX3_headHolds_50 (by decide) ?_
    refine x_lif_ne (tgt := 59) X dX3_headHolds_51 dX3_headHolds_52 (by decide) (fun c9 => ?_) (fun c9 => ?_)
    · have hf := itn c9 hf
      refine lv_iconst (v := 0) hx hb dX3_headHolds_59 (by decide) ?_
      exact b_X3_headHolds_60 X hr hk (0 : Int32) s7 _ hf _ _ _ Z (lv_sub hl [0] rfl)
    · have hf := itp c9 hf
      refine lv_iconst (v := 1) hx hb dX3_headHolds_55 (by decide) ?_
      refine lv_goto (tgt := 60) hx hb dX3_headHolds_56 (by decide) ?_
      exact b_X3_headHolds_60 X hr hk (1 : Int32) s7 _ hf _ _ _ Z (lv_sub hl [0] rfl)

set_option maxRecDepth 100000 in
set_option maxHeartbeats 4000000 in
theorem b_X3_headHolds_27 {p : Program} {l : Launch} {e : Env} {s : State} {m : MethodId} {args : Array Value} {below : List Frame} {meth : Method} {c : Code} {D : va_G} {h : Nat → Nat} {cy : Nat → ClassId} (X : Cx p s m args c D h cy RX3 cX3_headHolds 1) (hr : meth.sig.returnType = some .boolean) (hk : meth.locks = false) (σ : St) (y : Int32 × St) (hf : f_X3_headHolds_27 σ = some y) : ∀ (H : Heap) (locs : List Loc) (ls : Array Slot), Zt D h cy s σ H locs → lv_has ls 1 [(0, .ref (h 46))] → W p l e (rmz 2 47) s m args below meth c H locs 0 0 (EI below args s D h cy y) (F0 m 27 ls [.ref (h 46)]) := by
  intro H locs ls Z hl
  have hx := X.x
  have hb := X.b
  unfold f_X3_headHolds_27 at hf
  refine lv_iconst (v := 0) hx hb dX3_headHolds_27 (by decide) ?_
  exact b_X3_headHolds_28 X hr hk (0 : Int32) σ _ hf _ _ _ Z (lv_sub hl [0] rfl)

set_option maxRecDepth 100000 in
set_option maxHeartbeats 4000000 in
theorem c_X3_headHolds (l : Launch) (D : va_G) (h : Nat → Nat) (cy : Nat → ClassId) (σ : St) (y : Int32 × St) (hf : f_X3_headHolds σ = some y) : CI l yX3_headHolds cX3_headHolds 1 (some .boolean) 2 47 D h cy [.ref (h 46)] σ y := by
  refine ent (Qc := fun sz => QI D h cy sz y) (by decide) (Nat.le_of_ble_eq_true rfl) ?_
  intro p e s m below meth c ls X Z hr hk hl
  have X : Cx p s m _ c D h cy RX3 cX3_headHolds 1 := X
  have hx := X.x
  have hb := X.b
  have hl : lv_has ls 1 [(0, .ref (h 46))] := hl
  unfold f_X3_headHolds at hf
  refine lv_aload_n hx hb dX3_headHolds_0 rfl (lv_at hl 0 rfl) ?_
  refine lv_aload_n hx hb dX3_headHolds_1 rfl (lv_at hl 0 rfl) ?_
  refine gf_RX3_72 X Z dX3_headHolds_2 ?_
  refine lv_bipush (v := 28) hx hb dX3_headHolds_5 (by decide) ?_
  refine lv_icmp_lt (tgt := 27) hx hb dX3_headHolds_7 (by decide) (fun c1 => ?_) (fun c1 => ?_)
  · have hf := itp c1 hf
    exact b_X3_headHolds_27 X hr hk σ _ hf _ _ _ Z (lv_sub hl [0] rfl)
  · have hf := itn c1 hf
    refine lv_aload_n hx hb dX3_headHolds_10 rfl (lv_at hl 0 rfl) ?_
    refine lv_aload_n hx hb dX3_headHolds_11 rfl (lv_at hl 0 rfl) ?_
    refine gf_RX3_66 X Z dX3_headHolds_12 ?_
    obtain ⟨r24, s23, h22, hf⟩ := bi_s hf
    refine goL Z (run_V (As := [.int (σ.1 46 10)]) (rest := [.ref (h 46)]) X Z (c_X3_u4 l D h cy (σ.1 46 10) σ (r24, s23) h22 _) lk_RX3_91 ⟨by decide, by decide⟩ rv_46 rfl hl.1 rfl (Nat.le_of_ble_eq_true rfl) ⟨Nat.le_refl _, Nat.le_refl _⟩ dX3_headHolds_15) (fun H locs Z => ?_)
    refine lv_lconst (v := 0) hx hb dX3_headHolds_18 (by decide) ?_
    refine x_lif_ne (tgt := 27) X dX3_headHolds_19 dX3_headHolds_20 (by decide) (fun c25 => ?_) (fun c25 => ?_)
    · have hf := itn c25 hf
      exact b_X3_headHolds_27 X hr hk s23 _ hf _ _ _ Z (lv_sub hl [0] rfl)
    · have hf := itp c25 hf
      refine lv_iconst (v := 1) hx hb dX3_headHolds_23 (by decide) ?_
      refine lv_goto (tgt := 28) hx hb dX3_headHolds_24 (by decide) ?_
      exact b_X3_headHolds_28 X hr hk (1 : Int32) s23 _ hf _ _ _ Z (lv_sub hl [0] rfl)

set_option maxRecDepth 100000 in
set_option maxHeartbeats 4000000 in
theorem b_X3_startsHold_107 {p : Program} {l : Launch} {e : Env} {s : State} {m : MethodId} {args : Array Value} {below : List Frame} {meth : Method} {c : Code} {D : va_G} {h : Nat → Nat} {cy : Nat → ClassId} (X : Cx p s m args c D h cy RX3 cX3_startsHold 3) (hr : meth.sig.returnType = some .boolean) (hk : meth.locks = false) (t0 : Int32) (σ : St) (y : Int32 × St) (hf : f_X3_startsHold_107 t0 σ = some y) : ∀ (H : Heap) (locs : List Loc) (ls : Array Slot), Zt D h cy s σ H locs → lv_has ls 3 [(0, .ref (h 46))] → W p l e (rmz 2 47) s m args below meth c H locs 0 0 (EI below args s D h cy y) (F0 m 107 ls [.int t0, .ref (h 46)]) := by
  intro H locs ls Z hl
  have hx := X.x
  have hb := X.b
  unfold f_X3_startsHold_107 at hf
  refine lv_aload_n hx hb dX3_startsHold_107 rfl (lv_at hl 0 rfl) ?_
  refine gf_RX3_66 X Z dX3_startsHold_108 ?_
  refine lv_aload_n hx hb dX3_startsHold_111 rfl (lv_at hl 0 rfl) ?_
  refine gf_RX3_101 X Z dX3_startsHold_112 ?_
  refine lv_iadd hx hb dX3_startsHold_115 ?_
  obtain ⟨r16, s15, h14, hf⟩ := bi_s hf
  refine goI Z (run_V (As := [.int t0, .int (((σ.1 46 10) + (σ.1 46 12)))]) (rest := []) X Z (c_X3_needs l D h cy t0 (((σ.1 46 10) + (σ.1 46 12))) σ (r16, s15) h14 _) lk_RX3_95 ⟨by decide, by decide⟩ rv_46 rfl hl.1 rfl (Nat.le_of_ble_eq_true rfl) ⟨Nat.le_refl _, Nat.le_refl _⟩ dX3_startsHold_116) (fun H locs Z => ?_)
  obtain ⟨g17, hf⟩ := gd_s hf
  exact retZ X hr hk Z g17 hf dX3_startsHold_119

set_option maxRecDepth 100000 in
set_option maxHeartbeats 4000000 in
theorem b_X3_startsHold_106 {p : Program} {l : Launch} {e : Env} {s : State} {m : MethodId} {args : Array Value} {below : List Frame} {meth : Method} {c : Code} {D : va_G} {h : Nat → Nat} {cy : Nat → ClassId} (X : Cx p s m args c D h cy RX3 cX3_startsHold 3) (hr : meth.sig.returnType = some .boolean) (hk : meth.locks = false) (σ : St) (y : Int32 × St) (hf : f_X3_startsHold_106 σ = some y) : ∀ (H : Heap) (locs : List Loc) (ls : Array Slot), Zt D h cy s σ H locs → lv_has ls 3 [(0, .ref (h 46))] → W p l e (rmz 2 47) s m args below meth c H locs 0 0 (EI below args s D h cy y) (F0 m 106 ls [.ref (h 46)]) := by
  intro H locs ls Z hl
  have hx := X.x
  have hb := X.b
  unfold f_X3_startsHold_106 at hf
  refine lv_iconst (v := 0) hx hb dX3_startsHold_106 (by decide) ?_
  exact b_X3_startsHold_107 X hr hk (0 : Int32) σ _ hf _ _ _ Z (lv_sub hl [0] rfl)

set_option maxRecDepth 100000 in
set_option maxHeartbeats 4000000 in
theorem b_X3_startsHold_31 {p : Program} {l : Launch} {e : Env} {s : State} {m : MethodId} {args : Array Value} {below : List Frame} {meth : Method} {c : Code} {D : va_G} {h : Nat → Nat} {cy : Nat → ClassId} (X : Cx p s m args c D h cy RX3 cX3_startsHold 3) (hr : meth.sig.returnType = some .boolean) (hk : meth.locks = false) (x1 : Int64) (t0 : Int32) (σ : St) (y : Int32 × St) (hf : f_X3_startsHold_31 x1 t0 σ = some y) : ∀ (H : Heap) (locs : List Loc) (ls : Array Slot), Zt D h cy s σ H locs → lv_has ls 3 [(0, .ref (h 46)), (1, .long x1)] → W p l e (rmz 2 47) s m args below meth c H locs 0 0 (EI below args s D h cy y) (F0 m 31 ls [.int t0, .ref (h 46)]) := by
  intro H locs ls Z hl
  have hx := X.x
  have hb := X.b
  unfold f_X3_startsHold_31 at hf
  refine lv_aload_n hx hb dX3_startsHold_31 rfl (lv_at hl 0 rfl) ?_
  refine gf_RX3_66 X Z dX3_startsHold_32 ?_
  refine lv_iconst (v := 4) hx hb dX3_startsHold_35 (by decide) ?_
  refine lv_iadd hx hb dX3_startsHold_36 ?_
  obtain ⟨r7, s6, h5, hf⟩ := bi_s hf
  refine goI Z (run_V (As := [.int t0, .int (((σ.1 46 10) + (4 : Int32)))]) (rest := []) X Z (c_X3_needs l D h cy t0 (((σ.1 46 10) + (4 : Int32))) σ (r7, s6) h5 _) lk_RX3_95 ⟨by decide, by decide⟩ rv_46 rfl hl.1 rfl (Nat.le_of_ble_eq_true rfl) ⟨Nat.le_refl _, Nat.le_refl _⟩ dX3_startsHold_37) (fun H locs Z => ?_)
  refine lv_if_ne (tgt := 45) hx hb dX3_startsHold_40 (by decide) (fun c8 => ?_) (fun c8 => ?_)
  · have hf := itn c8 hf
    refine lv_aload_n hx hb dX3_startsHold_45 rfl (lv_at hl 0 rfl) ?_
    refine lv_lload_n hx hb dX3_startsHold_46 rfl (lv_at hl 1 rfl) ?_
    refine lv_l2i (v := x1.toInt32) hx hb dX3_startsHold_47 rfl ?_
    refine pf_RX3_101 X Z dX3_startsHold_48 (fun s9 H locs es9 Z => ?_)
    have hf := zn_e es9 hf
    refine lv_aload_n hx hb dX3_startsHold_51 rfl (lv_at hl 0 rfl) ?_
    refine lv_aload_n hx hb dX3_startsHold_52 rfl (lv_at hl 0 rfl) ?_
    refine lv_aload_n hx hb dX3_startsHold_53 rfl (lv_at hl 0 rfl) ?_
    refine gf_RX3_66 X Z dX3_startsHold_54 ?_
    refine lv_aload_n hx hb dX3_startsHold_57 rfl (lv_at hl 0 rfl) ?_
    refine gf_RX3_101 X Z dX3_startsHold_58 ?_
    refine lv_iadd hx hb dX3_startsHold_61 ?_
    obtain ⟨r12, s11, h10, hf⟩ := bi_s hf
    refine goL Z (run_V (As := [.int (((s9.1 46 10) + (s9.1 46 12)))]) (rest := [.ref (h 46)]) X Z (c_X3_u4 l D h cy (((s9.1 46 10) + (s9.1 46 12))) s9 (r12, s11) h10 _) lk_RX3_91 ⟨by decide, by decide⟩ rv_46 rfl hl.1 rfl (Nat.le_of_ble_eq_true rfl) ⟨Nat.le_refl _, Nat.le_refl _⟩ dX3_startsHold_62) (fun H locs Z => ?_)
    refine lv_aload_n hx hb dX3_startsHold_65 rfl (lv_at hl 0 rfl) ?_
    refine gf_RX3_33 X Z dX3_startsHold_66 ?_
    refine gf_RX3_104 X Z segs_41 dX3_startsHold_69 ?_
    refine lv_i2l (v := (s11.1 41 4).toInt64) hx hb dX3_startsHold_72 rfl ?_
    refine x_lif_ne (tgt := 106) X dX3_startsHold_73 dX3_startsHold_74 (by decide) (fun c13 => ?_) (fun c13 => ?_)
    · have hf := itn c13 hf
      exact b_X3_startsHold_106 X hr hk s11 _ hf _ _ _ Z (lv_sub hl [0] rfl)
    · have hf := itp c13 hf
      refine lv_lload_n hx hb dX3_startsHold_77 rfl (lv_at hl 1 rfl) ?_
      refine lv_ldc2 (v := 4) hx hb X.o (X.t _ kc_RX3_99) dX3_startsHold_78 ?_
      refine lv_ladd hx hb dX3_startsHold_81 ?_
      refine lv_iconst (v := 4) hx hb dX3_startsHold_82 (by decide) ?_
      refine lv_aload_n hx hb dX3_startsHold_83 rfl (lv_at hl 0 rfl) ?_
      refine gf_RX3_33 X Z dX3_startsHold_84 ?_
      refine gf_RX3_104 X Z segs_41 dX3_startsHold_87 ?_
      refine lv_imul hx hb dX3_startsHold_90 ?_
      refine lv_i2l (v := (((4 : Int32) * (s11.1 41 4))).toInt64) hx hb dX3_startsHold_91 rfl ?_
      refine lv_ladd hx hb dX3_startsHold_92 ?_
      refine lv_aload_n hx hb dX3_startsHold_93 rfl (lv_at hl 0 rfl) ?_
      refine gf_RX3_72 X Z dX3_startsHold_94 ?_
      refine lv_i2l (v := (s11.1 46 11).toInt64) hx hb dX3_startsHold_97 rfl ?_
      refine x_lif_gt (tgt := 106) X dX3_startsHold_98 dX3_startsHold_99 (by decide) (fun c18 => ?_) (fun c18 => ?_)
      · have hf := itp c18 hf
        exact b_X3_startsHold_106 X hr hk s11 _ hf _ _ _ Z (lv_sub hl [0] rfl)
      · have hf := itn c18 hf
        refine lv_iconst (v := 1) hx hb dX3_startsHold_102 (by decide) ?_
        refine lv_goto (tgt := 107) hx hb dX3_startsHold_103 (by decide) ?_
        exact b_X3_startsHold_107 X hr hk (1 : Int32) s11 _ hf _ _ _ Z (lv_sub hl [0] rfl)
  · have hf := itp c8 hf
    refine lv_iconst (v := 0) hx hb dX3_startsHold_43 (by decide) ?_
    exact retZ X hr hk Z (by decide) hf dX3_startsHold_44

set_option maxRecDepth 100000 in
set_option maxHeartbeats 4000000 in
theorem c_X3_startsHold (l : Launch) (D : va_G) (h : Nat → Nat) (cy : Nat → ClassId) (σ : St) (y : Int32 × St) (hf : f_X3_startsHold σ = some y) : CI l yX3_startsHold cX3_startsHold 3 (some .boolean) 2 47 D h cy [.ref (h 46)] σ y := by
  refine ent (Qc := fun sz => QI D h cy sz y) (by decide) (Nat.le_of_ble_eq_true rfl) ?_
  intro p e s m below meth c ls X Z hr hk hl
  have X : Cx p s m _ c D h cy RX3 cX3_startsHold 3 := X
  have hx := X.x
  have hb := X.b
  have hl : lv_has ls 3 [(0, .ref (h 46))] := hl
  unfold f_X3_startsHold at hf
  refine lv_aload_n hx hb dX3_startsHold_0 rfl (lv_at hl 0 rfl) ?_
  refine lv_aload_n hx hb dX3_startsHold_1 rfl (lv_at hl 0 rfl) ?_
  refine gf_RX3_66 X Z dX3_startsHold_2 ?_
  refine lv_iconst (v := 4) hx hb dX3_startsHold_5 (by decide) ?_
  refine lv_iadd hx hb dX3_startsHold_6 ?_
  obtain ⟨r3, s2, h1, hf⟩ := bi_s hf
  refine goL Z (run_V (As := [.int (((σ.1 46 10) + (4 : Int32)))]) (rest := []) X Z (c_X3_u4 l D h cy (((σ.1 46 10) + (4 : Int32))) σ (r3, s2) h1 _) lk_RX3_91 ⟨by decide, by decide⟩ rv_46 rfl hl.1 rfl (Nat.le_of_ble_eq_true rfl) ⟨Nat.le_refl _, Nat.le_refl _⟩ dX3_startsHold_7) (fun H locs Z => ?_)
  refine lv_lstore_n (lv' := [(1, .long r3), (0, .ref (h 46))]) hx hb dX3_startsHold_10 rfl hl (by decide) rfl (fun ls hl => ?_)
  refine lv_aload_n hx hb dX3_startsHold_11 rfl (lv_at hl 1 rfl) ?_
  refine lv_lload_n hx hb dX3_startsHold_12 rfl (lv_at hl 0 rfl) ?_
  refine lv_ldc2 (v := 4) hx hb X.o (X.t _ kc_RX3_99) dX3_startsHold_13 ?_
  refine lv_ladd hx hb dX3_startsHold_16 ?_
  refine lv_aload_n hx hb dX3_startsHold_17 rfl (lv_at hl 1 rfl) ?_
  refine gf_RX3_72 X Z dX3_startsHold_18 ?_
  refine lv_i2l (v := (s2.1 46 11).toInt64) hx hb dX3_startsHold_21 rfl ?_
  refine x_lif_gt (tgt := 30) X dX3_startsHold_22 dX3_startsHold_23 (by decide) (fun c4 => ?_) (fun c4 => ?_)
  · have hf := itp c4 hf
    refine lv_iconst (v := 0) hx hb dX3_startsHold_30 (by decide) ?_
    exact b_X3_startsHold_31 X hr hk r3 (0 : Int32) s2 _ hf _ _ _ Z (lv_sub hl [1, 0] rfl)
  · have hf := itn c4 hf
    refine lv_iconst (v := 1) hx hb dX3_startsHold_26 (by decide) ?_
    refine lv_goto (tgt := 31) hx hb dX3_startsHold_27 (by decide) ?_
    exact b_X3_startsHold_31 X hr hk r3 (1 : Int32) s2 _ hf _ _ _ Z (lv_sub hl [1, 0] rfl)

set_option maxRecDepth 100000 in
set_option maxHeartbeats 4000000 in
theorem b_X3_importsHold_229 {p : Program} {l : Launch} {e : Env} {s : State} {m : MethodId} {args : Array Value} {below : List Frame} {meth : Method} {c : Code} {D : va_G} {h : Nat → Nat} {cy : Nat → ClassId} (X : Cx p s m args c D h cy RX3 cX3_importsHold 12) (hr : meth.sig.returnType = some .boolean) (hk : meth.locks = false) (K148 : (Int64 × Int32 × Int64 × Int32 × Int32 × St) → Option (Int32 × St)) (hK148 : ∀ (a : Int64 × Int32 × Int64 × Int32 × Int32 × St) (y : Int32 × St), K148 a = some y → ∀ (H : Heap) (locs : List Loc) (ls : Array Slot), Zt D h cy s a.2.2.2.2.2 H locs → lv_has ls 12 [(0, .ref (h 46)), (1, .long a.1), (3, .int a.2.1), (4, .long a.2.2.1), (6, .int a.2.2.2.1), (7, .int a.2.2.2.2.1)] → W p l e (rmz 4 94) s m args below meth c H locs 0 0 (EI below args s D h cy y) (F0 m 148 ls [])) (x1 : Int64) (x3 : Int32) (x4 : Int64) (x6 : Int32) (x7 : Int32) (x8 : Int64) (x10 : Int64) (t0 : Int32) (t1 : Int32) (σ : St) (y : Int32 × St) (hf : f_X3_importsHold_229 K148 x1 x3 x4 x6 x7 x8 x10 t0 t1 σ = some y) : ∀ (H : Heap) (locs : List Loc) (ls : Array Slot), Zt D h cy s σ H locs → lv_has ls 12 [(0, .ref (h 46)), (1, .long x1), (3, .int x3), (4, .long x4), (6, .int x6), (7, .int x7), (8, .long x8), (10, .long x10)] → W p l e (rmz 4 94) s m args below meth c H locs 0 0 (EI below args s D h cy y) (F0 m 229 ls [.int t0, .int t1, .ref (h 51)]) := by
  intro H locs ls Z hl
  have hx := X.x
  have hb := X.b
  unfold f_X3_importsHold_229 at hf
  obtain ⟨g41, hf⟩ := gd_s hf
  refine x_zast (k := 51) X Z sh_51 g41 dX3_importsHold_229 (fun s42 H locs es42 Z => ?_)
  have hf := zn_e es42 hf
  refine lv_aload_n hx hb dX3_importsHold_230 rfl (lv_at hl 0 rfl) ?_
  refine gf_RX3_49 X Z dX3_importsHold_231 ?_
  refine lv_iload hx hb dX3_importsHold_234 (lv_at hl 5 rfl) ?_
  refine lv_aload_n hx hb dX3_importsHold_236 rfl (lv_at hl 0 rfl) ?_
  refine gf_RX3_19 X Z dX3_importsHold_237 ?_
  refine lv_lload hx hb dX3_importsHold_240 (lv_at hl 6 rfl) ?_
  refine lv_ldc2 (v := 255) hx hb X.o (X.t _ kc_RX3_119) dX3_importsHold_242 ?_
  refine lv_land hx hb dX3_importsHold_245 ?_
  refine lv_l2i (v := ((x8 &&& (255 : Int64))).toInt32) hx hb dX3_importsHold_246 rfl ?_
  refine lv_aload_n hx hb dX3_importsHold_247 rfl (lv_at hl 0 rfl) ?_
  refine gf_RX3_9 X Z dX3_importsHold_248 ?_
  refine lv_lload hx hb dX3_importsHold_251 (lv_at hl 7 rfl) ?_
  refine lv_l2i (v := x10.toInt32) hx hb dX3_importsHold_253 rfl ?_
  obtain ⟨r45, s44, h43, hf⟩ := bi_s hf
  refine goI Z (run_V (As := [.int (((x8 &&& (255 : Int64))).toInt32), .ref (h 3), .int x10.toInt32]) (rest := [.int x7, .ref (h 52)]) X Z (c_X1_addressOf l D h cy row_3 (((x8 &&& (255 : Int64))).toInt32) x10.toInt32 s42 (r45, s44) h43 _) lk_RX3_121 ⟨by decide, by decide⟩ rv_33 rfl hl.1 rfl (Nat.le_of_ble_eq_true rfl) ⟨Nat.le_refl _, Nat.le_refl _⟩ dX3_importsHold_254) (fun H locs Z => ?_)
  obtain ⟨g46, hf⟩ := gd_s hf
  refine x_iast (k := 52) X Z sh_52 g46 dX3_importsHold_257 (fun s47 H locs es47 Z => ?_)
  have hf := zn_e es47 hf
  obtain ⟨v48, ev48⟩ : ∃ z : Int32, z = x7 + 1 := ⟨_, rfl⟩
  have hf := zn_e ev48 hf
  refine lv_iinc (v := v48) (lv' := [(7, .int v48), (0, .ref (h 46)), (1, .long x1), (3, .int x3), (4, .long x4), (6, .int x6), (8, .long x8), (10, .long x10)]) hx hb dX3_importsHold_258 hl (k := 5) rfl (by rw [ev48]; rfl) (by decide) rfl (fun ls hl => ?_)
  refine lv_goto (tgt := 148) hx hb dX3_importsHold_261 (by decide) ?_
  exact hK148 (x1, x3, x4, x6, v48, s47) _ hf _ _ _ Z (lv_sub hl [1, 2, 3, 4, 5, 0] rfl)

set_option maxRecDepth 100000 in
set_option maxHeartbeats 4000000 in
theorem b_X3_importsHold_193 {p : Program} {l : Launch} {e : Env} {s : State} {m : MethodId} {args : Array Value} {below : List Frame} {meth : Method} {c : Code} {D : va_G} {h : Nat → Nat} {cy : Nat → ClassId} (X : Cx p s m args c D h cy RX3 cX3_importsHold 12) (hr : meth.sig.returnType = some .boolean) (hk : meth.locks = false) (K148 : (Int64 × Int32 × Int64 × Int32 × Int32 × St) → Option (Int32 × St)) (hK148 : ∀ (a : Int64 × Int32 × Int64 × Int32 × Int32 × St) (y : Int32 × St), K148 a = some y → ∀ (H : Heap) (locs : List Loc) (ls : Array Slot), Zt D h cy s a.2.2.2.2.2 H locs → lv_has ls 12 [(0, .ref (h 46)), (1, .long a.1), (3, .int a.2.1), (4, .long a.2.2.1), (6, .int a.2.2.2.1), (7, .int a.2.2.2.2.1)] → W p l e (rmz 4 94) s m args below meth c H locs 0 0 (EI below args s D h cy y) (F0 m 148 ls [])) (x1 : Int64) (x3 : Int32) (x4 : Int64) (x6 : Int32) (x7 : Int32) (x8 : Int64) (x10 : Int64) (t0 : Int32) (σ : St) (y : Int32 × St) (hf : f_X3_importsHold_193 K148 x1 x3 x4 x6 x7 x8 x10 t0 σ = some y) : ∀ (H : Heap) (locs : List Loc) (ls : Array Slot), Zt D h cy s σ H locs → lv_has ls 12 [(0, .ref (h 46)), (1, .long x1), (3, .int x3), (4, .long x4), (6, .int x6), (7, .int x7), (8, .long x8), (10, .long x10)] → W p l e (rmz 4 94) s m args below meth c H locs 0 0 (EI below args s D h cy y) (F0 m 193 ls [.int t0, .ref (h 46)]) := by
  intro H locs ls Z hl
  have hx := X.x
  have hb := X.b
  unfold f_X3_importsHold_193 at hf
  refine lv_iload_n hx hb dX3_importsHold_193 rfl (lv_at hl 2 rfl) ?_
  refine lv_iconst (v := 4) hx hb dX3_importsHold_194 (by decide) ?_
  refine lv_iload hx hb dX3_importsHold_195 (lv_at hl 5 rfl) ?_
  refine lv_imul hx hb dX3_importsHold_197 ?_
  refine lv_iadd hx hb dX3_importsHold_198 ?_
  obtain ⟨r38, s37, h36, hf⟩ := bi_s hf
  refine goI Z (run_V (As := [.int t0, .int ((x3 + ((4 : Int32) * x7)))]) (rest := []) X Z (c_X3_needs l D h cy t0 ((x3 + ((4 : Int32) * x7))) σ (r38, s37) h36 _) lk_RX3_95 ⟨by decide, by decide⟩ rv_46 rfl hl.1 rfl (Nat.le_of_ble_eq_true rfl) ⟨Nat.le_refl _, Nat.le_refl _⟩ dX3_importsHold_199) (fun H locs Z => ?_)
  refine lv_if_ne (tgt := 207) hx hb dX3_importsHold_202 (by decide) (fun c39 => ?_) (fun c39 => ?_)
  · have hf := itn c39 hf
    refine lv_aload_n hx hb dX3_importsHold_207 rfl (lv_at hl 0 rfl) ?_
    refine gf_RX3_45 X Z dX3_importsHold_208 ?_
    refine lv_iload hx hb dX3_importsHold_211 (lv_at hl 5 rfl) ?_
    refine lv_lload hx hb dX3_importsHold_213 (lv_at hl 6 rfl) ?_
    refine lv_ldc2 (v := 256) hx hb X.o (X.t _ kc_RX3_117) dX3_importsHold_215 ?_
    refine lv_land hx hb dX3_importsHold_218 ?_
    refine lv_lconst (v := 0) hx hb dX3_importsHold_219 (by decide) ?_
    refine x_lif_eq (tgt := 228) X dX3_importsHold_220 dX3_importsHold_221 (by decide) (fun c40 => ?_) (fun c40 => ?_)
    · have hf := itp c40 hf
      refine lv_iconst (v := 0) hx hb dX3_importsHold_228 (by decide) ?_
      exact b_X3_importsHold_229 X hr hk K148 hK148 x1 x3 x4 x6 x7 x8 x10 (0 : Int32) x7 s37 _ hf _ _ _ Z (lv_sub hl [0, 1, 2, 3, 4, 5, 6, 7] rfl)
    · have hf := itn c40 hf
      refine lv_iconst (v := 1) hx hb dX3_importsHold_224 (by decide) ?_
      refine lv_goto (tgt := 229) hx hb dX3_importsHold_225 (by decide) ?_
      exact b_X3_importsHold_229 X hr hk K148 hK148 x1 x3 x4 x6 x7 x8 x10 (1 : Int32) x7 s37 _ hf _ _ _ Z (lv_sub hl [0, 1, 2, 3, 4, 5, 6, 7] rfl)
  · have hf := itp c39 hf
    refine lv_iconst (v := 0) hx hb dX3_importsHold_205 (by decide) ?_
    exact retZ X hr hk Z (by decide) hf dX3_importsHold_206

set_option maxRecDepth 100000 in
set_option maxHeartbeats 4000000 in
theorem b_X3_importsHold_148b {p : Program} {l : Launch} {e : Env} {s : State} {m : MethodId} {args : Array Value} {below : List Frame} {meth : Method} {c : Code} {D : va_G} {h : Nat → Nat} {cy : Nat → ClassId} (X : Cx p s m args c D h cy RX3 cX3_importsHold 12) (hr : meth.sig.returnType = some .boolean) (hk : meth.locks = false) (K148 : (Int64 × Int32 × Int64 × Int32 × Int32 × St) → Option (Int32 × St)) (hK148 : ∀ (a : Int64 × Int32 × Int64 × Int32 × Int32 × St) (y : Int32 × St), K148 a = some y → ∀ (H : Heap) (locs : List Loc) (ls : Array Slot), Zt D h cy s a.2.2.2.2.2 H locs → lv_has ls 12 [(0, .ref (h 46)), (1, .long a.1), (3, .int a.2.1), (4, .long a.2.2.1), (6, .int a.2.2.2.1), (7, .int a.2.2.2.2.1)] → W p l e (rmz 4 94) s m args below meth c H locs 0 0 (EI below args s D h cy y) (F0 m 148 ls [])) (x1 : Int64) (x3 : Int32) (x4 : Int64) (x6 : Int32) (x7 : Int32) (σ : St) (y : Int32 × St) (hf : f_X3_importsHold_148b K148 x1 x3 x4 x6 x7 σ = some y) : ∀ (H : Heap) (locs : List Loc) (ls : Array Slot), Zt D h cy s σ H locs → lv_has ls 12 [(0, .ref (h 46)), (1, .long x1), (3, .int x3), (4, .long x4), (6, .int x6), (7, .int x7)] → W p l e (rmz 4 94) s m args below meth c H locs 0 0 (EI below args s D h cy y) (F0 m 148 ls []) := by
  intro H locs ls Z hl
  have hx := X.x
  have hb := X.b
  unfold f_X3_importsHold_148b at hf
  refine lv_iload hx hb dX3_importsHold_148 (lv_at hl 5 rfl) ?_
  refine lv_i2l (v := x7.toInt64) hx hb dX3_importsHold_150 rfl ?_
  refine lv_lload_n hx hb dX3_importsHold_151 rfl (lv_at hl 1 rfl) ?_
  refine x_lif_ge (tgt := 264) X dX3_importsHold_152 dX3_importsHold_153 (by decide) (fun c29 => ?_) (fun c29 => ?_)
  · have hf := itp c29 hf
    refine lv_aload_n hx hb dX3_importsHold_264 rfl (lv_at hl 0 rfl) ?_
    refine lv_lload_n hx hb dX3_importsHold_265 rfl (lv_at hl 1 rfl) ?_
    refine lv_l2i (v := x1.toInt32) hx hb dX3_importsHold_266 rfl ?_
    refine pf_RX3_55 X Z dX3_importsHold_267 (fun s30 H locs es30 Z => ?_)
    have hf := zn_e es30 hf
    refine lv_iconst (v := 1) hx hb dX3_importsHold_270 (by decide) ?_
    exact retZ X hr hk Z (by decide) hf dX3_importsHold_271
  · have hf := itn c29 hf
    refine lv_aload_n hx hb dX3_importsHold_156 rfl (lv_at hl 0 rfl) ?_
    refine lv_iload_n hx hb dX3_importsHold_157 rfl (lv_at hl 2 rfl) ?_
    refine lv_iconst (v := 4) hx hb dX3_importsHold_158 (by decide) ?_
    refine lv_iload hx hb dX3_importsHold_159 (lv_at hl 5 rfl) ?_
    refine lv_imul hx hb dX3_importsHold_161 ?_
    refine lv_iadd hx hb dX3_importsHold_162 ?_
    obtain ⟨r33, s32, h31, hf⟩ := bi_s hf
    refine goL Z (run_V (As := [.int ((x3 + ((4 : Int32) * x7)))]) (rest := []) X Z (c_X3_u4 l D h cy ((x3 + ((4 : Int32) * x7))) σ (r33, s32) h31 _) lk_RX3_91 ⟨by decide, by decide⟩ rv_46 rfl hl.1 rfl (Nat.le_of_ble_eq_true rfl) ⟨Nat.le_refl _, Nat.le_refl _⟩ dX3_importsHold_163) (fun H locs Z => ?_)
    refine lv_lstore (lv' := [(8, .long r33), (0, .ref (h 46)), (1, .long x1), (3, .int x3), (4, .long x4), (6, .int x6), (7, .int x7)]) hx hb dX3_importsHold_166 hl (by decide) rfl (fun ls hl => ?_)
    refine lv_lload hx hb dX3_importsHold_168 (lv_at hl 4 rfl) ?_
    refine lv_lload hx hb dX3_importsHold_170 (lv_at hl 0 rfl) ?_
    refine lv_bipush (v := 9) hx hb dX3_importsHold_172 (by decide) ?_
    refine lv_lushr (v := zlushr r33 (9 : Int32)) hx hb dX3_importsHold_174 rfl ?_
    refine lv_ladd hx hb dX3_importsHold_175 ?_
    refine lv_topl (fun v34 ev34 => ?_)
    have hf := zn_e ev34 hf
    refine lv_lstore (lv' := [(10, .long v34), (8, .long r33), (0, .ref (h 46)), (1, .long x1), (3, .int x3), (4, .long x4), (6, .int x6), (7, .int x7)]) hx hb dX3_importsHold_176 hl (by decide) rfl (fun ls hl => ?_)
    refine lv_aload_n hx hb dX3_importsHold_178 rfl (lv_at hl 2 rfl) ?_
    refine lv_lload hx hb dX3_importsHold_179 (lv_at hl 0 rfl) ?_
    refine lv_iload hx hb dX3_importsHold_181 (lv_at hl 6 rfl) ?_
    refine lv_i2l (v := x6.toInt64) hx hb dX3_importsHold_183 rfl ?_
    refine x_lif_gt (tgt := 192) X dX3_importsHold_184 dX3_importsHold_185 (by decide) (fun c35 => ?_) (fun c35 => ?_)
    · have hf := itp c35 hf
      refine lv_iconst (v := 0) hx hb dX3_importsHold_192 (by decide) ?_
      exact b_X3_importsHold_193 X hr hk K148 hK148 x1 x3 x4 x6 x7 r33 v34 (0 : Int32) s32 _ hf _ _ _ Z (lv_sub hl [2, 3, 4, 5, 6, 7, 1, 0] rfl)
    · have hf := itn c35 hf
      refine lv_iconst (v := 1) hx hb dX3_importsHold_188 (by decide) ?_
      refine lv_goto (tgt := 193) hx hb dX3_importsHold_189 (by decide) ?_
      exact b_X3_importsHold_193 X hr hk K148 hK148 x1 x3 x4 x6 x7 r33 v34 (1 : Int32) s32 _ hf _ _ _ Z (lv_sub hl [2, 3, 4, 5, 6, 7, 1, 0] rfl)

set_option maxRecDepth 100000 in
set_option maxHeartbeats 4000000 in
theorem b_X3_importsHold_148 {p : Program} {l : Launch} {e : Env} {s : State} {m : MethodId} {args : Array Value} {below : List Frame} {meth : Method} {c : Code} {D : va_G} {h : Nat → Nat} {cy : Nat → ClassId} (X : Cx p s m args c D h cy RX3 cX3_importsHold 12) (hr : meth.sig.returnType = some .boolean) (hk : meth.locks = false) (x1 : Int64) (x3 : Int32) (x4 : Int64) (x6 : Int32) (x7 : Int32) (σ : St) (y : Int32 × St) (hf : f_X3_importsHold_148 x1 x3 x4 x6 x7 σ = some y) : ∀ (H : Heap) (locs : List Loc) (ls : Array Slot), Zt D h cy s σ H locs → lv_has ls 12 [(0, .ref (h 46)), (1, .long x1), (3, .int x3), (4, .long x4), (6, .int x6), (7, .int x7)] → W p l e (rmz 4 94) s m args below meth c H locs 0 0 (EI below args s D h cy y) (F0 m 148 ls []) := by
  exact it_W (F := fun K a => f_X3_importsHold_148b K a.1 a.2.1 a.2.2.1 a.2.2.2.1 a.2.2.2.2.1 a.2.2.2.2.2) (P := fun a y => ∀ (H : Heap) (locs : List Loc) (ls : Array Slot), Zt D h cy s a.2.2.2.2.2 H locs → lv_has ls 12 [(0, .ref (h 46)), (1, .long a.1), (3, .int a.2.1), (4, .long a.2.2.1), (6, .int a.2.2.2.1), (7, .int a.2.2.2.2.1)] → W p l e (rmz 4 94) s m args below meth c H locs 0 0 (EI below args s D h cy y) (F0 m 148 ls [])) (fun K hK a y hf => b_X3_importsHold_148b X hr hk K hK (a.1) (a.2.1) (a.2.2.1) (a.2.2.2.1) (a.2.2.2.2.1) (a.2.2.2.2.2) y hf) FU _ y hf

set_option maxRecDepth 100000 in
set_option maxHeartbeats 4000000 in
theorem b_X3_importsHold_71 {p : Program} {l : Launch} {e : Env} {s : State} {m : MethodId} {args : Array Value} {below : List Frame} {meth : Method} {c : Code} {D : va_G} {h : Nat → Nat} {cy : Nat → ClassId} (X : Cx p s m args c D h cy RX3 cX3_importsHold 12) (hr : meth.sig.returnType = some .boolean) (hk : meth.locks = false) (x1 : Int64) (t0 : Int32) (σ : St) (y : Int32 × St) (hf : f_X3_importsHold_71 x1 t0 σ = some y) : ∀ (H : Heap) (locs : List Loc) (ls : Array Slot), Zt D h cy s σ H locs → lv_has ls 12 [(0, .ref (h 46)), (1, .long x1)] → W p l e (rmz 4 94) s m args below meth c H locs 0 0 (EI below args s D h cy y) (F0 m 71 ls [.int t0, .ref (h 46)]) := by
  intro H locs ls Z hl
  have hx := X.x
  have hb := X.b
  unfold f_X3_importsHold_71 at hf
  refine lv_aload_n hx hb dX3_importsHold_71 rfl (lv_at hl 0 rfl) ?_
  refine gf_RX3_66 X Z dX3_importsHold_72 ?_
  refine lv_bipush (v := 8) hx hb dX3_importsHold_75 (by decide) ?_
  refine lv_iadd hx hb dX3_importsHold_77 ?_
  obtain ⟨r15, s14, h13, hf⟩ := bi_s hf
  refine goI Z (run_V (As := [.int t0, .int (((σ.1 46 10) + (8 : Int32)))]) (rest := []) X Z (c_X3_needs l D h cy t0 (((σ.1 46 10) + (8 : Int32))) σ (r15, s14) h13 _) lk_RX3_95 ⟨by decide, by decide⟩ rv_46 rfl hl.1 rfl (Nat.le_of_ble_eq_true rfl) ⟨Nat.le_refl _, Nat.le_refl _⟩ dX3_importsHold_78) (fun H locs Z => ?_)
  refine lv_if_ne (tgt := 86) hx hb dX3_importsHold_81 (by decide) (fun c16 => ?_) (fun c16 => ?_)
  · have hf := itn c16 hf
    refine lv_aload_n hx hb dX3_importsHold_86 rfl (lv_at hl 0 rfl) ?_
    refine gf_RX3_66 X Z dX3_importsHold_87 ?_
    refine lv_aload_n hx hb dX3_importsHold_90 rfl (lv_at hl 0 rfl) ?_
    refine lv_aload_n hx hb dX3_importsHold_91 rfl (lv_at hl 0 rfl) ?_
    refine gf_RX3_66 X Z dX3_importsHold_92 ?_
    refine lv_bipush (v := 8) hx hb dX3_importsHold_95 (by decide) ?_
    refine lv_iadd hx hb dX3_importsHold_97 ?_
    obtain ⟨r19, s18, h17, hf⟩ := bi_s hf
    refine goL Z (run_V (As := [.int (((s14.1 46 10) + (8 : Int32)))]) (rest := [.int (s14.1 46 10)]) X Z (c_X3_u4 l D h cy (((s14.1 46 10) + (8 : Int32))) s14 (r19, s18) h17 _) lk_RX3_91 ⟨by decide, by decide⟩ rv_46 rfl hl.1 rfl (Nat.le_of_ble_eq_true rfl) ⟨Nat.le_refl _, Nat.le_refl _⟩ dX3_importsHold_98) (fun H locs Z => ?_)
    refine lv_l2i (v := r19.toInt32) hx hb dX3_importsHold_101 rfl ?_
    refine lv_iadd hx hb dX3_importsHold_102 ?_
    refine lv_topi (fun v20 ev20 => ?_)
    have hf := zn_e ev20 hf
    refine lv_istore_n (lv' := [(3, .int v20), (0, .ref (h 46)), (1, .long x1)]) hx hb dX3_importsHold_103 rfl hl (by decide) rfl (fun ls hl => ?_)
    refine lv_aload_n hx hb dX3_importsHold_104 rfl (lv_at hl 1 rfl) ?_
    refine gf_RX3_66 X Z dX3_importsHold_105 ?_
    refine lv_i2l (v := (s18.1 46 10).toInt64) hx hb dX3_importsHold_108 rfl ?_
    refine lv_aload_n hx hb dX3_importsHold_109 rfl (lv_at hl 1 rfl) ?_
    refine lv_aload_n hx hb dX3_importsHold_110 rfl (lv_at hl 1 rfl) ?_
    refine gf_RX3_66 X Z dX3_importsHold_111 ?_
    refine lv_bipush (v := 12) hx hb dX3_importsHold_114 (by decide) ?_
    refine lv_iadd hx hb dX3_importsHold_116 ?_
    obtain ⟨r23, s22, h21, hf⟩ := bi_s hf
    refine goL Z (run_V (As := [.int (((s18.1 46 10) + (12 : Int32)))]) (rest := [.long ((s18.1 46 10).toInt64)]) X Z (c_X3_u4 l D h cy (((s18.1 46 10) + (12 : Int32))) s18 (r23, s22) h21 _) lk_RX3_91 ⟨by decide, by decide⟩ rv_46 rfl hl.1 rfl (Nat.le_of_ble_eq_true rfl) ⟨Nat.le_refl _, Nat.le_refl _⟩ dX3_importsHold_117) (fun H locs Z => ?_)
    refine lv_ladd hx hb dX3_importsHold_120 ?_
    refine lv_topl (fun v24 ev24 => ?_)
    have hf := zn_e ev24 hf
    refine lv_lstore (lv' := [(4, .long v24), (3, .int v20), (0, .ref (h 46)), (1, .long x1)]) hx hb dX3_importsHold_121 hl (by decide) rfl (fun ls hl => ?_)
    refine lv_aload_n hx hb dX3_importsHold_123 rfl (lv_at hl 2 rfl) ?_
    refine gf_RX3_9 X Z dX3_importsHold_124 ?_
    refine lv_aload_n hx hb dX3_importsHold_127 rfl (lv_at hl 2 rfl) ?_
    refine gf_RX3_66 X Z dX3_importsHold_128 ?_
    refine lv_aload_n hx hb dX3_importsHold_131 rfl (lv_at hl 2 rfl) ?_
    refine gf_RX3_66 X Z dX3_importsHold_132 ?_
    refine lv_aload_n hx hb dX3_importsHold_135 rfl (lv_at hl 2 rfl) ?_
    refine gf_RX3_72 X Z dX3_importsHold_136 ?_
    refine lv_iadd hx hb dX3_importsHold_139 ?_
    obtain ⟨r27, s26, h25, hf⟩ := bi_s hf
    refine goI Z (run_V (As := [.int (s22.1 46 10), .int (((s22.1 46 10) + (s22.1 46 11)))]) (rest := []) X Z (c_X6_lastZero l D h cy row_3 (s22.1 46 10) (((s22.1 46 10) + (s22.1 46 11))) s22 (r27, s26) h25 _) lk_RX3_111 ⟨by decide, by decide⟩ (rv_RowS row_3) rfl hl.1 rfl (Nat.le_of_ble_eq_true rfl) ⟨Nat.le_refl _, Nat.le_refl _⟩ dX3_importsHold_140) (fun H locs Z => ?_)
    refine lv_istore (lv' := [(6, .int r27), (4, .long v24), (3, .int v20), (0, .ref (h 46)), (1, .long x1)]) hx hb dX3_importsHold_143 hl (by decide) rfl (fun ls hl => ?_)
    refine lv_iconst (v := 0) hx hb dX3_importsHold_145 (by decide) ?_
    refine lv_topi (fun v28 ev28 => ?_)
    have hf := zn_e ev28 hf
    refine lv_istore (lv' := [(7, .int v28), (6, .int r27), (4, .long v24), (3, .int v20), (0, .ref (h 46)), (1, .long x1)]) hx hb dX3_importsHold_146 hl (by decide) rfl (fun ls hl => ?_)
    exact b_X3_importsHold_148 X hr hk x1 v20 v24 r27 v28 s26 _ hf _ _ _ Z (lv_sub hl [4, 5, 3, 2, 1, 0] rfl)
  · have hf := itp c16 hf
    refine lv_iconst (v := 0) hx hb dX3_importsHold_84 (by decide) ?_
    exact retZ X hr hk Z (by decide) hf dX3_importsHold_85

set_option maxRecDepth 100000 in
set_option maxHeartbeats 4000000 in
theorem b_X3_importsHold_26 {p : Program} {l : Launch} {e : Env} {s : State} {m : MethodId} {args : Array Value} {below : List Frame} {meth : Method} {c : Code} {D : va_G} {h : Nat → Nat} {cy : Nat → ClassId} (X : Cx p s m args c D h cy RX3 cX3_importsHold 12) (hr : meth.sig.returnType = some .boolean) (hk : meth.locks = false) (x1 : Int64) (t0 : Int32) (σ : St) (y : Int32 × St) (hf : f_X3_importsHold_26 x1 t0 σ = some y) : ∀ (H : Heap) (locs : List Loc) (ls : Array Slot), Zt D h cy s σ H locs → lv_has ls 12 [(0, .ref (h 46)), (1, .long x1)] → W p l e (rmz 4 94) s m args below meth c H locs 0 0 (EI below args s D h cy y) (F0 m 26 ls [.int t0, .ref (h 46)]) := by
  intro H locs ls Z hl
  have hx := X.x
  have hb := X.b
  unfold f_X3_importsHold_26 at hf
  refine lv_aload_n hx hb dX3_importsHold_26 rfl (lv_at hl 0 rfl) ?_
  refine gf_RX3_66 X Z dX3_importsHold_27 ?_
  refine lv_bipush (v := 16) hx hb dX3_importsHold_30 (by decide) ?_
  refine lv_iadd hx hb dX3_importsHold_32 ?_
  obtain ⟨r7, s6, h5, hf⟩ := bi_s hf
  refine goI Z (run_V (As := [.int t0, .int (((σ.1 46 10) + (16 : Int32)))]) (rest := []) X Z (c_X3_needs l D h cy t0 (((σ.1 46 10) + (16 : Int32))) σ (r7, s6) h5 _) lk_RX3_95 ⟨by decide, by decide⟩ rv_46 rfl hl.1 rfl (Nat.le_of_ble_eq_true rfl) ⟨Nat.le_refl _, Nat.le_refl _⟩ dX3_importsHold_33) (fun H locs Z => ?_)
  refine lv_if_eq (tgt := 84) hx hb dX3_importsHold_36 (by decide) (fun c8 => ?_) (fun c8 => ?_)
  · have hf := itp c8 hf
    refine lv_iconst (v := 0) hx hb dX3_importsHold_84 (by decide) ?_
    exact retZ X hr hk Z (by decide) hf dX3_importsHold_85
  · have hf := itn c8 hf
    refine lv_aload_n hx hb dX3_importsHold_39 rfl (lv_at hl 0 rfl) ?_
    refine lv_aload_n hx hb dX3_importsHold_40 rfl (lv_at hl 0 rfl) ?_
    refine lv_aload_n hx hb dX3_importsHold_41 rfl (lv_at hl 0 rfl) ?_
    refine gf_RX3_66 X Z dX3_importsHold_42 ?_
    refine lv_bipush (v := 8) hx hb dX3_importsHold_45 (by decide) ?_
    refine lv_iadd hx hb dX3_importsHold_47 ?_
    obtain ⟨r11, s10, h9, hf⟩ := bi_s hf
    refine goL Z (run_V (As := [.int (((s6.1 46 10) + (8 : Int32)))]) (rest := [.ref (h 46)]) X Z (c_X3_u4 l D h cy (((s6.1 46 10) + (8 : Int32))) s6 (r11, s10) h9 _) lk_RX3_91 ⟨by decide, by decide⟩ rv_46 rfl hl.1 rfl (Nat.le_of_ble_eq_true rfl) ⟨Nat.le_refl _, Nat.le_refl _⟩ dX3_importsHold_48) (fun H locs Z => ?_)
    refine lv_ldc2 (v := 4) hx hb X.o (X.t _ kc_RX3_99) dX3_importsHold_51 ?_
    refine lv_lload_n hx hb dX3_importsHold_54 rfl (lv_at hl 1 rfl) ?_
    refine lv_lmul hx hb dX3_importsHold_55 ?_
    refine lv_ladd hx hb dX3_importsHold_56 ?_
    refine lv_aload_n hx hb dX3_importsHold_57 rfl (lv_at hl 0 rfl) ?_
    refine gf_RX3_72 X Z dX3_importsHold_58 ?_
    refine lv_i2l (v := (s10.1 46 11).toInt64) hx hb dX3_importsHold_61 rfl ?_
    refine x_lif_gt (tgt := 70) X dX3_importsHold_62 dX3_importsHold_63 (by decide) (fun c12 => ?_) (fun c12 => ?_)
    · have hf := itp c12 hf
      refine lv_iconst (v := 0) hx hb dX3_importsHold_70 (by decide) ?_
      exact b_X3_importsHold_71 X hr hk x1 (0 : Int32) s10 _ hf _ _ _ Z (lv_sub hl [0, 1] rfl)
    · have hf := itn c12 hf
      refine lv_iconst (v := 1) hx hb dX3_importsHold_66 (by decide) ?_
      refine lv_goto (tgt := 71) hx hb dX3_importsHold_67 (by decide) ?_
      exact b_X3_importsHold_71 X hr hk x1 (1 : Int32) s10 _ hf _ _ _ Z (lv_sub hl [0, 1] rfl)

set_option maxRecDepth 100000 in
set_option maxHeartbeats 4000000 in
theorem c_X3_importsHold (l : Launch) (D : va_G) (h : Nat → Nat) (cy : Nat → ClassId) (σ : St) (y : Int32 × St) (hf : f_X3_importsHold σ = some y) : CI l yX3_importsHold cX3_importsHold 12 (some .boolean) 4 94 D h cy [.ref (h 46)] σ y := by
  refine ent (Qc := fun sz => QI D h cy sz y) (by decide) (Nat.le_of_ble_eq_true rfl) ?_
  intro p e s m below meth c ls X Z hr hk hl
  have X : Cx p s m _ c D h cy RX3 cX3_importsHold 12 := X
  have hx := X.x
  have hb := X.b
  have hl : lv_has ls 12 [(0, .ref (h 46))] := hl
  unfold f_X3_importsHold at hf
  refine lv_aload_n hx hb dX3_importsHold_0 rfl (lv_at hl 0 rfl) ?_
  refine lv_aload_n hx hb dX3_importsHold_1 rfl (lv_at hl 0 rfl) ?_
  refine gf_RX3_66 X Z dX3_importsHold_2 ?_
  refine lv_bipush (v := 16) hx hb dX3_importsHold_5 (by decide) ?_
  refine lv_iadd hx hb dX3_importsHold_7 ?_
  obtain ⟨r3, s2, h1, hf⟩ := bi_s hf
  refine goL Z (run_V (As := [.int (((σ.1 46 10) + (16 : Int32)))]) (rest := []) X Z (c_X3_u4 l D h cy (((σ.1 46 10) + (16 : Int32))) σ (r3, s2) h1 _) lk_RX3_91 ⟨by decide, by decide⟩ rv_46 rfl hl.1 rfl (Nat.le_of_ble_eq_true rfl) ⟨Nat.le_refl _, Nat.le_refl _⟩ dX3_importsHold_8) (fun H locs Z => ?_)
  refine lv_lstore_n (lv' := [(1, .long r3), (0, .ref (h 46))]) hx hb dX3_importsHold_11 rfl hl (by decide) rfl (fun ls hl => ?_)
  refine lv_aload_n hx hb dX3_importsHold_12 rfl (lv_at hl 1 rfl) ?_
  refine lv_lload_n hx hb dX3_importsHold_13 rfl (lv_at hl 0 rfl) ?_
  refine lv_ldc2 (v := 64) hx hb X.o (X.t _ kc_RX3_109) dX3_importsHold_14 ?_
  refine x_lif_gt (tgt := 25) X dX3_importsHold_17 dX3_importsHold_18 (by decide) (fun c4 => ?_) (fun c4 => ?_)
  · have hf := itp c4 hf
    refine lv_iconst (v := 0) hx hb dX3_importsHold_25 (by decide) ?_
    exact b_X3_importsHold_26 X hr hk r3 (0 : Int32) s2 _ hf _ _ _ Z (lv_sub hl [1, 0] rfl)
  · have hf := itn c4 hf
    refine lv_iconst (v := 1) hx hb dX3_importsHold_21 (by decide) ?_
    refine lv_goto (tgt := 26) hx hb dX3_importsHold_22 (by decide) ?_
    exact b_X3_importsHold_26 X hr hk r3 (1 : Int32) s2 _ hf _ _ _ Z (lv_sub hl [1, 0] rfl)

set_option maxRecDepth 100000 in
set_option maxHeartbeats 4000000 in
theorem c_X3_u2 (l : Launch) (D : va_G) (h : Nat → Nat) (cy : Nat → ClassId) (a1 : Int32) (σ : St) (y : Int32 × St) (hf : f_X3_u2 a1 σ = some y) : CI l yX3_u2 cX3_u2 2 (some .int) 1 26 D h cy [.ref (h 46), .int a1] σ y := by
  refine ent (Qc := fun sz => QI D h cy sz y) (by decide) (Nat.le_of_ble_eq_true rfl) ?_
  intro p e s m below meth c ls X Z hr hk hl
  have X : Cx p s m _ c D h cy RX3 cX3_u2 2 := X
  have hx := X.x
  have hb := X.b
  have hl : lv_has ls 2 [(0, .ref (h 46)), (1, .int a1)] := hl
  unfold f_X3_u2 at hf
  refine lv_aload_n hx hb dX3_u2_0 rfl (lv_at hl 0 rfl) ?_
  refine gf_RX3_9 X Z dX3_u2_1 ?_
  refine lv_iload_n hx hb dX3_u2_4 rfl (lv_at hl 1 rfl) ?_
  refine lv_iconst (v := 2) hx hb dX3_u2_5 (by decide) ?_
  obtain ⟨r3, s2, h1, hf⟩ := bi_s hf
  refine goL Z (run_V (As := [.int a1, .int (2 : Int32)]) (rest := []) X Z (c_X6_number l D h cy row_3 a1 (2 : Int32) σ (r3, s2) h1 _) lk_RX3_147 ⟨by decide, by decide⟩ (rv_RowS row_3) rfl hl.1 rfl (Nat.le_of_ble_eq_true rfl) ⟨Nat.le_refl _, Nat.le_refl _⟩ dX3_u2_6) (fun H locs Z => ?_)
  refine lv_l2i (v := r3.toInt32) hx hb dX3_u2_9 rfl ?_
  exact retI X hr hk Z hf dX3_u2_10

set_option maxRecDepth 100000 in
set_option maxHeartbeats 4000000 in
theorem c_X11_isPage (l : Launch) (D : va_G) (h : Nat → Nat) (cy : Nat → ClassId) (a0 : Int32) (σ : St) (y : Int32 × St) (hf : f_X11_isPage a0 σ = some y) : CI l yX11_isPage cX11_isPage 1 (some .boolean) 0 0 D h cy [.int a0] σ y := by
  refine ent (Qc := fun sz => QI D h cy sz y) (by decide) (Nat.le_of_ble_eq_true rfl) ?_
  intro p e s m below meth c ls X Z hr hk hl
  have X : Cx p s m _ c D h cy RX11 cX11_isPage 1 := X
  have hx := X.x
  have hb := X.b
  have hl : lv_has ls 1 [(0, .int a0)] := hl
  unfold f_X11_isPage at hf
  refine lv_iload_n hx hb dX11_isPage_0 rfl (lv_at hl 0 rfl) ?_
  refine lv_sipush (v := 256) hx hb dX11_isPage_1 (by decide) ?_
  refine lv_icmp_lt (tgt := 26) hx hb dX11_isPage_4 (by decide) (fun c1 => ?_) (fun c1 => ?_)
  · have hf := itp c1 hf
    refine lv_iconst (v := 0) hx hb dX11_isPage_26 (by decide) ?_
    exact retZ X hr hk Z (by decide) hf dX11_isPage_27
  · have hf := itn c1 hf
    refine lv_iload_n hx hb dX11_isPage_7 rfl (lv_at hl 0 rfl) ?_
    refine lv_sipush (v := 4096) hx hb dX11_isPage_8 (by decide) ?_
    refine lv_icmp_gt (tgt := 26) hx hb dX11_isPage_11 (by decide) (fun c2 => ?_) (fun c2 => ?_)
    · have hf := itp c2 hf
      refine lv_iconst (v := 0) hx hb dX11_isPage_26 (by decide) ?_
      exact retZ X hr hk Z (by decide) hf dX11_isPage_27
    · have hf := itn c2 hf
      refine lv_iload_n hx hb dX11_isPage_14 rfl (lv_at hl 0 rfl) ?_
      refine lv_iload_n hx hb dX11_isPage_15 rfl (lv_at hl 0 rfl) ?_
      refine lv_iconst (v := 1) hx hb dX11_isPage_16 (by decide) ?_
      refine lv_isub hx hb dX11_isPage_17 ?_
      refine lv_iand hx hb dX11_isPage_18 ?_
      refine lv_if_ne (tgt := 26) hx hb dX11_isPage_19 (by decide) (fun c3 => ?_) (fun c3 => ?_)
      · have hf := itn c3 hf
        refine lv_iconst (v := 0) hx hb dX11_isPage_26 (by decide) ?_
        exact retZ X hr hk Z (by decide) hf dX11_isPage_27
      · have hf := itp c3 hf
        refine lv_iconst (v := 1) hx hb dX11_isPage_22 (by decide) ?_
        refine lv_goto (tgt := 27) hx hb dX11_isPage_23 (by decide) ?_
        exact retZ X hr hk Z (by decide) hf dX11_isPage_27

set_option maxRecDepth 100000 in
set_option maxHeartbeats 4000000 in
theorem c_X11_pagesIn (l : Launch) (D : va_G) (h : Nat → Nat) (cy : Nat → ClassId) (a0 : Int32) (a1 : Int32) (σ : St) (y : Int32 × St) (hf : f_X11_pagesIn a0 a1 σ = some y) : CI l yX11_pagesIn cX11_pagesIn 2 (some .int) 0 0 D h cy [.int a0, .int a1] σ y := by
  refine ent (Qc := fun sz => QI D h cy sz y) (by decide) (Nat.le_of_ble_eq_true rfl) ?_
  intro p e s m below meth c ls X Z hr hk hl
  have X : Cx p s m _ c D h cy RX11 cX11_pagesIn 2 := X
  have hx := X.x
  have hb := X.b
  have hl : lv_has ls 2 [(0, .int a0), (1, .int a1)] := hl
  unfold f_X11_pagesIn at hf
  refine lv_iload_n hx hb dX11_pagesIn_0 rfl (lv_at hl 1 rfl) ?_
  refine lv_iconst (v := 1) hx hb dX11_pagesIn_1 (by decide) ?_
  refine lv_icmp_ge (tgt := 9) hx hb dX11_pagesIn_2 (by decide) (fun c1 => ?_) (fun c1 => ?_)
  · have hf := itp c1 hf
    refine lv_iload_n hx hb dX11_pagesIn_9 rfl (lv_at hl 0 rfl) ?_
    refine lv_iload_n hx hb dX11_pagesIn_10 rfl (lv_at hl 1 rfl) ?_
    refine lv_iadd hx hb dX11_pagesIn_11 ?_
    refine lv_iconst (v := 1) hx hb dX11_pagesIn_12 (by decide) ?_
    refine lv_isub hx hb dX11_pagesIn_13 ?_
    refine lv_iload_n hx hb dX11_pagesIn_14 rfl (lv_at hl 1 rfl) ?_
    obtain ⟨g2, hf⟩ := gd_s hf
    refine lv_idiv hx hb dX11_pagesIn_15 g2 ?_
    exact retI X hr hk Z hf dX11_pagesIn_16
  · have hf := itn c1 hf
    refine lv_iconst (v := 0) hx hb dX11_pagesIn_5 (by decide) ?_
    refine lv_goto (tgt := 16) hx hb dX11_pagesIn_6 (by decide) ?_
    exact retI X hr hk Z hf dX11_pagesIn_16

set_option maxRecDepth 100000 in
set_option maxHeartbeats 4000000 in
theorem b_X3_pagesHold_207 {p : Program} {l : Launch} {e : Env} {s : State} {m : MethodId} {args : Array Value} {below : List Frame} {meth : Method} {c : Code} {D : va_G} {h : Nat → Nat} {cy : Nat → ClassId} (X : Cx p s m args c D h cy RX3 cX3_pagesHold 6) (hr : meth.sig.returnType = some .boolean) (hk : meth.locks = false) (x2 : Int32) (t0 : Int32) (σ : St) (y : Int32 × St) (hf : f_X3_pagesHold_207 x2 t0 σ = some y) : ∀ (H : Heap) (locs : List Loc) (ls : Array Slot), Zt D h cy s σ H locs → lv_has ls 6 [(2, .int x2)] → W p l e (rmz 3 70) s m args below meth c H locs 0 0 (EI below args s D h cy y) (F0 m 207 ls [.int t0, .ref (h 46)]) := by
  intro H locs ls Z hl
  have hx := X.x
  have hb := X.b
  unfold f_X3_pagesHold_207 at hf
  refine lv_iload_n hx hb dX3_pagesHold_207 rfl (lv_at hl 0 rfl) ?_
  refine lv_bipush (v := 20) hx hb dX3_pagesHold_208 (by decide) ?_
  refine lv_iadd hx hb dX3_pagesHold_210 ?_
  obtain ⟨r56, s55, h54, hf⟩ := bi_s hf
  refine goI Z (run_V (As := [.int t0, .int ((x2 + (20 : Int32)))]) (rest := []) X Z (c_X3_needs l D h cy t0 ((x2 + (20 : Int32))) σ (r56, s55) h54 _) lk_RX3_95 ⟨by decide, by decide⟩ rv_46 rfl hl.1 rfl (Nat.le_of_ble_eq_true rfl) ⟨Nat.le_refl _, Nat.le_refl _⟩ dX3_pagesHold_211) (fun H locs Z => ?_)
  refine lv_if_eq (tgt := 221) hx hb dX3_pagesHold_214 (by decide) (fun c57 => ?_) (fun c57 => ?_)
  · have hf := itp c57 hf
    refine lv_iconst (v := 0) hx hb dX3_pagesHold_221 (by decide) ?_
    exact retZ X hr hk Z (by decide) hf dX3_pagesHold_222
  · have hf := itn c57 hf
    refine lv_iconst (v := 1) hx hb dX3_pagesHold_217 (by decide) ?_
    refine lv_goto (tgt := 222) hx hb dX3_pagesHold_218 (by decide) ?_
    exact retZ X hr hk Z (by decide) hf dX3_pagesHold_222

set_option maxRecDepth 100000 in
set_option maxHeartbeats 4000000 in
theorem b_X3_pagesHold_166 {p : Program} {l : Launch} {e : Env} {s : State} {m : MethodId} {args : Array Value} {below : List Frame} {meth : Method} {c : Code} {D : va_G} {h : Nat → Nat} {cy : Nat → ClassId} (X : Cx p s m args c D h cy RX3 cX3_pagesHold 6) (hr : meth.sig.returnType = some .boolean) (hk : meth.locks = false) (x1 : Int32) (x2 : Int32) (x4 : Int32) (t0 : Int32) (σ : St) (y : Int32 × St) (hf : f_X3_pagesHold_166 x1 x2 x4 t0 σ = some y) : ∀ (H : Heap) (locs : List Loc) (ls : Array Slot), Zt D h cy s σ H locs → lv_has ls 6 [(0, .ref (h 46)), (1, .int x1), (2, .int x2), (4, .int x4)] → W p l e (rmz 3 70) s m args below meth c H locs 0 0 (EI below args s D h cy y) (F0 m 166 ls [.int t0, .ref (h 46)]) := by
  intro H locs ls Z hl
  have hx := X.x
  have hb := X.b
  unfold f_X3_pagesHold_166 at hf
  refine lv_iload_n hx hb dX3_pagesHold_166 rfl (lv_at hl 2 rfl) ?_
  refine lv_bipush (v := 8) hx hb dX3_pagesHold_167 (by decide) ?_
  refine lv_iadd hx hb dX3_pagesHold_169 ?_
  obtain ⟨r44, s43, h42, hf⟩ := bi_s hf
  refine goI Z (run_V (As := [.int t0, .int ((x2 + (8 : Int32)))]) (rest := []) X Z (c_X3_needs l D h cy t0 ((x2 + (8 : Int32))) σ (r44, s43) h42 _) lk_RX3_95 ⟨by decide, by decide⟩ rv_46 rfl hl.1 rfl (Nat.le_of_ble_eq_true rfl) ⟨Nat.le_refl _, Nat.le_refl _⟩ dX3_pagesHold_170) (fun H locs Z => ?_)
  refine lv_if_eq (tgt := 221) hx hb dX3_pagesHold_173 (by decide) (fun c45 => ?_) (fun c45 => ?_)
  · have hf := itp c45 hf
    refine lv_iconst (v := 0) hx hb dX3_pagesHold_221 (by decide) ?_
    exact retZ X hr hk Z (by decide) hf dX3_pagesHold_222
  · have hf := itn c45 hf
    refine lv_aload_n hx hb dX3_pagesHold_176 rfl (lv_at hl 0 rfl) ?_
    refine lv_aload_n hx hb dX3_pagesHold_177 rfl (lv_at hl 0 rfl) ?_
    refine lv_iload_n hx hb dX3_pagesHold_178 rfl (lv_at hl 2 rfl) ?_
    refine lv_bipush (v := 20) hx hb dX3_pagesHold_179 (by decide) ?_
    refine lv_iadd hx hb dX3_pagesHold_181 ?_
    obtain ⟨r48, s47, h46, hf⟩ := bi_s hf
    refine goI Z (run_V (As := [.int ((x2 + (20 : Int32)))]) (rest := [.ref (h 46)]) X Z (c_X3_u2 l D h cy ((x2 + (20 : Int32))) s43 (r48, s47) h46 _) lk_RX3_133 ⟨by decide, by decide⟩ rv_46 rfl hl.1 rfl (Nat.le_of_ble_eq_true rfl) ⟨Nat.le_refl _, Nat.le_refl _⟩ dX3_pagesHold_182) (fun H locs Z => ?_)
    refine lv_aload_n hx hb dX3_pagesHold_185 rfl (lv_at hl 0 rfl) ?_
    refine gf_RX3_33 X Z dX3_pagesHold_186 ?_
    refine gf_RX3_151 X Z segs_41 dX3_pagesHold_189 ?_
    refine lv_iload_n hx hb dX3_pagesHold_192 rfl (lv_at hl 1 rfl) ?_
    obtain ⟨g49, hf⟩ := gd_s hf
    refine x_iald (k := 43) X Z sh_43 g49 dX3_pagesHold_193 ?_
    refine lv_iload hx hb dX3_pagesHold_194 (lv_at hl 3 rfl) ?_
    obtain ⟨r52, s51, h50, hf⟩ := bi_s hf
    refine goI Z (run_N (As := [.int (s47.1 43 x1.toNatClampNeg), .int x4]) (rest := [.int r48, .ref (h 46)]) X Z (c_X11_pagesIn l D h cy (s47.1 43 x1.toNatClampNeg) x4 s47 (r52, s51) h50 _) lk_RX3_154 ⟨by decide, by decide⟩ rfl hl.1 rfl (Nat.le_of_ble_eq_true rfl) ⟨Nat.le_refl _, Nat.le_refl _⟩ dX3_pagesHold_196) (fun H locs Z => ?_)
    refine lv_icmp_gt (tgt := 206) hx hb dX3_pagesHold_199 (by decide) (fun c53 => ?_) (fun c53 => ?_)
    · have hf := itp c53 hf
      refine lv_iconst (v := 0) hx hb dX3_pagesHold_206 (by decide) ?_
      exact b_X3_pagesHold_207 X hr hk x2 (0 : Int32) s51 _ hf _ _ _ Z (lv_sub hl [2] rfl)
    · have hf := itn c53 hf
      refine lv_iconst (v := 1) hx hb dX3_pagesHold_202 (by decide) ?_
      refine lv_goto (tgt := 207) hx hb dX3_pagesHold_203 (by decide) ?_
      exact b_X3_pagesHold_207 X hr hk x2 (1 : Int32) s51 _ hf _ _ _ Z (lv_sub hl [2] rfl)

set_option maxRecDepth 100000 in
set_option maxHeartbeats 4000000 in
theorem b_X3_pagesHold_116 {p : Program} {l : Launch} {e : Env} {s : State} {m : MethodId} {args : Array Value} {below : List Frame} {meth : Method} {c : Code} {D : va_G} {h : Nat → Nat} {cy : Nat → ClassId} (X : Cx p s m args c D h cy RX3 cX3_pagesHold 6) (hr : meth.sig.returnType = some .boolean) (hk : meth.locks = false) (x1 : Int32) (x2 : Int32) (x4 : Int32) (x5 : Int32) (t0 : Int32) (σ : St) (y : Int32 × St) (hf : f_X3_pagesHold_116 x1 x2 x4 x5 t0 σ = some y) : ∀ (H : Heap) (locs : List Loc) (ls : Array Slot), Zt D h cy s σ H locs → lv_has ls 6 [(0, .ref (h 46)), (1, .int x1), (2, .int x2), (4, .int x4), (5, .int x5)] → W p l e (rmz 3 70) s m args below meth c H locs 0 0 (EI below args s D h cy y) (F0 m 116 ls [.int t0, .ref (h 46)]) := by
  intro H locs ls Z hl
  have hx := X.x
  have hb := X.b
  unfold f_X3_pagesHold_116 at hf
  refine lv_iload_n hx hb dX3_pagesHold_116 rfl (lv_at hl 2 rfl) ?_
  refine lv_bipush (v := 6) hx hb dX3_pagesHold_117 (by decide) ?_
  refine lv_iadd hx hb dX3_pagesHold_119 ?_
  obtain ⟨r32, s31, h30, hf⟩ := bi_s hf
  refine goI Z (run_V (As := [.int t0, .int ((x2 + (6 : Int32)))]) (rest := []) X Z (c_X3_needs l D h cy t0 ((x2 + (6 : Int32))) σ (r32, s31) h30 _) lk_RX3_95 ⟨by decide, by decide⟩ rv_46 rfl hl.1 rfl (Nat.le_of_ble_eq_true rfl) ⟨Nat.le_refl _, Nat.le_refl _⟩ dX3_pagesHold_120) (fun H locs Z => ?_)
  refine lv_if_eq (tgt := 221) hx hb dX3_pagesHold_123 (by decide) (fun c33 => ?_) (fun c33 => ?_)
  · have hf := itp c33 hf
    refine lv_iconst (v := 0) hx hb dX3_pagesHold_221 (by decide) ?_
    exact retZ X hr hk Z (by decide) hf dX3_pagesHold_222
  · have hf := itn c33 hf
    refine lv_aload_n hx hb dX3_pagesHold_126 rfl (lv_at hl 0 rfl) ?_
    refine gf_RX3_23 X Z dX3_pagesHold_127 ?_
    refine lv_iload_n hx hb dX3_pagesHold_130 rfl (lv_at hl 2 rfl) ?_
    refine lv_bipush (v := 8) hx hb dX3_pagesHold_131 (by decide) ?_
    refine lv_iadd hx hb dX3_pagesHold_133 ?_
    obtain ⟨r36, s35, h34, hf⟩ := bi_s hf
    refine goI Z (run_V (As := [.int ((x2 + (8 : Int32)))]) (rest := []) X Z (c_X0_numberHolds l D h cy ((x2 + (8 : Int32))) s31 (r36, s35) h34 _) lk_RX3_144 ⟨by decide, by decide⟩ rv_40 rfl hl.1 rfl (Nat.le_of_ble_eq_true rfl) ⟨Nat.le_refl _, Nat.le_refl _⟩ dX3_pagesHold_134) (fun H locs Z => ?_)
    refine lv_if_eq (tgt := 221) hx hb dX3_pagesHold_137 (by decide) (fun c37 => ?_) (fun c37 => ?_)
    · have hf := itp c37 hf
      refine lv_iconst (v := 0) hx hb dX3_pagesHold_221 (by decide) ?_
      exact retZ X hr hk Z (by decide) hf dX3_pagesHold_222
    · have hf := itn c37 hf
      refine lv_aload_n hx hb dX3_pagesHold_140 rfl (lv_at hl 0 rfl) ?_
      refine lv_aload_n hx hb dX3_pagesHold_141 rfl (lv_at hl 0 rfl) ?_
      refine gf_RX3_9 X Z dX3_pagesHold_142 ?_
      refine lv_iload_n hx hb dX3_pagesHold_145 rfl (lv_at hl 2 rfl) ?_
      refine lv_bipush (v := 8) hx hb dX3_pagesHold_146 (by decide) ?_
      refine lv_iadd hx hb dX3_pagesHold_148 ?_
      refine lv_bipush (v := 8) hx hb dX3_pagesHold_149 (by decide) ?_
      obtain ⟨r40, s39, h38, hf⟩ := bi_s hf
      refine goL Z (run_V (As := [.int ((x2 + (8 : Int32))), .int (8 : Int32)]) (rest := [.ref (h 46)]) X Z (c_X6_number l D h cy row_3 ((x2 + (8 : Int32))) (8 : Int32) s35 (r40, s39) h38 _) lk_RX3_147 ⟨by decide, by decide⟩ (rv_RowS row_3) rfl hl.1 rfl (Nat.le_of_ble_eq_true rfl) ⟨Nat.le_refl _, Nat.le_refl _⟩ dX3_pagesHold_151) (fun H locs Z => ?_)
      refine lv_iload hx hb dX3_pagesHold_154 (lv_at hl 4 rfl) ?_
      refine lv_i2l (v := x5.toInt64) hx hb dX3_pagesHold_156 rfl ?_
      refine x_lif_ne (tgt := 165) X dX3_pagesHold_157 dX3_pagesHold_158 (by decide) (fun c41 => ?_) (fun c41 => ?_)
      · have hf := itn c41 hf
        refine lv_iconst (v := 0) hx hb dX3_pagesHold_165 (by decide) ?_
        exact b_X3_pagesHold_166 X hr hk x1 x2 x4 (0 : Int32) s39 _ hf _ _ _ Z (lv_sub hl [0, 1, 2, 3] rfl)
      · have hf := itp c41 hf
        refine lv_iconst (v := 1) hx hb dX3_pagesHold_161 (by decide) ?_
        refine lv_goto (tgt := 166) hx hb dX3_pagesHold_162 (by decide) ?_
        exact b_X3_pagesHold_166 X hr hk x1 x2 x4 (1 : Int32) s39 _ hf _ _ _ Z (lv_sub hl [0, 1, 2, 3] rfl)

set_option maxRecDepth 100000 in
set_option maxHeartbeats 4000000 in
theorem b_X3_pagesHold_76 {p : Program} {l : Launch} {e : Env} {s : State} {m : MethodId} {args : Array Value} {below : List Frame} {meth : Method} {c : Code} {D : va_G} {h : Nat → Nat} {cy : Nat → ClassId} (X : Cx p s m args c D h cy RX3 cX3_pagesHold 6) (hr : meth.sig.returnType = some .boolean) (hk : meth.locks = false) (x1 : Int32) (x2 : Int32) (x4 : Int32) (x5 : Int32) (t0 : Int32) (σ : St) (y : Int32 × St) (hf : f_X3_pagesHold_76 x1 x2 x4 x5 t0 σ = some y) : ∀ (H : Heap) (locs : List Loc) (ls : Array Slot), Zt D h cy s σ H locs → lv_has ls 6 [(0, .ref (h 46)), (1, .int x1), (2, .int x2), (4, .int x4), (5, .int x5)] → W p l e (rmz 3 70) s m args below meth c H locs 0 0 (EI below args s D h cy y) (F0 m 76 ls [.int t0, .ref (h 46)]) := by
  intro H locs ls Z hl
  have hx := X.x
  have hb := X.b
  unfold f_X3_pagesHold_76 at hf
  refine lv_iload_n hx hb dX3_pagesHold_76 rfl (lv_at hl 2 rfl) ?_
  obtain ⟨r17, s16, h15, hf⟩ := bi_s hf
  refine goI Z (run_V (As := [.int t0, .int x2]) (rest := []) X Z (c_X3_needs l D h cy t0 x2 σ (r17, s16) h15 _) lk_RX3_95 ⟨by decide, by decide⟩ rv_46 rfl hl.1 rfl (Nat.le_of_ble_eq_true rfl) ⟨Nat.le_refl _, Nat.le_refl _⟩ dX3_pagesHold_77) (fun H locs Z => ?_)
  refine lv_if_eq (tgt := 221) hx hb dX3_pagesHold_80 (by decide) (fun c18 => ?_) (fun c18 => ?_)
  · have hf := itp c18 hf
    refine lv_iconst (v := 0) hx hb dX3_pagesHold_221 (by decide) ?_
    exact retZ X hr hk Z (by decide) hf dX3_pagesHold_222
  · have hf := itn c18 hf
    refine lv_aload_n hx hb dX3_pagesHold_83 rfl (lv_at hl 0 rfl) ?_
    refine lv_iload hx hb dX3_pagesHold_84 (lv_at hl 3 rfl) ?_
    obtain ⟨r21, s20, h19, hf⟩ := bi_s hf
    refine goI Z (run_N (As := [.int x4]) (rest := [.ref (h 46)]) X Z (c_X11_isPage l D h cy x4 s16 (r21, s20) h19 _) lk_RX3_140 ⟨by decide, by decide⟩ rfl hl.1 rfl (Nat.le_of_ble_eq_true rfl) ⟨Nat.le_refl _, Nat.le_refl _⟩ dX3_pagesHold_86) (fun H locs Z => ?_)
    refine lv_iload_n hx hb dX3_pagesHold_89 rfl (lv_at hl 2 rfl) ?_
    refine lv_iconst (v := 4) hx hb dX3_pagesHold_90 (by decide) ?_
    refine lv_iadd hx hb dX3_pagesHold_91 ?_
    obtain ⟨r24, s23, h22, hf⟩ := bi_s hf
    refine goI Z (run_V (As := [.int r21, .int ((x2 + (4 : Int32)))]) (rest := []) X Z (c_X3_needs l D h cy r21 ((x2 + (4 : Int32))) s20 (r24, s23) h22 _) lk_RX3_95 ⟨by decide, by decide⟩ rv_46 rfl hl.1 rfl (Nat.le_of_ble_eq_true rfl) ⟨Nat.le_refl _, Nat.le_refl _⟩ dX3_pagesHold_92) (fun H locs Z => ?_)
    refine lv_if_eq (tgt := 221) hx hb dX3_pagesHold_95 (by decide) (fun c25 => ?_) (fun c25 => ?_)
    · have hf := itp c25 hf
      refine lv_iconst (v := 0) hx hb dX3_pagesHold_221 (by decide) ?_
      exact retZ X hr hk Z (by decide) hf dX3_pagesHold_222
    · have hf := itn c25 hf
      refine lv_aload_n hx hb dX3_pagesHold_98 rfl (lv_at hl 0 rfl) ?_
      refine lv_aload_n hx hb dX3_pagesHold_99 rfl (lv_at hl 0 rfl) ?_
      refine lv_iload_n hx hb dX3_pagesHold_100 rfl (lv_at hl 2 rfl) ?_
      refine lv_bipush (v := 6) hx hb dX3_pagesHold_101 (by decide) ?_
      refine lv_iadd hx hb dX3_pagesHold_103 ?_
      obtain ⟨r28, s27, h26, hf⟩ := bi_s hf
      refine goI Z (run_V (As := [.int ((x2 + (6 : Int32)))]) (rest := [.ref (h 46)]) X Z (c_X3_u2 l D h cy ((x2 + (6 : Int32))) s23 (r28, s27) h26 _) lk_RX3_133 ⟨by decide, by decide⟩ rv_46 rfl hl.1 rfl (Nat.le_of_ble_eq_true rfl) ⟨Nat.le_refl _, Nat.le_refl _⟩ dX3_pagesHold_104) (fun H locs Z => ?_)
      refine lv_iconst (v := 2) hx hb dX3_pagesHold_107 (by decide) ?_
      refine lv_icmp_ne (tgt := 115) hx hb dX3_pagesHold_108 (by decide) (fun c29 => ?_) (fun c29 => ?_)
      · have hf := itn c29 hf
        refine lv_iconst (v := 0) hx hb dX3_pagesHold_115 (by decide) ?_
        exact b_X3_pagesHold_116 X hr hk x1 x2 x4 x5 (0 : Int32) s27 _ hf _ _ _ Z (lv_sub hl [0, 1, 2, 3, 4] rfl)
      · have hf := itp c29 hf
        refine lv_iconst (v := 1) hx hb dX3_pagesHold_111 (by decide) ?_
        refine lv_goto (tgt := 116) hx hb dX3_pagesHold_112 (by decide) ?_
        exact b_X3_pagesHold_116 X hr hk x1 x2 x4 x5 (1 : Int32) s27 _ hf _ _ _ Z (lv_sub hl [0, 1, 2, 3, 4] rfl)

set_option maxRecDepth 100000 in
set_option maxHeartbeats 4000000 in
theorem b_X3_pagesHold_75 {p : Program} {l : Launch} {e : Env} {s : State} {m : MethodId} {args : Array Value} {below : List Frame} {meth : Method} {c : Code} {D : va_G} {h : Nat → Nat} {cy : Nat → ClassId} (X : Cx p s m args c D h cy RX3 cX3_pagesHold 6) (hr : meth.sig.returnType = some .boolean) (hk : meth.locks = false) (x1 : Int32) (x2 : Int32) (x4 : Int32) (x5 : Int32) (σ : St) (y : Int32 × St) (hf : f_X3_pagesHold_75 x1 x2 x4 x5 σ = some y) : ∀ (H : Heap) (locs : List Loc) (ls : Array Slot), Zt D h cy s σ H locs → lv_has ls 6 [(0, .ref (h 46)), (1, .int x1), (2, .int x2), (4, .int x4), (5, .int x5)] → W p l e (rmz 3 70) s m args below meth c H locs 0 0 (EI below args s D h cy y) (F0 m 75 ls [.ref (h 46)]) := by
  intro H locs ls Z hl
  have hx := X.x
  have hb := X.b
  unfold f_X3_pagesHold_75 at hf
  refine lv_iconst (v := 0) hx hb dX3_pagesHold_75 (by decide) ?_
  exact b_X3_pagesHold_76 X hr hk x1 x2 x4 x5 (0 : Int32) σ _ hf _ _ _ Z (lv_sub hl [0, 1, 2, 3, 4] rfl)

set_option maxRecDepth 100000 in
set_option maxHeartbeats 4000000 in
theorem c_X3_pagesHold (l : Launch) (D : va_G) (h : Nat → Nat) (cy : Nat → ClassId) (a1 : Int32) (a2 : Int32) (σ : St) (y : Int32 × St) (hf : f_X3_pagesHold a1 a2 σ = some y) : CI l yX3_pagesHold cX3_pagesHold 6 (some .boolean) 3 70 D h cy [.ref (h 46), .int a1, .int a2] σ y := by
  refine ent (Qc := fun sz => QI D h cy sz y) (by decide) (Nat.le_of_ble_eq_true rfl) ?_
  intro p e s m below meth c ls X Z hr hk hl
  have X : Cx p s m _ c D h cy RX3 cX3_pagesHold 6 := X
  have hx := X.x
  have hb := X.b
  have hl : lv_has ls 6 [(0, .ref (h 46)), (1, .int a1), (2, .int a2)] := hl
  unfold f_X3_pagesHold at hf
  refine lv_bipush (v := 22) hx hb dX3_pagesHold_0 (by decide) ?_
  refine lv_iconst (v := 2) hx hb dX3_pagesHold_2 (by decide) ?_
  refine lv_aload_n hx hb dX3_pagesHold_3 rfl (lv_at hl 0 rfl) ?_
  refine lv_iload_n hx hb dX3_pagesHold_4 rfl (lv_at hl 2 rfl) ?_
  refine lv_bipush (v := 20) hx hb dX3_pagesHold_5 (by decide) ?_
  refine lv_iadd hx hb dX3_pagesHold_7 ?_
  obtain ⟨r3, s2, h1, hf⟩ := bi_s hf
  refine goI Z (run_V (As := [.int ((a2 + (20 : Int32)))]) (rest := [.int (2 : Int32), .int (22 : Int32)]) X Z (c_X3_u2 l D h cy ((a2 + (20 : Int32))) σ (r3, s2) h1 _) lk_RX3_133 ⟨by decide, by decide⟩ rv_46 rfl hl.1 rfl (Nat.le_of_ble_eq_true rfl) ⟨Nat.le_refl _, Nat.le_refl _⟩ dX3_pagesHold_8) (fun H locs Z => ?_)
  refine lv_imul hx hb dX3_pagesHold_11 ?_
  refine lv_iadd hx hb dX3_pagesHold_12 ?_
  refine lv_topi (fun v4 ev4 => ?_)
  have hf := zn_e ev4 hf
  refine lv_istore_n (lv' := [(3, .int v4), (0, .ref (h 46)), (1, .int a1), (2, .int a2)]) hx hb dX3_pagesHold_13 rfl hl (by decide) rfl (fun ls hl => ?_)
  refine lv_aload_n hx hb dX3_pagesHold_14 rfl (lv_at hl 1 rfl) ?_
  refine lv_iload_n hx hb dX3_pagesHold_15 rfl (lv_at hl 3 rfl) ?_
  refine lv_iconst (v := 4) hx hb dX3_pagesHold_16 (by decide) ?_
  refine lv_iadd hx hb dX3_pagesHold_17 ?_
  obtain ⟨r7, s6, h5, hf⟩ := bi_s hf
  refine goI Z (run_V (As := [.int ((a2 + (4 : Int32)))]) (rest := []) X Z (c_X3_u2 l D h cy ((a2 + (4 : Int32))) s2 (r7, s6) h5 _) lk_RX3_133 ⟨by decide, by decide⟩ rv_46 rfl hl.1 rfl (Nat.le_of_ble_eq_true rfl) ⟨Nat.le_refl _, Nat.le_refl _⟩ dX3_pagesHold_18) (fun H locs Z => ?_)
  refine lv_istore (lv' := [(4, .int r7), (3, .int v4), (0, .ref (h 46)), (1, .int a1), (2, .int a2)]) hx hb dX3_pagesHold_21 hl (by decide) rfl (fun ls hl => ?_)
  refine lv_aload_n hx hb dX3_pagesHold_23 rfl (lv_at hl 2 rfl) ?_
  refine gf_RX3_33 X Z dX3_pagesHold_24 ?_
  refine gf_RX3_137 X Z segs_41 dX3_pagesHold_27 ?_
  refine lv_iload_n hx hb dX3_pagesHold_30 rfl (lv_at hl 3 rfl) ?_
  obtain ⟨g8, hf⟩ := gd_s hf
  refine x_iald (k := 42) X Z sh_42 g8 dX3_pagesHold_31 ?_
  refine lv_aload_n hx hb dX3_pagesHold_32 rfl (lv_at hl 2 rfl) ?_
  refine gf_RX3_33 X Z dX3_pagesHold_33 ?_
  refine gf_RX3_137 X Z segs_41 dX3_pagesHold_36 ?_
  refine lv_iconst (v := 0) hx hb dX3_pagesHold_39 (by decide) ?_
  obtain ⟨g9, hf⟩ := gd_s hf
  refine x_iald (k := 42) X Z sh_42 g9 dX3_pagesHold_40 ?_
  refine lv_isub hx hb dX3_pagesHold_41 ?_
  refine lv_topi (fun v10 ev10 => ?_)
  have hf := zn_e ev10 hf
  refine lv_istore (lv' := [(5, .int v10), (4, .int r7), (3, .int v4), (0, .ref (h 46)), (1, .int a1), (2, .int a2)]) hx hb dX3_pagesHold_42 hl (by decide) rfl (fun ls hl => ?_)
  refine lv_aload_n hx hb dX3_pagesHold_44 rfl (lv_at hl 3 rfl) ?_
  refine lv_aload_n hx hb dX3_pagesHold_45 rfl (lv_at hl 3 rfl) ?_
  refine lv_iload_n hx hb dX3_pagesHold_46 rfl (lv_at hl 5 rfl) ?_
  obtain ⟨r13, s12, h11, hf⟩ := bi_s hf
  refine goL Z (run_V (As := [.int a2]) (rest := [.ref (h 46)]) X Z (c_X3_u4 l D h cy a2 s6 (r13, s12) h11 _) lk_RX3_91 ⟨by decide, by decide⟩ rv_46 rfl hl.1 rfl (Nat.le_of_ble_eq_true rfl) ⟨Nat.le_refl _, Nat.le_refl _⟩ dX3_pagesHold_47) (fun H locs Z => ?_)
  refine lv_iload_n hx hb dX3_pagesHold_50 rfl (lv_at hl 2 rfl) ?_
  refine lv_i2l (v := v4.toInt64) hx hb dX3_pagesHold_51 rfl ?_
  refine x_lif_ne (tgt := 75) X dX3_pagesHold_52 dX3_pagesHold_53 (by decide) (fun c14 => ?_) (fun c14 => ?_)
  · have hf := itn c14 hf
    exact b_X3_pagesHold_75 X hr hk a1 a2 r7 v10 s12 _ hf _ _ _ Z (lv_sub hl [3, 4, 5, 1, 0] rfl)
  · have hf := itp c14 hf
    refine lv_iload_n hx hb dX3_pagesHold_56 rfl (lv_at hl 5 rfl) ?_
    refine lv_aload_n hx hb dX3_pagesHold_57 rfl (lv_at hl 3 rfl) ?_
    refine gf_RX3_66 X Z dX3_pagesHold_58 ?_
    refine lv_isub hx hb dX3_pagesHold_61 ?_
    refine lv_iload_n hx hb dX3_pagesHold_62 rfl (lv_at hl 2 rfl) ?_
    refine lv_iadd hx hb dX3_pagesHold_63 ?_
    refine lv_aload_n hx hb dX3_pagesHold_64 rfl (lv_at hl 3 rfl) ?_
    refine gf_RX3_72 X Z dX3_pagesHold_65 ?_
    refine lv_icmp_gt (tgt := 75) hx hb dX3_pagesHold_68 (by decide) (fun c58 => ?_) (fun c58 => ?_)
    · have hf := itp c58 hf
      exact b_X3_pagesHold_75 X hr hk a1 a2 r7 v10 s12 _ hf _ _ _ Z (lv_sub hl [3, 4, 5, 1, 0] rfl)
    · have hf := itn c58 hf
      refine lv_iconst (v := 1) hx hb dX3_pagesHold_71 (by decide) ?_
      refine lv_goto (tgt := 76) hx hb dX3_pagesHold_72 (by decide) ?_
      exact b_X3_pagesHold_76 X hr hk a1 a2 r7 v10 (1 : Int32) s12 _ hf _ _ _ Z (lv_sub hl [3, 4, 5, 1, 0] rfl)

set_option maxRecDepth 100000 in
set_option maxHeartbeats 4000000 in
theorem b_X3_allPagesHold_117 {p : Program} {l : Launch} {e : Env} {s : State} {m : MethodId} {args : Array Value} {below : List Frame} {meth : Method} {c : Code} {D : va_G} {h : Nat → Nat} {cy : Nat → ClassId} (X : Cx p s m args c D h cy RX3 cX3_allPagesHold 5) (hr : meth.sig.returnType = some .boolean) (hk : meth.locks = false) (K2 : (Int32 × St) → Option (Int32 × St)) (hK2 : ∀ (a : Int32 × St) (y : Int32 × St), K2 a = some y → ∀ (H : Heap) (locs : List Loc) (ls : Array Slot), Zt D h cy s a.2 H locs → lv_has ls 5 [(0, .ref (h 46)), (1, .int a.1)] → W p l e (rmz 4 95) s m args below meth c H locs 0 0 (EI below args s D h cy y) (F0 m 2 ls [])) (x1 : Int32) (σ : St) (y : Int32 × St) (hf : f_X3_allPagesHold_117 K2 x1 σ = some y) : ∀ (H : Heap) (locs : List Loc) (ls : Array Slot), Zt D h cy s σ H locs → lv_has ls 5 [(0, .ref (h 46)), (1, .int x1)] → W p l e (rmz 4 95) s m args below meth c H locs 0 0 (EI below args s D h cy y) (F0 m 117 ls []) := by
  intro H locs ls Z hl
  have hx := X.x
  have hb := X.b
  unfold f_X3_allPagesHold_117 at hf
  obtain ⟨v10, ev10⟩ : ∃ z : Int32, z = x1 + 1 := ⟨_, rfl⟩
  have hf := zn_e ev10 hf
  refine lv_iinc (v := v10) (lv' := [(1, .int v10), (0, .ref (h 46))]) hx hb dX3_allPagesHold_117 hl (k := 1) rfl (by rw [ev10]; rfl) (by decide) rfl (fun ls hl => ?_)
  refine lv_goto (tgt := 2) hx hb dX3_allPagesHold_120 (by decide) ?_
  exact hK2 (v10, σ) _ hf _ _ _ Z (lv_sub hl [1, 0] rfl)

set_option maxRecDepth 100000 in
set_option maxHeartbeats 4000000 in
theorem b_X3_allPagesHold_74 {p : Program} {l : Launch} {e : Env} {s : State} {m : MethodId} {args : Array Value} {below : List Frame} {meth : Method} {c : Code} {D : va_G} {h : Nat → Nat} {cy : Nat → ClassId} (X : Cx p s m args c D h cy RX3 cX3_allPagesHold 5) (hr : meth.sig.returnType = some .boolean) (hk : meth.locks = false) (K2 : (Int32 × St) → Option (Int32 × St)) (hK2 : ∀ (a : Int32 × St) (y : Int32 × St), K2 a = some y → ∀ (H : Heap) (locs : List Loc) (ls : Array Slot), Zt D h cy s a.2 H locs → lv_has ls 5 [(0, .ref (h 46)), (1, .int a.1)] → W p l e (rmz 4 95) s m args below meth c H locs 0 0 (EI below args s D h cy y) (F0 m 2 ls [])) (x1 : Int32) (x2 : Int32) (x3 : Int64) (t0 : Int32) (σ : St) (y : Int32 × St) (hf : f_X3_allPagesHold_74 K2 x1 x2 x3 t0 σ = some y) : ∀ (H : Heap) (locs : List Loc) (ls : Array Slot), Zt D h cy s σ H locs → lv_has ls 5 [(0, .ref (h 46)), (1, .int x1), (2, .int x2), (3, .long x3)] → W p l e (rmz 4 95) s m args below meth c H locs 0 0 (EI below args s D h cy y) (F0 m 74 ls [.int t0, .ref (h 46)]) := by
  intro H locs ls Z hl
  have hx := X.x
  have hb := X.b
  unfold f_X3_allPagesHold_74 at hf
  refine lv_iload_n hx hb dX3_allPagesHold_74 rfl (lv_at hl 2 rfl) ?_
  obtain ⟨r14, s13, h12, hf⟩ := bi_s hf
  refine goI Z (run_V (As := [.int t0, .int x2]) (rest := []) X Z (c_X3_needs l D h cy t0 x2 σ (r14, s13) h12 _) lk_RX3_95 ⟨by decide, by decide⟩ rv_46 rfl hl.1 rfl (Nat.le_of_ble_eq_true rfl) ⟨Nat.le_refl _, Nat.le_refl _⟩ dX3_allPagesHold_75) (fun H locs Z => ?_)
  refine lv_if_ne (tgt := 83) hx hb dX3_allPagesHold_78 (by decide) (fun c15 => ?_) (fun c15 => ?_)
  · have hf := itn c15 hf
    refine lv_aload_n hx hb dX3_allPagesHold_83 rfl (lv_at hl 0 rfl) ?_
    refine gf_RX3_41 X Z dX3_allPagesHold_84 ?_
    refine lv_iload_n hx hb dX3_allPagesHold_87 rfl (lv_at hl 1 rfl) ?_
    refine lv_aload_n hx hb dX3_allPagesHold_88 rfl (lv_at hl 0 rfl) ?_
    refine gf_RX3_66 X Z dX3_allPagesHold_89 ?_
    refine lv_aload_n hx hb dX3_allPagesHold_92 rfl (lv_at hl 0 rfl) ?_
    refine gf_RX3_101 X Z dX3_allPagesHold_93 ?_
    refine lv_iadd hx hb dX3_allPagesHold_96 ?_
    refine lv_lload_n hx hb dX3_allPagesHold_97 rfl (lv_at hl 3 rfl) ?_
    refine lv_l2i (v := x3.toInt32) hx hb dX3_allPagesHold_98 rfl ?_
    refine lv_iadd hx hb dX3_allPagesHold_99 ?_
    obtain ⟨g16, hf⟩ := gd_s hf
    refine x_iast (k := 50) X Z sh_50 g16 dX3_allPagesHold_100 (fun s17 H locs es17 Z => ?_)
    have hf := zn_e es17 hf
    refine lv_aload_n hx hb dX3_allPagesHold_101 rfl (lv_at hl 0 rfl) ?_
    refine lv_iload_n hx hb dX3_allPagesHold_102 rfl (lv_at hl 1 rfl) ?_
    refine lv_aload_n hx hb dX3_allPagesHold_103 rfl (lv_at hl 0 rfl) ?_
    refine gf_RX3_41 X Z dX3_allPagesHold_104 ?_
    refine lv_iload_n hx hb dX3_allPagesHold_107 rfl (lv_at hl 1 rfl) ?_
    obtain ⟨g18, hf⟩ := gd_s hf
    refine x_iald (k := 50) X Z sh_50 g18 dX3_allPagesHold_108 ?_
    obtain ⟨r21, s20, h19, hf⟩ := bi_s hf
    refine goI Z (run_V (As := [.int x1, .int (s17.1 50 x1.toNatClampNeg)]) (rest := []) X Z (c_X3_pagesHold l D h cy x1 (s17.1 50 x1.toNatClampNeg) s17 (r21, s20) h19 _) lk_RX3_129 ⟨by decide, by decide⟩ rv_46 rfl hl.1 rfl (Nat.le_of_ble_eq_true rfl) ⟨Nat.le_refl _, Nat.le_refl _⟩ dX3_allPagesHold_109) (fun H locs Z => ?_)
    refine lv_if_ne (tgt := 117) hx hb dX3_allPagesHold_112 (by decide) (fun c22 => ?_) (fun c22 => ?_)
    · have hf := itn c22 hf
      exact b_X3_allPagesHold_117 X hr hk K2 hK2 x1 s20 _ hf _ _ _ Z (lv_sub hl [0, 1] rfl)
    · have hf := itp c22 hf
      refine lv_iconst (v := 0) hx hb dX3_allPagesHold_115 (by decide) ?_
      exact retZ X hr hk Z (by decide) hf dX3_allPagesHold_116
  · have hf := itp c15 hf
    refine lv_iconst (v := 0) hx hb dX3_allPagesHold_81 (by decide) ?_
    exact retZ X hr hk Z (by decide) hf dX3_allPagesHold_82

set_option maxRecDepth 100000 in
set_option maxHeartbeats 4000000 in
theorem b_X3_allPagesHold_2b {p : Program} {l : Launch} {e : Env} {s : State} {m : MethodId} {args : Array Value} {below : List Frame} {meth : Method} {c : Code} {D : va_G} {h : Nat → Nat} {cy : Nat → ClassId} (X : Cx p s m args c D h cy RX3 cX3_allPagesHold 5) (hr : meth.sig.returnType = some .boolean) (hk : meth.locks = false) (K2 : (Int32 × St) → Option (Int32 × St)) (hK2 : ∀ (a : Int32 × St) (y : Int32 × St), K2 a = some y → ∀ (H : Heap) (locs : List Loc) (ls : Array Slot), Zt D h cy s a.2 H locs → lv_has ls 5 [(0, .ref (h 46)), (1, .int a.1)] → W p l e (rmz 4 95) s m args below meth c H locs 0 0 (EI below args s D h cy y) (F0 m 2 ls [])) (x1 : Int32) (σ : St) (y : Int32 × St) (hf : f_X3_allPagesHold_2b K2 x1 σ = some y) : ∀ (H : Heap) (locs : List Loc) (ls : Array Slot), Zt D h cy s σ H locs → lv_has ls 5 [(0, .ref (h 46)), (1, .int x1)] → W p l e (rmz 4 95) s m args below meth c H locs 0 0 (EI below args s D h cy y) (F0 m 2 ls []) := by
  intro H locs ls Z hl
  have hx := X.x
  have hb := X.b
  unfold f_X3_allPagesHold_2b at hf
  refine lv_iload_n hx hb dX3_allPagesHold_2 rfl (lv_at hl 1 rfl) ?_
  refine lv_aload_n hx hb dX3_allPagesHold_3 rfl (lv_at hl 0 rfl) ?_
  refine gf_RX3_33 X Z dX3_allPagesHold_4 ?_
  refine gf_RX3_104 X Z segs_41 dX3_allPagesHold_7 ?_
  refine lv_icmp_ge (tgt := 123) hx hb dX3_allPagesHold_10 (by decide) (fun c2 => ?_) (fun c2 => ?_)
  · have hf := itp c2 hf
    refine lv_iconst (v := 1) hx hb dX3_allPagesHold_123 (by decide) ?_
    exact retZ X hr hk Z (by decide) hf dX3_allPagesHold_124
  · have hf := itn c2 hf
    refine lv_aload_n hx hb dX3_allPagesHold_13 rfl (lv_at hl 0 rfl) ?_
    refine gf_RX3_41 X Z dX3_allPagesHold_14 ?_
    refine lv_iload_n hx hb dX3_allPagesHold_17 rfl (lv_at hl 1 rfl) ?_
    refine lv_iconst (v := (-1)) hx hb dX3_allPagesHold_18 (by decide) ?_
    obtain ⟨g3, hf⟩ := gd_s hf
    refine x_iast (k := 50) X Z sh_50 g3 dX3_allPagesHold_19 (fun s4 H locs es4 Z => ?_)
    have hf := zn_e es4 hf
    refine lv_aload_n hx hb dX3_allPagesHold_20 rfl (lv_at hl 0 rfl) ?_
    refine gf_RX3_66 X Z dX3_allPagesHold_21 ?_
    refine lv_aload_n hx hb dX3_allPagesHold_24 rfl (lv_at hl 0 rfl) ?_
    refine gf_RX3_101 X Z dX3_allPagesHold_25 ?_
    refine lv_iadd hx hb dX3_allPagesHold_28 ?_
    refine lv_iconst (v := 4) hx hb dX3_allPagesHold_29 (by decide) ?_
    refine lv_iadd hx hb dX3_allPagesHold_30 ?_
    refine lv_iconst (v := 4) hx hb dX3_allPagesHold_31 (by decide) ?_
    refine lv_iload_n hx hb dX3_allPagesHold_32 rfl (lv_at hl 1 rfl) ?_
    refine lv_imul hx hb dX3_allPagesHold_33 ?_
    refine lv_iadd hx hb dX3_allPagesHold_34 ?_
    refine lv_topi (fun v5 ev5 => ?_)
    have hf := zn_e ev5 hf
    refine lv_istore_n (lv' := [(2, .int v5), (0, .ref (h 46)), (1, .int x1)]) hx hb dX3_allPagesHold_35 rfl hl (by decide) rfl (fun ls hl => ?_)
    refine lv_aload_n hx hb dX3_allPagesHold_36 rfl (lv_at hl 1 rfl) ?_
    refine lv_iload_n hx hb dX3_allPagesHold_37 rfl (lv_at hl 0 rfl) ?_
    obtain ⟨r8, s7, h6, hf⟩ := bi_s hf
    refine goL Z (run_V (As := [.int v5]) (rest := []) X Z (c_X3_u4 l D h cy v5 s4 (r8, s7) h6 _) lk_RX3_91 ⟨by decide, by decide⟩ rv_46 rfl hl.1 rfl (Nat.le_of_ble_eq_true rfl) ⟨Nat.le_refl _, Nat.le_refl _⟩ dX3_allPagesHold_38) (fun H locs Z => ?_)
    refine lv_lstore_n (lv' := [(3, .long r8), (2, .int v5), (0, .ref (h 46)), (1, .int x1)]) hx hb dX3_allPagesHold_41 rfl hl (by decide) rfl (fun ls hl => ?_)
    refine lv_lload_n hx hb dX3_allPagesHold_42 rfl (lv_at hl 0 rfl) ?_
    refine lv_lconst (v := 0) hx hb dX3_allPagesHold_43 (by decide) ?_
    refine x_lif_eq (tgt := 117) X dX3_allPagesHold_44 dX3_allPagesHold_45 (by decide) (fun c9 => ?_) (fun c9 => ?_)
    · have hf := itp c9 hf
      exact b_X3_allPagesHold_117 X hr hk K2 hK2 x1 s7 _ hf _ _ _ Z (lv_sub hl [2, 3] rfl)
    · have hf := itn c9 hf
      refine lv_aload_n hx hb dX3_allPagesHold_48 rfl (lv_at hl 2 rfl) ?_
      refine lv_aload_n hx hb dX3_allPagesHold_49 rfl (lv_at hl 2 rfl) ?_
      refine gf_RX3_101 X Z dX3_allPagesHold_50 ?_
      refine lv_i2l (v := (s7.1 46 12).toInt64) hx hb dX3_allPagesHold_53 rfl ?_
      refine lv_lload_n hx hb dX3_allPagesHold_54 rfl (lv_at hl 0 rfl) ?_
      refine lv_ladd hx hb dX3_allPagesHold_55 ?_
      refine lv_ldc2 (v := 22) hx hb X.o (X.t _ kc_RX3_127) dX3_allPagesHold_56 ?_
      refine lv_ladd hx hb dX3_allPagesHold_59 ?_
      refine lv_aload_n hx hb dX3_allPagesHold_60 rfl (lv_at hl 2 rfl) ?_
      refine gf_RX3_72 X Z dX3_allPagesHold_61 ?_
      refine lv_i2l (v := (s7.1 46 11).toInt64) hx hb dX3_allPagesHold_64 rfl ?_
      refine x_lif_gt (tgt := 73) X dX3_allPagesHold_65 dX3_allPagesHold_66 (by decide) (fun c11 => ?_) (fun c11 => ?_)
      · have hf := itp c11 hf
        refine lv_iconst (v := 0) hx hb dX3_allPagesHold_73 (by decide) ?_
        exact b_X3_allPagesHold_74 X hr hk K2 hK2 x1 v5 r8 (0 : Int32) s7 _ hf _ _ _ Z (lv_sub hl [2, 3, 1, 0] rfl)
      · have hf := itn c11 hf
        refine lv_iconst (v := 1) hx hb dX3_allPagesHold_69 (by decide) ?_
        refine lv_goto (tgt := 74) hx hb dX3_allPagesHold_70 (by decide) ?_
        exact b_X3_allPagesHold_74 X hr hk K2 hK2 x1 v5 r8 (1 : Int32) s7 _ hf _ _ _ Z (lv_sub hl [2, 3, 1, 0] rfl)

set_option maxRecDepth 100000 in
set_option maxHeartbeats 4000000 in
theorem b_X3_allPagesHold_2 {p : Program} {l : Launch} {e : Env} {s : State} {m : MethodId} {args : Array Value} {below : List Frame} {meth : Method} {c : Code} {D : va_G} {h : Nat → Nat} {cy : Nat → ClassId} (X : Cx p s m args c D h cy RX3 cX3_allPagesHold 5) (hr : meth.sig.returnType = some .boolean) (hk : meth.locks = false) (x1 : Int32) (σ : St) (y : Int32 × St) (hf : f_X3_allPagesHold_2 x1 σ = some y) : ∀ (H : Heap) (locs : List Loc) (ls : Array Slot), Zt D h cy s σ H locs → lv_has ls 5 [(0, .ref (h 46)), (1, .int x1)] → W p l e (rmz 4 95) s m args below meth c H locs 0 0 (EI below args s D h cy y) (F0 m 2 ls []) := by
  exact it_W (F := fun K a => f_X3_allPagesHold_2b K a.1 a.2) (P := fun a y => ∀ (H : Heap) (locs : List Loc) (ls : Array Slot), Zt D h cy s a.2 H locs → lv_has ls 5 [(0, .ref (h 46)), (1, .int a.1)] → W p l e (rmz 4 95) s m args below meth c H locs 0 0 (EI below args s D h cy y) (F0 m 2 ls [])) (fun K hK a y hf => b_X3_allPagesHold_2b X hr hk K hK (a.1) (a.2) y hf) FU _ y hf

set_option maxRecDepth 100000 in
set_option maxHeartbeats 4000000 in
theorem c_X3_allPagesHold (l : Launch) (D : va_G) (h : Nat → Nat) (cy : Nat → ClassId) (σ : St) (y : Int32 × St) (hf : f_X3_allPagesHold σ = some y) : CI l yX3_allPagesHold cX3_allPagesHold 5 (some .boolean) 4 95 D h cy [.ref (h 46)] σ y := by
  refine ent (Qc := fun sz => QI D h cy sz y) (by decide) (Nat.le_of_ble_eq_true rfl) ?_
  intro p e s m below meth c ls X Z hr hk hl
  have X : Cx p s m _ c D h cy RX3 cX3_allPagesHold 5 := X
  have hx := X.x
  have hb := X.b
  have hl : lv_has ls 5 [(0, .ref (h 46))] := hl
  unfold f_X3_allPagesHold at hf
  refine lv_iconst (v := 0) hx hb dX3_allPagesHold_0 (by decide) ?_
  refine lv_topi (fun v1 ev1 => ?_)
  have hf := zn_e ev1 hf
  refine lv_istore_n (lv' := [(1, .int v1), (0, .ref (h 46))]) hx hb dX3_allPagesHold_1 rfl hl (by decide) rfl (fun ls hl => ?_)
  exact b_X3_allPagesHold_2 X hr hk v1 σ _ hf _ _ _ Z (lv_sub hl [1, 0] rfl)

set_option maxRecDepth 100000 in
set_option maxHeartbeats 4000000 in
theorem b_X7_pointerBits_50 {p : Program} {l : Launch} {e : Env} {s : State} {m : MethodId} {args : Array Value} {below : List Frame} {meth : Method} {c : Code} {D : va_G} {h : Nat → Nat} {cy : Nat → ClassId} (X : Cx p s m args c D h cy RX7 cX7_pointerBits 7) (hr : meth.sig.returnType = some .long) (hk : meth.locks = false) {k0 : Nat} {k1 n1 : Nat} (hR0 : SegsS k0) (hR1 : RowS k1 n1) (K11 : (Int32 × Int32 × Int64 × Int32 × St) → Option (Int64 × St)) (hK11 : ∀ (a : Int32 × Int32 × Int64 × Int32 × St) (y : Int64 × St), K11 a = some y → ∀ (H : Heap) (locs : List Loc) (ls : Array Slot), Zt D h cy s a.2.2.2.2 H locs → lv_has ls 7 [(0, .ref (h k0)), (1, .ref (h k1)), (2, .int a.1), (3, .int a.2.1), (4, .long a.2.2.1), (6, .int a.2.2.2.1)] → W p l e (rmz 1 21) s m args below meth c H locs 0 0 (EL below args s D h cy y) (F0 m 11 ls [])) (x2 : Int32) (x3 : Int32) (x6 : Int32) (t0 : Int32) (t1 : Int64) (σ : St) (y : Int64 × St) (hf : f_X7_pointerBits_50 k0 k1 n1 K11 x2 x3 x6 t0 t1 σ = some y) : ∀ (H : Heap) (locs : List Loc) (ls : Array Slot), Zt D h cy s σ H locs → lv_has ls 7 [(0, .ref (h k0)), (1, .ref (h k1)), (2, .int x2), (3, .int x3), (6, .int x6)] → W p l e (rmz 1 21) s m args below meth c H locs 0 0 (EL below args s D h cy y) (F0 m 50 ls [.int t0, .long t1]) := by
  intro H locs ls Z hl
  have hx := X.x
  have hb := X.b
  unfold f_X7_pointerBits_50 at hf
  refine lv_i2l (v := t0.toInt64) hx hb dX7_pointerBits_50 rfl ?_
  refine lv_lor hx hb dX7_pointerBits_51 ?_
  refine lv_topl (fun v6 ev6 => ?_)
  have hf := zn_e ev6 hf
  refine lv_lstore (lv' := [(4, .long v6), (0, .ref (h k0)), (1, .ref (h k1)), (2, .int x2), (3, .int x3), (6, .int x6)]) hx hb dX7_pointerBits_52 hl (by decide) rfl (fun ls hl => ?_)
  obtain ⟨v7, ev7⟩ : ∃ z : Int32, z = x6 + (-1) := ⟨_, rfl⟩
  have hf := zn_e ev7 hf
  refine lv_iinc (v := v7) (lv' := [(6, .int v7), (4, .long v6), (0, .ref (h k0)), (1, .ref (h k1)), (2, .int x2), (3, .int x3)]) hx hb dX7_pointerBits_54 hl (k := 5) rfl (by rw [ev7]; rfl) (by decide) rfl (fun ls hl => ?_)
  refine lv_goto (tgt := 11) hx hb dX7_pointerBits_57 (by decide) ?_
  exact hK11 (x2, x3, v6, v7, σ) _ hf _ _ _ Z (lv_sub hl [2, 3, 4, 5, 1, 0] rfl)

set_option maxRecDepth 100000 in
set_option maxHeartbeats 4000000 in
theorem b_X7_pointerBits_11b {p : Program} {l : Launch} {e : Env} {s : State} {m : MethodId} {args : Array Value} {below : List Frame} {meth : Method} {c : Code} {D : va_G} {h : Nat → Nat} {cy : Nat → ClassId} (X : Cx p s m args c D h cy RX7 cX7_pointerBits 7) (hr : meth.sig.returnType = some .long) (hk : meth.locks = false) {k0 : Nat} {k1 n1 : Nat} (hR0 : SegsS k0) (hR1 : RowS k1 n1) (K11 : (Int32 × Int32 × Int64 × Int32 × St) → Option (Int64 × St)) (hK11 : ∀ (a : Int32 × Int32 × Int64 × Int32 × St) (y : Int64 × St), K11 a = some y → ∀ (H : Heap) (locs : List Loc) (ls : Array Slot), Zt D h cy s a.2.2.2.2 H locs → lv_has ls 7 [(0, .ref (h k0)), (1, .ref (h k1)), (2, .int a.1), (3, .int a.2.1), (4, .long a.2.2.1), (6, .int a.2.2.2.1)] → W p l e (rmz 1 21) s m args below meth c H locs 0 0 (EL below args s D h cy y) (F0 m 11 ls [])) (x2 : Int32) (x3 : Int32) (x4 : Int64) (x6 : Int32) (σ : St) (y : Int64 × St) (hf : f_X7_pointerBits_11b k0 k1 n1 K11 x2 x3 x4 x6 σ = some y) : ∀ (H : Heap) (locs : List Loc) (ls : Array Slot), Zt D h cy s σ H locs → lv_has ls 7 [(0, .ref (h k0)), (1, .ref (h k1)), (2, .int x2), (3, .int x3), (4, .long x4), (6, .int x6)] → W p l e (rmz 1 21) s m args below meth c H locs 0 0 (EL below args s D h cy y) (F0 m 11 ls []) := by
  intro H locs ls Z hl
  have hx := X.x
  have hb := X.b
  unfold f_X7_pointerBits_11b at hf
  refine lv_iload hx hb dX7_pointerBits_11 (lv_at hl 5 rfl) ?_
  refine lv_iload_n hx hb dX7_pointerBits_13 rfl (lv_at hl 3 rfl) ?_
  refine lv_icmp_lt (tgt := 60) hx hb dX7_pointerBits_14 (by decide) (fun c3 => ?_) (fun c3 => ?_)
  · have hf := itp c3 hf
    refine lv_lload hx hb dX7_pointerBits_60 (lv_at hl 4 rfl) ?_
    exact retL X hr hk Z hf dX7_pointerBits_62
  · have hf := itn c3 hf
    refine lv_lload hx hb dX7_pointerBits_17 (lv_at hl 4 rfl) ?_
    refine lv_bipush (v := 8) hx hb dX7_pointerBits_19 (by decide) ?_
    refine lv_lshl (v := zlshl x4 (8 : Int32)) hx hb dX7_pointerBits_21 rfl ?_
    refine lv_iload hx hb dX7_pointerBits_22 (lv_at hl 5 rfl) ?_
    refine lv_aload_n hx hb dX7_pointerBits_24 rfl (lv_at hl 0 rfl) ?_
    refine gf_RX7_21 X Z hR0 dX7_pointerBits_25 ?_
    refine lv_iload_n hx hb dX7_pointerBits_28 rfl (lv_at hl 2 rfl) ?_
    obtain ⟨g4, hf⟩ := gd_s hf
    refine x_iald (k := (k0 + 4)) X Z hR0.2.2.2.2 g4 dX7_pointerBits_29 ?_
    refine lv_icmp_ge (tgt := 49) hx hb dX7_pointerBits_30 (by decide) (fun c5 => ?_) (fun c5 => ?_)
    · have hf := itp c5 hf
      refine lv_iconst (v := 0) hx hb dX7_pointerBits_49 (by decide) ?_
      exact b_X7_pointerBits_50 X hr hk hR0 hR1 K11 hK11 x2 x3 x6 (0 : Int32) ((zlshl x4 (8 : Int32))) σ _ hf _ _ _ Z (lv_sub hl [0, 1, 2, 3, 5] rfl)
    · have hf := itn c5 hf
      refine lv_aload_n hx hb dX7_pointerBits_33 rfl (lv_at hl 1 rfl) ?_
      refine lv_aload_n hx hb dX7_pointerBits_34 rfl (lv_at hl 0 rfl) ?_
      refine gf_RX7_18 X Z hR0 dX7_pointerBits_35 ?_
      refine lv_iload_n hx hb dX7_pointerBits_38 rfl (lv_at hl 2 rfl) ?_
      obtain ⟨g8, hf⟩ := gd_s hf
      refine x_iald (k := (k0 + 3)) X Z hR0.2.2.2.1 g8 dX7_pointerBits_39 ?_
      refine lv_iload hx hb dX7_pointerBits_40 (lv_at hl 5 rfl) ?_
      refine lv_iadd hx hb dX7_pointerBits_42 ?_
      obtain ⟨r11, s10, h9, hf⟩ := bi_s hf
      refine goI Z (run_V (As := [.int (((σ.1 (k0 + 3) x2.toNatClampNeg) + x6))]) (rest := [.long ((zlshl x4 (8 : Int32)))]) X Z (c_X6_at l D h cy hR1 (((σ.1 (k0 + 3) x2.toNatClampNeg) + x6)) σ (r11, s10) h9 _) lk_RX7_39 ⟨by decide, by decide⟩ (rv_RowS hR1) rfl hl.1 rfl (Nat.le_of_ble_eq_true rfl) ⟨Nat.le_refl _, Nat.le_refl _⟩ dX7_pointerBits_43) (fun H locs Z => ?_)
      refine lv_goto (tgt := 50) hx hb dX7_pointerBits_46 (by decide) ?_
      exact b_X7_pointerBits_50 X hr hk hR0 hR1 K11 hK11 x2 x3 x6 r11 ((zlshl x4 (8 : Int32))) s10 _ hf _ _ _ Z (lv_sub hl [0, 1, 2, 3, 5] rfl)

set_option maxRecDepth 100000 in
set_option maxHeartbeats 4000000 in
theorem b_X7_pointerBits_11 {p : Program} {l : Launch} {e : Env} {s : State} {m : MethodId} {args : Array Value} {below : List Frame} {meth : Method} {c : Code} {D : va_G} {h : Nat → Nat} {cy : Nat → ClassId} (X : Cx p s m args c D h cy RX7 cX7_pointerBits 7) (hr : meth.sig.returnType = some .long) (hk : meth.locks = false) {k0 : Nat} {k1 n1 : Nat} (hR0 : SegsS k0) (hR1 : RowS k1 n1) (x2 : Int32) (x3 : Int32) (x4 : Int64) (x6 : Int32) (σ : St) (y : Int64 × St) (hf : f_X7_pointerBits_11 k0 k1 n1 x2 x3 x4 x6 σ = some y) : ∀ (H : Heap) (locs : List Loc) (ls : Array Slot), Zt D h cy s σ H locs → lv_has ls 7 [(0, .ref (h k0)), (1, .ref (h k1)), (2, .int x2), (3, .int x3), (4, .long x4), (6, .int x6)] → W p l e (rmz 1 21) s m args below meth c H locs 0 0 (EL below args s D h cy y) (F0 m 11 ls []) := by
  exact it_W (F := fun K a => f_X7_pointerBits_11b k0 k1 n1 K a.1 a.2.1 a.2.2.1 a.2.2.2.1 a.2.2.2.2) (P := fun a y => ∀ (H : Heap) (locs : List Loc) (ls : Array Slot), Zt D h cy s a.2.2.2.2 H locs → lv_has ls 7 [(0, .ref (h k0)), (1, .ref (h k1)), (2, .int a.1), (3, .int a.2.1), (4, .long a.2.2.1), (6, .int a.2.2.2.1)] → W p l e (rmz 1 21) s m args below meth c H locs 0 0 (EL below args s D h cy y) (F0 m 11 ls [])) (fun K hK a y hf => b_X7_pointerBits_11b X hr hk hR0 hR1 K hK (a.1) (a.2.1) (a.2.2.1) (a.2.2.2.1) (a.2.2.2.2) y hf) FU _ y hf

set_option maxRecDepth 100000 in
set_option maxHeartbeats 4000000 in
theorem c_X7_pointerBits (l : Launch) (D : va_G) (h : Nat → Nat) (cy : Nat → ClassId) {k0 : Nat} {k1 n1 : Nat} (hR0 : SegsS k0) (hR1 : RowS k1 n1) (a2 : Int32) (a3 : Int32) (σ : St) (y : Int64 × St) (hf : f_X7_pointerBits k0 k1 n1 a2 a3 σ = some y) : CL l yX7_pointerBits cX7_pointerBits 7 (some .long) 1 21 D h cy [.ref (h k0), .ref (h k1), .int a2, .int a3] σ y := by
  refine ent (Qc := fun sz => QL D h cy sz y) (by decide) (Nat.le_of_ble_eq_true rfl) ?_
  intro p e s m below meth c ls X Z hr hk hl
  have X : Cx p s m _ c D h cy RX7 cX7_pointerBits 7 := X
  have hx := X.x
  have hb := X.b
  have hl : lv_has ls 7 [(0, .ref (h k0)), (1, .ref (h k1)), (2, .int a2), (3, .int a3)] := hl
  unfold f_X7_pointerBits at hf
  refine lv_lconst (v := 0) hx hb dX7_pointerBits_0 (by decide) ?_
  refine lv_topl (fun v1 ev1 => ?_)
  have hf := zn_e ev1 hf
  refine lv_lstore (lv' := [(4, .long v1), (0, .ref (h k0)), (1, .ref (h k1)), (2, .int a2), (3, .int a3)]) hx hb dX7_pointerBits_1 hl (by decide) rfl (fun ls hl => ?_)
  refine lv_iload_n hx hb dX7_pointerBits_3 rfl (lv_at hl 4 rfl) ?_
  refine lv_bipush (v := 8) hx hb dX7_pointerBits_4 (by decide) ?_
  refine lv_iadd hx hb dX7_pointerBits_6 ?_
  refine lv_iconst (v := 1) hx hb dX7_pointerBits_7 (by decide) ?_
  refine lv_isub hx hb dX7_pointerBits_8 ?_
  refine lv_topi (fun v2 ev2 => ?_)
  have hf := zn_e ev2 hf
  refine lv_istore (lv' := [(6, .int v2), (4, .long v1), (0, .ref (h k0)), (1, .ref (h k1)), (2, .int a2), (3, .int a3)]) hx hb dX7_pointerBits_9 hl (by decide) rfl (fun ls hl => ?_)
  exact b_X7_pointerBits_11 X hr hk hR0 hR1 a2 a3 v1 v2 σ _ hf _ _ _ Z (lv_sub hl [2, 3, 4, 5, 1, 0] rfl)

set_option maxRecDepth 100000 in
set_option maxHeartbeats 4000000 in
theorem c_X9_nextOf (l : Launch) (D : va_G) (h : Nat → Nat) (cy : Nat → ClassId) (a0 : Int64) (σ : St) (y : Int32 × St) (hf : f_X9_nextOf a0 σ = some y) : CI l yX9_nextOf cX9_nextOf 2 (some .int) 0 0 D h cy [.long a0] σ y := by
  refine ent (Qc := fun sz => QI D h cy sz y) (by decide) (Nat.le_of_ble_eq_true rfl) ?_
  intro p e s m below meth c ls X Z hr hk hl
  have X : Cx p s m _ c D h cy RX9 cX9_nextOf 2 := X
  have hx := X.x
  have hb := X.b
  have hl : lv_has ls 2 [(0, .long a0)] := hl
  unfold f_X9_nextOf at hf
  refine lv_lload_n hx hb dX9_nextOf_0 rfl (lv_at hl 0 rfl) ?_
  refine lv_bipush (v := 51) hx hb dX9_nextOf_1 (by decide) ?_
  refine lv_lushr (v := zlushr a0 (51 : Int32)) hx hb dX9_nextOf_3 rfl ?_
  refine lv_l2i (v := ((zlushr a0 (51 : Int32))).toInt32) hx hb dX9_nextOf_4 rfl ?_
  refine lv_sipush (v := 4095) hx hb dX9_nextOf_5 (by decide) ?_
  refine lv_iand hx hb dX9_nextOf_8 ?_
  exact retI X hr hk Z hf dX9_nextOf_9

set_option maxRecDepth 100000 in
set_option maxHeartbeats 4000000 in
theorem c_X9_isBind (l : Launch) (D : va_G) (h : Nat → Nat) (cy : Nat → ClassId) (a0 : Int64) (σ : St) (y : Int32 × St) (hf : f_X9_isBind a0 σ = some y) : CI l yX9_isBind cX9_isBind 2 (some .boolean) 0 0 D h cy [.long a0] σ y := by
  refine ent (Qc := fun sz => QI D h cy sz y) (by decide) (Nat.le_of_ble_eq_true rfl) ?_
  intro p e s m below meth c ls X Z hr hk hl
  have X : Cx p s m _ c D h cy RX9 cX9_isBind 2 := X
  have hx := X.x
  have hb := X.b
  have hl : lv_has ls 2 [(0, .long a0)] := hl
  unfold f_X9_isBind at hf
  refine lv_lload_n hx hb dX9_isBind_0 rfl (lv_at hl 0 rfl) ?_
  refine lv_lconst (v := 0) hx hb dX9_isBind_1 (by decide) ?_
  refine x_lif_ge (tgt := 10) X dX9_isBind_2 dX9_isBind_3 (by decide) (fun c1 => ?_) (fun c1 => ?_)
  · have hf := itp c1 hf
    refine lv_iconst (v := 0) hx hb dX9_isBind_10 (by decide) ?_
    exact retZ X hr hk Z (by decide) hf dX9_isBind_11
  · have hf := itn c1 hf
    refine lv_iconst (v := 1) hx hb dX9_isBind_6 (by decide) ?_
    refine lv_goto (tgt := 11) hx hb dX9_isBind_7 (by decide) ?_
    exact retZ X hr hk Z (by decide) hf dX9_isBind_11

set_option maxRecDepth 100000 in
set_option maxHeartbeats 4000000 in
theorem b_X3_pointerHolds_126 {p : Program} {l : Launch} {e : Env} {s : State} {m : MethodId} {args : Array Value} {below : List Frame} {meth : Method} {c : Code} {D : va_G} {h : Nat → Nat} {cy : Nat → ClassId} (X : Cx p s m args c D h cy RX3 cX3_pointerHolds 5) (hr : meth.sig.returnType = some .boolean) (hk : meth.locks = false) (x3 : Int32) (t0 : Int32) (σ : St) (y : Int32 × St) (hf : f_X3_pointerHolds_126 x3 t0 σ = some y) : ∀ (H : Heap) (locs : List Loc) (ls : Array Slot), Zt D h cy s σ H locs → lv_has ls 5 [(3, .int x3)] → W p l e (rmz 1 23) s m args below meth c H locs 0 0 (EI below args s D h cy y) (F0 m 126 ls [.int t0, .ref (h 39)]) := by
  intro H locs ls Z hl
  have hx := X.x
  have hb := X.b
  unfold f_X3_pointerHolds_126 at hf
  refine lv_bipush (v := 12) hx hb dX3_pointerHolds_126 (by decide) ?_
  refine lv_iload_n hx hb dX3_pointerHolds_128 rfl (lv_at hl 0 rfl) ?_
  obtain ⟨r20, s19, h18, hf⟩ := bi_s hf
  refine goI Z (run_V (As := [.int t0, .int (12 : Int32), .int x3]) (rest := []) X Z (c_X2_unless l D h cy t0 (12 : Int32) x3 σ (r20, s19) h18 _) lk_RX3_166 ⟨by decide, by decide⟩ rv_39 rfl hl.1 rfl (Nat.le_of_ble_eq_true rfl) ⟨Nat.le_refl _, Nat.le_refl _⟩ dX3_pointerHolds_129) (fun H locs Z => ?_)
  refine lv_if_eq (tgt := 139) hx hb dX3_pointerHolds_132 (by decide) (fun c21 => ?_) (fun c21 => ?_)
  · have hf := itp c21 hf
    refine lv_iconst (v := 0) hx hb dX3_pointerHolds_139 (by decide) ?_
    exact retZ X hr hk Z (by decide) hf dX3_pointerHolds_140
  · have hf := itn c21 hf
    refine lv_iconst (v := 1) hx hb dX3_pointerHolds_135 (by decide) ?_
    refine lv_goto (tgt := 140) hx hb dX3_pointerHolds_136 (by decide) ?_
    exact retZ X hr hk Z (by decide) hf dX3_pointerHolds_140

set_option maxRecDepth 100000 in
set_option maxHeartbeats 4000000 in
theorem b_X3_pointerHolds_121 {p : Program} {l : Launch} {e : Env} {s : State} {m : MethodId} {args : Array Value} {below : List Frame} {meth : Method} {c : Code} {D : va_G} {h : Nat → Nat} {cy : Nat → ClassId} (X : Cx p s m args c D h cy RX3 cX3_pointerHolds 5) (hr : meth.sig.returnType = some .boolean) (hk : meth.locks = false) (x3 : Int32) (σ : St) (y : Int32 × St) (hf : f_X3_pointerHolds_121 x3 σ = some y) : ∀ (H : Heap) (locs : List Loc) (ls : Array Slot), Zt D h cy s σ H locs → lv_has ls 5 [(3, .int x3)] → W p l e (rmz 1 23) s m args below meth c H locs 0 0 (EI below args s D h cy y) (F0 m 121 ls [.ref (h 39)]) := by
  intro H locs ls Z hl
  have hx := X.x
  have hb := X.b
  unfold f_X3_pointerHolds_121 at hf
  refine lv_iconst (v := 1) hx hb dX3_pointerHolds_121 (by decide) ?_
  refine lv_goto (tgt := 126) hx hb dX3_pointerHolds_122 (by decide) ?_
  exact b_X3_pointerHolds_126 X hr hk x3 (1 : Int32) σ _ hf _ _ _ Z (lv_sub hl [0] rfl)

set_option maxRecDepth 100000 in
set_option maxHeartbeats 4000000 in
theorem b_X3_pointerHolds_87 {p : Program} {l : Launch} {e : Env} {s : State} {m : MethodId} {args : Array Value} {below : List Frame} {meth : Method} {c : Code} {D : va_G} {h : Nat → Nat} {cy : Nat → ClassId} (X : Cx p s m args c D h cy RX3 cX3_pointerHolds 5) (hr : meth.sig.returnType = some .boolean) (hk : meth.locks = false) (x3 : Int32) (x4 : Int32) (t0 : Int32) (σ : St) (y : Int32 × St) (hf : f_X3_pointerHolds_87 x3 x4 t0 σ = some y) : ∀ (H : Heap) (locs : List Loc) (ls : Array Slot), Zt D h cy s σ H locs → lv_has ls 5 [(0, .ref (h 46)), (3, .int x3), (4, .int x4)] → W p l e (rmz 1 23) s m args below meth c H locs 0 0 (EI below args s D h cy y) (F0 m 87 ls [.int t0, .ref (h 39)]) := by
  intro H locs ls Z hl
  have hx := X.x
  have hb := X.b
  unfold f_X3_pointerHolds_87 at hf
  refine lv_bipush (v := 11) hx hb dX3_pointerHolds_87 (by decide) ?_
  refine lv_iload_n hx hb dX3_pointerHolds_89 rfl (lv_at hl 1 rfl) ?_
  obtain ⟨r14, s13, h12, hf⟩ := bi_s hf
  refine goI Z (run_V (As := [.int t0, .int (11 : Int32), .int x3]) (rest := []) X Z (c_X2_unless l D h cy t0 (11 : Int32) x3 σ (r14, s13) h12 _) lk_RX3_166 ⟨by decide, by decide⟩ rv_39 rfl hl.1 rfl (Nat.le_of_ble_eq_true rfl) ⟨Nat.le_refl _, Nat.le_refl _⟩ dX3_pointerHolds_90) (fun H locs Z => ?_)
  refine lv_if_eq (tgt := 139) hx hb dX3_pointerHolds_93 (by decide) (fun c15 => ?_) (fun c15 => ?_)
  · have hf := itp c15 hf
    refine lv_iconst (v := 0) hx hb dX3_pointerHolds_139 (by decide) ?_
    exact retZ X hr hk Z (by decide) hf dX3_pointerHolds_140
  · have hf := itn c15 hf
    refine lv_aload_n hx hb dX3_pointerHolds_96 rfl (lv_at hl 0 rfl) ?_
    refine gf_RX3_15 X Z dX3_pointerHolds_97 ?_
    refine lv_aload_n hx hb dX3_pointerHolds_100 rfl (lv_at hl 0 rfl) ?_
    refine gf_RX3_45 X Z dX3_pointerHolds_101 ?_
    refine lv_iload hx hb dX3_pointerHolds_104 (lv_at hl 2 rfl) ?_
    obtain ⟨g16, hf⟩ := gd_s hf
    refine x_zald (k := 51) X Z sh_51 g16 dX3_pointerHolds_106 ?_
    refine lv_if_ne (tgt := 121) hx hb dX3_pointerHolds_107 (by decide) (fun c17 => ?_) (fun c17 => ?_)
    · have hf := itn c17 hf
      exact b_X3_pointerHolds_121 X hr hk x3 s13 _ hf _ _ _ Z (lv_sub hl [1] rfl)
    · have hf := itp c17 hf
      refine lv_aload_n hx hb dX3_pointerHolds_110 rfl (lv_at hl 0 rfl) ?_
      refine gf_RX3_49 X Z dX3_pointerHolds_111 ?_
      refine lv_iload hx hb dX3_pointerHolds_114 (lv_at hl 2 rfl) ?_
      obtain ⟨g22, hf⟩ := gd_s hf
      refine x_iald (k := 52) X Z sh_52 g22 dX3_pointerHolds_116 ?_
      refine lv_iconst (v := (-1)) hx hb dX3_pointerHolds_117 (by decide) ?_
      refine lv_icmp_eq (tgt := 125) hx hb dX3_pointerHolds_118 (by decide) (fun c23 => ?_) (fun c23 => ?_)
      · have hf := itp c23 hf
        refine lv_iconst (v := 0) hx hb dX3_pointerHolds_125 (by decide) ?_
        exact b_X3_pointerHolds_126 X hr hk x3 (0 : Int32) s13 _ hf _ _ _ Z (lv_sub hl [1] rfl)
      · have hf := itn c23 hf
        exact b_X3_pointerHolds_121 X hr hk x3 s13 _ hf _ _ _ Z (lv_sub hl [1] rfl)

set_option maxRecDepth 100000 in
set_option maxHeartbeats 4000000 in
theorem b_X3_pointerHolds_60 {p : Program} {l : Launch} {e : Env} {s : State} {m : MethodId} {args : Array Value} {below : List Frame} {meth : Method} {c : Code} {D : va_G} {h : Nat → Nat} {cy : Nat → ClassId} (X : Cx p s m args c D h cy RX3 cX3_pointerHolds 5) (hr : meth.sig.returnType = some .boolean) (hk : meth.locks = false) (x3 : Int32) (x4 : Int32) (t0 : Int32) (σ : St) (y : Int32 × St) (hf : f_X3_pointerHolds_60 x3 x4 t0 σ = some y) : ∀ (H : Heap) (locs : List Loc) (ls : Array Slot), Zt D h cy s σ H locs → lv_has ls 5 [(0, .ref (h 46)), (3, .int x3), (4, .int x4)] → W p l e (rmz 1 23) s m args below meth c H locs 0 0 (EI below args s D h cy y) (F0 m 60 ls [.int t0, .ref (h 39)]) := by
  intro H locs ls Z hl
  have hx := X.x
  have hb := X.b
  unfold f_X3_pointerHolds_60 at hf
  refine lv_bipush (v := 11) hx hb dX3_pointerHolds_60 (by decide) ?_
  refine lv_iload_n hx hb dX3_pointerHolds_62 rfl (lv_at hl 1 rfl) ?_
  obtain ⟨r9, s8, h7, hf⟩ := bi_s hf
  refine goI Z (run_V (As := [.int t0, .int (11 : Int32), .int x3]) (rest := []) X Z (c_X2_unless l D h cy t0 (11 : Int32) x3 σ (r9, s8) h7 _) lk_RX3_166 ⟨by decide, by decide⟩ rv_39 rfl hl.1 rfl (Nat.le_of_ble_eq_true rfl) ⟨Nat.le_refl _, Nat.le_refl _⟩ dX3_pointerHolds_63) (fun H locs Z => ?_)
  refine lv_if_eq (tgt := 139) hx hb dX3_pointerHolds_66 (by decide) (fun c10 => ?_) (fun c10 => ?_)
  · have hf := itp c10 hf
    refine lv_iconst (v := 0) hx hb dX3_pointerHolds_139 (by decide) ?_
    exact retZ X hr hk Z (by decide) hf dX3_pointerHolds_140
  · have hf := itn c10 hf
    refine lv_aload_n hx hb dX3_pointerHolds_69 rfl (lv_at hl 0 rfl) ?_
    refine gf_RX3_15 X Z dX3_pointerHolds_70 ?_
    refine lv_iload hx hb dX3_pointerHolds_73 (lv_at hl 2 rfl) ?_
    refine lv_aload_n hx hb dX3_pointerHolds_75 rfl (lv_at hl 0 rfl) ?_
    refine gf_RX3_55 X Z dX3_pointerHolds_76 ?_
    refine lv_icmp_ge (tgt := 86) hx hb dX3_pointerHolds_79 (by decide) (fun c11 => ?_) (fun c11 => ?_)
    · have hf := itp c11 hf
      refine lv_iconst (v := 0) hx hb dX3_pointerHolds_86 (by decide) ?_
      exact b_X3_pointerHolds_87 X hr hk x3 x4 (0 : Int32) s8 _ hf _ _ _ Z (lv_sub hl [0, 1, 2] rfl)
    · have hf := itn c11 hf
      refine lv_iconst (v := 1) hx hb dX3_pointerHolds_82 (by decide) ?_
      refine lv_goto (tgt := 87) hx hb dX3_pointerHolds_83 (by decide) ?_
      exact b_X3_pointerHolds_87 X hr hk x3 x4 (1 : Int32) s8 _ hf _ _ _ Z (lv_sub hl [0, 1, 2] rfl)

set_option maxRecDepth 100000 in
set_option maxHeartbeats 4000000 in
theorem b_X3_pointerHolds_26 {p : Program} {l : Launch} {e : Env} {s : State} {m : MethodId} {args : Array Value} {below : List Frame} {meth : Method} {c : Code} {D : va_G} {h : Nat → Nat} {cy : Nat → ClassId} (X : Cx p s m args c D h cy RX3 cX3_pointerHolds 5) (hr : meth.sig.returnType = some .boolean) (hk : meth.locks = false) (x3 : Int32) (t0 : Int32) (σ : St) (y : Int32 × St) (hf : f_X3_pointerHolds_26 x3 t0 σ = some y) : ∀ (H : Heap) (locs : List Loc) (ls : Array Slot), Zt D h cy s σ H locs → lv_has ls 5 [(3, .int x3)] → W p l e (rmz 1 23) s m args below meth c H locs 0 0 (EI below args s D h cy y) (F0 m 26 ls [.int t0, .ref (h 39)]) := by
  intro H locs ls Z hl
  have hx := X.x
  have hb := X.b
  unfold f_X3_pointerHolds_26 at hf
  refine lv_bipush (v := 11) hx hb dX3_pointerHolds_26 (by decide) ?_
  refine lv_iload_n hx hb dX3_pointerHolds_28 rfl (lv_at hl 0 rfl) ?_
  obtain ⟨r27, s26, h25, hf⟩ := bi_s hf
  refine goI Z (run_V (As := [.int t0, .int (11 : Int32), .int x3]) (rest := []) X Z (c_X2_unless l D h cy t0 (11 : Int32) x3 σ (r27, s26) h25 _) lk_RX3_166 ⟨by decide, by decide⟩ rv_39 rfl hl.1 rfl (Nat.le_of_ble_eq_true rfl) ⟨Nat.le_refl _, Nat.le_refl _⟩ dX3_pointerHolds_29) (fun H locs Z => ?_)
  obtain ⟨g28, hf⟩ := gd_s hf
  exact retZ X hr hk Z g28 hf dX3_pointerHolds_32

set_option maxRecDepth 100000 in
set_option maxHeartbeats 4000000 in
theorem c_X3_pointerHolds (l : Launch) (D : va_G) (h : Nat → Nat) (cy : Nat → ClassId) (a1 : Int64) (a2 : Int32) (σ : St) (y : Int32 × St) (hf : f_X3_pointerHolds a1 a2 σ = some y) : CI l yX3_pointerHolds cX3_pointerHolds 5 (some .boolean) 1 23 D h cy [.ref (h 46), .long a1, .int a2] σ y := by
  refine ent (Qc := fun sz => QI D h cy sz y) (by decide) (Nat.le_of_ble_eq_true rfl) ?_
  intro p e s m below meth c ls X Z hr hk hl
  have X : Cx p s m _ c D h cy RX3 cX3_pointerHolds 5 := X
  have hx := X.x
  have hb := X.b
  have hl : lv_has ls 5 [(0, .ref (h 46)), (1, .long a1), (3, .int a2)] := hl
  unfold f_X3_pointerHolds at hf
  refine lv_lload_n hx hb dX3_pointerHolds_0 rfl (lv_at hl 1 rfl) ?_
  obtain ⟨r3, s2, h1, hf⟩ := bi_s hf
  refine goI Z (run_S (As := [.long a1]) (rest := []) X Z (c_X9_isBind l D h cy a1 σ (r3, s2) h1 _) lk_RX3_192 ⟨by decide, by decide⟩ rfl hl.1 rfl (Nat.le_of_ble_eq_true rfl) ⟨Nat.le_refl _, Nat.le_refl _⟩ dX3_pointerHolds_1) (fun H locs Z => ?_)
  refine lv_if_ne (tgt := 33) hx hb dX3_pointerHolds_4 (by decide) (fun c4 => ?_) (fun c4 => ?_)
  · have hf := itn c4 hf
    refine lv_lload_n hx hb dX3_pointerHolds_33 rfl (lv_at hl 1 rfl) ?_
    refine lv_ldc2 (v := 16777215) hx hb X.o (X.t _ kc_RX3_198) dX3_pointerHolds_34 ?_
    refine lv_land hx hb dX3_pointerHolds_37 ?_
    refine lv_l2i (v := ((a1 &&& (16777215 : Int64))).toInt32) hx hb dX3_pointerHolds_38 rfl ?_
    refine lv_topi (fun v5 ev5 => ?_)
    have hf := zn_e ev5 hf
    refine lv_istore (lv' := [(4, .int v5), (0, .ref (h 46)), (1, .long a1), (3, .int a2)]) hx hb dX3_pointerHolds_39 hl (by decide) rfl (fun ls hl => ?_)
    refine lv_aload_n hx hb dX3_pointerHolds_41 rfl (lv_at hl 1 rfl) ?_
    refine gf_RX3_15 X Z dX3_pointerHolds_42 ?_
    refine lv_lload_n hx hb dX3_pointerHolds_45 rfl (lv_at hl 2 rfl) ?_
    refine lv_ldc2 (v := 2251795518717952) hx hb X.o (X.t _ kc_RX3_200) dX3_pointerHolds_46 ?_
    refine lv_land hx hb dX3_pointerHolds_49 ?_
    refine lv_lconst (v := 0) hx hb dX3_pointerHolds_50 (by decide) ?_
    refine x_lif_ne (tgt := 59) X dX3_pointerHolds_51 dX3_pointerHolds_52 (by decide) (fun c6 => ?_) (fun c6 => ?_)
    · have hf := itn c6 hf
      refine lv_iconst (v := 0) hx hb dX3_pointerHolds_59 (by decide) ?_
      exact b_X3_pointerHolds_60 X hr hk a2 v5 (0 : Int32) s2 _ hf _ _ _ Z (lv_sub hl [1, 3, 0] rfl)
    · have hf := itp c6 hf
      refine lv_iconst (v := 1) hx hb dX3_pointerHolds_55 (by decide) ?_
      refine lv_goto (tgt := 60) hx hb dX3_pointerHolds_56 (by decide) ?_
      exact b_X3_pointerHolds_60 X hr hk a2 v5 (1 : Int32) s2 _ hf _ _ _ Z (lv_sub hl [1, 3, 0] rfl)
  · have hf := itp c4 hf
    refine lv_aload_n hx hb dX3_pointerHolds_7 rfl (lv_at hl 0 rfl) ?_
    refine gf_RX3_15 X Z dX3_pointerHolds_8 ?_
    refine lv_lload_n hx hb dX3_pointerHolds_11 rfl (lv_at hl 1 rfl) ?_
    refine lv_ldc2 (v := 2234207627640832) hx hb X.o (X.t _ kc_RX3_196) dX3_pointerHolds_12 ?_
    refine lv_land hx hb dX3_pointerHolds_15 ?_
    refine lv_lconst (v := 0) hx hb dX3_pointerHolds_16 (by decide) ?_
    refine x_lif_ne (tgt := 25) X dX3_pointerHolds_17 dX3_pointerHolds_18 (by decide) (fun c24 => ?_) (fun c24 => ?_)
    · have hf := itn c24 hf
      refine lv_iconst (v := 0) hx hb dX3_pointerHolds_25 (by decide) ?_
      exact b_X3_pointerHolds_26 X hr hk a2 (0 : Int32) s2 _ hf _ _ _ Z (lv_sub hl [2] rfl)
    · have hf := itp c24 hf
      refine lv_iconst (v := 1) hx hb dX3_pointerHolds_21 (by decide) ?_
      refine lv_goto (tgt := 26) hx hb dX3_pointerHolds_22 (by decide) ?_
      exact b_X3_pointerHolds_26 X hr hk a2 (1 : Int32) s2 _ hf _ _ _ Z (lv_sub hl [2] rfl)

set_option maxRecDepth 100000 in
set_option maxHeartbeats 4000000 in
theorem c_X9_add (l : Launch) (D : va_G) (h : Nat → Nat) (cy : Nat → ClassId) {k0 : Nat} (hR0 : VisS k0) (a1 : Int32) (a2 : Int64) (σ : St) (y : St) (hf : f_X9_add k0 a1 a2 σ = some y) : CV l yX9_add cX9_add 4 none 0 0 D h cy [.ref (h k0), .int a1, .long a2] σ y := by
  refine ent (Qc := fun sz => QV D h cy sz y) (by decide) (Nat.le_of_ble_eq_true rfl) ?_
  intro p e s m below meth c ls X Z hr hk hl
  have X : Cx p s m _ c D h cy RX9 cX9_add 4 := X
  have hx := X.x
  have hb := X.b
  have hl : lv_has ls 4 [(0, .ref (h k0)), (1, .int a1), (2, .long a2)] := hl
  unfold f_X9_add at hf
  refine lv_aload_n hx hb dX9_add_0 rfl (lv_at hl 0 rfl) ?_
  refine gf_RX9_19 X Z hR0 dX9_add_1 ?_
  refine lv_sipush (v := 2048) hx hb dX9_add_4 (by decide) ?_
  refine lv_icmp_ge (tgt := 40) hx hb dX9_add_7 (by decide) (fun c1 => ?_) (fun c1 => ?_)
  · have hf := itp c1 hf
    exact retV X hr hk Z hf dX9_add_40
  · have hf := itn c1 hf
    refine lv_aload_n hx hb dX9_add_10 rfl (lv_at hl 0 rfl) ?_
    refine gf_RX9_9 X Z hR0 dX9_add_11 ?_
    refine lv_aload_n hx hb dX9_add_14 rfl (lv_at hl 0 rfl) ?_
    refine gf_RX9_19 X Z hR0 dX9_add_15 ?_
    refine lv_iload_n hx hb dX9_add_18 rfl (lv_at hl 1 rfl) ?_
    obtain ⟨g2, hf⟩ := gd_s hf
    refine x_iast (k := (k0 + 1)) X Z hR0.2.1 g2 dX9_add_19 (fun s3 H locs es3 Z => ?_)
    have hf := zn_e es3 hf
    refine lv_aload_n hx hb dX9_add_20 rfl (lv_at hl 0 rfl) ?_
    refine gf_RX9_15 X Z hR0 dX9_add_21 ?_
    refine lv_aload_n hx hb dX9_add_24 rfl (lv_at hl 0 rfl) ?_
    refine gf_RX9_19 X Z hR0 dX9_add_25 ?_
    refine lv_lload_n hx hb dX9_add_28 rfl (lv_at hl 2 rfl) ?_
    obtain ⟨g4, hf⟩ := gd_s hf
    refine x_last (k := (k0 + 2)) X Z hR0.2.2 g4 dX9_add_29 (fun s5 H locs es5 Z => ?_)
    have hf := zn_e es5 hf
    refine lv_aload_n hx hb dX9_add_30 rfl (lv_at hl 0 rfl) ?_
    refine lv_dup hx hb dX9_add_31 rfl ?_
    refine gf_RX9_19 X Z hR0 dX9_add_32 ?_
    refine lv_iconst (v := 1) hx hb dX9_add_35 (by decide) ?_
    refine lv_iadd hx hb dX9_add_36 ?_
    refine pf_RX9_19 X Z hR0 dX9_add_37 (fun s6 H locs es6 Z => ?_)
    have hf := zn_e es6 hf
    exact retV X hr hk Z hf dX9_add_40

set_option maxRecDepth 100000 in
set_option maxHeartbeats 4000000 in
theorem b_X3_chainHolds_91 {p : Program} {l : Launch} {e : Env} {s : State} {m : MethodId} {args : Array Value} {below : List Frame} {meth : Method} {c : Code} {D : va_G} {h : Nat → Nat} {cy : Nat → ClassId} (X : Cx p s m args c D h cy RX3 cX3_chainHolds 11) (hr : meth.sig.returnType = some .boolean) (hk : meth.locks = false) (K6 : (Int32 × Int32 × Int32 × Int32 × St) → Option (Int32 × St)) (hK6 : ∀ (a : Int32 × Int32 × Int32 × Int32 × St) (y : Int32 × St), K6 a = some y → ∀ (H : Heap) (locs : List Loc) (ls : Array Slot), Zt D h cy s a.2.2.2.2 H locs → lv_has ls 11 [(0, .ref (h 46)), (1, .int a.1), (3, .int a.2.1), (4, .int a.2.2.1), (5, .int a.2.2.2.1)] → W p l e (rmz 2 47) s m args below meth c H locs 0 0 (EI below args s D h cy y) (F0 m 6 ls [])) (x1 : Int32) (x3 : Int32) (x4 : Int32) (x5 : Int32) (x6 : Int64) (x8 : Int32) (x9 : Int32) (t0 : Int32) (σ : St) (y : Int32 × St) (hf : f_X3_chainHolds_91 K6 x1 x3 x4 x5 x6 x8 x9 t0 σ = some y) : ∀ (H : Heap) (locs : List Loc) (ls : Array Slot), Zt D h cy s σ H locs → lv_has ls 11 [(0, .ref (h 46)), (1, .int x1), (3, .int x3), (4, .int x4), (5, .int x5), (6, .long x6), (8, .int x8), (9, .int x9)] → W p l e (rmz 2 47) s m args below meth c H locs 0 0 (EI below args s D h cy y) (F0 m 91 ls [.int t0]) := by
  intro H locs ls Z hl
  have hx := X.x
  have hb := X.b
  unfold f_X3_chainHolds_91 at hf
  refine lv_istore (lv' := [(10, .int t0), (0, .ref (h 46)), (1, .int x1), (3, .int x3), (4, .int x4), (5, .int x5), (6, .long x6), (8, .int x8), (9, .int x9)]) hx hb dX3_chainHolds_91 hl (by decide) rfl (fun ls hl => ?_)
  refine lv_aload_n hx hb dX3_chainHolds_93 rfl (lv_at hl 1 rfl) ?_
  refine lv_lload hx hb dX3_chainHolds_94 (lv_at hl 6 rfl) ?_
  refine lv_iload hx hb dX3_chainHolds_96 (lv_at hl 7 rfl) ?_
  obtain ⟨r15, s14, h13, hf⟩ := bi_s hf
  refine goI Z (run_V (As := [.long x6, .int x8]) (rest := []) X Z (c_X3_pointerHolds l D h cy x6 x8 σ (r15, s14) h13 _) lk_RX3_184 ⟨by decide, by decide⟩ rv_46 rfl hl.1 rfl (Nat.le_of_ble_eq_true rfl) ⟨Nat.le_refl _, Nat.le_refl _⟩ dX3_chainHolds_98) (fun H locs Z => ?_)
  refine lv_if_eq (tgt := 120) hx hb dX3_chainHolds_101 (by decide) (fun c16 => ?_) (fun c16 => ?_)
  · have hf := itp c16 hf
    refine lv_iconst (v := 0) hx hb dX3_chainHolds_120 (by decide) ?_
    exact retZ X hr hk Z (by decide) hf dX3_chainHolds_121
  · have hf := itn c16 hf
    refine lv_aload_n hx hb dX3_chainHolds_104 rfl (lv_at hl 1 rfl) ?_
    refine gf_RX3_15 X Z dX3_chainHolds_105 ?_
    refine lv_iload hx hb dX3_chainHolds_108 (lv_at hl 0 rfl) ?_
    refine lv_bipush (v := 10) hx hb dX3_chainHolds_110 (by decide) ?_
    refine lv_iload hx hb dX3_chainHolds_112 (lv_at hl 7 rfl) ?_
    obtain ⟨r19, s18, h17, hf⟩ := bi_s hf
    refine goI Z (run_V (As := [.int t0, .int (10 : Int32), .int x8]) (rest := []) X Z (c_X2_unless l D h cy t0 (10 : Int32) x8 s14 (r19, s18) h17 _) lk_RX3_166 ⟨by decide, by decide⟩ rv_39 rfl hl.1 rfl (Nat.le_of_ble_eq_true rfl) ⟨Nat.le_refl _, Nat.le_refl _⟩ dX3_chainHolds_114) (fun H locs Z => ?_)
    refine lv_if_ne (tgt := 122) hx hb dX3_chainHolds_117 (by decide) (fun c20 => ?_) (fun c20 => ?_)
    · have hf := itn c20 hf
      refine lv_aload_n hx hb dX3_chainHolds_122 rfl (lv_at hl 1 rfl) ?_
      refine gf_RX3_37 X Z dX3_chainHolds_123 ?_
      refine lv_aload_n hx hb dX3_chainHolds_126 rfl (lv_at hl 1 rfl) ?_
      refine gf_RX3_33 X Z dX3_chainHolds_127 ?_
      refine gf_RX3_137 X Z segs_41 dX3_chainHolds_130 ?_
      refine lv_iload_n hx hb dX3_chainHolds_133 rfl (lv_at hl 2 rfl) ?_
      obtain ⟨g21, hf⟩ := gd_s hf
      refine x_iald (k := 42) X Z sh_42 g21 dX3_chainHolds_134 ?_
      refine lv_iload hx hb dX3_chainHolds_135 (lv_at hl 4 rfl) ?_
      refine lv_iadd hx hb dX3_chainHolds_137 ?_
      refine lv_lload hx hb dX3_chainHolds_138 (lv_at hl 6 rfl) ?_
      obtain ⟨s23, h22, hf⟩ := bv_s hf
      refine goV Z (run_V (As := [.int (((s18.1 42 x1.toNatClampNeg) + x4)), .long x6]) (rest := []) X Z (c_X9_add l D h cy vis_47 (((s18.1 42 x1.toNatClampNeg) + x4)) x6 s18 s23 h22 _) lk_RX3_188 ⟨by decide, by decide⟩ (rv_VisS vis_47) rfl hl.1 rfl (Nat.le_of_ble_eq_true rfl) ⟨Nat.le_refl _, Nat.le_refl _⟩ dX3_chainHolds_140) (fun H locs Z => ?_)
      refine lv_iload hx hb dX3_chainHolds_143 (lv_at hl 8 rfl) ?_
      refine lv_if_ne (tgt := 150) hx hb dX3_chainHolds_145 (by decide) (fun c24 => ?_) (fun c24 => ?_)
      · have hf := itn c24 hf
        refine lv_iload hx hb dX3_chainHolds_150 (lv_at hl 4 rfl) ?_
        refine lv_iconst (v := 4) hx hb dX3_chainHolds_152 (by decide) ?_
        refine lv_iload hx hb dX3_chainHolds_153 (lv_at hl 8 rfl) ?_
        refine lv_imul hx hb dX3_chainHolds_155 ?_
        refine lv_iadd hx hb dX3_chainHolds_156 ?_
        refine lv_topi (fun v25 ev25 => ?_)
        have hf := zn_e ev25 hf
        refine lv_istore (lv' := [(4, .int v25), (10, .int t0), (0, .ref (h 46)), (1, .int x1), (3, .int x3), (5, .int x5), (6, .long x6), (8, .int x8), (9, .int x9)]) hx hb dX3_chainHolds_157 hl (by decide) rfl (fun ls hl => ?_)
        obtain ⟨v26, ev26⟩ : ∃ z : Int32, z = x5 + 1 := ⟨_, rfl⟩
        have hf := zn_e ev26 hf
        refine lv_iinc (v := v26) (lv' := [(5, .int v26), (4, .int v25), (10, .int t0), (0, .ref (h 46)), (1, .int x1), (3, .int x3), (6, .long x6), (8, .int x8), (9, .int x9)]) hx hb dX3_chainHolds_159 hl (k := 5) rfl (by rw [ev26]; rfl) (by decide) rfl (fun ls hl => ?_)
        refine lv_goto (tgt := 6) hx hb dX3_chainHolds_162 (by decide) ?_
        exact hK6 (x1, x3, v25, v26, s23) _ hf _ _ _ Z (lv_sub hl [3, 4, 5, 1, 0] rfl)
      · have hf := itp c24 hf
        refine lv_iconst (v := 1) hx hb dX3_chainHolds_148 (by decide) ?_
        exact retZ X hr hk Z (by decide) hf dX3_chainHolds_149
    · have hf := itp c20 hf
      refine lv_iconst (v := 0) hx hb dX3_chainHolds_120 (by decide) ?_
      exact retZ X hr hk Z (by decide) hf dX3_chainHolds_121

set_option maxRecDepth 100000 in
set_option maxHeartbeats 4000000 in
theorem b_X3_chainHolds_86 {p : Program} {l : Launch} {e : Env} {s : State} {m : MethodId} {args : Array Value} {below : List Frame} {meth : Method} {c : Code} {D : va_G} {h : Nat → Nat} {cy : Nat → ClassId} (X : Cx p s m args c D h cy RX3 cX3_chainHolds 11) (hr : meth.sig.returnType = some .boolean) (hk : meth.locks = false) (K6 : (Int32 × Int32 × Int32 × Int32 × St) → Option (Int32 × St)) (hK6 : ∀ (a : Int32 × Int32 × Int32 × Int32 × St) (y : Int32 × St), K6 a = some y → ∀ (H : Heap) (locs : List Loc) (ls : Array Slot), Zt D h cy s a.2.2.2.2 H locs → lv_has ls 11 [(0, .ref (h 46)), (1, .int a.1), (3, .int a.2.1), (4, .int a.2.2.1), (5, .int a.2.2.2.1)] → W p l e (rmz 2 47) s m args below meth c H locs 0 0 (EI below args s D h cy y) (F0 m 6 ls [])) (x1 : Int32) (x3 : Int32) (x4 : Int32) (x5 : Int32) (x6 : Int64) (x8 : Int32) (x9 : Int32) (σ : St) (y : Int32 × St) (hf : f_X3_chainHolds_86 K6 x1 x3 x4 x5 x6 x8 x9 σ = some y) : ∀ (H : Heap) (locs : List Loc) (ls : Array Slot), Zt D h cy s σ H locs → lv_has ls 11 [(0, .ref (h 46)), (1, .int x1), (3, .int x3), (4, .int x4), (5, .int x5), (6, .long x6), (8, .int x8), (9, .int x9)] → W p l e (rmz 2 47) s m args below meth c H locs 0 0 (EI below args s D h cy y) (F0 m 86 ls []) := by
  intro H locs ls Z hl
  have hx := X.x
  have hb := X.b
  unfold f_X3_chainHolds_86 at hf
  refine lv_iconst (v := 1) hx hb dX3_chainHolds_86 (by decide) ?_
  refine lv_goto (tgt := 91) hx hb dX3_chainHolds_87 (by decide) ?_
  exact b_X3_chainHolds_91 X hr hk K6 hK6 x1 x3 x4 x5 x6 x8 x9 (1 : Int32) σ _ hf _ _ _ Z (lv_sub hl [0, 1, 2, 3, 4, 5, 6, 7] rfl)

set_option maxRecDepth 100000 in
set_option maxHeartbeats 4000000 in
theorem b_X3_chainHolds_90 {p : Program} {l : Launch} {e : Env} {s : State} {m : MethodId} {args : Array Value} {below : List Frame} {meth : Method} {c : Code} {D : va_G} {h : Nat → Nat} {cy : Nat → ClassId} (X : Cx p s m args c D h cy RX3 cX3_chainHolds 11) (hr : meth.sig.returnType = some .boolean) (hk : meth.locks = false) (K6 : (Int32 × Int32 × Int32 × Int32 × St) → Option (Int32 × St)) (hK6 : ∀ (a : Int32 × Int32 × Int32 × Int32 × St) (y : Int32 × St), K6 a = some y → ∀ (H : Heap) (locs : List Loc) (ls : Array Slot), Zt D h cy s a.2.2.2.2 H locs → lv_has ls 11 [(0, .ref (h 46)), (1, .int a.1), (3, .int a.2.1), (4, .int a.2.2.1), (5, .int a.2.2.2.1)] → W p l e (rmz 2 47) s m args below meth c H locs 0 0 (EI below args s D h cy y) (F0 m 6 ls [])) (x1 : Int32) (x3 : Int32) (x4 : Int32) (x5 : Int32) (x6 : Int64) (x8 : Int32) (x9 : Int32) (σ : St) (y : Int32 × St) (hf : f_X3_chainHolds_90 K6 x1 x3 x4 x5 x6 x8 x9 σ = some y) : ∀ (H : Heap) (locs : List Loc) (ls : Array Slot), Zt D h cy s σ H locs → lv_has ls 11 [(0, .ref (h 46)), (1, .int x1), (3, .int x3), (4, .int x4), (5, .int x5), (6, .long x6), (8, .int x8), (9, .int x9)] → W p l e (rmz 2 47) s m args below meth c H locs 0 0 (EI below args s D h cy y) (F0 m 90 ls []) := by
  intro H locs ls Z hl
  have hx := X.x
  have hb := X.b
  unfold f_X3_chainHolds_90 at hf
  refine lv_iconst (v := 0) hx hb dX3_chainHolds_90 (by decide) ?_
  exact b_X3_chainHolds_91 X hr hk K6 hK6 x1 x3 x4 x5 x6 x8 x9 (0 : Int32) σ _ hf _ _ _ Z (lv_sub hl [0, 1, 2, 3, 4, 5, 6, 7] rfl)

set_option maxRecDepth 100000 in
set_option maxHeartbeats 4000000 in
theorem b_X3_chainHolds_6b {p : Program} {l : Launch} {e : Env} {s : State} {m : MethodId} {args : Array Value} {below : List Frame} {meth : Method} {c : Code} {D : va_G} {h : Nat → Nat} {cy : Nat → ClassId} (X : Cx p s m args c D h cy RX3 cX3_chainHolds 11) (hr : meth.sig.returnType = some .boolean) (hk : meth.locks = false) (K6 : (Int32 × Int32 × Int32 × Int32 × St) → Option (Int32 × St)) (hK6 : ∀ (a : Int32 × Int32 × Int32 × Int32 × St) (y : Int32 × St), K6 a = some y → ∀ (H : Heap) (locs : List Loc) (ls : Array Slot), Zt D h cy s a.2.2.2.2 H locs → lv_has ls 11 [(0, .ref (h 46)), (1, .int a.1), (3, .int a.2.1), (4, .int a.2.2.1), (5, .int a.2.2.2.1)] → W p l e (rmz 2 47) s m args below meth c H locs 0 0 (EI below args s D h cy y) (F0 m 6 ls [])) (x1 : Int32) (x3 : Int32) (x4 : Int32) (x5 : Int32) (σ : St) (y : Int32 × St) (hf : f_X3_chainHolds_6b K6 x1 x3 x4 x5 σ = some y) : ∀ (H : Heap) (locs : List Loc) (ls : Array Slot), Zt D h cy s σ H locs → lv_has ls 11 [(0, .ref (h 46)), (1, .int x1), (3, .int x3), (4, .int x4), (5, .int x5)] → W p l e (rmz 2 47) s m args below meth c H locs 0 0 (EI below args s D h cy y) (F0 m 6 ls []) := by
  intro H locs ls Z hl
  have hx := X.x
  have hb := X.b
  unfold f_X3_chainHolds_6b at hf
  refine lv_iload hx hb dX3_chainHolds_6 (lv_at hl 4 rfl) ?_
  refine lv_sipush (v := 2048) hx hb dX3_chainHolds_8 (by decide) ?_
  refine lv_icmp_ge (tgt := 165) hx hb dX3_chainHolds_11 (by decide) (fun c2 => ?_) (fun c2 => ?_)
  · have hf := itp c2 hf
    refine lv_iconst (v := 1) hx hb dX3_chainHolds_165 (by decide) ?_
    exact retZ X hr hk Z (by decide) hf dX3_chainHolds_166
  · have hf := itn c2 hf
    refine lv_aload_n hx hb dX3_chainHolds_14 rfl (lv_at hl 0 rfl) ?_
    refine gf_RX3_33 X Z dX3_chainHolds_15 ?_
    refine lv_aload_n hx hb dX3_chainHolds_18 rfl (lv_at hl 0 rfl) ?_
    refine gf_RX3_9 X Z dX3_chainHolds_19 ?_
    refine lv_iload_n hx hb dX3_chainHolds_22 rfl (lv_at hl 1 rfl) ?_
    refine lv_iload hx hb dX3_chainHolds_23 (lv_at hl 3 rfl) ?_
    obtain ⟨r5, s4, h3, hf⟩ := bi_s hf
    refine goL Z (run_V (As := [.ref (h 3), .int x1, .int x4]) (rest := []) X Z (c_X7_pointerBits l D h cy segs_41 row_3 x1 x4 σ (r5, s4) h3 _) lk_RX3_176 ⟨by decide, by decide⟩ (rv_SegsS segs_41) rfl hl.1 rfl (Nat.le_of_ble_eq_true rfl) ⟨Nat.le_refl _, Nat.le_refl _⟩ dX3_chainHolds_25) (fun H locs Z => ?_)
    refine lv_lstore (lv' := [(6, .long r5), (0, .ref (h 46)), (1, .int x1), (3, .int x3), (4, .int x4), (5, .int x5)]) hx hb dX3_chainHolds_28 hl (by decide) rfl (fun ls hl => ?_)
    refine lv_aload_n hx hb dX3_chainHolds_30 rfl (lv_at hl 1 rfl) ?_
    refine gf_RX3_33 X Z dX3_chainHolds_31 ?_
    refine gf_RX3_137 X Z segs_41 dX3_chainHolds_34 ?_
    refine lv_iload_n hx hb dX3_chainHolds_37 rfl (lv_at hl 2 rfl) ?_
    obtain ⟨g6, hf⟩ := gd_s hf
    refine x_iald (k := 42) X Z sh_42 g6 dX3_chainHolds_38 ?_
    refine lv_aload_n hx hb dX3_chainHolds_39 rfl (lv_at hl 1 rfl) ?_
    refine gf_RX3_33 X Z dX3_chainHolds_40 ?_
    refine gf_RX3_137 X Z segs_41 dX3_chainHolds_43 ?_
    refine lv_iconst (v := 0) hx hb dX3_chainHolds_46 (by decide) ?_
    obtain ⟨g7, hf⟩ := gd_s hf
    refine x_iald (k := 42) X Z sh_42 g7 dX3_chainHolds_47 ?_
    refine lv_isub hx hb dX3_chainHolds_48 ?_
    refine lv_iload hx hb dX3_chainHolds_49 (lv_at hl 4 rfl) ?_
    refine lv_iadd hx hb dX3_chainHolds_51 ?_
    refine lv_topi (fun v8 ev8 => ?_)
    have hf := zn_e ev8 hf
    refine lv_istore (lv' := [(8, .int v8), (6, .long r5), (0, .ref (h 46)), (1, .int x1), (3, .int x3), (4, .int x4), (5, .int x5)]) hx hb dX3_chainHolds_52 hl (by decide) rfl (fun ls hl => ?_)
    refine lv_lload hx hb dX3_chainHolds_54 (lv_at hl 1 rfl) ?_
    obtain ⟨r11, s10, h9, hf⟩ := bi_s hf
    refine goI Z (run_S (As := [.long r5]) (rest := []) X Z (c_X9_nextOf l D h cy r5 s4 (r11, s10) h9 _) lk_RX3_180 ⟨by decide, by decide⟩ rfl hl.1 rfl (Nat.le_of_ble_eq_true rfl) ⟨Nat.le_refl _, Nat.le_refl _⟩ dX3_chainHolds_56) (fun H locs Z => ?_)
    refine lv_istore (lv' := [(9, .int r11), (8, .int v8), (6, .long r5), (0, .ref (h 46)), (1, .int x1), (3, .int x3), (4, .int x4), (5, .int x5)]) hx hb dX3_chainHolds_59 hl (by decide) rfl (fun ls hl => ?_)
    refine lv_iload hx hb dX3_chainHolds_61 (lv_at hl 0 rfl) ?_
    refine lv_if_eq (tgt := 86) hx hb dX3_chainHolds_63 (by decide) (fun c12 => ?_) (fun c12 => ?_)
    · have hf := itp c12 hf
      exact b_X3_chainHolds_86 X hr hk K6 hK6 x1 x3 x4 x5 r5 v8 r11 s10 _ hf _ _ _ Z (lv_sub hl [3, 4, 5, 6, 7, 2, 1, 0] rfl)
    · have hf := itn c12 hf
      refine lv_iload hx hb dX3_chainHolds_66 (lv_at hl 0 rfl) ?_
      refine lv_iconst (v := 1) hx hb dX3_chainHolds_68 (by decide) ?_
      refine lv_icmp_le (tgt := 90) hx hb dX3_chainHolds_69 (by decide) (fun c27 => ?_) (fun c27 => ?_)
      · have hf := itp c27 hf
        exact b_X3_chainHolds_90 X hr hk K6 hK6 x1 x3 x4 x5 r5 v8 r11 s10 _ hf _ _ _ Z (lv_sub hl [3, 4, 5, 6, 7, 2, 1, 0] rfl)
      · have hf := itn c27 hf
        refine lv_iload hx hb dX3_chainHolds_72 (lv_at hl 6 rfl) ?_
        refine lv_iconst (v := 4) hx hb dX3_chainHolds_74 (by decide) ?_
        refine lv_iload hx hb dX3_chainHolds_75 (lv_at hl 0 rfl) ?_
        refine lv_imul hx hb dX3_chainHolds_77 ?_
        refine lv_iadd hx hb dX3_chainHolds_78 ?_
        refine lv_bipush (v := 8) hx hb dX3_chainHolds_79 (by decide) ?_
        refine lv_iadd hx hb dX3_chainHolds_81 ?_
        refine lv_iload_n hx hb dX3_chainHolds_82 rfl (lv_at hl 5 rfl) ?_
        refine lv_icmp_gt (tgt := 90) hx hb dX3_chainHolds_83 (by decide) (fun c28 => ?_) (fun c28 => ?_)
        · have hf := itp c28 hf
          exact b_X3_chainHolds_90 X hr hk K6 hK6 x1 x3 x4 x5 r5 v8 r11 s10 _ hf _ _ _ Z (lv_sub hl [3, 4, 5, 6, 7, 2, 1, 0] rfl)
        · have hf := itn c28 hf
          exact b_X3_chainHolds_86 X hr hk K6 hK6 x1 x3 x4 x5 r5 v8 r11 s10 _ hf _ _ _ Z (lv_sub hl [3, 4, 5, 6, 7, 2, 1, 0] rfl)

set_option maxRecDepth 100000 in
set_option maxHeartbeats 4000000 in
theorem b_X3_chainHolds_6 {p : Program} {l : Launch} {e : Env} {s : State} {m : MethodId} {args : Array Value} {below : List Frame} {meth : Method} {c : Code} {D : va_G} {h : Nat → Nat} {cy : Nat → ClassId} (X : Cx p s m args c D h cy RX3 cX3_chainHolds 11) (hr : meth.sig.returnType = some .boolean) (hk : meth.locks = false) (x1 : Int32) (x3 : Int32) (x4 : Int32) (x5 : Int32) (σ : St) (y : Int32 × St) (hf : f_X3_chainHolds_6 x1 x3 x4 x5 σ = some y) : ∀ (H : Heap) (locs : List Loc) (ls : Array Slot), Zt D h cy s σ H locs → lv_has ls 11 [(0, .ref (h 46)), (1, .int x1), (3, .int x3), (4, .int x4), (5, .int x5)] → W p l e (rmz 2 47) s m args below meth c H locs 0 0 (EI below args s D h cy y) (F0 m 6 ls []) := by
  exact it_W (F := fun K a => f_X3_chainHolds_6b K a.1 a.2.1 a.2.2.1 a.2.2.2.1 a.2.2.2.2) (P := fun a y => ∀ (H : Heap) (locs : List Loc) (ls : Array Slot), Zt D h cy s a.2.2.2.2 H locs → lv_has ls 11 [(0, .ref (h 46)), (1, .int a.1), (3, .int a.2.1), (4, .int a.2.2.1), (5, .int a.2.2.2.1)] → W p l e (rmz 2 47) s m args below meth c H locs 0 0 (EI below args s D h cy y) (F0 m 6 ls [])) (fun K hK a y hf => b_X3_chainHolds_6b X hr hk K hK (a.1) (a.2.1) (a.2.2.1) (a.2.2.2.1) (a.2.2.2.2) y hf) FU _ y hf

set_option maxRecDepth 100000 in
set_option maxHeartbeats 4000000 in
theorem c_X3_chainHolds (l : Launch) (D : va_G) (h : Nat → Nat) (cy : Nat → ClassId) (a1 : Int32) (a2 : Int32) (a3 : Int32) (σ : St) (y : Int32 × St) (hf : f_X3_chainHolds a1 a2 a3 σ = some y) : CI l yX3_chainHolds cX3_chainHolds 11 (some .boolean) 2 47 D h cy [.ref (h 46), .int a1, .int a2, .int a3] σ y := by
  refine ent (Qc := fun sz => QI D h cy sz y) (by decide) (Nat.le_of_ble_eq_true rfl) ?_
  intro p e s m below meth c ls X Z hr hk hl
  have X : Cx p s m _ c D h cy RX3 cX3_chainHolds 11 := X
  have hx := X.x
  have hb := X.b
  have hl : lv_has ls 11 [(0, .ref (h 46)), (1, .int a1), (2, .int a2), (3, .int a3)] := hl
  unfold f_X3_chainHolds at hf
  refine lv_iload_n hx hb dX3_chainHolds_0 rfl (lv_at hl 2 rfl) ?_
  refine lv_istore (lv' := [(4, .int a2), (0, .ref (h 46)), (1, .int a1), (2, .int a2), (3, .int a3)]) hx hb dX3_chainHolds_1 hl (by decide) rfl (fun ls hl => ?_)
  refine lv_iconst (v := 0) hx hb dX3_chainHolds_3 (by decide) ?_
  refine lv_topi (fun v1 ev1 => ?_)
  have hf := zn_e ev1 hf
  refine lv_istore (lv' := [(5, .int v1), (4, .int a2), (0, .ref (h 46)), (1, .int a1), (2, .int a2), (3, .int a3)]) hx hb dX3_chainHolds_4 hl (by decide) rfl (fun ls hl => ?_)
  exact b_X3_chainHolds_6 X hr hk a1 a3 a2 v1 σ _ hf _ _ _ Z (lv_sub hl [2, 3, 5, 1, 0] rfl)

set_option maxRecDepth 100000 in
set_option maxHeartbeats 4000000 in
theorem b_X3_chainsOfHold_138 {p : Program} {l : Launch} {e : Env} {s : State} {m : MethodId} {args : Array Value} {below : List Frame} {meth : Method} {c : Code} {D : va_G} {h : Nat → Nat} {cy : Nat → ClassId} (X : Cx p s m args c D h cy RX3 cX3_chainsOfHold 10) (hr : meth.sig.returnType = some .boolean) (hk : meth.locks = false) (K21 : (Int32 × Int32 × Int32 × Int32 × Int32 × St) → Option (Int32 × St)) (hK21 : ∀ (a : Int32 × Int32 × Int32 × Int32 × Int32 × St) (y : Int32 × St), K21 a = some y → ∀ (H : Heap) (locs : List Loc) (ls : Array Slot), Zt D h cy s a.2.2.2.2.2 H locs → lv_has ls 10 [(0, .ref (h 46)), (1, .int a.1), (2, .int a.2.1), (3, .int a.2.2.1), (4, .int a.2.2.2.1), (5, .int a.2.2.2.2.1)] → W p l e (rmz 3 77) s m args below meth c H locs 0 0 (EI below args s D h cy y) (F0 m 21 ls [])) (x1 : Int32) (x2 : Int32) (x3 : Int32) (x4 : Int32) (x5 : Int32) (σ : St) (y : Int32 × St) (hf : f_X3_chainsOfHold_138 K21 x1 x2 x3 x4 x5 σ = some y) : ∀ (H : Heap) (locs : List Loc) (ls : Array Slot), Zt D h cy s σ H locs → lv_has ls 10 [(0, .ref (h 46)), (1, .int x1), (2, .int x2), (3, .int x3), (4, .int x4), (5, .int x5)] → W p l e (rmz 3 77) s m args below meth c H locs 0 0 (EI below args s D h cy y) (F0 m 138 ls []) := by
  intro H locs ls Z hl
  have hx := X.x
  have hb := X.b
  unfold f_X3_chainsOfHold_138 at hf
  obtain ⟨v16, ev16⟩ : ∃ z : Int32, z = x5 + 1 := ⟨_, rfl⟩
  have hf := zn_e ev16 hf
  refine lv_iinc (v := v16) (lv' := [(5, .int v16), (0, .ref (h 46)), (1, .int x1), (2, .int x2), (3, .int x3), (4, .int x4)]) hx hb dX3_chainsOfHold_138 hl (k := 5) rfl (by rw [ev16]; rfl) (by decide) rfl (fun ls hl => ?_)
  refine lv_goto (tgt := 21) hx hb dX3_chainsOfHold_141 (by decide) ?_
  exact hK21 (x1, x2, x3, x4, v16, σ) _ hf _ _ _ Z (lv_sub hl [1, 2, 3, 4, 5, 0] rfl)

set_option maxRecDepth 100000 in
set_option maxHeartbeats 4000000 in
theorem b_X3_chainsOfHold_101 {p : Program} {l : Launch} {e : Env} {s : State} {m : MethodId} {args : Array Value} {below : List Frame} {meth : Method} {c : Code} {D : va_G} {h : Nat → Nat} {cy : Nat → ClassId} (X : Cx p s m args c D h cy RX3 cX3_chainsOfHold 10) (hr : meth.sig.returnType = some .boolean) (hk : meth.locks = false) (K21 : (Int32 × Int32 × Int32 × Int32 × Int32 × St) → Option (Int32 × St)) (hK21 : ∀ (a : Int32 × Int32 × Int32 × Int32 × Int32 × St) (y : Int32 × St), K21 a = some y → ∀ (H : Heap) (locs : List Loc) (ls : Array Slot), Zt D h cy s a.2.2.2.2.2 H locs → lv_has ls 10 [(0, .ref (h 46)), (1, .int a.1), (2, .int a.2.1), (3, .int a.2.2.1), (4, .int a.2.2.2.1), (5, .int a.2.2.2.2.1)] → W p l e (rmz 3 77) s m args below meth c H locs 0 0 (EI below args s D h cy y) (F0 m 21 ls [])) (x1 : Int32) (x2 : Int32) (x3 : Int32) (x4 : Int32) (x5 : Int32) (x6 : Int32) (x7 : Int32) (x8 : Int32) (t0 : Int32) (σ : St) (y : Int32 × St) (hf : f_X3_chainsOfHold_101 K21 x1 x2 x3 x4 x5 x6 x7 x8 t0 σ = some y) : ∀ (H : Heap) (locs : List Loc) (ls : Array Slot), Zt D h cy s σ H locs → lv_has ls 10 [(0, .ref (h 46)), (1, .int x1), (2, .int x2), (3, .int x3), (4, .int x4), (5, .int x5), (6, .int x6), (7, .int x7), (8, .int x8)] → W p l e (rmz 3 77) s m args below meth c H locs 0 0 (EI below args s D h cy y) (F0 m 101 ls [.int t0]) := by
  intro H locs ls Z hl
  have hx := X.x
  have hb := X.b
  unfold f_X3_chainsOfHold_101 at hf
  refine lv_istore (lv' := [(9, .int t0), (0, .ref (h 46)), (1, .int x1), (2, .int x2), (3, .int x3), (4, .int x4), (5, .int x5), (6, .int x6), (7, .int x7), (8, .int x8)]) hx hb dX3_chainsOfHold_101 hl (by decide) rfl (fun ls hl => ?_)
  refine lv_aload_n hx hb dX3_chainsOfHold_103 rfl (lv_at hl 1 rfl) ?_
  refine gf_RX3_15 X Z dX3_chainsOfHold_104 ?_
  refine lv_iload hx hb dX3_chainsOfHold_107 (lv_at hl 0 rfl) ?_
  refine lv_bipush (v := 10) hx hb dX3_chainsOfHold_109 (by decide) ?_
  refine lv_iload hx hb dX3_chainsOfHold_111 (lv_at hl 7 rfl) ?_
  obtain ⟨r20, s19, h18, hf⟩ := bi_s hf
  refine goI Z (run_V (As := [.int t0, .int (10 : Int32), .int x6]) (rest := []) X Z (c_X2_unless l D h cy t0 (10 : Int32) x6 σ (r20, s19) h18 _) lk_RX3_166 ⟨by decide, by decide⟩ rv_39 rfl hl.1 rfl (Nat.le_of_ble_eq_true rfl) ⟨Nat.le_refl _, Nat.le_refl _⟩ dX3_chainsOfHold_113) (fun H locs Z => ?_)
  refine lv_if_eq (tgt := 136) hx hb dX3_chainsOfHold_116 (by decide) (fun c21 => ?_) (fun c21 => ?_)
  · have hf := itp c21 hf
    refine lv_iconst (v := 0) hx hb dX3_chainsOfHold_136 (by decide) ?_
    exact retZ X hr hk Z (by decide) hf dX3_chainsOfHold_137
  · have hf := itn c21 hf
    refine lv_aload_n hx hb dX3_chainsOfHold_119 rfl (lv_at hl 1 rfl) ?_
    refine lv_iload_n hx hb dX3_chainsOfHold_120 rfl (lv_at hl 2 rfl) ?_
    refine lv_iload_n hx hb dX3_chainsOfHold_121 rfl (lv_at hl 4 rfl) ?_
    refine lv_iload hx hb dX3_chainsOfHold_122 (lv_at hl 6 rfl) ?_
    refine lv_imul hx hb dX3_chainsOfHold_124 ?_
    refine lv_iload hx hb dX3_chainsOfHold_125 (lv_at hl 8 rfl) ?_
    refine lv_iadd hx hb dX3_chainsOfHold_127 ?_
    refine lv_iload hx hb dX3_chainsOfHold_128 (lv_at hl 9 rfl) ?_
    obtain ⟨r24, s23, h22, hf⟩ := bi_s hf
    refine goI Z (run_V (As := [.int x1, .int (((x3 * x5) + x7)), .int x8]) (rest := []) X Z (c_X3_chainHolds l D h cy x1 (((x3 * x5) + x7)) x8 s19 (r24, s23) h22 _) lk_RX3_172 ⟨by decide, by decide⟩ rv_46 rfl hl.1 rfl (Nat.le_of_ble_eq_true rfl) ⟨Nat.le_refl _, Nat.le_refl _⟩ dX3_chainsOfHold_130) (fun H locs Z => ?_)
    refine lv_if_ne (tgt := 138) hx hb dX3_chainsOfHold_133 (by decide) (fun c25 => ?_) (fun c25 => ?_)
    · have hf := itn c25 hf
      exact b_X3_chainsOfHold_138 X hr hk K21 hK21 x1 x2 x3 x4 x5 s23 _ hf _ _ _ Z (lv_sub hl [1, 2, 3, 4, 5, 6] rfl)
    · have hf := itp c25 hf
      refine lv_iconst (v := 0) hx hb dX3_chainsOfHold_136 (by decide) ?_
      exact retZ X hr hk Z (by decide) hf dX3_chainsOfHold_137

set_option maxRecDepth 100000 in
set_option maxHeartbeats 4000000 in
theorem b_X3_chainsOfHold_100 {p : Program} {l : Launch} {e : Env} {s : State} {m : MethodId} {args : Array Value} {below : List Frame} {meth : Method} {c : Code} {D : va_G} {h : Nat → Nat} {cy : Nat → ClassId} (X : Cx p s m args c D h cy RX3 cX3_chainsOfHold 10) (hr : meth.sig.returnType = some .boolean) (hk : meth.locks = false) (K21 : (Int32 × Int32 × Int32 × Int32 × Int32 × St) → Option (Int32 × St)) (hK21 : ∀ (a : Int32 × Int32 × Int32 × Int32 × Int32 × St) (y : Int32 × St), K21 a = some y → ∀ (H : Heap) (locs : List Loc) (ls : Array Slot), Zt D h cy s a.2.2.2.2.2 H locs → lv_has ls 10 [(0, .ref (h 46)), (1, .int a.1), (2, .int a.2.1), (3, .int a.2.2.1), (4, .int a.2.2.2.1), (5, .int a.2.2.2.2.1)] → W p l e (rmz 3 77) s m args below meth c H locs 0 0 (EI below args s D h cy y) (F0 m 21 ls [])) (x1 : Int32) (x2 : Int32) (x3 : Int32) (x4 : Int32) (x5 : Int32) (x6 : Int32) (x7 : Int32) (x8 : Int32) (σ : St) (y : Int32 × St) (hf : f_X3_chainsOfHold_100 K21 x1 x2 x3 x4 x5 x6 x7 x8 σ = some y) : ∀ (H : Heap) (locs : List Loc) (ls : Array Slot), Zt D h cy s σ H locs → lv_has ls 10 [(0, .ref (h 46)), (1, .int x1), (2, .int x2), (3, .int x3), (4, .int x4), (5, .int x5), (6, .int x6), (7, .int x7), (8, .int x8)] → W p l e (rmz 3 77) s m args below meth c H locs 0 0 (EI below args s D h cy y) (F0 m 100 ls []) := by
  intro H locs ls Z hl
  have hx := X.x
  have hb := X.b
  unfold f_X3_chainsOfHold_100 at hf
  refine lv_iconst (v := 0) hx hb dX3_chainsOfHold_100 (by decide) ?_
  exact b_X3_chainsOfHold_101 X hr hk K21 hK21 x1 x2 x3 x4 x5 x6 x7 x8 (0 : Int32) σ _ hf _ _ _ Z (lv_sub hl [0, 1, 2, 3, 4, 5, 6, 7, 8] rfl)

set_option maxRecDepth 100000 in
set_option maxHeartbeats 4000000 in
theorem b_X3_chainsOfHold_21b {p : Program} {l : Launch} {e : Env} {s : State} {m : MethodId} {args : Array Value} {below : List Frame} {meth : Method} {c : Code} {D : va_G} {h : Nat → Nat} {cy : Nat → ClassId} (X : Cx p s m args c D h cy RX3 cX3_chainsOfHold 10) (hr : meth.sig.returnType = some .boolean) (hk : meth.locks = false) (K21 : (Int32 × Int32 × Int32 × Int32 × Int32 × St) → Option (Int32 × St)) (hK21 : ∀ (a : Int32 × Int32 × Int32 × Int32 × Int32 × St) (y : Int32 × St), K21 a = some y → ∀ (H : Heap) (locs : List Loc) (ls : Array Slot), Zt D h cy s a.2.2.2.2.2 H locs → lv_has ls 10 [(0, .ref (h 46)), (1, .int a.1), (2, .int a.2.1), (3, .int a.2.2.1), (4, .int a.2.2.2.1), (5, .int a.2.2.2.2.1)] → W p l e (rmz 3 77) s m args below meth c H locs 0 0 (EI below args s D h cy y) (F0 m 21 ls [])) (x1 : Int32) (x2 : Int32) (x3 : Int32) (x4 : Int32) (x5 : Int32) (σ : St) (y : Int32 × St) (hf : f_X3_chainsOfHold_21b K21 x1 x2 x3 x4 x5 σ = some y) : ∀ (H : Heap) (locs : List Loc) (ls : Array Slot), Zt D h cy s σ H locs → lv_has ls 10 [(0, .ref (h 46)), (1, .int x1), (2, .int x2), (3, .int x3), (4, .int x4), (5, .int x5)] → W p l e (rmz 3 77) s m args below meth c H locs 0 0 (EI below args s D h cy y) (F0 m 21 ls []) := by
  intro H locs ls Z hl
  have hx := X.x
  have hb := X.b
  unfold f_X3_chainsOfHold_21b at hf
  refine lv_iload hx hb dX3_chainsOfHold_21 (lv_at hl 5 rfl) ?_
  refine lv_iload hx hb dX3_chainsOfHold_23 (lv_at hl 4 rfl) ?_
  refine lv_icmp_ge (tgt := 144) hx hb dX3_chainsOfHold_25 (by decide) (fun c8 => ?_) (fun c8 => ?_)
  · have hf := itp c8 hf
    refine lv_iconst (v := 1) hx hb dX3_chainsOfHold_144 (by decide) ?_
    exact retZ X hr hk Z (by decide) hf dX3_chainsOfHold_145
  · have hf := itn c8 hf
    refine lv_iload_n hx hb dX3_chainsOfHold_28 rfl (lv_at hl 2 rfl) ?_
    refine lv_bipush (v := 22) hx hb dX3_chainsOfHold_29 (by decide) ?_
    refine lv_iadd hx hb dX3_chainsOfHold_31 ?_
    refine lv_iconst (v := 2) hx hb dX3_chainsOfHold_32 (by decide) ?_
    refine lv_iload hx hb dX3_chainsOfHold_33 (lv_at hl 5 rfl) ?_
    refine lv_imul hx hb dX3_chainsOfHold_35 ?_
    refine lv_iadd hx hb dX3_chainsOfHold_36 ?_
    refine lv_topi (fun v9 ev9 => ?_)
    have hf := zn_e ev9 hf
    refine lv_istore (lv' := [(6, .int v9), (0, .ref (h 46)), (1, .int x1), (2, .int x2), (3, .int x3), (4, .int x4), (5, .int x5)]) hx hb dX3_chainsOfHold_37 hl (by decide) rfl (fun ls hl => ?_)
    refine lv_aload_n hx hb dX3_chainsOfHold_39 rfl (lv_at hl 1 rfl) ?_
    refine lv_iload hx hb dX3_chainsOfHold_40 (lv_at hl 0 rfl) ?_
    obtain ⟨r12, s11, h10, hf⟩ := bi_s hf
    refine goI Z (run_V (As := [.int v9]) (rest := []) X Z (c_X3_u2 l D h cy v9 σ (r12, s11) h10 _) lk_RX3_133 ⟨by decide, by decide⟩ rv_46 rfl hl.1 rfl (Nat.le_of_ble_eq_true rfl) ⟨Nat.le_refl _, Nat.le_refl _⟩ dX3_chainsOfHold_42) (fun H locs Z => ?_)
    refine lv_istore (lv' := [(7, .int r12), (6, .int v9), (0, .ref (h 46)), (1, .int x1), (2, .int x2), (3, .int x3), (4, .int x4), (5, .int x5)]) hx hb dX3_chainsOfHold_45 hl (by decide) rfl (fun ls hl => ?_)
    refine lv_iload_n hx hb dX3_chainsOfHold_47 rfl (lv_at hl 5 rfl) ?_
    refine lv_iload hx hb dX3_chainsOfHold_48 (lv_at hl 7 rfl) ?_
    refine lv_iconst (v := 1) hx hb dX3_chainsOfHold_50 (by decide) ?_
    refine lv_iadd hx hb dX3_chainsOfHold_51 ?_
    refine lv_imul hx hb dX3_chainsOfHold_52 ?_
    refine lv_aload_n hx hb dX3_chainsOfHold_53 rfl (lv_at hl 2 rfl) ?_
    refine gf_RX3_33 X Z dX3_chainsOfHold_54 ?_
    refine gf_RX3_151 X Z segs_41 dX3_chainsOfHold_57 ?_
    refine lv_iload_n hx hb dX3_chainsOfHold_60 rfl (lv_at hl 3 rfl) ?_
    obtain ⟨g13, hf⟩ := gd_s hf
    refine x_iald (k := 43) X Z sh_43 g13 dX3_chainsOfHold_61 ?_
    refine x_mmin X hl.1 mm_RX3_160 (by decide) (Nat.le_of_ble_eq_true rfl) ⟨Nat.le_refl _, Nat.le_refl _⟩ dX3_chainsOfHold_62 ?_
    refine lv_topi (fun v14 ev14 => ?_)
    have hf := zn_e ev14 hf
    refine lv_istore (lv' := [(8, .int v14), (7, .int r12), (6, .int v9), (0, .ref (h 46)), (1, .int x1), (2, .int x2), (3, .int x3), (4, .int x4), (5, .int x5)]) hx hb dX3_chainsOfHold_65 hl (by decide) rfl (fun ls hl => ?_)
    refine lv_iload hx hb dX3_chainsOfHold_67 (lv_at hl 1 rfl) ?_
    refine lv_ldc (v := 65535) hx hb X.o (X.t _ kc_RX3_165) dX3_chainsOfHold_69 ?_
    refine lv_icmp_eq (tgt := 138) hx hb dX3_chainsOfHold_71 (by decide) (fun c15 => ?_) (fun c15 => ?_)
    · have hf := itp c15 hf
      exact b_X3_chainsOfHold_138 X hr hk K21 hK21 x1 x2 x3 x4 x5 s11 _ hf _ _ _ Z (lv_sub hl [3, 4, 5, 6, 7, 8] rfl)
    · have hf := itn c15 hf
      refine lv_iload hx hb dX3_chainsOfHold_74 (lv_at hl 1 rfl) ?_
      refine lv_iconst (v := 4) hx hb dX3_chainsOfHold_76 (by decide) ?_
      refine lv_irem hx hb dX3_chainsOfHold_77 (by decide) ?_
      refine lv_if_ne (tgt := 100) hx hb dX3_chainsOfHold_78 (by decide) (fun c17 => ?_) (fun c17 => ?_)
      · have hf := itn c17 hf
        exact b_X3_chainsOfHold_100 X hr hk K21 hK21 x1 x2 x3 x4 x5 v9 r12 v14 s11 _ hf _ _ _ Z (lv_sub hl [3, 4, 5, 6, 7, 8, 2, 1, 0] rfl)
      · have hf := itp c17 hf
        refine lv_iload_n hx hb dX3_chainsOfHold_81 rfl (lv_at hl 6 rfl) ?_
        refine lv_iload hx hb dX3_chainsOfHold_82 (lv_at hl 8 rfl) ?_
        refine lv_imul hx hb dX3_chainsOfHold_84 ?_
        refine lv_iload hx hb dX3_chainsOfHold_85 (lv_at hl 1 rfl) ?_
        refine lv_iadd hx hb dX3_chainsOfHold_87 ?_
        refine lv_bipush (v := 8) hx hb dX3_chainsOfHold_88 (by decide) ?_
        refine lv_iadd hx hb dX3_chainsOfHold_90 ?_
        refine lv_iload hx hb dX3_chainsOfHold_91 (lv_at hl 0 rfl) ?_
        refine lv_icmp_gt (tgt := 100) hx hb dX3_chainsOfHold_93 (by decide) (fun c26 => ?_) (fun c26 => ?_)
        · have hf := itp c26 hf
          exact b_X3_chainsOfHold_100 X hr hk K21 hK21 x1 x2 x3 x4 x5 v9 r12 v14 s11 _ hf _ _ _ Z (lv_sub hl [3, 4, 5, 6, 7, 8, 2, 1, 0] rfl)
        · have hf := itn c26 hf
          refine lv_iconst (v := 1) hx hb dX3_chainsOfHold_96 (by decide) ?_
          refine lv_goto (tgt := 101) hx hb dX3_chainsOfHold_97 (by decide) ?_
          exact b_X3_chainsOfHold_101 X hr hk K21 hK21 x1 x2 x3 x4 x5 v9 r12 v14 (1 : Int32) s11 _ hf _ _ _ Z (lv_sub hl [3, 4, 5, 6, 7, 8, 2, 1, 0] rfl)

set_option maxRecDepth 100000 in
set_option maxHeartbeats 4000000 in
theorem b_X3_chainsOfHold_21 {p : Program} {l : Launch} {e : Env} {s : State} {m : MethodId} {args : Array Value} {below : List Frame} {meth : Method} {c : Code} {D : va_G} {h : Nat → Nat} {cy : Nat → ClassId} (X : Cx p s m args c D h cy RX3 cX3_chainsOfHold 10) (hr : meth.sig.returnType = some .boolean) (hk : meth.locks = false) (x1 : Int32) (x2 : Int32) (x3 : Int32) (x4 : Int32) (x5 : Int32) (σ : St) (y : Int32 × St) (hf : f_X3_chainsOfHold_21 x1 x2 x3 x4 x5 σ = some y) : ∀ (H : Heap) (locs : List Loc) (ls : Array Slot), Zt D h cy s σ H locs → lv_has ls 10 [(0, .ref (h 46)), (1, .int x1), (2, .int x2), (3, .int x3), (4, .int x4), (5, .int x5)] → W p l e (rmz 3 77) s m args below meth c H locs 0 0 (EI below args s D h cy y) (F0 m 21 ls []) := by
  exact it_W (F := fun K a => f_X3_chainsOfHold_21b K a.1 a.2.1 a.2.2.1 a.2.2.2.1 a.2.2.2.2.1 a.2.2.2.2.2) (P := fun a y => ∀ (H : Heap) (locs : List Loc) (ls : Array Slot), Zt D h cy s a.2.2.2.2.2 H locs → lv_has ls 10 [(0, .ref (h 46)), (1, .int a.1), (2, .int a.2.1), (3, .int a.2.2.1), (4, .int a.2.2.2.1), (5, .int a.2.2.2.2.1)] → W p l e (rmz 3 77) s m args below meth c H locs 0 0 (EI below args s D h cy y) (F0 m 21 ls [])) (fun K hK a y hf => b_X3_chainsOfHold_21b X hr hk K hK (a.1) (a.2.1) (a.2.2.1) (a.2.2.2.1) (a.2.2.2.2.1) (a.2.2.2.2.2) y hf) FU _ y hf

set_option maxRecDepth 100000 in
set_option maxHeartbeats 4000000 in
theorem c_X3_chainsOfHold (l : Launch) (D : va_G) (h : Nat → Nat) (cy : Nat → ClassId) (a1 : Int32) (a2 : Int32) (σ : St) (y : Int32 × St) (hf : f_X3_chainsOfHold a1 a2 σ = some y) : CI l yX3_chainsOfHold cX3_chainsOfHold 10 (some .boolean) 3 77 D h cy [.ref (h 46), .int a1, .int a2] σ y := by
  refine ent (Qc := fun sz => QI D h cy sz y) (by decide) (Nat.le_of_ble_eq_true rfl) ?_
  intro p e s m below meth c ls X Z hr hk hl
  have X : Cx p s m _ c D h cy RX3 cX3_chainsOfHold 10 := X
  have hx := X.x
  have hb := X.b
  have hl : lv_has ls 10 [(0, .ref (h 46)), (1, .int a1), (2, .int a2)] := hl
  unfold f_X3_chainsOfHold at hf
  refine lv_aload_n hx hb dX3_chainsOfHold_0 rfl (lv_at hl 0 rfl) ?_
  refine lv_iload_n hx hb dX3_chainsOfHold_1 rfl (lv_at hl 2 rfl) ?_
  refine lv_iconst (v := 4) hx hb dX3_chainsOfHold_2 (by decide) ?_
  refine lv_iadd hx hb dX3_chainsOfHold_3 ?_
  obtain ⟨r3, s2, h1, hf⟩ := bi_s hf
  refine goI Z (run_V (As := [.int ((a2 + (4 : Int32)))]) (rest := []) X Z (c_X3_u2 l D h cy ((a2 + (4 : Int32))) σ (r3, s2) h1 _) lk_RX3_133 ⟨by decide, by decide⟩ rv_46 rfl hl.1 rfl (Nat.le_of_ble_eq_true rfl) ⟨Nat.le_refl _, Nat.le_refl _⟩ dX3_chainsOfHold_4) (fun H locs Z => ?_)
  refine lv_istore_n (lv' := [(3, .int r3), (0, .ref (h 46)), (1, .int a1), (2, .int a2)]) hx hb dX3_chainsOfHold_7 rfl hl (by decide) rfl (fun ls hl => ?_)
  refine lv_aload_n hx hb dX3_chainsOfHold_8 rfl (lv_at hl 1 rfl) ?_
  refine lv_iload_n hx hb dX3_chainsOfHold_9 rfl (lv_at hl 3 rfl) ?_
  refine lv_bipush (v := 20) hx hb dX3_chainsOfHold_10 (by decide) ?_
  refine lv_iadd hx hb dX3_chainsOfHold_12 ?_
  obtain ⟨r6, s5, h4, hf⟩ := bi_s hf
  refine goI Z (run_V (As := [.int ((a2 + (20 : Int32)))]) (rest := []) X Z (c_X3_u2 l D h cy ((a2 + (20 : Int32))) s2 (r6, s5) h4 _) lk_RX3_133 ⟨by decide, by decide⟩ rv_46 rfl hl.1 rfl (Nat.le_of_ble_eq_true rfl) ⟨Nat.le_refl _, Nat.le_refl _⟩ dX3_chainsOfHold_13) (fun H locs Z => ?_)
  refine lv_istore (lv' := [(4, .int r6), (3, .int r3), (0, .ref (h 46)), (1, .int a1), (2, .int a2)]) hx hb dX3_chainsOfHold_16 hl (by decide) rfl (fun ls hl => ?_)
  refine lv_iconst (v := 0) hx hb dX3_chainsOfHold_18 (by decide) ?_
  refine lv_topi (fun v7 ev7 => ?_)
  have hf := zn_e ev7 hf
  refine lv_istore (lv' := [(5, .int v7), (4, .int r6), (3, .int r3), (0, .ref (h 46)), (1, .int a1), (2, .int a2)]) hx hb dX3_chainsOfHold_19 hl (by decide) rfl (fun ls hl => ?_)
  exact b_X3_chainsOfHold_21 X hr hk a1 a2 r3 r6 v7 s5 _ hf _ _ _ Z (lv_sub hl [3, 4, 5, 2, 1, 0] rfl)

set_option maxRecDepth 100000 in
set_option maxHeartbeats 4000000 in
theorem b_X3_allChainsHold_39 {p : Program} {l : Launch} {e : Env} {s : State} {m : MethodId} {args : Array Value} {below : List Frame} {meth : Method} {c : Code} {D : va_G} {h : Nat → Nat} {cy : Nat → ClassId} (X : Cx p s m args c D h cy RX3 cX3_allChainsHold 2) (hr : meth.sig.returnType = some .boolean) (hk : meth.locks = false) (K2 : (Int32 × St) → Option (Int32 × St)) (hK2 : ∀ (a : Int32 × St) (y : Int32 × St), K2 a = some y → ∀ (H : Heap) (locs : List Loc) (ls : Array Slot), Zt D h cy s a.2 H locs → lv_has ls 2 [(0, .ref (h 46)), (1, .int a.1)] → W p l e (rmz 4 106) s m args below meth c H locs 0 0 (EI below args s D h cy y) (F0 m 2 ls [])) (x1 : Int32) (σ : St) (y : Int32 × St) (hf : f_X3_allChainsHold_39 K2 x1 σ = some y) : ∀ (H : Heap) (locs : List Loc) (ls : Array Slot), Zt D h cy s σ H locs → lv_has ls 2 [(0, .ref (h 46)), (1, .int x1)] → W p l e (rmz 4 106) s m args below meth c H locs 0 0 (EI below args s D h cy y) (F0 m 39 ls []) := by
  intro H locs ls Z hl
  have hx := X.x
  have hb := X.b
  unfold f_X3_allChainsHold_39 at hf
  obtain ⟨v5, ev5⟩ : ∃ z : Int32, z = x1 + 1 := ⟨_, rfl⟩
  have hf := zn_e ev5 hf
  refine lv_iinc (v := v5) (lv' := [(1, .int v5), (0, .ref (h 46))]) hx hb dX3_allChainsHold_39 hl (k := 1) rfl (by rw [ev5]; rfl) (by decide) rfl (fun ls hl => ?_)
  refine lv_goto (tgt := 2) hx hb dX3_allChainsHold_42 (by decide) ?_
  exact hK2 (v5, σ) _ hf _ _ _ Z (lv_sub hl [1, 0] rfl)

set_option maxRecDepth 100000 in
set_option maxHeartbeats 4000000 in
theorem b_X3_allChainsHold_2b {p : Program} {l : Launch} {e : Env} {s : State} {m : MethodId} {args : Array Value} {below : List Frame} {meth : Method} {c : Code} {D : va_G} {h : Nat → Nat} {cy : Nat → ClassId} (X : Cx p s m args c D h cy RX3 cX3_allChainsHold 2) (hr : meth.sig.returnType = some .boolean) (hk : meth.locks = false) (K2 : (Int32 × St) → Option (Int32 × St)) (hK2 : ∀ (a : Int32 × St) (y : Int32 × St), K2 a = some y → ∀ (H : Heap) (locs : List Loc) (ls : Array Slot), Zt D h cy s a.2 H locs → lv_has ls 2 [(0, .ref (h 46)), (1, .int a.1)] → W p l e (rmz 4 106) s m args below meth c H locs 0 0 (EI below args s D h cy y) (F0 m 2 ls [])) (x1 : Int32) (σ : St) (y : Int32 × St) (hf : f_X3_allChainsHold_2b K2 x1 σ = some y) : ∀ (H : Heap) (locs : List Loc) (ls : Array Slot), Zt D h cy s σ H locs → lv_has ls 2 [(0, .ref (h 46)), (1, .int x1)] → W p l e (rmz 4 106) s m args below meth c H locs 0 0 (EI below args s D h cy y) (F0 m 2 ls []) := by
  intro H locs ls Z hl
  have hx := X.x
  have hb := X.b
  unfold f_X3_allChainsHold_2b at hf
  refine lv_iload_n hx hb dX3_allChainsHold_2 rfl (lv_at hl 1 rfl) ?_
  refine lv_aload_n hx hb dX3_allChainsHold_3 rfl (lv_at hl 0 rfl) ?_
  refine gf_RX3_33 X Z dX3_allChainsHold_4 ?_
  refine gf_RX3_104 X Z segs_41 dX3_allChainsHold_7 ?_
  refine lv_icmp_ge (tgt := 45) hx hb dX3_allChainsHold_10 (by decide) (fun c2 => ?_) (fun c2 => ?_)
  · have hf := itp c2 hf
    refine lv_iconst (v := 1) hx hb dX3_allChainsHold_45 (by decide) ?_
    exact retZ X hr hk Z (by decide) hf dX3_allChainsHold_46
  · have hf := itn c2 hf
    refine lv_aload_n hx hb dX3_allChainsHold_13 rfl (lv_at hl 0 rfl) ?_
    refine gf_RX3_41 X Z dX3_allChainsHold_14 ?_
    refine lv_iload_n hx hb dX3_allChainsHold_17 rfl (lv_at hl 1 rfl) ?_
    obtain ⟨g3, hf⟩ := gd_s hf
    refine x_iald (k := 50) X Z sh_50 g3 dX3_allChainsHold_18 ?_
    refine lv_iconst (v := (-1)) hx hb dX3_allChainsHold_19 (by decide) ?_
    refine lv_icmp_eq (tgt := 39) hx hb dX3_allChainsHold_20 (by decide) (fun c4 => ?_) (fun c4 => ?_)
    · have hf := itp c4 hf
      exact b_X3_allChainsHold_39 X hr hk K2 hK2 x1 σ _ hf _ _ _ Z (lv_sub hl [0, 1] rfl)
    · have hf := itn c4 hf
      refine lv_aload_n hx hb dX3_allChainsHold_23 rfl (lv_at hl 0 rfl) ?_
      refine lv_iload_n hx hb dX3_allChainsHold_24 rfl (lv_at hl 1 rfl) ?_
      refine lv_aload_n hx hb dX3_allChainsHold_25 rfl (lv_at hl 0 rfl) ?_
      refine gf_RX3_41 X Z dX3_allChainsHold_26 ?_
      refine lv_iload_n hx hb dX3_allChainsHold_29 rfl (lv_at hl 1 rfl) ?_
      obtain ⟨g6, hf⟩ := gd_s hf
      refine x_iald (k := 50) X Z sh_50 g6 dX3_allChainsHold_30 ?_
      obtain ⟨r9, s8, h7, hf⟩ := bi_s hf
      refine goI Z (run_V (As := [.int x1, .int (σ.1 50 x1.toNatClampNeg)]) (rest := []) X Z (c_X3_chainsOfHold l D h cy x1 (σ.1 50 x1.toNatClampNeg) σ (r9, s8) h7 _) lk_RX3_157 ⟨by decide, by decide⟩ rv_46 rfl hl.1 rfl (Nat.le_of_ble_eq_true rfl) ⟨Nat.le_refl _, Nat.le_refl _⟩ dX3_allChainsHold_31) (fun H locs Z => ?_)
      refine lv_if_ne (tgt := 39) hx hb dX3_allChainsHold_34 (by decide) (fun c10 => ?_) (fun c10 => ?_)
      · have hf := itn c10 hf
        exact b_X3_allChainsHold_39 X hr hk K2 hK2 x1 s8 _ hf _ _ _ Z (lv_sub hl [0, 1] rfl)
      · have hf := itp c10 hf
        refine lv_iconst (v := 0) hx hb dX3_allChainsHold_37 (by decide) ?_
        exact retZ X hr hk Z (by decide) hf dX3_allChainsHold_38

set_option maxRecDepth 100000 in
set_option maxHeartbeats 4000000 in
theorem b_X3_allChainsHold_2 {p : Program} {l : Launch} {e : Env} {s : State} {m : MethodId} {args : Array Value} {below : List Frame} {meth : Method} {c : Code} {D : va_G} {h : Nat → Nat} {cy : Nat → ClassId} (X : Cx p s m args c D h cy RX3 cX3_allChainsHold 2) (hr : meth.sig.returnType = some .boolean) (hk : meth.locks = false) (x1 : Int32) (σ : St) (y : Int32 × St) (hf : f_X3_allChainsHold_2 x1 σ = some y) : ∀ (H : Heap) (locs : List Loc) (ls : Array Slot), Zt D h cy s σ H locs → lv_has ls 2 [(0, .ref (h 46)), (1, .int x1)] → W p l e (rmz 4 106) s m args below meth c H locs 0 0 (EI below args s D h cy y) (F0 m 2 ls []) := by
  exact it_W (F := fun K a => f_X3_allChainsHold_2b K a.1 a.2) (P := fun a y => ∀ (H : Heap) (locs : List Loc) (ls : Array Slot), Zt D h cy s a.2 H locs → lv_has ls 2 [(0, .ref (h 46)), (1, .int a.1)] → W p l e (rmz 4 106) s m args below meth c H locs 0 0 (EI below args s D h cy y) (F0 m 2 ls [])) (fun K hK a y hf => b_X3_allChainsHold_2b X hr hk K hK (a.1) (a.2) y hf) FU _ y hf

set_option maxRecDepth 100000 in
set_option maxHeartbeats 4000000 in
theorem c_X3_allChainsHold (l : Launch) (D : va_G) (h : Nat → Nat) (cy : Nat → ClassId) (σ : St) (y : Int32 × St) (hf : f_X3_allChainsHold σ = some y) : CI l yX3_allChainsHold cX3_allChainsHold 2 (some .boolean) 4 106 D h cy [.ref (h 46)] σ y := by
  refine ent (Qc := fun sz => QI D h cy sz y) (by decide) (Nat.le_of_ble_eq_true rfl) ?_
  intro p e s m below meth c ls X Z hr hk hl
  have X : Cx p s m _ c D h cy RX3 cX3_allChainsHold 2 := X
  have hx := X.x
  have hb := X.b
  have hl : lv_has ls 2 [(0, .ref (h 46))] := hl
  unfold f_X3_allChainsHold at hf
  refine lv_iconst (v := 0) hx hb dX3_allChainsHold_0 (by decide) ?_
  refine lv_topi (fun v1 ev1 => ?_)
  have hf := zn_e ev1 hf
  refine lv_istore_n (lv' := [(1, .int v1), (0, .ref (h 46))]) hx hb dX3_allChainsHold_1 rfl hl (by decide) rfl (fun ls hl => ?_)
  exact b_X3_allChainsHold_2 X hr hk v1 σ _ hf _ _ _ Z (lv_sub hl [1, 0] rfl)

set_option maxRecDepth 100000 in
set_option maxHeartbeats 4000000 in
theorem c_X3_hold (l : Launch) (D : va_G) (h : Nat → Nat) (cy : Nat → ClassId) (σ : St) (y : Int32 × St) (hf : f_X3_hold σ = some y) : CI l yX3_hold cX3_hold 1 (some .boolean) 5 127 D h cy [.ref (h 46)] σ y := by
  refine ent (Qc := fun sz => QI D h cy sz y) (by decide) (Nat.le_of_ble_eq_true rfl) ?_
  intro p e s m below meth c ls X Z hr hk hl
  have X : Cx p s m _ c D h cy RX3 cX3_hold 1 := X
  have hx := X.x
  have hb := X.b
  have hl : lv_has ls 1 [(0, .ref (h 46))] := hl
  unfold f_X3_hold at hf
  refine lv_aload_n hx hb dX3_hold_0 rfl (lv_at hl 0 rfl) ?_
  refine gf_RX3_37 X Z dX3_hold_1 ?_
  obtain ⟨s2, h1, hf⟩ := bv_s hf
  refine goV Z (run_V (As := []) (rest := []) X Z (c_X9_clear l D h cy vis_47 σ s2 h1 _) lk_RX3_52 ⟨by decide, by decide⟩ (rv_VisS vis_47) rfl hl.1 rfl (Nat.le_of_ble_eq_true rfl) ⟨Nat.le_refl _, Nat.le_refl _⟩ dX3_hold_4) (fun H locs Z => ?_)
  refine lv_aload_n hx hb dX3_hold_7 rfl (lv_at hl 0 rfl) ?_
  refine lv_iconst (v := 0) hx hb dX3_hold_8 (by decide) ?_
  refine pf_RX3_55 X Z dX3_hold_9 (fun s3 H locs es3 Z => ?_)
  have hf := zn_e es3 hf
  refine lv_aload_n hx hb dX3_hold_12 rfl (lv_at hl 0 rfl) ?_
  refine gf_RX3_23 X Z dX3_hold_13 ?_
  refine gf_RX3_59 X Z dX3_hold_16 ?_
  refine lv_if_ne (tgt := 24) hx hb dX3_hold_19 (by decide) (fun c4 => ?_) (fun c4 => ?_)
  · have hf := itn c4 hf
    refine lv_aload_n hx hb dX3_hold_24 rfl (lv_at hl 0 rfl) ?_
    refine lv_aload_n hx hb dX3_hold_25 rfl (lv_at hl 0 rfl) ?_
    refine gf_RX3_23 X Z dX3_hold_26 ?_
    refine gf_RX3_63 X Z dX3_hold_29 ?_
    refine pf_RX3_66 X Z dX3_hold_32 (fun s5 H locs es5 Z => ?_)
    have hf := zn_e es5 hf
    refine lv_aload_n hx hb dX3_hold_35 rfl (lv_at hl 0 rfl) ?_
    refine lv_aload_n hx hb dX3_hold_36 rfl (lv_at hl 0 rfl) ?_
    refine gf_RX3_23 X Z dX3_hold_37 ?_
    refine gf_RX3_69 X Z dX3_hold_40 ?_
    refine pf_RX3_72 X Z dX3_hold_43 (fun s6 H locs es6 Z => ?_)
    have hf := zn_e es6 hf
    refine lv_aload_n hx hb dX3_hold_46 rfl (lv_at hl 0 rfl) ?_
    obtain ⟨r9, s8, h7, hf⟩ := bi_s hf
    refine goI Z (run_V (As := []) (rest := []) X Z (c_X3_headHolds l D h cy s6 (r9, s8) h7 _) lk_RX3_75 ⟨by decide, by decide⟩ rv_46 rfl hl.1 rfl (Nat.le_of_ble_eq_true rfl) ⟨Nat.le_refl _, Nat.le_refl _⟩ dX3_hold_47) (fun H locs Z => ?_)
    refine lv_if_eq (tgt := 85) hx hb dX3_hold_50 (by decide) (fun c10 => ?_) (fun c10 => ?_)
    · have hf := itp c10 hf
      refine lv_iconst (v := 0) hx hb dX3_hold_85 (by decide) ?_
      exact retZ X hr hk Z (by decide) hf dX3_hold_86
    · have hf := itn c10 hf
      refine lv_aload_n hx hb dX3_hold_53 rfl (lv_at hl 0 rfl) ?_
      obtain ⟨r13, s12, h11, hf⟩ := bi_s hf
      refine goI Z (run_V (As := []) (rest := []) X Z (c_X3_startsHold l D h cy s8 (r13, s12) h11 _) lk_RX3_79 ⟨by decide, by decide⟩ rv_46 rfl hl.1 rfl (Nat.le_of_ble_eq_true rfl) ⟨Nat.le_refl _, Nat.le_refl _⟩ dX3_hold_54) (fun H locs Z => ?_)
      refine lv_if_eq (tgt := 85) hx hb dX3_hold_57 (by decide) (fun c14 => ?_) (fun c14 => ?_)
      · have hf := itp c14 hf
        refine lv_iconst (v := 0) hx hb dX3_hold_85 (by decide) ?_
        exact retZ X hr hk Z (by decide) hf dX3_hold_86
      · have hf := itn c14 hf
        refine lv_aload_n hx hb dX3_hold_60 rfl (lv_at hl 0 rfl) ?_
        obtain ⟨r17, s16, h15, hf⟩ := bi_s hf
        refine goI Z (run_V (As := []) (rest := []) X Z (c_X3_importsHold l D h cy s12 (r17, s16) h15 _) lk_RX3_82 ⟨by decide, by decide⟩ rv_46 rfl hl.1 rfl (Nat.le_of_ble_eq_true rfl) ⟨Nat.le_refl _, Nat.le_refl _⟩ dX3_hold_61) (fun H locs Z => ?_)
        refine lv_if_eq (tgt := 85) hx hb dX3_hold_64 (by decide) (fun c18 => ?_) (fun c18 => ?_)
        · have hf := itp c18 hf
          refine lv_iconst (v := 0) hx hb dX3_hold_85 (by decide) ?_
          exact retZ X hr hk Z (by decide) hf dX3_hold_86
        · have hf := itn c18 hf
          refine lv_aload_n hx hb dX3_hold_67 rfl (lv_at hl 0 rfl) ?_
          obtain ⟨r21, s20, h19, hf⟩ := bi_s hf
          refine goI Z (run_V (As := []) (rest := []) X Z (c_X3_allPagesHold l D h cy s16 (r21, s20) h19 _) lk_RX3_85 ⟨by decide, by decide⟩ rv_46 rfl hl.1 rfl (Nat.le_of_ble_eq_true rfl) ⟨Nat.le_refl _, Nat.le_refl _⟩ dX3_hold_68) (fun H locs Z => ?_)
          refine lv_if_eq (tgt := 85) hx hb dX3_hold_71 (by decide) (fun c22 => ?_) (fun c22 => ?_)
          · have hf := itp c22 hf
            refine lv_iconst (v := 0) hx hb dX3_hold_85 (by decide) ?_
            exact retZ X hr hk Z (by decide) hf dX3_hold_86
          · have hf := itn c22 hf
            refine lv_aload_n hx hb dX3_hold_74 rfl (lv_at hl 0 rfl) ?_
            obtain ⟨r25, s24, h23, hf⟩ := bi_s hf
            refine goI Z (run_V (As := []) (rest := []) X Z (c_X3_allChainsHold l D h cy s20 (r25, s24) h23 _) lk_RX3_88 ⟨by decide, by decide⟩ rv_46 rfl hl.1 rfl (Nat.le_of_ble_eq_true rfl) ⟨Nat.le_refl _, Nat.le_refl _⟩ dX3_hold_75) (fun H locs Z => ?_)
            refine lv_if_eq (tgt := 85) hx hb dX3_hold_78 (by decide) (fun c26 => ?_) (fun c26 => ?_)
            · have hf := itp c26 hf
              refine lv_iconst (v := 0) hx hb dX3_hold_85 (by decide) ?_
              exact retZ X hr hk Z (by decide) hf dX3_hold_86
            · have hf := itn c26 hf
              refine lv_iconst (v := 1) hx hb dX3_hold_81 (by decide) ?_
              refine lv_goto (tgt := 86) hx hb dX3_hold_82 (by decide) ?_
              exact retZ X hr hk Z (by decide) hf dX3_hold_86
  · have hf := itp c4 hf
    refine lv_iconst (v := 1) hx hb dX3_hold_22 (by decide) ?_
    exact retZ X hr hk Z (by decide) hf dX3_hold_23

set_option maxRecDepth 100000 in
set_option maxHeartbeats 4000000 in
theorem c_X9_subjectOf (l : Launch) (D : va_G) (h : Nat → Nat) (cy : Nat → ClassId) (a0 : Int64) (σ : St) (y : Int64 × St) (hf : f_X9_subjectOf a0 σ = some y) : CL l yX9_subjectOf cX9_subjectOf 2 (some .long) 1 21 D h cy [.long a0] σ y := by
  refine ent (Qc := fun sz => QL D h cy sz y) (by decide) (Nat.le_of_ble_eq_true rfl) ?_
  intro p e s m below meth c ls X Z hr hk hl
  have X : Cx p s m _ c D h cy RX9 cX9_subjectOf 2 := X
  have hx := X.x
  have hb := X.b
  have hl : lv_has ls 2 [(0, .long a0)] := hl
  unfold f_X9_subjectOf at hf
  refine lv_lload_n hx hb dX9_subjectOf_0 rfl (lv_at hl 0 rfl) ?_
  refine lv_lload_n hx hb dX9_subjectOf_1 rfl (lv_at hl 0 rfl) ?_
  obtain ⟨r3, s2, h1, hf⟩ := bi_s hf
  refine goI Z (run_S (As := [.long a0]) (rest := [.long a0]) X Z (c_X9_isBind l D h cy a0 σ (r3, s2) h1 _) lk_RX9_23 ⟨by decide, by decide⟩ rfl hl.1 rfl (Nat.le_of_ble_eq_true rfl) ⟨Nat.le_refl _, Nat.le_refl _⟩ dX9_subjectOf_2) (fun H locs Z => ?_)
  refine lv_if_eq (tgt := 14) hx hb dX9_subjectOf_5 (by decide) (fun c4 => ?_) (fun c4 => ?_)
  · have hf := itp c4 hf
    refine lv_ldc2 (v := 68719476735) hx hb X.o (X.t _ kc_RX9_29) dX9_subjectOf_14 ?_
    refine lv_land hx hb dX9_subjectOf_17 ?_
    exact retL X hr hk Z hf dX9_subjectOf_18
  · have hf := itn c4 hf
    refine lv_ldc2 (v := 16777215) hx hb X.o (X.t _ kc_RX9_27) dX9_subjectOf_8 ?_
    refine lv_goto (tgt := 17) hx hb dX9_subjectOf_11 (by decide) ?_
    refine lv_land hx hb dX9_subjectOf_17 ?_
    exact retL X hr hk Z hf dX9_subjectOf_18

set_option maxRecDepth 100000 in
set_option maxHeartbeats 4000000 in
theorem c_X9_extraOf (l : Launch) (D : va_G) (h : Nat → Nat) (cy : Nat → ClassId) (a0 : Int64) (σ : St) (y : Int64 × St) (hf : f_X9_extraOf a0 σ = some y) : CL l yX9_extraOf cX9_extraOf 2 (some .long) 1 21 D h cy [.long a0] σ y := by
  refine ent (Qc := fun sz => QL D h cy sz y) (by decide) (Nat.le_of_ble_eq_true rfl) ?_
  intro p e s m below meth c ls X Z hr hk hl
  have X : Cx p s m _ c D h cy RX9 cX9_extraOf 2 := X
  have hx := X.x
  have hb := X.b
  have hl : lv_has ls 2 [(0, .long a0)] := hl
  unfold f_X9_extraOf at hf
  refine lv_lload_n hx hb dX9_extraOf_0 rfl (lv_at hl 0 rfl) ?_
  refine lv_lload_n hx hb dX9_extraOf_1 rfl (lv_at hl 0 rfl) ?_
  obtain ⟨r3, s2, h1, hf⟩ := bi_s hf
  refine goI Z (run_S (As := [.long a0]) (rest := [.long a0]) X Z (c_X9_isBind l D h cy a0 σ (r3, s2) h1 _) lk_RX9_23 ⟨by decide, by decide⟩ rfl hl.1 rfl (Nat.le_of_ble_eq_true rfl) ⟨Nat.le_refl _, Nat.le_refl _⟩ dX9_extraOf_2) (fun H locs Z => ?_)
  refine lv_if_eq (tgt := 13) hx hb dX9_extraOf_5 (by decide) (fun c4 => ?_) (fun c4 => ?_)
  · have hf := itp c4 hf
    refine lv_bipush (v := 36) hx hb dX9_extraOf_13 (by decide) ?_
    refine lv_lushr (v := zlushr a0 (36 : Int32)) hx hb dX9_extraOf_15 rfl ?_
    refine lv_ldc2 (v := 255) hx hb X.o (X.t _ kc_RX9_31) dX9_extraOf_16 ?_
    refine lv_land hx hb dX9_extraOf_19 ?_
    exact retL X hr hk Z hf dX9_extraOf_20
  · have hf := itn c4 hf
    refine lv_bipush (v := 24) hx hb dX9_extraOf_8 (by decide) ?_
    refine lv_goto (tgt := 15) hx hb dX9_extraOf_10 (by decide) ?_
    refine lv_lushr (v := zlushr a0 (24 : Int32)) hx hb dX9_extraOf_15 rfl ?_
    refine lv_ldc2 (v := 255) hx hb X.o (X.t _ kc_RX9_31) dX9_extraOf_16 ?_
    refine lv_land hx hb dX9_extraOf_19 ?_
    exact retL X hr hk Z hf dX9_extraOf_20

set_option maxRecDepth 100000 in
set_option maxHeartbeats 4000000 in
theorem b_X3_valueOf_67 {p : Program} {l : Launch} {e : Env} {s : State} {m : MethodId} {args : Array Value} {below : List Frame} {meth : Method} {c : Code} {D : va_G} {h : Nat → Nat} {cy : Nat → ClassId} (X : Cx p s m args c D h cy RX3 cX3_valueOf 10) (hr : meth.sig.returnType = some .long) (hk : meth.locks = false) (x4 : Int64) (x6 : Int64) (t0 : Int32) (σ : St) (y : Int64 × St) (hf : f_X3_valueOf_67 x4 x6 t0 σ = some y) : ∀ (H : Heap) (locs : List Loc) (ls : Array Slot), Zt D h cy s σ H locs → lv_has ls 10 [(0, .ref (h 46)), (4, .long x4), (6, .long x6)] → W p l e (rmz 2 42) s m args below meth c H locs 0 0 (EL below args s D h cy y) (F0 m 67 ls [.int t0]) := by
  intro H locs ls Z hl
  have hx := X.x
  have hb := X.b
  unfold f_X3_valueOf_67 at hf
  refine lv_istore (lv' := [(8, .int t0), (0, .ref (h 46)), (4, .long x4), (6, .long x6)]) hx hb dX3_valueOf_67 hl (by decide) rfl (fun ls hl => ?_)
  refine lv_iload hx hb dX3_valueOf_69 (lv_at hl 0 rfl) ?_
  refine lv_if_eq (tgt := 85) hx hb dX3_valueOf_71 (by decide) (fun c12 => ?_) (fun c12 => ?_)
  · have hf := itp c12 hf
    refine lv_iconst (v := 0) hx hb dX3_valueOf_85 (by decide) ?_
    refine lv_i2l (v := (0 : Int32).toInt64) hx hb dX3_valueOf_86 rfl ?_
    refine lv_lload hx hb dX3_valueOf_87 (lv_at hl 3 rfl) ?_
    refine lv_ladd hx hb dX3_valueOf_89 ?_
    exact retL X hr hk Z hf dX3_valueOf_90
  · have hf := itn c12 hf
    refine lv_aload_n hx hb dX3_valueOf_74 rfl (lv_at hl 1 rfl) ?_
    refine gf_RX3_49 X Z dX3_valueOf_75 ?_
    refine lv_lload hx hb dX3_valueOf_78 (lv_at hl 2 rfl) ?_
    refine lv_l2i (v := x4.toInt32) hx hb dX3_valueOf_80 rfl ?_
    obtain ⟨g13, hf⟩ := gd_s hf
    refine x_iald (k := 52) X Z sh_52 g13 dX3_valueOf_81 ?_
    refine lv_goto (tgt := 86) hx hb dX3_valueOf_82 (by decide) ?_
    refine lv_i2l (v := (σ.1 52 x4.toInt32.toNatClampNeg).toInt64) hx hb dX3_valueOf_86 rfl ?_
    refine lv_lload hx hb dX3_valueOf_87 (lv_at hl 3 rfl) ?_
    refine lv_ladd hx hb dX3_valueOf_89 ?_
    exact retL X hr hk Z hf dX3_valueOf_90

set_option maxRecDepth 100000 in
set_option maxHeartbeats 4000000 in
theorem b_X3_valueOf_66 {p : Program} {l : Launch} {e : Env} {s : State} {m : MethodId} {args : Array Value} {below : List Frame} {meth : Method} {c : Code} {D : va_G} {h : Nat → Nat} {cy : Nat → ClassId} (X : Cx p s m args c D h cy RX3 cX3_valueOf 10) (hr : meth.sig.returnType = some .long) (hk : meth.locks = false) (x4 : Int64) (x6 : Int64) (σ : St) (y : Int64 × St) (hf : f_X3_valueOf_66 x4 x6 σ = some y) : ∀ (H : Heap) (locs : List Loc) (ls : Array Slot), Zt D h cy s σ H locs → lv_has ls 10 [(0, .ref (h 46)), (4, .long x4), (6, .long x6)] → W p l e (rmz 2 42) s m args below meth c H locs 0 0 (EL below args s D h cy y) (F0 m 66 ls []) := by
  intro H locs ls Z hl
  have hx := X.x
  have hb := X.b
  unfold f_X3_valueOf_66 at hf
  refine lv_iconst (v := 0) hx hb dX3_valueOf_66 (by decide) ?_
  exact b_X3_valueOf_67 X hr hk x4 x6 (0 : Int32) σ _ hf _ _ _ Z (lv_sub hl [0, 1, 2] rfl)

set_option maxRecDepth 100000 in
set_option maxHeartbeats 4000000 in
theorem c_X3_valueOf (l : Launch) (D : va_G) (h : Nat → Nat) (cy : Nat → ClassId) (a1 : Int64) (a2 : Int32) (σ : St) (y : Int64 × St) (hf : f_X3_valueOf a1 a2 σ = some y) : CL l yX3_valueOf cX3_valueOf 10 (some .long) 2 42 D h cy [.ref (h 46), .long a1, .int a2] σ y := by
  refine ent (Qc := fun sz => QL D h cy sz y) (by decide) (Nat.le_of_ble_eq_true rfl) ?_
  intro p e s m below meth c ls X Z hr hk hl
  have X : Cx p s m _ c D h cy RX3 cX3_valueOf 10 := X
  have hx := X.x
  have hb := X.b
  have hl : lv_has ls 10 [(0, .ref (h 46)), (1, .long a1), (3, .int a2)] := hl
  unfold f_X3_valueOf at hf
  refine lv_lload_n hx hb dX3_valueOf_0 rfl (lv_at hl 1 rfl) ?_
  obtain ⟨r3, s2, h1, hf⟩ := bi_s hf
  refine goL Z (run_S (As := [.long a1]) (rest := []) X Z (c_X9_subjectOf l D h cy a1 σ (r3, s2) h1 _) lk_RX3_202 ⟨by decide, by decide⟩ rfl hl.1 rfl (Nat.le_of_ble_eq_true rfl) ⟨Nat.le_refl _, Nat.le_refl _⟩ dX3_valueOf_1) (fun H locs Z => ?_)
  refine lv_lstore (lv' := [(4, .long r3), (0, .ref (h 46)), (1, .long a1), (3, .int a2)]) hx hb dX3_valueOf_4 hl (by decide) rfl (fun ls hl => ?_)
  refine lv_lload_n hx hb dX3_valueOf_6 rfl (lv_at hl 2 rfl) ?_
  obtain ⟨r6, s5, h4, hf⟩ := bi_s hf
  refine goL Z (run_S (As := [.long a1]) (rest := []) X Z (c_X9_extraOf l D h cy a1 s2 (r6, s5) h4 _) lk_RX3_206 ⟨by decide, by decide⟩ rfl hl.1 rfl (Nat.le_of_ble_eq_true rfl) ⟨Nat.le_refl _, Nat.le_refl _⟩ dX3_valueOf_7) (fun H locs Z => ?_)
  refine lv_lstore (lv' := [(6, .long r6), (4, .long r3), (0, .ref (h 46)), (1, .long a1), (3, .int a2)]) hx hb dX3_valueOf_10 hl (by decide) rfl (fun ls hl => ?_)
  refine lv_lload_n hx hb dX3_valueOf_12 rfl (lv_at hl 3 rfl) ?_
  obtain ⟨r9, s8, h7, hf⟩ := bi_s hf
  refine goI Z (run_S (As := [.long a1]) (rest := []) X Z (c_X9_isBind l D h cy a1 s5 (r9, s8) h7 _) lk_RX3_192 ⟨by decide, by decide⟩ rfl hl.1 rfl (Nat.le_of_ble_eq_true rfl) ⟨Nat.le_refl _, Nat.le_refl _⟩ dX3_valueOf_13) (fun H locs Z => ?_)
  refine lv_if_ne (tgt := 39) hx hb dX3_valueOf_16 (by decide) (fun c10 => ?_) (fun c10 => ?_)
  · have hf := itn c10 hf
    refine lv_lload hx hb dX3_valueOf_39 (lv_at hl 1 rfl) ?_
    refine lv_aload_n hx hb dX3_valueOf_41 rfl (lv_at hl 2 rfl) ?_
    refine gf_RX3_55 X Z dX3_valueOf_42 ?_
    refine lv_i2l (v := (s8.1 46 9).toInt64) hx hb dX3_valueOf_45 rfl ?_
    refine x_lif_ge (tgt := 66) X dX3_valueOf_46 dX3_valueOf_47 (by decide) (fun c11 => ?_) (fun c11 => ?_)
    · have hf := itp c11 hf
      exact b_X3_valueOf_66 X hr hk r3 r6 s8 _ hf _ _ _ Z (lv_sub hl [2, 1, 0] rfl)
    · have hf := itn c11 hf
      refine lv_aload_n hx hb dX3_valueOf_50 rfl (lv_at hl 2 rfl) ?_
      refine gf_RX3_49 X Z dX3_valueOf_51 ?_
      refine lv_lload hx hb dX3_valueOf_54 (lv_at hl 1 rfl) ?_
      refine lv_l2i (v := r3.toInt32) hx hb dX3_valueOf_56 rfl ?_
      obtain ⟨g14, hf⟩ := gd_s hf
      refine x_iald (k := 52) X Z sh_52 g14 dX3_valueOf_57 ?_
      refine lv_iconst (v := (-1)) hx hb dX3_valueOf_58 (by decide) ?_
      refine lv_icmp_eq (tgt := 66) hx hb dX3_valueOf_59 (by decide) (fun c15 => ?_) (fun c15 => ?_)
      · have hf := itp c15 hf
        exact b_X3_valueOf_66 X hr hk r3 r6 s8 _ hf _ _ _ Z (lv_sub hl [2, 1, 0] rfl)
      · have hf := itn c15 hf
        refine lv_iconst (v := 1) hx hb dX3_valueOf_62 (by decide) ?_
        refine lv_goto (tgt := 67) hx hb dX3_valueOf_63 (by decide) ?_
        exact b_X3_valueOf_67 X hr hk r3 r6 (1 : Int32) s8 _ hf _ _ _ Z (lv_sub hl [2, 1, 0] rfl)
  · have hf := itp c10 hf
    refine lv_ldc2 (v := 72057594037927935) hx hb X.o (X.t _ kc_RX3_209) dX3_valueOf_19 ?_
    refine lv_topl (fun v16 ev16 => ?_)
    have hf := zn_e ev16 hf
    refine lv_lstore (lv' := [(8, .long v16), (6, .long r6), (4, .long r3), (0, .ref (h 46)), (1, .long a1), (3, .int a2)]) hx hb dX3_valueOf_22 hl (by decide) rfl (fun ls hl => ?_)
    refine lv_lload hx hb dX3_valueOf_24 (lv_at hl 2 rfl) ?_
    refine lv_iload_n hx hb dX3_valueOf_26 rfl (lv_at hl 5 rfl) ?_
    refine lv_i2l (v := a2.toInt64) hx hb dX3_valueOf_27 rfl ?_
    refine lv_ladd hx hb dX3_valueOf_28 ?_
    refine lv_lload hx hb dX3_valueOf_29 (lv_at hl 0 rfl) ?_
    refine lv_land hx hb dX3_valueOf_31 ?_
    refine lv_lload hx hb dX3_valueOf_32 (lv_at hl 1 rfl) ?_
    refine lv_bipush (v := 56) hx hb dX3_valueOf_34 (by decide) ?_
    refine lv_lshl (v := zlshl r6 (56 : Int32)) hx hb dX3_valueOf_36 rfl ?_
    refine lv_lor hx hb dX3_valueOf_37 ?_
    exact retL X hr hk Z hf dX3_valueOf_38

set_option maxRecDepth 100000 in
set_option maxHeartbeats 4000000 in
theorem c_X6_clear (l : Launch) (D : va_G) (h : Nat → Nat) (cy : Nat → ClassId) {k0 n0 : Nat} (hR0 : RowS k0 n0) (σ : St) (y : St) (hf : f_X6_clear k0 n0 σ = some y) : CV l yX6_clear cX6_clear 1 none 0 0 D h cy [.ref (h k0)] σ y := by
  refine ent (Qc := fun sz => QV D h cy sz y) (by decide) (Nat.le_of_ble_eq_true rfl) ?_
  intro p e s m below meth c ls X Z hr hk hl
  have X : Cx p s m _ c D h cy RX6 cX6_clear 1 := X
  have hx := X.x
  have hb := X.b
  have hl : lv_has ls 1 [(0, .ref (h k0))] := hl
  unfold f_X6_clear at hf
  refine lv_aload_n hx hb dX6_clear_0 rfl (lv_at hl 0 rfl) ?_
  refine lv_iconst (v := 0) hx hb dX6_clear_1 (by decide) ?_
  refine pf_RX6_15 X Z hR0 dX6_clear_2 (fun s1 H locs es1 Z => ?_)
  have hf := zn_e es1 hf
  exact retV X hr hk Z hf dX6_clear_5

set_option maxRecDepth 100000 in
set_option maxHeartbeats 4000000 in
theorem c_X6_addFrom (l : Launch) (D : va_G) (h : Nat → Nat) (cy : Nat → ClassId) {k0 n0 : Nat} {k1 n1 : Nat} (hR0 : RowS k0 n0) (hR1 : Sh k1 (fun _ cy x _ => .inl (cy 0, n1, .inl x))) (a2 : Int32) (a3 : Int32) (σ : St) (y : St) (hf : f_X6_addFrom k0 n0 k1 n1 a2 a3 σ = some y) : CV l yX6_addFrom cX6_addFrom 4 none 1 60 D h cy [.ref (h k0), .ref (h k1), .int a2, .int a3] σ y := by
  refine ent (Qc := fun sz => QV D h cy sz y) (by decide) (Nat.le_of_ble_eq_true rfl) ?_
  intro p e s m below meth c ls X Z hr hk hl
  have X : Cx p s m _ c D h cy RX6 cX6_addFrom 4 := X
  have hx := X.x
  have hb := X.b
  have hl : lv_has ls 4 [(0, .ref (h k0)), (1, .ref (h k1)), (2, .int a2), (3, .int a3)] := hl
  unfold f_X6_addFrom at hf
  refine lv_iload_n hx hb dX6_addFrom_0 rfl (lv_at hl 2 rfl) ?_
  refine lv_if_lt (tgt := 54) hx hb dX6_addFrom_1 (by decide) (fun c1 => ?_) (fun c1 => ?_)
  · have hf := itp c1 hf
    exact retV X hr hk Z hf dX6_addFrom_54
  · have hf := itn c1 hf
    refine lv_iload_n hx hb dX6_addFrom_4 rfl (lv_at hl 3 rfl) ?_
    refine lv_if_lt (tgt := 54) hx hb dX6_addFrom_5 (by decide) (fun c2 => ?_) (fun c2 => ?_)
    · have hf := itp c2 hf
      exact retV X hr hk Z hf dX6_addFrom_54
    · have hf := itn c2 hf
      refine lv_iload_n hx hb dX6_addFrom_8 rfl (lv_at hl 3 rfl) ?_
      refine lv_aload_n hx hb dX6_addFrom_9 rfl (lv_at hl 1 rfl) ?_
      refine x_blen (k := k1) X Z hR1 dX6_addFrom_10 ?_
      refine lv_iload_n hx hb dX6_addFrom_11 rfl (lv_at hl 2 rfl) ?_
      refine lv_isub hx hb dX6_addFrom_12 ?_
      refine lv_icmp_gt (tgt := 54) hx hb dX6_addFrom_13 (by decide) (fun c3 => ?_) (fun c3 => ?_)
      · have hf := itp c3 hf
        exact retV X hr hk Z hf dX6_addFrom_54
      · have hf := itn c3 hf
        refine lv_iload_n hx hb dX6_addFrom_16 rfl (lv_at hl 3 rfl) ?_
        refine lv_aload_n hx hb dX6_addFrom_17 rfl (lv_at hl 0 rfl) ?_
        refine gf_RX6_9 X Z hR0 dX6_addFrom_18 ?_
        refine x_blen (k := (k0 + 1)) X Z hR0.2 dX6_addFrom_21 ?_
        refine lv_aload_n hx hb dX6_addFrom_22 rfl (lv_at hl 0 rfl) ?_
        refine gf_RX6_15 X Z hR0 dX6_addFrom_23 ?_
        refine lv_isub hx hb dX6_addFrom_26 ?_
        refine lv_icmp_gt (tgt := 54) hx hb dX6_addFrom_27 (by decide) (fun c4 => ?_) (fun c4 => ?_)
        · have hf := itp c4 hf
          exact retV X hr hk Z hf dX6_addFrom_54
        · have hf := itn c4 hf
          refine lv_aload_n hx hb dX6_addFrom_30 rfl (lv_at hl 1 rfl) ?_
          refine lv_iload_n hx hb dX6_addFrom_31 rfl (lv_at hl 2 rfl) ?_
          refine lv_aload_n hx hb dX6_addFrom_32 rfl (lv_at hl 0 rfl) ?_
          refine gf_RX6_9 X Z hR0 dX6_addFrom_33 ?_
          refine lv_aload_n hx hb dX6_addFrom_36 rfl (lv_at hl 0 rfl) ?_
          refine gf_RX6_15 X Z hR0 dX6_addFrom_37 ?_
          refine lv_iload_n hx hb dX6_addFrom_40 rfl (lv_at hl 3 rfl) ?_
          obtain ⟨g5, hf⟩ := gd_s hf
          refine x_copyb (k0 := k1) (k1 := (k0 + 1)) X Z hl.1 hR1 hR0.2 g5 ac_RX6_33 (by decide) (Nat.le_of_ble_eq_true rfl) dX6_addFrom_41 (fun s6 H locs es6 Z => ?_)
          have hf := zn_e es6 hf
          refine lv_aload_n hx hb dX6_addFrom_44 rfl (lv_at hl 0 rfl) ?_
          refine lv_dup hx hb dX6_addFrom_45 rfl ?_
          refine gf_RX6_15 X Z hR0 dX6_addFrom_46 ?_
          refine lv_iload_n hx hb dX6_addFrom_49 rfl (lv_at hl 3 rfl) ?_
          refine lv_iadd hx hb dX6_addFrom_50 ?_
          refine pf_RX6_15 X Z hR0 dX6_addFrom_51 (fun s7 H locs es7 Z => ?_)
          have hf := zn_e es7 hf
          exact retV X hr hk Z hf dX6_addFrom_54

set_option maxRecDepth 100000 in
set_option maxHeartbeats 4000000 in
theorem c_J7_rangeCheck_23922 (l : Launch) (D : va_G) (h : Nat → Nat) (cy : Nat → ClassId) (a0 : Int32) (a1 : Int32) (a2 : Int32) (σ : St) (y : St) (hf : f_J7_rangeCheck_23922 a0 a1 a2 σ = some y) : CV l yJ7_rangeCheck_23922 cJ7_rangeCheck_23922 3 none 0 0 D h cy [.int a0, .int a1, .int a2] σ y := by
  refine ent (Qc := fun sz => QV D h cy sz y) (by decide) (Nat.le_of_ble_eq_true rfl) ?_
  intro p e s m below meth c ls X Z hr hk hl
  have X : Cx p s m _ c D h cy RJ7 cJ7_rangeCheck_23922 3 := X
  have hx := X.x
  have hb := X.b
  have hl : lv_has ls 3 [(0, .int a0), (1, .int a1), (2, .int a2)] := hl
  unfold f_J7_rangeCheck_23922 at hf
  refine lv_iload_n hx hb dJ7_rangeCheck_23922_0 rfl (lv_at hl 1 rfl) ?_
  refine lv_iload_n hx hb dJ7_rangeCheck_23922_1 rfl (lv_at hl 2 rfl) ?_
  refine lv_icmp_le (tgt := 46) hx hb dJ7_rangeCheck_23922_2 (by decide) (fun c1 => ?_) (fun c1 => ?_)
  · have hf := itp c1 hf
    refine lv_iload_n hx hb dJ7_rangeCheck_23922_46 rfl (lv_at hl 1 rfl) ?_
    refine lv_if_ge (tgt := 59) hx hb dJ7_rangeCheck_23922_47 (by decide) (fun c2 => ?_) (fun c2 => ?_)
    · have hf := itp c2 hf
      refine lv_iload_n hx hb dJ7_rangeCheck_23922_59 rfl (lv_at hl 2 rfl) ?_
      refine lv_iload_n hx hb dJ7_rangeCheck_23922_60 rfl (lv_at hl 0 rfl) ?_
      refine lv_icmp_le (tgt := 73) hx hb dJ7_rangeCheck_23922_61 (by decide) (fun c3 => ?_) (fun c3 => ?_)
      · have hf := itp c3 hf
        exact retV X hr hk Z hf dJ7_rangeCheck_23922_73
      · have hf := itn c3 hf
        exact nn hf
    · have hf := itn c2 hf
      exact nn hf
  · have hf := itn c1 hf
    exact nn hf

set_option maxRecDepth 100000 in
set_option maxHeartbeats 4000000 in
theorem b_J7_fill_eb02e_10b {p : Program} {l : Launch} {e : Env} {s : State} {m : MethodId} {args : Array Value} {below : List Frame} {meth : Method} {c : Code} {D : va_G} {h : Nat → Nat} {cy : Nat → ClassId} (X : Cx p s m args c D h cy RJ7 cJ7_fill_eb02e 5) (hr : meth.sig.returnType = none) (hk : meth.locks = false) {k0 n0 : Nat} (hR0 : Sh k0 (fun _ cy x _ => .inl (cy 0, n0, .inl x))) (K10 : (Int32 × Int32 × Int32 × St) → Option (St)) (hK10 : ∀ (a : Int32 × Int32 × Int32 × St) (y : St), K10 a = some y → ∀ (H : Heap) (locs : List Loc) (ls : Array Slot), Zt D h cy s a.2.2.2 H locs → lv_has ls 5 [(0, .ref (h k0)), (2, .int a.1), (3, .int a.2.1), (4, .int a.2.2.1)] → W p l e (rmz 1 22) s m args below meth c H locs 0 0 (EV below args s D h cy y) (F0 m 10 ls [])) (x2 : Int32) (x3 : Int32) (x4 : Int32) (σ : St) (y : St) (hf : f_J7_fill_eb02e_10b k0 n0 K10 x2 x3 x4 σ = some y) : ∀ (H : Heap) (locs : List Loc) (ls : Array Slot), Zt D h cy s σ H locs → lv_has ls 5 [(0, .ref (h k0)), (2, .int x2), (3, .int x3), (4, .int x4)] → W p l e (rmz 1 22) s m args below meth c H locs 0 0 (EV below args s D h cy y) (F0 m 10 ls []) := by
  intro H locs ls Z hl
  have hx := X.x
  have hb := X.b
  unfold f_J7_fill_eb02e_10b at hf
  refine lv_iload hx hb dJ7_fill_eb02e_10 (lv_at hl 3 rfl) ?_
  refine lv_iload_n hx hb dJ7_fill_eb02e_12 rfl (lv_at hl 1 rfl) ?_
  refine lv_icmp_ge (tgt := 27) hx hb dJ7_fill_eb02e_13 (by decide) (fun c3 => ?_) (fun c3 => ?_)
  · have hf := itp c3 hf
    exact retV X hr hk Z hf dJ7_fill_eb02e_27
  · have hf := itn c3 hf
    refine lv_aload_n hx hb dJ7_fill_eb02e_16 rfl (lv_at hl 0 rfl) ?_
    refine lv_iload hx hb dJ7_fill_eb02e_17 (lv_at hl 3 rfl) ?_
    refine lv_iload_n hx hb dJ7_fill_eb02e_19 rfl (lv_at hl 2 rfl) ?_
    obtain ⟨g4, hf⟩ := gd_s hf
    refine x_bast (k := k0) X Z hR0 g4 dJ7_fill_eb02e_20 (fun s5 H locs es5 Z => ?_)
    have hf := zn_e es5 hf
    obtain ⟨v6, ev6⟩ : ∃ z : Int32, z = x4 + 1 := ⟨_, rfl⟩
    have hf := zn_e ev6 hf
    refine lv_iinc (v := v6) (lv' := [(4, .int v6), (0, .ref (h k0)), (2, .int x2), (3, .int x3)]) hx hb dJ7_fill_eb02e_21 hl (k := 3) rfl (by rw [ev6]; rfl) (by decide) rfl (fun ls hl => ?_)
    refine lv_goto (tgt := 10) hx hb dJ7_fill_eb02e_24 (by decide) ?_
    exact hK10 (x2, x3, v6, s5) _ hf _ _ _ Z (lv_sub hl [1, 2, 3, 0] rfl)

set_option maxRecDepth 100000 in
set_option maxHeartbeats 4000000 in
theorem b_J7_fill_eb02e_10 {p : Program} {l : Launch} {e : Env} {s : State} {m : MethodId} {args : Array Value} {below : List Frame} {meth : Method} {c : Code} {D : va_G} {h : Nat → Nat} {cy : Nat → ClassId} (X : Cx p s m args c D h cy RJ7 cJ7_fill_eb02e 5) (hr : meth.sig.returnType = none) (hk : meth.locks = false) {k0 n0 : Nat} (hR0 : Sh k0 (fun _ cy x _ => .inl (cy 0, n0, .inl x))) (x2 : Int32) (x3 : Int32) (x4 : Int32) (σ : St) (y : St) (hf : f_J7_fill_eb02e_10 k0 n0 x2 x3 x4 σ = some y) : ∀ (H : Heap) (locs : List Loc) (ls : Array Slot), Zt D h cy s σ H locs → lv_has ls 5 [(0, .ref (h k0)), (2, .int x2), (3, .int x3), (4, .int x4)] → W p l e (rmz 1 22) s m args below meth c H locs 0 0 (EV below args s D h cy y) (F0 m 10 ls []) := by
  exact it_W (F := fun K a => f_J7_fill_eb02e_10b k0 n0 K a.1 a.2.1 a.2.2.1 a.2.2.2) (P := fun a y => ∀ (H : Heap) (locs : List Loc) (ls : Array Slot), Zt D h cy s a.2.2.2 H locs → lv_has ls 5 [(0, .ref (h k0)), (2, .int a.1), (3, .int a.2.1), (4, .int a.2.2.1)] → W p l e (rmz 1 22) s m args below meth c H locs 0 0 (EV below args s D h cy y) (F0 m 10 ls [])) (fun K hK a y hf => b_J7_fill_eb02e_10b X hr hk hR0 K hK (a.1) (a.2.1) (a.2.2.1) (a.2.2.2) y hf) FU _ y hf

set_option maxRecDepth 100000 in
set_option maxHeartbeats 4000000 in
theorem c_J7_fill_eb02e (l : Launch) (D : va_G) (h : Nat → Nat) (cy : Nat → ClassId) {k0 n0 : Nat} (hR0 : Sh k0 (fun _ cy x _ => .inl (cy 0, n0, .inl x))) (a1 : Int32) (a2 : Int32) (a3 : Int32) (σ : St) (y : St) (hf : f_J7_fill_eb02e k0 n0 a1 a2 a3 σ = some y) : CV l yJ7_fill_eb02e cJ7_fill_eb02e 5 none 1 22 D h cy [.ref (h k0), .int a1, .int a2, .int a3] σ y := by
  refine ent (Qc := fun sz => QV D h cy sz y) (by decide) (Nat.le_of_ble_eq_true rfl) ?_
  intro p e s m below meth c ls X Z hr hk hl
  have X : Cx p s m _ c D h cy RJ7 cJ7_fill_eb02e 5 := X
  have hx := X.x
  have hb := X.b
  have hl : lv_has ls 5 [(0, .ref (h k0)), (1, .int a1), (2, .int a2), (3, .int a3)] := hl
  unfold f_J7_fill_eb02e at hf
  refine lv_aload_n hx hb dJ7_fill_eb02e_0 rfl (lv_at hl 0 rfl) ?_
  refine x_blen (k := k0) X Z hR0 dJ7_fill_eb02e_1 ?_
  refine lv_iload_n hx hb dJ7_fill_eb02e_2 rfl (lv_at hl 1 rfl) ?_
  refine lv_iload_n hx hb dJ7_fill_eb02e_3 rfl (lv_at hl 2 rfl) ?_
  obtain ⟨s2, h1, hf⟩ := bv_s hf
  refine goV Z (run_S (As := [.int (Int32.ofNat n0), .int a1, .int a2]) (rest := []) X Z (c_J7_rangeCheck_23922 l D h cy (Int32.ofNat n0) a1 a2 σ s2 h1 _) lk_RJ7_13 ⟨by decide, by decide⟩ rfl hl.1 rfl (Nat.le_of_ble_eq_true rfl) ⟨Nat.le_refl _, Nat.le_refl _⟩ dJ7_fill_eb02e_4) (fun H locs Z => ?_)
  refine lv_iload_n hx hb dJ7_fill_eb02e_7 rfl (lv_at hl 1 rfl) ?_
  refine lv_istore (lv' := [(4, .int a1), (0, .ref (h k0)), (1, .int a1), (2, .int a2), (3, .int a3)]) hx hb dJ7_fill_eb02e_8 hl (by decide) rfl (fun ls hl => ?_)
  exact b_J7_fill_eb02e_10 X hr hk hR0 a2 a3 a1 s2 _ hf _ _ _ Z (lv_sub hl [1, 3, 4, 0] rfl)

set_option maxRecDepth 100000 in
set_option maxHeartbeats 4000000 in
theorem c_X6_addZeros (l : Launch) (D : va_G) (h : Nat → Nat) (cy : Nat → ClassId) {k0 n0 : Nat} (hR0 : RowS k0 n0) (a1 : Int32) (σ : St) (y : St) (hf : f_X6_addZeros k0 n0 a1 σ = some y) : CV l yX6_addZeros cX6_addZeros 2 none 2 46 D h cy [.ref (h k0), .int a1] σ y := by
  refine ent (Qc := fun sz => QV D h cy sz y) (by decide) (Nat.le_of_ble_eq_true rfl) ?_
  intro p e s m below meth c ls X Z hr hk hl
  have X : Cx p s m _ c D h cy RX6 cX6_addZeros 2 := X
  have hx := X.x
  have hb := X.b
  have hl : lv_has ls 2 [(0, .ref (h k0)), (1, .int a1)] := hl
  unfold f_X6_addZeros at hf
  refine lv_iload_n hx hb dX6_addZeros_0 rfl (lv_at hl 1 rfl) ?_
  refine lv_if_lt (tgt := 46) hx hb dX6_addZeros_1 (by decide) (fun c1 => ?_) (fun c1 => ?_)
  · have hf := itp c1 hf
    exact retV X hr hk Z hf dX6_addZeros_46
  · have hf := itn c1 hf
    refine lv_iload_n hx hb dX6_addZeros_4 rfl (lv_at hl 1 rfl) ?_
    refine lv_aload_n hx hb dX6_addZeros_5 rfl (lv_at hl 0 rfl) ?_
    refine gf_RX6_9 X Z hR0 dX6_addZeros_6 ?_
    refine x_blen (k := (k0 + 1)) X Z hR0.2 dX6_addZeros_9 ?_
    refine lv_aload_n hx hb dX6_addZeros_10 rfl (lv_at hl 0 rfl) ?_
    refine gf_RX6_15 X Z hR0 dX6_addZeros_11 ?_
    refine lv_isub hx hb dX6_addZeros_14 ?_
    refine lv_icmp_gt (tgt := 46) hx hb dX6_addZeros_15 (by decide) (fun c2 => ?_) (fun c2 => ?_)
    · have hf := itp c2 hf
      exact retV X hr hk Z hf dX6_addZeros_46
    · have hf := itn c2 hf
      refine lv_aload_n hx hb dX6_addZeros_18 rfl (lv_at hl 0 rfl) ?_
      refine gf_RX6_9 X Z hR0 dX6_addZeros_19 ?_
      refine lv_aload_n hx hb dX6_addZeros_22 rfl (lv_at hl 0 rfl) ?_
      refine gf_RX6_15 X Z hR0 dX6_addZeros_23 ?_
      refine lv_aload_n hx hb dX6_addZeros_26 rfl (lv_at hl 0 rfl) ?_
      refine gf_RX6_15 X Z hR0 dX6_addZeros_27 ?_
      refine lv_iload_n hx hb dX6_addZeros_30 rfl (lv_at hl 1 rfl) ?_
      refine lv_iadd hx hb dX6_addZeros_31 ?_
      refine lv_iconst (v := 0) hx hb dX6_addZeros_32 (by decide) ?_
      obtain ⟨s4, h3, hf⟩ := bv_s hf
      refine goV Z (run_S (As := [.ref (h (k0 + 1)), .int (σ.1 k0 1), .int (((σ.1 k0 1) + a1)), .int (0 : Int32)]) (rest := []) X Z (c_J7_fill_eb02e l D h cy hR0.2 (σ.1 k0 1) (((σ.1 k0 1) + a1)) (0 : Int32) σ s4 h3 _) lk_RX6_27 ⟨by decide, by decide⟩ rfl hl.1 rfl (Nat.le_of_ble_eq_true rfl) ⟨Nat.le_refl _, Nat.le_refl _⟩ dX6_addZeros_33) (fun H locs Z => ?_)
      refine lv_aload_n hx hb dX6_addZeros_36 rfl (lv_at hl 0 rfl) ?_
      refine lv_dup hx hb dX6_addZeros_37 rfl ?_
      refine gf_RX6_15 X Z hR0 dX6_addZeros_38 ?_
      refine lv_iload_n hx hb dX6_addZeros_41 rfl (lv_at hl 1 rfl) ?_
      refine lv_iadd hx hb dX6_addZeros_42 ?_
      refine pf_RX6_15 X Z hR0 dX6_addZeros_43 (fun s5 H locs es5 Z => ?_)
      have hf := zn_e es5 hf
      exact retV X hr hk Z hf dX6_addZeros_46

set_option maxRecDepth 100000 in
set_option maxHeartbeats 4000000 in
theorem b_X4_takeSegments_17b {p : Program} {l : Launch} {e : Env} {s : State} {m : MethodId} {args : Array Value} {below : List Frame} {meth : Method} {c : Code} {D : va_G} {h : Nat → Nat} {cy : Nat → ClassId} (X : Cx p s m args c D h cy RX4 cX4_takeSegments 5) (hr : meth.sig.returnType = none) (hk : meth.locks = false) {k1 n1 : Nat} {k2 : Nat} (hR1 : RowS k1 n1) (hR2 : SegsS k2) (K17 : (Int32 × Int32 × St) → Option (St)) (hK17 : ∀ (a : Int32 × Int32 × St) (y : St), K17 a = some y → ∀ (H : Heap) (locs : List Loc) (ls : Array Slot), Zt D h cy s a.2.2 H locs → lv_has ls 5 [(0, .ref (h 53)), (1, .ref (h k1)), (2, .ref (h k2)), (3, .int a.1), (4, .int a.2.1)] → W p l e (rmz 3 83) s m args below meth c H locs 0 0 (EV below args s D h cy y) (F0 m 17 ls [])) (x3 : Int32) (x4 : Int32) (σ : St) (y : St) (hf : f_X4_takeSegments_17b k1 n1 k2 K17 x3 x4 σ = some y) : ∀ (H : Heap) (locs : List Loc) (ls : Array Slot), Zt D h cy s σ H locs → lv_has ls 5 [(0, .ref (h 53)), (1, .ref (h k1)), (2, .ref (h k2)), (3, .int x3), (4, .int x4)] → W p l e (rmz 3 83) s m args below meth c H locs 0 0 (EV below args s D h cy y) (F0 m 17 ls []) := by
  intro H locs ls Z hl
  have hx := X.x
  have hb := X.b
  unfold f_X4_takeSegments_17b at hf
  refine lv_iload hx hb dX4_takeSegments_17 (lv_at hl 4 rfl) ?_
  refine lv_aload_n hx hb dX4_takeSegments_19 rfl (lv_at hl 2 rfl) ?_
  refine gf_RX4_80 X Z hR2 dX4_takeSegments_20 ?_
  refine lv_icmp_ge (tgt := 116) hx hb dX4_takeSegments_23 (by decide) (fun c6 => ?_) (fun c6 => ?_)
  · have hf := itp c6 hf
    exact retV X hr hk Z hf dX4_takeSegments_116
  · have hf := itn c6 hf
    refine lv_aload_n hx hb dX4_takeSegments_26 rfl (lv_at hl 0 rfl) ?_
    refine gf_RX4_12 X Z dX4_takeSegments_27 ?_
    refine lv_aload_n hx hb dX4_takeSegments_30 rfl (lv_at hl 2 rfl) ?_
    refine gf_RX4_83 X Z hR2 dX4_takeSegments_31 ?_
    refine lv_iload hx hb dX4_takeSegments_34 (lv_at hl 4 rfl) ?_
    obtain ⟨g7, hf⟩ := gd_s hf
    refine x_iald (k := (k2 + 1)) X Z hR2.2.1 g7 dX4_takeSegments_36 ?_
    refine lv_iload_n hx hb dX4_takeSegments_37 rfl (lv_at hl 3 rfl) ?_
    refine lv_iadd hx hb dX4_takeSegments_38 ?_
    refine lv_aload_n hx hb dX4_takeSegments_39 rfl (lv_at hl 2 rfl) ?_
    refine gf_RX4_86 X Z hR2 dX4_takeSegments_40 ?_
    refine lv_iload hx hb dX4_takeSegments_43 (lv_at hl 4 rfl) ?_
    obtain ⟨g8, hf⟩ := gd_s hf
    refine x_iald (k := (k2 + 2)) X Z hR2.2.2.1 g8 dX4_takeSegments_45 ?_
    refine lv_aload_n hx hb dX4_takeSegments_46 rfl (lv_at hl 0 rfl) ?_
    refine gf_RX4_23 X Z dX4_takeSegments_47 ?_
    refine gf_RX4_89 X Z row_59 dX4_takeSegments_50 ?_
    refine lv_aload_n hx hb dX4_takeSegments_53 rfl (lv_at hl 2 rfl) ?_
    refine gf_RX4_92 X Z hR2 dX4_takeSegments_54 ?_
    refine lv_iload hx hb dX4_takeSegments_57 (lv_at hl 4 rfl) ?_
    obtain ⟨g9, hf⟩ := gd_s hf
    refine x_iald (k := (k2 + 4)) X Z hR2.2.2.2.2 g9 dX4_takeSegments_59 ?_
    obtain ⟨s11, h10, hf⟩ := bv_s hf
    refine goV Z (run_V (As := [.int (((σ.1 (k2 + 1) x4.toNatClampNeg) + x3)), .int ((σ.1 (k2 + 2) x4.toNatClampNeg)), .int (σ.1 59 1), .int ((σ.1 (k2 + 4) x4.toNatClampNeg))]) (rest := []) X Z (c_X7_add l D h cy segs_54 (((σ.1 (k2 + 1) x4.toNatClampNeg) + x3)) ((σ.1 (k2 + 2) x4.toNatClampNeg)) (σ.1 59 1) ((σ.1 (k2 + 4) x4.toNatClampNeg)) σ s11 h10 _) lk_RX4_94 ⟨by decide, by decide⟩ (rv_SegsS segs_54) rfl hl.1 rfl (Nat.le_of_ble_eq_true rfl) ⟨Nat.le_refl _, Nat.le_refl _⟩ dX4_takeSegments_60) (fun H locs Z => ?_)
    refine lv_aload_n hx hb dX4_takeSegments_63 rfl (lv_at hl 0 rfl) ?_
    refine gf_RX4_23 X Z dX4_takeSegments_64 ?_
    refine lv_aload_n hx hb dX4_takeSegments_67 rfl (lv_at hl 1 rfl) ?_
    refine gf_RX4_58 X Z hR1 dX4_takeSegments_68 ?_
    refine lv_aload_n hx hb dX4_takeSegments_71 rfl (lv_at hl 2 rfl) ?_
    refine gf_RX4_98 X Z hR2 dX4_takeSegments_72 ?_
    refine lv_iload hx hb dX4_takeSegments_75 (lv_at hl 4 rfl) ?_
    obtain ⟨g12, hf⟩ := gd_s hf
    refine x_iald (k := (k2 + 3)) X Z hR2.2.2.2.1 g12 dX4_takeSegments_77 ?_
    refine lv_aload_n hx hb dX4_takeSegments_78 rfl (lv_at hl 2 rfl) ?_
    refine gf_RX4_92 X Z hR2 dX4_takeSegments_79 ?_
    refine lv_iload hx hb dX4_takeSegments_82 (lv_at hl 4 rfl) ?_
    obtain ⟨g13, hf⟩ := gd_s hf
    refine x_iald (k := (k2 + 4)) X Z hR2.2.2.2.2 g13 dX4_takeSegments_84 ?_
    obtain ⟨s15, h14, hf⟩ := bv_s hf
    refine goV Z (run_V (As := [.ref (h (k1 + 1)), .int ((s11.1 (k2 + 3) x4.toNatClampNeg)), .int ((s11.1 (k2 + 4) x4.toNatClampNeg))]) (rest := []) X Z (c_X6_addFrom l D h cy row_59 hR1.2 ((s11.1 (k2 + 3) x4.toNatClampNeg)) ((s11.1 (k2 + 4) x4.toNatClampNeg)) s11 s15 h14 _) lk_RX4_67 ⟨by decide, by decide⟩ (rv_RowS row_59) rfl hl.1 rfl (Nat.le_of_ble_eq_true rfl) ⟨Nat.le_refl _, Nat.le_refl _⟩ dX4_takeSegments_85) (fun H locs Z => ?_)
    refine lv_aload_n hx hb dX4_takeSegments_88 rfl (lv_at hl 0 rfl) ?_
    refine gf_RX4_23 X Z dX4_takeSegments_89 ?_
    refine lv_aload_n hx hb dX4_takeSegments_92 rfl (lv_at hl 2 rfl) ?_
    refine gf_RX4_86 X Z hR2 dX4_takeSegments_93 ?_
    refine lv_iload hx hb dX4_takeSegments_96 (lv_at hl 4 rfl) ?_
    obtain ⟨g16, hf⟩ := gd_s hf
    refine x_iald (k := (k2 + 2)) X Z hR2.2.2.1 g16 dX4_takeSegments_98 ?_
    refine lv_aload_n hx hb dX4_takeSegments_99 rfl (lv_at hl 2 rfl) ?_
    refine gf_RX4_92 X Z hR2 dX4_takeSegments_100 ?_
    refine lv_iload hx hb dX4_takeSegments_103 (lv_at hl 4 rfl) ?_
    obtain ⟨g17, hf⟩ := gd_s hf
    refine x_iald (k := (k2 + 4)) X Z hR2.2.2.2.2 g17 dX4_takeSegments_105 ?_
    refine lv_isub hx hb dX4_takeSegments_106 ?_
    obtain ⟨s19, h18, hf⟩ := bv_s hf
    refine goV Z (run_V (As := [.int (((s15.1 (k2 + 2) x4.toNatClampNeg) - (s15.1 (k2 + 4) x4.toNatClampNeg)))]) (rest := []) X Z (c_X6_addZeros l D h cy row_59 (((s15.1 (k2 + 2) x4.toNatClampNeg) - (s15.1 (k2 + 4) x4.toNatClampNeg))) s15 s19 h18 _) lk_RX4_101 ⟨by decide, by decide⟩ (rv_RowS row_59) rfl hl.1 rfl (Nat.le_of_ble_eq_true rfl) ⟨Nat.le_refl _, Nat.le_refl _⟩ dX4_takeSegments_107) (fun H locs Z => ?_)
    obtain ⟨v20, ev20⟩ : ∃ z : Int32, z = x4 + 1 := ⟨_, rfl⟩
    have hf := zn_e ev20 hf
    refine lv_iinc (v := v20) (lv' := [(4, .int v20), (0, .ref (h 53)), (1, .ref (h k1)), (2, .ref (h k2)), (3, .int x3)]) hx hb dX4_takeSegments_110 hl (k := 4) rfl (by rw [ev20]; rfl) (by decide) rfl (fun ls hl => ?_)
    refine lv_goto (tgt := 17) hx hb dX4_takeSegments_113 (by decide) ?_
    exact hK17 (x3, v20, s19) _ hf _ _ _ Z (lv_sub hl [1, 2, 3, 4, 0] rfl)

set_option maxRecDepth 100000 in
set_option maxHeartbeats 4000000 in
theorem b_X4_takeSegments_17 {p : Program} {l : Launch} {e : Env} {s : State} {m : MethodId} {args : Array Value} {below : List Frame} {meth : Method} {c : Code} {D : va_G} {h : Nat → Nat} {cy : Nat → ClassId} (X : Cx p s m args c D h cy RX4 cX4_takeSegments 5) (hr : meth.sig.returnType = none) (hk : meth.locks = false) {k1 n1 : Nat} {k2 : Nat} (hR1 : RowS k1 n1) (hR2 : SegsS k2) (x3 : Int32) (x4 : Int32) (σ : St) (y : St) (hf : f_X4_takeSegments_17 k1 n1 k2 x3 x4 σ = some y) : ∀ (H : Heap) (locs : List Loc) (ls : Array Slot), Zt D h cy s σ H locs → lv_has ls 5 [(0, .ref (h 53)), (1, .ref (h k1)), (2, .ref (h k2)), (3, .int x3), (4, .int x4)] → W p l e (rmz 3 83) s m args below meth c H locs 0 0 (EV below args s D h cy y) (F0 m 17 ls []) := by
  exact it_W (F := fun K a => f_X4_takeSegments_17b k1 n1 k2 K a.1 a.2.1 a.2.2) (P := fun a y => ∀ (H : Heap) (locs : List Loc) (ls : Array Slot), Zt D h cy s a.2.2 H locs → lv_has ls 5 [(0, .ref (h 53)), (1, .ref (h k1)), (2, .ref (h k2)), (3, .int a.1), (4, .int a.2.1)] → W p l e (rmz 3 83) s m args below meth c H locs 0 0 (EV below args s D h cy y) (F0 m 17 ls [])) (fun K hK a y hf => b_X4_takeSegments_17b X hr hk hR1 hR2 K hK (a.1) (a.2.1) (a.2.2) y hf) FU _ y hf

set_option maxRecDepth 100000 in
set_option maxHeartbeats 4000000 in
theorem c_X4_takeSegments (l : Launch) (D : va_G) (h : Nat → Nat) (cy : Nat → ClassId) {k1 n1 : Nat} {k2 : Nat} (hR1 : RowS k1 n1) (hR2 : SegsS k2) (a3 : Int32) (σ : St) (y : St) (hf : f_X4_takeSegments k1 n1 k2 a3 σ = some y) : CV l yX4_takeSegments cX4_takeSegments 5 none 3 83 D h cy [.ref (h 53), .ref (h k1), .ref (h k2), .int a3] σ y := by
  refine ent (Qc := fun sz => QV D h cy sz y) (by decide) (Nat.le_of_ble_eq_true rfl) ?_
  intro p e s m below meth c ls X Z hr hk hl
  have X : Cx p s m _ c D h cy RX4 cX4_takeSegments 5 := X
  have hx := X.x
  have hb := X.b
  have hl : lv_has ls 5 [(0, .ref (h 53)), (1, .ref (h k1)), (2, .ref (h k2)), (3, .int a3)] := hl
  unfold f_X4_takeSegments at hf
  refine lv_aload_n hx hb dX4_takeSegments_0 rfl (lv_at hl 0 rfl) ?_
  refine gf_RX4_12 X Z dX4_takeSegments_1 ?_
  obtain ⟨s2, h1, hf⟩ := bv_s hf
  refine goV Z (run_V (As := []) (rest := []) X Z (c_X7_clear l D h cy segs_54 σ s2 h1 _) lk_RX4_79 ⟨by decide, by decide⟩ (rv_SegsS segs_54) rfl hl.1 rfl (Nat.le_of_ble_eq_true rfl) ⟨Nat.le_refl _, Nat.le_refl _⟩ dX4_takeSegments_4) (fun H locs Z => ?_)
  refine lv_aload_n hx hb dX4_takeSegments_7 rfl (lv_at hl 0 rfl) ?_
  refine gf_RX4_23 X Z dX4_takeSegments_8 ?_
  obtain ⟨s4, h3, hf⟩ := bv_s hf
  refine goV Z (run_V (As := []) (rest := []) X Z (c_X6_clear l D h cy row_59 s2 s4 h3 _) lk_RX4_55 ⟨by decide, by decide⟩ (rv_RowS row_59) rfl hl.1 rfl (Nat.le_of_ble_eq_true rfl) ⟨Nat.le_refl _, Nat.le_refl _⟩ dX4_takeSegments_11) (fun H locs Z => ?_)
  refine lv_iconst (v := 0) hx hb dX4_takeSegments_14 (by decide) ?_
  refine lv_topi (fun v5 ev5 => ?_)
  have hf := zn_e ev5 hf
  refine lv_istore (lv' := [(4, .int v5), (0, .ref (h 53)), (1, .ref (h k1)), (2, .ref (h k2)), (3, .int a3)]) hx hb dX4_takeSegments_15 hl (by decide) rfl (fun ls hl => ?_)
  exact b_X4_takeSegments_17 X hr hk hR1 hR2 a3 v5 s4 _ hf _ _ _ Z (lv_sub hl [1, 2, 3, 4, 0] rfl)

set_option maxRecDepth 100000 in
set_option maxHeartbeats 4000000 in
theorem b_X4_take_47b {p : Program} {l : Launch} {e : Env} {s : State} {m : MethodId} {args : Array Value} {below : List Frame} {meth : Method} {c : Code} {D : va_G} {h : Nat → Nat} {cy : Nat → ClassId} (X : Cx p s m args c D h cy RX4 cX4_take 6) (hr : meth.sig.returnType = none) (hk : meth.locks = false) {k1 n1 : Nat} (hR1 : RowS k1 n1) (K47 : (Int32 × Int32 × St) → Option (St)) (hK47 : ∀ (a : Int32 × Int32 × St) (y : St), K47 a = some y → ∀ (H : Heap) (locs : List Loc) (ls : Array Slot), Zt D h cy s a.2.2 H locs → lv_has ls 6 [(0, .ref (h 53)), (1, .ref (h k1)), (2, .ref (h 40)), (3, .int a.1), (4, .int a.2.1)] → W p l e (rmz 4 107) s m args below meth c H locs 0 0 (EV below args s D h cy y) (F0 m 47 ls [])) (x3 : Int32) (x4 : Int32) (σ : St) (y : St) (hf : f_X4_take_47b k1 n1 K47 x3 x4 σ = some y) : ∀ (H : Heap) (locs : List Loc) (ls : Array Slot), Zt D h cy s σ H locs → lv_has ls 6 [(0, .ref (h 53)), (1, .ref (h k1)), (2, .ref (h 40)), (3, .int x3), (4, .int x4)] → W p l e (rmz 4 107) s m args below meth c H locs 0 0 (EV below args s D h cy y) (F0 m 47 ls []) := by
  intro H locs ls Z hl
  have hx := X.x
  have hb := X.b
  unfold f_X4_take_47b at hf
  refine lv_iload hx hb dX4_take_47 (lv_at hl 4 rfl) ?_
  refine lv_aload_n hx hb dX4_take_49 rfl (lv_at hl 0 rfl) ?_
  refine gf_RX4_44 X Z dX4_take_50 ?_
  refine lv_icmp_ge (tgt := 109) hx hb dX4_take_53 (by decide) (fun c9 => ?_) (fun c9 => ?_)
  · have hf := itp c9 hf
    exact retV X hr hk Z hf dX4_take_109
  · have hf := itn c9 hf
    refine lv_aload_n hx hb dX4_take_56 rfl (lv_at hl 2 rfl) ?_
    refine gf_RX4_72 X Z dX4_take_57 ?_
    refine lv_bipush (v := 16) hx hb dX4_take_60 (by decide) ?_
    refine lv_iload hx hb dX4_take_62 (lv_at hl 4 rfl) ?_
    refine lv_imul hx hb dX4_take_64 ?_
    refine lv_iadd hx hb dX4_take_65 ?_
    refine lv_topi (fun v10 ev10 => ?_)
    have hf := zn_e ev10 hf
    refine lv_istore (lv' := [(5, .int v10), (0, .ref (h 53)), (1, .ref (h k1)), (2, .ref (h 40)), (3, .int x3), (4, .int x4)]) hx hb dX4_take_66 hl (by decide) rfl (fun ls hl => ?_)
    refine lv_aload_n hx hb dX4_take_68 rfl (lv_at hl 1 rfl) ?_
    refine gf_RX4_37 X Z dX4_take_69 ?_
    refine lv_iload hx hb dX4_take_72 (lv_at hl 5 rfl) ?_
    refine lv_aload_n hx hb dX4_take_74 rfl (lv_at hl 2 rfl) ?_
    refine lv_iload hx hb dX4_take_75 (lv_at hl 0 rfl) ?_
    refine lv_iconst (v := 4) hx hb dX4_take_77 (by decide) ?_
    obtain ⟨r13, s12, h11, hf⟩ := bi_s hf
    refine goL Z (run_V (As := [.int v10, .int (4 : Int32)]) (rest := [.int x4, .ref (h 66)]) X Z (c_X6_number l D h cy hR1 v10 (4 : Int32) σ (r13, s12) h11 _) lk_RX4_75 ⟨by decide, by decide⟩ (rv_RowS hR1) rfl hl.1 rfl (Nat.le_of_ble_eq_true rfl) ⟨Nat.le_refl _, Nat.le_refl _⟩ dX4_take_78) (fun H locs Z => ?_)
    refine lv_l2i (v := r13.toInt32) hx hb dX4_take_81 rfl ?_
    obtain ⟨g14, hf⟩ := gd_s hf
    refine x_iast (k := 66) X Z sh_66 g14 dX4_take_82 (fun s15 H locs es15 Z => ?_)
    have hf := zn_e es15 hf
    refine lv_aload_n hx hb dX4_take_83 rfl (lv_at hl 1 rfl) ?_
    refine gf_RX4_41 X Z dX4_take_84 ?_
    refine lv_iload hx hb dX4_take_87 (lv_at hl 5 rfl) ?_
    refine lv_aload_n hx hb dX4_take_89 rfl (lv_at hl 2 rfl) ?_
    refine lv_iload hx hb dX4_take_90 (lv_at hl 0 rfl) ?_
    refine lv_bipush (v := 8) hx hb dX4_take_92 (by decide) ?_
    refine lv_iadd hx hb dX4_take_94 ?_
    refine lv_iconst (v := 4) hx hb dX4_take_95 (by decide) ?_
    obtain ⟨r18, s17, h16, hf⟩ := bi_s hf
    refine goL Z (run_V (As := [.int ((v10 + (8 : Int32))), .int (4 : Int32)]) (rest := [.int x4, .ref (h 67)]) X Z (c_X6_number l D h cy hR1 ((v10 + (8 : Int32))) (4 : Int32) s15 (r18, s17) h16 _) lk_RX4_75 ⟨by decide, by decide⟩ (rv_RowS hR1) rfl hl.1 rfl (Nat.le_of_ble_eq_true rfl) ⟨Nat.le_refl _, Nat.le_refl _⟩ dX4_take_96) (fun H locs Z => ?_)
    refine lv_l2i (v := r18.toInt32) hx hb dX4_take_99 rfl ?_
    refine lv_iload_n hx hb dX4_take_100 rfl (lv_at hl 4 rfl) ?_
    refine lv_iadd hx hb dX4_take_101 ?_
    obtain ⟨g19, hf⟩ := gd_s hf
    refine x_iast (k := 67) X Z sh_67 g19 dX4_take_102 (fun s20 H locs es20 Z => ?_)
    have hf := zn_e es20 hf
    obtain ⟨v21, ev21⟩ : ∃ z : Int32, z = x4 + 1 := ⟨_, rfl⟩
    have hf := zn_e ev21 hf
    refine lv_iinc (v := v21) (lv' := [(4, .int v21), (5, .int v10), (0, .ref (h 53)), (1, .ref (h k1)), (2, .ref (h 40)), (3, .int x3)]) hx hb dX4_take_103 hl (k := 5) rfl (by rw [ev21]; rfl) (by decide) rfl (fun ls hl => ?_)
    refine lv_goto (tgt := 47) hx hb dX4_take_106 (by decide) ?_
    exact hK47 (x3, v21, s20) _ hf _ _ _ Z (lv_sub hl [2, 3, 4, 5, 0] rfl)

set_option maxRecDepth 100000 in
set_option maxHeartbeats 4000000 in
theorem b_X4_take_47 {p : Program} {l : Launch} {e : Env} {s : State} {m : MethodId} {args : Array Value} {below : List Frame} {meth : Method} {c : Code} {D : va_G} {h : Nat → Nat} {cy : Nat → ClassId} (X : Cx p s m args c D h cy RX4 cX4_take 6) (hr : meth.sig.returnType = none) (hk : meth.locks = false) {k1 n1 : Nat} (hR1 : RowS k1 n1) (x3 : Int32) (x4 : Int32) (σ : St) (y : St) (hf : f_X4_take_47 k1 n1 x3 x4 σ = some y) : ∀ (H : Heap) (locs : List Loc) (ls : Array Slot), Zt D h cy s σ H locs → lv_has ls 6 [(0, .ref (h 53)), (1, .ref (h k1)), (2, .ref (h 40)), (3, .int x3), (4, .int x4)] → W p l e (rmz 4 107) s m args below meth c H locs 0 0 (EV below args s D h cy y) (F0 m 47 ls []) := by
  exact it_W (F := fun K a => f_X4_take_47b k1 n1 K a.1 a.2.1 a.2.2) (P := fun a y => ∀ (H : Heap) (locs : List Loc) (ls : Array Slot), Zt D h cy s a.2.2 H locs → lv_has ls 6 [(0, .ref (h 53)), (1, .ref (h k1)), (2, .ref (h 40)), (3, .int a.1), (4, .int a.2.1)] → W p l e (rmz 4 107) s m args below meth c H locs 0 0 (EV below args s D h cy y) (F0 m 47 ls [])) (fun K hK a y hf => b_X4_take_47b X hr hk hR1 K hK (a.1) (a.2.1) (a.2.2) y hf) FU _ y hf

set_option maxRecDepth 100000 in
set_option maxHeartbeats 4000000 in
theorem c_X4_take (l : Launch) (D : va_G) (h : Nat → Nat) (cy : Nat → ClassId) {k1 n1 : Nat} (hR1 : RowS k1 n1) (a3 : Int32) (σ : St) (y : St) (hf : f_X4_take k1 n1 a3 σ = some y) : CV l yX4_take cX4_take 6 none 4 107 D h cy [.ref (h 53), .ref (h k1), .ref (h 40), .int a3] σ y := by
  refine ent (Qc := fun sz => QV D h cy sz y) (by decide) (Nat.le_of_ble_eq_true rfl) ?_
  intro p e s m below meth c ls X Z hr hk hl
  have X : Cx p s m _ c D h cy RX4 cX4_take 6 := X
  have hx := X.x
  have hb := X.b
  have hl : lv_has ls 6 [(0, .ref (h 53)), (1, .ref (h k1)), (2, .ref (h 40)), (3, .int a3)] := hl
  unfold f_X4_take at hf
  refine lv_aload_n hx hb dX4_take_0 rfl (lv_at hl 0 rfl) ?_
  refine lv_aload_n hx hb dX4_take_1 rfl (lv_at hl 1 rfl) ?_
  refine lv_aload_n hx hb dX4_take_2 rfl (lv_at hl 2 rfl) ?_
  refine gf_RX4_48 X Z dX4_take_3 ?_
  refine lv_iload_n hx hb dX4_take_6 rfl (lv_at hl 3 rfl) ?_
  obtain ⟨s2, h1, hf⟩ := bv_s hf
  refine goV Z (run_V (As := [.ref (h k1), .ref (h 41), .int a3]) (rest := []) X Z (c_X4_takeSegments l D h cy hR1 segs_41 a3 σ s2 h1 _) lk_RX4_51 ⟨by decide, by decide⟩ rv_53 rfl hl.1 rfl (Nat.le_of_ble_eq_true rfl) ⟨Nat.le_refl _, Nat.le_refl _⟩ dX4_take_7) (fun H locs Z => ?_)
  refine lv_aload_n hx hb dX4_take_10 rfl (lv_at hl 0 rfl) ?_
  refine gf_RX4_34 X Z dX4_take_11 ?_
  obtain ⟨s4, h3, hf⟩ := bv_s hf
  refine goV Z (run_V (As := []) (rest := []) X Z (c_X6_clear l D h cy row_64 s2 s4 h3 _) lk_RX4_55 ⟨by decide, by decide⟩ (rv_RowS row_64) rfl hl.1 rfl (Nat.le_of_ble_eq_true rfl) ⟨Nat.le_refl _, Nat.le_refl _⟩ dX4_take_14) (fun H locs Z => ?_)
  refine lv_aload_n hx hb dX4_take_17 rfl (lv_at hl 0 rfl) ?_
  refine gf_RX4_34 X Z dX4_take_18 ?_
  refine lv_aload_n hx hb dX4_take_21 rfl (lv_at hl 1 rfl) ?_
  refine gf_RX4_58 X Z hR1 dX4_take_22 ?_
  refine lv_aload_n hx hb dX4_take_25 rfl (lv_at hl 2 rfl) ?_
  refine gf_RX4_62 X Z dX4_take_26 ?_
  refine lv_aload_n hx hb dX4_take_29 rfl (lv_at hl 2 rfl) ?_
  refine gf_RX4_64 X Z dX4_take_30 ?_
  obtain ⟨s6, h5, hf⟩ := bv_s hf
  refine goV Z (run_V (As := [.ref (h (k1 + 1)), .int (s4.1 40 7), .int (s4.1 40 8)]) (rest := []) X Z (c_X6_addFrom l D h cy row_64 hR1.2 (s4.1 40 7) (s4.1 40 8) s4 s6 h5 _) lk_RX4_67 ⟨by decide, by decide⟩ (rv_RowS row_64) rfl hl.1 rfl (Nat.le_of_ble_eq_true rfl) ⟨Nat.le_refl _, Nat.le_refl _⟩ dX4_take_33) (fun H locs Z => ?_)
  refine lv_aload_n hx hb dX4_take_36 rfl (lv_at hl 0 rfl) ?_
  refine lv_aload_n hx hb dX4_take_37 rfl (lv_at hl 2 rfl) ?_
  refine gf_RX4_71 X Z dX4_take_38 ?_
  refine pf_RX4_44 X Z dX4_take_41 (fun s7 H locs es7 Z => ?_)
  have hf := zn_e es7 hf
  refine lv_iconst (v := 0) hx hb dX4_take_44 (by decide) ?_
  refine lv_topi (fun v8 ev8 => ?_)
  have hf := zn_e ev8 hf
  refine lv_istore (lv' := [(4, .int v8), (0, .ref (h 53)), (1, .ref (h k1)), (2, .ref (h 40)), (3, .int a3)]) hx hb dX4_take_45 hl (by decide) rfl (fun ls hl => ?_)
  exact b_X4_take_47 X hr hk hR1 a3 v8 s7 _ hf _ _ _ Z (lv_sub hl [1, 2, 3, 4, 0] rfl)

set_option maxRecDepth 100000 in
set_option maxHeartbeats 4000000 in
theorem b_X7_placeOf_56 {p : Program} {l : Launch} {e : Env} {s : State} {m : MethodId} {args : Array Value} {below : List Frame} {meth : Method} {c : Code} {D : va_G} {h : Nat → Nat} {cy : Nat → ClassId} (X : Cx p s m args c D h cy RX7 cX7_placeOf 6) (hr : meth.sig.returnType = some .int) (hk : meth.locks = false) {k0 : Nat} (hR0 : SegsS k0) (K2 : (Int32 × Int32 × Int32 × St) → Option (Int32 × St)) (hK2 : ∀ (a : Int32 × Int32 × Int32 × St) (y : Int32 × St), K2 a = some y → ∀ (H : Heap) (locs : List Loc) (ls : Array Slot), Zt D h cy s a.2.2.2 H locs → lv_has ls 6 [(0, .ref (h k0)), (1, .int a.1), (2, .int a.2.1), (3, .int a.2.2.1)] → W p l e (rmz 0 0) s m args below meth c H locs 0 0 (EI below args s D h cy y) (F0 m 2 ls [])) (x1 : Int32) (x2 : Int32) (x3 : Int32) (σ : St) (y : Int32 × St) (hf : f_X7_placeOf_56 k0 K2 x1 x2 x3 σ = some y) : ∀ (H : Heap) (locs : List Loc) (ls : Array Slot), Zt D h cy s σ H locs → lv_has ls 6 [(0, .ref (h k0)), (1, .int x1), (2, .int x2), (3, .int x3)] → W p l e (rmz 0 0) s m args below meth c H locs 0 0 (EI below args s D h cy y) (F0 m 56 ls []) := by
  intro H locs ls Z hl
  have hx := X.x
  have hb := X.b
  unfold f_X7_placeOf_56 at hf
  obtain ⟨v6, ev6⟩ : ∃ z : Int32, z = x3 + 1 := ⟨_, rfl⟩
  have hf := zn_e ev6 hf
  refine lv_iinc (v := v6) (lv' := [(3, .int v6), (0, .ref (h k0)), (1, .int x1), (2, .int x2)]) hx hb dX7_placeOf_56 hl (k := 3) rfl (by rw [ev6]; rfl) (by decide) rfl (fun ls hl => ?_)
  refine lv_goto (tgt := 2) hx hb dX7_placeOf_59 (by decide) ?_
  exact hK2 (x1, x2, v6, σ) _ hf _ _ _ Z (lv_sub hl [1, 2, 3, 0] rfl)

set_option maxRecDepth 100000 in
set_option maxHeartbeats 4000000 in
theorem b_X7_placeOf_2b {p : Program} {l : Launch} {e : Env} {s : State} {m : MethodId} {args : Array Value} {below : List Frame} {meth : Method} {c : Code} {D : va_G} {h : Nat → Nat} {cy : Nat → ClassId} (X : Cx p s m args c D h cy RX7 cX7_placeOf 6) (hr : meth.sig.returnType = some .int) (hk : meth.locks = false) {k0 : Nat} (hR0 : SegsS k0) (K2 : (Int32 × Int32 × Int32 × St) → Option (Int32 × St)) (hK2 : ∀ (a : Int32 × Int32 × Int32 × St) (y : Int32 × St), K2 a = some y → ∀ (H : Heap) (locs : List Loc) (ls : Array Slot), Zt D h cy s a.2.2.2 H locs → lv_has ls 6 [(0, .ref (h k0)), (1, .int a.1), (2, .int a.2.1), (3, .int a.2.2.1)] → W p l e (rmz 0 0) s m args below meth c H locs 0 0 (EI below args s D h cy y) (F0 m 2 ls [])) (x1 : Int32) (x2 : Int32) (x3 : Int32) (σ : St) (y : Int32 × St) (hf : f_X7_placeOf_2b k0 K2 x1 x2 x3 σ = some y) : ∀ (H : Heap) (locs : List Loc) (ls : Array Slot), Zt D h cy s σ H locs → lv_has ls 6 [(0, .ref (h k0)), (1, .int x1), (2, .int x2), (3, .int x3)] → W p l e (rmz 0 0) s m args below meth c H locs 0 0 (EI below args s D h cy y) (F0 m 2 ls []) := by
  intro H locs ls Z hl
  have hx := X.x
  have hb := X.b
  unfold f_X7_placeOf_2b at hf
  refine lv_iload_n hx hb dX7_placeOf_2 rfl (lv_at hl 3 rfl) ?_
  refine lv_aload_n hx hb dX7_placeOf_3 rfl (lv_at hl 0 rfl) ?_
  refine gf_RX7_24 X Z hR0 dX7_placeOf_4 ?_
  refine lv_icmp_ge (tgt := 62) hx hb dX7_placeOf_7 (by decide) (fun c2 => ?_) (fun c2 => ?_)
  · have hf := itp c2 hf
    refine lv_iconst (v := (-1)) hx hb dX7_placeOf_62 (by decide) ?_
    exact retI X hr hk Z hf dX7_placeOf_63
  · have hf := itn c2 hf
    refine lv_iload_n hx hb dX7_placeOf_10 rfl (lv_at hl 1 rfl) ?_
    refine lv_i2l (v := x1.toInt64) hx hb dX7_placeOf_11 rfl ?_
    refine lv_aload_n hx hb dX7_placeOf_12 rfl (lv_at hl 0 rfl) ?_
    refine gf_RX7_9 X Z hR0 dX7_placeOf_13 ?_
    refine lv_iload_n hx hb dX7_placeOf_16 rfl (lv_at hl 3 rfl) ?_
    obtain ⟨g3, hf⟩ := gd_s hf
    refine x_iald (k := (k0 + 1)) X Z hR0.2.1 g3 dX7_placeOf_17 ?_
    refine lv_i2l (v := ((σ.1 (k0 + 1) x3.toNatClampNeg)).toInt64) hx hb dX7_placeOf_18 rfl ?_
    refine lv_lsub hx hb dX7_placeOf_19 ?_
    refine lv_topl (fun v4 ev4 => ?_)
    have hf := zn_e ev4 hf
    refine lv_lstore (lv' := [(4, .long v4), (0, .ref (h k0)), (1, .int x1), (2, .int x2), (3, .int x3)]) hx hb dX7_placeOf_20 hl (by decide) rfl (fun ls hl => ?_)
    refine lv_lload hx hb dX7_placeOf_22 (lv_at hl 0 rfl) ?_
    refine lv_lconst (v := 0) hx hb dX7_placeOf_24 (by decide) ?_
    refine x_lif_lt (tgt := 56) X dX7_placeOf_25 dX7_placeOf_26 (by decide) (fun c5 => ?_) (fun c5 => ?_)
    · have hf := itp c5 hf
      exact b_X7_placeOf_56 X hr hk hR0 K2 hK2 x1 x2 x3 σ _ hf _ _ _ Z (lv_sub hl [1, 2, 3, 4] rfl)
    · have hf := itn c5 hf
      refine lv_lload hx hb dX7_placeOf_29 (lv_at hl 0 rfl) ?_
      refine lv_iload_n hx hb dX7_placeOf_31 rfl (lv_at hl 3 rfl) ?_
      refine lv_i2l (v := x2.toInt64) hx hb dX7_placeOf_32 rfl ?_
      refine lv_ladd hx hb dX7_placeOf_33 ?_
      refine lv_aload_n hx hb dX7_placeOf_34 rfl (lv_at hl 1 rfl) ?_
      refine gf_RX7_15 X Z hR0 dX7_placeOf_35 ?_
      refine lv_iload_n hx hb dX7_placeOf_38 rfl (lv_at hl 4 rfl) ?_
      obtain ⟨g7, hf⟩ := gd_s hf
      refine x_iald (k := (k0 + 2)) X Z hR0.2.2.1 g7 dX7_placeOf_39 ?_
      refine lv_i2l (v := ((σ.1 (k0 + 2) x3.toNatClampNeg)).toInt64) hx hb dX7_placeOf_40 rfl ?_
      refine x_lif_gt (tgt := 56) X dX7_placeOf_41 dX7_placeOf_42 (by decide) (fun c8 => ?_) (fun c8 => ?_)
      · have hf := itp c8 hf
        exact b_X7_placeOf_56 X hr hk hR0 K2 hK2 x1 x2 x3 σ _ hf _ _ _ Z (lv_sub hl [1, 2, 3, 4] rfl)
      · have hf := itn c8 hf
        refine lv_aload_n hx hb dX7_placeOf_45 rfl (lv_at hl 1 rfl) ?_
        refine gf_RX7_18 X Z hR0 dX7_placeOf_46 ?_
        refine lv_iload_n hx hb dX7_placeOf_49 rfl (lv_at hl 4 rfl) ?_
        obtain ⟨g9, hf⟩ := gd_s hf
        refine x_iald (k := (k0 + 3)) X Z hR0.2.2.2.1 g9 dX7_placeOf_50 ?_
        refine lv_lload hx hb dX7_placeOf_51 (lv_at hl 0 rfl) ?_
        refine lv_l2i (v := v4.toInt32) hx hb dX7_placeOf_53 rfl ?_
        refine lv_iadd hx hb dX7_placeOf_54 ?_
        exact retI X hr hk Z hf dX7_placeOf_55

set_option maxRecDepth 100000 in
set_option maxHeartbeats 4000000 in
theorem b_X7_placeOf_2 {p : Program} {l : Launch} {e : Env} {s : State} {m : MethodId} {args : Array Value} {below : List Frame} {meth : Method} {c : Code} {D : va_G} {h : Nat → Nat} {cy : Nat → ClassId} (X : Cx p s m args c D h cy RX7 cX7_placeOf 6) (hr : meth.sig.returnType = some .int) (hk : meth.locks = false) {k0 : Nat} (hR0 : SegsS k0) (x1 : Int32) (x2 : Int32) (x3 : Int32) (σ : St) (y : Int32 × St) (hf : f_X7_placeOf_2 k0 x1 x2 x3 σ = some y) : ∀ (H : Heap) (locs : List Loc) (ls : Array Slot), Zt D h cy s σ H locs → lv_has ls 6 [(0, .ref (h k0)), (1, .int x1), (2, .int x2), (3, .int x3)] → W p l e (rmz 0 0) s m args below meth c H locs 0 0 (EI below args s D h cy y) (F0 m 2 ls []) := by
  exact it_W (F := fun K a => f_X7_placeOf_2b k0 K a.1 a.2.1 a.2.2.1 a.2.2.2) (P := fun a y => ∀ (H : Heap) (locs : List Loc) (ls : Array Slot), Zt D h cy s a.2.2.2 H locs → lv_has ls 6 [(0, .ref (h k0)), (1, .int a.1), (2, .int a.2.1), (3, .int a.2.2.1)] → W p l e (rmz 0 0) s m args below meth c H locs 0 0 (EI below args s D h cy y) (F0 m 2 ls [])) (fun K hK a y hf => b_X7_placeOf_2b X hr hk hR0 K hK (a.1) (a.2.1) (a.2.2.1) (a.2.2.2) y hf) FU _ y hf

set_option maxRecDepth 100000 in
set_option maxHeartbeats 4000000 in
theorem c_X7_placeOf (l : Launch) (D : va_G) (h : Nat → Nat) (cy : Nat → ClassId) {k0 : Nat} (hR0 : SegsS k0) (a1 : Int32) (a2 : Int32) (σ : St) (y : Int32 × St) (hf : f_X7_placeOf k0 a1 a2 σ = some y) : CI l yX7_placeOf cX7_placeOf 6 (some .int) 0 0 D h cy [.ref (h k0), .int a1, .int a2] σ y := by
  refine ent (Qc := fun sz => QI D h cy sz y) (by decide) (Nat.le_of_ble_eq_true rfl) ?_
  intro p e s m below meth c ls X Z hr hk hl
  have X : Cx p s m _ c D h cy RX7 cX7_placeOf 6 := X
  have hx := X.x
  have hb := X.b
  have hl : lv_has ls 6 [(0, .ref (h k0)), (1, .int a1), (2, .int a2)] := hl
  unfold f_X7_placeOf at hf
  refine lv_iconst (v := 0) hx hb dX7_placeOf_0 (by decide) ?_
  refine lv_topi (fun v1 ev1 => ?_)
  have hf := zn_e ev1 hf
  refine lv_istore_n (lv' := [(3, .int v1), (0, .ref (h k0)), (1, .int a1), (2, .int a2)]) hx hb dX7_placeOf_1 rfl hl (by decide) rfl (fun ls hl => ?_)
  exact b_X7_placeOf_2 X hr hk hR0 a1 a2 v1 σ _ hf _ _ _ Z (lv_sub hl [1, 2, 3, 0] rfl)
