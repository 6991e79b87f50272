set_option maxRecDepth 100000 in
set_option maxHeartbeats 4000000 in
theorem c_X6_has (l : Launch) (D : va_G) (h : Nat → Nat) (cy : Nat → ClassId) {k0 n0 : Nat} (hR0 : RowS k0 n0) (a1 : Int32) (σ : St) (y : Int32 × St) (hf : f_X6_has k0 n0 a1 σ = some y) : CI l yX6_has cX6_has 2 (some .boolean) 0 0 D h cy [.ref (h k0), .int a1] σ y := by
  refine ent (Qc := fun sz => QI D h cy sz y) (by decide) (Nat.le_of_ble_eq_true rfl) ?_
  intro p e s m below meth c ls X Z hr hk hl
  have X : Cx p s m _ c D h cy RX6 cX6_has 2 := X
  have hx := X.x
  have hb := X.b
  have hl : lv_has ls 2 [(0, .ref (h k0)), (1, .int a1)] := hl
  unfold f_X6_has at hf
  refine lv_iload_n hx hb dX6_has_0 rfl (lv_at hl 1 rfl) ?_
  refine lv_if_lt (tgt := 16) hx hb dX6_has_1 (by decide) (fun c1 => ?_) (fun c1 => ?_)
  · have hf := itp c1 hf
    refine lv_iconst (v := 0) hx hb dX6_has_16 (by decide) ?_
    exact retZ X hr hk Z (by decide) hf dX6_has_17
  · have hf := itn c1 hf
    refine lv_iload_n hx hb dX6_has_4 rfl (lv_at hl 1 rfl) ?_
    refine lv_aload_n hx hb dX6_has_5 rfl (lv_at hl 0 rfl) ?_
    refine gf_RX6_15 X Z hR0 dX6_has_6 ?_
    refine lv_icmp_ge (tgt := 16) hx hb dX6_has_9 (by decide) (fun c2 => ?_) (fun c2 => ?_)
    · have hf := itp c2 hf
      refine lv_iconst (v := 0) hx hb dX6_has_16 (by decide) ?_
      exact retZ X hr hk Z (by decide) hf dX6_has_17
    · have hf := itn c2 hf
      refine lv_iconst (v := 1) hx hb dX6_has_12 (by decide) ?_
      refine lv_goto (tgt := 17) hx hb dX6_has_13 (by decide) ?_
      exact retZ X hr hk Z (by decide) hf dX6_has_17

set_option maxRecDepth 100000 in
set_option maxHeartbeats 4000000 in
theorem b_X6_put_38 {p : Program} {l : Launch} {e : Env} {s : State} {m : MethodId} {args : Array Value} {below : List Frame} {meth : Method} {c : Code} {D : va_G} {h : Nat → Nat} {cy : Nat → ClassId} (X : Cx p s m args c D h cy RX6 cX6_put 6) (hr : meth.sig.returnType = none) (hk : meth.locks = false) {k0 n0 : Nat} (hR0 : RowS k0 n0) (K3 : (Int32 × Int32 × Int64 × Int32 × St) → Option (St)) (hK3 : ∀ (a : Int32 × Int32 × Int64 × Int32 × St) (y : St), K3 a = some y → ∀ (H : Heap) (locs : List Loc) (ls : Array Slot), Zt D h cy s a.2.2.2.2 H locs → lv_has ls 6 [(0, .ref (h k0)), (1, .int a.1), (2, .int a.2.1), (3, .long a.2.2.1), (5, .int a.2.2.2.1)] → W p l e (rmz 1 21) s m args below meth c H locs 0 0 (EV below args s D h cy y) (F0 m 3 ls [])) (x1 : Int32) (x2 : Int32) (x3 : Int64) (x5 : Int32) (σ : St) (y : St) (hf : f_X6_put_38 k0 n0 K3 x1 x2 x3 x5 σ = some y) : ∀ (H : Heap) (locs : List Loc) (ls : Array Slot), Zt D h cy s σ H locs → lv_has ls 6 [(0, .ref (h k0)), (1, .int x1), (2, .int x2), (3, .long x3), (5, .int x5)] → W p l e (rmz 1 21) s m args below meth c H locs 0 0 (EV below args s D h cy y) (F0 m 38 ls []) := by
  intro H locs ls Z hl
  have hx := X.x
  have hb := X.b
  unfold f_X6_put_38 at hf
  obtain ⟨v7, ev7⟩ : ∃ z : Int32, z = x5 + 1 := ⟨_, rfl⟩
  have hf := zn_e ev7 hf
  refine lv_iinc (v := v7) (lv' := [(5, .int v7), (0, .ref (h k0)), (1, .int x1), (2, .int x2), (3, .long x3)]) hx hb dX6_put_38 hl (k := 4) rfl (by rw [ev7]; rfl) (by decide) rfl (fun ls hl => ?_)
  refine lv_goto (tgt := 3) hx hb dX6_put_41 (by decide) ?_
  exact hK3 (x1, x2, x3, v7, σ) _ hf _ _ _ Z (lv_sub hl [1, 2, 3, 4, 0] rfl)

set_option maxRecDepth 100000 in
set_option maxHeartbeats 4000000 in
theorem b_X6_put_3b {p : Program} {l : Launch} {e : Env} {s : State} {m : MethodId} {args : Array Value} {below : List Frame} {meth : Method} {c : Code} {D : va_G} {h : Nat → Nat} {cy : Nat → ClassId} (X : Cx p s m args c D h cy RX6 cX6_put 6) (hr : meth.sig.returnType = none) (hk : meth.locks = false) {k0 n0 : Nat} (hR0 : RowS k0 n0) (K3 : (Int32 × Int32 × Int64 × Int32 × St) → Option (St)) (hK3 : ∀ (a : Int32 × Int32 × Int64 × Int32 × St) (y : St), K3 a = some y → ∀ (H : Heap) (locs : List Loc) (ls : Array Slot), Zt D h cy s a.2.2.2.2 H locs → lv_has ls 6 [(0, .ref (h k0)), (1, .int a.1), (2, .int a.2.1), (3, .long a.2.2.1), (5, .int a.2.2.2.1)] → W p l e (rmz 1 21) s m args below meth c H locs 0 0 (EV below args s D h cy y) (F0 m 3 ls [])) (x1 : Int32) (x2 : Int32) (x3 : Int64) (x5 : Int32) (σ : St) (y : St) (hf : f_X6_put_3b k0 n0 K3 x1 x2 x3 x5 σ = some y) : ∀ (H : Heap) (locs : List Loc) (ls : Array Slot), Zt D h cy s σ H locs → lv_has ls 6 [(0, .ref (h k0)), (1, .int x1), (2, .int x2), (3, .long x3), (5, .int x5)] → W p l e (rmz 1 21) s m args below meth c H locs 0 0 (EV below args s D h cy y) (F0 m 3 ls []) := by
  intro H locs ls Z hl
  have hx := X.x
  have hb := X.b
  unfold f_X6_put_3b at hf
  refine lv_iload hx hb dX6_put_3 (lv_at hl 4 rfl) ?_
  refine lv_iload_n hx hb dX6_put_5 rfl (lv_at hl 2 rfl) ?_
  refine lv_icmp_ge (tgt := 44) hx hb dX6_put_6 (by decide) (fun c2 => ?_) (fun c2 => ?_)
  · have hf := itp c2 hf
    exact retV X hr hk Z hf dX6_put_44
  · have hf := itn c2 hf
    refine lv_aload_n hx hb dX6_put_9 rfl (lv_at hl 0 rfl) ?_
    refine lv_iload_n hx hb dX6_put_10 rfl (lv_at hl 1 rfl) ?_
    refine lv_iload hx hb dX6_put_11 (lv_at hl 4 rfl) ?_
    refine lv_iadd hx hb dX6_put_13 ?_
    obtain ⟨r5, s4, h3, hf⟩ := bi_s hf
    refine goI Z (run_V (As := [.int (x1 + x5)]) (rest := []) X Z (c_X6_has l D h cy hR0 (x1 + x5) σ (r5, s4) h3 _) lk_RX6_19 ⟨by decide, by decide⟩ (rv_RowS hR0) rfl hl.1 rfl (Nat.le_of_ble_eq_true rfl) ⟨Nat.le_refl _, Nat.le_refl _⟩ dX6_put_14) (fun H locs Z => ?_)
    refine lv_if_eq (tgt := 38) hx hb dX6_put_17 (by decide) (fun c6 => ?_) (fun c6 => ?_)
    · have hf := itp c6 hf
      exact b_X6_put_38 X hr hk hR0 K3 hK3 x1 x2 x3 x5 s4 _ hf _ _ _ Z (lv_sub hl [0, 1, 2, 3, 4] rfl)
    · have hf := itn c6 hf
      refine lv_aload_n hx hb dX6_put_20 rfl (lv_at hl 0 rfl) ?_
      refine gf_RX6_9 X Z hR0 dX6_put_21 ?_
      refine lv_iload_n hx hb dX6_put_24 rfl (lv_at hl 1 rfl) ?_
      refine lv_iload hx hb dX6_put_25 (lv_at hl 4 rfl) ?_
      refine lv_iadd hx hb dX6_put_27 ?_
      refine lv_lload_n hx hb dX6_put_28 rfl (lv_at hl 3 rfl) ?_
      refine lv_bipush (v := 8) hx hb dX6_put_29 (by decide) ?_
      refine lv_iload hx hb dX6_put_31 (lv_at hl 4 rfl) ?_
      refine lv_imul hx hb dX6_put_33 ?_
      refine lv_lushr (v := zlushr x3 (((8 : Int32) * x5))) hx hb dX6_put_34 rfl ?_
      refine lv_l2i (v := ((zlushr x3 (((8 : Int32) * x5)))).toInt32) hx hb dX6_put_35 rfl ?_
      refine lv_i2b (v := (((zlushr x3 (((8 : Int32) * x5)))).toInt32).toInt8.toInt32) hx hb dX6_put_36 rfl ?_
      obtain ⟨g8, hf⟩ := gd_s hf
      refine x_bast (k := (k0 + 1)) X Z hR0.2 g8 dX6_put_37 (fun s9 H locs es9 Z => ?_)
      have hf := zn_e es9 hf
      exact b_X6_put_38 X hr hk hR0 K3 hK3 x1 x2 x3 x5 s9 _ hf _ _ _ Z (lv_sub hl [0, 1, 2, 3, 4] rfl)

set_option maxRecDepth 100000 in
set_option maxHeartbeats 4000000 in
theorem b_X6_put_3 {p : Program} {l : Launch} {e : Env} {s : State} {m : MethodId} {args : Array Value} {below : List Frame} {meth : Method} {c : Code} {D : va_G} {h : Nat → Nat} {cy : Nat → ClassId} (X : Cx p s m args c D h cy RX6 cX6_put 6) (hr : meth.sig.returnType = none) (hk : meth.locks = false) {k0 n0 : Nat} (hR0 : RowS k0 n0) (x1 : Int32) (x2 : Int32) (x3 : Int64) (x5 : Int32) (σ : St) (y : St) (hf : f_X6_put_3 k0 n0 x1 x2 x3 x5 σ = some y) : ∀ (H : Heap) (locs : List Loc) (ls : Array Slot), Zt D h cy s σ H locs → lv_has ls 6 [(0, .ref (h k0)), (1, .int x1), (2, .int x2), (3, .long x3), (5, .int x5)] → W p l e (rmz 1 21) s m args below meth c H locs 0 0 (EV below args s D h cy y) (F0 m 3 ls []) := by
  exact it_W (F := fun K a => f_X6_put_3b k0 n0 K a.1 a.2.1 a.2.2.1 a.2.2.2.1 a.2.2.2.2) (P := fun a y => ∀ (H : Heap) (locs : List Loc) (ls : Array Slot), Zt D h cy s a.2.2.2.2 H locs → lv_has ls 6 [(0, .ref (h k0)), (1, .int a.1), (2, .int a.2.1), (3, .long a.2.2.1), (5, .int a.2.2.2.1)] → W p l e (rmz 1 21) s m args below meth c H locs 0 0 (EV below args s D h cy y) (F0 m 3 ls [])) (fun K hK a y hf => b_X6_put_3b X hr hk hR0 K hK (a.1) (a.2.1) (a.2.2.1) (a.2.2.2.1) (a.2.2.2.2) y hf) FU _ y hf

set_option maxRecDepth 100000 in
set_option maxHeartbeats 4000000 in
theorem c_X6_put (l : Launch) (D : va_G) (h : Nat → Nat) (cy : Nat → ClassId) {k0 n0 : Nat} (hR0 : RowS k0 n0) (a1 : Int32) (a2 : Int32) (a3 : Int64) (σ : St) (y : St) (hf : f_X6_put k0 n0 a1 a2 a3 σ = some y) : CV l yX6_put cX6_put 6 none 1 21 D h cy [.ref (h k0), .int a1, .int a2, .long a3] σ y := by
  refine ent (Qc := fun sz => QV D h cy sz y) (by decide) (Nat.le_of_ble_eq_true rfl) ?_
  intro p e s m below meth c ls X Z hr hk hl
  have X : Cx p s m _ c D h cy RX6 cX6_put 6 := X
  have hx := X.x
  have hb := X.b
  have hl : lv_has ls 6 [(0, .ref (h k0)), (1, .int a1), (2, .int a2), (3, .long a3)] := hl
  unfold f_X6_put at hf
  refine lv_iconst (v := 0) hx hb dX6_put_0 (by decide) ?_
  refine lv_topi (fun v1 ev1 => ?_)
  have hf := zn_e ev1 hf
  refine lv_istore (lv' := [(5, .int v1), (0, .ref (h k0)), (1, .int a1), (2, .int a2), (3, .long a3)]) hx hb dX6_put_1 hl (by decide) rfl (fun ls hl => ?_)
  exact b_X6_put_3 X hr hk hR0 a1 a2 a3 v1 σ _ hf _ _ _ Z (lv_sub hl [1, 2, 3, 4, 0] rfl)

set_option maxRecDepth 100000 in
set_option maxHeartbeats 4000000 in
theorem b_X4_setPointers_92 {p : Program} {l : Launch} {e : Env} {s : State} {m : MethodId} {args : Array Value} {below : List Frame} {meth : Method} {c : Code} {D : va_G} {h : Nat → Nat} {cy : Nat → ClassId} (X : Cx p s m args c D h cy RX4 cX4_setPointers 8) (hr : meth.sig.returnType = none) (hk : meth.locks = false) (K9 : (Int32 × Int32 × St) → Option (St)) (hK9 : ∀ (a : Int32 × Int32 × St) (y : St), K9 a = some y → ∀ (H : Heap) (locs : List Loc) (ls : Array Slot), Zt D h cy s a.2.2 H locs → lv_has ls 8 [(0, .ref (h 53)), (1, .ref (h 46)), (2, .int a.1), (3, .int a.2.1)] → W p l e (rmz 3 71) s m args below meth c H locs 0 0 (EV below args s D h cy y) (F0 m 9 ls [])) (x2 : Int32) (x3 : Int32) (σ : St) (y : St) (hf : f_X4_setPointers_92 K9 x2 x3 σ = some y) : ∀ (H : Heap) (locs : List Loc) (ls : Array Slot), Zt D h cy s σ H locs → lv_has ls 8 [(0, .ref (h 53)), (1, .ref (h 46)), (2, .int x2), (3, .int x3)] → W p l e (rmz 3 71) s m args below meth c H locs 0 0 (EV below args s D h cy y) (F0 m 92 ls []) := by
  intro H locs ls Z hl
  have hx := X.x
  have hb := X.b
  unfold f_X4_setPointers_92 at hf
  obtain ⟨v15, ev15⟩ : ∃ z : Int32, z = x3 + 1 := ⟨_, rfl⟩
  have hf := zn_e ev15 hf
  refine lv_iinc (v := v15) (lv' := [(3, .int v15), (0, .ref (h 53)), (1, .ref (h 46)), (2, .int x2)]) hx hb dX4_setPointers_92 hl (k := 3) rfl (by rw [ev15]; rfl) (by decide) rfl (fun ls hl => ?_)
  refine lv_goto (tgt := 9) hx hb dX4_setPointers_95 (by decide) ?_
  exact hK9 (x2, v15, σ) _ hf _ _ _ Z (lv_sub hl [1, 2, 3, 0] rfl)

set_option maxRecDepth 100000 in
set_option maxHeartbeats 4000000 in
theorem b_X4_setPointers_9b {p : Program} {l : Launch} {e : Env} {s : State} {m : MethodId} {args : Array Value} {below : List Frame} {meth : Method} {c : Code} {D : va_G} {h : Nat → Nat} {cy : Nat → ClassId} (X : Cx p s m args c D h cy RX4 cX4_setPointers 8) (hr : meth.sig.returnType = none) (hk : meth.locks = false) (K9 : (Int32 × Int32 × St) → Option (St)) (hK9 : ∀ (a : Int32 × Int32 × St) (y : St), K9 a = some y → ∀ (H : Heap) (locs : List Loc) (ls : Array Slot), Zt D h cy s a.2.2 H locs → lv_has ls 8 [(0, .ref (h 53)), (1, .ref (h 46)), (2, .int a.1), (3, .int a.2.1)] → W p l e (rmz 3 71) s m args below meth c H locs 0 0 (EV below args s D h cy y) (F0 m 9 ls [])) (x2 : Int32) (x3 : Int32) (σ : St) (y : St) (hf : f_X4_setPointers_9b K9 x2 x3 σ = some y) : ∀ (H : Heap) (locs : List Loc) (ls : Array Slot), Zt D h cy s σ H locs → lv_has ls 8 [(0, .ref (h 53)), (1, .ref (h 46)), (2, .int x2), (3, .int x3)] → W p l e (rmz 3 71) s m args below meth c H locs 0 0 (EV below args s D h cy y) (F0 m 9 ls []) := by
  intro H locs ls Z hl
  have hx := X.x
  have hb := X.b
  unfold f_X4_setPointers_9b at hf
  refine lv_iload_n hx hb dX4_setPointers_9 rfl (lv_at hl 3 rfl) ?_
  refine lv_aload_n hx hb dX4_setPointers_10 rfl (lv_at hl 1 rfl) ?_
  refine gf_RX4_105 X Z dX4_setPointers_11 ?_
  refine gf_RX4_108 X Z vis_47 dX4_setPointers_14 ?_
  refine lv_icmp_ge (tgt := 98) hx hb dX4_setPointers_17 (by decide) (fun c4 => ?_) (fun c4 => ?_)
  · have hf := itp c4 hf
    exact retV X hr hk Z hf dX4_setPointers_98
  · have hf := itn c4 hf
    refine lv_aload_n hx hb dX4_setPointers_20 rfl (lv_at hl 1 rfl) ?_
    refine gf_RX4_105 X Z dX4_setPointers_21 ?_
    refine gf_RX4_109 X Z vis_47 dX4_setPointers_24 ?_
    refine lv_iload_n hx hb dX4_setPointers_27 rfl (lv_at hl 3 rfl) ?_
    obtain ⟨g5, hf⟩ := gd_s hf
    refine x_iald (k := 48) X Z sh_48 g5 dX4_setPointers_28 ?_
    refine lv_iload_n hx hb dX4_setPointers_29 rfl (lv_at hl 2 rfl) ?_
    refine lv_iadd hx hb dX4_setPointers_30 ?_
    refine lv_topi (fun v6 ev6 => ?_)
    have hf := zn_e ev6 hf
    refine lv_istore (lv' := [(4, .int v6), (0, .ref (h 53)), (1, .ref (h 46)), (2, .int x2), (3, .int x3)]) hx hb dX4_setPointers_31 hl (by decide) rfl (fun ls hl => ?_)
    refine lv_aload_n hx hb dX4_setPointers_33 rfl (lv_at hl 2 rfl) ?_
    refine gf_RX4_105 X Z dX4_setPointers_34 ?_
    refine gf_RX4_110 X Z vis_47 dX4_setPointers_37 ?_
    refine lv_iload_n hx hb dX4_setPointers_40 rfl (lv_at hl 4 rfl) ?_
    obtain ⟨g7, hf⟩ := gd_s hf
    refine x_lald (k := 49) X Z sh_49 g7 dX4_setPointers_41 ?_
    refine lv_topl (fun v8 ev8 => ?_)
    have hf := zn_e ev8 hf
    refine lv_lstore (lv' := [(5, .long v8), (4, .int v6), (0, .ref (h 53)), (1, .ref (h 46)), (2, .int x2), (3, .int x3)]) hx hb dX4_setPointers_42 hl (by decide) rfl (fun ls hl => ?_)
    refine lv_aload_n hx hb dX4_setPointers_44 rfl (lv_at hl 2 rfl) ?_
    refine gf_RX4_30 X Z dX4_setPointers_45 ?_
    refine lv_iload hx hb dX4_setPointers_48 (lv_at hl 1 rfl) ?_
    refine lv_lload hx hb dX4_setPointers_50 (lv_at hl 0 rfl) ?_
    obtain ⟨s10, h9, hf⟩ := bv_s hf
    refine goV Z (run_V (As := [.int v6, .long v8]) (rest := []) X Z (c_X9_add l D h cy vis_61 v6 v8 σ s10 h9 _) lk_RX4_114 ⟨by decide, by decide⟩ (rv_VisS vis_61) rfl hl.1 rfl (Nat.le_of_ble_eq_true rfl) ⟨Nat.le_refl _, Nat.le_refl _⟩ dX4_setPointers_52) (fun H locs Z => ?_)
    refine lv_aload_n hx hb dX4_setPointers_55 rfl (lv_at hl 2 rfl) ?_
    refine gf_RX4_12 X Z dX4_setPointers_56 ?_
    refine lv_iload hx hb dX4_setPointers_59 (lv_at hl 1 rfl) ?_
    refine lv_bipush (v := 8) hx hb dX4_setPointers_61 (by decide) ?_
    obtain ⟨r13, s12, h11, hf⟩ := bi_s hf
    refine goI Z (run_V (As := [.int v6, .int (8 : Int32)]) (rest := []) X Z (c_X7_placeOf l D h cy segs_54 v6 (8 : Int32) s10 (r13, s12) h11 _) lk_RX4_117 ⟨by decide, by decide⟩ (rv_SegsS segs_54) rfl hl.1 rfl (Nat.le_of_ble_eq_true rfl) ⟨Nat.le_refl _, Nat.le_refl _⟩ dX4_setPointers_63) (fun H locs Z => ?_)
    refine lv_istore (lv' := [(7, .int r13), (5, .long v8), (4, .int v6), (0, .ref (h 53)), (1, .ref (h 46)), (2, .int x2), (3, .int x3)]) hx hb dX4_setPointers_66 hl (by decide) rfl (fun ls hl => ?_)
    refine lv_iload hx hb dX4_setPointers_68 (lv_at hl 0 rfl) ?_
    refine lv_iconst (v := (-1)) hx hb dX4_setPointers_70 (by decide) ?_
    refine lv_icmp_eq (tgt := 92) hx hb dX4_setPointers_71 (by decide) (fun c14 => ?_) (fun c14 => ?_)
    · have hf := itp c14 hf
      exact b_X4_setPointers_92 X hr hk K9 hK9 x2 x3 s12 _ hf _ _ _ Z (lv_sub hl [3, 4, 5, 6] rfl)
    · have hf := itn c14 hf
      refine lv_aload_n hx hb dX4_setPointers_74 rfl (lv_at hl 3 rfl) ?_
      refine gf_RX4_23 X Z dX4_setPointers_75 ?_
      refine lv_iload hx hb dX4_setPointers_78 (lv_at hl 0 rfl) ?_
      refine lv_bipush (v := 8) hx hb dX4_setPointers_80 (by decide) ?_
      refine lv_aload_n hx hb dX4_setPointers_82 rfl (lv_at hl 4 rfl) ?_
      refine lv_lload hx hb dX4_setPointers_83 (lv_at hl 1 rfl) ?_
      refine lv_iload_n hx hb dX4_setPointers_85 rfl (lv_at hl 5 rfl) ?_
      obtain ⟨r18, s17, h16, hf⟩ := bi_s hf
      refine goL Z (run_V (As := [.long v8, .int x2]) (rest := [.int (8 : Int32), .int r13, .ref (h 59)]) X Z (c_X3_valueOf l D h cy v8 x2 s12 (r18, s17) h16 _) lk_RX4_121 ⟨by decide, by decide⟩ rv_46 rfl hl.1 rfl (Nat.le_of_ble_eq_true rfl) ⟨Nat.le_refl _, Nat.le_refl _⟩ dX4_setPointers_86) (fun H locs Z => ?_)
      obtain ⟨s20, h19, hf⟩ := bv_s hf
      refine goV Z (run_V (As := [.int r13, .int (8 : Int32), .long r18]) (rest := []) X Z (c_X6_put l D h cy row_59 r13 (8 : Int32) r18 s17 s20 h19 _) lk_RX4_125 ⟨by decide, by decide⟩ (rv_RowS row_59) rfl hl.1 rfl (Nat.le_of_ble_eq_true rfl) ⟨Nat.le_refl _, Nat.le_refl _⟩ dX4_setPointers_89) (fun H locs Z => ?_)
      exact b_X4_setPointers_92 X hr hk K9 hK9 x2 x3 s20 _ hf _ _ _ Z (lv_sub hl [3, 4, 5, 6] rfl)

set_option maxRecDepth 100000 in
set_option maxHeartbeats 4000000 in
theorem b_X4_setPointers_9 {p : Program} {l : Launch} {e : Env} {s : State} {m : MethodId} {args : Array Value} {below : List Frame} {meth : Method} {c : Code} {D : va_G} {h : Nat → Nat} {cy : Nat → ClassId} (X : Cx p s m args c D h cy RX4 cX4_setPointers 8) (hr : meth.sig.returnType = none) (hk : meth.locks = false) (x2 : Int32) (x3 : Int32) (σ : St) (y : St) (hf : f_X4_setPointers_9 x2 x3 σ = some y) : ∀ (H : Heap) (locs : List Loc) (ls : Array Slot), Zt D h cy s σ H locs → lv_has ls 8 [(0, .ref (h 53)), (1, .ref (h 46)), (2, .int x2), (3, .int x3)] → W p l e (rmz 3 71) s m args below meth c H locs 0 0 (EV below args s D h cy y) (F0 m 9 ls []) := by
  exact it_W (F := fun K a => f_X4_setPointers_9b K a.1 a.2.1 a.2.2) (P := fun a y => ∀ (H : Heap) (locs : List Loc) (ls : Array Slot), Zt D h cy s a.2.2 H locs → lv_has ls 8 [(0, .ref (h 53)), (1, .ref (h 46)), (2, .int a.1), (3, .int a.2.1)] → W p l e (rmz 3 71) s m args below meth c H locs 0 0 (EV below args s D h cy y) (F0 m 9 ls [])) (fun K hK a y hf => b_X4_setPointers_9b X hr hk K hK (a.1) (a.2.1) (a.2.2) y hf) FU _ y hf

set_option maxRecDepth 100000 in
set_option maxHeartbeats 4000000 in
theorem c_X4_setPointers (l : Launch) (D : va_G) (h : Nat → Nat) (cy : Nat → ClassId) (a2 : Int32) (σ : St) (y : St) (hf : f_X4_setPointers a2 σ = some y) : CV l yX4_setPointers cX4_setPointers 8 none 3 71 D h cy [.ref (h 53), .ref (h 46), .int a2] σ y := by
  refine ent (Qc := fun sz => QV D h cy sz y) (by decide) (Nat.le_of_ble_eq_true rfl) ?_
  intro p e s m below meth c ls X Z hr hk hl
  have X : Cx p s m _ c D h cy RX4 cX4_setPointers 8 := X
  have hx := X.x
  have hb := X.b
  have hl : lv_has ls 8 [(0, .ref (h 53)), (1, .ref (h 46)), (2, .int a2)] := hl
  unfold f_X4_setPointers at hf
  refine lv_aload_n hx hb dX4_setPointers_0 rfl (lv_at hl 0 rfl) ?_
  refine gf_RX4_30 X Z dX4_setPointers_1 ?_
  obtain ⟨s2, h1, hf⟩ := bv_s hf
  refine goV Z (run_V (As := []) (rest := []) X Z (c_X9_clear l D h cy vis_61 σ s2 h1 _) lk_RX4_104 ⟨by decide, by decide⟩ (rv_VisS vis_61) rfl hl.1 rfl (Nat.le_of_ble_eq_true rfl) ⟨Nat.le_refl _, Nat.le_refl _⟩ dX4_setPointers_4) (fun H locs Z => ?_)
  refine lv_iconst (v := 0) hx hb dX4_setPointers_7 (by decide) ?_
  refine lv_topi (fun v3 ev3 => ?_)
  have hf := zn_e ev3 hf
  refine lv_istore_n (lv' := [(3, .int v3), (0, .ref (h 53)), (1, .ref (h 46)), (2, .int a2)]) hx hb dX4_setPointers_8 rfl hl (by decide) rfl (fun ls hl => ?_)
  exact b_X4_setPointers_9 X hr hk a2 v3 s2 _ hf _ _ _ Z (lv_sub hl [1, 2, 3, 0] rfl)

set_option maxRecDepth 100000 in
set_option maxHeartbeats 4000000 in
theorem b_X4_symbolAddress_2b {p : Program} {l : Launch} {e : Env} {s : State} {m : MethodId} {args : Array Value} {below : List Frame} {meth : Method} {c : Code} {D : va_G} {h : Nat → Nat} {cy : Nat → ClassId} (X : Cx p s m args c D h cy RX4 cX4_symbolAddress 3) (hr : meth.sig.returnType = some .int) (hk : meth.locks = false) {k1 n1 : Nat} (hR1 : RowS k1 n1) (K2 : (Int32 × St) → Option (Int32 × St)) (hK2 : ∀ (a : Int32 × St) (y : Int32 × St), K2 a = some y → ∀ (H : Heap) (locs : List Loc) (ls : Array Slot), Zt D h cy s a.2 H locs → lv_has ls 3 [(0, .ref (h 53)), (1, .ref (h k1)), (2, .int a.1)] → W p l e (rmz 2 46) s m args below meth c H locs 0 0 (EI below args s D h cy y) (F0 m 2 ls [])) (x2 : Int32) (σ : St) (y : Int32 × St) (hf : f_X4_symbolAddress_2b k1 n1 K2 x2 σ = some y) : ∀ (H : Heap) (locs : List Loc) (ls : Array Slot), Zt D h cy s σ H locs → lv_has ls 3 [(0, .ref (h 53)), (1, .ref (h k1)), (2, .int x2)] → W p l e (rmz 2 46) s m args below meth c H locs 0 0 (EI below args s D h cy y) (F0 m 2 ls []) := by
  intro H locs ls Z hl
  have hx := X.x
  have hb := X.b
  unfold f_X4_symbolAddress_2b at hf
  refine lv_iload_n hx hb dX4_symbolAddress_2 rfl (lv_at hl 2 rfl) ?_
  refine lv_aload_n hx hb dX4_symbolAddress_3 rfl (lv_at hl 0 rfl) ?_
  refine gf_RX4_44 X Z dX4_symbolAddress_4 ?_
  refine lv_icmp_ge (tgt := 48) hx hb dX4_symbolAddress_7 (by decide) (fun c2 => ?_) (fun c2 => ?_)
  · have hf := itp c2 hf
    refine lv_iconst (v := (-1)) hx hb dX4_symbolAddress_48 (by decide) ?_
    exact retI X hr hk Z hf dX4_symbolAddress_49
  · have hf := itn c2 hf
    refine lv_aload_n hx hb dX4_symbolAddress_10 rfl (lv_at hl 0 rfl) ?_
    refine gf_RX4_34 X Z dX4_symbolAddress_11 ?_
    refine lv_aload_n hx hb dX4_symbolAddress_14 rfl (lv_at hl 0 rfl) ?_
    refine gf_RX4_37 X Z dX4_symbolAddress_15 ?_
    refine lv_iload_n hx hb dX4_symbolAddress_18 rfl (lv_at hl 2 rfl) ?_
    obtain ⟨g3, hf⟩ := gd_s hf
    refine x_iald (k := 66) X Z sh_66 g3 dX4_symbolAddress_19 ?_
    refine lv_aload_n hx hb dX4_symbolAddress_20 rfl (lv_at hl 1 rfl) ?_
    refine gf_RX4_58 X Z hR1 dX4_symbolAddress_21 ?_
    refine lv_iconst (v := 0) hx hb dX4_symbolAddress_24 (by decide) ?_
    refine lv_aload_n hx hb dX4_symbolAddress_25 rfl (lv_at hl 1 rfl) ?_
    refine gf_RX4_89 X Z hR1 dX4_symbolAddress_26 ?_
    obtain ⟨r6, s5, h4, hf⟩ := bi_s hf
    refine goI Z (run_V (As := [.int (σ.1 66 x2.toNatClampNeg), .ref (h (k1 + 1)), .int (0 : Int32), .int (σ.1 k1 1)]) (rest := []) X Z (c_X6_reads l D h cy row_64 hR1.2 (σ.1 66 x2.toNatClampNeg) (0 : Int32) (σ.1 k1 1) σ (r6, s5) h4 _) lk_RX4_129 ⟨by decide, by decide⟩ (rv_RowS row_64) rfl hl.1 rfl (Nat.le_of_ble_eq_true rfl) ⟨Nat.le_refl _, Nat.le_refl _⟩ dX4_symbolAddress_29) (fun H locs Z => ?_)
    refine lv_if_eq (tgt := 42) hx hb dX4_symbolAddress_32 (by decide) (fun c7 => ?_) (fun c7 => ?_)
    · have hf := itp c7 hf
      obtain ⟨v8, ev8⟩ : ∃ z : Int32, z = x2 + 1 := ⟨_, rfl⟩
      have hf := zn_e ev8 hf
      refine lv_iinc (v := v8) (lv' := [(2, .int v8), (0, .ref (h 53)), (1, .ref (h k1))]) hx hb dX4_symbolAddress_42 hl (k := 2) rfl (by rw [ev8]; rfl) (by decide) rfl (fun ls hl => ?_)
      refine lv_goto (tgt := 2) hx hb dX4_symbolAddress_45 (by decide) ?_
      exact hK2 (v8, s5) _ hf _ _ _ Z (lv_sub hl [1, 2, 0] rfl)
    · have hf := itn c7 hf
      refine lv_aload_n hx hb dX4_symbolAddress_35 rfl (lv_at hl 0 rfl) ?_
      refine gf_RX4_41 X Z dX4_symbolAddress_36 ?_
      refine lv_iload_n hx hb dX4_symbolAddress_39 rfl (lv_at hl 2 rfl) ?_
      obtain ⟨g9, hf⟩ := gd_s hf
      refine x_iald (k := 67) X Z sh_67 g9 dX4_symbolAddress_40 ?_
      exact retI X hr hk Z hf dX4_symbolAddress_41

set_option maxRecDepth 100000 in
set_option maxHeartbeats 4000000 in
theorem b_X4_symbolAddress_2 {p : Program} {l : Launch} {e : Env} {s : State} {m : MethodId} {args : Array Value} {below : List Frame} {meth : Method} {c : Code} {D : va_G} {h : Nat → Nat} {cy : Nat → ClassId} (X : Cx p s m args c D h cy RX4 cX4_symbolAddress 3) (hr : meth.sig.returnType = some .int) (hk : meth.locks = false) {k1 n1 : Nat} (hR1 : RowS k1 n1) (x2 : Int32) (σ : St) (y : Int32 × St) (hf : f_X4_symbolAddress_2 k1 n1 x2 σ = some y) : ∀ (H : Heap) (locs : List Loc) (ls : Array Slot), Zt D h cy s σ H locs → lv_has ls 3 [(0, .ref (h 53)), (1, .ref (h k1)), (2, .int x2)] → W p l e (rmz 2 46) s m args below meth c H locs 0 0 (EI below args s D h cy y) (F0 m 2 ls []) := by
  exact it_W (F := fun K a => f_X4_symbolAddress_2b k1 n1 K a.1 a.2) (P := fun a y => ∀ (H : Heap) (locs : List Loc) (ls : Array Slot), Zt D h cy s a.2 H locs → lv_has ls 3 [(0, .ref (h 53)), (1, .ref (h k1)), (2, .int a.1)] → W p l e (rmz 2 46) s m args below meth c H locs 0 0 (EI below args s D h cy y) (F0 m 2 ls [])) (fun K hK a y hf => b_X4_symbolAddress_2b X hr hk hR1 K hK (a.1) (a.2) y hf) FU _ y hf

set_option maxRecDepth 100000 in
set_option maxHeartbeats 4000000 in
theorem c_X4_symbolAddress (l : Launch) (D : va_G) (h : Nat → Nat) (cy : Nat → ClassId) {k1 n1 : Nat} (hR1 : RowS k1 n1) (σ : St) (y : Int32 × St) (hf : f_X4_symbolAddress k1 n1 σ = some y) : CI l yX4_symbolAddress cX4_symbolAddress 3 (some .int) 2 46 D h cy [.ref (h 53), .ref (h k1)] σ y := by
  refine ent (Qc := fun sz => QI D h cy sz y) (by decide) (Nat.le_of_ble_eq_true rfl) ?_
  intro p e s m below meth c ls X Z hr hk hl
  have X : Cx p s m _ c D h cy RX4 cX4_symbolAddress 3 := X
  have hx := X.x
  have hb := X.b
  have hl : lv_has ls 3 [(0, .ref (h 53)), (1, .ref (h k1))] := hl
  unfold f_X4_symbolAddress at hf
  refine lv_iconst (v := 0) hx hb dX4_symbolAddress_0 (by decide) ?_
  refine lv_topi (fun v1 ev1 => ?_)
  have hf := zn_e ev1 hf
  refine lv_istore_n (lv' := [(2, .int v1), (0, .ref (h 53)), (1, .ref (h k1))]) hx hb dX4_symbolAddress_1 rfl hl (by decide) rfl (fun ls hl => ?_)
  exact b_X4_symbolAddress_2 X hr hk hR1 v1 σ _ hf _ _ _ Z (lv_sub hl [1, 2, 0] rfl)

set_option maxRecDepth 100000 in
set_option maxHeartbeats 4000000 in
theorem c_X5_clear (l : Launch) (D : va_G) (h : Nat → Nat) (cy : Nat → ClassId) {k0 b0 n0 : Nat} (hR0 : NamesS k0 b0 n0) (σ : St) (y : St) (hf : f_X5_clear k0 b0 n0 σ = some y) : CV l yX5_clear cX5_clear 1 none 0 0 D h cy [.ref (h k0)] σ y := by
  refine ent (Qc := fun sz => QV D h cy sz y) (by decide) (Nat.le_of_ble_eq_true rfl) ?_
  intro p e s m below meth c ls X Z hr hk hl
  have X : Cx p s m _ c D h cy RX5 cX5_clear 1 := X
  have hx := X.x
  have hb := X.b
  have hl : lv_has ls 1 [(0, .ref (h k0))] := hl
  unfold f_X5_clear at hf
  refine lv_aload_n hx hb dX5_clear_0 rfl (lv_at hl 0 rfl) ?_
  refine lv_iconst (v := 0) hx hb dX5_clear_1 (by decide) ?_
  refine pf_RX5_19 X Z hR0 dX5_clear_2 (fun s1 H locs es1 Z => ?_)
  have hf := zn_e es1 hf
  exact retV X hr hk Z hf dX5_clear_5

set_option maxRecDepth 100000 in
set_option maxHeartbeats 4000000 in
theorem c_X5_has (l : Launch) (D : va_G) (h : Nat → Nat) (cy : Nat → ClassId) {k0 b0 n0 : Nat} (hR0 : NamesS k0 b0 n0) (a1 : Int32) (σ : St) (y : Int32 × St) (hf : f_X5_has k0 b0 n0 a1 σ = some y) : CI l yX5_has cX5_has 2 (some .boolean) 0 0 D h cy [.ref (h k0), .int a1] σ y := by
  refine ent (Qc := fun sz => QI D h cy sz y) (by decide) (Nat.le_of_ble_eq_true rfl) ?_
  intro p e s m below meth c ls X Z hr hk hl
  have X : Cx p s m _ c D h cy RX5 cX5_has 2 := X
  have hx := X.x
  have hb := X.b
  have hl : lv_has ls 2 [(0, .ref (h k0)), (1, .int a1)] := hl
  unfold f_X5_has at hf
  refine lv_iload_n hx hb dX5_has_0 rfl (lv_at hl 1 rfl) ?_
  refine lv_if_lt (tgt := 16) hx hb dX5_has_1 (by decide) (fun c1 => ?_) (fun c1 => ?_)
  · have hf := itp c1 hf
    refine lv_iconst (v := 0) hx hb dX5_has_16 (by decide) ?_
    exact retZ X hr hk Z (by decide) hf dX5_has_17
  · have hf := itn c1 hf
    refine lv_iload_n hx hb dX5_has_4 rfl (lv_at hl 1 rfl) ?_
    refine lv_aload_n hx hb dX5_has_5 rfl (lv_at hl 0 rfl) ?_
    refine gf_RX5_19 X Z hR0 dX5_has_6 ?_
    refine lv_icmp_ge (tgt := 16) hx hb dX5_has_9 (by decide) (fun c2 => ?_) (fun c2 => ?_)
    · have hf := itp c2 hf
      refine lv_iconst (v := 0) hx hb dX5_has_16 (by decide) ?_
      exact retZ X hr hk Z (by decide) hf dX5_has_17
    · have hf := itn c2 hf
      refine lv_iconst (v := 1) hx hb dX5_has_12 (by decide) ?_
      refine lv_goto (tgt := 17) hx hb dX5_has_13 (by decide) ?_
      exact retZ X hr hk Z (by decide) hf dX5_has_17

set_option maxRecDepth 100000 in
set_option maxHeartbeats 4000000 in
theorem c_X5_takes (l : Launch) (D : va_G) (h : Nat → Nat) (cy : Nat → ClassId) {k0 b0 n0 : Nat} {k1 n1 : Nat} (hR0 : NamesS k0 b0 n0) (hR1 : RowS k1 n1) (σ : St) (y : Int32 × St) (hf : f_X5_takes k0 b0 n0 k1 n1 σ = some y) : CI l yX5_takes cX5_takes 2 (some .boolean) 1 21 D h cy [.ref (h k0), .ref (h k1)] σ y := by
  refine ent (Qc := fun sz => QI D h cy sz y) (by decide) (Nat.le_of_ble_eq_true rfl) ?_
  intro p e s m below meth c ls X Z hr hk hl
  have X : Cx p s m _ c D h cy RX5 cX5_takes 2 := X
  have hx := X.x
  have hb := X.b
  have hl : lv_has ls 2 [(0, .ref (h k0)), (1, .ref (h k1))] := hl
  unfold f_X5_takes at hf
  refine lv_aload_n hx hb dX5_takes_0 rfl (lv_at hl 0 rfl) ?_
  refine gf_RX5_19 X Z hR0 dX5_takes_1 ?_
  refine lv_aload_n hx hb dX5_takes_4 rfl (lv_at hl 0 rfl) ?_
  refine gf_RX5_15 X Z hR0 dX5_takes_5 ?_
  refine x_ilen (k := (k0 + 2)) X Z hR0.2.2 dX5_takes_8 ?_
  refine lv_icmp_ge (tgt := 23) hx hb dX5_takes_9 (by decide) (fun c1 => ?_) (fun c1 => ?_)
  · have hf := itp c1 hf
    refine lv_iconst (v := 0) hx hb dX5_takes_23 (by decide) ?_
    exact retZ X hr hk Z (by decide) hf dX5_takes_24
  · have hf := itn c1 hf
    refine lv_aload_n hx hb dX5_takes_12 rfl (lv_at hl 1 rfl) ?_
    obtain ⟨r4, s3, h2, hf⟩ := bi_s hf
    refine goI Z (run_V (As := []) (rest := []) X Z (c_X6_isName l D h cy hR1 σ (r4, s3) h2 _) lk_RX5_23 ⟨by decide, by decide⟩ (rv_RowS hR1) rfl hl.1 rfl (Nat.le_of_ble_eq_true rfl) ⟨Nat.le_refl _, Nat.le_refl _⟩ dX5_takes_13) (fun H locs Z => ?_)
    refine lv_if_eq (tgt := 23) hx hb dX5_takes_16 (by decide) (fun c5 => ?_) (fun c5 => ?_)
    · have hf := itp c5 hf
      refine lv_iconst (v := 0) hx hb dX5_takes_23 (by decide) ?_
      exact retZ X hr hk Z (by decide) hf dX5_takes_24
    · have hf := itn c5 hf
      refine lv_iconst (v := 1) hx hb dX5_takes_19 (by decide) ?_
      refine lv_goto (tgt := 24) hx hb dX5_takes_20 (by decide) ?_
      exact retZ X hr hk Z (by decide) hf dX5_takes_24

set_option maxRecDepth 100000 in
set_option maxHeartbeats 4000000 in
theorem b_X5_bytesWithZeros_4b {p : Program} {l : Launch} {e : Env} {s : State} {m : MethodId} {args : Array Value} {below : List Frame} {meth : Method} {c : Code} {D : va_G} {h : Nat → Nat} {cy : Nat → ClassId} (X : Cx p s m args c D h cy RX5 cX5_bytesWithZeros 3) (hr : meth.sig.returnType = some .int) (hk : meth.locks = false) {k0 b0 n0 : Nat} (hR0 : NamesS k0 b0 n0) (K4 : (Int32 × Int32 × St) → Option (Int32 × St)) (hK4 : ∀ (a : Int32 × Int32 × St) (y : Int32 × St), K4 a = some y → ∀ (H : Heap) (locs : List Loc) (ls : Array Slot), Zt D h cy s a.2.2 H locs → lv_has ls 3 [(0, .ref (h k0)), (1, .int a.1), (2, .int a.2.1)] → W p l e (rmz 0 0) s m args below meth c H locs 0 0 (EI below args s D h cy y) (F0 m 4 ls [])) (x1 : Int32) (x2 : Int32) (σ : St) (y : Int32 × St) (hf : f_X5_bytesWithZeros_4b k0 b0 n0 K4 x1 x2 σ = some y) : ∀ (H : Heap) (locs : List Loc) (ls : Array Slot), Zt D h cy s σ H locs → lv_has ls 3 [(0, .ref (h k0)), (1, .int x1), (2, .int x2)] → W p l e (rmz 0 0) s m args below meth c H locs 0 0 (EI below args s D h cy y) (F0 m 4 ls []) := by
  intro H locs ls Z hl
  have hx := X.x
  have hb := X.b
  unfold f_X5_bytesWithZeros_4b at hf
  refine lv_iload_n hx hb dX5_bytesWithZeros_4 rfl (lv_at hl 2 rfl) ?_
  refine lv_aload_n hx hb dX5_bytesWithZeros_5 rfl (lv_at hl 0 rfl) ?_
  refine gf_RX5_19 X Z hR0 dX5_bytesWithZeros_6 ?_
  refine lv_icmp_ge (tgt := 29) hx hb dX5_bytesWithZeros_9 (by decide) (fun c3 => ?_) (fun c3 => ?_)
  · have hf := itp c3 hf
    refine lv_iload_n hx hb dX5_bytesWithZeros_29 rfl (lv_at hl 1 rfl) ?_
    exact retI X hr hk Z hf dX5_bytesWithZeros_30
  · have hf := itn c3 hf
    refine lv_iload_n hx hb dX5_bytesWithZeros_12 rfl (lv_at hl 1 rfl) ?_
    refine lv_aload_n hx hb dX5_bytesWithZeros_13 rfl (lv_at hl 0 rfl) ?_
    refine gf_RX5_15 X Z hR0 dX5_bytesWithZeros_14 ?_
    refine lv_iload_n hx hb dX5_bytesWithZeros_17 rfl (lv_at hl 2 rfl) ?_
    obtain ⟨g4, hf⟩ := gd_s hf
    refine x_iald (k := (k0 + 2)) X Z hR0.2.2 g4 dX5_bytesWithZeros_18 ?_
    refine lv_iconst (v := 1) hx hb dX5_bytesWithZeros_19 (by decide) ?_
    refine lv_iadd hx hb dX5_bytesWithZeros_20 ?_
    refine lv_iadd hx hb dX5_bytesWithZeros_21 ?_
    refine lv_topi (fun v5 ev5 => ?_)
    have hf := zn_e ev5 hf
    refine lv_istore_n (lv' := [(1, .int v5), (0, .ref (h k0)), (2, .int x2)]) hx hb dX5_bytesWithZeros_22 rfl hl (by decide) rfl (fun ls hl => ?_)
    obtain ⟨v6, ev6⟩ : ∃ z : Int32, z = x2 + 1 := ⟨_, rfl⟩
    have hf := zn_e ev6 hf
    refine lv_iinc (v := v6) (lv' := [(2, .int v6), (1, .int v5), (0, .ref (h k0))]) hx hb dX5_bytesWithZeros_23 hl (k := 2) rfl (by rw [ev6]; rfl) (by decide) rfl (fun ls hl => ?_)
    refine lv_goto (tgt := 4) hx hb dX5_bytesWithZeros_26 (by decide) ?_
    exact hK4 (v5, v6, σ) _ hf _ _ _ Z (lv_sub hl [2, 1, 0] rfl)

set_option maxRecDepth 100000 in
set_option maxHeartbeats 4000000 in
theorem b_X5_bytesWithZeros_4 {p : Program} {l : Launch} {e : Env} {s : State} {m : MethodId} {args : Array Value} {below : List Frame} {meth : Method} {c : Code} {D : va_G} {h : Nat → Nat} {cy : Nat → ClassId} (X : Cx p s m args c D h cy RX5 cX5_bytesWithZeros 3) (hr : meth.sig.returnType = some .int) (hk : meth.locks = false) {k0 b0 n0 : Nat} (hR0 : NamesS k0 b0 n0) (x1 : Int32) (x2 : Int32) (σ : St) (y : Int32 × St) (hf : f_X5_bytesWithZeros_4 k0 b0 n0 x1 x2 σ = some y) : ∀ (H : Heap) (locs : List Loc) (ls : Array Slot), Zt D h cy s σ H locs → lv_has ls 3 [(0, .ref (h k0)), (1, .int x1), (2, .int x2)] → W p l e (rmz 0 0) s m args below meth c H locs 0 0 (EI below args s D h cy y) (F0 m 4 ls []) := by
  exact it_W (F := fun K a => f_X5_bytesWithZeros_4b k0 b0 n0 K a.1 a.2.1 a.2.2) (P := fun a y => ∀ (H : Heap) (locs : List Loc) (ls : Array Slot), Zt D h cy s a.2.2 H locs → lv_has ls 3 [(0, .ref (h k0)), (1, .int a.1), (2, .int a.2.1)] → W p l e (rmz 0 0) s m args below meth c H locs 0 0 (EI below args s D h cy y) (F0 m 4 ls [])) (fun K hK a y hf => b_X5_bytesWithZeros_4b X hr hk hR0 K hK (a.1) (a.2.1) (a.2.2) y hf) FU _ y hf

set_option maxRecDepth 100000 in
set_option maxHeartbeats 4000000 in
theorem c_X5_bytesWithZeros (l : Launch) (D : va_G) (h : Nat → Nat) (cy : Nat → ClassId) {k0 b0 n0 : Nat} (hR0 : NamesS k0 b0 n0) (σ : St) (y : Int32 × St) (hf : f_X5_bytesWithZeros k0 b0 n0 σ = some y) : CI l yX5_bytesWithZeros cX5_bytesWithZeros 3 (some .int) 0 0 D h cy [.ref (h k0)] σ y := by
  refine ent (Qc := fun sz => QI D h cy sz y) (by decide) (Nat.le_of_ble_eq_true rfl) ?_
  intro p e s m below meth c ls X Z hr hk hl
  have X : Cx p s m _ c D h cy RX5 cX5_bytesWithZeros 3 := X
  have hx := X.x
  have hb := X.b
  have hl : lv_has ls 3 [(0, .ref (h k0))] := hl
  unfold f_X5_bytesWithZeros at hf
  refine lv_iconst (v := 0) hx hb dX5_bytesWithZeros_0 (by decide) ?_
  refine lv_topi (fun v1 ev1 => ?_)
  have hf := zn_e ev1 hf
  refine lv_istore_n (lv' := [(1, .int v1), (0, .ref (h k0))]) hx hb dX5_bytesWithZeros_1 rfl hl (by decide) rfl (fun ls hl => ?_)
  refine lv_iconst (v := 0) hx hb dX5_bytesWithZeros_2 (by decide) ?_
  refine lv_topi (fun v2 ev2 => ?_)
  have hf := zn_e ev2 hf
  refine lv_istore_n (lv' := [(2, .int v2), (1, .int v1), (0, .ref (h k0))]) hx hb dX5_bytesWithZeros_3 rfl hl (by decide) rfl (fun ls hl => ?_)
  exact b_X5_bytesWithZeros_4 X hr hk hR0 v1 v2 σ _ hf _ _ _ Z (lv_sub hl [2, 1, 0] rfl)

set_option maxRecDepth 100000 in
set_option maxHeartbeats 4000000 in
theorem c_X5_addFilledTo (l : Launch) (D : va_G) (h : Nat → Nat) (cy : Nat → ClassId) {k0 b0 n0 : Nat} {k1 n1 : Nat} (hR0 : NamesS k0 b0 n0) (hR1 : RowS k1 n1) (a2 : Int32) (σ : St) (y : St) (hf : f_X5_addFilledTo k0 b0 n0 k1 n1 a2 σ = some y) : CV l yX5_addFilledTo cX5_addFilledTo 3 none 2 83 D h cy [.ref (h k0), .ref (h k1), .int a2] σ y := by
  refine ent (Qc := fun sz => QV D h cy sz y) (by decide) (Nat.le_of_ble_eq_true rfl) ?_
  intro p e s m below meth c ls X Z hr hk hl
  have X : Cx p s m _ c D h cy RX5 cX5_addFilledTo 3 := X
  have hx := X.x
  have hb := X.b
  have hl : lv_has ls 3 [(0, .ref (h k0)), (1, .ref (h k1)), (2, .int a2)] := hl
  unfold f_X5_addFilledTo at hf
  refine lv_aload_n hx hb dX5_addFilledTo_0 rfl (lv_at hl 1 rfl) ?_
  refine lv_aload_n hx hb dX5_addFilledTo_1 rfl (lv_at hl 0 rfl) ?_
  refine gf_RX5_9 X Z hR0 dX5_addFilledTo_2 ?_
  refine lv_iload_n hx hb dX5_addFilledTo_5 rfl (lv_at hl 2 rfl) ?_
  refine lv_bipush (v := 16) hx hb dX5_addFilledTo_6 (by decide) ?_
  refine lv_imul hx hb dX5_addFilledTo_8 ?_
  refine lv_bipush (v := 16) hx hb dX5_addFilledTo_9 (by decide) ?_
  obtain ⟨s2, h1, hf⟩ := bv_s hf
  refine goV Z (run_V (As := [.ref (h (k0 + 1)), .int ((a2 * (16 : Int32))), .int (16 : Int32)]) (rest := []) X Z (c_X6_addFrom l D h cy hR1 hR0.2.1 ((a2 * (16 : Int32))) (16 : Int32) σ s2 h1 _) lk_RX5_36 ⟨by decide, by decide⟩ (rv_RowS hR1) rfl hl.1 rfl (Nat.le_of_ble_eq_true rfl) ⟨Nat.le_refl _, Nat.le_refl _⟩ dX5_addFilledTo_11) (fun H locs Z => ?_)
  exact retV X hr hk Z hf dX5_addFilledTo_14

set_option maxRecDepth 100000 in
set_option maxHeartbeats 4000000 in
theorem b_X5_addAllTo_2b {p : Program} {l : Launch} {e : Env} {s : State} {m : MethodId} {args : Array Value} {below : List Frame} {meth : Method} {c : Code} {D : va_G} {h : Nat → Nat} {cy : Nat → ClassId} (X : Cx p s m args c D h cy RX5 cX5_addAllTo 3) (hr : meth.sig.returnType = none) (hk : meth.locks = false) {k0 b0 n0 : Nat} {k1 n1 : Nat} (hR0 : NamesS k0 b0 n0) (hR1 : RowS k1 n1) (K2 : (Int32 × St) → Option (St)) (hK2 : ∀ (a : Int32 × St) (y : St), K2 a = some y → ∀ (H : Heap) (locs : List Loc) (ls : Array Slot), Zt D h cy s a.2 H locs → lv_has ls 3 [(0, .ref (h k0)), (1, .ref (h k1)), (2, .int a.1)] → W p l e (rmz 3 83) s m args below meth c H locs 0 0 (EV below args s D h cy y) (F0 m 2 ls [])) (x2 : Int32) (σ : St) (y : St) (hf : f_X5_addAllTo_2b k0 b0 n0 k1 n1 K2 x2 σ = some y) : ∀ (H : Heap) (locs : List Loc) (ls : Array Slot), Zt D h cy s σ H locs → lv_has ls 3 [(0, .ref (h k0)), (1, .ref (h k1)), (2, .int x2)] → W p l e (rmz 3 83) s m args below meth c H locs 0 0 (EV below args s D h cy y) (F0 m 2 ls []) := by
  intro H locs ls Z hl
  have hx := X.x
  have hb := X.b
  unfold f_X5_addAllTo_2b at hf
  refine lv_iload_n hx hb dX5_addAllTo_2 rfl (lv_at hl 2 rfl) ?_
  refine lv_aload_n hx hb dX5_addAllTo_3 rfl (lv_at hl 0 rfl) ?_
  refine gf_RX5_19 X Z hR0 dX5_addAllTo_4 ?_
  refine lv_icmp_ge (tgt := 39) hx hb dX5_addAllTo_7 (by decide) (fun c2 => ?_) (fun c2 => ?_)
  · have hf := itp c2 hf
    exact retV X hr hk Z hf dX5_addAllTo_39
  · have hf := itn c2 hf
    refine lv_aload_n hx hb dX5_addAllTo_10 rfl (lv_at hl 1 rfl) ?_
    refine lv_aload_n hx hb dX5_addAllTo_11 rfl (lv_at hl 0 rfl) ?_
    refine gf_RX5_9 X Z hR0 dX5_addAllTo_12 ?_
    refine lv_iload_n hx hb dX5_addAllTo_15 rfl (lv_at hl 2 rfl) ?_
    refine lv_bipush (v := 16) hx hb dX5_addAllTo_16 (by decide) ?_
    refine lv_imul hx hb dX5_addAllTo_18 ?_
    refine lv_aload_n hx hb dX5_addAllTo_19 rfl (lv_at hl 0 rfl) ?_
    refine gf_RX5_15 X Z hR0 dX5_addAllTo_20 ?_
    refine lv_iload_n hx hb dX5_addAllTo_23 rfl (lv_at hl 2 rfl) ?_
    obtain ⟨g3, hf⟩ := gd_s hf
    refine x_iald (k := (k0 + 2)) X Z hR0.2.2 g3 dX5_addAllTo_24 ?_
    obtain ⟨s5, h4, hf⟩ := bv_s hf
    refine goV Z (run_V (As := [.ref (h (k0 + 1)), .int ((x2 * (16 : Int32))), .int ((σ.1 (k0 + 2) x2.toNatClampNeg))]) (rest := []) X Z (c_X6_addFrom l D h cy hR1 hR0.2.1 ((x2 * (16 : Int32))) ((σ.1 (k0 + 2) x2.toNatClampNeg)) σ s5 h4 _) lk_RX5_36 ⟨by decide, by decide⟩ (rv_RowS hR1) rfl hl.1 rfl (Nat.le_of_ble_eq_true rfl) ⟨Nat.le_refl _, Nat.le_refl _⟩ dX5_addAllTo_25) (fun H locs Z => ?_)
    refine lv_aload_n hx hb dX5_addAllTo_28 rfl (lv_at hl 1 rfl) ?_
    refine lv_iconst (v := 1) hx hb dX5_addAllTo_29 (by decide) ?_
    obtain ⟨s7, h6, hf⟩ := bv_s hf
    refine goV Z (run_V (As := [.int (1 : Int32)]) (rest := []) X Z (c_X6_addZeros l D h cy hR1 (1 : Int32) s5 s7 h6 _) lk_RX5_40 ⟨by decide, by decide⟩ (rv_RowS hR1) rfl hl.1 rfl (Nat.le_of_ble_eq_true rfl) ⟨Nat.le_refl _, Nat.le_refl _⟩ dX5_addAllTo_30) (fun H locs Z => ?_)
    obtain ⟨v8, ev8⟩ : ∃ z : Int32, z = x2 + 1 := ⟨_, rfl⟩
    have hf := zn_e ev8 hf
    refine lv_iinc (v := v8) (lv' := [(2, .int v8), (0, .ref (h k0)), (1, .ref (h k1))]) hx hb dX5_addAllTo_33 hl (k := 2) rfl (by rw [ev8]; rfl) (by decide) rfl (fun ls hl => ?_)
    refine lv_goto (tgt := 2) hx hb dX5_addAllTo_36 (by decide) ?_
    exact hK2 (v8, s7) _ hf _ _ _ Z (lv_sub hl [1, 2, 0] rfl)

set_option maxRecDepth 100000 in
set_option maxHeartbeats 4000000 in
theorem b_X5_addAllTo_2 {p : Program} {l : Launch} {e : Env} {s : State} {m : MethodId} {args : Array Value} {below : List Frame} {meth : Method} {c : Code} {D : va_G} {h : Nat → Nat} {cy : Nat → ClassId} (X : Cx p s m args c D h cy RX5 cX5_addAllTo 3) (hr : meth.sig.returnType = none) (hk : meth.locks = false) {k0 b0 n0 : Nat} {k1 n1 : Nat} (hR0 : NamesS k0 b0 n0) (hR1 : RowS k1 n1) (x2 : Int32) (σ : St) (y : St) (hf : f_X5_addAllTo_2 k0 b0 n0 k1 n1 x2 σ = some y) : ∀ (H : Heap) (locs : List Loc) (ls : Array Slot), Zt D h cy s σ H locs → lv_has ls 3 [(0, .ref (h k0)), (1, .ref (h k1)), (2, .int x2)] → W p l e (rmz 3 83) s m args below meth c H locs 0 0 (EV below args s D h cy y) (F0 m 2 ls []) := by
  exact it_W (F := fun K a => f_X5_addAllTo_2b k0 b0 n0 k1 n1 K a.1 a.2) (P := fun a y => ∀ (H : Heap) (locs : List Loc) (ls : Array Slot), Zt D h cy s a.2 H locs → lv_has ls 3 [(0, .ref (h k0)), (1, .ref (h k1)), (2, .int a.1)] → W p l e (rmz 3 83) s m args below meth c H locs 0 0 (EV below args s D h cy y) (F0 m 2 ls [])) (fun K hK a y hf => b_X5_addAllTo_2b X hr hk hR0 hR1 K hK (a.1) (a.2) y hf) FU _ y hf

set_option maxRecDepth 100000 in
set_option maxHeartbeats 4000000 in
theorem c_X5_addAllTo (l : Launch) (D : va_G) (h : Nat → Nat) (cy : Nat → ClassId) {k0 b0 n0 : Nat} {k1 n1 : Nat} (hR0 : NamesS k0 b0 n0) (hR1 : RowS k1 n1) (σ : St) (y : St) (hf : f_X5_addAllTo k0 b0 n0 k1 n1 σ = some y) : CV l yX5_addAllTo cX5_addAllTo 3 none 3 83 D h cy [.ref (h k0), .ref (h k1)] σ y := by
  refine ent (Qc := fun sz => QV D h cy sz y) (by decide) (Nat.le_of_ble_eq_true rfl) ?_
  intro p e s m below meth c ls X Z hr hk hl
  have X : Cx p s m _ c D h cy RX5 cX5_addAllTo 3 := X
  have hx := X.x
  have hb := X.b
  have hl : lv_has ls 3 [(0, .ref (h k0)), (1, .ref (h k1))] := hl
  unfold f_X5_addAllTo at hf
  refine lv_iconst (v := 0) hx hb dX5_addAllTo_0 (by decide) ?_
  refine lv_topi (fun v1 ev1 => ?_)
  have hf := zn_e ev1 hf
  refine lv_istore_n (lv' := [(2, .int v1), (0, .ref (h k0)), (1, .ref (h k1))]) hx hb dX5_addAllTo_1 rfl hl (by decide) rfl (fun ls hl => ?_)
  exact b_X5_addAllTo_2 X hr hk hR0 hR1 v1 σ _ hf _ _ _ Z (lv_sub hl [1, 2, 0] rfl)

set_option maxRecDepth 100000 in
set_option maxHeartbeats 4000000 in
theorem c_X6_shorten (l : Launch) (D : va_G) (h : Nat → Nat) (cy : Nat → ClassId) {k0 n0 : Nat} (hR0 : RowS k0 n0) (a1 : Int32) (σ : St) (y : Int32 × St) (hf : f_X6_shorten k0 n0 a1 σ = some y) : CI l yX6_shorten cX6_shorten 2 (some .boolean) 0 0 D h cy [.ref (h k0), .int a1] σ y := by
  refine ent (Qc := fun sz => QI D h cy sz y) (by decide) (Nat.le_of_ble_eq_true rfl) ?_
  intro p e s m below meth c ls X Z hr hk hl
  have X : Cx p s m _ c D h cy RX6 cX6_shorten 2 := X
  have hx := X.x
  have hb := X.b
  have hl : lv_has ls 2 [(0, .ref (h k0)), (1, .int a1)] := hl
  unfold f_X6_shorten at hf
  refine lv_iload_n hx hb dX6_shorten_0 rfl (lv_at hl 1 rfl) ?_
  refine lv_if_lt (tgt := 12) hx hb dX6_shorten_1 (by decide) (fun c1 => ?_) (fun c1 => ?_)
  · have hf := itp c1 hf
    refine lv_iconst (v := 0) hx hb dX6_shorten_12 (by decide) ?_
    exact retZ X hr hk Z (by decide) hf dX6_shorten_13
  · have hf := itn c1 hf
    refine lv_iload_n hx hb dX6_shorten_4 rfl (lv_at hl 1 rfl) ?_
    refine lv_aload_n hx hb dX6_shorten_5 rfl (lv_at hl 0 rfl) ?_
    refine gf_RX6_15 X Z hR0 dX6_shorten_6 ?_
    refine lv_icmp_le (tgt := 14) hx hb dX6_shorten_9 (by decide) (fun c2 => ?_) (fun c2 => ?_)
    · have hf := itp c2 hf
      refine lv_aload_n hx hb dX6_shorten_14 rfl (lv_at hl 0 rfl) ?_
      refine lv_iload_n hx hb dX6_shorten_15 rfl (lv_at hl 1 rfl) ?_
      refine pf_RX6_15 X Z hR0 dX6_shorten_16 (fun s3 H locs es3 Z => ?_)
      have hf := zn_e es3 hf
      refine lv_iconst (v := 1) hx hb dX6_shorten_19 (by decide) ?_
      exact retZ X hr hk Z (by decide) hf dX6_shorten_20
    · have hf := itn c2 hf
      refine lv_iconst (v := 0) hx hb dX6_shorten_12 (by decide) ?_
      exact retZ X hr hk Z (by decide) hf dX6_shorten_13

set_option maxRecDepth 100000 in
set_option maxHeartbeats 4000000 in
theorem c_X6_add (l : Launch) (D : va_G) (h : Nat → Nat) (cy : Nat → ClassId) {k0 n0 : Nat} (hR0 : RowS k0 n0) (a1 : Int32) (a2 : Int64) (σ : St) (y : St) (hf : f_X6_add k0 n0 a1 a2 σ = some y) : CV l yX6_add cX6_add 4 none 2 46 D h cy [.ref (h k0), .int a1, .long a2] σ y := by
  refine ent (Qc := fun sz => QV D h cy sz y) (by decide) (Nat.le_of_ble_eq_true rfl) ?_
  intro p e s m below meth c ls X Z hr hk hl
  have X : Cx p s m _ c D h cy RX6 cX6_add 4 := X
  have hx := X.x
  have hb := X.b
  have hl : lv_has ls 4 [(0, .ref (h k0)), (1, .int a1), (2, .long a2)] := hl
  unfold f_X6_add at hf
  refine lv_iload_n hx hb dX6_add_0 rfl (lv_at hl 1 rfl) ?_
  refine lv_if_lt (tgt := 40) hx hb dX6_add_1 (by decide) (fun c1 => ?_) (fun c1 => ?_)
  · have hf := itp c1 hf
    exact retV X hr hk Z hf dX6_add_40
  · have hf := itn c1 hf
    refine lv_iload_n hx hb dX6_add_4 rfl (lv_at hl 1 rfl) ?_
    refine lv_aload_n hx hb dX6_add_5 rfl (lv_at hl 0 rfl) ?_
    refine gf_RX6_9 X Z hR0 dX6_add_6 ?_
    refine x_blen (k := (k0 + 1)) X Z hR0.2 dX6_add_9 ?_
    refine lv_aload_n hx hb dX6_add_10 rfl (lv_at hl 0 rfl) ?_
    refine gf_RX6_15 X Z hR0 dX6_add_11 ?_
    refine lv_isub hx hb dX6_add_14 ?_
    refine lv_icmp_gt (tgt := 40) hx hb dX6_add_15 (by decide) (fun c2 => ?_) (fun c2 => ?_)
    · have hf := itp c2 hf
      exact retV X hr hk Z hf dX6_add_40
    · have hf := itn c2 hf
      refine lv_aload_n hx hb dX6_add_18 rfl (lv_at hl 0 rfl) ?_
      refine lv_dup hx hb dX6_add_19 rfl ?_
      refine gf_RX6_15 X Z hR0 dX6_add_20 ?_
      refine lv_iload_n hx hb dX6_add_23 rfl (lv_at hl 1 rfl) ?_
      refine lv_iadd hx hb dX6_add_24 ?_
      refine pf_RX6_15 X Z hR0 dX6_add_25 (fun s3 H locs es3 Z => ?_)
      have hf := zn_e es3 hf
      refine lv_aload_n hx hb dX6_add_28 rfl (lv_at hl 0 rfl) ?_
      refine lv_aload_n hx hb dX6_add_29 rfl (lv_at hl 0 rfl) ?_
      refine gf_RX6_15 X Z hR0 dX6_add_30 ?_
      refine lv_iload_n hx hb dX6_add_33 rfl (lv_at hl 1 rfl) ?_
      refine lv_isub hx hb dX6_add_34 ?_
      refine lv_iload_n hx hb dX6_add_35 rfl (lv_at hl 1 rfl) ?_
      refine lv_lload_n hx hb dX6_add_36 rfl (lv_at hl 2 rfl) ?_
      obtain ⟨s5, h4, hf⟩ := bv_s hf
      refine goV Z (run_V (As := [.int (((s3.1 k0 1) - a1)), .int a1, .long a2]) (rest := []) X Z (c_X6_put l D h cy hR0 (((s3.1 k0 1) - a1)) a1 a2 s3 s5 h4 _) lk_RX6_23 ⟨by decide, by decide⟩ (rv_RowS hR0) rfl hl.1 rfl (Nat.le_of_ble_eq_true rfl) ⟨Nat.le_refl _, Nat.le_refl _⟩ dX6_add_37) (fun H locs Z => ?_)
      exact retV X hr hk Z hf dX6_add_40

set_option maxRecDepth 100000 in
set_option maxHeartbeats 4000000 in
theorem c_X11_filledUp (l : Launch) (D : va_G) (h : Nat → Nat) (cy : Nat → ClassId) (a0 : Int32) (a1 : Int32) (σ : St) (y : Int32 × St) (hf : f_X11_filledUp a0 a1 σ = some y) : CI l yX11_filledUp cX11_filledUp 2 (some .int) 0 0 D h cy [.int a0, .int a1] σ y := by
  refine ent (Qc := fun sz => QI D h cy sz y) (by decide) (Nat.le_of_ble_eq_true rfl) ?_
  intro p e s m below meth c ls X Z hr hk hl
  have X : Cx p s m _ c D h cy RX11 cX11_filledUp 2 := X
  have hx := X.x
  have hb := X.b
  have hl : lv_has ls 2 [(0, .int a0), (1, .int a1)] := hl
  unfold f_X11_filledUp at hf
  refine lv_iload_n hx hb dX11_filledUp_0 rfl (lv_at hl 0 rfl) ?_
  refine lv_iload_n hx hb dX11_filledUp_1 rfl (lv_at hl 1 rfl) ?_
  refine lv_iadd hx hb dX11_filledUp_2 ?_
  refine lv_iconst (v := 1) hx hb dX11_filledUp_3 (by decide) ?_
  refine lv_isub hx hb dX11_filledUp_4 ?_
  refine lv_iload_n hx hb dX11_filledUp_5 rfl (lv_at hl 1 rfl) ?_
  refine lv_ineg hx hb dX11_filledUp_6 ?_
  refine lv_iand hx hb dX11_filledUp_7 ?_
  exact retI X hr hk Z hf dX11_filledUp_8

set_option maxRecDepth 100000 in
set_option maxHeartbeats 4000000 in
theorem c_X6_fillUp (l : Launch) (D : va_G) (h : Nat → Nat) (cy : Nat → ClassId) {k0 n0 : Nat} (hR0 : RowS k0 n0) (a1 : Int32) (σ : St) (y : St) (hf : f_X6_fillUp k0 n0 a1 σ = some y) : CV l yX6_fillUp cX6_fillUp 2 none 3 67 D h cy [.ref (h k0), .int a1] σ y := by
  refine ent (Qc := fun sz => QV D h cy sz y) (by decide) (Nat.le_of_ble_eq_true rfl) ?_
  intro p e s m below meth c ls X Z hr hk hl
  have X : Cx p s m _ c D h cy RX6 cX6_fillUp 2 := X
  have hx := X.x
  have hb := X.b
  have hl : lv_has ls 2 [(0, .ref (h k0)), (1, .int a1)] := hl
  unfold f_X6_fillUp at hf
  refine lv_aload_n hx hb dX6_fillUp_0 rfl (lv_at hl 0 rfl) ?_
  refine lv_aload_n hx hb dX6_fillUp_1 rfl (lv_at hl 0 rfl) ?_
  refine gf_RX6_15 X Z hR0 dX6_fillUp_2 ?_
  refine lv_iload_n hx hb dX6_fillUp_5 rfl (lv_at hl 1 rfl) ?_
  obtain ⟨r3, s2, h1, hf⟩ := bi_s hf
  refine goI Z (run_N (As := [.int (σ.1 k0 1), .int a1]) (rest := [.ref (h k0)]) X Z (c_X11_filledUp l D h cy (σ.1 k0 1) a1 σ (r3, s2) h1 _) lk_RX6_39 ⟨by decide, by decide⟩ rfl hl.1 rfl (Nat.le_of_ble_eq_true rfl) ⟨Nat.le_refl _, Nat.le_refl _⟩ dX6_fillUp_6) (fun H locs Z => ?_)
  refine lv_aload_n hx hb dX6_fillUp_9 rfl (lv_at hl 0 rfl) ?_
  refine gf_RX6_15 X Z hR0 dX6_fillUp_10 ?_
  refine lv_isub hx hb dX6_fillUp_13 ?_
  obtain ⟨s5, h4, hf⟩ := bv_s hf
  refine goV Z (run_V (As := [.int ((r3 - (s2.1 k0 1)))]) (rest := []) X Z (c_X6_addZeros l D h cy hR0 ((r3 - (s2.1 k0 1))) s2 s5 h4 _) lk_RX6_43 ⟨by decide, by decide⟩ (rv_RowS hR0) rfl hl.1 rfl (Nat.le_of_ble_eq_true rfl) ⟨Nat.le_refl _, Nat.le_refl _⟩ dX6_fillUp_14) (fun H locs Z => ?_)
  exact retV X hr hk Z hf dX6_fillUp_17

set_option maxRecDepth 100000 in
set_option maxHeartbeats 4000000 in
theorem b_X7_fitWith_56 {p : Program} {l : Launch} {e : Env} {s : State} {m : MethodId} {args : Array Value} {below : List Frame} {meth : Method} {c : Code} {D : va_G} {h : Nat → Nat} {cy : Nat → ClassId} (X : Cx p s m args c D h cy RX7 cX7_fitWith 5) (hr : meth.sig.returnType = some .boolean) (hk : meth.locks = false) {k0 : Nat} (hR0 : SegsS k0) (K2 : (Int32 × Int32 × St) → Option (Int32 × St)) (hK2 : ∀ (a : Int32 × Int32 × St) (y : Int32 × St), K2 a = some y → ∀ (H : Heap) (locs : List Loc) (ls : Array Slot), Zt D h cy s a.2.2 H locs → lv_has ls 5 [(0, .ref (h k0)), (1, .int a.1), (2, .int a.2.1)] → W p l e (rmz 0 0) s m args below meth c H locs 0 0 (EI below args s D h cy y) (F0 m 2 ls [])) (x1 : Int32) (x2 : Int32) (σ : St) (y : Int32 × St) (hf : f_X7_fitWith_56 k0 K2 x1 x2 σ = some y) : ∀ (H : Heap) (locs : List Loc) (ls : Array Slot), Zt D h cy s σ H locs → lv_has ls 5 [(0, .ref (h k0)), (1, .int x1), (2, .int x2)] → W p l e (rmz 0 0) s m args below meth c H locs 0 0 (EI below args s D h cy y) (F0 m 56 ls []) := by
  intro H locs ls Z hl
  have hx := X.x
  have hb := X.b
  unfold f_X7_fitWith_56 at hf
  obtain ⟨v7, ev7⟩ : ∃ z : Int32, z = x2 + 1 := ⟨_, rfl⟩
  have hf := zn_e ev7 hf
  refine lv_iinc (v := v7) (lv' := [(2, .int v7), (0, .ref (h k0)), (1, .int x1)]) hx hb dX7_fitWith_56 hl (k := 2) rfl (by rw [ev7]; rfl) (by decide) rfl (fun ls hl => ?_)
  refine lv_goto (tgt := 2) hx hb dX7_fitWith_59 (by decide) ?_
  exact hK2 (x1, v7, σ) _ hf _ _ _ Z (lv_sub hl [1, 2, 0] rfl)

set_option maxRecDepth 100000 in
set_option maxHeartbeats 4000000 in
theorem b_X7_fitWith_2b {p : Program} {l : Launch} {e : Env} {s : State} {m : MethodId} {args : Array Value} {below : List Frame} {meth : Method} {c : Code} {D : va_G} {h : Nat → Nat} {cy : Nat → ClassId} (X : Cx p s m args c D h cy RX7 cX7_fitWith 5) (hr : meth.sig.returnType = some .boolean) (hk : meth.locks = false) {k0 : Nat} (hR0 : SegsS k0) (K2 : (Int32 × Int32 × St) → Option (Int32 × St)) (hK2 : ∀ (a : Int32 × Int32 × St) (y : Int32 × St), K2 a = some y → ∀ (H : Heap) (locs : List Loc) (ls : Array Slot), Zt D h cy s a.2.2 H locs → lv_has ls 5 [(0, .ref (h k0)), (1, .int a.1), (2, .int a.2.1)] → W p l e (rmz 0 0) s m args below meth c H locs 0 0 (EI below args s D h cy y) (F0 m 2 ls [])) (x1 : Int32) (x2 : Int32) (σ : St) (y : Int32 × St) (hf : f_X7_fitWith_2b k0 K2 x1 x2 σ = some y) : ∀ (H : Heap) (locs : List Loc) (ls : Array Slot), Zt D h cy s σ H locs → lv_has ls 5 [(0, .ref (h k0)), (1, .int x1), (2, .int x2)] → W p l e (rmz 0 0) s m args below meth c H locs 0 0 (EI below args s D h cy y) (F0 m 2 ls []) := by
  intro H locs ls Z hl
  have hx := X.x
  have hb := X.b
  unfold f_X7_fitWith_2b at hf
  refine lv_iload_n hx hb dX7_fitWith_2 rfl (lv_at hl 2 rfl) ?_
  refine lv_aload_n hx hb dX7_fitWith_3 rfl (lv_at hl 0 rfl) ?_
  refine gf_RX7_24 X Z hR0 dX7_fitWith_4 ?_
  refine lv_icmp_ge (tgt := 62) hx hb dX7_fitWith_7 (by decide) (fun c2 => ?_) (fun c2 => ?_)
  · have hf := itp c2 hf
    refine lv_iconst (v := 1) hx hb dX7_fitWith_62 (by decide) ?_
    exact retZ X hr hk Z (by decide) hf dX7_fitWith_63
  · have hf := itn c2 hf
    refine lv_aload_n hx hb dX7_fitWith_10 rfl (lv_at hl 0 rfl) ?_
    refine gf_RX7_9 X Z hR0 dX7_fitWith_11 ?_
    refine lv_iload_n hx hb dX7_fitWith_14 rfl (lv_at hl 2 rfl) ?_
    obtain ⟨g3, hf⟩ := gd_s hf
    refine x_iald (k := (k0 + 1)) X Z hR0.2.1 g3 dX7_fitWith_15 ?_
    refine lv_i2l (v := ((σ.1 (k0 + 1) x2.toNatClampNeg)).toInt64) hx hb dX7_fitWith_16 rfl ?_
    refine lv_iload_n hx hb dX7_fitWith_17 rfl (lv_at hl 1 rfl) ?_
    refine lv_i2l (v := x1.toInt64) hx hb dX7_fitWith_18 rfl ?_
    refine lv_ladd hx hb dX7_fitWith_19 ?_
    refine lv_topl (fun v4 ev4 => ?_)
    have hf := zn_e ev4 hf
    refine lv_lstore_n (lv' := [(3, .long v4), (0, .ref (h k0)), (1, .int x1), (2, .int x2)]) hx hb dX7_fitWith_20 rfl hl (by decide) rfl (fun ls hl => ?_)
    refine lv_aload_n hx hb dX7_fitWith_21 rfl (lv_at hl 1 rfl) ?_
    refine gf_RX7_15 X Z hR0 dX7_fitWith_22 ?_
    refine lv_iload_n hx hb dX7_fitWith_25 rfl (lv_at hl 3 rfl) ?_
    obtain ⟨g5, hf⟩ := gd_s hf
    refine x_iald (k := (k0 + 2)) X Z hR0.2.2.1 g5 dX7_fitWith_26 ?_
    refine lv_if_le (tgt := 56) hx hb dX7_fitWith_27 (by decide) (fun c6 => ?_) (fun c6 => ?_)
    · have hf := itp c6 hf
      exact b_X7_fitWith_56 X hr hk hR0 K2 hK2 x1 x2 σ _ hf _ _ _ Z (lv_sub hl [1, 2, 3] rfl)
    · have hf := itn c6 hf
      refine lv_lload_n hx hb dX7_fitWith_30 rfl (lv_at hl 0 rfl) ?_
      refine lv_lconst (v := 0) hx hb dX7_fitWith_31 (by decide) ?_
      refine x_lif_lt (tgt := 54) X dX7_fitWith_32 dX7_fitWith_33 (by decide) (fun c8 => ?_) (fun c8 => ?_)
      · have hf := itp c8 hf
        refine lv_iconst (v := 0) hx hb dX7_fitWith_54 (by decide) ?_
        exact retZ X hr hk Z (by decide) hf dX7_fitWith_55
      · have hf := itn c8 hf
        refine lv_lload_n hx hb dX7_fitWith_36 rfl (lv_at hl 0 rfl) ?_
        refine lv_aload_n hx hb dX7_fitWith_37 rfl (lv_at hl 1 rfl) ?_
        refine gf_RX7_15 X Z hR0 dX7_fitWith_38 ?_
        refine lv_iload_n hx hb dX7_fitWith_41 rfl (lv_at hl 3 rfl) ?_
        obtain ⟨g9, hf⟩ := gd_s hf
        refine x_iald (k := (k0 + 2)) X Z hR0.2.2.1 g9 dX7_fitWith_42 ?_
        refine lv_i2l (v := ((σ.1 (k0 + 2) x2.toNatClampNeg)).toInt64) hx hb dX7_fitWith_43 rfl ?_
        refine lv_ladd hx hb dX7_fitWith_44 ?_
        refine lv_lconst (v := 1) hx hb dX7_fitWith_45 (by decide) ?_
        refine lv_lsub hx hb dX7_fitWith_46 ?_
        refine lv_ldc2 (v := 2147483647) hx hb X.o (X.t _ kc_RX7_37) dX7_fitWith_47 ?_
        refine x_lif_le (tgt := 56) X dX7_fitWith_50 dX7_fitWith_51 (by decide) (fun c10 => ?_) (fun c10 => ?_)
        · have hf := itp c10 hf
          exact b_X7_fitWith_56 X hr hk hR0 K2 hK2 x1 x2 σ _ hf _ _ _ Z (lv_sub hl [1, 2, 3] rfl)
        · have hf := itn c10 hf
          refine lv_iconst (v := 0) hx hb dX7_fitWith_54 (by decide) ?_
          exact retZ X hr hk Z (by decide) hf dX7_fitWith_55

set_option maxRecDepth 100000 in
set_option maxHeartbeats 4000000 in
theorem b_X7_fitWith_2 {p : Program} {l : Launch} {e : Env} {s : State} {m : MethodId} {args : Array Value} {below : List Frame} {meth : Method} {c : Code} {D : va_G} {h : Nat → Nat} {cy : Nat → ClassId} (X : Cx p s m args c D h cy RX7 cX7_fitWith 5) (hr : meth.sig.returnType = some .boolean) (hk : meth.locks = false) {k0 : Nat} (hR0 : SegsS k0) (x1 : Int32) (x2 : Int32) (σ : St) (y : Int32 × St) (hf : f_X7_fitWith_2 k0 x1 x2 σ = some y) : ∀ (H : Heap) (locs : List Loc) (ls : Array Slot), Zt D h cy s σ H locs → lv_has ls 5 [(0, .ref (h k0)), (1, .int x1), (2, .int x2)] → W p l e (rmz 0 0) s m args below meth c H locs 0 0 (EI below args s D h cy y) (F0 m 2 ls []) := by
  exact it_W (F := fun K a => f_X7_fitWith_2b k0 K a.1 a.2.1 a.2.2) (P := fun a y => ∀ (H : Heap) (locs : List Loc) (ls : Array Slot), Zt D h cy s a.2.2 H locs → lv_has ls 5 [(0, .ref (h k0)), (1, .int a.1), (2, .int a.2.1)] → W p l e (rmz 0 0) s m args below meth c H locs 0 0 (EI below args s D h cy y) (F0 m 2 ls [])) (fun K hK a y hf => b_X7_fitWith_2b X hr hk hR0 K hK (a.1) (a.2.1) (a.2.2) y hf) FU _ y hf

set_option maxRecDepth 100000 in
set_option maxHeartbeats 4000000 in
theorem c_X7_fitWith (l : Launch) (D : va_G) (h : Nat → Nat) (cy : Nat → ClassId) {k0 : Nat} (hR0 : SegsS k0) (a1 : Int32) (σ : St) (y : Int32 × St) (hf : f_X7_fitWith k0 a1 σ = some y) : CI l yX7_fitWith cX7_fitWith 5 (some .boolean) 0 0 D h cy [.ref (h k0), .int a1] σ y := by
  refine ent (Qc := fun sz => QI D h cy sz y) (by decide) (Nat.le_of_ble_eq_true rfl) ?_
  intro p e s m below meth c ls X Z hr hk hl
  have X : Cx p s m _ c D h cy RX7 cX7_fitWith 5 := X
  have hx := X.x
  have hb := X.b
  have hl : lv_has ls 5 [(0, .ref (h k0)), (1, .int a1)] := hl
  unfold f_X7_fitWith at hf
  refine lv_iconst (v := 0) hx hb dX7_fitWith_0 (by decide) ?_
  refine lv_topi (fun v1 ev1 => ?_)
  have hf := zn_e ev1 hf
  refine lv_istore_n (lv' := [(2, .int v1), (0, .ref (h k0)), (1, .int a1)]) hx hb dX7_fitWith_1 rfl hl (by decide) rfl (fun ls hl => ?_)
  exact b_X7_fitWith_2 X hr hk hR0 a1 v1 σ _ hf _ _ _ Z (lv_sub hl [1, 2, 0] rfl)

set_option maxRecDepth 100000 in
set_option maxHeartbeats 4000000 in
theorem b_X8_forget_40b {p : Program} {l : Launch} {e : Env} {s : State} {m : MethodId} {args : Array Value} {below : List Frame} {meth : Method} {c : Code} {D : va_G} {h : Nat → Nat} {cy : Nat → ClassId} (X : Cx p s m args c D h cy RX8 cX8_forget 4) (hr : meth.sig.returnType = none) (hk : meth.locks = false) (K40 : (Int32 × St) → Option (St)) (hK40 : ∀ (a : Int32 × St) (y : St), K40 a = some y → ∀ (H : Heap) (locs : List Loc) (ls : Array Slot), Zt D h cy s a.2 H locs → lv_has ls 4 [(0, .ref (h 5)), (3, .int a.1)] → W p l e (rmz 1 20) s m args below meth c H locs 0 0 (EV below args s D h cy y) (F0 m 40 ls [])) (x3 : Int32) (σ : St) (y : St) (hf : f_X8_forget_40b K40 x3 σ = some y) : ∀ (H : Heap) (locs : List Loc) (ls : Array Slot), Zt D h cy s σ H locs → lv_has ls 4 [(0, .ref (h 5)), (3, .int x3)] → W p l e (rmz 1 20) s m args below meth c H locs 0 0 (EV below args s D h cy y) (F0 m 40 ls []) := by
  intro H locs ls Z hl
  have hx := X.x
  have hb := X.b
  unfold f_X8_forget_40b at hf
  refine lv_iload_n hx hb dX8_forget_40 rfl (lv_at hl 1 rfl) ?_
  refine lv_aload_n hx hb dX8_forget_41 rfl (lv_at hl 0 rfl) ?_
  refine gf_RX8_70 X Z dX8_forget_42 ?_
  refine x_zlen (k := 28) X Z sh_28 dX8_forget_45 ?_
  refine lv_icmp_ge (tgt := 62) hx hb dX8_forget_46 (by decide) (fun c12 => ?_) (fun c12 => ?_)
  · have hf := itp c12 hf
    refine lv_aload_n hx hb dX8_forget_62 rfl (lv_at hl 0 rfl) ?_
    refine lv_iconst (v := 0) hx hb dX8_forget_63 (by decide) ?_
    refine pf_RX8_77 X Z dX8_forget_64 (fun s13 H locs es13 Z => ?_)
    have hf := zn_e es13 hf
    exact retV X hr hk Z hf dX8_forget_67
  · have hf := itn c12 hf
    refine lv_aload_n hx hb dX8_forget_49 rfl (lv_at hl 0 rfl) ?_
    refine gf_RX8_70 X Z dX8_forget_50 ?_
    refine lv_iload_n hx hb dX8_forget_53 rfl (lv_at hl 1 rfl) ?_
    refine lv_iconst (v := 0) hx hb dX8_forget_54 (by decide) ?_
    obtain ⟨g14, hf⟩ := gd_s hf
    refine x_zast (k := 28) X Z sh_28 g14 dX8_forget_55 (fun s15 H locs es15 Z => ?_)
    have hf := zn_e es15 hf
    obtain ⟨v16, ev16⟩ : ∃ z : Int32, z = x3 + 1 := ⟨_, rfl⟩
    have hf := zn_e ev16 hf
    refine lv_iinc (v := v16) (lv' := [(3, .int v16), (0, .ref (h 5))]) hx hb dX8_forget_56 hl (k := 1) rfl (by rw [ev16]; rfl) (by decide) rfl (fun ls hl => ?_)
    refine lv_goto (tgt := 40) hx hb dX8_forget_59 (by decide) ?_
    exact hK40 (v16, s15) _ hf _ _ _ Z (lv_sub hl [1, 0] rfl)

set_option maxRecDepth 100000 in
set_option maxHeartbeats 4000000 in
theorem b_X8_forget_40 {p : Program} {l : Launch} {e : Env} {s : State} {m : MethodId} {args : Array Value} {below : List Frame} {meth : Method} {c : Code} {D : va_G} {h : Nat → Nat} {cy : Nat → ClassId} (X : Cx p s m args c D h cy RX8 cX8_forget 4) (hr : meth.sig.returnType = none) (hk : meth.locks = false) (x3 : Int32) (σ : St) (y : St) (hf : f_X8_forget_40 x3 σ = some y) : ∀ (H : Heap) (locs : List Loc) (ls : Array Slot), Zt D h cy s σ H locs → lv_has ls 4 [(0, .ref (h 5)), (3, .int x3)] → W p l e (rmz 1 20) s m args below meth c H locs 0 0 (EV below args s D h cy y) (F0 m 40 ls []) := by
  exact it_W (F := fun K a => f_X8_forget_40b K a.1 a.2) (P := fun a y => ∀ (H : Heap) (locs : List Loc) (ls : Array Slot), Zt D h cy s a.2 H locs → lv_has ls 4 [(0, .ref (h 5)), (3, .int a.1)] → W p l e (rmz 1 20) s m args below meth c H locs 0 0 (EV below args s D h cy y) (F0 m 40 ls [])) (fun K hK a y hf => b_X8_forget_40b X hr hk K hK (a.1) (a.2) y hf) FU _ y hf

set_option maxRecDepth 100000 in
set_option maxHeartbeats 4000000 in
theorem c_X8_forget (l : Launch) (D : va_G) (h : Nat → Nat) (cy : Nat → ClassId) (a1 : Int32) (a2 : Int32) (σ : St) (y : St) (hf : f_X8_forget a1 a2 σ = some y) : CV l yX8_forget cX8_forget 4 none 1 20 D h cy [.ref (h 5), .int a1, .int a2] σ y := by
  refine ent (Qc := fun sz => QV D h cy sz y) (by decide) (Nat.le_of_ble_eq_true rfl) ?_
  intro p e s m below meth c ls X Z hr hk hl
  have X : Cx p s m _ c D h cy RX8 cX8_forget 4 := X
  have hx := X.x
  have hb := X.b
  have hl : lv_has ls 4 [(0, .ref (h 5)), (1, .int a1), (2, .int a2)] := hl
  unfold f_X8_forget at hf
  refine lv_aload_n hx hb dX8_forget_0 rfl (lv_at hl 0 rfl) ?_
  refine lv_iload_n hx hb dX8_forget_1 rfl (lv_at hl 1 rfl) ?_
  refine pf_RX8_10 X Z dX8_forget_2 (fun s1 H locs es1 Z => ?_)
  have hf := zn_e es1 hf
  refine lv_aload_n hx hb dX8_forget_5 rfl (lv_at hl 0 rfl) ?_
  refine lv_iload_n hx hb dX8_forget_6 rfl (lv_at hl 2 rfl) ?_
  refine pf_RX8_16 X Z dX8_forget_7 (fun s2 H locs es2 Z => ?_)
  have hf := zn_e es2 hf
  refine lv_aload_n hx hb dX8_forget_10 rfl (lv_at hl 0 rfl) ?_
  refine gf_RX8_24 X Z dX8_forget_11 ?_
  obtain ⟨s4, h3, hf⟩ := bv_s hf
  refine goV Z (run_V (As := []) (rest := []) X Z (c_X5_clear l D h cy names_6 s2 s4 h3 _) lk_RX8_80 ⟨by decide, by decide⟩ (rv_NamesS names_6) rfl hl.1 rfl (Nat.le_of_ble_eq_true rfl) ⟨Nat.le_refl _, Nat.le_refl _⟩ dX8_forget_14) (fun H locs Z => ?_)
  refine lv_aload_n hx hb dX8_forget_17 rfl (lv_at hl 0 rfl) ?_
  refine gf_RX8_39 X Z dX8_forget_18 ?_
  obtain ⟨s6, h5, hf⟩ := bv_s hf
  refine goV Z (run_V (As := []) (rest := []) X Z (c_X5_clear l D h cy names_12 s4 s6 h5 _) lk_RX8_80 ⟨by decide, by decide⟩ (rv_NamesS names_12) rfl hl.1 rfl (Nat.le_of_ble_eq_true rfl) ⟨Nat.le_refl _, Nat.le_refl _⟩ dX8_forget_21) (fun H locs Z => ?_)
  refine lv_aload_n hx hb dX8_forget_24 rfl (lv_at hl 0 rfl) ?_
  refine gf_RX8_51 X Z dX8_forget_25 ?_
  obtain ⟨s8, h7, hf⟩ := bv_s hf
  refine goV Z (run_V (As := []) (rest := []) X Z (c_X5_clear l D h cy names_18 s6 s8 h7 _) lk_RX8_80 ⟨by decide, by decide⟩ (rv_NamesS names_18) rfl hl.1 rfl (Nat.le_of_ble_eq_true rfl) ⟨Nat.le_refl _, Nat.le_refl _⟩ dX8_forget_28) (fun H locs Z => ?_)
  refine lv_aload_n hx hb dX8_forget_31 rfl (lv_at hl 0 rfl) ?_
  refine gf_RX8_60 X Z dX8_forget_32 ?_
  obtain ⟨s10, h9, hf⟩ := bv_s hf
  refine goV Z (run_V (As := []) (rest := []) X Z (c_X5_clear l D h cy names_23 s8 s10 h9 _) lk_RX8_80 ⟨by decide, by decide⟩ (rv_NamesS names_23) rfl hl.1 rfl (Nat.le_of_ble_eq_true rfl) ⟨Nat.le_refl _, Nat.le_refl _⟩ dX8_forget_35) (fun H locs Z => ?_)
  refine lv_iconst (v := 0) hx hb dX8_forget_38 (by decide) ?_
  refine lv_topi (fun v11 ev11 => ?_)
  have hf := zn_e ev11 hf
  refine lv_istore_n (lv' := [(3, .int v11), (0, .ref (h 5)), (1, .int a1), (2, .int a2)]) hx hb dX8_forget_39 rfl hl (by decide) rfl (fun ls hl => ?_)
  exact b_X8_forget_40 X hr hk v11 s10 _ hf _ _ _ Z (lv_sub hl [1, 0] rfl)

set_option maxRecDepth 100000 in
set_option maxHeartbeats 4000000 in
theorem c_X8_addSegment (l : Launch) (D : va_G) (h : Nat → Nat) (cy : Nat → ClassId) {k1 n1 : Nat} (hR1 : RowS k1 n1) (a2 : Int32) (a3 : Int32) (σ : St) (y : Int32 × St) (hf : f_X8_addSegment k1 n1 a2 a3 σ = some y) : CI l yX8_addSegment cX8_addSegment 5 (some .int) 2 46 D h cy [.ref (h 5), .ref (h k1), .int a2, .int a3] σ y := by
  refine ent (Qc := fun sz => QI D h cy sz y) (by decide) (Nat.le_of_ble_eq_true rfl) ?_
  intro p e s m below meth c ls X Z hr hk hl
  have X : Cx p s m _ c D h cy RX8 cX8_addSegment 5 := X
  have hx := X.x
  have hb := X.b
  have hl : lv_has ls 5 [(0, .ref (h 5)), (1, .ref (h k1)), (2, .int a2), (3, .int a3)] := hl
  unfold f_X8_addSegment at hf
  refine lv_aload_n hx hb dX8_addSegment_0 rfl (lv_at hl 0 rfl) ?_
  refine gf_RX8_24 X Z dX8_addSegment_1 ?_
  refine lv_aload_n hx hb dX8_addSegment_4 rfl (lv_at hl 1 rfl) ?_
  obtain ⟨r3, s2, h1, hf⟩ := bi_s hf
  refine goI Z (run_V (As := [.ref (h k1)]) (rest := []) X Z (c_X5_takes l D h cy names_6 hR1 σ (r3, s2) h1 _) lk_RX8_83 ⟨by decide, by decide⟩ (rv_NamesS names_6) rfl hl.1 rfl (Nat.le_of_ble_eq_true rfl) ⟨Nat.le_refl _, Nat.le_refl _⟩ dX8_addSegment_5) (fun H locs Z => ?_)
  refine lv_if_eq (tgt := 33) hx hb dX8_addSegment_8 (by decide) (fun c4 => ?_) (fun c4 => ?_)
  · have hf := itp c4 hf
    refine lv_iconst (v := (-1)) hx hb dX8_addSegment_33 (by decide) ?_
    exact retI X hr hk Z hf dX8_addSegment_34
  · have hf := itn c4 hf
    refine lv_iload_n hx hb dX8_addSegment_11 rfl (lv_at hl 2 rfl) ?_
    refine lv_iconst (v := 1) hx hb dX8_addSegment_12 (by decide) ?_
    refine lv_icmp_lt (tgt := 33) hx hb dX8_addSegment_13 (by decide) (fun c5 => ?_) (fun c5 => ?_)
    · have hf := itp c5 hf
      refine lv_iconst (v := (-1)) hx hb dX8_addSegment_33 (by decide) ?_
      exact retI X hr hk Z hf dX8_addSegment_34
    · have hf := itn c5 hf
      refine lv_iload_n hx hb dX8_addSegment_16 rfl (lv_at hl 2 rfl) ?_
      refine lv_sipush (v := 1024) hx hb dX8_addSegment_17 (by decide) ?_
      refine lv_icmp_gt (tgt := 33) hx hb dX8_addSegment_20 (by decide) (fun c6 => ?_) (fun c6 => ?_)
      · have hf := itp c6 hf
        refine lv_iconst (v := (-1)) hx hb dX8_addSegment_33 (by decide) ?_
        exact retI X hr hk Z hf dX8_addSegment_34
      · have hf := itn c6 hf
        refine lv_iload_n hx hb dX8_addSegment_23 rfl (lv_at hl 3 rfl) ?_
        refine lv_if_lt (tgt := 33) hx hb dX8_addSegment_24 (by decide) (fun c7 => ?_) (fun c7 => ?_)
        · have hf := itp c7 hf
          refine lv_iconst (v := (-1)) hx hb dX8_addSegment_33 (by decide) ?_
          exact retI X hr hk Z hf dX8_addSegment_34
        · have hf := itn c7 hf
          refine lv_iload_n hx hb dX8_addSegment_27 rfl (lv_at hl 3 rfl) ?_
          refine lv_bipush (v := 7) hx hb dX8_addSegment_28 (by decide) ?_
          refine lv_icmp_le (tgt := 35) hx hb dX8_addSegment_30 (by decide) (fun c8 => ?_) (fun c8 => ?_)
          · have hf := itp c8 hf
            refine lv_aload_n hx hb dX8_addSegment_35 rfl (lv_at hl 0 rfl) ?_
            refine gf_RX8_24 X Z dX8_addSegment_36 ?_
            refine lv_aload_n hx hb dX8_addSegment_39 rfl (lv_at hl 1 rfl) ?_
            obtain ⟨r11, s10, h9, hf⟩ := bi_s hf
            refine goI Z (run_V (As := [.ref (h k1)]) (rest := []) X Z (c_X5_add l D h cy names_6 hR1 s2 (r11, s10) h9 _) lk_RX8_87 ⟨by decide, by decide⟩ (rv_NamesS names_6) rfl hl.1 rfl (Nat.le_of_ble_eq_true rfl) ⟨Nat.le_refl _, Nat.le_refl _⟩ dX8_addSegment_40) (fun H locs Z => ?_)
            refine lv_istore (lv' := [(4, .int r11), (0, .ref (h 5)), (1, .ref (h k1)), (2, .int a2), (3, .int a3)]) hx hb dX8_addSegment_43 hl (by decide) rfl (fun ls hl => ?_)
            refine lv_aload_n hx hb dX8_addSegment_45 rfl (lv_at hl 1 rfl) ?_
            refine gf_RX8_28 X Z dX8_addSegment_46 ?_
            refine lv_iload hx hb dX8_addSegment_49 (lv_at hl 0 rfl) ?_
            refine lv_iload_n hx hb dX8_addSegment_51 rfl (lv_at hl 3 rfl) ?_
            obtain ⟨g12, hf⟩ := gd_s hf
            refine x_iast (k := 9) X Z sh_9 g12 dX8_addSegment_52 (fun s13 H locs es13 Z => ?_)
            have hf := zn_e es13 hf
            refine lv_aload_n hx hb dX8_addSegment_53 rfl (lv_at hl 1 rfl) ?_
            refine gf_RX8_32 X Z dX8_addSegment_54 ?_
            refine lv_iload hx hb dX8_addSegment_57 (lv_at hl 0 rfl) ?_
            refine lv_iload_n hx hb dX8_addSegment_59 rfl (lv_at hl 4 rfl) ?_
            obtain ⟨g14, hf⟩ := gd_s hf
            refine x_iast (k := 10) X Z sh_10 g14 dX8_addSegment_60 (fun s15 H locs es15 Z => ?_)
            have hf := zn_e es15 hf
            refine lv_aload_n hx hb dX8_addSegment_61 rfl (lv_at hl 1 rfl) ?_
            refine gf_RX8_35 X Z dX8_addSegment_62 ?_
            refine lv_iload hx hb dX8_addSegment_65 (lv_at hl 0 rfl) ?_
            refine lv_sipush (v := 1024) hx hb dX8_addSegment_67 (by decide) ?_
            refine lv_imul hx hb dX8_addSegment_70 ?_
            refine lv_iload hx hb dX8_addSegment_71 (lv_at hl 0 rfl) ?_
            refine lv_iconst (v := 1) hx hb dX8_addSegment_73 (by decide) ?_
            refine lv_iadd hx hb dX8_addSegment_74 ?_
            refine lv_sipush (v := 1024) hx hb dX8_addSegment_75 (by decide) ?_
            refine lv_imul hx hb dX8_addSegment_78 ?_
            refine lv_iconst (v := 0) hx hb dX8_addSegment_79 (by decide) ?_
            obtain ⟨s17, h16, hf⟩ := bv_s hf
            refine goV Z (run_S (As := [.ref (h 11), .int ((r11 * (1024 : Int32))), .int (((r11 + (1 : Int32)) * (1024 : Int32))), .int (0 : Int32)]) (rest := []) X Z (c_J7_fill_eb02e l D h cy sh_11 ((r11 * (1024 : Int32))) (((r11 + (1 : Int32)) * (1024 : Int32))) (0 : Int32) s15 s17 h16 _) lk_RX8_91 ⟨by decide, by decide⟩ rfl hl.1 rfl (Nat.le_of_ble_eq_true rfl) ⟨Nat.le_refl _, Nat.le_refl _⟩ dX8_addSegment_80) (fun H locs Z => ?_)
            refine lv_iload hx hb dX8_addSegment_83 (lv_at hl 0 rfl) ?_
            exact retI X hr hk Z hf dX8_addSegment_85
          · have hf := itn c8 hf
            refine lv_iconst (v := (-1)) hx hb dX8_addSegment_33 (by decide) ?_
            exact retI X hr hk Z hf dX8_addSegment_34

set_option maxRecDepth 100000 in
set_option maxHeartbeats 4000000 in
theorem c_X8_setContents (l : Launch) (D : va_G) (h : Nat → Nat) (cy : Nat → ClassId) {k1 n1 : Nat} (hR1 : RowS k1 n1) (a2 : Int32) (a3 : Int32) (σ : St) (y : Int32 × St) (hf : f_X8_setContents k1 n1 a2 a3 σ = some y) : CI l yX8_setContents cX8_setContents 4 (some .boolean) 1 60 D h cy [.ref (h 5), .ref (h k1), .int a2, .int a3] σ y := by
  refine ent (Qc := fun sz => QI D h cy sz y) (by decide) (Nat.le_of_ble_eq_true rfl) ?_
  intro p e s m below meth c ls X Z hr hk hl
  have X : Cx p s m _ c D h cy RX8 cX8_setContents 4 := X
  have hx := X.x
  have hb := X.b
  have hl : lv_has ls 4 [(0, .ref (h 5)), (1, .ref (h k1)), (2, .int a2), (3, .int a3)] := hl
  unfold f_X8_setContents at hf
  refine lv_aload_n hx hb dX8_setContents_0 rfl (lv_at hl 0 rfl) ?_
  refine gf_RX8_24 X Z dX8_setContents_1 ?_
  refine lv_iload_n hx hb dX8_setContents_4 rfl (lv_at hl 2 rfl) ?_
  obtain ⟨r3, s2, h1, hf⟩ := bi_s hf
  refine goI Z (run_V (As := [.int a2]) (rest := []) X Z (c_X5_has l D h cy names_6 a2 σ (r3, s2) h1 _) lk_RX8_97 ⟨by decide, by decide⟩ (rv_NamesS names_6) rfl hl.1 rfl (Nat.le_of_ble_eq_true rfl) ⟨Nat.le_refl _, Nat.le_refl _⟩ dX8_setContents_5) (fun H locs Z => ?_)
  refine lv_if_eq (tgt := 30) hx hb dX8_setContents_8 (by decide) (fun c4 => ?_) (fun c4 => ?_)
  · have hf := itp c4 hf
    refine lv_iconst (v := 0) hx hb dX8_setContents_30 (by decide) ?_
    exact retZ X hr hk Z (by decide) hf dX8_setContents_31
  · have hf := itn c4 hf
    refine lv_iload_n hx hb dX8_setContents_11 rfl (lv_at hl 3 rfl) ?_
    refine lv_if_lt (tgt := 30) hx hb dX8_setContents_12 (by decide) (fun c5 => ?_) (fun c5 => ?_)
    · have hf := itp c5 hf
      refine lv_iconst (v := 0) hx hb dX8_setContents_30 (by decide) ?_
      exact retZ X hr hk Z (by decide) hf dX8_setContents_31
    · have hf := itn c5 hf
      refine lv_iload_n hx hb dX8_setContents_15 rfl (lv_at hl 3 rfl) ?_
      refine lv_aload_n hx hb dX8_setContents_16 rfl (lv_at hl 0 rfl) ?_
      refine gf_RX8_28 X Z dX8_setContents_17 ?_
      refine lv_iload_n hx hb dX8_setContents_20 rfl (lv_at hl 2 rfl) ?_
      obtain ⟨g6, hf⟩ := gd_s hf
      refine x_iald (k := 9) X Z sh_9 g6 dX8_setContents_21 ?_
      refine lv_aload_n hx hb dX8_setContents_22 rfl (lv_at hl 1 rfl) ?_
      refine gf_RX8_101 X Z hR1 dX8_setContents_23 ?_
      refine lv_isub hx hb dX8_setContents_26 ?_
      refine lv_icmp_le (tgt := 32) hx hb dX8_setContents_27 (by decide) (fun c7 => ?_) (fun c7 => ?_)
      · have hf := itp c7 hf
        refine lv_aload_n hx hb dX8_setContents_32 rfl (lv_at hl 1 rfl) ?_
        refine gf_RX8_106 X Z hR1 dX8_setContents_33 ?_
        refine lv_iconst (v := 0) hx hb dX8_setContents_36 (by decide) ?_
        refine lv_aload_n hx hb dX8_setContents_37 rfl (lv_at hl 0 rfl) ?_
        refine gf_RX8_35 X Z dX8_setContents_38 ?_
        refine lv_iload_n hx hb dX8_setContents_41 rfl (lv_at hl 2 rfl) ?_
        refine lv_sipush (v := 1024) hx hb dX8_setContents_42 (by decide) ?_
        refine lv_imul hx hb dX8_setContents_45 ?_
        refine lv_iload_n hx hb dX8_setContents_46 rfl (lv_at hl 3 rfl) ?_
        refine lv_iadd hx hb dX8_setContents_47 ?_
        refine lv_aload_n hx hb dX8_setContents_48 rfl (lv_at hl 1 rfl) ?_
        refine gf_RX8_101 X Z hR1 dX8_setContents_49 ?_
        obtain ⟨g8, hf⟩ := gd_s hf
        refine x_copyb (k0 := (k1 + 1)) (k1 := 11) X Z hl.1 hR1.2 sh_11 g8 ac_RX8_109 (by decide) (Nat.le_of_ble_eq_true rfl) dX8_setContents_52 (fun s9 H locs es9 Z => ?_)
        have hf := zn_e es9 hf
        refine lv_iconst (v := 1) hx hb dX8_setContents_55 (by decide) ?_
        exact retZ X hr hk Z (by decide) hf dX8_setContents_56
      · have hf := itn c7 hf
        refine lv_iconst (v := 0) hx hb dX8_setContents_30 (by decide) ?_
        exact retZ X hr hk Z (by decide) hf dX8_setContents_31

set_option maxRecDepth 100000 in
set_option maxHeartbeats 4000000 in
theorem c_X8_addSection (l : Launch) (D : va_G) (h : Nat → Nat) (cy : Nat → ClassId) {k1 n1 : Nat} (hR1 : RowS k1 n1) (a2 : Int32) (a3 : Int32) (a4 : Int32) (σ : St) (y : Int32 × St) (hf : f_X8_addSection k1 n1 a2 a3 a4 σ = some y) : CI l yX8_addSection cX8_addSection 6 (some .int) 2 44 D h cy [.ref (h 5), .ref (h k1), .int a2, .int a3, .int a4] σ y := by
  refine ent (Qc := fun sz => QI D h cy sz y) (by decide) (Nat.le_of_ble_eq_true rfl) ?_
  intro p e s m below meth c ls X Z hr hk hl
  have X : Cx p s m _ c D h cy RX8 cX8_addSection 6 := X
  have hx := X.x
  have hb := X.b
  have hl : lv_has ls 6 [(0, .ref (h 5)), (1, .ref (h k1)), (2, .int a2), (3, .int a3), (4, .int a4)] := hl
  unfold f_X8_addSection at hf
  refine lv_aload_n hx hb dX8_addSection_0 rfl (lv_at hl 0 rfl) ?_
  refine gf_RX8_39 X Z dX8_addSection_1 ?_
  refine lv_aload_n hx hb dX8_addSection_4 rfl (lv_at hl 1 rfl) ?_
  obtain ⟨r3, s2, h1, hf⟩ := bi_s hf
  refine goI Z (run_V (As := [.ref (h k1)]) (rest := []) X Z (c_X5_takes l D h cy names_12 hR1 σ (r3, s2) h1 _) lk_RX8_83 ⟨by decide, by decide⟩ (rv_NamesS names_12) rfl hl.1 rfl (Nat.le_of_ble_eq_true rfl) ⟨Nat.le_refl _, Nat.le_refl _⟩ dX8_addSection_5) (fun H locs Z => ?_)
  refine lv_if_eq (tgt := 22) hx hb dX8_addSection_8 (by decide) (fun c4 => ?_) (fun c4 => ?_)
  · have hf := itp c4 hf
    refine lv_iconst (v := (-1)) hx hb dX8_addSection_22 (by decide) ?_
    exact retI X hr hk Z hf dX8_addSection_23
  · have hf := itn c4 hf
    refine lv_aload_n hx hb dX8_addSection_11 rfl (lv_at hl 0 rfl) ?_
    refine gf_RX8_24 X Z dX8_addSection_12 ?_
    refine lv_iload_n hx hb dX8_addSection_15 rfl (lv_at hl 2 rfl) ?_
    obtain ⟨r7, s6, h5, hf⟩ := bi_s hf
    refine goI Z (run_V (As := [.int a2]) (rest := []) X Z (c_X5_has l D h cy names_6 a2 s2 (r7, s6) h5 _) lk_RX8_97 ⟨by decide, by decide⟩ (rv_NamesS names_6) rfl hl.1 rfl (Nat.le_of_ble_eq_true rfl) ⟨Nat.le_refl _, Nat.le_refl _⟩ dX8_addSection_16) (fun H locs Z => ?_)
    refine lv_if_ne (tgt := 24) hx hb dX8_addSection_19 (by decide) (fun c8 => ?_) (fun c8 => ?_)
    · have hf := itn c8 hf
      refine lv_iload_n hx hb dX8_addSection_24 rfl (lv_at hl 3 rfl) ?_
      refine lv_if_lt (tgt := 50) hx hb dX8_addSection_25 (by decide) (fun c9 => ?_) (fun c9 => ?_)
      · have hf := itp c9 hf
        refine lv_iconst (v := (-1)) hx hb dX8_addSection_50 (by decide) ?_
        exact retI X hr hk Z hf dX8_addSection_51
      · have hf := itn c9 hf
        refine lv_iload hx hb dX8_addSection_28 (lv_at hl 4 rfl) ?_
        refine lv_if_lt (tgt := 50) hx hb dX8_addSection_30 (by decide) (fun c10 => ?_) (fun c10 => ?_)
        · have hf := itp c10 hf
          refine lv_iconst (v := (-1)) hx hb dX8_addSection_50 (by decide) ?_
          exact retI X hr hk Z hf dX8_addSection_51
        · have hf := itn c10 hf
          refine lv_iload_n hx hb dX8_addSection_33 rfl (lv_at hl 3 rfl) ?_
          refine lv_i2l (v := a3.toInt64) hx hb dX8_addSection_34 rfl ?_
          refine lv_iload hx hb dX8_addSection_35 (lv_at hl 4 rfl) ?_
          refine lv_i2l (v := a4.toInt64) hx hb dX8_addSection_37 rfl ?_
          refine lv_ladd hx hb dX8_addSection_38 ?_
          refine lv_aload_n hx hb dX8_addSection_39 rfl (lv_at hl 0 rfl) ?_
          refine gf_RX8_28 X Z dX8_addSection_40 ?_
          refine lv_iload_n hx hb dX8_addSection_43 rfl (lv_at hl 2 rfl) ?_
          obtain ⟨g11, hf⟩ := gd_s hf
          refine x_iald (k := 9) X Z sh_9 g11 dX8_addSection_44 ?_
          refine lv_i2l (v := (s6.1 9 a2.toNatClampNeg).toInt64) hx hb dX8_addSection_45 rfl ?_
          refine x_lif_le (tgt := 52) X dX8_addSection_46 dX8_addSection_47 (by decide) (fun c12 => ?_) (fun c12 => ?_)
          · have hf := itp c12 hf
            refine lv_aload_n hx hb dX8_addSection_52 rfl (lv_at hl 0 rfl) ?_
            refine gf_RX8_39 X Z dX8_addSection_53 ?_
            refine lv_aload_n hx hb dX8_addSection_56 rfl (lv_at hl 1 rfl) ?_
            obtain ⟨r15, s14, h13, hf⟩ := bi_s hf
            refine goI Z (run_V (As := [.ref (h k1)]) (rest := []) X Z (c_X5_add l D h cy names_12 hR1 s6 (r15, s14) h13 _) lk_RX8_87 ⟨by decide, by decide⟩ (rv_NamesS names_12) rfl hl.1 rfl (Nat.le_of_ble_eq_true rfl) ⟨Nat.le_refl _, Nat.le_refl _⟩ dX8_addSection_57) (fun H locs Z => ?_)
            refine lv_istore (lv' := [(5, .int r15), (0, .ref (h 5)), (1, .ref (h k1)), (2, .int a2), (3, .int a3), (4, .int a4)]) hx hb dX8_addSection_60 hl (by decide) rfl (fun ls hl => ?_)
            refine lv_aload_n hx hb dX8_addSection_62 rfl (lv_at hl 1 rfl) ?_
            refine gf_RX8_42 X Z dX8_addSection_63 ?_
            refine lv_iload hx hb dX8_addSection_66 (lv_at hl 0 rfl) ?_
            refine lv_iload_n hx hb dX8_addSection_68 rfl (lv_at hl 3 rfl) ?_
            obtain ⟨g16, hf⟩ := gd_s hf
            refine x_iast (k := 15) X Z sh_15 g16 dX8_addSection_69 (fun s17 H locs es17 Z => ?_)
            have hf := zn_e es17 hf
            refine lv_aload_n hx hb dX8_addSection_70 rfl (lv_at hl 1 rfl) ?_
            refine gf_RX8_45 X Z dX8_addSection_71 ?_
            refine lv_iload hx hb dX8_addSection_74 (lv_at hl 0 rfl) ?_
            refine lv_iload_n hx hb dX8_addSection_76 rfl (lv_at hl 4 rfl) ?_
            obtain ⟨g18, hf⟩ := gd_s hf
            refine x_iast (k := 16) X Z sh_16 g18 dX8_addSection_77 (fun s19 H locs es19 Z => ?_)
            have hf := zn_e es19 hf
            refine lv_aload_n hx hb dX8_addSection_78 rfl (lv_at hl 1 rfl) ?_
            refine gf_RX8_48 X Z dX8_addSection_79 ?_
            refine lv_iload hx hb dX8_addSection_82 (lv_at hl 0 rfl) ?_
            refine lv_iload hx hb dX8_addSection_84 (lv_at hl 5 rfl) ?_
            obtain ⟨g20, hf⟩ := gd_s hf
            refine x_iast (k := 17) X Z sh_17 g20 dX8_addSection_86 (fun s21 H locs es21 Z => ?_)
            have hf := zn_e es21 hf
            refine lv_iload hx hb dX8_addSection_87 (lv_at hl 0 rfl) ?_
            refine lv_iconst (v := 1) hx hb dX8_addSection_89 (by decide) ?_
            refine lv_iadd hx hb dX8_addSection_90 ?_
            exact retI X hr hk Z hf dX8_addSection_91
          · have hf := itn c12 hf
            refine lv_iconst (v := (-1)) hx hb dX8_addSection_50 (by decide) ?_
            exact retI X hr hk Z hf dX8_addSection_51
    · have hf := itp c8 hf
      refine lv_iconst (v := (-1)) hx hb dX8_addSection_22 (by decide) ?_
      exact retI X hr hk Z hf dX8_addSection_23

set_option maxRecDepth 100000 in
set_option maxHeartbeats 4000000 in
theorem c_X8_addSymbol (l : Launch) (D : va_G) (h : Nat → Nat) (cy : Nat → ClassId) {k1 n1 : Nat} (hR1 : RowS k1 n1) (a2 : Int32) (a3 : Int32) (σ : St) (y : Int32 × St) (hf : f_X8_addSymbol k1 n1 a2 a3 σ = some y) : CI l yX8_addSymbol cX8_addSymbol 5 (some .int) 2 44 D h cy [.ref (h 5), .ref (h k1), .int a2, .int a3] σ y := by
  refine ent (Qc := fun sz => QI D h cy sz y) (by decide) (Nat.le_of_ble_eq_true rfl) ?_
  intro p e s m below meth c ls X Z hr hk hl
  have X : Cx p s m _ c D h cy RX8 cX8_addSymbol 5 := X
  have hx := X.x
  have hb := X.b
  have hl : lv_has ls 5 [(0, .ref (h 5)), (1, .ref (h k1)), (2, .int a2), (3, .int a3)] := hl
  unfold f_X8_addSymbol at hf
  refine lv_aload_n hx hb dX8_addSymbol_0 rfl (lv_at hl 0 rfl) ?_
  refine gf_RX8_51 X Z dX8_addSymbol_1 ?_
  refine lv_aload_n hx hb dX8_addSymbol_4 rfl (lv_at hl 1 rfl) ?_
  obtain ⟨r3, s2, h1, hf⟩ := bi_s hf
  refine goI Z (run_V (As := [.ref (h k1)]) (rest := []) X Z (c_X5_takes l D h cy names_18 hR1 σ (r3, s2) h1 _) lk_RX8_83 ⟨by decide, by decide⟩ (rv_NamesS names_18) rfl hl.1 rfl (Nat.le_of_ble_eq_true rfl) ⟨Nat.le_refl _, Nat.le_refl _⟩ dX8_addSymbol_5) (fun H locs Z => ?_)
  refine lv_if_eq (tgt := 29) hx hb dX8_addSymbol_8 (by decide) (fun c4 => ?_) (fun c4 => ?_)
  · have hf := itp c4 hf
    refine lv_iconst (v := (-1)) hx hb dX8_addSymbol_29 (by decide) ?_
    exact retI X hr hk Z hf dX8_addSymbol_30
  · have hf := itn c4 hf
    refine lv_iload_n hx hb dX8_addSymbol_11 rfl (lv_at hl 2 rfl) ?_
    refine lv_iconst (v := 1) hx hb dX8_addSymbol_12 (by decide) ?_
    refine lv_icmp_lt (tgt := 29) hx hb dX8_addSymbol_13 (by decide) (fun c5 => ?_) (fun c5 => ?_)
    · have hf := itp c5 hf
      refine lv_iconst (v := (-1)) hx hb dX8_addSymbol_29 (by decide) ?_
      exact retI X hr hk Z hf dX8_addSymbol_30
    · have hf := itn c5 hf
      refine lv_aload_n hx hb dX8_addSymbol_16 rfl (lv_at hl 0 rfl) ?_
      refine gf_RX8_39 X Z dX8_addSymbol_17 ?_
      refine lv_iload_n hx hb dX8_addSymbol_20 rfl (lv_at hl 2 rfl) ?_
      refine lv_iconst (v := 1) hx hb dX8_addSymbol_21 (by decide) ?_
      refine lv_isub hx hb dX8_addSymbol_22 ?_
      obtain ⟨r8, s7, h6, hf⟩ := bi_s hf
      refine goI Z (run_V (As := [.int ((a2 - (1 : Int32)))]) (rest := []) X Z (c_X5_has l D h cy names_12 ((a2 - (1 : Int32))) s2 (r8, s7) h6 _) lk_RX8_97 ⟨by decide, by decide⟩ (rv_NamesS names_12) rfl hl.1 rfl (Nat.le_of_ble_eq_true rfl) ⟨Nat.le_refl _, Nat.le_refl _⟩ dX8_addSymbol_23) (fun H locs Z => ?_)
      refine lv_if_ne (tgt := 31) hx hb dX8_addSymbol_26 (by decide) (fun c9 => ?_) (fun c9 => ?_)
      · have hf := itn c9 hf
        refine lv_iload_n hx hb dX8_addSymbol_31 rfl (lv_at hl 3 rfl) ?_
        refine lv_if_lt (tgt := 47) hx hb dX8_addSymbol_32 (by decide) (fun c10 => ?_) (fun c10 => ?_)
        · have hf := itp c10 hf
          refine lv_iconst (v := (-1)) hx hb dX8_addSymbol_47 (by decide) ?_
          exact retI X hr hk Z hf dX8_addSymbol_48
        · have hf := itn c10 hf
          refine lv_iload_n hx hb dX8_addSymbol_35 rfl (lv_at hl 3 rfl) ?_
          refine lv_aload_n hx hb dX8_addSymbol_36 rfl (lv_at hl 0 rfl) ?_
          refine gf_RX8_48 X Z dX8_addSymbol_37 ?_
          refine lv_iload_n hx hb dX8_addSymbol_40 rfl (lv_at hl 2 rfl) ?_
          refine lv_iconst (v := 1) hx hb dX8_addSymbol_41 (by decide) ?_
          refine lv_isub hx hb dX8_addSymbol_42 ?_
          obtain ⟨g11, hf⟩ := gd_s hf
          refine x_iald (k := 17) X Z sh_17 g11 dX8_addSymbol_43 ?_
          refine lv_icmp_le (tgt := 49) hx hb dX8_addSymbol_44 (by decide) (fun c12 => ?_) (fun c12 => ?_)
          · have hf := itp c12 hf
            refine lv_aload_n hx hb dX8_addSymbol_49 rfl (lv_at hl 0 rfl) ?_
            refine gf_RX8_51 X Z dX8_addSymbol_50 ?_
            refine lv_aload_n hx hb dX8_addSymbol_53 rfl (lv_at hl 1 rfl) ?_
            obtain ⟨r15, s14, h13, hf⟩ := bi_s hf
            refine goI Z (run_V (As := [.ref (h k1)]) (rest := []) X Z (c_X5_add l D h cy names_18 hR1 s7 (r15, s14) h13 _) lk_RX8_87 ⟨by decide, by decide⟩ (rv_NamesS names_18) rfl hl.1 rfl (Nat.le_of_ble_eq_true rfl) ⟨Nat.le_refl _, Nat.le_refl _⟩ dX8_addSymbol_54) (fun H locs Z => ?_)
            refine lv_istore (lv' := [(4, .int r15), (0, .ref (h 5)), (1, .ref (h k1)), (2, .int a2), (3, .int a3)]) hx hb dX8_addSymbol_57 hl (by decide) rfl (fun ls hl => ?_)
            refine lv_aload_n hx hb dX8_addSymbol_59 rfl (lv_at hl 1 rfl) ?_
            refine gf_RX8_54 X Z dX8_addSymbol_60 ?_
            refine lv_iload hx hb dX8_addSymbol_63 (lv_at hl 0 rfl) ?_
            refine lv_iload_n hx hb dX8_addSymbol_65 rfl (lv_at hl 3 rfl) ?_
            obtain ⟨g16, hf⟩ := gd_s hf
            refine x_iast (k := 21) X Z sh_21 g16 dX8_addSymbol_66 (fun s17 H locs es17 Z => ?_)
            have hf := zn_e es17 hf
            refine lv_aload_n hx hb dX8_addSymbol_67 rfl (lv_at hl 1 rfl) ?_
            refine gf_RX8_57 X Z dX8_addSymbol_68 ?_
            refine lv_iload hx hb dX8_addSymbol_71 (lv_at hl 0 rfl) ?_
            refine lv_iload_n hx hb dX8_addSymbol_73 rfl (lv_at hl 4 rfl) ?_
            obtain ⟨g18, hf⟩ := gd_s hf
            refine x_iast (k := 22) X Z sh_22 g18 dX8_addSymbol_74 (fun s19 H locs es19 Z => ?_)
            have hf := zn_e es19 hf
            refine lv_iload hx hb dX8_addSymbol_75 (lv_at hl 0 rfl) ?_
            exact retI X hr hk Z hf dX8_addSymbol_77
          · have hf := itn c12 hf
            refine lv_iconst (v := (-1)) hx hb dX8_addSymbol_47 (by decide) ?_
            exact retI X hr hk Z hf dX8_addSymbol_48
      · have hf := itp c9 hf
        refine lv_iconst (v := (-1)) hx hb dX8_addSymbol_29 (by decide) ?_
        exact retI X hr hk Z hf dX8_addSymbol_30

set_option maxRecDepth 100000 in
set_option maxHeartbeats 4000000 in
theorem c_X8_addImport (l : Launch) (D : va_G) (h : Nat → Nat) (cy : Nat → ClassId) {k1 n1 : Nat} (hR1 : RowS k1 n1) (a2 : Int32) (a3 : Int32) (σ : St) (y : Int32 × St) (hf : f_X8_addImport k1 n1 a2 a3 σ = some y) : CI l yX8_addImport cX8_addImport 5 (some .int) 2 44 D h cy [.ref (h 5), .ref (h k1), .int a2, .int a3] σ y := by
  refine ent (Qc := fun sz => QI D h cy sz y) (by decide) (Nat.le_of_ble_eq_true rfl) ?_
  intro p e s m below meth c ls X Z hr hk hl
  have X : Cx p s m _ c D h cy RX8 cX8_addImport 5 := X
  have hx := X.x
  have hb := X.b
  have hl : lv_has ls 5 [(0, .ref (h 5)), (1, .ref (h k1)), (2, .int a2), (3, .int a3)] := hl
  unfold f_X8_addImport at hf
  refine lv_aload_n hx hb dX8_addImport_0 rfl (lv_at hl 0 rfl) ?_
  refine gf_RX8_60 X Z dX8_addImport_1 ?_
  refine lv_aload_n hx hb dX8_addImport_4 rfl (lv_at hl 1 rfl) ?_
  obtain ⟨r3, s2, h1, hf⟩ := bi_s hf
  refine goI Z (run_V (As := [.ref (h k1)]) (rest := []) X Z (c_X5_takes l D h cy names_23 hR1 σ (r3, s2) h1 _) lk_RX8_83 ⟨by decide, by decide⟩ (rv_NamesS names_23) rfl hl.1 rfl (Nat.le_of_ble_eq_true rfl) ⟨Nat.le_refl _, Nat.le_refl _⟩ dX8_addImport_5) (fun H locs Z => ?_)
  refine lv_if_eq (tgt := 18) hx hb dX8_addImport_8 (by decide) (fun c4 => ?_) (fun c4 => ?_)
  · have hf := itp c4 hf
    refine lv_iconst (v := (-1)) hx hb dX8_addImport_18 (by decide) ?_
    exact retI X hr hk Z hf dX8_addImport_19
  · have hf := itn c4 hf
    refine lv_iload_n hx hb dX8_addImport_11 rfl (lv_at hl 2 rfl) ?_
    obtain ⟨r7, s6, h5, hf⟩ := bi_s hf
    refine goI Z (run_N (As := [.int a2]) (rest := []) X Z (c_X11_isLibrary l D h cy a2 s2 (r7, s6) h5 _) lk_RX8_115 ⟨by decide, by decide⟩ rfl hl.1 rfl (Nat.le_of_ble_eq_true rfl) ⟨Nat.le_refl _, Nat.le_refl _⟩ dX8_addImport_12) (fun H locs Z => ?_)
    refine lv_if_ne (tgt := 20) hx hb dX8_addImport_15 (by decide) (fun c8 => ?_) (fun c8 => ?_)
    · have hf := itn c8 hf
      refine lv_aload_n hx hb dX8_addImport_20 rfl (lv_at hl 0 rfl) ?_
      refine gf_RX8_60 X Z dX8_addImport_21 ?_
      refine lv_aload_n hx hb dX8_addImport_24 rfl (lv_at hl 1 rfl) ?_
      obtain ⟨r11, s10, h9, hf⟩ := bi_s hf
      refine goI Z (run_V (As := [.ref (h k1)]) (rest := []) X Z (c_X5_add l D h cy names_23 hR1 s6 (r11, s10) h9 _) lk_RX8_87 ⟨by decide, by decide⟩ (rv_NamesS names_23) rfl hl.1 rfl (Nat.le_of_ble_eq_true rfl) ⟨Nat.le_refl _, Nat.le_refl _⟩ dX8_addImport_25) (fun H locs Z => ?_)
      refine lv_istore (lv' := [(4, .int r11), (0, .ref (h 5)), (1, .ref (h k1)), (2, .int a2), (3, .int a3)]) hx hb dX8_addImport_28 hl (by decide) rfl (fun ls hl => ?_)
      refine lv_aload_n hx hb dX8_addImport_30 rfl (lv_at hl 1 rfl) ?_
      refine gf_RX8_63 X Z dX8_addImport_31 ?_
      refine lv_iload hx hb dX8_addImport_34 (lv_at hl 0 rfl) ?_
      refine lv_iload_n hx hb dX8_addImport_36 rfl (lv_at hl 3 rfl) ?_
      obtain ⟨g12, hf⟩ := gd_s hf
      refine x_iast (k := 26) X Z sh_26 g12 dX8_addImport_37 (fun s13 H locs es13 Z => ?_)
      have hf := zn_e es13 hf
      refine lv_aload_n hx hb dX8_addImport_38 rfl (lv_at hl 1 rfl) ?_
      refine gf_RX8_66 X Z dX8_addImport_39 ?_
      refine lv_iload hx hb dX8_addImport_42 (lv_at hl 0 rfl) ?_
      refine lv_iload_n hx hb dX8_addImport_44 rfl (lv_at hl 4 rfl) ?_
      obtain ⟨g14, hf⟩ := gd_s hf
      refine x_zast (k := 27) X Z sh_27 g14 dX8_addImport_45 (fun s15 H locs es15 Z => ?_)
      have hf := zn_e es15 hf
      refine lv_iload hx hb dX8_addImport_46 (lv_at hl 0 rfl) ?_
      exact retI X hr hk Z hf dX8_addImport_48
    · have hf := itp c8 hf
      refine lv_iconst (v := (-1)) hx hb dX8_addImport_18 (by decide) ?_
      exact retI X hr hk Z hf dX8_addImport_19

set_option maxRecDepth 100000 in
set_option maxHeartbeats 4000000 in
theorem c_X8_hasRoom (l : Launch) (D : va_G) (h : Nat → Nat) (cy : Nat → ClassId) (a1 : Int32) (a2 : Int32) (σ : St) (y : Int32 × St) (hf : f_X8_hasRoom a1 a2 σ = some y) : CI l yX8_hasRoom cX8_hasRoom 3 (some .boolean) 1 21 D h cy [.ref (h 5), .int a1, .int a2] σ y := by
  refine ent (Qc := fun sz => QI D h cy sz y) (by decide) (Nat.le_of_ble_eq_true rfl) ?_
  intro p e s m below meth c ls X Z hr hk hl
  have X : Cx p s m _ c D h cy RX8 cX8_hasRoom 3 := X
  have hx := X.x
  have hb := X.b
  have hl : lv_has ls 3 [(0, .ref (h 5)), (1, .int a1), (2, .int a2)] := hl
  unfold f_X8_hasRoom at hf
  refine lv_aload_n hx hb dX8_hasRoom_0 rfl (lv_at hl 0 rfl) ?_
  refine gf_RX8_24 X Z dX8_hasRoom_1 ?_
  refine lv_iload_n hx hb dX8_hasRoom_4 rfl (lv_at hl 1 rfl) ?_
  obtain ⟨r3, s2, h1, hf⟩ := bi_s hf
  refine goI Z (run_V (As := [.int a1]) (rest := []) X Z (c_X5_has l D h cy names_6 a1 σ (r3, s2) h1 _) lk_RX8_97 ⟨by decide, by decide⟩ (rv_NamesS names_6) rfl hl.1 rfl (Nat.le_of_ble_eq_true rfl) ⟨Nat.le_refl _, Nat.le_refl _⟩ dX8_hasRoom_5) (fun H locs Z => ?_)
  refine lv_if_eq (tgt := 56) hx hb dX8_hasRoom_8 (by decide) (fun c4 => ?_) (fun c4 => ?_)
  · have hf := itp c4 hf
    refine lv_iconst (v := 0) hx hb dX8_hasRoom_56 (by decide) ?_
    exact retZ X hr hk Z (by decide) hf dX8_hasRoom_57
  · have hf := itn c4 hf
    refine lv_iload_n hx hb dX8_hasRoom_11 rfl (lv_at hl 2 rfl) ?_
    refine lv_if_lt (tgt := 56) hx hb dX8_hasRoom_12 (by decide) (fun c5 => ?_) (fun c5 => ?_)
    · have hf := itp c5 hf
      refine lv_iconst (v := 0) hx hb dX8_hasRoom_56 (by decide) ?_
      exact retZ X hr hk Z (by decide) hf dX8_hasRoom_57
    · have hf := itn c5 hf
      refine lv_iload_n hx hb dX8_hasRoom_15 rfl (lv_at hl 2 rfl) ?_
      refine lv_iconst (v := 4) hx hb dX8_hasRoom_16 (by decide) ?_
      refine lv_irem hx hb dX8_hasRoom_17 (by decide) ?_
      refine lv_if_ne (tgt := 56) hx hb dX8_hasRoom_18 (by decide) (fun c6 => ?_) (fun c6 => ?_)
      · have hf := itn c6 hf
        refine lv_iconst (v := 0) hx hb dX8_hasRoom_56 (by decide) ?_
        exact retZ X hr hk Z (by decide) hf dX8_hasRoom_57
      · have hf := itp c6 hf
        refine lv_iload_n hx hb dX8_hasRoom_21 rfl (lv_at hl 2 rfl) ?_
        refine lv_aload_n hx hb dX8_hasRoom_22 rfl (lv_at hl 0 rfl) ?_
        refine gf_RX8_28 X Z dX8_hasRoom_23 ?_
        refine lv_iload_n hx hb dX8_hasRoom_26 rfl (lv_at hl 1 rfl) ?_
        obtain ⟨g7, hf⟩ := gd_s hf
        refine x_iald (k := 9) X Z sh_9 g7 dX8_hasRoom_27 ?_
        refine lv_bipush (v := 8) hx hb dX8_hasRoom_28 (by decide) ?_
        refine lv_isub hx hb dX8_hasRoom_30 ?_
        refine lv_icmp_gt (tgt := 56) hx hb dX8_hasRoom_31 (by decide) (fun c8 => ?_) (fun c8 => ?_)
        · have hf := itp c8 hf
          refine lv_iconst (v := 0) hx hb dX8_hasRoom_56 (by decide) ?_
          exact retZ X hr hk Z (by decide) hf dX8_hasRoom_57
        · have hf := itn c8 hf
          refine lv_iload_n hx hb dX8_hasRoom_34 rfl (lv_at hl 2 rfl) ?_
          refine lv_aload_n hx hb dX8_hasRoom_35 rfl (lv_at hl 0 rfl) ?_
          refine gf_RX8_16 X Z dX8_hasRoom_36 ?_
          refine lv_iconst (v := 1) hx hb dX8_hasRoom_39 (by decide) ?_
          refine lv_isub hx hb dX8_hasRoom_40 ?_
          refine lv_iand hx hb dX8_hasRoom_41 ?_
          refine lv_bipush (v := 8) hx hb dX8_hasRoom_42 (by decide) ?_
          refine lv_iadd hx hb dX8_hasRoom_44 ?_
          refine lv_aload_n hx hb dX8_hasRoom_45 rfl (lv_at hl 0 rfl) ?_
          refine gf_RX8_16 X Z dX8_hasRoom_46 ?_
          refine lv_icmp_gt (tgt := 56) hx hb dX8_hasRoom_49 (by decide) (fun c9 => ?_) (fun c9 => ?_)
          · have hf := itp c9 hf
            refine lv_iconst (v := 0) hx hb dX8_hasRoom_56 (by decide) ?_
            exact retZ X hr hk Z (by decide) hf dX8_hasRoom_57
          · have hf := itn c9 hf
            refine lv_iconst (v := 1) hx hb dX8_hasRoom_52 (by decide) ?_
            refine lv_goto (tgt := 57) hx hb dX8_hasRoom_53 (by decide) ?_
            exact retZ X hr hk Z (by decide) hf dX8_hasRoom_57

set_option maxRecDepth 100000 in
set_option maxHeartbeats 4000000 in
theorem c_X8_slot (l : Launch) (D : va_G) (h : Nat → Nat) (cy : Nat → ClassId) (a0 : Int32) (a1 : Int32) (σ : St) (y : Int32 × St) (hf : f_X8_slot a0 a1 σ = some y) : CI l yX8_slot cX8_slot 2 (some .int) 0 0 D h cy [.int a0, .int a1] σ y := by
  refine ent (Qc := fun sz => QI D h cy sz y) (by decide) (Nat.le_of_ble_eq_true rfl) ?_
  intro p e s m below meth c ls X Z hr hk hl
  have X : Cx p s m _ c D h cy RX8 cX8_slot 2 := X
  have hx := X.x
  have hb := X.b
  have hl : lv_has ls 2 [(0, .int a0), (1, .int a1)] := hl
  unfold f_X8_slot at hf
  refine lv_iload_n hx hb dX8_slot_0 rfl (lv_at hl 0 rfl) ?_
  refine lv_sipush (v := 1024) hx hb dX8_slot_1 (by decide) ?_
  refine lv_imul hx hb dX8_slot_4 ?_
  refine lv_iload_n hx hb dX8_slot_5 rfl (lv_at hl 1 rfl) ?_
  refine lv_iadd hx hb dX8_slot_6 ?_
  refine lv_iconst (v := 4) hx hb dX8_slot_7 (by decide) ?_
  refine lv_idiv hx hb dX8_slot_8 (by decide) ?_
  exact retI X hr hk Z hf dX8_slot_9

set_option maxRecDepth 100000 in
set_option maxHeartbeats 4000000 in
theorem c_X8_hasPointer (l : Launch) (D : va_G) (h : Nat → Nat) (cy : Nat → ClassId) (a1 : Int32) (a2 : Int32) (σ : St) (y : Int32 × St) (hf : f_X8_hasPointer a1 a2 σ = some y) : CI l yX8_hasPointer cX8_hasPointer 3 (some .boolean) 1 21 D h cy [.ref (h 5), .int a1, .int a2] σ y := by
  refine ent (Qc := fun sz => QI D h cy sz y) (by decide) (Nat.le_of_ble_eq_true rfl) ?_
  intro p e s m below meth c ls X Z hr hk hl
  have X : Cx p s m _ c D h cy RX8 cX8_hasPointer 3 := X
  have hx := X.x
  have hb := X.b
  have hl : lv_has ls 3 [(0, .ref (h 5)), (1, .int a1), (2, .int a2)] := hl
  unfold f_X8_hasPointer at hf
  refine lv_aload_n hx hb dX8_hasPointer_0 rfl (lv_at hl 0 rfl) ?_
  refine gf_RX8_24 X Z dX8_hasPointer_1 ?_
  refine lv_iload_n hx hb dX8_hasPointer_4 rfl (lv_at hl 1 rfl) ?_
  obtain ⟨r3, s2, h1, hf⟩ := bi_s hf
  refine goI Z (run_V (As := [.int a1]) (rest := []) X Z (c_X5_has l D h cy names_6 a1 σ (r3, s2) h1 _) lk_RX8_97 ⟨by decide, by decide⟩ (rv_NamesS names_6) rfl hl.1 rfl (Nat.le_of_ble_eq_true rfl) ⟨Nat.le_refl _, Nat.le_refl _⟩ dX8_hasPointer_5) (fun H locs Z => ?_)
  refine lv_if_eq (tgt := 45) hx hb dX8_hasPointer_8 (by decide) (fun c4 => ?_) (fun c4 => ?_)
  · have hf := itp c4 hf
    refine lv_iconst (v := 0) hx hb dX8_hasPointer_45 (by decide) ?_
    exact retZ X hr hk Z (by decide) hf dX8_hasPointer_46
  · have hf := itn c4 hf
    refine lv_iload_n hx hb dX8_hasPointer_11 rfl (lv_at hl 2 rfl) ?_
    refine lv_if_lt (tgt := 45) hx hb dX8_hasPointer_12 (by decide) (fun c5 => ?_) (fun c5 => ?_)
    · have hf := itp c5 hf
      refine lv_iconst (v := 0) hx hb dX8_hasPointer_45 (by decide) ?_
      exact retZ X hr hk Z (by decide) hf dX8_hasPointer_46
    · have hf := itn c5 hf
      refine lv_iload_n hx hb dX8_hasPointer_15 rfl (lv_at hl 2 rfl) ?_
      refine lv_sipush (v := 1024) hx hb dX8_hasPointer_16 (by decide) ?_
      refine lv_icmp_ge (tgt := 45) hx hb dX8_hasPointer_19 (by decide) (fun c6 => ?_) (fun c6 => ?_)
      · have hf := itp c6 hf
        refine lv_iconst (v := 0) hx hb dX8_hasPointer_45 (by decide) ?_
        exact retZ X hr hk Z (by decide) hf dX8_hasPointer_46
      · have hf := itn c6 hf
        refine lv_iload_n hx hb dX8_hasPointer_22 rfl (lv_at hl 2 rfl) ?_
        refine lv_iconst (v := 4) hx hb dX8_hasPointer_23 (by decide) ?_
        refine lv_irem hx hb dX8_hasPointer_24 (by decide) ?_
        refine lv_if_ne (tgt := 45) hx hb dX8_hasPointer_25 (by decide) (fun c7 => ?_) (fun c7 => ?_)
        · have hf := itn c7 hf
          refine lv_iconst (v := 0) hx hb dX8_hasPointer_45 (by decide) ?_
          exact retZ X hr hk Z (by decide) hf dX8_hasPointer_46
        · have hf := itp c7 hf
          refine lv_aload_n hx hb dX8_hasPointer_28 rfl (lv_at hl 0 rfl) ?_
          refine gf_RX8_70 X Z dX8_hasPointer_29 ?_
          refine lv_iload_n hx hb dX8_hasPointer_32 rfl (lv_at hl 1 rfl) ?_
          refine lv_iload_n hx hb dX8_hasPointer_33 rfl (lv_at hl 2 rfl) ?_
          obtain ⟨r10, s9, h8, hf⟩ := bi_s hf
          refine goI Z (run_S (As := [.int a1, .int a2]) (rest := [.ref (h 28)]) X Z (c_X8_slot l D h cy a1 a2 s2 (r10, s9) h8 _) lk_RX8_125 ⟨by decide, by decide⟩ rfl hl.1 rfl (Nat.le_of_ble_eq_true rfl) ⟨Nat.le_refl _, Nat.le_refl _⟩ dX8_hasPointer_34) (fun H locs Z => ?_)
          obtain ⟨g11, hf⟩ := gd_s hf
          refine x_zald (k := 28) X Z sh_28 g11 dX8_hasPointer_37 ?_
          refine lv_if_eq (tgt := 45) hx hb dX8_hasPointer_38 (by decide) (fun c12 => ?_) (fun c12 => ?_)
          · have hf := itp c12 hf
            refine lv_iconst (v := 0) hx hb dX8_hasPointer_45 (by decide) ?_
            exact retZ X hr hk Z (by decide) hf dX8_hasPointer_46
          · have hf := itn c12 hf
            refine lv_iconst (v := 1) hx hb dX8_hasPointer_41 (by decide) ?_
            refine lv_goto (tgt := 46) hx hb dX8_hasPointer_42 (by decide) ?_
            exact retZ X hr hk Z (by decide) hf dX8_hasPointer_46

set_option maxRecDepth 100000 in
set_option maxHeartbeats 4000000 in
theorem b_X8_setPointer_63 {p : Program} {l : Launch} {e : Env} {s : State} {m : MethodId} {args : Array Value} {below : List Frame} {meth : Method} {c : Code} {D : va_G} {h : Nat → Nat} {cy : Nat → ClassId} (X : Cx p s m args c D h cy RX8 cX8_setPointer 5) (hr : meth.sig.returnType = some .boolean) (hk : meth.locks = false) (x1 : Int32) (x2 : Int32) (x3 : Int64) (σ : St) (y : Int32 × St) (hf : f_X8_setPointer_63 x1 x2 x3 σ = some y) : ∀ (H : Heap) (locs : List Loc) (ls : Array Slot), Zt D h cy s σ H locs → lv_has ls 5 [(0, .ref (h 5)), (1, .int x1), (2, .int x2), (3, .long x3)] → W p l e (rmz 2 43) s m args below meth c H locs 0 0 (EI below args s D h cy y) (F0 m 63 ls []) := by
  intro H locs ls Z hl
  have hx := X.x
  have hb := X.b
  unfold f_X8_setPointer_63 at hf
  refine lv_aload_n hx hb dX8_setPointer_63 rfl (lv_at hl 0 rfl) ?_
  refine gf_RX8_70 X Z dX8_setPointer_64 ?_
  refine lv_iload_n hx hb dX8_setPointer_67 rfl (lv_at hl 1 rfl) ?_
  refine lv_iload_n hx hb dX8_setPointer_68 rfl (lv_at hl 2 rfl) ?_
  obtain ⟨r19, s18, h17, hf⟩ := bi_s hf
  refine goI Z (run_S (As := [.int x1, .int x2]) (rest := [.ref (h 28)]) X Z (c_X8_slot l D h cy x1 x2 σ (r19, s18) h17 _) lk_RX8_125 ⟨by decide, by decide⟩ rfl hl.1 rfl (Nat.le_of_ble_eq_true rfl) ⟨Nat.le_refl _, Nat.le_refl _⟩ dX8_setPointer_69) (fun H locs Z => ?_)
  refine lv_iconst (v := 1) hx hb dX8_setPointer_72 (by decide) ?_
  obtain ⟨g20, hf⟩ := gd_s hf
  refine x_zast (k := 28) X Z sh_28 g20 dX8_setPointer_73 (fun s21 H locs es21 Z => ?_)
  have hf := zn_e es21 hf
  refine lv_aload_n hx hb dX8_setPointer_74 rfl (lv_at hl 0 rfl) ?_
  refine gf_RX8_73 X Z dX8_setPointer_75 ?_
  refine lv_iload_n hx hb dX8_setPointer_78 rfl (lv_at hl 1 rfl) ?_
  refine lv_iload_n hx hb dX8_setPointer_79 rfl (lv_at hl 2 rfl) ?_
  obtain ⟨r24, s23, h22, hf⟩ := bi_s hf
  refine goI Z (run_S (As := [.int x1, .int x2]) (rest := [.ref (h 29)]) X Z (c_X8_slot l D h cy x1 x2 s21 (r24, s23) h22 _) lk_RX8_125 ⟨by decide, by decide⟩ rfl hl.1 rfl (Nat.le_of_ble_eq_true rfl) ⟨Nat.le_refl _, Nat.le_refl _⟩ dX8_setPointer_80) (fun H locs Z => ?_)
  refine lv_lload_n hx hb dX8_setPointer_83 rfl (lv_at hl 3 rfl) ?_
  obtain ⟨g25, hf⟩ := gd_s hf
  refine x_last (k := 29) X Z sh_29 g25 dX8_setPointer_84 (fun s26 H locs es26 Z => ?_)
  have hf := zn_e es26 hf
  refine lv_iconst (v := 1) hx hb dX8_setPointer_85 (by decide) ?_
  exact retZ X hr hk Z (by decide) hf dX8_setPointer_86

set_option maxRecDepth 100000 in
set_option maxHeartbeats 4000000 in
theorem c_X8_setPointer (l : Launch) (D : va_G) (h : Nat → Nat) (cy : Nat → ClassId) (a1 : Int32) (a2 : Int32) (a3 : Int64) (σ : St) (y : Int32 × St) (hf : f_X8_setPointer a1 a2 a3 σ = some y) : CI l yX8_setPointer cX8_setPointer 5 (some .boolean) 2 43 D h cy [.ref (h 5), .int a1, .int a2, .long a3] σ y := by
  refine ent (Qc := fun sz => QI D h cy sz y) (by decide) (Nat.le_of_ble_eq_true rfl) ?_
  intro p e s m below meth c ls X Z hr hk hl
  have X : Cx p s m _ c D h cy RX8 cX8_setPointer 5 := X
  have hx := X.x
  have hb := X.b
  have hl : lv_has ls 5 [(0, .ref (h 5)), (1, .int a1), (2, .int a2), (3, .long a3)] := hl
  unfold f_X8_setPointer at hf
  refine lv_aload_n hx hb dX8_setPointer_0 rfl (lv_at hl 0 rfl) ?_
  refine lv_iload_n hx hb dX8_setPointer_1 rfl (lv_at hl 1 rfl) ?_
  refine lv_iload_n hx hb dX8_setPointer_2 rfl (lv_at hl 2 rfl) ?_
  obtain ⟨r3, s2, h1, hf⟩ := bi_s hf
  refine goI Z (run_V (As := [.int a1, .int a2]) (rest := []) X Z (c_X8_hasRoom l D h cy a1 a2 σ (r3, s2) h1 _) lk_RX8_118 ⟨by decide, by decide⟩ rv_5 rfl hl.1 rfl (Nat.le_of_ble_eq_true rfl) ⟨Nat.le_refl _, Nat.le_refl _⟩ dX8_setPointer_3) (fun H locs Z => ?_)
  refine lv_if_eq (tgt := 31) hx hb dX8_setPointer_6 (by decide) (fun c4 => ?_) (fun c4 => ?_)
  · have hf := itp c4 hf
    refine lv_iconst (v := 0) hx hb dX8_setPointer_31 (by decide) ?_
    exact retZ X hr hk Z (by decide) hf dX8_setPointer_32
  · have hf := itn c4 hf
    refine lv_aload_n hx hb dX8_setPointer_9 rfl (lv_at hl 0 rfl) ?_
    refine lv_iload_n hx hb dX8_setPointer_10 rfl (lv_at hl 1 rfl) ?_
    refine lv_iload_n hx hb dX8_setPointer_11 rfl (lv_at hl 2 rfl) ?_
    refine lv_iconst (v := 4) hx hb dX8_setPointer_12 (by decide) ?_
    refine lv_isub hx hb dX8_setPointer_13 ?_
    obtain ⟨r7, s6, h5, hf⟩ := bi_s hf
    refine goI Z (run_V (As := [.int a1, .int ((a2 - (4 : Int32)))]) (rest := []) X Z (c_X8_hasPointer l D h cy a1 ((a2 - (4 : Int32))) s2 (r7, s6) h5 _) lk_RX8_122 ⟨by decide, by decide⟩ rv_5 rfl hl.1 rfl (Nat.le_of_ble_eq_true rfl) ⟨Nat.le_refl _, Nat.le_refl _⟩ dX8_setPointer_14) (fun H locs Z => ?_)
    refine lv_if_ne (tgt := 31) hx hb dX8_setPointer_17 (by decide) (fun c8 => ?_) (fun c8 => ?_)
    · have hf := itn c8 hf
      refine lv_iconst (v := 0) hx hb dX8_setPointer_31 (by decide) ?_
      exact retZ X hr hk Z (by decide) hf dX8_setPointer_32
    · have hf := itp c8 hf
      refine lv_aload_n hx hb dX8_setPointer_20 rfl (lv_at hl 0 rfl) ?_
      refine lv_iload_n hx hb dX8_setPointer_21 rfl (lv_at hl 1 rfl) ?_
      refine lv_iload_n hx hb dX8_setPointer_22 rfl (lv_at hl 2 rfl) ?_
      refine lv_iconst (v := 4) hx hb dX8_setPointer_23 (by decide) ?_
      refine lv_iadd hx hb dX8_setPointer_24 ?_
      obtain ⟨r11, s10, h9, hf⟩ := bi_s hf
      refine goI Z (run_V (As := [.int a1, .int ((a2 + (4 : Int32)))]) (rest := []) X Z (c_X8_hasPointer l D h cy a1 ((a2 + (4 : Int32))) s6 (r11, s10) h9 _) lk_RX8_122 ⟨by decide, by decide⟩ rv_5 rfl hl.1 rfl (Nat.le_of_ble_eq_true rfl) ⟨Nat.le_refl _, Nat.le_refl _⟩ dX8_setPointer_25) (fun H locs Z => ?_)
      refine lv_if_eq (tgt := 33) hx hb dX8_setPointer_28 (by decide) (fun c12 => ?_) (fun c12 => ?_)
      · have hf := itp c12 hf
        refine lv_aload_n hx hb dX8_setPointer_33 rfl (lv_at hl 0 rfl) ?_
        refine lv_iload_n hx hb dX8_setPointer_34 rfl (lv_at hl 1 rfl) ?_
        refine lv_iload_n hx hb dX8_setPointer_35 rfl (lv_at hl 2 rfl) ?_
        obtain ⟨r15, s14, h13, hf⟩ := bi_s hf
        refine goI Z (run_V (As := [.int a1, .int a2]) (rest := []) X Z (c_X8_hasPointer l D h cy a1 a2 s10 (r15, s14) h13 _) lk_RX8_122 ⟨by decide, by decide⟩ rv_5 rfl hl.1 rfl (Nat.le_of_ble_eq_true rfl) ⟨Nat.le_refl _, Nat.le_refl _⟩ dX8_setPointer_36) (fun H locs Z => ?_)
        refine lv_if_ne (tgt := 63) hx hb dX8_setPointer_39 (by decide) (fun c16 => ?_) (fun c16 => ?_)
        · have hf := itn c16 hf
          exact b_X8_setPointer_63 X hr hk a1 a2 a3 s14 _ hf _ _ _ Z (lv_sub hl [0, 1, 2, 3] rfl)
        · have hf := itp c16 hf
          refine lv_aload_n hx hb dX8_setPointer_42 rfl (lv_at hl 0 rfl) ?_
          refine gf_RX8_77 X Z dX8_setPointer_43 ?_
          refine lv_bipush (v := 100) hx hb dX8_setPointer_46 (by decide) ?_
          refine lv_icmp_lt (tgt := 53) hx hb dX8_setPointer_48 (by decide) (fun c27 => ?_) (fun c27 => ?_)
          · have hf := itp c27 hf
            refine lv_aload_n hx hb dX8_setPointer_53 rfl (lv_at hl 0 rfl) ?_
            refine lv_dup hx hb dX8_setPointer_54 rfl ?_
            refine gf_RX8_77 X Z dX8_setPointer_55 ?_
            refine lv_iconst (v := 1) hx hb dX8_setPointer_58 (by decide) ?_
            refine lv_iadd hx hb dX8_setPointer_59 ?_
            refine pf_RX8_77 X Z dX8_setPointer_60 (fun s28 H locs es28 Z => ?_)
            have hf := zn_e es28 hf
            exact b_X8_setPointer_63 X hr hk a1 a2 a3 s28 _ hf _ _ _ Z (lv_sub hl [0, 1, 2, 3] rfl)
          · have hf := itn c27 hf
            refine lv_iconst (v := 0) hx hb dX8_setPointer_51 (by decide) ?_
            exact retZ X hr hk Z (by decide) hf dX8_setPointer_52
      · have hf := itn c12 hf
        refine lv_iconst (v := 0) hx hb dX8_setPointer_31 (by decide) ?_
        exact retZ X hr hk Z (by decide) hf dX8_setPointer_32

set_option maxRecDepth 100000 in
set_option maxHeartbeats 4000000 in
theorem c_X8_removePointer (l : Launch) (D : va_G) (h : Nat → Nat) (cy : Nat → ClassId) (a1 : Int32) (a2 : Int32) (σ : St) (y : Int32 × St) (hf : f_X8_removePointer a1 a2 σ = some y) : CI l yX8_removePointer cX8_removePointer 3 (some .boolean) 2 43 D h cy [.ref (h 5), .int a1, .int a2] σ y := by
  refine ent (Qc := fun sz => QI D h cy sz y) (by decide) (Nat.le_of_ble_eq_true rfl) ?_
  intro p e s m below meth c ls X Z hr hk hl
  have X : Cx p s m _ c D h cy RX8 cX8_removePointer 3 := X
  have hx := X.x
  have hb := X.b
  have hl : lv_has ls 3 [(0, .ref (h 5)), (1, .int a1), (2, .int a2)] := hl
  unfold f_X8_removePointer at hf
  refine lv_aload_n hx hb dX8_removePointer_0 rfl (lv_at hl 0 rfl) ?_
  refine lv_iload_n hx hb dX8_removePointer_1 rfl (lv_at hl 1 rfl) ?_
  refine lv_iload_n hx hb dX8_removePointer_2 rfl (lv_at hl 2 rfl) ?_
  obtain ⟨r3, s2, h1, hf⟩ := bi_s hf
  refine goI Z (run_V (As := [.int a1, .int a2]) (rest := []) X Z (c_X8_hasPointer l D h cy a1 a2 σ (r3, s2) h1 _) lk_RX8_122 ⟨by decide, by decide⟩ rv_5 rfl hl.1 rfl (Nat.le_of_ble_eq_true rfl) ⟨Nat.le_refl _, Nat.le_refl _⟩ dX8_removePointer_3) (fun H locs Z => ?_)
  refine lv_if_ne (tgt := 11) hx hb dX8_removePointer_6 (by decide) (fun c4 => ?_) (fun c4 => ?_)
  · have hf := itn c4 hf
    refine lv_aload_n hx hb dX8_removePointer_11 rfl (lv_at hl 0 rfl) ?_
    refine gf_RX8_70 X Z dX8_removePointer_12 ?_
    refine lv_iload_n hx hb dX8_removePointer_15 rfl (lv_at hl 1 rfl) ?_
    refine lv_iload_n hx hb dX8_removePointer_16 rfl (lv_at hl 2 rfl) ?_
    obtain ⟨r7, s6, h5, hf⟩ := bi_s hf
    refine goI Z (run_S (As := [.int a1, .int a2]) (rest := [.ref (h 28)]) X Z (c_X8_slot l D h cy a1 a2 s2 (r7, s6) h5 _) lk_RX8_125 ⟨by decide, by decide⟩ rfl hl.1 rfl (Nat.le_of_ble_eq_true rfl) ⟨Nat.le_refl _, Nat.le_refl _⟩ dX8_removePointer_17) (fun H locs Z => ?_)
    refine lv_iconst (v := 0) hx hb dX8_removePointer_20 (by decide) ?_
    obtain ⟨g8, hf⟩ := gd_s hf
    refine x_zast (k := 28) X Z sh_28 g8 dX8_removePointer_21 (fun s9 H locs es9 Z => ?_)
    have hf := zn_e es9 hf
    refine lv_aload_n hx hb dX8_removePointer_22 rfl (lv_at hl 0 rfl) ?_
    refine lv_dup hx hb dX8_removePointer_23 rfl ?_
    refine gf_RX8_77 X Z dX8_removePointer_24 ?_
    refine lv_iconst (v := 1) hx hb dX8_removePointer_27 (by decide) ?_
    refine lv_isub hx hb dX8_removePointer_28 ?_
    refine pf_RX8_77 X Z dX8_removePointer_29 (fun s10 H locs es10 Z => ?_)
    have hf := zn_e es10 hf
    refine lv_iconst (v := 1) hx hb dX8_removePointer_32 (by decide) ?_
    exact retZ X hr hk Z (by decide) hf dX8_removePointer_33
  · have hf := itp c4 hf
    refine lv_iconst (v := 0) hx hb dX8_removePointer_9 (by decide) ?_
    exact retZ X hr hk Z (by decide) hf dX8_removePointer_10

set_option maxRecDepth 100000 in
set_option maxHeartbeats 4000000 in
theorem c_X8_bitsAt (l : Launch) (D : va_G) (h : Nat → Nat) (cy : Nat → ClassId) (a1 : Int32) (a2 : Int32) (σ : St) (y : Int64 × St) (hf : f_X8_bitsAt a1 a2 σ = some y) : CL l yX8_bitsAt cX8_bitsAt 3 (some .long) 2 43 D h cy [.ref (h 5), .int a1, .int a2] σ y := by
  refine ent (Qc := fun sz => QL D h cy sz y) (by decide) (Nat.le_of_ble_eq_true rfl) ?_
  intro p e s m below meth c ls X Z hr hk hl
  have X : Cx p s m _ c D h cy RX8 cX8_bitsAt 3 := X
  have hx := X.x
  have hb := X.b
  have hl : lv_has ls 3 [(0, .ref (h 5)), (1, .int a1), (2, .int a2)] := hl
  unfold f_X8_bitsAt at hf
  refine lv_aload_n hx hb dX8_bitsAt_0 rfl (lv_at hl 0 rfl) ?_
  refine lv_iload_n hx hb dX8_bitsAt_1 rfl (lv_at hl 1 rfl) ?_
  refine lv_iload_n hx hb dX8_bitsAt_2 rfl (lv_at hl 2 rfl) ?_
  obtain ⟨r3, s2, h1, hf⟩ := bi_s hf
  refine goI Z (run_V (As := [.int a1, .int a2]) (rest := []) X Z (c_X8_hasPointer l D h cy a1 a2 σ (r3, s2) h1 _) lk_RX8_122 ⟨by decide, by decide⟩ rv_5 rfl hl.1 rfl (Nat.le_of_ble_eq_true rfl) ⟨Nat.le_refl _, Nat.le_refl _⟩ dX8_bitsAt_3) (fun H locs Z => ?_)
  refine lv_if_eq (tgt := 22) hx hb dX8_bitsAt_6 (by decide) (fun c4 => ?_) (fun c4 => ?_)
  · have hf := itp c4 hf
    refine lv_lconst (v := 0) hx hb dX8_bitsAt_22 (by decide) ?_
    exact retL X hr hk Z hf dX8_bitsAt_23
  · have hf := itn c4 hf
    refine lv_aload_n hx hb dX8_bitsAt_9 rfl (lv_at hl 0 rfl) ?_
    refine gf_RX8_73 X Z dX8_bitsAt_10 ?_
    refine lv_iload_n hx hb dX8_bitsAt_13 rfl (lv_at hl 1 rfl) ?_
    refine lv_iload_n hx hb dX8_bitsAt_14 rfl (lv_at hl 2 rfl) ?_
    obtain ⟨r7, s6, h5, hf⟩ := bi_s hf
    refine goI Z (run_S (As := [.int a1, .int a2]) (rest := [.ref (h 29)]) X Z (c_X8_slot l D h cy a1 a2 s2 (r7, s6) h5 _) lk_RX8_125 ⟨by decide, by decide⟩ rfl hl.1 rfl (Nat.le_of_ble_eq_true rfl) ⟨Nat.le_refl _, Nat.le_refl _⟩ dX8_bitsAt_15) (fun H locs Z => ?_)
    obtain ⟨g8, hf⟩ := gd_s hf
    refine x_lald (k := 29) X Z sh_29 g8 dX8_bitsAt_18 ?_
    refine lv_goto (tgt := 23) hx hb dX8_bitsAt_19 (by decide) ?_
    exact retL X hr hk Z hf dX8_bitsAt_23

set_option maxRecDepth 100000 in
set_option maxHeartbeats 4000000 in
theorem b_X8_firstPointer_14b {p : Program} {l : Launch} {e : Env} {s : State} {m : MethodId} {args : Array Value} {below : List Frame} {meth : Method} {c : Code} {D : va_G} {h : Nat → Nat} {cy : Nat → ClassId} (X : Cx p s m args c D h cy RX8 cX8_firstPointer 6) (hr : meth.sig.returnType = some .int) (hk : meth.locks = false) (K14 : (Int32 × Int32 × Int32 × St) → Option (Int32 × St)) (hK14 : ∀ (a : Int32 × Int32 × Int32 × St) (y : Int32 × St), K14 a = some y → ∀ (H : Heap) (locs : List Loc) (ls : Array Slot), Zt D h cy s a.2.2.2 H locs → lv_has ls 6 [(0, .ref (h 5)), (1, .int a.1), (4, .int a.2.1), (5, .int a.2.2.1)] → W p l e (rmz 2 43) s m args below meth c H locs 0 0 (EI below args s D h cy y) (F0 m 14 ls [])) (x1 : Int32) (x4 : Int32) (x5 : Int32) (σ : St) (y : Int32 × St) (hf : f_X8_firstPointer_14b K14 x1 x4 x5 σ = some y) : ∀ (H : Heap) (locs : List Loc) (ls : Array Slot), Zt D h cy s σ H locs → lv_has ls 6 [(0, .ref (h 5)), (1, .int x1), (4, .int x4), (5, .int x5)] → W p l e (rmz 2 43) s m args below meth c H locs 0 0 (EI below args s D h cy y) (F0 m 14 ls []) := by
  intro H locs ls Z hl
  have hx := X.x
  have hb := X.b
  unfold f_X8_firstPointer_14b at hf
  refine lv_iload hx hb dX8_firstPointer_14 (lv_at hl 3 rfl) ?_
  refine lv_iload hx hb dX8_firstPointer_16 (lv_at hl 2 rfl) ?_
  refine lv_icmp_gt (tgt := 40) hx hb dX8_firstPointer_18 (by decide) (fun c2 => ?_) (fun c2 => ?_)
  · have hf := itp c2 hf
    refine lv_iconst (v := (-1)) hx hb dX8_firstPointer_40 (by decide) ?_
    exact retI X hr hk Z hf dX8_firstPointer_41
  · have hf := itn c2 hf
    refine lv_aload_n hx hb dX8_firstPointer_21 rfl (lv_at hl 0 rfl) ?_
    refine lv_iload_n hx hb dX8_firstPointer_22 rfl (lv_at hl 1 rfl) ?_
    refine lv_iload hx hb dX8_firstPointer_23 (lv_at hl 3 rfl) ?_
    obtain ⟨r5, s4, h3, hf⟩ := bi_s hf
    refine goI Z (run_V (As := [.int x1, .int x5]) (rest := []) X Z (c_X8_hasPointer l D h cy x1 x5 σ (r5, s4) h3 _) lk_RX8_122 ⟨by decide, by decide⟩ rv_5 rfl hl.1 rfl (Nat.le_of_ble_eq_true rfl) ⟨Nat.le_refl _, Nat.le_refl _⟩ dX8_firstPointer_25) (fun H locs Z => ?_)
    refine lv_if_eq (tgt := 34) hx hb dX8_firstPointer_28 (by decide) (fun c6 => ?_) (fun c6 => ?_)
    · have hf := itp c6 hf
      obtain ⟨v7, ev7⟩ : ∃ z : Int32, z = x5 + 4 := ⟨_, rfl⟩
      have hf := zn_e ev7 hf
      refine lv_iinc (v := v7) (lv' := [(5, .int v7), (0, .ref (h 5)), (1, .int x1), (4, .int x4)]) hx hb dX8_firstPointer_34 hl (k := 3) rfl (by rw [ev7]; rfl) (by decide) rfl (fun ls hl => ?_)
      refine lv_goto (tgt := 14) hx hb dX8_firstPointer_37 (by decide) ?_
      exact hK14 (x1, x4, v7, s4) _ hf _ _ _ Z (lv_sub hl [1, 2, 3, 0] rfl)
    · have hf := itn c6 hf
      refine lv_iload hx hb dX8_firstPointer_31 (lv_at hl 3 rfl) ?_
      exact retI X hr hk Z hf dX8_firstPointer_33

set_option maxRecDepth 100000 in
set_option maxHeartbeats 4000000 in
theorem b_X8_firstPointer_14 {p : Program} {l : Launch} {e : Env} {s : State} {m : MethodId} {args : Array Value} {below : List Frame} {meth : Method} {c : Code} {D : va_G} {h : Nat → Nat} {cy : Nat → ClassId} (X : Cx p s m args c D h cy RX8 cX8_firstPointer 6) (hr : meth.sig.returnType = some .int) (hk : meth.locks = false) (x1 : Int32) (x4 : Int32) (x5 : Int32) (σ : St) (y : Int32 × St) (hf : f_X8_firstPointer_14 x1 x4 x5 σ = some y) : ∀ (H : Heap) (locs : List Loc) (ls : Array Slot), Zt D h cy s σ H locs → lv_has ls 6 [(0, .ref (h 5)), (1, .int x1), (4, .int x4), (5, .int x5)] → W p l e (rmz 2 43) s m args below meth c H locs 0 0 (EI below args s D h cy y) (F0 m 14 ls []) := by
  exact it_W (F := fun K a => f_X8_firstPointer_14b K a.1 a.2.1 a.2.2.1 a.2.2.2) (P := fun a y => ∀ (H : Heap) (locs : List Loc) (ls : Array Slot), Zt D h cy s a.2.2.2 H locs → lv_has ls 6 [(0, .ref (h 5)), (1, .int a.1), (4, .int a.2.1), (5, .int a.2.2.1)] → W p l e (rmz 2 43) s m args below meth c H locs 0 0 (EI below args s D h cy y) (F0 m 14 ls [])) (fun K hK a y hf => b_X8_firstPointer_14b X hr hk K hK (a.1) (a.2.1) (a.2.2.1) (a.2.2.2) y hf) FU _ y hf

set_option maxRecDepth 100000 in
set_option maxHeartbeats 4000000 in
theorem c_X8_firstPointer (l : Launch) (D : va_G) (h : Nat → Nat) (cy : Nat → ClassId) (a1 : Int32) (a2 : Int32) (a3 : Int32) (σ : St) (y : Int32 × St) (hf : f_X8_firstPointer a1 a2 a3 σ = some y) : CI l yX8_firstPointer cX8_firstPointer 6 (some .int) 2 43 D h cy [.ref (h 5), .int a1, .int a2, .int a3] σ y := by
  refine ent (Qc := fun sz => QI D h cy sz y) (by decide) (Nat.le_of_ble_eq_true rfl) ?_
  intro p e s m below meth c ls X Z hr hk hl
  have X : Cx p s m _ c D h cy RX8 cX8_firstPointer 6 := X
  have hx := X.x
  have hb := X.b
  have hl : lv_has ls 6 [(0, .ref (h 5)), (1, .int a1), (2, .int a2), (3, .int a3)] := hl
  unfold f_X8_firstPointer at hf
  refine lv_iload_n hx hb dX8_firstPointer_0 rfl (lv_at hl 3 rfl) ?_
  refine lv_sipush (v := 1024) hx hb dX8_firstPointer_1 (by decide) ?_
  refine x_mmin X hl.1 mm_RX8_129 (by decide) (Nat.le_of_ble_eq_true rfl) ⟨Nat.le_refl _, Nat.le_refl _⟩ dX8_firstPointer_4 ?_
  refine lv_iconst (v := 4) hx hb dX8_firstPointer_7 (by decide) ?_
  refine lv_isub hx hb dX8_firstPointer_8 ?_
  refine lv_topi (fun v1 ev1 => ?_)
  have hf := zn_e ev1 hf
  refine lv_istore (lv' := [(4, .int v1), (0, .ref (h 5)), (1, .int a1), (2, .int a2), (3, .int a3)]) hx hb dX8_firstPointer_9 hl (by decide) rfl (fun ls hl => ?_)
  refine lv_iload_n hx hb dX8_firstPointer_11 rfl (lv_at hl 3 rfl) ?_
  refine lv_istore (lv' := [(5, .int a2), (4, .int v1), (0, .ref (h 5)), (1, .int a1), (2, .int a2), (3, .int a3)]) hx hb dX8_firstPointer_12 hl (by decide) rfl (fun ls hl => ?_)
  exact b_X8_firstPointer_14 X hr hk a1 v1 a2 σ _ hf _ _ _ Z (lv_sub hl [2, 3, 1, 0] rfl)

set_option maxRecDepth 100000 in
set_option maxHeartbeats 4000000 in
theorem c_X8_spanOf (l : Launch) (D : va_G) (h : Nat → Nat) (cy : Nat → ClassId) (a1 : Int32) (σ : St) (y : Int32 × St) (hf : f_X8_spanOf a1 σ = some y) : CI l yX8_spanOf cX8_spanOf 2 (some .int) 1 21 D h cy [.ref (h 5), .int a1] σ y := by
  refine ent (Qc := fun sz => QI D h cy sz y) (by decide) (Nat.le_of_ble_eq_true rfl) ?_
  intro p e s m below meth c ls X Z hr hk hl
  have X : Cx p s m _ c D h cy RX8 cX8_spanOf 2 := X
  have hx := X.x
  have hb := X.b
  have hl : lv_has ls 2 [(0, .ref (h 5)), (1, .int a1)] := hl
  unfold f_X8_spanOf at hf
  refine lv_aload_n hx hb dX8_spanOf_0 rfl (lv_at hl 0 rfl) ?_
  refine gf_RX8_24 X Z dX8_spanOf_1 ?_
  refine lv_iload_n hx hb dX8_spanOf_4 rfl (lv_at hl 1 rfl) ?_
  obtain ⟨r3, s2, h1, hf⟩ := bi_s hf
  refine goI Z (run_V (As := [.int a1]) (rest := []) X Z (c_X5_has l D h cy names_6 a1 σ (r3, s2) h1 _) lk_RX8_97 ⟨by decide, by decide⟩ (rv_NamesS names_6) rfl hl.1 rfl (Nat.le_of_ble_eq_true rfl) ⟨Nat.le_refl _, Nat.le_refl _⟩ dX8_spanOf_5) (fun H locs Z => ?_)
  refine lv_if_eq (tgt := 27) hx hb dX8_spanOf_8 (by decide) (fun c4 => ?_) (fun c4 => ?_)
  · have hf := itp c4 hf
    refine lv_iconst (v := 0) hx hb dX8_spanOf_27 (by decide) ?_
    exact retI X hr hk Z hf dX8_spanOf_28
  · have hf := itn c4 hf
    refine lv_aload_n hx hb dX8_spanOf_11 rfl (lv_at hl 0 rfl) ?_
    refine gf_RX8_28 X Z dX8_spanOf_12 ?_
    refine lv_iload_n hx hb dX8_spanOf_15 rfl (lv_at hl 1 rfl) ?_
    obtain ⟨g5, hf⟩ := gd_s hf
    refine x_iald (k := 9) X Z sh_9 g5 dX8_spanOf_16 ?_
    refine lv_aload_n hx hb dX8_spanOf_17 rfl (lv_at hl 0 rfl) ?_
    refine gf_RX8_16 X Z dX8_spanOf_18 ?_
    obtain ⟨r8, s7, h6, hf⟩ := bi_s hf
    refine goI Z (run_N (As := [.int (s2.1 9 a1.toNatClampNeg), .int (s2.1 5 1)]) (rest := []) X Z (c_X11_filledUp l D h cy (s2.1 9 a1.toNatClampNeg) (s2.1 5 1) s2 (r8, s7) h6 _) lk_RX8_134 ⟨by decide, by decide⟩ rfl hl.1 rfl (Nat.le_of_ble_eq_true rfl) ⟨Nat.le_refl _, Nat.le_refl _⟩ dX8_spanOf_21) (fun H locs Z => ?_)
    refine lv_goto (tgt := 28) hx hb dX8_spanOf_24 (by decide) ?_
    exact retI X hr hk Z hf dX8_spanOf_28

set_option maxRecDepth 100000 in
set_option maxHeartbeats 4000000 in
theorem b_X8_addressOf_7b {p : Program} {l : Launch} {e : Env} {s : State} {m : MethodId} {args : Array Value} {below : List Frame} {meth : Method} {c : Code} {D : va_G} {h : Nat → Nat} {cy : Nat → ClassId} (X : Cx p s m args c D h cy RX8 cX8_addressOf 4) (hr : meth.sig.returnType = some .int) (hk : meth.locks = false) (K7 : (Int32 × Int32 × Int32 × St) → Option (Int32 × St)) (hK7 : ∀ (a : Int32 × Int32 × Int32 × St) (y : Int32 × St), K7 a = some y → ∀ (H : Heap) (locs : List Loc) (ls : Array Slot), Zt D h cy s a.2.2.2 H locs → lv_has ls 4 [(0, .ref (h 5)), (1, .int a.1), (2, .int a.2.1), (3, .int a.2.2.1)] → W p l e (rmz 2 42) s m args below meth c H locs 0 0 (EI below args s D h cy y) (F0 m 7 ls [])) (x1 : Int32) (x2 : Int32) (x3 : Int32) (σ : St) (y : Int32 × St) (hf : f_X8_addressOf_7b K7 x1 x2 x3 σ = some y) : ∀ (H : Heap) (locs : List Loc) (ls : Array Slot), Zt D h cy s σ H locs → lv_has ls 4 [(0, .ref (h 5)), (1, .int x1), (2, .int x2), (3, .int x3)] → W p l e (rmz 2 42) s m args below meth c H locs 0 0 (EI below args s D h cy y) (F0 m 7 ls []) := by
  intro H locs ls Z hl
  have hx := X.x
  have hb := X.b
  unfold f_X8_addressOf_7b at hf
  refine lv_iload_n hx hb dX8_addressOf_7 rfl (lv_at hl 3 rfl) ?_
  refine lv_iload_n hx hb dX8_addressOf_8 rfl (lv_at hl 1 rfl) ?_
  refine lv_icmp_ge (tgt := 26) hx hb dX8_addressOf_9 (by decide) (fun c3 => ?_) (fun c3 => ?_)
  · have hf := itp c3 hf
    refine lv_iload_n hx hb dX8_addressOf_26 rfl (lv_at hl 2 rfl) ?_
    exact retI X hr hk Z hf dX8_addressOf_27
  · have hf := itn c3 hf
    refine lv_iload_n hx hb dX8_addressOf_12 rfl (lv_at hl 2 rfl) ?_
    refine lv_aload_n hx hb dX8_addressOf_13 rfl (lv_at hl 0 rfl) ?_
    refine lv_iload_n hx hb dX8_addressOf_14 rfl (lv_at hl 3 rfl) ?_
    obtain ⟨r6, s5, h4, hf⟩ := bi_s hf
    refine goI Z (run_V (As := [.int x3]) (rest := [.int x2]) X Z (c_X8_spanOf l D h cy x3 σ (r6, s5) h4 _) lk_RX8_137 ⟨by decide, by decide⟩ rv_5 rfl hl.1 rfl (Nat.le_of_ble_eq_true rfl) ⟨Nat.le_refl _, Nat.le_refl _⟩ dX8_addressOf_15) (fun H locs Z => ?_)
    refine lv_iadd hx hb dX8_addressOf_18 ?_
    refine lv_topi (fun v7 ev7 => ?_)
    have hf := zn_e ev7 hf
    refine lv_istore_n (lv' := [(2, .int v7), (0, .ref (h 5)), (1, .int x1), (3, .int x3)]) hx hb dX8_addressOf_19 rfl hl (by decide) rfl (fun ls hl => ?_)
    obtain ⟨v8, ev8⟩ : ∃ z : Int32, z = x3 + 1 := ⟨_, rfl⟩
    have hf := zn_e ev8 hf
    refine lv_iinc (v := v8) (lv' := [(3, .int v8), (2, .int v7), (0, .ref (h 5)), (1, .int x1)]) hx hb dX8_addressOf_20 hl (k := 3) rfl (by rw [ev8]; rfl) (by decide) rfl (fun ls hl => ?_)
    refine lv_goto (tgt := 7) hx hb dX8_addressOf_23 (by decide) ?_
    exact hK7 (x1, v7, v8, s5) _ hf _ _ _ Z (lv_sub hl [2, 3, 1, 0] rfl)

set_option maxRecDepth 100000 in
set_option maxHeartbeats 4000000 in
theorem b_X8_addressOf_7 {p : Program} {l : Launch} {e : Env} {s : State} {m : MethodId} {args : Array Value} {below : List Frame} {meth : Method} {c : Code} {D : va_G} {h : Nat → Nat} {cy : Nat → ClassId} (X : Cx p s m args c D h cy RX8 cX8_addressOf 4) (hr : meth.sig.returnType = some .int) (hk : meth.locks = false) (x1 : Int32) (x2 : Int32) (x3 : Int32) (σ : St) (y : Int32 × St) (hf : f_X8_addressOf_7 x1 x2 x3 σ = some y) : ∀ (H : Heap) (locs : List Loc) (ls : Array Slot), Zt D h cy s σ H locs → lv_has ls 4 [(0, .ref (h 5)), (1, .int x1), (2, .int x2), (3, .int x3)] → W p l e (rmz 2 42) s m args below meth c H locs 0 0 (EI below args s D h cy y) (F0 m 7 ls []) := by
  exact it_W (F := fun K a => f_X8_addressOf_7b K a.1 a.2.1 a.2.2.1 a.2.2.2) (P := fun a y => ∀ (H : Heap) (locs : List Loc) (ls : Array Slot), Zt D h cy s a.2.2.2 H locs → lv_has ls 4 [(0, .ref (h 5)), (1, .int a.1), (2, .int a.2.1), (3, .int a.2.2.1)] → W p l e (rmz 2 42) s m args below meth c H locs 0 0 (EI below args s D h cy y) (F0 m 7 ls [])) (fun K hK a y hf => b_X8_addressOf_7b X hr hk K hK (a.1) (a.2.1) (a.2.2.1) (a.2.2.2) y hf) FU _ y hf

set_option maxRecDepth 100000 in
set_option maxHeartbeats 4000000 in
theorem c_X8_addressOf (l : Launch) (D : va_G) (h : Nat → Nat) (cy : Nat → ClassId) (a1 : Int32) (σ : St) (y : Int32 × St) (hf : f_X8_addressOf a1 σ = some y) : CI l yX8_addressOf cX8_addressOf 4 (some .int) 2 42 D h cy [.ref (h 5), .int a1] σ y := by
  refine ent (Qc := fun sz => QI D h cy sz y) (by decide) (Nat.le_of_ble_eq_true rfl) ?_
  intro p e s m below meth c ls X Z hr hk hl
  have X : Cx p s m _ c D h cy RX8 cX8_addressOf 4 := X
  have hx := X.x
  have hb := X.b
  have hl : lv_has ls 4 [(0, .ref (h 5)), (1, .int a1)] := hl
  unfold f_X8_addressOf at hf
  refine lv_aload_n hx hb dX8_addressOf_0 rfl (lv_at hl 0 rfl) ?_
  refine gf_RX8_10 X Z dX8_addressOf_1 ?_
  refine lv_topi (fun v1 ev1 => ?_)
  have hf := zn_e ev1 hf
  refine lv_istore_n (lv' := [(2, .int v1), (0, .ref (h 5)), (1, .int a1)]) hx hb dX8_addressOf_4 rfl hl (by decide) rfl (fun ls hl => ?_)
  refine lv_iconst (v := 0) hx hb dX8_addressOf_5 (by decide) ?_
  refine lv_topi (fun v2 ev2 => ?_)
  have hf := zn_e ev2 hf
  refine lv_istore_n (lv' := [(3, .int v2), (2, .int v1), (0, .ref (h 5)), (1, .int a1)]) hx hb dX8_addressOf_6 rfl hl (by decide) rfl (fun ls hl => ?_)
  exact b_X8_addressOf_7 X hr hk a1 v1 v2 σ _ hf _ _ _ Z (lv_sub hl [2, 3, 1, 0] rfl)

set_option maxRecDepth 100000 in
set_option maxHeartbeats 4000000 in
theorem b_X8_sectionsOf_28 {p : Program} {l : Launch} {e : Env} {s : State} {m : MethodId} {args : Array Value} {below : List Frame} {meth : Method} {c : Code} {D : va_G} {h : Nat → Nat} {cy : Nat → ClassId} (X : Cx p s m args c D h cy RX8 cX8_sectionsOf 4) (hr : meth.sig.returnType = some .int) (hk : meth.locks = false) (K4 : (Int32 × Int32 × Int32 × St) → Option (Int32 × St)) (hK4 : ∀ (a : Int32 × Int32 × Int32 × St) (y : Int32 × St), K4 a = some y → ∀ (H : Heap) (locs : List Loc) (ls : Array Slot), Zt D h cy s a.2.2.2 H locs → lv_has ls 4 [(0, .ref (h 5)), (1, .int a.1), (2, .int a.2.1), (3, .int a.2.2.1)] → W p l e (rmz 0 0) s m args below meth c H locs 0 0 (EI below args s D h cy y) (F0 m 4 ls [])) (x1 : Int32) (x2 : Int32) (x3 : Int32) (σ : St) (y : Int32 × St) (hf : f_X8_sectionsOf_28 K4 x1 x2 x3 σ = some y) : ∀ (H : Heap) (locs : List Loc) (ls : Array Slot), Zt D h cy s σ H locs → lv_has ls 4 [(0, .ref (h 5)), (1, .int x1), (2, .int x2), (3, .int x3)] → W p l e (rmz 0 0) s m args below meth c H locs 0 0 (EI below args s D h cy y) (F0 m 28 ls []) := by
  intro H locs ls Z hl
  have hx := X.x
  have hb := X.b
  unfold f_X8_sectionsOf_28 at hf
  obtain ⟨v6, ev6⟩ : ∃ z : Int32, z = x3 + 1 := ⟨_, rfl⟩
  have hf := zn_e ev6 hf
  refine lv_iinc (v := v6) (lv' := [(3, .int v6), (0, .ref (h 5)), (1, .int x1), (2, .int x2)]) hx hb dX8_sectionsOf_28 hl (k := 3) rfl (by rw [ev6]; rfl) (by decide) rfl (fun ls hl => ?_)
  refine lv_goto (tgt := 4) hx hb dX8_sectionsOf_31 (by decide) ?_
  exact hK4 (x1, x2, v6, σ) _ hf _ _ _ Z (lv_sub hl [1, 2, 3, 0] rfl)

set_option maxRecDepth 100000 in
set_option maxHeartbeats 4000000 in
theorem b_X8_sectionsOf_4b {p : Program} {l : Launch} {e : Env} {s : State} {m : MethodId} {args : Array Value} {below : List Frame} {meth : Method} {c : Code} {D : va_G} {h : Nat → Nat} {cy : Nat → ClassId} (X : Cx p s m args c D h cy RX8 cX8_sectionsOf 4) (hr : meth.sig.returnType = some .int) (hk : meth.locks = false) (K4 : (Int32 × Int32 × Int32 × St) → Option (Int32 × St)) (hK4 : ∀ (a : Int32 × Int32 × Int32 × St) (y : Int32 × St), K4 a = some y → ∀ (H : Heap) (locs : List Loc) (ls : Array Slot), Zt D h cy s a.2.2.2 H locs → lv_has ls 4 [(0, .ref (h 5)), (1, .int a.1), (2, .int a.2.1), (3, .int a.2.2.1)] → W p l e (rmz 0 0) s m args below meth c H locs 0 0 (EI below args s D h cy y) (F0 m 4 ls [])) (x1 : Int32) (x2 : Int32) (x3 : Int32) (σ : St) (y : Int32 × St) (hf : f_X8_sectionsOf_4b K4 x1 x2 x3 σ = some y) : ∀ (H : Heap) (locs : List Loc) (ls : Array Slot), Zt D h cy s σ H locs → lv_has ls 4 [(0, .ref (h 5)), (1, .int x1), (2, .int x2), (3, .int x3)] → W p l e (rmz 0 0) s m args below meth c H locs 0 0 (EI below args s D h cy y) (F0 m 4 ls []) := by
  intro H locs ls Z hl
  have hx := X.x
  have hb := X.b
  unfold f_X8_sectionsOf_4b at hf
  refine lv_iload_n hx hb dX8_sectionsOf_4 rfl (lv_at hl 3 rfl) ?_
  refine lv_aload_n hx hb dX8_sectionsOf_5 rfl (lv_at hl 0 rfl) ?_
  refine gf_RX8_39 X Z dX8_sectionsOf_6 ?_
  refine gf_RX8_141 X Z names_12 dX8_sectionsOf_9 ?_
  refine lv_icmp_ge (tgt := 34) hx hb dX8_sectionsOf_12 (by decide) (fun c3 => ?_) (fun c3 => ?_)
  · have hf := itp c3 hf
    refine lv_iload_n hx hb dX8_sectionsOf_34 rfl (lv_at hl 2 rfl) ?_
    exact retI X hr hk Z hf dX8_sectionsOf_35
  · have hf := itn c3 hf
    refine lv_aload_n hx hb dX8_sectionsOf_15 rfl (lv_at hl 0 rfl) ?_
    refine gf_RX8_42 X Z dX8_sectionsOf_16 ?_
    refine lv_iload_n hx hb dX8_sectionsOf_19 rfl (lv_at hl 3 rfl) ?_
    obtain ⟨g4, hf⟩ := gd_s hf
    refine x_iald (k := 15) X Z sh_15 g4 dX8_sectionsOf_20 ?_
    refine lv_iload_n hx hb dX8_sectionsOf_21 rfl (lv_at hl 1 rfl) ?_
    refine lv_icmp_ne (tgt := 28) hx hb dX8_sectionsOf_22 (by decide) (fun c5 => ?_) (fun c5 => ?_)
    · have hf := itn c5 hf
      exact b_X8_sectionsOf_28 X hr hk K4 hK4 x1 x2 x3 σ _ hf _ _ _ Z (lv_sub hl [0, 1, 2, 3] rfl)
    · have hf := itp c5 hf
      obtain ⟨v7, ev7⟩ : ∃ z : Int32, z = x2 + 1 := ⟨_, rfl⟩
      have hf := zn_e ev7 hf
      refine lv_iinc (v := v7) (lv' := [(2, .int v7), (0, .ref (h 5)), (1, .int x1), (3, .int x3)]) hx hb dX8_sectionsOf_25 hl (k := 2) rfl (by rw [ev7]; rfl) (by decide) rfl (fun ls hl => ?_)
      exact b_X8_sectionsOf_28 X hr hk K4 hK4 x1 v7 x3 σ _ hf _ _ _ Z (lv_sub hl [1, 2, 0, 3] rfl)

set_option maxRecDepth 100000 in
set_option maxHeartbeats 4000000 in
theorem b_X8_sectionsOf_4 {p : Program} {l : Launch} {e : Env} {s : State} {m : MethodId} {args : Array Value} {below : List Frame} {meth : Method} {c : Code} {D : va_G} {h : Nat → Nat} {cy : Nat → ClassId} (X : Cx p s m args c D h cy RX8 cX8_sectionsOf 4) (hr : meth.sig.returnType = some .int) (hk : meth.locks = false) (x1 : Int32) (x2 : Int32) (x3 : Int32) (σ : St) (y : Int32 × St) (hf : f_X8_sectionsOf_4 x1 x2 x3 σ = some y) : ∀ (H : Heap) (locs : List Loc) (ls : Array Slot), Zt D h cy s σ H locs → lv_has ls 4 [(0, .ref (h 5)), (1, .int x1), (2, .int x2), (3, .int x3)] → W p l e (rmz 0 0) s m args below meth c H locs 0 0 (EI below args s D h cy y) (F0 m 4 ls []) := by
  exact it_W (F := fun K a => f_X8_sectionsOf_4b K a.1 a.2.1 a.2.2.1 a.2.2.2) (P := fun a y => ∀ (H : Heap) (locs : List Loc) (ls : Array Slot), Zt D h cy s a.2.2.2 H locs → lv_has ls 4 [(0, .ref (h 5)), (1, .int a.1), (2, .int a.2.1), (3, .int a.2.2.1)] → W p l e (rmz 0 0) s m args below meth c H locs 0 0 (EI below args s D h cy y) (F0 m 4 ls [])) (fun K hK a y hf => b_X8_sectionsOf_4b X hr hk K hK (a.1) (a.2.1) (a.2.2.1) (a.2.2.2) y hf) FU _ y hf

set_option maxRecDepth 100000 in
set_option maxHeartbeats 4000000 in
theorem c_X8_sectionsOf (l : Launch) (D : va_G) (h : Nat → Nat) (cy : Nat → ClassId) (a1 : Int32) (σ : St) (y : Int32 × St) (hf : f_X8_sectionsOf a1 σ = some y) : CI l yX8_sectionsOf cX8_sectionsOf 4 (some .int) 0 0 D h cy [.ref (h 5), .int a1] σ y := by
  refine ent (Qc := fun sz => QI D h cy sz y) (by decide) (Nat.le_of_ble_eq_true rfl) ?_
  intro p e s m below meth c ls X Z hr hk hl
  have X : Cx p s m _ c D h cy RX8 cX8_sectionsOf 4 := X
  have hx := X.x
  have hb := X.b
  have hl : lv_has ls 4 [(0, .ref (h 5)), (1, .int a1)] := hl
  unfold f_X8_sectionsOf at hf
  refine lv_iconst (v := 0) hx hb dX8_sectionsOf_0 (by decide) ?_
  refine lv_topi (fun v1 ev1 => ?_)
  have hf := zn_e ev1 hf
  refine lv_istore_n (lv' := [(2, .int v1), (0, .ref (h 5)), (1, .int a1)]) hx hb dX8_sectionsOf_1 rfl hl (by decide) rfl (fun ls hl => ?_)
  refine lv_iconst (v := 0) hx hb dX8_sectionsOf_2 (by decide) ?_
  refine lv_topi (fun v2 ev2 => ?_)
  have hf := zn_e ev2 hf
  refine lv_istore_n (lv' := [(3, .int v2), (2, .int v1), (0, .ref (h 5)), (1, .int a1)]) hx hb dX8_sectionsOf_3 rfl hl (by decide) rfl (fun ls hl => ?_)
  exact b_X8_sectionsOf_4 X hr hk a1 v1 v2 σ _ hf _ _ _ Z (lv_sub hl [2, 3, 1, 0] rfl)

set_option maxRecDepth 100000 in
set_option maxHeartbeats 4000000 in
theorem c_X9_has (l : Launch) (D : va_G) (h : Nat → Nat) (cy : Nat → ClassId) {k0 : Nat} (hR0 : VisS k0) (a1 : Int32) (σ : St) (y : Int32 × St) (hf : f_X9_has k0 a1 σ = some y) : CI l yX9_has cX9_has 2 (some .boolean) 0 0 D h cy [.ref (h k0), .int a1] σ y := by
  refine ent (Qc := fun sz => QI D h cy sz y) (by decide) (Nat.le_of_ble_eq_true rfl) ?_
  intro p e s m below meth c ls X Z hr hk hl
  have X : Cx p s m _ c D h cy RX9 cX9_has 2 := X
  have hx := X.x
  have hb := X.b
  have hl : lv_has ls 2 [(0, .ref (h k0)), (1, .int a1)] := hl
  unfold f_X9_has at hf
  refine lv_iload_n hx hb dX9_has_0 rfl (lv_at hl 1 rfl) ?_
  refine lv_if_lt (tgt := 16) hx hb dX9_has_1 (by decide) (fun c1 => ?_) (fun c1 => ?_)
  · have hf := itp c1 hf
    refine lv_iconst (v := 0) hx hb dX9_has_16 (by decide) ?_
    exact retZ X hr hk Z (by decide) hf dX9_has_17
  · have hf := itn c1 hf
    refine lv_iload_n hx hb dX9_has_4 rfl (lv_at hl 1 rfl) ?_
    refine lv_aload_n hx hb dX9_has_5 rfl (lv_at hl 0 rfl) ?_
    refine gf_RX9_19 X Z hR0 dX9_has_6 ?_
    refine lv_icmp_ge (tgt := 16) hx hb dX9_has_9 (by decide) (fun c2 => ?_) (fun c2 => ?_)
    · have hf := itp c2 hf
      refine lv_iconst (v := 0) hx hb dX9_has_16 (by decide) ?_
      exact retZ X hr hk Z (by decide) hf dX9_has_17
    · have hf := itn c2 hf
      refine lv_iconst (v := 1) hx hb dX9_has_12 (by decide) ?_
      refine lv_goto (tgt := 17) hx hb dX9_has_13 (by decide) ?_
      exact retZ X hr hk Z (by decide) hf dX9_has_17

set_option maxRecDepth 100000 in
set_option maxHeartbeats 4000000 in
theorem b_X10_layOut_47b {p : Program} {l : Launch} {e : Env} {s : State} {m : MethodId} {args : Array Value} {below : List Frame} {meth : Method} {c : Code} {D : va_G} {h : Nat → Nat} {cy : Nat → ClassId} (X : Cx p s m args c D h cy RX10 cX10_layOut 3) (hr : meth.sig.returnType = none) (hk : meth.locks = false) (K47 : (Int32 × Int32 × St) → Option (St)) (hK47 : ∀ (a : Int32 × Int32 × St) (y : St), K47 a = some y → ∀ (H : Heap) (locs : List Loc) (ls : Array Slot), Zt D h cy s a.2.2 H locs → lv_has ls 3 [(0, .ref (h 30)), (1, .int a.1), (2, .int a.2.1)] → W p l e (rmz 1 21) s m args below meth c H locs 0 0 (EV below args s D h cy y) (F0 m 47 ls [])) (x1 : Int32) (x2 : Int32) (σ : St) (y : St) (hf : f_X10_layOut_47b K47 x1 x2 σ = some y) : ∀ (H : Heap) (locs : List Loc) (ls : Array Slot), Zt D h cy s σ H locs → lv_has ls 3 [(0, .ref (h 30)), (1, .int x1), (2, .int x2)] → W p l e (rmz 1 21) s m args below meth c H locs 0 0 (EV below args s D h cy y) (F0 m 47 ls []) := by
  intro H locs ls Z hl
  have hx := X.x
  have hb := X.b
  unfold f_X10_layOut_47b at hf
  refine lv_iload_n hx hb dX10_layOut_47 rfl (lv_at hl 2 rfl) ?_
  refine lv_aload_n hx hb dX10_layOut_48 rfl (lv_at hl 0 rfl) ?_
  refine gf_RX10_9 X Z dX10_layOut_49 ?_
  refine gf_RX10_67 X Z dX10_layOut_52 ?_
  refine gf_RX10_51 X Z names_6 dX10_layOut_55 ?_
  refine lv_icmp_ge (tgt := 96) hx hb dX10_layOut_58 (by decide) (fun c4 => ?_) (fun c4 => ?_)
  · have hf := itp c4 hf
    refine lv_aload_n hx hb dX10_layOut_96 rfl (lv_at hl 0 rfl) ?_
    refine lv_iload_n hx hb dX10_layOut_97 rfl (lv_at hl 1 rfl) ?_
    refine lv_bipush (v := 8) hx hb dX10_layOut_98 (by decide) ?_
    obtain ⟨r7, s6, h5, hf⟩ := bi_s hf
    refine goI Z (run_N (As := [.int x1, .int (8 : Int32)]) (rest := [.ref (h 30)]) X Z (c_X11_filledUp l D h cy x1 (8 : Int32) σ (r7, s6) h5 _) lk_RX10_39 ⟨by decide, by decide⟩ rfl hl.1 rfl (Nat.le_of_ble_eq_true rfl) ⟨Nat.le_refl _, Nat.le_refl _⟩ dX10_layOut_100) (fun H locs Z => ?_)
    refine pf_RX10_32 X Z dX10_layOut_103 (fun s8 H locs es8 Z => ?_)
    have hf := zn_e es8 hf
    exact retV X hr hk Z hf dX10_layOut_106
  · have hf := itn c4 hf
    refine lv_aload_n hx hb dX10_layOut_61 rfl (lv_at hl 0 rfl) ?_
    refine gf_RX10_19 X Z dX10_layOut_62 ?_
    refine lv_iload_n hx hb dX10_layOut_65 rfl (lv_at hl 2 rfl) ?_
    refine lv_iload_n hx hb dX10_layOut_66 rfl (lv_at hl 1 rfl) ?_
    refine lv_bipush (v := 8) hx hb dX10_layOut_67 (by decide) ?_
    obtain ⟨r11, s10, h9, hf⟩ := bi_s hf
    refine goI Z (run_N (As := [.int x1, .int (8 : Int32)]) (rest := [.int x2, .ref (h 31)]) X Z (c_X11_filledUp l D h cy x1 (8 : Int32) σ (r11, s10) h9 _) lk_RX10_39 ⟨by decide, by decide⟩ rfl hl.1 rfl (Nat.le_of_ble_eq_true rfl) ⟨Nat.le_refl _, Nat.le_refl _⟩ dX10_layOut_69) (fun H locs Z => ?_)
    obtain ⟨g12, hf⟩ := gd_s hf
    refine x_iast (k := 31) X Z sh_31 g12 dX10_layOut_72 (fun s13 H locs es13 Z => ?_)
    have hf := zn_e es13 hf
    refine lv_aload_n hx hb dX10_layOut_73 rfl (lv_at hl 0 rfl) ?_
    refine gf_RX10_19 X Z dX10_layOut_74 ?_
    refine lv_iload_n hx hb dX10_layOut_77 rfl (lv_at hl 2 rfl) ?_
    obtain ⟨g14, hf⟩ := gd_s hf
    refine x_iald (k := 31) X Z sh_31 g14 dX10_layOut_78 ?_
    refine lv_aload_n hx hb dX10_layOut_79 rfl (lv_at hl 0 rfl) ?_
    refine gf_RX10_9 X Z dX10_layOut_80 ?_
    refine gf_RX10_98 X Z dX10_layOut_83 ?_
    refine lv_iload_n hx hb dX10_layOut_86 rfl (lv_at hl 2 rfl) ?_
    obtain ⟨g15, hf⟩ := gd_s hf
    refine x_iald (k := 9) X Z sh_9 g15 dX10_layOut_87 ?_
    refine lv_iadd hx hb dX10_layOut_88 ?_
    refine lv_topi (fun v16 ev16 => ?_)
    have hf := zn_e ev16 hf
    refine lv_istore_n (lv' := [(1, .int v16), (0, .ref (h 30)), (2, .int x2)]) hx hb dX10_layOut_89 rfl hl (by decide) rfl (fun ls hl => ?_)
    obtain ⟨v17, ev17⟩ : ∃ z : Int32, z = x2 + 1 := ⟨_, rfl⟩
    have hf := zn_e ev17 hf
    refine lv_iinc (v := v17) (lv' := [(2, .int v17), (1, .int v16), (0, .ref (h 30))]) hx hb dX10_layOut_90 hl (k := 2) rfl (by rw [ev17]; rfl) (by decide) rfl (fun ls hl => ?_)
    refine lv_goto (tgt := 47) hx hb dX10_layOut_93 (by decide) ?_
    exact hK47 (v16, v17, s13) _ hf _ _ _ Z (lv_sub hl [2, 1, 0] rfl)

set_option maxRecDepth 100000 in
set_option maxHeartbeats 4000000 in
theorem b_X10_layOut_47 {p : Program} {l : Launch} {e : Env} {s : State} {m : MethodId} {args : Array Value} {below : List Frame} {meth : Method} {c : Code} {D : va_G} {h : Nat → Nat} {cy : Nat → ClassId} (X : Cx p s m args c D h cy RX10 cX10_layOut 3) (hr : meth.sig.returnType = none) (hk : meth.locks = false) (x1 : Int32) (x2 : Int32) (σ : St) (y : St) (hf : f_X10_layOut_47 x1 x2 σ = some y) : ∀ (H : Heap) (locs : List Loc) (ls : Array Slot), Zt D h cy s σ H locs → lv_has ls 3 [(0, .ref (h 30)), (1, .int x1), (2, .int x2)] → W p l e (rmz 1 21) s m args below meth c H locs 0 0 (EV below args s D h cy y) (F0 m 47 ls []) := by
  exact it_W (F := fun K a => f_X10_layOut_47b K a.1 a.2.1 a.2.2) (P := fun a y => ∀ (H : Heap) (locs : List Loc) (ls : Array Slot), Zt D h cy s a.2.2 H locs → lv_has ls 3 [(0, .ref (h 30)), (1, .int a.1), (2, .int a.2.1)] → W p l e (rmz 1 21) s m args below meth c H locs 0 0 (EV below args s D h cy y) (F0 m 47 ls [])) (fun K hK a y hf => b_X10_layOut_47b X hr hk K hK (a.1) (a.2.1) (a.2.2) y hf) FU _ y hf

set_option maxRecDepth 100000 in
set_option maxHeartbeats 4000000 in
theorem c_X10_layOut (l : Launch) (D : va_G) (h : Nat → Nat) (cy : Nat → ClassId) (σ : St) (y : St) (hf : f_X10_layOut σ = some y) : CV l yX10_layOut cX10_layOut 3 none 1 21 D h cy [.ref (h 30)] σ y := by
  refine ent (Qc := fun sz => QV D h cy sz y) (by decide) (Nat.le_of_ble_eq_true rfl) ?_
  intro p e s m below meth c ls X Z hr hk hl
  have X : Cx p s m _ c D h cy RX10 cX10_layOut 3 := X
  have hx := X.x
  have hb := X.b
  have hl : lv_has ls 3 [(0, .ref (h 30))] := hl
  unfold f_X10_layOut at hf
  refine lv_aload_n hx hb dX10_layOut_0 rfl (lv_at hl 0 rfl) ?_
  refine lv_bipush (v := 72) hx hb dX10_layOut_1 (by decide) ?_
  refine lv_aload_n hx hb dX10_layOut_3 rfl (lv_at hl 0 rfl) ?_
  refine gf_RX10_9 X Z dX10_layOut_4 ?_
  refine gf_RX10_67 X Z dX10_layOut_7 ?_
  refine gf_RX10_51 X Z names_6 dX10_layOut_10 ?_
  refine lv_imul hx hb dX10_layOut_13 ?_
  refine lv_bipush (v := 80) hx hb dX10_layOut_14 (by decide) ?_
  refine lv_aload_n hx hb dX10_layOut_16 rfl (lv_at hl 0 rfl) ?_
  refine gf_RX10_9 X Z dX10_layOut_17 ?_
  refine gf_RX10_92 X Z dX10_layOut_20 ?_
  refine gf_RX10_51 X Z names_12 dX10_layOut_23 ?_
  refine lv_imul hx hb dX10_layOut_26 ?_
  refine lv_iadd hx hb dX10_layOut_27 ?_
  refine lv_bipush (v := 24) hx hb dX10_layOut_28 (by decide) ?_
  refine lv_iadd hx hb dX10_layOut_30 ?_
  refine lv_bipush (v := 16) hx hb dX10_layOut_31 (by decide) ?_
  refine lv_iadd hx hb dX10_layOut_33 ?_
  refine pf_RX10_95 X Z dX10_layOut_34 (fun s1 H locs es1 Z => ?_)
  have hf := zn_e es1 hf
  refine lv_bipush (v := 32) hx hb dX10_layOut_37 (by decide) ?_
  refine lv_aload_n hx hb dX10_layOut_39 rfl (lv_at hl 0 rfl) ?_
  refine gf_RX10_95 X Z dX10_layOut_40 ?_
  refine lv_iadd hx hb dX10_layOut_43 ?_
  refine lv_topi (fun v2 ev2 => ?_)
  have hf := zn_e ev2 hf
  refine lv_istore_n (lv' := [(1, .int v2), (0, .ref (h 30))]) hx hb dX10_layOut_44 rfl hl (by decide) rfl (fun ls hl => ?_)
  refine lv_iconst (v := 0) hx hb dX10_layOut_45 (by decide) ?_
  refine lv_topi (fun v3 ev3 => ?_)
  have hf := zn_e ev3 hf
  refine lv_istore_n (lv' := [(2, .int v3), (1, .int v2), (0, .ref (h 30))]) hx hb dX10_layOut_46 rfl hl (by decide) rfl (fun ls hl => ?_)
  exact b_X10_layOut_47 X hr hk v2 v3 s1 _ hf _ _ _ Z (lv_sub hl [2, 1, 0] rfl)

set_option maxRecDepth 100000 in
set_option maxHeartbeats 4000000 in
theorem b_X10_layOutFixups_97 {p : Program} {l : Launch} {e : Env} {s : State} {m : MethodId} {args : Array Value} {below : List Frame} {meth : Method} {c : Code} {D : va_G} {h : Nat → Nat} {cy : Nat → ClassId} (X : Cx p s m args c D h cy RX10 cX10_layOutFixups 3) (hr : meth.sig.returnType = none) (hk : meth.locks = false) (K18 : (Int32 × Int32 × St) → Option (St)) (hK18 : ∀ (a : Int32 × Int32 × St) (y : St), K18 a = some y → ∀ (H : Heap) (locs : List Loc) (ls : Array Slot), Zt D h cy s a.2.2 H locs → lv_has ls 3 [(0, .ref (h 30)), (1, .int a.1), (2, .int a.2.1)] → W p l e (rmz 3 68) s m args below meth c H locs 0 0 (EV below args s D h cy y) (F0 m 18 ls [])) (x1 : Int32) (x2 : Int32) (σ : St) (y : St) (hf : f_X10_layOutFixups_97 K18 x1 x2 σ = some y) : ∀ (H : Heap) (locs : List Loc) (ls : Array Slot), Zt D h cy s σ H locs → lv_has ls 3 [(0, .ref (h 30)), (1, .int x1), (2, .int x2)] → W p l e (rmz 3 68) s m args below meth c H locs 0 0 (EV below args s D h cy y) (F0 m 97 ls []) := by
  intro H locs ls Z hl
  have hx := X.x
  have hb := X.b
  unfold f_X10_layOutFixups_97 at hf
  obtain ⟨v19, ev19⟩ : ∃ z : Int32, z = x2 + 1 := ⟨_, rfl⟩
  have hf := zn_e ev19 hf
  refine lv_iinc (v := v19) (lv' := [(2, .int v19), (0, .ref (h 30)), (1, .int x1)]) hx hb dX10_layOutFixups_97 hl (k := 2) rfl (by rw [ev19]; rfl) (by decide) rfl (fun ls hl => ?_)
  refine lv_goto (tgt := 18) hx hb dX10_layOutFixups_100 (by decide) ?_
  exact hK18 (x1, v19, σ) _ hf _ _ _ Z (lv_sub hl [1, 2, 0] rfl)

set_option maxRecDepth 100000 in
set_option maxHeartbeats 4000000 in
theorem b_X10_layOutFixups_18b {p : Program} {l : Launch} {e : Env} {s : State} {m : MethodId} {args : Array Value} {below : List Frame} {meth : Method} {c : Code} {D : va_G} {h : Nat → Nat} {cy : Nat → ClassId} (X : Cx p s m args c D h cy RX10 cX10_layOutFixups 3) (hr : meth.sig.returnType = none) (hk : meth.locks = false) (K18 : (Int32 × Int32 × St) → Option (St)) (hK18 : ∀ (a : Int32 × Int32 × St) (y : St), K18 a = some y → ∀ (H : Heap) (locs : List Loc) (ls : Array Slot), Zt D h cy s a.2.2 H locs → lv_has ls 3 [(0, .ref (h 30)), (1, .int a.1), (2, .int a.2.1)] → W p l e (rmz 3 68) s m args below meth c H locs 0 0 (EV below args s D h cy y) (F0 m 18 ls [])) (x1 : Int32) (x2 : Int32) (σ : St) (y : St) (hf : f_X10_layOutFixups_18b K18 x1 x2 σ = some y) : ∀ (H : Heap) (locs : List Loc) (ls : Array Slot), Zt D h cy s σ H locs → lv_has ls 3 [(0, .ref (h 30)), (1, .int x1), (2, .int x2)] → W p l e (rmz 3 68) s m args below meth c H locs 0 0 (EV below args s D h cy y) (F0 m 18 ls []) := by
  intro H locs ls Z hl
  have hx := X.x
  have hb := X.b
  unfold f_X10_layOutFixups_18b at hf
  refine lv_iload_n hx hb dX10_layOutFixups_18 rfl (lv_at hl 2 rfl) ?_
  refine lv_aload_n hx hb dX10_layOutFixups_19 rfl (lv_at hl 0 rfl) ?_
  refine gf_RX10_9 X Z dX10_layOutFixups_20 ?_
  refine gf_RX10_67 X Z dX10_layOutFixups_23 ?_
  refine gf_RX10_51 X Z names_6 dX10_layOutFixups_26 ?_
  refine lv_icmp_ge (tgt := 103) hx hb dX10_layOutFixups_29 (by decide) (fun c3 => ?_) (fun c3 => ?_)
  · have hf := itp c3 hf
    refine lv_aload_n hx hb dX10_layOutFixups_103 rfl (lv_at hl 0 rfl) ?_
    refine lv_iload_n hx hb dX10_layOutFixups_104 rfl (lv_at hl 1 rfl) ?_
    refine lv_iconst (v := 4) hx hb dX10_layOutFixups_105 (by decide) ?_
    obtain ⟨r6, s5, h4, hf⟩ := bi_s hf
    refine goI Z (run_N (As := [.int x1, .int (4 : Int32)]) (rest := [.ref (h 30)]) X Z (c_X11_filledUp l D h cy x1 (4 : Int32) σ (r6, s5) h4 _) lk_RX10_39 ⟨by decide, by decide⟩ rfl hl.1 rfl (Nat.le_of_ble_eq_true rfl) ⟨Nat.le_refl _, Nat.le_refl _⟩ dX10_layOutFixups_106) (fun H locs Z => ?_)
    refine pf_RX10_115 X Z dX10_layOutFixups_109 (fun s7 H locs es7 Z => ?_)
    have hf := zn_e es7 hf
    refine lv_aload_n hx hb dX10_layOutFixups_112 rfl (lv_at hl 0 rfl) ?_
    refine lv_aload_n hx hb dX10_layOutFixups_113 rfl (lv_at hl 0 rfl) ?_
    refine gf_RX10_115 X Z dX10_layOutFixups_114 ?_
    refine lv_iconst (v := 4) hx hb dX10_layOutFixups_117 (by decide) ?_
    refine lv_aload_n hx hb dX10_layOutFixups_118 rfl (lv_at hl 0 rfl) ?_
    refine gf_RX10_9 X Z dX10_layOutFixups_119 ?_
    refine gf_RX10_118 X Z dX10_layOutFixups_122 ?_
    refine gf_RX10_51 X Z names_23 dX10_layOutFixups_125 ?_
    refine lv_imul hx hb dX10_layOutFixups_128 ?_
    refine lv_iadd hx hb dX10_layOutFixups_129 ?_
    refine pf_RX10_121 X Z dX10_layOutFixups_130 (fun s8 H locs es8 Z => ?_)
    have hf := zn_e es8 hf
    refine lv_aload_n hx hb dX10_layOutFixups_133 rfl (lv_at hl 0 rfl) ?_
    refine lv_aload_n hx hb dX10_layOutFixups_134 rfl (lv_at hl 0 rfl) ?_
    refine gf_RX10_121 X Z dX10_layOutFixups_135 ?_
    refine lv_aload_n hx hb dX10_layOutFixups_138 rfl (lv_at hl 0 rfl) ?_
    refine gf_RX10_9 X Z dX10_layOutFixups_139 ?_
    refine gf_RX10_118 X Z dX10_layOutFixups_142 ?_
    obtain ⟨r11, s10, h9, hf⟩ := bi_s hf
    refine goI Z (run_V (As := []) (rest := [.int (s8.1 30 8), .ref (h 30)]) X Z (c_X5_bytesWithZeros l D h cy names_23 s8 (r11, s10) h9 _) lk_RX10_124 ⟨by decide, by decide⟩ (rv_NamesS names_23) rfl hl.1 rfl (Nat.le_of_ble_eq_true rfl) ⟨Nat.le_refl _, Nat.le_refl _⟩ dX10_layOutFixups_145) (fun H locs Z => ?_)
    refine lv_iadd hx hb dX10_layOutFixups_148 ?_
    refine pf_RX10_36 X Z dX10_layOutFixups_149 (fun s12 H locs es12 Z => ?_)
    have hf := zn_e es12 hf
    exact retV X hr hk Z hf dX10_layOutFixups_152
  · have hf := itn c3 hf
    refine lv_aload_n hx hb dX10_layOutFixups_32 rfl (lv_at hl 0 rfl) ?_
    refine gf_RX10_23 X Z dX10_layOutFixups_33 ?_
    refine lv_iload_n hx hb dX10_layOutFixups_36 rfl (lv_at hl 2 rfl) ?_
    refine lv_iconst (v := 0) hx hb dX10_layOutFixups_37 (by decide) ?_
    obtain ⟨g13, hf⟩ := gd_s hf
    refine x_iast (k := 32) X Z sh_32 g13 dX10_layOutFixups_38 (fun s14 H locs es14 Z => ?_)
    have hf := zn_e es14 hf
    refine lv_aload_n hx hb dX10_layOutFixups_39 rfl (lv_at hl 0 rfl) ?_
    refine gf_RX10_9 X Z dX10_layOutFixups_40 ?_
    refine lv_iload_n hx hb dX10_layOutFixups_43 rfl (lv_at hl 2 rfl) ?_
    refine lv_iconst (v := 0) hx hb dX10_layOutFixups_44 (by decide) ?_
    refine lv_sipush (v := 1024) hx hb dX10_layOutFixups_45 (by decide) ?_
    obtain ⟨r17, s16, h15, hf⟩ := bi_s hf
    refine goI Z (run_V (As := [.int x2, .int (0 : Int32), .int (1024 : Int32)]) (rest := []) X Z (c_X8_firstPointer l D h cy x2 (0 : Int32) (1024 : Int32) s14 (r17, s16) h15 _) lk_RX10_101 ⟨by decide, by decide⟩ rv_5 rfl hl.1 rfl (Nat.le_of_ble_eq_true rfl) ⟨Nat.le_refl _, Nat.le_refl _⟩ dX10_layOutFixups_48) (fun H locs Z => ?_)
    refine lv_iconst (v := (-1)) hx hb dX10_layOutFixups_51 (by decide) ?_
    refine lv_icmp_eq (tgt := 97) hx hb dX10_layOutFixups_52 (by decide) (fun c18 => ?_) (fun c18 => ?_)
    · have hf := itp c18 hf
      exact b_X10_layOutFixups_97 X hr hk K18 hK18 x1 x2 s16 _ hf _ _ _ Z (lv_sub hl [0, 1, 2] rfl)
    · have hf := itn c18 hf
      refine lv_iload_n hx hb dX10_layOutFixups_55 rfl (lv_at hl 1 rfl) ?_
      refine lv_iconst (v := 4) hx hb dX10_layOutFixups_56 (by decide) ?_
      obtain ⟨r22, s21, h20, hf⟩ := bi_s hf
      refine goI Z (run_N (As := [.int x1, .int (4 : Int32)]) (rest := []) X Z (c_X11_filledUp l D h cy x1 (4 : Int32) s16 (r22, s21) h20 _) lk_RX10_39 ⟨by decide, by decide⟩ rfl hl.1 rfl (Nat.le_of_ble_eq_true rfl) ⟨Nat.le_refl _, Nat.le_refl _⟩ dX10_layOutFixups_57) (fun H locs Z => ?_)
      refine lv_istore_n (lv' := [(1, .int r22), (0, .ref (h 30)), (2, .int x2)]) hx hb dX10_layOutFixups_60 rfl hl (by decide) rfl (fun ls hl => ?_)
      refine lv_aload_n hx hb dX10_layOutFixups_61 rfl (lv_at hl 1 rfl) ?_
      refine gf_RX10_23 X Z dX10_layOutFixups_62 ?_
      refine lv_iload_n hx hb dX10_layOutFixups_65 rfl (lv_at hl 2 rfl) ?_
      refine lv_iload_n hx hb dX10_layOutFixups_66 rfl (lv_at hl 0 rfl) ?_
      refine lv_bipush (v := 28) hx hb dX10_layOutFixups_67 (by decide) ?_
      refine lv_isub hx hb dX10_layOutFixups_69 ?_
      obtain ⟨g23, hf⟩ := gd_s hf
      refine x_iast (k := 32) X Z sh_32 g23 dX10_layOutFixups_70 (fun s24 H locs es24 Z => ?_)
      have hf := zn_e es24 hf
      refine lv_iload_n hx hb dX10_layOutFixups_71 rfl (lv_at hl 0 rfl) ?_
      refine lv_bipush (v := 22) hx hb dX10_layOutFixups_72 (by decide) ?_
      refine lv_iconst (v := 2) hx hb dX10_layOutFixups_74 (by decide) ?_
      refine lv_aload_n hx hb dX10_layOutFixups_75 rfl (lv_at hl 1 rfl) ?_
      refine gf_RX10_9 X Z dX10_layOutFixups_76 ?_
      refine lv_iload_n hx hb dX10_layOutFixups_79 rfl (lv_at hl 2 rfl) ?_
      obtain ⟨r27, s26, h25, hf⟩ := bi_s hf
      refine goI Z (run_V (As := [.int x2]) (rest := [.int (2 : Int32), .int (22 : Int32), .int r22]) X Z (c_X8_spanOf l D h cy x2 s24 (r27, s26) h25 _) lk_RX10_105 ⟨by decide, by decide⟩ rv_5 rfl hl.1 rfl (Nat.le_of_ble_eq_true rfl) ⟨Nat.le_refl _, Nat.le_refl _⟩ dX10_layOutFixups_80) (fun H locs Z => ?_)
      refine lv_aload_n hx hb dX10_layOutFixups_83 rfl (lv_at hl 1 rfl) ?_
      refine gf_RX10_9 X Z dX10_layOutFixups_84 ?_
      refine gf_RX10_109 X Z dX10_layOutFixups_87 ?_
      obtain ⟨r30, s29, h28, hf⟩ := bi_s hf
      refine goI Z (run_N (As := [.int r27, .int (s26.1 5 1)]) (rest := [.int (2 : Int32), .int (22 : Int32), .int r22]) X Z (c_X11_pagesIn l D h cy r27 (s26.1 5 1) s26 (r30, s29) h28 _) lk_RX10_112 ⟨by decide, by decide⟩ rfl hl.1 rfl (Nat.le_of_ble_eq_true rfl) ⟨Nat.le_refl _, Nat.le_refl _⟩ dX10_layOutFixups_90) (fun H locs Z => ?_)
      refine lv_imul hx hb dX10_layOutFixups_93 ?_
      refine lv_iadd hx hb dX10_layOutFixups_94 ?_
      refine lv_iadd hx hb dX10_layOutFixups_95 ?_
      refine lv_topi (fun v31 ev31 => ?_)
      have hf := zn_e ev31 hf
      refine lv_istore_n (lv' := [(1, .int v31), (0, .ref (h 30)), (2, .int x2)]) hx hb dX10_layOutFixups_96 rfl hl (by decide) rfl (fun ls hl => ?_)
      exact b_X10_layOutFixups_97 X hr hk K18 hK18 v31 x2 s29 _ hf _ _ _ Z (lv_sub hl [1, 0, 2] rfl)

set_option maxRecDepth 100000 in
set_option maxHeartbeats 4000000 in
theorem b_X10_layOutFixups_18 {p : Program} {l : Launch} {e : Env} {s : State} {m : MethodId} {args : Array Value} {below : List Frame} {meth : Method} {c : Code} {D : va_G} {h : Nat → Nat} {cy : Nat → ClassId} (X : Cx p s m args c D h cy RX10 cX10_layOutFixups 3) (hr : meth.sig.returnType = none) (hk : meth.locks = false) (x1 : Int32) (x2 : Int32) (σ : St) (y : St) (hf : f_X10_layOutFixups_18 x1 x2 σ = some y) : ∀ (H : Heap) (locs : List Loc) (ls : Array Slot), Zt D h cy s σ H locs → lv_has ls 3 [(0, .ref (h 30)), (1, .int x1), (2, .int x2)] → W p l e (rmz 3 68) s m args below meth c H locs 0 0 (EV below args s D h cy y) (F0 m 18 ls []) := by
  exact it_W (F := fun K a => f_X10_layOutFixups_18b K a.1 a.2.1 a.2.2) (P := fun a y => ∀ (H : Heap) (locs : List Loc) (ls : Array Slot), Zt D h cy s a.2.2 H locs → lv_has ls 3 [(0, .ref (h 30)), (1, .int a.1), (2, .int a.2.1)] → W p l e (rmz 3 68) s m args below meth c H locs 0 0 (EV below args s D h cy y) (F0 m 18 ls [])) (fun K hK a y hf => b_X10_layOutFixups_18b X hr hk K hK (a.1) (a.2.1) (a.2.2) y hf) FU _ y hf

set_option maxRecDepth 100000 in
set_option maxHeartbeats 4000000 in
theorem c_X10_layOutFixups (l : Launch) (D : va_G) (h : Nat → Nat) (cy : Nat → ClassId) (σ : St) (y : St) (hf : f_X10_layOutFixups σ = some y) : CV l yX10_layOutFixups cX10_layOutFixups 3 none 3 68 D h cy [.ref (h 30)] σ y := by
  refine ent (Qc := fun sz => QV D h cy sz y) (by decide) (Nat.le_of_ble_eq_true rfl) ?_
  intro p e s m below meth c ls X Z hr hk hl
  have X : Cx p s m _ c D h cy RX10 cX10_layOutFixups 3 := X
  have hx := X.x
  have hb := X.b
  have hl : lv_has ls 3 [(0, .ref (h 30))] := hl
  unfold f_X10_layOutFixups at hf
  refine lv_bipush (v := 32) hx hb dX10_layOutFixups_0 (by decide) ?_
  refine lv_iconst (v := 4) hx hb dX10_layOutFixups_2 (by decide) ?_
  refine lv_aload_n hx hb dX10_layOutFixups_3 rfl (lv_at hl 0 rfl) ?_
  refine gf_RX10_9 X Z dX10_layOutFixups_4 ?_
  refine gf_RX10_67 X Z dX10_layOutFixups_7 ?_
  refine gf_RX10_51 X Z names_6 dX10_layOutFixups_10 ?_
  refine lv_imul hx hb dX10_layOutFixups_13 ?_
  refine lv_iadd hx hb dX10_layOutFixups_14 ?_
  refine lv_topi (fun v1 ev1 => ?_)
  have hf := zn_e ev1 hf
  refine lv_istore_n (lv' := [(1, .int v1), (0, .ref (h 30))]) hx hb dX10_layOutFixups_15 rfl hl (by decide) rfl (fun ls hl => ?_)
  refine lv_iconst (v := 0) hx hb dX10_layOutFixups_16 (by decide) ?_
  refine lv_topi (fun v2 ev2 => ?_)
  have hf := zn_e ev2 hf
  refine lv_istore_n (lv' := [(2, .int v2), (1, .int v1), (0, .ref (h 30))]) hx hb dX10_layOutFixups_17 rfl hl (by decide) rfl (fun ls hl => ?_)
  exact b_X10_layOutFixups_18 X hr hk v1 v2 σ _ hf _ _ _ Z (lv_sub hl [2, 1, 0] rfl)

set_option maxRecDepth 100000 in
set_option maxHeartbeats 4000000 in
theorem c_X10_addHead (l : Launch) (D : va_G) (h : Nat → Nat) (cy : Nat → ClassId) (σ : St) (y : St) (hf : f_X10_addHead σ = some y) : CV l yX10_addHead cX10_addHead 1 none 3 69 D h cy [.ref (h 30)] σ y := by
  refine ent (Qc := fun sz => QV D h cy sz y) (by decide) (Nat.le_of_ble_eq_true rfl) ?_
  intro p e s m below meth c ls X Z hr hk hl
  have X : Cx p s m _ c D h cy RX10 cX10_addHead 1 := X
  have hx := X.x
  have hb := X.b
  have hl : lv_has ls 1 [(0, .ref (h 30))] := hl
  unfold f_X10_addHead at hf
  refine lv_aload_n hx hb dX10_addHead_0 rfl (lv_at hl 0 rfl) ?_
  refine gf_RX10_15 X Z dX10_addHead_1 ?_
  refine lv_iconst (v := 4) hx hb dX10_addHead_4 (by decide) ?_
  refine lv_ldc2 (v := 4277009103) hx hb X.o (X.t _ kc_RX10_128) dX10_addHead_5 ?_
  obtain ⟨s2, h1, hf⟩ := bv_s hf
  refine goV Z (run_V (As := [.int (4 : Int32), .long (4277009103 : Int64)]) (rest := []) X Z (c_X6_add l D h cy row_3 (4 : Int32) (4277009103 : Int64) σ s2 h1 _) lk_RX10_130 ⟨by decide, by decide⟩ (rv_RowS row_3) rfl hl.1 rfl (Nat.le_of_ble_eq_true rfl) ⟨Nat.le_refl _, Nat.le_refl _⟩ dX10_addHead_8) (fun H locs Z => ?_)
  refine lv_aload_n hx hb dX10_addHead_11 rfl (lv_at hl 0 rfl) ?_
  refine gf_RX10_15 X Z dX10_addHead_12 ?_
  refine lv_iconst (v := 4) hx hb dX10_addHead_15 (by decide) ?_
  refine lv_ldc2 (v := 16777228) hx hb X.o (X.t _ kc_RX10_134) dX10_addHead_16 ?_
  obtain ⟨s4, h3, hf⟩ := bv_s hf
  refine goV Z (run_V (As := [.int (4 : Int32), .long (16777228 : Int64)]) (rest := []) X Z (c_X6_add l D h cy row_3 (4 : Int32) (16777228 : Int64) s2 s4 h3 _) lk_RX10_130 ⟨by decide, by decide⟩ (rv_RowS row_3) rfl hl.1 rfl (Nat.le_of_ble_eq_true rfl) ⟨Nat.le_refl _, Nat.le_refl _⟩ dX10_addHead_19) (fun H locs Z => ?_)
  refine lv_aload_n hx hb dX10_addHead_22 rfl (lv_at hl 0 rfl) ?_
  refine gf_RX10_15 X Z dX10_addHead_23 ?_
  refine lv_iconst (v := 4) hx hb dX10_addHead_26 (by decide) ?_
  refine lv_lconst (v := 0) hx hb dX10_addHead_27 (by decide) ?_
  obtain ⟨s6, h5, hf⟩ := bv_s hf
  refine goV Z (run_V (As := [.int (4 : Int32), .long (0 : Int64)]) (rest := []) X Z (c_X6_add l D h cy row_3 (4 : Int32) (0 : Int64) s4 s6 h5 _) lk_RX10_130 ⟨by decide, by decide⟩ (rv_RowS row_3) rfl hl.1 rfl (Nat.le_of_ble_eq_true rfl) ⟨Nat.le_refl _, Nat.le_refl _⟩ dX10_addHead_28) (fun H locs Z => ?_)
  refine lv_aload_n hx hb dX10_addHead_31 rfl (lv_at hl 0 rfl) ?_
  refine gf_RX10_15 X Z dX10_addHead_32 ?_
  refine lv_iconst (v := 4) hx hb dX10_addHead_35 (by decide) ?_
  refine lv_ldc2 (v := 6) hx hb X.o (X.t _ kc_RX10_136) dX10_addHead_36 ?_
  obtain ⟨s8, h7, hf⟩ := bv_s hf
  refine goV Z (run_V (As := [.int (4 : Int32), .long (6 : Int64)]) (rest := []) X Z (c_X6_add l D h cy row_3 (4 : Int32) (6 : Int64) s6 s8 h7 _) lk_RX10_130 ⟨by decide, by decide⟩ (rv_RowS row_3) rfl hl.1 rfl (Nat.le_of_ble_eq_true rfl) ⟨Nat.le_refl _, Nat.le_refl _⟩ dX10_addHead_39) (fun H locs Z => ?_)
  refine lv_aload_n hx hb dX10_addHead_42 rfl (lv_at hl 0 rfl) ?_
  refine gf_RX10_15 X Z dX10_addHead_43 ?_
  refine lv_iconst (v := 4) hx hb dX10_addHead_46 (by decide) ?_
  refine lv_aload_n hx hb dX10_addHead_47 rfl (lv_at hl 0 rfl) ?_
  refine gf_RX10_9 X Z dX10_addHead_48 ?_
  refine gf_RX10_67 X Z dX10_addHead_51 ?_
  refine gf_RX10_51 X Z names_6 dX10_addHead_54 ?_
  refine lv_iconst (v := 2) hx hb dX10_addHead_57 (by decide) ?_
  refine lv_iadd hx hb dX10_addHead_58 ?_
  refine lv_i2l (v := (((s8.1 6 2) + (2 : Int32))).toInt64) hx hb dX10_addHead_59 rfl ?_
  obtain ⟨s10, h9, hf⟩ := bv_s hf
  refine goV Z (run_V (As := [.int (4 : Int32), .long ((((s8.1 6 2) + (2 : Int32))).toInt64)]) (rest := []) X Z (c_X6_add l D h cy row_3 (4 : Int32) ((((s8.1 6 2) + (2 : Int32))).toInt64) s8 s10 h9 _) lk_RX10_130 ⟨by decide, by decide⟩ (rv_RowS row_3) rfl hl.1 rfl (Nat.le_of_ble_eq_true rfl) ⟨Nat.le_refl _, Nat.le_refl _⟩ dX10_addHead_60) (fun H locs Z => ?_)
  refine lv_aload_n hx hb dX10_addHead_63 rfl (lv_at hl 0 rfl) ?_
  refine gf_RX10_15 X Z dX10_addHead_64 ?_
  refine lv_iconst (v := 4) hx hb dX10_addHead_67 (by decide) ?_
  refine lv_aload_n hx hb dX10_addHead_68 rfl (lv_at hl 0 rfl) ?_
  refine gf_RX10_95 X Z dX10_addHead_69 ?_
  refine lv_i2l (v := (s10.1 30 4).toInt64) hx hb dX10_addHead_72 rfl ?_
  obtain ⟨s12, h11, hf⟩ := bv_s hf
  refine goV Z (run_V (As := [.int (4 : Int32), .long ((s10.1 30 4).toInt64)]) (rest := []) X Z (c_X6_add l D h cy row_3 (4 : Int32) ((s10.1 30 4).toInt64) s10 s12 h11 _) lk_RX10_130 ⟨by decide, by decide⟩ (rv_RowS row_3) rfl hl.1 rfl (Nat.le_of_ble_eq_true rfl) ⟨Nat.le_refl _, Nat.le_refl _⟩ dX10_addHead_73) (fun H locs Z => ?_)
  refine lv_aload_n hx hb dX10_addHead_76 rfl (lv_at hl 0 rfl) ?_
  refine gf_RX10_15 X Z dX10_addHead_77 ?_
  refine lv_iconst (v := 4) hx hb dX10_addHead_80 (by decide) ?_
  refine lv_ldc2 (v := 133) hx hb X.o (X.t _ kc_RX10_138) dX10_addHead_81 ?_
  obtain ⟨s14, h13, hf⟩ := bv_s hf
  refine goV Z (run_V (As := [.int (4 : Int32), .long (133 : Int64)]) (rest := []) X Z (c_X6_add l D h cy row_3 (4 : Int32) (133 : Int64) s12 s14 h13 _) lk_RX10_130 ⟨by decide, by decide⟩ (rv_RowS row_3) rfl hl.1 rfl (Nat.le_of_ble_eq_true rfl) ⟨Nat.le_refl _, Nat.le_refl _⟩ dX10_addHead_84) (fun H locs Z => ?_)
  refine lv_aload_n hx hb dX10_addHead_87 rfl (lv_at hl 0 rfl) ?_
  refine gf_RX10_15 X Z dX10_addHead_88 ?_
  refine lv_iconst (v := 4) hx hb dX10_addHead_91 (by decide) ?_
  refine lv_lconst (v := 0) hx hb dX10_addHead_92 (by decide) ?_
  obtain ⟨s16, h15, hf⟩ := bv_s hf
  refine goV Z (run_V (As := [.int (4 : Int32), .long (0 : Int64)]) (rest := []) X Z (c_X6_add l D h cy row_3 (4 : Int32) (0 : Int64) s14 s16 h15 _) lk_RX10_130 ⟨by decide, by decide⟩ (rv_RowS row_3) rfl hl.1 rfl (Nat.le_of_ble_eq_true rfl) ⟨Nat.le_refl _, Nat.le_refl _⟩ dX10_addHead_93) (fun H locs Z => ?_)
  exact retV X hr hk Z hf dX10_addHead_96

set_option maxRecDepth 100000 in
set_option maxHeartbeats 4000000 in
theorem c_X10_addTableCommands (l : Launch) (D : va_G) (h : Nat → Nat) (cy : Nat → ClassId) (σ : St) (y : St) (hf : f_X10_addTableCommands σ = some y) : CV l yX10_addTableCommands cX10_addTableCommands 1 none 3 69 D h cy [.ref (h 30)] σ y := by
  refine ent (Qc := fun sz => QV D h cy sz y) (by decide) (Nat.le_of_ble_eq_true rfl) ?_
  intro p e s m below meth c ls X Z hr hk hl
  have X : Cx p s m _ c D h cy RX10 cX10_addTableCommands 1 := X
  have hx := X.x
  have hb := X.b
  have hl : lv_has ls 1 [(0, .ref (h 30))] := hl
  unfold f_X10_addTableCommands at hf
  refine lv_aload_n hx hb dX10_addTableCommands_0 rfl (lv_at hl 0 rfl) ?_
  refine gf_RX10_15 X Z dX10_addTableCommands_1 ?_
  refine lv_iconst (v := 4) hx hb dX10_addTableCommands_4 (by decide) ?_
  refine lv_ldc2 (v := 2) hx hb X.o (X.t _ kc_RX10_169) dX10_addTableCommands_5 ?_
  obtain ⟨s2, h1, hf⟩ := bv_s hf
  refine goV Z (run_V (As := [.int (4 : Int32), .long (2 : Int64)]) (rest := []) X Z (c_X6_add l D h cy row_3 (4 : Int32) (2 : Int64) σ s2 h1 _) lk_RX10_130 ⟨by decide, by decide⟩ (rv_RowS row_3) rfl hl.1 rfl (Nat.le_of_ble_eq_true rfl) ⟨Nat.le_refl _, Nat.le_refl _⟩ dX10_addTableCommands_8) (fun H locs Z => ?_)
  refine lv_aload_n hx hb dX10_addTableCommands_11 rfl (lv_at hl 0 rfl) ?_
  refine gf_RX10_15 X Z dX10_addTableCommands_12 ?_
  refine lv_iconst (v := 4) hx hb dX10_addTableCommands_15 (by decide) ?_
  refine lv_ldc2 (v := 24) hx hb X.o (X.t _ kc_RX10_171) dX10_addTableCommands_16 ?_
  obtain ⟨s4, h3, hf⟩ := bv_s hf
  refine goV Z (run_V (As := [.int (4 : Int32), .long (24 : Int64)]) (rest := []) X Z (c_X6_add l D h cy row_3 (4 : Int32) (24 : Int64) s2 s4 h3 _) lk_RX10_130 ⟨by decide, by decide⟩ (rv_RowS row_3) rfl hl.1 rfl (Nat.le_of_ble_eq_true rfl) ⟨Nat.le_refl _, Nat.le_refl _⟩ dX10_addTableCommands_19) (fun H locs Z => ?_)
  refine lv_aload_n hx hb dX10_addTableCommands_22 rfl (lv_at hl 0 rfl) ?_
  refine gf_RX10_15 X Z dX10_addTableCommands_23 ?_
  refine lv_iconst (v := 4) hx hb dX10_addTableCommands_26 (by decide) ?_
  refine lv_aload_n hx hb dX10_addTableCommands_27 rfl (lv_at hl 0 rfl) ?_
  refine gf_RX10_43 X Z dX10_addTableCommands_28 ?_
  refine lv_i2l (v := (s4.1 30 9).toInt64) hx hb dX10_addTableCommands_31 rfl ?_
  obtain ⟨s6, h5, hf⟩ := bv_s hf
  refine goV Z (run_V (As := [.int (4 : Int32), .long ((s4.1 30 9).toInt64)]) (rest := []) X Z (c_X6_add l D h cy row_3 (4 : Int32) ((s4.1 30 9).toInt64) s4 s6 h5 _) lk_RX10_130 ⟨by decide, by decide⟩ (rv_RowS row_3) rfl hl.1 rfl (Nat.le_of_ble_eq_true rfl) ⟨Nat.le_refl _, Nat.le_refl _⟩ dX10_addTableCommands_32) (fun H locs Z => ?_)
  refine lv_aload_n hx hb dX10_addTableCommands_35 rfl (lv_at hl 0 rfl) ?_
  refine gf_RX10_15 X Z dX10_addTableCommands_36 ?_
  refine lv_iconst (v := 4) hx hb dX10_addTableCommands_39 (by decide) ?_
  refine lv_aload_n hx hb dX10_addTableCommands_40 rfl (lv_at hl 0 rfl) ?_
  refine gf_RX10_9 X Z dX10_addTableCommands_41 ?_
  refine gf_RX10_46 X Z dX10_addTableCommands_44 ?_
  refine gf_RX10_51 X Z names_18 dX10_addTableCommands_47 ?_
  refine lv_i2l (v := (s6.1 18 2).toInt64) hx hb dX10_addTableCommands_50 rfl ?_
  obtain ⟨s8, h7, hf⟩ := bv_s hf
  refine goV Z (run_V (As := [.int (4 : Int32), .long ((s6.1 18 2).toInt64)]) (rest := []) X Z (c_X6_add l D h cy row_3 (4 : Int32) ((s6.1 18 2).toInt64) s6 s8 h7 _) lk_RX10_130 ⟨by decide, by decide⟩ (rv_RowS row_3) rfl hl.1 rfl (Nat.le_of_ble_eq_true rfl) ⟨Nat.le_refl _, Nat.le_refl _⟩ dX10_addTableCommands_51) (fun H locs Z => ?_)
  refine lv_aload_n hx hb dX10_addTableCommands_54 rfl (lv_at hl 0 rfl) ?_
  refine gf_RX10_15 X Z dX10_addTableCommands_55 ?_
  refine lv_iconst (v := 4) hx hb dX10_addTableCommands_58 (by decide) ?_
  refine lv_aload_n hx hb dX10_addTableCommands_59 rfl (lv_at hl 0 rfl) ?_
  refine gf_RX10_56 X Z dX10_addTableCommands_60 ?_
  refine lv_i2l (v := (s8.1 30 10).toInt64) hx hb dX10_addTableCommands_63 rfl ?_
  obtain ⟨s10, h9, hf⟩ := bv_s hf
  refine goV Z (run_V (As := [.int (4 : Int32), .long ((s8.1 30 10).toInt64)]) (rest := []) X Z (c_X6_add l D h cy row_3 (4 : Int32) ((s8.1 30 10).toInt64) s8 s10 h9 _) lk_RX10_130 ⟨by decide, by decide⟩ (rv_RowS row_3) rfl hl.1 rfl (Nat.le_of_ble_eq_true rfl) ⟨Nat.le_refl _, Nat.le_refl _⟩ dX10_addTableCommands_64) (fun H locs Z => ?_)
  refine lv_aload_n hx hb dX10_addTableCommands_67 rfl (lv_at hl 0 rfl) ?_
  refine gf_RX10_15 X Z dX10_addTableCommands_68 ?_
  refine lv_iconst (v := 4) hx hb dX10_addTableCommands_71 (by decide) ?_
  refine lv_iconst (v := 1) hx hb dX10_addTableCommands_72 (by decide) ?_
  refine lv_aload_n hx hb dX10_addTableCommands_73 rfl (lv_at hl 0 rfl) ?_
  refine gf_RX10_9 X Z dX10_addTableCommands_74 ?_
  refine gf_RX10_46 X Z dX10_addTableCommands_77 ?_
  obtain ⟨r13, s12, h11, hf⟩ := bi_s hf
  refine goI Z (run_V (As := []) (rest := [.int (1 : Int32), .int (4 : Int32), .ref (h 3)]) X Z (c_X5_bytesWithZeros l D h cy names_18 s10 (r13, s12) h11 _) lk_RX10_124 ⟨by decide, by decide⟩ (rv_NamesS names_18) rfl hl.1 rfl (Nat.le_of_ble_eq_true rfl) ⟨Nat.le_refl _, Nat.le_refl _⟩ dX10_addTableCommands_80) (fun H locs Z => ?_)
  refine lv_iadd hx hb dX10_addTableCommands_83 ?_
  refine lv_i2l (v := (((1 : Int32) + r13)).toInt64) hx hb dX10_addTableCommands_84 rfl ?_
  obtain ⟨s15, h14, hf⟩ := bv_s hf
  refine goV Z (run_V (As := [.int (4 : Int32), .long ((((1 : Int32) + r13)).toInt64)]) (rest := []) X Z (c_X6_add l D h cy row_3 (4 : Int32) ((((1 : Int32) + r13)).toInt64) s12 s15 h14 _) lk_RX10_130 ⟨by decide, by decide⟩ (rv_RowS row_3) rfl hl.1 rfl (Nat.le_of_ble_eq_true rfl) ⟨Nat.le_refl _, Nat.le_refl _⟩ dX10_addTableCommands_85) (fun H locs Z => ?_)
  refine lv_aload_n hx hb dX10_addTableCommands_88 rfl (lv_at hl 0 rfl) ?_
  refine gf_RX10_15 X Z dX10_addTableCommands_89 ?_
  refine lv_iconst (v := 4) hx hb dX10_addTableCommands_92 (by decide) ?_
  refine lv_ldc2 (v := 2147483700) hx hb X.o (X.t _ kc_RX10_173) dX10_addTableCommands_93 ?_
  obtain ⟨s17, h16, hf⟩ := bv_s hf
  refine goV Z (run_V (As := [.int (4 : Int32), .long (2147483700 : Int64)]) (rest := []) X Z (c_X6_add l D h cy row_3 (4 : Int32) (2147483700 : Int64) s15 s17 h16 _) lk_RX10_130 ⟨by decide, by decide⟩ (rv_RowS row_3) rfl hl.1 rfl (Nat.le_of_ble_eq_true rfl) ⟨Nat.le_refl _, Nat.le_refl _⟩ dX10_addTableCommands_96) (fun H locs Z => ?_)
  refine lv_aload_n hx hb dX10_addTableCommands_99 rfl (lv_at hl 0 rfl) ?_
  refine gf_RX10_15 X Z dX10_addTableCommands_100 ?_
  refine lv_iconst (v := 4) hx hb dX10_addTableCommands_103 (by decide) ?_
  refine lv_ldc2 (v := 16) hx hb X.o (X.t _ kc_RX10_175) dX10_addTableCommands_104 ?_
  obtain ⟨s19, h18, hf⟩ := bv_s hf
  refine goV Z (run_V (As := [.int (4 : Int32), .long (16 : Int64)]) (rest := []) X Z (c_X6_add l D h cy row_3 (4 : Int32) (16 : Int64) s17 s19 h18 _) lk_RX10_130 ⟨by decide, by decide⟩ (rv_RowS row_3) rfl hl.1 rfl (Nat.le_of_ble_eq_true rfl) ⟨Nat.le_refl _, Nat.le_refl _⟩ dX10_addTableCommands_107) (fun H locs Z => ?_)
  refine lv_aload_n hx hb dX10_addTableCommands_110 rfl (lv_at hl 0 rfl) ?_
  refine gf_RX10_15 X Z dX10_addTableCommands_111 ?_
  refine lv_iconst (v := 4) hx hb dX10_addTableCommands_114 (by decide) ?_
  refine lv_aload_n hx hb dX10_addTableCommands_115 rfl (lv_at hl 0 rfl) ?_
  refine gf_RX10_32 X Z dX10_addTableCommands_116 ?_
  refine lv_i2l (v := (s19.1 30 5).toInt64) hx hb dX10_addTableCommands_119 rfl ?_
  obtain ⟨s21, h20, hf⟩ := bv_s hf
  refine goV Z (run_V (As := [.int (4 : Int32), .long ((s19.1 30 5).toInt64)]) (rest := []) X Z (c_X6_add l D h cy row_3 (4 : Int32) ((s19.1 30 5).toInt64) s19 s21 h20 _) lk_RX10_130 ⟨by decide, by decide⟩ (rv_RowS row_3) rfl hl.1 rfl (Nat.le_of_ble_eq_true rfl) ⟨Nat.le_refl _, Nat.le_refl _⟩ dX10_addTableCommands_120) (fun H locs Z => ?_)
  refine lv_aload_n hx hb dX10_addTableCommands_123 rfl (lv_at hl 0 rfl) ?_
  refine gf_RX10_15 X Z dX10_addTableCommands_124 ?_
  refine lv_iconst (v := 4) hx hb dX10_addTableCommands_127 (by decide) ?_
  refine lv_aload_n hx hb dX10_addTableCommands_128 rfl (lv_at hl 0 rfl) ?_
  refine gf_RX10_36 X Z dX10_addTableCommands_129 ?_
  refine lv_i2l (v := (s21.1 30 6).toInt64) hx hb dX10_addTableCommands_132 rfl ?_
  obtain ⟨s23, h22, hf⟩ := bv_s hf
  refine goV Z (run_V (As := [.int (4 : Int32), .long ((s21.1 30 6).toInt64)]) (rest := []) X Z (c_X6_add l D h cy row_3 (4 : Int32) ((s21.1 30 6).toInt64) s21 s23 h22 _) lk_RX10_130 ⟨by decide, by decide⟩ (rv_RowS row_3) rfl hl.1 rfl (Nat.le_of_ble_eq_true rfl) ⟨Nat.le_refl _, Nat.le_refl _⟩ dX10_addTableCommands_133) (fun H locs Z => ?_)
  exact retV X hr hk Z hf dX10_addTableCommands_136

set_option maxRecDepth 100000 in
set_option maxHeartbeats 4000000 in
theorem b_X10_addImports_35 {p : Program} {l : Launch} {e : Env} {s : State} {m : MethodId} {args : Array Value} {below : List Frame} {meth : Method} {c : Code} {D : va_G} {h : Nat → Nat} {cy : Nat → ClassId} (X : Cx p s m args c D h cy RX10 cX10_addImports 4) (hr : meth.sig.returnType = none) (hk : meth.locks = false) (K4 : (Int32 × Int32 × St) → Option (St)) (hK4 : ∀ (a : Int32 × Int32 × St) (y : St), K4 a = some y → ∀ (H : Heap) (locs : List Loc) (ls : Array Slot), Zt D h cy s a.2.2 H locs → lv_has ls 4 [(0, .ref (h 30)), (1, .int a.1), (2, .int a.2.1)] → W p l e (rmz 3 69) s m args below meth c H locs 0 0 (EV below args s D h cy y) (F0 m 4 ls [])) (x1 : Int32) (x2 : Int32) (t0 : Int32) (σ : St) (y : St) (hf : f_X10_addImports_35 K4 x1 x2 t0 σ = some y) : ∀ (H : Heap) (locs : List Loc) (ls : Array Slot), Zt D h cy s σ H locs → lv_has ls 4 [(0, .ref (h 30)), (1, .int x1), (2, .int x2)] → W p l e (rmz 3 69) s m args below meth c H locs 0 0 (EV below args s D h cy y) (F0 m 35 ls [.int t0]) := by
  intro H locs ls Z hl
  have hx := X.x
  have hb := X.b
  unfold f_X10_addImports_35 at hf
  refine lv_istore_n (lv' := [(3, .int t0), (0, .ref (h 30)), (1, .int x1), (2, .int x2)]) hx hb dX10_addImports_35 rfl hl (by decide) rfl (fun ls hl => ?_)
  refine lv_aload_n hx hb dX10_addImports_36 rfl (lv_at hl 1 rfl) ?_
  refine gf_RX10_15 X Z dX10_addImports_37 ?_
  refine lv_iconst (v := 4) hx hb dX10_addImports_40 (by decide) ?_
  refine lv_aload_n hx hb dX10_addImports_41 rfl (lv_at hl 1 rfl) ?_
  refine gf_RX10_9 X Z dX10_addImports_42 ?_
  refine gf_RX10_224 X Z dX10_addImports_45 ?_
  refine lv_iload_n hx hb dX10_addImports_48 rfl (lv_at hl 3 rfl) ?_
  obtain ⟨g6, hf⟩ := gd_s hf
  refine x_iald (k := 26) X Z sh_26 g6 dX10_addImports_49 ?_
  refine lv_iload_n hx hb dX10_addImports_50 rfl (lv_at hl 0 rfl) ?_
  refine lv_bipush (v := 8) hx hb dX10_addImports_51 (by decide) ?_
  refine lv_ishl hx hb dX10_addImports_53 ?_
  refine lv_ior hx hb dX10_addImports_54 ?_
  refine lv_iload_n hx hb dX10_addImports_55 rfl (lv_at hl 2 rfl) ?_
  refine lv_bipush (v := 9) hx hb dX10_addImports_56 (by decide) ?_
  refine lv_ishl hx hb dX10_addImports_58 ?_
  refine lv_ior hx hb dX10_addImports_59 ?_
  refine lv_i2l (v := ((((σ.1 26 x2.toNatClampNeg) ||| (t0 <<< ((8 : Int32) &&& 31))) ||| (x1 <<< ((9 : Int32) &&& 31)))).toInt64) hx hb dX10_addImports_60 rfl ?_
  obtain ⟨s8, h7, hf⟩ := bv_s hf
  refine goV Z (run_V (As := [.int (4 : Int32), .long (((((σ.1 26 x2.toNatClampNeg) ||| (t0 <<< ((8 : Int32) &&& 31))) ||| (x1 <<< ((9 : Int32) &&& 31)))).toInt64)]) (rest := []) X Z (c_X6_add l D h cy row_3 (4 : Int32) (((((σ.1 26 x2.toNatClampNeg) ||| (t0 <<< ((8 : Int32) &&& 31))) ||| (x1 <<< ((9 : Int32) &&& 31)))).toInt64) σ s8 h7 _) lk_RX10_130 ⟨by decide, by decide⟩ (rv_RowS row_3) rfl hl.1 rfl (Nat.le_of_ble_eq_true rfl) ⟨Nat.le_refl _, Nat.le_refl _⟩ dX10_addImports_61) (fun H locs Z => ?_)
  refine lv_iload_n hx hb dX10_addImports_64 rfl (lv_at hl 2 rfl) ?_
  refine lv_aload_n hx hb dX10_addImports_65 rfl (lv_at hl 1 rfl) ?_
  refine gf_RX10_9 X Z dX10_addImports_66 ?_
  refine gf_RX10_118 X Z dX10_addImports_69 ?_
  refine gf_RX10_227 X Z names_23 dX10_addImports_72 ?_
  refine lv_iload_n hx hb dX10_addImports_75 rfl (lv_at hl 3 rfl) ?_
  obtain ⟨g9, hf⟩ := gd_s hf
  refine x_iald (k := 25) X Z sh_25 g9 dX10_addImports_76 ?_
  refine lv_iconst (v := 1) hx hb dX10_addImports_77 (by decide) ?_
  refine lv_iadd hx hb dX10_addImports_78 ?_
  refine lv_iadd hx hb dX10_addImports_79 ?_
  refine lv_topi (fun v10 ev10 => ?_)
  have hf := zn_e ev10 hf
  refine lv_istore_n (lv' := [(1, .int v10), (3, .int t0), (0, .ref (h 30)), (2, .int x2)]) hx hb dX10_addImports_80 rfl hl (by decide) rfl (fun ls hl => ?_)
  obtain ⟨v11, ev11⟩ : ∃ z : Int32, z = x2 + 1 := ⟨_, rfl⟩
  have hf := zn_e ev11 hf
  refine lv_iinc (v := v11) (lv' := [(2, .int v11), (1, .int v10), (3, .int t0), (0, .ref (h 30))]) hx hb dX10_addImports_81 hl (k := 3) rfl (by rw [ev11]; rfl) (by decide) rfl (fun ls hl => ?_)
  refine lv_goto (tgt := 4) hx hb dX10_addImports_84 (by decide) ?_
  exact hK4 (v10, v11, s8) _ hf _ _ _ Z (lv_sub hl [3, 1, 0] rfl)

set_option maxRecDepth 100000 in
set_option maxHeartbeats 4000000 in
theorem b_X10_addImports_4b {p : Program} {l : Launch} {e : Env} {s : State} {m : MethodId} {args : Array Value} {below : List Frame} {meth : Method} {c : Code} {D : va_G} {h : Nat → Nat} {cy : Nat → ClassId} (X : Cx p s m args c D h cy RX10 cX10_addImports 4) (hr : meth.sig.returnType = none) (hk : meth.locks = false) (K4 : (Int32 × Int32 × St) → Option (St)) (hK4 : ∀ (a : Int32 × Int32 × St) (y : St), K4 a = some y → ∀ (H : Heap) (locs : List Loc) (ls : Array Slot), Zt D h cy s a.2.2 H locs → lv_has ls 4 [(0, .ref (h 30)), (1, .int a.1), (2, .int a.2.1)] → W p l e (rmz 3 69) s m args below meth c H locs 0 0 (EV below args s D h cy y) (F0 m 4 ls [])) (x1 : Int32) (x2 : Int32) (σ : St) (y : St) (hf : f_X10_addImports_4b K4 x1 x2 σ = some y) : ∀ (H : Heap) (locs : List Loc) (ls : Array Slot), Zt D h cy s σ H locs → lv_has ls 4 [(0, .ref (h 30)), (1, .int x1), (2, .int x2)] → W p l e (rmz 3 69) s m args below meth c H locs 0 0 (EV below args s D h cy y) (F0 m 4 ls []) := by
  intro H locs ls Z hl
  have hx := X.x
  have hb := X.b
  unfold f_X10_addImports_4b at hf
  refine lv_iload_n hx hb dX10_addImports_4 rfl (lv_at hl 2 rfl) ?_
  refine lv_aload_n hx hb dX10_addImports_5 rfl (lv_at hl 0 rfl) ?_
  refine gf_RX10_9 X Z dX10_addImports_6 ?_
  refine gf_RX10_118 X Z dX10_addImports_9 ?_
  refine gf_RX10_51 X Z names_23 dX10_addImports_12 ?_
  refine lv_icmp_ge (tgt := 87) hx hb dX10_addImports_15 (by decide) (fun c3 => ?_) (fun c3 => ?_)
  · have hf := itp c3 hf
    exact retV X hr hk Z hf dX10_addImports_87
  · have hf := itn c3 hf
    refine lv_aload_n hx hb dX10_addImports_18 rfl (lv_at hl 0 rfl) ?_
    refine gf_RX10_9 X Z dX10_addImports_19 ?_
    refine gf_RX10_220 X Z dX10_addImports_22 ?_
    refine lv_iload_n hx hb dX10_addImports_25 rfl (lv_at hl 2 rfl) ?_
    obtain ⟨g4, hf⟩ := gd_s hf
    refine x_zald (k := 27) X Z sh_27 g4 dX10_addImports_26 ?_
    refine lv_if_eq (tgt := 34) hx hb dX10_addImports_27 (by decide) (fun c5 => ?_) (fun c5 => ?_)
    · have hf := itp c5 hf
      refine lv_iconst (v := 0) hx hb dX10_addImports_34 (by decide) ?_
      exact b_X10_addImports_35 X hr hk K4 hK4 x1 x2 (0 : Int32) σ _ hf _ _ _ Z (lv_sub hl [0, 1, 2] rfl)
    · have hf := itn c5 hf
      refine lv_iconst (v := 1) hx hb dX10_addImports_30 (by decide) ?_
      refine lv_goto (tgt := 35) hx hb dX10_addImports_31 (by decide) ?_
      exact b_X10_addImports_35 X hr hk K4 hK4 x1 x2 (1 : Int32) σ _ hf _ _ _ Z (lv_sub hl [0, 1, 2] rfl)

set_option maxRecDepth 100000 in
set_option maxHeartbeats 4000000 in
theorem b_X10_addImports_4 {p : Program} {l : Launch} {e : Env} {s : State} {m : MethodId} {args : Array Value} {below : List Frame} {meth : Method} {c : Code} {D : va_G} {h : Nat → Nat} {cy : Nat → ClassId} (X : Cx p s m args c D h cy RX10 cX10_addImports 4) (hr : meth.sig.returnType = none) (hk : meth.locks = false) (x1 : Int32) (x2 : Int32) (σ : St) (y : St) (hf : f_X10_addImports_4 x1 x2 σ = some y) : ∀ (H : Heap) (locs : List Loc) (ls : Array Slot), Zt D h cy s σ H locs → lv_has ls 4 [(0, .ref (h 30)), (1, .int x1), (2, .int x2)] → W p l e (rmz 3 69) s m args below meth c H locs 0 0 (EV below args s D h cy y) (F0 m 4 ls []) := by
  exact it_W (F := fun K a => f_X10_addImports_4b K a.1 a.2.1 a.2.2) (P := fun a y => ∀ (H : Heap) (locs : List Loc) (ls : Array Slot), Zt D h cy s a.2.2 H locs → lv_has ls 4 [(0, .ref (h 30)), (1, .int a.1), (2, .int a.2.1)] → W p l e (rmz 3 69) s m args below meth c H locs 0 0 (EV below args s D h cy y) (F0 m 4 ls [])) (fun K hK a y hf => b_X10_addImports_4b X hr hk K hK (a.1) (a.2.1) (a.2.2) y hf) FU _ y hf

set_option maxRecDepth 100000 in
set_option maxHeartbeats 4000000 in
theorem c_X10_addImports (l : Launch) (D : va_G) (h : Nat → Nat) (cy : Nat → ClassId) (σ : St) (y : St) (hf : f_X10_addImports σ = some y) : CV l yX10_addImports cX10_addImports 4 none 3 69 D h cy [.ref (h 30)] σ y := by
  refine ent (Qc := fun sz => QV D h cy sz y) (by decide) (Nat.le_of_ble_eq_true rfl) ?_
  intro p e s m below meth c ls X Z hr hk hl
  have X : Cx p s m _ c D h cy RX10 cX10_addImports 4 := X
  have hx := X.x
  have hb := X.b
  have hl : lv_has ls 4 [(0, .ref (h 30))] := hl
  unfold f_X10_addImports at hf
  refine lv_iconst (v := 0) hx hb dX10_addImports_0 (by decide) ?_
  refine lv_topi (fun v1 ev1 => ?_)
  have hf := zn_e ev1 hf
  refine lv_istore_n (lv' := [(1, .int v1), (0, .ref (h 30))]) hx hb dX10_addImports_1 rfl hl (by decide) rfl (fun ls hl => ?_)
  refine lv_iconst (v := 0) hx hb dX10_addImports_2 (by decide) ?_
  refine lv_topi (fun v2 ev2 => ?_)
  have hf := zn_e ev2 hf
  refine lv_istore_n (lv' := [(2, .int v2), (1, .int v1), (0, .ref (h 30))]) hx hb dX10_addImports_3 rfl hl (by decide) rfl (fun ls hl => ?_)
  exact b_X10_addImports_4 X hr hk v1 v2 σ _ hf _ _ _ Z (lv_sub hl [2, 1, 0] rfl)

set_option maxRecDepth 100000 in
set_option maxHeartbeats 4000000 in
theorem b_X10_addPages_177 {p : Program} {l : Launch} {e : Env} {s : State} {m : MethodId} {args : Array Value} {below : List Frame} {meth : Method} {c : Code} {D : va_G} {h : Nat → Nat} {cy : Nat → ClassId} (X : Cx p s m args c D h cy RX10 cX10_addPages 6) (hr : meth.sig.returnType = none) (hk : meth.locks = false) (K116 : (Int32 × Int32 × Int32 × St) → Option (St)) (hK116 : ∀ (a : Int32 × Int32 × Int32 × St) (y : St), K116 a = some y → ∀ (H : Heap) (locs : List Loc) (ls : Array Slot), Zt D h cy s a.2.2.2 H locs → lv_has ls 6 [(0, .ref (h 30)), (1, .int a.1), (2, .int a.2.1), (3, .int a.2.2.1)] → W p l e (rmz 4 88) s m args below meth c H locs 0 0 (EV below args s D h cy y) (F0 m 116 ls [])) (x1 : Int32) (x2 : Int32) (x3 : Int32) (t0 : Int64) (t1 : Int32) (σ : St) (y : St) (hf : f_X10_addPages_177 K116 x1 x2 x3 t0 t1 σ = some y) : ∀ (H : Heap) (locs : List Loc) (ls : Array Slot), Zt D h cy s σ H locs → lv_has ls 6 [(0, .ref (h 30)), (1, .int x1), (2, .int x2), (3, .int x3)] → W p l e (rmz 4 88) s m args below meth c H locs 0 0 (EV below args s D h cy y) (F0 m 177 ls [.long t0, .int t1, .ref (h 3)]) := by
  intro H locs ls Z hl
  have hx := X.x
  have hb := X.b
  unfold f_X10_addPages_177 at hf
  obtain ⟨s32, h31, hf⟩ := bv_s hf
  refine goV Z (run_V (As := [.int t1, .long t0]) (rest := []) X Z (c_X6_add l D h cy row_3 t1 t0 σ s32 h31 _) lk_RX10_130 ⟨by decide, by decide⟩ (rv_RowS row_3) rfl hl.1 rfl (Nat.le_of_ble_eq_true rfl) ⟨Nat.le_refl _, Nat.le_refl _⟩ dX10_addPages_177) (fun H locs Z => ?_)
  obtain ⟨v33, ev33⟩ : ∃ z : Int32, z = x3 + 1 := ⟨_, rfl⟩
  have hf := zn_e ev33 hf
  refine lv_iinc (v := v33) (lv' := [(3, .int v33), (0, .ref (h 30)), (1, .int x1), (2, .int x2)]) hx hb dX10_addPages_180 hl (k := 3) rfl (by rw [ev33]; rfl) (by decide) rfl (fun ls hl => ?_)
  refine lv_goto (tgt := 116) hx hb dX10_addPages_183 (by decide) ?_
  exact hK116 (x1, x2, v33, s32) _ hf _ _ _ Z (lv_sub hl [1, 2, 3, 0] rfl)

set_option maxRecDepth 100000 in
set_option maxHeartbeats 4000000 in
theorem b_X10_addPages_116b {p : Program} {l : Launch} {e : Env} {s : State} {m : MethodId} {args : Array Value} {below : List Frame} {meth : Method} {c : Code} {D : va_G} {h : Nat → Nat} {cy : Nat → ClassId} (X : Cx p s m args c D h cy RX10 cX10_addPages 6) (hr : meth.sig.returnType = none) (hk : meth.locks = false) (K116 : (Int32 × Int32 × Int32 × St) → Option (St)) (hK116 : ∀ (a : Int32 × Int32 × Int32 × St) (y : St), K116 a = some y → ∀ (H : Heap) (locs : List Loc) (ls : Array Slot), Zt D h cy s a.2.2.2 H locs → lv_has ls 6 [(0, .ref (h 30)), (1, .int a.1), (2, .int a.2.1), (3, .int a.2.2.1)] → W p l e (rmz 4 88) s m args below meth c H locs 0 0 (EV below args s D h cy y) (F0 m 116 ls [])) (x1 : Int32) (x2 : Int32) (x3 : Int32) (σ : St) (y : St) (hf : f_X10_addPages_116b K116 x1 x2 x3 σ = some y) : ∀ (H : Heap) (locs : List Loc) (ls : Array Slot), Zt D h cy s σ H locs → lv_has ls 6 [(0, .ref (h 30)), (1, .int x1), (2, .int x2), (3, .int x3)] → W p l e (rmz 4 88) s m args below meth c H locs 0 0 (EV below args s D h cy y) (F0 m 116 ls []) := by
  intro H locs ls Z hl
  have hx := X.x
  have hb := X.b
  unfold f_X10_addPages_116b at hf
  refine lv_iload_n hx hb dX10_addPages_116 rfl (lv_at hl 3 rfl) ?_
  refine lv_iload_n hx hb dX10_addPages_117 rfl (lv_at hl 2 rfl) ?_
  refine lv_icmp_ge (tgt := 186) hx hb dX10_addPages_118 (by decide) (fun c25 => ?_) (fun c25 => ?_)
  · have hf := itp c25 hf
    exact retV X hr hk Z hf dX10_addPages_186
  · have hf := itn c25 hf
    refine lv_iload_n hx hb dX10_addPages_121 rfl (lv_at hl 3 rfl) ?_
    refine lv_aload_n hx hb dX10_addPages_122 rfl (lv_at hl 0 rfl) ?_
    refine gf_RX10_9 X Z dX10_addPages_123 ?_
    refine gf_RX10_109 X Z dX10_addPages_126 ?_
    refine lv_imul hx hb dX10_addPages_129 ?_
    refine lv_topi (fun v26 ev26 => ?_)
    have hf := zn_e ev26 hf
    refine lv_istore (lv' := [(4, .int v26), (0, .ref (h 30)), (1, .int x1), (2, .int x2), (3, .int x3)]) hx hb dX10_addPages_130 hl (by decide) rfl (fun ls hl => ?_)
    refine lv_aload_n hx hb dX10_addPages_132 rfl (lv_at hl 1 rfl) ?_
    refine gf_RX10_9 X Z dX10_addPages_133 ?_
    refine lv_iload_n hx hb dX10_addPages_136 rfl (lv_at hl 2 rfl) ?_
    refine lv_iload hx hb dX10_addPages_137 (lv_at hl 0 rfl) ?_
    refine lv_iload hx hb dX10_addPages_139 (lv_at hl 0 rfl) ?_
    refine lv_aload_n hx hb dX10_addPages_141 rfl (lv_at hl 1 rfl) ?_
    refine gf_RX10_9 X Z dX10_addPages_142 ?_
    refine gf_RX10_109 X Z dX10_addPages_145 ?_
    refine lv_iadd hx hb dX10_addPages_148 ?_
    obtain ⟨r29, s28, h27, hf⟩ := bi_s hf
    refine goI Z (run_V (As := [.int x1, .int v26, .int ((v26 + (σ.1 5 1)))]) (rest := []) X Z (c_X8_firstPointer l D h cy x1 v26 ((v26 + (σ.1 5 1))) σ (r29, s28) h27 _) lk_RX10_101 ⟨by decide, by decide⟩ rv_5 rfl hl.1 rfl (Nat.le_of_ble_eq_true rfl) ⟨Nat.le_refl _, Nat.le_refl _⟩ dX10_addPages_149) (fun H locs Z => ?_)
    refine lv_istore (lv' := [(5, .int r29), (4, .int v26), (0, .ref (h 30)), (1, .int x1), (2, .int x2), (3, .int x3)]) hx hb dX10_addPages_152 hl (by decide) rfl (fun ls hl => ?_)
    refine lv_aload_n hx hb dX10_addPages_154 rfl (lv_at hl 2 rfl) ?_
    refine gf_RX10_15 X Z dX10_addPages_155 ?_
    refine lv_iconst (v := 2) hx hb dX10_addPages_158 (by decide) ?_
    refine lv_iload hx hb dX10_addPages_159 (lv_at hl 0 rfl) ?_
    refine lv_iconst (v := (-1)) hx hb dX10_addPages_161 (by decide) ?_
    refine lv_icmp_ne (tgt := 171) hx hb dX10_addPages_162 (by decide) (fun c30 => ?_) (fun c30 => ?_)
    · have hf := itn c30 hf
      refine lv_iload hx hb dX10_addPages_171 (lv_at hl 0 rfl) ?_
      refine lv_iload hx hb dX10_addPages_173 (lv_at hl 1 rfl) ?_
      refine lv_isub hx hb dX10_addPages_175 ?_
      refine lv_i2l (v := (r29 - v26).toInt64) hx hb dX10_addPages_176 rfl ?_
      exact b_X10_addPages_177 X hr hk K116 hK116 x1 x2 x3 ((r29 - v26).toInt64) (2 : Int32) s28 _ hf _ _ _ Z (lv_sub hl [2, 3, 4, 5] rfl)
    · have hf := itp c30 hf
      refine lv_ldc2 (v := 65535) hx hb X.o (X.t _ kc_RX10_218) dX10_addPages_165 ?_
      refine lv_goto (tgt := 177) hx hb dX10_addPages_168 (by decide) ?_
      exact b_X10_addPages_177 X hr hk K116 hK116 x1 x2 x3 (65535 : Int64) (2 : Int32) s28 _ hf _ _ _ Z (lv_sub hl [2, 3, 4, 5] rfl)

set_option maxRecDepth 100000 in
set_option maxHeartbeats 4000000 in
theorem b_X10_addPages_116 {p : Program} {l : Launch} {e : Env} {s : State} {m : MethodId} {args : Array Value} {below : List Frame} {meth : Method} {c : Code} {D : va_G} {h : Nat → Nat} {cy : Nat → ClassId} (X : Cx p s m args c D h cy RX10 cX10_addPages 6) (hr : meth.sig.returnType = none) (hk : meth.locks = false) (x1 : Int32) (x2 : Int32) (x3 : Int32) (σ : St) (y : St) (hf : f_X10_addPages_116 x1 x2 x3 σ = some y) : ∀ (H : Heap) (locs : List Loc) (ls : Array Slot), Zt D h cy s σ H locs → lv_has ls 6 [(0, .ref (h 30)), (1, .int x1), (2, .int x2), (3, .int x3)] → W p l e (rmz 4 88) s m args below meth c H locs 0 0 (EV below args s D h cy y) (F0 m 116 ls []) := by
  exact it_W (F := fun K a => f_X10_addPages_116b K a.1 a.2.1 a.2.2.1 a.2.2.2) (P := fun a y => ∀ (H : Heap) (locs : List Loc) (ls : Array Slot), Zt D h cy s a.2.2.2 H locs → lv_has ls 6 [(0, .ref (h 30)), (1, .int a.1), (2, .int a.2.1), (3, .int a.2.2.1)] → W p l e (rmz 4 88) s m args below meth c H locs 0 0 (EV below args s D h cy y) (F0 m 116 ls [])) (fun K hK a y hf => b_X10_addPages_116b X hr hk K hK (a.1) (a.2.1) (a.2.2.1) (a.2.2.2) y hf) FU _ y hf

set_option maxRecDepth 100000 in
set_option maxHeartbeats 4000000 in
theorem c_X10_addPages (l : Launch) (D : va_G) (h : Nat → Nat) (cy : Nat → ClassId) (a1 : Int32) (σ : St) (y : St) (hf : f_X10_addPages a1 σ = some y) : CV l yX10_addPages cX10_addPages 6 none 4 88 D h cy [.ref (h 30), .int a1] σ y := by
  refine ent (Qc := fun sz => QV D h cy sz y) (by decide) (Nat.le_of_ble_eq_true rfl) ?_
  intro p e s m below meth c ls X Z hr hk hl
  have X : Cx p s m _ c D h cy RX10 cX10_addPages 6 := X
  have hx := X.x
  have hb := X.b
  have hl : lv_has ls 6 [(0, .ref (h 30)), (1, .int a1)] := hl
  unfold f_X10_addPages at hf
  refine lv_aload_n hx hb dX10_addPages_0 rfl (lv_at hl 0 rfl) ?_
  refine gf_RX10_9 X Z dX10_addPages_1 ?_
  refine lv_iload_n hx hb dX10_addPages_4 rfl (lv_at hl 1 rfl) ?_
  obtain ⟨r3, s2, h1, hf⟩ := bi_s hf
  refine goI Z (run_V (As := [.int a1]) (rest := []) X Z (c_X8_spanOf l D h cy a1 σ (r3, s2) h1 _) lk_RX10_105 ⟨by decide, by decide⟩ rv_5 rfl hl.1 rfl (Nat.le_of_ble_eq_true rfl) ⟨Nat.le_refl _, Nat.le_refl _⟩ dX10_addPages_5) (fun H locs Z => ?_)
  refine lv_aload_n hx hb dX10_addPages_8 rfl (lv_at hl 0 rfl) ?_
  refine gf_RX10_9 X Z dX10_addPages_9 ?_
  refine gf_RX10_109 X Z dX10_addPages_12 ?_
  obtain ⟨r6, s5, h4, hf⟩ := bi_s hf
  refine goI Z (run_N (As := [.int r3, .int (s2.1 5 1)]) (rest := []) X Z (c_X11_pagesIn l D h cy r3 (s2.1 5 1) s2 (r6, s5) h4 _) lk_RX10_112 ⟨by decide, by decide⟩ rfl hl.1 rfl (Nat.le_of_ble_eq_true rfl) ⟨Nat.le_refl _, Nat.le_refl _⟩ dX10_addPages_15) (fun H locs Z => ?_)
  refine lv_istore_n (lv' := [(2, .int r6), (0, .ref (h 30)), (1, .int a1)]) hx hb dX10_addPages_18 rfl hl (by decide) rfl (fun ls hl => ?_)
  refine lv_aload_n hx hb dX10_addPages_19 rfl (lv_at hl 1 rfl) ?_
  refine gf_RX10_15 X Z dX10_addPages_20 ?_
  refine lv_iconst (v := 4) hx hb dX10_addPages_23 (by decide) ?_
  obtain ⟨s8, h7, hf⟩ := bv_s hf
  refine goV Z (run_V (As := [.int (4 : Int32)]) (rest := []) X Z (c_X6_fillUp l D h cy row_3 (4 : Int32) s5 s8 h7 _) lk_RX10_177 ⟨by decide, by decide⟩ (rv_RowS row_3) rfl hl.1 rfl (Nat.le_of_ble_eq_true rfl) ⟨Nat.le_refl _, Nat.le_refl _⟩ dX10_addPages_24) (fun H locs Z => ?_)
  refine lv_aload_n hx hb dX10_addPages_27 rfl (lv_at hl 1 rfl) ?_
  refine gf_RX10_15 X Z dX10_addPages_28 ?_
  refine lv_iconst (v := 4) hx hb dX10_addPages_31 (by decide) ?_
  refine lv_bipush (v := 22) hx hb dX10_addPages_32 (by decide) ?_
  refine lv_iconst (v := 2) hx hb dX10_addPages_34 (by decide) ?_
  refine lv_iload_n hx hb dX10_addPages_35 rfl (lv_at hl 0 rfl) ?_
  refine lv_imul hx hb dX10_addPages_36 ?_
  refine lv_iadd hx hb dX10_addPages_37 ?_
  refine lv_i2l (v := (((22 : Int32) + ((2 : Int32) * r6))).toInt64) hx hb dX10_addPages_38 rfl ?_
  obtain ⟨s10, h9, hf⟩ := bv_s hf
  refine goV Z (run_V (As := [.int (4 : Int32), .long ((((22 : Int32) + ((2 : Int32) * r6))).toInt64)]) (rest := []) X Z (c_X6_add l D h cy row_3 (4 : Int32) ((((22 : Int32) + ((2 : Int32) * r6))).toInt64) s8 s10 h9 _) lk_RX10_130 ⟨by decide, by decide⟩ (rv_RowS row_3) rfl hl.1 rfl (Nat.le_of_ble_eq_true rfl) ⟨Nat.le_refl _, Nat.le_refl _⟩ dX10_addPages_39) (fun H locs Z => ?_)
  refine lv_aload_n hx hb dX10_addPages_42 rfl (lv_at hl 1 rfl) ?_
  refine gf_RX10_15 X Z dX10_addPages_43 ?_
  refine lv_iconst (v := 2) hx hb dX10_addPages_46 (by decide) ?_
  refine lv_aload_n hx hb dX10_addPages_47 rfl (lv_at hl 1 rfl) ?_
  refine gf_RX10_9 X Z dX10_addPages_48 ?_
  refine gf_RX10_109 X Z dX10_addPages_51 ?_
  refine lv_i2l (v := (s10.1 5 1).toInt64) hx hb dX10_addPages_54 rfl ?_
  obtain ⟨s12, h11, hf⟩ := bv_s hf
  refine goV Z (run_V (As := [.int (2 : Int32), .long ((s10.1 5 1).toInt64)]) (rest := []) X Z (c_X6_add l D h cy row_3 (2 : Int32) ((s10.1 5 1).toInt64) s10 s12 h11 _) lk_RX10_130 ⟨by decide, by decide⟩ (rv_RowS row_3) rfl hl.1 rfl (Nat.le_of_ble_eq_true rfl) ⟨Nat.le_refl _, Nat.le_refl _⟩ dX10_addPages_55) (fun H locs Z => ?_)
  refine lv_aload_n hx hb dX10_addPages_58 rfl (lv_at hl 1 rfl) ?_
  refine gf_RX10_15 X Z dX10_addPages_59 ?_
  refine lv_iconst (v := 2) hx hb dX10_addPages_62 (by decide) ?_
  refine lv_ldc2 (v := 2) hx hb X.o (X.t _ kc_RX10_169) dX10_addPages_63 ?_
  obtain ⟨s14, h13, hf⟩ := bv_s hf
  refine goV Z (run_V (As := [.int (2 : Int32), .long (2 : Int64)]) (rest := []) X Z (c_X6_add l D h cy row_3 (2 : Int32) (2 : Int64) s12 s14 h13 _) lk_RX10_130 ⟨by decide, by decide⟩ (rv_RowS row_3) rfl hl.1 rfl (Nat.le_of_ble_eq_true rfl) ⟨Nat.le_refl _, Nat.le_refl _⟩ dX10_addPages_66) (fun H locs Z => ?_)
  refine lv_aload_n hx hb dX10_addPages_69 rfl (lv_at hl 1 rfl) ?_
  refine gf_RX10_15 X Z dX10_addPages_70 ?_
  refine lv_bipush (v := 8) hx hb dX10_addPages_73 (by decide) ?_
  refine lv_aload_n hx hb dX10_addPages_75 rfl (lv_at hl 1 rfl) ?_
  refine gf_RX10_9 X Z dX10_addPages_76 ?_
  refine lv_iload_n hx hb dX10_addPages_79 rfl (lv_at hl 2 rfl) ?_
  obtain ⟨r17, s16, h15, hf⟩ := bi_s hf
  refine goI Z (run_V (As := [.int a1]) (rest := [.int (8 : Int32), .ref (h 3)]) X Z (c_X8_addressOf l D h cy a1 s14 (r17, s16) h15 _) lk_RX10_149 ⟨by decide, by decide⟩ rv_5 rfl hl.1 rfl (Nat.le_of_ble_eq_true rfl) ⟨Nat.le_refl _, Nat.le_refl _⟩ dX10_addPages_80) (fun H locs Z => ?_)
  refine lv_aload_n hx hb dX10_addPages_83 rfl (lv_at hl 1 rfl) ?_
  refine gf_RX10_9 X Z dX10_addPages_84 ?_
  refine gf_RX10_215 X Z dX10_addPages_87 ?_
  refine lv_isub hx hb dX10_addPages_90 ?_
  refine lv_i2l (v := ((r17 - (s16.1 5 0))).toInt64) hx hb dX10_addPages_91 rfl ?_
  obtain ⟨s19, h18, hf⟩ := bv_s hf
  refine goV Z (run_V (As := [.int (8 : Int32), .long (((r17 - (s16.1 5 0))).toInt64)]) (rest := []) X Z (c_X6_add l D h cy row_3 (8 : Int32) (((r17 - (s16.1 5 0))).toInt64) s16 s19 h18 _) lk_RX10_130 ⟨by decide, by decide⟩ (rv_RowS row_3) rfl hl.1 rfl (Nat.le_of_ble_eq_true rfl) ⟨Nat.le_refl _, Nat.le_refl _⟩ dX10_addPages_92) (fun H locs Z => ?_)
  refine lv_aload_n hx hb dX10_addPages_95 rfl (lv_at hl 1 rfl) ?_
  refine gf_RX10_15 X Z dX10_addPages_96 ?_
  refine lv_iconst (v := 4) hx hb dX10_addPages_99 (by decide) ?_
  refine lv_lconst (v := 0) hx hb dX10_addPages_100 (by decide) ?_
  obtain ⟨s21, h20, hf⟩ := bv_s hf
  refine goV Z (run_V (As := [.int (4 : Int32), .long (0 : Int64)]) (rest := []) X Z (c_X6_add l D h cy row_3 (4 : Int32) (0 : Int64) s19 s21 h20 _) lk_RX10_130 ⟨by decide, by decide⟩ (rv_RowS row_3) rfl hl.1 rfl (Nat.le_of_ble_eq_true rfl) ⟨Nat.le_refl _, Nat.le_refl _⟩ dX10_addPages_101) (fun H locs Z => ?_)
  refine lv_aload_n hx hb dX10_addPages_104 rfl (lv_at hl 1 rfl) ?_
  refine gf_RX10_15 X Z dX10_addPages_105 ?_
  refine lv_iconst (v := 2) hx hb dX10_addPages_108 (by decide) ?_
  refine lv_iload_n hx hb dX10_addPages_109 rfl (lv_at hl 0 rfl) ?_
  refine lv_i2l (v := r6.toInt64) hx hb dX10_addPages_110 rfl ?_
  obtain ⟨s23, h22, hf⟩ := bv_s hf
  refine goV Z (run_V (As := [.int (2 : Int32), .long r6.toInt64]) (rest := []) X Z (c_X6_add l D h cy row_3 (2 : Int32) r6.toInt64 s21 s23 h22 _) lk_RX10_130 ⟨by decide, by decide⟩ (rv_RowS row_3) rfl hl.1 rfl (Nat.le_of_ble_eq_true rfl) ⟨Nat.le_refl _, Nat.le_refl _⟩ dX10_addPages_111) (fun H locs Z => ?_)
  refine lv_iconst (v := 0) hx hb dX10_addPages_114 (by decide) ?_
  refine lv_topi (fun v24 ev24 => ?_)
  have hf := zn_e ev24 hf
  refine lv_istore_n (lv' := [(3, .int v24), (2, .int r6), (0, .ref (h 30)), (1, .int a1)]) hx hb dX10_addPages_115 rfl hl (by decide) rfl (fun ls hl => ?_)
  exact b_X10_addPages_116 X hr hk a1 r6 v24 s23 _ hf _ _ _ Z (lv_sub hl [2, 3, 1, 0] rfl)

set_option maxRecDepth 100000 in
set_option maxHeartbeats 4000000 in
theorem b_X10_addFixups_178 {p : Program} {l : Launch} {e : Env} {s : State} {m : MethodId} {args : Array Value} {below : List Frame} {meth : Method} {c : Code} {D : va_G} {h : Nat → Nat} {cy : Nat → ClassId} (X : Cx p s m args c D h cy RX10 cX10_addFixups 2) (hr : meth.sig.returnType = none) (hk : meth.locks = false) (K150 : (Int32 × St) → Option (St)) (hK150 : ∀ (a : Int32 × St) (y : St), K150 a = some y → ∀ (H : Heap) (locs : List Loc) (ls : Array Slot), Zt D h cy s a.2 H locs → lv_has ls 2 [(0, .ref (h 30)), (1, .int a.1)] → W p l e (rmz 5 113) s m args below meth c H locs 0 0 (EV below args s D h cy y) (F0 m 150 ls [])) (x1 : Int32) (σ : St) (y : St) (hf : f_X10_addFixups_178 K150 x1 σ = some y) : ∀ (H : Heap) (locs : List Loc) (ls : Array Slot), Zt D h cy s σ H locs → lv_has ls 2 [(0, .ref (h 30)), (1, .int x1)] → W p l e (rmz 5 113) s m args below meth c H locs 0 0 (EV below args s D h cy y) (F0 m 178 ls []) := by
  intro H locs ls Z hl
  have hx := X.x
  have hb := X.b
  unfold f_X10_addFixups_178 at hf
  obtain ⟨v31, ev31⟩ : ∃ z : Int32, z = x1 + 1 := ⟨_, rfl⟩
  have hf := zn_e ev31 hf
  refine lv_iinc (v := v31) (lv' := [(1, .int v31), (0, .ref (h 30))]) hx hb dX10_addFixups_178 hl (k := 1) rfl (by rw [ev31]; rfl) (by decide) rfl (fun ls hl => ?_)
  refine lv_goto (tgt := 150) hx hb dX10_addFixups_181 (by decide) ?_
  exact hK150 (v31, σ) _ hf _ _ _ Z (lv_sub hl [1, 0] rfl)

set_option maxRecDepth 100000 in
set_option maxHeartbeats 4000000 in
theorem b_X10_addFixups_150b {p : Program} {l : Launch} {e : Env} {s : State} {m : MethodId} {args : Array Value} {below : List Frame} {meth : Method} {c : Code} {D : va_G} {h : Nat → Nat} {cy : Nat → ClassId} (X : Cx p s m args c D h cy RX10 cX10_addFixups 2) (hr : meth.sig.returnType = none) (hk : meth.locks = false) (K150 : (Int32 × St) → Option (St)) (hK150 : ∀ (a : Int32 × St) (y : St), K150 a = some y → ∀ (H : Heap) (locs : List Loc) (ls : Array Slot), Zt D h cy s a.2 H locs → lv_has ls 2 [(0, .ref (h 30)), (1, .int a.1)] → W p l e (rmz 5 113) s m args below meth c H locs 0 0 (EV below args s D h cy y) (F0 m 150 ls [])) (x1 : Int32) (σ : St) (y : St) (hf : f_X10_addFixups_150b K150 x1 σ = some y) : ∀ (H : Heap) (locs : List Loc) (ls : Array Slot), Zt D h cy s σ H locs → lv_has ls 2 [(0, .ref (h 30)), (1, .int x1)] → W p l e (rmz 5 113) s m args below meth c H locs 0 0 (EV below args s D h cy y) (F0 m 150 ls []) := by
  intro H locs ls Z hl
  have hx := X.x
  have hb := X.b
  unfold f_X10_addFixups_150b at hf
  refine lv_iload_n hx hb dX10_addFixups_150 rfl (lv_at hl 1 rfl) ?_
  refine lv_aload_n hx hb dX10_addFixups_151 rfl (lv_at hl 0 rfl) ?_
  refine gf_RX10_9 X Z dX10_addFixups_152 ?_
  refine gf_RX10_67 X Z dX10_addFixups_155 ?_
  refine gf_RX10_51 X Z names_6 dX10_addFixups_158 ?_
  refine lv_icmp_ge (tgt := 184) hx hb dX10_addFixups_161 (by decide) (fun c22 => ?_) (fun c22 => ?_)
  · have hf := itp c22 hf
    refine lv_aload_n hx hb dX10_addFixups_184 rfl (lv_at hl 0 rfl) ?_
    refine gf_RX10_15 X Z dX10_addFixups_185 ?_
    refine lv_iconst (v := 4) hx hb dX10_addFixups_188 (by decide) ?_
    obtain ⟨s24, h23, hf⟩ := bv_s hf
    refine goV Z (run_V (As := [.int (4 : Int32)]) (rest := []) X Z (c_X6_fillUp l D h cy row_3 (4 : Int32) σ s24 h23 _) lk_RX10_177 ⟨by decide, by decide⟩ (rv_RowS row_3) rfl hl.1 rfl (Nat.le_of_ble_eq_true rfl) ⟨Nat.le_refl _, Nat.le_refl _⟩ dX10_addFixups_189) (fun H locs Z => ?_)
    refine lv_aload_n hx hb dX10_addFixups_192 rfl (lv_at hl 0 rfl) ?_
    obtain ⟨s26, h25, hf⟩ := bv_s hf
    refine goV Z (run_V (As := []) (rest := []) X Z (c_X10_addImports l D h cy s24 s26 h25 _) lk_RX10_208 ⟨by decide, by decide⟩ rv_30 rfl hl.1 rfl (Nat.le_of_ble_eq_true rfl) ⟨Nat.le_refl _, Nat.le_refl _⟩ dX10_addFixups_193) (fun H locs Z => ?_)
    refine lv_aload_n hx hb dX10_addFixups_196 rfl (lv_at hl 0 rfl) ?_
    refine gf_RX10_9 X Z dX10_addFixups_197 ?_
    refine gf_RX10_118 X Z dX10_addFixups_200 ?_
    refine lv_aload_n hx hb dX10_addFixups_203 rfl (lv_at hl 0 rfl) ?_
    refine gf_RX10_15 X Z dX10_addFixups_204 ?_
    obtain ⟨s28, h27, hf⟩ := bv_s hf
    refine goV Z (run_V (As := [.ref (h 3)]) (rest := []) X Z (c_X5_addAllTo l D h cy names_23 row_3 s26 s28 h27 _) lk_RX10_211 ⟨by decide, by decide⟩ (rv_NamesS names_23) rfl hl.1 rfl (Nat.le_of_ble_eq_true rfl) ⟨Nat.le_refl _, Nat.le_refl _⟩ dX10_addFixups_207) (fun H locs Z => ?_)
    exact retV X hr hk Z hf dX10_addFixups_210
  · have hf := itn c22 hf
    refine lv_aload_n hx hb dX10_addFixups_164 rfl (lv_at hl 0 rfl) ?_
    refine gf_RX10_23 X Z dX10_addFixups_165 ?_
    refine lv_iload_n hx hb dX10_addFixups_168 rfl (lv_at hl 1 rfl) ?_
    obtain ⟨g29, hf⟩ := gd_s hf
    refine x_iald (k := 32) X Z sh_32 g29 dX10_addFixups_169 ?_
    refine lv_if_eq (tgt := 178) hx hb dX10_addFixups_170 (by decide) (fun c30 => ?_) (fun c30 => ?_)
    · have hf := itp c30 hf
      exact b_X10_addFixups_178 X hr hk K150 hK150 x1 σ _ hf _ _ _ Z (lv_sub hl [0, 1] rfl)
    · have hf := itn c30 hf
      refine lv_aload_n hx hb dX10_addFixups_173 rfl (lv_at hl 0 rfl) ?_
      refine lv_iload_n hx hb dX10_addFixups_174 rfl (lv_at hl 1 rfl) ?_
      obtain ⟨s33, h32, hf⟩ := bv_s hf
      refine goV Z (run_V (As := [.int x1]) (rest := []) X Z (c_X10_addPages l D h cy x1 σ s33 h32 _) lk_RX10_205 ⟨by decide, by decide⟩ rv_30 rfl hl.1 rfl (Nat.le_of_ble_eq_true rfl) ⟨Nat.le_refl _, Nat.le_refl _⟩ dX10_addFixups_175) (fun H locs Z => ?_)
      exact b_X10_addFixups_178 X hr hk K150 hK150 x1 s33 _ hf _ _ _ Z (lv_sub hl [0, 1] rfl)

set_option maxRecDepth 100000 in
set_option maxHeartbeats 4000000 in
theorem b_X10_addFixups_150 {p : Program} {l : Launch} {e : Env} {s : State} {m : MethodId} {args : Array Value} {below : List Frame} {meth : Method} {c : Code} {D : va_G} {h : Nat → Nat} {cy : Nat → ClassId} (X : Cx p s m args c D h cy RX10 cX10_addFixups 2) (hr : meth.sig.returnType = none) (hk : meth.locks = false) (x1 : Int32) (σ : St) (y : St) (hf : f_X10_addFixups_150 x1 σ = some y) : ∀ (H : Heap) (locs : List Loc) (ls : Array Slot), Zt D h cy s σ H locs → lv_has ls 2 [(0, .ref (h 30)), (1, .int x1)] → W p l e (rmz 5 113) s m args below meth c H locs 0 0 (EV below args s D h cy y) (F0 m 150 ls []) := by
  exact it_W (F := fun K a => f_X10_addFixups_150b K a.1 a.2) (P := fun a y => ∀ (H : Heap) (locs : List Loc) (ls : Array Slot), Zt D h cy s a.2 H locs → lv_has ls 2 [(0, .ref (h 30)), (1, .int a.1)] → W p l e (rmz 5 113) s m args below meth c H locs 0 0 (EV below args s D h cy y) (F0 m 150 ls [])) (fun K hK a y hf => b_X10_addFixups_150b X hr hk K hK (a.1) (a.2) y hf) FU _ y hf

set_option maxRecDepth 100000 in
set_option maxHeartbeats 4000000 in
theorem b_X10_addFixups_113b {p : Program} {l : Launch} {e : Env} {s : State} {m : MethodId} {args : Array Value} {below : List Frame} {meth : Method} {c : Code} {D : va_G} {h : Nat → Nat} {cy : Nat → ClassId} (X : Cx p s m args c D h cy RX10 cX10_addFixups 2) (hr : meth.sig.returnType = none) (hk : meth.locks = false) (K113 : (Int32 × St) → Option (St)) (hK113 : ∀ (a : Int32 × St) (y : St), K113 a = some y → ∀ (H : Heap) (locs : List Loc) (ls : Array Slot), Zt D h cy s a.2 H locs → lv_has ls 2 [(0, .ref (h 30)), (1, .int a.1)] → W p l e (rmz 5 113) s m args below meth c H locs 0 0 (EV below args s D h cy y) (F0 m 113 ls [])) (x1 : Int32) (σ : St) (y : St) (hf : f_X10_addFixups_113b K113 x1 σ = some y) : ∀ (H : Heap) (locs : List Loc) (ls : Array Slot), Zt D h cy s σ H locs → lv_has ls 2 [(0, .ref (h 30)), (1, .int x1)] → W p l e (rmz 5 113) s m args below meth c H locs 0 0 (EV below args s D h cy y) (F0 m 113 ls []) := by
  intro H locs ls Z hl
  have hx := X.x
  have hb := X.b
  unfold f_X10_addFixups_113b at hf
  refine lv_iload_n hx hb dX10_addFixups_113 rfl (lv_at hl 1 rfl) ?_
  refine lv_aload_n hx hb dX10_addFixups_114 rfl (lv_at hl 0 rfl) ?_
  refine gf_RX10_9 X Z dX10_addFixups_115 ?_
  refine gf_RX10_67 X Z dX10_addFixups_118 ?_
  refine gf_RX10_51 X Z names_6 dX10_addFixups_121 ?_
  refine lv_icmp_ge (tgt := 148) hx hb dX10_addFixups_124 (by decide) (fun c20 => ?_) (fun c20 => ?_)
  · have hf := itp c20 hf
    refine lv_iconst (v := 0) hx hb dX10_addFixups_148 (by decide) ?_
    refine lv_topi (fun v21 ev21 => ?_)
    have hf := zn_e ev21 hf
    refine lv_istore_n (lv' := [(1, .int v21), (0, .ref (h 30))]) hx hb dX10_addFixups_149 rfl hl (by decide) rfl (fun ls hl => ?_)
    exact b_X10_addFixups_150 X hr hk v21 σ _ hf _ _ _ Z (lv_sub hl [1, 0] rfl)
  · have hf := itn c20 hf
    refine lv_aload_n hx hb dX10_addFixups_127 rfl (lv_at hl 0 rfl) ?_
    refine gf_RX10_15 X Z dX10_addFixups_128 ?_
    refine lv_iconst (v := 4) hx hb dX10_addFixups_131 (by decide) ?_
    refine lv_aload_n hx hb dX10_addFixups_132 rfl (lv_at hl 0 rfl) ?_
    refine gf_RX10_23 X Z dX10_addFixups_133 ?_
    refine lv_iload_n hx hb dX10_addFixups_136 rfl (lv_at hl 1 rfl) ?_
    obtain ⟨g34, hf⟩ := gd_s hf
    refine x_iald (k := 32) X Z sh_32 g34 dX10_addFixups_137 ?_
    refine lv_i2l (v := (σ.1 32 x1.toNatClampNeg).toInt64) hx hb dX10_addFixups_138 rfl ?_
    obtain ⟨s36, h35, hf⟩ := bv_s hf
    refine goV Z (run_V (As := [.int (4 : Int32), .long ((σ.1 32 x1.toNatClampNeg).toInt64)]) (rest := []) X Z (c_X6_add l D h cy row_3 (4 : Int32) ((σ.1 32 x1.toNatClampNeg).toInt64) σ s36 h35 _) lk_RX10_130 ⟨by decide, by decide⟩ (rv_RowS row_3) rfl hl.1 rfl (Nat.le_of_ble_eq_true rfl) ⟨Nat.le_refl _, Nat.le_refl _⟩ dX10_addFixups_139) (fun H locs Z => ?_)
    obtain ⟨v37, ev37⟩ : ∃ z : Int32, z = x1 + 1 := ⟨_, rfl⟩
    have hf := zn_e ev37 hf
    refine lv_iinc (v := v37) (lv' := [(1, .int v37), (0, .ref (h 30))]) hx hb dX10_addFixups_142 hl (k := 1) rfl (by rw [ev37]; rfl) (by decide) rfl (fun ls hl => ?_)
    refine lv_goto (tgt := 113) hx hb dX10_addFixups_145 (by decide) ?_
    exact hK113 (v37, s36) _ hf _ _ _ Z (lv_sub hl [1, 0] rfl)

set_option maxRecDepth 100000 in
set_option maxHeartbeats 4000000 in
theorem b_X10_addFixups_113 {p : Program} {l : Launch} {e : Env} {s : State} {m : MethodId} {args : Array Value} {below : List Frame} {meth : Method} {c : Code} {D : va_G} {h : Nat → Nat} {cy : Nat → ClassId} (X : Cx p s m args c D h cy RX10 cX10_addFixups 2) (hr : meth.sig.returnType = none) (hk : meth.locks = false) (x1 : Int32) (σ : St) (y : St) (hf : f_X10_addFixups_113 x1 σ = some y) : ∀ (H : Heap) (locs : List Loc) (ls : Array Slot), Zt D h cy s σ H locs → lv_has ls 2 [(0, .ref (h 30)), (1, .int x1)] → W p l e (rmz 5 113) s m args below meth c H locs 0 0 (EV below args s D h cy y) (F0 m 113 ls []) := by
  exact it_W (F := fun K a => f_X10_addFixups_113b K a.1 a.2) (P := fun a y => ∀ (H : Heap) (locs : List Loc) (ls : Array Slot), Zt D h cy s a.2 H locs → lv_has ls 2 [(0, .ref (h 30)), (1, .int a.1)] → W p l e (rmz 5 113) s m args below meth c H locs 0 0 (EV below args s D h cy y) (F0 m 113 ls [])) (fun K hK a y hf => b_X10_addFixups_113b X hr hk K hK (a.1) (a.2) y hf) FU _ y hf

set_option maxRecDepth 100000 in
set_option maxHeartbeats 4000000 in
theorem c_X10_addFixups (l : Launch) (D : va_G) (h : Nat → Nat) (cy : Nat → ClassId) (σ : St) (y : St) (hf : f_X10_addFixups σ = some y) : CV l yX10_addFixups cX10_addFixups 2 none 5 113 D h cy [.ref (h 30)] σ y := by
  refine ent (Qc := fun sz => QV D h cy sz y) (by decide) (Nat.le_of_ble_eq_true rfl) ?_
  intro p e s m below meth c ls X Z hr hk hl
  have X : Cx p s m _ c D h cy RX10 cX10_addFixups 2 := X
  have hx := X.x
  have hb := X.b
  have hl : lv_has ls 2 [(0, .ref (h 30))] := hl
  unfold f_X10_addFixups at hf
  refine lv_aload_n hx hb dX10_addFixups_0 rfl (lv_at hl 0 rfl) ?_
  refine gf_RX10_15 X Z dX10_addFixups_1 ?_
  refine lv_bipush (v := 8) hx hb dX10_addFixups_4 (by decide) ?_
  obtain ⟨s2, h1, hf⟩ := bv_s hf
  refine goV Z (run_V (As := [.int (8 : Int32)]) (rest := []) X Z (c_X6_fillUp l D h cy row_3 (8 : Int32) σ s2 h1 _) lk_RX10_177 ⟨by decide, by decide⟩ (rv_RowS row_3) rfl hl.1 rfl (Nat.le_of_ble_eq_true rfl) ⟨Nat.le_refl _, Nat.le_refl _⟩ dX10_addFixups_6) (fun H locs Z => ?_)
  refine lv_aload_n hx hb dX10_addFixups_9 rfl (lv_at hl 0 rfl) ?_
  refine gf_RX10_15 X Z dX10_addFixups_10 ?_
  refine lv_iconst (v := 4) hx hb dX10_addFixups_13 (by decide) ?_
  refine lv_lconst (v := 0) hx hb dX10_addFixups_14 (by decide) ?_
  obtain ⟨s4, h3, hf⟩ := bv_s hf
  refine goV Z (run_V (As := [.int (4 : Int32), .long (0 : Int64)]) (rest := []) X Z (c_X6_add l D h cy row_3 (4 : Int32) (0 : Int64) s2 s4 h3 _) lk_RX10_130 ⟨by decide, by decide⟩ (rv_RowS row_3) rfl hl.1 rfl (Nat.le_of_ble_eq_true rfl) ⟨Nat.le_refl _, Nat.le_refl _⟩ dX10_addFixups_15) (fun H locs Z => ?_)
  refine lv_aload_n hx hb dX10_addFixups_18 rfl (lv_at hl 0 rfl) ?_
  refine gf_RX10_15 X Z dX10_addFixups_19 ?_
  refine lv_iconst (v := 4) hx hb dX10_addFixups_22 (by decide) ?_
  refine lv_ldc2 (v := 28) hx hb X.o (X.t _ kc_RX10_203) dX10_addFixups_23 ?_
  obtain ⟨s6, h5, hf⟩ := bv_s hf
  refine goV Z (run_V (As := [.int (4 : Int32), .long (28 : Int64)]) (rest := []) X Z (c_X6_add l D h cy row_3 (4 : Int32) (28 : Int64) s4 s6 h5 _) lk_RX10_130 ⟨by decide, by decide⟩ (rv_RowS row_3) rfl hl.1 rfl (Nat.le_of_ble_eq_true rfl) ⟨Nat.le_refl _, Nat.le_refl _⟩ dX10_addFixups_26) (fun H locs Z => ?_)
  refine lv_aload_n hx hb dX10_addFixups_29 rfl (lv_at hl 0 rfl) ?_
  refine gf_RX10_15 X Z dX10_addFixups_30 ?_
  refine lv_iconst (v := 4) hx hb dX10_addFixups_33 (by decide) ?_
  refine lv_aload_n hx hb dX10_addFixups_34 rfl (lv_at hl 0 rfl) ?_
  refine gf_RX10_115 X Z dX10_addFixups_35 ?_
  refine lv_i2l (v := (s6.1 30 7).toInt64) hx hb dX10_addFixups_38 rfl ?_
  obtain ⟨s8, h7, hf⟩ := bv_s hf
  refine goV Z (run_V (As := [.int (4 : Int32), .long ((s6.1 30 7).toInt64)]) (rest := []) X Z (c_X6_add l D h cy row_3 (4 : Int32) ((s6.1 30 7).toInt64) s6 s8 h7 _) lk_RX10_130 ⟨by decide, by decide⟩ (rv_RowS row_3) rfl hl.1 rfl (Nat.le_of_ble_eq_true rfl) ⟨Nat.le_refl _, Nat.le_refl _⟩ dX10_addFixups_39) (fun H locs Z => ?_)
  refine lv_aload_n hx hb dX10_addFixups_42 rfl (lv_at hl 0 rfl) ?_
  refine gf_RX10_15 X Z dX10_addFixups_43 ?_
  refine lv_iconst (v := 4) hx hb dX10_addFixups_46 (by decide) ?_
  refine lv_aload_n hx hb dX10_addFixups_47 rfl (lv_at hl 0 rfl) ?_
  refine gf_RX10_121 X Z dX10_addFixups_48 ?_
  refine lv_i2l (v := (s8.1 30 8).toInt64) hx hb dX10_addFixups_51 rfl ?_
  obtain ⟨s10, h9, hf⟩ := bv_s hf
  refine goV Z (run_V (As := [.int (4 : Int32), .long ((s8.1 30 8).toInt64)]) (rest := []) X Z (c_X6_add l D h cy row_3 (4 : Int32) ((s8.1 30 8).toInt64) s8 s10 h9 _) lk_RX10_130 ⟨by decide, by decide⟩ (rv_RowS row_3) rfl hl.1 rfl (Nat.le_of_ble_eq_true rfl) ⟨Nat.le_refl _, Nat.le_refl _⟩ dX10_addFixups_52) (fun H locs Z => ?_)
  refine lv_aload_n hx hb dX10_addFixups_55 rfl (lv_at hl 0 rfl) ?_
  refine gf_RX10_15 X Z dX10_addFixups_56 ?_
  refine lv_iconst (v := 4) hx hb dX10_addFixups_59 (by decide) ?_
  refine lv_aload_n hx hb dX10_addFixups_60 rfl (lv_at hl 0 rfl) ?_
  refine gf_RX10_9 X Z dX10_addFixups_61 ?_
  refine gf_RX10_118 X Z dX10_addFixups_64 ?_
  refine gf_RX10_51 X Z names_23 dX10_addFixups_67 ?_
  refine lv_i2l (v := (s10.1 23 2).toInt64) hx hb dX10_addFixups_70 rfl ?_
  obtain ⟨s12, h11, hf⟩ := bv_s hf
  refine goV Z (run_V (As := [.int (4 : Int32), .long ((s10.1 23 2).toInt64)]) (rest := []) X Z (c_X6_add l D h cy row_3 (4 : Int32) ((s10.1 23 2).toInt64) s10 s12 h11 _) lk_RX10_130 ⟨by decide, by decide⟩ (rv_RowS row_3) rfl hl.1 rfl (Nat.le_of_ble_eq_true rfl) ⟨Nat.le_refl _, Nat.le_refl _⟩ dX10_addFixups_71) (fun H locs Z => ?_)
  refine lv_aload_n hx hb dX10_addFixups_74 rfl (lv_at hl 0 rfl) ?_
  refine gf_RX10_15 X Z dX10_addFixups_75 ?_
  refine lv_iconst (v := 4) hx hb dX10_addFixups_78 (by decide) ?_
  refine lv_lconst (v := 1) hx hb dX10_addFixups_79 (by decide) ?_
  obtain ⟨s14, h13, hf⟩ := bv_s hf
  refine goV Z (run_V (As := [.int (4 : Int32), .long (1 : Int64)]) (rest := []) X Z (c_X6_add l D h cy row_3 (4 : Int32) (1 : Int64) s12 s14 h13 _) lk_RX10_130 ⟨by decide, by decide⟩ (rv_RowS row_3) rfl hl.1 rfl (Nat.le_of_ble_eq_true rfl) ⟨Nat.le_refl _, Nat.le_refl _⟩ dX10_addFixups_80) (fun H locs Z => ?_)
  refine lv_aload_n hx hb dX10_addFixups_83 rfl (lv_at hl 0 rfl) ?_
  refine gf_RX10_15 X Z dX10_addFixups_84 ?_
  refine lv_iconst (v := 4) hx hb dX10_addFixups_87 (by decide) ?_
  refine lv_lconst (v := 0) hx hb dX10_addFixups_88 (by decide) ?_
  obtain ⟨s16, h15, hf⟩ := bv_s hf
  refine goV Z (run_V (As := [.int (4 : Int32), .long (0 : Int64)]) (rest := []) X Z (c_X6_add l D h cy row_3 (4 : Int32) (0 : Int64) s14 s16 h15 _) lk_RX10_130 ⟨by decide, by decide⟩ (rv_RowS row_3) rfl hl.1 rfl (Nat.le_of_ble_eq_true rfl) ⟨Nat.le_refl _, Nat.le_refl _⟩ dX10_addFixups_89) (fun H locs Z => ?_)
  refine lv_aload_n hx hb dX10_addFixups_92 rfl (lv_at hl 0 rfl) ?_
  refine gf_RX10_15 X Z dX10_addFixups_93 ?_
  refine lv_iconst (v := 4) hx hb dX10_addFixups_96 (by decide) ?_
  refine lv_aload_n hx hb dX10_addFixups_97 rfl (lv_at hl 0 rfl) ?_
  refine gf_RX10_9 X Z dX10_addFixups_98 ?_
  refine gf_RX10_67 X Z dX10_addFixups_101 ?_
  refine gf_RX10_51 X Z names_6 dX10_addFixups_104 ?_
  refine lv_i2l (v := (s16.1 6 2).toInt64) hx hb dX10_addFixups_107 rfl ?_
  obtain ⟨s18, h17, hf⟩ := bv_s hf
  refine goV Z (run_V (As := [.int (4 : Int32), .long ((s16.1 6 2).toInt64)]) (rest := []) X Z (c_X6_add l D h cy row_3 (4 : Int32) ((s16.1 6 2).toInt64) s16 s18 h17 _) lk_RX10_130 ⟨by decide, by decide⟩ (rv_RowS row_3) rfl hl.1 rfl (Nat.le_of_ble_eq_true rfl) ⟨Nat.le_refl _, Nat.le_refl _⟩ dX10_addFixups_108) (fun H locs Z => ?_)
  refine lv_iconst (v := 0) hx hb dX10_addFixups_111 (by decide) ?_
  refine lv_topi (fun v19 ev19 => ?_)
  have hf := zn_e ev19 hf
  refine lv_istore_n (lv' := [(1, .int v19), (0, .ref (h 30))]) hx hb dX10_addFixups_112 rfl hl (by decide) rfl (fun ls hl => ?_)
  exact b_X10_addFixups_113 X hr hk v19 s18 _ hf _ _ _ Z (lv_sub hl [1, 0] rfl)

set_option maxRecDepth 100000 in
set_option maxHeartbeats 4000000 in
theorem b_X10_addSymbols_13b {p : Program} {l : Launch} {e : Env} {s : State} {m : MethodId} {args : Array Value} {below : List Frame} {meth : Method} {c : Code} {D : va_G} {h : Nat → Nat} {cy : Nat → ClassId} (X : Cx p s m args c D h cy RX10 cX10_addSymbols 5) (hr : meth.sig.returnType = none) (hk : meth.locks = false) (K13 : (Int32 × Int32 × St) → Option (St)) (hK13 : ∀ (a : Int32 × Int32 × St) (y : St), K13 a = some y → ∀ (H : Heap) (locs : List Loc) (ls : Array Slot), Zt D h cy s a.2.2 H locs → lv_has ls 5 [(0, .ref (h 30)), (1, .int a.1), (2, .int a.2.1)] → W p l e (rmz 4 88) s m args below meth c H locs 0 0 (EV below args s D h cy y) (F0 m 13 ls [])) (x1 : Int32) (x2 : Int32) (σ : St) (y : St) (hf : f_X10_addSymbols_13b K13 x1 x2 σ = some y) : ∀ (H : Heap) (locs : List Loc) (ls : Array Slot), Zt D h cy s σ H locs → lv_has ls 5 [(0, .ref (h 30)), (1, .int x1), (2, .int x2)] → W p l e (rmz 4 88) s m args below meth c H locs 0 0 (EV below args s D h cy y) (F0 m 13 ls []) := by
  intro H locs ls Z hl
  have hx := X.x
  have hb := X.b
  unfold f_X10_addSymbols_13b at hf
  refine lv_iload_n hx hb dX10_addSymbols_13 rfl (lv_at hl 2 rfl) ?_
  refine lv_aload_n hx hb dX10_addSymbols_14 rfl (lv_at hl 0 rfl) ?_
  refine gf_RX10_9 X Z dX10_addSymbols_15 ?_
  refine gf_RX10_46 X Z dX10_addSymbols_18 ?_
  refine gf_RX10_51 X Z names_18 dX10_addSymbols_21 ?_
  refine lv_icmp_ge (tgt := 154) hx hb dX10_addSymbols_24 (by decide) (fun c5 => ?_) (fun c5 => ?_)
  · have hf := itp c5 hf
    exact retV X hr hk Z hf dX10_addSymbols_154
  · have hf := itn c5 hf
    refine lv_aload_n hx hb dX10_addSymbols_27 rfl (lv_at hl 0 rfl) ?_
    refine gf_RX10_9 X Z dX10_addSymbols_28 ?_
    refine gf_RX10_230 X Z dX10_addSymbols_31 ?_
    refine lv_iload_n hx hb dX10_addSymbols_34 rfl (lv_at hl 2 rfl) ?_
    obtain ⟨g6, hf⟩ := gd_s hf
    refine x_iald (k := 21) X Z sh_21 g6 dX10_addSymbols_35 ?_
    refine lv_topi (fun v7 ev7 => ?_)
    have hf := zn_e ev7 hf
    refine lv_istore_n (lv' := [(3, .int v7), (0, .ref (h 30)), (1, .int x1), (2, .int x2)]) hx hb dX10_addSymbols_36 rfl hl (by decide) rfl (fun ls hl => ?_)
    refine lv_aload_n hx hb dX10_addSymbols_37 rfl (lv_at hl 1 rfl) ?_
    refine gf_RX10_9 X Z dX10_addSymbols_38 ?_
    refine gf_RX10_160 X Z dX10_addSymbols_41 ?_
    refine lv_iload_n hx hb dX10_addSymbols_44 rfl (lv_at hl 0 rfl) ?_
    refine lv_iconst (v := 1) hx hb dX10_addSymbols_45 (by decide) ?_
    refine lv_isub hx hb dX10_addSymbols_46 ?_
    obtain ⟨g8, hf⟩ := gd_s hf
    refine x_iald (k := 16) X Z sh_16 g8 dX10_addSymbols_47 ?_
    refine lv_aload_n hx hb dX10_addSymbols_48 rfl (lv_at hl 1 rfl) ?_
    refine gf_RX10_9 X Z dX10_addSymbols_49 ?_
    refine gf_RX10_233 X Z dX10_addSymbols_52 ?_
    refine lv_iload_n hx hb dX10_addSymbols_55 rfl (lv_at hl 3 rfl) ?_
    obtain ⟨g9, hf⟩ := gd_s hf
    refine x_iald (k := 22) X Z sh_22 g9 dX10_addSymbols_56 ?_
    refine lv_iadd hx hb dX10_addSymbols_57 ?_
    refine lv_topi (fun v10 ev10 => ?_)
    have hf := zn_e ev10 hf
    refine lv_istore (lv' := [(4, .int v10), (3, .int v7), (0, .ref (h 30)), (1, .int x1), (2, .int x2)]) hx hb dX10_addSymbols_58 hl (by decide) rfl (fun ls hl => ?_)
    refine lv_aload_n hx hb dX10_addSymbols_60 rfl (lv_at hl 2 rfl) ?_
    refine gf_RX10_15 X Z dX10_addSymbols_61 ?_
    refine lv_iconst (v := 4) hx hb dX10_addSymbols_64 (by decide) ?_
    refine lv_iload_n hx hb dX10_addSymbols_65 rfl (lv_at hl 3 rfl) ?_
    refine lv_i2l (v := x1.toInt64) hx hb dX10_addSymbols_66 rfl ?_
    obtain ⟨s12, h11, hf⟩ := bv_s hf
    refine goV Z (run_V (As := [.int (4 : Int32), .long x1.toInt64]) (rest := []) X Z (c_X6_add l D h cy row_3 (4 : Int32) x1.toInt64 σ s12 h11 _) lk_RX10_130 ⟨by decide, by decide⟩ (rv_RowS row_3) rfl hl.1 rfl (Nat.le_of_ble_eq_true rfl) ⟨Nat.le_refl _, Nat.le_refl _⟩ dX10_addSymbols_67) (fun H locs Z => ?_)
    refine lv_aload_n hx hb dX10_addSymbols_70 rfl (lv_at hl 2 rfl) ?_
    refine gf_RX10_15 X Z dX10_addSymbols_71 ?_
    refine lv_iconst (v := 1) hx hb dX10_addSymbols_74 (by decide) ?_
    refine lv_ldc2 (v := 15) hx hb X.o (X.t _ kc_RX10_236) dX10_addSymbols_75 ?_
    obtain ⟨s14, h13, hf⟩ := bv_s hf
    refine goV Z (run_V (As := [.int (1 : Int32), .long (15 : Int64)]) (rest := []) X Z (c_X6_add l D h cy row_3 (1 : Int32) (15 : Int64) s12 s14 h13 _) lk_RX10_130 ⟨by decide, by decide⟩ (rv_RowS row_3) rfl hl.1 rfl (Nat.le_of_ble_eq_true rfl) ⟨Nat.le_refl _, Nat.le_refl _⟩ dX10_addSymbols_78) (fun H locs Z => ?_)
    refine lv_aload_n hx hb dX10_addSymbols_81 rfl (lv_at hl 2 rfl) ?_
    refine gf_RX10_15 X Z dX10_addSymbols_82 ?_
    refine lv_iconst (v := 1) hx hb dX10_addSymbols_85 (by decide) ?_
    refine lv_iload_n hx hb dX10_addSymbols_86 rfl (lv_at hl 1 rfl) ?_
    refine lv_i2l (v := v7.toInt64) hx hb dX10_addSymbols_87 rfl ?_
    obtain ⟨s16, h15, hf⟩ := bv_s hf
    refine goV Z (run_V (As := [.int (1 : Int32), .long v7.toInt64]) (rest := []) X Z (c_X6_add l D h cy row_3 (1 : Int32) v7.toInt64 s14 s16 h15 _) lk_RX10_130 ⟨by decide, by decide⟩ (rv_RowS row_3) rfl hl.1 rfl (Nat.le_of_ble_eq_true rfl) ⟨Nat.le_refl _, Nat.le_refl _⟩ dX10_addSymbols_88) (fun H locs Z => ?_)
    refine lv_aload_n hx hb dX10_addSymbols_91 rfl (lv_at hl 2 rfl) ?_
    refine gf_RX10_15 X Z dX10_addSymbols_92 ?_
    refine lv_iconst (v := 2) hx hb dX10_addSymbols_95 (by decide) ?_
    refine lv_lconst (v := 0) hx hb dX10_addSymbols_96 (by decide) ?_
    obtain ⟨s18, h17, hf⟩ := bv_s hf
    refine goV Z (run_V (As := [.int (2 : Int32), .long (0 : Int64)]) (rest := []) X Z (c_X6_add l D h cy row_3 (2 : Int32) (0 : Int64) s16 s18 h17 _) lk_RX10_130 ⟨by decide, by decide⟩ (rv_RowS row_3) rfl hl.1 rfl (Nat.le_of_ble_eq_true rfl) ⟨Nat.le_refl _, Nat.le_refl _⟩ dX10_addSymbols_97) (fun H locs Z => ?_)
    refine lv_aload_n hx hb dX10_addSymbols_100 rfl (lv_at hl 2 rfl) ?_
    refine gf_RX10_15 X Z dX10_addSymbols_101 ?_
    refine lv_bipush (v := 8) hx hb dX10_addSymbols_104 (by decide) ?_
    refine lv_aload_n hx hb dX10_addSymbols_106 rfl (lv_at hl 2 rfl) ?_
    refine gf_RX10_9 X Z dX10_addSymbols_107 ?_
    refine lv_aload_n hx hb dX10_addSymbols_110 rfl (lv_at hl 2 rfl) ?_
    refine gf_RX10_9 X Z dX10_addSymbols_111 ?_
    refine gf_RX10_157 X Z dX10_addSymbols_114 ?_
    refine lv_iload_n hx hb dX10_addSymbols_117 rfl (lv_at hl 1 rfl) ?_
    refine lv_iconst (v := 1) hx hb dX10_addSymbols_118 (by decide) ?_
    refine lv_isub hx hb dX10_addSymbols_119 ?_
    obtain ⟨g19, hf⟩ := gd_s hf
    refine x_iald (k := 15) X Z sh_15 g19 dX10_addSymbols_120 ?_
    obtain ⟨r22, s21, h20, hf⟩ := bi_s hf
    refine goI Z (run_V (As := [.int ((s18.1 15 ((v7 - (1 : Int32))).toNatClampNeg))]) (rest := [.int (8 : Int32), .ref (h 3)]) X Z (c_X8_addressOf l D h cy ((s18.1 15 ((v7 - (1 : Int32))).toNatClampNeg)) s18 (r22, s21) h20 _) lk_RX10_149 ⟨by decide, by decide⟩ rv_5 rfl hl.1 rfl (Nat.le_of_ble_eq_true rfl) ⟨Nat.le_refl _, Nat.le_refl _⟩ dX10_addSymbols_121) (fun H locs Z => ?_)
    refine lv_iload hx hb dX10_addSymbols_124 (lv_at hl 0 rfl) ?_
    refine lv_iadd hx hb dX10_addSymbols_126 ?_
    refine lv_i2l (v := (r22 + v10).toInt64) hx hb dX10_addSymbols_127 rfl ?_
    obtain ⟨s24, h23, hf⟩ := bv_s hf
    refine goV Z (run_V (As := [.int (8 : Int32), .long ((r22 + v10).toInt64)]) (rest := []) X Z (c_X6_add l D h cy row_3 (8 : Int32) ((r22 + v10).toInt64) s21 s24 h23 _) lk_RX10_130 ⟨by decide, by decide⟩ (rv_RowS row_3) rfl hl.1 rfl (Nat.le_of_ble_eq_true rfl) ⟨Nat.le_refl _, Nat.le_refl _⟩ dX10_addSymbols_128) (fun H locs Z => ?_)
    refine lv_iload_n hx hb dX10_addSymbols_131 rfl (lv_at hl 3 rfl) ?_
    refine lv_aload_n hx hb dX10_addSymbols_132 rfl (lv_at hl 2 rfl) ?_
    refine gf_RX10_9 X Z dX10_addSymbols_133 ?_
    refine gf_RX10_46 X Z dX10_addSymbols_136 ?_
    refine gf_RX10_227 X Z names_18 dX10_addSymbols_139 ?_
    refine lv_iload_n hx hb dX10_addSymbols_142 rfl (lv_at hl 4 rfl) ?_
    obtain ⟨g25, hf⟩ := gd_s hf
    refine x_iald (k := 20) X Z sh_20 g25 dX10_addSymbols_143 ?_
    refine lv_iconst (v := 1) hx hb dX10_addSymbols_144 (by decide) ?_
    refine lv_iadd hx hb dX10_addSymbols_145 ?_
    refine lv_iadd hx hb dX10_addSymbols_146 ?_
    refine lv_topi (fun v26 ev26 => ?_)
    have hf := zn_e ev26 hf
    refine lv_istore_n (lv' := [(1, .int v26), (4, .int v10), (3, .int v7), (0, .ref (h 30)), (2, .int x2)]) hx hb dX10_addSymbols_147 rfl hl (by decide) rfl (fun ls hl => ?_)
    obtain ⟨v27, ev27⟩ : ∃ z : Int32, z = x2 + 1 := ⟨_, rfl⟩
    have hf := zn_e ev27 hf
    refine lv_iinc (v := v27) (lv' := [(2, .int v27), (1, .int v26), (4, .int v10), (3, .int v7), (0, .ref (h 30))]) hx hb dX10_addSymbols_148 hl (k := 4) rfl (by rw [ev27]; rfl) (by decide) rfl (fun ls hl => ?_)
    refine lv_goto (tgt := 13) hx hb dX10_addSymbols_151 (by decide) ?_
    exact hK13 (v26, v27, s24) _ hf _ _ _ Z (lv_sub hl [4, 1, 0] rfl)

set_option maxRecDepth 100000 in
set_option maxHeartbeats 4000000 in
theorem b_X10_addSymbols_13 {p : Program} {l : Launch} {e : Env} {s : State} {m : MethodId} {args : Array Value} {below : List Frame} {meth : Method} {c : Code} {D : va_G} {h : Nat → Nat} {cy : Nat → ClassId} (X : Cx p s m args c D h cy RX10 cX10_addSymbols 5) (hr : meth.sig.returnType = none) (hk : meth.locks = false) (x1 : Int32) (x2 : Int32) (σ : St) (y : St) (hf : f_X10_addSymbols_13 x1 x2 σ = some y) : ∀ (H : Heap) (locs : List Loc) (ls : Array Slot), Zt D h cy s σ H locs → lv_has ls 5 [(0, .ref (h 30)), (1, .int x1), (2, .int x2)] → W p l e (rmz 4 88) s m args below meth c H locs 0 0 (EV below args s D h cy y) (F0 m 13 ls []) := by
  exact it_W (F := fun K a => f_X10_addSymbols_13b K a.1 a.2.1 a.2.2) (P := fun a y => ∀ (H : Heap) (locs : List Loc) (ls : Array Slot), Zt D h cy s a.2.2 H locs → lv_has ls 5 [(0, .ref (h 30)), (1, .int a.1), (2, .int a.2.1)] → W p l e (rmz 4 88) s m args below meth c H locs 0 0 (EV below args s D h cy y) (F0 m 13 ls [])) (fun K hK a y hf => b_X10_addSymbols_13b X hr hk K hK (a.1) (a.2.1) (a.2.2) y hf) FU _ y hf

set_option maxRecDepth 100000 in
set_option maxHeartbeats 4000000 in
theorem c_X10_addSymbols (l : Launch) (D : va_G) (h : Nat → Nat) (cy : Nat → ClassId) (σ : St) (y : St) (hf : f_X10_addSymbols σ = some y) : CV l yX10_addSymbols cX10_addSymbols 5 none 4 88 D h cy [.ref (h 30)] σ y := by
  refine ent (Qc := fun sz => QV D h cy sz y) (by decide) (Nat.le_of_ble_eq_true rfl) ?_
  intro p e s m below meth c ls X Z hr hk hl
  have X : Cx p s m _ c D h cy RX10 cX10_addSymbols 5 := X
  have hx := X.x
  have hb := X.b
  have hl : lv_has ls 5 [(0, .ref (h 30))] := hl
  unfold f_X10_addSymbols at hf
  refine lv_aload_n hx hb dX10_addSymbols_0 rfl (lv_at hl 0 rfl) ?_
  refine gf_RX10_15 X Z dX10_addSymbols_1 ?_
  refine lv_bipush (v := 8) hx hb dX10_addSymbols_4 (by decide) ?_
  obtain ⟨s2, h1, hf⟩ := bv_s hf
  refine goV Z (run_V (As := [.int (8 : Int32)]) (rest := []) X Z (c_X6_fillUp l D h cy row_3 (8 : Int32) σ s2 h1 _) lk_RX10_177 ⟨by decide, by decide⟩ (rv_RowS row_3) rfl hl.1 rfl (Nat.le_of_ble_eq_true rfl) ⟨Nat.le_refl _, Nat.le_refl _⟩ dX10_addSymbols_6) (fun H locs Z => ?_)
  refine lv_iconst (v := 1) hx hb dX10_addSymbols_9 (by decide) ?_
  refine lv_topi (fun v3 ev3 => ?_)
  have hf := zn_e ev3 hf
  refine lv_istore_n (lv' := [(1, .int v3), (0, .ref (h 30))]) hx hb dX10_addSymbols_10 rfl hl (by decide) rfl (fun ls hl => ?_)
  refine lv_iconst (v := 0) hx hb dX10_addSymbols_11 (by decide) ?_
  refine lv_topi (fun v4 ev4 => ?_)
  have hf := zn_e ev4 hf
  refine lv_istore_n (lv' := [(2, .int v4), (1, .int v3), (0, .ref (h 30))]) hx hb dX10_addSymbols_12 rfl hl (by decide) rfl (fun ls hl => ?_)
  exact b_X10_addSymbols_13 X hr hk v3 v4 s2 _ hf _ _ _ Z (lv_sub hl [2, 1, 0] rfl)
