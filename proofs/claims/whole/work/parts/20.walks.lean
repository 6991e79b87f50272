set_option maxRecDepth 100000 in
set_option maxHeartbeats 4000000 in
theorem c_X7_clear (l : Launch) (D : va_G) (h : Nat → Nat) (cy : Nat → ClassId) {k0 : Nat} (hR0 : SegsS k0) (σ : St) (y : St) (hf : f_X7_clear k0 σ = some y) : CV l yX7_clear cX7_clear 1 none 0 0 D h cy [.ref (h k0)] σ y := by
  refine ent (Qc := fun sz => QV D h cy sz y) (by decide) (Nat.le_of_ble_eq_true rfl) ?_
  intro p e s m below meth c ls X Z hr hk hl
  have X : Cx p s m _ c D h cy RX7 cX7_clear 1 := X
  have hx := X.x
  have hb := X.b
  have hl : lv_has ls 1 [(0, .ref (h k0))] := hl
  unfold f_X7_clear at hf
  refine lv_aload_n hx hb dX7_clear_0 rfl (lv_at hl 0 rfl) ?_
  refine lv_iconst (v := 0) hx hb dX7_clear_1 (by decide) ?_
  refine pf_RX7_24 X Z hR0 dX7_clear_2 (fun s1 H locs es1 Z => ?_)
  have hf := zn_e es1 hf
  exact retV X hr hk Z hf dX7_clear_5

set_option maxRecDepth 100000 in
set_option maxHeartbeats 4000000 in
theorem c_X0_forget (l : Launch) (D : va_G) (h : Nat → Nat) (cy : Nat → ClassId) (σ : St) (y : St) (hf : f_X0_forget σ = some y) : CV l yX0_forget cX0_forget 1 none 1 20 D h cy [.ref (h 40)] σ y := by
  refine ent (Qc := fun sz => QV D h cy sz y) (by decide) (Nat.le_of_ble_eq_true rfl) ?_
  intro p e s m below meth c ls X Z hr hk hl
  have X : Cx p s m _ c D h cy RX0 cX0_forget 1 := X
  have hx := X.x
  have hb := X.b
  have hl : lv_has ls 1 [(0, .ref (h 40))] := hl
  unfold f_X0_forget at hf
  refine lv_aload_n hx hb dX0_forget_0 rfl (lv_at hl 0 rfl) ?_
  refine gf_RX0_22 X Z dX0_forget_1 ?_
  obtain ⟨s2, h1, hf⟩ := bv_s hf
  refine goV Z (run_V (As := []) (rest := []) X Z (c_X7_clear l D h cy segs_41 σ s2 h1 _) lk_RX0_39 ⟨by decide, by decide⟩ (rv_SegsS segs_41) rfl hl.1 rfl (Nat.le_of_ble_eq_true rfl) ⟨Nat.le_refl _, Nat.le_refl _⟩ dX0_forget_4) (fun H locs Z => ?_)
  refine lv_aload_n hx hb dX0_forget_7 rfl (lv_at hl 0 rfl) ?_
  refine lv_iconst (v := 0) hx hb dX0_forget_8 (by decide) ?_
  refine pf_RX0_42 X Z dX0_forget_9 (fun s3 H locs es3 Z => ?_)
  have hf := zn_e es3 hf
  refine lv_aload_n hx hb dX0_forget_12 rfl (lv_at hl 0 rfl) ?_
  refine lv_iconst (v := 0) hx hb dX0_forget_13 (by decide) ?_
  refine pf_RX0_46 X Z (by decide) dX0_forget_14 (fun s4 H locs es4 Z => ?_)
  have hf := zn_e es4 hf
  refine lv_aload_n hx hb dX0_forget_17 rfl (lv_at hl 0 rfl) ?_
  refine lv_iconst (v := 0) hx hb dX0_forget_18 (by decide) ?_
  refine pf_RX0_50 X Z dX0_forget_19 (fun s5 H locs es5 Z => ?_)
  have hf := zn_e es5 hf
  refine lv_aload_n hx hb dX0_forget_22 rfl (lv_at hl 0 rfl) ?_
  refine lv_iconst (v := 0) hx hb dX0_forget_23 (by decide) ?_
  refine pf_RX0_53 X Z dX0_forget_24 (fun s6 H locs es6 Z => ?_)
  have hf := zn_e es6 hf
  refine lv_aload_n hx hb dX0_forget_27 rfl (lv_at hl 0 rfl) ?_
  refine lv_iconst (v := 0) hx hb dX0_forget_28 (by decide) ?_
  refine pf_RX0_56 X Z dX0_forget_29 (fun s7 H locs es7 Z => ?_)
  have hf := zn_e es7 hf
  refine lv_aload_n hx hb dX0_forget_32 rfl (lv_at hl 0 rfl) ?_
  refine lv_iconst (v := 0) hx hb dX0_forget_33 (by decide) ?_
  refine pf_RX0_59 X Z dX0_forget_34 (fun s8 H locs es8 Z => ?_)
  have hf := zn_e es8 hf
  refine lv_aload_n hx hb dX0_forget_37 rfl (lv_at hl 0 rfl) ?_
  refine lv_iconst (v := 0) hx hb dX0_forget_38 (by decide) ?_
  refine pf_RX0_62 X Z (by decide) dX0_forget_39 (fun s9 H locs es9 Z => ?_)
  have hf := zn_e es9 hf
  refine lv_aload_n hx hb dX0_forget_42 rfl (lv_at hl 0 rfl) ?_
  refine lv_iconst (v := 0) hx hb dX0_forget_43 (by decide) ?_
  refine pf_RX0_65 X Z dX0_forget_44 (fun s10 H locs es10 Z => ?_)
  have hf := zn_e es10 hf
  refine lv_aload_n hx hb dX0_forget_47 rfl (lv_at hl 0 rfl) ?_
  refine lv_iconst (v := 0) hx hb dX0_forget_48 (by decide) ?_
  refine pf_RX0_68 X Z dX0_forget_49 (fun s11 H locs es11 Z => ?_)
  have hf := zn_e es11 hf
  exact retV X hr hk Z hf dX0_forget_52

set_option maxRecDepth 100000 in
set_option maxHeartbeats 4000000 in
theorem c_X2_unless (l : Launch) (D : va_G) (h : Nat → Nat) (cy : Nat → ClassId) (a1 : Int32) (a2 : Int32) (a3 : Int32) (σ : St) (y : Int32 × St) (hf : f_X2_unless a1 a2 a3 σ = some y) : CI l yX2_unless cX2_unless 4 (some .boolean) 0 0 D h cy [.ref (h 39), .int a1, .int a2, .int a3] σ y := by
  refine ent (Qc := fun sz => QI D h cy sz y) (by decide) (Nat.le_of_ble_eq_true rfl) ?_
  intro p e s m below meth c ls X Z hr hk hl
  have X : Cx p s m _ c D h cy RX2 cX2_unless 4 := X
  have hx := X.x
  have hb := X.b
  have hl : lv_has ls 4 [(0, .ref (h 39)), (1, .int a1), (2, .int a2), (3, .int a3)] := hl
  unfold f_X2_unless at hf
  refine lv_iload_n hx hb dX2_unless_0 rfl (lv_at hl 1 rfl) ?_
  refine lv_if_ne (tgt := 14) hx hb dX2_unless_1 (by decide) (fun c1 => ?_) (fun c1 => ?_)
  · have hf := itn c1 hf
    refine lv_iload_n hx hb dX2_unless_14 rfl (lv_at hl 1 rfl) ?_
    obtain ⟨g2, hf⟩ := gd_s hf
    exact retZ X hr hk Z g2 hf dX2_unless_15
  · have hf := itp c1 hf
    refine lv_aload_n hx hb dX2_unless_4 rfl (lv_at hl 0 rfl) ?_
    refine lv_iload_n hx hb dX2_unless_5 rfl (lv_at hl 2 rfl) ?_
    refine pf_RX2_14 X Z dX2_unless_6 (fun s3 H locs es3 Z => ?_)
    have hf := zn_e es3 hf
    refine lv_aload_n hx hb dX2_unless_9 rfl (lv_at hl 0 rfl) ?_
    refine lv_iload_n hx hb dX2_unless_10 rfl (lv_at hl 3 rfl) ?_
    refine pf_RX2_18 X Z dX2_unless_11 (fun s4 H locs es4 Z => ?_)
    have hf := zn_e es4 hf
    refine lv_iload_n hx hb dX2_unless_14 rfl (lv_at hl 1 rfl) ?_
    obtain ⟨g5, hf⟩ := gd_s hf
    exact retZ X hr hk Z g5 hf dX2_unless_15

set_option maxRecDepth 100000 in
set_option maxHeartbeats 4000000 in
theorem b_X6_number_51 {p : Program} {l : Launch} {e : Env} {s : State} {m : MethodId} {args : Array Value} {below : List Frame} {meth : Method} {c : Code} {D : va_G} {h : Nat → Nat} {cy : Nat → ClassId} (X : Cx p s m args c D h cy RX6 cX6_number 7) (hr : meth.sig.returnType = some .long) (hk : meth.locks = false) {k0 n0 : Nat} (hR0 : RowS k0 n0) (K7 : (Int32 × Int64 × Int32 × St) → Option (Int64 × St)) (hK7 : ∀ (a : Int32 × Int64 × Int32 × St) (y : Int64 × St), K7 a = some y → ∀ (H : Heap) (locs : List Loc) (ls : Array Slot), Zt D h cy s a.2.2.2 H locs → lv_has ls 7 [(0, .ref (h k0)), (1, .int a.1), (3, .long a.2.1), (5, .int a.2.2.1)] → W p l e (rmz 0 0) s m args below meth c H locs 0 0 (EL below args s D h cy y) (F0 m 7 ls [])) (x1 : Int32) (x5 : Int32) (t0 : Int32) (t1 : Int64) (σ : St) (y : Int64 × St) (hf : f_X6_number_51 k0 n0 K7 x1 x5 t0 t1 σ = some y) : ∀ (H : Heap) (locs : List Loc) (ls : Array Slot), Zt D h cy s σ H locs → lv_has ls 7 [(0, .ref (h k0)), (1, .int x1), (5, .int x5)] → W p l e (rmz 0 0) s m args below meth c H locs 0 0 (EL below args s D h cy y) (F0 m 51 ls [.int t0, .long t1]) := by
  intro H locs ls Z hl
  have hx := X.x
  have hb := X.b
  unfold f_X6_number_51 at hf
  refine lv_i2l (v := t0.toInt64) hx hb dX6_number_51 rfl ?_
  refine lv_lor hx hb dX6_number_52 ?_
  refine lv_topl (fun v6 ev6 => ?_)
  have hf := zn_e ev6 hf
  refine lv_lstore_n (lv' := [(3, .long v6), (0, .ref (h k0)), (1, .int x1), (5, .int x5)]) hx hb dX6_number_53 rfl hl (by decide) rfl (fun ls hl => ?_)
  obtain ⟨v7, ev7⟩ : ∃ z : Int32, z = x5 + (-1) := ⟨_, rfl⟩
  have hf := zn_e ev7 hf
  refine lv_iinc (v := v7) (lv' := [(5, .int v7), (3, .long v6), (0, .ref (h k0)), (1, .int x1)]) hx hb dX6_number_54 hl (k := 3) rfl (by rw [ev7]; rfl) (by decide) rfl (fun ls hl => ?_)
  refine lv_goto (tgt := 7) hx hb dX6_number_57 (by decide) ?_
  exact hK7 (x1, v6, v7, σ) _ hf _ _ _ Z (lv_sub hl [2, 3, 1, 0] rfl)

set_option maxRecDepth 100000 in
set_option maxHeartbeats 4000000 in
theorem b_X6_number_50 {p : Program} {l : Launch} {e : Env} {s : State} {m : MethodId} {args : Array Value} {below : List Frame} {meth : Method} {c : Code} {D : va_G} {h : Nat → Nat} {cy : Nat → ClassId} (X : Cx p s m args c D h cy RX6 cX6_number 7) (hr : meth.sig.returnType = some .long) (hk : meth.locks = false) {k0 n0 : Nat} (hR0 : RowS k0 n0) (K7 : (Int32 × Int64 × Int32 × St) → Option (Int64 × St)) (hK7 : ∀ (a : Int32 × Int64 × Int32 × St) (y : Int64 × St), K7 a = some y → ∀ (H : Heap) (locs : List Loc) (ls : Array Slot), Zt D h cy s a.2.2.2 H locs → lv_has ls 7 [(0, .ref (h k0)), (1, .int a.1), (3, .long a.2.1), (5, .int a.2.2.1)] → W p l e (rmz 0 0) s m args below meth c H locs 0 0 (EL below args s D h cy y) (F0 m 7 ls [])) (x1 : Int32) (x5 : Int32) (t0 : Int64) (σ : St) (y : Int64 × St) (hf : f_X6_number_50 k0 n0 K7 x1 x5 t0 σ = some y) : ∀ (H : Heap) (locs : List Loc) (ls : Array Slot), Zt D h cy s σ H locs → lv_has ls 7 [(0, .ref (h k0)), (1, .int x1), (5, .int x5)] → W p l e (rmz 0 0) s m args below meth c H locs 0 0 (EL below args s D h cy y) (F0 m 50 ls [.long t0]) := by
  intro H locs ls Z hl
  have hx := X.x
  have hb := X.b
  unfold f_X6_number_50 at hf
  refine lv_iconst (v := 0) hx hb dX6_number_50 (by decide) ?_
  exact b_X6_number_51 X hr hk hR0 K7 hK7 x1 x5 (0 : Int32) t0 σ _ hf _ _ _ Z (lv_sub hl [0, 1, 2] rfl)

set_option maxRecDepth 100000 in
set_option maxHeartbeats 4000000 in
theorem b_X6_number_7b {p : Program} {l : Launch} {e : Env} {s : State} {m : MethodId} {args : Array Value} {below : List Frame} {meth : Method} {c : Code} {D : va_G} {h : Nat → Nat} {cy : Nat → ClassId} (X : Cx p s m args c D h cy RX6 cX6_number 7) (hr : meth.sig.returnType = some .long) (hk : meth.locks = false) {k0 n0 : Nat} (hR0 : RowS k0 n0) (K7 : (Int32 × Int64 × Int32 × St) → Option (Int64 × St)) (hK7 : ∀ (a : Int32 × Int64 × Int32 × St) (y : Int64 × St), K7 a = some y → ∀ (H : Heap) (locs : List Loc) (ls : Array Slot), Zt D h cy s a.2.2.2 H locs → lv_has ls 7 [(0, .ref (h k0)), (1, .int a.1), (3, .long a.2.1), (5, .int a.2.2.1)] → W p l e (rmz 0 0) s m args below meth c H locs 0 0 (EL below args s D h cy y) (F0 m 7 ls [])) (x1 : Int32) (x3 : Int64) (x5 : Int32) (σ : St) (y : Int64 × St) (hf : f_X6_number_7b k0 n0 K7 x1 x3 x5 σ = some y) : ∀ (H : Heap) (locs : List Loc) (ls : Array Slot), Zt D h cy s σ H locs → lv_has ls 7 [(0, .ref (h k0)), (1, .int x1), (3, .long x3), (5, .int x5)] → W p l e (rmz 0 0) s m args below meth c H locs 0 0 (EL below args s D h cy y) (F0 m 7 ls []) := by
  intro H locs ls Z hl
  have hx := X.x
  have hb := X.b
  unfold f_X6_number_7b at hf
  refine lv_iload hx hb dX6_number_7 (lv_at hl 3 rfl) ?_
  refine lv_if_lt (tgt := 60) hx hb dX6_number_9 (by decide) (fun c3 => ?_) (fun c3 => ?_)
  · have hf := itp c3 hf
    refine lv_lload_n hx hb dX6_number_60 rfl (lv_at hl 2 rfl) ?_
    exact retL X hr hk Z hf dX6_number_61
  · have hf := itn c3 hf
    refine lv_iload_n hx hb dX6_number_12 rfl (lv_at hl 1 rfl) ?_
    refine lv_iload hx hb dX6_number_13 (lv_at hl 3 rfl) ?_
    refine lv_iadd hx hb dX6_number_15 ?_
    refine lv_topi (fun v4 ev4 => ?_)
    have hf := zn_e ev4 hf
    refine lv_istore (lv' := [(6, .int v4), (0, .ref (h k0)), (1, .int x1), (3, .long x3), (5, .int x5)]) hx hb dX6_number_16 hl (by decide) rfl (fun ls hl => ?_)
    refine lv_lload_n hx hb dX6_number_18 rfl (lv_at hl 3 rfl) ?_
    refine lv_bipush (v := 8) hx hb dX6_number_19 (by decide) ?_
    refine lv_lshl (v := zlshl x3 (8 : Int32)) hx hb dX6_number_21 rfl ?_
    refine lv_iload hx hb dX6_number_22 (lv_at hl 0 rfl) ?_
    refine lv_if_lt (tgt := 50) hx hb dX6_number_24 (by decide) (fun c5 => ?_) (fun c5 => ?_)
    · have hf := itp c5 hf
      exact b_X6_number_50 X hr hk hR0 K7 hK7 x1 x5 ((zlshl x3 (8 : Int32))) σ _ hf _ _ _ Z (lv_sub hl [1, 2, 4] rfl)
    · have hf := itn c5 hf
      refine lv_iload hx hb dX6_number_27 (lv_at hl 0 rfl) ?_
      refine lv_aload_n hx hb dX6_number_29 rfl (lv_at hl 1 rfl) ?_
      refine gf_RX6_15 X Z hR0 dX6_number_30 ?_
      refine lv_icmp_ge (tgt := 50) hx hb dX6_number_33 (by decide) (fun c8 => ?_) (fun c8 => ?_)
      · have hf := itp c8 hf
        exact b_X6_number_50 X hr hk hR0 K7 hK7 x1 x5 ((zlshl x3 (8 : Int32))) σ _ hf _ _ _ Z (lv_sub hl [1, 2, 4] rfl)
      · have hf := itn c8 hf
        refine lv_aload_n hx hb dX6_number_36 rfl (lv_at hl 1 rfl) ?_
        refine gf_RX6_9 X Z hR0 dX6_number_37 ?_
        refine lv_iload hx hb dX6_number_40 (lv_at hl 0 rfl) ?_
        obtain ⟨g9, hf⟩ := gd_s hf
        refine x_bald (k := (k0 + 1)) X Z hR0.2 g9 dX6_number_42 ?_
        refine lv_sipush (v := 255) hx hb dX6_number_43 (by decide) ?_
        refine lv_iand hx hb dX6_number_46 ?_
        refine lv_goto (tgt := 51) hx hb dX6_number_47 (by decide) ?_
        exact b_X6_number_51 X hr hk hR0 K7 hK7 x1 x5 (((σ.1 (k0 + 1) v4.toNatClampNeg) &&& (255 : Int32))) ((zlshl x3 (8 : Int32))) σ _ hf _ _ _ Z (lv_sub hl [1, 2, 4] rfl)

set_option maxRecDepth 100000 in
set_option maxHeartbeats 4000000 in
theorem b_X6_number_7 {p : Program} {l : Launch} {e : Env} {s : State} {m : MethodId} {args : Array Value} {below : List Frame} {meth : Method} {c : Code} {D : va_G} {h : Nat → Nat} {cy : Nat → ClassId} (X : Cx p s m args c D h cy RX6 cX6_number 7) (hr : meth.sig.returnType = some .long) (hk : meth.locks = false) {k0 n0 : Nat} (hR0 : RowS k0 n0) (x1 : Int32) (x3 : Int64) (x5 : Int32) (σ : St) (y : Int64 × St) (hf : f_X6_number_7 k0 n0 x1 x3 x5 σ = some y) : ∀ (H : Heap) (locs : List Loc) (ls : Array Slot), Zt D h cy s σ H locs → lv_has ls 7 [(0, .ref (h k0)), (1, .int x1), (3, .long x3), (5, .int x5)] → W p l e (rmz 0 0) s m args below meth c H locs 0 0 (EL below args s D h cy y) (F0 m 7 ls []) := by
  exact it_W (F := fun K a => f_X6_number_7b k0 n0 K a.1 a.2.1 a.2.2.1 a.2.2.2) (P := fun a y => ∀ (H : Heap) (locs : List Loc) (ls : Array Slot), Zt D h cy s a.2.2.2 H locs → lv_has ls 7 [(0, .ref (h k0)), (1, .int a.1), (3, .long a.2.1), (5, .int a.2.2.1)] → W p l e (rmz 0 0) s m args below meth c H locs 0 0 (EL below args s D h cy y) (F0 m 7 ls [])) (fun K hK a y hf => b_X6_number_7b X hr hk hR0 K hK (a.1) (a.2.1) (a.2.2.1) (a.2.2.2) y hf) FU _ y hf

set_option maxRecDepth 100000 in
set_option maxHeartbeats 4000000 in
theorem c_X6_number (l : Launch) (D : va_G) (h : Nat → Nat) (cy : Nat → ClassId) {k0 n0 : Nat} (hR0 : RowS k0 n0) (a1 : Int32) (a2 : Int32) (σ : St) (y : Int64 × St) (hf : f_X6_number k0 n0 a1 a2 σ = some y) : CL l yX6_number cX6_number 7 (some .long) 0 0 D h cy [.ref (h k0), .int a1, .int a2] σ y := by
  refine ent (Qc := fun sz => QL D h cy sz y) (by decide) (Nat.le_of_ble_eq_true rfl) ?_
  intro p e s m below meth c ls X Z hr hk hl
  have X : Cx p s m _ c D h cy RX6 cX6_number 7 := X
  have hx := X.x
  have hb := X.b
  have hl : lv_has ls 7 [(0, .ref (h k0)), (1, .int a1), (2, .int a2)] := hl
  unfold f_X6_number at hf
  refine lv_lconst (v := 0) hx hb dX6_number_0 (by decide) ?_
  refine lv_topl (fun v1 ev1 => ?_)
  have hf := zn_e ev1 hf
  refine lv_lstore_n (lv' := [(3, .long v1), (0, .ref (h k0)), (1, .int a1), (2, .int a2)]) hx hb dX6_number_1 rfl hl (by decide) rfl (fun ls hl => ?_)
  refine lv_iload_n hx hb dX6_number_2 rfl (lv_at hl 3 rfl) ?_
  refine lv_iconst (v := 1) hx hb dX6_number_3 (by decide) ?_
  refine lv_isub hx hb dX6_number_4 ?_
  refine lv_topi (fun v2 ev2 => ?_)
  have hf := zn_e ev2 hf
  refine lv_istore (lv' := [(5, .int v2), (3, .long v1), (0, .ref (h k0)), (1, .int a1), (2, .int a2)]) hx hb dX6_number_5 hl (by decide) rfl (fun ls hl => ?_)
  exact b_X6_number_7 X hr hk hR0 a1 v1 v2 σ _ hf _ _ _ Z (lv_sub hl [2, 3, 1, 0] rfl)

set_option maxRecDepth 100000 in
set_option maxHeartbeats 4000000 in
theorem c_X0_u4 (l : Launch) (D : va_G) (h : Nat → Nat) (cy : Nat → ClassId) (a1 : Int32) (σ : St) (y : Int64 × St) (hf : f_X0_u4 a1 σ = some y) : CL l yX0_u4 cX0_u4 2 (some .long) 1 26 D h cy [.ref (h 40), .int a1] σ y := by
  refine ent (Qc := fun sz => QL D h cy sz y) (by decide) (Nat.le_of_ble_eq_true rfl) ?_
  intro p e s m below meth c ls X Z hr hk hl
  have X : Cx p s m _ c D h cy RX0 cX0_u4 2 := X
  have hx := X.x
  have hb := X.b
  have hl : lv_has ls 2 [(0, .ref (h 40)), (1, .int a1)] := hl
  unfold f_X0_u4 at hf
  refine lv_aload_n hx hb dX0_u4_0 rfl (lv_at hl 0 rfl) ?_
  refine gf_RX0_9 X Z dX0_u4_1 ?_
  refine lv_iload_n hx hb dX0_u4_4 rfl (lv_at hl 1 rfl) ?_
  refine lv_iconst (v := 4) hx hb dX0_u4_5 (by decide) ?_
  obtain ⟨r3, s2, h1, hf⟩ := bi_s hf
  refine goL Z (run_V (As := [.int a1, .int (4 : Int32)]) (rest := []) X Z (c_X6_number l D h cy row_3 a1 (4 : Int32) σ (r3, s2) h1 _) lk_RX0_166 ⟨by decide, by decide⟩ (rv_RowS row_3) rfl hl.1 rfl (Nat.le_of_ble_eq_true rfl) ⟨Nat.le_refl _, Nat.le_refl _⟩ dX0_u4_6) (fun H locs Z => ?_)
  exact retL X hr hk Z hf dX0_u4_9

set_option maxRecDepth 100000 in
set_option maxHeartbeats 4000000 in
theorem b_X0_headHolds_126 {p : Program} {l : Launch} {e : Env} {s : State} {m : MethodId} {args : Array Value} {below : List Frame} {meth : Method} {c : Code} {D : va_G} {h : Nat → Nat} {cy : Nat → ClassId} (X : Cx p s m args c D h cy RX0 cX0_headHolds 1) (hr : meth.sig.returnType = some .boolean) (hk : meth.locks = false) (t0 : Int32) (σ : St) (y : Int32 × St) (hf : f_X0_headHolds_126 t0 σ = some y) : ∀ (H : Heap) (locs : List Loc) (ls : Array Slot), Zt D h cy s σ H locs → lv_has ls 1 [] → W p l e (rmz 2 47) s m args below meth c H locs 0 0 (EI below args s D h cy y) (F0 m 126 ls [.int t0, .ref (h 39)]) := by
  intro H locs ls Z hl
  have hx := X.x
  have hb := X.b
  unfold f_X0_headHolds_126 at hf
  refine lv_iconst (v := 1) hx hb dX0_headHolds_126 (by decide) ?_
  refine lv_bipush (v := 20) hx hb dX0_headHolds_127 (by decide) ?_
  obtain ⟨r28, s27, h26, hf⟩ := bi_s hf
  refine goI Z (run_V (As := [.int t0, .int (1 : Int32), .int (20 : Int32)]) (rest := []) X Z (c_X2_unless l D h cy t0 (1 : Int32) (20 : Int32) σ (r28, s27) h26 _) lk_RX0_76 ⟨by decide, by decide⟩ rv_39 rfl hl.1 rfl (Nat.le_of_ble_eq_true rfl) ⟨Nat.le_refl _, Nat.le_refl _⟩ dX0_headHolds_129) (fun H locs Z => ?_)
  refine lv_if_eq (tgt := 139) hx hb dX0_headHolds_132 (by decide) (fun c29 => ?_) (fun c29 => ?_)
  · have hf := itp c29 hf
    refine lv_iconst (v := 0) hx hb dX0_headHolds_139 (by decide) ?_
    exact retZ X hr hk Z (by decide) hf dX0_headHolds_140
  · have hf := itn c29 hf
    refine lv_iconst (v := 1) hx hb dX0_headHolds_135 (by decide) ?_
    refine lv_goto (tgt := 140) hx hb dX0_headHolds_136 (by decide) ?_
    exact retZ X hr hk Z (by decide) hf dX0_headHolds_140

set_option maxRecDepth 100000 in
set_option maxHeartbeats 4000000 in
theorem b_X0_headHolds_86 {p : Program} {l : Launch} {e : Env} {s : State} {m : MethodId} {args : Array Value} {below : List Frame} {meth : Method} {c : Code} {D : va_G} {h : Nat → Nat} {cy : Nat → ClassId} (X : Cx p s m args c D h cy RX0 cX0_headHolds 1) (hr : meth.sig.returnType = some .boolean) (hk : meth.locks = false) (t0 : Int32) (σ : St) (y : Int32 × St) (hf : f_X0_headHolds_86 t0 σ = some y) : ∀ (H : Heap) (locs : List Loc) (ls : Array Slot), Zt D h cy s σ H locs → lv_has ls 1 [(0, .ref (h 40))] → W p l e (rmz 2 47) s m args below meth c H locs 0 0 (EI below args s D h cy y) (F0 m 86 ls [.int t0, .ref (h 39)]) := by
  intro H locs ls Z hl
  have hx := X.x
  have hb := X.b
  unfold f_X0_headHolds_86 at hf
  refine lv_iconst (v := 3) hx hb dX0_headHolds_86 (by decide) ?_
  refine lv_bipush (v := 16) hx hb dX0_headHolds_87 (by decide) ?_
  obtain ⟨r20, s19, h18, hf⟩ := bi_s hf
  refine goI Z (run_V (As := [.int t0, .int (3 : Int32), .int (16 : Int32)]) (rest := []) X Z (c_X2_unless l D h cy t0 (3 : Int32) (16 : Int32) σ (r20, s19) h18 _) lk_RX0_76 ⟨by decide, by decide⟩ rv_39 rfl hl.1 rfl (Nat.le_of_ble_eq_true rfl) ⟨Nat.le_refl _, Nat.le_refl _⟩ dX0_headHolds_89) (fun H locs Z => ?_)
  refine lv_if_eq (tgt := 139) hx hb dX0_headHolds_92 (by decide) (fun c21 => ?_) (fun c21 => ?_)
  · have hf := itp c21 hf
    refine lv_iconst (v := 0) hx hb dX0_headHolds_139 (by decide) ?_
    exact retZ X hr hk Z (by decide) hf dX0_headHolds_140
  · have hf := itn c21 hf
    refine lv_aload_n hx hb dX0_headHolds_95 rfl (lv_at hl 0 rfl) ?_
    refine gf_RX0_15 X Z dX0_headHolds_96 ?_
    refine lv_ldc2 (v := 32) hx hb X.o (X.t _ kc_RX0_90) dX0_headHolds_99 ?_
    refine lv_aload_n hx hb dX0_headHolds_102 rfl (lv_at hl 0 rfl) ?_
    refine lv_bipush (v := 20) hx hb dX0_headHolds_103 (by decide) ?_
    obtain ⟨r24, s23, h22, hf⟩ := bi_s hf
    refine goL Z (run_V (As := [.int (20 : Int32)]) (rest := [.long (32 : Int64), .ref (h 39)]) X Z (c_X0_u4 l D h cy (20 : Int32) s19 (r24, s23) h22 _) lk_RX0_82 ⟨by decide, by decide⟩ rv_40 rfl hl.1 rfl (Nat.le_of_ble_eq_true rfl) ⟨Nat.le_refl _, Nat.le_refl _⟩ dX0_headHolds_105) (fun H locs Z => ?_)
    refine lv_ladd hx hb dX0_headHolds_108 ?_
    refine lv_aload_n hx hb dX0_headHolds_109 rfl (lv_at hl 0 rfl) ?_
    refine gf_RX0_9 X Z dX0_headHolds_110 ?_
    refine gf_RX0_71 X Z row_3 dX0_headHolds_113 ?_
    refine lv_i2l (v := (s23.1 3 1).toInt64) hx hb dX0_headHolds_116 rfl ?_
    refine x_lif_gt (tgt := 125) X dX0_headHolds_117 dX0_headHolds_118 (by decide) (fun c25 => ?_) (fun c25 => ?_)
    · have hf := itp c25 hf
      refine lv_iconst (v := 0) hx hb dX0_headHolds_125 (by decide) ?_
      exact b_X0_headHolds_126 X hr hk (0 : Int32) s23 _ hf _ _ _ Z (lv_sub hl [] rfl)
    · have hf := itn c25 hf
      refine lv_iconst (v := 1) hx hb dX0_headHolds_121 (by decide) ?_
      refine lv_goto (tgt := 126) hx hb dX0_headHolds_122 (by decide) ?_
      exact b_X0_headHolds_126 X hr hk (1 : Int32) s23 _ hf _ _ _ Z (lv_sub hl [] rfl)

set_option maxRecDepth 100000 in
set_option maxHeartbeats 4000000 in
theorem b_X0_headHolds_56 {p : Program} {l : Launch} {e : Env} {s : State} {m : MethodId} {args : Array Value} {below : List Frame} {meth : Method} {c : Code} {D : va_G} {h : Nat → Nat} {cy : Nat → ClassId} (X : Cx p s m args c D h cy RX0 cX0_headHolds 1) (hr : meth.sig.returnType = some .boolean) (hk : meth.locks = false) (t0 : Int32) (σ : St) (y : Int32 × St) (hf : f_X0_headHolds_56 t0 σ = some y) : ∀ (H : Heap) (locs : List Loc) (ls : Array Slot), Zt D h cy s σ H locs → lv_has ls 1 [(0, .ref (h 40))] → W p l e (rmz 2 47) s m args below meth c H locs 0 0 (EI below args s D h cy y) (F0 m 56 ls [.int t0, .ref (h 39)]) := by
  intro H locs ls Z hl
  have hx := X.x
  have hb := X.b
  unfold f_X0_headHolds_56 at hf
  refine lv_iconst (v := 2) hx hb dX0_headHolds_56 (by decide) ?_
  refine lv_iconst (v := 0) hx hb dX0_headHolds_57 (by decide) ?_
  obtain ⟨r12, s11, h10, hf⟩ := bi_s hf
  refine goI Z (run_V (As := [.int t0, .int (2 : Int32), .int (0 : Int32)]) (rest := []) X Z (c_X2_unless l D h cy t0 (2 : Int32) (0 : Int32) σ (r12, s11) h10 _) lk_RX0_76 ⟨by decide, by decide⟩ rv_39 rfl hl.1 rfl (Nat.le_of_ble_eq_true rfl) ⟨Nat.le_refl _, Nat.le_refl _⟩ dX0_headHolds_58) (fun H locs Z => ?_)
  refine lv_if_eq (tgt := 139) hx hb dX0_headHolds_61 (by decide) (fun c13 => ?_) (fun c13 => ?_)
  · have hf := itp c13 hf
    refine lv_iconst (v := 0) hx hb dX0_headHolds_139 (by decide) ?_
    exact retZ X hr hk Z (by decide) hf dX0_headHolds_140
  · have hf := itn c13 hf
    refine lv_aload_n hx hb dX0_headHolds_64 rfl (lv_at hl 0 rfl) ?_
    refine gf_RX0_15 X Z dX0_headHolds_65 ?_
    refine lv_aload_n hx hb dX0_headHolds_68 rfl (lv_at hl 0 rfl) ?_
    refine lv_bipush (v := 16) hx hb dX0_headHolds_69 (by decide) ?_
    obtain ⟨r16, s15, h14, hf⟩ := bi_s hf
    refine goL Z (run_V (As := [.int (16 : Int32)]) (rest := [.ref (h 39)]) X Z (c_X0_u4 l D h cy (16 : Int32) s11 (r16, s15) h14 _) lk_RX0_82 ⟨by decide, by decide⟩ rv_40 rfl hl.1 rfl (Nat.le_of_ble_eq_true rfl) ⟨Nat.le_refl _, Nat.le_refl _⟩ dX0_headHolds_71) (fun H locs Z => ?_)
    refine lv_ldc2 (v := 16) hx hb X.o (X.t _ kc_RX0_88) dX0_headHolds_74 ?_
    refine x_lif_gt (tgt := 85) X dX0_headHolds_77 dX0_headHolds_78 (by decide) (fun c17 => ?_) (fun c17 => ?_)
    · have hf := itp c17 hf
      refine lv_iconst (v := 0) hx hb dX0_headHolds_85 (by decide) ?_
      exact b_X0_headHolds_86 X hr hk (0 : Int32) s15 _ hf _ _ _ Z (lv_sub hl [0] rfl)
    · have hf := itn c17 hf
      refine lv_iconst (v := 1) hx hb dX0_headHolds_81 (by decide) ?_
      refine lv_goto (tgt := 86) hx hb dX0_headHolds_82 (by decide) ?_
      exact b_X0_headHolds_86 X hr hk (1 : Int32) s15 _ hf _ _ _ Z (lv_sub hl [0] rfl)

set_option maxRecDepth 100000 in
set_option maxHeartbeats 4000000 in
theorem b_X0_headHolds_21 {p : Program} {l : Launch} {e : Env} {s : State} {m : MethodId} {args : Array Value} {below : List Frame} {meth : Method} {c : Code} {D : va_G} {h : Nat → Nat} {cy : Nat → ClassId} (X : Cx p s m args c D h cy RX0 cX0_headHolds 1) (hr : meth.sig.returnType = some .boolean) (hk : meth.locks = false) (t0 : Int32) (σ : St) (y : Int32 × St) (hf : f_X0_headHolds_21 t0 σ = some y) : ∀ (H : Heap) (locs : List Loc) (ls : Array Slot), Zt D h cy s σ H locs → lv_has ls 1 [(0, .ref (h 40))] → W p l e (rmz 2 47) s m args below meth c H locs 0 0 (EI below args s D h cy y) (F0 m 21 ls [.int t0, .ref (h 39)]) := by
  intro H locs ls Z hl
  have hx := X.x
  have hb := X.b
  unfold f_X0_headHolds_21 at hf
  refine lv_iconst (v := 1) hx hb dX0_headHolds_21 (by decide) ?_
  refine lv_aload_n hx hb dX0_headHolds_22 rfl (lv_at hl 0 rfl) ?_
  refine gf_RX0_9 X Z dX0_headHolds_23 ?_
  refine gf_RX0_71 X Z row_3 dX0_headHolds_26 ?_
  obtain ⟨r4, s3, h2, hf⟩ := bi_s hf
  refine goI Z (run_V (As := [.int t0, .int (1 : Int32), .int (σ.1 3 1)]) (rest := []) X Z (c_X2_unless l D h cy t0 (1 : Int32) (σ.1 3 1) σ (r4, s3) h2 _) lk_RX0_76 ⟨by decide, by decide⟩ rv_39 rfl hl.1 rfl (Nat.le_of_ble_eq_true rfl) ⟨Nat.le_refl _, Nat.le_refl _⟩ dX0_headHolds_29) (fun H locs Z => ?_)
  refine lv_if_eq (tgt := 139) hx hb dX0_headHolds_32 (by decide) (fun c5 => ?_) (fun c5 => ?_)
  · have hf := itp c5 hf
    refine lv_iconst (v := 0) hx hb dX0_headHolds_139 (by decide) ?_
    exact retZ X hr hk Z (by decide) hf dX0_headHolds_140
  · have hf := itn c5 hf
    refine lv_aload_n hx hb dX0_headHolds_35 rfl (lv_at hl 0 rfl) ?_
    refine gf_RX0_15 X Z dX0_headHolds_36 ?_
    refine lv_aload_n hx hb dX0_headHolds_39 rfl (lv_at hl 0 rfl) ?_
    refine lv_iconst (v := 0) hx hb dX0_headHolds_40 (by decide) ?_
    obtain ⟨r8, s7, h6, hf⟩ := bi_s hf
    refine goL Z (run_V (As := [.int (0 : Int32)]) (rest := [.ref (h 39)]) X Z (c_X0_u4 l D h cy (0 : Int32) s3 (r8, s7) h6 _) lk_RX0_82 ⟨by decide, by decide⟩ rv_40 rfl hl.1 rfl (Nat.le_of_ble_eq_true rfl) ⟨Nat.le_refl _, Nat.le_refl _⟩ dX0_headHolds_41) (fun H locs Z => ?_)
    refine lv_ldc2 (v := 4277009103) hx hb X.o (X.t _ kc_RX0_86) dX0_headHolds_44 ?_
    refine x_lif_ne (tgt := 55) X dX0_headHolds_47 dX0_headHolds_48 (by decide) (fun c9 => ?_) (fun c9 => ?_)
    · have hf := itn c9 hf
      refine lv_iconst (v := 0) hx hb dX0_headHolds_55 (by decide) ?_
      exact b_X0_headHolds_56 X hr hk (0 : Int32) s7 _ hf _ _ _ Z (lv_sub hl [0] rfl)
    · have hf := itp c9 hf
      refine lv_iconst (v := 1) hx hb dX0_headHolds_51 (by decide) ?_
      refine lv_goto (tgt := 56) hx hb dX0_headHolds_52 (by decide) ?_
      exact b_X0_headHolds_56 X hr hk (1 : Int32) s7 _ hf _ _ _ Z (lv_sub hl [0] rfl)

set_option maxRecDepth 100000 in
set_option maxHeartbeats 4000000 in
theorem c_X0_headHolds (l : Launch) (D : va_G) (h : Nat → Nat) (cy : Nat → ClassId) (σ : St) (y : Int32 × St) (hf : f_X0_headHolds σ = some y) : CI l yX0_headHolds cX0_headHolds 1 (some .boolean) 2 47 D h cy [.ref (h 40)] σ y := by
  refine ent (Qc := fun sz => QI D h cy sz y) (by decide) (Nat.le_of_ble_eq_true rfl) ?_
  intro p e s m below meth c ls X Z hr hk hl
  have X : Cx p s m _ c D h cy RX0 cX0_headHolds 1 := X
  have hx := X.x
  have hb := X.b
  have hl : lv_has ls 1 [(0, .ref (h 40))] := hl
  unfold f_X0_headHolds at hf
  refine lv_aload_n hx hb dX0_headHolds_0 rfl (lv_at hl 0 rfl) ?_
  refine gf_RX0_15 X Z dX0_headHolds_1 ?_
  refine lv_aload_n hx hb dX0_headHolds_4 rfl (lv_at hl 0 rfl) ?_
  refine gf_RX0_9 X Z dX0_headHolds_5 ?_
  refine gf_RX0_71 X Z row_3 dX0_headHolds_8 ?_
  refine lv_bipush (v := 32) hx hb dX0_headHolds_11 (by decide) ?_
  refine lv_icmp_lt (tgt := 20) hx hb dX0_headHolds_13 (by decide) (fun c1 => ?_) (fun c1 => ?_)
  · have hf := itp c1 hf
    refine lv_iconst (v := 0) hx hb dX0_headHolds_20 (by decide) ?_
    exact b_X0_headHolds_21 X hr hk (0 : Int32) σ _ hf _ _ _ Z (lv_sub hl [0] rfl)
  · have hf := itn c1 hf
    refine lv_iconst (v := 1) hx hb dX0_headHolds_16 (by decide) ?_
    refine lv_goto (tgt := 21) hx hb dX0_headHolds_17 (by decide) ?_
    exact b_X0_headHolds_21 X hr hk (1 : Int32) σ _ hf _ _ _ Z (lv_sub hl [0] rfl)

set_option maxRecDepth 100000 in
set_option maxHeartbeats 4000000 in
theorem b_X0_sizeHolds_70 {p : Program} {l : Launch} {e : Env} {s : State} {m : MethodId} {args : Array Value} {below : List Frame} {meth : Method} {c : Code} {D : va_G} {h : Nat → Nat} {cy : Nat → ClassId} (X : Cx p s m args c D h cy RX0 cX0_sizeHolds 5) (hr : meth.sig.returnType = some .boolean) (hk : meth.locks = false) (x1 : Int32) (t0 : Int32) (σ : St) (y : Int32 × St) (hf : f_X0_sizeHolds_70 x1 t0 σ = some y) : ∀ (H : Heap) (locs : List Loc) (ls : Array Slot), Zt D h cy s σ H locs → lv_has ls 5 [(1, .int x1)] → W p l e (rmz 2 47) s m args below meth c H locs 0 0 (EI below args s D h cy y) (F0 m 70 ls [.int t0, .ref (h 39)]) := by
  intro H locs ls Z hl
  have hx := X.x
  have hb := X.b
  unfold f_X0_sizeHolds_70 at hf
  refine lv_iconst (v := 3) hx hb dX0_sizeHolds_70 (by decide) ?_
  refine lv_iload_n hx hb dX0_sizeHolds_71 rfl (lv_at hl 0 rfl) ?_
  refine lv_iconst (v := 4) hx hb dX0_sizeHolds_72 (by decide) ?_
  refine lv_iadd hx hb dX0_sizeHolds_73 ?_
  obtain ⟨r12, s11, h10, hf⟩ := bi_s hf
  refine goI Z (run_V (As := [.int t0, .int (3 : Int32), .int ((x1 + (4 : Int32)))]) (rest := []) X Z (c_X2_unless l D h cy t0 (3 : Int32) ((x1 + (4 : Int32))) σ (r12, s11) h10 _) lk_RX0_76 ⟨by decide, by decide⟩ rv_39 rfl hl.1 rfl (Nat.le_of_ble_eq_true rfl) ⟨Nat.le_refl _, Nat.le_refl _⟩ dX0_sizeHolds_74) (fun H locs Z => ?_)
  refine lv_if_eq (tgt := 84) hx hb dX0_sizeHolds_77 (by decide) (fun c13 => ?_) (fun c13 => ?_)
  · have hf := itp c13 hf
    refine lv_iconst (v := 0) hx hb dX0_sizeHolds_84 (by decide) ?_
    exact retZ X hr hk Z (by decide) hf dX0_sizeHolds_85
  · have hf := itn c13 hf
    refine lv_iconst (v := 1) hx hb dX0_sizeHolds_80 (by decide) ?_
    refine lv_goto (tgt := 85) hx hb dX0_sizeHolds_81 (by decide) ?_
    exact retZ X hr hk Z (by decide) hf dX0_sizeHolds_85

set_option maxRecDepth 100000 in
set_option maxHeartbeats 4000000 in
theorem b_X0_sizeHolds_69 {p : Program} {l : Launch} {e : Env} {s : State} {m : MethodId} {args : Array Value} {below : List Frame} {meth : Method} {c : Code} {D : va_G} {h : Nat → Nat} {cy : Nat → ClassId} (X : Cx p s m args c D h cy RX0 cX0_sizeHolds 5) (hr : meth.sig.returnType = some .boolean) (hk : meth.locks = false) (x1 : Int32) (σ : St) (y : Int32 × St) (hf : f_X0_sizeHolds_69 x1 σ = some y) : ∀ (H : Heap) (locs : List Loc) (ls : Array Slot), Zt D h cy s σ H locs → lv_has ls 5 [(1, .int x1)] → W p l e (rmz 2 47) s m args below meth c H locs 0 0 (EI below args s D h cy y) (F0 m 69 ls [.ref (h 39)]) := by
  intro H locs ls Z hl
  have hx := X.x
  have hb := X.b
  unfold f_X0_sizeHolds_69 at hf
  refine lv_iconst (v := 0) hx hb dX0_sizeHolds_69 (by decide) ?_
  exact b_X0_sizeHolds_70 X hr hk x1 (0 : Int32) σ _ hf _ _ _ Z (lv_sub hl [0] rfl)

set_option maxRecDepth 100000 in
set_option maxHeartbeats 4000000 in
theorem b_X0_sizeHolds_25 {p : Program} {l : Launch} {e : Env} {s : State} {m : MethodId} {args : Array Value} {below : List Frame} {meth : Method} {c : Code} {D : va_G} {h : Nat → Nat} {cy : Nat → ClassId} (X : Cx p s m args c D h cy RX0 cX0_sizeHolds 5) (hr : meth.sig.returnType = some .boolean) (hk : meth.locks = false) (x1 : Int32) (x2 : Int32) (x3 : Int64) (t0 : Int32) (σ : St) (y : Int32 × St) (hf : f_X0_sizeHolds_25 x1 x2 x3 t0 σ = some y) : ∀ (H : Heap) (locs : List Loc) (ls : Array Slot), Zt D h cy s σ H locs → lv_has ls 5 [(0, .ref (h 40)), (1, .int x1), (2, .int x2), (3, .long x3)] → W p l e (rmz 2 47) s m args below meth c H locs 0 0 (EI below args s D h cy y) (F0 m 25 ls [.int t0, .ref (h 39)]) := by
  intro H locs ls Z hl
  have hx := X.x
  have hb := X.b
  unfold f_X0_sizeHolds_25 at hf
  refine lv_iconst (v := 3) hx hb dX0_sizeHolds_25 (by decide) ?_
  refine lv_iload_n hx hb dX0_sizeHolds_26 rfl (lv_at hl 1 rfl) ?_
  obtain ⟨r7, s6, h5, hf⟩ := bi_s hf
  refine goI Z (run_V (As := [.int t0, .int (3 : Int32), .int x1]) (rest := []) X Z (c_X2_unless l D h cy t0 (3 : Int32) x1 σ (r7, s6) h5 _) lk_RX0_76 ⟨by decide, by decide⟩ rv_39 rfl hl.1 rfl (Nat.le_of_ble_eq_true rfl) ⟨Nat.le_refl _, Nat.le_refl _⟩ dX0_sizeHolds_27) (fun H locs Z => ?_)
  refine lv_if_eq (tgt := 84) hx hb dX0_sizeHolds_30 (by decide) (fun c8 => ?_) (fun c8 => ?_)
  · have hf := itp c8 hf
    refine lv_iconst (v := 0) hx hb dX0_sizeHolds_84 (by decide) ?_
    exact retZ X hr hk Z (by decide) hf dX0_sizeHolds_85
  · have hf := itn c8 hf
    refine lv_aload_n hx hb dX0_sizeHolds_33 rfl (lv_at hl 0 rfl) ?_
    refine gf_RX0_15 X Z dX0_sizeHolds_34 ?_
    refine lv_lload_n hx hb dX0_sizeHolds_37 rfl (lv_at hl 3 rfl) ?_
    refine lv_ldc2 (v := 8) hx hb X.o (X.t _ kc_RX0_100) dX0_sizeHolds_38 ?_
    refine x_lif_lt (tgt := 69) X dX0_sizeHolds_41 dX0_sizeHolds_42 (by decide) (fun c9 => ?_) (fun c9 => ?_)
    · have hf := itp c9 hf
      exact b_X0_sizeHolds_69 X hr hk x1 s6 _ hf _ _ _ Z (lv_sub hl [1] rfl)
    · have hf := itn c9 hf
      refine lv_lload_n hx hb dX0_sizeHolds_45 rfl (lv_at hl 3 rfl) ?_
      refine lv_ldc2 (v := 8) hx hb X.o (X.t _ kc_RX0_100) dX0_sizeHolds_46 ?_
      refine lv_lrem hx hb dX0_sizeHolds_49 (by decide) ?_
      refine lv_lconst (v := 0) hx hb dX0_sizeHolds_50 (by decide) ?_
      refine x_lif_ne (tgt := 69) X dX0_sizeHolds_51 dX0_sizeHolds_52 (by decide) (fun c14 => ?_) (fun c14 => ?_)
      · have hf := itn c14 hf
        exact b_X0_sizeHolds_69 X hr hk x1 s6 _ hf _ _ _ Z (lv_sub hl [1] rfl)
      · have hf := itp c14 hf
        refine lv_iload_n hx hb dX0_sizeHolds_55 rfl (lv_at hl 1 rfl) ?_
        refine lv_i2l (v := x1.toInt64) hx hb dX0_sizeHolds_56 rfl ?_
        refine lv_lload_n hx hb dX0_sizeHolds_57 rfl (lv_at hl 3 rfl) ?_
        refine lv_ladd hx hb dX0_sizeHolds_58 ?_
        refine lv_iload_n hx hb dX0_sizeHolds_59 rfl (lv_at hl 2 rfl) ?_
        refine lv_i2l (v := x2.toInt64) hx hb dX0_sizeHolds_60 rfl ?_
        refine x_lif_gt (tgt := 69) X dX0_sizeHolds_61 dX0_sizeHolds_62 (by decide) (fun c15 => ?_) (fun c15 => ?_)
        · have hf := itp c15 hf
          exact b_X0_sizeHolds_69 X hr hk x1 s6 _ hf _ _ _ Z (lv_sub hl [1] rfl)
        · have hf := itn c15 hf
          refine lv_iconst (v := 1) hx hb dX0_sizeHolds_65 (by decide) ?_
          refine lv_goto (tgt := 70) hx hb dX0_sizeHolds_66 (by decide) ?_
          exact b_X0_sizeHolds_70 X hr hk x1 (1 : Int32) s6 _ hf _ _ _ Z (lv_sub hl [1] rfl)

set_option maxRecDepth 100000 in
set_option maxHeartbeats 4000000 in
theorem c_X0_sizeHolds (l : Launch) (D : va_G) (h : Nat → Nat) (cy : Nat → ClassId) (a1 : Int32) (a2 : Int32) (σ : St) (y : Int32 × St) (hf : f_X0_sizeHolds a1 a2 σ = some y) : CI l yX0_sizeHolds cX0_sizeHolds 5 (some .boolean) 2 47 D h cy [.ref (h 40), .int a1, .int a2] σ y := by
  refine ent (Qc := fun sz => QI D h cy sz y) (by decide) (Nat.le_of_ble_eq_true rfl) ?_
  intro p e s m below meth c ls X Z hr hk hl
  have X : Cx p s m _ c D h cy RX0 cX0_sizeHolds 5 := X
  have hx := X.x
  have hb := X.b
  have hl : lv_has ls 5 [(0, .ref (h 40)), (1, .int a1), (2, .int a2)] := hl
  unfold f_X0_sizeHolds at hf
  refine lv_aload_n hx hb dX0_sizeHolds_0 rfl (lv_at hl 0 rfl) ?_
  refine lv_iload_n hx hb dX0_sizeHolds_1 rfl (lv_at hl 1 rfl) ?_
  refine lv_iconst (v := 4) hx hb dX0_sizeHolds_2 (by decide) ?_
  refine lv_iadd hx hb dX0_sizeHolds_3 ?_
  obtain ⟨r3, s2, h1, hf⟩ := bi_s hf
  refine goL Z (run_V (As := [.int ((a1 + (4 : Int32)))]) (rest := []) X Z (c_X0_u4 l D h cy ((a1 + (4 : Int32))) σ (r3, s2) h1 _) lk_RX0_82 ⟨by decide, by decide⟩ rv_40 rfl hl.1 rfl (Nat.le_of_ble_eq_true rfl) ⟨Nat.le_refl _, Nat.le_refl _⟩ dX0_sizeHolds_4) (fun H locs Z => ?_)
  refine lv_lstore_n (lv' := [(3, .long r3), (0, .ref (h 40)), (1, .int a1), (2, .int a2)]) hx hb dX0_sizeHolds_7 rfl hl (by decide) rfl (fun ls hl => ?_)
  refine lv_aload_n hx hb dX0_sizeHolds_8 rfl (lv_at hl 1 rfl) ?_
  refine gf_RX0_15 X Z dX0_sizeHolds_9 ?_
  refine lv_iload_n hx hb dX0_sizeHolds_12 rfl (lv_at hl 3 rfl) ?_
  refine lv_iload_n hx hb dX0_sizeHolds_13 rfl (lv_at hl 2 rfl) ?_
  refine lv_isub hx hb dX0_sizeHolds_14 ?_
  refine lv_bipush (v := 8) hx hb dX0_sizeHolds_15 (by decide) ?_
  refine lv_icmp_lt (tgt := 24) hx hb dX0_sizeHolds_17 (by decide) (fun c4 => ?_) (fun c4 => ?_)
  · have hf := itp c4 hf
    refine lv_iconst (v := 0) hx hb dX0_sizeHolds_24 (by decide) ?_
    exact b_X0_sizeHolds_25 X hr hk a1 a2 r3 (0 : Int32) s2 _ hf _ _ _ Z (lv_sub hl [1, 2, 3, 0] rfl)
  · have hf := itn c4 hf
    refine lv_iconst (v := 1) hx hb dX0_sizeHolds_20 (by decide) ?_
    refine lv_goto (tgt := 25) hx hb dX0_sizeHolds_21 (by decide) ?_
    exact b_X0_sizeHolds_25 X hr hk a1 a2 r3 (1 : Int32) s2 _ hf _ _ _ Z (lv_sub hl [1, 2, 3, 0] rfl)

set_option maxRecDepth 100000 in
set_option maxHeartbeats 4000000 in
theorem b_X0_chainsHold_95 {p : Program} {l : Launch} {e : Env} {s : State} {m : MethodId} {args : Array Value} {below : List Frame} {meth : Method} {c : Code} {D : va_G} {h : Nat → Nat} {cy : Nat → ClassId} (X : Cx p s m args c D h cy RX0 cX0_chainsHold 2) (hr : meth.sig.returnType = some .boolean) (hk : meth.locks = false) (x1 : Int32) (t0 : Int32) (σ : St) (y : Int32 × St) (hf : f_X0_chainsHold_95 x1 t0 σ = some y) : ∀ (H : Heap) (locs : List Loc) (ls : Array Slot), Zt D h cy s σ H locs → lv_has ls 2 [(0, .ref (h 40)), (1, .int x1)] → W p l e (rmz 2 47) s m args below meth c H locs 0 0 (EI below args s D h cy y) (F0 m 95 ls [.int t0, .ref (h 39)]) := by
  intro H locs ls Z hl
  have hx := X.x
  have hb := X.b
  unfold f_X0_chainsHold_95 at hf
  refine lv_iconst (v := 1) hx hb dX0_chainsHold_95 (by decide) ?_
  refine lv_iload_n hx hb dX0_chainsHold_96 rfl (lv_at hl 1 rfl) ?_
  refine lv_bipush (v := 8) hx hb dX0_chainsHold_97 (by decide) ?_
  refine lv_iadd hx hb dX0_chainsHold_99 ?_
  obtain ⟨r23, s22, h21, hf⟩ := bi_s hf
  refine goI Z (run_V (As := [.int t0, .int (1 : Int32), .int ((x1 + (8 : Int32)))]) (rest := []) X Z (c_X2_unless l D h cy t0 (1 : Int32) ((x1 + (8 : Int32))) σ (r23, s22) h21 _) lk_RX0_76 ⟨by decide, by decide⟩ rv_39 rfl hl.1 rfl (Nat.le_of_ble_eq_true rfl) ⟨Nat.le_refl _, Nat.le_refl _⟩ dX0_chainsHold_100) (fun H locs Z => ?_)
  refine lv_if_eq (tgt := 139) hx hb dX0_chainsHold_103 (by decide) (fun c24 => ?_) (fun c24 => ?_)
  · have hf := itp c24 hf
    refine lv_iconst (v := 0) hx hb dX0_chainsHold_139 (by decide) ?_
    exact retZ X hr hk Z (by decide) hf dX0_chainsHold_140
  · have hf := itn c24 hf
    refine lv_aload_n hx hb dX0_chainsHold_106 rfl (lv_at hl 0 rfl) ?_
    refine lv_iconst (v := 1) hx hb dX0_chainsHold_107 (by decide) ?_
    refine pf_RX0_62 X Z (by decide) dX0_chainsHold_108 (fun s25 H locs es25 Z => ?_)
    have hf := zn_e es25 hf
    refine lv_aload_n hx hb dX0_chainsHold_111 rfl (lv_at hl 0 rfl) ?_
    refine lv_aload_n hx hb dX0_chainsHold_112 rfl (lv_at hl 0 rfl) ?_
    refine lv_iload_n hx hb dX0_chainsHold_113 rfl (lv_at hl 1 rfl) ?_
    refine lv_bipush (v := 8) hx hb dX0_chainsHold_114 (by decide) ?_
    refine lv_iadd hx hb dX0_chainsHold_116 ?_
    obtain ⟨r28, s27, h26, hf⟩ := bi_s hf
    refine goL Z (run_V (As := [.int ((x1 + (8 : Int32)))]) (rest := [.ref (h 40)]) X Z (c_X0_u4 l D h cy ((x1 + (8 : Int32))) s25 (r28, s27) h26 _) lk_RX0_82 ⟨by decide, by decide⟩ rv_40 rfl hl.1 rfl (Nat.le_of_ble_eq_true rfl) ⟨Nat.le_refl _, Nat.le_refl _⟩ dX0_chainsHold_117) (fun H locs Z => ?_)
    refine lv_l2i (v := r28.toInt32) hx hb dX0_chainsHold_120 rfl ?_
    refine pf_RX0_65 X Z dX0_chainsHold_121 (fun s29 H locs es29 Z => ?_)
    have hf := zn_e es29 hf
    refine lv_aload_n hx hb dX0_chainsHold_124 rfl (lv_at hl 0 rfl) ?_
    refine lv_aload_n hx hb dX0_chainsHold_125 rfl (lv_at hl 0 rfl) ?_
    refine lv_iload_n hx hb dX0_chainsHold_126 rfl (lv_at hl 1 rfl) ?_
    refine lv_bipush (v := 12) hx hb dX0_chainsHold_127 (by decide) ?_
    refine lv_iadd hx hb dX0_chainsHold_129 ?_
    obtain ⟨r32, s31, h30, hf⟩ := bi_s hf
    refine goL Z (run_V (As := [.int ((x1 + (12 : Int32)))]) (rest := [.ref (h 40)]) X Z (c_X0_u4 l D h cy ((x1 + (12 : Int32))) s29 (r32, s31) h30 _) lk_RX0_82 ⟨by decide, by decide⟩ rv_40 rfl hl.1 rfl (Nat.le_of_ble_eq_true rfl) ⟨Nat.le_refl _, Nat.le_refl _⟩ dX0_chainsHold_130) (fun H locs Z => ?_)
    refine lv_l2i (v := r32.toInt32) hx hb dX0_chainsHold_133 rfl ?_
    refine pf_RX0_68 X Z dX0_chainsHold_134 (fun s33 H locs es33 Z => ?_)
    have hf := zn_e es33 hf
    refine lv_iconst (v := 1) hx hb dX0_chainsHold_137 (by decide) ?_
    exact retZ X hr hk Z (by decide) hf dX0_chainsHold_138

set_option maxRecDepth 100000 in
set_option maxHeartbeats 4000000 in
theorem b_X0_chainsHold_47 {p : Program} {l : Launch} {e : Env} {s : State} {m : MethodId} {args : Array Value} {below : List Frame} {meth : Method} {c : Code} {D : va_G} {h : Nat → Nat} {cy : Nat → ClassId} (X : Cx p s m args c D h cy RX0 cX0_chainsHold 2) (hr : meth.sig.returnType = some .boolean) (hk : meth.locks = false) (x1 : Int32) (t0 : Int32) (σ : St) (y : Int32 × St) (hf : f_X0_chainsHold_47 x1 t0 σ = some y) : ∀ (H : Heap) (locs : List Loc) (ls : Array Slot), Zt D h cy s σ H locs → lv_has ls 2 [(0, .ref (h 40)), (1, .int x1)] → W p l e (rmz 2 47) s m args below meth c H locs 0 0 (EI below args s D h cy y) (F0 m 47 ls [.int t0, .ref (h 39)]) := by
  intro H locs ls Z hl
  have hx := X.x
  have hb := X.b
  unfold f_X0_chainsHold_47 at hf
  refine lv_iconst (v := 3) hx hb dX0_chainsHold_47 (by decide) ?_
  refine lv_iload_n hx hb dX0_chainsHold_48 rfl (lv_at hl 1 rfl) ?_
  refine lv_iconst (v := 4) hx hb dX0_chainsHold_49 (by decide) ?_
  refine lv_iadd hx hb dX0_chainsHold_50 ?_
  obtain ⟨r12, s11, h10, hf⟩ := bi_s hf
  refine goI Z (run_V (As := [.int t0, .int (3 : Int32), .int ((x1 + (4 : Int32)))]) (rest := []) X Z (c_X2_unless l D h cy t0 (3 : Int32) ((x1 + (4 : Int32))) σ (r12, s11) h10 _) lk_RX0_76 ⟨by decide, by decide⟩ rv_39 rfl hl.1 rfl (Nat.le_of_ble_eq_true rfl) ⟨Nat.le_refl _, Nat.le_refl _⟩ dX0_chainsHold_51) (fun H locs Z => ?_)
  refine lv_if_eq (tgt := 139) hx hb dX0_chainsHold_54 (by decide) (fun c13 => ?_) (fun c13 => ?_)
  · have hf := itp c13 hf
    refine lv_iconst (v := 0) hx hb dX0_chainsHold_139 (by decide) ?_
    exact retZ X hr hk Z (by decide) hf dX0_chainsHold_140
  · have hf := itn c13 hf
    refine lv_aload_n hx hb dX0_chainsHold_57 rfl (lv_at hl 0 rfl) ?_
    refine gf_RX0_15 X Z dX0_chainsHold_58 ?_
    refine lv_aload_n hx hb dX0_chainsHold_61 rfl (lv_at hl 0 rfl) ?_
    refine lv_iload_n hx hb dX0_chainsHold_62 rfl (lv_at hl 1 rfl) ?_
    refine lv_bipush (v := 8) hx hb dX0_chainsHold_63 (by decide) ?_
    refine lv_iadd hx hb dX0_chainsHold_65 ?_
    obtain ⟨r16, s15, h14, hf⟩ := bi_s hf
    refine goL Z (run_V (As := [.int ((x1 + (8 : Int32)))]) (rest := [.ref (h 39)]) X Z (c_X0_u4 l D h cy ((x1 + (8 : Int32))) s11 (r16, s15) h14 _) lk_RX0_82 ⟨by decide, by decide⟩ rv_40 rfl hl.1 rfl (Nat.le_of_ble_eq_true rfl) ⟨Nat.le_refl _, Nat.le_refl _⟩ dX0_chainsHold_66) (fun H locs Z => ?_)
    refine lv_aload_n hx hb dX0_chainsHold_69 rfl (lv_at hl 0 rfl) ?_
    refine lv_iload_n hx hb dX0_chainsHold_70 rfl (lv_at hl 1 rfl) ?_
    refine lv_bipush (v := 12) hx hb dX0_chainsHold_71 (by decide) ?_
    refine lv_iadd hx hb dX0_chainsHold_73 ?_
    obtain ⟨r19, s18, h17, hf⟩ := bi_s hf
    refine goL Z (run_V (As := [.int ((x1 + (12 : Int32)))]) (rest := [.long r16, .ref (h 39)]) X Z (c_X0_u4 l D h cy ((x1 + (12 : Int32))) s15 (r19, s18) h17 _) lk_RX0_82 ⟨by decide, by decide⟩ rv_40 rfl hl.1 rfl (Nat.le_of_ble_eq_true rfl) ⟨Nat.le_refl _, Nat.le_refl _⟩ dX0_chainsHold_74) (fun H locs Z => ?_)
    refine lv_ladd hx hb dX0_chainsHold_77 ?_
    refine lv_aload_n hx hb dX0_chainsHold_78 rfl (lv_at hl 0 rfl) ?_
    refine gf_RX0_9 X Z dX0_chainsHold_79 ?_
    refine gf_RX0_71 X Z row_3 dX0_chainsHold_82 ?_
    refine lv_i2l (v := (s18.1 3 1).toInt64) hx hb dX0_chainsHold_85 rfl ?_
    refine x_lif_gt (tgt := 94) X dX0_chainsHold_86 dX0_chainsHold_87 (by decide) (fun c20 => ?_) (fun c20 => ?_)
    · have hf := itp c20 hf
      refine lv_iconst (v := 0) hx hb dX0_chainsHold_94 (by decide) ?_
      exact b_X0_chainsHold_95 X hr hk x1 (0 : Int32) s18 _ hf _ _ _ Z (lv_sub hl [0, 1] rfl)
    · have hf := itn c20 hf
      refine lv_iconst (v := 1) hx hb dX0_chainsHold_90 (by decide) ?_
      refine lv_goto (tgt := 95) hx hb dX0_chainsHold_91 (by decide) ?_
      exact b_X0_chainsHold_95 X hr hk x1 (1 : Int32) s18 _ hf _ _ _ Z (lv_sub hl [0, 1] rfl)

set_option maxRecDepth 100000 in
set_option maxHeartbeats 4000000 in
theorem b_X0_chainsHold_16 {p : Program} {l : Launch} {e : Env} {s : State} {m : MethodId} {args : Array Value} {below : List Frame} {meth : Method} {c : Code} {D : va_G} {h : Nat → Nat} {cy : Nat → ClassId} (X : Cx p s m args c D h cy RX0 cX0_chainsHold 2) (hr : meth.sig.returnType = some .boolean) (hk : meth.locks = false) (x1 : Int32) (t0 : Int32) (σ : St) (y : Int32 × St) (hf : f_X0_chainsHold_16 x1 t0 σ = some y) : ∀ (H : Heap) (locs : List Loc) (ls : Array Slot), Zt D h cy s σ H locs → lv_has ls 2 [(0, .ref (h 40)), (1, .int x1)] → W p l e (rmz 2 47) s m args below meth c H locs 0 0 (EI below args s D h cy y) (F0 m 16 ls [.int t0, .ref (h 39)]) := by
  intro H locs ls Z hl
  have hx := X.x
  have hb := X.b
  unfold f_X0_chainsHold_16 at hf
  refine lv_iconst (v := 3) hx hb dX0_chainsHold_16 (by decide) ?_
  refine lv_iload_n hx hb dX0_chainsHold_17 rfl (lv_at hl 1 rfl) ?_
  obtain ⟨r4, s3, h2, hf⟩ := bi_s hf
  refine goI Z (run_V (As := [.int t0, .int (3 : Int32), .int x1]) (rest := []) X Z (c_X2_unless l D h cy t0 (3 : Int32) x1 σ (r4, s3) h2 _) lk_RX0_76 ⟨by decide, by decide⟩ rv_39 rfl hl.1 rfl (Nat.le_of_ble_eq_true rfl) ⟨Nat.le_refl _, Nat.le_refl _⟩ dX0_chainsHold_18) (fun H locs Z => ?_)
  refine lv_if_eq (tgt := 139) hx hb dX0_chainsHold_21 (by decide) (fun c5 => ?_) (fun c5 => ?_)
  · have hf := itp c5 hf
    refine lv_iconst (v := 0) hx hb dX0_chainsHold_139 (by decide) ?_
    exact retZ X hr hk Z (by decide) hf dX0_chainsHold_140
  · have hf := itn c5 hf
    refine lv_aload_n hx hb dX0_chainsHold_24 rfl (lv_at hl 0 rfl) ?_
    refine gf_RX0_15 X Z dX0_chainsHold_25 ?_
    refine lv_aload_n hx hb dX0_chainsHold_28 rfl (lv_at hl 0 rfl) ?_
    refine lv_iload_n hx hb dX0_chainsHold_29 rfl (lv_at hl 1 rfl) ?_
    refine lv_iconst (v := 4) hx hb dX0_chainsHold_30 (by decide) ?_
    refine lv_iadd hx hb dX0_chainsHold_31 ?_
    obtain ⟨r8, s7, h6, hf⟩ := bi_s hf
    refine goL Z (run_V (As := [.int ((x1 + (4 : Int32)))]) (rest := [.ref (h 39)]) X Z (c_X0_u4 l D h cy ((x1 + (4 : Int32))) s3 (r8, s7) h6 _) lk_RX0_82 ⟨by decide, by decide⟩ rv_40 rfl hl.1 rfl (Nat.le_of_ble_eq_true rfl) ⟨Nat.le_refl _, Nat.le_refl _⟩ dX0_chainsHold_32) (fun H locs Z => ?_)
    refine lv_ldc2 (v := 16) hx hb X.o (X.t _ kc_RX0_88) dX0_chainsHold_35 ?_
    refine x_lif_ne (tgt := 46) X dX0_chainsHold_38 dX0_chainsHold_39 (by decide) (fun c9 => ?_) (fun c9 => ?_)
    · have hf := itn c9 hf
      refine lv_iconst (v := 0) hx hb dX0_chainsHold_46 (by decide) ?_
      exact b_X0_chainsHold_47 X hr hk x1 (0 : Int32) s7 _ hf _ _ _ Z (lv_sub hl [0, 1] rfl)
    · have hf := itp c9 hf
      refine lv_iconst (v := 1) hx hb dX0_chainsHold_42 (by decide) ?_
      refine lv_goto (tgt := 47) hx hb dX0_chainsHold_43 (by decide) ?_
      exact b_X0_chainsHold_47 X hr hk x1 (1 : Int32) s7 _ hf _ _ _ Z (lv_sub hl [0, 1] rfl)

set_option maxRecDepth 100000 in
set_option maxHeartbeats 4000000 in
theorem c_X0_chainsHold (l : Launch) (D : va_G) (h : Nat → Nat) (cy : Nat → ClassId) (a1 : Int32) (σ : St) (y : Int32 × St) (hf : f_X0_chainsHold a1 σ = some y) : CI l yX0_chainsHold cX0_chainsHold 2 (some .boolean) 2 47 D h cy [.ref (h 40), .int a1] σ y := by
  refine ent (Qc := fun sz => QI D h cy sz y) (by decide) (Nat.le_of_ble_eq_true rfl) ?_
  intro p e s m below meth c ls X Z hr hk hl
  have X : Cx p s m _ c D h cy RX0 cX0_chainsHold 2 := X
  have hx := X.x
  have hb := X.b
  have hl : lv_has ls 2 [(0, .ref (h 40)), (1, .int a1)] := hl
  unfold f_X0_chainsHold at hf
  refine lv_aload_n hx hb dX0_chainsHold_0 rfl (lv_at hl 0 rfl) ?_
  refine gf_RX0_15 X Z dX0_chainsHold_1 ?_
  refine lv_aload_n hx hb dX0_chainsHold_4 rfl (lv_at hl 0 rfl) ?_
  refine gf_RX0_62 X Z dX0_chainsHold_5 ?_
  refine lv_if_ne (tgt := 15) hx hb dX0_chainsHold_8 (by decide) (fun c1 => ?_) (fun c1 => ?_)
  · have hf := itn c1 hf
    refine lv_iconst (v := 0) hx hb dX0_chainsHold_15 (by decide) ?_
    exact b_X0_chainsHold_16 X hr hk a1 (0 : Int32) σ _ hf _ _ _ Z (lv_sub hl [0, 1] rfl)
  · have hf := itp c1 hf
    refine lv_iconst (v := 1) hx hb dX0_chainsHold_11 (by decide) ?_
    refine lv_goto (tgt := 16) hx hb dX0_chainsHold_12 (by decide) ?_
    exact b_X0_chainsHold_16 X hr hk a1 (1 : Int32) σ _ hf _ _ _ Z (lv_sub hl [0, 1] rfl)

set_option maxRecDepth 100000 in
set_option maxHeartbeats 4000000 in
theorem b_X0_symtabHolds_178 {p : Program} {l : Launch} {e : Env} {s : State} {m : MethodId} {args : Array Value} {below : List Frame} {meth : Method} {c : Code} {D : va_G} {h : Nat → Nat} {cy : Nat → ClassId} (X : Cx p s m args c D h cy RX0 cX0_symtabHolds 4) (hr : meth.sig.returnType = some .boolean) (hk : meth.locks = false) (x1 : Int32) (x2 : Int64) (t0 : Int32) (σ : St) (y : Int32 × St) (hf : f_X0_symtabHolds_178 x1 x2 t0 σ = some y) : ∀ (H : Heap) (locs : List Loc) (ls : Array Slot), Zt D h cy s σ H locs → lv_has ls 4 [(0, .ref (h 40)), (1, .int x1), (2, .long x2)] → W p l e (rmz 2 47) s m args below meth c H locs 0 0 (EI below args s D h cy y) (F0 m 178 ls [.int t0, .ref (h 39)]) := by
  intro H locs ls Z hl
  have hx := X.x
  have hb := X.b
  unfold f_X0_symtabHolds_178 at hf
  refine lv_iconst (v := 1) hx hb dX0_symtabHolds_178 (by decide) ?_
  refine lv_iload_n hx hb dX0_symtabHolds_179 rfl (lv_at hl 1 rfl) ?_
  refine lv_bipush (v := 16) hx hb dX0_symtabHolds_180 (by decide) ?_
  refine lv_iadd hx hb dX0_symtabHolds_182 ?_
  obtain ⟨r39, s38, h37, hf⟩ := bi_s hf
  refine goI Z (run_V (As := [.int t0, .int (1 : Int32), .int ((x1 + (16 : Int32)))]) (rest := []) X Z (c_X2_unless l D h cy t0 (1 : Int32) ((x1 + (16 : Int32))) σ (r39, s38) h37 _) lk_RX0_76 ⟨by decide, by decide⟩ rv_39 rfl hl.1 rfl (Nat.le_of_ble_eq_true rfl) ⟨Nat.le_refl _, Nat.le_refl _⟩ dX0_symtabHolds_183) (fun H locs Z => ?_)
  refine lv_if_eq (tgt := 241) hx hb dX0_symtabHolds_186 (by decide) (fun c40 => ?_) (fun c40 => ?_)
  · have hf := itp c40 hf
    refine lv_iconst (v := 0) hx hb dX0_symtabHolds_241 (by decide) ?_
    exact retZ X hr hk Z (by decide) hf dX0_symtabHolds_242
  · have hf := itn c40 hf
    refine lv_aload_n hx hb dX0_symtabHolds_189 rfl (lv_at hl 0 rfl) ?_
    refine lv_iconst (v := 1) hx hb dX0_symtabHolds_190 (by decide) ?_
    refine pf_RX0_46 X Z (by decide) dX0_symtabHolds_191 (fun s41 H locs es41 Z => ?_)
    have hf := zn_e es41 hf
    refine lv_aload_n hx hb dX0_symtabHolds_194 rfl (lv_at hl 0 rfl) ?_
    refine lv_aload_n hx hb dX0_symtabHolds_195 rfl (lv_at hl 0 rfl) ?_
    refine lv_iload_n hx hb dX0_symtabHolds_196 rfl (lv_at hl 1 rfl) ?_
    refine lv_bipush (v := 8) hx hb dX0_symtabHolds_197 (by decide) ?_
    refine lv_iadd hx hb dX0_symtabHolds_199 ?_
    obtain ⟨r44, s43, h42, hf⟩ := bi_s hf
    refine goL Z (run_V (As := [.int ((x1 + (8 : Int32)))]) (rest := [.ref (h 40)]) X Z (c_X0_u4 l D h cy ((x1 + (8 : Int32))) s41 (r44, s43) h42 _) lk_RX0_82 ⟨by decide, by decide⟩ rv_40 rfl hl.1 rfl (Nat.le_of_ble_eq_true rfl) ⟨Nat.le_refl _, Nat.le_refl _⟩ dX0_symtabHolds_200) (fun H locs Z => ?_)
    refine lv_l2i (v := r44.toInt32) hx hb dX0_symtabHolds_203 rfl ?_
    refine pf_RX0_53 X Z dX0_symtabHolds_204 (fun s45 H locs es45 Z => ?_)
    have hf := zn_e es45 hf
    refine lv_aload_n hx hb dX0_symtabHolds_207 rfl (lv_at hl 0 rfl) ?_
    refine lv_lload_n hx hb dX0_symtabHolds_208 rfl (lv_at hl 2 rfl) ?_
    refine lv_l2i (v := x2.toInt32) hx hb dX0_symtabHolds_209 rfl ?_
    refine pf_RX0_50 X Z dX0_symtabHolds_210 (fun s46 H locs es46 Z => ?_)
    have hf := zn_e es46 hf
    refine lv_aload_n hx hb dX0_symtabHolds_213 rfl (lv_at hl 0 rfl) ?_
    refine lv_aload_n hx hb dX0_symtabHolds_214 rfl (lv_at hl 0 rfl) ?_
    refine lv_iload_n hx hb dX0_symtabHolds_215 rfl (lv_at hl 1 rfl) ?_
    refine lv_bipush (v := 16) hx hb dX0_symtabHolds_216 (by decide) ?_
    refine lv_iadd hx hb dX0_symtabHolds_218 ?_
    obtain ⟨r49, s48, h47, hf⟩ := bi_s hf
    refine goL Z (run_V (As := [.int ((x1 + (16 : Int32)))]) (rest := [.ref (h 40)]) X Z (c_X0_u4 l D h cy ((x1 + (16 : Int32))) s46 (r49, s48) h47 _) lk_RX0_82 ⟨by decide, by decide⟩ rv_40 rfl hl.1 rfl (Nat.le_of_ble_eq_true rfl) ⟨Nat.le_refl _, Nat.le_refl _⟩ dX0_symtabHolds_219) (fun H locs Z => ?_)
    refine lv_l2i (v := r49.toInt32) hx hb dX0_symtabHolds_222 rfl ?_
    refine pf_RX0_56 X Z dX0_symtabHolds_223 (fun s50 H locs es50 Z => ?_)
    have hf := zn_e es50 hf
    refine lv_aload_n hx hb dX0_symtabHolds_226 rfl (lv_at hl 0 rfl) ?_
    refine lv_aload_n hx hb dX0_symtabHolds_227 rfl (lv_at hl 0 rfl) ?_
    refine lv_iload_n hx hb dX0_symtabHolds_228 rfl (lv_at hl 1 rfl) ?_
    refine lv_bipush (v := 20) hx hb dX0_symtabHolds_229 (by decide) ?_
    refine lv_iadd hx hb dX0_symtabHolds_231 ?_
    obtain ⟨r53, s52, h51, hf⟩ := bi_s hf
    refine goL Z (run_V (As := [.int ((x1 + (20 : Int32)))]) (rest := [.ref (h 40)]) X Z (c_X0_u4 l D h cy ((x1 + (20 : Int32))) s50 (r53, s52) h51 _) lk_RX0_82 ⟨by decide, by decide⟩ rv_40 rfl hl.1 rfl (Nat.le_of_ble_eq_true rfl) ⟨Nat.le_refl _, Nat.le_refl _⟩ dX0_symtabHolds_232) (fun H locs Z => ?_)
    refine lv_l2i (v := r53.toInt32) hx hb dX0_symtabHolds_235 rfl ?_
    refine pf_RX0_59 X Z dX0_symtabHolds_236 (fun s54 H locs es54 Z => ?_)
    have hf := zn_e es54 hf
    refine lv_iconst (v := 1) hx hb dX0_symtabHolds_239 (by decide) ?_
    exact retZ X hr hk Z (by decide) hf dX0_symtabHolds_240

set_option maxRecDepth 100000 in
set_option maxHeartbeats 4000000 in
theorem b_X0_symtabHolds_129 {p : Program} {l : Launch} {e : Env} {s : State} {m : MethodId} {args : Array Value} {below : List Frame} {meth : Method} {c : Code} {D : va_G} {h : Nat → Nat} {cy : Nat → ClassId} (X : Cx p s m args c D h cy RX0 cX0_symtabHolds 4) (hr : meth.sig.returnType = some .boolean) (hk : meth.locks = false) (x1 : Int32) (x2 : Int64) (t0 : Int32) (σ : St) (y : Int32 × St) (hf : f_X0_symtabHolds_129 x1 x2 t0 σ = some y) : ∀ (H : Heap) (locs : List Loc) (ls : Array Slot), Zt D h cy s σ H locs → lv_has ls 4 [(0, .ref (h 40)), (1, .int x1), (2, .long x2)] → W p l e (rmz 2 47) s m args below meth c H locs 0 0 (EI below args s D h cy y) (F0 m 129 ls [.int t0, .ref (h 39)]) := by
  intro H locs ls Z hl
  have hx := X.x
  have hb := X.b
  unfold f_X0_symtabHolds_129 at hf
  refine lv_iconst (v := 1) hx hb dX0_symtabHolds_129 (by decide) ?_
  refine lv_iload_n hx hb dX0_symtabHolds_130 rfl (lv_at hl 1 rfl) ?_
  refine lv_bipush (v := 8) hx hb dX0_symtabHolds_131 (by decide) ?_
  refine lv_iadd hx hb dX0_symtabHolds_133 ?_
  obtain ⟨r28, s27, h26, hf⟩ := bi_s hf
  refine goI Z (run_V (As := [.int t0, .int (1 : Int32), .int ((x1 + (8 : Int32)))]) (rest := []) X Z (c_X2_unless l D h cy t0 (1 : Int32) ((x1 + (8 : Int32))) σ (r28, s27) h26 _) lk_RX0_76 ⟨by decide, by decide⟩ rv_39 rfl hl.1 rfl (Nat.le_of_ble_eq_true rfl) ⟨Nat.le_refl _, Nat.le_refl _⟩ dX0_symtabHolds_134) (fun H locs Z => ?_)
  refine lv_if_eq (tgt := 241) hx hb dX0_symtabHolds_137 (by decide) (fun c29 => ?_) (fun c29 => ?_)
  · have hf := itp c29 hf
    refine lv_iconst (v := 0) hx hb dX0_symtabHolds_241 (by decide) ?_
    exact retZ X hr hk Z (by decide) hf dX0_symtabHolds_242
  · have hf := itn c29 hf
    refine lv_aload_n hx hb dX0_symtabHolds_140 rfl (lv_at hl 0 rfl) ?_
    refine gf_RX0_15 X Z dX0_symtabHolds_141 ?_
    refine lv_aload_n hx hb dX0_symtabHolds_144 rfl (lv_at hl 0 rfl) ?_
    refine lv_iload_n hx hb dX0_symtabHolds_145 rfl (lv_at hl 1 rfl) ?_
    refine lv_bipush (v := 16) hx hb dX0_symtabHolds_146 (by decide) ?_
    refine lv_iadd hx hb dX0_symtabHolds_148 ?_
    obtain ⟨r32, s31, h30, hf⟩ := bi_s hf
    refine goL Z (run_V (As := [.int ((x1 + (16 : Int32)))]) (rest := [.ref (h 39)]) X Z (c_X0_u4 l D h cy ((x1 + (16 : Int32))) s27 (r32, s31) h30 _) lk_RX0_82 ⟨by decide, by decide⟩ rv_40 rfl hl.1 rfl (Nat.le_of_ble_eq_true rfl) ⟨Nat.le_refl _, Nat.le_refl _⟩ dX0_symtabHolds_149) (fun H locs Z => ?_)
    refine lv_aload_n hx hb dX0_symtabHolds_152 rfl (lv_at hl 0 rfl) ?_
    refine lv_iload_n hx hb dX0_symtabHolds_153 rfl (lv_at hl 1 rfl) ?_
    refine lv_bipush (v := 20) hx hb dX0_symtabHolds_154 (by decide) ?_
    refine lv_iadd hx hb dX0_symtabHolds_156 ?_
    obtain ⟨r35, s34, h33, hf⟩ := bi_s hf
    refine goL Z (run_V (As := [.int ((x1 + (20 : Int32)))]) (rest := [.long r32, .ref (h 39)]) X Z (c_X0_u4 l D h cy ((x1 + (20 : Int32))) s31 (r35, s34) h33 _) lk_RX0_82 ⟨by decide, by decide⟩ rv_40 rfl hl.1 rfl (Nat.le_of_ble_eq_true rfl) ⟨Nat.le_refl _, Nat.le_refl _⟩ dX0_symtabHolds_157) (fun H locs Z => ?_)
    refine lv_ladd hx hb dX0_symtabHolds_160 ?_
    refine lv_aload_n hx hb dX0_symtabHolds_161 rfl (lv_at hl 0 rfl) ?_
    refine gf_RX0_9 X Z dX0_symtabHolds_162 ?_
    refine gf_RX0_71 X Z row_3 dX0_symtabHolds_165 ?_
    refine lv_i2l (v := (s34.1 3 1).toInt64) hx hb dX0_symtabHolds_168 rfl ?_
    refine x_lif_gt (tgt := 177) X dX0_symtabHolds_169 dX0_symtabHolds_170 (by decide) (fun c36 => ?_) (fun c36 => ?_)
    · have hf := itp c36 hf
      refine lv_iconst (v := 0) hx hb dX0_symtabHolds_177 (by decide) ?_
      exact b_X0_symtabHolds_178 X hr hk x1 x2 (0 : Int32) s34 _ hf _ _ _ Z (lv_sub hl [0, 1, 2] rfl)
    · have hf := itn c36 hf
      refine lv_iconst (v := 1) hx hb dX0_symtabHolds_173 (by decide) ?_
      refine lv_goto (tgt := 178) hx hb dX0_symtabHolds_174 (by decide) ?_
      exact b_X0_symtabHolds_178 X hr hk x1 x2 (1 : Int32) s34 _ hf _ _ _ Z (lv_sub hl [0, 1, 2] rfl)

set_option maxRecDepth 100000 in
set_option maxHeartbeats 4000000 in
theorem b_X0_symtabHolds_83 {p : Program} {l : Launch} {e : Env} {s : State} {m : MethodId} {args : Array Value} {below : List Frame} {meth : Method} {c : Code} {D : va_G} {h : Nat → Nat} {cy : Nat → ClassId} (X : Cx p s m args c D h cy RX0 cX0_symtabHolds 4) (hr : meth.sig.returnType = some .boolean) (hk : meth.locks = false) (x1 : Int32) (x2 : Int64) (t0 : Int32) (σ : St) (y : Int32 × St) (hf : f_X0_symtabHolds_83 x1 x2 t0 σ = some y) : ∀ (H : Heap) (locs : List Loc) (ls : Array Slot), Zt D h cy s σ H locs → lv_has ls 4 [(0, .ref (h 40)), (1, .int x1), (2, .long x2)] → W p l e (rmz 2 47) s m args below meth c H locs 0 0 (EI below args s D h cy y) (F0 m 83 ls [.int t0, .ref (h 39)]) := by
  intro H locs ls Z hl
  have hx := X.x
  have hb := X.b
  unfold f_X0_symtabHolds_83 at hf
  refine lv_iconst (v := 3) hx hb dX0_symtabHolds_83 (by decide) ?_
  refine lv_iload_n hx hb dX0_symtabHolds_84 rfl (lv_at hl 1 rfl) ?_
  refine lv_bipush (v := 12) hx hb dX0_symtabHolds_85 (by decide) ?_
  refine lv_iadd hx hb dX0_symtabHolds_87 ?_
  obtain ⟨r20, s19, h18, hf⟩ := bi_s hf
  refine goI Z (run_V (As := [.int t0, .int (3 : Int32), .int ((x1 + (12 : Int32)))]) (rest := []) X Z (c_X2_unless l D h cy t0 (3 : Int32) ((x1 + (12 : Int32))) σ (r20, s19) h18 _) lk_RX0_76 ⟨by decide, by decide⟩ rv_39 rfl hl.1 rfl (Nat.le_of_ble_eq_true rfl) ⟨Nat.le_refl _, Nat.le_refl _⟩ dX0_symtabHolds_88) (fun H locs Z => ?_)
  refine lv_if_eq (tgt := 241) hx hb dX0_symtabHolds_91 (by decide) (fun c21 => ?_) (fun c21 => ?_)
  · have hf := itp c21 hf
    refine lv_iconst (v := 0) hx hb dX0_symtabHolds_241 (by decide) ?_
    exact retZ X hr hk Z (by decide) hf dX0_symtabHolds_242
  · have hf := itn c21 hf
    refine lv_aload_n hx hb dX0_symtabHolds_94 rfl (lv_at hl 0 rfl) ?_
    refine gf_RX0_15 X Z dX0_symtabHolds_95 ?_
    refine lv_aload_n hx hb dX0_symtabHolds_98 rfl (lv_at hl 0 rfl) ?_
    refine lv_iload_n hx hb dX0_symtabHolds_99 rfl (lv_at hl 1 rfl) ?_
    refine lv_bipush (v := 8) hx hb dX0_symtabHolds_100 (by decide) ?_
    refine lv_iadd hx hb dX0_symtabHolds_102 ?_
    obtain ⟨r24, s23, h22, hf⟩ := bi_s hf
    refine goL Z (run_V (As := [.int ((x1 + (8 : Int32)))]) (rest := [.ref (h 39)]) X Z (c_X0_u4 l D h cy ((x1 + (8 : Int32))) s19 (r24, s23) h22 _) lk_RX0_82 ⟨by decide, by decide⟩ rv_40 rfl hl.1 rfl (Nat.le_of_ble_eq_true rfl) ⟨Nat.le_refl _, Nat.le_refl _⟩ dX0_symtabHolds_103) (fun H locs Z => ?_)
    refine lv_ldc2 (v := 16) hx hb X.o (X.t _ kc_RX0_88) dX0_symtabHolds_106 ?_
    refine lv_lload_n hx hb dX0_symtabHolds_109 rfl (lv_at hl 2 rfl) ?_
    refine lv_lmul hx hb dX0_symtabHolds_110 ?_
    refine lv_ladd hx hb dX0_symtabHolds_111 ?_
    refine lv_aload_n hx hb dX0_symtabHolds_112 rfl (lv_at hl 0 rfl) ?_
    refine gf_RX0_9 X Z dX0_symtabHolds_113 ?_
    refine gf_RX0_71 X Z row_3 dX0_symtabHolds_116 ?_
    refine lv_i2l (v := (s23.1 3 1).toInt64) hx hb dX0_symtabHolds_119 rfl ?_
    refine x_lif_gt (tgt := 128) X dX0_symtabHolds_120 dX0_symtabHolds_121 (by decide) (fun c25 => ?_) (fun c25 => ?_)
    · have hf := itp c25 hf
      refine lv_iconst (v := 0) hx hb dX0_symtabHolds_128 (by decide) ?_
      exact b_X0_symtabHolds_129 X hr hk x1 x2 (0 : Int32) s23 _ hf _ _ _ Z (lv_sub hl [0, 1, 2] rfl)
    · have hf := itn c25 hf
      refine lv_iconst (v := 1) hx hb dX0_symtabHolds_124 (by decide) ?_
      refine lv_goto (tgt := 129) hx hb dX0_symtabHolds_125 (by decide) ?_
      exact b_X0_symtabHolds_129 X hr hk x1 x2 (1 : Int32) s23 _ hf _ _ _ Z (lv_sub hl [0, 1, 2] rfl)

set_option maxRecDepth 100000 in
set_option maxHeartbeats 4000000 in
theorem b_X0_symtabHolds_56 {p : Program} {l : Launch} {e : Env} {s : State} {m : MethodId} {args : Array Value} {below : List Frame} {meth : Method} {c : Code} {D : va_G} {h : Nat → Nat} {cy : Nat → ClassId} (X : Cx p s m args c D h cy RX0 cX0_symtabHolds 4) (hr : meth.sig.returnType = some .boolean) (hk : meth.locks = false) (x1 : Int32) (x2 : Int64) (t0 : Int32) (σ : St) (y : Int32 × St) (hf : f_X0_symtabHolds_56 x1 x2 t0 σ = some y) : ∀ (H : Heap) (locs : List Loc) (ls : Array Slot), Zt D h cy s σ H locs → lv_has ls 4 [(0, .ref (h 40)), (1, .int x1), (2, .long x2)] → W p l e (rmz 2 47) s m args below meth c H locs 0 0 (EI below args s D h cy y) (F0 m 56 ls [.int t0, .ref (h 39)]) := by
  intro H locs ls Z hl
  have hx := X.x
  have hb := X.b
  unfold f_X0_symtabHolds_56 at hf
  refine lv_iconst (v := 3) hx hb dX0_symtabHolds_56 (by decide) ?_
  refine lv_iload_n hx hb dX0_symtabHolds_57 rfl (lv_at hl 1 rfl) ?_
  refine lv_iconst (v := 4) hx hb dX0_symtabHolds_58 (by decide) ?_
  refine lv_iadd hx hb dX0_symtabHolds_59 ?_
  obtain ⟨r15, s14, h13, hf⟩ := bi_s hf
  refine goI Z (run_V (As := [.int t0, .int (3 : Int32), .int ((x1 + (4 : Int32)))]) (rest := []) X Z (c_X2_unless l D h cy t0 (3 : Int32) ((x1 + (4 : Int32))) σ (r15, s14) h13 _) lk_RX0_76 ⟨by decide, by decide⟩ rv_39 rfl hl.1 rfl (Nat.le_of_ble_eq_true rfl) ⟨Nat.le_refl _, Nat.le_refl _⟩ dX0_symtabHolds_60) (fun H locs Z => ?_)
  refine lv_if_eq (tgt := 241) hx hb dX0_symtabHolds_63 (by decide) (fun c16 => ?_) (fun c16 => ?_)
  · have hf := itp c16 hf
    refine lv_iconst (v := 0) hx hb dX0_symtabHolds_241 (by decide) ?_
    exact retZ X hr hk Z (by decide) hf dX0_symtabHolds_242
  · have hf := itn c16 hf
    refine lv_aload_n hx hb dX0_symtabHolds_66 rfl (lv_at hl 0 rfl) ?_
    refine gf_RX0_15 X Z dX0_symtabHolds_67 ?_
    refine lv_lload_n hx hb dX0_symtabHolds_70 rfl (lv_at hl 2 rfl) ?_
    refine lv_ldc2 (v := 64) hx hb X.o (X.t _ kc_RX0_156) dX0_symtabHolds_71 ?_
    refine x_lif_gt (tgt := 82) X dX0_symtabHolds_74 dX0_symtabHolds_75 (by decide) (fun c17 => ?_) (fun c17 => ?_)
    · have hf := itp c17 hf
      refine lv_iconst (v := 0) hx hb dX0_symtabHolds_82 (by decide) ?_
      exact b_X0_symtabHolds_83 X hr hk x1 x2 (0 : Int32) s14 _ hf _ _ _ Z (lv_sub hl [0, 1, 2] rfl)
    · have hf := itn c17 hf
      refine lv_iconst (v := 1) hx hb dX0_symtabHolds_78 (by decide) ?_
      refine lv_goto (tgt := 83) hx hb dX0_symtabHolds_79 (by decide) ?_
      exact b_X0_symtabHolds_83 X hr hk x1 x2 (1 : Int32) s14 _ hf _ _ _ Z (lv_sub hl [0, 1, 2] rfl)

set_option maxRecDepth 100000 in
set_option maxHeartbeats 4000000 in
theorem b_X0_symtabHolds_25 {p : Program} {l : Launch} {e : Env} {s : State} {m : MethodId} {args : Array Value} {below : List Frame} {meth : Method} {c : Code} {D : va_G} {h : Nat → Nat} {cy : Nat → ClassId} (X : Cx p s m args c D h cy RX0 cX0_symtabHolds 4) (hr : meth.sig.returnType = some .boolean) (hk : meth.locks = false) (x1 : Int32) (x2 : Int64) (t0 : Int32) (σ : St) (y : Int32 × St) (hf : f_X0_symtabHolds_25 x1 x2 t0 σ = some y) : ∀ (H : Heap) (locs : List Loc) (ls : Array Slot), Zt D h cy s σ H locs → lv_has ls 4 [(0, .ref (h 40)), (1, .int x1), (2, .long x2)] → W p l e (rmz 2 47) s m args below meth c H locs 0 0 (EI below args s D h cy y) (F0 m 25 ls [.int t0, .ref (h 39)]) := by
  intro H locs ls Z hl
  have hx := X.x
  have hb := X.b
  unfold f_X0_symtabHolds_25 at hf
  refine lv_iconst (v := 3) hx hb dX0_symtabHolds_25 (by decide) ?_
  refine lv_iload_n hx hb dX0_symtabHolds_26 rfl (lv_at hl 1 rfl) ?_
  obtain ⟨r7, s6, h5, hf⟩ := bi_s hf
  refine goI Z (run_V (As := [.int t0, .int (3 : Int32), .int x1]) (rest := []) X Z (c_X2_unless l D h cy t0 (3 : Int32) x1 σ (r7, s6) h5 _) lk_RX0_76 ⟨by decide, by decide⟩ rv_39 rfl hl.1 rfl (Nat.le_of_ble_eq_true rfl) ⟨Nat.le_refl _, Nat.le_refl _⟩ dX0_symtabHolds_27) (fun H locs Z => ?_)
  refine lv_if_eq (tgt := 241) hx hb dX0_symtabHolds_30 (by decide) (fun c8 => ?_) (fun c8 => ?_)
  · have hf := itp c8 hf
    refine lv_iconst (v := 0) hx hb dX0_symtabHolds_241 (by decide) ?_
    exact retZ X hr hk Z (by decide) hf dX0_symtabHolds_242
  · have hf := itn c8 hf
    refine lv_aload_n hx hb dX0_symtabHolds_33 rfl (lv_at hl 0 rfl) ?_
    refine gf_RX0_15 X Z dX0_symtabHolds_34 ?_
    refine lv_aload_n hx hb dX0_symtabHolds_37 rfl (lv_at hl 0 rfl) ?_
    refine lv_iload_n hx hb dX0_symtabHolds_38 rfl (lv_at hl 1 rfl) ?_
    refine lv_iconst (v := 4) hx hb dX0_symtabHolds_39 (by decide) ?_
    refine lv_iadd hx hb dX0_symtabHolds_40 ?_
    obtain ⟨r11, s10, h9, hf⟩ := bi_s hf
    refine goL Z (run_V (As := [.int ((x1 + (4 : Int32)))]) (rest := [.ref (h 39)]) X Z (c_X0_u4 l D h cy ((x1 + (4 : Int32))) s6 (r11, s10) h9 _) lk_RX0_82 ⟨by decide, by decide⟩ rv_40 rfl hl.1 rfl (Nat.le_of_ble_eq_true rfl) ⟨Nat.le_refl _, Nat.le_refl _⟩ dX0_symtabHolds_41) (fun H locs Z => ?_)
    refine lv_ldc2 (v := 24) hx hb X.o (X.t _ kc_RX0_154) dX0_symtabHolds_44 ?_
    refine x_lif_ne (tgt := 55) X dX0_symtabHolds_47 dX0_symtabHolds_48 (by decide) (fun c12 => ?_) (fun c12 => ?_)
    · have hf := itn c12 hf
      refine lv_iconst (v := 0) hx hb dX0_symtabHolds_55 (by decide) ?_
      exact b_X0_symtabHolds_56 X hr hk x1 x2 (0 : Int32) s10 _ hf _ _ _ Z (lv_sub hl [0, 1, 2] rfl)
    · have hf := itp c12 hf
      refine lv_iconst (v := 1) hx hb dX0_symtabHolds_51 (by decide) ?_
      refine lv_goto (tgt := 56) hx hb dX0_symtabHolds_52 (by decide) ?_
      exact b_X0_symtabHolds_56 X hr hk x1 x2 (1 : Int32) s10 _ hf _ _ _ Z (lv_sub hl [0, 1, 2] rfl)

set_option maxRecDepth 100000 in
set_option maxHeartbeats 4000000 in
theorem c_X0_symtabHolds (l : Launch) (D : va_G) (h : Nat → Nat) (cy : Nat → ClassId) (a1 : Int32) (σ : St) (y : Int32 × St) (hf : f_X0_symtabHolds a1 σ = some y) : CI l yX0_symtabHolds cX0_symtabHolds 4 (some .boolean) 2 47 D h cy [.ref (h 40), .int a1] σ y := by
  refine ent (Qc := fun sz => QI D h cy sz y) (by decide) (Nat.le_of_ble_eq_true rfl) ?_
  intro p e s m below meth c ls X Z hr hk hl
  have X : Cx p s m _ c D h cy RX0 cX0_symtabHolds 4 := X
  have hx := X.x
  have hb := X.b
  have hl : lv_has ls 4 [(0, .ref (h 40)), (1, .int a1)] := hl
  unfold f_X0_symtabHolds at hf
  refine lv_aload_n hx hb dX0_symtabHolds_0 rfl (lv_at hl 0 rfl) ?_
  refine lv_iload_n hx hb dX0_symtabHolds_1 rfl (lv_at hl 1 rfl) ?_
  refine lv_bipush (v := 12) hx hb dX0_symtabHolds_2 (by decide) ?_
  refine lv_iadd hx hb dX0_symtabHolds_4 ?_
  obtain ⟨r3, s2, h1, hf⟩ := bi_s hf
  refine goL Z (run_V (As := [.int ((a1 + (12 : Int32)))]) (rest := []) X Z (c_X0_u4 l D h cy ((a1 + (12 : Int32))) σ (r3, s2) h1 _) lk_RX0_82 ⟨by decide, by decide⟩ rv_40 rfl hl.1 rfl (Nat.le_of_ble_eq_true rfl) ⟨Nat.le_refl _, Nat.le_refl _⟩ dX0_symtabHolds_5) (fun H locs Z => ?_)
  refine lv_lstore_n (lv' := [(2, .long r3), (0, .ref (h 40)), (1, .int a1)]) hx hb dX0_symtabHolds_8 rfl hl (by decide) rfl (fun ls hl => ?_)
  refine lv_aload_n hx hb dX0_symtabHolds_9 rfl (lv_at hl 1 rfl) ?_
  refine gf_RX0_15 X Z dX0_symtabHolds_10 ?_
  refine lv_aload_n hx hb dX0_symtabHolds_13 rfl (lv_at hl 1 rfl) ?_
  refine gf_RX0_46 X Z dX0_symtabHolds_14 ?_
  refine lv_if_ne (tgt := 24) hx hb dX0_symtabHolds_17 (by decide) (fun c4 => ?_) (fun c4 => ?_)
  · have hf := itn c4 hf
    refine lv_iconst (v := 0) hx hb dX0_symtabHolds_24 (by decide) ?_
    exact b_X0_symtabHolds_25 X hr hk a1 r3 (0 : Int32) s2 _ hf _ _ _ Z (lv_sub hl [1, 2, 0] rfl)
  · have hf := itp c4 hf
    refine lv_iconst (v := 1) hx hb dX0_symtabHolds_20 (by decide) ?_
    refine lv_goto (tgt := 25) hx hb dX0_symtabHolds_21 (by decide) ?_
    exact b_X0_symtabHolds_25 X hr hk a1 r3 (1 : Int32) s2 _ hf _ _ _ Z (lv_sub hl [1, 2, 0] rfl)

set_option maxRecDepth 100000 in
set_option maxHeartbeats 4000000 in
theorem c_X0_u8 (l : Launch) (D : va_G) (h : Nat → Nat) (cy : Nat → ClassId) (a1 : Int32) (σ : St) (y : Int64 × St) (hf : f_X0_u8 a1 σ = some y) : CL l yX0_u8 cX0_u8 2 (some .long) 1 26 D h cy [.ref (h 40), .int a1] σ y := by
  refine ent (Qc := fun sz => QL D h cy sz y) (by decide) (Nat.le_of_ble_eq_true rfl) ?_
  intro p e s m below meth c ls X Z hr hk hl
  have X : Cx p s m _ c D h cy RX0 cX0_u8 2 := X
  have hx := X.x
  have hb := X.b
  have hl : lv_has ls 2 [(0, .ref (h 40)), (1, .int a1)] := hl
  unfold f_X0_u8 at hf
  refine lv_aload_n hx hb dX0_u8_0 rfl (lv_at hl 0 rfl) ?_
  refine gf_RX0_9 X Z dX0_u8_1 ?_
  refine lv_iload_n hx hb dX0_u8_4 rfl (lv_at hl 1 rfl) ?_
  refine lv_bipush (v := 8) hx hb dX0_u8_5 (by decide) ?_
  obtain ⟨r3, s2, h1, hf⟩ := bi_s hf
  refine goL Z (run_V (As := [.int a1, .int (8 : Int32)]) (rest := []) X Z (c_X6_number l D h cy row_3 a1 (8 : Int32) σ (r3, s2) h1 _) lk_RX0_166 ⟨by decide, by decide⟩ (rv_RowS row_3) rfl hl.1 rfl (Nat.le_of_ble_eq_true rfl) ⟨Nat.le_refl _, Nat.le_refl _⟩ dX0_u8_7) (fun H locs Z => ?_)
  exact retL X hr hk Z hf dX0_u8_10

set_option maxRecDepth 100000 in
set_option maxHeartbeats 4000000 in
theorem b_X0_numberHolds_29 {p : Program} {l : Launch} {e : Env} {s : State} {m : MethodId} {args : Array Value} {below : List Frame} {meth : Method} {c : Code} {D : va_G} {h : Nat → Nat} {cy : Nat → ClassId} (X : Cx p s m args c D h cy RX0 cX0_numberHolds 4) (hr : meth.sig.returnType = some .boolean) (hk : meth.locks = false) (x1 : Int32) (t0 : Int32) (σ : St) (y : Int32 × St) (hf : f_X0_numberHolds_29 x1 t0 σ = some y) : ∀ (H : Heap) (locs : List Loc) (ls : Array Slot), Zt D h cy s σ H locs → lv_has ls 4 [(1, .int x1)] → W p l e (rmz 2 47) s m args below meth c H locs 0 0 (EI below args s D h cy y) (F0 m 29 ls [.int t0, .ref (h 39)]) := by
  intro H locs ls Z hl
  have hx := X.x
  have hb := X.b
  unfold f_X0_numberHolds_29 at hf
  refine lv_iconst (v := 5) hx hb dX0_numberHolds_29 (by decide) ?_
  refine lv_iload_n hx hb dX0_numberHolds_30 rfl (lv_at hl 0 rfl) ?_
  obtain ⟨r7, s6, h5, hf⟩ := bi_s hf
  refine goI Z (run_V (As := [.int t0, .int (5 : Int32), .int x1]) (rest := []) X Z (c_X2_unless l D h cy t0 (5 : Int32) x1 σ (r7, s6) h5 _) lk_RX0_76 ⟨by decide, by decide⟩ rv_39 rfl hl.1 rfl (Nat.le_of_ble_eq_true rfl) ⟨Nat.le_refl _, Nat.le_refl _⟩ dX0_numberHolds_31) (fun H locs Z => ?_)
  obtain ⟨g8, hf⟩ := gd_s hf
  exact retZ X hr hk Z g8 hf dX0_numberHolds_34

set_option maxRecDepth 100000 in
set_option maxHeartbeats 4000000 in
theorem b_X0_numberHolds_28 {p : Program} {l : Launch} {e : Env} {s : State} {m : MethodId} {args : Array Value} {below : List Frame} {meth : Method} {c : Code} {D : va_G} {h : Nat → Nat} {cy : Nat → ClassId} (X : Cx p s m args c D h cy RX0 cX0_numberHolds 4) (hr : meth.sig.returnType = some .boolean) (hk : meth.locks = false) (x1 : Int32) (σ : St) (y : Int32 × St) (hf : f_X0_numberHolds_28 x1 σ = some y) : ∀ (H : Heap) (locs : List Loc) (ls : Array Slot), Zt D h cy s σ H locs → lv_has ls 4 [(1, .int x1)] → W p l e (rmz 2 47) s m args below meth c H locs 0 0 (EI below args s D h cy y) (F0 m 28 ls [.ref (h 39)]) := by
  intro H locs ls Z hl
  have hx := X.x
  have hb := X.b
  unfold f_X0_numberHolds_28 at hf
  refine lv_iconst (v := 0) hx hb dX0_numberHolds_28 (by decide) ?_
  exact b_X0_numberHolds_29 X hr hk x1 (0 : Int32) σ _ hf _ _ _ Z (lv_sub hl [0] rfl)

set_option maxRecDepth 100000 in
set_option maxHeartbeats 4000000 in
theorem c_X0_numberHolds (l : Launch) (D : va_G) (h : Nat → Nat) (cy : Nat → ClassId) (a1 : Int32) (σ : St) (y : Int32 × St) (hf : f_X0_numberHolds a1 σ = some y) : CI l yX0_numberHolds cX0_numberHolds 4 (some .boolean) 2 47 D h cy [.ref (h 40), .int a1] σ y := by
  refine ent (Qc := fun sz => QI D h cy sz y) (by decide) (Nat.le_of_ble_eq_true rfl) ?_
  intro p e s m below meth c ls X Z hr hk hl
  have X : Cx p s m _ c D h cy RX0 cX0_numberHolds 4 := X
  have hx := X.x
  have hb := X.b
  have hl : lv_has ls 4 [(0, .ref (h 40)), (1, .int a1)] := hl
  unfold f_X0_numberHolds at hf
  refine lv_aload_n hx hb dX0_numberHolds_0 rfl (lv_at hl 0 rfl) ?_
  refine lv_iload_n hx hb dX0_numberHolds_1 rfl (lv_at hl 1 rfl) ?_
  obtain ⟨r3, s2, h1, hf⟩ := bi_s hf
  refine goL Z (run_V (As := [.int a1]) (rest := []) X Z (c_X0_u8 l D h cy a1 σ (r3, s2) h1 _) lk_RX0_135 ⟨by decide, by decide⟩ rv_40 rfl hl.1 rfl (Nat.le_of_ble_eq_true rfl) ⟨Nat.le_refl _, Nat.le_refl _⟩ dX0_numberHolds_2) (fun H locs Z => ?_)
  refine lv_lstore_n (lv' := [(2, .long r3), (0, .ref (h 40)), (1, .int a1)]) hx hb dX0_numberHolds_5 rfl hl (by decide) rfl (fun ls hl => ?_)
  refine lv_aload_n hx hb dX0_numberHolds_6 rfl (lv_at hl 1 rfl) ?_
  refine gf_RX0_15 X Z dX0_numberHolds_7 ?_
  refine lv_lload_n hx hb dX0_numberHolds_10 rfl (lv_at hl 0 rfl) ?_
  refine lv_lconst (v := 0) hx hb dX0_numberHolds_11 (by decide) ?_
  refine x_lif_lt (tgt := 28) X dX0_numberHolds_12 dX0_numberHolds_13 (by decide) (fun c4 => ?_) (fun c4 => ?_)
  · have hf := itp c4 hf
    exact b_X0_numberHolds_28 X hr hk a1 s2 _ hf _ _ _ Z (lv_sub hl [2] rfl)
  · have hf := itn c4 hf
    refine lv_lload_n hx hb dX0_numberHolds_16 rfl (lv_at hl 0 rfl) ?_
    refine lv_ldc2 (v := 2147483647) hx hb X.o (X.t _ kc_RX0_144) dX0_numberHolds_17 ?_
    refine x_lif_gt (tgt := 28) X dX0_numberHolds_20 dX0_numberHolds_21 (by decide) (fun c9 => ?_) (fun c9 => ?_)
    · have hf := itp c9 hf
      exact b_X0_numberHolds_28 X hr hk a1 s2 _ hf _ _ _ Z (lv_sub hl [2] rfl)
    · have hf := itn c9 hf
      refine lv_iconst (v := 1) hx hb dX0_numberHolds_24 (by decide) ?_
      refine lv_goto (tgt := 29) hx hb dX0_numberHolds_25 (by decide) ?_
      exact b_X0_numberHolds_29 X hr hk a1 (1 : Int32) s2 _ hf _ _ _ Z (lv_sub hl [2] rfl)

set_option maxRecDepth 100000 in
set_option maxHeartbeats 4000000 in
theorem b_X0_segmentHolds_93 {p : Program} {l : Launch} {e : Env} {s : State} {m : MethodId} {args : Array Value} {below : List Frame} {meth : Method} {c : Code} {D : va_G} {h : Nat → Nat} {cy : Nat → ClassId} (X : Cx p s m args c D h cy RX0 cX0_segmentHolds 4) (hr : meth.sig.returnType = some .boolean) (hk : meth.locks = false) (x1 : Int32) (t0 : Int32) (σ : St) (y : Int32 × St) (hf : f_X0_segmentHolds_93 x1 t0 σ = some y) : ∀ (H : Heap) (locs : List Loc) (ls : Array Slot), Zt D h cy s σ H locs → lv_has ls 4 [(0, .ref (h 40)), (1, .int x1)] → W p l e (rmz 3 70) s m args below meth c H locs 0 0 (EI below args s D h cy y) (F0 m 93 ls [.int t0, .ref (h 39)]) := by
  intro H locs ls Z hl
  have hx := X.x
  have hb := X.b
  unfold f_X0_segmentHolds_93 at hf
  refine lv_iconst (v := 3) hx hb dX0_segmentHolds_93 (by decide) ?_
  refine lv_iload_n hx hb dX0_segmentHolds_94 rfl (lv_at hl 1 rfl) ?_
  refine lv_iconst (v := 4) hx hb dX0_segmentHolds_95 (by decide) ?_
  refine lv_iadd hx hb dX0_segmentHolds_96 ?_
  obtain ⟨r20, s19, h18, hf⟩ := bi_s hf
  refine goI Z (run_V (As := [.int t0, .int (3 : Int32), .int ((x1 + (4 : Int32)))]) (rest := []) X Z (c_X2_unless l D h cy t0 (3 : Int32) ((x1 + (4 : Int32))) σ (r20, s19) h18 _) lk_RX0_76 ⟨by decide, by decide⟩ rv_39 rfl hl.1 rfl (Nat.le_of_ble_eq_true rfl) ⟨Nat.le_refl _, Nat.le_refl _⟩ dX0_segmentHolds_97) (fun H locs Z => ?_)
  refine lv_if_eq (tgt := 151) hx hb dX0_segmentHolds_100 (by decide) (fun c21 => ?_) (fun c21 => ?_)
  · have hf := itp c21 hf
    refine lv_iconst (v := 0) hx hb dX0_segmentHolds_151 (by decide) ?_
    exact retZ X hr hk Z (by decide) hf dX0_segmentHolds_152
  · have hf := itn c21 hf
    refine lv_aload_n hx hb dX0_segmentHolds_103 rfl (lv_at hl 0 rfl) ?_
    refine lv_iload_n hx hb dX0_segmentHolds_104 rfl (lv_at hl 1 rfl) ?_
    refine lv_bipush (v := 24) hx hb dX0_segmentHolds_105 (by decide) ?_
    refine lv_iadd hx hb dX0_segmentHolds_107 ?_
    obtain ⟨r24, s23, h22, hf⟩ := bi_s hf
    refine goI Z (run_V (As := [.int ((x1 + (24 : Int32)))]) (rest := []) X Z (c_X0_numberHolds l D h cy ((x1 + (24 : Int32))) s19 (r24, s23) h22 _) lk_RX0_132 ⟨by decide, by decide⟩ rv_40 rfl hl.1 rfl (Nat.le_of_ble_eq_true rfl) ⟨Nat.le_refl _, Nat.le_refl _⟩ dX0_segmentHolds_108) (fun H locs Z => ?_)
    refine lv_if_eq (tgt := 151) hx hb dX0_segmentHolds_111 (by decide) (fun c25 => ?_) (fun c25 => ?_)
    · have hf := itp c25 hf
      refine lv_iconst (v := 0) hx hb dX0_segmentHolds_151 (by decide) ?_
      exact retZ X hr hk Z (by decide) hf dX0_segmentHolds_152
    · have hf := itn c25 hf
      refine lv_aload_n hx hb dX0_segmentHolds_114 rfl (lv_at hl 0 rfl) ?_
      refine lv_iload_n hx hb dX0_segmentHolds_115 rfl (lv_at hl 1 rfl) ?_
      refine lv_bipush (v := 32) hx hb dX0_segmentHolds_116 (by decide) ?_
      refine lv_iadd hx hb dX0_segmentHolds_118 ?_
      obtain ⟨r28, s27, h26, hf⟩ := bi_s hf
      refine goI Z (run_V (As := [.int ((x1 + (32 : Int32)))]) (rest := []) X Z (c_X0_numberHolds l D h cy ((x1 + (32 : Int32))) s23 (r28, s27) h26 _) lk_RX0_132 ⟨by decide, by decide⟩ rv_40 rfl hl.1 rfl (Nat.le_of_ble_eq_true rfl) ⟨Nat.le_refl _, Nat.le_refl _⟩ dX0_segmentHolds_119) (fun H locs Z => ?_)
      refine lv_if_eq (tgt := 151) hx hb dX0_segmentHolds_122 (by decide) (fun c29 => ?_) (fun c29 => ?_)
      · have hf := itp c29 hf
        refine lv_iconst (v := 0) hx hb dX0_segmentHolds_151 (by decide) ?_
        exact retZ X hr hk Z (by decide) hf dX0_segmentHolds_152
      · have hf := itn c29 hf
        refine lv_aload_n hx hb dX0_segmentHolds_125 rfl (lv_at hl 0 rfl) ?_
        refine lv_iload_n hx hb dX0_segmentHolds_126 rfl (lv_at hl 1 rfl) ?_
        refine lv_bipush (v := 40) hx hb dX0_segmentHolds_127 (by decide) ?_
        refine lv_iadd hx hb dX0_segmentHolds_129 ?_
        obtain ⟨r32, s31, h30, hf⟩ := bi_s hf
        refine goI Z (run_V (As := [.int ((x1 + (40 : Int32)))]) (rest := []) X Z (c_X0_numberHolds l D h cy ((x1 + (40 : Int32))) s27 (r32, s31) h30 _) lk_RX0_132 ⟨by decide, by decide⟩ rv_40 rfl hl.1 rfl (Nat.le_of_ble_eq_true rfl) ⟨Nat.le_refl _, Nat.le_refl _⟩ dX0_segmentHolds_130) (fun H locs Z => ?_)
        refine lv_if_eq (tgt := 151) hx hb dX0_segmentHolds_133 (by decide) (fun c33 => ?_) (fun c33 => ?_)
        · have hf := itp c33 hf
          refine lv_iconst (v := 0) hx hb dX0_segmentHolds_151 (by decide) ?_
          exact retZ X hr hk Z (by decide) hf dX0_segmentHolds_152
        · have hf := itn c33 hf
          refine lv_aload_n hx hb dX0_segmentHolds_136 rfl (lv_at hl 0 rfl) ?_
          refine lv_iload_n hx hb dX0_segmentHolds_137 rfl (lv_at hl 1 rfl) ?_
          refine lv_bipush (v := 48) hx hb dX0_segmentHolds_138 (by decide) ?_
          refine lv_iadd hx hb dX0_segmentHolds_140 ?_
          obtain ⟨r36, s35, h34, hf⟩ := bi_s hf
          refine goI Z (run_V (As := [.int ((x1 + (48 : Int32)))]) (rest := []) X Z (c_X0_numberHolds l D h cy ((x1 + (48 : Int32))) s31 (r36, s35) h34 _) lk_RX0_132 ⟨by decide, by decide⟩ rv_40 rfl hl.1 rfl (Nat.le_of_ble_eq_true rfl) ⟨Nat.le_refl _, Nat.le_refl _⟩ dX0_segmentHolds_141) (fun H locs Z => ?_)
          refine lv_if_eq (tgt := 151) hx hb dX0_segmentHolds_144 (by decide) (fun c37 => ?_) (fun c37 => ?_)
          · have hf := itp c37 hf
            refine lv_iconst (v := 0) hx hb dX0_segmentHolds_151 (by decide) ?_
            exact retZ X hr hk Z (by decide) hf dX0_segmentHolds_152
          · have hf := itn c37 hf
            refine lv_iconst (v := 1) hx hb dX0_segmentHolds_147 (by decide) ?_
            refine lv_goto (tgt := 152) hx hb dX0_segmentHolds_148 (by decide) ?_
            exact retZ X hr hk Z (by decide) hf dX0_segmentHolds_152

set_option maxRecDepth 100000 in
set_option maxHeartbeats 4000000 in
theorem b_X0_segmentHolds_53 {p : Program} {l : Launch} {e : Env} {s : State} {m : MethodId} {args : Array Value} {below : List Frame} {meth : Method} {c : Code} {D : va_G} {h : Nat → Nat} {cy : Nat → ClassId} (X : Cx p s m args c D h cy RX0 cX0_segmentHolds 4) (hr : meth.sig.returnType = some .boolean) (hk : meth.locks = false) (x1 : Int32) (x2 : Int64) (t0 : Int32) (σ : St) (y : Int32 × St) (hf : f_X0_segmentHolds_53 x1 x2 t0 σ = some y) : ∀ (H : Heap) (locs : List Loc) (ls : Array Slot), Zt D h cy s σ H locs → lv_has ls 4 [(0, .ref (h 40)), (1, .int x1), (2, .long x2)] → W p l e (rmz 3 70) s m args below meth c H locs 0 0 (EI below args s D h cy y) (F0 m 53 ls [.int t0, .ref (h 39)]) := by
  intro H locs ls Z hl
  have hx := X.x
  have hb := X.b
  unfold f_X0_segmentHolds_53 at hf
  refine lv_iconst (v := 3) hx hb dX0_segmentHolds_53 (by decide) ?_
  refine lv_iload_n hx hb dX0_segmentHolds_54 rfl (lv_at hl 1 rfl) ?_
  refine lv_iconst (v := 4) hx hb dX0_segmentHolds_55 (by decide) ?_
  refine lv_iadd hx hb dX0_segmentHolds_56 ?_
  obtain ⟨r12, s11, h10, hf⟩ := bi_s hf
  refine goI Z (run_V (As := [.int t0, .int (3 : Int32), .int ((x1 + (4 : Int32)))]) (rest := []) X Z (c_X2_unless l D h cy t0 (3 : Int32) ((x1 + (4 : Int32))) σ (r12, s11) h10 _) lk_RX0_76 ⟨by decide, by decide⟩ rv_39 rfl hl.1 rfl (Nat.le_of_ble_eq_true rfl) ⟨Nat.le_refl _, Nat.le_refl _⟩ dX0_segmentHolds_57) (fun H locs Z => ?_)
  refine lv_if_eq (tgt := 151) hx hb dX0_segmentHolds_60 (by decide) (fun c13 => ?_) (fun c13 => ?_)
  · have hf := itp c13 hf
    refine lv_iconst (v := 0) hx hb dX0_segmentHolds_151 (by decide) ?_
    exact retZ X hr hk Z (by decide) hf dX0_segmentHolds_152
  · have hf := itn c13 hf
    refine lv_aload_n hx hb dX0_segmentHolds_63 rfl (lv_at hl 0 rfl) ?_
    refine gf_RX0_15 X Z dX0_segmentHolds_64 ?_
    refine lv_lload_n hx hb dX0_segmentHolds_67 rfl (lv_at hl 2 rfl) ?_
    refine lv_ldc2 (v := 72) hx hb X.o (X.t _ kc_RX0_128) dX0_segmentHolds_68 ?_
    refine lv_ldc2 (v := 80) hx hb X.o (X.t _ kc_RX0_130) dX0_segmentHolds_71 ?_
    refine lv_aload_n hx hb dX0_segmentHolds_74 rfl (lv_at hl 0 rfl) ?_
    refine lv_iload_n hx hb dX0_segmentHolds_75 rfl (lv_at hl 1 rfl) ?_
    refine lv_bipush (v := 64) hx hb dX0_segmentHolds_76 (by decide) ?_
    refine lv_iadd hx hb dX0_segmentHolds_78 ?_
    obtain ⟨r16, s15, h14, hf⟩ := bi_s hf
    refine goL Z (run_V (As := [.int ((x1 + (64 : Int32)))]) (rest := [.long (80 : Int64), .long (72 : Int64), .long x2, .ref (h 39)]) X Z (c_X0_u4 l D h cy ((x1 + (64 : Int32))) s11 (r16, s15) h14 _) lk_RX0_82 ⟨by decide, by decide⟩ rv_40 rfl hl.1 rfl (Nat.le_of_ble_eq_true rfl) ⟨Nat.le_refl _, Nat.le_refl _⟩ dX0_segmentHolds_79) (fun H locs Z => ?_)
    refine lv_lmul hx hb dX0_segmentHolds_82 ?_
    refine lv_ladd hx hb dX0_segmentHolds_83 ?_
    refine x_lif_ne (tgt := 92) X dX0_segmentHolds_84 dX0_segmentHolds_85 (by decide) (fun c17 => ?_) (fun c17 => ?_)
    · have hf := itn c17 hf
      refine lv_iconst (v := 0) hx hb dX0_segmentHolds_92 (by decide) ?_
      exact b_X0_segmentHolds_93 X hr hk x1 (0 : Int32) s15 _ hf _ _ _ Z (lv_sub hl [0, 1] rfl)
    · have hf := itp c17 hf
      refine lv_iconst (v := 1) hx hb dX0_segmentHolds_88 (by decide) ?_
      refine lv_goto (tgt := 93) hx hb dX0_segmentHolds_89 (by decide) ?_
      exact b_X0_segmentHolds_93 X hr hk x1 (1 : Int32) s15 _ hf _ _ _ Z (lv_sub hl [0, 1] rfl)

set_option maxRecDepth 100000 in
set_option maxHeartbeats 4000000 in
theorem b_X0_segmentHolds_28 {p : Program} {l : Launch} {e : Env} {s : State} {m : MethodId} {args : Array Value} {below : List Frame} {meth : Method} {c : Code} {D : va_G} {h : Nat → Nat} {cy : Nat → ClassId} (X : Cx p s m args c D h cy RX0 cX0_segmentHolds 4) (hr : meth.sig.returnType = some .boolean) (hk : meth.locks = false) (x1 : Int32) (x2 : Int64) (t0 : Int32) (σ : St) (y : Int32 × St) (hf : f_X0_segmentHolds_28 x1 x2 t0 σ = some y) : ∀ (H : Heap) (locs : List Loc) (ls : Array Slot), Zt D h cy s σ H locs → lv_has ls 4 [(0, .ref (h 40)), (1, .int x1), (2, .long x2)] → W p l e (rmz 3 70) s m args below meth c H locs 0 0 (EI below args s D h cy y) (F0 m 28 ls [.int t0, .ref (h 39)]) := by
  intro H locs ls Z hl
  have hx := X.x
  have hb := X.b
  unfold f_X0_segmentHolds_28 at hf
  refine lv_iconst (v := 3) hx hb dX0_segmentHolds_28 (by decide) ?_
  refine lv_iload_n hx hb dX0_segmentHolds_29 rfl (lv_at hl 1 rfl) ?_
  obtain ⟨r7, s6, h5, hf⟩ := bi_s hf
  refine goI Z (run_V (As := [.int t0, .int (3 : Int32), .int x1]) (rest := []) X Z (c_X2_unless l D h cy t0 (3 : Int32) x1 σ (r7, s6) h5 _) lk_RX0_76 ⟨by decide, by decide⟩ rv_39 rfl hl.1 rfl (Nat.le_of_ble_eq_true rfl) ⟨Nat.le_refl _, Nat.le_refl _⟩ dX0_segmentHolds_30) (fun H locs Z => ?_)
  refine lv_if_eq (tgt := 151) hx hb dX0_segmentHolds_33 (by decide) (fun c8 => ?_) (fun c8 => ?_)
  · have hf := itp c8 hf
    refine lv_iconst (v := 0) hx hb dX0_segmentHolds_151 (by decide) ?_
    exact retZ X hr hk Z (by decide) hf dX0_segmentHolds_152
  · have hf := itn c8 hf
    refine lv_aload_n hx hb dX0_segmentHolds_36 rfl (lv_at hl 0 rfl) ?_
    refine gf_RX0_15 X Z dX0_segmentHolds_37 ?_
    refine lv_lload_n hx hb dX0_segmentHolds_40 rfl (lv_at hl 2 rfl) ?_
    refine lv_ldc2 (v := 72) hx hb X.o (X.t _ kc_RX0_128) dX0_segmentHolds_41 ?_
    refine x_lif_lt (tgt := 52) X dX0_segmentHolds_44 dX0_segmentHolds_45 (by decide) (fun c9 => ?_) (fun c9 => ?_)
    · have hf := itp c9 hf
      refine lv_iconst (v := 0) hx hb dX0_segmentHolds_52 (by decide) ?_
      exact b_X0_segmentHolds_53 X hr hk x1 x2 (0 : Int32) s6 _ hf _ _ _ Z (lv_sub hl [0, 1, 2] rfl)
    · have hf := itn c9 hf
      refine lv_iconst (v := 1) hx hb dX0_segmentHolds_48 (by decide) ?_
      refine lv_goto (tgt := 53) hx hb dX0_segmentHolds_49 (by decide) ?_
      exact b_X0_segmentHolds_53 X hr hk x1 x2 (1 : Int32) s6 _ hf _ _ _ Z (lv_sub hl [0, 1, 2] rfl)

set_option maxRecDepth 100000 in
set_option maxHeartbeats 4000000 in
theorem c_X0_segmentHolds (l : Launch) (D : va_G) (h : Nat → Nat) (cy : Nat → ClassId) (a1 : Int32) (σ : St) (y : Int32 × St) (hf : f_X0_segmentHolds a1 σ = some y) : CI l yX0_segmentHolds cX0_segmentHolds 4 (some .boolean) 3 70 D h cy [.ref (h 40), .int a1] σ y := by
  refine ent (Qc := fun sz => QI D h cy sz y) (by decide) (Nat.le_of_ble_eq_true rfl) ?_
  intro p e s m below meth c ls X Z hr hk hl
  have X : Cx p s m _ c D h cy RX0 cX0_segmentHolds 4 := X
  have hx := X.x
  have hb := X.b
  have hl : lv_has ls 4 [(0, .ref (h 40)), (1, .int a1)] := hl
  unfold f_X0_segmentHolds at hf
  refine lv_aload_n hx hb dX0_segmentHolds_0 rfl (lv_at hl 0 rfl) ?_
  refine lv_iload_n hx hb dX0_segmentHolds_1 rfl (lv_at hl 1 rfl) ?_
  refine lv_iconst (v := 4) hx hb dX0_segmentHolds_2 (by decide) ?_
  refine lv_iadd hx hb dX0_segmentHolds_3 ?_
  obtain ⟨r3, s2, h1, hf⟩ := bi_s hf
  refine goL Z (run_V (As := [.int ((a1 + (4 : Int32)))]) (rest := []) X Z (c_X0_u4 l D h cy ((a1 + (4 : Int32))) σ (r3, s2) h1 _) lk_RX0_82 ⟨by decide, by decide⟩ rv_40 rfl hl.1 rfl (Nat.le_of_ble_eq_true rfl) ⟨Nat.le_refl _, Nat.le_refl _⟩ dX0_segmentHolds_4) (fun H locs Z => ?_)
  refine lv_lstore_n (lv' := [(2, .long r3), (0, .ref (h 40)), (1, .int a1)]) hx hb dX0_segmentHolds_7 rfl hl (by decide) rfl (fun ls hl => ?_)
  refine lv_aload_n hx hb dX0_segmentHolds_8 rfl (lv_at hl 1 rfl) ?_
  refine gf_RX0_15 X Z dX0_segmentHolds_9 ?_
  refine lv_aload_n hx hb dX0_segmentHolds_12 rfl (lv_at hl 1 rfl) ?_
  refine gf_RX0_22 X Z dX0_segmentHolds_13 ?_
  refine gf_RX0_125 X Z segs_41 dX0_segmentHolds_16 ?_
  refine lv_iconst (v := 4) hx hb dX0_segmentHolds_19 (by decide) ?_
  refine lv_icmp_ge (tgt := 27) hx hb dX0_segmentHolds_20 (by decide) (fun c4 => ?_) (fun c4 => ?_)
  · have hf := itp c4 hf
    refine lv_iconst (v := 0) hx hb dX0_segmentHolds_27 (by decide) ?_
    exact b_X0_segmentHolds_28 X hr hk a1 r3 (0 : Int32) s2 _ hf _ _ _ Z (lv_sub hl [1, 2, 0] rfl)
  · have hf := itn c4 hf
    refine lv_iconst (v := 1) hx hb dX0_segmentHolds_23 (by decide) ?_
    refine lv_goto (tgt := 28) hx hb dX0_segmentHolds_24 (by decide) ?_
    exact b_X0_segmentHolds_28 X hr hk a1 r3 (1 : Int32) s2 _ hf _ _ _ Z (lv_sub hl [1, 2, 0] rfl)

set_option maxRecDepth 100000 in
set_option maxHeartbeats 4000000 in
theorem b_X7_spanOfAll_4b {p : Program} {l : Launch} {e : Env} {s : State} {m : MethodId} {args : Array Value} {below : List Frame} {meth : Method} {c : Code} {D : va_G} {h : Nat → Nat} {cy : Nat → ClassId} (X : Cx p s m args c D h cy RX7 cX7_spanOfAll 3) (hr : meth.sig.returnType = some .int) (hk : meth.locks = false) {k0 : Nat} (hR0 : SegsS k0) (K4 : (Int32 × Int32 × St) → Option (Int32 × St)) (hK4 : ∀ (a : Int32 × Int32 × St) (y : Int32 × St), K4 a = some y → ∀ (H : Heap) (locs : List Loc) (ls : Array Slot), Zt D h cy s a.2.2 H locs → lv_has ls 3 [(0, .ref (h k0)), (1, .int a.1), (2, .int a.2.1)] → W p l e (rmz 0 0) s m args below meth c H locs 0 0 (EI below args s D h cy y) (F0 m 4 ls [])) (x1 : Int32) (x2 : Int32) (σ : St) (y : Int32 × St) (hf : f_X7_spanOfAll_4b k0 K4 x1 x2 σ = some y) : ∀ (H : Heap) (locs : List Loc) (ls : Array Slot), Zt D h cy s σ H locs → lv_has ls 3 [(0, .ref (h k0)), (1, .int x1), (2, .int x2)] → W p l e (rmz 0 0) s m args below meth c H locs 0 0 (EI below args s D h cy y) (F0 m 4 ls []) := by
  intro H locs ls Z hl
  have hx := X.x
  have hb := X.b
  unfold f_X7_spanOfAll_4b at hf
  refine lv_iload_n hx hb dX7_spanOfAll_4 rfl (lv_at hl 2 rfl) ?_
  refine lv_aload_n hx hb dX7_spanOfAll_5 rfl (lv_at hl 0 rfl) ?_
  refine gf_RX7_24 X Z hR0 dX7_spanOfAll_6 ?_
  refine lv_icmp_ge (tgt := 27) hx hb dX7_spanOfAll_9 (by decide) (fun c3 => ?_) (fun c3 => ?_)
  · have hf := itp c3 hf
    refine lv_iload_n hx hb dX7_spanOfAll_27 rfl (lv_at hl 1 rfl) ?_
    exact retI X hr hk Z hf dX7_spanOfAll_28
  · have hf := itn c3 hf
    refine lv_iload_n hx hb dX7_spanOfAll_12 rfl (lv_at hl 1 rfl) ?_
    refine lv_aload_n hx hb dX7_spanOfAll_13 rfl (lv_at hl 0 rfl) ?_
    refine gf_RX7_15 X Z hR0 dX7_spanOfAll_14 ?_
    refine lv_iload_n hx hb dX7_spanOfAll_17 rfl (lv_at hl 2 rfl) ?_
    obtain ⟨g4, hf⟩ := gd_s hf
    refine x_iald (k := (k0 + 2)) X Z hR0.2.2.1 g4 dX7_spanOfAll_18 ?_
    refine lv_iadd hx hb dX7_spanOfAll_19 ?_
    refine lv_topi (fun v5 ev5 => ?_)
    have hf := zn_e ev5 hf
    refine lv_istore_n (lv' := [(1, .int v5), (0, .ref (h k0)), (2, .int x2)]) hx hb dX7_spanOfAll_20 rfl hl (by decide) rfl (fun ls hl => ?_)
    obtain ⟨v6, ev6⟩ : ∃ z : Int32, z = x2 + 1 := ⟨_, rfl⟩
    have hf := zn_e ev6 hf
    refine lv_iinc (v := v6) (lv' := [(2, .int v6), (1, .int v5), (0, .ref (h k0))]) hx hb dX7_spanOfAll_21 hl (k := 2) rfl (by rw [ev6]; rfl) (by decide) rfl (fun ls hl => ?_)
    refine lv_goto (tgt := 4) hx hb dX7_spanOfAll_24 (by decide) ?_
    exact hK4 (v5, v6, σ) _ hf _ _ _ Z (lv_sub hl [2, 1, 0] rfl)

set_option maxRecDepth 100000 in
set_option maxHeartbeats 4000000 in
theorem b_X7_spanOfAll_4 {p : Program} {l : Launch} {e : Env} {s : State} {m : MethodId} {args : Array Value} {below : List Frame} {meth : Method} {c : Code} {D : va_G} {h : Nat → Nat} {cy : Nat → ClassId} (X : Cx p s m args c D h cy RX7 cX7_spanOfAll 3) (hr : meth.sig.returnType = some .int) (hk : meth.locks = false) {k0 : Nat} (hR0 : SegsS k0) (x1 : Int32) (x2 : Int32) (σ : St) (y : Int32 × St) (hf : f_X7_spanOfAll_4 k0 x1 x2 σ = some y) : ∀ (H : Heap) (locs : List Loc) (ls : Array Slot), Zt D h cy s σ H locs → lv_has ls 3 [(0, .ref (h k0)), (1, .int x1), (2, .int x2)] → W p l e (rmz 0 0) s m args below meth c H locs 0 0 (EI below args s D h cy y) (F0 m 4 ls []) := by
  exact it_W (F := fun K a => f_X7_spanOfAll_4b k0 K a.1 a.2.1 a.2.2) (P := fun a y => ∀ (H : Heap) (locs : List Loc) (ls : Array Slot), Zt D h cy s a.2.2 H locs → lv_has ls 3 [(0, .ref (h k0)), (1, .int a.1), (2, .int a.2.1)] → W p l e (rmz 0 0) s m args below meth c H locs 0 0 (EI below args s D h cy y) (F0 m 4 ls [])) (fun K hK a y hf => b_X7_spanOfAll_4b X hr hk hR0 K hK (a.1) (a.2.1) (a.2.2) y hf) FU _ y hf

set_option maxRecDepth 100000 in
set_option maxHeartbeats 4000000 in
theorem c_X7_spanOfAll (l : Launch) (D : va_G) (h : Nat → Nat) (cy : Nat → ClassId) {k0 : Nat} (hR0 : SegsS k0) (σ : St) (y : Int32 × St) (hf : f_X7_spanOfAll k0 σ = some y) : CI l yX7_spanOfAll cX7_spanOfAll 3 (some .int) 0 0 D h cy [.ref (h k0)] σ y := by
  refine ent (Qc := fun sz => QI D h cy sz y) (by decide) (Nat.le_of_ble_eq_true rfl) ?_
  intro p e s m below meth c ls X Z hr hk hl
  have X : Cx p s m _ c D h cy RX7 cX7_spanOfAll 3 := X
  have hx := X.x
  have hb := X.b
  have hl : lv_has ls 3 [(0, .ref (h k0))] := hl
  unfold f_X7_spanOfAll at hf
  refine lv_iconst (v := 0) hx hb dX7_spanOfAll_0 (by decide) ?_
  refine lv_topi (fun v1 ev1 => ?_)
  have hf := zn_e ev1 hf
  refine lv_istore_n (lv' := [(1, .int v1), (0, .ref (h k0))]) hx hb dX7_spanOfAll_1 rfl hl (by decide) rfl (fun ls hl => ?_)
  refine lv_iconst (v := 0) hx hb dX7_spanOfAll_2 (by decide) ?_
  refine lv_topi (fun v2 ev2 => ?_)
  have hf := zn_e ev2 hf
  refine lv_istore_n (lv' := [(2, .int v2), (1, .int v1), (0, .ref (h k0))]) hx hb dX7_spanOfAll_3 rfl hl (by decide) rfl (fun ls hl => ?_)
  exact b_X7_spanOfAll_4 X hr hk hR0 v1 v2 σ _ hf _ _ _ Z (lv_sub hl [2, 1, 0] rfl)

set_option maxRecDepth 100000 in
set_option maxHeartbeats 4000000 in
theorem b_X7_shareByte_3b {p : Program} {l : Launch} {e : Env} {s : State} {m : MethodId} {args : Array Value} {below : List Frame} {meth : Method} {c : Code} {D : va_G} {h : Nat → Nat} {cy : Nat → ClassId} (X : Cx p s m args c D h cy RX7 cX7_shareByte 8) (hr : meth.sig.returnType = some .boolean) (hk : meth.locks = false) {k0 : Nat} (hR0 : SegsS k0) (K3 : (Int64 × Int64 × Int32 × St) → Option (Int32 × St)) (hK3 : ∀ (a : Int64 × Int64 × Int32 × St) (y : Int32 × St), K3 a = some y → ∀ (H : Heap) (locs : List Loc) (ls : Array Slot), Zt D h cy s a.2.2.2 H locs → lv_has ls 8 [(0, .ref (h k0)), (1, .long a.1), (3, .long a.2.1), (5, .int a.2.2.1)] → W p l e (rmz 1 40) s m args below meth c H locs 0 0 (EI below args s D h cy y) (F0 m 3 ls [])) (x1 : Int64) (x3 : Int64) (x5 : Int32) (σ : St) (y : Int32 × St) (hf : f_X7_shareByte_3b k0 K3 x1 x3 x5 σ = some y) : ∀ (H : Heap) (locs : List Loc) (ls : Array Slot), Zt D h cy s σ H locs → lv_has ls 8 [(0, .ref (h k0)), (1, .long x1), (3, .long x3), (5, .int x5)] → W p l e (rmz 1 40) s m args below meth c H locs 0 0 (EI below args s D h cy y) (F0 m 3 ls []) := by
  intro H locs ls Z hl
  have hx := X.x
  have hb := X.b
  unfold f_X7_shareByte_3b at hf
  refine lv_iload hx hb dX7_shareByte_3 (lv_at hl 3 rfl) ?_
  refine lv_aload_n hx hb dX7_shareByte_5 rfl (lv_at hl 0 rfl) ?_
  refine gf_RX7_24 X Z hR0 dX7_shareByte_6 ?_
  refine lv_icmp_ge (tgt := 63) hx hb dX7_shareByte_9 (by decide) (fun c2 => ?_) (fun c2 => ?_)
  · have hf := itp c2 hf
    refine lv_iconst (v := 0) hx hb dX7_shareByte_63 (by decide) ?_
    exact retZ X hr hk Z (by decide) hf dX7_shareByte_64
  · have hf := itn c2 hf
    refine lv_lload_n hx hb dX7_shareByte_12 rfl (lv_at hl 1 rfl) ?_
    refine lv_lload_n hx hb dX7_shareByte_13 rfl (lv_at hl 2 rfl) ?_
    refine lv_ladd hx hb dX7_shareByte_14 ?_
    refine lv_aload_n hx hb dX7_shareByte_15 rfl (lv_at hl 0 rfl) ?_
    refine gf_RX7_9 X Z hR0 dX7_shareByte_16 ?_
    refine lv_iload hx hb dX7_shareByte_19 (lv_at hl 3 rfl) ?_
    obtain ⟨g3, hf⟩ := gd_s hf
    refine x_iald (k := (k0 + 1)) X Z hR0.2.1 g3 dX7_shareByte_21 ?_
    refine lv_i2l (v := ((σ.1 (k0 + 1) x5.toNatClampNeg)).toInt64) hx hb dX7_shareByte_22 rfl ?_
    refine lv_aload_n hx hb dX7_shareByte_23 rfl (lv_at hl 0 rfl) ?_
    refine gf_RX7_15 X Z hR0 dX7_shareByte_24 ?_
    refine lv_iload hx hb dX7_shareByte_27 (lv_at hl 3 rfl) ?_
    obtain ⟨g4, hf⟩ := gd_s hf
    refine x_iald (k := (k0 + 2)) X Z hR0.2.2.1 g4 dX7_shareByte_29 ?_
    refine lv_i2l (v := ((σ.1 (k0 + 2) x5.toNatClampNeg)).toInt64) hx hb dX7_shareByte_30 rfl ?_
    refine lv_ladd hx hb dX7_shareByte_31 ?_
    refine x_mminl X hl.1 mm_RX7_28 (by decide) (Nat.le_of_ble_eq_true rfl) ⟨Nat.le_refl _, Nat.le_refl _⟩ dX7_shareByte_32 ?_
    refine lv_topl (fun v5 ev5 => ?_)
    have hf := zn_e ev5 hf
    refine lv_lstore (lv' := [(6, .long v5), (0, .ref (h k0)), (1, .long x1), (3, .long x3), (5, .int x5)]) hx hb dX7_shareByte_35 hl (by decide) rfl (fun ls hl => ?_)
    refine lv_lload_n hx hb dX7_shareByte_37 rfl (lv_at hl 2 rfl) ?_
    refine lv_aload_n hx hb dX7_shareByte_38 rfl (lv_at hl 1 rfl) ?_
    refine gf_RX7_9 X Z hR0 dX7_shareByte_39 ?_
    refine lv_iload hx hb dX7_shareByte_42 (lv_at hl 4 rfl) ?_
    obtain ⟨g6, hf⟩ := gd_s hf
    refine x_iald (k := (k0 + 1)) X Z hR0.2.1 g6 dX7_shareByte_44 ?_
    refine lv_i2l (v := ((σ.1 (k0 + 1) x5.toNatClampNeg)).toInt64) hx hb dX7_shareByte_45 rfl ?_
    refine x_mmaxl X hl.1 mm_RX7_34 (by decide) (Nat.le_of_ble_eq_true rfl) ⟨Nat.le_refl _, Nat.le_refl _⟩ dX7_shareByte_46 ?_
    refine lv_lload hx hb dX7_shareByte_49 (lv_at hl 0 rfl) ?_
    refine x_lif_ge (tgt := 57) X dX7_shareByte_51 dX7_shareByte_52 (by decide) (fun c7 => ?_) (fun c7 => ?_)
    · have hf := itp c7 hf
      obtain ⟨v8, ev8⟩ : ∃ z : Int32, z = x5 + 1 := ⟨_, rfl⟩
      have hf := zn_e ev8 hf
      refine lv_iinc (v := v8) (lv' := [(5, .int v8), (6, .long v5), (0, .ref (h k0)), (1, .long x1), (3, .long x3)]) hx hb dX7_shareByte_57 hl (k := 4) rfl (by rw [ev8]; rfl) (by decide) rfl (fun ls hl => ?_)
      refine lv_goto (tgt := 3) hx hb dX7_shareByte_60 (by decide) ?_
      exact hK3 (x1, x3, v8, σ) _ hf _ _ _ Z (lv_sub hl [2, 3, 4, 0] rfl)
    · have hf := itn c7 hf
      refine lv_iconst (v := 1) hx hb dX7_shareByte_55 (by decide) ?_
      exact retZ X hr hk Z (by decide) hf dX7_shareByte_56

set_option maxRecDepth 100000 in
set_option maxHeartbeats 4000000 in
theorem b_X7_shareByte_3 {p : Program} {l : Launch} {e : Env} {s : State} {m : MethodId} {args : Array Value} {below : List Frame} {meth : Method} {c : Code} {D : va_G} {h : Nat → Nat} {cy : Nat → ClassId} (X : Cx p s m args c D h cy RX7 cX7_shareByte 8) (hr : meth.sig.returnType = some .boolean) (hk : meth.locks = false) {k0 : Nat} (hR0 : SegsS k0) (x1 : Int64) (x3 : Int64) (x5 : Int32) (σ : St) (y : Int32 × St) (hf : f_X7_shareByte_3 k0 x1 x3 x5 σ = some y) : ∀ (H : Heap) (locs : List Loc) (ls : Array Slot), Zt D h cy s σ H locs → lv_has ls 8 [(0, .ref (h k0)), (1, .long x1), (3, .long x3), (5, .int x5)] → W p l e (rmz 1 40) s m args below meth c H locs 0 0 (EI below args s D h cy y) (F0 m 3 ls []) := by
  exact it_W (F := fun K a => f_X7_shareByte_3b k0 K a.1 a.2.1 a.2.2.1 a.2.2.2) (P := fun a y => ∀ (H : Heap) (locs : List Loc) (ls : Array Slot), Zt D h cy s a.2.2.2 H locs → lv_has ls 8 [(0, .ref (h k0)), (1, .long a.1), (3, .long a.2.1), (5, .int a.2.2.1)] → W p l e (rmz 1 40) s m args below meth c H locs 0 0 (EI below args s D h cy y) (F0 m 3 ls [])) (fun K hK a y hf => b_X7_shareByte_3b X hr hk hR0 K hK (a.1) (a.2.1) (a.2.2.1) (a.2.2.2) y hf) FU _ y hf

set_option maxRecDepth 100000 in
set_option maxHeartbeats 4000000 in
theorem c_X7_shareByte (l : Launch) (D : va_G) (h : Nat → Nat) (cy : Nat → ClassId) {k0 : Nat} (hR0 : SegsS k0) (a1 : Int64) (a2 : Int64) (σ : St) (y : Int32 × St) (hf : f_X7_shareByte k0 a1 a2 σ = some y) : CI l yX7_shareByte cX7_shareByte 8 (some .boolean) 1 40 D h cy [.ref (h k0), .long a1, .long a2] σ y := by
  refine ent (Qc := fun sz => QI D h cy sz y) (by decide) (Nat.le_of_ble_eq_true rfl) ?_
  intro p e s m below meth c ls X Z hr hk hl
  have X : Cx p s m _ c D h cy RX7 cX7_shareByte 8 := X
  have hx := X.x
  have hb := X.b
  have hl : lv_has ls 8 [(0, .ref (h k0)), (1, .long a1), (3, .long a2)] := hl
  unfold f_X7_shareByte at hf
  refine lv_iconst (v := 0) hx hb dX7_shareByte_0 (by decide) ?_
  refine lv_topi (fun v1 ev1 => ?_)
  have hf := zn_e ev1 hf
  refine lv_istore (lv' := [(5, .int v1), (0, .ref (h k0)), (1, .long a1), (3, .long a2)]) hx hb dX7_shareByte_1 hl (by decide) rfl (fun ls hl => ?_)
  exact b_X7_shareByte_3 X hr hk hR0 a1 a2 v1 σ _ hf _ _ _ Z (lv_sub hl [1, 2, 3, 0] rfl)

set_option maxRecDepth 100000 in
set_option maxHeartbeats 4000000 in
theorem c_X7_add (l : Launch) (D : va_G) (h : Nat → Nat) (cy : Nat → ClassId) {k0 : Nat} (hR0 : SegsS k0) (a1 : Int32) (a2 : Int32) (a3 : Int32) (a4 : Int32) (σ : St) (y : St) (hf : f_X7_add k0 a1 a2 a3 a4 σ = some y) : CV l yX7_add cX7_add 5 none 0 0 D h cy [.ref (h k0), .int a1, .int a2, .int a3, .int a4] σ y := by
  refine ent (Qc := fun sz => QV D h cy sz y) (by decide) (Nat.le_of_ble_eq_true rfl) ?_
  intro p e s m below meth c ls X Z hr hk hl
  have X : Cx p s m _ c D h cy RX7 cX7_add 5 := X
  have hx := X.x
  have hb := X.b
  have hl : lv_has ls 5 [(0, .ref (h k0)), (1, .int a1), (2, .int a2), (3, .int a3), (4, .int a4)] := hl
  unfold f_X7_add at hf
  refine lv_aload_n hx hb dX7_add_0 rfl (lv_at hl 0 rfl) ?_
  refine gf_RX7_24 X Z hR0 dX7_add_1 ?_
  refine lv_iconst (v := 4) hx hb dX7_add_4 (by decide) ?_
  refine lv_icmp_ge (tgt := 59) hx hb dX7_add_5 (by decide) (fun c1 => ?_) (fun c1 => ?_)
  · have hf := itp c1 hf
    exact retV X hr hk Z hf dX7_add_59
  · have hf := itn c1 hf
    refine lv_aload_n hx hb dX7_add_8 rfl (lv_at hl 0 rfl) ?_
    refine gf_RX7_9 X Z hR0 dX7_add_9 ?_
    refine lv_aload_n hx hb dX7_add_12 rfl (lv_at hl 0 rfl) ?_
    refine gf_RX7_24 X Z hR0 dX7_add_13 ?_
    refine lv_iload_n hx hb dX7_add_16 rfl (lv_at hl 1 rfl) ?_
    obtain ⟨g2, hf⟩ := gd_s hf
    refine x_iast (k := (k0 + 1)) X Z hR0.2.1 g2 dX7_add_17 (fun s3 H locs es3 Z => ?_)
    have hf := zn_e es3 hf
    refine lv_aload_n hx hb dX7_add_18 rfl (lv_at hl 0 rfl) ?_
    refine gf_RX7_15 X Z hR0 dX7_add_19 ?_
    refine lv_aload_n hx hb dX7_add_22 rfl (lv_at hl 0 rfl) ?_
    refine gf_RX7_24 X Z hR0 dX7_add_23 ?_
    refine lv_iload_n hx hb dX7_add_26 rfl (lv_at hl 2 rfl) ?_
    obtain ⟨g4, hf⟩ := gd_s hf
    refine x_iast (k := (k0 + 2)) X Z hR0.2.2.1 g4 dX7_add_27 (fun s5 H locs es5 Z => ?_)
    have hf := zn_e es5 hf
    refine lv_aload_n hx hb dX7_add_28 rfl (lv_at hl 0 rfl) ?_
    refine gf_RX7_18 X Z hR0 dX7_add_29 ?_
    refine lv_aload_n hx hb dX7_add_32 rfl (lv_at hl 0 rfl) ?_
    refine gf_RX7_24 X Z hR0 dX7_add_33 ?_
    refine lv_iload_n hx hb dX7_add_36 rfl (lv_at hl 3 rfl) ?_
    obtain ⟨g6, hf⟩ := gd_s hf
    refine x_iast (k := (k0 + 3)) X Z hR0.2.2.2.1 g6 dX7_add_37 (fun s7 H locs es7 Z => ?_)
    have hf := zn_e es7 hf
    refine lv_aload_n hx hb dX7_add_38 rfl (lv_at hl 0 rfl) ?_
    refine gf_RX7_21 X Z hR0 dX7_add_39 ?_
    refine lv_aload_n hx hb dX7_add_42 rfl (lv_at hl 0 rfl) ?_
    refine gf_RX7_24 X Z hR0 dX7_add_43 ?_
    refine lv_iload hx hb dX7_add_46 (lv_at hl 4 rfl) ?_
    obtain ⟨g8, hf⟩ := gd_s hf
    refine x_iast (k := (k0 + 4)) X Z hR0.2.2.2.2 g8 dX7_add_48 (fun s9 H locs es9 Z => ?_)
    have hf := zn_e es9 hf
    refine lv_aload_n hx hb dX7_add_49 rfl (lv_at hl 0 rfl) ?_
    refine lv_dup hx hb dX7_add_50 rfl ?_
    refine gf_RX7_24 X Z hR0 dX7_add_51 ?_
    refine lv_iconst (v := 1) hx hb dX7_add_54 (by decide) ?_
    refine lv_iadd hx hb dX7_add_55 ?_
    refine pf_RX7_24 X Z hR0 dX7_add_56 (fun s10 H locs es10 Z => ?_)
    have hf := zn_e es10 hf
    exact retV X hr hk Z hf dX7_add_59

set_option maxRecDepth 100000 in
set_option maxHeartbeats 4000000 in
theorem b_X0_spanHolds_196 {p : Program} {l : Launch} {e : Env} {s : State} {m : MethodId} {args : Array Value} {below : List Frame} {meth : Method} {c : Code} {D : va_G} {h : Nat → Nat} {cy : Nat → ClassId} (X : Cx p s m args c D h cy RX0 cX0_spanHolds 10) (hr : meth.sig.returnType = some .boolean) (hk : meth.locks = false) (x1 : Int32) (x2 : Int64) (x4 : Int64) (x6 : Int64) (x8 : Int64) (t0 : Int32) (σ : St) (y : Int32 × St) (hf : f_X0_spanHolds_196 x1 x2 x4 x6 x8 t0 σ = some y) : ∀ (H : Heap) (locs : List Loc) (ls : Array Slot), Zt D h cy s σ H locs → lv_has ls 10 [(0, .ref (h 40)), (1, .int x1), (2, .long x2), (4, .long x4), (6, .long x6), (8, .long x8)] → W p l e (rmz 2 67) s m args below meth c H locs 0 0 (EI below args s D h cy y) (F0 m 196 ls [.int t0, .ref (h 39)]) := by
  intro H locs ls Z hl
  have hx := X.x
  have hb := X.b
  unfold f_X0_spanHolds_196 at hf
  refine lv_bipush (v := 6) hx hb dX0_spanHolds_196 (by decide) ?_
  refine lv_iload_n hx hb dX0_spanHolds_198 rfl (lv_at hl 1 rfl) ?_
  refine lv_bipush (v := 24) hx hb dX0_spanHolds_199 (by decide) ?_
  refine lv_iadd hx hb dX0_spanHolds_201 ?_
  obtain ⟨r42, s41, h40, hf⟩ := bi_s hf
  refine goI Z (run_V (As := [.int t0, .int (6 : Int32), .int ((x1 + (24 : Int32)))]) (rest := []) X Z (c_X2_unless l D h cy t0 (6 : Int32) ((x1 + (24 : Int32))) σ (r42, s41) h40 _) lk_RX0_76 ⟨by decide, by decide⟩ rv_39 rfl hl.1 rfl (Nat.le_of_ble_eq_true rfl) ⟨Nat.le_refl _, Nat.le_refl _⟩ dX0_spanHolds_202) (fun H locs Z => ?_)
  refine lv_if_eq (tgt := 228) hx hb dX0_spanHolds_205 (by decide) (fun c43 => ?_) (fun c43 => ?_)
  · have hf := itp c43 hf
    refine lv_iconst (v := 0) hx hb dX0_spanHolds_228 (by decide) ?_
    exact retZ X hr hk Z (by decide) hf dX0_spanHolds_229
  · have hf := itn c43 hf
    refine lv_aload_n hx hb dX0_spanHolds_208 rfl (lv_at hl 0 rfl) ?_
    refine gf_RX0_22 X Z dX0_spanHolds_209 ?_
    refine lv_lload_n hx hb dX0_spanHolds_212 rfl (lv_at hl 2 rfl) ?_
    refine lv_l2i (v := x2.toInt32) hx hb dX0_spanHolds_213 rfl ?_
    refine lv_lload hx hb dX0_spanHolds_214 (lv_at hl 3 rfl) ?_
    refine lv_l2i (v := x4.toInt32) hx hb dX0_spanHolds_216 rfl ?_
    refine lv_lload hx hb dX0_spanHolds_217 (lv_at hl 4 rfl) ?_
    refine lv_l2i (v := x6.toInt32) hx hb dX0_spanHolds_219 rfl ?_
    refine lv_lload hx hb dX0_spanHolds_220 (lv_at hl 5 rfl) ?_
    refine lv_l2i (v := x8.toInt32) hx hb dX0_spanHolds_222 rfl ?_
    obtain ⟨s45, h44, hf⟩ := bv_s hf
    refine goV Z (run_V (As := [.int x2.toInt32, .int x4.toInt32, .int x6.toInt32, .int x8.toInt32]) (rest := []) X Z (c_X7_add l D h cy segs_41 x2.toInt32 x4.toInt32 x6.toInt32 x8.toInt32 s41 s45 h44 _) lk_RX0_150 ⟨by decide, by decide⟩ (rv_SegsS segs_41) rfl hl.1 rfl (Nat.le_of_ble_eq_true rfl) ⟨Nat.le_refl _, Nat.le_refl _⟩ dX0_spanHolds_223) (fun H locs Z => ?_)
    refine lv_iconst (v := 1) hx hb dX0_spanHolds_226 (by decide) ?_
    exact retZ X hr hk Z (by decide) hf dX0_spanHolds_227

set_option maxRecDepth 100000 in
set_option maxHeartbeats 4000000 in
theorem b_X0_spanHolds_162 {p : Program} {l : Launch} {e : Env} {s : State} {m : MethodId} {args : Array Value} {below : List Frame} {meth : Method} {c : Code} {D : va_G} {h : Nat → Nat} {cy : Nat → ClassId} (X : Cx p s m args c D h cy RX0 cX0_spanHolds 10) (hr : meth.sig.returnType = some .boolean) (hk : meth.locks = false) (x1 : Int32) (x2 : Int64) (x4 : Int64) (x6 : Int64) (x8 : Int64) (t0 : Int32) (σ : St) (y : Int32 × St) (hf : f_X0_spanHolds_162 x1 x2 x4 x6 x8 t0 σ = some y) : ∀ (H : Heap) (locs : List Loc) (ls : Array Slot), Zt D h cy s σ H locs → lv_has ls 10 [(0, .ref (h 40)), (1, .int x1), (2, .long x2), (4, .long x4), (6, .long x6), (8, .long x8)] → W p l e (rmz 2 67) s m args below meth c H locs 0 0 (EI below args s D h cy y) (F0 m 162 ls [.int t0, .ref (h 39)]) := by
  intro H locs ls Z hl
  have hx := X.x
  have hb := X.b
  unfold f_X0_spanHolds_162 at hf
  refine lv_bipush (v := 6) hx hb dX0_spanHolds_162 (by decide) ?_
  refine lv_iload_n hx hb dX0_spanHolds_164 rfl (lv_at hl 1 rfl) ?_
  refine lv_bipush (v := 48) hx hb dX0_spanHolds_165 (by decide) ?_
  refine lv_iadd hx hb dX0_spanHolds_167 ?_
  obtain ⟨r34, s33, h32, hf⟩ := bi_s hf
  refine goI Z (run_V (As := [.int t0, .int (6 : Int32), .int ((x1 + (48 : Int32)))]) (rest := []) X Z (c_X2_unless l D h cy t0 (6 : Int32) ((x1 + (48 : Int32))) σ (r34, s33) h32 _) lk_RX0_76 ⟨by decide, by decide⟩ rv_39 rfl hl.1 rfl (Nat.le_of_ble_eq_true rfl) ⟨Nat.le_refl _, Nat.le_refl _⟩ dX0_spanHolds_168) (fun H locs Z => ?_)
  refine lv_if_eq (tgt := 228) hx hb dX0_spanHolds_171 (by decide) (fun c35 => ?_) (fun c35 => ?_)
  · have hf := itp c35 hf
    refine lv_iconst (v := 0) hx hb dX0_spanHolds_228 (by decide) ?_
    exact retZ X hr hk Z (by decide) hf dX0_spanHolds_229
  · have hf := itn c35 hf
    refine lv_aload_n hx hb dX0_spanHolds_174 rfl (lv_at hl 0 rfl) ?_
    refine gf_RX0_15 X Z dX0_spanHolds_175 ?_
    refine lv_aload_n hx hb dX0_spanHolds_178 rfl (lv_at hl 0 rfl) ?_
    refine gf_RX0_22 X Z dX0_spanHolds_179 ?_
    refine lv_lload_n hx hb dX0_spanHolds_182 rfl (lv_at hl 2 rfl) ?_
    refine lv_lload hx hb dX0_spanHolds_183 (lv_at hl 3 rfl) ?_
    obtain ⟨r38, s37, h36, hf⟩ := bi_s hf
    refine goI Z (run_V (As := [.long x2, .long x4]) (rest := [.ref (h 39)]) X Z (c_X7_shareByte l D h cy segs_41 x2 x4 s33 (r38, s37) h36 _) lk_RX0_146 ⟨by decide, by decide⟩ (rv_SegsS segs_41) rfl hl.1 rfl (Nat.le_of_ble_eq_true rfl) ⟨Nat.le_refl _, Nat.le_refl _⟩ dX0_spanHolds_185) (fun H locs Z => ?_)
    refine lv_if_ne (tgt := 195) hx hb dX0_spanHolds_188 (by decide) (fun c39 => ?_) (fun c39 => ?_)
    · have hf := itn c39 hf
      refine lv_iconst (v := 0) hx hb dX0_spanHolds_195 (by decide) ?_
      exact b_X0_spanHolds_196 X hr hk x1 x2 x4 x6 x8 (0 : Int32) s37 _ hf _ _ _ Z (lv_sub hl [0, 1, 2, 3, 4, 5] rfl)
    · have hf := itp c39 hf
      refine lv_iconst (v := 1) hx hb dX0_spanHolds_191 (by decide) ?_
      refine lv_goto (tgt := 196) hx hb dX0_spanHolds_192 (by decide) ?_
      exact b_X0_spanHolds_196 X hr hk x1 x2 x4 x6 x8 (1 : Int32) s37 _ hf _ _ _ Z (lv_sub hl [0, 1, 2, 3, 4, 5] rfl)

set_option maxRecDepth 100000 in
set_option maxHeartbeats 4000000 in
theorem b_X0_spanHolds_134 {p : Program} {l : Launch} {e : Env} {s : State} {m : MethodId} {args : Array Value} {below : List Frame} {meth : Method} {c : Code} {D : va_G} {h : Nat → Nat} {cy : Nat → ClassId} (X : Cx p s m args c D h cy RX0 cX0_spanHolds 10) (hr : meth.sig.returnType = some .boolean) (hk : meth.locks = false) (x1 : Int32) (x2 : Int64) (x4 : Int64) (x6 : Int64) (x8 : Int64) (t0 : Int32) (σ : St) (y : Int32 × St) (hf : f_X0_spanHolds_134 x1 x2 x4 x6 x8 t0 σ = some y) : ∀ (H : Heap) (locs : List Loc) (ls : Array Slot), Zt D h cy s σ H locs → lv_has ls 10 [(0, .ref (h 40)), (1, .int x1), (2, .long x2), (4, .long x4), (6, .long x6), (8, .long x8)] → W p l e (rmz 2 67) s m args below meth c H locs 0 0 (EI below args s D h cy y) (F0 m 134 ls [.int t0, .ref (h 39)]) := by
  intro H locs ls Z hl
  have hx := X.x
  have hb := X.b
  unfold f_X0_spanHolds_134 at hf
  refine lv_iconst (v := 1) hx hb dX0_spanHolds_134 (by decide) ?_
  refine lv_iload_n hx hb dX0_spanHolds_135 rfl (lv_at hl 1 rfl) ?_
  refine lv_bipush (v := 40) hx hb dX0_spanHolds_136 (by decide) ?_
  refine lv_iadd hx hb dX0_spanHolds_138 ?_
  obtain ⟨r29, s28, h27, hf⟩ := bi_s hf
  refine goI Z (run_V (As := [.int t0, .int (1 : Int32), .int ((x1 + (40 : Int32)))]) (rest := []) X Z (c_X2_unless l D h cy t0 (1 : Int32) ((x1 + (40 : Int32))) σ (r29, s28) h27 _) lk_RX0_76 ⟨by decide, by decide⟩ rv_39 rfl hl.1 rfl (Nat.le_of_ble_eq_true rfl) ⟨Nat.le_refl _, Nat.le_refl _⟩ dX0_spanHolds_139) (fun H locs Z => ?_)
  refine lv_if_eq (tgt := 228) hx hb dX0_spanHolds_142 (by decide) (fun c30 => ?_) (fun c30 => ?_)
  · have hf := itp c30 hf
    refine lv_iconst (v := 0) hx hb dX0_spanHolds_228 (by decide) ?_
    exact retZ X hr hk Z (by decide) hf dX0_spanHolds_229
  · have hf := itn c30 hf
    refine lv_aload_n hx hb dX0_spanHolds_145 rfl (lv_at hl 0 rfl) ?_
    refine gf_RX0_15 X Z dX0_spanHolds_146 ?_
    refine lv_lload hx hb dX0_spanHolds_149 (lv_at hl 5 rfl) ?_
    refine lv_lload hx hb dX0_spanHolds_151 (lv_at hl 3 rfl) ?_
    refine x_lif_gt (tgt := 161) X dX0_spanHolds_153 dX0_spanHolds_154 (by decide) (fun c31 => ?_) (fun c31 => ?_)
    · have hf := itp c31 hf
      refine lv_iconst (v := 0) hx hb dX0_spanHolds_161 (by decide) ?_
      exact b_X0_spanHolds_162 X hr hk x1 x2 x4 x6 x8 (0 : Int32) s28 _ hf _ _ _ Z (lv_sub hl [0, 1, 2, 3, 4, 5] rfl)
    · have hf := itn c31 hf
      refine lv_iconst (v := 1) hx hb dX0_spanHolds_157 (by decide) ?_
      refine lv_goto (tgt := 162) hx hb dX0_spanHolds_158 (by decide) ?_
      exact b_X0_spanHolds_162 X hr hk x1 x2 x4 x6 x8 (1 : Int32) s28 _ hf _ _ _ Z (lv_sub hl [0, 1, 2, 3, 4, 5] rfl)

set_option maxRecDepth 100000 in
set_option maxHeartbeats 4000000 in
theorem b_X0_spanHolds_97 {p : Program} {l : Launch} {e : Env} {s : State} {m : MethodId} {args : Array Value} {below : List Frame} {meth : Method} {c : Code} {D : va_G} {h : Nat → Nat} {cy : Nat → ClassId} (X : Cx p s m args c D h cy RX0 cX0_spanHolds 10) (hr : meth.sig.returnType = some .boolean) (hk : meth.locks = false) (x1 : Int32) (x2 : Int64) (x4 : Int64) (x6 : Int64) (x8 : Int64) (t0 : Int32) (σ : St) (y : Int32 × St) (hf : f_X0_spanHolds_97 x1 x2 x4 x6 x8 t0 σ = some y) : ∀ (H : Heap) (locs : List Loc) (ls : Array Slot), Zt D h cy s σ H locs → lv_has ls 10 [(0, .ref (h 40)), (1, .int x1), (2, .long x2), (4, .long x4), (6, .long x6), (8, .long x8)] → W p l e (rmz 2 67) s m args below meth c H locs 0 0 (EI below args s D h cy y) (F0 m 97 ls [.int t0, .ref (h 39)]) := by
  intro H locs ls Z hl
  have hx := X.x
  have hb := X.b
  unfold f_X0_spanHolds_97 at hf
  refine lv_iconst (v := 5) hx hb dX0_spanHolds_97 (by decide) ?_
  refine lv_iload_n hx hb dX0_spanHolds_98 rfl (lv_at hl 1 rfl) ?_
  refine lv_bipush (v := 24) hx hb dX0_spanHolds_99 (by decide) ?_
  refine lv_iadd hx hb dX0_spanHolds_101 ?_
  obtain ⟨r24, s23, h22, hf⟩ := bi_s hf
  refine goI Z (run_V (As := [.int t0, .int (5 : Int32), .int ((x1 + (24 : Int32)))]) (rest := []) X Z (c_X2_unless l D h cy t0 (5 : Int32) ((x1 + (24 : Int32))) σ (r24, s23) h22 _) lk_RX0_76 ⟨by decide, by decide⟩ rv_39 rfl hl.1 rfl (Nat.le_of_ble_eq_true rfl) ⟨Nat.le_refl _, Nat.le_refl _⟩ dX0_spanHolds_102) (fun H locs Z => ?_)
  refine lv_if_eq (tgt := 228) hx hb dX0_spanHolds_105 (by decide) (fun c25 => ?_) (fun c25 => ?_)
  · have hf := itp c25 hf
    refine lv_iconst (v := 0) hx hb dX0_spanHolds_228 (by decide) ?_
    exact retZ X hr hk Z (by decide) hf dX0_spanHolds_229
  · have hf := itn c25 hf
    refine lv_aload_n hx hb dX0_spanHolds_108 rfl (lv_at hl 0 rfl) ?_
    refine gf_RX0_15 X Z dX0_spanHolds_109 ?_
    refine lv_lload hx hb dX0_spanHolds_112 (lv_at hl 4 rfl) ?_
    refine lv_lload hx hb dX0_spanHolds_114 (lv_at hl 5 rfl) ?_
    refine lv_ladd hx hb dX0_spanHolds_116 ?_
    refine lv_aload_n hx hb dX0_spanHolds_117 rfl (lv_at hl 0 rfl) ?_
    refine gf_RX0_9 X Z dX0_spanHolds_118 ?_
    refine gf_RX0_71 X Z row_3 dX0_spanHolds_121 ?_
    refine lv_i2l (v := (s23.1 3 1).toInt64) hx hb dX0_spanHolds_124 rfl ?_
    refine x_lif_gt (tgt := 133) X dX0_spanHolds_125 dX0_spanHolds_126 (by decide) (fun c26 => ?_) (fun c26 => ?_)
    · have hf := itp c26 hf
      refine lv_iconst (v := 0) hx hb dX0_spanHolds_133 (by decide) ?_
      exact b_X0_spanHolds_134 X hr hk x1 x2 x4 x6 x8 (0 : Int32) s23 _ hf _ _ _ Z (lv_sub hl [0, 1, 2, 3, 4, 5] rfl)
    · have hf := itn c26 hf
      refine lv_iconst (v := 1) hx hb dX0_spanHolds_129 (by decide) ?_
      refine lv_goto (tgt := 134) hx hb dX0_spanHolds_130 (by decide) ?_
      exact b_X0_spanHolds_134 X hr hk x1 x2 x4 x6 x8 (1 : Int32) s23 _ hf _ _ _ Z (lv_sub hl [0, 1, 2, 3, 4, 5] rfl)

set_option maxRecDepth 100000 in
set_option maxHeartbeats 4000000 in
theorem b_X0_spanHolds_66 {p : Program} {l : Launch} {e : Env} {s : State} {m : MethodId} {args : Array Value} {below : List Frame} {meth : Method} {c : Code} {D : va_G} {h : Nat → Nat} {cy : Nat → ClassId} (X : Cx p s m args c D h cy RX0 cX0_spanHolds 10) (hr : meth.sig.returnType = some .boolean) (hk : meth.locks = false) (x1 : Int32) (x2 : Int64) (x4 : Int64) (x6 : Int64) (x8 : Int64) (t0 : Int32) (σ : St) (y : Int32 × St) (hf : f_X0_spanHolds_66 x1 x2 x4 x6 x8 t0 σ = some y) : ∀ (H : Heap) (locs : List Loc) (ls : Array Slot), Zt D h cy s σ H locs → lv_has ls 10 [(0, .ref (h 40)), (1, .int x1), (2, .long x2), (4, .long x4), (6, .long x6), (8, .long x8)] → W p l e (rmz 2 67) s m args below meth c H locs 0 0 (EI below args s D h cy y) (F0 m 66 ls [.int t0, .ref (h 39)]) := by
  intro H locs ls Z hl
  have hx := X.x
  have hb := X.b
  unfold f_X0_spanHolds_66 at hf
  refine lv_iconst (v := 5) hx hb dX0_spanHolds_66 (by decide) ?_
  refine lv_iload_n hx hb dX0_spanHolds_67 rfl (lv_at hl 1 rfl) ?_
  refine lv_bipush (v := 32) hx hb dX0_spanHolds_68 (by decide) ?_
  refine lv_iadd hx hb dX0_spanHolds_70 ?_
  obtain ⟨r19, s18, h17, hf⟩ := bi_s hf
  refine goI Z (run_V (As := [.int t0, .int (5 : Int32), .int ((x1 + (32 : Int32)))]) (rest := []) X Z (c_X2_unless l D h cy t0 (5 : Int32) ((x1 + (32 : Int32))) σ (r19, s18) h17 _) lk_RX0_76 ⟨by decide, by decide⟩ rv_39 rfl hl.1 rfl (Nat.le_of_ble_eq_true rfl) ⟨Nat.le_refl _, Nat.le_refl _⟩ dX0_spanHolds_71) (fun H locs Z => ?_)
  refine lv_if_eq (tgt := 228) hx hb dX0_spanHolds_74 (by decide) (fun c20 => ?_) (fun c20 => ?_)
  · have hf := itp c20 hf
    refine lv_iconst (v := 0) hx hb dX0_spanHolds_228 (by decide) ?_
    exact retZ X hr hk Z (by decide) hf dX0_spanHolds_229
  · have hf := itn c20 hf
    refine lv_aload_n hx hb dX0_spanHolds_77 rfl (lv_at hl 0 rfl) ?_
    refine gf_RX0_15 X Z dX0_spanHolds_78 ?_
    refine lv_lload_n hx hb dX0_spanHolds_81 rfl (lv_at hl 2 rfl) ?_
    refine lv_lload hx hb dX0_spanHolds_82 (lv_at hl 3 rfl) ?_
    refine lv_ladd hx hb dX0_spanHolds_84 ?_
    refine lv_ldc2 (v := 2147483647) hx hb X.o (X.t _ kc_RX0_144) dX0_spanHolds_85 ?_
    refine x_lif_gt (tgt := 96) X dX0_spanHolds_88 dX0_spanHolds_89 (by decide) (fun c21 => ?_) (fun c21 => ?_)
    · have hf := itp c21 hf
      refine lv_iconst (v := 0) hx hb dX0_spanHolds_96 (by decide) ?_
      exact b_X0_spanHolds_97 X hr hk x1 x2 x4 x6 x8 (0 : Int32) s18 _ hf _ _ _ Z (lv_sub hl [0, 1, 2, 3, 4, 5] rfl)
    · have hf := itn c21 hf
      refine lv_iconst (v := 1) hx hb dX0_spanHolds_92 (by decide) ?_
      refine lv_goto (tgt := 97) hx hb dX0_spanHolds_93 (by decide) ?_
      exact b_X0_spanHolds_97 X hr hk x1 x2 x4 x6 x8 (1 : Int32) s18 _ hf _ _ _ Z (lv_sub hl [0, 1, 2, 3, 4, 5] rfl)

set_option maxRecDepth 100000 in
set_option maxHeartbeats 4000000 in
theorem c_X0_spanHolds (l : Launch) (D : va_G) (h : Nat → Nat) (cy : Nat → ClassId) (a1 : Int32) (σ : St) (y : Int32 × St) (hf : f_X0_spanHolds a1 σ = some y) : CI l yX0_spanHolds cX0_spanHolds 10 (some .boolean) 2 67 D h cy [.ref (h 40), .int a1] σ y := by
  refine ent (Qc := fun sz => QI D h cy sz y) (by decide) (Nat.le_of_ble_eq_true rfl) ?_
  intro p e s m below meth c ls X Z hr hk hl
  have X : Cx p s m _ c D h cy RX0 cX0_spanHolds 10 := X
  have hx := X.x
  have hb := X.b
  have hl : lv_has ls 10 [(0, .ref (h 40)), (1, .int a1)] := hl
  unfold f_X0_spanHolds at hf
  refine lv_aload_n hx hb dX0_spanHolds_0 rfl (lv_at hl 0 rfl) ?_
  refine lv_iload_n hx hb dX0_spanHolds_1 rfl (lv_at hl 1 rfl) ?_
  refine lv_bipush (v := 24) hx hb dX0_spanHolds_2 (by decide) ?_
  refine lv_iadd hx hb dX0_spanHolds_4 ?_
  obtain ⟨r3, s2, h1, hf⟩ := bi_s hf
  refine goL Z (run_V (As := [.int ((a1 + (24 : Int32)))]) (rest := []) X Z (c_X0_u8 l D h cy ((a1 + (24 : Int32))) σ (r3, s2) h1 _) lk_RX0_135 ⟨by decide, by decide⟩ rv_40 rfl hl.1 rfl (Nat.le_of_ble_eq_true rfl) ⟨Nat.le_refl _, Nat.le_refl _⟩ dX0_spanHolds_5) (fun H locs Z => ?_)
  refine lv_lstore_n (lv' := [(2, .long r3), (0, .ref (h 40)), (1, .int a1)]) hx hb dX0_spanHolds_8 rfl hl (by decide) rfl (fun ls hl => ?_)
  refine lv_aload_n hx hb dX0_spanHolds_9 rfl (lv_at hl 1 rfl) ?_
  refine lv_iload_n hx hb dX0_spanHolds_10 rfl (lv_at hl 2 rfl) ?_
  refine lv_bipush (v := 32) hx hb dX0_spanHolds_11 (by decide) ?_
  refine lv_iadd hx hb dX0_spanHolds_13 ?_
  obtain ⟨r6, s5, h4, hf⟩ := bi_s hf
  refine goL Z (run_V (As := [.int ((a1 + (32 : Int32)))]) (rest := []) X Z (c_X0_u8 l D h cy ((a1 + (32 : Int32))) s2 (r6, s5) h4 _) lk_RX0_135 ⟨by decide, by decide⟩ rv_40 rfl hl.1 rfl (Nat.le_of_ble_eq_true rfl) ⟨Nat.le_refl _, Nat.le_refl _⟩ dX0_spanHolds_14) (fun H locs Z => ?_)
  refine lv_lstore (lv' := [(4, .long r6), (2, .long r3), (0, .ref (h 40)), (1, .int a1)]) hx hb dX0_spanHolds_17 hl (by decide) rfl (fun ls hl => ?_)
  refine lv_aload_n hx hb dX0_spanHolds_19 rfl (lv_at hl 2 rfl) ?_
  refine lv_iload_n hx hb dX0_spanHolds_20 rfl (lv_at hl 3 rfl) ?_
  refine lv_bipush (v := 40) hx hb dX0_spanHolds_21 (by decide) ?_
  refine lv_iadd hx hb dX0_spanHolds_23 ?_
  obtain ⟨r9, s8, h7, hf⟩ := bi_s hf
  refine goL Z (run_V (As := [.int ((a1 + (40 : Int32)))]) (rest := []) X Z (c_X0_u8 l D h cy ((a1 + (40 : Int32))) s5 (r9, s8) h7 _) lk_RX0_135 ⟨by decide, by decide⟩ rv_40 rfl hl.1 rfl (Nat.le_of_ble_eq_true rfl) ⟨Nat.le_refl _, Nat.le_refl _⟩ dX0_spanHolds_24) (fun H locs Z => ?_)
  refine lv_lstore (lv' := [(6, .long r9), (4, .long r6), (2, .long r3), (0, .ref (h 40)), (1, .int a1)]) hx hb dX0_spanHolds_27 hl (by decide) rfl (fun ls hl => ?_)
  refine lv_aload_n hx hb dX0_spanHolds_29 rfl (lv_at hl 3 rfl) ?_
  refine lv_iload_n hx hb dX0_spanHolds_30 rfl (lv_at hl 4 rfl) ?_
  refine lv_bipush (v := 48) hx hb dX0_spanHolds_31 (by decide) ?_
  refine lv_iadd hx hb dX0_spanHolds_33 ?_
  obtain ⟨r12, s11, h10, hf⟩ := bi_s hf
  refine goL Z (run_V (As := [.int ((a1 + (48 : Int32)))]) (rest := []) X Z (c_X0_u8 l D h cy ((a1 + (48 : Int32))) s8 (r12, s11) h10 _) lk_RX0_135 ⟨by decide, by decide⟩ rv_40 rfl hl.1 rfl (Nat.le_of_ble_eq_true rfl) ⟨Nat.le_refl _, Nat.le_refl _⟩ dX0_spanHolds_34) (fun H locs Z => ?_)
  refine lv_lstore (lv' := [(8, .long r12), (6, .long r9), (4, .long r6), (2, .long r3), (0, .ref (h 40)), (1, .int a1)]) hx hb dX0_spanHolds_37 hl (by decide) rfl (fun ls hl => ?_)
  refine lv_aload_n hx hb dX0_spanHolds_39 rfl (lv_at hl 4 rfl) ?_
  refine gf_RX0_15 X Z dX0_spanHolds_40 ?_
  refine lv_aload_n hx hb dX0_spanHolds_43 rfl (lv_at hl 4 rfl) ?_
  refine gf_RX0_22 X Z dX0_spanHolds_44 ?_
  obtain ⟨r15, s14, h13, hf⟩ := bi_s hf
  refine goI Z (run_V (As := []) (rest := [.ref (h 39)]) X Z (c_X7_spanOfAll l D h cy segs_41 s11 (r15, s14) h13 _) lk_RX0_138 ⟨by decide, by decide⟩ (rv_SegsS segs_41) rfl hl.1 rfl (Nat.le_of_ble_eq_true rfl) ⟨Nat.le_refl _, Nat.le_refl _⟩ dX0_spanHolds_47) (fun H locs Z => ?_)
  refine lv_i2l (v := r15.toInt64) hx hb dX0_spanHolds_50 rfl ?_
  refine lv_lload hx hb dX0_spanHolds_51 (lv_at hl 2 rfl) ?_
  refine lv_ladd hx hb dX0_spanHolds_53 ?_
  refine lv_ldc2 (v := 16384) hx hb X.o (X.t _ kc_RX0_142) dX0_spanHolds_54 ?_
  refine x_lif_gt (tgt := 65) X dX0_spanHolds_57 dX0_spanHolds_58 (by decide) (fun c16 => ?_) (fun c16 => ?_)
  · have hf := itp c16 hf
    refine lv_iconst (v := 0) hx hb dX0_spanHolds_65 (by decide) ?_
    exact b_X0_spanHolds_66 X hr hk a1 r3 r6 r9 r12 (0 : Int32) s14 _ hf _ _ _ Z (lv_sub hl [4, 5, 3, 2, 1, 0] rfl)
  · have hf := itn c16 hf
    refine lv_iconst (v := 1) hx hb dX0_spanHolds_61 (by decide) ?_
    refine lv_goto (tgt := 66) hx hb dX0_spanHolds_62 (by decide) ?_
    exact b_X0_spanHolds_66 X hr hk a1 r3 r6 r9 r12 (1 : Int32) s14 _ hf _ _ _ Z (lv_sub hl [4, 5, 3, 2, 1, 0] rfl)

set_option maxRecDepth 100000 in
set_option maxHeartbeats 4000000 in
theorem b_X0_sectionsHold_148 {p : Program} {l : Launch} {e : Env} {s : State} {m : MethodId} {args : Array Value} {below : List Frame} {meth : Method} {c : Code} {D : va_G} {h : Nat → Nat} {cy : Nat → ClassId} (X : Cx p s m args c D h cy RX0 cX0_sectionsHold 12) (hr : meth.sig.returnType = some .boolean) (hk : meth.locks = false) (K35 : (Int32 × Int64 × Int64 × Int32 × Int32 × St) → Option (Int32 × St)) (hK35 : ∀ (a : Int32 × Int64 × Int64 × Int32 × Int32 × St) (y : Int32 × St), K35 a = some y → ∀ (H : Heap) (locs : List Loc) (ls : Array Slot), Zt D h cy s a.2.2.2.2.2 H locs → lv_has ls 12 [(0, .ref (h 40)), (1, .int a.1), (2, .long a.2.1), (4, .long a.2.2.1), (6, .int a.2.2.2.1), (7, .int a.2.2.2.2.1)] → W p l e (rmz 3 70) s m args below meth c H locs 0 0 (EI below args s D h cy y) (F0 m 35 ls [])) (x1 : Int32) (x2 : Int64) (x4 : Int64) (x6 : Int32) (x7 : Int32) (x8 : Int32) (t0 : Int32) (σ : St) (y : Int32 × St) (hf : f_X0_sectionsHold_148 K35 x1 x2 x4 x6 x7 x8 t0 σ = some y) : ∀ (H : Heap) (locs : List Loc) (ls : Array Slot), Zt D h cy s σ H locs → lv_has ls 12 [(0, .ref (h 40)), (1, .int x1), (2, .long x2), (4, .long x4), (6, .int x6), (7, .int x7), (8, .int x8)] → W p l e (rmz 3 70) s m args below meth c H locs 0 0 (EI below args s D h cy y) (F0 m 148 ls [.int t0]) := by
  intro H locs ls Z hl
  have hx := X.x
  have hb := X.b
  unfold f_X0_sectionsHold_148 at hf
  refine lv_istore (lv' := [(11, .int t0), (0, .ref (h 40)), (1, .int x1), (2, .long x2), (4, .long x4), (6, .int x6), (7, .int x7), (8, .int x8)]) hx hb dX0_sectionsHold_148 hl (by decide) rfl (fun ls hl => ?_)
  refine lv_aload_n hx hb dX0_sectionsHold_150 rfl (lv_at hl 1 rfl) ?_
  refine gf_RX0_15 X Z dX0_sectionsHold_151 ?_
  refine lv_iload hx hb dX0_sectionsHold_154 (lv_at hl 0 rfl) ?_
  refine lv_bipush (v := 7) hx hb dX0_sectionsHold_156 (by decide) ?_
  refine lv_iload hx hb dX0_sectionsHold_158 (lv_at hl 7 rfl) ?_
  obtain ⟨r34, s33, h32, hf⟩ := bi_s hf
  refine goI Z (run_V (As := [.int t0, .int (7 : Int32), .int x8]) (rest := []) X Z (c_X2_unless l D h cy t0 (7 : Int32) x8 σ (r34, s33) h32 _) lk_RX0_76 ⟨by decide, by decide⟩ rv_39 rfl hl.1 rfl (Nat.le_of_ble_eq_true rfl) ⟨Nat.le_refl _, Nat.le_refl _⟩ dX0_sectionsHold_160) (fun H locs Z => ?_)
  refine lv_if_ne (tgt := 168) hx hb dX0_sectionsHold_163 (by decide) (fun c35 => ?_) (fun c35 => ?_)
  · have hf := itn c35 hf
    refine lv_aload_n hx hb dX0_sectionsHold_168 rfl (lv_at hl 1 rfl) ?_
    refine lv_dup hx hb dX0_sectionsHold_169 rfl ?_
    refine gf_RX0_42 X Z dX0_sectionsHold_170 ?_
    refine lv_iconst (v := 1) hx hb dX0_sectionsHold_173 (by decide) ?_
    refine lv_iadd hx hb dX0_sectionsHold_174 ?_
    refine pf_RX0_42 X Z dX0_sectionsHold_175 (fun s36 H locs es36 Z => ?_)
    have hf := zn_e es36 hf
    obtain ⟨v37, ev37⟩ : ∃ z : Int32, z = x7 + 1 := ⟨_, rfl⟩
    have hf := zn_e ev37 hf
    refine lv_iinc (v := v37) (lv' := [(7, .int v37), (11, .int t0), (0, .ref (h 40)), (1, .int x1), (2, .long x2), (4, .long x4), (6, .int x6), (8, .int x8)]) hx hb dX0_sectionsHold_178 hl (k := 6) rfl (by rw [ev37]; rfl) (by decide) rfl (fun ls hl => ?_)
    refine lv_goto (tgt := 35) hx hb dX0_sectionsHold_181 (by decide) ?_
    exact hK35 (x1, x2, x4, x6, v37, s36) _ hf _ _ _ Z (lv_sub hl [2, 3, 4, 5, 6, 0] rfl)
  · have hf := itp c35 hf
    refine lv_iconst (v := 0) hx hb dX0_sectionsHold_166 (by decide) ?_
    exact retZ X hr hk Z (by decide) hf dX0_sectionsHold_167

set_option maxRecDepth 100000 in
set_option maxHeartbeats 4000000 in
theorem b_X0_sectionsHold_147 {p : Program} {l : Launch} {e : Env} {s : State} {m : MethodId} {args : Array Value} {below : List Frame} {meth : Method} {c : Code} {D : va_G} {h : Nat → Nat} {cy : Nat → ClassId} (X : Cx p s m args c D h cy RX0 cX0_sectionsHold 12) (hr : meth.sig.returnType = some .boolean) (hk : meth.locks = false) (K35 : (Int32 × Int64 × Int64 × Int32 × Int32 × St) → Option (Int32 × St)) (hK35 : ∀ (a : Int32 × Int64 × Int64 × Int32 × Int32 × St) (y : Int32 × St), K35 a = some y → ∀ (H : Heap) (locs : List Loc) (ls : Array Slot), Zt D h cy s a.2.2.2.2.2 H locs → lv_has ls 12 [(0, .ref (h 40)), (1, .int a.1), (2, .long a.2.1), (4, .long a.2.2.1), (6, .int a.2.2.2.1), (7, .int a.2.2.2.2.1)] → W p l e (rmz 3 70) s m args below meth c H locs 0 0 (EI below args s D h cy y) (F0 m 35 ls [])) (x1 : Int32) (x2 : Int64) (x4 : Int64) (x6 : Int32) (x7 : Int32) (x8 : Int32) (σ : St) (y : Int32 × St) (hf : f_X0_sectionsHold_147 K35 x1 x2 x4 x6 x7 x8 σ = some y) : ∀ (H : Heap) (locs : List Loc) (ls : Array Slot), Zt D h cy s σ H locs → lv_has ls 12 [(0, .ref (h 40)), (1, .int x1), (2, .long x2), (4, .long x4), (6, .int x6), (7, .int x7), (8, .int x8)] → W p l e (rmz 3 70) s m args below meth c H locs 0 0 (EI below args s D h cy y) (F0 m 147 ls []) := by
  intro H locs ls Z hl
  have hx := X.x
  have hb := X.b
  unfold f_X0_sectionsHold_147 at hf
  refine lv_iconst (v := 0) hx hb dX0_sectionsHold_147 (by decide) ?_
  exact b_X0_sectionsHold_148 X hr hk K35 hK35 x1 x2 x4 x6 x7 x8 (0 : Int32) σ _ hf _ _ _ Z (lv_sub hl [0, 1, 2, 3, 4, 5, 6] rfl)

set_option maxRecDepth 100000 in
set_option maxHeartbeats 4000000 in
theorem b_X0_sectionsHold_72 {p : Program} {l : Launch} {e : Env} {s : State} {m : MethodId} {args : Array Value} {below : List Frame} {meth : Method} {c : Code} {D : va_G} {h : Nat → Nat} {cy : Nat → ClassId} (X : Cx p s m args c D h cy RX0 cX0_sectionsHold 12) (hr : meth.sig.returnType = some .boolean) (hk : meth.locks = false) (K35 : (Int32 × Int64 × Int64 × Int32 × Int32 × St) → Option (Int32 × St)) (hK35 : ∀ (a : Int32 × Int64 × Int64 × Int32 × Int32 × St) (y : Int32 × St), K35 a = some y → ∀ (H : Heap) (locs : List Loc) (ls : Array Slot), Zt D h cy s a.2.2.2.2.2 H locs → lv_has ls 12 [(0, .ref (h 40)), (1, .int a.1), (2, .long a.2.1), (4, .long a.2.2.1), (6, .int a.2.2.2.1), (7, .int a.2.2.2.2.1)] → W p l e (rmz 3 70) s m args below meth c H locs 0 0 (EI below args s D h cy y) (F0 m 35 ls [])) (x1 : Int32) (x2 : Int64) (x4 : Int64) (x6 : Int32) (x7 : Int32) (x8 : Int32) (t0 : Int32) (σ : St) (y : Int32 × St) (hf : f_X0_sectionsHold_72 K35 x1 x2 x4 x6 x7 x8 t0 σ = some y) : ∀ (H : Heap) (locs : List Loc) (ls : Array Slot), Zt D h cy s σ H locs → lv_has ls 12 [(0, .ref (h 40)), (1, .int x1), (2, .long x2), (4, .long x4), (6, .int x6), (7, .int x7), (8, .int x8)] → W p l e (rmz 3 70) s m args below meth c H locs 0 0 (EI below args s D h cy y) (F0 m 72 ls [.int t0, .ref (h 39)]) := by
  intro H locs ls Z hl
  have hx := X.x
  have hb := X.b
  unfold f_X0_sectionsHold_72 at hf
  refine lv_iconst (v := 3) hx hb dX0_sectionsHold_72 (by decide) ?_
  refine lv_iload hx hb dX0_sectionsHold_73 (lv_at hl 6 rfl) ?_
  obtain ⟨r18, s17, h16, hf⟩ := bi_s hf
  refine goI Z (run_V (As := [.int t0, .int (3 : Int32), .int x8]) (rest := []) X Z (c_X2_unless l D h cy t0 (3 : Int32) x8 σ (r18, s17) h16 _) lk_RX0_76 ⟨by decide, by decide⟩ rv_39 rfl hl.1 rfl (Nat.le_of_ble_eq_true rfl) ⟨Nat.le_refl _, Nat.le_refl _⟩ dX0_sectionsHold_75) (fun H locs Z => ?_)
  refine lv_if_eq (tgt := 105) hx hb dX0_sectionsHold_78 (by decide) (fun c19 => ?_) (fun c19 => ?_)
  · have hf := itp c19 hf
    refine lv_iconst (v := 0) hx hb dX0_sectionsHold_105 (by decide) ?_
    exact retZ X hr hk Z (by decide) hf dX0_sectionsHold_106
  · have hf := itn c19 hf
    refine lv_aload_n hx hb dX0_sectionsHold_81 rfl (lv_at hl 0 rfl) ?_
    refine lv_iload hx hb dX0_sectionsHold_82 (lv_at hl 6 rfl) ?_
    refine lv_bipush (v := 32) hx hb dX0_sectionsHold_84 (by decide) ?_
    refine lv_iadd hx hb dX0_sectionsHold_86 ?_
    obtain ⟨r22, s21, h20, hf⟩ := bi_s hf
    refine goI Z (run_V (As := [.int ((x8 + (32 : Int32)))]) (rest := []) X Z (c_X0_numberHolds l D h cy ((x8 + (32 : Int32))) s17 (r22, s21) h20 _) lk_RX0_132 ⟨by decide, by decide⟩ rv_40 rfl hl.1 rfl (Nat.le_of_ble_eq_true rfl) ⟨Nat.le_refl _, Nat.le_refl _⟩ dX0_sectionsHold_87) (fun H locs Z => ?_)
    refine lv_if_eq (tgt := 105) hx hb dX0_sectionsHold_90 (by decide) (fun c23 => ?_) (fun c23 => ?_)
    · have hf := itp c23 hf
      refine lv_iconst (v := 0) hx hb dX0_sectionsHold_105 (by decide) ?_
      exact retZ X hr hk Z (by decide) hf dX0_sectionsHold_106
    · have hf := itn c23 hf
      refine lv_aload_n hx hb dX0_sectionsHold_93 rfl (lv_at hl 0 rfl) ?_
      refine lv_iload hx hb dX0_sectionsHold_94 (lv_at hl 6 rfl) ?_
      refine lv_bipush (v := 40) hx hb dX0_sectionsHold_96 (by decide) ?_
      refine lv_iadd hx hb dX0_sectionsHold_98 ?_
      obtain ⟨r26, s25, h24, hf⟩ := bi_s hf
      refine goI Z (run_V (As := [.int ((x8 + (40 : Int32)))]) (rest := []) X Z (c_X0_numberHolds l D h cy ((x8 + (40 : Int32))) s21 (r26, s25) h24 _) lk_RX0_132 ⟨by decide, by decide⟩ rv_40 rfl hl.1 rfl (Nat.le_of_ble_eq_true rfl) ⟨Nat.le_refl _, Nat.le_refl _⟩ dX0_sectionsHold_99) (fun H locs Z => ?_)
      refine lv_if_ne (tgt := 107) hx hb dX0_sectionsHold_102 (by decide) (fun c27 => ?_) (fun c27 => ?_)
      · have hf := itn c27 hf
        refine lv_aload_n hx hb dX0_sectionsHold_107 rfl (lv_at hl 0 rfl) ?_
        refine lv_iload hx hb dX0_sectionsHold_108 (lv_at hl 6 rfl) ?_
        refine lv_bipush (v := 32) hx hb dX0_sectionsHold_110 (by decide) ?_
        refine lv_iadd hx hb dX0_sectionsHold_112 ?_
        obtain ⟨r30, s29, h28, hf⟩ := bi_s hf
        refine goL Z (run_V (As := [.int ((x8 + (32 : Int32)))]) (rest := []) X Z (c_X0_u8 l D h cy ((x8 + (32 : Int32))) s25 (r30, s29) h28 _) lk_RX0_135 ⟨by decide, by decide⟩ rv_40 rfl hl.1 rfl (Nat.le_of_ble_eq_true rfl) ⟨Nat.le_refl _, Nat.le_refl _⟩ dX0_sectionsHold_113) (fun H locs Z => ?_)
        refine lv_lstore (lv' := [(9, .long r30), (0, .ref (h 40)), (1, .int x1), (2, .long x2), (4, .long x4), (6, .int x6), (7, .int x7), (8, .int x8)]) hx hb dX0_sectionsHold_116 hl (by decide) rfl (fun ls hl => ?_)
        refine lv_lload hx hb dX0_sectionsHold_118 (lv_at hl 0 rfl) ?_
        refine lv_lload_n hx hb dX0_sectionsHold_120 rfl (lv_at hl 3 rfl) ?_
        refine x_lif_lt (tgt := 147) X dX0_sectionsHold_121 dX0_sectionsHold_122 (by decide) (fun c31 => ?_) (fun c31 => ?_)
        · have hf := itp c31 hf
          exact b_X0_sectionsHold_147 X hr hk K35 hK35 x1 x2 x4 x6 x7 x8 s29 _ hf _ _ _ Z (lv_sub hl [1, 2, 3, 4, 5, 6, 7] rfl)
        · have hf := itn c31 hf
          refine lv_lload hx hb dX0_sectionsHold_125 (lv_at hl 0 rfl) ?_
          refine lv_aload_n hx hb dX0_sectionsHold_127 rfl (lv_at hl 1 rfl) ?_
          refine lv_iload hx hb dX0_sectionsHold_128 (lv_at hl 7 rfl) ?_
          refine lv_bipush (v := 40) hx hb dX0_sectionsHold_130 (by decide) ?_
          refine lv_iadd hx hb dX0_sectionsHold_132 ?_
          obtain ⟨r40, s39, h38, hf⟩ := bi_s hf
          refine goL Z (run_V (As := [.int ((x8 + (40 : Int32)))]) (rest := [.long r30]) X Z (c_X0_u8 l D h cy ((x8 + (40 : Int32))) s29 (r40, s39) h38 _) lk_RX0_135 ⟨by decide, by decide⟩ rv_40 rfl hl.1 rfl (Nat.le_of_ble_eq_true rfl) ⟨Nat.le_refl _, Nat.le_refl _⟩ dX0_sectionsHold_133) (fun H locs Z => ?_)
          refine lv_ladd hx hb dX0_sectionsHold_136 ?_
          refine lv_lload hx hb dX0_sectionsHold_137 (lv_at hl 4 rfl) ?_
          refine x_lif_gt (tgt := 147) X dX0_sectionsHold_139 dX0_sectionsHold_140 (by decide) (fun c41 => ?_) (fun c41 => ?_)
          · have hf := itp c41 hf
            exact b_X0_sectionsHold_147 X hr hk K35 hK35 x1 x2 x4 x6 x7 x8 s39 _ hf _ _ _ Z (lv_sub hl [1, 2, 3, 4, 5, 6, 7] rfl)
          · have hf := itn c41 hf
            refine lv_iconst (v := 1) hx hb dX0_sectionsHold_143 (by decide) ?_
            refine lv_goto (tgt := 148) hx hb dX0_sectionsHold_144 (by decide) ?_
            exact b_X0_sectionsHold_148 X hr hk K35 hK35 x1 x2 x4 x6 x7 x8 (1 : Int32) s39 _ hf _ _ _ Z (lv_sub hl [1, 2, 3, 4, 5, 6, 7] rfl)
      · have hf := itp c27 hf
        refine lv_iconst (v := 0) hx hb dX0_sectionsHold_105 (by decide) ?_
        exact retZ X hr hk Z (by decide) hf dX0_sectionsHold_106

set_option maxRecDepth 100000 in
set_option maxHeartbeats 4000000 in
theorem b_X0_sectionsHold_35b {p : Program} {l : Launch} {e : Env} {s : State} {m : MethodId} {args : Array Value} {below : List Frame} {meth : Method} {c : Code} {D : va_G} {h : Nat → Nat} {cy : Nat → ClassId} (X : Cx p s m args c D h cy RX0 cX0_sectionsHold 12) (hr : meth.sig.returnType = some .boolean) (hk : meth.locks = false) (K35 : (Int32 × Int64 × Int64 × Int32 × Int32 × St) → Option (Int32 × St)) (hK35 : ∀ (a : Int32 × Int64 × Int64 × Int32 × Int32 × St) (y : Int32 × St), K35 a = some y → ∀ (H : Heap) (locs : List Loc) (ls : Array Slot), Zt D h cy s a.2.2.2.2.2 H locs → lv_has ls 12 [(0, .ref (h 40)), (1, .int a.1), (2, .long a.2.1), (4, .long a.2.2.1), (6, .int a.2.2.2.1), (7, .int a.2.2.2.2.1)] → W p l e (rmz 3 70) s m args below meth c H locs 0 0 (EI below args s D h cy y) (F0 m 35 ls [])) (x1 : Int32) (x2 : Int64) (x4 : Int64) (x6 : Int32) (x7 : Int32) (σ : St) (y : Int32 × St) (hf : f_X0_sectionsHold_35b K35 x1 x2 x4 x6 x7 σ = some y) : ∀ (H : Heap) (locs : List Loc) (ls : Array Slot), Zt D h cy s σ H locs → lv_has ls 12 [(0, .ref (h 40)), (1, .int x1), (2, .long x2), (4, .long x4), (6, .int x6), (7, .int x7)] → W p l e (rmz 3 70) s m args below meth c H locs 0 0 (EI below args s D h cy y) (F0 m 35 ls []) := by
  intro H locs ls Z hl
  have hx := X.x
  have hb := X.b
  unfold f_X0_sectionsHold_35b at hf
  refine lv_iload hx hb dX0_sectionsHold_35 (lv_at hl 5 rfl) ?_
  refine lv_iload hx hb dX0_sectionsHold_37 (lv_at hl 4 rfl) ?_
  refine lv_icmp_ge (tgt := 184) hx hb dX0_sectionsHold_39 (by decide) (fun c13 => ?_) (fun c13 => ?_)
  · have hf := itp c13 hf
    refine lv_iconst (v := 1) hx hb dX0_sectionsHold_184 (by decide) ?_
    exact retZ X hr hk Z (by decide) hf dX0_sectionsHold_185
  · have hf := itn c13 hf
    refine lv_iload_n hx hb dX0_sectionsHold_42 rfl (lv_at hl 1 rfl) ?_
    refine lv_bipush (v := 72) hx hb dX0_sectionsHold_43 (by decide) ?_
    refine lv_iadd hx hb dX0_sectionsHold_45 ?_
    refine lv_bipush (v := 80) hx hb dX0_sectionsHold_46 (by decide) ?_
    refine lv_iload hx hb dX0_sectionsHold_48 (lv_at hl 5 rfl) ?_
    refine lv_imul hx hb dX0_sectionsHold_50 ?_
    refine lv_iadd hx hb dX0_sectionsHold_51 ?_
    refine lv_topi (fun v14 ev14 => ?_)
    have hf := zn_e ev14 hf
    refine lv_istore (lv' := [(8, .int v14), (0, .ref (h 40)), (1, .int x1), (2, .long x2), (4, .long x4), (6, .int x6), (7, .int x7)]) hx hb dX0_sectionsHold_52 hl (by decide) rfl (fun ls hl => ?_)
    refine lv_aload_n hx hb dX0_sectionsHold_54 rfl (lv_at hl 1 rfl) ?_
    refine gf_RX0_15 X Z dX0_sectionsHold_55 ?_
    refine lv_aload_n hx hb dX0_sectionsHold_58 rfl (lv_at hl 1 rfl) ?_
    refine gf_RX0_42 X Z dX0_sectionsHold_59 ?_
    refine lv_bipush (v := 16) hx hb dX0_sectionsHold_62 (by decide) ?_
    refine lv_icmp_ge (tgt := 71) hx hb dX0_sectionsHold_64 (by decide) (fun c15 => ?_) (fun c15 => ?_)
    · have hf := itp c15 hf
      refine lv_iconst (v := 0) hx hb dX0_sectionsHold_71 (by decide) ?_
      exact b_X0_sectionsHold_72 X hr hk K35 hK35 x1 x2 x4 x6 x7 v14 (0 : Int32) σ _ hf _ _ _ Z (lv_sub hl [1, 2, 3, 4, 5, 6, 0] rfl)
    · have hf := itn c15 hf
      refine lv_iconst (v := 1) hx hb dX0_sectionsHold_67 (by decide) ?_
      refine lv_goto (tgt := 72) hx hb dX0_sectionsHold_68 (by decide) ?_
      exact b_X0_sectionsHold_72 X hr hk K35 hK35 x1 x2 x4 x6 x7 v14 (1 : Int32) σ _ hf _ _ _ Z (lv_sub hl [1, 2, 3, 4, 5, 6, 0] rfl)

set_option maxRecDepth 100000 in
set_option maxHeartbeats 4000000 in
theorem b_X0_sectionsHold_35 {p : Program} {l : Launch} {e : Env} {s : State} {m : MethodId} {args : Array Value} {below : List Frame} {meth : Method} {c : Code} {D : va_G} {h : Nat → Nat} {cy : Nat → ClassId} (X : Cx p s m args c D h cy RX0 cX0_sectionsHold 12) (hr : meth.sig.returnType = some .boolean) (hk : meth.locks = false) (x1 : Int32) (x2 : Int64) (x4 : Int64) (x6 : Int32) (x7 : Int32) (σ : St) (y : Int32 × St) (hf : f_X0_sectionsHold_35 x1 x2 x4 x6 x7 σ = some y) : ∀ (H : Heap) (locs : List Loc) (ls : Array Slot), Zt D h cy s σ H locs → lv_has ls 12 [(0, .ref (h 40)), (1, .int x1), (2, .long x2), (4, .long x4), (6, .int x6), (7, .int x7)] → W p l e (rmz 3 70) s m args below meth c H locs 0 0 (EI below args s D h cy y) (F0 m 35 ls []) := by
  exact it_W (F := fun K a => f_X0_sectionsHold_35b K a.1 a.2.1 a.2.2.1 a.2.2.2.1 a.2.2.2.2.1 a.2.2.2.2.2) (P := fun a y => ∀ (H : Heap) (locs : List Loc) (ls : Array Slot), Zt D h cy s a.2.2.2.2.2 H locs → lv_has ls 12 [(0, .ref (h 40)), (1, .int a.1), (2, .long a.2.1), (4, .long a.2.2.1), (6, .int a.2.2.2.1), (7, .int a.2.2.2.2.1)] → W p l e (rmz 3 70) s m args below meth c H locs 0 0 (EI below args s D h cy y) (F0 m 35 ls [])) (fun K hK a y hf => b_X0_sectionsHold_35b X hr hk K hK (a.1) (a.2.1) (a.2.2.1) (a.2.2.2.1) (a.2.2.2.2.1) (a.2.2.2.2.2) y hf) FU _ y hf

set_option maxRecDepth 100000 in
set_option maxHeartbeats 4000000 in
theorem c_X0_sectionsHold (l : Launch) (D : va_G) (h : Nat → Nat) (cy : Nat → ClassId) (a1 : Int32) (σ : St) (y : Int32 × St) (hf : f_X0_sectionsHold a1 σ = some y) : CI l yX0_sectionsHold cX0_sectionsHold 12 (some .boolean) 3 70 D h cy [.ref (h 40), .int a1] σ y := by
  refine ent (Qc := fun sz => QI D h cy sz y) (by decide) (Nat.le_of_ble_eq_true rfl) ?_
  intro p e s m below meth c ls X Z hr hk hl
  have X : Cx p s m _ c D h cy RX0 cX0_sectionsHold 12 := X
  have hx := X.x
  have hb := X.b
  have hl : lv_has ls 12 [(0, .ref (h 40)), (1, .int a1)] := hl
  unfold f_X0_sectionsHold at hf
  refine lv_aload_n hx hb dX0_sectionsHold_0 rfl (lv_at hl 0 rfl) ?_
  refine lv_iload_n hx hb dX0_sectionsHold_1 rfl (lv_at hl 1 rfl) ?_
  refine lv_bipush (v := 24) hx hb dX0_sectionsHold_2 (by decide) ?_
  refine lv_iadd hx hb dX0_sectionsHold_4 ?_
  obtain ⟨r3, s2, h1, hf⟩ := bi_s hf
  refine goL Z (run_V (As := [.int ((a1 + (24 : Int32)))]) (rest := []) X Z (c_X0_u8 l D h cy ((a1 + (24 : Int32))) σ (r3, s2) h1 _) lk_RX0_135 ⟨by decide, by decide⟩ rv_40 rfl hl.1 rfl (Nat.le_of_ble_eq_true rfl) ⟨Nat.le_refl _, Nat.le_refl _⟩ dX0_sectionsHold_5) (fun H locs Z => ?_)
  refine lv_lstore_n (lv' := [(2, .long r3), (0, .ref (h 40)), (1, .int a1)]) hx hb dX0_sectionsHold_8 rfl hl (by decide) rfl (fun ls hl => ?_)
  refine lv_lload_n hx hb dX0_sectionsHold_9 rfl (lv_at hl 0 rfl) ?_
  refine lv_aload_n hx hb dX0_sectionsHold_10 rfl (lv_at hl 1 rfl) ?_
  refine lv_iload_n hx hb dX0_sectionsHold_11 rfl (lv_at hl 2 rfl) ?_
  refine lv_bipush (v := 32) hx hb dX0_sectionsHold_12 (by decide) ?_
  refine lv_iadd hx hb dX0_sectionsHold_14 ?_
  obtain ⟨r6, s5, h4, hf⟩ := bi_s hf
  refine goL Z (run_V (As := [.int ((a1 + (32 : Int32)))]) (rest := [.long r3]) X Z (c_X0_u8 l D h cy ((a1 + (32 : Int32))) s2 (r6, s5) h4 _) lk_RX0_135 ⟨by decide, by decide⟩ rv_40 rfl hl.1 rfl (Nat.le_of_ble_eq_true rfl) ⟨Nat.le_refl _, Nat.le_refl _⟩ dX0_sectionsHold_15) (fun H locs Z => ?_)
  refine lv_ladd hx hb dX0_sectionsHold_18 ?_
  refine lv_topl (fun v7 ev7 => ?_)
  have hf := zn_e ev7 hf
  refine lv_lstore (lv' := [(4, .long v7), (2, .long r3), (0, .ref (h 40)), (1, .int a1)]) hx hb dX0_sectionsHold_19 hl (by decide) rfl (fun ls hl => ?_)
  refine lv_aload_n hx hb dX0_sectionsHold_21 rfl (lv_at hl 2 rfl) ?_
  refine lv_iload_n hx hb dX0_sectionsHold_22 rfl (lv_at hl 3 rfl) ?_
  refine lv_bipush (v := 64) hx hb dX0_sectionsHold_23 (by decide) ?_
  refine lv_iadd hx hb dX0_sectionsHold_25 ?_
  obtain ⟨r10, s9, h8, hf⟩ := bi_s hf
  refine goL Z (run_V (As := [.int ((a1 + (64 : Int32)))]) (rest := []) X Z (c_X0_u4 l D h cy ((a1 + (64 : Int32))) s5 (r10, s9) h8 _) lk_RX0_82 ⟨by decide, by decide⟩ rv_40 rfl hl.1 rfl (Nat.le_of_ble_eq_true rfl) ⟨Nat.le_refl _, Nat.le_refl _⟩ dX0_sectionsHold_26) (fun H locs Z => ?_)
  refine lv_l2i (v := r10.toInt32) hx hb dX0_sectionsHold_29 rfl ?_
  refine lv_topi (fun v11 ev11 => ?_)
  have hf := zn_e ev11 hf
  refine lv_istore (lv' := [(6, .int v11), (4, .long v7), (2, .long r3), (0, .ref (h 40)), (1, .int a1)]) hx hb dX0_sectionsHold_30 hl (by decide) rfl (fun ls hl => ?_)
  refine lv_iconst (v := 0) hx hb dX0_sectionsHold_32 (by decide) ?_
  refine lv_topi (fun v12 ev12 => ?_)
  have hf := zn_e ev12 hf
  refine lv_istore (lv' := [(7, .int v12), (6, .int v11), (4, .long v7), (2, .long r3), (0, .ref (h 40)), (1, .int a1)]) hx hb dX0_sectionsHold_33 hl (by decide) rfl (fun ls hl => ?_)
  exact b_X0_sectionsHold_35 X hr hk a1 r3 v7 v11 v12 s9 _ hf _ _ _ Z (lv_sub hl [4, 5, 3, 2, 1, 0] rfl)

set_option maxRecDepth 100000 in
set_option maxHeartbeats 4000000 in
theorem b_X0_commandHolds_91 {p : Program} {l : Launch} {e : Env} {s : State} {m : MethodId} {args : Array Value} {below : List Frame} {meth : Method} {c : Code} {D : va_G} {h : Nat → Nat} {cy : Nat → ClassId} (X : Cx p s m args c D h cy RX0 cX0_commandHolds 4) (hr : meth.sig.returnType = some .boolean) (hk : meth.locks = false) (x1 : Int32) (t0 : Int32) (σ : St) (y : Int32 × St) (hf : f_X0_commandHolds_91 x1 t0 σ = some y) : ∀ (H : Heap) (locs : List Loc) (ls : Array Slot), Zt D h cy s σ H locs → lv_has ls 4 [(1, .int x1)] → W p l e (rmz 4 101) s m args below meth c H locs 0 0 (EI below args s D h cy y) (F0 m 91 ls [.int t0, .ref (h 39)]) := by
  intro H locs ls Z hl
  have hx := X.x
  have hb := X.b
  unfold f_X0_commandHolds_91 at hf
  refine lv_iconst (v := 4) hx hb dX0_commandHolds_91 (by decide) ?_
  refine lv_iload_n hx hb dX0_commandHolds_92 rfl (lv_at hl 0 rfl) ?_
  obtain ⟨r10, s9, h8, hf⟩ := bi_s hf
  refine goI Z (run_V (As := [.int t0, .int (4 : Int32), .int x1]) (rest := []) X Z (c_X2_unless l D h cy t0 (4 : Int32) x1 σ (r10, s9) h8 _) lk_RX0_76 ⟨by decide, by decide⟩ rv_39 rfl hl.1 rfl (Nat.le_of_ble_eq_true rfl) ⟨Nat.le_refl _, Nat.le_refl _⟩ dX0_commandHolds_93) (fun H locs Z => ?_)
  obtain ⟨g11, hf⟩ := gd_s hf
  exact retZ X hr hk Z g11 hf dX0_commandHolds_96

set_option maxRecDepth 100000 in
set_option maxHeartbeats 4000000 in
theorem c_X0_commandHolds (l : Launch) (D : va_G) (h : Nat → Nat) (cy : Nat → ClassId) (a1 : Int32) (σ : St) (y : Int32 × St) (hf : f_X0_commandHolds a1 σ = some y) : CI l yX0_commandHolds cX0_commandHolds 4 (some .boolean) 4 101 D h cy [.ref (h 40), .int a1] σ y := by
  refine ent (Qc := fun sz => QI D h cy sz y) (by decide) (Nat.le_of_ble_eq_true rfl) ?_
  intro p e s m below meth c ls X Z hr hk hl
  have X : Cx p s m _ c D h cy RX0 cX0_commandHolds 4 := X
  have hx := X.x
  have hb := X.b
  have hl : lv_has ls 4 [(0, .ref (h 40)), (1, .int a1)] := hl
  unfold f_X0_commandHolds at hf
  refine lv_aload_n hx hb dX0_commandHolds_0 rfl (lv_at hl 0 rfl) ?_
  refine lv_iload_n hx hb dX0_commandHolds_1 rfl (lv_at hl 1 rfl) ?_
  obtain ⟨r3, s2, h1, hf⟩ := bi_s hf
  refine goL Z (run_V (As := [.int a1]) (rest := []) X Z (c_X0_u4 l D h cy a1 σ (r3, s2) h1 _) lk_RX0_82 ⟨by decide, by decide⟩ rv_40 rfl hl.1 rfl (Nat.le_of_ble_eq_true rfl) ⟨Nat.le_refl _, Nat.le_refl _⟩ dX0_commandHolds_2) (fun H locs Z => ?_)
  refine lv_lstore_n (lv' := [(2, .long r3), (0, .ref (h 40)), (1, .int a1)]) hx hb dX0_commandHolds_5 rfl hl (by decide) rfl (fun ls hl => ?_)
  refine lv_lload_n hx hb dX0_commandHolds_6 rfl (lv_at hl 0 rfl) ?_
  refine lv_ldc2 (v := 25) hx hb X.o (X.t _ kc_RX0_102) dX0_commandHolds_7 ?_
  refine x_lif_ne (tgt := 44) X dX0_commandHolds_10 dX0_commandHolds_11 (by decide) (fun c4 => ?_) (fun c4 => ?_)
  · have hf := itn c4 hf
    refine lv_lload_n hx hb dX0_commandHolds_44 rfl (lv_at hl 0 rfl) ?_
    refine lv_ldc2 (v := 2) hx hb X.o (X.t _ kc_RX0_113) dX0_commandHolds_45 ?_
    refine x_lif_ne (tgt := 58) X dX0_commandHolds_48 dX0_commandHolds_49 (by decide) (fun c5 => ?_) (fun c5 => ?_)
    · have hf := itn c5 hf
      refine lv_lload_n hx hb dX0_commandHolds_58 rfl (lv_at hl 0 rfl) ?_
      refine lv_ldc2 (v := 2147483700) hx hb X.o (X.t _ kc_RX0_118) dX0_commandHolds_59 ?_
      refine x_lif_ne (tgt := 72) X dX0_commandHolds_62 dX0_commandHolds_63 (by decide) (fun c6 => ?_) (fun c6 => ?_)
      · have hf := itn c6 hf
        refine lv_aload_n hx hb dX0_commandHolds_72 rfl (lv_at hl 1 rfl) ?_
        refine gf_RX0_15 X Z dX0_commandHolds_73 ?_
        refine lv_lload_n hx hb dX0_commandHolds_76 rfl (lv_at hl 0 rfl) ?_
        refine lv_ldc2 (v := 2147483648) hx hb X.o (X.t _ kc_RX0_123) dX0_commandHolds_77 ?_
        refine lv_land hx hb dX0_commandHolds_80 ?_
        refine lv_lconst (v := 0) hx hb dX0_commandHolds_81 (by decide) ?_
        refine x_lif_ne (tgt := 90) X dX0_commandHolds_82 dX0_commandHolds_83 (by decide) (fun c7 => ?_) (fun c7 => ?_)
        · have hf := itn c7 hf
          refine lv_iconst (v := 0) hx hb dX0_commandHolds_90 (by decide) ?_
          exact b_X0_commandHolds_91 X hr hk a1 (0 : Int32) s2 _ hf _ _ _ Z (lv_sub hl [2] rfl)
        · have hf := itp c7 hf
          refine lv_iconst (v := 1) hx hb dX0_commandHolds_86 (by decide) ?_
          refine lv_goto (tgt := 91) hx hb dX0_commandHolds_87 (by decide) ?_
          exact b_X0_commandHolds_91 X hr hk a1 (1 : Int32) s2 _ hf _ _ _ Z (lv_sub hl [2] rfl)
      · have hf := itp c6 hf
        refine lv_aload_n hx hb dX0_commandHolds_66 rfl (lv_at hl 1 rfl) ?_
        refine lv_iload_n hx hb dX0_commandHolds_67 rfl (lv_at hl 2 rfl) ?_
        obtain ⟨r14, s13, h12, hf⟩ := bi_s hf
        refine goI Z (run_V (As := [.int a1]) (rest := []) X Z (c_X0_chainsHold l D h cy a1 s2 (r14, s13) h12 _) lk_RX0_120 ⟨by decide, by decide⟩ rv_40 rfl hl.1 rfl (Nat.le_of_ble_eq_true rfl) ⟨Nat.le_refl _, Nat.le_refl _⟩ dX0_commandHolds_68) (fun H locs Z => ?_)
        obtain ⟨g15, hf⟩ := gd_s hf
        exact retZ X hr hk Z g15 hf dX0_commandHolds_71
    · have hf := itp c5 hf
      refine lv_aload_n hx hb dX0_commandHolds_52 rfl (lv_at hl 1 rfl) ?_
      refine lv_iload_n hx hb dX0_commandHolds_53 rfl (lv_at hl 2 rfl) ?_
      obtain ⟨r18, s17, h16, hf⟩ := bi_s hf
      refine goI Z (run_V (As := [.int a1]) (rest := []) X Z (c_X0_symtabHolds l D h cy a1 s2 (r18, s17) h16 _) lk_RX0_115 ⟨by decide, by decide⟩ rv_40 rfl hl.1 rfl (Nat.le_of_ble_eq_true rfl) ⟨Nat.le_refl _, Nat.le_refl _⟩ dX0_commandHolds_54) (fun H locs Z => ?_)
      obtain ⟨g19, hf⟩ := gd_s hf
      exact retZ X hr hk Z g19 hf dX0_commandHolds_57
  · have hf := itp c4 hf
    refine lv_aload_n hx hb dX0_commandHolds_14 rfl (lv_at hl 1 rfl) ?_
    refine lv_iload_n hx hb dX0_commandHolds_15 rfl (lv_at hl 2 rfl) ?_
    obtain ⟨r22, s21, h20, hf⟩ := bi_s hf
    refine goI Z (run_V (As := [.int a1]) (rest := []) X Z (c_X0_segmentHolds l D h cy a1 s2 (r22, s21) h20 _) lk_RX0_104 ⟨by decide, by decide⟩ rv_40 rfl hl.1 rfl (Nat.le_of_ble_eq_true rfl) ⟨Nat.le_refl _, Nat.le_refl _⟩ dX0_commandHolds_16) (fun H locs Z => ?_)
    refine lv_if_eq (tgt := 42) hx hb dX0_commandHolds_19 (by decide) (fun c23 => ?_) (fun c23 => ?_)
    · have hf := itp c23 hf
      refine lv_iconst (v := 0) hx hb dX0_commandHolds_42 (by decide) ?_
      exact retZ X hr hk Z (by decide) hf dX0_commandHolds_43
    · have hf := itn c23 hf
      refine lv_aload_n hx hb dX0_commandHolds_22 rfl (lv_at hl 1 rfl) ?_
      refine lv_iload_n hx hb dX0_commandHolds_23 rfl (lv_at hl 2 rfl) ?_
      obtain ⟨r26, s25, h24, hf⟩ := bi_s hf
      refine goI Z (run_V (As := [.int a1]) (rest := []) X Z (c_X0_spanHolds l D h cy a1 s21 (r26, s25) h24 _) lk_RX0_107 ⟨by decide, by decide⟩ rv_40 rfl hl.1 rfl (Nat.le_of_ble_eq_true rfl) ⟨Nat.le_refl _, Nat.le_refl _⟩ dX0_commandHolds_24) (fun H locs Z => ?_)
      refine lv_if_eq (tgt := 42) hx hb dX0_commandHolds_27 (by decide) (fun c27 => ?_) (fun c27 => ?_)
      · have hf := itp c27 hf
        refine lv_iconst (v := 0) hx hb dX0_commandHolds_42 (by decide) ?_
        exact retZ X hr hk Z (by decide) hf dX0_commandHolds_43
      · have hf := itn c27 hf
        refine lv_aload_n hx hb dX0_commandHolds_30 rfl (lv_at hl 1 rfl) ?_
        refine lv_iload_n hx hb dX0_commandHolds_31 rfl (lv_at hl 2 rfl) ?_
        obtain ⟨r30, s29, h28, hf⟩ := bi_s hf
        refine goI Z (run_V (As := [.int a1]) (rest := []) X Z (c_X0_sectionsHold l D h cy a1 s25 (r30, s29) h28 _) lk_RX0_110 ⟨by decide, by decide⟩ rv_40 rfl hl.1 rfl (Nat.le_of_ble_eq_true rfl) ⟨Nat.le_refl _, Nat.le_refl _⟩ dX0_commandHolds_32) (fun H locs Z => ?_)
        refine lv_if_eq (tgt := 42) hx hb dX0_commandHolds_35 (by decide) (fun c31 => ?_) (fun c31 => ?_)
        · have hf := itp c31 hf
          refine lv_iconst (v := 0) hx hb dX0_commandHolds_42 (by decide) ?_
          exact retZ X hr hk Z (by decide) hf dX0_commandHolds_43
        · have hf := itn c31 hf
          refine lv_iconst (v := 1) hx hb dX0_commandHolds_38 (by decide) ?_
          refine lv_goto (tgt := 43) hx hb dX0_commandHolds_39 (by decide) ?_
          exact retZ X hr hk Z (by decide) hf dX0_commandHolds_43

set_option maxRecDepth 100000 in
set_option maxHeartbeats 4000000 in
theorem b_X0_commandsHold_81 {p : Program} {l : Launch} {e : Env} {s : State} {m : MethodId} {args : Array Value} {below : List Frame} {meth : Method} {c : Code} {D : va_G} {h : Nat → Nat} {cy : Nat → ClassId} (X : Cx p s m args c D h cy RX0 cX0_commandsHold 5) (hr : meth.sig.returnType = some .boolean) (hk : meth.locks = false) (x3 : Int32) (t0 : Int32) (σ : St) (y : Int32 × St) (hf : f_X0_commandsHold_81 x3 t0 σ = some y) : ∀ (H : Heap) (locs : List Loc) (ls : Array Slot), Zt D h cy s σ H locs → lv_has ls 5 [(3, .int x3)] → W p l e (rmz 5 124) s m args below meth c H locs 0 0 (EI below args s D h cy y) (F0 m 81 ls [.int t0, .ref (h 39)]) := by
  intro H locs ls Z hl
  have hx := X.x
  have hb := X.b
  unfold f_X0_commandsHold_81 at hf
  refine lv_iconst (v := 3) hx hb dX0_commandsHold_81 (by decide) ?_
  refine lv_iload_n hx hb dX0_commandsHold_82 rfl (lv_at hl 0 rfl) ?_
  obtain ⟨r15, s14, h13, hf⟩ := bi_s hf
  refine goI Z (run_V (As := [.int t0, .int (3 : Int32), .int x3]) (rest := []) X Z (c_X2_unless l D h cy t0 (3 : Int32) x3 σ (r15, s14) h13 _) lk_RX0_76 ⟨by decide, by decide⟩ rv_39 rfl hl.1 rfl (Nat.le_of_ble_eq_true rfl) ⟨Nat.le_refl _, Nat.le_refl _⟩ dX0_commandsHold_83) (fun H locs Z => ?_)
  obtain ⟨g16, hf⟩ := gd_s hf
  exact retZ X hr hk Z g16 hf dX0_commandsHold_86

set_option maxRecDepth 100000 in
set_option maxHeartbeats 4000000 in
theorem b_X0_commandsHold_25b {p : Program} {l : Launch} {e : Env} {s : State} {m : MethodId} {args : Array Value} {below : List Frame} {meth : Method} {c : Code} {D : va_G} {h : Nat → Nat} {cy : Nat → ClassId} (X : Cx p s m args c D h cy RX0 cX0_commandsHold 5) (hr : meth.sig.returnType = some .boolean) (hk : meth.locks = false) (K25 : (Int32 × Int32 × Int32 × Int32 × St) → Option (Int32 × St)) (hK25 : ∀ (a : Int32 × Int32 × Int32 × Int32 × St) (y : Int32 × St), K25 a = some y → ∀ (H : Heap) (locs : List Loc) (ls : Array Slot), Zt D h cy s a.2.2.2.2 H locs → lv_has ls 5 [(0, .ref (h 40)), (1, .int a.1), (2, .int a.2.1), (3, .int a.2.2.1), (4, .int a.2.2.2.1)] → W p l e (rmz 5 124) s m args below meth c H locs 0 0 (EI below args s D h cy y) (F0 m 25 ls [])) (x1 : Int32) (x2 : Int32) (x3 : Int32) (x4 : Int32) (σ : St) (y : Int32 × St) (hf : f_X0_commandsHold_25b K25 x1 x2 x3 x4 σ = some y) : ∀ (H : Heap) (locs : List Loc) (ls : Array Slot), Zt D h cy s σ H locs → lv_has ls 5 [(0, .ref (h 40)), (1, .int x1), (2, .int x2), (3, .int x3), (4, .int x4)] → W p l e (rmz 5 124) s m args below meth c H locs 0 0 (EI below args s D h cy y) (F0 m 25 ls []) := by
  intro H locs ls Z hl
  have hx := X.x
  have hb := X.b
  unfold f_X0_commandsHold_25b at hf
  refine lv_iload hx hb dX0_commandsHold_25 (lv_at hl 4 rfl) ?_
  refine lv_iload_n hx hb dX0_commandsHold_27 rfl (lv_at hl 1 rfl) ?_
  refine lv_icmp_ge (tgt := 67) hx hb dX0_commandsHold_28 (by decide) (fun c11 => ?_) (fun c11 => ?_)
  · have hf := itp c11 hf
    refine lv_aload_n hx hb dX0_commandsHold_67 rfl (lv_at hl 0 rfl) ?_
    refine gf_RX0_15 X Z dX0_commandsHold_68 ?_
    refine lv_iload_n hx hb dX0_commandsHold_71 rfl (lv_at hl 3 rfl) ?_
    refine lv_iload_n hx hb dX0_commandsHold_72 rfl (lv_at hl 2 rfl) ?_
    refine lv_icmp_ne (tgt := 80) hx hb dX0_commandsHold_73 (by decide) (fun c12 => ?_) (fun c12 => ?_)
    · have hf := itn c12 hf
      refine lv_iconst (v := 0) hx hb dX0_commandsHold_80 (by decide) ?_
      exact b_X0_commandsHold_81 X hr hk x3 (0 : Int32) σ _ hf _ _ _ Z (lv_sub hl [3] rfl)
    · have hf := itp c12 hf
      refine lv_iconst (v := 1) hx hb dX0_commandsHold_76 (by decide) ?_
      refine lv_goto (tgt := 81) hx hb dX0_commandsHold_77 (by decide) ?_
      exact b_X0_commandsHold_81 X hr hk x3 (1 : Int32) σ _ hf _ _ _ Z (lv_sub hl [3] rfl)
  · have hf := itn c11 hf
    refine lv_aload_n hx hb dX0_commandsHold_31 rfl (lv_at hl 0 rfl) ?_
    refine lv_iload_n hx hb dX0_commandsHold_32 rfl (lv_at hl 3 rfl) ?_
    refine lv_iload_n hx hb dX0_commandsHold_33 rfl (lv_at hl 2 rfl) ?_
    obtain ⟨r19, s18, h17, hf⟩ := bi_s hf
    refine goI Z (run_V (As := [.int x3, .int x2]) (rest := []) X Z (c_X0_sizeHolds l D h cy x3 x2 σ (r19, s18) h17 _) lk_RX0_92 ⟨by decide, by decide⟩ rv_40 rfl hl.1 rfl (Nat.le_of_ble_eq_true rfl) ⟨Nat.le_refl _, Nat.le_refl _⟩ dX0_commandsHold_34) (fun H locs Z => ?_)
    refine lv_if_eq (tgt := 48) hx hb dX0_commandsHold_37 (by decide) (fun c20 => ?_) (fun c20 => ?_)
    · have hf := itp c20 hf
      refine lv_iconst (v := 0) hx hb dX0_commandsHold_48 (by decide) ?_
      exact retZ X hr hk Z (by decide) hf dX0_commandsHold_49
    · have hf := itn c20 hf
      refine lv_aload_n hx hb dX0_commandsHold_40 rfl (lv_at hl 0 rfl) ?_
      refine lv_iload_n hx hb dX0_commandsHold_41 rfl (lv_at hl 3 rfl) ?_
      obtain ⟨r23, s22, h21, hf⟩ := bi_s hf
      refine goI Z (run_V (As := [.int x3]) (rest := []) X Z (c_X0_commandHolds l D h cy x3 s18 (r23, s22) h21 _) lk_RX0_96 ⟨by decide, by decide⟩ rv_40 rfl hl.1 rfl (Nat.le_of_ble_eq_true rfl) ⟨Nat.le_refl _, Nat.le_refl _⟩ dX0_commandsHold_42) (fun H locs Z => ?_)
      refine lv_if_ne (tgt := 50) hx hb dX0_commandsHold_45 (by decide) (fun c24 => ?_) (fun c24 => ?_)
      · have hf := itn c24 hf
        refine lv_iload_n hx hb dX0_commandsHold_50 rfl (lv_at hl 3 rfl) ?_
        refine lv_aload_n hx hb dX0_commandsHold_51 rfl (lv_at hl 0 rfl) ?_
        refine lv_iload_n hx hb dX0_commandsHold_52 rfl (lv_at hl 3 rfl) ?_
        refine lv_iconst (v := 4) hx hb dX0_commandsHold_53 (by decide) ?_
        refine lv_iadd hx hb dX0_commandsHold_54 ?_
        obtain ⟨r27, s26, h25, hf⟩ := bi_s hf
        refine goL Z (run_V (As := [.int ((x3 + (4 : Int32)))]) (rest := [.int x3]) X Z (c_X0_u4 l D h cy ((x3 + (4 : Int32))) s22 (r27, s26) h25 _) lk_RX0_82 ⟨by decide, by decide⟩ rv_40 rfl hl.1 rfl (Nat.le_of_ble_eq_true rfl) ⟨Nat.le_refl _, Nat.le_refl _⟩ dX0_commandsHold_55) (fun H locs Z => ?_)
        refine lv_l2i (v := r27.toInt32) hx hb dX0_commandsHold_58 rfl ?_
        refine lv_iadd hx hb dX0_commandsHold_59 ?_
        refine lv_topi (fun v28 ev28 => ?_)
        have hf := zn_e ev28 hf
        refine lv_istore_n (lv' := [(3, .int v28), (0, .ref (h 40)), (1, .int x1), (2, .int x2), (4, .int x4)]) hx hb dX0_commandsHold_60 rfl hl (by decide) rfl (fun ls hl => ?_)
        obtain ⟨v29, ev29⟩ : ∃ z : Int32, z = x4 + 1 := ⟨_, rfl⟩
        have hf := zn_e ev29 hf
        refine lv_iinc (v := v29) (lv' := [(4, .int v29), (3, .int v28), (0, .ref (h 40)), (1, .int x1), (2, .int x2)]) hx hb dX0_commandsHold_61 hl (k := 4) rfl (by rw [ev29]; rfl) (by decide) rfl (fun ls hl => ?_)
        refine lv_goto (tgt := 25) hx hb dX0_commandsHold_64 (by decide) ?_
        exact hK25 (x1, x2, v28, v29, s26) _ hf _ _ _ Z (lv_sub hl [2, 3, 4, 1, 0] rfl)
      · have hf := itp c24 hf
        refine lv_iconst (v := 0) hx hb dX0_commandsHold_48 (by decide) ?_
        exact retZ X hr hk Z (by decide) hf dX0_commandsHold_49

set_option maxRecDepth 100000 in
set_option maxHeartbeats 4000000 in
theorem b_X0_commandsHold_25 {p : Program} {l : Launch} {e : Env} {s : State} {m : MethodId} {args : Array Value} {below : List Frame} {meth : Method} {c : Code} {D : va_G} {h : Nat → Nat} {cy : Nat → ClassId} (X : Cx p s m args c D h cy RX0 cX0_commandsHold 5) (hr : meth.sig.returnType = some .boolean) (hk : meth.locks = false) (x1 : Int32) (x2 : Int32) (x3 : Int32) (x4 : Int32) (σ : St) (y : Int32 × St) (hf : f_X0_commandsHold_25 x1 x2 x3 x4 σ = some y) : ∀ (H : Heap) (locs : List Loc) (ls : Array Slot), Zt D h cy s σ H locs → lv_has ls 5 [(0, .ref (h 40)), (1, .int x1), (2, .int x2), (3, .int x3), (4, .int x4)] → W p l e (rmz 5 124) s m args below meth c H locs 0 0 (EI below args s D h cy y) (F0 m 25 ls []) := by
  exact it_W (F := fun K a => f_X0_commandsHold_25b K a.1 a.2.1 a.2.2.1 a.2.2.2.1 a.2.2.2.2) (P := fun a y => ∀ (H : Heap) (locs : List Loc) (ls : Array Slot), Zt D h cy s a.2.2.2.2 H locs → lv_has ls 5 [(0, .ref (h 40)), (1, .int a.1), (2, .int a.2.1), (3, .int a.2.2.1), (4, .int a.2.2.2.1)] → W p l e (rmz 5 124) s m args below meth c H locs 0 0 (EI below args s D h cy y) (F0 m 25 ls [])) (fun K hK a y hf => b_X0_commandsHold_25b X hr hk K hK (a.1) (a.2.1) (a.2.2.1) (a.2.2.2.1) (a.2.2.2.2) y hf) FU _ y hf

set_option maxRecDepth 100000 in
set_option maxHeartbeats 4000000 in
theorem c_X0_commandsHold (l : Launch) (D : va_G) (h : Nat → Nat) (cy : Nat → ClassId) (σ : St) (y : Int32 × St) (hf : f_X0_commandsHold σ = some y) : CI l yX0_commandsHold cX0_commandsHold 5 (some .boolean) 5 124 D h cy [.ref (h 40)] σ y := by
  refine ent (Qc := fun sz => QI D h cy sz y) (by decide) (Nat.le_of_ble_eq_true rfl) ?_
  intro p e s m below meth c ls X Z hr hk hl
  have X : Cx p s m _ c D h cy RX0 cX0_commandsHold 5 := X
  have hx := X.x
  have hb := X.b
  have hl : lv_has ls 5 [(0, .ref (h 40))] := hl
  unfold f_X0_commandsHold at hf
  refine lv_aload_n hx hb dX0_commandsHold_0 rfl (lv_at hl 0 rfl) ?_
  refine lv_bipush (v := 16) hx hb dX0_commandsHold_1 (by decide) ?_
  obtain ⟨r3, s2, h1, hf⟩ := bi_s hf
  refine goL Z (run_V (As := [.int (16 : Int32)]) (rest := []) X Z (c_X0_u4 l D h cy (16 : Int32) σ (r3, s2) h1 _) lk_RX0_82 ⟨by decide, by decide⟩ rv_40 rfl hl.1 rfl (Nat.le_of_ble_eq_true rfl) ⟨Nat.le_refl _, Nat.le_refl _⟩ dX0_commandsHold_3) (fun H locs Z => ?_)
  refine lv_l2i (v := r3.toInt32) hx hb dX0_commandsHold_6 rfl ?_
  refine lv_topi (fun v4 ev4 => ?_)
  have hf := zn_e ev4 hf
  refine lv_istore_n (lv' := [(1, .int v4), (0, .ref (h 40))]) hx hb dX0_commandsHold_7 rfl hl (by decide) rfl (fun ls hl => ?_)
  refine lv_bipush (v := 32) hx hb dX0_commandsHold_8 (by decide) ?_
  refine lv_aload_n hx hb dX0_commandsHold_10 rfl (lv_at hl 1 rfl) ?_
  refine lv_bipush (v := 20) hx hb dX0_commandsHold_11 (by decide) ?_
  obtain ⟨r7, s6, h5, hf⟩ := bi_s hf
  refine goL Z (run_V (As := [.int (20 : Int32)]) (rest := [.int (32 : Int32)]) X Z (c_X0_u4 l D h cy (20 : Int32) s2 (r7, s6) h5 _) lk_RX0_82 ⟨by decide, by decide⟩ rv_40 rfl hl.1 rfl (Nat.le_of_ble_eq_true rfl) ⟨Nat.le_refl _, Nat.le_refl _⟩ dX0_commandsHold_13) (fun H locs Z => ?_)
  refine lv_l2i (v := r7.toInt32) hx hb dX0_commandsHold_16 rfl ?_
  refine lv_iadd hx hb dX0_commandsHold_17 ?_
  refine lv_topi (fun v8 ev8 => ?_)
  have hf := zn_e ev8 hf
  refine lv_istore_n (lv' := [(2, .int v8), (1, .int v4), (0, .ref (h 40))]) hx hb dX0_commandsHold_18 rfl hl (by decide) rfl (fun ls hl => ?_)
  refine lv_bipush (v := 32) hx hb dX0_commandsHold_19 (by decide) ?_
  refine lv_topi (fun v9 ev9 => ?_)
  have hf := zn_e ev9 hf
  refine lv_istore_n (lv' := [(3, .int v9), (2, .int v8), (1, .int v4), (0, .ref (h 40))]) hx hb dX0_commandsHold_21 rfl hl (by decide) rfl (fun ls hl => ?_)
  refine lv_iconst (v := 0) hx hb dX0_commandsHold_22 (by decide) ?_
  refine lv_topi (fun v10 ev10 => ?_)
  have hf := zn_e ev10 hf
  refine lv_istore (lv' := [(4, .int v10), (3, .int v9), (2, .int v8), (1, .int v4), (0, .ref (h 40))]) hx hb dX0_commandsHold_23 hl (by decide) rfl (fun ls hl => ?_)
  exact b_X0_commandsHold_25 X hr hk v4 v8 v9 v10 s6 _ hf _ _ _ Z (lv_sub hl [4, 3, 2, 1, 0] rfl)

set_option maxRecDepth 100000 in
set_option maxHeartbeats 4000000 in
theorem c_X6_at (l : Launch) (D : va_G) (h : Nat → Nat) (cy : Nat → ClassId) {k0 n0 : Nat} (hR0 : RowS k0 n0) (a1 : Int32) (σ : St) (y : Int32 × St) (hf : f_X6_at k0 n0 a1 σ = some y) : CI l yX6_at cX6_at 2 (some .int) 0 0 D h cy [.ref (h k0), .int a1] σ y := by
  refine ent (Qc := fun sz => QI D h cy sz y) (by decide) (Nat.le_of_ble_eq_true rfl) ?_
  intro p e s m below meth c ls X Z hr hk hl
  have X : Cx p s m _ c D h cy RX6 cX6_at 2 := X
  have hx := X.x
  have hb := X.b
  have hl : lv_has ls 2 [(0, .ref (h k0)), (1, .int a1)] := hl
  unfold f_X6_at at hf
  refine lv_iload_n hx hb dX6_at_0 rfl (lv_at hl 1 rfl) ?_
  refine lv_if_lt (tgt := 25) hx hb dX6_at_1 (by decide) (fun c1 => ?_) (fun c1 => ?_)
  · have hf := itp c1 hf
    refine lv_iconst (v := 0) hx hb dX6_at_25 (by decide) ?_
    exact retI X hr hk Z hf dX6_at_26
  · have hf := itn c1 hf
    refine lv_iload_n hx hb dX6_at_4 rfl (lv_at hl 1 rfl) ?_
    refine lv_aload_n hx hb dX6_at_5 rfl (lv_at hl 0 rfl) ?_
    refine gf_RX6_15 X Z hR0 dX6_at_6 ?_
    refine lv_icmp_ge (tgt := 25) hx hb dX6_at_9 (by decide) (fun c2 => ?_) (fun c2 => ?_)
    · have hf := itp c2 hf
      refine lv_iconst (v := 0) hx hb dX6_at_25 (by decide) ?_
      exact retI X hr hk Z hf dX6_at_26
    · have hf := itn c2 hf
      refine lv_aload_n hx hb dX6_at_12 rfl (lv_at hl 0 rfl) ?_
      refine gf_RX6_9 X Z hR0 dX6_at_13 ?_
      refine lv_iload_n hx hb dX6_at_16 rfl (lv_at hl 1 rfl) ?_
      obtain ⟨g3, hf⟩ := gd_s hf
      refine x_bald (k := (k0 + 1)) X Z hR0.2 g3 dX6_at_17 ?_
      refine lv_sipush (v := 255) hx hb dX6_at_18 (by decide) ?_
      refine lv_iand hx hb dX6_at_21 ?_
      refine lv_goto (tgt := 26) hx hb dX6_at_22 (by decide) ?_
      exact retI X hr hk Z hf dX6_at_26

set_option maxRecDepth 100000 in
set_option maxHeartbeats 4000000 in
theorem b_X6_lastZero_4b {p : Program} {l : Launch} {e : Env} {s : State} {m : MethodId} {args : Array Value} {below : List Frame} {meth : Method} {c : Code} {D : va_G} {h : Nat → Nat} {cy : Nat → ClassId} (X : Cx p s m args c D h cy RX6 cX6_lastZero 4) (hr : meth.sig.returnType = some .int) (hk : meth.locks = false) {k0 n0 : Nat} (hR0 : RowS k0 n0) (K4 : (Int32 × Int32 × St) → Option (Int32 × St)) (hK4 : ∀ (a : Int32 × Int32 × St) (y : Int32 × St), K4 a = some y → ∀ (H : Heap) (locs : List Loc) (ls : Array Slot), Zt D h cy s a.2.2 H locs → lv_has ls 4 [(0, .ref (h k0)), (1, .int a.1), (3, .int a.2.1)] → W p l e (rmz 1 21) s m args below meth c H locs 0 0 (EI below args s D h cy y) (F0 m 4 ls [])) (x1 : Int32) (x3 : Int32) (σ : St) (y : Int32 × St) (hf : f_X6_lastZero_4b k0 n0 K4 x1 x3 σ = some y) : ∀ (H : Heap) (locs : List Loc) (ls : Array Slot), Zt D h cy s σ H locs → lv_has ls 4 [(0, .ref (h k0)), (1, .int x1), (3, .int x3)] → W p l e (rmz 1 21) s m args below meth c H locs 0 0 (EI below args s D h cy y) (F0 m 4 ls []) := by
  intro H locs ls Z hl
  have hx := X.x
  have hb := X.b
  unfold f_X6_lastZero_4b at hf
  refine lv_iload_n hx hb dX6_lastZero_4 rfl (lv_at hl 2 rfl) ?_
  refine lv_iload_n hx hb dX6_lastZero_5 rfl (lv_at hl 1 rfl) ?_
  refine lv_icmp_lt (tgt := 25) hx hb dX6_lastZero_6 (by decide) (fun c2 => ?_) (fun c2 => ?_)
  · have hf := itp c2 hf
    refine lv_iconst (v := (-1)) hx hb dX6_lastZero_25 (by decide) ?_
    exact retI X hr hk Z hf dX6_lastZero_26
  · have hf := itn c2 hf
    refine lv_aload_n hx hb dX6_lastZero_9 rfl (lv_at hl 0 rfl) ?_
    refine lv_iload_n hx hb dX6_lastZero_10 rfl (lv_at hl 2 rfl) ?_
    obtain ⟨r5, s4, h3, hf⟩ := bi_s hf
    refine goI Z (run_V (As := [.int x3]) (rest := []) X Z (c_X6_at l D h cy hR0 x3 σ (r5, s4) h3 _) lk_RX6_47 ⟨by decide, by decide⟩ (rv_RowS hR0) rfl hl.1 rfl (Nat.le_of_ble_eq_true rfl) ⟨Nat.le_refl _, Nat.le_refl _⟩ dX6_lastZero_11) (fun H locs Z => ?_)
    refine lv_if_ne (tgt := 19) hx hb dX6_lastZero_14 (by decide) (fun c6 => ?_) (fun c6 => ?_)
    · have hf := itn c6 hf
      obtain ⟨v7, ev7⟩ : ∃ z : Int32, z = x3 + (-1) := ⟨_, rfl⟩
      have hf := zn_e ev7 hf
      refine lv_iinc (v := v7) (lv' := [(3, .int v7), (0, .ref (h k0)), (1, .int x1)]) hx hb dX6_lastZero_19 hl (k := 2) rfl (by rw [ev7]; rfl) (by decide) rfl (fun ls hl => ?_)
      refine lv_goto (tgt := 4) hx hb dX6_lastZero_22 (by decide) ?_
      exact hK4 (x1, v7, s4) _ hf _ _ _ Z (lv_sub hl [1, 2, 0] rfl)
    · have hf := itp c6 hf
      refine lv_iload_n hx hb dX6_lastZero_17 rfl (lv_at hl 2 rfl) ?_
      exact retI X hr hk Z hf dX6_lastZero_18

set_option maxRecDepth 100000 in
set_option maxHeartbeats 4000000 in
theorem b_X6_lastZero_4 {p : Program} {l : Launch} {e : Env} {s : State} {m : MethodId} {args : Array Value} {below : List Frame} {meth : Method} {c : Code} {D : va_G} {h : Nat → Nat} {cy : Nat → ClassId} (X : Cx p s m args c D h cy RX6 cX6_lastZero 4) (hr : meth.sig.returnType = some .int) (hk : meth.locks = false) {k0 n0 : Nat} (hR0 : RowS k0 n0) (x1 : Int32) (x3 : Int32) (σ : St) (y : Int32 × St) (hf : f_X6_lastZero_4 k0 n0 x1 x3 σ = some y) : ∀ (H : Heap) (locs : List Loc) (ls : Array Slot), Zt D h cy s σ H locs → lv_has ls 4 [(0, .ref (h k0)), (1, .int x1), (3, .int x3)] → W p l e (rmz 1 21) s m args below meth c H locs 0 0 (EI below args s D h cy y) (F0 m 4 ls []) := by
  exact it_W (F := fun K a => f_X6_lastZero_4b k0 n0 K a.1 a.2.1 a.2.2) (P := fun a y => ∀ (H : Heap) (locs : List Loc) (ls : Array Slot), Zt D h cy s a.2.2 H locs → lv_has ls 4 [(0, .ref (h k0)), (1, .int a.1), (3, .int a.2.1)] → W p l e (rmz 1 21) s m args below meth c H locs 0 0 (EI below args s D h cy y) (F0 m 4 ls [])) (fun K hK a y hf => b_X6_lastZero_4b X hr hk hR0 K hK (a.1) (a.2.1) (a.2.2) y hf) FU _ y hf

set_option maxRecDepth 100000 in
set_option maxHeartbeats 4000000 in
theorem c_X6_lastZero (l : Launch) (D : va_G) (h : Nat → Nat) (cy : Nat → ClassId) {k0 n0 : Nat} (hR0 : RowS k0 n0) (a1 : Int32) (a2 : Int32) (σ : St) (y : Int32 × St) (hf : f_X6_lastZero k0 n0 a1 a2 σ = some y) : CI l yX6_lastZero cX6_lastZero 4 (some .int) 1 21 D h cy [.ref (h k0), .int a1, .int a2] σ y := by
  refine ent (Qc := fun sz => QI D h cy sz y) (by decide) (Nat.le_of_ble_eq_true rfl) ?_
  intro p e s m below meth c ls X Z hr hk hl
  have X : Cx p s m _ c D h cy RX6 cX6_lastZero 4 := X
  have hx := X.x
  have hb := X.b
  have hl : lv_has ls 4 [(0, .ref (h k0)), (1, .int a1), (2, .int a2)] := hl
  unfold f_X6_lastZero at hf
  refine lv_iload_n hx hb dX6_lastZero_0 rfl (lv_at hl 2 rfl) ?_
  refine lv_iconst (v := 1) hx hb dX6_lastZero_1 (by decide) ?_
  refine lv_isub hx hb dX6_lastZero_2 ?_
  refine lv_topi (fun v1 ev1 => ?_)
  have hf := zn_e ev1 hf
  refine lv_istore_n (lv' := [(3, .int v1), (0, .ref (h k0)), (1, .int a1), (2, .int a2)]) hx hb dX6_lastZero_3 rfl hl (by decide) rfl (fun ls hl => ?_)
  exact b_X6_lastZero_4 X hr hk hR0 a1 v1 σ _ hf _ _ _ Z (lv_sub hl [1, 2, 0] rfl)

set_option maxRecDepth 100000 in
set_option maxHeartbeats 4000000 in
theorem b_X0_symbolsHold_102 {p : Program} {l : Launch} {e : Env} {s : State} {m : MethodId} {args : Array Value} {below : List Frame} {meth : Method} {c : Code} {D : va_G} {h : Nat → Nat} {cy : Nat → ClassId} (X : Cx p s m args c D h cy RX0 cX0_symbolsHold 4) (hr : meth.sig.returnType = some .boolean) (hk : meth.locks = false) (K23 : (Int32 × Int32 × St) → Option (Int32 × St)) (hK23 : ∀ (a : Int32 × Int32 × St) (y : Int32 × St), K23 a = some y → ∀ (H : Heap) (locs : List Loc) (ls : Array Slot), Zt D h cy s a.2.2 H locs → lv_has ls 4 [(0, .ref (h 40)), (1, .int a.1), (2, .int a.2.1)] → W p l e (rmz 3 70) s m args below meth c H locs 0 0 (EI below args s D h cy y) (F0 m 23 ls [])) (x1 : Int32) (x2 : Int32) (x3 : Int32) (t0 : Int32) (σ : St) (y : Int32 × St) (hf : f_X0_symbolsHold_102 K23 x1 x2 x3 t0 σ = some y) : ∀ (H : Heap) (locs : List Loc) (ls : Array Slot), Zt D h cy s σ H locs → lv_has ls 4 [(0, .ref (h 40)), (1, .int x1), (2, .int x2), (3, .int x3)] → W p l e (rmz 3 70) s m args below meth c H locs 0 0 (EI below args s D h cy y) (F0 m 102 ls [.int t0, .ref (h 39)]) := by
  intro H locs ls Z hl
  have hx := X.x
  have hb := X.b
  unfold f_X0_symbolsHold_102 at hf
  refine lv_bipush (v := 8) hx hb dX0_symbolsHold_102 (by decide) ?_
  refine lv_iload_n hx hb dX0_symbolsHold_104 rfl (lv_at hl 3 rfl) ?_
  refine lv_iconst (v := 5) hx hb dX0_symbolsHold_105 (by decide) ?_
  refine lv_iadd hx hb dX0_symbolsHold_106 ?_
  obtain ⟨r21, s20, h19, hf⟩ := bi_s hf
  refine goI Z (run_V (As := [.int t0, .int (8 : Int32), .int ((x3 + (5 : Int32)))]) (rest := []) X Z (c_X2_unless l D h cy t0 (8 : Int32) ((x3 + (5 : Int32))) σ (r21, s20) h19 _) lk_RX0_76 ⟨by decide, by decide⟩ rv_39 rfl hl.1 rfl (Nat.le_of_ble_eq_true rfl) ⟨Nat.le_refl _, Nat.le_refl _⟩ dX0_symbolsHold_107) (fun H locs Z => ?_)
  refine lv_if_eq (tgt := 124) hx hb dX0_symbolsHold_110 (by decide) (fun c22 => ?_) (fun c22 => ?_)
  · have hf := itp c22 hf
    refine lv_iconst (v := 0) hx hb dX0_symbolsHold_124 (by decide) ?_
    exact retZ X hr hk Z (by decide) hf dX0_symbolsHold_125
  · have hf := itn c22 hf
    refine lv_aload_n hx hb dX0_symbolsHold_113 rfl (lv_at hl 0 rfl) ?_
    refine lv_iload_n hx hb dX0_symbolsHold_114 rfl (lv_at hl 3 rfl) ?_
    refine lv_bipush (v := 8) hx hb dX0_symbolsHold_115 (by decide) ?_
    refine lv_iadd hx hb dX0_symbolsHold_117 ?_
    obtain ⟨r25, s24, h23, hf⟩ := bi_s hf
    refine goI Z (run_V (As := [.int ((x3 + (8 : Int32)))]) (rest := []) X Z (c_X0_numberHolds l D h cy ((x3 + (8 : Int32))) s20 (r25, s24) h23 _) lk_RX0_132 ⟨by decide, by decide⟩ rv_40 rfl hl.1 rfl (Nat.le_of_ble_eq_true rfl) ⟨Nat.le_refl _, Nat.le_refl _⟩ dX0_symbolsHold_118) (fun H locs Z => ?_)
    refine lv_if_ne (tgt := 126) hx hb dX0_symbolsHold_121 (by decide) (fun c26 => ?_) (fun c26 => ?_)
    · have hf := itn c26 hf
      obtain ⟨v27, ev27⟩ : ∃ z : Int32, z = x2 + 1 := ⟨_, rfl⟩
      have hf := zn_e ev27 hf
      refine lv_iinc (v := v27) (lv' := [(2, .int v27), (0, .ref (h 40)), (1, .int x1), (3, .int x3)]) hx hb dX0_symbolsHold_126 hl (k := 2) rfl (by rw [ev27]; rfl) (by decide) rfl (fun ls hl => ?_)
      refine lv_goto (tgt := 23) hx hb dX0_symbolsHold_129 (by decide) ?_
      exact hK23 (x1, v27, s24) _ hf _ _ _ Z (lv_sub hl [1, 2, 0] rfl)
    · have hf := itp c26 hf
      refine lv_iconst (v := 0) hx hb dX0_symbolsHold_124 (by decide) ?_
      exact retZ X hr hk Z (by decide) hf dX0_symbolsHold_125

set_option maxRecDepth 100000 in
set_option maxHeartbeats 4000000 in
theorem b_X0_symbolsHold_67 {p : Program} {l : Launch} {e : Env} {s : State} {m : MethodId} {args : Array Value} {below : List Frame} {meth : Method} {c : Code} {D : va_G} {h : Nat → Nat} {cy : Nat → ClassId} (X : Cx p s m args c D h cy RX0 cX0_symbolsHold 4) (hr : meth.sig.returnType = some .boolean) (hk : meth.locks = false) (K23 : (Int32 × Int32 × St) → Option (Int32 × St)) (hK23 : ∀ (a : Int32 × Int32 × St) (y : Int32 × St), K23 a = some y → ∀ (H : Heap) (locs : List Loc) (ls : Array Slot), Zt D h cy s a.2.2 H locs → lv_has ls 4 [(0, .ref (h 40)), (1, .int a.1), (2, .int a.2.1)] → W p l e (rmz 3 70) s m args below meth c H locs 0 0 (EI below args s D h cy y) (F0 m 23 ls [])) (x1 : Int32) (x2 : Int32) (x3 : Int32) (t0 : Int32) (σ : St) (y : Int32 × St) (hf : f_X0_symbolsHold_67 K23 x1 x2 x3 t0 σ = some y) : ∀ (H : Heap) (locs : List Loc) (ls : Array Slot), Zt D h cy s σ H locs → lv_has ls 4 [(0, .ref (h 40)), (1, .int x1), (2, .int x2), (3, .int x3)] → W p l e (rmz 3 70) s m args below meth c H locs 0 0 (EI below args s D h cy y) (F0 m 67 ls [.int t0, .ref (h 39)]) := by
  intro H locs ls Z hl
  have hx := X.x
  have hb := X.b
  unfold f_X0_symbolsHold_67 at hf
  refine lv_bipush (v := 8) hx hb dX0_symbolsHold_67 (by decide) ?_
  refine lv_iload_n hx hb dX0_symbolsHold_69 rfl (lv_at hl 3 rfl) ?_
  obtain ⟨r13, s12, h11, hf⟩ := bi_s hf
  refine goI Z (run_V (As := [.int t0, .int (8 : Int32), .int x3]) (rest := []) X Z (c_X2_unless l D h cy t0 (8 : Int32) x3 σ (r13, s12) h11 _) lk_RX0_76 ⟨by decide, by decide⟩ rv_39 rfl hl.1 rfl (Nat.le_of_ble_eq_true rfl) ⟨Nat.le_refl _, Nat.le_refl _⟩ dX0_symbolsHold_70) (fun H locs Z => ?_)
  refine lv_if_eq (tgt := 124) hx hb dX0_symbolsHold_73 (by decide) (fun c14 => ?_) (fun c14 => ?_)
  · have hf := itp c14 hf
    refine lv_iconst (v := 0) hx hb dX0_symbolsHold_124 (by decide) ?_
    exact retZ X hr hk Z (by decide) hf dX0_symbolsHold_125
  · have hf := itn c14 hf
    refine lv_aload_n hx hb dX0_symbolsHold_76 rfl (lv_at hl 0 rfl) ?_
    refine gf_RX0_15 X Z dX0_symbolsHold_77 ?_
    refine lv_aload_n hx hb dX0_symbolsHold_80 rfl (lv_at hl 0 rfl) ?_
    refine gf_RX0_9 X Z dX0_symbolsHold_81 ?_
    refine lv_iload_n hx hb dX0_symbolsHold_84 rfl (lv_at hl 3 rfl) ?_
    refine lv_iconst (v := 5) hx hb dX0_symbolsHold_85 (by decide) ?_
    refine lv_iadd hx hb dX0_symbolsHold_86 ?_
    obtain ⟨r17, s16, h15, hf⟩ := bi_s hf
    refine goI Z (run_V (As := [.int ((x3 + (5 : Int32)))]) (rest := [.ref (h 39)]) X Z (c_X6_at l D h cy row_3 ((x3 + (5 : Int32))) s12 (r17, s16) h15 _) lk_RX0_162 ⟨by decide, by decide⟩ (rv_RowS row_3) rfl hl.1 rfl (Nat.le_of_ble_eq_true rfl) ⟨Nat.le_refl _, Nat.le_refl _⟩ dX0_symbolsHold_87) (fun H locs Z => ?_)
    refine lv_aload_n hx hb dX0_symbolsHold_90 rfl (lv_at hl 0 rfl) ?_
    refine gf_RX0_42 X Z dX0_symbolsHold_91 ?_
    refine lv_icmp_gt (tgt := 101) hx hb dX0_symbolsHold_94 (by decide) (fun c18 => ?_) (fun c18 => ?_)
    · have hf := itp c18 hf
      refine lv_iconst (v := 0) hx hb dX0_symbolsHold_101 (by decide) ?_
      exact b_X0_symbolsHold_102 X hr hk K23 hK23 x1 x2 x3 (0 : Int32) s16 _ hf _ _ _ Z (lv_sub hl [0, 1, 2, 3] rfl)
    · have hf := itn c18 hf
      refine lv_iconst (v := 1) hx hb dX0_symbolsHold_97 (by decide) ?_
      refine lv_goto (tgt := 102) hx hb dX0_symbolsHold_98 (by decide) ?_
      exact b_X0_symbolsHold_102 X hr hk K23 hK23 x1 x2 x3 (1 : Int32) s16 _ hf _ _ _ Z (lv_sub hl [0, 1, 2, 3] rfl)

set_option maxRecDepth 100000 in
set_option maxHeartbeats 4000000 in
theorem b_X0_symbolsHold_23b {p : Program} {l : Launch} {e : Env} {s : State} {m : MethodId} {args : Array Value} {below : List Frame} {meth : Method} {c : Code} {D : va_G} {h : Nat → Nat} {cy : Nat → ClassId} (X : Cx p s m args c D h cy RX0 cX0_symbolsHold 4) (hr : meth.sig.returnType = some .boolean) (hk : meth.locks = false) (K23 : (Int32 × Int32 × St) → Option (Int32 × St)) (hK23 : ∀ (a : Int32 × Int32 × St) (y : Int32 × St), K23 a = some y → ∀ (H : Heap) (locs : List Loc) (ls : Array Slot), Zt D h cy s a.2.2 H locs → lv_has ls 4 [(0, .ref (h 40)), (1, .int a.1), (2, .int a.2.1)] → W p l e (rmz 3 70) s m args below meth c H locs 0 0 (EI below args s D h cy y) (F0 m 23 ls [])) (x1 : Int32) (x2 : Int32) (σ : St) (y : Int32 × St) (hf : f_X0_symbolsHold_23b K23 x1 x2 σ = some y) : ∀ (H : Heap) (locs : List Loc) (ls : Array Slot), Zt D h cy s σ H locs → lv_has ls 4 [(0, .ref (h 40)), (1, .int x1), (2, .int x2)] → W p l e (rmz 3 70) s m args below meth c H locs 0 0 (EI below args s D h cy y) (F0 m 23 ls []) := by
  intro H locs ls Z hl
  have hx := X.x
  have hb := X.b
  unfold f_X0_symbolsHold_23b at hf
  refine lv_iload_n hx hb dX0_symbolsHold_23 rfl (lv_at hl 2 rfl) ?_
  refine lv_aload_n hx hb dX0_symbolsHold_24 rfl (lv_at hl 0 rfl) ?_
  refine gf_RX0_50 X Z dX0_symbolsHold_25 ?_
  refine lv_icmp_ge (tgt := 132) hx hb dX0_symbolsHold_28 (by decide) (fun c5 => ?_) (fun c5 => ?_)
  · have hf := itp c5 hf
    refine lv_iconst (v := 1) hx hb dX0_symbolsHold_132 (by decide) ?_
    exact retZ X hr hk Z (by decide) hf dX0_symbolsHold_133
  · have hf := itn c5 hf
    refine lv_aload_n hx hb dX0_symbolsHold_31 rfl (lv_at hl 0 rfl) ?_
    refine gf_RX0_53 X Z dX0_symbolsHold_32 ?_
    refine lv_bipush (v := 16) hx hb dX0_symbolsHold_35 (by decide) ?_
    refine lv_iload_n hx hb dX0_symbolsHold_37 rfl (lv_at hl 2 rfl) ?_
    refine lv_imul hx hb dX0_symbolsHold_38 ?_
    refine lv_iadd hx hb dX0_symbolsHold_39 ?_
    refine lv_topi (fun v6 ev6 => ?_)
    have hf := zn_e ev6 hf
    refine lv_istore_n (lv' := [(3, .int v6), (0, .ref (h 40)), (1, .int x1), (2, .int x2)]) hx hb dX0_symbolsHold_40 rfl hl (by decide) rfl (fun ls hl => ?_)
    refine lv_aload_n hx hb dX0_symbolsHold_41 rfl (lv_at hl 1 rfl) ?_
    refine gf_RX0_15 X Z dX0_symbolsHold_42 ?_
    refine lv_aload_n hx hb dX0_symbolsHold_45 rfl (lv_at hl 1 rfl) ?_
    refine gf_RX0_56 X Z dX0_symbolsHold_46 ?_
    refine lv_i2l (v := (σ.1 40 7).toInt64) hx hb dX0_symbolsHold_49 rfl ?_
    refine lv_aload_n hx hb dX0_symbolsHold_50 rfl (lv_at hl 1 rfl) ?_
    refine lv_iload_n hx hb dX0_symbolsHold_51 rfl (lv_at hl 0 rfl) ?_
    obtain ⟨r9, s8, h7, hf⟩ := bi_s hf
    refine goL Z (run_V (As := [.int v6]) (rest := [.long ((σ.1 40 7).toInt64), .ref (h 39)]) X Z (c_X0_u4 l D h cy v6 σ (r9, s8) h7 _) lk_RX0_82 ⟨by decide, by decide⟩ rv_40 rfl hl.1 rfl (Nat.le_of_ble_eq_true rfl) ⟨Nat.le_refl _, Nat.le_refl _⟩ dX0_symbolsHold_52) (fun H locs Z => ?_)
    refine lv_ladd hx hb dX0_symbolsHold_55 ?_
    refine lv_iload_n hx hb dX0_symbolsHold_56 rfl (lv_at hl 2 rfl) ?_
    refine lv_i2l (v := x1.toInt64) hx hb dX0_symbolsHold_57 rfl ?_
    refine x_lif_gt (tgt := 66) X dX0_symbolsHold_58 dX0_symbolsHold_59 (by decide) (fun c10 => ?_) (fun c10 => ?_)
    · have hf := itp c10 hf
      refine lv_iconst (v := 0) hx hb dX0_symbolsHold_66 (by decide) ?_
      exact b_X0_symbolsHold_67 X hr hk K23 hK23 x1 x2 v6 (0 : Int32) s8 _ hf _ _ _ Z (lv_sub hl [1, 2, 3, 0] rfl)
    · have hf := itn c10 hf
      refine lv_iconst (v := 1) hx hb dX0_symbolsHold_62 (by decide) ?_
      refine lv_goto (tgt := 67) hx hb dX0_symbolsHold_63 (by decide) ?_
      exact b_X0_symbolsHold_67 X hr hk K23 hK23 x1 x2 v6 (1 : Int32) s8 _ hf _ _ _ Z (lv_sub hl [1, 2, 3, 0] rfl)

set_option maxRecDepth 100000 in
set_option maxHeartbeats 4000000 in
theorem b_X0_symbolsHold_23 {p : Program} {l : Launch} {e : Env} {s : State} {m : MethodId} {args : Array Value} {below : List Frame} {meth : Method} {c : Code} {D : va_G} {h : Nat → Nat} {cy : Nat → ClassId} (X : Cx p s m args c D h cy RX0 cX0_symbolsHold 4) (hr : meth.sig.returnType = some .boolean) (hk : meth.locks = false) (x1 : Int32) (x2 : Int32) (σ : St) (y : Int32 × St) (hf : f_X0_symbolsHold_23 x1 x2 σ = some y) : ∀ (H : Heap) (locs : List Loc) (ls : Array Slot), Zt D h cy s σ H locs → lv_has ls 4 [(0, .ref (h 40)), (1, .int x1), (2, .int x2)] → W p l e (rmz 3 70) s m args below meth c H locs 0 0 (EI below args s D h cy y) (F0 m 23 ls []) := by
  exact it_W (F := fun K a => f_X0_symbolsHold_23b K a.1 a.2.1 a.2.2) (P := fun a y => ∀ (H : Heap) (locs : List Loc) (ls : Array Slot), Zt D h cy s a.2.2 H locs → lv_has ls 4 [(0, .ref (h 40)), (1, .int a.1), (2, .int a.2.1)] → W p l e (rmz 3 70) s m args below meth c H locs 0 0 (EI below args s D h cy y) (F0 m 23 ls [])) (fun K hK a y hf => b_X0_symbolsHold_23b X hr hk K hK (a.1) (a.2.1) (a.2.2) y hf) FU _ y hf

set_option maxRecDepth 100000 in
set_option maxHeartbeats 4000000 in
theorem c_X0_symbolsHold (l : Launch) (D : va_G) (h : Nat → Nat) (cy : Nat → ClassId) (σ : St) (y : Int32 × St) (hf : f_X0_symbolsHold σ = some y) : CI l yX0_symbolsHold cX0_symbolsHold 4 (some .boolean) 3 70 D h cy [.ref (h 40)] σ y := by
  refine ent (Qc := fun sz => QI D h cy sz y) (by decide) (Nat.le_of_ble_eq_true rfl) ?_
  intro p e s m below meth c ls X Z hr hk hl
  have X : Cx p s m _ c D h cy RX0 cX0_symbolsHold 4 := X
  have hx := X.x
  have hb := X.b
  have hl : lv_has ls 4 [(0, .ref (h 40))] := hl
  unfold f_X0_symbolsHold at hf
  refine lv_aload_n hx hb dX0_symbolsHold_0 rfl (lv_at hl 0 rfl) ?_
  refine gf_RX0_9 X Z dX0_symbolsHold_1 ?_
  refine lv_aload_n hx hb dX0_symbolsHold_4 rfl (lv_at hl 0 rfl) ?_
  refine gf_RX0_56 X Z dX0_symbolsHold_5 ?_
  refine lv_aload_n hx hb dX0_symbolsHold_8 rfl (lv_at hl 0 rfl) ?_
  refine gf_RX0_56 X Z dX0_symbolsHold_9 ?_
  refine lv_aload_n hx hb dX0_symbolsHold_12 rfl (lv_at hl 0 rfl) ?_
  refine gf_RX0_59 X Z dX0_symbolsHold_13 ?_
  refine lv_iadd hx hb dX0_symbolsHold_16 ?_
  obtain ⟨r3, s2, h1, hf⟩ := bi_s hf
  refine goI Z (run_V (As := [.int (σ.1 40 7), .int (((σ.1 40 7) + (σ.1 40 8)))]) (rest := []) X Z (c_X6_lastZero l D h cy row_3 (σ.1 40 7) (((σ.1 40 7) + (σ.1 40 8))) σ (r3, s2) h1 _) lk_RX0_158 ⟨by decide, by decide⟩ (rv_RowS row_3) rfl hl.1 rfl (Nat.le_of_ble_eq_true rfl) ⟨Nat.le_refl _, Nat.le_refl _⟩ dX0_symbolsHold_17) (fun H locs Z => ?_)
  refine lv_istore_n (lv' := [(1, .int r3), (0, .ref (h 40))]) hx hb dX0_symbolsHold_20 rfl hl (by decide) rfl (fun ls hl => ?_)
  refine lv_iconst (v := 0) hx hb dX0_symbolsHold_21 (by decide) ?_
  refine lv_topi (fun v4 ev4 => ?_)
  have hf := zn_e ev4 hf
  refine lv_istore_n (lv' := [(2, .int v4), (1, .int r3), (0, .ref (h 40))]) hx hb dX0_symbolsHold_22 rfl hl (by decide) rfl (fun ls hl => ?_)
  exact b_X0_symbolsHold_23 X hr hk r3 v4 s2 _ hf _ _ _ Z (lv_sub hl [2, 1, 0] rfl)

set_option maxRecDepth 100000 in
set_option maxHeartbeats 4000000 in
theorem c_X0_hold (l : Launch) (D : va_G) (h : Nat → Nat) (cy : Nat → ClassId) (σ : St) (y : Int32 × St) (hf : f_X0_hold σ = some y) : CI l yX0_hold cX0_hold 1 (some .boolean) 6 148 D h cy [.ref (h 40)] σ y := by
  refine ent (Qc := fun sz => QI D h cy sz y) (by decide) (Nat.le_of_ble_eq_true rfl) ?_
  intro p e s m below meth c ls X Z hr hk hl
  have X : Cx p s m _ c D h cy RX0 cX0_hold 1 := X
  have hx := X.x
  have hb := X.b
  have hl : lv_has ls 1 [(0, .ref (h 40))] := hl
  unfold f_X0_hold at hf
  refine lv_aload_n hx hb dX0_hold_0 rfl (lv_at hl 0 rfl) ?_
  obtain ⟨s2, h1, hf⟩ := bv_s hf
  refine goV Z (run_V (As := []) (rest := []) X Z (c_X0_forget l D h cy σ s2 h1 _) lk_RX0_26 ⟨by decide, by decide⟩ rv_40 rfl hl.1 rfl (Nat.le_of_ble_eq_true rfl) ⟨Nat.le_refl _, Nat.le_refl _⟩ dX0_hold_1) (fun H locs Z => ?_)
  refine lv_aload_n hx hb dX0_hold_4 rfl (lv_at hl 0 rfl) ?_
  obtain ⟨r5, s4, h3, hf⟩ := bi_s hf
  refine goI Z (run_V (As := []) (rest := []) X Z (c_X0_headHolds l D h cy s2 (r5, s4) h3 _) lk_RX0_29 ⟨by decide, by decide⟩ rv_40 rfl hl.1 rfl (Nat.le_of_ble_eq_true rfl) ⟨Nat.le_refl _, Nat.le_refl _⟩ dX0_hold_5) (fun H locs Z => ?_)
  refine lv_if_eq (tgt := 29) hx hb dX0_hold_8 (by decide) (fun c6 => ?_) (fun c6 => ?_)
  · have hf := itp c6 hf
    refine lv_iconst (v := 0) hx hb dX0_hold_29 (by decide) ?_
    exact retZ X hr hk Z (by decide) hf dX0_hold_30
  · have hf := itn c6 hf
    refine lv_aload_n hx hb dX0_hold_11 rfl (lv_at hl 0 rfl) ?_
    obtain ⟨r9, s8, h7, hf⟩ := bi_s hf
    refine goI Z (run_V (As := []) (rest := []) X Z (c_X0_commandsHold l D h cy s4 (r9, s8) h7 _) lk_RX0_33 ⟨by decide, by decide⟩ rv_40 rfl hl.1 rfl (Nat.le_of_ble_eq_true rfl) ⟨Nat.le_refl _, Nat.le_refl _⟩ dX0_hold_12) (fun H locs Z => ?_)
    refine lv_if_eq (tgt := 29) hx hb dX0_hold_15 (by decide) (fun c10 => ?_) (fun c10 => ?_)
    · have hf := itp c10 hf
      refine lv_iconst (v := 0) hx hb dX0_hold_29 (by decide) ?_
      exact retZ X hr hk Z (by decide) hf dX0_hold_30
    · have hf := itn c10 hf
      refine lv_aload_n hx hb dX0_hold_18 rfl (lv_at hl 0 rfl) ?_
      obtain ⟨r13, s12, h11, hf⟩ := bi_s hf
      refine goI Z (run_V (As := []) (rest := []) X Z (c_X0_symbolsHold l D h cy s8 (r13, s12) h11 _) lk_RX0_36 ⟨by decide, by decide⟩ rv_40 rfl hl.1 rfl (Nat.le_of_ble_eq_true rfl) ⟨Nat.le_refl _, Nat.le_refl _⟩ dX0_hold_19) (fun H locs Z => ?_)
      refine lv_if_eq (tgt := 29) hx hb dX0_hold_22 (by decide) (fun c14 => ?_) (fun c14 => ?_)
      · have hf := itp c14 hf
        refine lv_iconst (v := 0) hx hb dX0_hold_29 (by decide) ?_
        exact retZ X hr hk Z (by decide) hf dX0_hold_30
      · have hf := itn c14 hf
        refine lv_iconst (v := 1) hx hb dX0_hold_25 (by decide) ?_
        refine lv_goto (tgt := 30) hx hb dX0_hold_26 (by decide) ?_
        exact retZ X hr hk Z (by decide) hf dX0_hold_30

set_option maxRecDepth 100000 in
set_option maxHeartbeats 4000000 in
theorem b_X6_isName_21b {p : Program} {l : Launch} {e : Env} {s : State} {m : MethodId} {args : Array Value} {below : List Frame} {meth : Method} {c : Code} {D : va_G} {h : Nat → Nat} {cy : Nat → ClassId} (X : Cx p s m args c D h cy RX6 cX6_isName 2) (hr : meth.sig.returnType = some .boolean) (hk : meth.locks = false) {k0 n0 : Nat} (hR0 : RowS k0 n0) (K21 : (Int32 × St) → Option (Int32 × St)) (hK21 : ∀ (a : Int32 × St) (y : Int32 × St), K21 a = some y → ∀ (H : Heap) (locs : List Loc) (ls : Array Slot), Zt D h cy s a.2 H locs → lv_has ls 2 [(0, .ref (h k0)), (1, .int a.1)] → W p l e (rmz 0 0) s m args below meth c H locs 0 0 (EI below args s D h cy y) (F0 m 21 ls [])) (x1 : Int32) (σ : St) (y : Int32 × St) (hf : f_X6_isName_21b k0 n0 K21 x1 σ = some y) : ∀ (H : Heap) (locs : List Loc) (ls : Array Slot), Zt D h cy s σ H locs → lv_has ls 2 [(0, .ref (h k0)), (1, .int x1)] → W p l e (rmz 0 0) s m args below meth c H locs 0 0 (EI below args s D h cy y) (F0 m 21 ls []) := by
  intro H locs ls Z hl
  have hx := X.x
  have hb := X.b
  unfold f_X6_isName_21b at hf
  refine lv_iload_n hx hb dX6_isName_21 rfl (lv_at hl 1 rfl) ?_
  refine lv_aload_n hx hb dX6_isName_22 rfl (lv_at hl 0 rfl) ?_
  refine gf_RX6_15 X Z hR0 dX6_isName_23 ?_
  refine lv_icmp_ge (tgt := 59) hx hb dX6_isName_26 (by decide) (fun c4 => ?_) (fun c4 => ?_)
  · have hf := itp c4 hf
    refine lv_iconst (v := 1) hx hb dX6_isName_59 (by decide) ?_
    exact retZ X hr hk Z (by decide) hf dX6_isName_60
  · have hf := itn c4 hf
    refine lv_aload_n hx hb dX6_isName_29 rfl (lv_at hl 0 rfl) ?_
    refine gf_RX6_9 X Z hR0 dX6_isName_30 ?_
    refine lv_iload_n hx hb dX6_isName_33 rfl (lv_at hl 1 rfl) ?_
    obtain ⟨g5, hf⟩ := gd_s hf
    refine x_bald (k := (k0 + 1)) X Z hR0.2 g5 dX6_isName_34 ?_
    refine lv_bipush (v := 33) hx hb dX6_isName_35 (by decide) ?_
    refine lv_icmp_lt (tgt := 51) hx hb dX6_isName_37 (by decide) (fun c6 => ?_) (fun c6 => ?_)
    · have hf := itp c6 hf
      refine lv_iconst (v := 0) hx hb dX6_isName_51 (by decide) ?_
      exact retZ X hr hk Z (by decide) hf dX6_isName_52
    · have hf := itn c6 hf
      refine lv_aload_n hx hb dX6_isName_40 rfl (lv_at hl 0 rfl) ?_
      refine gf_RX6_9 X Z hR0 dX6_isName_41 ?_
      refine lv_iload_n hx hb dX6_isName_44 rfl (lv_at hl 1 rfl) ?_
      obtain ⟨g7, hf⟩ := gd_s hf
      refine x_bald (k := (k0 + 1)) X Z hR0.2 g7 dX6_isName_45 ?_
      refine lv_bipush (v := 126) hx hb dX6_isName_46 (by decide) ?_
      refine lv_icmp_le (tgt := 53) hx hb dX6_isName_48 (by decide) (fun c8 => ?_) (fun c8 => ?_)
      · have hf := itp c8 hf
        obtain ⟨v9, ev9⟩ : ∃ z : Int32, z = x1 + 1 := ⟨_, rfl⟩
        have hf := zn_e ev9 hf
        refine lv_iinc (v := v9) (lv' := [(1, .int v9), (0, .ref (h k0))]) hx hb dX6_isName_53 hl (k := 1) rfl (by rw [ev9]; rfl) (by decide) rfl (fun ls hl => ?_)
        refine lv_goto (tgt := 21) hx hb dX6_isName_56 (by decide) ?_
        exact hK21 (v9, σ) _ hf _ _ _ Z (lv_sub hl [1, 0] rfl)
      · have hf := itn c8 hf
        refine lv_iconst (v := 0) hx hb dX6_isName_51 (by decide) ?_
        exact retZ X hr hk Z (by decide) hf dX6_isName_52

set_option maxRecDepth 100000 in
set_option maxHeartbeats 4000000 in
theorem b_X6_isName_21 {p : Program} {l : Launch} {e : Env} {s : State} {m : MethodId} {args : Array Value} {below : List Frame} {meth : Method} {c : Code} {D : va_G} {h : Nat → Nat} {cy : Nat → ClassId} (X : Cx p s m args c D h cy RX6 cX6_isName 2) (hr : meth.sig.returnType = some .boolean) (hk : meth.locks = false) {k0 n0 : Nat} (hR0 : RowS k0 n0) (x1 : Int32) (σ : St) (y : Int32 × St) (hf : f_X6_isName_21 k0 n0 x1 σ = some y) : ∀ (H : Heap) (locs : List Loc) (ls : Array Slot), Zt D h cy s σ H locs → lv_has ls 2 [(0, .ref (h k0)), (1, .int x1)] → W p l e (rmz 0 0) s m args below meth c H locs 0 0 (EI below args s D h cy y) (F0 m 21 ls []) := by
  exact it_W (F := fun K a => f_X6_isName_21b k0 n0 K a.1 a.2) (P := fun a y => ∀ (H : Heap) (locs : List Loc) (ls : Array Slot), Zt D h cy s a.2 H locs → lv_has ls 2 [(0, .ref (h k0)), (1, .int a.1)] → W p l e (rmz 0 0) s m args below meth c H locs 0 0 (EI below args s D h cy y) (F0 m 21 ls [])) (fun K hK a y hf => b_X6_isName_21b X hr hk hR0 K hK (a.1) (a.2) y hf) FU _ y hf

set_option maxRecDepth 100000 in
set_option maxHeartbeats 4000000 in
theorem c_X6_isName (l : Launch) (D : va_G) (h : Nat → Nat) (cy : Nat → ClassId) {k0 n0 : Nat} (hR0 : RowS k0 n0) (σ : St) (y : Int32 × St) (hf : f_X6_isName k0 n0 σ = some y) : CI l yX6_isName cX6_isName 2 (some .boolean) 0 0 D h cy [.ref (h k0)] σ y := by
  refine ent (Qc := fun sz => QI D h cy sz y) (by decide) (Nat.le_of_ble_eq_true rfl) ?_
  intro p e s m below meth c ls X Z hr hk hl
  have X : Cx p s m _ c D h cy RX6 cX6_isName 2 := X
  have hx := X.x
  have hb := X.b
  have hl : lv_has ls 2 [(0, .ref (h k0))] := hl
  unfold f_X6_isName at hf
  refine lv_aload_n hx hb dX6_isName_0 rfl (lv_at hl 0 rfl) ?_
  refine gf_RX6_15 X Z hR0 dX6_isName_1 ?_
  refine lv_iconst (v := 1) hx hb dX6_isName_4 (by decide) ?_
  refine lv_icmp_lt (tgt := 17) hx hb dX6_isName_5 (by decide) (fun c1 => ?_) (fun c1 => ?_)
  · have hf := itp c1 hf
    refine lv_iconst (v := 0) hx hb dX6_isName_17 (by decide) ?_
    exact retZ X hr hk Z (by decide) hf dX6_isName_18
  · have hf := itn c1 hf
    refine lv_aload_n hx hb dX6_isName_8 rfl (lv_at hl 0 rfl) ?_
    refine gf_RX6_15 X Z hR0 dX6_isName_9 ?_
    refine lv_bipush (v := 16) hx hb dX6_isName_12 (by decide) ?_
    refine lv_icmp_le (tgt := 19) hx hb dX6_isName_14 (by decide) (fun c2 => ?_) (fun c2 => ?_)
    · have hf := itp c2 hf
      refine lv_iconst (v := 0) hx hb dX6_isName_19 (by decide) ?_
      refine lv_topi (fun v3 ev3 => ?_)
      have hf := zn_e ev3 hf
      refine lv_istore_n (lv' := [(1, .int v3), (0, .ref (h k0))]) hx hb dX6_isName_20 rfl hl (by decide) rfl (fun ls hl => ?_)
      exact b_X6_isName_21 X hr hk hR0 v3 σ _ hf _ _ _ Z (lv_sub hl [1, 0] rfl)
    · have hf := itn c2 hf
      refine lv_iconst (v := 0) hx hb dX6_isName_17 (by decide) ?_
      exact retZ X hr hk Z (by decide) hf dX6_isName_18

set_option maxRecDepth 100000 in
set_option maxHeartbeats 4000000 in
theorem c_X11_isLibrary (l : Launch) (D : va_G) (h : Nat → Nat) (cy : Nat → ClassId) (a0 : Int32) (σ : St) (y : Int32 × St) (hf : f_X11_isLibrary a0 σ = some y) : CI l yX11_isLibrary cX11_isLibrary 1 (some .boolean) 0 0 D h cy [.int a0] σ y := by
  refine ent (Qc := fun sz => QI D h cy sz y) (by decide) (Nat.le_of_ble_eq_true rfl) ?_
  intro p e s m below meth c ls X Z hr hk hl
  have X : Cx p s m _ c D h cy RX11 cX11_isLibrary 1 := X
  have hx := X.x
  have hb := X.b
  have hl : lv_has ls 1 [(0, .int a0)] := hl
  unfold f_X11_isLibrary at hf
  refine lv_iload_n hx hb dX11_isLibrary_0 rfl (lv_at hl 0 rfl) ?_
  refine lv_iconst (v := 1) hx hb dX11_isLibrary_1 (by decide) ?_
  refine lv_icmp_lt (tgt := 14) hx hb dX11_isLibrary_2 (by decide) (fun c1 => ?_) (fun c1 => ?_)
  · have hf := itp c1 hf
    refine lv_iconst (v := 0) hx hb dX11_isLibrary_14 (by decide) ?_
    exact retZ X hr hk Z (by decide) hf dX11_isLibrary_15
  · have hf := itn c1 hf
    refine lv_iload_n hx hb dX11_isLibrary_5 rfl (lv_at hl 0 rfl) ?_
    refine lv_iconst (v := 3) hx hb dX11_isLibrary_6 (by decide) ?_
    refine lv_icmp_gt (tgt := 14) hx hb dX11_isLibrary_7 (by decide) (fun c2 => ?_) (fun c2 => ?_)
    · have hf := itp c2 hf
      refine lv_iconst (v := 0) hx hb dX11_isLibrary_14 (by decide) ?_
      exact retZ X hr hk Z (by decide) hf dX11_isLibrary_15
    · have hf := itn c2 hf
      refine lv_iconst (v := 1) hx hb dX11_isLibrary_10 (by decide) ?_
      refine lv_goto (tgt := 15) hx hb dX11_isLibrary_11 (by decide) ?_
      exact retZ X hr hk Z (by decide) hf dX11_isLibrary_15

set_option maxRecDepth 100000 in
set_option maxHeartbeats 4000000 in
theorem b_X6_reads_23b {p : Program} {l : Launch} {e : Env} {s : State} {m : MethodId} {args : Array Value} {below : List Frame} {meth : Method} {c : Code} {D : va_G} {h : Nat → Nat} {cy : Nat → ClassId} (X : Cx p s m args c D h cy RX6 cX6_reads 6) (hr : meth.sig.returnType = some .boolean) (hk : meth.locks = false) {k0 n0 : Nat} {k2 n2 : Nat} (hR0 : RowS k0 n0) (hR2 : Sh k2 (fun _ cy x _ => .inl (cy 0, n2, .inl x))) (K23 : (Int32 × Int32 × Int32 × Int32 × St) → Option (Int32 × St)) (hK23 : ∀ (a : Int32 × Int32 × Int32 × Int32 × St) (y : Int32 × St), K23 a = some y → ∀ (H : Heap) (locs : List Loc) (ls : Array Slot), Zt D h cy s a.2.2.2.2 H locs → lv_has ls 6 [(0, .ref (h k0)), (1, .int a.1), (2, .ref (h k2)), (3, .int a.2.1), (4, .int a.2.2.1), (5, .int a.2.2.2.1)] → W p l e (rmz 1 21) s m args below meth c H locs 0 0 (EI below args s D h cy y) (F0 m 23 ls [])) (x1 : Int32) (x3 : Int32) (x4 : Int32) (x5 : Int32) (σ : St) (y : Int32 × St) (hf : f_X6_reads_23b k0 n0 k2 n2 K23 x1 x3 x4 x5 σ = some y) : ∀ (H : Heap) (locs : List Loc) (ls : Array Slot), Zt D h cy s σ H locs → lv_has ls 6 [(0, .ref (h k0)), (1, .int x1), (2, .ref (h k2)), (3, .int x3), (4, .int x4), (5, .int x5)] → W p l e (rmz 1 21) s m args below meth c H locs 0 0 (EI below args s D h cy y) (F0 m 23 ls []) := by
  intro H locs ls Z hl
  have hx := X.x
  have hb := X.b
  unfold f_X6_reads_23b at hf
  refine lv_iload hx hb dX6_reads_23 (lv_at hl 5 rfl) ?_
  refine lv_iload hx hb dX6_reads_25 (lv_at hl 4 rfl) ?_
  refine lv_icmp_ge (tgt := 68) hx hb dX6_reads_27 (by decide) (fun c5 => ?_) (fun c5 => ?_)
  · have hf := itp c5 hf
    refine lv_aload_n hx hb dX6_reads_68 rfl (lv_at hl 0 rfl) ?_
    refine lv_iload_n hx hb dX6_reads_69 rfl (lv_at hl 1 rfl) ?_
    refine lv_iload hx hb dX6_reads_70 (lv_at hl 4 rfl) ?_
    refine lv_iadd hx hb dX6_reads_72 ?_
    obtain ⟨r8, s7, h6, hf⟩ := bi_s hf
    refine goI Z (run_V (As := [.int (x1 + x4)]) (rest := []) X Z (c_X6_at l D h cy hR0 (x1 + x4) σ (r8, s7) h6 _) lk_RX6_47 ⟨by decide, by decide⟩ (rv_RowS hR0) rfl hl.1 rfl (Nat.le_of_ble_eq_true rfl) ⟨Nat.le_refl _, Nat.le_refl _⟩ dX6_reads_73) (fun H locs Z => ?_)
    refine lv_if_ne (tgt := 83) hx hb dX6_reads_76 (by decide) (fun c9 => ?_) (fun c9 => ?_)
    · have hf := itn c9 hf
      refine lv_iconst (v := 0) hx hb dX6_reads_83 (by decide) ?_
      exact retZ X hr hk Z (by decide) hf dX6_reads_84
    · have hf := itp c9 hf
      refine lv_iconst (v := 1) hx hb dX6_reads_79 (by decide) ?_
      refine lv_goto (tgt := 84) hx hb dX6_reads_80 (by decide) ?_
      exact retZ X hr hk Z (by decide) hf dX6_reads_84
  · have hf := itn c5 hf
    refine lv_aload_n hx hb dX6_reads_30 rfl (lv_at hl 2 rfl) ?_
    refine lv_iload_n hx hb dX6_reads_31 rfl (lv_at hl 3 rfl) ?_
    refine lv_iload hx hb dX6_reads_32 (lv_at hl 5 rfl) ?_
    refine lv_iadd hx hb dX6_reads_34 ?_
    obtain ⟨g10, hf⟩ := gd_s hf
    refine x_bald (k := k2) X Z hR2 g10 dX6_reads_35 ?_
    refine lv_if_eq (tgt := 60) hx hb dX6_reads_36 (by decide) (fun c11 => ?_) (fun c11 => ?_)
    · have hf := itp c11 hf
      refine lv_iconst (v := 0) hx hb dX6_reads_60 (by decide) ?_
      exact retZ X hr hk Z (by decide) hf dX6_reads_61
    · have hf := itn c11 hf
      refine lv_aload_n hx hb dX6_reads_39 rfl (lv_at hl 0 rfl) ?_
      refine lv_iload_n hx hb dX6_reads_40 rfl (lv_at hl 1 rfl) ?_
      refine lv_iload hx hb dX6_reads_41 (lv_at hl 5 rfl) ?_
      refine lv_iadd hx hb dX6_reads_43 ?_
      obtain ⟨r14, s13, h12, hf⟩ := bi_s hf
      refine goI Z (run_V (As := [.int (x1 + x5)]) (rest := []) X Z (c_X6_at l D h cy hR0 (x1 + x5) σ (r14, s13) h12 _) lk_RX6_47 ⟨by decide, by decide⟩ (rv_RowS hR0) rfl hl.1 rfl (Nat.le_of_ble_eq_true rfl) ⟨Nat.le_refl _, Nat.le_refl _⟩ dX6_reads_44) (fun H locs Z => ?_)
      refine lv_aload_n hx hb dX6_reads_47 rfl (lv_at hl 2 rfl) ?_
      refine lv_iload_n hx hb dX6_reads_48 rfl (lv_at hl 3 rfl) ?_
      refine lv_iload hx hb dX6_reads_49 (lv_at hl 5 rfl) ?_
      refine lv_iadd hx hb dX6_reads_51 ?_
      obtain ⟨g15, hf⟩ := gd_s hf
      refine x_bald (k := k2) X Z hR2 g15 dX6_reads_52 ?_
      refine lv_sipush (v := 255) hx hb dX6_reads_53 (by decide) ?_
      refine lv_iand hx hb dX6_reads_56 ?_
      refine lv_icmp_eq (tgt := 62) hx hb dX6_reads_57 (by decide) (fun c16 => ?_) (fun c16 => ?_)
      · have hf := itp c16 hf
        obtain ⟨v17, ev17⟩ : ∃ z : Int32, z = x5 + 1 := ⟨_, rfl⟩
        have hf := zn_e ev17 hf
        refine lv_iinc (v := v17) (lv' := [(5, .int v17), (0, .ref (h k0)), (1, .int x1), (2, .ref (h k2)), (3, .int x3), (4, .int x4)]) hx hb dX6_reads_62 hl (k := 5) rfl (by rw [ev17]; rfl) (by decide) rfl (fun ls hl => ?_)
        refine lv_goto (tgt := 23) hx hb dX6_reads_65 (by decide) ?_
        exact hK23 (x1, x3, x4, v17, s13) _ hf _ _ _ Z (lv_sub hl [1, 2, 3, 4, 5, 0] rfl)
      · have hf := itn c16 hf
        refine lv_iconst (v := 0) hx hb dX6_reads_60 (by decide) ?_
        exact retZ X hr hk Z (by decide) hf dX6_reads_61

set_option maxRecDepth 100000 in
set_option maxHeartbeats 4000000 in
theorem b_X6_reads_23 {p : Program} {l : Launch} {e : Env} {s : State} {m : MethodId} {args : Array Value} {below : List Frame} {meth : Method} {c : Code} {D : va_G} {h : Nat → Nat} {cy : Nat → ClassId} (X : Cx p s m args c D h cy RX6 cX6_reads 6) (hr : meth.sig.returnType = some .boolean) (hk : meth.locks = false) {k0 n0 : Nat} {k2 n2 : Nat} (hR0 : RowS k0 n0) (hR2 : Sh k2 (fun _ cy x _ => .inl (cy 0, n2, .inl x))) (x1 : Int32) (x3 : Int32) (x4 : Int32) (x5 : Int32) (σ : St) (y : Int32 × St) (hf : f_X6_reads_23 k0 n0 k2 n2 x1 x3 x4 x5 σ = some y) : ∀ (H : Heap) (locs : List Loc) (ls : Array Slot), Zt D h cy s σ H locs → lv_has ls 6 [(0, .ref (h k0)), (1, .int x1), (2, .ref (h k2)), (3, .int x3), (4, .int x4), (5, .int x5)] → W p l e (rmz 1 21) s m args below meth c H locs 0 0 (EI below args s D h cy y) (F0 m 23 ls []) := by
  exact it_W (F := fun K a => f_X6_reads_23b k0 n0 k2 n2 K a.1 a.2.1 a.2.2.1 a.2.2.2.1 a.2.2.2.2) (P := fun a y => ∀ (H : Heap) (locs : List Loc) (ls : Array Slot), Zt D h cy s a.2.2.2.2 H locs → lv_has ls 6 [(0, .ref (h k0)), (1, .int a.1), (2, .ref (h k2)), (3, .int a.2.1), (4, .int a.2.2.1), (5, .int a.2.2.2.1)] → W p l e (rmz 1 21) s m args below meth c H locs 0 0 (EI below args s D h cy y) (F0 m 23 ls [])) (fun K hK a y hf => b_X6_reads_23b X hr hk hR0 hR2 K hK (a.1) (a.2.1) (a.2.2.1) (a.2.2.2.1) (a.2.2.2.2) y hf) FU _ y hf

set_option maxRecDepth 100000 in
set_option maxHeartbeats 4000000 in
theorem c_X6_reads (l : Launch) (D : va_G) (h : Nat → Nat) (cy : Nat → ClassId) {k0 n0 : Nat} {k2 n2 : Nat} (hR0 : RowS k0 n0) (hR2 : Sh k2 (fun _ cy x _ => .inl (cy 0, n2, .inl x))) (a1 : Int32) (a3 : Int32) (a4 : Int32) (σ : St) (y : Int32 × St) (hf : f_X6_reads k0 n0 k2 n2 a1 a3 a4 σ = some y) : CI l yX6_reads cX6_reads 6 (some .boolean) 1 21 D h cy [.ref (h k0), .int a1, .ref (h k2), .int a3, .int a4] σ y := by
  refine ent (Qc := fun sz => QI D h cy sz y) (by decide) (Nat.le_of_ble_eq_true rfl) ?_
  intro p e s m below meth c ls X Z hr hk hl
  have X : Cx p s m _ c D h cy RX6 cX6_reads 6 := X
  have hx := X.x
  have hb := X.b
  have hl : lv_has ls 6 [(0, .ref (h k0)), (1, .int a1), (2, .ref (h k2)), (3, .int a3), (4, .int a4)] := hl
  unfold f_X6_reads at hf
  refine lv_iload_n hx hb dX6_reads_0 rfl (lv_at hl 3 rfl) ?_
  refine lv_if_lt (tgt := 18) hx hb dX6_reads_1 (by decide) (fun c1 => ?_) (fun c1 => ?_)
  · have hf := itp c1 hf
    refine lv_iconst (v := 0) hx hb dX6_reads_18 (by decide) ?_
    exact retZ X hr hk Z (by decide) hf dX6_reads_19
  · have hf := itn c1 hf
    refine lv_iload hx hb dX6_reads_4 (lv_at hl 4 rfl) ?_
    refine lv_if_lt (tgt := 18) hx hb dX6_reads_6 (by decide) (fun c2 => ?_) (fun c2 => ?_)
    · have hf := itp c2 hf
      refine lv_iconst (v := 0) hx hb dX6_reads_18 (by decide) ?_
      exact retZ X hr hk Z (by decide) hf dX6_reads_19
    · have hf := itn c2 hf
      refine lv_iload hx hb dX6_reads_9 (lv_at hl 4 rfl) ?_
      refine lv_aload_n hx hb dX6_reads_11 rfl (lv_at hl 2 rfl) ?_
      refine x_blen (k := k2) X Z hR2 dX6_reads_12 ?_
      refine lv_iload_n hx hb dX6_reads_13 rfl (lv_at hl 3 rfl) ?_
      refine lv_isub hx hb dX6_reads_14 ?_
      refine lv_icmp_le (tgt := 20) hx hb dX6_reads_15 (by decide) (fun c3 => ?_) (fun c3 => ?_)
      · have hf := itp c3 hf
        refine lv_iconst (v := 0) hx hb dX6_reads_20 (by decide) ?_
        refine lv_topi (fun v4 ev4 => ?_)
        have hf := zn_e ev4 hf
        refine lv_istore (lv' := [(5, .int v4), (0, .ref (h k0)), (1, .int a1), (2, .ref (h k2)), (3, .int a3), (4, .int a4)]) hx hb dX6_reads_21 hl (by decide) rfl (fun ls hl => ?_)
        exact b_X6_reads_23 X hr hk hR0 hR2 a1 a3 a4 v4 σ _ hf _ _ _ Z (lv_sub hl [1, 2, 3, 4, 5, 0] rfl)
      · have hf := itn c3 hf
        refine lv_iconst (v := 0) hx hb dX6_reads_18 (by decide) ?_
        exact retZ X hr hk Z (by decide) hf dX6_reads_19

set_option maxRecDepth 100000 in
set_option maxHeartbeats 4000000 in
theorem b_X1_indexOf_59 {p : Program} {l : Launch} {e : Env} {s : State} {m : MethodId} {args : Array Value} {below : List Frame} {meth : Method} {c : Code} {D : va_G} {h : Nat → Nat} {cy : Nat → ClassId} (X : Cx p s m args c D h cy RX1 cX1_indexOf 5) (hr : meth.sig.returnType = some .int) (hk : meth.locks = false) {k2 n2 : Nat} (hR2 : RowS k2 n2) (K3 : (Int32 × Int32 × Int32 × St) → Option (Int32 × St)) (hK3 : ∀ (a : Int32 × Int32 × Int32 × St) (y : Int32 × St), K3 a = some y → ∀ (H : Heap) (locs : List Loc) (ls : Array Slot), Zt D h cy s a.2.2.2 H locs → lv_has ls 5 [(0, .ref (h 33)), (1, .int a.1), (2, .ref (h k2)), (3, .int a.2.1), (4, .int a.2.2.1)] → W p l e (rmz 2 46) s m args below meth c H locs 0 0 (EI below args s D h cy y) (F0 m 3 ls [])) (x1 : Int32) (x3 : Int32) (x4 : Int32) (σ : St) (y : Int32 × St) (hf : f_X1_indexOf_59 k2 n2 K3 x1 x3 x4 σ = some y) : ∀ (H : Heap) (locs : List Loc) (ls : Array Slot), Zt D h cy s σ H locs → lv_has ls 5 [(0, .ref (h 33)), (1, .int x1), (2, .ref (h k2)), (3, .int x3), (4, .int x4)] → W p l e (rmz 2 46) s m args below meth c H locs 0 0 (EI below args s D h cy y) (F0 m 59 ls []) := by
  intro H locs ls Z hl
  have hx := X.x
  have hb := X.b
  unfold f_X1_indexOf_59 at hf
  obtain ⟨v5, ev5⟩ : ∃ z : Int32, z = x4 + 1 := ⟨_, rfl⟩
  have hf := zn_e ev5 hf
  refine lv_iinc (v := v5) (lv' := [(4, .int v5), (0, .ref (h 33)), (1, .int x1), (2, .ref (h k2)), (3, .int x3)]) hx hb dX1_indexOf_59 hl (k := 4) rfl (by rw [ev5]; rfl) (by decide) rfl (fun ls hl => ?_)
  refine lv_goto (tgt := 3) hx hb dX1_indexOf_62 (by decide) ?_
  exact hK3 (x1, x3, v5, σ) _ hf _ _ _ Z (lv_sub hl [1, 2, 3, 4, 0] rfl)

set_option maxRecDepth 100000 in
set_option maxHeartbeats 4000000 in
theorem b_X1_indexOf_3b {p : Program} {l : Launch} {e : Env} {s : State} {m : MethodId} {args : Array Value} {below : List Frame} {meth : Method} {c : Code} {D : va_G} {h : Nat → Nat} {cy : Nat → ClassId} (X : Cx p s m args c D h cy RX1 cX1_indexOf 5) (hr : meth.sig.returnType = some .int) (hk : meth.locks = false) {k2 n2 : Nat} (hR2 : RowS k2 n2) (K3 : (Int32 × Int32 × Int32 × St) → Option (Int32 × St)) (hK3 : ∀ (a : Int32 × Int32 × Int32 × St) (y : Int32 × St), K3 a = some y → ∀ (H : Heap) (locs : List Loc) (ls : Array Slot), Zt D h cy s a.2.2.2 H locs → lv_has ls 5 [(0, .ref (h 33)), (1, .int a.1), (2, .ref (h k2)), (3, .int a.2.1), (4, .int a.2.2.1)] → W p l e (rmz 2 46) s m args below meth c H locs 0 0 (EI below args s D h cy y) (F0 m 3 ls [])) (x1 : Int32) (x3 : Int32) (x4 : Int32) (σ : St) (y : Int32 × St) (hf : f_X1_indexOf_3b k2 n2 K3 x1 x3 x4 σ = some y) : ∀ (H : Heap) (locs : List Loc) (ls : Array Slot), Zt D h cy s σ H locs → lv_has ls 5 [(0, .ref (h 33)), (1, .int x1), (2, .ref (h k2)), (3, .int x3), (4, .int x4)] → W p l e (rmz 2 46) s m args below meth c H locs 0 0 (EI below args s D h cy y) (F0 m 3 ls []) := by
  intro H locs ls Z hl
  have hx := X.x
  have hb := X.b
  unfold f_X1_indexOf_3b at hf
  refine lv_iload hx hb dX1_indexOf_3 (lv_at hl 4 rfl) ?_
  refine lv_aload_n hx hb dX1_indexOf_5 rfl (lv_at hl 0 rfl) ?_
  refine gf_RX1_14 X Z dX1_indexOf_6 ?_
  refine gf_RX1_45 X Z names_34 dX1_indexOf_9 ?_
  refine lv_icmp_ge (tgt := 65) hx hb dX1_indexOf_12 (by decide) (fun c2 => ?_) (fun c2 => ?_)
  · have hf := itp c2 hf
    refine lv_iconst (v := (-1)) hx hb dX1_indexOf_65 (by decide) ?_
    exact retI X hr hk Z hf dX1_indexOf_66
  · have hf := itn c2 hf
    refine lv_aload_n hx hb dX1_indexOf_15 rfl (lv_at hl 0 rfl) ?_
    refine gf_RX1_20 X Z dX1_indexOf_16 ?_
    refine lv_iload hx hb dX1_indexOf_19 (lv_at hl 4 rfl) ?_
    obtain ⟨g3, hf⟩ := gd_s hf
    refine x_iald (k := 37) X Z sh_37 g3 dX1_indexOf_21 ?_
    refine lv_iload_n hx hb dX1_indexOf_22 rfl (lv_at hl 1 rfl) ?_
    refine lv_icmp_ne (tgt := 59) hx hb dX1_indexOf_23 (by decide) (fun c4 => ?_) (fun c4 => ?_)
    · have hf := itn c4 hf
      exact b_X1_indexOf_59 X hr hk hR2 K3 hK3 x1 x3 x4 σ _ hf _ _ _ Z (lv_sub hl [0, 1, 2, 3, 4] rfl)
    · have hf := itp c4 hf
      refine lv_aload_n hx hb dX1_indexOf_26 rfl (lv_at hl 2 rfl) ?_
      refine lv_iload_n hx hb dX1_indexOf_27 rfl (lv_at hl 3 rfl) ?_
      refine lv_aload_n hx hb dX1_indexOf_28 rfl (lv_at hl 0 rfl) ?_
      refine gf_RX1_14 X Z dX1_indexOf_29 ?_
      refine gf_RX1_49 X Z names_34 dX1_indexOf_32 ?_
      refine lv_iload hx hb dX1_indexOf_35 (lv_at hl 4 rfl) ?_
      refine lv_bipush (v := 16) hx hb dX1_indexOf_37 (by decide) ?_
      refine lv_imul hx hb dX1_indexOf_39 ?_
      refine lv_aload_n hx hb dX1_indexOf_40 rfl (lv_at hl 0 rfl) ?_
      refine gf_RX1_14 X Z dX1_indexOf_41 ?_
      refine gf_RX1_53 X Z names_34 dX1_indexOf_44 ?_
      refine lv_iload hx hb dX1_indexOf_47 (lv_at hl 4 rfl) ?_
      obtain ⟨g6, hf⟩ := gd_s hf
      refine x_iald (k := 36) X Z sh_36 g6 dX1_indexOf_49 ?_
      obtain ⟨r9, s8, h7, hf⟩ := bi_s hf
      refine goI Z (run_V (As := [.int x3, .ref (h 35), .int ((x4 * (16 : Int32))), .int (σ.1 36 x4.toNatClampNeg)]) (rest := []) X Z (c_X6_reads l D h cy hR2 sh_35 x3 ((x4 * (16 : Int32))) (σ.1 36 x4.toNatClampNeg) σ (r9, s8) h7 _) lk_RX1_56 ⟨by decide, by decide⟩ (rv_RowS hR2) rfl hl.1 rfl (Nat.le_of_ble_eq_true rfl) ⟨Nat.le_refl _, Nat.le_refl _⟩ dX1_indexOf_50) (fun H locs Z => ?_)
      refine lv_if_eq (tgt := 59) hx hb dX1_indexOf_53 (by decide) (fun c10 => ?_) (fun c10 => ?_)
      · have hf := itp c10 hf
        exact b_X1_indexOf_59 X hr hk hR2 K3 hK3 x1 x3 x4 s8 _ hf _ _ _ Z (lv_sub hl [0, 1, 2, 3, 4] rfl)
      · have hf := itn c10 hf
        refine lv_iload hx hb dX1_indexOf_56 (lv_at hl 4 rfl) ?_
        exact retI X hr hk Z hf dX1_indexOf_58

set_option maxRecDepth 100000 in
set_option maxHeartbeats 4000000 in
theorem b_X1_indexOf_3 {p : Program} {l : Launch} {e : Env} {s : State} {m : MethodId} {args : Array Value} {below : List Frame} {meth : Method} {c : Code} {D : va_G} {h : Nat → Nat} {cy : Nat → ClassId} (X : Cx p s m args c D h cy RX1 cX1_indexOf 5) (hr : meth.sig.returnType = some .int) (hk : meth.locks = false) {k2 n2 : Nat} (hR2 : RowS k2 n2) (x1 : Int32) (x3 : Int32) (x4 : Int32) (σ : St) (y : Int32 × St) (hf : f_X1_indexOf_3 k2 n2 x1 x3 x4 σ = some y) : ∀ (H : Heap) (locs : List Loc) (ls : Array Slot), Zt D h cy s σ H locs → lv_has ls 5 [(0, .ref (h 33)), (1, .int x1), (2, .ref (h k2)), (3, .int x3), (4, .int x4)] → W p l e (rmz 2 46) s m args below meth c H locs 0 0 (EI below args s D h cy y) (F0 m 3 ls []) := by
  exact it_W (F := fun K a => f_X1_indexOf_3b k2 n2 K a.1 a.2.1 a.2.2.1 a.2.2.2) (P := fun a y => ∀ (H : Heap) (locs : List Loc) (ls : Array Slot), Zt D h cy s a.2.2.2 H locs → lv_has ls 5 [(0, .ref (h 33)), (1, .int a.1), (2, .ref (h k2)), (3, .int a.2.1), (4, .int a.2.2.1)] → W p l e (rmz 2 46) s m args below meth c H locs 0 0 (EI below args s D h cy y) (F0 m 3 ls [])) (fun K hK a y hf => b_X1_indexOf_3b X hr hk hR2 K hK (a.1) (a.2.1) (a.2.2.1) (a.2.2.2) y hf) FU _ y hf

set_option maxRecDepth 100000 in
set_option maxHeartbeats 4000000 in
theorem c_X1_indexOf (l : Launch) (D : va_G) (h : Nat → Nat) (cy : Nat → ClassId) {k2 n2 : Nat} (hR2 : RowS k2 n2) (a1 : Int32) (a3 : Int32) (σ : St) (y : Int32 × St) (hf : f_X1_indexOf k2 n2 a1 a3 σ = some y) : CI l yX1_indexOf cX1_indexOf 5 (some .int) 2 46 D h cy [.ref (h 33), .int a1, .ref (h k2), .int a3] σ y := by
  refine ent (Qc := fun sz => QI D h cy sz y) (by decide) (Nat.le_of_ble_eq_true rfl) ?_
  intro p e s m below meth c ls X Z hr hk hl
  have X : Cx p s m _ c D h cy RX1 cX1_indexOf 5 := X
  have hx := X.x
  have hb := X.b
  have hl : lv_has ls 5 [(0, .ref (h 33)), (1, .int a1), (2, .ref (h k2)), (3, .int a3)] := hl
  unfold f_X1_indexOf at hf
  refine lv_iconst (v := 0) hx hb dX1_indexOf_0 (by decide) ?_
  refine lv_topi (fun v1 ev1 => ?_)
  have hf := zn_e ev1 hf
  refine lv_istore (lv' := [(4, .int v1), (0, .ref (h 33)), (1, .int a1), (2, .ref (h k2)), (3, .int a3)]) hx hb dX1_indexOf_1 hl (by decide) rfl (fun ls hl => ?_)
  exact b_X1_indexOf_3 X hr hk hR2 a1 a3 v1 σ _ hf _ _ _ Z (lv_sub hl [1, 2, 3, 4, 0] rfl)

set_option maxRecDepth 100000 in
set_option maxHeartbeats 4000000 in
theorem b_X5_add_18b {p : Program} {l : Launch} {e : Env} {s : State} {m : MethodId} {args : Array Value} {below : List Frame} {meth : Method} {c : Code} {D : va_G} {h : Nat → Nat} {cy : Nat → ClassId} (X : Cx p s m args c D h cy RX5 cX5_add 4) (hr : meth.sig.returnType = some .int) (hk : meth.locks = false) {k0 b0 n0 : Nat} {k1 n1 : Nat} (hR0 : NamesS k0 b0 n0) (hR1 : RowS k1 n1) (K18 : (Int32 × Int32 × St) → Option (Int32 × St)) (hK18 : ∀ (a : Int32 × Int32 × St) (y : Int32 × St), K18 a = some y → ∀ (H : Heap) (locs : List Loc) (ls : Array Slot), Zt D h cy s a.2.2 H locs → lv_has ls 4 [(0, .ref (h k0)), (1, .ref (h k1)), (2, .int a.1), (3, .int a.2.1)] → W p l e (rmz 1 21) s m args below meth c H locs 0 0 (EI below args s D h cy y) (F0 m 18 ls [])) (x2 : Int32) (x3 : Int32) (σ : St) (y : Int32 × St) (hf : f_X5_add_18b k0 b0 n0 k1 n1 K18 x2 x3 σ = some y) : ∀ (H : Heap) (locs : List Loc) (ls : Array Slot), Zt D h cy s σ H locs → lv_has ls 4 [(0, .ref (h k0)), (1, .ref (h k1)), (2, .int x2), (3, .int x3)] → W p l e (rmz 1 21) s m args below meth c H locs 0 0 (EI below args s D h cy y) (F0 m 18 ls []) := by
  intro H locs ls Z hl
  have hx := X.x
  have hb := X.b
  unfold f_X5_add_18b at hf
  refine lv_iload_n hx hb dX5_add_18 rfl (lv_at hl 3 rfl) ?_
  refine lv_bipush (v := 16) hx hb dX5_add_19 (by decide) ?_
  refine lv_icmp_ge (tgt := 47) hx hb dX5_add_21 (by decide) (fun c4 => ?_) (fun c4 => ?_)
  · have hf := itp c4 hf
    refine lv_aload_n hx hb dX5_add_47 rfl (lv_at hl 0 rfl) ?_
    refine gf_RX5_15 X Z hR0 dX5_add_48 ?_
    refine lv_iload_n hx hb dX5_add_51 rfl (lv_at hl 2 rfl) ?_
    refine lv_aload_n hx hb dX5_add_52 rfl (lv_at hl 1 rfl) ?_
    refine gf_RX5_33 X Z hR1 dX5_add_53 ?_
    obtain ⟨g5, hf⟩ := gd_s hf
    refine x_iast (k := (k0 + 2)) X Z hR0.2.2 g5 dX5_add_56 (fun s6 H locs es6 Z => ?_)
    have hf := zn_e es6 hf
    refine lv_aload_n hx hb dX5_add_57 rfl (lv_at hl 0 rfl) ?_
    refine lv_dup hx hb dX5_add_58 rfl ?_
    refine gf_RX5_19 X Z hR0 dX5_add_59 ?_
    refine lv_iconst (v := 1) hx hb dX5_add_62 (by decide) ?_
    refine lv_iadd hx hb dX5_add_63 ?_
    refine pf_RX5_19 X Z hR0 dX5_add_64 (fun s7 H locs es7 Z => ?_)
    have hf := zn_e es7 hf
    refine lv_iload_n hx hb dX5_add_67 rfl (lv_at hl 2 rfl) ?_
    exact retI X hr hk Z hf dX5_add_68
  · have hf := itn c4 hf
    refine lv_aload_n hx hb dX5_add_24 rfl (lv_at hl 0 rfl) ?_
    refine gf_RX5_9 X Z hR0 dX5_add_25 ?_
    refine lv_iload_n hx hb dX5_add_28 rfl (lv_at hl 2 rfl) ?_
    refine lv_bipush (v := 16) hx hb dX5_add_29 (by decide) ?_
    refine lv_imul hx hb dX5_add_31 ?_
    refine lv_iload_n hx hb dX5_add_32 rfl (lv_at hl 3 rfl) ?_
    refine lv_iadd hx hb dX5_add_33 ?_
    refine lv_aload_n hx hb dX5_add_34 rfl (lv_at hl 1 rfl) ?_
    refine lv_iload_n hx hb dX5_add_35 rfl (lv_at hl 3 rfl) ?_
    obtain ⟨r10, s9, h8, hf⟩ := bi_s hf
    refine goI Z (run_V (As := [.int x3]) (rest := [.int (((x2 * (16 : Int32)) + x3)), .ref (h (k0 + 1))]) X Z (c_X6_at l D h cy hR1 x3 σ (r10, s9) h8 _) lk_RX5_29 ⟨by decide, by decide⟩ (rv_RowS hR1) rfl hl.1 rfl (Nat.le_of_ble_eq_true rfl) ⟨Nat.le_refl _, Nat.le_refl _⟩ dX5_add_36) (fun H locs Z => ?_)
    refine lv_i2b (v := r10.toInt8.toInt32) hx hb dX5_add_39 rfl ?_
    obtain ⟨g11, hf⟩ := gd_s hf
    refine x_bast (k := (k0 + 1)) X Z hR0.2.1 g11 dX5_add_40 (fun s12 H locs es12 Z => ?_)
    have hf := zn_e es12 hf
    obtain ⟨v13, ev13⟩ : ∃ z : Int32, z = x3 + 1 := ⟨_, rfl⟩
    have hf := zn_e ev13 hf
    refine lv_iinc (v := v13) (lv' := [(3, .int v13), (0, .ref (h k0)), (1, .ref (h k1)), (2, .int x2)]) hx hb dX5_add_41 hl (k := 3) rfl (by rw [ev13]; rfl) (by decide) rfl (fun ls hl => ?_)
    refine lv_goto (tgt := 18) hx hb dX5_add_44 (by decide) ?_
    exact hK18 (x2, v13, s12) _ hf _ _ _ Z (lv_sub hl [1, 2, 3, 0] rfl)

set_option maxRecDepth 100000 in
set_option maxHeartbeats 4000000 in
theorem b_X5_add_18 {p : Program} {l : Launch} {e : Env} {s : State} {m : MethodId} {args : Array Value} {below : List Frame} {meth : Method} {c : Code} {D : va_G} {h : Nat → Nat} {cy : Nat → ClassId} (X : Cx p s m args c D h cy RX5 cX5_add 4) (hr : meth.sig.returnType = some .int) (hk : meth.locks = false) {k0 b0 n0 : Nat} {k1 n1 : Nat} (hR0 : NamesS k0 b0 n0) (hR1 : RowS k1 n1) (x2 : Int32) (x3 : Int32) (σ : St) (y : Int32 × St) (hf : f_X5_add_18 k0 b0 n0 k1 n1 x2 x3 σ = some y) : ∀ (H : Heap) (locs : List Loc) (ls : Array Slot), Zt D h cy s σ H locs → lv_has ls 4 [(0, .ref (h k0)), (1, .ref (h k1)), (2, .int x2), (3, .int x3)] → W p l e (rmz 1 21) s m args below meth c H locs 0 0 (EI below args s D h cy y) (F0 m 18 ls []) := by
  exact it_W (F := fun K a => f_X5_add_18b k0 b0 n0 k1 n1 K a.1 a.2.1 a.2.2) (P := fun a y => ∀ (H : Heap) (locs : List Loc) (ls : Array Slot), Zt D h cy s a.2.2 H locs → lv_has ls 4 [(0, .ref (h k0)), (1, .ref (h k1)), (2, .int a.1), (3, .int a.2.1)] → W p l e (rmz 1 21) s m args below meth c H locs 0 0 (EI below args s D h cy y) (F0 m 18 ls [])) (fun K hK a y hf => b_X5_add_18b X hr hk hR0 hR1 K hK (a.1) (a.2.1) (a.2.2) y hf) FU _ y hf

set_option maxRecDepth 100000 in
set_option maxHeartbeats 4000000 in
theorem c_X5_add (l : Launch) (D : va_G) (h : Nat → Nat) (cy : Nat → ClassId) {k0 b0 n0 : Nat} {k1 n1 : Nat} (hR0 : NamesS k0 b0 n0) (hR1 : RowS k1 n1) (σ : St) (y : Int32 × St) (hf : f_X5_add k0 b0 n0 k1 n1 σ = some y) : CI l yX5_add cX5_add 4 (some .int) 1 21 D h cy [.ref (h k0), .ref (h k1)] σ y := by
  refine ent (Qc := fun sz => QI D h cy sz y) (by decide) (Nat.le_of_ble_eq_true rfl) ?_
  intro p e s m below meth c ls X Z hr hk hl
  have X : Cx p s m _ c D h cy RX5 cX5_add 4 := X
  have hx := X.x
  have hb := X.b
  have hl : lv_has ls 4 [(0, .ref (h k0)), (1, .ref (h k1))] := hl
  unfold f_X5_add at hf
  refine lv_aload_n hx hb dX5_add_0 rfl (lv_at hl 0 rfl) ?_
  refine gf_RX5_19 X Z hR0 dX5_add_1 ?_
  refine lv_topi (fun v1 ev1 => ?_)
  have hf := zn_e ev1 hf
  refine lv_istore_n (lv' := [(2, .int v1), (0, .ref (h k0)), (1, .ref (h k1))]) hx hb dX5_add_4 rfl hl (by decide) rfl (fun ls hl => ?_)
  refine lv_iload_n hx hb dX5_add_5 rfl (lv_at hl 0 rfl) ?_
  refine lv_aload_n hx hb dX5_add_6 rfl (lv_at hl 1 rfl) ?_
  refine gf_RX5_15 X Z hR0 dX5_add_7 ?_
  refine x_ilen (k := (k0 + 2)) X Z hR0.2.2 dX5_add_10 ?_
  refine lv_icmp_lt (tgt := 16) hx hb dX5_add_11 (by decide) (fun c2 => ?_) (fun c2 => ?_)
  · have hf := itp c2 hf
    refine lv_iconst (v := 0) hx hb dX5_add_16 (by decide) ?_
    refine lv_topi (fun v3 ev3 => ?_)
    have hf := zn_e ev3 hf
    refine lv_istore_n (lv' := [(3, .int v3), (2, .int v1), (0, .ref (h k0)), (1, .ref (h k1))]) hx hb dX5_add_17 rfl hl (by decide) rfl (fun ls hl => ?_)
    exact b_X5_add_18 X hr hk hR0 hR1 v1 v3 σ _ hf _ _ _ Z (lv_sub hl [2, 3, 1, 0] rfl)
  · have hf := itn c2 hf
    refine lv_iconst (v := (-1)) hx hb dX5_add_14 (by decide) ?_
    exact retI X hr hk Z hf dX5_add_15

set_option maxRecDepth 100000 in
set_option maxHeartbeats 4000000 in
theorem b_X1_put_45 {p : Program} {l : Launch} {e : Env} {s : State} {m : MethodId} {args : Array Value} {below : List Frame} {meth : Method} {c : Code} {D : va_G} {h : Nat → Nat} {cy : Nat → ClassId} (X : Cx p s m args c D h cy RX1 cX1_put 5) (hr : meth.sig.returnType = some .boolean) (hk : meth.locks = false) {k1 n1 : Nat} (hR1 : RowS k1 n1) (x2 : Int32) (x3 : Int32) (x4 : Int32) (σ : St) (y : Int32 × St) (hf : f_X1_put_45 k1 n1 x2 x3 x4 σ = some y) : ∀ (H : Heap) (locs : List Loc) (ls : Array Slot), Zt D h cy s σ H locs → lv_has ls 5 [(0, .ref (h 33)), (2, .int x2), (3, .int x3), (4, .int x4)] → W p l e (rmz 3 70) s m args below meth c H locs 0 0 (EI below args s D h cy y) (F0 m 45 ls []) := by
  intro H locs ls Z hl
  have hx := X.x
  have hb := X.b
  unfold f_X1_put_45 at hf
  refine lv_iload hx hb dX1_put_45 (lv_at hl 3 rfl) ?_
  refine lv_iconst (v := (-1)) hx hb dX1_put_47 (by decide) ?_
  refine lv_icmp_ne (tgt := 53) hx hb dX1_put_48 (by decide) (fun c14 => ?_) (fun c14 => ?_)
  · have hf := itn c14 hf
    refine lv_aload_n hx hb dX1_put_53 rfl (lv_at hl 0 rfl) ?_
    refine gf_RX1_20 X Z dX1_put_54 ?_
    refine lv_iload hx hb dX1_put_57 (lv_at hl 3 rfl) ?_
    refine lv_iload_n hx hb dX1_put_59 rfl (lv_at hl 1 rfl) ?_
    obtain ⟨g15, hf⟩ := gd_s hf
    refine x_iast (k := 37) X Z sh_37 g15 dX1_put_60 (fun s16 H locs es16 Z => ?_)
    have hf := zn_e es16 hf
    refine lv_aload_n hx hb dX1_put_61 rfl (lv_at hl 0 rfl) ?_
    refine gf_RX1_24 X Z dX1_put_62 ?_
    refine lv_iload hx hb dX1_put_65 (lv_at hl 3 rfl) ?_
    refine lv_iload_n hx hb dX1_put_67 rfl (lv_at hl 2 rfl) ?_
    obtain ⟨g17, hf⟩ := gd_s hf
    refine x_iast (k := 38) X Z sh_38 g17 dX1_put_68 (fun s18 H locs es18 Z => ?_)
    have hf := zn_e es18 hf
    refine lv_iconst (v := 1) hx hb dX1_put_69 (by decide) ?_
    exact retZ X hr hk Z (by decide) hf dX1_put_70
  · have hf := itp c14 hf
    refine lv_iconst (v := 0) hx hb dX1_put_51 (by decide) ?_
    exact retZ X hr hk Z (by decide) hf dX1_put_52

set_option maxRecDepth 100000 in
set_option maxHeartbeats 4000000 in
theorem c_X1_put (l : Launch) (D : va_G) (h : Nat → Nat) (cy : Nat → ClassId) {k1 n1 : Nat} (hR1 : RowS k1 n1) (a2 : Int32) (a3 : Int32) (σ : St) (y : Int32 × St) (hf : f_X1_put k1 n1 a2 a3 σ = some y) : CI l yX1_put cX1_put 5 (some .boolean) 3 70 D h cy [.ref (h 33), .ref (h k1), .int a2, .int a3] σ y := by
  refine ent (Qc := fun sz => QI D h cy sz y) (by decide) (Nat.le_of_ble_eq_true rfl) ?_
  intro p e s m below meth c ls X Z hr hk hl
  have X : Cx p s m _ c D h cy RX1 cX1_put 5 := X
  have hx := X.x
  have hb := X.b
  have hl : lv_has ls 5 [(0, .ref (h 33)), (1, .ref (h k1)), (2, .int a2), (3, .int a3)] := hl
  unfold f_X1_put at hf
  refine lv_aload_n hx hb dX1_put_0 rfl (lv_at hl 1 rfl) ?_
  obtain ⟨r3, s2, h1, hf⟩ := bi_s hf
  refine goI Z (run_V (As := []) (rest := []) X Z (c_X6_isName l D h cy hR1 σ (r3, s2) h1 _) lk_RX1_27 ⟨by decide, by decide⟩ (rv_RowS hR1) rfl hl.1 rfl (Nat.le_of_ble_eq_true rfl) ⟨Nat.le_refl _, Nat.le_refl _⟩ dX1_put_1) (fun H locs Z => ?_)
  refine lv_if_eq (tgt := 18) hx hb dX1_put_4 (by decide) (fun c4 => ?_) (fun c4 => ?_)
  · have hf := itp c4 hf
    refine lv_iconst (v := 0) hx hb dX1_put_18 (by decide) ?_
    exact retZ X hr hk Z (by decide) hf dX1_put_19
  · have hf := itn c4 hf
    refine lv_iload_n hx hb dX1_put_7 rfl (lv_at hl 2 rfl) ?_
    obtain ⟨r7, s6, h5, hf⟩ := bi_s hf
    refine goI Z (run_N (As := [.int a2]) (rest := []) X Z (c_X11_isLibrary l D h cy a2 s2 (r7, s6) h5 _) lk_RX1_33 ⟨by decide, by decide⟩ rfl hl.1 rfl (Nat.le_of_ble_eq_true rfl) ⟨Nat.le_refl _, Nat.le_refl _⟩ dX1_put_8) (fun H locs Z => ?_)
    refine lv_if_eq (tgt := 18) hx hb dX1_put_11 (by decide) (fun c8 => ?_) (fun c8 => ?_)
    · have hf := itp c8 hf
      refine lv_iconst (v := 0) hx hb dX1_put_18 (by decide) ?_
      exact retZ X hr hk Z (by decide) hf dX1_put_19
    · have hf := itn c8 hf
      refine lv_iload_n hx hb dX1_put_14 rfl (lv_at hl 3 rfl) ?_
      refine lv_if_ge (tgt := 20) hx hb dX1_put_15 (by decide) (fun c9 => ?_) (fun c9 => ?_)
      · have hf := itp c9 hf
        refine lv_aload_n hx hb dX1_put_20 rfl (lv_at hl 0 rfl) ?_
        refine lv_iload_n hx hb dX1_put_21 rfl (lv_at hl 2 rfl) ?_
        refine lv_aload_n hx hb dX1_put_22 rfl (lv_at hl 1 rfl) ?_
        refine lv_iconst (v := 0) hx hb dX1_put_23 (by decide) ?_
        obtain ⟨r12, s11, h10, hf⟩ := bi_s hf
        refine goI Z (run_V (As := [.int a2, .ref (h k1), .int (0 : Int32)]) (rest := []) X Z (c_X1_indexOf l D h cy hR1 a2 (0 : Int32) s6 (r12, s11) h10 _) lk_RX1_37 ⟨by decide, by decide⟩ rv_33 rfl hl.1 rfl (Nat.le_of_ble_eq_true rfl) ⟨Nat.le_refl _, Nat.le_refl _⟩ dX1_put_24) (fun H locs Z => ?_)
        refine lv_istore (lv' := [(4, .int r12), (0, .ref (h 33)), (1, .ref (h k1)), (2, .int a2), (3, .int a3)]) hx hb dX1_put_27 hl (by decide) rfl (fun ls hl => ?_)
        refine lv_iload hx hb dX1_put_29 (lv_at hl 0 rfl) ?_
        refine lv_iconst (v := (-1)) hx hb dX1_put_31 (by decide) ?_
        refine lv_icmp_ne (tgt := 45) hx hb dX1_put_32 (by decide) (fun c13 => ?_) (fun c13 => ?_)
        · have hf := itn c13 hf
          exact b_X1_put_45 X hr hk hR1 a2 a3 r12 s11 _ hf _ _ _ Z (lv_sub hl [1, 3, 4, 0] rfl)
        · have hf := itp c13 hf
          refine lv_aload_n hx hb dX1_put_35 rfl (lv_at hl 1 rfl) ?_
          refine gf_RX1_14 X Z dX1_put_36 ?_
          refine lv_aload_n hx hb dX1_put_39 rfl (lv_at hl 2 rfl) ?_
          obtain ⟨r21, s20, h19, hf⟩ := bi_s hf
          refine goI Z (run_V (As := [.ref (h k1)]) (rest := []) X Z (c_X5_add l D h cy names_34 hR1 s11 (r21, s20) h19 _) lk_RX1_41 ⟨by decide, by decide⟩ (rv_NamesS names_34) rfl hl.1 rfl (Nat.le_of_ble_eq_true rfl) ⟨Nat.le_refl _, Nat.le_refl _⟩ dX1_put_40) (fun H locs Z => ?_)
          refine lv_istore (lv' := [(4, .int r21), (0, .ref (h 33)), (1, .ref (h k1)), (2, .int a2), (3, .int a3)]) hx hb dX1_put_43 hl (by decide) rfl (fun ls hl => ?_)
          exact b_X1_put_45 X hr hk hR1 a2 a3 r21 s20 _ hf _ _ _ Z (lv_sub hl [1, 3, 4, 0] rfl)
      · have hf := itn c9 hf
        refine lv_iconst (v := 0) hx hb dX1_put_18 (by decide) ?_
        exact retZ X hr hk Z (by decide) hf dX1_put_19
