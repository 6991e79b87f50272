set_option maxRecDepth 100000 in
set_option maxHeartbeats 4000000 in
theorem b_X12_readsFixups_42 {p : Program} {l : Launch} {e : Env} {s : State} {m : MethodId} {args : Array Value} {below : List Frame} {meth : Method} {c : Code} {D : va_G} {h : Nat → Nat} {cy : Nat → ClassId} (X : Cx p s m args c D h cy RX12 cX12_readsFixups 10) (hr : meth.sig.returnType = some .boolean) (hk : meth.locks = false) (x2 : Int64) (σ : St) (y : Int32 × St) (hf : f_X12_readsFixups_42 x2 σ = some y) : ∀ (H : Heap) (locs : List Loc) (ls : Array Slot), Zt D h cy s σ H locs → lv_has ls 10 [(0, .ref (h 68)), (2, .long x2)] → W p l e (rmz 4 111) s m args below meth c H locs 0 0 (EI below args s D h cy y) (F0 m 42 ls []) := by
  intro H locs ls Z hl
  have hx := X.x
  have hb := X.b
  unfold f_X12_readsFixups_42 at hf
  refine lv_aload_n hx hb dX12_readsFixups_42 rfl (lv_at hl 0 rfl) ?_
  refine lv_bipush (v := 9) hx hb dX12_readsFixups_43 (by decide) ?_
  refine lv_lload_n hx hb dX12_readsFixups_45 rfl (lv_at hl 1 rfl) ?_
  obtain ⟨r7, s6, h5, hf⟩ := bi_s hf
  refine goI Z (run_V (As := [.int (9 : Int32), .long x2]) (rest := []) X Z (c_X12_bad l D h cy (9 : Int32) x2 σ (r7, s6) h5 _) lk_RX12_321 ⟨by decide, by decide⟩ rv_68 rfl hl.1 rfl (Nat.le_of_ble_eq_true rfl) ⟨Nat.le_refl _, Nat.le_refl _⟩ dX12_readsFixups_46) (fun H locs Z => ?_)
  obtain ⟨g8, hf⟩ := gd_s hf
  exact retZ X hr hk Z g8 hf dX12_readsFixups_49

set_option maxRecDepth 100000 in
set_option maxHeartbeats 4000000 in
theorem b_X12_readsFixups_180 {p : Program} {l : Launch} {e : Env} {s : State} {m : MethodId} {args : Array Value} {below : List Frame} {meth : Method} {c : Code} {D : va_G} {h : Nat → Nat} {cy : Nat → ClassId} (X : Cx p s m args c D h cy RX12 cX12_readsFixups 10) (hr : meth.sig.returnType = some .boolean) (hk : meth.locks = false) (x4 : Int64) (σ : St) (y : Int32 × St) (hf : f_X12_readsFixups_180 x4 σ = some y) : ∀ (H : Heap) (locs : List Loc) (ls : Array Slot), Zt D h cy s σ H locs → lv_has ls 10 [(0, .ref (h 68)), (4, .long x4)] → W p l e (rmz 4 111) s m args below meth c H locs 0 0 (EI below args s D h cy y) (F0 m 180 ls []) := by
  intro H locs ls Z hl
  have hx := X.x
  have hb := X.b
  unfold f_X12_readsFixups_180 at hf
  refine lv_aload_n hx hb dX12_readsFixups_180 rfl (lv_at hl 0 rfl) ?_
  refine lv_bipush (v := 9) hx hb dX12_readsFixups_181 (by decide) ?_
  refine lv_lload hx hb dX12_readsFixups_183 (lv_at hl 1 rfl) ?_
  obtain ⟨r32, s31, h30, hf⟩ := bi_s hf
  refine goI Z (run_V (As := [.int (9 : Int32), .long x4]) (rest := []) X Z (c_X12_bad l D h cy (9 : Int32) x4 σ (r32, s31) h30 _) lk_RX12_321 ⟨by decide, by decide⟩ rv_68 rfl hl.1 rfl (Nat.le_of_ble_eq_true rfl) ⟨Nat.le_refl _, Nat.le_refl _⟩ dX12_readsFixups_185) (fun H locs Z => ?_)
  obtain ⟨g33, hf⟩ := gd_s hf
  exact retZ X hr hk Z g33 hf dX12_readsFixups_188

set_option maxRecDepth 100000 in
set_option maxHeartbeats 4000000 in
theorem b_X12_readsFixups_553 {p : Program} {l : Launch} {e : Env} {s : State} {m : MethodId} {args : Array Value} {below : List Frame} {meth : Method} {c : Code} {D : va_G} {h : Nat → Nat} {cy : Nat → ClassId} (X : Cx p s m args c D h cy RX12 cX12_readsFixups 10) (hr : meth.sig.returnType = some .boolean) (hk : meth.locks = false) (K444 : (Int64 × Int32 × St) → Option (Int32 × St)) (hK444 : ∀ (a : Int64 × Int32 × St) (y : Int32 × St), K444 a = some y → ∀ (H : Heap) (locs : List Loc) (ls : Array Slot), Zt D h cy s a.2.2 H locs → lv_has ls 10 [(0, .ref (h 68)), (4, .long a.1), (6, .int a.2.1)] → W p l e (rmz 4 111) s m args below meth c H locs 0 0 (EI below args s D h cy y) (F0 m 444 ls [])) (x4 : Int64) (x6 : Int32) (σ : St) (y : Int32 × St) (hf : f_X12_readsFixups_553 K444 x4 x6 σ = some y) : ∀ (H : Heap) (locs : List Loc) (ls : Array Slot), Zt D h cy s σ H locs → lv_has ls 10 [(0, .ref (h 68)), (4, .long x4), (6, .int x6)] → W p l e (rmz 4 111) s m args below meth c H locs 0 0 (EI below args s D h cy y) (F0 m 553 ls []) := by
  intro H locs ls Z hl
  have hx := X.x
  have hb := X.b
  unfold f_X12_readsFixups_553 at hf
  obtain ⟨v64, ev64⟩ : ∃ z : Int32, z = x6 + 1 := ⟨_, rfl⟩
  have hf := zn_e ev64 hf
  refine lv_iinc (v := v64) (lv' := [(6, .int v64), (0, .ref (h 68)), (4, .long x4)]) hx hb dX12_readsFixups_553 hl (k := 2) rfl (by rw [ev64]; rfl) (by decide) rfl (fun ls hl => ?_)
  refine lv_goto (tgt := 444) hx hb dX12_readsFixups_556 (by decide) ?_
  exact hK444 (x4, v64, σ) _ hf _ _ _ Z (lv_sub hl [1, 2, 0] rfl)

set_option maxRecDepth 100000 in
set_option maxHeartbeats 4000000 in
theorem b_X12_readsFixups_486b {p : Program} {l : Launch} {e : Env} {s : State} {m : MethodId} {args : Array Value} {below : List Frame} {meth : Method} {c : Code} {D : va_G} {h : Nat → Nat} {cy : Nat → ClassId} (X : Cx p s m args c D h cy RX12 cX12_readsFixups 10) (hr : meth.sig.returnType = some .boolean) (hk : meth.locks = false) (K444 : (Int64 × Int32 × St) → Option (Int32 × St)) (hK444 : ∀ (a : Int64 × Int32 × St) (y : Int32 × St), K444 a = some y → ∀ (H : Heap) (locs : List Loc) (ls : Array Slot), Zt D h cy s a.2.2 H locs → lv_has ls 10 [(0, .ref (h 68)), (4, .long a.1), (6, .int a.2.1)] → W p l e (rmz 4 111) s m args below meth c H locs 0 0 (EI below args s D h cy y) (F0 m 444 ls [])) (K486 : (Int64 × Int32 × Int64 × Int32 × St) → Option (Int32 × St)) (hK486 : ∀ (a : Int64 × Int32 × Int64 × Int32 × St) (y : Int32 × St), K486 a = some y → ∀ (H : Heap) (locs : List Loc) (ls : Array Slot), Zt D h cy s a.2.2.2.2 H locs → lv_has ls 10 [(0, .ref (h 68)), (4, .long a.1), (6, .int a.2.1), (7, .long a.2.2.1), (9, .int a.2.2.2.1)] → W p l e (rmz 4 111) s m args below meth c H locs 0 0 (EI below args s D h cy y) (F0 m 486 ls [])) (x4 : Int64) (x6 : Int32) (x7 : Int64) (x9 : Int32) (σ : St) (y : Int32 × St) (hf : f_X12_readsFixups_486b K444 K486 x4 x6 x7 x9 σ = some y) : ∀ (H : Heap) (locs : List Loc) (ls : Array Slot), Zt D h cy s σ H locs → lv_has ls 10 [(0, .ref (h 68)), (4, .long x4), (6, .int x6), (7, .long x7), (9, .int x9)] → W p l e (rmz 4 111) s m args below meth c H locs 0 0 (EI below args s D h cy y) (F0 m 486 ls []) := by
  intro H locs ls Z hl
  have hx := X.x
  have hb := X.b
  unfold f_X12_readsFixups_486b at hf
  refine lv_iload hx hb dX12_readsFixups_486 (lv_at hl 4 rfl) ?_
  refine lv_aload_n hx hb dX12_readsFixups_488 rfl (lv_at hl 0 rfl) ?_
  refine lv_lload hx hb dX12_readsFixups_489 (lv_at hl 1 rfl) ?_
  refine lv_lload hx hb dX12_readsFixups_491 (lv_at hl 3 rfl) ?_
  refine lv_ladd hx hb dX12_readsFixups_493 ?_
  refine lv_ldc2 (v := 20) hx hb X.o (X.t _ kc_RX12_359) dX12_readsFixups_494 ?_
  refine lv_ladd hx hb dX12_readsFixups_497 ?_
  obtain ⟨r62, s61, h60, hf⟩ := bi_s hf
  refine goI Z (run_V (As := [.long (((x4 + x7) + (20 : Int64)))]) (rest := [.int x9]) X Z (c_X12_two l D h cy (((x4 + x7) + (20 : Int64))) σ (r62, s61) h60 _) lk_RX12_432 ⟨by decide, by decide⟩ rv_68 rfl hl.1 rfl (Nat.le_of_ble_eq_true rfl) ⟨Nat.le_refl _, Nat.le_refl _⟩ dX12_readsFixups_498) (fun H locs Z => ?_)
  refine lv_icmp_ge (tgt := 553) hx hb dX12_readsFixups_501 (by decide) (fun c63 => ?_) (fun c63 => ?_)
  · have hf := itp c63 hf
    exact b_X12_readsFixups_553 X hr hk K444 hK444 x4 x6 s61 _ hf _ _ _ Z (lv_sub hl [0, 1, 2] rfl)
  · have hf := itn c63 hf
    refine lv_aload_n hx hb dX12_readsFixups_504 rfl (lv_at hl 0 rfl) ?_
    refine lv_iload hx hb dX12_readsFixups_505 (lv_at hl 2 rfl) ?_
    refine lv_iload hx hb dX12_readsFixups_507 (lv_at hl 4 rfl) ?_
    refine lv_aload_n hx hb dX12_readsFixups_509 rfl (lv_at hl 0 rfl) ?_
    refine lv_lload hx hb dX12_readsFixups_510 (lv_at hl 1 rfl) ?_
    refine lv_lload hx hb dX12_readsFixups_512 (lv_at hl 3 rfl) ?_
    refine lv_ladd hx hb dX12_readsFixups_514 ?_
    refine lv_ldc2 (v := 4) hx hb X.o (X.t _ kc_RX12_311) dX12_readsFixups_515 ?_
    refine lv_ladd hx hb dX12_readsFixups_518 ?_
    obtain ⟨r67, s66, h65, hf⟩ := bi_s hf
    refine goI Z (run_V (As := [.long (((x4 + x7) + (4 : Int64)))]) (rest := [.int x9, .int x6, .ref (h 68)]) X Z (c_X12_two l D h cy (((x4 + x7) + (4 : Int64))) s61 (r67, s66) h65 _) lk_RX12_432 ⟨by decide, by decide⟩ rv_68 rfl hl.1 rfl (Nat.le_of_ble_eq_true rfl) ⟨Nat.le_refl _, Nat.le_refl _⟩ dX12_readsFixups_519) (fun H locs Z => ?_)
    refine lv_lload hx hb dX12_readsFixups_522 (lv_at hl 1 rfl) ?_
    refine lv_lload hx hb dX12_readsFixups_524 (lv_at hl 3 rfl) ?_
    refine lv_ladd hx hb dX12_readsFixups_526 ?_
    refine lv_ldc2 (v := 22) hx hb X.o (X.t _ kc_RX12_436) dX12_readsFixups_527 ?_
    refine lv_ladd hx hb dX12_readsFixups_530 ?_
    refine lv_ldc2 (v := 2) hx hb X.o (X.t _ kc_RX12_270) dX12_readsFixups_531 ?_
    refine lv_iload hx hb dX12_readsFixups_534 (lv_at hl 4 rfl) ?_
    refine lv_i2l (v := x9.toInt64) hx hb dX12_readsFixups_536 rfl ?_
    refine lv_lmul hx hb dX12_readsFixups_537 ?_
    refine lv_ladd hx hb dX12_readsFixups_538 ?_
    obtain ⟨r70, s69, h68, hf⟩ := bi_s hf
    refine goI Z (run_V (As := [.int x6, .int x9, .int r67, .long ((((x4 + x7) + (22 : Int64)) + ((2 : Int64) * x9.toInt64)))]) (rest := []) X Z (c_X12_walks l D h cy x6 x9 r67 ((((x4 + x7) + (22 : Int64)) + ((2 : Int64) * x9.toInt64))) s66 (r70, s69) h68 _) lk_RX12_438 ⟨by decide, by decide⟩ rv_68 rfl hl.1 rfl (Nat.le_of_ble_eq_true rfl) ⟨Nat.le_refl _, Nat.le_refl _⟩ dX12_readsFixups_539) (fun H locs Z => ?_)
    refine lv_if_ne (tgt := 547) hx hb dX12_readsFixups_542 (by decide) (fun c71 => ?_) (fun c71 => ?_)
    · have hf := itn c71 hf
      obtain ⟨v72, ev72⟩ : ∃ z : Int32, z = x9 + 1 := ⟨_, rfl⟩
      have hf := zn_e ev72 hf
      refine lv_iinc (v := v72) (lv' := [(9, .int v72), (0, .ref (h 68)), (4, .long x4), (6, .int x6), (7, .long x7)]) hx hb dX12_readsFixups_547 hl (k := 4) rfl (by rw [ev72]; rfl) (by decide) rfl (fun ls hl => ?_)
      refine lv_goto (tgt := 486) hx hb dX12_readsFixups_550 (by decide) ?_
      exact hK486 (x4, x6, x7, v72, s69) _ hf _ _ _ Z (lv_sub hl [1, 2, 3, 4, 0] rfl)
    · have hf := itp c71 hf
      refine lv_iconst (v := 0) hx hb dX12_readsFixups_545 (by decide) ?_
      exact retZ X hr hk Z (by decide) hf dX12_readsFixups_546

set_option maxRecDepth 100000 in
set_option maxHeartbeats 4000000 in
theorem b_X12_readsFixups_486 {p : Program} {l : Launch} {e : Env} {s : State} {m : MethodId} {args : Array Value} {below : List Frame} {meth : Method} {c : Code} {D : va_G} {h : Nat → Nat} {cy : Nat → ClassId} (X : Cx p s m args c D h cy RX12 cX12_readsFixups 10) (hr : meth.sig.returnType = some .boolean) (hk : meth.locks = false) (K444 : (Int64 × Int32 × St) → Option (Int32 × St)) (hK444 : ∀ (a : Int64 × Int32 × St) (y : Int32 × St), K444 a = some y → ∀ (H : Heap) (locs : List Loc) (ls : Array Slot), Zt D h cy s a.2.2 H locs → lv_has ls 10 [(0, .ref (h 68)), (4, .long a.1), (6, .int a.2.1)] → W p l e (rmz 4 111) s m args below meth c H locs 0 0 (EI below args s D h cy y) (F0 m 444 ls [])) (x4 : Int64) (x6 : Int32) (x7 : Int64) (x9 : Int32) (σ : St) (y : Int32 × St) (hf : f_X12_readsFixups_486 K444 x4 x6 x7 x9 σ = some y) : ∀ (H : Heap) (locs : List Loc) (ls : Array Slot), Zt D h cy s σ H locs → lv_has ls 10 [(0, .ref (h 68)), (4, .long x4), (6, .int x6), (7, .long x7), (9, .int x9)] → W p l e (rmz 4 111) s m args below meth c H locs 0 0 (EI below args s D h cy y) (F0 m 486 ls []) := by
  exact it_W (F := fun K a => f_X12_readsFixups_486b K444 K a.1 a.2.1 a.2.2.1 a.2.2.2.1 a.2.2.2.2) (P := fun a y => ∀ (H : Heap) (locs : List Loc) (ls : Array Slot), Zt D h cy s a.2.2.2.2 H locs → lv_has ls 10 [(0, .ref (h 68)), (4, .long a.1), (6, .int a.2.1), (7, .long a.2.2.1), (9, .int a.2.2.2.1)] → W p l e (rmz 4 111) s m args below meth c H locs 0 0 (EI below args s D h cy y) (F0 m 486 ls [])) (fun K hK a y hf => b_X12_readsFixups_486b X hr hk K444 hK444 K hK (a.1) (a.2.1) (a.2.2.1) (a.2.2.2.1) (a.2.2.2.2) y hf) FU _ y hf

set_option maxRecDepth 100000 in
set_option maxHeartbeats 4000000 in
theorem b_X12_readsFixups_444b {p : Program} {l : Launch} {e : Env} {s : State} {m : MethodId} {args : Array Value} {below : List Frame} {meth : Method} {c : Code} {D : va_G} {h : Nat → Nat} {cy : Nat → ClassId} (X : Cx p s m args c D h cy RX12 cX12_readsFixups 10) (hr : meth.sig.returnType = some .boolean) (hk : meth.locks = false) (K444 : (Int64 × Int32 × St) → Option (Int32 × St)) (hK444 : ∀ (a : Int64 × Int32 × St) (y : Int32 × St), K444 a = some y → ∀ (H : Heap) (locs : List Loc) (ls : Array Slot), Zt D h cy s a.2.2 H locs → lv_has ls 10 [(0, .ref (h 68)), (4, .long a.1), (6, .int a.2.1)] → W p l e (rmz 4 111) s m args below meth c H locs 0 0 (EI below args s D h cy y) (F0 m 444 ls [])) (x4 : Int64) (x6 : Int32) (σ : St) (y : Int32 × St) (hf : f_X12_readsFixups_444b K444 x4 x6 σ = some y) : ∀ (H : Heap) (locs : List Loc) (ls : Array Slot), Zt D h cy s σ H locs → lv_has ls 10 [(0, .ref (h 68)), (4, .long x4), (6, .int x6)] → W p l e (rmz 4 111) s m args below meth c H locs 0 0 (EI below args s D h cy y) (F0 m 444 ls []) := by
  intro H locs ls Z hl
  have hx := X.x
  have hb := X.b
  unfold f_X12_readsFixups_444b at hf
  refine lv_iload hx hb dX12_readsFixups_444 (lv_at hl 2 rfl) ?_
  refine lv_aload_n hx hb dX12_readsFixups_446 rfl (lv_at hl 0 rfl) ?_
  refine gf_RX12_341 X Z dX12_readsFixups_447 ?_
  refine lv_icmp_ge (tgt := 559) hx hb dX12_readsFixups_450 (by decide) (fun c54 => ?_) (fun c54 => ?_)
  · have hf := itp c54 hf
    refine lv_iconst (v := 1) hx hb dX12_readsFixups_559 (by decide) ?_
    exact retZ X hr hk Z (by decide) hf dX12_readsFixups_560
  · have hf := itn c54 hf
    refine lv_aload_n hx hb dX12_readsFixups_453 rfl (lv_at hl 0 rfl) ?_
    refine lv_lload hx hb dX12_readsFixups_454 (lv_at hl 1 rfl) ?_
    refine lv_ldc2 (v := 4) hx hb X.o (X.t _ kc_RX12_311) dX12_readsFixups_456 ?_
    refine lv_ladd hx hb dX12_readsFixups_459 ?_
    refine lv_ldc2 (v := 4) hx hb X.o (X.t _ kc_RX12_311) dX12_readsFixups_460 ?_
    refine lv_iload hx hb dX12_readsFixups_463 (lv_at hl 2 rfl) ?_
    refine lv_i2l (v := x6.toInt64) hx hb dX12_readsFixups_465 rfl ?_
    refine lv_lmul hx hb dX12_readsFixups_466 ?_
    refine lv_ladd hx hb dX12_readsFixups_467 ?_
    obtain ⟨r57, s56, h55, hf⟩ := bi_s hf
    refine goL Z (run_V (As := [.long (((x4 + (4 : Int64)) + ((4 : Int64) * x6.toInt64)))]) (rest := []) X Z (c_X12_four l D h cy (((x4 + (4 : Int64)) + ((4 : Int64) * x6.toInt64))) σ (r57, s56) h55 _) lk_RX12_307 ⟨by decide, by decide⟩ rv_68 rfl hl.1 rfl (Nat.le_of_ble_eq_true rfl) ⟨Nat.le_refl _, Nat.le_refl _⟩ dX12_readsFixups_468) (fun H locs Z => ?_)
    refine lv_lstore (lv' := [(7, .long r57), (0, .ref (h 68)), (4, .long x4), (6, .int x6)]) hx hb dX12_readsFixups_471 hl (by decide) rfl (fun ls hl => ?_)
    refine lv_lload hx hb dX12_readsFixups_473 (lv_at hl 0 rfl) ?_
    refine lv_lconst (v := 0) hx hb dX12_readsFixups_475 (by decide) ?_
    refine x_lif_ne (tgt := 483) X dX12_readsFixups_476 dX12_readsFixups_477 (by decide) (fun c58 => ?_) (fun c58 => ?_)
    · have hf := itn c58 hf
      refine lv_iconst (v := 0) hx hb dX12_readsFixups_483 (by decide) ?_
      refine lv_topi (fun v59 ev59 => ?_)
      have hf := zn_e ev59 hf
      refine lv_istore (lv' := [(9, .int v59), (7, .long r57), (0, .ref (h 68)), (4, .long x4), (6, .int x6)]) hx hb dX12_readsFixups_484 hl (by decide) rfl (fun ls hl => ?_)
      exact b_X12_readsFixups_486 X hr hk K444 hK444 x4 x6 r57 v59 s56 _ hf _ _ _ Z (lv_sub hl [2, 3, 4, 1, 0] rfl)
    · have hf := itp c58 hf
      refine lv_goto (tgt := 553) hx hb dX12_readsFixups_480 (by decide) ?_
      exact b_X12_readsFixups_553 X hr hk K444 hK444 x4 x6 s56 _ hf _ _ _ Z (lv_sub hl [1, 2, 3] rfl)

set_option maxRecDepth 100000 in
set_option maxHeartbeats 4000000 in
theorem b_X12_readsFixups_444 {p : Program} {l : Launch} {e : Env} {s : State} {m : MethodId} {args : Array Value} {below : List Frame} {meth : Method} {c : Code} {D : va_G} {h : Nat → Nat} {cy : Nat → ClassId} (X : Cx p s m args c D h cy RX12 cX12_readsFixups 10) (hr : meth.sig.returnType = some .boolean) (hk : meth.locks = false) (x4 : Int64) (x6 : Int32) (σ : St) (y : Int32 × St) (hf : f_X12_readsFixups_444 x4 x6 σ = some y) : ∀ (H : Heap) (locs : List Loc) (ls : Array Slot), Zt D h cy s σ H locs → lv_has ls 10 [(0, .ref (h 68)), (4, .long x4), (6, .int x6)] → W p l e (rmz 4 111) s m args below meth c H locs 0 0 (EI below args s D h cy y) (F0 m 444 ls []) := by
  exact it_W (F := fun K a => f_X12_readsFixups_444b K a.1 a.2.1 a.2.2) (P := fun a y => ∀ (H : Heap) (locs : List Loc) (ls : Array Slot), Zt D h cy s a.2.2 H locs → lv_has ls 10 [(0, .ref (h 68)), (4, .long a.1), (6, .int a.2.1)] → W p l e (rmz 4 111) s m args below meth c H locs 0 0 (EI below args s D h cy y) (F0 m 444 ls [])) (fun K hK a y hf => b_X12_readsFixups_444b X hr hk K hK (a.1) (a.2.1) (a.2.2) y hf) FU _ y hf

set_option maxRecDepth 100000 in
set_option maxHeartbeats 4000000 in
theorem b_X12_readsFixups_435 {p : Program} {l : Launch} {e : Env} {s : State} {m : MethodId} {args : Array Value} {below : List Frame} {meth : Method} {c : Code} {D : va_G} {h : Nat → Nat} {cy : Nat → ClassId} (X : Cx p s m args c D h cy RX12 cX12_readsFixups 10) (hr : meth.sig.returnType = some .boolean) (hk : meth.locks = false) (K369 : (Int64 × Int32 × St) → Option (Int32 × St)) (hK369 : ∀ (a : Int64 × Int32 × St) (y : Int32 × St), K369 a = some y → ∀ (H : Heap) (locs : List Loc) (ls : Array Slot), Zt D h cy s a.2.2 H locs → lv_has ls 10 [(0, .ref (h 68)), (4, .long a.1), (6, .int a.2.1)] → W p l e (rmz 4 111) s m args below meth c H locs 0 0 (EI below args s D h cy y) (F0 m 369 ls [])) (x4 : Int64) (x6 : Int32) (σ : St) (y : Int32 × St) (hf : f_X12_readsFixups_435 K369 x4 x6 σ = some y) : ∀ (H : Heap) (locs : List Loc) (ls : Array Slot), Zt D h cy s σ H locs → lv_has ls 10 [(0, .ref (h 68)), (4, .long x4), (6, .int x6)] → W p l e (rmz 4 111) s m args below meth c H locs 0 0 (EI below args s D h cy y) (F0 m 435 ls []) := by
  intro H locs ls Z hl
  have hx := X.x
  have hb := X.b
  unfold f_X12_readsFixups_435 at hf
  obtain ⟨v77, ev77⟩ : ∃ z : Int32, z = x6 + 1 := ⟨_, rfl⟩
  have hf := zn_e ev77 hf
  refine lv_iinc (v := v77) (lv' := [(6, .int v77), (0, .ref (h 68)), (4, .long x4)]) hx hb dX12_readsFixups_435 hl (k := 2) rfl (by rw [ev77]; rfl) (by decide) rfl (fun ls hl => ?_)
  refine lv_goto (tgt := 369) hx hb dX12_readsFixups_438 (by decide) ?_
  exact hK369 (x4, v77, σ) _ hf _ _ _ Z (lv_sub hl [1, 2, 0] rfl)

set_option maxRecDepth 100000 in
set_option maxHeartbeats 4000000 in
theorem b_X12_readsFixups_369b {p : Program} {l : Launch} {e : Env} {s : State} {m : MethodId} {args : Array Value} {below : List Frame} {meth : Method} {c : Code} {D : va_G} {h : Nat → Nat} {cy : Nat → ClassId} (X : Cx p s m args c D h cy RX12 cX12_readsFixups 10) (hr : meth.sig.returnType = some .boolean) (hk : meth.locks = false) (K369 : (Int64 × Int32 × St) → Option (Int32 × St)) (hK369 : ∀ (a : Int64 × Int32 × St) (y : Int32 × St), K369 a = some y → ∀ (H : Heap) (locs : List Loc) (ls : Array Slot), Zt D h cy s a.2.2 H locs → lv_has ls 10 [(0, .ref (h 68)), (4, .long a.1), (6, .int a.2.1)] → W p l e (rmz 4 111) s m args below meth c H locs 0 0 (EI below args s D h cy y) (F0 m 369 ls [])) (x4 : Int64) (x6 : Int32) (σ : St) (y : Int32 × St) (hf : f_X12_readsFixups_369b K369 x4 x6 σ = some y) : ∀ (H : Heap) (locs : List Loc) (ls : Array Slot), Zt D h cy s σ H locs → lv_has ls 10 [(0, .ref (h 68)), (4, .long x4), (6, .int x6)] → W p l e (rmz 4 111) s m args below meth c H locs 0 0 (EI below args s D h cy y) (F0 m 369 ls []) := by
  intro H locs ls Z hl
  have hx := X.x
  have hb := X.b
  unfold f_X12_readsFixups_369b at hf
  refine lv_iload hx hb dX12_readsFixups_369 (lv_at hl 2 rfl) ?_
  refine lv_aload_n hx hb dX12_readsFixups_371 rfl (lv_at hl 0 rfl) ?_
  refine gf_RX12_341 X Z dX12_readsFixups_372 ?_
  refine lv_icmp_ge (tgt := 441) hx hb dX12_readsFixups_375 (by decide) (fun c52 => ?_) (fun c52 => ?_)
  · have hf := itp c52 hf
    refine lv_iconst (v := 0) hx hb dX12_readsFixups_441 (by decide) ?_
    refine lv_topi (fun v53 ev53 => ?_)
    have hf := zn_e ev53 hf
    refine lv_istore (lv' := [(6, .int v53), (0, .ref (h 68)), (4, .long x4)]) hx hb dX12_readsFixups_442 hl (by decide) rfl (fun ls hl => ?_)
    exact b_X12_readsFixups_444 X hr hk x4 v53 σ _ hf _ _ _ Z (lv_sub hl [1, 2, 0] rfl)
  · have hf := itn c52 hf
    refine lv_aload_n hx hb dX12_readsFixups_378 rfl (lv_at hl 0 rfl) ?_
    refine lv_lload hx hb dX12_readsFixups_379 (lv_at hl 1 rfl) ?_
    refine lv_ldc2 (v := 4) hx hb X.o (X.t _ kc_RX12_311) dX12_readsFixups_381 ?_
    refine lv_ladd hx hb dX12_readsFixups_384 ?_
    refine lv_ldc2 (v := 4) hx hb X.o (X.t _ kc_RX12_311) dX12_readsFixups_385 ?_
    refine lv_iload hx hb dX12_readsFixups_388 (lv_at hl 2 rfl) ?_
    refine lv_i2l (v := x6.toInt64) hx hb dX12_readsFixups_390 rfl ?_
    refine lv_lmul hx hb dX12_readsFixups_391 ?_
    refine lv_ladd hx hb dX12_readsFixups_392 ?_
    obtain ⟨r75, s74, h73, hf⟩ := bi_s hf
    refine goL Z (run_V (As := [.long (((x4 + (4 : Int64)) + ((4 : Int64) * x6.toInt64)))]) (rest := []) X Z (c_X12_four l D h cy (((x4 + (4 : Int64)) + ((4 : Int64) * x6.toInt64))) σ (r75, s74) h73 _) lk_RX12_307 ⟨by decide, by decide⟩ rv_68 rfl hl.1 rfl (Nat.le_of_ble_eq_true rfl) ⟨Nat.le_refl _, Nat.le_refl _⟩ dX12_readsFixups_393) (fun H locs Z => ?_)
    refine lv_lstore (lv' := [(7, .long r75), (0, .ref (h 68)), (4, .long x4), (6, .int x6)]) hx hb dX12_readsFixups_396 hl (by decide) rfl (fun ls hl => ?_)
    refine lv_lload hx hb dX12_readsFixups_398 (lv_at hl 0 rfl) ?_
    refine lv_lconst (v := 0) hx hb dX12_readsFixups_400 (by decide) ?_
    refine x_lif_eq (tgt := 435) X dX12_readsFixups_401 dX12_readsFixups_402 (by decide) (fun c76 => ?_) (fun c76 => ?_)
    · have hf := itp c76 hf
      exact b_X12_readsFixups_435 X hr hk K369 hK369 x4 x6 s74 _ hf _ _ _ Z (lv_sub hl [1, 2, 3] rfl)
    · have hf := itn c76 hf
      refine lv_aload_n hx hb dX12_readsFixups_405 rfl (lv_at hl 1 rfl) ?_
      refine lv_iload hx hb dX12_readsFixups_406 (lv_at hl 3 rfl) ?_
      refine lv_lload hx hb dX12_readsFixups_408 (lv_at hl 2 rfl) ?_
      refine lv_lload hx hb dX12_readsFixups_410 (lv_at hl 0 rfl) ?_
      refine lv_ladd hx hb dX12_readsFixups_412 ?_
      refine lv_lload hx hb dX12_readsFixups_413 (lv_at hl 2 rfl) ?_
      refine lv_ldc2 (v := 4) hx hb X.o (X.t _ kc_RX12_311) dX12_readsFixups_415 ?_
      refine lv_ladd hx hb dX12_readsFixups_418 ?_
      refine lv_ldc2 (v := 4) hx hb X.o (X.t _ kc_RX12_311) dX12_readsFixups_419 ?_
      refine lv_iload hx hb dX12_readsFixups_422 (lv_at hl 3 rfl) ?_
      refine lv_i2l (v := x6.toInt64) hx hb dX12_readsFixups_424 rfl ?_
      refine lv_lmul hx hb dX12_readsFixups_425 ?_
      refine lv_ladd hx hb dX12_readsFixups_426 ?_
      obtain ⟨r80, s79, h78, hf⟩ := bi_s hf
      refine goI Z (run_V (As := [.int x6, .long (x4 + r75), .long (((x4 + (4 : Int64)) + ((4 : Int64) * x6.toInt64)))]) (rest := []) X Z (c_X12_readsPages l D h cy x6 (x4 + r75) (((x4 + (4 : Int64)) + ((4 : Int64) * x6.toInt64))) s74 (r80, s79) h78 _) lk_RX12_428 ⟨by decide, by decide⟩ rv_68 rfl hl.1 rfl (Nat.le_of_ble_eq_true rfl) ⟨Nat.le_refl _, Nat.le_refl _⟩ dX12_readsFixups_427) (fun H locs Z => ?_)
      refine lv_if_ne (tgt := 435) hx hb dX12_readsFixups_430 (by decide) (fun c81 => ?_) (fun c81 => ?_)
      · have hf := itn c81 hf
        exact b_X12_readsFixups_435 X hr hk K369 hK369 x4 x6 s79 _ hf _ _ _ Z (lv_sub hl [1, 2, 3] rfl)
      · have hf := itp c81 hf
        refine lv_iconst (v := 0) hx hb dX12_readsFixups_433 (by decide) ?_
        exact retZ X hr hk Z (by decide) hf dX12_readsFixups_434

set_option maxRecDepth 100000 in
set_option maxHeartbeats 4000000 in
theorem b_X12_readsFixups_369 {p : Program} {l : Launch} {e : Env} {s : State} {m : MethodId} {args : Array Value} {below : List Frame} {meth : Method} {c : Code} {D : va_G} {h : Nat → Nat} {cy : Nat → ClassId} (X : Cx p s m args c D h cy RX12 cX12_readsFixups 10) (hr : meth.sig.returnType = some .boolean) (hk : meth.locks = false) (x4 : Int64) (x6 : Int32) (σ : St) (y : Int32 × St) (hf : f_X12_readsFixups_369 x4 x6 σ = some y) : ∀ (H : Heap) (locs : List Loc) (ls : Array Slot), Zt D h cy s σ H locs → lv_has ls 10 [(0, .ref (h 68)), (4, .long x4), (6, .int x6)] → W p l e (rmz 4 111) s m args below meth c H locs 0 0 (EI below args s D h cy y) (F0 m 369 ls []) := by
  exact it_W (F := fun K a => f_X12_readsFixups_369b K a.1 a.2.1 a.2.2) (P := fun a y => ∀ (H : Heap) (locs : List Loc) (ls : Array Slot), Zt D h cy s a.2.2 H locs → lv_has ls 10 [(0, .ref (h 68)), (4, .long a.1), (6, .int a.2.1)] → W p l e (rmz 4 111) s m args below meth c H locs 0 0 (EI below args s D h cy y) (F0 m 369 ls [])) (fun K hK a y hf => b_X12_readsFixups_369b X hr hk K hK (a.1) (a.2.1) (a.2.2) y hf) FU _ y hf

set_option maxRecDepth 100000 in
set_option maxHeartbeats 4000000 in
theorem b_X12_readsFixups_291b {p : Program} {l : Launch} {e : Env} {s : State} {m : MethodId} {args : Array Value} {below : List Frame} {meth : Method} {c : Code} {D : va_G} {h : Nat → Nat} {cy : Nat → ClassId} (X : Cx p s m args c D h cy RX12 cX12_readsFixups 10) (hr : meth.sig.returnType = some .boolean) (hk : meth.locks = false) (K291 : (Int64 × Int32 × St) → Option (Int32 × St)) (hK291 : ∀ (a : Int64 × Int32 × St) (y : Int32 × St), K291 a = some y → ∀ (H : Heap) (locs : List Loc) (ls : Array Slot), Zt D h cy s a.2.2 H locs → lv_has ls 10 [(0, .ref (h 68)), (4, .long a.1), (6, .int a.2.1)] → W p l e (rmz 4 111) s m args below meth c H locs 0 0 (EI below args s D h cy y) (F0 m 291 ls [])) (x4 : Int64) (x6 : Int32) (σ : St) (y : Int32 × St) (hf : f_X12_readsFixups_291b K291 x4 x6 σ = some y) : ∀ (H : Heap) (locs : List Loc) (ls : Array Slot), Zt D h cy s σ H locs → lv_has ls 10 [(0, .ref (h 68)), (4, .long x4), (6, .int x6)] → W p l e (rmz 4 111) s m args below meth c H locs 0 0 (EI below args s D h cy y) (F0 m 291 ls []) := by
  intro H locs ls Z hl
  have hx := X.x
  have hb := X.b
  unfold f_X12_readsFixups_291b at hf
  refine lv_iload hx hb dX12_readsFixups_291 (lv_at hl 2 rfl) ?_
  refine lv_i2l (v := x6.toInt64) hx hb dX12_readsFixups_293 rfl ?_
  refine lv_aload_n hx hb dX12_readsFixups_294 rfl (lv_at hl 0 rfl) ?_
  refine gf_RX12_419 X Z dX12_readsFixups_295 ?_
  refine x_lif_ge (tgt := 366) X dX12_readsFixups_298 dX12_readsFixups_299 (by decide) (fun c50 => ?_) (fun c50 => ?_)
  · have hf := itp c50 hf
    refine lv_iconst (v := 0) hx hb dX12_readsFixups_366 (by decide) ?_
    refine lv_topi (fun v51 ev51 => ?_)
    have hf := zn_e ev51 hf
    refine lv_istore (lv' := [(6, .int v51), (0, .ref (h 68)), (4, .long x4)]) hx hb dX12_readsFixups_367 hl (by decide) rfl (fun ls hl => ?_)
    exact b_X12_readsFixups_369 X hr hk x4 v51 σ _ hf _ _ _ Z (lv_sub hl [1, 2, 0] rfl)
  · have hf := itn c50 hf
    refine lv_aload_n hx hb dX12_readsFixups_302 rfl (lv_at hl 0 rfl) ?_
    refine lv_aload_n hx hb dX12_readsFixups_303 rfl (lv_at hl 0 rfl) ?_
    refine gf_RX12_425 X Z dX12_readsFixups_304 ?_
    refine lv_aload_n hx hb dX12_readsFixups_307 rfl (lv_at hl 0 rfl) ?_
    refine lv_aload_n hx hb dX12_readsFixups_308 rfl (lv_at hl 0 rfl) ?_
    refine gf_RX12_422 X Z dX12_readsFixups_309 ?_
    refine lv_ldc2 (v := 4) hx hb X.o (X.t _ kc_RX12_311) dX12_readsFixups_312 ?_
    refine lv_iload hx hb dX12_readsFixups_315 (lv_at hl 2 rfl) ?_
    refine lv_i2l (v := x6.toInt64) hx hb dX12_readsFixups_317 rfl ?_
    refine lv_lmul hx hb dX12_readsFixups_318 ?_
    refine lv_ladd hx hb dX12_readsFixups_319 ?_
    obtain ⟨r84, s83, h82, hf⟩ := bi_s hf
    refine goL Z (run_V (As := [.long (((σ.2 68 56) + ((4 : Int64) * x6.toInt64)))]) (rest := [.long (σ.2 68 58), .ref (h 68)]) X Z (c_X12_four l D h cy (((σ.2 68 56) + ((4 : Int64) * x6.toInt64))) σ (r84, s83) h82 _) lk_RX12_307 ⟨by decide, by decide⟩ rv_68 rfl hl.1 rfl (Nat.le_of_ble_eq_true rfl) ⟨Nat.le_refl _, Nat.le_refl _⟩ dX12_readsFixups_320) (fun H locs Z => ?_)
    refine lv_bipush (v := 9) hx hb dX12_readsFixups_323 (by decide) ?_
    refine lv_lshr (v := zlshr r84 (9 : Int32)) hx hb dX12_readsFixups_325 rfl ?_
    refine lv_ladd hx hb dX12_readsFixups_326 ?_
    refine lv_aload_n hx hb dX12_readsFixups_327 rfl (lv_at hl 0 rfl) ?_
    refine gf_RX12_407 X Z dX12_readsFixups_328 ?_
    obtain ⟨r87, s86, h85, hf⟩ := bi_s hf
    refine goL Z (run_V (As := [.long (((σ.2 68 58) + (zlshr r84 (9 : Int32)))), .long (s83.2 68 55)]) (rest := []) X Z (c_X12_zero l D h cy (((σ.2 68 58) + (zlshr r84 (9 : Int32)))) (s83.2 68 55) s83 (r87, s86) h85 _) lk_RX12_410 ⟨by decide, by decide⟩ rv_68 rfl hl.1 rfl (Nat.le_of_ble_eq_true rfl) ⟨Nat.le_refl _, Nat.le_refl _⟩ dX12_readsFixups_331) (fun H locs Z => ?_)
    refine lv_ldc2 (v := (-1)) hx hb X.o (X.t _ kc_RX12_86) dX12_readsFixups_334 ?_
    refine x_lif_ne (tgt := 360) X dX12_readsFixups_337 dX12_readsFixups_338 (by decide) (fun c88 => ?_) (fun c88 => ?_)
    · have hf := itn c88 hf
      obtain ⟨v89, ev89⟩ : ∃ z : Int32, z = x6 + 1 := ⟨_, rfl⟩
      have hf := zn_e ev89 hf
      refine lv_iinc (v := v89) (lv' := [(6, .int v89), (0, .ref (h 68)), (4, .long x4)]) hx hb dX12_readsFixups_360 hl (k := 2) rfl (by rw [ev89]; rfl) (by decide) rfl (fun ls hl => ?_)
      refine lv_goto (tgt := 291) hx hb dX12_readsFixups_363 (by decide) ?_
      exact hK291 (x4, v89, s86) _ hf _ _ _ Z (lv_sub hl [1, 2, 0] rfl)
    · have hf := itp c88 hf
      refine lv_aload_n hx hb dX12_readsFixups_341 rfl (lv_at hl 0 rfl) ?_
      refine lv_bipush (v := 9) hx hb dX12_readsFixups_342 (by decide) ?_
      refine lv_aload_n hx hb dX12_readsFixups_344 rfl (lv_at hl 0 rfl) ?_
      refine gf_RX12_422 X Z dX12_readsFixups_345 ?_
      refine lv_ldc2 (v := 4) hx hb X.o (X.t _ kc_RX12_311) dX12_readsFixups_348 ?_
      refine lv_iload hx hb dX12_readsFixups_351 (lv_at hl 2 rfl) ?_
      refine lv_i2l (v := x6.toInt64) hx hb dX12_readsFixups_353 rfl ?_
      refine lv_lmul hx hb dX12_readsFixups_354 ?_
      refine lv_ladd hx hb dX12_readsFixups_355 ?_
      obtain ⟨r92, s91, h90, hf⟩ := bi_s hf
      refine goI Z (run_V (As := [.int (9 : Int32), .long (((s86.2 68 56) + ((4 : Int64) * x6.toInt64)))]) (rest := []) X Z (c_X12_bad l D h cy (9 : Int32) (((s86.2 68 56) + ((4 : Int64) * x6.toInt64))) s86 (r92, s91) h90 _) lk_RX12_321 ⟨by decide, by decide⟩ rv_68 rfl hl.1 rfl (Nat.le_of_ble_eq_true rfl) ⟨Nat.le_refl _, Nat.le_refl _⟩ dX12_readsFixups_356) (fun H locs Z => ?_)
      obtain ⟨g93, hf⟩ := gd_s hf
      exact retZ X hr hk Z g93 hf dX12_readsFixups_359

set_option maxRecDepth 100000 in
set_option maxHeartbeats 4000000 in
theorem b_X12_readsFixups_291 {p : Program} {l : Launch} {e : Env} {s : State} {m : MethodId} {args : Array Value} {below : List Frame} {meth : Method} {c : Code} {D : va_G} {h : Nat → Nat} {cy : Nat → ClassId} (X : Cx p s m args c D h cy RX12 cX12_readsFixups 10) (hr : meth.sig.returnType = some .boolean) (hk : meth.locks = false) (x4 : Int64) (x6 : Int32) (σ : St) (y : Int32 × St) (hf : f_X12_readsFixups_291 x4 x6 σ = some y) : ∀ (H : Heap) (locs : List Loc) (ls : Array Slot), Zt D h cy s σ H locs → lv_has ls 10 [(0, .ref (h 68)), (4, .long x4), (6, .int x6)] → W p l e (rmz 4 111) s m args below meth c H locs 0 0 (EI below args s D h cy y) (F0 m 291 ls []) := by
  exact it_W (F := fun K a => f_X12_readsFixups_291b K a.1 a.2.1 a.2.2) (P := fun a y => ∀ (H : Heap) (locs : List Loc) (ls : Array Slot), Zt D h cy s a.2.2 H locs → lv_has ls 10 [(0, .ref (h 68)), (4, .long a.1), (6, .int a.2.1)] → W p l e (rmz 4 111) s m args below meth c H locs 0 0 (EI below args s D h cy y) (F0 m 291 ls [])) (fun K hK a y hf => b_X12_readsFixups_291b X hr hk K hK (a.1) (a.2.1) (a.2.2) y hf) FU _ y hf

set_option maxRecDepth 100000 in
set_option maxHeartbeats 4000000 in
theorem c_X12_readsFixups (l : Launch) (D : va_G) (h : Nat → Nat) (cy : Nat → ClassId) (a1 : Int32) (σ : St) (y : Int32 × St) (hf : f_X12_readsFixups a1 σ = some y) : CI l yX12_readsFixups cX12_readsFixups 10 (some .boolean) 4 111 D h cy [.ref (h 68), .int a1] σ y := by
  refine ent (Qc := fun sz => QI D h cy sz y) (by decide) (Nat.le_of_ble_eq_true rfl) ?_
  intro p e s m below meth c ls X Z hr hk hl
  have X : Cx p s m _ c D h cy RX12 cX12_readsFixups 10 := X
  have hx := X.x
  have hb := X.b
  have hl : lv_has ls 10 [(0, .ref (h 68)), (1, .int a1)] := hl
  unfold f_X12_readsFixups at hf
  refine lv_aload_n hx hb dX12_readsFixups_0 rfl (lv_at hl 0 rfl) ?_
  refine lv_iconst (v := 0) hx hb dX12_readsFixups_1 (by decide) ?_
  refine pf_RX12_416 X Z dX12_readsFixups_2 (fun s1 H locs es1 Z => ?_)
  have hf := zn_e es1 hf
  refine lv_aload_n hx hb dX12_readsFixups_5 rfl (lv_at hl 0 rfl) ?_
  refine gf_RX12_354 X Z dX12_readsFixups_6 ?_
  refine lv_if_ne (tgt := 14) hx hb dX12_readsFixups_9 (by decide) (fun c2 => ?_) (fun c2 => ?_)
  · have hf := itn c2 hf
    refine lv_aload_n hx hb dX12_readsFixups_14 rfl (lv_at hl 0 rfl) ?_
    refine gf_RX12_404 X Z dX12_readsFixups_15 ?_
    refine lv_topl (fun v3 ev3 => ?_)
    have hf := zn_e ev3 hf
    refine lv_lstore_n (lv' := [(2, .long v3), (0, .ref (h 68)), (1, .int a1)]) hx hb dX12_readsFixups_18 rfl hl (by decide) rfl (fun ls hl => ?_)
    refine lv_aload_n hx hb dX12_readsFixups_19 rfl (lv_at hl 1 rfl) ?_
    refine gf_RX12_407 X Z dX12_readsFixups_20 ?_
    refine lv_lload_n hx hb dX12_readsFixups_23 rfl (lv_at hl 0 rfl) ?_
    refine lv_lsub hx hb dX12_readsFixups_24 ?_
    refine lv_ldc2 (v := 28) hx hb X.o (X.t _ kc_RX12_276) dX12_readsFixups_25 ?_
    refine x_lif_lt (tgt := 42) X dX12_readsFixups_28 dX12_readsFixups_29 (by decide) (fun c4 => ?_) (fun c4 => ?_)
    · have hf := itp c4 hf
      exact b_X12_readsFixups_42 X hr hk v3 s1 _ hf _ _ _ Z (lv_sub hl [1, 0] rfl)
    · have hf := itn c4 hf
      refine lv_aload_n hx hb dX12_readsFixups_32 rfl (lv_at hl 1 rfl) ?_
      refine lv_lload_n hx hb dX12_readsFixups_33 rfl (lv_at hl 0 rfl) ?_
      obtain ⟨r11, s10, h9, hf⟩ := bi_s hf
      refine goL Z (run_V (As := [.long v3]) (rest := []) X Z (c_X12_four l D h cy v3 s1 (r11, s10) h9 _) lk_RX12_307 ⟨by decide, by decide⟩ rv_68 rfl hl.1 rfl (Nat.le_of_ble_eq_true rfl) ⟨Nat.le_refl _, Nat.le_refl _⟩ dX12_readsFixups_34) (fun H locs Z => ?_)
      refine lv_lconst (v := 0) hx hb dX12_readsFixups_37 (by decide) ?_
      refine x_lif_eq (tgt := 50) X dX12_readsFixups_38 dX12_readsFixups_39 (by decide) (fun c12 => ?_) (fun c12 => ?_)
      · have hf := itp c12 hf
        refine lv_aload_n hx hb dX12_readsFixups_50 rfl (lv_at hl 1 rfl) ?_
        refine lv_lload_n hx hb dX12_readsFixups_51 rfl (lv_at hl 0 rfl) ?_
        refine lv_ldc2 (v := 20) hx hb X.o (X.t _ kc_RX12_359) dX12_readsFixups_52 ?_
        refine lv_ladd hx hb dX12_readsFixups_55 ?_
        obtain ⟨r15, s14, h13, hf⟩ := bi_s hf
        refine goL Z (run_V (As := [.long ((v3 + (20 : Int64)))]) (rest := []) X Z (c_X12_four l D h cy ((v3 + (20 : Int64))) s10 (r15, s14) h13 _) lk_RX12_307 ⟨by decide, by decide⟩ rv_68 rfl hl.1 rfl (Nat.le_of_ble_eq_true rfl) ⟨Nat.le_refl _, Nat.le_refl _⟩ dX12_readsFixups_56) (fun H locs Z => ?_)
        refine lv_lconst (v := 1) hx hb dX12_readsFixups_59 (by decide) ?_
        refine x_lif_eq (tgt := 76) X dX12_readsFixups_60 dX12_readsFixups_61 (by decide) (fun c16 => ?_) (fun c16 => ?_)
        · have hf := itp c16 hf
          refine lv_aload_n hx hb dX12_readsFixups_76 rfl (lv_at hl 1 rfl) ?_
          refine lv_lload_n hx hb dX12_readsFixups_77 rfl (lv_at hl 0 rfl) ?_
          refine lv_ldc2 (v := 24) hx hb X.o (X.t _ kc_RX12_294) dX12_readsFixups_78 ?_
          refine lv_ladd hx hb dX12_readsFixups_81 ?_
          obtain ⟨r19, s18, h17, hf⟩ := bi_s hf
          refine goL Z (run_V (As := [.long ((v3 + (24 : Int64)))]) (rest := []) X Z (c_X12_four l D h cy ((v3 + (24 : Int64))) s14 (r19, s18) h17 _) lk_RX12_307 ⟨by decide, by decide⟩ rv_68 rfl hl.1 rfl (Nat.le_of_ble_eq_true rfl) ⟨Nat.le_refl _, Nat.le_refl _⟩ dX12_readsFixups_82) (fun H locs Z => ?_)
          refine lv_lconst (v := 0) hx hb dX12_readsFixups_85 (by decide) ?_
          refine x_lif_eq (tgt := 102) X dX12_readsFixups_86 dX12_readsFixups_87 (by decide) (fun c20 => ?_) (fun c20 => ?_)
          · have hf := itp c20 hf
            refine lv_lload_n hx hb dX12_readsFixups_102 rfl (lv_at hl 0 rfl) ?_
            refine lv_aload_n hx hb dX12_readsFixups_103 rfl (lv_at hl 1 rfl) ?_
            refine lv_lload_n hx hb dX12_readsFixups_104 rfl (lv_at hl 0 rfl) ?_
            refine lv_ldc2 (v := 4) hx hb X.o (X.t _ kc_RX12_311) dX12_readsFixups_105 ?_
            refine lv_ladd hx hb dX12_readsFixups_108 ?_
            obtain ⟨r23, s22, h21, hf⟩ := bi_s hf
            refine goL Z (run_V (As := [.long ((v3 + (4 : Int64)))]) (rest := [.long v3]) X Z (c_X12_four l D h cy ((v3 + (4 : Int64))) s18 (r23, s22) h21 _) lk_RX12_307 ⟨by decide, by decide⟩ rv_68 rfl hl.1 rfl (Nat.le_of_ble_eq_true rfl) ⟨Nat.le_refl _, Nat.le_refl _⟩ dX12_readsFixups_109) (fun H locs Z => ?_)
            refine lv_ladd hx hb dX12_readsFixups_112 ?_
            refine lv_topl (fun v24 ev24 => ?_)
            have hf := zn_e ev24 hf
            refine lv_lstore (lv' := [(4, .long v24), (2, .long v3), (0, .ref (h 68)), (1, .int a1)]) hx hb dX12_readsFixups_113 hl (by decide) rfl (fun ls hl => ?_)
            refine lv_aload_n hx hb dX12_readsFixups_115 rfl (lv_at hl 2 rfl) ?_
            refine gf_RX12_407 X Z dX12_readsFixups_116 ?_
            refine lv_lload hx hb dX12_readsFixups_119 (lv_at hl 0 rfl) ?_
            refine lv_lsub hx hb dX12_readsFixups_121 ?_
            refine lv_ldc2 (v := 4) hx hb X.o (X.t _ kc_RX12_311) dX12_readsFixups_122 ?_
            refine x_lif_ge (tgt := 141) X dX12_readsFixups_125 dX12_readsFixups_126 (by decide) (fun c25 => ?_) (fun c25 => ?_)
            · have hf := itp c25 hf
              refine lv_aload_n hx hb dX12_readsFixups_141 rfl (lv_at hl 2 rfl) ?_
              refine lv_lload hx hb dX12_readsFixups_142 (lv_at hl 0 rfl) ?_
              obtain ⟨r28, s27, h26, hf⟩ := bi_s hf
              refine goL Z (run_V (As := [.long v24]) (rest := []) X Z (c_X12_four l D h cy v24 s22 (r28, s27) h26 _) lk_RX12_307 ⟨by decide, by decide⟩ rv_68 rfl hl.1 rfl (Nat.le_of_ble_eq_true rfl) ⟨Nat.le_refl _, Nat.le_refl _⟩ dX12_readsFixups_144) (fun H locs Z => ?_)
              refine lv_aload_n hx hb dX12_readsFixups_147 rfl (lv_at hl 2 rfl) ?_
              refine gf_RX12_341 X Z dX12_readsFixups_148 ?_
              refine lv_i2l (v := (s27.1 68 41).toInt64) hx hb dX12_readsFixups_151 rfl ?_
              refine x_lif_ne (tgt := 180) X dX12_readsFixups_152 dX12_readsFixups_153 (by decide) (fun c29 => ?_) (fun c29 => ?_)
              · have hf := itn c29 hf
                exact b_X12_readsFixups_180 X hr hk v24 s27 _ hf _ _ _ Z (lv_sub hl [2, 0] rfl)
              · have hf := itp c29 hf
                refine lv_aload_n hx hb dX12_readsFixups_156 rfl (lv_at hl 2 rfl) ?_
                refine gf_RX12_407 X Z dX12_readsFixups_157 ?_
                refine lv_lload hx hb dX12_readsFixups_160 (lv_at hl 0 rfl) ?_
                refine lv_lsub hx hb dX12_readsFixups_162 ?_
                refine lv_ldc2 (v := 4) hx hb X.o (X.t _ kc_RX12_311) dX12_readsFixups_163 ?_
                refine lv_ldc2 (v := 4) hx hb X.o (X.t _ kc_RX12_311) dX12_readsFixups_166 ?_
                refine lv_aload_n hx hb dX12_readsFixups_169 rfl (lv_at hl 2 rfl) ?_
                refine gf_RX12_341 X Z dX12_readsFixups_170 ?_
                refine lv_i2l (v := (s27.1 68 41).toInt64) hx hb dX12_readsFixups_173 rfl ?_
                refine lv_lmul hx hb dX12_readsFixups_174 ?_
                refine lv_ladd hx hb dX12_readsFixups_175 ?_
                refine x_lif_ge (tgt := 189) X dX12_readsFixups_176 dX12_readsFixups_177 (by decide) (fun c34 => ?_) (fun c34 => ?_)
                · have hf := itp c34 hf
                  refine lv_aload_n hx hb dX12_readsFixups_189 rfl (lv_at hl 2 rfl) ?_
                  refine lv_aload_n hx hb dX12_readsFixups_190 rfl (lv_at hl 2 rfl) ?_
                  refine lv_lload_n hx hb dX12_readsFixups_191 rfl (lv_at hl 1 rfl) ?_
                  refine lv_ldc2 (v := 16) hx hb X.o (X.t _ kc_RX12_298) dX12_readsFixups_192 ?_
                  refine lv_ladd hx hb dX12_readsFixups_195 ?_
                  obtain ⟨r37, s36, h35, hf⟩ := bi_s hf
                  refine goL Z (run_V (As := [.long ((v3 + (16 : Int64)))]) (rest := [.ref (h 68)]) X Z (c_X12_four l D h cy ((v3 + (16 : Int64))) s27 (r37, s36) h35 _) lk_RX12_307 ⟨by decide, by decide⟩ rv_68 rfl hl.1 rfl (Nat.le_of_ble_eq_true rfl) ⟨Nat.le_refl _, Nat.le_refl _⟩ dX12_readsFixups_196) (fun H locs Z => ?_)
                  refine pf_RX12_419 X Z dX12_readsFixups_199 (fun s38 H locs es38 Z => ?_)
                  have hf := zn_e es38 hf
                  refine lv_aload_n hx hb dX12_readsFixups_202 rfl (lv_at hl 2 rfl) ?_
                  refine lv_lload_n hx hb dX12_readsFixups_203 rfl (lv_at hl 1 rfl) ?_
                  refine lv_aload_n hx hb dX12_readsFixups_204 rfl (lv_at hl 2 rfl) ?_
                  refine lv_lload_n hx hb dX12_readsFixups_205 rfl (lv_at hl 1 rfl) ?_
                  refine lv_ldc2 (v := 8) hx hb X.o (X.t _ kc_RX12_361) dX12_readsFixups_206 ?_
                  refine lv_ladd hx hb dX12_readsFixups_209 ?_
                  obtain ⟨r41, s40, h39, hf⟩ := bi_s hf
                  refine goL Z (run_V (As := [.long ((v3 + (8 : Int64)))]) (rest := [.long v3, .ref (h 68)]) X Z (c_X12_four l D h cy ((v3 + (8 : Int64))) s38 (r41, s40) h39 _) lk_RX12_307 ⟨by decide, by decide⟩ rv_68 rfl hl.1 rfl (Nat.le_of_ble_eq_true rfl) ⟨Nat.le_refl _, Nat.le_refl _⟩ dX12_readsFixups_210) (fun H locs Z => ?_)
                  refine lv_ladd hx hb dX12_readsFixups_213 ?_
                  refine pf_RX12_422 X Z dX12_readsFixups_214 (fun s42 H locs es42 Z => ?_)
                  have hf := zn_e es42 hf
                  refine lv_aload_n hx hb dX12_readsFixups_217 rfl (lv_at hl 2 rfl) ?_
                  refine lv_lload_n hx hb dX12_readsFixups_218 rfl (lv_at hl 1 rfl) ?_
                  refine lv_aload_n hx hb dX12_readsFixups_219 rfl (lv_at hl 2 rfl) ?_
                  refine lv_lload_n hx hb dX12_readsFixups_220 rfl (lv_at hl 1 rfl) ?_
                  refine lv_ldc2 (v := 12) hx hb X.o (X.t _ kc_RX12_393) dX12_readsFixups_221 ?_
                  refine lv_ladd hx hb dX12_readsFixups_224 ?_
                  obtain ⟨r45, s44, h43, hf⟩ := bi_s hf
                  refine goL Z (run_V (As := [.long ((v3 + (12 : Int64)))]) (rest := [.long v3, .ref (h 68)]) X Z (c_X12_four l D h cy ((v3 + (12 : Int64))) s42 (r45, s44) h43 _) lk_RX12_307 ⟨by decide, by decide⟩ rv_68 rfl hl.1 rfl (Nat.le_of_ble_eq_true rfl) ⟨Nat.le_refl _, Nat.le_refl _⟩ dX12_readsFixups_225) (fun H locs Z => ?_)
                  refine lv_ladd hx hb dX12_readsFixups_228 ?_
                  refine pf_RX12_425 X Z dX12_readsFixups_229 (fun s46 H locs es46 Z => ?_)
                  have hf := zn_e es46 hf
                  refine lv_aload_n hx hb dX12_readsFixups_232 rfl (lv_at hl 2 rfl) ?_
                  refine gf_RX12_419 X Z dX12_readsFixups_233 ?_
                  refine lv_ldc2 (v := 64) hx hb X.o (X.t _ kc_RX12_379) dX12_readsFixups_236 ?_
                  refine x_lif_le (tgt := 255) X dX12_readsFixups_239 dX12_readsFixups_240 (by decide) (fun c47 => ?_) (fun c47 => ?_)
                  · have hf := itp c47 hf
                    refine lv_aload_n hx hb dX12_readsFixups_255 rfl (lv_at hl 2 rfl) ?_
                    refine gf_RX12_422 X Z dX12_readsFixups_256 ?_
                    refine lv_ldc2 (v := 4) hx hb X.o (X.t _ kc_RX12_311) dX12_readsFixups_259 ?_
                    refine lv_aload_n hx hb dX12_readsFixups_262 rfl (lv_at hl 2 rfl) ?_
                    refine gf_RX12_419 X Z dX12_readsFixups_263 ?_
                    refine lv_lmul hx hb dX12_readsFixups_266 ?_
                    refine lv_ladd hx hb dX12_readsFixups_267 ?_
                    refine lv_aload_n hx hb dX12_readsFixups_268 rfl (lv_at hl 2 rfl) ?_
                    refine gf_RX12_407 X Z dX12_readsFixups_269 ?_
                    refine x_lif_le (tgt := 288) X dX12_readsFixups_272 dX12_readsFixups_273 (by decide) (fun c48 => ?_) (fun c48 => ?_)
                    · have hf := itp c48 hf
                      refine lv_iconst (v := 0) hx hb dX12_readsFixups_288 (by decide) ?_
                      refine lv_topi (fun v49 ev49 => ?_)
                      have hf := zn_e ev49 hf
                      refine lv_istore (lv' := [(6, .int v49), (4, .long v24), (2, .long v3), (0, .ref (h 68)), (1, .int a1)]) hx hb dX12_readsFixups_289 hl (by decide) rfl (fun ls hl => ?_)
                      exact b_X12_readsFixups_291 X hr hk v24 v49 s46 _ hf _ _ _ Z (lv_sub hl [3, 1, 0] rfl)
                    · have hf := itn c48 hf
                      refine lv_aload_n hx hb dX12_readsFixups_276 rfl (lv_at hl 2 rfl) ?_
                      refine lv_bipush (v := 9) hx hb dX12_readsFixups_277 (by decide) ?_
                      refine lv_lload_n hx hb dX12_readsFixups_279 rfl (lv_at hl 1 rfl) ?_
                      refine lv_ldc2 (v := 8) hx hb X.o (X.t _ kc_RX12_361) dX12_readsFixups_280 ?_
                      refine lv_ladd hx hb dX12_readsFixups_283 ?_
                      obtain ⟨r96, s95, h94, hf⟩ := bi_s hf
                      refine goI Z (run_V (As := [.int (9 : Int32), .long ((v3 + (8 : Int64)))]) (rest := []) X Z (c_X12_bad l D h cy (9 : Int32) ((v3 + (8 : Int64))) s46 (r96, s95) h94 _) lk_RX12_321 ⟨by decide, by decide⟩ rv_68 rfl hl.1 rfl (Nat.le_of_ble_eq_true rfl) ⟨Nat.le_refl _, Nat.le_refl _⟩ dX12_readsFixups_284) (fun H locs Z => ?_)
                      obtain ⟨g97, hf⟩ := gd_s hf
                      exact retZ X hr hk Z g97 hf dX12_readsFixups_287
                  · have hf := itn c47 hf
                    refine lv_aload_n hx hb dX12_readsFixups_243 rfl (lv_at hl 2 rfl) ?_
                    refine lv_bipush (v := 9) hx hb dX12_readsFixups_244 (by decide) ?_
                    refine lv_lload_n hx hb dX12_readsFixups_246 rfl (lv_at hl 1 rfl) ?_
                    refine lv_ldc2 (v := 16) hx hb X.o (X.t _ kc_RX12_298) dX12_readsFixups_247 ?_
                    refine lv_ladd hx hb dX12_readsFixups_250 ?_
                    obtain ⟨r100, s99, h98, hf⟩ := bi_s hf
                    refine goI Z (run_V (As := [.int (9 : Int32), .long ((v3 + (16 : Int64)))]) (rest := []) X Z (c_X12_bad l D h cy (9 : Int32) ((v3 + (16 : Int64))) s46 (r100, s99) h98 _) lk_RX12_321 ⟨by decide, by decide⟩ rv_68 rfl hl.1 rfl (Nat.le_of_ble_eq_true rfl) ⟨Nat.le_refl _, Nat.le_refl _⟩ dX12_readsFixups_251) (fun H locs Z => ?_)
                    obtain ⟨g101, hf⟩ := gd_s hf
                    exact retZ X hr hk Z g101 hf dX12_readsFixups_254
                · have hf := itn c34 hf
                  exact b_X12_readsFixups_180 X hr hk v24 s27 _ hf _ _ _ Z (lv_sub hl [2, 0] rfl)
            · have hf := itn c25 hf
              refine lv_aload_n hx hb dX12_readsFixups_129 rfl (lv_at hl 2 rfl) ?_
              refine lv_bipush (v := 9) hx hb dX12_readsFixups_130 (by decide) ?_
              refine lv_lload_n hx hb dX12_readsFixups_132 rfl (lv_at hl 1 rfl) ?_
              refine lv_ldc2 (v := 4) hx hb X.o (X.t _ kc_RX12_311) dX12_readsFixups_133 ?_
              refine lv_ladd hx hb dX12_readsFixups_136 ?_
              obtain ⟨r104, s103, h102, hf⟩ := bi_s hf
              refine goI Z (run_V (As := [.int (9 : Int32), .long ((v3 + (4 : Int64)))]) (rest := []) X Z (c_X12_bad l D h cy (9 : Int32) ((v3 + (4 : Int64))) s22 (r104, s103) h102 _) lk_RX12_321 ⟨by decide, by decide⟩ rv_68 rfl hl.1 rfl (Nat.le_of_ble_eq_true rfl) ⟨Nat.le_refl _, Nat.le_refl _⟩ dX12_readsFixups_137) (fun H locs Z => ?_)
              obtain ⟨g105, hf⟩ := gd_s hf
              exact retZ X hr hk Z g105 hf dX12_readsFixups_140
          · have hf := itn c20 hf
            refine lv_aload_n hx hb dX12_readsFixups_90 rfl (lv_at hl 1 rfl) ?_
            refine lv_bipush (v := 9) hx hb dX12_readsFixups_91 (by decide) ?_
            refine lv_lload_n hx hb dX12_readsFixups_93 rfl (lv_at hl 0 rfl) ?_
            refine lv_ldc2 (v := 24) hx hb X.o (X.t _ kc_RX12_294) dX12_readsFixups_94 ?_
            refine lv_ladd hx hb dX12_readsFixups_97 ?_
            obtain ⟨r108, s107, h106, hf⟩ := bi_s hf
            refine goI Z (run_V (As := [.int (9 : Int32), .long ((v3 + (24 : Int64)))]) (rest := []) X Z (c_X12_bad l D h cy (9 : Int32) ((v3 + (24 : Int64))) s18 (r108, s107) h106 _) lk_RX12_321 ⟨by decide, by decide⟩ rv_68 rfl hl.1 rfl (Nat.le_of_ble_eq_true rfl) ⟨Nat.le_refl _, Nat.le_refl _⟩ dX12_readsFixups_98) (fun H locs Z => ?_)
            obtain ⟨g109, hf⟩ := gd_s hf
            exact retZ X hr hk Z g109 hf dX12_readsFixups_101
        · have hf := itn c16 hf
          refine lv_aload_n hx hb dX12_readsFixups_64 rfl (lv_at hl 1 rfl) ?_
          refine lv_bipush (v := 9) hx hb dX12_readsFixups_65 (by decide) ?_
          refine lv_lload_n hx hb dX12_readsFixups_67 rfl (lv_at hl 0 rfl) ?_
          refine lv_ldc2 (v := 20) hx hb X.o (X.t _ kc_RX12_359) dX12_readsFixups_68 ?_
          refine lv_ladd hx hb dX12_readsFixups_71 ?_
          obtain ⟨r112, s111, h110, hf⟩ := bi_s hf
          refine goI Z (run_V (As := [.int (9 : Int32), .long ((v3 + (20 : Int64)))]) (rest := []) X Z (c_X12_bad l D h cy (9 : Int32) ((v3 + (20 : Int64))) s14 (r112, s111) h110 _) lk_RX12_321 ⟨by decide, by decide⟩ rv_68 rfl hl.1 rfl (Nat.le_of_ble_eq_true rfl) ⟨Nat.le_refl _, Nat.le_refl _⟩ dX12_readsFixups_72) (fun H locs Z => ?_)
          obtain ⟨g113, hf⟩ := gd_s hf
          exact retZ X hr hk Z g113 hf dX12_readsFixups_75
      · have hf := itn c12 hf
        exact b_X12_readsFixups_42 X hr hk v3 s10 _ hf _ _ _ Z (lv_sub hl [1, 0] rfl)
  · have hf := itp c2 hf
    refine lv_iconst (v := 1) hx hb dX12_readsFixups_12 (by decide) ?_
    exact retZ X hr hk Z (by decide) hf dX12_readsFixups_13

set_option maxRecDepth 100000 in
set_option maxHeartbeats 4000000 in
theorem b_X12_fits_68 {p : Program} {l : Launch} {e : Env} {s : State} {m : MethodId} {args : Array Value} {below : List Frame} {meth : Method} {c : Code} {D : va_G} {h : Nat → Nat} {cy : Nat → ClassId} (X : Cx p s m args c D h cy RX12 cX12_fits 3) (hr : meth.sig.returnType = some .boolean) (hk : meth.locks = false) (K2 : (Int32 × Int32 × St) → Option (Int32 × St)) (hK2 : ∀ (a : Int32 × Int32 × St) (y : Int32 × St), K2 a = some y → ∀ (H : Heap) (locs : List Loc) (ls : Array Slot), Zt D h cy s a.2.2 H locs → lv_has ls 3 [(0, .ref (h 68)), (1, .int a.1), (2, .int a.2.1)] → W p l e (rmz 1 23) s m args below meth c H locs 0 0 (EI below args s D h cy y) (F0 m 2 ls [])) (x1 : Int32) (x2 : Int32) (σ : St) (y : Int32 × St) (hf : f_X12_fits_68 K2 x1 x2 σ = some y) : ∀ (H : Heap) (locs : List Loc) (ls : Array Slot), Zt D h cy s σ H locs → lv_has ls 3 [(0, .ref (h 68)), (1, .int x1), (2, .int x2)] → W p l e (rmz 1 23) s m args below meth c H locs 0 0 (EI below args s D h cy y) (F0 m 68 ls []) := by
  intro H locs ls Z hl
  have hx := X.x
  have hb := X.b
  unfold f_X12_fits_68 at hf
  obtain ⟨v5, ev5⟩ : ∃ z : Int32, z = x2 + 1 := ⟨_, rfl⟩
  have hf := zn_e ev5 hf
  refine lv_iinc (v := v5) (lv' := [(2, .int v5), (0, .ref (h 68)), (1, .int x1)]) hx hb dX12_fits_68 hl (k := 2) rfl (by rw [ev5]; rfl) (by decide) rfl (fun ls hl => ?_)
  refine lv_goto (tgt := 2) hx hb dX12_fits_71 (by decide) ?_
  exact hK2 (x1, v5, σ) _ hf _ _ _ Z (lv_sub hl [1, 2, 0] rfl)

set_option maxRecDepth 100000 in
set_option maxHeartbeats 4000000 in
theorem b_X12_fits_60 {p : Program} {l : Launch} {e : Env} {s : State} {m : MethodId} {args : Array Value} {below : List Frame} {meth : Method} {c : Code} {D : va_G} {h : Nat → Nat} {cy : Nat → ClassId} (X : Cx p s m args c D h cy RX12 cX12_fits 3) (hr : meth.sig.returnType = some .boolean) (hk : meth.locks = false) (σ : St) (y : Int32 × St) (hf : f_X12_fits_60 σ = some y) : ∀ (H : Heap) (locs : List Loc) (ls : Array Slot), Zt D h cy s σ H locs → lv_has ls 3 [(0, .ref (h 68))] → W p l e (rmz 1 23) s m args below meth c H locs 0 0 (EI below args s D h cy y) (F0 m 60 ls []) := by
  intro H locs ls Z hl
  have hx := X.x
  have hb := X.b
  unfold f_X12_fits_60 at hf
  refine lv_aload_n hx hb dX12_fits_60 rfl (lv_at hl 0 rfl) ?_
  refine lv_bipush (v := 13) hx hb dX12_fits_61 (by decide) ?_
  refine lv_lconst (v := 0) hx hb dX12_fits_63 (by decide) ?_
  obtain ⟨r10, s9, h8, hf⟩ := bi_s hf
  refine goI Z (run_V (As := [.int (13 : Int32), .long (0 : Int64)]) (rest := []) X Z (c_X12_bad l D h cy (13 : Int32) (0 : Int64) σ (r10, s9) h8 _) lk_RX12_321 ⟨by decide, by decide⟩ rv_68 rfl hl.1 rfl (Nat.le_of_ble_eq_true rfl) ⟨Nat.le_refl _, Nat.le_refl _⟩ dX12_fits_64) (fun H locs Z => ?_)
  obtain ⟨g11, hf⟩ := gd_s hf
  exact retZ X hr hk Z g11 hf dX12_fits_67

set_option maxRecDepth 100000 in
set_option maxHeartbeats 4000000 in
theorem b_X12_fits_2b {p : Program} {l : Launch} {e : Env} {s : State} {m : MethodId} {args : Array Value} {below : List Frame} {meth : Method} {c : Code} {D : va_G} {h : Nat → Nat} {cy : Nat → ClassId} (X : Cx p s m args c D h cy RX12 cX12_fits 3) (hr : meth.sig.returnType = some .boolean) (hk : meth.locks = false) (K2 : (Int32 × Int32 × St) → Option (Int32 × St)) (hK2 : ∀ (a : Int32 × Int32 × St) (y : Int32 × St), K2 a = some y → ∀ (H : Heap) (locs : List Loc) (ls : Array Slot), Zt D h cy s a.2.2 H locs → lv_has ls 3 [(0, .ref (h 68)), (1, .int a.1), (2, .int a.2.1)] → W p l e (rmz 1 23) s m args below meth c H locs 0 0 (EI below args s D h cy y) (F0 m 2 ls [])) (x1 : Int32) (x2 : Int32) (σ : St) (y : Int32 × St) (hf : f_X12_fits_2b K2 x1 x2 σ = some y) : ∀ (H : Heap) (locs : List Loc) (ls : Array Slot), Zt D h cy s σ H locs → lv_has ls 3 [(0, .ref (h 68)), (1, .int x1), (2, .int x2)] → W p l e (rmz 1 23) s m args below meth c H locs 0 0 (EI below args s D h cy y) (F0 m 2 ls []) := by
  intro H locs ls Z hl
  have hx := X.x
  have hb := X.b
  unfold f_X12_fits_2b at hf
  refine lv_iload_n hx hb dX12_fits_2 rfl (lv_at hl 2 rfl) ?_
  refine lv_aload_n hx hb dX12_fits_3 rfl (lv_at hl 0 rfl) ?_
  refine gf_RX12_341 X Z dX12_fits_4 ?_
  refine lv_icmp_ge (tgt := 74) hx hb dX12_fits_7 (by decide) (fun c2 => ?_) (fun c2 => ?_)
  · have hf := itp c2 hf
    refine lv_iconst (v := 1) hx hb dX12_fits_74 (by decide) ?_
    exact retZ X hr hk Z (by decide) hf dX12_fits_75
  · have hf := itn c2 hf
    refine lv_aload_n hx hb dX12_fits_10 rfl (lv_at hl 0 rfl) ?_
    refine gf_RX12_95 X Z dX12_fits_11 ?_
    refine lv_iload_n hx hb dX12_fits_14 rfl (lv_at hl 2 rfl) ?_
    obtain ⟨g3, hf⟩ := gd_s hf
    refine x_lald (k := 92) X Z sh_92 g3 dX12_fits_15 ?_
    refine lv_lconst (v := 0) hx hb dX12_fits_16 (by decide) ?_
    refine x_lif_le (tgt := 68) X dX12_fits_17 dX12_fits_18 (by decide) (fun c4 => ?_) (fun c4 => ?_)
    · have hf := itp c4 hf
      exact b_X12_fits_68 X hr hk K2 hK2 x1 x2 σ _ hf _ _ _ Z (lv_sub hl [0, 1, 2] rfl)
    · have hf := itn c4 hf
      refine lv_aload_n hx hb dX12_fits_21 rfl (lv_at hl 0 rfl) ?_
      refine gf_RX12_92 X Z dX12_fits_22 ?_
      refine lv_iload_n hx hb dX12_fits_25 rfl (lv_at hl 2 rfl) ?_
      obtain ⟨g6, hf⟩ := gd_s hf
      refine x_lald (k := 91) X Z sh_91 g6 dX12_fits_26 ?_
      refine lv_iload_n hx hb dX12_fits_27 rfl (lv_at hl 1 rfl) ?_
      refine lv_i2l (v := x1.toInt64) hx hb dX12_fits_28 rfl ?_
      refine lv_ladd hx hb dX12_fits_29 ?_
      refine lv_lconst (v := 0) hx hb dX12_fits_30 (by decide) ?_
      refine x_lif_lt (tgt := 60) X dX12_fits_31 dX12_fits_32 (by decide) (fun c7 => ?_) (fun c7 => ?_)
      · have hf := itp c7 hf
        exact b_X12_fits_60 X hr hk σ _ hf _ _ _ Z (lv_sub hl [0] rfl)
      · have hf := itn c7 hf
        refine lv_aload_n hx hb dX12_fits_35 rfl (lv_at hl 0 rfl) ?_
        refine gf_RX12_92 X Z dX12_fits_36 ?_
        refine lv_iload_n hx hb dX12_fits_39 rfl (lv_at hl 2 rfl) ?_
        obtain ⟨g12, hf⟩ := gd_s hf
        refine x_lald (k := 91) X Z sh_91 g12 dX12_fits_40 ?_
        refine lv_iload_n hx hb dX12_fits_41 rfl (lv_at hl 1 rfl) ?_
        refine lv_i2l (v := x1.toInt64) hx hb dX12_fits_42 rfl ?_
        refine lv_ladd hx hb dX12_fits_43 ?_
        refine lv_aload_n hx hb dX12_fits_44 rfl (lv_at hl 0 rfl) ?_
        refine gf_RX12_95 X Z dX12_fits_45 ?_
        refine lv_iload_n hx hb dX12_fits_48 rfl (lv_at hl 2 rfl) ?_
        obtain ⟨g13, hf⟩ := gd_s hf
        refine x_lald (k := 92) X Z sh_92 g13 dX12_fits_49 ?_
        refine lv_ladd hx hb dX12_fits_50 ?_
        refine lv_lconst (v := 1) hx hb dX12_fits_51 (by decide) ?_
        refine lv_lsub hx hb dX12_fits_52 ?_
        refine lv_ldc2 (v := 2147483647) hx hb X.o (X.t _ kc_RX12_319) dX12_fits_53 ?_
        refine x_lif_le (tgt := 68) X dX12_fits_56 dX12_fits_57 (by decide) (fun c14 => ?_) (fun c14 => ?_)
        · have hf := itp c14 hf
          exact b_X12_fits_68 X hr hk K2 hK2 x1 x2 σ _ hf _ _ _ Z (lv_sub hl [0, 1, 2] rfl)
        · have hf := itn c14 hf
          exact b_X12_fits_60 X hr hk σ _ hf _ _ _ Z (lv_sub hl [0] rfl)

set_option maxRecDepth 100000 in
set_option maxHeartbeats 4000000 in
theorem b_X12_fits_2 {p : Program} {l : Launch} {e : Env} {s : State} {m : MethodId} {args : Array Value} {below : List Frame} {meth : Method} {c : Code} {D : va_G} {h : Nat → Nat} {cy : Nat → ClassId} (X : Cx p s m args c D h cy RX12 cX12_fits 3) (hr : meth.sig.returnType = some .boolean) (hk : meth.locks = false) (x1 : Int32) (x2 : Int32) (σ : St) (y : Int32 × St) (hf : f_X12_fits_2 x1 x2 σ = some y) : ∀ (H : Heap) (locs : List Loc) (ls : Array Slot), Zt D h cy s σ H locs → lv_has ls 3 [(0, .ref (h 68)), (1, .int x1), (2, .int x2)] → W p l e (rmz 1 23) s m args below meth c H locs 0 0 (EI below args s D h cy y) (F0 m 2 ls []) := by
  exact it_W (F := fun K a => f_X12_fits_2b K a.1 a.2.1 a.2.2) (P := fun a y => ∀ (H : Heap) (locs : List Loc) (ls : Array Slot), Zt D h cy s a.2.2 H locs → lv_has ls 3 [(0, .ref (h 68)), (1, .int a.1), (2, .int a.2.1)] → W p l e (rmz 1 23) s m args below meth c H locs 0 0 (EI below args s D h cy y) (F0 m 2 ls [])) (fun K hK a y hf => b_X12_fits_2b X hr hk K hK (a.1) (a.2.1) (a.2.2) y hf) FU _ y hf

set_option maxRecDepth 100000 in
set_option maxHeartbeats 4000000 in
theorem c_X12_fits (l : Launch) (D : va_G) (h : Nat → Nat) (cy : Nat → ClassId) (a1 : Int32) (σ : St) (y : Int32 × St) (hf : f_X12_fits a1 σ = some y) : CI l yX12_fits cX12_fits 3 (some .boolean) 1 23 D h cy [.ref (h 68), .int a1] σ y := by
  refine ent (Qc := fun sz => QI D h cy sz y) (by decide) (Nat.le_of_ble_eq_true rfl) ?_
  intro p e s m below meth c ls X Z hr hk hl
  have X : Cx p s m _ c D h cy RX12 cX12_fits 3 := X
  have hx := X.x
  have hb := X.b
  have hl : lv_has ls 3 [(0, .ref (h 68)), (1, .int a1)] := hl
  unfold f_X12_fits at hf
  refine lv_iconst (v := 0) hx hb dX12_fits_0 (by decide) ?_
  refine lv_topi (fun v1 ev1 => ?_)
  have hf := zn_e ev1 hf
  refine lv_istore_n (lv' := [(2, .int v1), (0, .ref (h 68)), (1, .int a1)]) hx hb dX12_fits_1 rfl hl (by decide) rfl (fun ls hl => ?_)
  exact b_X12_fits_2 X hr hk a1 v1 σ _ hf _ _ _ Z (lv_sub hl [1, 2, 0] rfl)

set_option maxRecDepth 100000 in
set_option maxHeartbeats 4000000 in
theorem b_X12_keeps_436b {p : Program} {l : Launch} {e : Env} {s : State} {m : MethodId} {args : Array Value} {below : List Frame} {meth : Method} {c : Code} {D : va_G} {h : Nat → Nat} {cy : Nat → ClassId} (X : Cx p s m args c D h cy RX12 cX12_keeps 10) (hr : meth.sig.returnType = none) (hk : meth.locks = false) (K436 : (Int32 × Int32 × St) → Option (St)) (hK436 : ∀ (a : Int32 × Int32 × St) (y : St), K436 a = some y → ∀ (H : Heap) (locs : List Loc) (ls : Array Slot), Zt D h cy s a.2.2 H locs → lv_has ls 10 [(0, .ref (h 68)), (1, .int a.1), (3, .int a.2.1)] → W p l e (rmz 3 76) s m args below meth c H locs 0 0 (EV below args s D h cy y) (F0 m 436 ls [])) (x1 : Int32) (x3 : Int32) (σ : St) (y : St) (hf : f_X12_keeps_436b K436 x1 x3 σ = some y) : ∀ (H : Heap) (locs : List Loc) (ls : Array Slot), Zt D h cy s σ H locs → lv_has ls 10 [(0, .ref (h 68)), (1, .int x1), (3, .int x3)] → W p l e (rmz 3 76) s m args below meth c H locs 0 0 (EV below args s D h cy y) (F0 m 436 ls []) := by
  intro H locs ls Z hl
  have hx := X.x
  have hb := X.b
  unfold f_X12_keeps_436b at hf
  refine lv_iload_n hx hb dX12_keeps_436 rfl (lv_at hl 2 rfl) ?_
  refine lv_aload_n hx hb dX12_keeps_437 rfl (lv_at hl 0 rfl) ?_
  refine gf_RX12_477 X Z dX12_keeps_438 ?_
  refine lv_icmp_ge (tgt := 534) hx hb dX12_keeps_441 (by decide) (fun c13 => ?_) (fun c13 => ?_)
  · have hf := itp c13 hf
    exact retV X hr hk Z hf dX12_keeps_534
  · have hf := itn c13 hf
    refine lv_aload_n hx hb dX12_keeps_444 rfl (lv_at hl 0 rfl) ?_
    refine gf_RX12_390 X Z dX12_keeps_445 ?_
    refine lv_ldc2 (v := 16) hx hb X.o (X.t _ kc_RX12_298) dX12_keeps_448 ?_
    refine lv_iload_n hx hb dX12_keeps_451 rfl (lv_at hl 2 rfl) ?_
    refine lv_i2l (v := x3.toInt64) hx hb dX12_keeps_452 rfl ?_
    refine lv_lmul hx hb dX12_keeps_453 ?_
    refine lv_ladd hx hb dX12_keeps_454 ?_
    refine lv_topl (fun v14 ev14 => ?_)
    have hf := zn_e ev14 hf
    refine lv_lstore (lv' := [(4, .long v14), (0, .ref (h 68)), (1, .int x1), (3, .int x3)]) hx hb dX12_keeps_455 hl (by decide) rfl (fun ls hl => ?_)
    refine lv_aload_n hx hb dX12_keeps_457 rfl (lv_at hl 1 rfl) ?_
    refine gf_RX12_140 X Z dX12_keeps_458 ?_
    refine lv_iload_n hx hb dX12_keeps_461 rfl (lv_at hl 3 rfl) ?_
    refine lv_aload_n hx hb dX12_keeps_462 rfl (lv_at hl 1 rfl) ?_
    refine gf_RX12_398 X Z dX12_keeps_463 ?_
    refine lv_aload_n hx hb dX12_keeps_466 rfl (lv_at hl 1 rfl) ?_
    refine lv_lload hx hb dX12_keeps_467 (lv_at hl 0 rfl) ?_
    obtain ⟨r17, s16, h15, hf⟩ := bi_s hf
    refine goL Z (run_V (As := [.long v14]) (rest := [.long (σ.2 68 52), .int x3, .ref (h 107)]) X Z (c_X12_four l D h cy v14 σ (r17, s16) h15 _) lk_RX12_307 ⟨by decide, by decide⟩ rv_68 rfl hl.1 rfl (Nat.le_of_ble_eq_true rfl) ⟨Nat.le_refl _, Nat.le_refl _⟩ dX12_keeps_469) (fun H locs Z => ?_)
    refine lv_ladd hx hb dX12_keeps_472 ?_
    refine lv_l2i (v := (((σ.2 68 52) + r17)).toInt32) hx hb dX12_keeps_473 rfl ?_
    obtain ⟨g18, hf⟩ := gd_s hf
    refine x_iast (k := 107) X Z sh_107 g18 dX12_keeps_474 (fun s19 H locs es19 Z => ?_)
    have hf := zn_e es19 hf
    refine lv_aload_n hx hb dX12_keeps_475 rfl (lv_at hl 1 rfl) ?_
    refine gf_RX12_143 X Z dX12_keeps_476 ?_
    refine lv_iload_n hx hb dX12_keeps_479 rfl (lv_at hl 3 rfl) ?_
    refine lv_aload_n hx hb dX12_keeps_480 rfl (lv_at hl 1 rfl) ?_
    refine lv_aload_n hx hb dX12_keeps_481 rfl (lv_at hl 1 rfl) ?_
    refine gf_RX12_140 X Z dX12_keeps_482 ?_
    refine lv_iload_n hx hb dX12_keeps_485 rfl (lv_at hl 3 rfl) ?_
    obtain ⟨g20, hf⟩ := gd_s hf
    refine x_iald (k := 107) X Z sh_107 g20 dX12_keeps_486 ?_
    refine lv_i2l (v := (s19.1 107 x3.toNatClampNeg).toInt64) hx hb dX12_keeps_487 rfl ?_
    refine lv_aload_n hx hb dX12_keeps_488 rfl (lv_at hl 1 rfl) ?_
    refine gf_RX12_398 X Z dX12_keeps_489 ?_
    refine lv_aload_n hx hb dX12_keeps_492 rfl (lv_at hl 1 rfl) ?_
    refine gf_RX12_401 X Z dX12_keeps_493 ?_
    refine lv_ladd hx hb dX12_keeps_496 ?_
    obtain ⟨r23, s22, h21, hf⟩ := bi_s hf
    refine goL Z (run_V (As := [.long ((s19.1 107 x3.toNatClampNeg).toInt64), .long (((s19.2 68 52) + (s19.2 68 53)))]) (rest := [.int x3, .ref (h 108)]) X Z (c_X12_zero l D h cy ((s19.1 107 x3.toNatClampNeg).toInt64) (((s19.2 68 52) + (s19.2 68 53))) s19 (r23, s22) h21 _) lk_RX12_410 ⟨by decide, by decide⟩ rv_68 rfl hl.1 rfl (Nat.le_of_ble_eq_true rfl) ⟨Nat.le_refl _, Nat.le_refl _⟩ dX12_keeps_497) (fun H locs Z => ?_)
    refine lv_l2i (v := r23.toInt32) hx hb dX12_keeps_500 rfl ?_
    refine lv_aload_n hx hb dX12_keeps_501 rfl (lv_at hl 1 rfl) ?_
    refine gf_RX12_140 X Z dX12_keeps_502 ?_
    refine lv_iload_n hx hb dX12_keeps_505 rfl (lv_at hl 3 rfl) ?_
    obtain ⟨g24, hf⟩ := gd_s hf
    refine x_iald (k := 107) X Z sh_107 g24 dX12_keeps_506 ?_
    refine lv_isub hx hb dX12_keeps_507 ?_
    obtain ⟨g25, hf⟩ := gd_s hf
    refine x_iast (k := 108) X Z sh_108 g25 dX12_keeps_508 (fun s26 H locs es26 Z => ?_)
    have hf := zn_e es26 hf
    refine lv_aload_n hx hb dX12_keeps_509 rfl (lv_at hl 1 rfl) ?_
    refine gf_RX12_146 X Z dX12_keeps_510 ?_
    refine lv_iload_n hx hb dX12_keeps_513 rfl (lv_at hl 3 rfl) ?_
    refine lv_aload_n hx hb dX12_keeps_514 rfl (lv_at hl 1 rfl) ?_
    refine lv_lload hx hb dX12_keeps_515 (lv_at hl 0 rfl) ?_
    refine lv_ldc2 (v := 8) hx hb X.o (X.t _ kc_RX12_361) dX12_keeps_517 ?_
    refine lv_ladd hx hb dX12_keeps_520 ?_
    obtain ⟨r29, s28, h27, hf⟩ := bi_s hf
    refine goL Z (run_V (As := [.long ((v14 + (8 : Int64)))]) (rest := [.int x3, .ref (h 109)]) X Z (c_X12_eight l D h cy ((v14 + (8 : Int64))) s26 (r29, s28) h27 _) lk_RX12_316 ⟨by decide, by decide⟩ rv_68 rfl hl.1 rfl (Nat.le_of_ble_eq_true rfl) ⟨Nat.le_refl _, Nat.le_refl _⟩ dX12_keeps_521) (fun H locs Z => ?_)
    refine lv_l2i (v := r29.toInt32) hx hb dX12_keeps_524 rfl ?_
    refine lv_iload_n hx hb dX12_keeps_525 rfl (lv_at hl 2 rfl) ?_
    refine lv_iadd hx hb dX12_keeps_526 ?_
    obtain ⟨g30, hf⟩ := gd_s hf
    refine x_iast (k := 109) X Z sh_109 g30 dX12_keeps_527 (fun s31 H locs es31 Z => ?_)
    have hf := zn_e es31 hf
    obtain ⟨v32, ev32⟩ : ∃ z : Int32, z = x3 + 1 := ⟨_, rfl⟩
    have hf := zn_e ev32 hf
    refine lv_iinc (v := v32) (lv' := [(3, .int v32), (4, .long v14), (0, .ref (h 68)), (1, .int x1)]) hx hb dX12_keeps_528 hl (k := 3) rfl (by rw [ev32]; rfl) (by decide) rfl (fun ls hl => ?_)
    refine lv_goto (tgt := 436) hx hb dX12_keeps_531 (by decide) ?_
    exact hK436 (x1, v32, s31) _ hf _ _ _ Z (lv_sub hl [2, 3, 0] rfl)

set_option maxRecDepth 100000 in
set_option maxHeartbeats 4000000 in
theorem b_X12_keeps_436 {p : Program} {l : Launch} {e : Env} {s : State} {m : MethodId} {args : Array Value} {below : List Frame} {meth : Method} {c : Code} {D : va_G} {h : Nat → Nat} {cy : Nat → ClassId} (X : Cx p s m args c D h cy RX12 cX12_keeps 10) (hr : meth.sig.returnType = none) (hk : meth.locks = false) (x1 : Int32) (x3 : Int32) (σ : St) (y : St) (hf : f_X12_keeps_436 x1 x3 σ = some y) : ∀ (H : Heap) (locs : List Loc) (ls : Array Slot), Zt D h cy s σ H locs → lv_has ls 10 [(0, .ref (h 68)), (1, .int x1), (3, .int x3)] → W p l e (rmz 3 76) s m args below meth c H locs 0 0 (EV below args s D h cy y) (F0 m 436 ls []) := by
  exact it_W (F := fun K a => f_X12_keeps_436b K a.1 a.2.1 a.2.2) (P := fun a y => ∀ (H : Heap) (locs : List Loc) (ls : Array Slot), Zt D h cy s a.2.2 H locs → lv_has ls 10 [(0, .ref (h 68)), (1, .int a.1), (3, .int a.2.1)] → W p l e (rmz 3 76) s m args below meth c H locs 0 0 (EV below args s D h cy y) (F0 m 436 ls [])) (fun K hK a y hf => b_X12_keeps_436b X hr hk K hK (a.1) (a.2.1) (a.2.2) y hf) FU _ y hf

set_option maxRecDepth 100000 in
set_option maxHeartbeats 4000000 in
theorem b_X12_keeps_431 {p : Program} {l : Launch} {e : Env} {s : State} {m : MethodId} {args : Array Value} {below : List Frame} {meth : Method} {c : Code} {D : va_G} {h : Nat → Nat} {cy : Nat → ClassId} (X : Cx p s m args c D h cy RX12 cX12_keeps 10) (hr : meth.sig.returnType = none) (hk : meth.locks = false) (x1 : Int32) (t0 : Int32) (σ : St) (y : St) (hf : f_X12_keeps_431 x1 t0 σ = some y) : ∀ (H : Heap) (locs : List Loc) (ls : Array Slot), Zt D h cy s σ H locs → lv_has ls 10 [(0, .ref (h 68)), (1, .int x1)] → W p l e (rmz 3 76) s m args below meth c H locs 0 0 (EV below args s D h cy y) (F0 m 431 ls [.int t0, .ref (h 68)]) := by
  intro H locs ls Z hl
  have hx := X.x
  have hb := X.b
  unfold f_X12_keeps_431 at hf
  refine pf_RX12_477 X Z dX12_keeps_431 (fun s11 H locs es11 Z => ?_)
  have hf := zn_e es11 hf
  refine lv_iconst (v := 0) hx hb dX12_keeps_434 (by decide) ?_
  refine lv_topi (fun v12 ev12 => ?_)
  have hf := zn_e ev12 hf
  refine lv_istore_n (lv' := [(3, .int v12), (0, .ref (h 68)), (1, .int x1)]) hx hb dX12_keeps_435 rfl hl (by decide) rfl (fun ls hl => ?_)
  exact b_X12_keeps_436 X hr hk x1 v12 s11 _ hf _ _ _ Z (lv_sub hl [1, 2, 0] rfl)

set_option maxRecDepth 100000 in
set_option maxHeartbeats 4000000 in
theorem b_X12_keeps_388b {p : Program} {l : Launch} {e : Env} {s : State} {m : MethodId} {args : Array Value} {below : List Frame} {meth : Method} {c : Code} {D : va_G} {h : Nat → Nat} {cy : Nat → ClassId} (X : Cx p s m args c D h cy RX12 cX12_keeps 10) (hr : meth.sig.returnType = none) (hk : meth.locks = false) (K388 : (Int32 × Int32 × St) → Option (St)) (hK388 : ∀ (a : Int32 × Int32 × St) (y : St), K388 a = some y → ∀ (H : Heap) (locs : List Loc) (ls : Array Slot), Zt D h cy s a.2.2 H locs → lv_has ls 10 [(0, .ref (h 68)), (1, .int a.1), (3, .int a.2.1)] → W p l e (rmz 3 76) s m args below meth c H locs 0 0 (EV below args s D h cy y) (F0 m 388 ls [])) (x1 : Int32) (x3 : Int32) (σ : St) (y : St) (hf : f_X12_keeps_388b K388 x1 x3 σ = some y) : ∀ (H : Heap) (locs : List Loc) (ls : Array Slot), Zt D h cy s σ H locs → lv_has ls 10 [(0, .ref (h 68)), (1, .int x1), (3, .int x3)] → W p l e (rmz 3 76) s m args below meth c H locs 0 0 (EV below args s D h cy y) (F0 m 388 ls []) := by
  intro H locs ls Z hl
  have hx := X.x
  have hb := X.b
  unfold f_X12_keeps_388b at hf
  refine lv_iload_n hx hb dX12_keeps_388 rfl (lv_at hl 2 rfl) ?_
  refine lv_aload_n hx hb dX12_keeps_389 rfl (lv_at hl 0 rfl) ?_
  refine gf_RX12_253 X Z dX12_keeps_390 ?_
  refine lv_icmp_ge (tgt := 414) hx hb dX12_keeps_393 (by decide) (fun c9 => ?_) (fun c9 => ?_)
  · have hf := itp c9 hf
    refine lv_aload_n hx hb dX12_keeps_414 rfl (lv_at hl 0 rfl) ?_
    refine lv_aload_n hx hb dX12_keeps_415 rfl (lv_at hl 0 rfl) ?_
    refine gf_RX12_350 X Z dX12_keeps_416 ?_
    refine lv_if_eq (tgt := 430) hx hb dX12_keeps_419 (by decide) (fun c10 => ?_) (fun c10 => ?_)
    · have hf := itp c10 hf
      refine lv_iconst (v := 0) hx hb dX12_keeps_430 (by decide) ?_
      exact b_X12_keeps_431 X hr hk x1 (0 : Int32) σ _ hf _ _ _ Z (lv_sub hl [0, 1] rfl)
    · have hf := itn c10 hf
      refine lv_aload_n hx hb dX12_keeps_422 rfl (lv_at hl 0 rfl) ?_
      refine gf_RX12_395 X Z dX12_keeps_423 ?_
      refine lv_l2i (v := (σ.2 68 51).toInt32) hx hb dX12_keeps_426 rfl ?_
      refine lv_goto (tgt := 431) hx hb dX12_keeps_427 (by decide) ?_
      exact b_X12_keeps_431 X hr hk x1 ((σ.2 68 51).toInt32) σ _ hf _ _ _ Z (lv_sub hl [0, 1] rfl)
  · have hf := itn c9 hf
    refine lv_aload_n hx hb dX12_keeps_396 rfl (lv_at hl 0 rfl) ?_
    refine gf_RX12_137 X Z dX12_keeps_397 ?_
    refine lv_iload_n hx hb dX12_keeps_400 rfl (lv_at hl 2 rfl) ?_
    refine lv_aload_n hx hb dX12_keeps_401 rfl (lv_at hl 0 rfl) ?_
    refine gf_RX12_77 X Z dX12_keeps_402 ?_
    refine lv_iload_n hx hb dX12_keeps_405 rfl (lv_at hl 2 rfl) ?_
    obtain ⟨g33, hf⟩ := gd_s hf
    refine x_iald (k := 88) X Z sh_88 g33 dX12_keeps_406 ?_
    obtain ⟨g34, hf⟩ := gd_s hf
    refine x_iast (k := 106) X Z sh_106 g34 dX12_keeps_407 (fun s35 H locs es35 Z => ?_)
    have hf := zn_e es35 hf
    obtain ⟨v36, ev36⟩ : ∃ z : Int32, z = x3 + 1 := ⟨_, rfl⟩
    have hf := zn_e ev36 hf
    refine lv_iinc (v := v36) (lv' := [(3, .int v36), (0, .ref (h 68)), (1, .int x1)]) hx hb dX12_keeps_408 hl (k := 2) rfl (by rw [ev36]; rfl) (by decide) rfl (fun ls hl => ?_)
    refine lv_goto (tgt := 388) hx hb dX12_keeps_411 (by decide) ?_
    exact hK388 (x1, v36, s35) _ hf _ _ _ Z (lv_sub hl [1, 2, 0] rfl)

set_option maxRecDepth 100000 in
set_option maxHeartbeats 4000000 in
theorem b_X12_keeps_388 {p : Program} {l : Launch} {e : Env} {s : State} {m : MethodId} {args : Array Value} {below : List Frame} {meth : Method} {c : Code} {D : va_G} {h : Nat → Nat} {cy : Nat → ClassId} (X : Cx p s m args c D h cy RX12 cX12_keeps 10) (hr : meth.sig.returnType = none) (hk : meth.locks = false) (x1 : Int32) (x3 : Int32) (σ : St) (y : St) (hf : f_X12_keeps_388 x1 x3 σ = some y) : ∀ (H : Heap) (locs : List Loc) (ls : Array Slot), Zt D h cy s σ H locs → lv_has ls 10 [(0, .ref (h 68)), (1, .int x1), (3, .int x3)] → W p l e (rmz 3 76) s m args below meth c H locs 0 0 (EV below args s D h cy y) (F0 m 388 ls []) := by
  exact it_W (F := fun K a => f_X12_keeps_388b K a.1 a.2.1 a.2.2) (P := fun a y => ∀ (H : Heap) (locs : List Loc) (ls : Array Slot), Zt D h cy s a.2.2 H locs → lv_has ls 10 [(0, .ref (h 68)), (1, .int a.1), (3, .int a.2.1)] → W p l e (rmz 3 76) s m args below meth c H locs 0 0 (EV below args s D h cy y) (F0 m 388 ls [])) (fun K hK a y hf => b_X12_keeps_388b X hr hk K hK (a.1) (a.2.1) (a.2.2) y hf) FU _ y hf

set_option maxRecDepth 100000 in
set_option maxHeartbeats 4000000 in
theorem b_X12_keeps_328b {p : Program} {l : Launch} {e : Env} {s : State} {m : MethodId} {args : Array Value} {below : List Frame} {meth : Method} {c : Code} {D : va_G} {h : Nat → Nat} {cy : Nat → ClassId} (X : Cx p s m args c D h cy RX12 cX12_keeps 10) (hr : meth.sig.returnType = none) (hk : meth.locks = false) (K143 : (Int32 × Int32 × St) → Option (St)) (hK143 : ∀ (a : Int32 × Int32 × St) (y : St), K143 a = some y → ∀ (H : Heap) (locs : List Loc) (ls : Array Slot), Zt D h cy s a.2.2 H locs → lv_has ls 10 [(0, .ref (h 68)), (1, .int a.1), (3, .int a.2.1)] → W p l e (rmz 3 76) s m args below meth c H locs 0 0 (EV below args s D h cy y) (F0 m 143 ls [])) (K328 : (Int32 × Int32 × Int64 × Int32 × St) → Option (St)) (hK328 : ∀ (a : Int32 × Int32 × Int64 × Int32 × St) (y : St), K328 a = some y → ∀ (H : Heap) (locs : List Loc) (ls : Array Slot), Zt D h cy s a.2.2.2.2 H locs → lv_has ls 10 [(0, .ref (h 68)), (1, .int a.1), (3, .int a.2.1), (7, .long a.2.2.1), (9, .int a.2.2.2.1)] → W p l e (rmz 3 76) s m args below meth c H locs 0 0 (EV below args s D h cy y) (F0 m 328 ls [])) (x1 : Int32) (x3 : Int32) (x7 : Int64) (x9 : Int32) (σ : St) (y : St) (hf : f_X12_keeps_328b K143 K328 x1 x3 x7 x9 σ = some y) : ∀ (H : Heap) (locs : List Loc) (ls : Array Slot), Zt D h cy s σ H locs → lv_has ls 10 [(0, .ref (h 68)), (1, .int x1), (3, .int x3), (7, .long x7), (9, .int x9)] → W p l e (rmz 3 76) s m args below meth c H locs 0 0 (EV below args s D h cy y) (F0 m 328 ls []) := by
  intro H locs ls Z hl
  have hx := X.x
  have hb := X.b
  unfold f_X12_keeps_328b at hf
  refine lv_iload hx hb dX12_keeps_328 (lv_at hl 4 rfl) ?_
  refine lv_bipush (v := 8) hx hb dX12_keeps_330 (by decide) ?_
  refine lv_icmp_ge (tgt := 380) hx hb dX12_keeps_332 (by decide) (fun c58 => ?_) (fun c58 => ?_)
  · have hf := itp c58 hf
    obtain ⟨v59, ev59⟩ : ∃ z : Int32, z = x3 + 1 := ⟨_, rfl⟩
    have hf := zn_e ev59 hf
    refine lv_iinc (v := v59) (lv' := [(3, .int v59), (0, .ref (h 68)), (1, .int x1), (7, .long x7), (9, .int x9)]) hx hb dX12_keeps_380 hl (k := 2) rfl (by rw [ev59]; rfl) (by decide) rfl (fun ls hl => ?_)
    refine lv_goto (tgt := 143) hx hb dX12_keeps_383 (by decide) ?_
    exact hK143 (x1, v59, σ) _ hf _ _ _ Z (lv_sub hl [1, 2, 0] rfl)
  · have hf := itn c58 hf
    refine lv_aload_n hx hb dX12_keeps_335 rfl (lv_at hl 0 rfl) ?_
    refine gf_RX12_122 X Z dX12_keeps_336 ?_
    refine lv_aload_n hx hb dX12_keeps_339 rfl (lv_at hl 0 rfl) ?_
    refine gf_RX12_119 X Z dX12_keeps_340 ?_
    refine lv_aload_n hx hb dX12_keeps_343 rfl (lv_at hl 0 rfl) ?_
    refine gf_RX12_107 X Z dX12_keeps_344 ?_
    refine lv_iload_n hx hb dX12_keeps_347 rfl (lv_at hl 2 rfl) ?_
    obtain ⟨g60, hf⟩ := gd_s hf
    refine x_iald (k := 96) X Z sh_96 g60 dX12_keeps_348 ?_
    obtain ⟨g61, hf⟩ := gd_s hf
    refine x_iald (k := 100) X Z sh_100 g61 dX12_keeps_349 ?_
    refine lv_aload_n hx hb dX12_keeps_350 rfl (lv_at hl 0 rfl) ?_
    refine gf_RX12_110 X Z dX12_keeps_351 ?_
    refine lv_iload_n hx hb dX12_keeps_354 rfl (lv_at hl 2 rfl) ?_
    obtain ⟨g62, hf⟩ := gd_s hf
    refine x_iald (k := 97) X Z sh_97 g62 dX12_keeps_355 ?_
    refine lv_iadd hx hb dX12_keeps_356 ?_
    refine lv_iload hx hb dX12_keeps_357 (lv_at hl 4 rfl) ?_
    refine lv_iadd hx hb dX12_keeps_359 ?_
    refine lv_lload hx hb dX12_keeps_360 (lv_at hl 3 rfl) ?_
    refine lv_bipush (v := 8) hx hb dX12_keeps_362 (by decide) ?_
    refine lv_iload hx hb dX12_keeps_364 (lv_at hl 4 rfl) ?_
    refine lv_imul hx hb dX12_keeps_366 ?_
    refine lv_lshr (v := zlshr x7 (((8 : Int32) * x9))) hx hb dX12_keeps_367 rfl ?_
    refine lv_l2i (v := ((zlshr x7 (((8 : Int32) * x9)))).toInt32) hx hb dX12_keeps_368 rfl ?_
    refine lv_sipush (v := 255) hx hb dX12_keeps_369 (by decide) ?_
    refine lv_iand hx hb dX12_keeps_372 ?_
    obtain ⟨g63, hf⟩ := gd_s hf
    refine x_iast (k := 101) X Z sh_101 g63 dX12_keeps_373 (fun s64 H locs es64 Z => ?_)
    have hf := zn_e es64 hf
    obtain ⟨v65, ev65⟩ : ∃ z : Int32, z = x9 + 1 := ⟨_, rfl⟩
    have hf := zn_e ev65 hf
    refine lv_iinc (v := v65) (lv' := [(9, .int v65), (0, .ref (h 68)), (1, .int x1), (3, .int x3), (7, .long x7)]) hx hb dX12_keeps_374 hl (k := 4) rfl (by rw [ev65]; rfl) (by decide) rfl (fun ls hl => ?_)
    refine lv_goto (tgt := 328) hx hb dX12_keeps_377 (by decide) ?_
    exact hK328 (x1, x3, x7, v65, s64) _ hf _ _ _ Z (lv_sub hl [1, 2, 3, 4, 0] rfl)

set_option maxRecDepth 100000 in
set_option maxHeartbeats 4000000 in
theorem b_X12_keeps_328 {p : Program} {l : Launch} {e : Env} {s : State} {m : MethodId} {args : Array Value} {below : List Frame} {meth : Method} {c : Code} {D : va_G} {h : Nat → Nat} {cy : Nat → ClassId} (X : Cx p s m args c D h cy RX12 cX12_keeps 10) (hr : meth.sig.returnType = none) (hk : meth.locks = false) (K143 : (Int32 × Int32 × St) → Option (St)) (hK143 : ∀ (a : Int32 × Int32 × St) (y : St), K143 a = some y → ∀ (H : Heap) (locs : List Loc) (ls : Array Slot), Zt D h cy s a.2.2 H locs → lv_has ls 10 [(0, .ref (h 68)), (1, .int a.1), (3, .int a.2.1)] → W p l e (rmz 3 76) s m args below meth c H locs 0 0 (EV below args s D h cy y) (F0 m 143 ls [])) (x1 : Int32) (x3 : Int32) (x7 : Int64) (x9 : Int32) (σ : St) (y : St) (hf : f_X12_keeps_328 K143 x1 x3 x7 x9 σ = some y) : ∀ (H : Heap) (locs : List Loc) (ls : Array Slot), Zt D h cy s σ H locs → lv_has ls 10 [(0, .ref (h 68)), (1, .int x1), (3, .int x3), (7, .long x7), (9, .int x9)] → W p l e (rmz 3 76) s m args below meth c H locs 0 0 (EV below args s D h cy y) (F0 m 328 ls []) := by
  exact it_W (F := fun K a => f_X12_keeps_328b K143 K a.1 a.2.1 a.2.2.1 a.2.2.2.1 a.2.2.2.2) (P := fun a y => ∀ (H : Heap) (locs : List Loc) (ls : Array Slot), Zt D h cy s a.2.2.2.2 H locs → lv_has ls 10 [(0, .ref (h 68)), (1, .int a.1), (3, .int a.2.1), (7, .long a.2.2.1), (9, .int a.2.2.2.1)] → W p l e (rmz 3 76) s m args below meth c H locs 0 0 (EV below args s D h cy y) (F0 m 328 ls [])) (fun K hK a y hf => b_X12_keeps_328b X hr hk K143 hK143 K hK (a.1) (a.2.1) (a.2.2.1) (a.2.2.2.1) (a.2.2.2.2) y hf) FU _ y hf

set_option maxRecDepth 100000 in
set_option maxHeartbeats 4000000 in
theorem b_X12_keeps_325 {p : Program} {l : Launch} {e : Env} {s : State} {m : MethodId} {args : Array Value} {below : List Frame} {meth : Method} {c : Code} {D : va_G} {h : Nat → Nat} {cy : Nat → ClassId} (X : Cx p s m args c D h cy RX12 cX12_keeps 10) (hr : meth.sig.returnType = none) (hk : meth.locks = false) (K143 : (Int32 × Int32 × St) → Option (St)) (hK143 : ∀ (a : Int32 × Int32 × St) (y : St), K143 a = some y → ∀ (H : Heap) (locs : List Loc) (ls : Array Slot), Zt D h cy s a.2.2 H locs → lv_has ls 10 [(0, .ref (h 68)), (1, .int a.1), (3, .int a.2.1)] → W p l e (rmz 3 76) s m args below meth c H locs 0 0 (EV below args s D h cy y) (F0 m 143 ls [])) (x1 : Int32) (x3 : Int32) (x7 : Int64) (σ : St) (y : St) (hf : f_X12_keeps_325 K143 x1 x3 x7 σ = some y) : ∀ (H : Heap) (locs : List Loc) (ls : Array Slot), Zt D h cy s σ H locs → lv_has ls 10 [(0, .ref (h 68)), (1, .int x1), (3, .int x3), (7, .long x7)] → W p l e (rmz 3 76) s m args below meth c H locs 0 0 (EV below args s D h cy y) (F0 m 325 ls []) := by
  intro H locs ls Z hl
  have hx := X.x
  have hb := X.b
  unfold f_X12_keeps_325 at hf
  refine lv_iconst (v := 0) hx hb dX12_keeps_325 (by decide) ?_
  refine lv_topi (fun v57 ev57 => ?_)
  have hf := zn_e ev57 hf
  refine lv_istore (lv' := [(9, .int v57), (0, .ref (h 68)), (1, .int x1), (3, .int x3), (7, .long x7)]) hx hb dX12_keeps_326 hl (by decide) rfl (fun ls hl => ?_)
  exact b_X12_keeps_328 X hr hk K143 hK143 x1 x3 x7 v57 σ _ hf _ _ _ Z (lv_sub hl [1, 2, 3, 4, 0] rfl)

set_option maxRecDepth 100000 in
set_option maxHeartbeats 4000000 in
theorem b_X12_keeps_315 {p : Program} {l : Launch} {e : Env} {s : State} {m : MethodId} {args : Array Value} {below : List Frame} {meth : Method} {c : Code} {D : va_G} {h : Nat → Nat} {cy : Nat → ClassId} (X : Cx p s m args c D h cy RX12 cX12_keeps 10) (hr : meth.sig.returnType = none) (hk : meth.locks = false) (K143 : (Int32 × Int32 × St) → Option (St)) (hK143 : ∀ (a : Int32 × Int32 × St) (y : St), K143 a = some y → ∀ (H : Heap) (locs : List Loc) (ls : Array Slot), Zt D h cy s a.2.2 H locs → lv_has ls 10 [(0, .ref (h 68)), (1, .int a.1), (3, .int a.2.1)] → W p l e (rmz 3 76) s m args below meth c H locs 0 0 (EV below args s D h cy y) (F0 m 143 ls [])) (x1 : Int32) (x3 : Int32) (t0 : Int64) (σ : St) (y : St) (hf : f_X12_keeps_315 K143 x1 x3 t0 σ = some y) : ∀ (H : Heap) (locs : List Loc) (ls : Array Slot), Zt D h cy s σ H locs → lv_has ls 10 [(0, .ref (h 68)), (1, .int x1), (3, .int x3)] → W p l e (rmz 3 76) s m args below meth c H locs 0 0 (EV below args s D h cy y) (F0 m 315 ls [.long t0]) := by
  intro H locs ls Z hl
  have hx := X.x
  have hb := X.b
  unfold f_X12_keeps_315 at hf
  refine lv_aload_n hx hb dX12_keeps_315 rfl (lv_at hl 0 rfl) ?_
  refine gf_RX12_131 X Z dX12_keeps_316 ?_
  refine lv_iload_n hx hb dX12_keeps_319 rfl (lv_at hl 2 rfl) ?_
  obtain ⟨g71, hf⟩ := gd_s hf
  refine x_iald (k := 104) X Z sh_104 g71 dX12_keeps_320 ?_
  refine lv_i2l (v := (σ.1 104 x3.toNatClampNeg).toInt64) hx hb dX12_keeps_321 rfl ?_
  refine lv_ladd hx hb dX12_keeps_322 ?_
  refine lv_topl (fun v72 ev72 => ?_)
  have hf := zn_e ev72 hf
  refine lv_lstore (lv' := [(7, .long v72), (0, .ref (h 68)), (1, .int x1), (3, .int x3)]) hx hb dX12_keeps_323 hl (by decide) rfl (fun ls hl => ?_)
  exact b_X12_keeps_325 X hr hk K143 hK143 x1 x3 v72 σ _ hf _ _ _ Z (lv_sub hl [1, 2, 3, 0] rfl)

set_option maxRecDepth 100000 in
set_option maxHeartbeats 4000000 in
theorem b_X12_keeps_251 {p : Program} {l : Launch} {e : Env} {s : State} {m : MethodId} {args : Array Value} {below : List Frame} {meth : Method} {c : Code} {D : va_G} {h : Nat → Nat} {cy : Nat → ClassId} (X : Cx p s m args c D h cy RX12 cX12_keeps 10) (hr : meth.sig.returnType = none) (hk : meth.locks = false) (K143 : (Int32 × Int32 × St) → Option (St)) (hK143 : ∀ (a : Int32 × Int32 × St) (y : St), K143 a = some y → ∀ (H : Heap) (locs : List Loc) (ls : Array Slot), Zt D h cy s a.2.2 H locs → lv_has ls 10 [(0, .ref (h 68)), (1, .int a.1), (3, .int a.2.1)] → W p l e (rmz 3 76) s m args below meth c H locs 0 0 (EV below args s D h cy y) (F0 m 143 ls [])) (x1 : Int32) (x3 : Int32) (x4 : Int64) (x6 : Int32) (t0 : Int32) (t1 : Int64) (t2 : Int32) (σ : St) (y : St) (hf : f_X12_keeps_251 K143 x1 x3 x4 x6 t0 t1 t2 σ = some y) : ∀ (H : Heap) (locs : List Loc) (ls : Array Slot), Zt D h cy s σ H locs → lv_has ls 10 [(0, .ref (h 68)), (1, .int x1), (3, .int x3), (4, .long x4), (6, .int x6)] → W p l e (rmz 3 76) s m args below meth c H locs 0 0 (EV below args s D h cy y) (F0 m 251 ls [.int t0, .long t1, .int t2, .ref (h 104)]) := by
  intro H locs ls Z hl
  have hx := X.x
  have hb := X.b
  unfold f_X12_keeps_251 at hf
  refine lv_lshr (v := zlshr t1 t0) hx hb dX12_keeps_251 rfl ?_
  refine lv_l2i (v := (zlshr t1 t0).toInt32) hx hb dX12_keeps_252 rfl ?_
  refine lv_sipush (v := 255) hx hb dX12_keeps_253 (by decide) ?_
  refine lv_iand hx hb dX12_keeps_256 ?_
  obtain ⟨g51, hf⟩ := gd_s hf
  refine x_iast (k := 104) X Z sh_104 g51 dX12_keeps_257 (fun s52 H locs es52 Z => ?_)
  have hf := zn_e es52 hf
  refine lv_aload_n hx hb dX12_keeps_258 rfl (lv_at hl 0 rfl) ?_
  refine gf_RX12_128 X Z dX12_keeps_259 ?_
  refine lv_iload_n hx hb dX12_keeps_262 rfl (lv_at hl 2 rfl) ?_
  obtain ⟨g53, hf⟩ := gd_s hf
  refine x_lald (k := 103) X Z sh_103 g53 dX12_keeps_263 ?_
  refine lv_iload_n hx hb dX12_keeps_264 rfl (lv_at hl 1 rfl) ?_
  refine lv_i2l (v := x1.toInt64) hx hb dX12_keeps_265 rfl ?_
  refine lv_ladd hx hb dX12_keeps_266 ?_
  refine lv_ldc2 (v := 72057594037927935) hx hb X.o (X.t _ kc_RX12_475) dX12_keeps_267 ?_
  refine lv_land hx hb dX12_keeps_270 ?_
  refine lv_aload_n hx hb dX12_keeps_271 rfl (lv_at hl 0 rfl) ?_
  refine gf_RX12_131 X Z dX12_keeps_272 ?_
  refine lv_iload_n hx hb dX12_keeps_275 rfl (lv_at hl 2 rfl) ?_
  obtain ⟨g54, hf⟩ := gd_s hf
  refine x_iald (k := 104) X Z sh_104 g54 dX12_keeps_276 ?_
  refine lv_i2l (v := (s52.1 104 x3.toNatClampNeg).toInt64) hx hb dX12_keeps_277 rfl ?_
  refine lv_bipush (v := 56) hx hb dX12_keeps_278 (by decide) ?_
  refine lv_lshl (v := zlshl ((s52.1 104 x3.toNatClampNeg).toInt64) (56 : Int32)) hx hb dX12_keeps_280 rfl ?_
  refine lv_lor hx hb dX12_keeps_281 ?_
  refine lv_topl (fun v55 ev55 => ?_)
  have hf := zn_e ev55 hf
  refine lv_lstore (lv' := [(7, .long v55), (0, .ref (h 68)), (1, .int x1), (3, .int x3), (4, .long x4), (6, .int x6)]) hx hb dX12_keeps_282 hl (by decide) rfl (fun ls hl => ?_)
  refine lv_iload hx hb dX12_keeps_284 (lv_at hl 5 rfl) ?_
  refine lv_if_eq (tgt := 325) hx hb dX12_keeps_286 (by decide) (fun c56 => ?_) (fun c56 => ?_)
  · have hf := itp c56 hf
    exact b_X12_keeps_325 X hr hk K143 hK143 x1 x3 v55 s52 _ hf _ _ _ Z (lv_sub hl [1, 2, 3, 0] rfl)
  · have hf := itn c56 hf
    refine lv_aload_n hx hb dX12_keeps_289 rfl (lv_at hl 1 rfl) ?_
    refine lv_lload hx hb dX12_keeps_290 (lv_at hl 4 rfl) ?_
    obtain ⟨r68, s67, h66, hf⟩ := bi_s hf
    refine goI Z (run_V (As := [.long x4]) (rest := []) X Z (c_X12_exportFor l D h cy x4 s52 (r68, s67) h66 _) lk_RX12_459 ⟨by decide, by decide⟩ rv_68 rfl hl.1 rfl (Nat.le_of_ble_eq_true rfl) ⟨Nat.le_refl _, Nat.le_refl _⟩ dX12_keeps_292) (fun H locs Z => ?_)
    refine lv_istore (lv' := [(9, .int r68), (7, .long v55), (0, .ref (h 68)), (1, .int x1), (3, .int x3), (4, .long x4), (6, .int x6)]) hx hb dX12_keeps_295 hl (by decide) rfl (fun ls hl => ?_)
    refine lv_iload hx hb dX12_keeps_297 (lv_at hl 0 rfl) ?_
    refine lv_iconst (v := (-1)) hx hb dX12_keeps_299 (by decide) ?_
    refine lv_icmp_ne (tgt := 307) hx hb dX12_keeps_300 (by decide) (fun c69 => ?_) (fun c69 => ?_)
    · have hf := itn c69 hf
      refine lv_aload_n hx hb dX12_keeps_307 rfl (lv_at hl 2 rfl) ?_
      refine gf_RX12_74 X Z dX12_keeps_308 ?_
      refine lv_iload hx hb dX12_keeps_311 (lv_at hl 0 rfl) ?_
      obtain ⟨g70, hf⟩ := gd_s hf
      refine x_iald (k := 87) X Z sh_87 g70 dX12_keeps_313 ?_
      refine lv_i2l (v := (s67.1 87 r68.toNatClampNeg).toInt64) hx hb dX12_keeps_314 rfl ?_
      exact b_X12_keeps_315 X hr hk K143 hK143 x1 x3 ((s67.1 87 r68.toNatClampNeg).toInt64) s67 _ hf _ _ _ Z (lv_sub hl [2, 3, 4] rfl)
    · have hf := itp c69 hf
      refine lv_lconst (v := 0) hx hb dX12_keeps_303 (by decide) ?_
      refine lv_goto (tgt := 315) hx hb dX12_keeps_304 (by decide) ?_
      exact b_X12_keeps_315 X hr hk K143 hK143 x1 x3 (0 : Int64) s67 _ hf _ _ _ Z (lv_sub hl [2, 3, 4] rfl)

set_option maxRecDepth 100000 in
set_option maxHeartbeats 4000000 in
theorem b_X12_keeps_231 {p : Program} {l : Launch} {e : Env} {s : State} {m : MethodId} {args : Array Value} {below : List Frame} {meth : Method} {c : Code} {D : va_G} {h : Nat → Nat} {cy : Nat → ClassId} (X : Cx p s m args c D h cy RX12 cX12_keeps 10) (hr : meth.sig.returnType = none) (hk : meth.locks = false) (K143 : (Int32 × Int32 × St) → Option (St)) (hK143 : ∀ (a : Int32 × Int32 × St) (y : St), K143 a = some y → ∀ (H : Heap) (locs : List Loc) (ls : Array Slot), Zt D h cy s a.2.2 H locs → lv_has ls 10 [(0, .ref (h 68)), (1, .int a.1), (3, .int a.2.1)] → W p l e (rmz 3 76) s m args below meth c H locs 0 0 (EV below args s D h cy y) (F0 m 143 ls [])) (x1 : Int32) (x3 : Int32) (x4 : Int64) (x6 : Int32) (t0 : Int64) (t1 : Int32) (σ : St) (y : St) (hf : f_X12_keeps_231 K143 x1 x3 x4 x6 t0 t1 σ = some y) : ∀ (H : Heap) (locs : List Loc) (ls : Array Slot), Zt D h cy s σ H locs → lv_has ls 10 [(0, .ref (h 68)), (1, .int x1), (3, .int x3), (4, .long x4), (6, .int x6)] → W p l e (rmz 3 76) s m args below meth c H locs 0 0 (EV below args s D h cy y) (F0 m 231 ls [.long t0, .int t1, .ref (h 103)]) := by
  intro H locs ls Z hl
  have hx := X.x
  have hb := X.b
  unfold f_X12_keeps_231 at hf
  obtain ⟨g48, hf⟩ := gd_s hf
  refine x_last (k := 103) X Z sh_103 g48 dX12_keeps_231 (fun s49 H locs es49 Z => ?_)
  have hf := zn_e es49 hf
  refine lv_aload_n hx hb dX12_keeps_232 rfl (lv_at hl 0 rfl) ?_
  refine gf_RX12_131 X Z dX12_keeps_233 ?_
  refine lv_iload_n hx hb dX12_keeps_236 rfl (lv_at hl 2 rfl) ?_
  refine lv_lload hx hb dX12_keeps_237 (lv_at hl 3 rfl) ?_
  refine lv_iload hx hb dX12_keeps_239 (lv_at hl 4 rfl) ?_
  refine lv_if_eq (tgt := 249) hx hb dX12_keeps_241 (by decide) (fun c50 => ?_) (fun c50 => ?_)
  · have hf := itp c50 hf
    refine lv_bipush (v := 36) hx hb dX12_keeps_249 (by decide) ?_
    exact b_X12_keeps_251 X hr hk K143 hK143 x1 x3 x4 x6 (36 : Int32) x4 x3 s49 _ hf _ _ _ Z (lv_sub hl [0, 1, 2, 3, 4] rfl)
  · have hf := itn c50 hf
    refine lv_bipush (v := 24) hx hb dX12_keeps_244 (by decide) ?_
    refine lv_goto (tgt := 251) hx hb dX12_keeps_246 (by decide) ?_
    exact b_X12_keeps_251 X hr hk K143 hK143 x1 x3 x4 x6 (24 : Int32) x4 x3 s49 _ hf _ _ _ Z (lv_sub hl [0, 1, 2, 3, 4] rfl)

set_option maxRecDepth 100000 in
set_option maxHeartbeats 4000000 in
theorem b_X12_keeps_171 {p : Program} {l : Launch} {e : Env} {s : State} {m : MethodId} {args : Array Value} {below : List Frame} {meth : Method} {c : Code} {D : va_G} {h : Nat → Nat} {cy : Nat → ClassId} (X : Cx p s m args c D h cy RX12 cX12_keeps 10) (hr : meth.sig.returnType = none) (hk : meth.locks = false) (K143 : (Int32 × Int32 × St) → Option (St)) (hK143 : ∀ (a : Int32 × Int32 × St) (y : St), K143 a = some y → ∀ (H : Heap) (locs : List Loc) (ls : Array Slot), Zt D h cy s a.2.2 H locs → lv_has ls 10 [(0, .ref (h 68)), (1, .int a.1), (3, .int a.2.1)] → W p l e (rmz 3 76) s m args below meth c H locs 0 0 (EV below args s D h cy y) (F0 m 143 ls [])) (x1 : Int32) (x3 : Int32) (x4 : Int64) (t0 : Int32) (σ : St) (y : St) (hf : f_X12_keeps_171 K143 x1 x3 x4 t0 σ = some y) : ∀ (H : Heap) (locs : List Loc) (ls : Array Slot), Zt D h cy s σ H locs → lv_has ls 10 [(0, .ref (h 68)), (1, .int x1), (3, .int x3), (4, .long x4)] → W p l e (rmz 3 76) s m args below meth c H locs 0 0 (EV below args s D h cy y) (F0 m 171 ls [.int t0]) := by
  intro H locs ls Z hl
  have hx := X.x
  have hb := X.b
  unfold f_X12_keeps_171 at hf
  refine lv_istore (lv' := [(6, .int t0), (0, .ref (h 68)), (1, .int x1), (3, .int x3), (4, .long x4)]) hx hb dX12_keeps_171 hl (by decide) rfl (fun ls hl => ?_)
  refine lv_aload_n hx hb dX12_keeps_173 rfl (lv_at hl 1 rfl) ?_
  refine gf_RX12_125 X Z dX12_keeps_174 ?_
  refine lv_iload_n hx hb dX12_keeps_177 rfl (lv_at hl 3 rfl) ?_
  refine lv_aload_n hx hb dX12_keeps_178 rfl (lv_at hl 1 rfl) ?_
  refine gf_RX12_113 X Z dX12_keeps_179 ?_
  refine lv_aload_n hx hb dX12_keeps_182 rfl (lv_at hl 1 rfl) ?_
  refine gf_RX12_107 X Z dX12_keeps_183 ?_
  refine lv_iload_n hx hb dX12_keeps_186 rfl (lv_at hl 3 rfl) ?_
  obtain ⟨g40, hf⟩ := gd_s hf
  refine x_iald (k := 96) X Z sh_96 g40 dX12_keeps_187 ?_
  obtain ⟨g41, hf⟩ := gd_s hf
  refine x_lald (k := 98) X Z sh_98 g41 dX12_keeps_188 ?_
  refine lv_aload_n hx hb dX12_keeps_189 rfl (lv_at hl 1 rfl) ?_
  refine gf_RX12_110 X Z dX12_keeps_190 ?_
  refine lv_iload_n hx hb dX12_keeps_193 rfl (lv_at hl 3 rfl) ?_
  obtain ⟨g42, hf⟩ := gd_s hf
  refine x_iald (k := 97) X Z sh_97 g42 dX12_keeps_194 ?_
  refine lv_i2l (v := (σ.1 97 x3.toNatClampNeg).toInt64) hx hb dX12_keeps_195 rfl ?_
  refine lv_ladd hx hb dX12_keeps_196 ?_
  obtain ⟨g43, hf⟩ := gd_s hf
  refine x_last (k := 102) X Z sh_102 g43 dX12_keeps_197 (fun s44 H locs es44 Z => ?_)
  have hf := zn_e es44 hf
  refine lv_aload_n hx hb dX12_keeps_198 rfl (lv_at hl 1 rfl) ?_
  refine gf_RX12_134 X Z dX12_keeps_199 ?_
  refine lv_iload_n hx hb dX12_keeps_202 rfl (lv_at hl 3 rfl) ?_
  refine lv_iload hx hb dX12_keeps_203 (lv_at hl 0 rfl) ?_
  obtain ⟨g45, hf⟩ := gd_s hf
  refine x_zast (k := 105) X Z sh_105 g45 dX12_keeps_205 (fun s46 H locs es46 Z => ?_)
  have hf := zn_e es46 hf
  refine lv_aload_n hx hb dX12_keeps_206 rfl (lv_at hl 1 rfl) ?_
  refine gf_RX12_128 X Z dX12_keeps_207 ?_
  refine lv_iload_n hx hb dX12_keeps_210 rfl (lv_at hl 3 rfl) ?_
  refine lv_iload hx hb dX12_keeps_211 (lv_at hl 0 rfl) ?_
  refine lv_if_eq (tgt := 225) hx hb dX12_keeps_213 (by decide) (fun c47 => ?_) (fun c47 => ?_)
  · have hf := itp c47 hf
    refine lv_lload hx hb dX12_keeps_225 (lv_at hl 4 rfl) ?_
    refine lv_ldc2 (v := 68719476735) hx hb X.o (X.t _ kc_RX12_473) dX12_keeps_227 ?_
    refine lv_land hx hb dX12_keeps_230 ?_
    exact b_X12_keeps_231 X hr hk K143 hK143 x1 x3 x4 t0 ((x4 &&& (68719476735 : Int64))) x3 s46 _ hf _ _ _ Z (lv_sub hl [1, 2, 3, 4, 0] rfl)
  · have hf := itn c47 hf
    refine lv_lload hx hb dX12_keeps_216 (lv_at hl 4 rfl) ?_
    refine lv_ldc2 (v := 16777215) hx hb X.o (X.t _ kc_RX12_454) dX12_keeps_218 ?_
    refine lv_land hx hb dX12_keeps_221 ?_
    refine lv_goto (tgt := 231) hx hb dX12_keeps_222 (by decide) ?_
    exact b_X12_keeps_231 X hr hk K143 hK143 x1 x3 x4 t0 ((x4 &&& (16777215 : Int64))) x3 s46 _ hf _ _ _ Z (lv_sub hl [1, 2, 3, 4, 0] rfl)

set_option maxRecDepth 100000 in
set_option maxHeartbeats 4000000 in
theorem b_X12_keeps_143b {p : Program} {l : Launch} {e : Env} {s : State} {m : MethodId} {args : Array Value} {below : List Frame} {meth : Method} {c : Code} {D : va_G} {h : Nat → Nat} {cy : Nat → ClassId} (X : Cx p s m args c D h cy RX12 cX12_keeps 10) (hr : meth.sig.returnType = none) (hk : meth.locks = false) (K143 : (Int32 × Int32 × St) → Option (St)) (hK143 : ∀ (a : Int32 × Int32 × St) (y : St), K143 a = some y → ∀ (H : Heap) (locs : List Loc) (ls : Array Slot), Zt D h cy s a.2.2 H locs → lv_has ls 10 [(0, .ref (h 68)), (1, .int a.1), (3, .int a.2.1)] → W p l e (rmz 3 76) s m args below meth c H locs 0 0 (EV below args s D h cy y) (F0 m 143 ls [])) (x1 : Int32) (x3 : Int32) (σ : St) (y : St) (hf : f_X12_keeps_143b K143 x1 x3 σ = some y) : ∀ (H : Heap) (locs : List Loc) (ls : Array Slot), Zt D h cy s σ H locs → lv_has ls 10 [(0, .ref (h 68)), (1, .int x1), (3, .int x3)] → W p l e (rmz 3 76) s m args below meth c H locs 0 0 (EV below args s D h cy y) (F0 m 143 ls []) := by
  intro H locs ls Z hl
  have hx := X.x
  have hb := X.b
  unfold f_X12_keeps_143b at hf
  refine lv_iload_n hx hb dX12_keeps_143 rfl (lv_at hl 2 rfl) ?_
  refine lv_aload_n hx hb dX12_keeps_144 rfl (lv_at hl 0 rfl) ?_
  refine gf_RX12_416 X Z dX12_keeps_145 ?_
  refine lv_icmp_ge (tgt := 386) hx hb dX12_keeps_148 (by decide) (fun c7 => ?_) (fun c7 => ?_)
  · have hf := itp c7 hf
    refine lv_iconst (v := 0) hx hb dX12_keeps_386 (by decide) ?_
    refine lv_topi (fun v8 ev8 => ?_)
    have hf := zn_e ev8 hf
    refine lv_istore_n (lv' := [(3, .int v8), (0, .ref (h 68)), (1, .int x1)]) hx hb dX12_keeps_387 rfl hl (by decide) rfl (fun ls hl => ?_)
    exact b_X12_keeps_388 X hr hk x1 v8 σ _ hf _ _ _ Z (lv_sub hl [1, 2, 0] rfl)
  · have hf := itn c7 hf
    refine lv_aload_n hx hb dX12_keeps_151 rfl (lv_at hl 0 rfl) ?_
    refine gf_RX12_104 X Z dX12_keeps_152 ?_
    refine lv_iload_n hx hb dX12_keeps_155 rfl (lv_at hl 2 rfl) ?_
    obtain ⟨g37, hf⟩ := gd_s hf
    refine x_lald (k := 95) X Z sh_95 g37 dX12_keeps_156 ?_
    refine lv_topl (fun v38 ev38 => ?_)
    have hf := zn_e ev38 hf
    refine lv_lstore (lv' := [(4, .long v38), (0, .ref (h 68)), (1, .int x1), (3, .int x3)]) hx hb dX12_keeps_157 hl (by decide) rfl (fun ls hl => ?_)
    refine lv_lload hx hb dX12_keeps_159 (lv_at hl 0 rfl) ?_
    refine lv_lconst (v := 0) hx hb dX12_keeps_161 (by decide) ?_
    refine x_lif_ge (tgt := 170) X dX12_keeps_162 dX12_keeps_163 (by decide) (fun c39 => ?_) (fun c39 => ?_)
    · have hf := itp c39 hf
      refine lv_iconst (v := 0) hx hb dX12_keeps_170 (by decide) ?_
      exact b_X12_keeps_171 X hr hk K143 hK143 x1 x3 v38 (0 : Int32) σ _ hf _ _ _ Z (lv_sub hl [1, 2, 3, 0] rfl)
    · have hf := itn c39 hf
      refine lv_iconst (v := 1) hx hb dX12_keeps_166 (by decide) ?_
      refine lv_goto (tgt := 171) hx hb dX12_keeps_167 (by decide) ?_
      exact b_X12_keeps_171 X hr hk K143 hK143 x1 x3 v38 (1 : Int32) σ _ hf _ _ _ Z (lv_sub hl [1, 2, 3, 0] rfl)

set_option maxRecDepth 100000 in
set_option maxHeartbeats 4000000 in
theorem b_X12_keeps_143 {p : Program} {l : Launch} {e : Env} {s : State} {m : MethodId} {args : Array Value} {below : List Frame} {meth : Method} {c : Code} {D : va_G} {h : Nat → Nat} {cy : Nat → ClassId} (X : Cx p s m args c D h cy RX12 cX12_keeps 10) (hr : meth.sig.returnType = none) (hk : meth.locks = false) (x1 : Int32) (x3 : Int32) (σ : St) (y : St) (hf : f_X12_keeps_143 x1 x3 σ = some y) : ∀ (H : Heap) (locs : List Loc) (ls : Array Slot), Zt D h cy s σ H locs → lv_has ls 10 [(0, .ref (h 68)), (1, .int x1), (3, .int x3)] → W p l e (rmz 3 76) s m args below meth c H locs 0 0 (EV below args s D h cy y) (F0 m 143 ls []) := by
  exact it_W (F := fun K a => f_X12_keeps_143b K a.1 a.2.1 a.2.2) (P := fun a y => ∀ (H : Heap) (locs : List Loc) (ls : Array Slot), Zt D h cy s a.2.2 H locs → lv_has ls 10 [(0, .ref (h 68)), (1, .int a.1), (3, .int a.2.1)] → W p l e (rmz 3 76) s m args below meth c H locs 0 0 (EV below args s D h cy y) (F0 m 143 ls [])) (fun K hK a y hf => b_X12_keeps_143b X hr hk K hK (a.1) (a.2.1) (a.2.2) y hf) FU _ y hf

set_option maxRecDepth 100000 in
set_option maxHeartbeats 4000000 in
theorem b_X12_keeps_110 {p : Program} {l : Launch} {e : Env} {s : State} {m : MethodId} {args : Array Value} {below : List Frame} {meth : Method} {c : Code} {D : va_G} {h : Nat → Nat} {cy : Nat → ClassId} (X : Cx p s m args c D h cy RX12 cX12_keeps 10) (hr : meth.sig.returnType = none) (hk : meth.locks = false) (K57 : (Int32 × Int32 × Int32 × Int32 × St) → Option (St)) (hK57 : ∀ (a : Int32 × Int32 × Int32 × Int32 × St) (y : St), K57 a = some y → ∀ (H : Heap) (locs : List Loc) (ls : Array Slot), Zt D h cy s a.2.2.2.2 H locs → lv_has ls 10 [(0, .ref (h 68)), (1, .int a.1), (2, .int a.2.1), (3, .int a.2.2.1), (4, .int a.2.2.2.1)] → W p l e (rmz 3 76) s m args below meth c H locs 0 0 (EV below args s D h cy y) (F0 m 57 ls [])) (x1 : Int32) (x2 : Int32) (x3 : Int32) (x4 : Int32) (t0 : Int32) (t1 : Int32) (σ : St) (y : St) (hf : f_X12_keeps_110 K57 x1 x2 x3 x4 t0 t1 σ = some y) : ∀ (H : Heap) (locs : List Loc) (ls : Array Slot), Zt D h cy s σ H locs → lv_has ls 10 [(0, .ref (h 68)), (1, .int x1), (2, .int x2), (3, .int x3), (4, .int x4)] → W p l e (rmz 3 76) s m args below meth c H locs 0 0 (EV below args s D h cy y) (F0 m 110 ls [.int t0, .int t1, .ref (h 101)]) := by
  intro H locs ls Z hl
  have hx := X.x
  have hb := X.b
  unfold f_X12_keeps_110 at hf
  obtain ⟨g89, hf⟩ := gd_s hf
  refine x_iast (k := 101) X Z sh_101 g89 dX12_keeps_110 (fun s90 H locs es90 Z => ?_)
  have hf := zn_e es90 hf
  obtain ⟨v91, ev91⟩ : ∃ z : Int32, z = x4 + 1 := ⟨_, rfl⟩
  have hf := zn_e ev91 hf
  refine lv_iinc (v := v91) (lv' := [(4, .int v91), (0, .ref (h 68)), (1, .int x1), (2, .int x2), (3, .int x3)]) hx hb dX12_keeps_111 hl (k := 4) rfl (by rw [ev91]; rfl) (by decide) rfl (fun ls hl => ?_)
  refine lv_goto (tgt := 57) hx hb dX12_keeps_114 (by decide) ?_
  exact hK57 (x1, x2, x3, v91, s90) _ hf _ _ _ Z (lv_sub hl [1, 2, 3, 4, 0] rfl)

set_option maxRecDepth 100000 in
set_option maxHeartbeats 4000000 in
theorem b_X12_keeps_57b {p : Program} {l : Launch} {e : Env} {s : State} {m : MethodId} {args : Array Value} {below : List Frame} {meth : Method} {c : Code} {D : va_G} {h : Nat → Nat} {cy : Nat → ClassId} (X : Cx p s m args c D h cy RX12 cX12_keeps 10) (hr : meth.sig.returnType = none) (hk : meth.locks = false) (K12 : (Int32 × Int32 × Int32 × St) → Option (St)) (hK12 : ∀ (a : Int32 × Int32 × Int32 × St) (y : St), K12 a = some y → ∀ (H : Heap) (locs : List Loc) (ls : Array Slot), Zt D h cy s a.2.2.2 H locs → lv_has ls 10 [(0, .ref (h 68)), (1, .int a.1), (2, .int a.2.1), (3, .int a.2.2.1)] → W p l e (rmz 3 76) s m args below meth c H locs 0 0 (EV below args s D h cy y) (F0 m 12 ls [])) (K57 : (Int32 × Int32 × Int32 × Int32 × St) → Option (St)) (hK57 : ∀ (a : Int32 × Int32 × Int32 × Int32 × St) (y : St), K57 a = some y → ∀ (H : Heap) (locs : List Loc) (ls : Array Slot), Zt D h cy s a.2.2.2.2 H locs → lv_has ls 10 [(0, .ref (h 68)), (1, .int a.1), (2, .int a.2.1), (3, .int a.2.2.1), (4, .int a.2.2.2.1)] → W p l e (rmz 3 76) s m args below meth c H locs 0 0 (EV below args s D h cy y) (F0 m 57 ls [])) (x1 : Int32) (x2 : Int32) (x3 : Int32) (x4 : Int32) (σ : St) (y : St) (hf : f_X12_keeps_57b K12 K57 x1 x2 x3 x4 σ = some y) : ∀ (H : Heap) (locs : List Loc) (ls : Array Slot), Zt D h cy s σ H locs → lv_has ls 10 [(0, .ref (h 68)), (1, .int x1), (2, .int x2), (3, .int x3), (4, .int x4)] → W p l e (rmz 3 76) s m args below meth c H locs 0 0 (EV below args s D h cy y) (F0 m 57 ls []) := by
  intro H locs ls Z hl
  have hx := X.x
  have hb := X.b
  unfold f_X12_keeps_57b at hf
  refine lv_iload hx hb dX12_keeps_57 (lv_at hl 4 rfl) ?_
  refine lv_i2l (v := x4.toInt64) hx hb dX12_keeps_59 rfl ?_
  refine lv_aload_n hx hb dX12_keeps_60 rfl (lv_at hl 0 rfl) ?_
  refine gf_RX12_95 X Z dX12_keeps_61 ?_
  refine lv_iload_n hx hb dX12_keeps_64 rfl (lv_at hl 3 rfl) ?_
  obtain ⟨g82, hf⟩ := gd_s hf
  refine x_lald (k := 92) X Z sh_92 g82 dX12_keeps_65 ?_
  refine x_lif_ge (tgt := 117) X dX12_keeps_66 dX12_keeps_67 (by decide) (fun c83 => ?_) (fun c83 => ?_)
  · have hf := itp c83 hf
    refine lv_iload_n hx hb dX12_keeps_117 rfl (lv_at hl 2 rfl) ?_
    refine lv_aload_n hx hb dX12_keeps_118 rfl (lv_at hl 0 rfl) ?_
    refine gf_RX12_95 X Z dX12_keeps_119 ?_
    refine lv_iload_n hx hb dX12_keeps_122 rfl (lv_at hl 3 rfl) ?_
    obtain ⟨g84, hf⟩ := gd_s hf
    refine x_lald (k := 92) X Z sh_92 g84 dX12_keeps_123 ?_
    refine lv_l2i (v := (σ.2 92 x3.toNatClampNeg).toInt32) hx hb dX12_keeps_124 rfl ?_
    refine lv_iadd hx hb dX12_keeps_125 ?_
    refine lv_topi (fun v85 ev85 => ?_)
    have hf := zn_e ev85 hf
    refine lv_istore_n (lv' := [(2, .int v85), (0, .ref (h 68)), (1, .int x1), (3, .int x3), (4, .int x4)]) hx hb dX12_keeps_126 rfl hl (by decide) rfl (fun ls hl => ?_)
    obtain ⟨v86, ev86⟩ : ∃ z : Int32, z = x3 + 1 := ⟨_, rfl⟩
    have hf := zn_e ev86 hf
    refine lv_iinc (v := v86) (lv' := [(3, .int v86), (2, .int v85), (0, .ref (h 68)), (1, .int x1), (4, .int x4)]) hx hb dX12_keeps_127 hl (k := 3) rfl (by rw [ev86]; rfl) (by decide) rfl (fun ls hl => ?_)
    refine lv_goto (tgt := 12) hx hb dX12_keeps_130 (by decide) ?_
    exact hK12 (x1, v85, v86, σ) _ hf _ _ _ Z (lv_sub hl [2, 3, 1, 0] rfl)
  · have hf := itn c83 hf
    refine lv_aload_n hx hb dX12_keeps_70 rfl (lv_at hl 0 rfl) ?_
    refine gf_RX12_122 X Z dX12_keeps_71 ?_
    refine lv_iload_n hx hb dX12_keeps_74 rfl (lv_at hl 2 rfl) ?_
    refine lv_iload hx hb dX12_keeps_75 (lv_at hl 4 rfl) ?_
    refine lv_iadd hx hb dX12_keeps_77 ?_
    refine lv_iload hx hb dX12_keeps_78 (lv_at hl 4 rfl) ?_
    refine lv_i2l (v := x4.toInt64) hx hb dX12_keeps_80 rfl ?_
    refine lv_aload_n hx hb dX12_keeps_81 rfl (lv_at hl 0 rfl) ?_
    refine gf_RX12_101 X Z dX12_keeps_82 ?_
    refine lv_iload_n hx hb dX12_keeps_85 rfl (lv_at hl 3 rfl) ?_
    obtain ⟨g87, hf⟩ := gd_s hf
    refine x_lald (k := 94) X Z sh_94 g87 dX12_keeps_86 ?_
    refine x_lif_ge (tgt := 109) X dX12_keeps_87 dX12_keeps_88 (by decide) (fun c88 => ?_) (fun c88 => ?_)
    · have hf := itp c88 hf
      refine lv_iconst (v := 0) hx hb dX12_keeps_109 (by decide) ?_
      exact b_X12_keeps_110 X hr hk K57 hK57 x1 x2 x3 x4 (0 : Int32) (x2 + x4) σ _ hf _ _ _ Z (lv_sub hl [0, 1, 2, 3, 4] rfl)
    · have hf := itn c88 hf
      refine lv_aload_n hx hb dX12_keeps_91 rfl (lv_at hl 0 rfl) ?_
      refine gf_RX12_77 X Z dX12_keeps_92 ?_
      refine lv_aload_n hx hb dX12_keeps_95 rfl (lv_at hl 0 rfl) ?_
      refine gf_RX12_98 X Z dX12_keeps_96 ?_
      refine lv_iload_n hx hb dX12_keeps_99 rfl (lv_at hl 3 rfl) ?_
      obtain ⟨g92, hf⟩ := gd_s hf
      refine x_lald (k := 93) X Z sh_93 g92 dX12_keeps_100 ?_
      refine lv_l2i (v := (σ.2 93 x3.toNatClampNeg).toInt32) hx hb dX12_keeps_101 rfl ?_
      refine lv_iload hx hb dX12_keeps_102 (lv_at hl 4 rfl) ?_
      refine lv_iadd hx hb dX12_keeps_104 ?_
      obtain ⟨g93, hf⟩ := gd_s hf
      refine x_iald (k := 88) X Z sh_88 g93 dX12_keeps_105 ?_
      refine lv_goto (tgt := 110) hx hb dX12_keeps_106 (by decide) ?_
      exact b_X12_keeps_110 X hr hk K57 hK57 x1 x2 x3 x4 ((σ.1 88 (((σ.2 93 x3.toNatClampNeg).toInt32 + x4)).toNatClampNeg)) (x2 + x4) σ _ hf _ _ _ Z (lv_sub hl [0, 1, 2, 3, 4] rfl)

set_option maxRecDepth 100000 in
set_option maxHeartbeats 4000000 in
theorem b_X12_keeps_57 {p : Program} {l : Launch} {e : Env} {s : State} {m : MethodId} {args : Array Value} {below : List Frame} {meth : Method} {c : Code} {D : va_G} {h : Nat → Nat} {cy : Nat → ClassId} (X : Cx p s m args c D h cy RX12 cX12_keeps 10) (hr : meth.sig.returnType = none) (hk : meth.locks = false) (K12 : (Int32 × Int32 × Int32 × St) → Option (St)) (hK12 : ∀ (a : Int32 × Int32 × Int32 × St) (y : St), K12 a = some y → ∀ (H : Heap) (locs : List Loc) (ls : Array Slot), Zt D h cy s a.2.2.2 H locs → lv_has ls 10 [(0, .ref (h 68)), (1, .int a.1), (2, .int a.2.1), (3, .int a.2.2.1)] → W p l e (rmz 3 76) s m args below meth c H locs 0 0 (EV below args s D h cy y) (F0 m 12 ls [])) (x1 : Int32) (x2 : Int32) (x3 : Int32) (x4 : Int32) (σ : St) (y : St) (hf : f_X12_keeps_57 K12 x1 x2 x3 x4 σ = some y) : ∀ (H : Heap) (locs : List Loc) (ls : Array Slot), Zt D h cy s σ H locs → lv_has ls 10 [(0, .ref (h 68)), (1, .int x1), (2, .int x2), (3, .int x3), (4, .int x4)] → W p l e (rmz 3 76) s m args below meth c H locs 0 0 (EV below args s D h cy y) (F0 m 57 ls []) := by
  exact it_W (F := fun K a => f_X12_keeps_57b K12 K a.1 a.2.1 a.2.2.1 a.2.2.2.1 a.2.2.2.2) (P := fun a y => ∀ (H : Heap) (locs : List Loc) (ls : Array Slot), Zt D h cy s a.2.2.2.2 H locs → lv_has ls 10 [(0, .ref (h 68)), (1, .int a.1), (2, .int a.2.1), (3, .int a.2.2.1), (4, .int a.2.2.2.1)] → W p l e (rmz 3 76) s m args below meth c H locs 0 0 (EV below args s D h cy y) (F0 m 57 ls [])) (fun K hK a y hf => b_X12_keeps_57b X hr hk K12 hK12 K hK (a.1) (a.2.1) (a.2.2.1) (a.2.2.2.1) (a.2.2.2.2) y hf) FU _ y hf

set_option maxRecDepth 100000 in
set_option maxHeartbeats 4000000 in
theorem b_X12_keeps_12b {p : Program} {l : Launch} {e : Env} {s : State} {m : MethodId} {args : Array Value} {below : List Frame} {meth : Method} {c : Code} {D : va_G} {h : Nat → Nat} {cy : Nat → ClassId} (X : Cx p s m args c D h cy RX12 cX12_keeps 10) (hr : meth.sig.returnType = none) (hk : meth.locks = false) (K12 : (Int32 × Int32 × Int32 × St) → Option (St)) (hK12 : ∀ (a : Int32 × Int32 × Int32 × St) (y : St), K12 a = some y → ∀ (H : Heap) (locs : List Loc) (ls : Array Slot), Zt D h cy s a.2.2.2 H locs → lv_has ls 10 [(0, .ref (h 68)), (1, .int a.1), (2, .int a.2.1), (3, .int a.2.2.1)] → W p l e (rmz 3 76) s m args below meth c H locs 0 0 (EV below args s D h cy y) (F0 m 12 ls [])) (x1 : Int32) (x2 : Int32) (x3 : Int32) (σ : St) (y : St) (hf : f_X12_keeps_12b K12 x1 x2 x3 σ = some y) : ∀ (H : Heap) (locs : List Loc) (ls : Array Slot), Zt D h cy s σ H locs → lv_has ls 10 [(0, .ref (h 68)), (1, .int x1), (2, .int x2), (3, .int x3)] → W p l e (rmz 3 76) s m args below meth c H locs 0 0 (EV below args s D h cy y) (F0 m 12 ls []) := by
  intro H locs ls Z hl
  have hx := X.x
  have hb := X.b
  unfold f_X12_keeps_12b at hf
  refine lv_iload_n hx hb dX12_keeps_12 rfl (lv_at hl 3 rfl) ?_
  refine lv_aload_n hx hb dX12_keeps_13 rfl (lv_at hl 0 rfl) ?_
  refine gf_RX12_341 X Z dX12_keeps_14 ?_
  refine lv_icmp_ge (tgt := 133) hx hb dX12_keeps_17 (by decide) (fun c4 => ?_) (fun c4 => ?_)
  · have hf := itp c4 hf
    refine lv_aload_n hx hb dX12_keeps_133 rfl (lv_at hl 0 rfl) ?_
    refine lv_aload_n hx hb dX12_keeps_134 rfl (lv_at hl 0 rfl) ?_
    refine gf_RX12_416 X Z dX12_keeps_135 ?_
    refine pf_RX12_470 X Z dX12_keeps_138 (fun s5 H locs es5 Z => ?_)
    have hf := zn_e es5 hf
    refine lv_iconst (v := 0) hx hb dX12_keeps_141 (by decide) ?_
    refine lv_topi (fun v6 ev6 => ?_)
    have hf := zn_e ev6 hf
    refine lv_istore_n (lv' := [(3, .int v6), (0, .ref (h 68)), (1, .int x1), (2, .int x2)]) hx hb dX12_keeps_142 rfl hl (by decide) rfl (fun ls hl => ?_)
    exact b_X12_keeps_143 X hr hk x1 v6 s5 _ hf _ _ _ Z (lv_sub hl [1, 2, 0] rfl)
  · have hf := itn c4 hf
    refine lv_aload_n hx hb dX12_keeps_20 rfl (lv_at hl 0 rfl) ?_
    refine gf_RX12_113 X Z dX12_keeps_21 ?_
    refine lv_iload_n hx hb dX12_keeps_24 rfl (lv_at hl 3 rfl) ?_
    refine lv_aload_n hx hb dX12_keeps_25 rfl (lv_at hl 0 rfl) ?_
    refine gf_RX12_92 X Z dX12_keeps_26 ?_
    refine lv_iload_n hx hb dX12_keeps_29 rfl (lv_at hl 3 rfl) ?_
    obtain ⟨g73, hf⟩ := gd_s hf
    refine x_lald (k := 91) X Z sh_91 g73 dX12_keeps_30 ?_
    refine lv_iload_n hx hb dX12_keeps_31 rfl (lv_at hl 1 rfl) ?_
    refine lv_i2l (v := x1.toInt64) hx hb dX12_keeps_32 rfl ?_
    refine lv_ladd hx hb dX12_keeps_33 ?_
    obtain ⟨g74, hf⟩ := gd_s hf
    refine x_last (k := 98) X Z sh_98 g74 dX12_keeps_34 (fun s75 H locs es75 Z => ?_)
    have hf := zn_e es75 hf
    refine lv_aload_n hx hb dX12_keeps_35 rfl (lv_at hl 0 rfl) ?_
    refine gf_RX12_116 X Z dX12_keeps_36 ?_
    refine lv_iload_n hx hb dX12_keeps_39 rfl (lv_at hl 3 rfl) ?_
    refine lv_aload_n hx hb dX12_keeps_40 rfl (lv_at hl 0 rfl) ?_
    refine gf_RX12_95 X Z dX12_keeps_41 ?_
    refine lv_iload_n hx hb dX12_keeps_44 rfl (lv_at hl 3 rfl) ?_
    obtain ⟨g76, hf⟩ := gd_s hf
    refine x_lald (k := 92) X Z sh_92 g76 dX12_keeps_45 ?_
    obtain ⟨g77, hf⟩ := gd_s hf
    refine x_last (k := 99) X Z sh_99 g77 dX12_keeps_46 (fun s78 H locs es78 Z => ?_)
    have hf := zn_e es78 hf
    refine lv_aload_n hx hb dX12_keeps_47 rfl (lv_at hl 0 rfl) ?_
    refine gf_RX12_119 X Z dX12_keeps_48 ?_
    refine lv_iload_n hx hb dX12_keeps_51 rfl (lv_at hl 3 rfl) ?_
    refine lv_iload_n hx hb dX12_keeps_52 rfl (lv_at hl 2 rfl) ?_
    obtain ⟨g79, hf⟩ := gd_s hf
    refine x_iast (k := 100) X Z sh_100 g79 dX12_keeps_53 (fun s80 H locs es80 Z => ?_)
    have hf := zn_e es80 hf
    refine lv_iconst (v := 0) hx hb dX12_keeps_54 (by decide) ?_
    refine lv_topi (fun v81 ev81 => ?_)
    have hf := zn_e ev81 hf
    refine lv_istore (lv' := [(4, .int v81), (0, .ref (h 68)), (1, .int x1), (2, .int x2), (3, .int x3)]) hx hb dX12_keeps_55 hl (by decide) rfl (fun ls hl => ?_)
    exact b_X12_keeps_57 X hr hk K12 hK12 x1 x2 x3 v81 s80 _ hf _ _ _ Z (lv_sub hl [1, 2, 3, 4, 0] rfl)

set_option maxRecDepth 100000 in
set_option maxHeartbeats 4000000 in
theorem b_X12_keeps_12 {p : Program} {l : Launch} {e : Env} {s : State} {m : MethodId} {args : Array Value} {below : List Frame} {meth : Method} {c : Code} {D : va_G} {h : Nat → Nat} {cy : Nat → ClassId} (X : Cx p s m args c D h cy RX12 cX12_keeps 10) (hr : meth.sig.returnType = none) (hk : meth.locks = false) (x1 : Int32) (x2 : Int32) (x3 : Int32) (σ : St) (y : St) (hf : f_X12_keeps_12 x1 x2 x3 σ = some y) : ∀ (H : Heap) (locs : List Loc) (ls : Array Slot), Zt D h cy s σ H locs → lv_has ls 10 [(0, .ref (h 68)), (1, .int x1), (2, .int x2), (3, .int x3)] → W p l e (rmz 3 76) s m args below meth c H locs 0 0 (EV below args s D h cy y) (F0 m 12 ls []) := by
  exact it_W (F := fun K a => f_X12_keeps_12b K a.1 a.2.1 a.2.2.1 a.2.2.2) (P := fun a y => ∀ (H : Heap) (locs : List Loc) (ls : Array Slot), Zt D h cy s a.2.2.2 H locs → lv_has ls 10 [(0, .ref (h 68)), (1, .int a.1), (2, .int a.2.1), (3, .int a.2.2.1)] → W p l e (rmz 3 76) s m args below meth c H locs 0 0 (EV below args s D h cy y) (F0 m 12 ls [])) (fun K hK a y hf => b_X12_keeps_12b X hr hk K hK (a.1) (a.2.1) (a.2.2.1) (a.2.2.2) y hf) FU _ y hf

set_option maxRecDepth 100000 in
set_option maxHeartbeats 4000000 in
theorem c_X12_keeps (l : Launch) (D : va_G) (h : Nat → Nat) (cy : Nat → ClassId) (a1 : Int32) (σ : St) (y : St) (hf : f_X12_keeps a1 σ = some y) : CV l yX12_keeps cX12_keeps 10 none 3 76 D h cy [.ref (h 68), .int a1] σ y := by
  refine ent (Qc := fun sz => QV D h cy sz y) (by decide) (Nat.le_of_ble_eq_true rfl) ?_
  intro p e s m below meth c ls X Z hr hk hl
  have X : Cx p s m _ c D h cy RX12 cX12_keeps 10 := X
  have hx := X.x
  have hb := X.b
  have hl : lv_has ls 10 [(0, .ref (h 68)), (1, .int a1)] := hl
  unfold f_X12_keeps at hf
  refine lv_aload_n hx hb dX12_keeps_0 rfl (lv_at hl 0 rfl) ?_
  refine lv_aload_n hx hb dX12_keeps_1 rfl (lv_at hl 0 rfl) ?_
  refine gf_RX12_341 X Z dX12_keeps_2 ?_
  refine pf_RX12_467 X Z dX12_keeps_5 (fun s1 H locs es1 Z => ?_)
  have hf := zn_e es1 hf
  refine lv_iconst (v := 0) hx hb dX12_keeps_8 (by decide) ?_
  refine lv_topi (fun v2 ev2 => ?_)
  have hf := zn_e ev2 hf
  refine lv_istore_n (lv' := [(2, .int v2), (0, .ref (h 68)), (1, .int a1)]) hx hb dX12_keeps_9 rfl hl (by decide) rfl (fun ls hl => ?_)
  refine lv_iconst (v := 0) hx hb dX12_keeps_10 (by decide) ?_
  refine lv_topi (fun v3 ev3 => ?_)
  have hf := zn_e ev3 hf
  refine lv_istore_n (lv' := [(3, .int v3), (2, .int v2), (0, .ref (h 68)), (1, .int a1)]) hx hb dX12_keeps_11 rfl hl (by decide) rfl (fun ls hl => ?_)
  exact b_X12_keeps_12 X hr hk a1 v2 v3 s1 _ hf _ _ _ Z (lv_sub hl [2, 3, 1, 0] rfl)

set_option maxRecDepth 100000 in
set_option maxHeartbeats 4000000 in
theorem c_X12_load (l : Launch) (D : va_G) (h : Nat → Nat) (cy : Nat → ClassId) (a1 : Int32) (σ : St) (y : Int32 × St) (hf : f_X12_load a1 σ = some y) : CI l yX12_load cX12_load 2 (some .int) 5 140 D h cy [.ref (h 68), .int a1] σ y := by
  refine ent (Qc := fun sz => QI D h cy sz y) (by decide) (Nat.le_of_ble_eq_true rfl) ?_
  intro p e s m below meth c ls X Z hr hk hl
  have X : Cx p s m _ c D h cy RX12 cX12_load 2 := X
  have hx := X.x
  have hb := X.b
  have hl : lv_has ls 2 [(0, .ref (h 68)), (1, .int a1)] := hl
  unfold f_X12_load at hf
  refine lv_aload_n hx hb dX12_load_0 rfl (lv_at hl 0 rfl) ?_
  refine lv_iconst (v := 0) hx hb dX12_load_1 (by decide) ?_
  refine pf_RX12_149 X Z dX12_load_2 (fun s1 H locs es1 Z => ?_)
  have hf := zn_e es1 hf
  refine lv_aload_n hx hb dX12_load_5 rfl (lv_at hl 0 rfl) ?_
  refine lv_iconst (v := 0) hx hb dX12_load_6 (by decide) ?_
  refine pf_RX12_313 X Z dX12_load_7 (fun s2 H locs es2 Z => ?_)
  have hf := zn_e es2 hf
  refine lv_aload_n hx hb dX12_load_10 rfl (lv_at hl 0 rfl) ?_
  refine lv_ldc2 (v := (-1)) hx hb X.o (X.t _ kc_RX12_86) dX12_load_11 ?_
  refine pf_RX12_88 X Z dX12_load_14 (fun s3 H locs es3 Z => ?_)
  have hf := zn_e es3 hf
  refine lv_aload_n hx hb dX12_load_17 rfl (lv_at hl 0 rfl) ?_
  obtain ⟨r6, s5, h4, hf⟩ := bi_s hf
  refine goI Z (run_V (As := []) (rest := []) X Z (c_X12_reads l D h cy s3 (r6, s5) h4 _) lk_RX12_325 ⟨by decide, by decide⟩ rv_68 rfl hl.1 rfl (Nat.le_of_ble_eq_true rfl) ⟨Nat.le_refl _, Nat.le_refl _⟩ dX12_load_18) (fun H locs Z => ?_)
  refine lv_if_eq (tgt := 52) hx hb dX12_load_21 (by decide) (fun c7 => ?_) (fun c7 => ?_)
  · have hf := itp c7 hf
    refine lv_aload_n hx hb dX12_load_52 rfl (lv_at hl 0 rfl) ?_
    refine gf_RX12_313 X Z dX12_load_53 ?_
    exact retI X hr hk Z hf dX12_load_56
  · have hf := itn c7 hf
    refine lv_aload_n hx hb dX12_load_24 rfl (lv_at hl 0 rfl) ?_
    obtain ⟨r10, s9, h8, hf⟩ := bi_s hf
    refine goI Z (run_V (As := []) (rest := []) X Z (c_X12_readsSymbols l D h cy s5 (r10, s9) h8 _) lk_RX12_329 ⟨by decide, by decide⟩ rv_68 rfl hl.1 rfl (Nat.le_of_ble_eq_true rfl) ⟨Nat.le_refl _, Nat.le_refl _⟩ dX12_load_25) (fun H locs Z => ?_)
    refine lv_if_eq (tgt := 52) hx hb dX12_load_28 (by decide) (fun c11 => ?_) (fun c11 => ?_)
    · have hf := itp c11 hf
      refine lv_aload_n hx hb dX12_load_52 rfl (lv_at hl 0 rfl) ?_
      refine gf_RX12_313 X Z dX12_load_53 ?_
      exact retI X hr hk Z hf dX12_load_56
    · have hf := itn c11 hf
      refine lv_aload_n hx hb dX12_load_31 rfl (lv_at hl 0 rfl) ?_
      refine lv_iload_n hx hb dX12_load_32 rfl (lv_at hl 1 rfl) ?_
      obtain ⟨r14, s13, h12, hf⟩ := bi_s hf
      refine goI Z (run_V (As := [.int a1]) (rest := []) X Z (c_X12_readsFixups l D h cy a1 s9 (r14, s13) h12 _) lk_RX12_332 ⟨by decide, by decide⟩ rv_68 rfl hl.1 rfl (Nat.le_of_ble_eq_true rfl) ⟨Nat.le_refl _, Nat.le_refl _⟩ dX12_load_33) (fun H locs Z => ?_)
      refine lv_if_eq (tgt := 52) hx hb dX12_load_36 (by decide) (fun c15 => ?_) (fun c15 => ?_)
      · have hf := itp c15 hf
        refine lv_aload_n hx hb dX12_load_52 rfl (lv_at hl 0 rfl) ?_
        refine gf_RX12_313 X Z dX12_load_53 ?_
        exact retI X hr hk Z hf dX12_load_56
      · have hf := itn c15 hf
        refine lv_aload_n hx hb dX12_load_39 rfl (lv_at hl 0 rfl) ?_
        refine lv_iload_n hx hb dX12_load_40 rfl (lv_at hl 1 rfl) ?_
        obtain ⟨r18, s17, h16, hf⟩ := bi_s hf
        refine goI Z (run_V (As := [.int a1]) (rest := []) X Z (c_X12_fits l D h cy a1 s13 (r18, s17) h16 _) lk_RX12_335 ⟨by decide, by decide⟩ rv_68 rfl hl.1 rfl (Nat.le_of_ble_eq_true rfl) ⟨Nat.le_refl _, Nat.le_refl _⟩ dX12_load_41) (fun H locs Z => ?_)
        refine lv_if_eq (tgt := 52) hx hb dX12_load_44 (by decide) (fun c19 => ?_) (fun c19 => ?_)
        · have hf := itp c19 hf
          refine lv_aload_n hx hb dX12_load_52 rfl (lv_at hl 0 rfl) ?_
          refine gf_RX12_313 X Z dX12_load_53 ?_
          exact retI X hr hk Z hf dX12_load_56
        · have hf := itn c19 hf
          refine lv_aload_n hx hb dX12_load_47 rfl (lv_at hl 0 rfl) ?_
          refine lv_iload_n hx hb dX12_load_48 rfl (lv_at hl 1 rfl) ?_
          obtain ⟨s21, h20, hf⟩ := bv_s hf
          refine goV Z (run_V (As := [.int a1]) (rest := []) X Z (c_X12_keeps l D h cy a1 s17 s21 h20 _) lk_RX12_338 ⟨by decide, by decide⟩ rv_68 rfl hl.1 rfl (Nat.le_of_ble_eq_true rfl) ⟨Nat.le_refl _, Nat.le_refl _⟩ dX12_load_49) (fun H locs Z => ?_)
          refine lv_aload_n hx hb dX12_load_52 rfl (lv_at hl 0 rfl) ?_
          refine gf_RX12_313 X Z dX12_load_53 ?_
          exact retI X hr hk Z hf dX12_load_56

set_option maxRecDepth 100000 in
set_option maxHeartbeats 4000000 in
theorem c_X12_place (l : Launch) (D : va_G) (h : Nat → Nat) (cy : Nat → ClassId) (σ : St) (y : Int32 × St) (hf : f_X12_place σ = some y) : CI l yX12_place cX12_place 1 (some .int) 0 0 D h cy [.ref (h 68)] σ y := by
  refine ent (Qc := fun sz => QI D h cy sz y) (by decide) (Nat.le_of_ble_eq_true rfl) ?_
  intro p e s m below meth c ls X Z hr hk hl
  have X : Cx p s m _ c D h cy RX12 cX12_place 1 := X
  have hx := X.x
  have hb := X.b
  have hl : lv_has ls 1 [(0, .ref (h 68))] := hl
  unfold f_X12_place at hf
  refine lv_aload_n hx hb dX12_place_0 rfl (lv_at hl 0 rfl) ?_
  refine lv_iconst (v := 0) hx hb dX12_place_1 (by decide) ?_
  refine pf_RX12_149 X Z dX12_place_2 (fun s1 H locs es1 Z => ?_)
  have hf := zn_e es1 hf
  refine lv_aload_n hx hb dX12_place_5 rfl (lv_at hl 0 rfl) ?_
  refine gf_RX12_88 X Z dX12_place_6 ?_
  refine lv_l2i (v := (s1.2 68 40).toInt32) hx hb dX12_place_9 rfl ?_
  exact retI X hr hk Z hf dX12_place_10

set_option maxRecDepth 100000 in
set_option maxHeartbeats 4000000 in
theorem b_X12_holds_50 {p : Program} {l : Launch} {e : Env} {s : State} {m : MethodId} {args : Array Value} {below : List Frame} {meth : Method} {c : Code} {D : va_G} {h : Nat → Nat} {cy : Nat → ClassId} (X : Cx p s m args c D h cy RX12 cX12_holds 5) (hr : meth.sig.returnType = some .int) (hk : meth.locks = false) (K3 : (Int64 × Int32 × Int32 × St) → Option (Int32 × St)) (hK3 : ∀ (a : Int64 × Int32 × Int32 × St) (y : Int32 × St), K3 a = some y → ∀ (H : Heap) (locs : List Loc) (ls : Array Slot), Zt D h cy s a.2.2.2 H locs → lv_has ls 5 [(0, .ref (h 68)), (1, .long a.1), (3, .int a.2.1), (4, .int a.2.2.1)] → W p l e (rmz 0 0) s m args below meth c H locs 0 0 (EI below args s D h cy y) (F0 m 3 ls [])) (x1 : Int64) (x3 : Int32) (x4 : Int32) (σ : St) (y : Int32 × St) (hf : f_X12_holds_50 K3 x1 x3 x4 σ = some y) : ∀ (H : Heap) (locs : List Loc) (ls : Array Slot), Zt D h cy s σ H locs → lv_has ls 5 [(0, .ref (h 68)), (1, .long x1), (3, .int x3), (4, .int x4)] → W p l e (rmz 0 0) s m args below meth c H locs 0 0 (EI below args s D h cy y) (F0 m 50 ls []) := by
  intro H locs ls Z hl
  have hx := X.x
  have hb := X.b
  unfold f_X12_holds_50 at hf
  obtain ⟨v5, ev5⟩ : ∃ z : Int32, z = x4 + 1 := ⟨_, rfl⟩
  have hf := zn_e ev5 hf
  refine lv_iinc (v := v5) (lv' := [(4, .int v5), (0, .ref (h 68)), (1, .long x1), (3, .int x3)]) hx hb dX12_holds_50 hl (k := 3) rfl (by rw [ev5]; rfl) (by decide) rfl (fun ls hl => ?_)
  refine lv_goto (tgt := 3) hx hb dX12_holds_53 (by decide) ?_
  exact hK3 (x1, x3, v5, σ) _ hf _ _ _ Z (lv_sub hl [1, 2, 3, 0] rfl)

set_option maxRecDepth 100000 in
set_option maxHeartbeats 4000000 in
theorem b_X12_holds_3b {p : Program} {l : Launch} {e : Env} {s : State} {m : MethodId} {args : Array Value} {below : List Frame} {meth : Method} {c : Code} {D : va_G} {h : Nat → Nat} {cy : Nat → ClassId} (X : Cx p s m args c D h cy RX12 cX12_holds 5) (hr : meth.sig.returnType = some .int) (hk : meth.locks = false) (K3 : (Int64 × Int32 × Int32 × St) → Option (Int32 × St)) (hK3 : ∀ (a : Int64 × Int32 × Int32 × St) (y : Int32 × St), K3 a = some y → ∀ (H : Heap) (locs : List Loc) (ls : Array Slot), Zt D h cy s a.2.2.2 H locs → lv_has ls 5 [(0, .ref (h 68)), (1, .long a.1), (3, .int a.2.1), (4, .int a.2.2.1)] → W p l e (rmz 0 0) s m args below meth c H locs 0 0 (EI below args s D h cy y) (F0 m 3 ls [])) (x1 : Int64) (x3 : Int32) (x4 : Int32) (σ : St) (y : Int32 × St) (hf : f_X12_holds_3b K3 x1 x3 x4 σ = some y) : ∀ (H : Heap) (locs : List Loc) (ls : Array Slot), Zt D h cy s σ H locs → lv_has ls 5 [(0, .ref (h 68)), (1, .long x1), (3, .int x3), (4, .int x4)] → W p l e (rmz 0 0) s m args below meth c H locs 0 0 (EI below args s D h cy y) (F0 m 3 ls []) := by
  intro H locs ls Z hl
  have hx := X.x
  have hb := X.b
  unfold f_X12_holds_3b at hf
  refine lv_iload hx hb dX12_holds_3 (lv_at hl 3 rfl) ?_
  refine lv_aload_n hx hb dX12_holds_5 rfl (lv_at hl 0 rfl) ?_
  refine gf_RX12_467 X Z dX12_holds_6 ?_
  refine lv_icmp_ge (tgt := 56) hx hb dX12_holds_9 (by decide) (fun c2 => ?_) (fun c2 => ?_)
  · have hf := itp c2 hf
    refine lv_iconst (v := (-1)) hx hb dX12_holds_56 (by decide) ?_
    exact retI X hr hk Z hf dX12_holds_57
  · have hf := itn c2 hf
    refine lv_lload_n hx hb dX12_holds_12 rfl (lv_at hl 1 rfl) ?_
    refine lv_aload_n hx hb dX12_holds_13 rfl (lv_at hl 0 rfl) ?_
    refine gf_RX12_113 X Z dX12_holds_14 ?_
    refine lv_iload hx hb dX12_holds_17 (lv_at hl 3 rfl) ?_
    obtain ⟨g3, hf⟩ := gd_s hf
    refine x_lald (k := 98) X Z sh_98 g3 dX12_holds_19 ?_
    refine x_lif_lt (tgt := 50) X dX12_holds_20 dX12_holds_21 (by decide) (fun c4 => ?_) (fun c4 => ?_)
    · have hf := itp c4 hf
      exact b_X12_holds_50 X hr hk K3 hK3 x1 x3 x4 σ _ hf _ _ _ Z (lv_sub hl [0, 1, 2, 3] rfl)
    · have hf := itn c4 hf
      refine lv_lload_n hx hb dX12_holds_24 rfl (lv_at hl 1 rfl) ?_
      refine lv_iload_n hx hb dX12_holds_25 rfl (lv_at hl 2 rfl) ?_
      refine lv_i2l (v := x3.toInt64) hx hb dX12_holds_26 rfl ?_
      refine lv_ladd hx hb dX12_holds_27 ?_
      refine lv_aload_n hx hb dX12_holds_28 rfl (lv_at hl 0 rfl) ?_
      refine gf_RX12_113 X Z dX12_holds_29 ?_
      refine lv_iload hx hb dX12_holds_32 (lv_at hl 3 rfl) ?_
      obtain ⟨g6, hf⟩ := gd_s hf
      refine x_lald (k := 98) X Z sh_98 g6 dX12_holds_34 ?_
      refine lv_aload_n hx hb dX12_holds_35 rfl (lv_at hl 0 rfl) ?_
      refine gf_RX12_116 X Z dX12_holds_36 ?_
      refine lv_iload hx hb dX12_holds_39 (lv_at hl 3 rfl) ?_
      obtain ⟨g7, hf⟩ := gd_s hf
      refine x_lald (k := 99) X Z sh_99 g7 dX12_holds_41 ?_
      refine lv_ladd hx hb dX12_holds_42 ?_
      refine x_lif_gt (tgt := 50) X dX12_holds_43 dX12_holds_44 (by decide) (fun c8 => ?_) (fun c8 => ?_)
      · have hf := itp c8 hf
        exact b_X12_holds_50 X hr hk K3 hK3 x1 x3 x4 σ _ hf _ _ _ Z (lv_sub hl [0, 1, 2, 3] rfl)
      · have hf := itn c8 hf
        refine lv_iload hx hb dX12_holds_47 (lv_at hl 3 rfl) ?_
        exact retI X hr hk Z hf dX12_holds_49

set_option maxRecDepth 100000 in
set_option maxHeartbeats 4000000 in
theorem b_X12_holds_3 {p : Program} {l : Launch} {e : Env} {s : State} {m : MethodId} {args : Array Value} {below : List Frame} {meth : Method} {c : Code} {D : va_G} {h : Nat → Nat} {cy : Nat → ClassId} (X : Cx p s m args c D h cy RX12 cX12_holds 5) (hr : meth.sig.returnType = some .int) (hk : meth.locks = false) (x1 : Int64) (x3 : Int32) (x4 : Int32) (σ : St) (y : Int32 × St) (hf : f_X12_holds_3 x1 x3 x4 σ = some y) : ∀ (H : Heap) (locs : List Loc) (ls : Array Slot), Zt D h cy s σ H locs → lv_has ls 5 [(0, .ref (h 68)), (1, .long x1), (3, .int x3), (4, .int x4)] → W p l e (rmz 0 0) s m args below meth c H locs 0 0 (EI below args s D h cy y) (F0 m 3 ls []) := by
  exact it_W (F := fun K a => f_X12_holds_3b K a.1 a.2.1 a.2.2.1 a.2.2.2) (P := fun a y => ∀ (H : Heap) (locs : List Loc) (ls : Array Slot), Zt D h cy s a.2.2.2 H locs → lv_has ls 5 [(0, .ref (h 68)), (1, .long a.1), (3, .int a.2.1), (4, .int a.2.2.1)] → W p l e (rmz 0 0) s m args below meth c H locs 0 0 (EI below args s D h cy y) (F0 m 3 ls [])) (fun K hK a y hf => b_X12_holds_3b X hr hk K hK (a.1) (a.2.1) (a.2.2.1) (a.2.2.2) y hf) FU _ y hf

set_option maxRecDepth 100000 in
set_option maxHeartbeats 4000000 in
theorem c_X12_holds (l : Launch) (D : va_G) (h : Nat → Nat) (cy : Nat → ClassId) (a1 : Int64) (a2 : Int32) (σ : St) (y : Int32 × St) (hf : f_X12_holds a1 a2 σ = some y) : CI l yX12_holds cX12_holds 5 (some .int) 0 0 D h cy [.ref (h 68), .long a1, .int a2] σ y := by
  refine ent (Qc := fun sz => QI D h cy sz y) (by decide) (Nat.le_of_ble_eq_true rfl) ?_
  intro p e s m below meth c ls X Z hr hk hl
  have X : Cx p s m _ c D h cy RX12 cX12_holds 5 := X
  have hx := X.x
  have hb := X.b
  have hl : lv_has ls 5 [(0, .ref (h 68)), (1, .long a1), (3, .int a2)] := hl
  unfold f_X12_holds at hf
  refine lv_iconst (v := 0) hx hb dX12_holds_0 (by decide) ?_
  refine lv_topi (fun v1 ev1 => ?_)
  have hf := zn_e ev1 hf
  refine lv_istore (lv' := [(4, .int v1), (0, .ref (h 68)), (1, .long a1), (3, .int a2)]) hx hb dX12_holds_1 hl (by decide) rfl (fun ls hl => ?_)
  exact b_X12_holds_3 X hr hk a1 a2 v1 σ _ hf _ _ _ Z (lv_sub hl [1, 2, 3, 0] rfl)

set_option maxRecDepth 100000 in
set_option maxHeartbeats 4000000 in
theorem c_X12_byteAt (l : Launch) (D : va_G) (h : Nat → Nat) (cy : Nat → ClassId) (a1 : Int32) (a2 : Int64) (σ : St) (y : Int32 × St) (hf : f_X12_byteAt a1 a2 σ = some y) : CI l yX12_byteAt cX12_byteAt 4 (some .int) 0 0 D h cy [.ref (h 68), .int a1, .long a2] σ y := by
  refine ent (Qc := fun sz => QI D h cy sz y) (by decide) (Nat.le_of_ble_eq_true rfl) ?_
  intro p e s m below meth c ls X Z hr hk hl
  have X : Cx p s m _ c D h cy RX12 cX12_byteAt 4 := X
  have hx := X.x
  have hb := X.b
  have hl : lv_has ls 4 [(0, .ref (h 68)), (1, .int a1), (2, .long a2)] := hl
  unfold f_X12_byteAt at hf
  refine lv_aload_n hx hb dX12_byteAt_0 rfl (lv_at hl 0 rfl) ?_
  refine gf_RX12_122 X Z dX12_byteAt_1 ?_
  refine lv_aload_n hx hb dX12_byteAt_4 rfl (lv_at hl 0 rfl) ?_
  refine gf_RX12_119 X Z dX12_byteAt_5 ?_
  refine lv_iload_n hx hb dX12_byteAt_8 rfl (lv_at hl 1 rfl) ?_
  obtain ⟨g1, hf⟩ := gd_s hf
  refine x_iald (k := 100) X Z sh_100 g1 dX12_byteAt_9 ?_
  refine lv_lload_n hx hb dX12_byteAt_10 rfl (lv_at hl 2 rfl) ?_
  refine lv_aload_n hx hb dX12_byteAt_11 rfl (lv_at hl 0 rfl) ?_
  refine gf_RX12_113 X Z dX12_byteAt_12 ?_
  refine lv_iload_n hx hb dX12_byteAt_15 rfl (lv_at hl 1 rfl) ?_
  obtain ⟨g2, hf⟩ := gd_s hf
  refine x_lald (k := 98) X Z sh_98 g2 dX12_byteAt_16 ?_
  refine lv_lsub hx hb dX12_byteAt_17 ?_
  refine lv_l2i (v := ((a2 - (σ.2 98 a1.toNatClampNeg))).toInt32) hx hb dX12_byteAt_18 rfl ?_
  refine lv_iadd hx hb dX12_byteAt_19 ?_
  obtain ⟨g3, hf⟩ := gd_s hf
  refine x_iald (k := 101) X Z sh_101 g3 dX12_byteAt_20 ?_
  exact retI X hr hk Z hf dX12_byteAt_21

set_option maxRecDepth 100000 in
set_option maxHeartbeats 4000000 in
theorem c_X12_memory (l : Launch) (D : va_G) (h : Nat → Nat) (cy : Nat → ClassId) (a1 : Int32) (σ : St) (y : Int32 × St) (hf : f_X12_memory a1 σ = some y) : CI l yX12_memory cX12_memory 3 (some .int) 1 24 D h cy [.ref (h 68), .int a1] σ y := by
  refine ent (Qc := fun sz => QI D h cy sz y) (by decide) (Nat.le_of_ble_eq_true rfl) ?_
  intro p e s m below meth c ls X Z hr hk hl
  have X : Cx p s m _ c D h cy RX12 cX12_memory 3 := X
  have hx := X.x
  have hb := X.b
  have hl : lv_has ls 3 [(0, .ref (h 68)), (1, .int a1)] := hl
  unfold f_X12_memory at hf
  refine lv_aload_n hx hb dX12_memory_0 rfl (lv_at hl 0 rfl) ?_
  refine lv_iconst (v := 0) hx hb dX12_memory_1 (by decide) ?_
  refine pf_RX12_149 X Z dX12_memory_2 (fun s1 H locs es1 Z => ?_)
  have hf := zn_e es1 hf
  refine lv_aload_n hx hb dX12_memory_5 rfl (lv_at hl 0 rfl) ?_
  refine lv_iload_n hx hb dX12_memory_6 rfl (lv_at hl 1 rfl) ?_
  refine lv_i2l (v := a1.toInt64) hx hb dX12_memory_7 rfl ?_
  refine lv_iconst (v := 1) hx hb dX12_memory_8 (by decide) ?_
  obtain ⟨r4, s3, h2, hf⟩ := bi_s hf
  refine goI Z (run_V (As := [.long a1.toInt64, .int (1 : Int32)]) (rest := []) X Z (c_X12_holds l D h cy a1.toInt64 (1 : Int32) s1 (r4, s3) h2 _) lk_RX12_480 ⟨by decide, by decide⟩ rv_68 rfl hl.1 rfl (Nat.le_of_ble_eq_true rfl) ⟨Nat.le_refl _, Nat.le_refl _⟩ dX12_memory_9) (fun H locs Z => ?_)
  refine lv_istore_n (lv' := [(2, .int r4), (0, .ref (h 68)), (1, .int a1)]) hx hb dX12_memory_12 rfl hl (by decide) rfl (fun ls hl => ?_)
  refine lv_iload_n hx hb dX12_memory_13 rfl (lv_at hl 0 rfl) ?_
  refine lv_iconst (v := (-1)) hx hb dX12_memory_14 (by decide) ?_
  refine lv_icmp_ne (tgt := 22) hx hb dX12_memory_15 (by decide) (fun c5 => ?_) (fun c5 => ?_)
  · have hf := itn c5 hf
    refine lv_aload_n hx hb dX12_memory_22 rfl (lv_at hl 1 rfl) ?_
    refine lv_iload_n hx hb dX12_memory_23 rfl (lv_at hl 0 rfl) ?_
    refine lv_iload_n hx hb dX12_memory_24 rfl (lv_at hl 2 rfl) ?_
    refine lv_i2l (v := a1.toInt64) hx hb dX12_memory_25 rfl ?_
    obtain ⟨r8, s7, h6, hf⟩ := bi_s hf
    refine goI Z (run_V (As := [.int r4, .long a1.toInt64]) (rest := []) X Z (c_X12_byteAt l D h cy r4 a1.toInt64 s3 (r8, s7) h6 _) lk_RX12_484 ⟨by decide, by decide⟩ rv_68 rfl hl.1 rfl (Nat.le_of_ble_eq_true rfl) ⟨Nat.le_refl _, Nat.le_refl _⟩ dX12_memory_26) (fun H locs Z => ?_)
    exact retI X hr hk Z hf dX12_memory_29
  · have hf := itp c5 hf
    refine lv_iconst (v := (-1)) hx hb dX12_memory_18 (by decide) ?_
    refine lv_goto (tgt := 29) hx hb dX12_memory_19 (by decide) ?_
    exact retI X hr hk Z hf dX12_memory_29

set_option maxRecDepth 100000 in
set_option maxHeartbeats 4000000 in
theorem b_X12_pointer_38b {p : Program} {l : Launch} {e : Env} {s : State} {m : MethodId} {args : Array Value} {below : List Frame} {meth : Method} {c : Code} {D : va_G} {h : Nat → Nat} {cy : Nat → ClassId} (X : Cx p s m args c D h cy RX12 cX12_pointer 6) (hr : meth.sig.returnType = some .long) (hk : meth.locks = false) (K38 : (Int32 × Int32 × Int64 × Int32 × St) → Option (Int64 × St)) (hK38 : ∀ (a : Int32 × Int32 × Int64 × Int32 × St) (y : Int64 × St), K38 a = some y → ∀ (H : Heap) (locs : List Loc) (ls : Array Slot), Zt D h cy s a.2.2.2.2 H locs → lv_has ls 6 [(0, .ref (h 68)), (1, .int a.1), (2, .int a.2.1), (3, .long a.2.2.1), (5, .int a.2.2.2.1)] → W p l e (rmz 1 24) s m args below meth c H locs 0 0 (EL below args s D h cy y) (F0 m 38 ls [])) (x1 : Int32) (x2 : Int32) (x3 : Int64) (x5 : Int32) (σ : St) (y : Int64 × St) (hf : f_X12_pointer_38b K38 x1 x2 x3 x5 σ = some y) : ∀ (H : Heap) (locs : List Loc) (ls : Array Slot), Zt D h cy s σ H locs → lv_has ls 6 [(0, .ref (h 68)), (1, .int x1), (2, .int x2), (3, .long x3), (5, .int x5)] → W p l e (rmz 1 24) s m args below meth c H locs 0 0 (EL below args s D h cy y) (F0 m 38 ls []) := by
  intro H locs ls Z hl
  have hx := X.x
  have hb := X.b
  unfold f_X12_pointer_38b at hf
  refine lv_iload hx hb dX12_pointer_38 (lv_at hl 4 rfl) ?_
  refine lv_if_lt (tgt := 67) hx hb dX12_pointer_40 (by decide) (fun c9 => ?_) (fun c9 => ?_)
  · have hf := itp c9 hf
    refine lv_lload_n hx hb dX12_pointer_67 rfl (lv_at hl 3 rfl) ?_
    exact retL X hr hk Z hf dX12_pointer_68
  · have hf := itn c9 hf
    refine lv_lload_n hx hb dX12_pointer_43 rfl (lv_at hl 3 rfl) ?_
    refine lv_bipush (v := 8) hx hb dX12_pointer_44 (by decide) ?_
    refine lv_lshl (v := zlshl x3 (8 : Int32)) hx hb dX12_pointer_46 rfl ?_
    refine lv_aload_n hx hb dX12_pointer_47 rfl (lv_at hl 0 rfl) ?_
    refine lv_iload_n hx hb dX12_pointer_48 rfl (lv_at hl 2 rfl) ?_
    refine lv_iload_n hx hb dX12_pointer_49 rfl (lv_at hl 1 rfl) ?_
    refine lv_i2l (v := x1.toInt64) hx hb dX12_pointer_50 rfl ?_
    refine lv_iload hx hb dX12_pointer_51 (lv_at hl 4 rfl) ?_
    refine lv_i2l (v := x5.toInt64) hx hb dX12_pointer_53 rfl ?_
    refine lv_ladd hx hb dX12_pointer_54 ?_
    obtain ⟨r12, s11, h10, hf⟩ := bi_s hf
    refine goI Z (run_V (As := [.int x2, .long (x1.toInt64 + x5.toInt64)]) (rest := [.long ((zlshl x3 (8 : Int32)))]) X Z (c_X12_byteAt l D h cy x2 (x1.toInt64 + x5.toInt64) σ (r12, s11) h10 _) lk_RX12_484 ⟨by decide, by decide⟩ rv_68 rfl hl.1 rfl (Nat.le_of_ble_eq_true rfl) ⟨Nat.le_refl _, Nat.le_refl _⟩ dX12_pointer_55) (fun H locs Z => ?_)
    refine lv_i2l (v := r12.toInt64) hx hb dX12_pointer_58 rfl ?_
    refine lv_lor hx hb dX12_pointer_59 ?_
    refine lv_topl (fun v13 ev13 => ?_)
    have hf := zn_e ev13 hf
    refine lv_lstore_n (lv' := [(3, .long v13), (0, .ref (h 68)), (1, .int x1), (2, .int x2), (5, .int x5)]) hx hb dX12_pointer_60 rfl hl (by decide) rfl (fun ls hl => ?_)
    obtain ⟨v14, ev14⟩ : ∃ z : Int32, z = x5 + (-1) := ⟨_, rfl⟩
    have hf := zn_e ev14 hf
    refine lv_iinc (v := v14) (lv' := [(5, .int v14), (3, .long v13), (0, .ref (h 68)), (1, .int x1), (2, .int x2)]) hx hb dX12_pointer_61 hl (k := 4) rfl (by rw [ev14]; rfl) (by decide) rfl (fun ls hl => ?_)
    refine lv_goto (tgt := 38) hx hb dX12_pointer_64 (by decide) ?_
    exact hK38 (x1, x2, v13, v14, s11) _ hf _ _ _ Z (lv_sub hl [2, 3, 4, 1, 0] rfl)

set_option maxRecDepth 100000 in
set_option maxHeartbeats 4000000 in
theorem b_X12_pointer_38 {p : Program} {l : Launch} {e : Env} {s : State} {m : MethodId} {args : Array Value} {below : List Frame} {meth : Method} {c : Code} {D : va_G} {h : Nat → Nat} {cy : Nat → ClassId} (X : Cx p s m args c D h cy RX12 cX12_pointer 6) (hr : meth.sig.returnType = some .long) (hk : meth.locks = false) (x1 : Int32) (x2 : Int32) (x3 : Int64) (x5 : Int32) (σ : St) (y : Int64 × St) (hf : f_X12_pointer_38 x1 x2 x3 x5 σ = some y) : ∀ (H : Heap) (locs : List Loc) (ls : Array Slot), Zt D h cy s σ H locs → lv_has ls 6 [(0, .ref (h 68)), (1, .int x1), (2, .int x2), (3, .long x3), (5, .int x5)] → W p l e (rmz 1 24) s m args below meth c H locs 0 0 (EL below args s D h cy y) (F0 m 38 ls []) := by
  exact it_W (F := fun K a => f_X12_pointer_38b K a.1 a.2.1 a.2.2.1 a.2.2.2.1 a.2.2.2.2) (P := fun a y => ∀ (H : Heap) (locs : List Loc) (ls : Array Slot), Zt D h cy s a.2.2.2.2 H locs → lv_has ls 6 [(0, .ref (h 68)), (1, .int a.1), (2, .int a.2.1), (3, .long a.2.2.1), (5, .int a.2.2.2.1)] → W p l e (rmz 1 24) s m args below meth c H locs 0 0 (EL below args s D h cy y) (F0 m 38 ls [])) (fun K hK a y hf => b_X12_pointer_38b X hr hk K hK (a.1) (a.2.1) (a.2.2.1) (a.2.2.2.1) (a.2.2.2.2) y hf) FU _ y hf

set_option maxRecDepth 100000 in
set_option maxHeartbeats 4000000 in
theorem b_X12_pointer_20 {p : Program} {l : Launch} {e : Env} {s : State} {m : MethodId} {args : Array Value} {below : List Frame} {meth : Method} {c : Code} {D : va_G} {h : Nat → Nat} {cy : Nat → ClassId} (X : Cx p s m args c D h cy RX12 cX12_pointer 6) (hr : meth.sig.returnType = some .long) (hk : meth.locks = false) (x1 : Int32) (x2 : Int32) (t0 : Int32) (σ : St) (y : Int64 × St) (hf : f_X12_pointer_20 x1 x2 t0 σ = some y) : ∀ (H : Heap) (locs : List Loc) (ls : Array Slot), Zt D h cy s σ H locs → lv_has ls 6 [(0, .ref (h 68)), (1, .int x1), (2, .int x2)] → W p l e (rmz 1 24) s m args below meth c H locs 0 0 (EL below args s D h cy y) (F0 m 20 ls [.int t0, .ref (h 68)]) := by
  intro H locs ls Z hl
  have hx := X.x
  have hb := X.b
  unfold f_X12_pointer_20 at hf
  refine pf_RX12_149 X Z dX12_pointer_20 (fun s5 H locs es5 Z => ?_)
  have hf := zn_e es5 hf
  refine lv_aload_n hx hb dX12_pointer_23 rfl (lv_at hl 0 rfl) ?_
  refine gf_RX12_149 X Z dX12_pointer_24 ?_
  refine lv_if_le (tgt := 32) hx hb dX12_pointer_27 (by decide) (fun c6 => ?_) (fun c6 => ?_)
  · have hf := itp c6 hf
    refine lv_lconst (v := 0) hx hb dX12_pointer_32 (by decide) ?_
    refine lv_topl (fun v7 ev7 => ?_)
    have hf := zn_e ev7 hf
    refine lv_lstore_n (lv' := [(3, .long v7), (0, .ref (h 68)), (1, .int x1), (2, .int x2)]) hx hb dX12_pointer_33 rfl hl (by decide) rfl (fun ls hl => ?_)
    refine lv_bipush (v := 7) hx hb dX12_pointer_34 (by decide) ?_
    refine lv_topi (fun v8 ev8 => ?_)
    have hf := zn_e ev8 hf
    refine lv_istore (lv' := [(5, .int v8), (3, .long v7), (0, .ref (h 68)), (1, .int x1), (2, .int x2)]) hx hb dX12_pointer_36 hl (by decide) rfl (fun ls hl => ?_)
    exact b_X12_pointer_38 X hr hk x1 x2 v7 v8 s5 _ hf _ _ _ Z (lv_sub hl [2, 3, 4, 1, 0] rfl)
  · have hf := itn c6 hf
    refine lv_lconst (v := 0) hx hb dX12_pointer_30 (by decide) ?_
    exact retL X hr hk Z hf dX12_pointer_31

set_option maxRecDepth 100000 in
set_option maxHeartbeats 4000000 in
theorem c_X12_pointer (l : Launch) (D : va_G) (h : Nat → Nat) (cy : Nat → ClassId) (a1 : Int32) (σ : St) (y : Int64 × St) (hf : f_X12_pointer a1 σ = some y) : CL l yX12_pointer cX12_pointer 6 (some .long) 1 24 D h cy [.ref (h 68), .int a1] σ y := by
  refine ent (Qc := fun sz => QL D h cy sz y) (by decide) (Nat.le_of_ble_eq_true rfl) ?_
  intro p e s m below meth c ls X Z hr hk hl
  have X : Cx p s m _ c D h cy RX12 cX12_pointer 6 := X
  have hx := X.x
  have hb := X.b
  have hl : lv_has ls 6 [(0, .ref (h 68)), (1, .int a1)] := hl
  unfold f_X12_pointer at hf
  refine lv_aload_n hx hb dX12_pointer_0 rfl (lv_at hl 0 rfl) ?_
  refine lv_iload_n hx hb dX12_pointer_1 rfl (lv_at hl 1 rfl) ?_
  refine lv_i2l (v := a1.toInt64) hx hb dX12_pointer_2 rfl ?_
  refine lv_bipush (v := 8) hx hb dX12_pointer_3 (by decide) ?_
  obtain ⟨r3, s2, h1, hf⟩ := bi_s hf
  refine goI Z (run_V (As := [.long a1.toInt64, .int (8 : Int32)]) (rest := []) X Z (c_X12_holds l D h cy a1.toInt64 (8 : Int32) σ (r3, s2) h1 _) lk_RX12_480 ⟨by decide, by decide⟩ rv_68 rfl hl.1 rfl (Nat.le_of_ble_eq_true rfl) ⟨Nat.le_refl _, Nat.le_refl _⟩ dX12_pointer_5) (fun H locs Z => ?_)
  refine lv_istore_n (lv' := [(2, .int r3), (0, .ref (h 68)), (1, .int a1)]) hx hb dX12_pointer_8 rfl hl (by decide) rfl (fun ls hl => ?_)
  refine lv_aload_n hx hb dX12_pointer_9 rfl (lv_at hl 1 rfl) ?_
  refine lv_iload_n hx hb dX12_pointer_10 rfl (lv_at hl 0 rfl) ?_
  refine lv_iconst (v := (-1)) hx hb dX12_pointer_11 (by decide) ?_
  refine lv_icmp_ne (tgt := 19) hx hb dX12_pointer_12 (by decide) (fun c4 => ?_) (fun c4 => ?_)
  · have hf := itn c4 hf
    refine lv_iconst (v := 0) hx hb dX12_pointer_19 (by decide) ?_
    exact b_X12_pointer_20 X hr hk a1 r3 (0 : Int32) s2 _ hf _ _ _ Z (lv_sub hl [1, 2, 0] rfl)
  · have hf := itp c4 hf
    refine lv_iconst (v := 1) hx hb dX12_pointer_15 (by decide) ?_
    refine lv_goto (tgt := 20) hx hb dX12_pointer_16 (by decide) ?_
    exact b_X12_pointer_20 X hr hk a1 r3 (1 : Int32) s2 _ hf _ _ _ Z (lv_sub hl [1, 2, 0] rfl)

set_option maxRecDepth 100000 in
set_option maxHeartbeats 4000000 in
theorem b_X12_visit_27 {p : Program} {l : Launch} {e : Env} {s : State} {m : MethodId} {args : Array Value} {below : List Frame} {meth : Method} {c : Code} {D : va_G} {h : Nat → Nat} {cy : Nat → ClassId} (X : Cx p s m args c D h cy RX12 cX12_visit 3) (hr : meth.sig.returnType = some .long) (hk : meth.locks = false) (x1 : Int32) (x2 : Int32) (t0 : Int32) (σ : St) (y : Int64 × St) (hf : f_X12_visit_27 x1 x2 t0 σ = some y) : ∀ (H : Heap) (locs : List Loc) (ls : Array Slot), Zt D h cy s σ H locs → lv_has ls 3 [(0, .ref (h 68)), (1, .int x1), (2, .int x2)] → W p l e (rmz 0 0) s m args below meth c H locs 0 0 (EL below args s D h cy y) (F0 m 27 ls [.int t0, .ref (h 68)]) := by
  intro H locs ls Z hl
  have hx := X.x
  have hb := X.b
  unfold f_X12_visit_27 at hf
  refine pf_RX12_149 X Z dX12_visit_27 (fun s2 H locs es2 Z => ?_)
  have hf := zn_e es2 hf
  refine lv_aload_n hx hb dX12_visit_30 rfl (lv_at hl 0 rfl) ?_
  refine gf_RX12_149 X Z dX12_visit_31 ?_
  refine lv_if_le (tgt := 39) hx hb dX12_visit_34 (by decide) (fun c3 => ?_) (fun c3 => ?_)
  · have hf := itp c3 hf
    refine lv_iload_n hx hb dX12_visit_39 rfl (lv_at hl 2 rfl) ?_
    refine lv_if_ne (tgt := 52) hx hb dX12_visit_40 (by decide) (fun c4 => ?_) (fun c4 => ?_)
    · have hf := itn c4 hf
      refine lv_iload_n hx hb dX12_visit_52 rfl (lv_at hl 2 rfl) ?_
      refine lv_iconst (v := 1) hx hb dX12_visit_53 (by decide) ?_
      refine lv_icmp_ne (tgt := 74) hx hb dX12_visit_54 (by decide) (fun c5 => ?_) (fun c5 => ?_)
      · have hf := itn c5 hf
        refine lv_iload_n hx hb dX12_visit_74 rfl (lv_at hl 2 rfl) ?_
        refine lv_iconst (v := 2) hx hb dX12_visit_75 (by decide) ?_
        refine lv_icmp_ne (tgt := 88) hx hb dX12_visit_76 (by decide) (fun c6 => ?_) (fun c6 => ?_)
        · have hf := itn c6 hf
          refine lv_aload_n hx hb dX12_visit_88 rfl (lv_at hl 0 rfl) ?_
          refine gf_RX12_131 X Z dX12_visit_89 ?_
          refine lv_iload_n hx hb dX12_visit_92 rfl (lv_at hl 1 rfl) ?_
          obtain ⟨g7, hf⟩ := gd_s hf
          refine x_iald (k := 104) X Z sh_104 g7 dX12_visit_93 ?_
          refine lv_i2l (v := (s2.1 104 x1.toNatClampNeg).toInt64) hx hb dX12_visit_94 rfl ?_
          exact retL X hr hk Z hf dX12_visit_95
        · have hf := itp c6 hf
          refine lv_aload_n hx hb dX12_visit_79 rfl (lv_at hl 0 rfl) ?_
          refine gf_RX12_128 X Z dX12_visit_80 ?_
          refine lv_iload_n hx hb dX12_visit_83 rfl (lv_at hl 1 rfl) ?_
          obtain ⟨g8, hf⟩ := gd_s hf
          refine x_lald (k := 103) X Z sh_103 g8 dX12_visit_84 ?_
          refine lv_goto (tgt := 95) hx hb dX12_visit_85 (by decide) ?_
          exact retL X hr hk Z hf dX12_visit_95
      · have hf := itp c5 hf
        refine lv_aload_n hx hb dX12_visit_57 rfl (lv_at hl 0 rfl) ?_
        refine gf_RX12_134 X Z dX12_visit_58 ?_
        refine lv_iload_n hx hb dX12_visit_61 rfl (lv_at hl 1 rfl) ?_
        obtain ⟨g9, hf⟩ := gd_s hf
        refine x_zald (k := 105) X Z sh_105 g9 dX12_visit_62 ?_
        refine lv_if_eq (tgt := 70) hx hb dX12_visit_63 (by decide) (fun c10 => ?_) (fun c10 => ?_)
        · have hf := itp c10 hf
          refine lv_lconst (v := 0) hx hb dX12_visit_70 (by decide) ?_
          refine lv_goto (tgt := 95) hx hb dX12_visit_71 (by decide) ?_
          exact retL X hr hk Z hf dX12_visit_95
        · have hf := itn c10 hf
          refine lv_lconst (v := 1) hx hb dX12_visit_66 (by decide) ?_
          refine lv_goto (tgt := 95) hx hb dX12_visit_67 (by decide) ?_
          exact retL X hr hk Z hf dX12_visit_95
    · have hf := itp c4 hf
      refine lv_aload_n hx hb dX12_visit_43 rfl (lv_at hl 0 rfl) ?_
      refine gf_RX12_125 X Z dX12_visit_44 ?_
      refine lv_iload_n hx hb dX12_visit_47 rfl (lv_at hl 1 rfl) ?_
      obtain ⟨g11, hf⟩ := gd_s hf
      refine x_lald (k := 102) X Z sh_102 g11 dX12_visit_48 ?_
      refine lv_goto (tgt := 95) hx hb dX12_visit_49 (by decide) ?_
      exact retL X hr hk Z hf dX12_visit_95
  · have hf := itn c3 hf
    refine lv_lconst (v := 0) hx hb dX12_visit_37 (by decide) ?_
    exact retL X hr hk Z hf dX12_visit_38

set_option maxRecDepth 100000 in
set_option maxHeartbeats 4000000 in
theorem b_X12_visit_22 {p : Program} {l : Launch} {e : Env} {s : State} {m : MethodId} {args : Array Value} {below : List Frame} {meth : Method} {c : Code} {D : va_G} {h : Nat → Nat} {cy : Nat → ClassId} (X : Cx p s m args c D h cy RX12 cX12_visit 3) (hr : meth.sig.returnType = some .long) (hk : meth.locks = false) (x1 : Int32) (x2 : Int32) (σ : St) (y : Int64 × St) (hf : f_X12_visit_22 x1 x2 σ = some y) : ∀ (H : Heap) (locs : List Loc) (ls : Array Slot), Zt D h cy s σ H locs → lv_has ls 3 [(0, .ref (h 68)), (1, .int x1), (2, .int x2)] → W p l e (rmz 0 0) s m args below meth c H locs 0 0 (EL below args s D h cy y) (F0 m 22 ls [.ref (h 68)]) := by
  intro H locs ls Z hl
  have hx := X.x
  have hb := X.b
  unfold f_X12_visit_22 at hf
  refine lv_iconst (v := 1) hx hb dX12_visit_22 (by decide) ?_
  refine lv_goto (tgt := 27) hx hb dX12_visit_23 (by decide) ?_
  exact b_X12_visit_27 X hr hk x1 x2 (1 : Int32) σ _ hf _ _ _ Z (lv_sub hl [0, 1, 2] rfl)

set_option maxRecDepth 100000 in
set_option maxHeartbeats 4000000 in
theorem c_X12_visit (l : Launch) (D : va_G) (h : Nat → Nat) (cy : Nat → ClassId) (a1 : Int32) (a2 : Int32) (σ : St) (y : Int64 × St) (hf : f_X12_visit a1 a2 σ = some y) : CL l yX12_visit cX12_visit 3 (some .long) 0 0 D h cy [.ref (h 68), .int a1, .int a2] σ y := by
  refine ent (Qc := fun sz => QL D h cy sz y) (by decide) (Nat.le_of_ble_eq_true rfl) ?_
  intro p e s m below meth c ls X Z hr hk hl
  have X : Cx p s m _ c D h cy RX12 cX12_visit 3 := X
  have hx := X.x
  have hb := X.b
  have hl : lv_has ls 3 [(0, .ref (h 68)), (1, .int a1), (2, .int a2)] := hl
  unfold f_X12_visit at hf
  refine lv_aload_n hx hb dX12_visit_0 rfl (lv_at hl 0 rfl) ?_
  refine lv_iload_n hx hb dX12_visit_1 rfl (lv_at hl 1 rfl) ?_
  refine lv_if_lt (tgt := 22) hx hb dX12_visit_2 (by decide) (fun c1 => ?_) (fun c1 => ?_)
  · have hf := itp c1 hf
    exact b_X12_visit_22 X hr hk a1 a2 σ _ hf _ _ _ Z (lv_sub hl [0, 1, 2] rfl)
  · have hf := itn c1 hf
    refine lv_iload_n hx hb dX12_visit_5 rfl (lv_at hl 1 rfl) ?_
    refine lv_aload_n hx hb dX12_visit_6 rfl (lv_at hl 0 rfl) ?_
    refine gf_RX12_470 X Z dX12_visit_7 ?_
    refine lv_icmp_ge (tgt := 22) hx hb dX12_visit_10 (by decide) (fun c12 => ?_) (fun c12 => ?_)
    · have hf := itp c12 hf
      exact b_X12_visit_22 X hr hk a1 a2 σ _ hf _ _ _ Z (lv_sub hl [0, 1, 2] rfl)
    · have hf := itn c12 hf
      refine lv_iload_n hx hb dX12_visit_13 rfl (lv_at hl 2 rfl) ?_
      refine lv_if_lt (tgt := 22) hx hb dX12_visit_14 (by decide) (fun c13 => ?_) (fun c13 => ?_)
      · have hf := itp c13 hf
        exact b_X12_visit_22 X hr hk a1 a2 σ _ hf _ _ _ Z (lv_sub hl [0, 1, 2] rfl)
      · have hf := itn c13 hf
        refine lv_iload_n hx hb dX12_visit_17 rfl (lv_at hl 2 rfl) ?_
        refine lv_iconst (v := 3) hx hb dX12_visit_18 (by decide) ?_
        refine lv_icmp_le (tgt := 26) hx hb dX12_visit_19 (by decide) (fun c14 => ?_) (fun c14 => ?_)
        · have hf := itp c14 hf
          refine lv_iconst (v := 0) hx hb dX12_visit_26 (by decide) ?_
          exact b_X12_visit_27 X hr hk a1 a2 (0 : Int32) σ _ hf _ _ _ Z (lv_sub hl [0, 1, 2] rfl)
        · have hf := itn c14 hf
          exact b_X12_visit_22 X hr hk a1 a2 σ _ hf _ _ _ Z (lv_sub hl [0, 1, 2] rfl)

set_option maxRecDepth 100000 in
set_option maxHeartbeats 4000000 in
theorem b_X12_find_90 {p : Program} {l : Launch} {e : Env} {s : State} {m : MethodId} {args : Array Value} {below : List Frame} {meth : Method} {c : Code} {D : va_G} {h : Nat → Nat} {cy : Nat → ClassId} (X : Cx p s m args c D h cy RX12 cX12_find 5) (hr : meth.sig.returnType = some .int) (hk : meth.locks = false) (K17 : (Int32 × Int32 × St) → Option (Int32 × St)) (hK17 : ∀ (a : Int32 × Int32 × St) (y : Int32 × St), K17 a = some y → ∀ (H : Heap) (locs : List Loc) (ls : Array Slot), Zt D h cy s a.2.2 H locs → lv_has ls 5 [(0, .ref (h 68)), (1, .int a.1), (2, .int a.2.1)] → W p l e (rmz 0 0) s m args below meth c H locs 0 0 (EI below args s D h cy y) (F0 m 17 ls [])) (x1 : Int32) (x2 : Int32) (x3 : Int32) (σ : St) (y : Int32 × St) (hf : f_X12_find_90 K17 x1 x2 x3 σ = some y) : ∀ (H : Heap) (locs : List Loc) (ls : Array Slot), Zt D h cy s σ H locs → lv_has ls 5 [(0, .ref (h 68)), (1, .int x1), (2, .int x2), (3, .int x3)] → W p l e (rmz 0 0) s m args below meth c H locs 0 0 (EI below args s D h cy y) (F0 m 90 ls []) := by
  intro H locs ls Z hl
  have hx := X.x
  have hb := X.b
  unfold f_X12_find_90 at hf
  refine lv_iload_n hx hb dX12_find_90 rfl (lv_at hl 3 rfl) ?_
  refine lv_if_eq (tgt := 101) hx hb dX12_find_91 (by decide) (fun c10 => ?_) (fun c10 => ?_)
  · have hf := itp c10 hf
    obtain ⟨v11, ev11⟩ : ∃ z : Int32, z = x2 + 1 := ⟨_, rfl⟩
    have hf := zn_e ev11 hf
    refine lv_iinc (v := v11) (lv' := [(2, .int v11), (0, .ref (h 68)), (1, .int x1), (3, .int x3)]) hx hb dX12_find_101 hl (k := 2) rfl (by rw [ev11]; rfl) (by decide) rfl (fun ls hl => ?_)
    refine lv_goto (tgt := 17) hx hb dX12_find_104 (by decide) ?_
    exact hK17 (x1, v11, σ) _ hf _ _ _ Z (lv_sub hl [1, 2, 0] rfl)
  · have hf := itn c10 hf
    refine lv_aload_n hx hb dX12_find_94 rfl (lv_at hl 0 rfl) ?_
    refine gf_RX12_146 X Z dX12_find_95 ?_
    refine lv_iload_n hx hb dX12_find_98 rfl (lv_at hl 2 rfl) ?_
    obtain ⟨g12, hf⟩ := gd_s hf
    refine x_iald (k := 109) X Z sh_109 g12 dX12_find_99 ?_
    exact retI X hr hk Z hf dX12_find_100

set_option maxRecDepth 100000 in
set_option maxHeartbeats 4000000 in
theorem b_X12_find_83 {p : Program} {l : Launch} {e : Env} {s : State} {m : MethodId} {args : Array Value} {below : List Frame} {meth : Method} {c : Code} {D : va_G} {h : Nat → Nat} {cy : Nat → ClassId} (X : Cx p s m args c D h cy RX12 cX12_find 5) (hr : meth.sig.returnType = some .int) (hk : meth.locks = false) (K44 : (Int32 × Int32 × Int32 × Int32 × St) → Option (Int32 × St)) (hK44 : ∀ (a : Int32 × Int32 × Int32 × Int32 × St) (y : Int32 × St), K44 a = some y → ∀ (H : Heap) (locs : List Loc) (ls : Array Slot), Zt D h cy s a.2.2.2.2 H locs → lv_has ls 5 [(0, .ref (h 68)), (1, .int a.1), (2, .int a.2.1), (3, .int a.2.2.1), (4, .int a.2.2.2.1)] → W p l e (rmz 0 0) s m args below meth c H locs 0 0 (EI below args s D h cy y) (F0 m 44 ls [])) (x1 : Int32) (x2 : Int32) (x4 : Int32) (t0 : Int32) (σ : St) (y : Int32 × St) (hf : f_X12_find_83 K44 x1 x2 x4 t0 σ = some y) : ∀ (H : Heap) (locs : List Loc) (ls : Array Slot), Zt D h cy s σ H locs → lv_has ls 5 [(0, .ref (h 68)), (1, .int x1), (2, .int x2), (4, .int x4)] → W p l e (rmz 0 0) s m args below meth c H locs 0 0 (EI below args s D h cy y) (F0 m 83 ls [.int t0]) := by
  intro H locs ls Z hl
  have hx := X.x
  have hb := X.b
  unfold f_X12_find_83 at hf
  refine lv_istore_n (lv' := [(3, .int t0), (0, .ref (h 68)), (1, .int x1), (2, .int x2), (4, .int x4)]) hx hb dX12_find_83 rfl hl (by decide) rfl (fun ls hl => ?_)
  obtain ⟨v18, ev18⟩ : ∃ z : Int32, z = x4 + 1 := ⟨_, rfl⟩
  have hf := zn_e ev18 hf
  refine lv_iinc (v := v18) (lv' := [(4, .int v18), (3, .int t0), (0, .ref (h 68)), (1, .int x1), (2, .int x2)]) hx hb dX12_find_84 hl (k := 4) rfl (by rw [ev18]; rfl) (by decide) rfl (fun ls hl => ?_)
  refine lv_goto (tgt := 44) hx hb dX12_find_87 (by decide) ?_
  exact hK44 (x1, x2, t0, v18, σ) _ hf _ _ _ Z (lv_sub hl [2, 3, 4, 1, 0] rfl)

set_option maxRecDepth 100000 in
set_option maxHeartbeats 4000000 in
theorem b_X12_find_44b {p : Program} {l : Launch} {e : Env} {s : State} {m : MethodId} {args : Array Value} {below : List Frame} {meth : Method} {c : Code} {D : va_G} {h : Nat → Nat} {cy : Nat → ClassId} (X : Cx p s m args c D h cy RX12 cX12_find 5) (hr : meth.sig.returnType = some .int) (hk : meth.locks = false) (K17 : (Int32 × Int32 × St) → Option (Int32 × St)) (hK17 : ∀ (a : Int32 × Int32 × St) (y : Int32 × St), K17 a = some y → ∀ (H : Heap) (locs : List Loc) (ls : Array Slot), Zt D h cy s a.2.2 H locs → lv_has ls 5 [(0, .ref (h 68)), (1, .int a.1), (2, .int a.2.1)] → W p l e (rmz 0 0) s m args below meth c H locs 0 0 (EI below args s D h cy y) (F0 m 17 ls [])) (K44 : (Int32 × Int32 × Int32 × Int32 × St) → Option (Int32 × St)) (hK44 : ∀ (a : Int32 × Int32 × Int32 × Int32 × St) (y : Int32 × St), K44 a = some y → ∀ (H : Heap) (locs : List Loc) (ls : Array Slot), Zt D h cy s a.2.2.2.2 H locs → lv_has ls 5 [(0, .ref (h 68)), (1, .int a.1), (2, .int a.2.1), (3, .int a.2.2.1), (4, .int a.2.2.2.1)] → W p l e (rmz 0 0) s m args below meth c H locs 0 0 (EI below args s D h cy y) (F0 m 44 ls [])) (x1 : Int32) (x2 : Int32) (x3 : Int32) (x4 : Int32) (σ : St) (y : Int32 × St) (hf : f_X12_find_44b K17 K44 x1 x2 x3 x4 σ = some y) : ∀ (H : Heap) (locs : List Loc) (ls : Array Slot), Zt D h cy s σ H locs → lv_has ls 5 [(0, .ref (h 68)), (1, .int x1), (2, .int x2), (3, .int x3), (4, .int x4)] → W p l e (rmz 0 0) s m args below meth c H locs 0 0 (EI below args s D h cy y) (F0 m 44 ls []) := by
  intro H locs ls Z hl
  have hx := X.x
  have hb := X.b
  unfold f_X12_find_44b at hf
  refine lv_iload hx hb dX12_find_44 (lv_at hl 4 rfl) ?_
  refine lv_iload_n hx hb dX12_find_46 rfl (lv_at hl 1 rfl) ?_
  refine lv_icmp_ge (tgt := 90) hx hb dX12_find_47 (by decide) (fun c9 => ?_) (fun c9 => ?_)
  · have hf := itp c9 hf
    exact b_X12_find_90 X hr hk K17 hK17 x1 x2 x3 σ _ hf _ _ _ Z (lv_sub hl [0, 1, 2, 3] rfl)
  · have hf := itn c9 hf
    refine lv_iload_n hx hb dX12_find_50 rfl (lv_at hl 3 rfl) ?_
    refine lv_if_eq (tgt := 90) hx hb dX12_find_51 (by decide) (fun c13 => ?_) (fun c13 => ?_)
    · have hf := itp c13 hf
      exact b_X12_find_90 X hr hk K17 hK17 x1 x2 x3 σ _ hf _ _ _ Z (lv_sub hl [0, 1, 2, 3] rfl)
    · have hf := itn c13 hf
      refine lv_aload_n hx hb dX12_find_54 rfl (lv_at hl 0 rfl) ?_
      refine gf_RX12_137 X Z dX12_find_55 ?_
      refine lv_aload_n hx hb dX12_find_58 rfl (lv_at hl 0 rfl) ?_
      refine gf_RX12_140 X Z dX12_find_59 ?_
      refine lv_iload_n hx hb dX12_find_62 rfl (lv_at hl 2 rfl) ?_
      obtain ⟨g14, hf⟩ := gd_s hf
      refine x_iald (k := 107) X Z sh_107 g14 dX12_find_63 ?_
      refine lv_iload hx hb dX12_find_64 (lv_at hl 4 rfl) ?_
      refine lv_iadd hx hb dX12_find_66 ?_
      obtain ⟨g15, hf⟩ := gd_s hf
      refine x_iald (k := 106) X Z sh_106 g15 dX12_find_67 ?_
      refine lv_aload_n hx hb dX12_find_68 rfl (lv_at hl 0 rfl) ?_
      refine gf_RX12_7 X Z dX12_find_69 ?_
      refine lv_iload hx hb dX12_find_72 (lv_at hl 4 rfl) ?_
      obtain ⟨g16, hf⟩ := gd_s hf
      refine x_iald (k := 69) X Z sh_69 g16 dX12_find_74 ?_
      refine lv_icmp_ne (tgt := 82) hx hb dX12_find_75 (by decide) (fun c17 => ?_) (fun c17 => ?_)
      · have hf := itn c17 hf
        refine lv_iconst (v := 0) hx hb dX12_find_82 (by decide) ?_
        exact b_X12_find_83 X hr hk K44 hK44 x1 x2 x4 (0 : Int32) σ _ hf _ _ _ Z (lv_sub hl [0, 1, 2, 4] rfl)
      · have hf := itp c17 hf
        refine lv_iconst (v := 1) hx hb dX12_find_78 (by decide) ?_
        refine lv_goto (tgt := 83) hx hb dX12_find_79 (by decide) ?_
        exact b_X12_find_83 X hr hk K44 hK44 x1 x2 x4 (1 : Int32) σ _ hf _ _ _ Z (lv_sub hl [0, 1, 2, 4] rfl)

set_option maxRecDepth 100000 in
set_option maxHeartbeats 4000000 in
theorem b_X12_find_44 {p : Program} {l : Launch} {e : Env} {s : State} {m : MethodId} {args : Array Value} {below : List Frame} {meth : Method} {c : Code} {D : va_G} {h : Nat → Nat} {cy : Nat → ClassId} (X : Cx p s m args c D h cy RX12 cX12_find 5) (hr : meth.sig.returnType = some .int) (hk : meth.locks = false) (K17 : (Int32 × Int32 × St) → Option (Int32 × St)) (hK17 : ∀ (a : Int32 × Int32 × St) (y : Int32 × St), K17 a = some y → ∀ (H : Heap) (locs : List Loc) (ls : Array Slot), Zt D h cy s a.2.2 H locs → lv_has ls 5 [(0, .ref (h 68)), (1, .int a.1), (2, .int a.2.1)] → W p l e (rmz 0 0) s m args below meth c H locs 0 0 (EI below args s D h cy y) (F0 m 17 ls [])) (x1 : Int32) (x2 : Int32) (x3 : Int32) (x4 : Int32) (σ : St) (y : Int32 × St) (hf : f_X12_find_44 K17 x1 x2 x3 x4 σ = some y) : ∀ (H : Heap) (locs : List Loc) (ls : Array Slot), Zt D h cy s σ H locs → lv_has ls 5 [(0, .ref (h 68)), (1, .int x1), (2, .int x2), (3, .int x3), (4, .int x4)] → W p l e (rmz 0 0) s m args below meth c H locs 0 0 (EI below args s D h cy y) (F0 m 44 ls []) := by
  exact it_W (F := fun K a => f_X12_find_44b K17 K a.1 a.2.1 a.2.2.1 a.2.2.2.1 a.2.2.2.2) (P := fun a y => ∀ (H : Heap) (locs : List Loc) (ls : Array Slot), Zt D h cy s a.2.2.2.2 H locs → lv_has ls 5 [(0, .ref (h 68)), (1, .int a.1), (2, .int a.2.1), (3, .int a.2.2.1), (4, .int a.2.2.2.1)] → W p l e (rmz 0 0) s m args below meth c H locs 0 0 (EI below args s D h cy y) (F0 m 44 ls [])) (fun K hK a y hf => b_X12_find_44b X hr hk K17 hK17 K hK (a.1) (a.2.1) (a.2.2.1) (a.2.2.2.1) (a.2.2.2.2) y hf) FU _ y hf

set_option maxRecDepth 100000 in
set_option maxHeartbeats 4000000 in
theorem b_X12_find_40 {p : Program} {l : Launch} {e : Env} {s : State} {m : MethodId} {args : Array Value} {below : List Frame} {meth : Method} {c : Code} {D : va_G} {h : Nat → Nat} {cy : Nat → ClassId} (X : Cx p s m args c D h cy RX12 cX12_find 5) (hr : meth.sig.returnType = some .int) (hk : meth.locks = false) (K17 : (Int32 × Int32 × St) → Option (Int32 × St)) (hK17 : ∀ (a : Int32 × Int32 × St) (y : Int32 × St), K17 a = some y → ∀ (H : Heap) (locs : List Loc) (ls : Array Slot), Zt D h cy s a.2.2 H locs → lv_has ls 5 [(0, .ref (h 68)), (1, .int a.1), (2, .int a.2.1)] → W p l e (rmz 0 0) s m args below meth c H locs 0 0 (EI below args s D h cy y) (F0 m 17 ls [])) (x1 : Int32) (x2 : Int32) (t0 : Int32) (σ : St) (y : Int32 × St) (hf : f_X12_find_40 K17 x1 x2 t0 σ = some y) : ∀ (H : Heap) (locs : List Loc) (ls : Array Slot), Zt D h cy s σ H locs → lv_has ls 5 [(0, .ref (h 68)), (1, .int x1), (2, .int x2)] → W p l e (rmz 0 0) s m args below meth c H locs 0 0 (EI below args s D h cy y) (F0 m 40 ls [.int t0]) := by
  intro H locs ls Z hl
  have hx := X.x
  have hb := X.b
  unfold f_X12_find_40 at hf
  refine lv_istore_n (lv' := [(3, .int t0), (0, .ref (h 68)), (1, .int x1), (2, .int x2)]) hx hb dX12_find_40 rfl hl (by decide) rfl (fun ls hl => ?_)
  refine lv_iconst (v := 0) hx hb dX12_find_41 (by decide) ?_
  refine lv_topi (fun v8 ev8 => ?_)
  have hf := zn_e ev8 hf
  refine lv_istore (lv' := [(4, .int v8), (3, .int t0), (0, .ref (h 68)), (1, .int x1), (2, .int x2)]) hx hb dX12_find_42 hl (by decide) rfl (fun ls hl => ?_)
  exact b_X12_find_44 X hr hk K17 hK17 x1 x2 t0 v8 σ _ hf _ _ _ Z (lv_sub hl [2, 3, 4, 1, 0] rfl)

set_option maxRecDepth 100000 in
set_option maxHeartbeats 4000000 in
theorem b_X12_find_17b {p : Program} {l : Launch} {e : Env} {s : State} {m : MethodId} {args : Array Value} {below : List Frame} {meth : Method} {c : Code} {D : va_G} {h : Nat → Nat} {cy : Nat → ClassId} (X : Cx p s m args c D h cy RX12 cX12_find 5) (hr : meth.sig.returnType = some .int) (hk : meth.locks = false) (K17 : (Int32 × Int32 × St) → Option (Int32 × St)) (hK17 : ∀ (a : Int32 × Int32 × St) (y : Int32 × St), K17 a = some y → ∀ (H : Heap) (locs : List Loc) (ls : Array Slot), Zt D h cy s a.2.2 H locs → lv_has ls 5 [(0, .ref (h 68)), (1, .int a.1), (2, .int a.2.1)] → W p l e (rmz 0 0) s m args below meth c H locs 0 0 (EI below args s D h cy y) (F0 m 17 ls [])) (x1 : Int32) (x2 : Int32) (σ : St) (y : Int32 × St) (hf : f_X12_find_17b K17 x1 x2 σ = some y) : ∀ (H : Heap) (locs : List Loc) (ls : Array Slot), Zt D h cy s σ H locs → lv_has ls 5 [(0, .ref (h 68)), (1, .int x1), (2, .int x2)] → W p l e (rmz 0 0) s m args below meth c H locs 0 0 (EI below args s D h cy y) (F0 m 17 ls []) := by
  intro H locs ls Z hl
  have hx := X.x
  have hb := X.b
  unfold f_X12_find_17b at hf
  refine lv_iload_n hx hb dX12_find_17 rfl (lv_at hl 2 rfl) ?_
  refine lv_aload_n hx hb dX12_find_18 rfl (lv_at hl 0 rfl) ?_
  refine gf_RX12_477 X Z dX12_find_19 ?_
  refine lv_icmp_ge (tgt := 107) hx hb dX12_find_22 (by decide) (fun c5 => ?_) (fun c5 => ?_)
  · have hf := itp c5 hf
    refine lv_iconst (v := (-1)) hx hb dX12_find_107 (by decide) ?_
    exact retI X hr hk Z hf dX12_find_108
  · have hf := itn c5 hf
    refine lv_aload_n hx hb dX12_find_25 rfl (lv_at hl 0 rfl) ?_
    refine gf_RX12_143 X Z dX12_find_26 ?_
    refine lv_iload_n hx hb dX12_find_29 rfl (lv_at hl 2 rfl) ?_
    obtain ⟨g6, hf⟩ := gd_s hf
    refine x_iald (k := 108) X Z sh_108 g6 dX12_find_30 ?_
    refine lv_iload_n hx hb dX12_find_31 rfl (lv_at hl 1 rfl) ?_
    refine lv_icmp_ne (tgt := 39) hx hb dX12_find_32 (by decide) (fun c7 => ?_) (fun c7 => ?_)
    · have hf := itn c7 hf
      refine lv_iconst (v := 0) hx hb dX12_find_39 (by decide) ?_
      exact b_X12_find_40 X hr hk K17 hK17 x1 x2 (0 : Int32) σ _ hf _ _ _ Z (lv_sub hl [0, 1, 2] rfl)
    · have hf := itp c7 hf
      refine lv_iconst (v := 1) hx hb dX12_find_35 (by decide) ?_
      refine lv_goto (tgt := 40) hx hb dX12_find_36 (by decide) ?_
      exact b_X12_find_40 X hr hk K17 hK17 x1 x2 (1 : Int32) σ _ hf _ _ _ Z (lv_sub hl [0, 1, 2] rfl)

set_option maxRecDepth 100000 in
set_option maxHeartbeats 4000000 in
theorem b_X12_find_17 {p : Program} {l : Launch} {e : Env} {s : State} {m : MethodId} {args : Array Value} {below : List Frame} {meth : Method} {c : Code} {D : va_G} {h : Nat → Nat} {cy : Nat → ClassId} (X : Cx p s m args c D h cy RX12 cX12_find 5) (hr : meth.sig.returnType = some .int) (hk : meth.locks = false) (x1 : Int32) (x2 : Int32) (σ : St) (y : Int32 × St) (hf : f_X12_find_17 x1 x2 σ = some y) : ∀ (H : Heap) (locs : List Loc) (ls : Array Slot), Zt D h cy s σ H locs → lv_has ls 5 [(0, .ref (h 68)), (1, .int x1), (2, .int x2)] → W p l e (rmz 0 0) s m args below meth c H locs 0 0 (EI below args s D h cy y) (F0 m 17 ls []) := by
  exact it_W (F := fun K a => f_X12_find_17b K a.1 a.2.1 a.2.2) (P := fun a y => ∀ (H : Heap) (locs : List Loc) (ls : Array Slot), Zt D h cy s a.2.2 H locs → lv_has ls 5 [(0, .ref (h 68)), (1, .int a.1), (2, .int a.2.1)] → W p l e (rmz 0 0) s m args below meth c H locs 0 0 (EI below args s D h cy y) (F0 m 17 ls [])) (fun K hK a y hf => b_X12_find_17b X hr hk K hK (a.1) (a.2.1) (a.2.2) y hf) FU _ y hf

set_option maxRecDepth 100000 in
set_option maxHeartbeats 4000000 in
theorem c_X12_find (l : Launch) (D : va_G) (h : Nat → Nat) (cy : Nat → ClassId) (σ : St) (y : Int32 × St) (hf : f_X12_find σ = some y) : CI l yX12_find cX12_find 5 (some .int) 0 0 D h cy [.ref (h 68)] σ y := by
  refine ent (Qc := fun sz => QI D h cy sz y) (by decide) (Nat.le_of_ble_eq_true rfl) ?_
  intro p e s m below meth c ls X Z hr hk hl
  have X : Cx p s m _ c D h cy RX12 cX12_find 5 := X
  have hx := X.x
  have hb := X.b
  have hl : lv_has ls 5 [(0, .ref (h 68))] := hl
  unfold f_X12_find at hf
  refine lv_aload_n hx hb dX12_find_0 rfl (lv_at hl 0 rfl) ?_
  refine lv_iconst (v := 0) hx hb dX12_find_1 (by decide) ?_
  refine pf_RX12_149 X Z dX12_find_2 (fun s1 H locs es1 Z => ?_)
  have hf := zn_e es1 hf
  refine lv_aload_n hx hb dX12_find_5 rfl (lv_at hl 0 rfl) ?_
  refine gf_RX12_152 X Z dX12_find_6 ?_
  refine lv_topi (fun v2 ev2 => ?_)
  have hf := zn_e ev2 hf
  refine lv_istore_n (lv' := [(1, .int v2), (0, .ref (h 68))]) hx hb dX12_find_9 rfl hl (by decide) rfl (fun ls hl => ?_)
  refine lv_aload_n hx hb dX12_find_10 rfl (lv_at hl 1 rfl) ?_
  refine lv_iconst (v := 0) hx hb dX12_find_11 (by decide) ?_
  refine pf_RX12_152 X Z dX12_find_12 (fun s3 H locs es3 Z => ?_)
  have hf := zn_e es3 hf
  refine lv_iconst (v := 0) hx hb dX12_find_15 (by decide) ?_
  refine lv_topi (fun v4 ev4 => ?_)
  have hf := zn_e ev4 hf
  refine lv_istore_n (lv' := [(2, .int v4), (1, .int v2), (0, .ref (h 68))]) hx hb dX12_find_16 rfl hl (by decide) rfl (fun ls hl => ?_)
  exact b_X12_find_17 X hr hk v2 v4 s3 _ hf _ _ _ Z (lv_sub hl [2, 1, 0] rfl)

set_option maxRecDepth 100000 in
set_option maxHeartbeats 4000000 in
theorem c_X12_count (l : Launch) (D : va_G) (h : Nat → Nat) (cy : Nat → ClassId) (a1 : Int32) (σ : St) (y : Int32 × St) (hf : f_X12_count a1 σ = some y) : CI l yX12_count cX12_count 2 (some .int) 0 0 D h cy [.ref (h 68), .int a1] σ y := by
  refine ent (Qc := fun sz => QI D h cy sz y) (by decide) (Nat.le_of_ble_eq_true rfl) ?_
  intro p e s m below meth c ls X Z hr hk hl
  have X : Cx p s m _ c D h cy RX12 cX12_count 2 := X
  have hx := X.x
  have hb := X.b
  have hl : lv_has ls 2 [(0, .ref (h 68)), (1, .int a1)] := hl
  unfold f_X12_count at hf
  refine lv_aload_n hx hb dX12_count_0 rfl (lv_at hl 0 rfl) ?_
  refine lv_iconst (v := 0) hx hb dX12_count_1 (by decide) ?_
  refine pf_RX12_149 X Z dX12_count_2 (fun s1 H locs es1 Z => ?_)
  have hf := zn_e es1 hf
  refine lv_iload_n hx hb dX12_count_5 rfl (lv_at hl 1 rfl) ?_
  refine Or.elim (Decidable.em (a1 = 0)) (fun c2 => ?_) (fun c2 => ?_)
  · have hf := itp c2 hf
    refine lv_tableIn (off := 58) (tgt := 64) hx hb dX12_count_6 (by rw [c2]; decide) (by rw [c2]; decide) (by rw [c2]; rfl) (by decide) ?_
    refine lv_aload_n hx hb dX12_count_64 rfl (lv_at hl 0 rfl) ?_
    refine gf_RX12_174 X Z dX12_count_65 ?_
    exact retI X hr hk Z hf dX12_count_68
  have hf := itn c2 hf
  refine Or.elim (Decidable.em (a1 = 1)) (fun c3 => ?_) (fun c3 => ?_)
  · have hf := itp c3 hf
    refine lv_tableIn (off := 63) (tgt := 69) hx hb dX12_count_6 (by rw [c3]; decide) (by rw [c3]; decide) (by rw [c3]; rfl) (by decide) ?_
    refine lv_aload_n hx hb dX12_count_69 rfl (lv_at hl 0 rfl) ?_
    refine gf_RX12_177 X Z dX12_count_70 ?_
    exact retI X hr hk Z hf dX12_count_73
  have hf := itn c3 hf
  refine Or.elim (Decidable.em (a1 = 2)) (fun c4 => ?_) (fun c4 => ?_)
  · have hf := itp c4 hf
    refine lv_tableIn (off := 68) (tgt := 74) hx hb dX12_count_6 (by rw [c4]; decide) (by rw [c4]; decide) (by rw [c4]; rfl) (by decide) ?_
    refine lv_aload_n hx hb dX12_count_74 rfl (lv_at hl 0 rfl) ?_
    refine gf_RX12_180 X Z dX12_count_75 ?_
    exact retI X hr hk Z hf dX12_count_78
  have hf := itn c4 hf
  refine Or.elim (Decidable.em (a1 = 3)) (fun c5 => ?_) (fun c5 => ?_)
  · have hf := itp c5 hf
    refine lv_tableIn (off := 73) (tgt := 79) hx hb dX12_count_6 (by rw [c5]; decide) (by rw [c5]; decide) (by rw [c5]; rfl) (by decide) ?_
    refine lv_aload_n hx hb dX12_count_79 rfl (lv_at hl 0 rfl) ?_
    refine gf_RX12_183 X Z dX12_count_80 ?_
    exact retI X hr hk Z hf dX12_count_83
  have hf := itn c5 hf
  refine Or.elim (Decidable.em (a1 = 4)) (fun c6 => ?_) (fun c6 => ?_)
  · have hf := itp c6 hf
    refine lv_tableIn (off := 78) (tgt := 84) hx hb dX12_count_6 (by rw [c6]; decide) (by rw [c6]; decide) (by rw [c6]; rfl) (by decide) ?_
    refine lv_aload_n hx hb dX12_count_84 rfl (lv_at hl 0 rfl) ?_
    refine gf_RX12_186 X Z dX12_count_85 ?_
    exact retI X hr hk Z hf dX12_count_88
  have hf := itn c6 hf
  refine Or.elim (Decidable.em (a1 = 5)) (fun c7 => ?_) (fun c7 => ?_)
  · have hf := itp c7 hf
    refine lv_tableIn (off := 83) (tgt := 89) hx hb dX12_count_6 (by rw [c7]; decide) (by rw [c7]; decide) (by rw [c7]; rfl) (by decide) ?_
    refine lv_aload_n hx hb dX12_count_89 rfl (lv_at hl 0 rfl) ?_
    refine gf_RX12_253 X Z dX12_count_90 ?_
    exact retI X hr hk Z hf dX12_count_93
  have hf := itn c7 hf
  refine Or.elim (Decidable.em (a1 = 6)) (fun c8 => ?_) (fun c8 => ?_)
  · have hf := itp c8 hf
    refine lv_tableIn (off := 88) (tgt := 94) hx hb dX12_count_6 (by rw [c8]; decide) (by rw [c8]; decide) (by rw [c8]; rfl) (by decide) ?_
    refine lv_aload_n hx hb dX12_count_94 rfl (lv_at hl 0 rfl) ?_
    refine gf_RX12_300 X Z dX12_count_95 ?_
    exact retI X hr hk Z hf dX12_count_98
  have hf := itn c8 hf
  refine Or.elim (Decidable.em (a1 = 7)) (fun c9 => ?_) (fun c9 => ?_)
  · have hf := itp c9 hf
    refine lv_tableIn (off := 93) (tgt := 99) hx hb dX12_count_6 (by rw [c9]; decide) (by rw [c9]; decide) (by rw [c9]; rfl) (by decide) ?_
    refine lv_aload_n hx hb dX12_count_99 rfl (lv_at hl 0 rfl) ?_
    refine gf_RX12_467 X Z dX12_count_100 ?_
    exact retI X hr hk Z hf dX12_count_103
  have hf := itn c9 hf
  refine Or.elim (Decidable.em (a1 = 8)) (fun c10 => ?_) (fun c10 => ?_)
  · have hf := itp c10 hf
    refine lv_tableIn (off := 98) (tgt := 104) hx hb dX12_count_6 (by rw [c10]; decide) (by rw [c10]; decide) (by rw [c10]; rfl) (by decide) ?_
    refine lv_aload_n hx hb dX12_count_104 rfl (lv_at hl 0 rfl) ?_
    refine gf_RX12_470 X Z dX12_count_105 ?_
    exact retI X hr hk Z hf dX12_count_108
  have hf := itn c10 hf
  refine Or.elim (Decidable.em (a1 = 9)) (fun c11 => ?_) (fun c11 => ?_)
  · have hf := itp c11 hf
    refine lv_tableIn (off := 103) (tgt := 109) hx hb dX12_count_6 (by rw [c11]; decide) (by rw [c11]; decide) (by rw [c11]; rfl) (by decide) ?_
    refine lv_aload_n hx hb dX12_count_109 rfl (lv_at hl 0 rfl) ?_
    refine gf_RX12_477 X Z dX12_count_110 ?_
    exact retI X hr hk Z hf dX12_count_113
  have hf := itn c11 hf
  refine Or.elim (Decidable.em (a1 = 10)) (fun c12 => ?_) (fun c12 => ?_)
  · have hf := itp c12 hf
    refine lv_tableIn (off := 108) (tgt := 114) hx hb dX12_count_6 (by rw [c12]; decide) (by rw [c12]; decide) (by rw [c12]; rfl) (by decide) ?_
    refine lv_aload_n hx hb dX12_count_114 rfl (lv_at hl 0 rfl) ?_
    refine gf_RX12_152 X Z dX12_count_115 ?_
    exact retI X hr hk Z hf dX12_count_118
  have hf := itn c12 hf
  refine lv_tableOut (tgt := 119) hx hb dX12_count_6 (tsw_out 11 (fun i hi => by rcases (show i = 0 ∨ i = 1 ∨ i = 2 ∨ i = 3 ∨ i = 4 ∨ i = 5 ∨ i = 6 ∨ i = 7 ∨ i = 8 ∨ i = 9 ∨ i = 10 by omega) with rfl | rfl | rfl | rfl | rfl | rfl | rfl | rfl | rfl | rfl | rfl <;> assumption)) (by decide) ?_
  refine lv_iconst (v := (-1)) hx hb dX12_count_119 (by decide) ?_
  exact retI X hr hk Z hf dX12_count_120
