set_option maxRecDepth 100000 in
set_option maxHeartbeats 4000000 in
theorem b_X12_gone_12b {p : Program} {l : Launch} {e : Env} {s : State} {m : MethodId} {args : Array Value} {below : List Frame} {meth : Method} {c : Code} {D : va_G} {h : Nat → Nat} {cy : Nat → ClassId} (X : Cx p s m args c D h cy RX12 cX12_gone 3) (hr : meth.sig.returnType = none) (hk : meth.locks = false) (K12 : (Int32 × St) → Option (St)) (hK12 : ∀ (a : Int32 × St) (y : St), K12 a = some y → ∀ (H : Heap) (locs : List Loc) (ls : Array Slot), Zt D h cy s a.2 H locs → lv_has ls 3 [(0, .ref (h 68)), (2, .int a.1)] → W p l e (rmz 1 22) s m args below meth c H locs 0 0 (EV below args s D h cy y) (F0 m 12 ls [])) (x2 : Int32) (σ : St) (y : St) (hf : f_X12_gone_12b K12 x2 σ = some y) : ∀ (H : Heap) (locs : List Loc) (ls : Array Slot), Zt D h cy s σ H locs → lv_has ls 3 [(0, .ref (h 68)), (2, .int x2)] → W p l e (rmz 1 22) s m args below meth c H locs 0 0 (EV below args s D h cy y) (F0 m 12 ls []) := by
  intro H locs ls Z hl
  have hx := X.x
  have hb := X.b
  unfold f_X12_gone_12b at hf
  refine lv_iload_n hx hb dX12_gone_12 rfl (lv_at hl 1 rfl) ?_
  refine lv_aload_n hx hb dX12_gone_13 rfl (lv_at hl 0 rfl) ?_
  refine gf_RX12_186 X Z dX12_gone_14 ?_
  refine lv_icmp_ge (tgt := 34) hx hb dX12_gone_17 (by decide) (fun c2 => ?_) (fun c2 => ?_)
  · have hf := itp c2 hf
    exact retV X hr hk Z hf dX12_gone_34
  · have hf := itn c2 hf
    refine lv_aload_n hx hb dX12_gone_20 rfl (lv_at hl 0 rfl) ?_
    refine lv_iload_n hx hb dX12_gone_21 rfl (lv_at hl 1 rfl) ?_
    refine lv_iconst (v := 1) hx hb dX12_gone_22 (by decide) ?_
    refine lv_iadd hx hb dX12_gone_23 ?_
    refine lv_iload_n hx hb dX12_gone_24 rfl (lv_at hl 1 rfl) ?_
    obtain ⟨s4, h3, hf⟩ := bv_s hf
    refine goV Z (run_V (As := [.int ((x2 + (1 : Int32))), .int x2]) (rest := []) X Z (c_X12_move l D h cy ((x2 + (1 : Int32))) x2 σ s4 h3 _) lk_RX12_196 ⟨by decide, by decide⟩ rv_68 rfl hl.1 rfl (Nat.le_of_ble_eq_true rfl) ⟨Nat.le_refl _, Nat.le_refl _⟩ dX12_gone_25) (fun H locs Z => ?_)
    obtain ⟨v5, ev5⟩ : ∃ z : Int32, z = x2 + 1 := ⟨_, rfl⟩
    have hf := zn_e ev5 hf
    refine lv_iinc (v := v5) (lv' := [(2, .int v5), (0, .ref (h 68))]) hx hb dX12_gone_28 hl (k := 1) rfl (by rw [ev5]; rfl) (by decide) rfl (fun ls hl => ?_)
    refine lv_goto (tgt := 12) hx hb dX12_gone_31 (by decide) ?_
    exact hK12 (v5, s4) _ hf _ _ _ Z (lv_sub hl [1, 0] rfl)

set_option maxRecDepth 100000 in
set_option maxHeartbeats 4000000 in
theorem b_X12_gone_12 {p : Program} {l : Launch} {e : Env} {s : State} {m : MethodId} {args : Array Value} {below : List Frame} {meth : Method} {c : Code} {D : va_G} {h : Nat → Nat} {cy : Nat → ClassId} (X : Cx p s m args c D h cy RX12 cX12_gone 3) (hr : meth.sig.returnType = none) (hk : meth.locks = false) (x2 : Int32) (σ : St) (y : St) (hf : f_X12_gone_12 x2 σ = some y) : ∀ (H : Heap) (locs : List Loc) (ls : Array Slot), Zt D h cy s σ H locs → lv_has ls 3 [(0, .ref (h 68)), (2, .int x2)] → W p l e (rmz 1 22) s m args below meth c H locs 0 0 (EV below args s D h cy y) (F0 m 12 ls []) := by
  exact it_W (F := fun K a => f_X12_gone_12b K a.1 a.2) (P := fun a y => ∀ (H : Heap) (locs : List Loc) (ls : Array Slot), Zt D h cy s a.2 H locs → lv_has ls 3 [(0, .ref (h 68)), (2, .int a.1)] → W p l e (rmz 1 22) s m args below meth c H locs 0 0 (EV below args s D h cy y) (F0 m 12 ls [])) (fun K hK a y hf => b_X12_gone_12b X hr hk K hK (a.1) (a.2) y hf) FU _ y hf

set_option maxRecDepth 100000 in
set_option maxHeartbeats 4000000 in
theorem c_X12_gone (l : Launch) (D : va_G) (h : Nat → Nat) (cy : Nat → ClassId) (a1 : Int32) (σ : St) (y : St) (hf : f_X12_gone a1 σ = some y) : CV l yX12_gone cX12_gone 3 none 1 22 D h cy [.ref (h 68), .int a1] σ y := by
  refine ent (Qc := fun sz => QV D h cy sz y) (by decide) (Nat.le_of_ble_eq_true rfl) ?_
  intro p e s m below meth c ls X Z hr hk hl
  have X : Cx p s m _ c D h cy RX12 cX12_gone 3 := X
  have hx := X.x
  have hb := X.b
  have hl : lv_has ls 3 [(0, .ref (h 68)), (1, .int a1)] := hl
  unfold f_X12_gone at hf
  refine lv_aload_n hx hb dX12_gone_0 rfl (lv_at hl 0 rfl) ?_
  refine lv_dup hx hb dX12_gone_1 rfl ?_
  refine gf_RX12_186 X Z dX12_gone_2 ?_
  refine lv_iconst (v := 1) hx hb dX12_gone_5 (by decide) ?_
  refine lv_isub hx hb dX12_gone_6 ?_
  refine pf_RX12_186 X Z dX12_gone_7 (fun s1 H locs es1 Z => ?_)
  have hf := zn_e es1 hf
  refine lv_iload_n hx hb dX12_gone_10 rfl (lv_at hl 1 rfl) ?_
  refine lv_istore_n (lv' := [(2, .int a1), (0, .ref (h 68)), (1, .int a1)]) hx hb dX12_gone_11 rfl hl (by decide) rfl (fun ls hl => ?_)
  exact b_X12_gone_12 X hr hk a1 s1 _ hf _ _ _ Z (lv_sub hl [1, 0] rfl)

set_option maxRecDepth 100000 in
set_option maxHeartbeats 4000000 in
theorem b_X12_points_238 {p : Program} {l : Launch} {e : Env} {s : State} {m : MethodId} {args : Array Value} {below : List Frame} {meth : Method} {c : Code} {D : va_G} {h : Nat → Nat} {cy : Nat → ClassId} (X : Cx p s m args c D h cy RX12 cX12_points 9) (hr : meth.sig.returnType = some .boolean) (hk : meth.locks = false) (x1 : Int32) (x2 : Int32) (x3 : Int64) (x5 : Int32) (x6 : Int32) (x8 : Int32) (σ : St) (y : Int32 × St) (hf : f_X12_points_238 x1 x2 x3 x5 x6 x8 σ = some y) : ∀ (H : Heap) (locs : List Loc) (ls : Array Slot), Zt D h cy s σ H locs → lv_has ls 9 [(0, .ref (h 68)), (1, .int x1), (2, .int x2), (3, .long x3), (5, .int x5), (6, .int x6), (8, .int x8)] → W p l e (rmz 2 44) s m args below meth c H locs 0 0 (EI below args s D h cy y) (F0 m 238 ls []) := by
  intro H locs ls Z hl
  have hx := X.x
  have hb := X.b
  unfold f_X12_points_238 at hf
  refine lv_aload_n hx hb dX12_points_238 rfl (lv_at hl 0 rfl) ?_
  refine gf_RX12_55 X Z dX12_points_239 ?_
  refine lv_iload hx hb dX12_points_242 (lv_at hl 6 rfl) ?_
  refine lv_iload_n hx hb dX12_points_244 rfl (lv_at hl 1 rfl) ?_
  obtain ⟨g24, hf⟩ := gd_s hf
  refine x_iast (k := 81) X Z sh_81 g24 dX12_points_245 (fun s25 H locs es25 Z => ?_)
  have hf := zn_e es25 hf
  refine lv_aload_n hx hb dX12_points_246 rfl (lv_at hl 0 rfl) ?_
  refine gf_RX12_58 X Z dX12_points_247 ?_
  refine lv_iload hx hb dX12_points_250 (lv_at hl 6 rfl) ?_
  refine lv_iload_n hx hb dX12_points_252 rfl (lv_at hl 2 rfl) ?_
  obtain ⟨g26, hf⟩ := gd_s hf
  refine x_iast (k := 82) X Z sh_82 g26 dX12_points_253 (fun s27 H locs es27 Z => ?_)
  have hf := zn_e es27 hf
  refine lv_aload_n hx hb dX12_points_254 rfl (lv_at hl 0 rfl) ?_
  refine gf_RX12_64 X Z dX12_points_255 ?_
  refine lv_iload hx hb dX12_points_258 (lv_at hl 6 rfl) ?_
  refine lv_lload_n hx hb dX12_points_260 rfl (lv_at hl 3 rfl) ?_
  obtain ⟨g28, hf⟩ := gd_s hf
  refine x_last (k := 84) X Z sh_84 g28 dX12_points_261 (fun s29 H locs es29 Z => ?_)
  have hf := zn_e es29 hf
  refine lv_aload_n hx hb dX12_points_262 rfl (lv_at hl 0 rfl) ?_
  refine gf_RX12_61 X Z dX12_points_263 ?_
  refine lv_iload hx hb dX12_points_266 (lv_at hl 6 rfl) ?_
  refine lv_iload hx hb dX12_points_268 (lv_at hl 4 rfl) ?_
  obtain ⟨g30, hf⟩ := gd_s hf
  refine x_iast (k := 83) X Z sh_83 g30 dX12_points_270 (fun s31 H locs es31 Z => ?_)
  have hf := zn_e es31 hf
  refine lv_aload_n hx hb dX12_points_271 rfl (lv_at hl 0 rfl) ?_
  refine gf_RX12_68 X Z dX12_points_272 ?_
  refine lv_iload hx hb dX12_points_275 (lv_at hl 6 rfl) ?_
  refine lv_iload hx hb dX12_points_277 (lv_at hl 5 rfl) ?_
  obtain ⟨g32, hf⟩ := gd_s hf
  refine x_zast (k := 85) X Z sh_85 g32 dX12_points_279 (fun s33 H locs es33 Z => ?_)
  have hf := zn_e es33 hf
  refine lv_aload_n hx hb dX12_points_280 rfl (lv_at hl 0 rfl) ?_
  refine lv_dup hx hb dX12_points_281 rfl ?_
  refine gf_RX12_186 X Z dX12_points_282 ?_
  refine lv_iconst (v := 1) hx hb dX12_points_285 (by decide) ?_
  refine lv_iadd hx hb dX12_points_286 ?_
  refine pf_RX12_186 X Z dX12_points_287 (fun s34 H locs es34 Z => ?_)
  have hf := zn_e es34 hf
  refine lv_iconst (v := 1) hx hb dX12_points_290 (by decide) ?_
  exact retZ X hr hk Z (by decide) hf dX12_points_291

set_option maxRecDepth 100000 in
set_option maxHeartbeats 4000000 in
theorem b_X12_points_222 {p : Program} {l : Launch} {e : Env} {s : State} {m : MethodId} {args : Array Value} {below : List Frame} {meth : Method} {c : Code} {D : va_G} {h : Nat → Nat} {cy : Nat → ClassId} (X : Cx p s m args c D h cy RX12 cX12_points 9) (hr : meth.sig.returnType = some .boolean) (hk : meth.locks = false) (K178 : (Int32 × Int32 × Int64 × Int32 × Int32 × Int32 × St) → Option (Int32 × St)) (hK178 : ∀ (a : Int32 × Int32 × Int64 × Int32 × Int32 × Int32 × St) (y : Int32 × St), K178 a = some y → ∀ (H : Heap) (locs : List Loc) (ls : Array Slot), Zt D h cy s a.2.2.2.2.2.2 H locs → lv_has ls 9 [(0, .ref (h 68)), (1, .int a.1), (2, .int a.2.1), (3, .long a.2.2.1), (5, .int a.2.2.2.1), (6, .int a.2.2.2.2.1), (8, .int a.2.2.2.2.2.1)] → W p l e (rmz 2 44) s m args below meth c H locs 0 0 (EI below args s D h cy y) (F0 m 178 ls [])) (x1 : Int32) (x2 : Int32) (x3 : Int64) (x5 : Int32) (x6 : Int32) (x8 : Int32) (σ : St) (y : Int32 × St) (hf : f_X12_points_222 K178 x1 x2 x3 x5 x6 x8 σ = some y) : ∀ (H : Heap) (locs : List Loc) (ls : Array Slot), Zt D h cy s σ H locs → lv_has ls 9 [(0, .ref (h 68)), (1, .int x1), (2, .int x2), (3, .long x3), (5, .int x5), (6, .int x6), (8, .int x8)] → W p l e (rmz 2 44) s m args below meth c H locs 0 0 (EI below args s D h cy y) (F0 m 222 ls []) := by
  intro H locs ls Z hl
  have hx := X.x
  have hb := X.b
  unfold f_X12_points_222 at hf
  refine lv_aload_n hx hb dX12_points_222 rfl (lv_at hl 0 rfl) ?_
  refine lv_iload hx hb dX12_points_223 (lv_at hl 6 rfl) ?_
  refine lv_iconst (v := 1) hx hb dX12_points_225 (by decide) ?_
  refine lv_isub hx hb dX12_points_226 ?_
  refine lv_iload hx hb dX12_points_227 (lv_at hl 6 rfl) ?_
  obtain ⟨s38, h37, hf⟩ := bv_s hf
  refine goV Z (run_V (As := [.int ((x8 - (1 : Int32))), .int x8]) (rest := []) X Z (c_X12_move l D h cy ((x8 - (1 : Int32))) x8 σ s38 h37 _) lk_RX12_196 ⟨by decide, by decide⟩ rv_68 rfl hl.1 rfl (Nat.le_of_ble_eq_true rfl) ⟨Nat.le_refl _, Nat.le_refl _⟩ dX12_points_229) (fun H locs Z => ?_)
  obtain ⟨v39, ev39⟩ : ∃ z : Int32, z = x8 + (-1) := ⟨_, rfl⟩
  have hf := zn_e ev39 hf
  refine lv_iinc (v := v39) (lv' := [(8, .int v39), (0, .ref (h 68)), (1, .int x1), (2, .int x2), (3, .long x3), (5, .int x5), (6, .int x6)]) hx hb dX12_points_232 hl (k := 6) rfl (by rw [ev39]; rfl) (by decide) rfl (fun ls hl => ?_)
  refine lv_goto (tgt := 178) hx hb dX12_points_235 (by decide) ?_
  exact hK178 (x1, x2, x3, x5, x6, v39, s38) _ hf _ _ _ Z (lv_sub hl [1, 2, 3, 4, 5, 6, 0] rfl)

set_option maxRecDepth 100000 in
set_option maxHeartbeats 4000000 in
theorem b_X12_points_178b {p : Program} {l : Launch} {e : Env} {s : State} {m : MethodId} {args : Array Value} {below : List Frame} {meth : Method} {c : Code} {D : va_G} {h : Nat → Nat} {cy : Nat → ClassId} (X : Cx p s m args c D h cy RX12 cX12_points 9) (hr : meth.sig.returnType = some .boolean) (hk : meth.locks = false) (K178 : (Int32 × Int32 × Int64 × Int32 × Int32 × Int32 × St) → Option (Int32 × St)) (hK178 : ∀ (a : Int32 × Int32 × Int64 × Int32 × Int32 × Int32 × St) (y : Int32 × St), K178 a = some y → ∀ (H : Heap) (locs : List Loc) (ls : Array Slot), Zt D h cy s a.2.2.2.2.2.2 H locs → lv_has ls 9 [(0, .ref (h 68)), (1, .int a.1), (2, .int a.2.1), (3, .long a.2.2.1), (5, .int a.2.2.2.1), (6, .int a.2.2.2.2.1), (8, .int a.2.2.2.2.2.1)] → W p l e (rmz 2 44) s m args below meth c H locs 0 0 (EI below args s D h cy y) (F0 m 178 ls [])) (x1 : Int32) (x2 : Int32) (x3 : Int64) (x5 : Int32) (x6 : Int32) (x8 : Int32) (σ : St) (y : Int32 × St) (hf : f_X12_points_178b K178 x1 x2 x3 x5 x6 x8 σ = some y) : ∀ (H : Heap) (locs : List Loc) (ls : Array Slot), Zt D h cy s σ H locs → lv_has ls 9 [(0, .ref (h 68)), (1, .int x1), (2, .int x2), (3, .long x3), (5, .int x5), (6, .int x6), (8, .int x8)] → W p l e (rmz 2 44) s m args below meth c H locs 0 0 (EI below args s D h cy y) (F0 m 178 ls []) := by
  intro H locs ls Z hl
  have hx := X.x
  have hb := X.b
  unfold f_X12_points_178b at hf
  refine lv_iload hx hb dX12_points_178 (lv_at hl 6 rfl) ?_
  refine lv_if_le (tgt := 238) hx hb dX12_points_180 (by decide) (fun c23 => ?_) (fun c23 => ?_)
  · have hf := itp c23 hf
    exact b_X12_points_238 X hr hk x1 x2 x3 x5 x6 x8 σ _ hf _ _ _ Z (lv_sub hl [0, 1, 2, 3, 4, 5, 6] rfl)
  · have hf := itn c23 hf
    refine lv_aload_n hx hb dX12_points_183 rfl (lv_at hl 0 rfl) ?_
    refine gf_RX12_55 X Z dX12_points_184 ?_
    refine lv_iload hx hb dX12_points_187 (lv_at hl 6 rfl) ?_
    refine lv_iconst (v := 1) hx hb dX12_points_189 (by decide) ?_
    refine lv_isub hx hb dX12_points_190 ?_
    obtain ⟨g35, hf⟩ := gd_s hf
    refine x_iald (k := 81) X Z sh_81 g35 dX12_points_191 ?_
    refine lv_iload_n hx hb dX12_points_192 rfl (lv_at hl 1 rfl) ?_
    refine lv_icmp_gt (tgt := 222) hx hb dX12_points_193 (by decide) (fun c36 => ?_) (fun c36 => ?_)
    · have hf := itp c36 hf
      exact b_X12_points_222 X hr hk K178 hK178 x1 x2 x3 x5 x6 x8 σ _ hf _ _ _ Z (lv_sub hl [0, 1, 2, 3, 4, 5, 6] rfl)
    · have hf := itn c36 hf
      refine lv_aload_n hx hb dX12_points_196 rfl (lv_at hl 0 rfl) ?_
      refine gf_RX12_55 X Z dX12_points_197 ?_
      refine lv_iload hx hb dX12_points_200 (lv_at hl 6 rfl) ?_
      refine lv_iconst (v := 1) hx hb dX12_points_202 (by decide) ?_
      refine lv_isub hx hb dX12_points_203 ?_
      obtain ⟨g40, hf⟩ := gd_s hf
      refine x_iald (k := 81) X Z sh_81 g40 dX12_points_204 ?_
      refine lv_iload_n hx hb dX12_points_205 rfl (lv_at hl 1 rfl) ?_
      refine lv_icmp_ne (tgt := 238) hx hb dX12_points_206 (by decide) (fun c41 => ?_) (fun c41 => ?_)
      · have hf := itn c41 hf
        exact b_X12_points_238 X hr hk x1 x2 x3 x5 x6 x8 σ _ hf _ _ _ Z (lv_sub hl [0, 1, 2, 3, 4, 5, 6] rfl)
      · have hf := itp c41 hf
        refine lv_aload_n hx hb dX12_points_209 rfl (lv_at hl 0 rfl) ?_
        refine gf_RX12_58 X Z dX12_points_210 ?_
        refine lv_iload hx hb dX12_points_213 (lv_at hl 6 rfl) ?_
        refine lv_iconst (v := 1) hx hb dX12_points_215 (by decide) ?_
        refine lv_isub hx hb dX12_points_216 ?_
        obtain ⟨g42, hf⟩ := gd_s hf
        refine x_iald (k := 82) X Z sh_82 g42 dX12_points_217 ?_
        refine lv_iload_n hx hb dX12_points_218 rfl (lv_at hl 2 rfl) ?_
        refine lv_icmp_le (tgt := 238) hx hb dX12_points_219 (by decide) (fun c43 => ?_) (fun c43 => ?_)
        · have hf := itp c43 hf
          exact b_X12_points_238 X hr hk x1 x2 x3 x5 x6 x8 σ _ hf _ _ _ Z (lv_sub hl [0, 1, 2, 3, 4, 5, 6] rfl)
        · have hf := itn c43 hf
          exact b_X12_points_222 X hr hk K178 hK178 x1 x2 x3 x5 x6 x8 σ _ hf _ _ _ Z (lv_sub hl [0, 1, 2, 3, 4, 5, 6] rfl)

set_option maxRecDepth 100000 in
set_option maxHeartbeats 4000000 in
theorem b_X12_points_178 {p : Program} {l : Launch} {e : Env} {s : State} {m : MethodId} {args : Array Value} {below : List Frame} {meth : Method} {c : Code} {D : va_G} {h : Nat → Nat} {cy : Nat → ClassId} (X : Cx p s m args c D h cy RX12 cX12_points 9) (hr : meth.sig.returnType = some .boolean) (hk : meth.locks = false) (x1 : Int32) (x2 : Int32) (x3 : Int64) (x5 : Int32) (x6 : Int32) (x8 : Int32) (σ : St) (y : Int32 × St) (hf : f_X12_points_178 x1 x2 x3 x5 x6 x8 σ = some y) : ∀ (H : Heap) (locs : List Loc) (ls : Array Slot), Zt D h cy s σ H locs → lv_has ls 9 [(0, .ref (h 68)), (1, .int x1), (2, .int x2), (3, .long x3), (5, .int x5), (6, .int x6), (8, .int x8)] → W p l e (rmz 2 44) s m args below meth c H locs 0 0 (EI below args s D h cy y) (F0 m 178 ls []) := by
  exact it_W (F := fun K a => f_X12_points_178b K a.1 a.2.1 a.2.2.1 a.2.2.2.1 a.2.2.2.2.1 a.2.2.2.2.2.1 a.2.2.2.2.2.2) (P := fun a y => ∀ (H : Heap) (locs : List Loc) (ls : Array Slot), Zt D h cy s a.2.2.2.2.2.2 H locs → lv_has ls 9 [(0, .ref (h 68)), (1, .int a.1), (2, .int a.2.1), (3, .long a.2.2.1), (5, .int a.2.2.2.1), (6, .int a.2.2.2.2.1), (8, .int a.2.2.2.2.2.1)] → W p l e (rmz 2 44) s m args below meth c H locs 0 0 (EI below args s D h cy y) (F0 m 178 ls [])) (fun K hK a y hf => b_X12_points_178b X hr hk K hK (a.1) (a.2.1) (a.2.2.1) (a.2.2.2.1) (a.2.2.2.2.1) (a.2.2.2.2.2.1) (a.2.2.2.2.2.2) y hf) FU _ y hf

set_option maxRecDepth 100000 in
set_option maxHeartbeats 4000000 in
theorem b_X12_points_172 {p : Program} {l : Launch} {e : Env} {s : State} {m : MethodId} {args : Array Value} {below : List Frame} {meth : Method} {c : Code} {D : va_G} {h : Nat → Nat} {cy : Nat → ClassId} (X : Cx p s m args c D h cy RX12 cX12_points 9) (hr : meth.sig.returnType = some .boolean) (hk : meth.locks = false) (x1 : Int32) (x2 : Int32) (x3 : Int64) (x5 : Int32) (x6 : Int32) (σ : St) (y : Int32 × St) (hf : f_X12_points_172 x1 x2 x3 x5 x6 σ = some y) : ∀ (H : Heap) (locs : List Loc) (ls : Array Slot), Zt D h cy s σ H locs → lv_has ls 9 [(0, .ref (h 68)), (1, .int x1), (2, .int x2), (3, .long x3), (5, .int x5), (6, .int x6)] → W p l e (rmz 2 44) s m args below meth c H locs 0 0 (EI below args s D h cy y) (F0 m 172 ls []) := by
  intro H locs ls Z hl
  have hx := X.x
  have hb := X.b
  unfold f_X12_points_172 at hf
  refine lv_aload_n hx hb dX12_points_172 rfl (lv_at hl 0 rfl) ?_
  refine gf_RX12_186 X Z dX12_points_173 ?_
  refine lv_topi (fun v22 ev22 => ?_)
  have hf := zn_e ev22 hf
  refine lv_istore (lv' := [(8, .int v22), (0, .ref (h 68)), (1, .int x1), (2, .int x2), (3, .long x3), (5, .int x5), (6, .int x6)]) hx hb dX12_points_176 hl (by decide) rfl (fun ls hl => ?_)
  exact b_X12_points_178 X hr hk x1 x2 x3 x5 x6 v22 σ _ hf _ _ _ Z (lv_sub hl [1, 2, 3, 4, 5, 6, 0] rfl)

set_option maxRecDepth 100000 in
set_option maxHeartbeats 4000000 in
theorem b_X12_points_154 {p : Program} {l : Launch} {e : Env} {s : State} {m : MethodId} {args : Array Value} {below : List Frame} {meth : Method} {c : Code} {D : va_G} {h : Nat → Nat} {cy : Nat → ClassId} (X : Cx p s m args c D h cy RX12 cX12_points 9) (hr : meth.sig.returnType = some .boolean) (hk : meth.locks = false) (K97 : (Int32 × Int32 × Int64 × Int32 × Int32 × Int32 × Int32 × St) → Option (Int32 × St)) (hK97 : ∀ (a : Int32 × Int32 × Int64 × Int32 × Int32 × Int32 × Int32 × St) (y : Int32 × St), K97 a = some y → ∀ (H : Heap) (locs : List Loc) (ls : Array Slot), Zt D h cy s a.2.2.2.2.2.2.2 H locs → lv_has ls 9 [(0, .ref (h 68)), (1, .int a.1), (2, .int a.2.1), (3, .long a.2.2.1), (5, .int a.2.2.2.1), (6, .int a.2.2.2.2.1), (7, .int a.2.2.2.2.2.1), (8, .int a.2.2.2.2.2.2.1)] → W p l e (rmz 2 44) s m args below meth c H locs 0 0 (EI below args s D h cy y) (F0 m 97 ls [])) (x1 : Int32) (x2 : Int32) (x3 : Int64) (x5 : Int32) (x6 : Int32) (x7 : Int32) (x8 : Int32) (σ : St) (y : Int32 × St) (hf : f_X12_points_154 K97 x1 x2 x3 x5 x6 x7 x8 σ = some y) : ∀ (H : Heap) (locs : List Loc) (ls : Array Slot), Zt D h cy s σ H locs → lv_has ls 9 [(0, .ref (h 68)), (1, .int x1), (2, .int x2), (3, .long x3), (5, .int x5), (6, .int x6), (7, .int x7), (8, .int x8)] → W p l e (rmz 2 44) s m args below meth c H locs 0 0 (EI below args s D h cy y) (F0 m 154 ls []) := by
  intro H locs ls Z hl
  have hx := X.x
  have hb := X.b
  unfold f_X12_points_154 at hf
  obtain ⟨v48, ev48⟩ : ∃ z : Int32, z = x8 + 1 := ⟨_, rfl⟩
  have hf := zn_e ev48 hf
  refine lv_iinc (v := v48) (lv' := [(8, .int v48), (0, .ref (h 68)), (1, .int x1), (2, .int x2), (3, .long x3), (5, .int x5), (6, .int x6), (7, .int x7)]) hx hb dX12_points_154 hl (k := 7) rfl (by rw [ev48]; rfl) (by decide) rfl (fun ls hl => ?_)
  refine lv_goto (tgt := 97) hx hb dX12_points_157 (by decide) ?_
  exact hK97 (x1, x2, x3, x5, x6, x7, v48, σ) _ hf _ _ _ Z (lv_sub hl [1, 2, 3, 4, 5, 6, 7, 0] rfl)

set_option maxRecDepth 100000 in
set_option maxHeartbeats 4000000 in
theorem b_X12_points_97b {p : Program} {l : Launch} {e : Env} {s : State} {m : MethodId} {args : Array Value} {below : List Frame} {meth : Method} {c : Code} {D : va_G} {h : Nat → Nat} {cy : Nat → ClassId} (X : Cx p s m args c D h cy RX12 cX12_points 9) (hr : meth.sig.returnType = some .boolean) (hk : meth.locks = false) (K97 : (Int32 × Int32 × Int64 × Int32 × Int32 × Int32 × Int32 × St) → Option (Int32 × St)) (hK97 : ∀ (a : Int32 × Int32 × Int64 × Int32 × Int32 × Int32 × Int32 × St) (y : Int32 × St), K97 a = some y → ∀ (H : Heap) (locs : List Loc) (ls : Array Slot), Zt D h cy s a.2.2.2.2.2.2.2 H locs → lv_has ls 9 [(0, .ref (h 68)), (1, .int a.1), (2, .int a.2.1), (3, .long a.2.2.1), (5, .int a.2.2.2.1), (6, .int a.2.2.2.2.1), (7, .int a.2.2.2.2.2.1), (8, .int a.2.2.2.2.2.2.1)] → W p l e (rmz 2 44) s m args below meth c H locs 0 0 (EI below args s D h cy y) (F0 m 97 ls [])) (x1 : Int32) (x2 : Int32) (x3 : Int64) (x5 : Int32) (x6 : Int32) (x7 : Int32) (x8 : Int32) (σ : St) (y : Int32 × St) (hf : f_X12_points_97b K97 x1 x2 x3 x5 x6 x7 x8 σ = some y) : ∀ (H : Heap) (locs : List Loc) (ls : Array Slot), Zt D h cy s σ H locs → lv_has ls 9 [(0, .ref (h 68)), (1, .int x1), (2, .int x2), (3, .long x3), (5, .int x5), (6, .int x6), (7, .int x7), (8, .int x8)] → W p l e (rmz 2 44) s m args below meth c H locs 0 0 (EI below args s D h cy y) (F0 m 97 ls []) := by
  intro H locs ls Z hl
  have hx := X.x
  have hb := X.b
  unfold f_X12_points_97b at hf
  refine lv_iload hx hb dX12_points_97 (lv_at hl 7 rfl) ?_
  refine lv_aload_n hx hb dX12_points_99 rfl (lv_at hl 0 rfl) ?_
  refine gf_RX12_186 X Z dX12_points_100 ?_
  refine lv_icmp_ge (tgt := 160) hx hb dX12_points_103 (by decide) (fun c20 => ?_) (fun c20 => ?_)
  · have hf := itp c20 hf
    refine lv_iload hx hb dX12_points_160 (lv_at hl 6 rfl) ?_
    refine lv_iconst (v := (-1)) hx hb dX12_points_162 (by decide) ?_
    refine lv_icmp_eq (tgt := 172) hx hb dX12_points_163 (by decide) (fun c21 => ?_) (fun c21 => ?_)
    · have hf := itp c21 hf
      exact b_X12_points_172 X hr hk x1 x2 x3 x5 x6 σ _ hf _ _ _ Z (lv_sub hl [0, 1, 2, 3, 4, 5] rfl)
    · have hf := itn c21 hf
      refine lv_aload_n hx hb dX12_points_166 rfl (lv_at hl 0 rfl) ?_
      refine lv_iload hx hb dX12_points_167 (lv_at hl 6 rfl) ?_
      obtain ⟨s45, h44, hf⟩ := bv_s hf
      refine goV Z (run_V (As := [.int x7]) (rest := []) X Z (c_X12_gone l D h cy x7 σ s45 h44 _) lk_RX12_204 ⟨by decide, by decide⟩ rv_68 rfl hl.1 rfl (Nat.le_of_ble_eq_true rfl) ⟨Nat.le_refl _, Nat.le_refl _⟩ dX12_points_169) (fun H locs Z => ?_)
      exact b_X12_points_172 X hr hk x1 x2 x3 x5 x6 s45 _ hf _ _ _ Z (lv_sub hl [0, 1, 2, 3, 4, 5] rfl)
  · have hf := itn c20 hf
    refine lv_aload_n hx hb dX12_points_106 rfl (lv_at hl 0 rfl) ?_
    refine gf_RX12_55 X Z dX12_points_107 ?_
    refine lv_iload hx hb dX12_points_110 (lv_at hl 7 rfl) ?_
    obtain ⟨g46, hf⟩ := gd_s hf
    refine x_iald (k := 81) X Z sh_81 g46 dX12_points_112 ?_
    refine lv_iload_n hx hb dX12_points_113 rfl (lv_at hl 1 rfl) ?_
    refine lv_icmp_ne (tgt := 154) hx hb dX12_points_114 (by decide) (fun c47 => ?_) (fun c47 => ?_)
    · have hf := itn c47 hf
      exact b_X12_points_154 X hr hk K97 hK97 x1 x2 x3 x5 x6 x7 x8 σ _ hf _ _ _ Z (lv_sub hl [0, 1, 2, 3, 4, 5, 6, 7] rfl)
    · have hf := itp c47 hf
      refine lv_iload hx hb dX12_points_117 (lv_at hl 7 rfl) ?_
      refine lv_iload hx hb dX12_points_119 (lv_at hl 6 rfl) ?_
      refine lv_icmp_eq (tgt := 154) hx hb dX12_points_121 (by decide) (fun c49 => ?_) (fun c49 => ?_)
      · have hf := itp c49 hf
        exact b_X12_points_154 X hr hk K97 hK97 x1 x2 x3 x5 x6 x7 x8 σ _ hf _ _ _ Z (lv_sub hl [0, 1, 2, 3, 4, 5, 6, 7] rfl)
      · have hf := itn c49 hf
        refine lv_aload_n hx hb dX12_points_124 rfl (lv_at hl 0 rfl) ?_
        refine gf_RX12_58 X Z dX12_points_125 ?_
        refine lv_iload hx hb dX12_points_128 (lv_at hl 7 rfl) ?_
        obtain ⟨g50, hf⟩ := gd_s hf
        refine x_iald (k := 82) X Z sh_82 g50 dX12_points_130 ?_
        refine lv_iload_n hx hb dX12_points_131 rfl (lv_at hl 2 rfl) ?_
        refine lv_bipush (v := 8) hx hb dX12_points_132 (by decide) ?_
        refine lv_isub hx hb dX12_points_134 ?_
        refine lv_icmp_le (tgt := 154) hx hb dX12_points_135 (by decide) (fun c51 => ?_) (fun c51 => ?_)
        · have hf := itp c51 hf
          exact b_X12_points_154 X hr hk K97 hK97 x1 x2 x3 x5 x6 x7 x8 σ _ hf _ _ _ Z (lv_sub hl [0, 1, 2, 3, 4, 5, 6, 7] rfl)
        · have hf := itn c51 hf
          refine lv_aload_n hx hb dX12_points_138 rfl (lv_at hl 0 rfl) ?_
          refine gf_RX12_58 X Z dX12_points_139 ?_
          refine lv_iload hx hb dX12_points_142 (lv_at hl 7 rfl) ?_
          obtain ⟨g52, hf⟩ := gd_s hf
          refine x_iald (k := 82) X Z sh_82 g52 dX12_points_144 ?_
          refine lv_iload_n hx hb dX12_points_145 rfl (lv_at hl 2 rfl) ?_
          refine lv_bipush (v := 8) hx hb dX12_points_146 (by decide) ?_
          refine lv_iadd hx hb dX12_points_148 ?_
          refine lv_icmp_ge (tgt := 154) hx hb dX12_points_149 (by decide) (fun c53 => ?_) (fun c53 => ?_)
          · have hf := itp c53 hf
            exact b_X12_points_154 X hr hk K97 hK97 x1 x2 x3 x5 x6 x7 x8 σ _ hf _ _ _ Z (lv_sub hl [0, 1, 2, 3, 4, 5, 6, 7] rfl)
          · have hf := itn c53 hf
            refine lv_iconst (v := 0) hx hb dX12_points_152 (by decide) ?_
            exact retZ X hr hk Z (by decide) hf dX12_points_153

set_option maxRecDepth 100000 in
set_option maxHeartbeats 4000000 in
theorem b_X12_points_97 {p : Program} {l : Launch} {e : Env} {s : State} {m : MethodId} {args : Array Value} {below : List Frame} {meth : Method} {c : Code} {D : va_G} {h : Nat → Nat} {cy : Nat → ClassId} (X : Cx p s m args c D h cy RX12 cX12_points 9) (hr : meth.sig.returnType = some .boolean) (hk : meth.locks = false) (x1 : Int32) (x2 : Int32) (x3 : Int64) (x5 : Int32) (x6 : Int32) (x7 : Int32) (x8 : Int32) (σ : St) (y : Int32 × St) (hf : f_X12_points_97 x1 x2 x3 x5 x6 x7 x8 σ = some y) : ∀ (H : Heap) (locs : List Loc) (ls : Array Slot), Zt D h cy s σ H locs → lv_has ls 9 [(0, .ref (h 68)), (1, .int x1), (2, .int x2), (3, .long x3), (5, .int x5), (6, .int x6), (7, .int x7), (8, .int x8)] → W p l e (rmz 2 44) s m args below meth c H locs 0 0 (EI below args s D h cy y) (F0 m 97 ls []) := by
  exact it_W (F := fun K a => f_X12_points_97b K a.1 a.2.1 a.2.2.1 a.2.2.2.1 a.2.2.2.2.1 a.2.2.2.2.2.1 a.2.2.2.2.2.2.1 a.2.2.2.2.2.2.2) (P := fun a y => ∀ (H : Heap) (locs : List Loc) (ls : Array Slot), Zt D h cy s a.2.2.2.2.2.2.2 H locs → lv_has ls 9 [(0, .ref (h 68)), (1, .int a.1), (2, .int a.2.1), (3, .long a.2.2.1), (5, .int a.2.2.2.1), (6, .int a.2.2.2.2.1), (7, .int a.2.2.2.2.2.1), (8, .int a.2.2.2.2.2.2.1)] → W p l e (rmz 2 44) s m args below meth c H locs 0 0 (EI below args s D h cy y) (F0 m 97 ls [])) (fun K hK a y hf => b_X12_points_97b X hr hk K hK (a.1) (a.2.1) (a.2.2.1) (a.2.2.2.1) (a.2.2.2.2.1) (a.2.2.2.2.2.1) (a.2.2.2.2.2.2.1) (a.2.2.2.2.2.2.2) y hf) FU _ y hf

set_option maxRecDepth 100000 in
set_option maxHeartbeats 4000000 in
theorem b_X12_points_94 {p : Program} {l : Launch} {e : Env} {s : State} {m : MethodId} {args : Array Value} {below : List Frame} {meth : Method} {c : Code} {D : va_G} {h : Nat → Nat} {cy : Nat → ClassId} (X : Cx p s m args c D h cy RX12 cX12_points 9) (hr : meth.sig.returnType = some .boolean) (hk : meth.locks = false) (x1 : Int32) (x2 : Int32) (x3 : Int64) (x5 : Int32) (x6 : Int32) (x7 : Int32) (σ : St) (y : Int32 × St) (hf : f_X12_points_94 x1 x2 x3 x5 x6 x7 σ = some y) : ∀ (H : Heap) (locs : List Loc) (ls : Array Slot), Zt D h cy s σ H locs → lv_has ls 9 [(0, .ref (h 68)), (1, .int x1), (2, .int x2), (3, .long x3), (5, .int x5), (6, .int x6), (7, .int x7)] → W p l e (rmz 2 44) s m args below meth c H locs 0 0 (EI below args s D h cy y) (F0 m 94 ls []) := by
  intro H locs ls Z hl
  have hx := X.x
  have hb := X.b
  unfold f_X12_points_94 at hf
  refine lv_iconst (v := 0) hx hb dX12_points_94 (by decide) ?_
  refine lv_topi (fun v19 ev19 => ?_)
  have hf := zn_e ev19 hf
  refine lv_istore (lv' := [(8, .int v19), (0, .ref (h 68)), (1, .int x1), (2, .int x2), (3, .long x3), (5, .int x5), (6, .int x6), (7, .int x7)]) hx hb dX12_points_95 hl (by decide) rfl (fun ls hl => ?_)
  exact b_X12_points_97 X hr hk x1 x2 x3 x5 x6 x7 v19 σ _ hf _ _ _ Z (lv_sub hl [1, 2, 3, 4, 5, 6, 7, 0] rfl)

set_option maxRecDepth 100000 in
set_option maxHeartbeats 4000000 in
theorem c_X12_points (l : Launch) (D : va_G) (h : Nat → Nat) (cy : Nat → ClassId) (a1 : Int32) (a2 : Int32) (a3 : Int64) (a4 : Int32) (a5 : Int32) (σ : St) (y : Int32 × St) (hf : f_X12_points a1 a2 a3 a4 a5 σ = some y) : CI l yX12_points cX12_points 9 (some .boolean) 2 44 D h cy [.ref (h 68), .int a1, .int a2, .long a3, .int a4, .int a5] σ y := by
  refine ent (Qc := fun sz => QI D h cy sz y) (by decide) (Nat.le_of_ble_eq_true rfl) ?_
  intro p e s m below meth c ls X Z hr hk hl
  have X : Cx p s m _ c D h cy RX12 cX12_points 9 := X
  have hx := X.x
  have hb := X.b
  have hl : lv_has ls 9 [(0, .ref (h 68)), (1, .int a1), (2, .int a2), (3, .long a3), (5, .int a4), (6, .int a5)] := hl
  unfold f_X12_points at hf
  refine lv_aload_n hx hb dX12_points_0 rfl (lv_at hl 0 rfl) ?_
  refine lv_iconst (v := 0) hx hb dX12_points_1 (by decide) ?_
  refine pf_RX12_149 X Z dX12_points_2 (fun s1 H locs es1 Z => ?_)
  have hf := zn_e es1 hf
  refine lv_aload_n hx hb dX12_points_5 rfl (lv_at hl 0 rfl) ?_
  refine lv_iload_n hx hb dX12_points_6 rfl (lv_at hl 1 rfl) ?_
  obtain ⟨r4, s3, h2, hf⟩ := bi_s hf
  refine goI Z (run_V (As := [.int a1]) (rest := []) X Z (c_X12_isSegment l D h cy a1 s1 (r4, s3) h2 _) lk_RX12_193 ⟨by decide, by decide⟩ rv_68 rfl hl.1 rfl (Nat.le_of_ble_eq_true rfl) ⟨Nat.le_refl _, Nat.le_refl _⟩ dX12_points_7) (fun H locs Z => ?_)
  refine lv_if_eq (tgt := 67) hx hb dX12_points_10 (by decide) (fun c5 => ?_) (fun c5 => ?_)
  · have hf := itp c5 hf
    refine lv_iconst (v := 0) hx hb dX12_points_67 (by decide) ?_
    exact retZ X hr hk Z (by decide) hf dX12_points_68
  · have hf := itn c5 hf
    refine lv_iload_n hx hb dX12_points_13 rfl (lv_at hl 2 rfl) ?_
    refine lv_if_lt (tgt := 67) hx hb dX12_points_14 (by decide) (fun c6 => ?_) (fun c6 => ?_)
    · have hf := itp c6 hf
      refine lv_iconst (v := 0) hx hb dX12_points_67 (by decide) ?_
      exact retZ X hr hk Z (by decide) hf dX12_points_68
    · have hf := itn c6 hf
      refine lv_iload_n hx hb dX12_points_17 rfl (lv_at hl 2 rfl) ?_
      refine lv_iconst (v := 4) hx hb dX12_points_18 (by decide) ?_
      refine lv_irem hx hb dX12_points_19 (by decide) ?_
      refine lv_if_ne (tgt := 67) hx hb dX12_points_20 (by decide) (fun c7 => ?_) (fun c7 => ?_)
      · have hf := itn c7 hf
        refine lv_iconst (v := 0) hx hb dX12_points_67 (by decide) ?_
        exact retZ X hr hk Z (by decide) hf dX12_points_68
      · have hf := itp c7 hf
        refine lv_iload_n hx hb dX12_points_23 rfl (lv_at hl 2 rfl) ?_
        refine lv_aload_n hx hb dX12_points_24 rfl (lv_at hl 0 rfl) ?_
        refine gf_RX12_24 X Z dX12_points_25 ?_
        refine lv_iload_n hx hb dX12_points_28 rfl (lv_at hl 1 rfl) ?_
        obtain ⟨g8, hf⟩ := gd_s hf
        refine x_iald (k := 71) X Z sh_71 g8 dX12_points_29 ?_
        refine lv_bipush (v := 8) hx hb dX12_points_30 (by decide) ?_
        refine lv_isub hx hb dX12_points_32 ?_
        refine lv_icmp_gt (tgt := 67) hx hb dX12_points_33 (by decide) (fun c9 => ?_) (fun c9 => ?_)
        · have hf := itp c9 hf
          refine lv_iconst (v := 0) hx hb dX12_points_67 (by decide) ?_
          exact retZ X hr hk Z (by decide) hf dX12_points_68
        · have hf := itn c9 hf
          refine lv_iload_n hx hb dX12_points_36 rfl (lv_at hl 2 rfl) ?_
          refine lv_aload_n hx hb dX12_points_37 rfl (lv_at hl 0 rfl) ?_
          refine gf_RX12_21 X Z dX12_points_38 ?_
          obtain ⟨g10, hf⟩ := gd_s hf
          refine lv_idiv hx hb dX12_points_41 g10 ?_
          refine lv_iload_n hx hb dX12_points_42 rfl (lv_at hl 2 rfl) ?_
          refine lv_bipush (v := 7) hx hb dX12_points_43 (by decide) ?_
          refine lv_iadd hx hb dX12_points_45 ?_
          refine lv_aload_n hx hb dX12_points_46 rfl (lv_at hl 0 rfl) ?_
          refine gf_RX12_21 X Z dX12_points_47 ?_
          obtain ⟨g11, hf⟩ := gd_s hf
          refine lv_idiv hx hb dX12_points_50 g11 ?_
          refine lv_icmp_ne (tgt := 67) hx hb dX12_points_51 (by decide) (fun c12 => ?_) (fun c12 => ?_)
          · have hf := itn c12 hf
            refine lv_iconst (v := 0) hx hb dX12_points_67 (by decide) ?_
            exact retZ X hr hk Z (by decide) hf dX12_points_68
          · have hf := itp c12 hf
            refine lv_iload hx hb dX12_points_54 (lv_at hl 4 rfl) ?_
            refine lv_if_lt (tgt := 67) hx hb dX12_points_56 (by decide) (fun c13 => ?_) (fun c13 => ?_)
            · have hf := itp c13 hf
              refine lv_iconst (v := 0) hx hb dX12_points_67 (by decide) ?_
              exact retZ X hr hk Z (by decide) hf dX12_points_68
            · have hf := itn c13 hf
              refine lv_iload hx hb dX12_points_59 (lv_at hl 4 rfl) ?_
              refine lv_sipush (v := 255) hx hb dX12_points_61 (by decide) ?_
              refine lv_icmp_le (tgt := 69) hx hb dX12_points_64 (by decide) (fun c14 => ?_) (fun c14 => ?_)
              · have hf := itp c14 hf
                refine lv_aload_n hx hb dX12_points_69 rfl (lv_at hl 0 rfl) ?_
                refine lv_iload_n hx hb dX12_points_70 rfl (lv_at hl 1 rfl) ?_
                refine lv_iload_n hx hb dX12_points_71 rfl (lv_at hl 2 rfl) ?_
                obtain ⟨r17, s16, h15, hf⟩ := bi_s hf
                refine goI Z (run_V (As := [.int a1, .int a2]) (rest := []) X Z (c_X12_pointerAtPlace l D h cy a1 a2 s3 (r17, s16) h15 _) lk_RX12_200 ⟨by decide, by decide⟩ rv_68 rfl hl.1 rfl (Nat.le_of_ble_eq_true rfl) ⟨Nat.le_refl _, Nat.le_refl _⟩ dX12_points_72) (fun H locs Z => ?_)
                refine lv_istore (lv' := [(7, .int r17), (0, .ref (h 68)), (1, .int a1), (2, .int a2), (3, .long a3), (5, .int a4), (6, .int a5)]) hx hb dX12_points_75 hl (by decide) rfl (fun ls hl => ?_)
                refine lv_iload hx hb dX12_points_77 (lv_at hl 0 rfl) ?_
                refine lv_iconst (v := (-1)) hx hb dX12_points_79 (by decide) ?_
                refine lv_icmp_ne (tgt := 94) hx hb dX12_points_80 (by decide) (fun c18 => ?_) (fun c18 => ?_)
                · have hf := itn c18 hf
                  exact b_X12_points_94 X hr hk a1 a2 a3 a4 a5 r17 s16 _ hf _ _ _ Z (lv_sub hl [1, 2, 3, 4, 5, 6, 0] rfl)
                · have hf := itp c18 hf
                  refine lv_aload_n hx hb dX12_points_83 rfl (lv_at hl 1 rfl) ?_
                  refine gf_RX12_186 X Z dX12_points_84 ?_
                  refine lv_bipush (v := 100) hx hb dX12_points_87 (by decide) ?_
                  refine lv_icmp_ne (tgt := 94) hx hb dX12_points_89 (by decide) (fun c54 => ?_) (fun c54 => ?_)
                  · have hf := itn c54 hf
                    exact b_X12_points_94 X hr hk a1 a2 a3 a4 a5 r17 s16 _ hf _ _ _ Z (lv_sub hl [1, 2, 3, 4, 5, 6, 0] rfl)
                  · have hf := itp c54 hf
                    refine lv_iconst (v := 0) hx hb dX12_points_92 (by decide) ?_
                    exact retZ X hr hk Z (by decide) hf dX12_points_93
              · have hf := itn c14 hf
                refine lv_iconst (v := 0) hx hb dX12_points_67 (by decide) ?_
                exact retZ X hr hk Z (by decide) hf dX12_points_68

set_option maxRecDepth 100000 in
set_option maxHeartbeats 4000000 in
theorem c_X12_rebase (l : Launch) (D : va_G) (h : Nat → Nat) (cy : Nat → ClassId) (a1 : Int32) (a2 : Int32) (a3 : Int64) (a4 : Int32) (σ : St) (y : Int32 × St) (hf : f_X12_rebase a1 a2 a3 a4 σ = some y) : CI l yX12_rebase cX12_rebase 6 (some .boolean) 3 72 D h cy [.ref (h 68), .int a1, .int a2, .long a3, .int a4] σ y := by
  refine ent (Qc := fun sz => QI D h cy sz y) (by decide) (Nat.le_of_ble_eq_true rfl) ?_
  intro p e s m below meth c ls X Z hr hk hl
  have X : Cx p s m _ c D h cy RX12 cX12_rebase 6 := X
  have hx := X.x
  have hb := X.b
  have hl : lv_has ls 6 [(0, .ref (h 68)), (1, .int a1), (2, .int a2), (3, .long a3), (5, .int a4)] := hl
  unfold f_X12_rebase at hf
  refine lv_aload_n hx hb dX12_rebase_0 rfl (lv_at hl 0 rfl) ?_
  refine lv_iconst (v := 0) hx hb dX12_rebase_1 (by decide) ?_
  refine pf_RX12_149 X Z dX12_rebase_2 (fun s1 H locs es1 Z => ?_)
  have hf := zn_e es1 hf
  refine lv_lload_n hx hb dX12_rebase_5 rfl (lv_at hl 3 rfl) ?_
  refine lv_lconst (v := 0) hx hb dX12_rebase_6 (by decide) ?_
  refine x_lif_lt (tgt := 36) X dX12_rebase_7 dX12_rebase_8 (by decide) (fun c2 => ?_) (fun c2 => ?_)
  · have hf := itp c2 hf
    refine lv_iconst (v := 0) hx hb dX12_rebase_36 (by decide) ?_
    exact retZ X hr hk Z (by decide) hf dX12_rebase_37
  · have hf := itn c2 hf
    refine lv_lload_n hx hb dX12_rebase_11 rfl (lv_at hl 3 rfl) ?_
    refine lv_ldc2 (v := 68719476736) hx hb X.o (X.t _ kc_RX12_207) dX12_rebase_12 ?_
    refine x_lif_ge (tgt := 36) X dX12_rebase_15 dX12_rebase_16 (by decide) (fun c3 => ?_) (fun c3 => ?_)
    · have hf := itp c3 hf
      refine lv_iconst (v := 0) hx hb dX12_rebase_36 (by decide) ?_
      exact retZ X hr hk Z (by decide) hf dX12_rebase_37
    · have hf := itn c3 hf
      refine lv_aload_n hx hb dX12_rebase_19 rfl (lv_at hl 0 rfl) ?_
      refine lv_iload_n hx hb dX12_rebase_20 rfl (lv_at hl 1 rfl) ?_
      refine lv_iload_n hx hb dX12_rebase_21 rfl (lv_at hl 2 rfl) ?_
      refine lv_lload_n hx hb dX12_rebase_22 rfl (lv_at hl 3 rfl) ?_
      refine lv_iload hx hb dX12_rebase_23 (lv_at hl 4 rfl) ?_
      refine lv_iconst (v := 0) hx hb dX12_rebase_25 (by decide) ?_
      obtain ⟨r6, s5, h4, hf⟩ := bi_s hf
      refine goI Z (run_V (As := [.int a1, .int a2, .long a3, .int a4, .int (0 : Int32)]) (rest := []) X Z (c_X12_points l D h cy a1 a2 a3 a4 (0 : Int32) s1 (r6, s5) h4 _) lk_RX12_209 ⟨by decide, by decide⟩ rv_68 rfl hl.1 rfl (Nat.le_of_ble_eq_true rfl) ⟨Nat.le_refl _, Nat.le_refl _⟩ dX12_rebase_26) (fun H locs Z => ?_)
      refine lv_if_eq (tgt := 36) hx hb dX12_rebase_29 (by decide) (fun c7 => ?_) (fun c7 => ?_)
      · have hf := itp c7 hf
        refine lv_iconst (v := 0) hx hb dX12_rebase_36 (by decide) ?_
        exact retZ X hr hk Z (by decide) hf dX12_rebase_37
      · have hf := itn c7 hf
        refine lv_iconst (v := 1) hx hb dX12_rebase_32 (by decide) ?_
        refine lv_goto (tgt := 37) hx hb dX12_rebase_33 (by decide) ?_
        exact retZ X hr hk Z (by decide) hf dX12_rebase_37

set_option maxRecDepth 100000 in
set_option maxHeartbeats 4000000 in
theorem c_X12_bind (l : Launch) (D : va_G) (h : Nat → Nat) (cy : Nat → ClassId) (a1 : Int32) (a2 : Int32) (a3 : Int32) (a4 : Int32) (σ : St) (y : Int32 × St) (hf : f_X12_bind a1 a2 a3 a4 σ = some y) : CI l yX12_bind cX12_bind 5 (some .boolean) 3 72 D h cy [.ref (h 68), .int a1, .int a2, .int a3, .int a4] σ y := by
  refine ent (Qc := fun sz => QI D h cy sz y) (by decide) (Nat.le_of_ble_eq_true rfl) ?_
  intro p e s m below meth c ls X Z hr hk hl
  have X : Cx p s m _ c D h cy RX12 cX12_bind 5 := X
  have hx := X.x
  have hb := X.b
  have hl : lv_has ls 5 [(0, .ref (h 68)), (1, .int a1), (2, .int a2), (3, .int a3), (4, .int a4)] := hl
  unfold f_X12_bind at hf
  refine lv_aload_n hx hb dX12_bind_0 rfl (lv_at hl 0 rfl) ?_
  refine lv_iconst (v := 0) hx hb dX12_bind_1 (by decide) ?_
  refine pf_RX12_149 X Z dX12_bind_2 (fun s1 H locs es1 Z => ?_)
  have hf := zn_e es1 hf
  refine lv_iload_n hx hb dX12_bind_5 rfl (lv_at hl 3 rfl) ?_
  refine lv_if_lt (tgt := 35) hx hb dX12_bind_6 (by decide) (fun c2 => ?_) (fun c2 => ?_)
  · have hf := itp c2 hf
    refine lv_iconst (v := 0) hx hb dX12_bind_35 (by decide) ?_
    exact retZ X hr hk Z (by decide) hf dX12_bind_36
  · have hf := itn c2 hf
    refine lv_iload_n hx hb dX12_bind_9 rfl (lv_at hl 3 rfl) ?_
    refine lv_aload_n hx hb dX12_bind_10 rfl (lv_at hl 0 rfl) ?_
    refine gf_RX12_183 X Z dX12_bind_11 ?_
    refine lv_icmp_ge (tgt := 35) hx hb dX12_bind_14 (by decide) (fun c3 => ?_) (fun c3 => ?_)
    · have hf := itp c3 hf
      refine lv_iconst (v := 0) hx hb dX12_bind_35 (by decide) ?_
      exact retZ X hr hk Z (by decide) hf dX12_bind_36
    · have hf := itn c3 hf
      refine lv_aload_n hx hb dX12_bind_17 rfl (lv_at hl 0 rfl) ?_
      refine lv_iload_n hx hb dX12_bind_18 rfl (lv_at hl 1 rfl) ?_
      refine lv_iload_n hx hb dX12_bind_19 rfl (lv_at hl 2 rfl) ?_
      refine lv_iload_n hx hb dX12_bind_20 rfl (lv_at hl 3 rfl) ?_
      refine lv_i2l (v := a3.toInt64) hx hb dX12_bind_21 rfl ?_
      refine lv_iload hx hb dX12_bind_22 (lv_at hl 4 rfl) ?_
      refine lv_iconst (v := 1) hx hb dX12_bind_24 (by decide) ?_
      obtain ⟨r6, s5, h4, hf⟩ := bi_s hf
      refine goI Z (run_V (As := [.int a1, .int a2, .long a3.toInt64, .int a4, .int (1 : Int32)]) (rest := []) X Z (c_X12_points l D h cy a1 a2 a3.toInt64 a4 (1 : Int32) s1 (r6, s5) h4 _) lk_RX12_209 ⟨by decide, by decide⟩ rv_68 rfl hl.1 rfl (Nat.le_of_ble_eq_true rfl) ⟨Nat.le_refl _, Nat.le_refl _⟩ dX12_bind_25) (fun H locs Z => ?_)
      refine lv_if_eq (tgt := 35) hx hb dX12_bind_28 (by decide) (fun c7 => ?_) (fun c7 => ?_)
      · have hf := itp c7 hf
        refine lv_iconst (v := 0) hx hb dX12_bind_35 (by decide) ?_
        exact retZ X hr hk Z (by decide) hf dX12_bind_36
      · have hf := itn c7 hf
        refine lv_iconst (v := 1) hx hb dX12_bind_31 (by decide) ?_
        refine lv_goto (tgt := 36) hx hb dX12_bind_32 (by decide) ?_
        exact retZ X hr hk Z (by decide) hf dX12_bind_36

set_option maxRecDepth 100000 in
set_option maxHeartbeats 4000000 in
theorem c_X12_drop (l : Launch) (D : va_G) (h : Nat → Nat) (cy : Nat → ClassId) (a1 : Int32) (a2 : Int32) (σ : St) (y : Int32 × St) (hf : f_X12_drop a1 a2 σ = some y) : CI l yX12_drop cX12_drop 4 (some .boolean) 2 44 D h cy [.ref (h 68), .int a1, .int a2] σ y := by
  refine ent (Qc := fun sz => QI D h cy sz y) (by decide) (Nat.le_of_ble_eq_true rfl) ?_
  intro p e s m below meth c ls X Z hr hk hl
  have X : Cx p s m _ c D h cy RX12 cX12_drop 4 := X
  have hx := X.x
  have hb := X.b
  have hl : lv_has ls 4 [(0, .ref (h 68)), (1, .int a1), (2, .int a2)] := hl
  unfold f_X12_drop at hf
  refine lv_aload_n hx hb dX12_drop_0 rfl (lv_at hl 0 rfl) ?_
  refine lv_iconst (v := 0) hx hb dX12_drop_1 (by decide) ?_
  refine pf_RX12_149 X Z dX12_drop_2 (fun s1 H locs es1 Z => ?_)
  have hf := zn_e es1 hf
  refine lv_aload_n hx hb dX12_drop_5 rfl (lv_at hl 0 rfl) ?_
  refine lv_iload_n hx hb dX12_drop_6 rfl (lv_at hl 1 rfl) ?_
  refine lv_iload_n hx hb dX12_drop_7 rfl (lv_at hl 2 rfl) ?_
  obtain ⟨r4, s3, h2, hf⟩ := bi_s hf
  refine goI Z (run_V (As := [.int a1, .int a2]) (rest := []) X Z (c_X12_pointerAtPlace l D h cy a1 a2 s1 (r4, s3) h2 _) lk_RX12_200 ⟨by decide, by decide⟩ rv_68 rfl hl.1 rfl (Nat.le_of_ble_eq_true rfl) ⟨Nat.le_refl _, Nat.le_refl _⟩ dX12_drop_8) (fun H locs Z => ?_)
  refine lv_istore_n (lv' := [(3, .int r4), (0, .ref (h 68)), (1, .int a1), (2, .int a2)]) hx hb dX12_drop_11 rfl hl (by decide) rfl (fun ls hl => ?_)
  refine lv_iload_n hx hb dX12_drop_12 rfl (lv_at hl 0 rfl) ?_
  refine lv_iconst (v := (-1)) hx hb dX12_drop_13 (by decide) ?_
  refine lv_icmp_ne (tgt := 19) hx hb dX12_drop_14 (by decide) (fun c5 => ?_) (fun c5 => ?_)
  · have hf := itn c5 hf
    refine lv_aload_n hx hb dX12_drop_19 rfl (lv_at hl 1 rfl) ?_
    refine lv_iload_n hx hb dX12_drop_20 rfl (lv_at hl 0 rfl) ?_
    obtain ⟨s7, h6, hf⟩ := bv_s hf
    refine goV Z (run_V (As := [.int r4]) (rest := []) X Z (c_X12_gone l D h cy r4 s3 s7 h6 _) lk_RX12_204 ⟨by decide, by decide⟩ rv_68 rfl hl.1 rfl (Nat.le_of_ble_eq_true rfl) ⟨Nat.le_refl _, Nat.le_refl _⟩ dX12_drop_21) (fun H locs Z => ?_)
    refine lv_iconst (v := 1) hx hb dX12_drop_24 (by decide) ?_
    exact retZ X hr hk Z (by decide) hf dX12_drop_25
  · have hf := itp c5 hf
    refine lv_iconst (v := 0) hx hb dX12_drop_17 (by decide) ?_
    exact retZ X hr hk Z (by decide) hf dX12_drop_18

set_option maxRecDepth 100000 in
set_option maxHeartbeats 4000000 in
theorem b_X12_put_3b {p : Program} {l : Launch} {e : Env} {s : State} {m : MethodId} {args : Array Value} {below : List Frame} {meth : Method} {c : Code} {D : va_G} {h : Nat → Nat} {cy : Nat → ClassId} (X : Cx p s m args c D h cy RX12 cX12_put 5) (hr : meth.sig.returnType = none) (hk : meth.locks = false) (K3 : (Int64 × Int32 × Int32 × St) → Option (St)) (hK3 : ∀ (a : Int64 × Int32 × Int32 × St) (y : St), K3 a = some y → ∀ (H : Heap) (locs : List Loc) (ls : Array Slot), Zt D h cy s a.2.2.2 H locs → lv_has ls 5 [(0, .ref (h 68)), (1, .long a.1), (3, .int a.2.1), (4, .int a.2.2.1)] → W p l e (rmz 0 0) s m args below meth c H locs 0 0 (EV below args s D h cy y) (F0 m 3 ls [])) (x1 : Int64) (x3 : Int32) (x4 : Int32) (σ : St) (y : St) (hf : f_X12_put_3b K3 x1 x3 x4 σ = some y) : ∀ (H : Heap) (locs : List Loc) (ls : Array Slot), Zt D h cy s σ H locs → lv_has ls 5 [(0, .ref (h 68)), (1, .long x1), (3, .int x3), (4, .int x4)] → W p l e (rmz 0 0) s m args below meth c H locs 0 0 (EV below args s D h cy y) (F0 m 3 ls []) := by
  intro H locs ls Z hl
  have hx := X.x
  have hb := X.b
  unfold f_X12_put_3b at hf
  refine lv_iload hx hb dX12_put_3 (lv_at hl 3 rfl) ?_
  refine lv_iload_n hx hb dX12_put_5 rfl (lv_at hl 2 rfl) ?_
  refine lv_icmp_ge (tgt := 46) hx hb dX12_put_6 (by decide) (fun c2 => ?_) (fun c2 => ?_)
  · have hf := itp c2 hf
    exact retV X hr hk Z hf dX12_put_46
  · have hf := itn c2 hf
    refine lv_aload_n hx hb dX12_put_9 rfl (lv_at hl 0 rfl) ?_
    refine gf_RX12_77 X Z dX12_put_10 ?_
    refine lv_aload_n hx hb dX12_put_13 rfl (lv_at hl 0 rfl) ?_
    refine gf_RX12_213 X Z dX12_put_14 ?_
    refine lv_lload_n hx hb dX12_put_17 rfl (lv_at hl 1 rfl) ?_
    refine lv_bipush (v := 8) hx hb dX12_put_18 (by decide) ?_
    refine lv_iload hx hb dX12_put_20 (lv_at hl 3 rfl) ?_
    refine lv_imul hx hb dX12_put_22 ?_
    refine lv_lshr (v := zlshr x1 (((8 : Int32) * x4))) hx hb dX12_put_23 rfl ?_
    refine lv_l2i (v := ((zlshr x1 (((8 : Int32) * x4)))).toInt32) hx hb dX12_put_24 rfl ?_
    refine lv_sipush (v := 255) hx hb dX12_put_25 (by decide) ?_
    refine lv_iand hx hb dX12_put_28 ?_
    obtain ⟨g3, hf⟩ := gd_s hf
    refine x_iast (k := 88) X Z sh_88 g3 dX12_put_29 (fun s4 H locs es4 Z => ?_)
    have hf := zn_e es4 hf
    refine lv_aload_n hx hb dX12_put_30 rfl (lv_at hl 0 rfl) ?_
    refine lv_dup hx hb dX12_put_31 rfl ?_
    refine gf_RX12_213 X Z dX12_put_32 ?_
    refine lv_iconst (v := 1) hx hb dX12_put_35 (by decide) ?_
    refine lv_iadd hx hb dX12_put_36 ?_
    refine pf_RX12_213 X Z dX12_put_37 (fun s5 H locs es5 Z => ?_)
    have hf := zn_e es5 hf
    obtain ⟨v6, ev6⟩ : ∃ z : Int32, z = x4 + 1 := ⟨_, rfl⟩
    have hf := zn_e ev6 hf
    refine lv_iinc (v := v6) (lv' := [(4, .int v6), (0, .ref (h 68)), (1, .long x1), (3, .int x3)]) hx hb dX12_put_40 hl (k := 3) rfl (by rw [ev6]; rfl) (by decide) rfl (fun ls hl => ?_)
    refine lv_goto (tgt := 3) hx hb dX12_put_43 (by decide) ?_
    exact hK3 (x1, x3, v6, s5) _ hf _ _ _ Z (lv_sub hl [1, 2, 3, 0] rfl)

set_option maxRecDepth 100000 in
set_option maxHeartbeats 4000000 in
theorem b_X12_put_3 {p : Program} {l : Launch} {e : Env} {s : State} {m : MethodId} {args : Array Value} {below : List Frame} {meth : Method} {c : Code} {D : va_G} {h : Nat → Nat} {cy : Nat → ClassId} (X : Cx p s m args c D h cy RX12 cX12_put 5) (hr : meth.sig.returnType = none) (hk : meth.locks = false) (x1 : Int64) (x3 : Int32) (x4 : Int32) (σ : St) (y : St) (hf : f_X12_put_3 x1 x3 x4 σ = some y) : ∀ (H : Heap) (locs : List Loc) (ls : Array Slot), Zt D h cy s σ H locs → lv_has ls 5 [(0, .ref (h 68)), (1, .long x1), (3, .int x3), (4, .int x4)] → W p l e (rmz 0 0) s m args below meth c H locs 0 0 (EV below args s D h cy y) (F0 m 3 ls []) := by
  exact it_W (F := fun K a => f_X12_put_3b K a.1 a.2.1 a.2.2.1 a.2.2.2) (P := fun a y => ∀ (H : Heap) (locs : List Loc) (ls : Array Slot), Zt D h cy s a.2.2.2 H locs → lv_has ls 5 [(0, .ref (h 68)), (1, .long a.1), (3, .int a.2.1), (4, .int a.2.2.1)] → W p l e (rmz 0 0) s m args below meth c H locs 0 0 (EV below args s D h cy y) (F0 m 3 ls [])) (fun K hK a y hf => b_X12_put_3b X hr hk K hK (a.1) (a.2.1) (a.2.2.1) (a.2.2.2) y hf) FU _ y hf

set_option maxRecDepth 100000 in
set_option maxHeartbeats 4000000 in
theorem c_X12_put (l : Launch) (D : va_G) (h : Nat → Nat) (cy : Nat → ClassId) (a1 : Int64) (a2 : Int32) (σ : St) (y : St) (hf : f_X12_put a1 a2 σ = some y) : CV l yX12_put cX12_put 5 none 0 0 D h cy [.ref (h 68), .long a1, .int a2] σ y := by
  refine ent (Qc := fun sz => QV D h cy sz y) (by decide) (Nat.le_of_ble_eq_true rfl) ?_
  intro p e s m below meth c ls X Z hr hk hl
  have X : Cx p s m _ c D h cy RX12 cX12_put 5 := X
  have hx := X.x
  have hb := X.b
  have hl : lv_has ls 5 [(0, .ref (h 68)), (1, .long a1), (3, .int a2)] := hl
  unfold f_X12_put at hf
  refine lv_iconst (v := 0) hx hb dX12_put_0 (by decide) ?_
  refine lv_topi (fun v1 ev1 => ?_)
  have hf := zn_e ev1 hf
  refine lv_istore (lv' := [(4, .int v1), (0, .ref (h 68)), (1, .long a1), (3, .int a2)]) hx hb dX12_put_1 hl (by decide) rfl (fun ls hl => ?_)
  exact b_X12_put_3 X hr hk a1 a2 v1 σ _ hf _ _ _ Z (lv_sub hl [1, 2, 3, 0] rfl)

set_option maxRecDepth 100000 in
set_option maxHeartbeats 4000000 in
theorem c_X12_putFours (l : Launch) (D : va_G) (h : Nat → Nat) (cy : Nat → ClassId) (a1 : Int64) (a2 : Int64) (a3 : Int64) (a4 : Int64) (σ : St) (y : St) (hf : f_X12_putFours a1 a2 a3 a4 σ = some y) : CV l yX12_putFours cX12_putFours 9 none 1 24 D h cy [.ref (h 68), .long a1, .long a2, .long a3, .long a4] σ y := by
  refine ent (Qc := fun sz => QV D h cy sz y) (by decide) (Nat.le_of_ble_eq_true rfl) ?_
  intro p e s m below meth c ls X Z hr hk hl
  have X : Cx p s m _ c D h cy RX12 cX12_putFours 9 := X
  have hx := X.x
  have hb := X.b
  have hl : lv_has ls 9 [(0, .ref (h 68)), (1, .long a1), (3, .long a2), (5, .long a3), (7, .long a4)] := hl
  unfold f_X12_putFours at hf
  refine lv_aload_n hx hb dX12_putFours_0 rfl (lv_at hl 0 rfl) ?_
  refine lv_lload_n hx hb dX12_putFours_1 rfl (lv_at hl 1 rfl) ?_
  refine lv_iconst (v := 4) hx hb dX12_putFours_2 (by decide) ?_
  obtain ⟨s2, h1, hf⟩ := bv_s hf
  refine goV Z (run_V (As := [.long a1, .int (4 : Int32)]) (rest := []) X Z (c_X12_put l D h cy a1 (4 : Int32) σ s2 h1 _) lk_RX12_216 ⟨by decide, by decide⟩ rv_68 rfl hl.1 rfl (Nat.le_of_ble_eq_true rfl) ⟨Nat.le_refl _, Nat.le_refl _⟩ dX12_putFours_3) (fun H locs Z => ?_)
  refine lv_aload_n hx hb dX12_putFours_6 rfl (lv_at hl 0 rfl) ?_
  refine lv_lload_n hx hb dX12_putFours_7 rfl (lv_at hl 2 rfl) ?_
  refine lv_iconst (v := 4) hx hb dX12_putFours_8 (by decide) ?_
  obtain ⟨s4, h3, hf⟩ := bv_s hf
  refine goV Z (run_V (As := [.long a2, .int (4 : Int32)]) (rest := []) X Z (c_X12_put l D h cy a2 (4 : Int32) s2 s4 h3 _) lk_RX12_216 ⟨by decide, by decide⟩ rv_68 rfl hl.1 rfl (Nat.le_of_ble_eq_true rfl) ⟨Nat.le_refl _, Nat.le_refl _⟩ dX12_putFours_9) (fun H locs Z => ?_)
  refine lv_aload_n hx hb dX12_putFours_12 rfl (lv_at hl 0 rfl) ?_
  refine lv_lload hx hb dX12_putFours_13 (lv_at hl 3 rfl) ?_
  refine lv_iconst (v := 4) hx hb dX12_putFours_15 (by decide) ?_
  obtain ⟨s6, h5, hf⟩ := bv_s hf
  refine goV Z (run_V (As := [.long a3, .int (4 : Int32)]) (rest := []) X Z (c_X12_put l D h cy a3 (4 : Int32) s4 s6 h5 _) lk_RX12_216 ⟨by decide, by decide⟩ rv_68 rfl hl.1 rfl (Nat.le_of_ble_eq_true rfl) ⟨Nat.le_refl _, Nat.le_refl _⟩ dX12_putFours_16) (fun H locs Z => ?_)
  refine lv_aload_n hx hb dX12_putFours_19 rfl (lv_at hl 0 rfl) ?_
  refine lv_lload hx hb dX12_putFours_20 (lv_at hl 4 rfl) ?_
  refine lv_iconst (v := 4) hx hb dX12_putFours_22 (by decide) ?_
  obtain ⟨s8, h7, hf⟩ := bv_s hf
  refine goV Z (run_V (As := [.long a4, .int (4 : Int32)]) (rest := []) X Z (c_X12_put l D h cy a4 (4 : Int32) s6 s8 h7 _) lk_RX12_216 ⟨by decide, by decide⟩ rv_68 rfl hl.1 rfl (Nat.le_of_ble_eq_true rfl) ⟨Nat.le_refl _, Nat.le_refl _⟩ dX12_putFours_23) (fun H locs Z => ?_)
  exact retV X hr hk Z hf dX12_putFours_26

set_option maxRecDepth 100000 in
set_option maxHeartbeats 4000000 in
theorem b_X12_putName_2b {p : Program} {l : Launch} {e : Env} {s : State} {m : MethodId} {args : Array Value} {below : List Frame} {meth : Method} {c : Code} {D : va_G} {h : Nat → Nat} {cy : Nat → ClassId} (X : Cx p s m args c D h cy RX12 cX12_putName 4) (hr : meth.sig.returnType = none) (hk : meth.locks = false) (K2 : (Int32 × Int32 × Int32 × St) → Option (St)) (hK2 : ∀ (a : Int32 × Int32 × Int32 × St) (y : St), K2 a = some y → ∀ (H : Heap) (locs : List Loc) (ls : Array Slot), Zt D h cy s a.2.2.2 H locs → lv_has ls 4 [(0, .ref (h 68)), (1, .int a.1), (2, .int a.2.1), (3, .int a.2.2.1)] → W p l e (rmz 1 24) s m args below meth c H locs 0 0 (EV below args s D h cy y) (F0 m 2 ls [])) (x1 : Int32) (x2 : Int32) (x3 : Int32) (σ : St) (y : St) (hf : f_X12_putName_2b K2 x1 x2 x3 σ = some y) : ∀ (H : Heap) (locs : List Loc) (ls : Array Slot), Zt D h cy s σ H locs → lv_has ls 4 [(0, .ref (h 68)), (1, .int x1), (2, .int x2), (3, .int x3)] → W p l e (rmz 1 24) s m args below meth c H locs 0 0 (EV below args s D h cy y) (F0 m 2 ls []) := by
  intro H locs ls Z hl
  have hx := X.x
  have hb := X.b
  unfold f_X12_putName_2b at hf
  refine lv_iload_n hx hb dX12_putName_2 rfl (lv_at hl 3 rfl) ?_
  refine lv_iload_n hx hb dX12_putName_3 rfl (lv_at hl 2 rfl) ?_
  refine lv_icmp_ge (tgt := 30) hx hb dX12_putName_4 (by decide) (fun c2 => ?_) (fun c2 => ?_)
  · have hf := itp c2 hf
    exact retV X hr hk Z hf dX12_putName_30
  · have hf := itn c2 hf
    refine lv_aload_n hx hb dX12_putName_7 rfl (lv_at hl 0 rfl) ?_
    refine lv_aload_n hx hb dX12_putName_8 rfl (lv_at hl 0 rfl) ?_
    refine gf_RX12_13 X Z dX12_putName_9 ?_
    refine lv_bipush (v := 16) hx hb dX12_putName_12 (by decide) ?_
    refine lv_iload_n hx hb dX12_putName_14 rfl (lv_at hl 1 rfl) ?_
    refine lv_imul hx hb dX12_putName_15 ?_
    refine lv_iload_n hx hb dX12_putName_16 rfl (lv_at hl 3 rfl) ?_
    refine lv_iadd hx hb dX12_putName_17 ?_
    obtain ⟨g3, hf⟩ := gd_s hf
    refine x_iald (k := 70) X Z sh_70 g3 dX12_putName_18 ?_
    refine lv_i2l (v := ((σ.1 70 ((((16 : Int32) * x1) + x3)).toNatClampNeg)).toInt64) hx hb dX12_putName_19 rfl ?_
    refine lv_iconst (v := 1) hx hb dX12_putName_20 (by decide) ?_
    obtain ⟨s5, h4, hf⟩ := bv_s hf
    refine goV Z (run_V (As := [.long (((σ.1 70 ((((16 : Int32) * x1) + x3)).toNatClampNeg)).toInt64), .int (1 : Int32)]) (rest := []) X Z (c_X12_put l D h cy (((σ.1 70 ((((16 : Int32) * x1) + x3)).toNatClampNeg)).toInt64) (1 : Int32) σ s5 h4 _) lk_RX12_216 ⟨by decide, by decide⟩ rv_68 rfl hl.1 rfl (Nat.le_of_ble_eq_true rfl) ⟨Nat.le_refl _, Nat.le_refl _⟩ dX12_putName_21) (fun H locs Z => ?_)
    obtain ⟨v6, ev6⟩ : ∃ z : Int32, z = x3 + 1 := ⟨_, rfl⟩
    have hf := zn_e ev6 hf
    refine lv_iinc (v := v6) (lv' := [(3, .int v6), (0, .ref (h 68)), (1, .int x1), (2, .int x2)]) hx hb dX12_putName_24 hl (k := 3) rfl (by rw [ev6]; rfl) (by decide) rfl (fun ls hl => ?_)
    refine lv_goto (tgt := 2) hx hb dX12_putName_27 (by decide) ?_
    exact hK2 (x1, x2, v6, s5) _ hf _ _ _ Z (lv_sub hl [1, 2, 3, 0] rfl)

set_option maxRecDepth 100000 in
set_option maxHeartbeats 4000000 in
theorem b_X12_putName_2 {p : Program} {l : Launch} {e : Env} {s : State} {m : MethodId} {args : Array Value} {below : List Frame} {meth : Method} {c : Code} {D : va_G} {h : Nat → Nat} {cy : Nat → ClassId} (X : Cx p s m args c D h cy RX12 cX12_putName 4) (hr : meth.sig.returnType = none) (hk : meth.locks = false) (x1 : Int32) (x2 : Int32) (x3 : Int32) (σ : St) (y : St) (hf : f_X12_putName_2 x1 x2 x3 σ = some y) : ∀ (H : Heap) (locs : List Loc) (ls : Array Slot), Zt D h cy s σ H locs → lv_has ls 4 [(0, .ref (h 68)), (1, .int x1), (2, .int x2), (3, .int x3)] → W p l e (rmz 1 24) s m args below meth c H locs 0 0 (EV below args s D h cy y) (F0 m 2 ls []) := by
  exact it_W (F := fun K a => f_X12_putName_2b K a.1 a.2.1 a.2.2.1 a.2.2.2) (P := fun a y => ∀ (H : Heap) (locs : List Loc) (ls : Array Slot), Zt D h cy s a.2.2.2 H locs → lv_has ls 4 [(0, .ref (h 68)), (1, .int a.1), (2, .int a.2.1), (3, .int a.2.2.1)] → W p l e (rmz 1 24) s m args below meth c H locs 0 0 (EV below args s D h cy y) (F0 m 2 ls [])) (fun K hK a y hf => b_X12_putName_2b X hr hk K hK (a.1) (a.2.1) (a.2.2.1) (a.2.2.2) y hf) FU _ y hf

set_option maxRecDepth 100000 in
set_option maxHeartbeats 4000000 in
theorem c_X12_putName (l : Launch) (D : va_G) (h : Nat → Nat) (cy : Nat → ClassId) (a1 : Int32) (a2 : Int32) (σ : St) (y : St) (hf : f_X12_putName a1 a2 σ = some y) : CV l yX12_putName cX12_putName 4 none 1 24 D h cy [.ref (h 68), .int a1, .int a2] σ y := by
  refine ent (Qc := fun sz => QV D h cy sz y) (by decide) (Nat.le_of_ble_eq_true rfl) ?_
  intro p e s m below meth c ls X Z hr hk hl
  have X : Cx p s m _ c D h cy RX12 cX12_putName 4 := X
  have hx := X.x
  have hb := X.b
  have hl : lv_has ls 4 [(0, .ref (h 68)), (1, .int a1), (2, .int a2)] := hl
  unfold f_X12_putName at hf
  refine lv_iconst (v := 0) hx hb dX12_putName_0 (by decide) ?_
  refine lv_topi (fun v1 ev1 => ?_)
  have hf := zn_e ev1 hf
  refine lv_istore_n (lv' := [(3, .int v1), (0, .ref (h 68)), (1, .int a1), (2, .int a2)]) hx hb dX12_putName_1 rfl hl (by decide) rfl (fun ls hl => ?_)
  exact b_X12_putName_2 X hr hk a1 a2 v1 σ _ hf _ _ _ Z (lv_sub hl [1, 2, 3, 0] rfl)

set_option maxRecDepth 100000 in
set_option maxHeartbeats 4000000 in
theorem b_X12_even_0b {p : Program} {l : Launch} {e : Env} {s : State} {m : MethodId} {args : Array Value} {below : List Frame} {meth : Method} {c : Code} {D : va_G} {h : Nat → Nat} {cy : Nat → ClassId} (X : Cx p s m args c D h cy RX12 cX12_even 2) (hr : meth.sig.returnType = none) (hk : meth.locks = false) (K0 : (Int32 × St) → Option (St)) (hK0 : ∀ (a : Int32 × St) (y : St), K0 a = some y → ∀ (H : Heap) (locs : List Loc) (ls : Array Slot), Zt D h cy s a.2 H locs → lv_has ls 2 [(0, .ref (h 68)), (1, .int a.1)] → W p l e (rmz 1 24) s m args below meth c H locs 0 0 (EV below args s D h cy y) (F0 m 0 ls [])) (x1 : Int32) (σ : St) (y : St) (hf : f_X12_even_0b K0 x1 σ = some y) : ∀ (H : Heap) (locs : List Loc) (ls : Array Slot), Zt D h cy s σ H locs → lv_has ls 2 [(0, .ref (h 68)), (1, .int x1)] → W p l e (rmz 1 24) s m args below meth c H locs 0 0 (EV below args s D h cy y) (F0 m 0 ls []) := by
  intro H locs ls Z hl
  have hx := X.x
  have hb := X.b
  unfold f_X12_even_0b at hf
  refine lv_aload_n hx hb dX12_even_0 rfl (lv_at hl 0 rfl) ?_
  refine gf_RX12_213 X Z dX12_even_1 ?_
  refine lv_iload_n hx hb dX12_even_4 rfl (lv_at hl 1 rfl) ?_
  obtain ⟨g1, hf⟩ := gd_s hf
  refine lv_irem hx hb dX12_even_5 g1 ?_
  refine lv_if_eq (tgt := 18) hx hb dX12_even_6 (by decide) (fun c2 => ?_) (fun c2 => ?_)
  · have hf := itp c2 hf
    exact retV X hr hk Z hf dX12_even_18
  · have hf := itn c2 hf
    refine lv_aload_n hx hb dX12_even_9 rfl (lv_at hl 0 rfl) ?_
    refine lv_lconst (v := 0) hx hb dX12_even_10 (by decide) ?_
    refine lv_iconst (v := 1) hx hb dX12_even_11 (by decide) ?_
    obtain ⟨s4, h3, hf⟩ := bv_s hf
    refine goV Z (run_V (As := [.long (0 : Int64), .int (1 : Int32)]) (rest := []) X Z (c_X12_put l D h cy (0 : Int64) (1 : Int32) σ s4 h3 _) lk_RX12_216 ⟨by decide, by decide⟩ rv_68 rfl hl.1 rfl (Nat.le_of_ble_eq_true rfl) ⟨Nat.le_refl _, Nat.le_refl _⟩ dX12_even_12) (fun H locs Z => ?_)
    refine lv_goto (tgt := 0) hx hb dX12_even_15 (by decide) ?_
    exact hK0 (x1, s4) _ hf _ _ _ Z (lv_sub hl [0, 1] rfl)

set_option maxRecDepth 100000 in
set_option maxHeartbeats 4000000 in
theorem b_X12_even_0 {p : Program} {l : Launch} {e : Env} {s : State} {m : MethodId} {args : Array Value} {below : List Frame} {meth : Method} {c : Code} {D : va_G} {h : Nat → Nat} {cy : Nat → ClassId} (X : Cx p s m args c D h cy RX12 cX12_even 2) (hr : meth.sig.returnType = none) (hk : meth.locks = false) (x1 : Int32) (σ : St) (y : St) (hf : f_X12_even_0 x1 σ = some y) : ∀ (H : Heap) (locs : List Loc) (ls : Array Slot), Zt D h cy s σ H locs → lv_has ls 2 [(0, .ref (h 68)), (1, .int x1)] → W p l e (rmz 1 24) s m args below meth c H locs 0 0 (EV below args s D h cy y) (F0 m 0 ls []) := by
  exact it_W (F := fun K a => f_X12_even_0b K a.1 a.2) (P := fun a y => ∀ (H : Heap) (locs : List Loc) (ls : Array Slot), Zt D h cy s a.2 H locs → lv_has ls 2 [(0, .ref (h 68)), (1, .int a.1)] → W p l e (rmz 1 24) s m args below meth c H locs 0 0 (EV below args s D h cy y) (F0 m 0 ls [])) (fun K hK a y hf => b_X12_even_0b X hr hk K hK (a.1) (a.2) y hf) FU _ y hf

set_option maxRecDepth 100000 in
set_option maxHeartbeats 4000000 in
theorem c_X12_even (l : Launch) (D : va_G) (h : Nat → Nat) (cy : Nat → ClassId) (a1 : Int32) (σ : St) (y : St) (hf : f_X12_even a1 σ = some y) : CV l yX12_even cX12_even 2 none 1 24 D h cy [.ref (h 68), .int a1] σ y := by
  refine ent (Qc := fun sz => QV D h cy sz y) (by decide) (Nat.le_of_ble_eq_true rfl) ?_
  intro p e s m below meth c ls X Z hr hk hl
  have X : Cx p s m _ c D h cy RX12 cX12_even 2 := X
  have hx := X.x
  have hb := X.b
  have hl : lv_has ls 2 [(0, .ref (h 68)), (1, .int a1)] := hl
  unfold f_X12_even at hf
  exact b_X12_even_0 X hr hk a1 σ _ hf _ _ _ Z (lv_sub hl [0, 1] rfl)

set_option maxRecDepth 100000 in
set_option maxHeartbeats 4000000 in
theorem c_X12_spanOf (l : Launch) (D : va_G) (h : Nat → Nat) (cy : Nat → ClassId) (a1 : Int32) (σ : St) (y : Int32 × St) (hf : f_X12_spanOf a1 σ = some y) : CI l yX12_spanOf cX12_spanOf 2 (some .int) 0 0 D h cy [.ref (h 68), .int a1] σ y := by
  refine ent (Qc := fun sz => QI D h cy sz y) (by decide) (Nat.le_of_ble_eq_true rfl) ?_
  intro p e s m below meth c ls X Z hr hk hl
  have X : Cx p s m _ c D h cy RX12 cX12_spanOf 2 := X
  have hx := X.x
  have hb := X.b
  have hl : lv_has ls 2 [(0, .ref (h 68)), (1, .int a1)] := hl
  unfold f_X12_spanOf at hf
  refine lv_aload_n hx hb dX12_spanOf_0 rfl (lv_at hl 0 rfl) ?_
  refine gf_RX12_24 X Z dX12_spanOf_1 ?_
  refine lv_iload_n hx hb dX12_spanOf_4 rfl (lv_at hl 1 rfl) ?_
  obtain ⟨g1, hf⟩ := gd_s hf
  refine x_iald (k := 71) X Z sh_71 g1 dX12_spanOf_5 ?_
  refine lv_aload_n hx hb dX12_spanOf_6 rfl (lv_at hl 0 rfl) ?_
  refine gf_RX12_21 X Z dX12_spanOf_7 ?_
  refine lv_iadd hx hb dX12_spanOf_10 ?_
  refine lv_iconst (v := 1) hx hb dX12_spanOf_11 (by decide) ?_
  refine lv_isub hx hb dX12_spanOf_12 ?_
  refine lv_aload_n hx hb dX12_spanOf_13 rfl (lv_at hl 0 rfl) ?_
  refine gf_RX12_21 X Z dX12_spanOf_14 ?_
  obtain ⟨g2, hf⟩ := gd_s hf
  refine lv_idiv hx hb dX12_spanOf_17 g2 ?_
  refine lv_aload_n hx hb dX12_spanOf_18 rfl (lv_at hl 0 rfl) ?_
  refine gf_RX12_21 X Z dX12_spanOf_19 ?_
  refine lv_imul hx hb dX12_spanOf_22 ?_
  exact retI X hr hk Z hf dX12_spanOf_23

set_option maxRecDepth 100000 in
set_option maxHeartbeats 4000000 in
theorem b_X12_addressOf_7b {p : Program} {l : Launch} {e : Env} {s : State} {m : MethodId} {args : Array Value} {below : List Frame} {meth : Method} {c : Code} {D : va_G} {h : Nat → Nat} {cy : Nat → ClassId} (X : Cx p s m args c D h cy RX12 cX12_addressOf 4) (hr : meth.sig.returnType = some .int) (hk : meth.locks = false) (K7 : (Int32 × Int32 × Int32 × St) → Option (Int32 × St)) (hK7 : ∀ (a : Int32 × Int32 × Int32 × St) (y : Int32 × St), K7 a = some y → ∀ (H : Heap) (locs : List Loc) (ls : Array Slot), Zt D h cy s a.2.2.2 H locs → lv_has ls 4 [(0, .ref (h 68)), (1, .int a.1), (2, .int a.2.1), (3, .int a.2.2.1)] → W p l e (rmz 1 21) s m args below meth c H locs 0 0 (EI below args s D h cy y) (F0 m 7 ls [])) (x1 : Int32) (x2 : Int32) (x3 : Int32) (σ : St) (y : Int32 × St) (hf : f_X12_addressOf_7b K7 x1 x2 x3 σ = some y) : ∀ (H : Heap) (locs : List Loc) (ls : Array Slot), Zt D h cy s σ H locs → lv_has ls 4 [(0, .ref (h 68)), (1, .int x1), (2, .int x2), (3, .int x3)] → W p l e (rmz 1 21) s m args below meth c H locs 0 0 (EI below args s D h cy y) (F0 m 7 ls []) := by
  intro H locs ls Z hl
  have hx := X.x
  have hb := X.b
  unfold f_X12_addressOf_7b at hf
  refine lv_iload_n hx hb dX12_addressOf_7 rfl (lv_at hl 3 rfl) ?_
  refine lv_iload_n hx hb dX12_addressOf_8 rfl (lv_at hl 1 rfl) ?_
  refine lv_icmp_ge (tgt := 26) hx hb dX12_addressOf_9 (by decide) (fun c3 => ?_) (fun c3 => ?_)
  · have hf := itp c3 hf
    refine lv_iload_n hx hb dX12_addressOf_26 rfl (lv_at hl 2 rfl) ?_
    exact retI X hr hk Z hf dX12_addressOf_27
  · have hf := itn c3 hf
    refine lv_iload_n hx hb dX12_addressOf_12 rfl (lv_at hl 2 rfl) ?_
    refine lv_aload_n hx hb dX12_addressOf_13 rfl (lv_at hl 0 rfl) ?_
    refine lv_iload_n hx hb dX12_addressOf_14 rfl (lv_at hl 3 rfl) ?_
    obtain ⟨r6, s5, h4, hf⟩ := bi_s hf
    refine goI Z (run_V (As := [.int x3]) (rest := [.int x2]) X Z (c_X12_spanOf l D h cy x3 σ (r6, s5) h4 _) lk_RX12_220 ⟨by decide, by decide⟩ rv_68 rfl hl.1 rfl (Nat.le_of_ble_eq_true rfl) ⟨Nat.le_refl _, Nat.le_refl _⟩ dX12_addressOf_15) (fun H locs Z => ?_)
    refine lv_iadd hx hb dX12_addressOf_18 ?_
    refine lv_topi (fun v7 ev7 => ?_)
    have hf := zn_e ev7 hf
    refine lv_istore_n (lv' := [(2, .int v7), (0, .ref (h 68)), (1, .int x1), (3, .int x3)]) hx hb dX12_addressOf_19 rfl hl (by decide) rfl (fun ls hl => ?_)
    obtain ⟨v8, ev8⟩ : ∃ z : Int32, z = x3 + 1 := ⟨_, rfl⟩
    have hf := zn_e ev8 hf
    refine lv_iinc (v := v8) (lv' := [(3, .int v8), (2, .int v7), (0, .ref (h 68)), (1, .int x1)]) hx hb dX12_addressOf_20 hl (k := 3) rfl (by rw [ev8]; rfl) (by decide) rfl (fun ls hl => ?_)
    refine lv_goto (tgt := 7) hx hb dX12_addressOf_23 (by decide) ?_
    exact hK7 (x1, v7, v8, s5) _ hf _ _ _ Z (lv_sub hl [2, 3, 1, 0] rfl)

set_option maxRecDepth 100000 in
set_option maxHeartbeats 4000000 in
theorem b_X12_addressOf_7 {p : Program} {l : Launch} {e : Env} {s : State} {m : MethodId} {args : Array Value} {below : List Frame} {meth : Method} {c : Code} {D : va_G} {h : Nat → Nat} {cy : Nat → ClassId} (X : Cx p s m args c D h cy RX12 cX12_addressOf 4) (hr : meth.sig.returnType = some .int) (hk : meth.locks = false) (x1 : Int32) (x2 : Int32) (x3 : Int32) (σ : St) (y : Int32 × St) (hf : f_X12_addressOf_7 x1 x2 x3 σ = some y) : ∀ (H : Heap) (locs : List Loc) (ls : Array Slot), Zt D h cy s σ H locs → lv_has ls 4 [(0, .ref (h 68)), (1, .int x1), (2, .int x2), (3, .int x3)] → W p l e (rmz 1 21) s m args below meth c H locs 0 0 (EI below args s D h cy y) (F0 m 7 ls []) := by
  exact it_W (F := fun K a => f_X12_addressOf_7b K a.1 a.2.1 a.2.2.1 a.2.2.2) (P := fun a y => ∀ (H : Heap) (locs : List Loc) (ls : Array Slot), Zt D h cy s a.2.2.2 H locs → lv_has ls 4 [(0, .ref (h 68)), (1, .int a.1), (2, .int a.2.1), (3, .int a.2.2.1)] → W p l e (rmz 1 21) s m args below meth c H locs 0 0 (EI below args s D h cy y) (F0 m 7 ls [])) (fun K hK a y hf => b_X12_addressOf_7b X hr hk K hK (a.1) (a.2.1) (a.2.2.1) (a.2.2.2) y hf) FU _ y hf

set_option maxRecDepth 100000 in
set_option maxHeartbeats 4000000 in
theorem c_X12_addressOf (l : Launch) (D : va_G) (h : Nat → Nat) (cy : Nat → ClassId) (a1 : Int32) (σ : St) (y : Int32 × St) (hf : f_X12_addressOf a1 σ = some y) : CI l yX12_addressOf cX12_addressOf 4 (some .int) 1 21 D h cy [.ref (h 68), .int a1] σ y := by
  refine ent (Qc := fun sz => QI D h cy sz y) (by decide) (Nat.le_of_ble_eq_true rfl) ?_
  intro p e s m below meth c ls X Z hr hk hl
  have X : Cx p s m _ c D h cy RX12 cX12_addressOf 4 := X
  have hx := X.x
  have hb := X.b
  have hl : lv_has ls 4 [(0, .ref (h 68)), (1, .int a1)] := hl
  unfold f_X12_addressOf at hf
  refine lv_aload_n hx hb dX12_addressOf_0 rfl (lv_at hl 0 rfl) ?_
  refine gf_RX12_17 X Z dX12_addressOf_1 ?_
  refine lv_topi (fun v1 ev1 => ?_)
  have hf := zn_e ev1 hf
  refine lv_istore_n (lv' := [(2, .int v1), (0, .ref (h 68)), (1, .int a1)]) hx hb dX12_addressOf_4 rfl hl (by decide) rfl (fun ls hl => ?_)
  refine lv_iconst (v := 0) hx hb dX12_addressOf_5 (by decide) ?_
  refine lv_topi (fun v2 ev2 => ?_)
  have hf := zn_e ev2 hf
  refine lv_istore_n (lv' := [(3, .int v2), (2, .int v1), (0, .ref (h 68)), (1, .int a1)]) hx hb dX12_addressOf_6 rfl hl (by decide) rfl (fun ls hl => ?_)
  exact b_X12_addressOf_7 X hr hk a1 v1 v2 σ _ hf _ _ _ Z (lv_sub hl [2, 3, 1, 0] rfl)

set_option maxRecDepth 100000 in
set_option maxHeartbeats 4000000 in
theorem b_X12_sectionsOf_25 {p : Program} {l : Launch} {e : Env} {s : State} {m : MethodId} {args : Array Value} {below : List Frame} {meth : Method} {c : Code} {D : va_G} {h : Nat → Nat} {cy : Nat → ClassId} (X : Cx p s m args c D h cy RX12 cX12_sectionsOf 4) (hr : meth.sig.returnType = some .int) (hk : meth.locks = false) (K4 : (Int32 × Int32 × Int32 × St) → Option (Int32 × St)) (hK4 : ∀ (a : Int32 × Int32 × Int32 × St) (y : Int32 × St), K4 a = some y → ∀ (H : Heap) (locs : List Loc) (ls : Array Slot), Zt D h cy s a.2.2.2 H locs → lv_has ls 4 [(0, .ref (h 68)), (1, .int a.1), (2, .int a.2.1), (3, .int a.2.2.1)] → W p l e (rmz 0 0) s m args below meth c H locs 0 0 (EI below args s D h cy y) (F0 m 4 ls [])) (x1 : Int32) (x2 : Int32) (x3 : Int32) (σ : St) (y : Int32 × St) (hf : f_X12_sectionsOf_25 K4 x1 x2 x3 σ = some y) : ∀ (H : Heap) (locs : List Loc) (ls : Array Slot), Zt D h cy s σ H locs → lv_has ls 4 [(0, .ref (h 68)), (1, .int x1), (2, .int x2), (3, .int x3)] → W p l e (rmz 0 0) s m args below meth c H locs 0 0 (EI below args s D h cy y) (F0 m 25 ls []) := by
  intro H locs ls Z hl
  have hx := X.x
  have hb := X.b
  unfold f_X12_sectionsOf_25 at hf
  obtain ⟨v6, ev6⟩ : ∃ z : Int32, z = x3 + 1 := ⟨_, rfl⟩
  have hf := zn_e ev6 hf
  refine lv_iinc (v := v6) (lv' := [(3, .int v6), (0, .ref (h 68)), (1, .int x1), (2, .int x2)]) hx hb dX12_sectionsOf_25 hl (k := 3) rfl (by rw [ev6]; rfl) (by decide) rfl (fun ls hl => ?_)
  refine lv_goto (tgt := 4) hx hb dX12_sectionsOf_28 (by decide) ?_
  exact hK4 (x1, x2, v6, σ) _ hf _ _ _ Z (lv_sub hl [1, 2, 3, 0] rfl)

set_option maxRecDepth 100000 in
set_option maxHeartbeats 4000000 in
theorem b_X12_sectionsOf_4b {p : Program} {l : Launch} {e : Env} {s : State} {m : MethodId} {args : Array Value} {below : List Frame} {meth : Method} {c : Code} {D : va_G} {h : Nat → Nat} {cy : Nat → ClassId} (X : Cx p s m args c D h cy RX12 cX12_sectionsOf 4) (hr : meth.sig.returnType = some .int) (hk : meth.locks = false) (K4 : (Int32 × Int32 × Int32 × St) → Option (Int32 × St)) (hK4 : ∀ (a : Int32 × Int32 × Int32 × St) (y : Int32 × St), K4 a = some y → ∀ (H : Heap) (locs : List Loc) (ls : Array Slot), Zt D h cy s a.2.2.2 H locs → lv_has ls 4 [(0, .ref (h 68)), (1, .int a.1), (2, .int a.2.1), (3, .int a.2.2.1)] → W p l e (rmz 0 0) s m args below meth c H locs 0 0 (EI below args s D h cy y) (F0 m 4 ls [])) (x1 : Int32) (x2 : Int32) (x3 : Int32) (σ : St) (y : Int32 × St) (hf : f_X12_sectionsOf_4b K4 x1 x2 x3 σ = some y) : ∀ (H : Heap) (locs : List Loc) (ls : Array Slot), Zt D h cy s σ H locs → lv_has ls 4 [(0, .ref (h 68)), (1, .int x1), (2, .int x2), (3, .int x3)] → W p l e (rmz 0 0) s m args below meth c H locs 0 0 (EI below args s D h cy y) (F0 m 4 ls []) := by
  intro H locs ls Z hl
  have hx := X.x
  have hb := X.b
  unfold f_X12_sectionsOf_4b at hf
  refine lv_iload_n hx hb dX12_sectionsOf_4 rfl (lv_at hl 3 rfl) ?_
  refine lv_aload_n hx hb dX12_sectionsOf_5 rfl (lv_at hl 0 rfl) ?_
  refine gf_RX12_177 X Z dX12_sectionsOf_6 ?_
  refine lv_icmp_gt (tgt := 31) hx hb dX12_sectionsOf_9 (by decide) (fun c3 => ?_) (fun c3 => ?_)
  · have hf := itp c3 hf
    refine lv_iload_n hx hb dX12_sectionsOf_31 rfl (lv_at hl 2 rfl) ?_
    exact retI X hr hk Z hf dX12_sectionsOf_32
  · have hf := itn c3 hf
    refine lv_aload_n hx hb dX12_sectionsOf_12 rfl (lv_at hl 0 rfl) ?_
    refine gf_RX12_33 X Z dX12_sectionsOf_13 ?_
    refine lv_iload_n hx hb dX12_sectionsOf_16 rfl (lv_at hl 3 rfl) ?_
    obtain ⟨g4, hf⟩ := gd_s hf
    refine x_iald (k := 74) X Z sh_74 g4 dX12_sectionsOf_17 ?_
    refine lv_iload_n hx hb dX12_sectionsOf_18 rfl (lv_at hl 1 rfl) ?_
    refine lv_icmp_ne (tgt := 25) hx hb dX12_sectionsOf_19 (by decide) (fun c5 => ?_) (fun c5 => ?_)
    · have hf := itn c5 hf
      exact b_X12_sectionsOf_25 X hr hk K4 hK4 x1 x2 x3 σ _ hf _ _ _ Z (lv_sub hl [0, 1, 2, 3] rfl)
    · have hf := itp c5 hf
      obtain ⟨v7, ev7⟩ : ∃ z : Int32, z = x2 + 1 := ⟨_, rfl⟩
      have hf := zn_e ev7 hf
      refine lv_iinc (v := v7) (lv' := [(2, .int v7), (0, .ref (h 68)), (1, .int x1), (3, .int x3)]) hx hb dX12_sectionsOf_22 hl (k := 2) rfl (by rw [ev7]; rfl) (by decide) rfl (fun ls hl => ?_)
      exact b_X12_sectionsOf_25 X hr hk K4 hK4 x1 v7 x3 σ _ hf _ _ _ Z (lv_sub hl [1, 2, 0, 3] rfl)

set_option maxRecDepth 100000 in
set_option maxHeartbeats 4000000 in
theorem b_X12_sectionsOf_4 {p : Program} {l : Launch} {e : Env} {s : State} {m : MethodId} {args : Array Value} {below : List Frame} {meth : Method} {c : Code} {D : va_G} {h : Nat → Nat} {cy : Nat → ClassId} (X : Cx p s m args c D h cy RX12 cX12_sectionsOf 4) (hr : meth.sig.returnType = some .int) (hk : meth.locks = false) (x1 : Int32) (x2 : Int32) (x3 : Int32) (σ : St) (y : Int32 × St) (hf : f_X12_sectionsOf_4 x1 x2 x3 σ = some y) : ∀ (H : Heap) (locs : List Loc) (ls : Array Slot), Zt D h cy s σ H locs → lv_has ls 4 [(0, .ref (h 68)), (1, .int x1), (2, .int x2), (3, .int x3)] → W p l e (rmz 0 0) s m args below meth c H locs 0 0 (EI below args s D h cy y) (F0 m 4 ls []) := by
  exact it_W (F := fun K a => f_X12_sectionsOf_4b K a.1 a.2.1 a.2.2.1 a.2.2.2) (P := fun a y => ∀ (H : Heap) (locs : List Loc) (ls : Array Slot), Zt D h cy s a.2.2.2 H locs → lv_has ls 4 [(0, .ref (h 68)), (1, .int a.1), (2, .int a.2.1), (3, .int a.2.2.1)] → W p l e (rmz 0 0) s m args below meth c H locs 0 0 (EI below args s D h cy y) (F0 m 4 ls [])) (fun K hK a y hf => b_X12_sectionsOf_4b X hr hk K hK (a.1) (a.2.1) (a.2.2.1) (a.2.2.2) y hf) FU _ y hf

set_option maxRecDepth 100000 in
set_option maxHeartbeats 4000000 in
theorem c_X12_sectionsOf (l : Launch) (D : va_G) (h : Nat → Nat) (cy : Nat → ClassId) (a1 : Int32) (σ : St) (y : Int32 × St) (hf : f_X12_sectionsOf a1 σ = some y) : CI l yX12_sectionsOf cX12_sectionsOf 4 (some .int) 0 0 D h cy [.ref (h 68), .int a1] σ y := by
  refine ent (Qc := fun sz => QI D h cy sz y) (by decide) (Nat.le_of_ble_eq_true rfl) ?_
  intro p e s m below meth c ls X Z hr hk hl
  have X : Cx p s m _ c D h cy RX12 cX12_sectionsOf 4 := X
  have hx := X.x
  have hb := X.b
  have hl : lv_has ls 4 [(0, .ref (h 68)), (1, .int a1)] := hl
  unfold f_X12_sectionsOf at hf
  refine lv_iconst (v := 0) hx hb dX12_sectionsOf_0 (by decide) ?_
  refine lv_topi (fun v1 ev1 => ?_)
  have hf := zn_e ev1 hf
  refine lv_istore_n (lv' := [(2, .int v1), (0, .ref (h 68)), (1, .int a1)]) hx hb dX12_sectionsOf_1 rfl hl (by decide) rfl (fun ls hl => ?_)
  refine lv_iconst (v := 1) hx hb dX12_sectionsOf_2 (by decide) ?_
  refine lv_topi (fun v2 ev2 => ?_)
  have hf := zn_e ev2 hf
  refine lv_istore_n (lv' := [(3, .int v2), (2, .int v1), (0, .ref (h 68)), (1, .int a1)]) hx hb dX12_sectionsOf_3 rfl hl (by decide) rfl (fun ls hl => ?_)
  exact b_X12_sectionsOf_4 X hr hk a1 v1 v2 σ _ hf _ _ _ Z (lv_sub hl [2, 3, 1, 0] rfl)

set_option maxRecDepth 100000 in
set_option maxHeartbeats 4000000 in
theorem b_X12_hasPointers_2b {p : Program} {l : Launch} {e : Env} {s : State} {m : MethodId} {args : Array Value} {below : List Frame} {meth : Method} {c : Code} {D : va_G} {h : Nat → Nat} {cy : Nat → ClassId} (X : Cx p s m args c D h cy RX12 cX12_hasPointers 3) (hr : meth.sig.returnType = some .boolean) (hk : meth.locks = false) (K2 : (Int32 × Int32 × St) → Option (Int32 × St)) (hK2 : ∀ (a : Int32 × Int32 × St) (y : Int32 × St), K2 a = some y → ∀ (H : Heap) (locs : List Loc) (ls : Array Slot), Zt D h cy s a.2.2 H locs → lv_has ls 3 [(0, .ref (h 68)), (1, .int a.1), (2, .int a.2.1)] → W p l e (rmz 0 0) s m args below meth c H locs 0 0 (EI below args s D h cy y) (F0 m 2 ls [])) (x1 : Int32) (x2 : Int32) (σ : St) (y : Int32 × St) (hf : f_X12_hasPointers_2b K2 x1 x2 σ = some y) : ∀ (H : Heap) (locs : List Loc) (ls : Array Slot), Zt D h cy s σ H locs → lv_has ls 3 [(0, .ref (h 68)), (1, .int x1), (2, .int x2)] → W p l e (rmz 0 0) s m args below meth c H locs 0 0 (EI below args s D h cy y) (F0 m 2 ls []) := by
  intro H locs ls Z hl
  have hx := X.x
  have hb := X.b
  unfold f_X12_hasPointers_2b at hf
  refine lv_iload_n hx hb dX12_hasPointers_2 rfl (lv_at hl 2 rfl) ?_
  refine lv_aload_n hx hb dX12_hasPointers_3 rfl (lv_at hl 0 rfl) ?_
  refine gf_RX12_186 X Z dX12_hasPointers_4 ?_
  refine lv_icmp_ge (tgt := 28) hx hb dX12_hasPointers_7 (by decide) (fun c2 => ?_) (fun c2 => ?_)
  · have hf := itp c2 hf
    refine lv_iconst (v := 0) hx hb dX12_hasPointers_28 (by decide) ?_
    exact retZ X hr hk Z (by decide) hf dX12_hasPointers_29
  · have hf := itn c2 hf
    refine lv_aload_n hx hb dX12_hasPointers_10 rfl (lv_at hl 0 rfl) ?_
    refine gf_RX12_55 X Z dX12_hasPointers_11 ?_
    refine lv_iload_n hx hb dX12_hasPointers_14 rfl (lv_at hl 2 rfl) ?_
    obtain ⟨g3, hf⟩ := gd_s hf
    refine x_iald (k := 81) X Z sh_81 g3 dX12_hasPointers_15 ?_
    refine lv_iload_n hx hb dX12_hasPointers_16 rfl (lv_at hl 1 rfl) ?_
    refine lv_icmp_ne (tgt := 22) hx hb dX12_hasPointers_17 (by decide) (fun c4 => ?_) (fun c4 => ?_)
    · have hf := itn c4 hf
      obtain ⟨v5, ev5⟩ : ∃ z : Int32, z = x2 + 1 := ⟨_, rfl⟩
      have hf := zn_e ev5 hf
      refine lv_iinc (v := v5) (lv' := [(2, .int v5), (0, .ref (h 68)), (1, .int x1)]) hx hb dX12_hasPointers_22 hl (k := 2) rfl (by rw [ev5]; rfl) (by decide) rfl (fun ls hl => ?_)
      refine lv_goto (tgt := 2) hx hb dX12_hasPointers_25 (by decide) ?_
      exact hK2 (x1, v5, σ) _ hf _ _ _ Z (lv_sub hl [1, 2, 0] rfl)
    · have hf := itp c4 hf
      refine lv_iconst (v := 1) hx hb dX12_hasPointers_20 (by decide) ?_
      exact retZ X hr hk Z (by decide) hf dX12_hasPointers_21

set_option maxRecDepth 100000 in
set_option maxHeartbeats 4000000 in
theorem b_X12_hasPointers_2 {p : Program} {l : Launch} {e : Env} {s : State} {m : MethodId} {args : Array Value} {below : List Frame} {meth : Method} {c : Code} {D : va_G} {h : Nat → Nat} {cy : Nat → ClassId} (X : Cx p s m args c D h cy RX12 cX12_hasPointers 3) (hr : meth.sig.returnType = some .boolean) (hk : meth.locks = false) (x1 : Int32) (x2 : Int32) (σ : St) (y : Int32 × St) (hf : f_X12_hasPointers_2 x1 x2 σ = some y) : ∀ (H : Heap) (locs : List Loc) (ls : Array Slot), Zt D h cy s σ H locs → lv_has ls 3 [(0, .ref (h 68)), (1, .int x1), (2, .int x2)] → W p l e (rmz 0 0) s m args below meth c H locs 0 0 (EI below args s D h cy y) (F0 m 2 ls []) := by
  exact it_W (F := fun K a => f_X12_hasPointers_2b K a.1 a.2.1 a.2.2) (P := fun a y => ∀ (H : Heap) (locs : List Loc) (ls : Array Slot), Zt D h cy s a.2.2 H locs → lv_has ls 3 [(0, .ref (h 68)), (1, .int a.1), (2, .int a.2.1)] → W p l e (rmz 0 0) s m args below meth c H locs 0 0 (EI below args s D h cy y) (F0 m 2 ls [])) (fun K hK a y hf => b_X12_hasPointers_2b X hr hk K hK (a.1) (a.2.1) (a.2.2) y hf) FU _ y hf

set_option maxRecDepth 100000 in
set_option maxHeartbeats 4000000 in
theorem c_X12_hasPointers (l : Launch) (D : va_G) (h : Nat → Nat) (cy : Nat → ClassId) (a1 : Int32) (σ : St) (y : Int32 × St) (hf : f_X12_hasPointers a1 σ = some y) : CI l yX12_hasPointers cX12_hasPointers 3 (some .boolean) 0 0 D h cy [.ref (h 68), .int a1] σ y := by
  refine ent (Qc := fun sz => QI D h cy sz y) (by decide) (Nat.le_of_ble_eq_true rfl) ?_
  intro p e s m below meth c ls X Z hr hk hl
  have X : Cx p s m _ c D h cy RX12 cX12_hasPointers 3 := X
  have hx := X.x
  have hb := X.b
  have hl : lv_has ls 3 [(0, .ref (h 68)), (1, .int a1)] := hl
  unfold f_X12_hasPointers at hf
  refine lv_iconst (v := 0) hx hb dX12_hasPointers_0 (by decide) ?_
  refine lv_topi (fun v1 ev1 => ?_)
  have hf := zn_e ev1 hf
  refine lv_istore_n (lv' := [(2, .int v1), (0, .ref (h 68)), (1, .int a1)]) hx hb dX12_hasPointers_1 rfl hl (by decide) rfl (fun ls hl => ?_)
  exact b_X12_hasPointers_2 X hr hk a1 v1 σ _ hf _ _ _ Z (lv_sub hl [1, 2, 0] rfl)

set_option maxRecDepth 100000 in
set_option maxHeartbeats 4000000 in
theorem b_X12_writeFixups_454b {p : Program} {l : Launch} {e : Env} {s : State} {m : MethodId} {args : Array Value} {below : List Frame} {meth : Method} {c : Code} {D : va_G} {h : Nat → Nat} {cy : Nat → ClassId} (X : Cx p s m args c D h cy RX12 cX12_writeFixups 7) (hr : meth.sig.returnType = none) (hk : meth.locks = false) (K454 : (Int32 × Int32 × St) → Option (St)) (hK454 : ∀ (a : Int32 × Int32 × St) (y : St), K454 a = some y → ∀ (H : Heap) (locs : List Loc) (ls : Array Slot), Zt D h cy s a.2.2 H locs → lv_has ls 7 [(0, .ref (h 68)), (5, .int a.1), (6, .int a.2.1)] → W p l e (rmz 2 52) s m args below meth c H locs 0 0 (EV below args s D h cy y) (F0 m 454 ls [])) (x5 : Int32) (x6 : Int32) (σ : St) (y : St) (hf : f_X12_writeFixups_454b K454 x5 x6 σ = some y) : ∀ (H : Heap) (locs : List Loc) (ls : Array Slot), Zt D h cy s σ H locs → lv_has ls 7 [(0, .ref (h 68)), (5, .int x5), (6, .int x6)] → W p l e (rmz 2 52) s m args below meth c H locs 0 0 (EV below args s D h cy y) (F0 m 454 ls []) := by
  intro H locs ls Z hl
  have hx := X.x
  have hb := X.b
  unfold f_X12_writeFixups_454b at hf
  refine lv_iload hx hb dX12_writeFixups_454 (lv_at hl 2 rfl) ?_
  refine lv_aload_n hx hb dX12_writeFixups_456 rfl (lv_at hl 0 rfl) ?_
  refine gf_RX12_174 X Z dX12_writeFixups_457 ?_
  refine lv_icmp_ge (tgt := 482) hx hb dX12_writeFixups_460 (by decide) (fun c29 => ?_) (fun c29 => ?_)
  · have hf := itp c29 hf
    refine lv_aload_n hx hb dX12_writeFixups_482 rfl (lv_at hl 0 rfl) ?_
    refine lv_iload hx hb dX12_writeFixups_483 (lv_at hl 1 rfl) ?_
    refine pf_RX12_213 X Z dX12_writeFixups_485 (fun s30 H locs es30 Z => ?_)
    have hf := zn_e es30 hf
    exact retV X hr hk Z hf dX12_writeFixups_488
  · have hf := itn c29 hf
    refine lv_aload_n hx hb dX12_writeFixups_463 rfl (lv_at hl 0 rfl) ?_
    refine lv_aload_n hx hb dX12_writeFixups_464 rfl (lv_at hl 0 rfl) ?_
    refine gf_RX12_83 X Z dX12_writeFixups_465 ?_
    refine lv_iload hx hb dX12_writeFixups_468 (lv_at hl 2 rfl) ?_
    obtain ⟨g31, hf⟩ := gd_s hf
    refine x_iald (k := 90) X Z sh_90 g31 dX12_writeFixups_470 ?_
    refine lv_i2l (v := (σ.1 90 x6.toNatClampNeg).toInt64) hx hb dX12_writeFixups_471 rfl ?_
    refine lv_iconst (v := 4) hx hb dX12_writeFixups_472 (by decide) ?_
    obtain ⟨s33, h32, hf⟩ := bv_s hf
    refine goV Z (run_V (As := [.long ((σ.1 90 x6.toNatClampNeg).toInt64), .int (4 : Int32)]) (rest := []) X Z (c_X12_put l D h cy ((σ.1 90 x6.toNatClampNeg).toInt64) (4 : Int32) σ s33 h32 _) lk_RX12_216 ⟨by decide, by decide⟩ rv_68 rfl hl.1 rfl (Nat.le_of_ble_eq_true rfl) ⟨Nat.le_refl _, Nat.le_refl _⟩ dX12_writeFixups_473) (fun H locs Z => ?_)
    obtain ⟨v34, ev34⟩ : ∃ z : Int32, z = x6 + 1 := ⟨_, rfl⟩
    have hf := zn_e ev34 hf
    refine lv_iinc (v := v34) (lv' := [(6, .int v34), (0, .ref (h 68)), (5, .int x5)]) hx hb dX12_writeFixups_476 hl (k := 2) rfl (by rw [ev34]; rfl) (by decide) rfl (fun ls hl => ?_)
    refine lv_goto (tgt := 454) hx hb dX12_writeFixups_479 (by decide) ?_
    exact hK454 (x5, v34, s33) _ hf _ _ _ Z (lv_sub hl [1, 2, 0] rfl)

set_option maxRecDepth 100000 in
set_option maxHeartbeats 4000000 in
theorem b_X12_writeFixups_454 {p : Program} {l : Launch} {e : Env} {s : State} {m : MethodId} {args : Array Value} {below : List Frame} {meth : Method} {c : Code} {D : va_G} {h : Nat → Nat} {cy : Nat → ClassId} (X : Cx p s m args c D h cy RX12 cX12_writeFixups 7) (hr : meth.sig.returnType = none) (hk : meth.locks = false) (x5 : Int32) (x6 : Int32) (σ : St) (y : St) (hf : f_X12_writeFixups_454 x5 x6 σ = some y) : ∀ (H : Heap) (locs : List Loc) (ls : Array Slot), Zt D h cy s σ H locs → lv_has ls 7 [(0, .ref (h 68)), (5, .int x5), (6, .int x6)] → W p l e (rmz 2 52) s m args below meth c H locs 0 0 (EV below args s D h cy y) (F0 m 454 ls []) := by
  exact it_W (F := fun K a => f_X12_writeFixups_454b K a.1 a.2.1 a.2.2) (P := fun a y => ∀ (H : Heap) (locs : List Loc) (ls : Array Slot), Zt D h cy s a.2.2 H locs → lv_has ls 7 [(0, .ref (h 68)), (5, .int a.1), (6, .int a.2.1)] → W p l e (rmz 2 52) s m args below meth c H locs 0 0 (EV below args s D h cy y) (F0 m 454 ls [])) (fun K hK a y hf => b_X12_writeFixups_454b X hr hk K hK (a.1) (a.2.1) (a.2.2) y hf) FU _ y hf

set_option maxRecDepth 100000 in
set_option maxHeartbeats 4000000 in
theorem b_X12_writeFixups_330b {p : Program} {l : Launch} {e : Env} {s : State} {m : MethodId} {args : Array Value} {below : List Frame} {meth : Method} {c : Code} {D : va_G} {h : Nat → Nat} {cy : Nat → ClassId} (X : Cx p s m args c D h cy RX12 cX12_writeFixups 7) (hr : meth.sig.returnType = none) (hk : meth.locks = false) (K330 : (Int32 × Int32 × Int32 × St) → Option (St)) (hK330 : ∀ (a : Int32 × Int32 × Int32 × St) (y : St), K330 a = some y → ∀ (H : Heap) (locs : List Loc) (ls : Array Slot), Zt D h cy s a.2.2.2 H locs → lv_has ls 7 [(0, .ref (h 68)), (2, .int a.1), (4, .int a.2.1), (5, .int a.2.2.1)] → W p l e (rmz 2 52) s m args below meth c H locs 0 0 (EV below args s D h cy y) (F0 m 330 ls [])) (x2 : Int32) (x4 : Int32) (x5 : Int32) (σ : St) (y : St) (hf : f_X12_writeFixups_330b K330 x2 x4 x5 σ = some y) : ∀ (H : Heap) (locs : List Loc) (ls : Array Slot), Zt D h cy s σ H locs → lv_has ls 7 [(0, .ref (h 68)), (2, .int x2), (4, .int x4), (5, .int x5)] → W p l e (rmz 2 52) s m args below meth c H locs 0 0 (EV below args s D h cy y) (F0 m 330 ls []) := by
  intro H locs ls Z hl
  have hx := X.x
  have hb := X.b
  unfold f_X12_writeFixups_330b at hf
  refine lv_iload hx hb dX12_writeFixups_330 (lv_at hl 3 rfl) ?_
  refine lv_aload_n hx hb dX12_writeFixups_332 rfl (lv_at hl 0 rfl) ?_
  refine gf_RX12_183 X Z dX12_writeFixups_333 ?_
  refine lv_icmp_ge (tgt := 369) hx hb dX12_writeFixups_336 (by decide) (fun c14 => ?_) (fun c14 => ?_)
  · have hf := itp c14 hf
    refine lv_aload_n hx hb dX12_writeFixups_369 rfl (lv_at hl 0 rfl) ?_
    refine lv_aload_n hx hb dX12_writeFixups_370 rfl (lv_at hl 0 rfl) ?_
    refine gf_RX12_213 X Z dX12_writeFixups_371 ?_
    refine lv_aload_n hx hb dX12_writeFixups_374 rfl (lv_at hl 0 rfl) ?_
    refine gf_RX12_264 X Z dX12_writeFixups_375 ?_
    refine lv_isub hx hb dX12_writeFixups_378 ?_
    refine pf_RX12_273 X Z dX12_writeFixups_379 (fun s15 H locs es15 Z => ?_)
    have hf := zn_e es15 hf
    refine lv_aload_n hx hb dX12_writeFixups_382 rfl (lv_at hl 0 rfl) ?_
    refine gf_RX12_213 X Z dX12_writeFixups_383 ?_
    refine lv_topi (fun v16 ev16 => ?_)
    have hf := zn_e ev16 hf
    refine lv_istore (lv' := [(5, .int v16), (0, .ref (h 68)), (2, .int x2), (4, .int x4)]) hx hb dX12_writeFixups_386 hl (by decide) rfl (fun ls hl => ?_)
    refine lv_aload_n hx hb dX12_writeFixups_388 rfl (lv_at hl 1 rfl) ?_
    refine lv_aload_n hx hb dX12_writeFixups_389 rfl (lv_at hl 1 rfl) ?_
    refine gf_RX12_264 X Z dX12_writeFixups_390 ?_
    refine pf_RX12_213 X Z dX12_writeFixups_393 (fun s17 H locs es17 Z => ?_)
    have hf := zn_e es17 hf
    refine lv_aload_n hx hb dX12_writeFixups_396 rfl (lv_at hl 1 rfl) ?_
    refine lv_lconst (v := 0) hx hb dX12_writeFixups_397 (by decide) ?_
    refine lv_ldc2 (v := 28) hx hb X.o (X.t _ kc_RX12_276) dX12_writeFixups_398 ?_
    refine lv_iload_n hx hb dX12_writeFixups_401 rfl (lv_at hl 2 rfl) ?_
    refine lv_aload_n hx hb dX12_writeFixups_402 rfl (lv_at hl 1 rfl) ?_
    refine gf_RX12_264 X Z dX12_writeFixups_403 ?_
    refine lv_isub hx hb dX12_writeFixups_406 ?_
    refine lv_i2l (v := ((x2 - (s17.1 68 33))).toInt64) hx hb dX12_writeFixups_407 rfl ?_
    refine lv_iload hx hb dX12_writeFixups_408 (lv_at hl 3 rfl) ?_
    refine lv_aload_n hx hb dX12_writeFixups_410 rfl (lv_at hl 1 rfl) ?_
    refine gf_RX12_264 X Z dX12_writeFixups_411 ?_
    refine lv_isub hx hb dX12_writeFixups_414 ?_
    refine lv_i2l (v := ((x4 - (s17.1 68 33))).toInt64) hx hb dX12_writeFixups_415 rfl ?_
    obtain ⟨s19, h18, hf⟩ := bv_s hf
    refine goV Z (run_V (As := [.long (0 : Int64), .long (28 : Int64), .long (((x2 - (s17.1 68 33))).toInt64), .long (((x4 - (s17.1 68 33))).toInt64)]) (rest := []) X Z (c_X12_putFours l D h cy (0 : Int64) (28 : Int64) (((x2 - (s17.1 68 33))).toInt64) (((x4 - (s17.1 68 33))).toInt64) s17 s19 h18 _) lk_RX12_278 ⟨by decide, by decide⟩ rv_68 rfl hl.1 rfl (Nat.le_of_ble_eq_true rfl) ⟨Nat.le_refl _, Nat.le_refl _⟩ dX12_writeFixups_416) (fun H locs Z => ?_)
    refine lv_aload_n hx hb dX12_writeFixups_419 rfl (lv_at hl 1 rfl) ?_
    refine lv_aload_n hx hb dX12_writeFixups_420 rfl (lv_at hl 1 rfl) ?_
    refine gf_RX12_183 X Z dX12_writeFixups_421 ?_
    refine lv_i2l (v := (s19.1 68 9).toInt64) hx hb dX12_writeFixups_424 rfl ?_
    refine lv_iconst (v := 4) hx hb dX12_writeFixups_425 (by decide) ?_
    obtain ⟨s21, h20, hf⟩ := bv_s hf
    refine goV Z (run_V (As := [.long ((s19.1 68 9).toInt64), .int (4 : Int32)]) (rest := []) X Z (c_X12_put l D h cy ((s19.1 68 9).toInt64) (4 : Int32) s19 s21 h20 _) lk_RX12_216 ⟨by decide, by decide⟩ rv_68 rfl hl.1 rfl (Nat.le_of_ble_eq_true rfl) ⟨Nat.le_refl _, Nat.le_refl _⟩ dX12_writeFixups_426) (fun H locs Z => ?_)
    refine lv_aload_n hx hb dX12_writeFixups_429 rfl (lv_at hl 1 rfl) ?_
    refine lv_lconst (v := 1) hx hb dX12_writeFixups_430 (by decide) ?_
    refine lv_iconst (v := 4) hx hb dX12_writeFixups_431 (by decide) ?_
    obtain ⟨s23, h22, hf⟩ := bv_s hf
    refine goV Z (run_V (As := [.long (1 : Int64), .int (4 : Int32)]) (rest := []) X Z (c_X12_put l D h cy (1 : Int64) (4 : Int32) s21 s23 h22 _) lk_RX12_216 ⟨by decide, by decide⟩ rv_68 rfl hl.1 rfl (Nat.le_of_ble_eq_true rfl) ⟨Nat.le_refl _, Nat.le_refl _⟩ dX12_writeFixups_432) (fun H locs Z => ?_)
    refine lv_aload_n hx hb dX12_writeFixups_435 rfl (lv_at hl 1 rfl) ?_
    refine lv_lconst (v := 0) hx hb dX12_writeFixups_436 (by decide) ?_
    refine lv_iconst (v := 4) hx hb dX12_writeFixups_437 (by decide) ?_
    obtain ⟨s25, h24, hf⟩ := bv_s hf
    refine goV Z (run_V (As := [.long (0 : Int64), .int (4 : Int32)]) (rest := []) X Z (c_X12_put l D h cy (0 : Int64) (4 : Int32) s23 s25 h24 _) lk_RX12_216 ⟨by decide, by decide⟩ rv_68 rfl hl.1 rfl (Nat.le_of_ble_eq_true rfl) ⟨Nat.le_refl _, Nat.le_refl _⟩ dX12_writeFixups_438) (fun H locs Z => ?_)
    refine lv_aload_n hx hb dX12_writeFixups_441 rfl (lv_at hl 1 rfl) ?_
    refine lv_aload_n hx hb dX12_writeFixups_442 rfl (lv_at hl 1 rfl) ?_
    refine gf_RX12_174 X Z dX12_writeFixups_443 ?_
    refine lv_i2l (v := (s25.1 68 6).toInt64) hx hb dX12_writeFixups_446 rfl ?_
    refine lv_iconst (v := 4) hx hb dX12_writeFixups_447 (by decide) ?_
    obtain ⟨s27, h26, hf⟩ := bv_s hf
    refine goV Z (run_V (As := [.long ((s25.1 68 6).toInt64), .int (4 : Int32)]) (rest := []) X Z (c_X12_put l D h cy ((s25.1 68 6).toInt64) (4 : Int32) s25 s27 h26 _) lk_RX12_216 ⟨by decide, by decide⟩ rv_68 rfl hl.1 rfl (Nat.le_of_ble_eq_true rfl) ⟨Nat.le_refl _, Nat.le_refl _⟩ dX12_writeFixups_448) (fun H locs Z => ?_)
    refine lv_iconst (v := 0) hx hb dX12_writeFixups_451 (by decide) ?_
    refine lv_topi (fun v28 ev28 => ?_)
    have hf := zn_e ev28 hf
    refine lv_istore (lv' := [(6, .int v28), (5, .int v16), (0, .ref (h 68)), (2, .int x2), (4, .int x4)]) hx hb dX12_writeFixups_452 hl (by decide) rfl (fun ls hl => ?_)
    exact b_X12_writeFixups_454 X hr hk v16 v28 s27 _ hf _ _ _ Z (lv_sub hl [2, 1, 0] rfl)
  · have hf := itn c14 hf
    refine lv_aload_n hx hb dX12_writeFixups_339 rfl (lv_at hl 0 rfl) ?_
    refine lv_bipush (v := 32) hx hb dX12_writeFixups_340 (by decide) ?_
    refine lv_iload hx hb dX12_writeFixups_342 (lv_at hl 3 rfl) ?_
    refine lv_iadd hx hb dX12_writeFixups_344 ?_
    refine lv_aload_n hx hb dX12_writeFixups_345 rfl (lv_at hl 0 rfl) ?_
    refine lv_bipush (v := 32) hx hb dX12_writeFixups_346 (by decide) ?_
    refine lv_iload hx hb dX12_writeFixups_348 (lv_at hl 3 rfl) ?_
    refine lv_iadd hx hb dX12_writeFixups_350 ?_
    obtain ⟨r37, s36, h35, hf⟩ := bi_s hf
    refine goI Z (run_V (As := [.int (((32 : Int32) + x5))]) (rest := [.int (((32 : Int32) + x5)), .ref (h 68)]) X Z (c_X12_longOf l D h cy (((32 : Int32) + x5)) σ (r37, s36) h35 _) lk_RX12_241 ⟨by decide, by decide⟩ rv_68 rfl hl.1 rfl (Nat.le_of_ble_eq_true rfl) ⟨Nat.le_refl _, Nat.le_refl _⟩ dX12_writeFixups_351) (fun H locs Z => ?_)
    obtain ⟨s39, h38, hf⟩ := bv_s hf
    refine goV Z (run_V (As := [.int (((32 : Int32) + x5)), .int r37]) (rest := []) X Z (c_X12_putName l D h cy (((32 : Int32) + x5)) r37 s36 s39 h38 _) lk_RX12_247 ⟨by decide, by decide⟩ rv_68 rfl hl.1 rfl (Nat.le_of_ble_eq_true rfl) ⟨Nat.le_refl _, Nat.le_refl _⟩ dX12_writeFixups_354) (fun H locs Z => ?_)
    refine lv_aload_n hx hb dX12_writeFixups_357 rfl (lv_at hl 0 rfl) ?_
    refine lv_lconst (v := 0) hx hb dX12_writeFixups_358 (by decide) ?_
    refine lv_iconst (v := 1) hx hb dX12_writeFixups_359 (by decide) ?_
    obtain ⟨s41, h40, hf⟩ := bv_s hf
    refine goV Z (run_V (As := [.long (0 : Int64), .int (1 : Int32)]) (rest := []) X Z (c_X12_put l D h cy (0 : Int64) (1 : Int32) s39 s41 h40 _) lk_RX12_216 ⟨by decide, by decide⟩ rv_68 rfl hl.1 rfl (Nat.le_of_ble_eq_true rfl) ⟨Nat.le_refl _, Nat.le_refl _⟩ dX12_writeFixups_360) (fun H locs Z => ?_)
    obtain ⟨v42, ev42⟩ : ∃ z : Int32, z = x5 + 1 := ⟨_, rfl⟩
    have hf := zn_e ev42 hf
    refine lv_iinc (v := v42) (lv' := [(5, .int v42), (0, .ref (h 68)), (2, .int x2), (4, .int x4)]) hx hb dX12_writeFixups_363 hl (k := 3) rfl (by rw [ev42]; rfl) (by decide) rfl (fun ls hl => ?_)
    refine lv_goto (tgt := 330) hx hb dX12_writeFixups_366 (by decide) ?_
    exact hK330 (x2, x4, v42, s41) _ hf _ _ _ Z (lv_sub hl [1, 2, 3, 0] rfl)

set_option maxRecDepth 100000 in
set_option maxHeartbeats 4000000 in
theorem b_X12_writeFixups_330 {p : Program} {l : Launch} {e : Env} {s : State} {m : MethodId} {args : Array Value} {below : List Frame} {meth : Method} {c : Code} {D : va_G} {h : Nat → Nat} {cy : Nat → ClassId} (X : Cx p s m args c D h cy RX12 cX12_writeFixups 7) (hr : meth.sig.returnType = none) (hk : meth.locks = false) (x2 : Int32) (x4 : Int32) (x5 : Int32) (σ : St) (y : St) (hf : f_X12_writeFixups_330 x2 x4 x5 σ = some y) : ∀ (H : Heap) (locs : List Loc) (ls : Array Slot), Zt D h cy s σ H locs → lv_has ls 7 [(0, .ref (h 68)), (2, .int x2), (4, .int x4), (5, .int x5)] → W p l e (rmz 2 52) s m args below meth c H locs 0 0 (EV below args s D h cy y) (F0 m 330 ls []) := by
  exact it_W (F := fun K a => f_X12_writeFixups_330b K a.1 a.2.1 a.2.2.1 a.2.2.2) (P := fun a y => ∀ (H : Heap) (locs : List Loc) (ls : Array Slot), Zt D h cy s a.2.2.2 H locs → lv_has ls 7 [(0, .ref (h 68)), (2, .int a.1), (4, .int a.2.1), (5, .int a.2.2.1)] → W p l e (rmz 2 52) s m args below meth c H locs 0 0 (EV below args s D h cy y) (F0 m 330 ls [])) (fun K hK a y hf => b_X12_writeFixups_330b X hr hk K hK (a.1) (a.2.1) (a.2.2.1) (a.2.2.2) y hf) FU _ y hf

set_option maxRecDepth 100000 in
set_option maxHeartbeats 4000000 in
theorem b_X12_writeFixups_290 {p : Program} {l : Launch} {e : Env} {s : State} {m : MethodId} {args : Array Value} {below : List Frame} {meth : Method} {c : Code} {D : va_G} {h : Nat → Nat} {cy : Nat → ClassId} (X : Cx p s m args c D h cy RX12 cX12_writeFixups 7) (hr : meth.sig.returnType = none) (hk : meth.locks = false) (K256 : (Int32 × Int32 × Int32 × St) → Option (St)) (hK256 : ∀ (a : Int32 × Int32 × Int32 × St) (y : St), K256 a = some y → ∀ (H : Heap) (locs : List Loc) (ls : Array Slot), Zt D h cy s a.2.2.2 H locs → lv_has ls 7 [(0, .ref (h 68)), (2, .int a.1), (3, .int a.2.1), (4, .int a.2.2.1)] → W p l e (rmz 2 52) s m args below meth c H locs 0 0 (EV below args s D h cy y) (F0 m 256 ls [])) (x2 : Int32) (x3 : Int32) (x4 : Int32) (t0 : Int32) (t1 : Int32) (σ : St) (y : St) (hf : f_X12_writeFixups_290 K256 x2 x3 x4 t0 t1 σ = some y) : ∀ (H : Heap) (locs : List Loc) (ls : Array Slot), Zt D h cy s σ H locs → lv_has ls 7 [(0, .ref (h 68)), (2, .int x2), (3, .int x3), (4, .int x4)] → W p l e (rmz 2 52) s m args below meth c H locs 0 0 (EV below args s D h cy y) (F0 m 290 ls [.int t0, .int t1, .ref (h 68)]) := by
  intro H locs ls Z hl
  have hx := X.x
  have hb := X.b
  unfold f_X12_writeFixups_290 at hf
  refine lv_ior hx hb dX12_writeFixups_290 ?_
  refine lv_iload_n hx hb dX12_writeFixups_291 rfl (lv_at hl 2 rfl) ?_
  refine lv_bipush (v := 9) hx hb dX12_writeFixups_292 (by decide) ?_
  refine lv_ishl hx hb dX12_writeFixups_294 ?_
  refine lv_ior hx hb dX12_writeFixups_295 ?_
  refine lv_i2l (v := (((t1 ||| t0) ||| (x3 <<< ((9 : Int32) &&& 31)))).toInt64) hx hb dX12_writeFixups_296 rfl ?_
  refine lv_iconst (v := 4) hx hb dX12_writeFixups_297 (by decide) ?_
  obtain ⟨s47, h46, hf⟩ := bv_s hf
  refine goV Z (run_V (As := [.long ((((t1 ||| t0) ||| (x3 <<< ((9 : Int32) &&& 31)))).toInt64), .int (4 : Int32)]) (rest := []) X Z (c_X12_put l D h cy ((((t1 ||| t0) ||| (x3 <<< ((9 : Int32) &&& 31)))).toInt64) (4 : Int32) σ s47 h46 _) lk_RX12_216 ⟨by decide, by decide⟩ rv_68 rfl hl.1 rfl (Nat.le_of_ble_eq_true rfl) ⟨Nat.le_refl _, Nat.le_refl _⟩ dX12_writeFixups_298) (fun H locs Z => ?_)
  refine lv_iload_n hx hb dX12_writeFixups_301 rfl (lv_at hl 2 rfl) ?_
  refine lv_aload_n hx hb dX12_writeFixups_302 rfl (lv_at hl 0 rfl) ?_
  refine lv_bipush (v := 32) hx hb dX12_writeFixups_303 (by decide) ?_
  refine lv_iload hx hb dX12_writeFixups_305 (lv_at hl 3 rfl) ?_
  refine lv_iadd hx hb dX12_writeFixups_307 ?_
  obtain ⟨r50, s49, h48, hf⟩ := bi_s hf
  refine goI Z (run_V (As := [.int (((32 : Int32) + x4))]) (rest := [.int x3]) X Z (c_X12_longOf l D h cy (((32 : Int32) + x4)) s47 (r50, s49) h48 _) lk_RX12_241 ⟨by decide, by decide⟩ rv_68 rfl hl.1 rfl (Nat.le_of_ble_eq_true rfl) ⟨Nat.le_refl _, Nat.le_refl _⟩ dX12_writeFixups_308) (fun H locs Z => ?_)
  refine lv_iconst (v := 1) hx hb dX12_writeFixups_311 (by decide) ?_
  refine lv_iadd hx hb dX12_writeFixups_312 ?_
  refine lv_iadd hx hb dX12_writeFixups_313 ?_
  refine lv_topi (fun v51 ev51 => ?_)
  have hf := zn_e ev51 hf
  refine lv_istore_n (lv' := [(3, .int v51), (0, .ref (h 68)), (2, .int x2), (4, .int x4)]) hx hb dX12_writeFixups_314 rfl hl (by decide) rfl (fun ls hl => ?_)
  obtain ⟨v52, ev52⟩ : ∃ z : Int32, z = x4 + 1 := ⟨_, rfl⟩
  have hf := zn_e ev52 hf
  refine lv_iinc (v := v52) (lv' := [(4, .int v52), (3, .int v51), (0, .ref (h 68)), (2, .int x2)]) hx hb dX12_writeFixups_315 hl (k := 3) rfl (by rw [ev52]; rfl) (by decide) rfl (fun ls hl => ?_)
  refine lv_goto (tgt := 256) hx hb dX12_writeFixups_318 (by decide) ?_
  exact hK256 (x2, v51, v52, s49) _ hf _ _ _ Z (lv_sub hl [2, 3, 1, 0] rfl)

set_option maxRecDepth 100000 in
set_option maxHeartbeats 4000000 in
theorem b_X12_writeFixups_256b {p : Program} {l : Launch} {e : Env} {s : State} {m : MethodId} {args : Array Value} {below : List Frame} {meth : Method} {c : Code} {D : va_G} {h : Nat → Nat} {cy : Nat → ClassId} (X : Cx p s m args c D h cy RX12 cX12_writeFixups 7) (hr : meth.sig.returnType = none) (hk : meth.locks = false) (K256 : (Int32 × Int32 × Int32 × St) → Option (St)) (hK256 : ∀ (a : Int32 × Int32 × Int32 × St) (y : St), K256 a = some y → ∀ (H : Heap) (locs : List Loc) (ls : Array Slot), Zt D h cy s a.2.2.2 H locs → lv_has ls 7 [(0, .ref (h 68)), (2, .int a.1), (3, .int a.2.1), (4, .int a.2.2.1)] → W p l e (rmz 2 52) s m args below meth c H locs 0 0 (EV below args s D h cy y) (F0 m 256 ls [])) (x2 : Int32) (x3 : Int32) (x4 : Int32) (σ : St) (y : St) (hf : f_X12_writeFixups_256b K256 x2 x3 x4 σ = some y) : ∀ (H : Heap) (locs : List Loc) (ls : Array Slot), Zt D h cy s σ H locs → lv_has ls 7 [(0, .ref (h 68)), (2, .int x2), (3, .int x3), (4, .int x4)] → W p l e (rmz 2 52) s m args below meth c H locs 0 0 (EV below args s D h cy y) (F0 m 256 ls []) := by
  intro H locs ls Z hl
  have hx := X.x
  have hb := X.b
  unfold f_X12_writeFixups_256b at hf
  refine lv_iload hx hb dX12_writeFixups_256 (lv_at hl 3 rfl) ?_
  refine lv_aload_n hx hb dX12_writeFixups_258 rfl (lv_at hl 0 rfl) ?_
  refine gf_RX12_183 X Z dX12_writeFixups_259 ?_
  refine lv_icmp_ge (tgt := 321) hx hb dX12_writeFixups_262 (by decide) (fun c11 => ?_) (fun c11 => ?_)
  · have hf := itp c11 hf
    refine lv_aload_n hx hb dX12_writeFixups_321 rfl (lv_at hl 0 rfl) ?_
    refine gf_RX12_213 X Z dX12_writeFixups_322 ?_
    refine lv_topi (fun v12 ev12 => ?_)
    have hf := zn_e ev12 hf
    refine lv_istore (lv' := [(4, .int v12), (0, .ref (h 68)), (2, .int x2), (3, .int x3)]) hx hb dX12_writeFixups_325 hl (by decide) rfl (fun ls hl => ?_)
    refine lv_iconst (v := 0) hx hb dX12_writeFixups_327 (by decide) ?_
    refine lv_topi (fun v13 ev13 => ?_)
    have hf := zn_e ev13 hf
    refine lv_istore (lv' := [(5, .int v13), (4, .int v12), (0, .ref (h 68)), (2, .int x2), (3, .int x3)]) hx hb dX12_writeFixups_328 hl (by decide) rfl (fun ls hl => ?_)
    exact b_X12_writeFixups_330 X hr hk x2 v12 v13 σ _ hf _ _ _ Z (lv_sub hl [2, 3, 1, 0] rfl)
  · have hf := itn c11 hf
    refine lv_aload_n hx hb dX12_writeFixups_265 rfl (lv_at hl 0 rfl) ?_
    refine lv_aload_n hx hb dX12_writeFixups_266 rfl (lv_at hl 0 rfl) ?_
    refine gf_RX12_48 X Z dX12_writeFixups_267 ?_
    refine lv_iload hx hb dX12_writeFixups_270 (lv_at hl 3 rfl) ?_
    obtain ⟨g43, hf⟩ := gd_s hf
    refine x_iald (k := 79) X Z sh_79 g43 dX12_writeFixups_272 ?_
    refine lv_aload_n hx hb dX12_writeFixups_273 rfl (lv_at hl 0 rfl) ?_
    refine gf_RX12_51 X Z dX12_writeFixups_274 ?_
    refine lv_iload hx hb dX12_writeFixups_277 (lv_at hl 3 rfl) ?_
    obtain ⟨g44, hf⟩ := gd_s hf
    refine x_zald (k := 80) X Z sh_80 g44 dX12_writeFixups_279 ?_
    refine lv_if_eq (tgt := 289) hx hb dX12_writeFixups_280 (by decide) (fun c45 => ?_) (fun c45 => ?_)
    · have hf := itp c45 hf
      refine lv_iconst (v := 0) hx hb dX12_writeFixups_289 (by decide) ?_
      exact b_X12_writeFixups_290 X hr hk K256 hK256 x2 x3 x4 (0 : Int32) (σ.1 79 x4.toNatClampNeg) σ _ hf _ _ _ Z (lv_sub hl [0, 1, 2, 3] rfl)
    · have hf := itn c45 hf
      refine lv_sipush (v := 256) hx hb dX12_writeFixups_283 (by decide) ?_
      refine lv_goto (tgt := 290) hx hb dX12_writeFixups_286 (by decide) ?_
      exact b_X12_writeFixups_290 X hr hk K256 hK256 x2 x3 x4 (256 : Int32) (σ.1 79 x4.toNatClampNeg) σ _ hf _ _ _ Z (lv_sub hl [0, 1, 2, 3] rfl)

set_option maxRecDepth 100000 in
set_option maxHeartbeats 4000000 in
theorem b_X12_writeFixups_256 {p : Program} {l : Launch} {e : Env} {s : State} {m : MethodId} {args : Array Value} {below : List Frame} {meth : Method} {c : Code} {D : va_G} {h : Nat → Nat} {cy : Nat → ClassId} (X : Cx p s m args c D h cy RX12 cX12_writeFixups 7) (hr : meth.sig.returnType = none) (hk : meth.locks = false) (x2 : Int32) (x3 : Int32) (x4 : Int32) (σ : St) (y : St) (hf : f_X12_writeFixups_256 x2 x3 x4 σ = some y) : ∀ (H : Heap) (locs : List Loc) (ls : Array Slot), Zt D h cy s σ H locs → lv_has ls 7 [(0, .ref (h 68)), (2, .int x2), (3, .int x3), (4, .int x4)] → W p l e (rmz 2 52) s m args below meth c H locs 0 0 (EV below args s D h cy y) (F0 m 256 ls []) := by
  exact it_W (F := fun K a => f_X12_writeFixups_256b K a.1 a.2.1 a.2.2.1 a.2.2.2) (P := fun a y => ∀ (H : Heap) (locs : List Loc) (ls : Array Slot), Zt D h cy s a.2.2.2 H locs → lv_has ls 7 [(0, .ref (h 68)), (2, .int a.1), (3, .int a.2.1), (4, .int a.2.2.1)] → W p l e (rmz 2 52) s m args below meth c H locs 0 0 (EV below args s D h cy y) (F0 m 256 ls [])) (fun K hK a y hf => b_X12_writeFixups_256b X hr hk K hK (a.1) (a.2.1) (a.2.2.1) (a.2.2.2) y hf) FU _ y hf

set_option maxRecDepth 100000 in
set_option maxHeartbeats 4000000 in
theorem b_X12_writeFixups_235 {p : Program} {l : Launch} {e : Env} {s : State} {m : MethodId} {args : Array Value} {below : List Frame} {meth : Method} {c : Code} {D : va_G} {h : Nat → Nat} {cy : Nat → ClassId} (X : Cx p s m args c D h cy RX12 cX12_writeFixups 7) (hr : meth.sig.returnType = none) (hk : meth.locks = false) (K32 : (Int32 × Int32 × St) → Option (St)) (hK32 : ∀ (a : Int32 × Int32 × St) (y : St), K32 a = some y → ∀ (H : Heap) (locs : List Loc) (ls : Array Slot), Zt D h cy s a.2.2 H locs → lv_has ls 7 [(0, .ref (h 68)), (1, .int a.1), (2, .int a.2.1)] → W p l e (rmz 2 52) s m args below meth c H locs 0 0 (EV below args s D h cy y) (F0 m 32 ls [])) (x1 : Int32) (x2 : Int32) (σ : St) (y : St) (hf : f_X12_writeFixups_235 K32 x1 x2 σ = some y) : ∀ (H : Heap) (locs : List Loc) (ls : Array Slot), Zt D h cy s σ H locs → lv_has ls 7 [(0, .ref (h 68)), (1, .int x1), (2, .int x2)] → W p l e (rmz 2 52) s m args below meth c H locs 0 0 (EV below args s D h cy y) (F0 m 235 ls []) := by
  intro H locs ls Z hl
  have hx := X.x
  have hb := X.b
  unfold f_X12_writeFixups_235 at hf
  obtain ⟨v85, ev85⟩ : ∃ z : Int32, z = x2 + 1 := ⟨_, rfl⟩
  have hf := zn_e ev85 hf
  refine lv_iinc (v := v85) (lv' := [(2, .int v85), (0, .ref (h 68)), (1, .int x1)]) hx hb dX12_writeFixups_235 hl (k := 2) rfl (by rw [ev85]; rfl) (by decide) rfl (fun ls hl => ?_)
  refine lv_goto (tgt := 32) hx hb dX12_writeFixups_238 (by decide) ?_
  exact hK32 (x1, v85, σ) _ hf _ _ _ Z (lv_sub hl [1, 2, 0] rfl)

set_option maxRecDepth 100000 in
set_option maxHeartbeats 4000000 in
theorem b_X12_writeFixups_215 {p : Program} {l : Launch} {e : Env} {s : State} {m : MethodId} {args : Array Value} {below : List Frame} {meth : Method} {c : Code} {D : va_G} {h : Nat → Nat} {cy : Nat → ClassId} (X : Cx p s m args c D h cy RX12 cX12_writeFixups 7) (hr : meth.sig.returnType = none) (hk : meth.locks = false) (K168 : (Int32 × Int32 × Int32 × Int32 × Int32 × Int32 × St) → Option (St)) (hK168 : ∀ (a : Int32 × Int32 × Int32 × Int32 × Int32 × Int32 × St) (y : St), K168 a = some y → ∀ (H : Heap) (locs : List Loc) (ls : Array Slot), Zt D h cy s a.2.2.2.2.2.2 H locs → lv_has ls 7 [(0, .ref (h 68)), (1, .int a.1), (2, .int a.2.1), (3, .int a.2.2.1), (4, .int a.2.2.2.1), (5, .int a.2.2.2.2.1), (6, .int a.2.2.2.2.2.1)] → W p l e (rmz 2 52) s m args below meth c H locs 0 0 (EV below args s D h cy y) (F0 m 168 ls [])) (x1 : Int32) (x2 : Int32) (x3 : Int32) (x4 : Int32) (x5 : Int32) (x6 : Int32) (σ : St) (y : St) (hf : f_X12_writeFixups_215 K168 x1 x2 x3 x4 x5 x6 σ = some y) : ∀ (H : Heap) (locs : List Loc) (ls : Array Slot), Zt D h cy s σ H locs → lv_has ls 7 [(0, .ref (h 68)), (1, .int x1), (2, .int x2), (3, .int x3), (4, .int x4), (5, .int x5), (6, .int x6)] → W p l e (rmz 2 52) s m args below meth c H locs 0 0 (EV below args s D h cy y) (F0 m 215 ls []) := by
  intro H locs ls Z hl
  have hx := X.x
  have hb := X.b
  unfold f_X12_writeFixups_215 at hf
  obtain ⟨v94, ev94⟩ : ∃ z : Int32, z = x6 + (-1) := ⟨_, rfl⟩
  have hf := zn_e ev94 hf
  refine lv_iinc (v := v94) (lv' := [(6, .int v94), (0, .ref (h 68)), (1, .int x1), (2, .int x2), (3, .int x3), (4, .int x4), (5, .int x5)]) hx hb dX12_writeFixups_215 hl (k := 6) rfl (by rw [ev94]; rfl) (by decide) rfl (fun ls hl => ?_)
  refine lv_goto (tgt := 168) hx hb dX12_writeFixups_218 (by decide) ?_
  exact hK168 (x1, x2, x3, x4, x5, v94, σ) _ hf _ _ _ Z (lv_sub hl [1, 2, 3, 4, 5, 6, 0] rfl)

set_option maxRecDepth 100000 in
set_option maxHeartbeats 4000000 in
theorem b_X12_writeFixups_168b {p : Program} {l : Launch} {e : Env} {s : State} {m : MethodId} {args : Array Value} {below : List Frame} {meth : Method} {c : Code} {D : va_G} {h : Nat → Nat} {cy : Nat → ClassId} (X : Cx p s m args c D h cy RX12 cX12_writeFixups 7) (hr : meth.sig.returnType = none) (hk : meth.locks = false) (K149 : (Int32 × Int32 × Int32 × Int32 × St) → Option (St)) (hK149 : ∀ (a : Int32 × Int32 × Int32 × Int32 × St) (y : St), K149 a = some y → ∀ (H : Heap) (locs : List Loc) (ls : Array Slot), Zt D h cy s a.2.2.2.2 H locs → lv_has ls 7 [(0, .ref (h 68)), (1, .int a.1), (2, .int a.2.1), (3, .int a.2.2.1), (4, .int a.2.2.2.1)] → W p l e (rmz 2 52) s m args below meth c H locs 0 0 (EV below args s D h cy y) (F0 m 149 ls [])) (K168 : (Int32 × Int32 × Int32 × Int32 × Int32 × Int32 × St) → Option (St)) (hK168 : ∀ (a : Int32 × Int32 × Int32 × Int32 × Int32 × Int32 × St) (y : St), K168 a = some y → ∀ (H : Heap) (locs : List Loc) (ls : Array Slot), Zt D h cy s a.2.2.2.2.2.2 H locs → lv_has ls 7 [(0, .ref (h 68)), (1, .int a.1), (2, .int a.2.1), (3, .int a.2.2.1), (4, .int a.2.2.2.1), (5, .int a.2.2.2.2.1), (6, .int a.2.2.2.2.2.1)] → W p l e (rmz 2 52) s m args below meth c H locs 0 0 (EV below args s D h cy y) (F0 m 168 ls [])) (x1 : Int32) (x2 : Int32) (x3 : Int32) (x4 : Int32) (x5 : Int32) (x6 : Int32) (σ : St) (y : St) (hf : f_X12_writeFixups_168b K149 K168 x1 x2 x3 x4 x5 x6 σ = some y) : ∀ (H : Heap) (locs : List Loc) (ls : Array Slot), Zt D h cy s σ H locs → lv_has ls 7 [(0, .ref (h 68)), (1, .int x1), (2, .int x2), (3, .int x3), (4, .int x4), (5, .int x5), (6, .int x6)] → W p l e (rmz 2 52) s m args below meth c H locs 0 0 (EV below args s D h cy y) (F0 m 168 ls []) := by
  intro H locs ls Z hl
  have hx := X.x
  have hb := X.b
  unfold f_X12_writeFixups_168b at hf
  refine lv_iload hx hb dX12_writeFixups_168 (lv_at hl 6 rfl) ?_
  refine lv_if_lt (tgt := 221) hx hb dX12_writeFixups_170 (by decide) (fun c88 => ?_) (fun c88 => ?_)
  · have hf := itp c88 hf
    refine lv_aload_n hx hb dX12_writeFixups_221 rfl (lv_at hl 0 rfl) ?_
    refine lv_iload hx hb dX12_writeFixups_222 (lv_at hl 5 rfl) ?_
    refine lv_i2l (v := x5.toInt64) hx hb dX12_writeFixups_224 rfl ?_
    refine lv_iconst (v := 2) hx hb dX12_writeFixups_225 (by decide) ?_
    obtain ⟨s90, h89, hf⟩ := bv_s hf
    refine goV Z (run_V (As := [.long x5.toInt64, .int (2 : Int32)]) (rest := []) X Z (c_X12_put l D h cy x5.toInt64 (2 : Int32) σ s90 h89 _) lk_RX12_216 ⟨by decide, by decide⟩ rv_68 rfl hl.1 rfl (Nat.le_of_ble_eq_true rfl) ⟨Nat.le_refl _, Nat.le_refl _⟩ dX12_writeFixups_226) (fun H locs Z => ?_)
    obtain ⟨v91, ev91⟩ : ∃ z : Int32, z = x4 + 1 := ⟨_, rfl⟩
    have hf := zn_e ev91 hf
    refine lv_iinc (v := v91) (lv' := [(4, .int v91), (0, .ref (h 68)), (1, .int x1), (2, .int x2), (3, .int x3), (5, .int x5), (6, .int x6)]) hx hb dX12_writeFixups_229 hl (k := 4) rfl (by rw [ev91]; rfl) (by decide) rfl (fun ls hl => ?_)
    refine lv_goto (tgt := 149) hx hb dX12_writeFixups_232 (by decide) ?_
    exact hK149 (x1, x2, x3, v91, s90) _ hf _ _ _ Z (lv_sub hl [1, 2, 3, 4, 0] rfl)
  · have hf := itn c88 hf
    refine lv_aload_n hx hb dX12_writeFixups_173 rfl (lv_at hl 0 rfl) ?_
    refine gf_RX12_55 X Z dX12_writeFixups_174 ?_
    refine lv_iload hx hb dX12_writeFixups_177 (lv_at hl 6 rfl) ?_
    obtain ⟨g92, hf⟩ := gd_s hf
    refine x_iald (k := 81) X Z sh_81 g92 dX12_writeFixups_179 ?_
    refine lv_iload_n hx hb dX12_writeFixups_180 rfl (lv_at hl 2 rfl) ?_
    refine lv_icmp_ne (tgt := 215) hx hb dX12_writeFixups_181 (by decide) (fun c93 => ?_) (fun c93 => ?_)
    · have hf := itn c93 hf
      exact b_X12_writeFixups_215 X hr hk K168 hK168 x1 x2 x3 x4 x5 x6 σ _ hf _ _ _ Z (lv_sub hl [0, 1, 2, 3, 4, 5, 6] rfl)
    · have hf := itp c93 hf
      refine lv_aload_n hx hb dX12_writeFixups_184 rfl (lv_at hl 0 rfl) ?_
      refine gf_RX12_58 X Z dX12_writeFixups_185 ?_
      refine lv_iload hx hb dX12_writeFixups_188 (lv_at hl 6 rfl) ?_
      obtain ⟨g95, hf⟩ := gd_s hf
      refine x_iald (k := 82) X Z sh_82 g95 dX12_writeFixups_190 ?_
      refine lv_aload_n hx hb dX12_writeFixups_191 rfl (lv_at hl 0 rfl) ?_
      refine gf_RX12_21 X Z dX12_writeFixups_192 ?_
      obtain ⟨g96, hf⟩ := gd_s hf
      refine lv_idiv hx hb dX12_writeFixups_195 g96 ?_
      refine lv_iload hx hb dX12_writeFixups_196 (lv_at hl 4 rfl) ?_
      refine lv_icmp_ne (tgt := 215) hx hb dX12_writeFixups_198 (by decide) (fun c97 => ?_) (fun c97 => ?_)
      · have hf := itn c97 hf
        exact b_X12_writeFixups_215 X hr hk K168 hK168 x1 x2 x3 x4 x5 x6 σ _ hf _ _ _ Z (lv_sub hl [0, 1, 2, 3, 4, 5, 6] rfl)
      · have hf := itp c97 hf
        refine lv_aload_n hx hb dX12_writeFixups_201 rfl (lv_at hl 0 rfl) ?_
        refine gf_RX12_58 X Z dX12_writeFixups_202 ?_
        refine lv_iload hx hb dX12_writeFixups_205 (lv_at hl 6 rfl) ?_
        obtain ⟨g98, hf⟩ := gd_s hf
        refine x_iald (k := 82) X Z sh_82 g98 dX12_writeFixups_207 ?_
        refine lv_aload_n hx hb dX12_writeFixups_208 rfl (lv_at hl 0 rfl) ?_
        refine gf_RX12_21 X Z dX12_writeFixups_209 ?_
        obtain ⟨g99, hf⟩ := gd_s hf
        refine lv_irem hx hb dX12_writeFixups_212 g99 ?_
        refine lv_topi (fun v100 ev100 => ?_)
        have hf := zn_e ev100 hf
        refine lv_istore (lv' := [(5, .int v100), (0, .ref (h 68)), (1, .int x1), (2, .int x2), (3, .int x3), (4, .int x4), (6, .int x6)]) hx hb dX12_writeFixups_213 hl (by decide) rfl (fun ls hl => ?_)
        exact b_X12_writeFixups_215 X hr hk K168 hK168 x1 x2 x3 x4 v100 x6 σ _ hf _ _ _ Z (lv_sub hl [1, 2, 3, 4, 5, 0, 6] rfl)

set_option maxRecDepth 100000 in
set_option maxHeartbeats 4000000 in
theorem b_X12_writeFixups_168 {p : Program} {l : Launch} {e : Env} {s : State} {m : MethodId} {args : Array Value} {below : List Frame} {meth : Method} {c : Code} {D : va_G} {h : Nat → Nat} {cy : Nat → ClassId} (X : Cx p s m args c D h cy RX12 cX12_writeFixups 7) (hr : meth.sig.returnType = none) (hk : meth.locks = false) (K149 : (Int32 × Int32 × Int32 × Int32 × St) → Option (St)) (hK149 : ∀ (a : Int32 × Int32 × Int32 × Int32 × St) (y : St), K149 a = some y → ∀ (H : Heap) (locs : List Loc) (ls : Array Slot), Zt D h cy s a.2.2.2.2 H locs → lv_has ls 7 [(0, .ref (h 68)), (1, .int a.1), (2, .int a.2.1), (3, .int a.2.2.1), (4, .int a.2.2.2.1)] → W p l e (rmz 2 52) s m args below meth c H locs 0 0 (EV below args s D h cy y) (F0 m 149 ls [])) (x1 : Int32) (x2 : Int32) (x3 : Int32) (x4 : Int32) (x5 : Int32) (x6 : Int32) (σ : St) (y : St) (hf : f_X12_writeFixups_168 K149 x1 x2 x3 x4 x5 x6 σ = some y) : ∀ (H : Heap) (locs : List Loc) (ls : Array Slot), Zt D h cy s σ H locs → lv_has ls 7 [(0, .ref (h 68)), (1, .int x1), (2, .int x2), (3, .int x3), (4, .int x4), (5, .int x5), (6, .int x6)] → W p l e (rmz 2 52) s m args below meth c H locs 0 0 (EV below args s D h cy y) (F0 m 168 ls []) := by
  exact it_W (F := fun K a => f_X12_writeFixups_168b K149 K a.1 a.2.1 a.2.2.1 a.2.2.2.1 a.2.2.2.2.1 a.2.2.2.2.2.1 a.2.2.2.2.2.2) (P := fun a y => ∀ (H : Heap) (locs : List Loc) (ls : Array Slot), Zt D h cy s a.2.2.2.2.2.2 H locs → lv_has ls 7 [(0, .ref (h 68)), (1, .int a.1), (2, .int a.2.1), (3, .int a.2.2.1), (4, .int a.2.2.2.1), (5, .int a.2.2.2.2.1), (6, .int a.2.2.2.2.2.1)] → W p l e (rmz 2 52) s m args below meth c H locs 0 0 (EV below args s D h cy y) (F0 m 168 ls [])) (fun K hK a y hf => b_X12_writeFixups_168b X hr hk K149 hK149 K hK (a.1) (a.2.1) (a.2.2.1) (a.2.2.2.1) (a.2.2.2.2.1) (a.2.2.2.2.2.1) (a.2.2.2.2.2.2) y hf) FU _ y hf

set_option maxRecDepth 100000 in
set_option maxHeartbeats 4000000 in
theorem b_X12_writeFixups_149b {p : Program} {l : Launch} {e : Env} {s : State} {m : MethodId} {args : Array Value} {below : List Frame} {meth : Method} {c : Code} {D : va_G} {h : Nat → Nat} {cy : Nat → ClassId} (X : Cx p s m args c D h cy RX12 cX12_writeFixups 7) (hr : meth.sig.returnType = none) (hk : meth.locks = false) (K32 : (Int32 × Int32 × St) → Option (St)) (hK32 : ∀ (a : Int32 × Int32 × St) (y : St), K32 a = some y → ∀ (H : Heap) (locs : List Loc) (ls : Array Slot), Zt D h cy s a.2.2 H locs → lv_has ls 7 [(0, .ref (h 68)), (1, .int a.1), (2, .int a.2.1)] → W p l e (rmz 2 52) s m args below meth c H locs 0 0 (EV below args s D h cy y) (F0 m 32 ls [])) (K149 : (Int32 × Int32 × Int32 × Int32 × St) → Option (St)) (hK149 : ∀ (a : Int32 × Int32 × Int32 × Int32 × St) (y : St), K149 a = some y → ∀ (H : Heap) (locs : List Loc) (ls : Array Slot), Zt D h cy s a.2.2.2.2 H locs → lv_has ls 7 [(0, .ref (h 68)), (1, .int a.1), (2, .int a.2.1), (3, .int a.2.2.1), (4, .int a.2.2.2.1)] → W p l e (rmz 2 52) s m args below meth c H locs 0 0 (EV below args s D h cy y) (F0 m 149 ls [])) (x1 : Int32) (x2 : Int32) (x3 : Int32) (x4 : Int32) (σ : St) (y : St) (hf : f_X12_writeFixups_149b K32 K149 x1 x2 x3 x4 σ = some y) : ∀ (H : Heap) (locs : List Loc) (ls : Array Slot), Zt D h cy s σ H locs → lv_has ls 7 [(0, .ref (h 68)), (1, .int x1), (2, .int x2), (3, .int x3), (4, .int x4)] → W p l e (rmz 2 52) s m args below meth c H locs 0 0 (EV below args s D h cy y) (F0 m 149 ls []) := by
  intro H locs ls Z hl
  have hx := X.x
  have hb := X.b
  unfold f_X12_writeFixups_149b at hf
  refine lv_iload hx hb dX12_writeFixups_149 (lv_at hl 4 rfl) ?_
  refine lv_iload_n hx hb dX12_writeFixups_151 rfl (lv_at hl 3 rfl) ?_
  refine lv_icmp_ge (tgt := 235) hx hb dX12_writeFixups_152 (by decide) (fun c84 => ?_) (fun c84 => ?_)
  · have hf := itp c84 hf
    exact b_X12_writeFixups_235 X hr hk K32 hK32 x1 x2 σ _ hf _ _ _ Z (lv_sub hl [0, 1, 2] rfl)
  · have hf := itn c84 hf
    refine lv_ldcw (v := 65535) hx hb X.o (X.t _ kc_RX12_272) dX12_writeFixups_155 ?_
    refine lv_topi (fun v86 ev86 => ?_)
    have hf := zn_e ev86 hf
    refine lv_istore (lv' := [(5, .int v86), (0, .ref (h 68)), (1, .int x1), (2, .int x2), (3, .int x3), (4, .int x4)]) hx hb dX12_writeFixups_158 hl (by decide) rfl (fun ls hl => ?_)
    refine lv_aload_n hx hb dX12_writeFixups_160 rfl (lv_at hl 1 rfl) ?_
    refine gf_RX12_186 X Z dX12_writeFixups_161 ?_
    refine lv_iconst (v := 1) hx hb dX12_writeFixups_164 (by decide) ?_
    refine lv_isub hx hb dX12_writeFixups_165 ?_
    refine lv_topi (fun v87 ev87 => ?_)
    have hf := zn_e ev87 hf
    refine lv_istore (lv' := [(6, .int v87), (5, .int v86), (0, .ref (h 68)), (1, .int x1), (2, .int x2), (3, .int x3), (4, .int x4)]) hx hb dX12_writeFixups_166 hl (by decide) rfl (fun ls hl => ?_)
    exact b_X12_writeFixups_168 X hr hk K149 hK149 x1 x2 x3 x4 v86 v87 σ _ hf _ _ _ Z (lv_sub hl [2, 3, 4, 5, 6, 1, 0] rfl)

set_option maxRecDepth 100000 in
set_option maxHeartbeats 4000000 in
theorem b_X12_writeFixups_149 {p : Program} {l : Launch} {e : Env} {s : State} {m : MethodId} {args : Array Value} {below : List Frame} {meth : Method} {c : Code} {D : va_G} {h : Nat → Nat} {cy : Nat → ClassId} (X : Cx p s m args c D h cy RX12 cX12_writeFixups 7) (hr : meth.sig.returnType = none) (hk : meth.locks = false) (K32 : (Int32 × Int32 × St) → Option (St)) (hK32 : ∀ (a : Int32 × Int32 × St) (y : St), K32 a = some y → ∀ (H : Heap) (locs : List Loc) (ls : Array Slot), Zt D h cy s a.2.2 H locs → lv_has ls 7 [(0, .ref (h 68)), (1, .int a.1), (2, .int a.2.1)] → W p l e (rmz 2 52) s m args below meth c H locs 0 0 (EV below args s D h cy y) (F0 m 32 ls [])) (x1 : Int32) (x2 : Int32) (x3 : Int32) (x4 : Int32) (σ : St) (y : St) (hf : f_X12_writeFixups_149 K32 x1 x2 x3 x4 σ = some y) : ∀ (H : Heap) (locs : List Loc) (ls : Array Slot), Zt D h cy s σ H locs → lv_has ls 7 [(0, .ref (h 68)), (1, .int x1), (2, .int x2), (3, .int x3), (4, .int x4)] → W p l e (rmz 2 52) s m args below meth c H locs 0 0 (EV below args s D h cy y) (F0 m 149 ls []) := by
  exact it_W (F := fun K a => f_X12_writeFixups_149b K32 K a.1 a.2.1 a.2.2.1 a.2.2.2.1 a.2.2.2.2) (P := fun a y => ∀ (H : Heap) (locs : List Loc) (ls : Array Slot), Zt D h cy s a.2.2.2.2 H locs → lv_has ls 7 [(0, .ref (h 68)), (1, .int a.1), (2, .int a.2.1), (3, .int a.2.2.1), (4, .int a.2.2.2.1)] → W p l e (rmz 2 52) s m args below meth c H locs 0 0 (EV below args s D h cy y) (F0 m 149 ls [])) (fun K hK a y hf => b_X12_writeFixups_149b X hr hk K32 hK32 K hK (a.1) (a.2.1) (a.2.2.1) (a.2.2.2.1) (a.2.2.2.2) y hf) FU _ y hf

set_option maxRecDepth 100000 in
set_option maxHeartbeats 4000000 in
theorem b_X12_writeFixups_32b {p : Program} {l : Launch} {e : Env} {s : State} {m : MethodId} {args : Array Value} {below : List Frame} {meth : Method} {c : Code} {D : va_G} {h : Nat → Nat} {cy : Nat → ClassId} (X : Cx p s m args c D h cy RX12 cX12_writeFixups 7) (hr : meth.sig.returnType = none) (hk : meth.locks = false) (K32 : (Int32 × Int32 × St) → Option (St)) (hK32 : ∀ (a : Int32 × Int32 × St) (y : St), K32 a = some y → ∀ (H : Heap) (locs : List Loc) (ls : Array Slot), Zt D h cy s a.2.2 H locs → lv_has ls 7 [(0, .ref (h 68)), (1, .int a.1), (2, .int a.2.1)] → W p l e (rmz 2 52) s m args below meth c H locs 0 0 (EV below args s D h cy y) (F0 m 32 ls [])) (x1 : Int32) (x2 : Int32) (σ : St) (y : St) (hf : f_X12_writeFixups_32b K32 x1 x2 σ = some y) : ∀ (H : Heap) (locs : List Loc) (ls : Array Slot), Zt D h cy s σ H locs → lv_has ls 7 [(0, .ref (h 68)), (1, .int x1), (2, .int x2)] → W p l e (rmz 2 52) s m args below meth c H locs 0 0 (EV below args s D h cy y) (F0 m 32 ls []) := by
  intro H locs ls Z hl
  have hx := X.x
  have hb := X.b
  unfold f_X12_writeFixups_32b at hf
  refine lv_iload_n hx hb dX12_writeFixups_32 rfl (lv_at hl 2 rfl) ?_
  refine lv_aload_n hx hb dX12_writeFixups_33 rfl (lv_at hl 0 rfl) ?_
  refine gf_RX12_174 X Z dX12_writeFixups_34 ?_
  refine lv_icmp_ge (tgt := 241) hx hb dX12_writeFixups_37 (by decide) (fun c5 => ?_) (fun c5 => ?_)
  · have hf := itp c5 hf
    refine lv_aload_n hx hb dX12_writeFixups_241 rfl (lv_at hl 0 rfl) ?_
    refine lv_iconst (v := 4) hx hb dX12_writeFixups_242 (by decide) ?_
    obtain ⟨s7, h6, hf⟩ := bv_s hf
    refine goV Z (run_V (As := [.int (4 : Int32)]) (rest := []) X Z (c_X12_even l D h cy (4 : Int32) σ s7 h6 _) lk_RX12_227 ⟨by decide, by decide⟩ rv_68 rfl hl.1 rfl (Nat.le_of_ble_eq_true rfl) ⟨Nat.le_refl _, Nat.le_refl _⟩ dX12_writeFixups_243) (fun H locs Z => ?_)
    refine lv_aload_n hx hb dX12_writeFixups_246 rfl (lv_at hl 0 rfl) ?_
    refine gf_RX12_213 X Z dX12_writeFixups_247 ?_
    refine lv_topi (fun v8 ev8 => ?_)
    have hf := zn_e ev8 hf
    refine lv_istore_n (lv' := [(2, .int v8), (0, .ref (h 68)), (1, .int x1)]) hx hb dX12_writeFixups_250 rfl hl (by decide) rfl (fun ls hl => ?_)
    refine lv_iconst (v := 0) hx hb dX12_writeFixups_251 (by decide) ?_
    refine lv_topi (fun v9 ev9 => ?_)
    have hf := zn_e ev9 hf
    refine lv_istore_n (lv' := [(3, .int v9), (2, .int v8), (0, .ref (h 68)), (1, .int x1)]) hx hb dX12_writeFixups_252 rfl hl (by decide) rfl (fun ls hl => ?_)
    refine lv_iconst (v := 0) hx hb dX12_writeFixups_253 (by decide) ?_
    refine lv_topi (fun v10 ev10 => ?_)
    have hf := zn_e ev10 hf
    refine lv_istore (lv' := [(4, .int v10), (3, .int v9), (2, .int v8), (0, .ref (h 68)), (1, .int x1)]) hx hb dX12_writeFixups_254 hl (by decide) rfl (fun ls hl => ?_)
    exact b_X12_writeFixups_256 X hr hk v8 v9 v10 s7 _ hf _ _ _ Z (lv_sub hl [3, 2, 1, 0] rfl)
  · have hf := itn c5 hf
    refine lv_aload_n hx hb dX12_writeFixups_40 rfl (lv_at hl 0 rfl) ?_
    refine gf_RX12_83 X Z dX12_writeFixups_41 ?_
    refine lv_iload_n hx hb dX12_writeFixups_44 rfl (lv_at hl 2 rfl) ?_
    refine lv_iconst (v := 0) hx hb dX12_writeFixups_45 (by decide) ?_
    obtain ⟨g53, hf⟩ := gd_s hf
    refine x_iast (k := 90) X Z sh_90 g53 dX12_writeFixups_46 (fun s54 H locs es54 Z => ?_)
    have hf := zn_e es54 hf
    refine lv_aload_n hx hb dX12_writeFixups_47 rfl (lv_at hl 0 rfl) ?_
    refine lv_iload_n hx hb dX12_writeFixups_48 rfl (lv_at hl 2 rfl) ?_
    obtain ⟨r57, s56, h55, hf⟩ := bi_s hf
    refine goI Z (run_V (As := [.int x2]) (rest := []) X Z (c_X12_hasPointers l D h cy x2 s54 (r57, s56) h55 _) lk_RX12_267 ⟨by decide, by decide⟩ rv_68 rfl hl.1 rfl (Nat.le_of_ble_eq_true rfl) ⟨Nat.le_refl _, Nat.le_refl _⟩ dX12_writeFixups_49) (fun H locs Z => ?_)
    refine lv_if_ne (tgt := 58) hx hb dX12_writeFixups_52 (by decide) (fun c58 => ?_) (fun c58 => ?_)
    · have hf := itn c58 hf
      refine lv_aload_n hx hb dX12_writeFixups_58 rfl (lv_at hl 0 rfl) ?_
      refine lv_iconst (v := 4) hx hb dX12_writeFixups_59 (by decide) ?_
      obtain ⟨s60, h59, hf⟩ := bv_s hf
      refine goV Z (run_V (As := [.int (4 : Int32)]) (rest := []) X Z (c_X12_even l D h cy (4 : Int32) s56 s60 h59 _) lk_RX12_227 ⟨by decide, by decide⟩ rv_68 rfl hl.1 rfl (Nat.le_of_ble_eq_true rfl) ⟨Nat.le_refl _, Nat.le_refl _⟩ dX12_writeFixups_60) (fun H locs Z => ?_)
      refine lv_aload_n hx hb dX12_writeFixups_63 rfl (lv_at hl 0 rfl) ?_
      refine gf_RX12_83 X Z dX12_writeFixups_64 ?_
      refine lv_iload_n hx hb dX12_writeFixups_67 rfl (lv_at hl 2 rfl) ?_
      refine lv_aload_n hx hb dX12_writeFixups_68 rfl (lv_at hl 0 rfl) ?_
      refine gf_RX12_213 X Z dX12_writeFixups_69 ?_
      refine lv_iload_n hx hb dX12_writeFixups_72 rfl (lv_at hl 1 rfl) ?_
      refine lv_isub hx hb dX12_writeFixups_73 ?_
      obtain ⟨g61, hf⟩ := gd_s hf
      refine x_iast (k := 90) X Z sh_90 g61 dX12_writeFixups_74 (fun s62 H locs es62 Z => ?_)
      have hf := zn_e es62 hf
      refine lv_aload_n hx hb dX12_writeFixups_75 rfl (lv_at hl 0 rfl) ?_
      refine lv_iload_n hx hb dX12_writeFixups_76 rfl (lv_at hl 2 rfl) ?_
      obtain ⟨r65, s64, h63, hf⟩ := bi_s hf
      refine goI Z (run_V (As := [.int x2]) (rest := []) X Z (c_X12_spanOf l D h cy x2 s62 (r65, s64) h63 _) lk_RX12_220 ⟨by decide, by decide⟩ rv_68 rfl hl.1 rfl (Nat.le_of_ble_eq_true rfl) ⟨Nat.le_refl _, Nat.le_refl _⟩ dX12_writeFixups_77) (fun H locs Z => ?_)
      refine lv_aload_n hx hb dX12_writeFixups_80 rfl (lv_at hl 0 rfl) ?_
      refine gf_RX12_21 X Z dX12_writeFixups_81 ?_
      obtain ⟨g66, hf⟩ := gd_s hf
      refine lv_idiv hx hb dX12_writeFixups_84 g66 ?_
      refine lv_topi (fun v67 ev67 => ?_)
      have hf := zn_e ev67 hf
      refine lv_istore_n (lv' := [(3, .int v67), (0, .ref (h 68)), (1, .int x1), (2, .int x2)]) hx hb dX12_writeFixups_85 rfl hl (by decide) rfl (fun ls hl => ?_)
      refine lv_aload_n hx hb dX12_writeFixups_86 rfl (lv_at hl 1 rfl) ?_
      refine lv_bipush (v := 22) hx hb dX12_writeFixups_87 (by decide) ?_
      refine lv_iconst (v := 2) hx hb dX12_writeFixups_89 (by decide) ?_
      refine lv_iload_n hx hb dX12_writeFixups_90 rfl (lv_at hl 0 rfl) ?_
      refine lv_imul hx hb dX12_writeFixups_91 ?_
      refine lv_iadd hx hb dX12_writeFixups_92 ?_
      refine lv_i2l (v := (((22 : Int32) + ((2 : Int32) * v67))).toInt64) hx hb dX12_writeFixups_93 rfl ?_
      refine lv_iconst (v := 4) hx hb dX12_writeFixups_94 (by decide) ?_
      obtain ⟨s69, h68, hf⟩ := bv_s hf
      refine goV Z (run_V (As := [.long ((((22 : Int32) + ((2 : Int32) * v67))).toInt64), .int (4 : Int32)]) (rest := []) X Z (c_X12_put l D h cy ((((22 : Int32) + ((2 : Int32) * v67))).toInt64) (4 : Int32) s64 s69 h68 _) lk_RX12_216 ⟨by decide, by decide⟩ rv_68 rfl hl.1 rfl (Nat.le_of_ble_eq_true rfl) ⟨Nat.le_refl _, Nat.le_refl _⟩ dX12_writeFixups_95) (fun H locs Z => ?_)
      refine lv_aload_n hx hb dX12_writeFixups_98 rfl (lv_at hl 1 rfl) ?_
      refine lv_aload_n hx hb dX12_writeFixups_99 rfl (lv_at hl 1 rfl) ?_
      refine gf_RX12_21 X Z dX12_writeFixups_100 ?_
      refine lv_i2l (v := (s69.1 68 5).toInt64) hx hb dX12_writeFixups_103 rfl ?_
      refine lv_iconst (v := 2) hx hb dX12_writeFixups_104 (by decide) ?_
      obtain ⟨s71, h70, hf⟩ := bv_s hf
      refine goV Z (run_V (As := [.long ((s69.1 68 5).toInt64), .int (2 : Int32)]) (rest := []) X Z (c_X12_put l D h cy ((s69.1 68 5).toInt64) (2 : Int32) s69 s71 h70 _) lk_RX12_216 ⟨by decide, by decide⟩ rv_68 rfl hl.1 rfl (Nat.le_of_ble_eq_true rfl) ⟨Nat.le_refl _, Nat.le_refl _⟩ dX12_writeFixups_105) (fun H locs Z => ?_)
      refine lv_aload_n hx hb dX12_writeFixups_108 rfl (lv_at hl 1 rfl) ?_
      refine lv_ldc2 (v := 2) hx hb X.o (X.t _ kc_RX12_270) dX12_writeFixups_109 ?_
      refine lv_iconst (v := 2) hx hb dX12_writeFixups_112 (by decide) ?_
      obtain ⟨s73, h72, hf⟩ := bv_s hf
      refine goV Z (run_V (As := [.long (2 : Int64), .int (2 : Int32)]) (rest := []) X Z (c_X12_put l D h cy (2 : Int64) (2 : Int32) s71 s73 h72 _) lk_RX12_216 ⟨by decide, by decide⟩ rv_68 rfl hl.1 rfl (Nat.le_of_ble_eq_true rfl) ⟨Nat.le_refl _, Nat.le_refl _⟩ dX12_writeFixups_113) (fun H locs Z => ?_)
      refine lv_aload_n hx hb dX12_writeFixups_116 rfl (lv_at hl 1 rfl) ?_
      refine lv_aload_n hx hb dX12_writeFixups_117 rfl (lv_at hl 1 rfl) ?_
      refine lv_iload_n hx hb dX12_writeFixups_118 rfl (lv_at hl 3 rfl) ?_
      obtain ⟨r76, s75, h74, hf⟩ := bi_s hf
      refine goI Z (run_V (As := [.int x2]) (rest := [.ref (h 68)]) X Z (c_X12_addressOf l D h cy x2 s73 (r76, s75) h74 _) lk_RX12_238 ⟨by decide, by decide⟩ rv_68 rfl hl.1 rfl (Nat.le_of_ble_eq_true rfl) ⟨Nat.le_refl _, Nat.le_refl _⟩ dX12_writeFixups_119) (fun H locs Z => ?_)
      refine lv_aload_n hx hb dX12_writeFixups_122 rfl (lv_at hl 1 rfl) ?_
      refine gf_RX12_17 X Z dX12_writeFixups_123 ?_
      refine lv_isub hx hb dX12_writeFixups_126 ?_
      refine lv_i2l (v := ((r76 - (s75.1 68 4))).toInt64) hx hb dX12_writeFixups_127 rfl ?_
      refine lv_bipush (v := 8) hx hb dX12_writeFixups_128 (by decide) ?_
      obtain ⟨s78, h77, hf⟩ := bv_s hf
      refine goV Z (run_V (As := [.long (((r76 - (s75.1 68 4))).toInt64), .int (8 : Int32)]) (rest := []) X Z (c_X12_put l D h cy (((r76 - (s75.1 68 4))).toInt64) (8 : Int32) s75 s78 h77 _) lk_RX12_216 ⟨by decide, by decide⟩ rv_68 rfl hl.1 rfl (Nat.le_of_ble_eq_true rfl) ⟨Nat.le_refl _, Nat.le_refl _⟩ dX12_writeFixups_130) (fun H locs Z => ?_)
      refine lv_aload_n hx hb dX12_writeFixups_133 rfl (lv_at hl 1 rfl) ?_
      refine lv_lconst (v := 0) hx hb dX12_writeFixups_134 (by decide) ?_
      refine lv_iconst (v := 4) hx hb dX12_writeFixups_135 (by decide) ?_
      obtain ⟨s80, h79, hf⟩ := bv_s hf
      refine goV Z (run_V (As := [.long (0 : Int64), .int (4 : Int32)]) (rest := []) X Z (c_X12_put l D h cy (0 : Int64) (4 : Int32) s78 s80 h79 _) lk_RX12_216 ⟨by decide, by decide⟩ rv_68 rfl hl.1 rfl (Nat.le_of_ble_eq_true rfl) ⟨Nat.le_refl _, Nat.le_refl _⟩ dX12_writeFixups_136) (fun H locs Z => ?_)
      refine lv_aload_n hx hb dX12_writeFixups_139 rfl (lv_at hl 1 rfl) ?_
      refine lv_iload_n hx hb dX12_writeFixups_140 rfl (lv_at hl 0 rfl) ?_
      refine lv_i2l (v := v67.toInt64) hx hb dX12_writeFixups_141 rfl ?_
      refine lv_iconst (v := 2) hx hb dX12_writeFixups_142 (by decide) ?_
      obtain ⟨s82, h81, hf⟩ := bv_s hf
      refine goV Z (run_V (As := [.long v67.toInt64, .int (2 : Int32)]) (rest := []) X Z (c_X12_put l D h cy v67.toInt64 (2 : Int32) s80 s82 h81 _) lk_RX12_216 ⟨by decide, by decide⟩ rv_68 rfl hl.1 rfl (Nat.le_of_ble_eq_true rfl) ⟨Nat.le_refl _, Nat.le_refl _⟩ dX12_writeFixups_143) (fun H locs Z => ?_)
      refine lv_iconst (v := 0) hx hb dX12_writeFixups_146 (by decide) ?_
      refine lv_topi (fun v83 ev83 => ?_)
      have hf := zn_e ev83 hf
      refine lv_istore (lv' := [(4, .int v83), (3, .int v67), (0, .ref (h 68)), (1, .int x1), (2, .int x2)]) hx hb dX12_writeFixups_147 hl (by decide) rfl (fun ls hl => ?_)
      exact b_X12_writeFixups_149 X hr hk K32 hK32 x1 x2 v67 v83 s82 _ hf _ _ _ Z (lv_sub hl [2, 3, 4, 1, 0] rfl)
    · have hf := itp c58 hf
      refine lv_goto (tgt := 235) hx hb dX12_writeFixups_55 (by decide) ?_
      exact b_X12_writeFixups_235 X hr hk K32 hK32 x1 x2 s56 _ hf _ _ _ Z (lv_sub hl [0, 1, 2] rfl)

set_option maxRecDepth 100000 in
set_option maxHeartbeats 4000000 in
theorem b_X12_writeFixups_32 {p : Program} {l : Launch} {e : Env} {s : State} {m : MethodId} {args : Array Value} {below : List Frame} {meth : Method} {c : Code} {D : va_G} {h : Nat → Nat} {cy : Nat → ClassId} (X : Cx p s m args c D h cy RX12 cX12_writeFixups 7) (hr : meth.sig.returnType = none) (hk : meth.locks = false) (x1 : Int32) (x2 : Int32) (σ : St) (y : St) (hf : f_X12_writeFixups_32 x1 x2 σ = some y) : ∀ (H : Heap) (locs : List Loc) (ls : Array Slot), Zt D h cy s σ H locs → lv_has ls 7 [(0, .ref (h 68)), (1, .int x1), (2, .int x2)] → W p l e (rmz 2 52) s m args below meth c H locs 0 0 (EV below args s D h cy y) (F0 m 32 ls []) := by
  exact it_W (F := fun K a => f_X12_writeFixups_32b K a.1 a.2.1 a.2.2) (P := fun a y => ∀ (H : Heap) (locs : List Loc) (ls : Array Slot), Zt D h cy s a.2.2 H locs → lv_has ls 7 [(0, .ref (h 68)), (1, .int a.1), (2, .int a.2.1)] → W p l e (rmz 2 52) s m args below meth c H locs 0 0 (EV below args s D h cy y) (F0 m 32 ls [])) (fun K hK a y hf => b_X12_writeFixups_32b X hr hk K hK (a.1) (a.2.1) (a.2.2) y hf) FU _ y hf

set_option maxRecDepth 100000 in
set_option maxHeartbeats 4000000 in
theorem c_X12_writeFixups (l : Launch) (D : va_G) (h : Nat → Nat) (cy : Nat → ClassId) (σ : St) (y : St) (hf : f_X12_writeFixups σ = some y) : CV l yX12_writeFixups cX12_writeFixups 7 none 2 52 D h cy [.ref (h 68)] σ y := by
  refine ent (Qc := fun sz => QV D h cy sz y) (by decide) (Nat.le_of_ble_eq_true rfl) ?_
  intro p e s m below meth c ls X Z hr hk hl
  have X : Cx p s m _ c D h cy RX12 cX12_writeFixups 7 := X
  have hx := X.x
  have hb := X.b
  have hl : lv_has ls 7 [(0, .ref (h 68))] := hl
  unfold f_X12_writeFixups at hf
  refine lv_aload_n hx hb dX12_writeFixups_0 rfl (lv_at hl 0 rfl) ?_
  refine lv_aload_n hx hb dX12_writeFixups_1 rfl (lv_at hl 0 rfl) ?_
  refine gf_RX12_213 X Z dX12_writeFixups_2 ?_
  refine pf_RX12_264 X Z dX12_writeFixups_5 (fun s1 H locs es1 Z => ?_)
  have hf := zn_e es1 hf
  refine lv_aload_n hx hb dX12_writeFixups_8 rfl (lv_at hl 0 rfl) ?_
  refine gf_RX12_213 X Z dX12_writeFixups_9 ?_
  refine lv_bipush (v := 28) hx hb dX12_writeFixups_12 (by decide) ?_
  refine lv_iadd hx hb dX12_writeFixups_14 ?_
  refine lv_topi (fun v2 ev2 => ?_)
  have hf := zn_e ev2 hf
  refine lv_istore_n (lv' := [(1, .int v2), (0, .ref (h 68))]) hx hb dX12_writeFixups_15 rfl hl (by decide) rfl (fun ls hl => ?_)
  refine lv_aload_n hx hb dX12_writeFixups_16 rfl (lv_at hl 1 rfl) ?_
  refine lv_iload_n hx hb dX12_writeFixups_17 rfl (lv_at hl 0 rfl) ?_
  refine lv_iconst (v := 4) hx hb dX12_writeFixups_18 (by decide) ?_
  refine lv_iadd hx hb dX12_writeFixups_19 ?_
  refine lv_iconst (v := 4) hx hb dX12_writeFixups_20 (by decide) ?_
  refine lv_aload_n hx hb dX12_writeFixups_21 rfl (lv_at hl 1 rfl) ?_
  refine gf_RX12_174 X Z dX12_writeFixups_22 ?_
  refine lv_imul hx hb dX12_writeFixups_25 ?_
  refine lv_iadd hx hb dX12_writeFixups_26 ?_
  refine pf_RX12_213 X Z dX12_writeFixups_27 (fun s3 H locs es3 Z => ?_)
  have hf := zn_e es3 hf
  refine lv_iconst (v := 0) hx hb dX12_writeFixups_30 (by decide) ?_
  refine lv_topi (fun v4 ev4 => ?_)
  have hf := zn_e ev4 hf
  refine lv_istore_n (lv' := [(2, .int v4), (1, .int v2), (0, .ref (h 68))]) hx hb dX12_writeFixups_31 rfl hl (by decide) rfl (fun ls hl => ?_)
  exact b_X12_writeFixups_32 X hr hk v2 v4 s3 _ hf _ _ _ Z (lv_sub hl [2, 1, 0] rfl)

set_option maxRecDepth 100000 in
set_option maxHeartbeats 4000000 in
theorem b_X12_writePointers_137 {p : Program} {l : Launch} {e : Env} {s : State} {m : MethodId} {args : Array Value} {below : List Frame} {meth : Method} {c : Code} {D : va_G} {h : Nat → Nat} {cy : Nat → ClassId} (X : Cx p s m args c D h cy RX12 cX12_writePointers 5) (hr : meth.sig.returnType = none) (hk : meth.locks = false) (K2 : (Int32 × St) → Option (St)) (hK2 : ∀ (a : Int32 × St) (y : St), K2 a = some y → ∀ (H : Heap) (locs : List Loc) (ls : Array Slot), Zt D h cy s a.2 H locs → lv_has ls 5 [(0, .ref (h 68)), (1, .int a.1)] → W p l e (rmz 1 24) s m args below meth c H locs 0 0 (EV below args s D h cy y) (F0 m 2 ls [])) (x1 : Int32) (x3 : Int64) (σ : St) (y : St) (hf : f_X12_writePointers_137 K2 x1 x3 σ = some y) : ∀ (H : Heap) (locs : List Loc) (ls : Array Slot), Zt D h cy s σ H locs → lv_has ls 5 [(0, .ref (h 68)), (1, .int x1), (3, .long x3)] → W p l e (rmz 1 24) s m args below meth c H locs 0 0 (EV below args s D h cy y) (F0 m 137 ls []) := by
  intro H locs ls Z hl
  have hx := X.x
  have hb := X.b
  unfold f_X12_writePointers_137 at hf
  refine lv_aload_n hx hb dX12_writePointers_137 rfl (lv_at hl 0 rfl) ?_
  refine lv_aload_n hx hb dX12_writePointers_138 rfl (lv_at hl 0 rfl) ?_
  refine gf_RX12_80 X Z dX12_writePointers_139 ?_
  refine lv_aload_n hx hb dX12_writePointers_142 rfl (lv_at hl 0 rfl) ?_
  refine gf_RX12_55 X Z dX12_writePointers_143 ?_
  refine lv_iload_n hx hb dX12_writePointers_146 rfl (lv_at hl 1 rfl) ?_
  obtain ⟨g12, hf⟩ := gd_s hf
  refine x_iald (k := 81) X Z sh_81 g12 dX12_writePointers_147 ?_
  obtain ⟨g13, hf⟩ := gd_s hf
  refine x_iald (k := 89) X Z sh_89 g13 dX12_writePointers_148 ?_
  refine lv_aload_n hx hb dX12_writePointers_149 rfl (lv_at hl 0 rfl) ?_
  refine gf_RX12_58 X Z dX12_writePointers_150 ?_
  refine lv_iload_n hx hb dX12_writePointers_153 rfl (lv_at hl 1 rfl) ?_
  obtain ⟨g14, hf⟩ := gd_s hf
  refine x_iald (k := 82) X Z sh_82 g14 dX12_writePointers_154 ?_
  refine lv_iadd hx hb dX12_writePointers_155 ?_
  refine pf_RX12_213 X Z dX12_writePointers_156 (fun s15 H locs es15 Z => ?_)
  have hf := zn_e es15 hf
  refine lv_aload_n hx hb dX12_writePointers_159 rfl (lv_at hl 0 rfl) ?_
  refine lv_lload_n hx hb dX12_writePointers_160 rfl (lv_at hl 2 rfl) ?_
  refine lv_bipush (v := 8) hx hb dX12_writePointers_161 (by decide) ?_
  obtain ⟨s17, h16, hf⟩ := bv_s hf
  refine goV Z (run_V (As := [.long x3, .int (8 : Int32)]) (rest := []) X Z (c_X12_put l D h cy x3 (8 : Int32) s15 s17 h16 _) lk_RX12_216 ⟨by decide, by decide⟩ rv_68 rfl hl.1 rfl (Nat.le_of_ble_eq_true rfl) ⟨Nat.le_refl _, Nat.le_refl _⟩ dX12_writePointers_163) (fun H locs Z => ?_)
  obtain ⟨v18, ev18⟩ : ∃ z : Int32, z = x1 + 1 := ⟨_, rfl⟩
  have hf := zn_e ev18 hf
  refine lv_iinc (v := v18) (lv' := [(1, .int v18), (0, .ref (h 68)), (3, .long x3)]) hx hb dX12_writePointers_166 hl (k := 1) rfl (by rw [ev18]; rfl) (by decide) rfl (fun ls hl => ?_)
  refine lv_goto (tgt := 2) hx hb dX12_writePointers_169 (by decide) ?_
  exact hK2 (v18, s17) _ hf _ _ _ Z (lv_sub hl [1, 0] rfl)

set_option maxRecDepth 100000 in
set_option maxHeartbeats 4000000 in
theorem b_X12_writePointers_113 {p : Program} {l : Launch} {e : Env} {s : State} {m : MethodId} {args : Array Value} {below : List Frame} {meth : Method} {c : Code} {D : va_G} {h : Nat → Nat} {cy : Nat → ClassId} (X : Cx p s m args c D h cy RX12 cX12_writePointers 5) (hr : meth.sig.returnType = none) (hk : meth.locks = false) (K2 : (Int32 × St) → Option (St)) (hK2 : ∀ (a : Int32 × St) (y : St), K2 a = some y → ∀ (H : Heap) (locs : List Loc) (ls : Array Slot), Zt D h cy s a.2 H locs → lv_has ls 5 [(0, .ref (h 68)), (1, .int a.1)] → W p l e (rmz 1 24) s m args below meth c H locs 0 0 (EV below args s D h cy y) (F0 m 2 ls [])) (x1 : Int32) (x2 : Int32) (t0 : Int32) (t1 : Int64) (t2 : Int64) (σ : St) (y : St) (hf : f_X12_writePointers_113 K2 x1 x2 t0 t1 t2 σ = some y) : ∀ (H : Heap) (locs : List Loc) (ls : Array Slot), Zt D h cy s σ H locs → lv_has ls 5 [(0, .ref (h 68)), (1, .int x1), (2, .int x2)] → W p l e (rmz 1 24) s m args below meth c H locs 0 0 (EV below args s D h cy y) (F0 m 113 ls [.int t0, .long t1, .long t2]) := by
  intro H locs ls Z hl
  have hx := X.x
  have hb := X.b
  unfold f_X12_writePointers_113 at hf
  refine lv_lshl (v := zlshl t1 t0) hx hb dX12_writePointers_113 rfl ?_
  refine lv_lor hx hb dX12_writePointers_114 ?_
  refine lv_iload_n hx hb dX12_writePointers_115 rfl (lv_at hl 2 rfl) ?_
  refine lv_i2l (v := x2.toInt64) hx hb dX12_writePointers_116 rfl ?_
  refine lv_bipush (v := 51) hx hb dX12_writePointers_117 (by decide) ?_
  refine lv_lshl (v := zlshl x2.toInt64 (51 : Int32)) hx hb dX12_writePointers_119 rfl ?_
  refine lv_lor hx hb dX12_writePointers_120 ?_
  refine lv_topl (fun v9 ev9 => ?_)
  have hf := zn_e ev9 hf
  refine lv_lstore_n (lv' := [(3, .long v9), (0, .ref (h 68)), (1, .int x1), (2, .int x2)]) hx hb dX12_writePointers_121 rfl hl (by decide) rfl (fun ls hl => ?_)
  refine lv_aload_n hx hb dX12_writePointers_122 rfl (lv_at hl 1 rfl) ?_
  refine gf_RX12_68 X Z dX12_writePointers_123 ?_
  refine lv_iload_n hx hb dX12_writePointers_126 rfl (lv_at hl 2 rfl) ?_
  obtain ⟨g10, hf⟩ := gd_s hf
  refine x_zald (k := 85) X Z sh_85 g10 dX12_writePointers_127 ?_
  refine lv_if_eq (tgt := 137) hx hb dX12_writePointers_128 (by decide) (fun c11 => ?_) (fun c11 => ?_)
  · have hf := itp c11 hf
    exact b_X12_writePointers_137 X hr hk K2 hK2 x1 v9 σ _ hf _ _ _ Z (lv_sub hl [1, 2, 0] rfl)
  · have hf := itn c11 hf
    refine lv_lload_n hx hb dX12_writePointers_131 rfl (lv_at hl 0 rfl) ?_
    refine lv_ldc2 (v := (-9223372036854775808)) hx hb X.o (X.t _ kc_RX12_262) dX12_writePointers_132 ?_
    refine lv_lor hx hb dX12_writePointers_135 ?_
    refine lv_topl (fun v19 ev19 => ?_)
    have hf := zn_e ev19 hf
    refine lv_lstore_n (lv' := [(3, .long v19), (0, .ref (h 68)), (1, .int x1), (2, .int x2)]) hx hb dX12_writePointers_136 rfl hl (by decide) rfl (fun ls hl => ?_)
    exact b_X12_writePointers_137 X hr hk K2 hK2 x1 v19 σ _ hf _ _ _ Z (lv_sub hl [1, 2, 0] rfl)

set_option maxRecDepth 100000 in
set_option maxHeartbeats 4000000 in
theorem b_X12_writePointers_84 {p : Program} {l : Launch} {e : Env} {s : State} {m : MethodId} {args : Array Value} {below : List Frame} {meth : Method} {c : Code} {D : va_G} {h : Nat → Nat} {cy : Nat → ClassId} (X : Cx p s m args c D h cy RX12 cX12_writePointers 5) (hr : meth.sig.returnType = none) (hk : meth.locks = false) (K2 : (Int32 × St) → Option (St)) (hK2 : ∀ (a : Int32 × St) (y : St), K2 a = some y → ∀ (H : Heap) (locs : List Loc) (ls : Array Slot), Zt D h cy s a.2 H locs → lv_has ls 5 [(0, .ref (h 68)), (1, .int a.1)] → W p l e (rmz 1 24) s m args below meth c H locs 0 0 (EV below args s D h cy y) (F0 m 2 ls [])) (x1 : Int32) (x2 : Int32) (σ : St) (y : St) (hf : f_X12_writePointers_84 K2 x1 x2 σ = some y) : ∀ (H : Heap) (locs : List Loc) (ls : Array Slot), Zt D h cy s σ H locs → lv_has ls 5 [(0, .ref (h 68)), (1, .int x1), (2, .int x2)] → W p l e (rmz 1 24) s m args below meth c H locs 0 0 (EV below args s D h cy y) (F0 m 84 ls []) := by
  intro H locs ls Z hl
  have hx := X.x
  have hb := X.b
  unfold f_X12_writePointers_84 at hf
  refine lv_aload_n hx hb dX12_writePointers_84 rfl (lv_at hl 0 rfl) ?_
  refine gf_RX12_64 X Z dX12_writePointers_85 ?_
  refine lv_iload_n hx hb dX12_writePointers_88 rfl (lv_at hl 1 rfl) ?_
  obtain ⟨g5, hf⟩ := gd_s hf
  refine x_lald (k := 84) X Z sh_84 g5 dX12_writePointers_89 ?_
  refine lv_aload_n hx hb dX12_writePointers_90 rfl (lv_at hl 0 rfl) ?_
  refine gf_RX12_61 X Z dX12_writePointers_91 ?_
  refine lv_iload_n hx hb dX12_writePointers_94 rfl (lv_at hl 1 rfl) ?_
  obtain ⟨g6, hf⟩ := gd_s hf
  refine x_iald (k := 83) X Z sh_83 g6 dX12_writePointers_95 ?_
  refine lv_i2l (v := (σ.1 83 x1.toNatClampNeg).toInt64) hx hb dX12_writePointers_96 rfl ?_
  refine lv_aload_n hx hb dX12_writePointers_97 rfl (lv_at hl 0 rfl) ?_
  refine gf_RX12_68 X Z dX12_writePointers_98 ?_
  refine lv_iload_n hx hb dX12_writePointers_101 rfl (lv_at hl 1 rfl) ?_
  obtain ⟨g7, hf⟩ := gd_s hf
  refine x_zald (k := 85) X Z sh_85 g7 dX12_writePointers_102 ?_
  refine lv_if_eq (tgt := 111) hx hb dX12_writePointers_103 (by decide) (fun c8 => ?_) (fun c8 => ?_)
  · have hf := itp c8 hf
    refine lv_bipush (v := 36) hx hb dX12_writePointers_111 (by decide) ?_
    exact b_X12_writePointers_113 X hr hk K2 hK2 x1 x2 (36 : Int32) ((σ.1 83 x1.toNatClampNeg).toInt64) (σ.2 84 x1.toNatClampNeg) σ _ hf _ _ _ Z (lv_sub hl [0, 1, 2] rfl)
  · have hf := itn c8 hf
    refine lv_bipush (v := 24) hx hb dX12_writePointers_106 (by decide) ?_
    refine lv_goto (tgt := 113) hx hb dX12_writePointers_108 (by decide) ?_
    exact b_X12_writePointers_113 X hr hk K2 hK2 x1 x2 (24 : Int32) ((σ.1 83 x1.toNatClampNeg).toInt64) (σ.2 84 x1.toNatClampNeg) σ _ hf _ _ _ Z (lv_sub hl [0, 1, 2] rfl)

set_option maxRecDepth 100000 in
set_option maxHeartbeats 4000000 in
theorem b_X12_writePointers_2b {p : Program} {l : Launch} {e : Env} {s : State} {m : MethodId} {args : Array Value} {below : List Frame} {meth : Method} {c : Code} {D : va_G} {h : Nat → Nat} {cy : Nat → ClassId} (X : Cx p s m args c D h cy RX12 cX12_writePointers 5) (hr : meth.sig.returnType = none) (hk : meth.locks = false) (K2 : (Int32 × St) → Option (St)) (hK2 : ∀ (a : Int32 × St) (y : St), K2 a = some y → ∀ (H : Heap) (locs : List Loc) (ls : Array Slot), Zt D h cy s a.2 H locs → lv_has ls 5 [(0, .ref (h 68)), (1, .int a.1)] → W p l e (rmz 1 24) s m args below meth c H locs 0 0 (EV below args s D h cy y) (F0 m 2 ls [])) (x1 : Int32) (σ : St) (y : St) (hf : f_X12_writePointers_2b K2 x1 σ = some y) : ∀ (H : Heap) (locs : List Loc) (ls : Array Slot), Zt D h cy s σ H locs → lv_has ls 5 [(0, .ref (h 68)), (1, .int x1)] → W p l e (rmz 1 24) s m args below meth c H locs 0 0 (EV below args s D h cy y) (F0 m 2 ls []) := by
  intro H locs ls Z hl
  have hx := X.x
  have hb := X.b
  unfold f_X12_writePointers_2b at hf
  refine lv_iload_n hx hb dX12_writePointers_2 rfl (lv_at hl 1 rfl) ?_
  refine lv_aload_n hx hb dX12_writePointers_3 rfl (lv_at hl 0 rfl) ?_
  refine gf_RX12_186 X Z dX12_writePointers_4 ?_
  refine lv_icmp_ge (tgt := 172) hx hb dX12_writePointers_7 (by decide) (fun c2 => ?_) (fun c2 => ?_)
  · have hf := itp c2 hf
    exact retV X hr hk Z hf dX12_writePointers_172
  · have hf := itn c2 hf
    refine lv_iconst (v := 0) hx hb dX12_writePointers_10 (by decide) ?_
    refine lv_topi (fun v3 ev3 => ?_)
    have hf := zn_e ev3 hf
    refine lv_istore_n (lv' := [(2, .int v3), (0, .ref (h 68)), (1, .int x1)]) hx hb dX12_writePointers_11 rfl hl (by decide) rfl (fun ls hl => ?_)
    refine lv_iload_n hx hb dX12_writePointers_12 rfl (lv_at hl 2 rfl) ?_
    refine lv_iconst (v := 1) hx hb dX12_writePointers_13 (by decide) ?_
    refine lv_iadd hx hb dX12_writePointers_14 ?_
    refine lv_aload_n hx hb dX12_writePointers_15 rfl (lv_at hl 1 rfl) ?_
    refine gf_RX12_186 X Z dX12_writePointers_16 ?_
    refine lv_icmp_ge (tgt := 84) hx hb dX12_writePointers_19 (by decide) (fun c4 => ?_) (fun c4 => ?_)
    · have hf := itp c4 hf
      exact b_X12_writePointers_84 X hr hk K2 hK2 x1 v3 σ _ hf _ _ _ Z (lv_sub hl [1, 2, 0] rfl)
    · have hf := itn c4 hf
      refine lv_aload_n hx hb dX12_writePointers_22 rfl (lv_at hl 1 rfl) ?_
      refine gf_RX12_55 X Z dX12_writePointers_23 ?_
      refine lv_iload_n hx hb dX12_writePointers_26 rfl (lv_at hl 2 rfl) ?_
      refine lv_iconst (v := 1) hx hb dX12_writePointers_27 (by decide) ?_
      refine lv_iadd hx hb dX12_writePointers_28 ?_
      obtain ⟨g20, hf⟩ := gd_s hf
      refine x_iald (k := 81) X Z sh_81 g20 dX12_writePointers_29 ?_
      refine lv_aload_n hx hb dX12_writePointers_30 rfl (lv_at hl 1 rfl) ?_
      refine gf_RX12_55 X Z dX12_writePointers_31 ?_
      refine lv_iload_n hx hb dX12_writePointers_34 rfl (lv_at hl 2 rfl) ?_
      obtain ⟨g21, hf⟩ := gd_s hf
      refine x_iald (k := 81) X Z sh_81 g21 dX12_writePointers_35 ?_
      refine lv_icmp_ne (tgt := 84) hx hb dX12_writePointers_36 (by decide) (fun c22 => ?_) (fun c22 => ?_)
      · have hf := itn c22 hf
        exact b_X12_writePointers_84 X hr hk K2 hK2 x1 v3 σ _ hf _ _ _ Z (lv_sub hl [1, 2, 0] rfl)
      · have hf := itp c22 hf
        refine lv_aload_n hx hb dX12_writePointers_39 rfl (lv_at hl 1 rfl) ?_
        refine gf_RX12_58 X Z dX12_writePointers_40 ?_
        refine lv_iload_n hx hb dX12_writePointers_43 rfl (lv_at hl 2 rfl) ?_
        refine lv_iconst (v := 1) hx hb dX12_writePointers_44 (by decide) ?_
        refine lv_iadd hx hb dX12_writePointers_45 ?_
        obtain ⟨g23, hf⟩ := gd_s hf
        refine x_iald (k := 82) X Z sh_82 g23 dX12_writePointers_46 ?_
        refine lv_aload_n hx hb dX12_writePointers_47 rfl (lv_at hl 1 rfl) ?_
        refine gf_RX12_21 X Z dX12_writePointers_48 ?_
        obtain ⟨g24, hf⟩ := gd_s hf
        refine lv_idiv hx hb dX12_writePointers_51 g24 ?_
        refine lv_aload_n hx hb dX12_writePointers_52 rfl (lv_at hl 1 rfl) ?_
        refine gf_RX12_58 X Z dX12_writePointers_53 ?_
        refine lv_iload_n hx hb dX12_writePointers_56 rfl (lv_at hl 2 rfl) ?_
        obtain ⟨g25, hf⟩ := gd_s hf
        refine x_iald (k := 82) X Z sh_82 g25 dX12_writePointers_57 ?_
        refine lv_aload_n hx hb dX12_writePointers_58 rfl (lv_at hl 1 rfl) ?_
        refine gf_RX12_21 X Z dX12_writePointers_59 ?_
        obtain ⟨g26, hf⟩ := gd_s hf
        refine lv_idiv hx hb dX12_writePointers_62 g26 ?_
        refine lv_icmp_ne (tgt := 84) hx hb dX12_writePointers_63 (by decide) (fun c27 => ?_) (fun c27 => ?_)
        · have hf := itn c27 hf
          exact b_X12_writePointers_84 X hr hk K2 hK2 x1 v3 σ _ hf _ _ _ Z (lv_sub hl [1, 2, 0] rfl)
        · have hf := itp c27 hf
          refine lv_aload_n hx hb dX12_writePointers_66 rfl (lv_at hl 1 rfl) ?_
          refine gf_RX12_58 X Z dX12_writePointers_67 ?_
          refine lv_iload_n hx hb dX12_writePointers_70 rfl (lv_at hl 2 rfl) ?_
          refine lv_iconst (v := 1) hx hb dX12_writePointers_71 (by decide) ?_
          refine lv_iadd hx hb dX12_writePointers_72 ?_
          obtain ⟨g28, hf⟩ := gd_s hf
          refine x_iald (k := 82) X Z sh_82 g28 dX12_writePointers_73 ?_
          refine lv_aload_n hx hb dX12_writePointers_74 rfl (lv_at hl 1 rfl) ?_
          refine gf_RX12_58 X Z dX12_writePointers_75 ?_
          refine lv_iload_n hx hb dX12_writePointers_78 rfl (lv_at hl 2 rfl) ?_
          obtain ⟨g29, hf⟩ := gd_s hf
          refine x_iald (k := 82) X Z sh_82 g29 dX12_writePointers_79 ?_
          refine lv_isub hx hb dX12_writePointers_80 ?_
          refine lv_iconst (v := 4) hx hb dX12_writePointers_81 (by decide) ?_
          refine lv_idiv hx hb dX12_writePointers_82 (by decide) ?_
          refine lv_topi (fun v30 ev30 => ?_)
          have hf := zn_e ev30 hf
          refine lv_istore_n (lv' := [(2, .int v30), (0, .ref (h 68)), (1, .int x1)]) hx hb dX12_writePointers_83 rfl hl (by decide) rfl (fun ls hl => ?_)
          exact b_X12_writePointers_84 X hr hk K2 hK2 x1 v30 σ _ hf _ _ _ Z (lv_sub hl [1, 2, 0] rfl)

set_option maxRecDepth 100000 in
set_option maxHeartbeats 4000000 in
theorem b_X12_writePointers_2 {p : Program} {l : Launch} {e : Env} {s : State} {m : MethodId} {args : Array Value} {below : List Frame} {meth : Method} {c : Code} {D : va_G} {h : Nat → Nat} {cy : Nat → ClassId} (X : Cx p s m args c D h cy RX12 cX12_writePointers 5) (hr : meth.sig.returnType = none) (hk : meth.locks = false) (x1 : Int32) (σ : St) (y : St) (hf : f_X12_writePointers_2 x1 σ = some y) : ∀ (H : Heap) (locs : List Loc) (ls : Array Slot), Zt D h cy s σ H locs → lv_has ls 5 [(0, .ref (h 68)), (1, .int x1)] → W p l e (rmz 1 24) s m args below meth c H locs 0 0 (EV below args s D h cy y) (F0 m 2 ls []) := by
  exact it_W (F := fun K a => f_X12_writePointers_2b K a.1 a.2) (P := fun a y => ∀ (H : Heap) (locs : List Loc) (ls : Array Slot), Zt D h cy s a.2 H locs → lv_has ls 5 [(0, .ref (h 68)), (1, .int a.1)] → W p l e (rmz 1 24) s m args below meth c H locs 0 0 (EV below args s D h cy y) (F0 m 2 ls [])) (fun K hK a y hf => b_X12_writePointers_2b X hr hk K hK (a.1) (a.2) y hf) FU _ y hf

set_option maxRecDepth 100000 in
set_option maxHeartbeats 4000000 in
theorem c_X12_writePointers (l : Launch) (D : va_G) (h : Nat → Nat) (cy : Nat → ClassId) (σ : St) (y : St) (hf : f_X12_writePointers σ = some y) : CV l yX12_writePointers cX12_writePointers 5 none 1 24 D h cy [.ref (h 68)] σ y := by
  refine ent (Qc := fun sz => QV D h cy sz y) (by decide) (Nat.le_of_ble_eq_true rfl) ?_
  intro p e s m below meth c ls X Z hr hk hl
  have X : Cx p s m _ c D h cy RX12 cX12_writePointers 5 := X
  have hx := X.x
  have hb := X.b
  have hl : lv_has ls 5 [(0, .ref (h 68))] := hl
  unfold f_X12_writePointers at hf
  refine lv_iconst (v := 0) hx hb dX12_writePointers_0 (by decide) ?_
  refine lv_topi (fun v1 ev1 => ?_)
  have hf := zn_e ev1 hf
  refine lv_istore_n (lv' := [(1, .int v1), (0, .ref (h 68))]) hx hb dX12_writePointers_1 rfl hl (by decide) rfl (fun ls hl => ?_)
  exact b_X12_writePointers_2 X hr hk v1 σ _ hf _ _ _ Z (lv_sub hl [1, 0] rfl)

set_option maxRecDepth 100000 in
set_option maxHeartbeats 4000000 in
theorem b_X12_writeCommands_261 {p : Program} {l : Launch} {e : Env} {s : State} {m : MethodId} {args : Array Value} {below : List Frame} {meth : Method} {c : Code} {D : va_G} {h : Nat → Nat} {cy : Nat → ClassId} (X : Cx p s m args c D h cy RX12 cX12_writeCommands 6) (hr : meth.sig.returnType = none) (hk : meth.locks = false) (K145 : (Int32 × Int32 × St) → Option (St)) (hK145 : ∀ (a : Int32 × Int32 × St) (y : St), K145 a = some y → ∀ (H : Heap) (locs : List Loc) (ls : Array Slot), Zt D h cy s a.2.2 H locs → lv_has ls 6 [(0, .ref (h 68)), (2, .int a.1), (4, .int a.2.1)] → W p l e (rmz 2 52) s m args below meth c H locs 0 0 (EV below args s D h cy y) (F0 m 145 ls [])) (x2 : Int32) (x4 : Int32) (σ : St) (y : St) (hf : f_X12_writeCommands_261 K145 x2 x4 σ = some y) : ∀ (H : Heap) (locs : List Loc) (ls : Array Slot), Zt D h cy s σ H locs → lv_has ls 6 [(0, .ref (h 68)), (2, .int x2), (4, .int x4)] → W p l e (rmz 2 52) s m args below meth c H locs 0 0 (EV below args s D h cy y) (F0 m 261 ls []) := by
  intro H locs ls Z hl
  have hx := X.x
  have hb := X.b
  unfold f_X12_writeCommands_261 at hf
  obtain ⟨v67, ev67⟩ : ∃ z : Int32, z = x4 + 1 := ⟨_, rfl⟩
  have hf := zn_e ev67 hf
  refine lv_iinc (v := v67) (lv' := [(4, .int v67), (0, .ref (h 68)), (2, .int x2)]) hx hb dX12_writeCommands_261 hl (k := 2) rfl (by rw [ev67]; rfl) (by decide) rfl (fun ls hl => ?_)
  refine lv_goto (tgt := 145) hx hb dX12_writeCommands_264 (by decide) ?_
  exact hK145 (x2, v67, σ) _ hf _ _ _ Z (lv_sub hl [1, 2, 0] rfl)

set_option maxRecDepth 100000 in
set_option maxHeartbeats 4000000 in
theorem b_X12_writeCommands_242b {p : Program} {l : Launch} {e : Env} {s : State} {m : MethodId} {args : Array Value} {below : List Frame} {meth : Method} {c : Code} {D : va_G} {h : Nat → Nat} {cy : Nat → ClassId} (X : Cx p s m args c D h cy RX12 cX12_writeCommands 6) (hr : meth.sig.returnType = none) (hk : meth.locks = false) (K145 : (Int32 × Int32 × St) → Option (St)) (hK145 : ∀ (a : Int32 × Int32 × St) (y : St), K145 a = some y → ∀ (H : Heap) (locs : List Loc) (ls : Array Slot), Zt D h cy s a.2.2 H locs → lv_has ls 6 [(0, .ref (h 68)), (2, .int a.1), (4, .int a.2.1)] → W p l e (rmz 2 52) s m args below meth c H locs 0 0 (EV below args s D h cy y) (F0 m 145 ls [])) (K242 : (Int32 × Int32 × Int32 × St) → Option (St)) (hK242 : ∀ (a : Int32 × Int32 × Int32 × St) (y : St), K242 a = some y → ∀ (H : Heap) (locs : List Loc) (ls : Array Slot), Zt D h cy s a.2.2.2 H locs → lv_has ls 6 [(0, .ref (h 68)), (2, .int a.1), (4, .int a.2.1), (5, .int a.2.2.1)] → W p l e (rmz 2 52) s m args below meth c H locs 0 0 (EV below args s D h cy y) (F0 m 242 ls [])) (x2 : Int32) (x4 : Int32) (x5 : Int32) (σ : St) (y : St) (hf : f_X12_writeCommands_242b K145 K242 x2 x4 x5 σ = some y) : ∀ (H : Heap) (locs : List Loc) (ls : Array Slot), Zt D h cy s σ H locs → lv_has ls 6 [(0, .ref (h 68)), (2, .int x2), (4, .int x4), (5, .int x5)] → W p l e (rmz 2 52) s m args below meth c H locs 0 0 (EV below args s D h cy y) (F0 m 242 ls []) := by
  intro H locs ls Z hl
  have hx := X.x
  have hb := X.b
  unfold f_X12_writeCommands_242b at hf
  refine lv_iload hx hb dX12_writeCommands_242 (lv_at hl 3 rfl) ?_
  refine lv_bipush (v := 7) hx hb dX12_writeCommands_244 (by decide) ?_
  refine lv_icmp_ge (tgt := 261) hx hb dX12_writeCommands_246 (by decide) (fun c66 => ?_) (fun c66 => ?_)
  · have hf := itp c66 hf
    exact b_X12_writeCommands_261 X hr hk K145 hK145 x2 x4 σ _ hf _ _ _ Z (lv_sub hl [0, 1, 2] rfl)
  · have hf := itn c66 hf
    refine lv_aload_n hx hb dX12_writeCommands_249 rfl (lv_at hl 0 rfl) ?_
    refine lv_lconst (v := 0) hx hb dX12_writeCommands_250 (by decide) ?_
    refine lv_iconst (v := 4) hx hb dX12_writeCommands_251 (by decide) ?_
    obtain ⟨s69, h68, hf⟩ := bv_s hf
    refine goV Z (run_V (As := [.long (0 : Int64), .int (4 : Int32)]) (rest := []) X Z (c_X12_put l D h cy (0 : Int64) (4 : Int32) σ s69 h68 _) lk_RX12_216 ⟨by decide, by decide⟩ rv_68 rfl hl.1 rfl (Nat.le_of_ble_eq_true rfl) ⟨Nat.le_refl _, Nat.le_refl _⟩ dX12_writeCommands_252) (fun H locs Z => ?_)
    obtain ⟨v70, ev70⟩ : ∃ z : Int32, z = x5 + 1 := ⟨_, rfl⟩
    have hf := zn_e ev70 hf
    refine lv_iinc (v := v70) (lv' := [(5, .int v70), (0, .ref (h 68)), (2, .int x2), (4, .int x4)]) hx hb dX12_writeCommands_255 hl (k := 3) rfl (by rw [ev70]; rfl) (by decide) rfl (fun ls hl => ?_)
    refine lv_goto (tgt := 242) hx hb dX12_writeCommands_258 (by decide) ?_
    exact hK242 (x2, x4, v70, s69) _ hf _ _ _ Z (lv_sub hl [1, 2, 3, 0] rfl)

set_option maxRecDepth 100000 in
set_option maxHeartbeats 4000000 in
theorem b_X12_writeCommands_242 {p : Program} {l : Launch} {e : Env} {s : State} {m : MethodId} {args : Array Value} {below : List Frame} {meth : Method} {c : Code} {D : va_G} {h : Nat → Nat} {cy : Nat → ClassId} (X : Cx p s m args c D h cy RX12 cX12_writeCommands 6) (hr : meth.sig.returnType = none) (hk : meth.locks = false) (K145 : (Int32 × Int32 × St) → Option (St)) (hK145 : ∀ (a : Int32 × Int32 × St) (y : St), K145 a = some y → ∀ (H : Heap) (locs : List Loc) (ls : Array Slot), Zt D h cy s a.2.2 H locs → lv_has ls 6 [(0, .ref (h 68)), (2, .int a.1), (4, .int a.2.1)] → W p l e (rmz 2 52) s m args below meth c H locs 0 0 (EV below args s D h cy y) (F0 m 145 ls [])) (x2 : Int32) (x4 : Int32) (x5 : Int32) (σ : St) (y : St) (hf : f_X12_writeCommands_242 K145 x2 x4 x5 σ = some y) : ∀ (H : Heap) (locs : List Loc) (ls : Array Slot), Zt D h cy s σ H locs → lv_has ls 6 [(0, .ref (h 68)), (2, .int x2), (4, .int x4), (5, .int x5)] → W p l e (rmz 2 52) s m args below meth c H locs 0 0 (EV below args s D h cy y) (F0 m 242 ls []) := by
  exact it_W (F := fun K a => f_X12_writeCommands_242b K145 K a.1 a.2.1 a.2.2.1 a.2.2.2) (P := fun a y => ∀ (H : Heap) (locs : List Loc) (ls : Array Slot), Zt D h cy s a.2.2.2 H locs → lv_has ls 6 [(0, .ref (h 68)), (2, .int a.1), (4, .int a.2.1), (5, .int a.2.2.1)] → W p l e (rmz 2 52) s m args below meth c H locs 0 0 (EV below args s D h cy y) (F0 m 242 ls [])) (fun K hK a y hf => b_X12_writeCommands_242b X hr hk K145 hK145 K hK (a.1) (a.2.1) (a.2.2.1) (a.2.2.2) y hf) FU _ y hf

set_option maxRecDepth 100000 in
set_option maxHeartbeats 4000000 in
theorem b_X12_writeCommands_145b {p : Program} {l : Launch} {e : Env} {s : State} {m : MethodId} {args : Array Value} {below : List Frame} {meth : Method} {c : Code} {D : va_G} {h : Nat → Nat} {cy : Nat → ClassId} (X : Cx p s m args c D h cy RX12 cX12_writeCommands 6) (hr : meth.sig.returnType = none) (hk : meth.locks = false) (K33 : (Int32 × St) → Option (St)) (hK33 : ∀ (a : Int32 × St) (y : St), K33 a = some y → ∀ (H : Heap) (locs : List Loc) (ls : Array Slot), Zt D h cy s a.2 H locs → lv_has ls 6 [(0, .ref (h 68)), (2, .int a.1)] → W p l e (rmz 2 52) s m args below meth c H locs 0 0 (EV below args s D h cy y) (F0 m 33 ls [])) (K145 : (Int32 × Int32 × St) → Option (St)) (hK145 : ∀ (a : Int32 × Int32 × St) (y : St), K145 a = some y → ∀ (H : Heap) (locs : List Loc) (ls : Array Slot), Zt D h cy s a.2.2 H locs → lv_has ls 6 [(0, .ref (h 68)), (2, .int a.1), (4, .int a.2.1)] → W p l e (rmz 2 52) s m args below meth c H locs 0 0 (EV below args s D h cy y) (F0 m 145 ls [])) (x2 : Int32) (x4 : Int32) (σ : St) (y : St) (hf : f_X12_writeCommands_145b K33 K145 x2 x4 σ = some y) : ∀ (H : Heap) (locs : List Loc) (ls : Array Slot), Zt D h cy s σ H locs → lv_has ls 6 [(0, .ref (h 68)), (2, .int x2), (4, .int x4)] → W p l e (rmz 2 52) s m args below meth c H locs 0 0 (EV below args s D h cy y) (F0 m 145 ls []) := by
  intro H locs ls Z hl
  have hx := X.x
  have hb := X.b
  unfold f_X12_writeCommands_145b at hf
  refine lv_iload hx hb dX12_writeCommands_145 (lv_at hl 2 rfl) ?_
  refine lv_aload_n hx hb dX12_writeCommands_147 rfl (lv_at hl 0 rfl) ?_
  refine gf_RX12_177 X Z dX12_writeCommands_148 ?_
  refine lv_icmp_gt (tgt := 267) hx hb dX12_writeCommands_151 (by decide) (fun c44 => ?_) (fun c44 => ?_)
  · have hf := itp c44 hf
    obtain ⟨v45, ev45⟩ : ∃ z : Int32, z = x2 + 1 := ⟨_, rfl⟩
    have hf := zn_e ev45 hf
    refine lv_iinc (v := v45) (lv' := [(2, .int v45), (0, .ref (h 68)), (4, .int x4)]) hx hb dX12_writeCommands_267 hl (k := 1) rfl (by rw [ev45]; rfl) (by decide) rfl (fun ls hl => ?_)
    refine lv_goto (tgt := 33) hx hb dX12_writeCommands_270 (by decide) ?_
    exact hK33 (v45, σ) _ hf _ _ _ Z (lv_sub hl [1, 0] rfl)
  · have hf := itn c44 hf
    refine lv_aload_n hx hb dX12_writeCommands_154 rfl (lv_at hl 0 rfl) ?_
    refine gf_RX12_33 X Z dX12_writeCommands_155 ?_
    refine lv_iload hx hb dX12_writeCommands_158 (lv_at hl 2 rfl) ?_
    obtain ⟨g46, hf⟩ := gd_s hf
    refine x_iald (k := 74) X Z sh_74 g46 dX12_writeCommands_160 ?_
    refine lv_iload_n hx hb dX12_writeCommands_161 rfl (lv_at hl 1 rfl) ?_
    refine lv_icmp_eq (tgt := 168) hx hb dX12_writeCommands_162 (by decide) (fun c47 => ?_) (fun c47 => ?_)
    · have hf := itp c47 hf
      refine lv_aload_n hx hb dX12_writeCommands_168 rfl (lv_at hl 0 rfl) ?_
      refine lv_iconst (v := 3) hx hb dX12_writeCommands_169 (by decide) ?_
      refine lv_iload hx hb dX12_writeCommands_170 (lv_at hl 2 rfl) ?_
      refine lv_iadd hx hb dX12_writeCommands_172 ?_
      refine lv_bipush (v := 16) hx hb dX12_writeCommands_173 (by decide) ?_
      obtain ⟨s49, h48, hf⟩ := bv_s hf
      refine goV Z (run_V (As := [.int (((3 : Int32) + x4)), .int (16 : Int32)]) (rest := []) X Z (c_X12_putName l D h cy (((3 : Int32) + x4)) (16 : Int32) σ s49 h48 _) lk_RX12_247 ⟨by decide, by decide⟩ rv_68 rfl hl.1 rfl (Nat.le_of_ble_eq_true rfl) ⟨Nat.le_refl _, Nat.le_refl _⟩ dX12_writeCommands_175) (fun H locs Z => ?_)
      refine lv_aload_n hx hb dX12_writeCommands_178 rfl (lv_at hl 0 rfl) ?_
      refine lv_iload_n hx hb dX12_writeCommands_179 rfl (lv_at hl 1 rfl) ?_
      refine lv_bipush (v := 16) hx hb dX12_writeCommands_180 (by decide) ?_
      obtain ⟨s51, h50, hf⟩ := bv_s hf
      refine goV Z (run_V (As := [.int x2, .int (16 : Int32)]) (rest := []) X Z (c_X12_putName l D h cy x2 (16 : Int32) s49 s51 h50 _) lk_RX12_247 ⟨by decide, by decide⟩ rv_68 rfl hl.1 rfl (Nat.le_of_ble_eq_true rfl) ⟨Nat.le_refl _, Nat.le_refl _⟩ dX12_writeCommands_182) (fun H locs Z => ?_)
      refine lv_aload_n hx hb dX12_writeCommands_185 rfl (lv_at hl 0 rfl) ?_
      refine lv_aload_n hx hb dX12_writeCommands_186 rfl (lv_at hl 0 rfl) ?_
      refine lv_iload_n hx hb dX12_writeCommands_187 rfl (lv_at hl 1 rfl) ?_
      obtain ⟨r54, s53, h52, hf⟩ := bi_s hf
      refine goI Z (run_V (As := [.int x2]) (rest := [.ref (h 68)]) X Z (c_X12_addressOf l D h cy x2 s51 (r54, s53) h52 _) lk_RX12_238 ⟨by decide, by decide⟩ rv_68 rfl hl.1 rfl (Nat.le_of_ble_eq_true rfl) ⟨Nat.le_refl _, Nat.le_refl _⟩ dX12_writeCommands_188) (fun H locs Z => ?_)
      refine lv_aload_n hx hb dX12_writeCommands_191 rfl (lv_at hl 0 rfl) ?_
      refine gf_RX12_36 X Z dX12_writeCommands_192 ?_
      refine lv_iload hx hb dX12_writeCommands_195 (lv_at hl 2 rfl) ?_
      obtain ⟨g55, hf⟩ := gd_s hf
      refine x_iald (k := 75) X Z sh_75 g55 dX12_writeCommands_197 ?_
      refine lv_iadd hx hb dX12_writeCommands_198 ?_
      refine lv_i2l (v := ((r54 + (s53.1 75 x4.toNatClampNeg))).toInt64) hx hb dX12_writeCommands_199 rfl ?_
      refine lv_bipush (v := 8) hx hb dX12_writeCommands_200 (by decide) ?_
      obtain ⟨s57, h56, hf⟩ := bv_s hf
      refine goV Z (run_V (As := [.long (((r54 + (s53.1 75 x4.toNatClampNeg))).toInt64), .int (8 : Int32)]) (rest := []) X Z (c_X12_put l D h cy (((r54 + (s53.1 75 x4.toNatClampNeg))).toInt64) (8 : Int32) s53 s57 h56 _) lk_RX12_216 ⟨by decide, by decide⟩ rv_68 rfl hl.1 rfl (Nat.le_of_ble_eq_true rfl) ⟨Nat.le_refl _, Nat.le_refl _⟩ dX12_writeCommands_202) (fun H locs Z => ?_)
      refine lv_aload_n hx hb dX12_writeCommands_205 rfl (lv_at hl 0 rfl) ?_
      refine lv_aload_n hx hb dX12_writeCommands_206 rfl (lv_at hl 0 rfl) ?_
      refine gf_RX12_39 X Z dX12_writeCommands_207 ?_
      refine lv_iload hx hb dX12_writeCommands_210 (lv_at hl 2 rfl) ?_
      obtain ⟨g58, hf⟩ := gd_s hf
      refine x_iald (k := 76) X Z sh_76 g58 dX12_writeCommands_212 ?_
      refine lv_i2l (v := (s57.1 76 x4.toNatClampNeg).toInt64) hx hb dX12_writeCommands_213 rfl ?_
      refine lv_bipush (v := 8) hx hb dX12_writeCommands_214 (by decide) ?_
      obtain ⟨s60, h59, hf⟩ := bv_s hf
      refine goV Z (run_V (As := [.long ((s57.1 76 x4.toNatClampNeg).toInt64), .int (8 : Int32)]) (rest := []) X Z (c_X12_put l D h cy ((s57.1 76 x4.toNatClampNeg).toInt64) (8 : Int32) s57 s60 h59 _) lk_RX12_216 ⟨by decide, by decide⟩ rv_68 rfl hl.1 rfl (Nat.le_of_ble_eq_true rfl) ⟨Nat.le_refl _, Nat.le_refl _⟩ dX12_writeCommands_216) (fun H locs Z => ?_)
      refine lv_aload_n hx hb dX12_writeCommands_219 rfl (lv_at hl 0 rfl) ?_
      refine lv_aload_n hx hb dX12_writeCommands_220 rfl (lv_at hl 0 rfl) ?_
      refine gf_RX12_80 X Z dX12_writeCommands_221 ?_
      refine lv_iload_n hx hb dX12_writeCommands_224 rfl (lv_at hl 1 rfl) ?_
      obtain ⟨g61, hf⟩ := gd_s hf
      refine x_iald (k := 89) X Z sh_89 g61 dX12_writeCommands_225 ?_
      refine lv_aload_n hx hb dX12_writeCommands_226 rfl (lv_at hl 0 rfl) ?_
      refine gf_RX12_36 X Z dX12_writeCommands_227 ?_
      refine lv_iload hx hb dX12_writeCommands_230 (lv_at hl 2 rfl) ?_
      obtain ⟨g62, hf⟩ := gd_s hf
      refine x_iald (k := 75) X Z sh_75 g62 dX12_writeCommands_232 ?_
      refine lv_iadd hx hb dX12_writeCommands_233 ?_
      refine lv_i2l (v := (((s60.1 89 x2.toNatClampNeg) + (s60.1 75 x4.toNatClampNeg))).toInt64) hx hb dX12_writeCommands_234 rfl ?_
      refine lv_iconst (v := 4) hx hb dX12_writeCommands_235 (by decide) ?_
      obtain ⟨s64, h63, hf⟩ := bv_s hf
      refine goV Z (run_V (As := [.long ((((s60.1 89 x2.toNatClampNeg) + (s60.1 75 x4.toNatClampNeg))).toInt64), .int (4 : Int32)]) (rest := []) X Z (c_X12_put l D h cy ((((s60.1 89 x2.toNatClampNeg) + (s60.1 75 x4.toNatClampNeg))).toInt64) (4 : Int32) s60 s64 h63 _) lk_RX12_216 ⟨by decide, by decide⟩ rv_68 rfl hl.1 rfl (Nat.le_of_ble_eq_true rfl) ⟨Nat.le_refl _, Nat.le_refl _⟩ dX12_writeCommands_236) (fun H locs Z => ?_)
      refine lv_iconst (v := 0) hx hb dX12_writeCommands_239 (by decide) ?_
      refine lv_topi (fun v65 ev65 => ?_)
      have hf := zn_e ev65 hf
      refine lv_istore (lv' := [(5, .int v65), (0, .ref (h 68)), (2, .int x2), (4, .int x4)]) hx hb dX12_writeCommands_240 hl (by decide) rfl (fun ls hl => ?_)
      exact b_X12_writeCommands_242 X hr hk K145 hK145 x2 x4 v65 s64 _ hf _ _ _ Z (lv_sub hl [1, 2, 3, 0] rfl)
    · have hf := itn c47 hf
      refine lv_goto (tgt := 261) hx hb dX12_writeCommands_165 (by decide) ?_
      exact b_X12_writeCommands_261 X hr hk K145 hK145 x2 x4 σ _ hf _ _ _ Z (lv_sub hl [0, 1, 2] rfl)

set_option maxRecDepth 100000 in
set_option maxHeartbeats 4000000 in
theorem b_X12_writeCommands_145 {p : Program} {l : Launch} {e : Env} {s : State} {m : MethodId} {args : Array Value} {below : List Frame} {meth : Method} {c : Code} {D : va_G} {h : Nat → Nat} {cy : Nat → ClassId} (X : Cx p s m args c D h cy RX12 cX12_writeCommands 6) (hr : meth.sig.returnType = none) (hk : meth.locks = false) (K33 : (Int32 × St) → Option (St)) (hK33 : ∀ (a : Int32 × St) (y : St), K33 a = some y → ∀ (H : Heap) (locs : List Loc) (ls : Array Slot), Zt D h cy s a.2 H locs → lv_has ls 6 [(0, .ref (h 68)), (2, .int a.1)] → W p l e (rmz 2 52) s m args below meth c H locs 0 0 (EV below args s D h cy y) (F0 m 33 ls [])) (x2 : Int32) (x4 : Int32) (σ : St) (y : St) (hf : f_X12_writeCommands_145 K33 x2 x4 σ = some y) : ∀ (H : Heap) (locs : List Loc) (ls : Array Slot), Zt D h cy s σ H locs → lv_has ls 6 [(0, .ref (h 68)), (2, .int x2), (4, .int x4)] → W p l e (rmz 2 52) s m args below meth c H locs 0 0 (EV below args s D h cy y) (F0 m 145 ls []) := by
  exact it_W (F := fun K a => f_X12_writeCommands_145b K33 K a.1 a.2.1 a.2.2) (P := fun a y => ∀ (H : Heap) (locs : List Loc) (ls : Array Slot), Zt D h cy s a.2.2 H locs → lv_has ls 6 [(0, .ref (h 68)), (2, .int a.1), (4, .int a.2.1)] → W p l e (rmz 2 52) s m args below meth c H locs 0 0 (EV below args s D h cy y) (F0 m 145 ls [])) (fun K hK a y hf => b_X12_writeCommands_145b X hr hk K33 hK33 K hK (a.1) (a.2.1) (a.2.2) y hf) FU _ y hf

set_option maxRecDepth 100000 in
set_option maxHeartbeats 4000000 in
theorem b_X12_writeCommands_33b {p : Program} {l : Launch} {e : Env} {s : State} {m : MethodId} {args : Array Value} {below : List Frame} {meth : Method} {c : Code} {D : va_G} {h : Nat → Nat} {cy : Nat → ClassId} (X : Cx p s m args c D h cy RX12 cX12_writeCommands 6) (hr : meth.sig.returnType = none) (hk : meth.locks = false) (K33 : (Int32 × St) → Option (St)) (hK33 : ∀ (a : Int32 × St) (y : St), K33 a = some y → ∀ (H : Heap) (locs : List Loc) (ls : Array Slot), Zt D h cy s a.2 H locs → lv_has ls 6 [(0, .ref (h 68)), (2, .int a.1)] → W p l e (rmz 2 52) s m args below meth c H locs 0 0 (EV below args s D h cy y) (F0 m 33 ls [])) (x2 : Int32) (σ : St) (y : St) (hf : f_X12_writeCommands_33b K33 x2 σ = some y) : ∀ (H : Heap) (locs : List Loc) (ls : Array Slot), Zt D h cy s σ H locs → lv_has ls 6 [(0, .ref (h 68)), (2, .int x2)] → W p l e (rmz 2 52) s m args below meth c H locs 0 0 (EV below args s D h cy y) (F0 m 33 ls []) := by
  intro H locs ls Z hl
  have hx := X.x
  have hb := X.b
  unfold f_X12_writeCommands_33b at hf
  refine lv_iload_n hx hb dX12_writeCommands_33 rfl (lv_at hl 1 rfl) ?_
  refine lv_aload_n hx hb dX12_writeCommands_34 rfl (lv_at hl 0 rfl) ?_
  refine gf_RX12_174 X Z dX12_writeCommands_35 ?_
  refine lv_icmp_ge (tgt := 273) hx hb dX12_writeCommands_38 (by decide) (fun c6 => ?_) (fun c6 => ?_)
  · have hf := itp c6 hf
    refine lv_aload_n hx hb dX12_writeCommands_273 rfl (lv_at hl 0 rfl) ?_
    refine lv_ldc2 (v := 2) hx hb X.o (X.t _ kc_RX12_270) dX12_writeCommands_274 ?_
    refine lv_ldc2 (v := 24) hx hb X.o (X.t _ kc_RX12_294) dX12_writeCommands_277 ?_
    refine lv_aload_n hx hb dX12_writeCommands_280 rfl (lv_at hl 0 rfl) ?_
    refine gf_RX12_233 X Z dX12_writeCommands_281 ?_
    refine lv_i2l (v := (σ.1 68 35).toInt64) hx hb dX12_writeCommands_284 rfl ?_
    refine lv_aload_n hx hb dX12_writeCommands_285 rfl (lv_at hl 0 rfl) ?_
    refine gf_RX12_180 X Z dX12_writeCommands_286 ?_
    refine lv_i2l (v := (σ.1 68 8).toInt64) hx hb dX12_writeCommands_289 rfl ?_
    obtain ⟨s8, h7, hf⟩ := bv_s hf
    refine goV Z (run_V (As := [.long (2 : Int64), .long (24 : Int64), .long ((σ.1 68 35).toInt64), .long ((σ.1 68 8).toInt64)]) (rest := []) X Z (c_X12_putFours l D h cy (2 : Int64) (24 : Int64) ((σ.1 68 35).toInt64) ((σ.1 68 8).toInt64) σ s8 h7 _) lk_RX12_278 ⟨by decide, by decide⟩ rv_68 rfl hl.1 rfl (Nat.le_of_ble_eq_true rfl) ⟨Nat.le_refl _, Nat.le_refl _⟩ dX12_writeCommands_290) (fun H locs Z => ?_)
    refine lv_aload_n hx hb dX12_writeCommands_293 rfl (lv_at hl 0 rfl) ?_
    refine lv_aload_n hx hb dX12_writeCommands_294 rfl (lv_at hl 0 rfl) ?_
    refine gf_RX12_244 X Z dX12_writeCommands_295 ?_
    refine lv_i2l (v := (s8.1 68 36).toInt64) hx hb dX12_writeCommands_298 rfl ?_
    refine lv_iconst (v := 4) hx hb dX12_writeCommands_299 (by decide) ?_
    obtain ⟨s10, h9, hf⟩ := bv_s hf
    refine goV Z (run_V (As := [.long ((s8.1 68 36).toInt64), .int (4 : Int32)]) (rest := []) X Z (c_X12_put l D h cy ((s8.1 68 36).toInt64) (4 : Int32) s8 s10 h9 _) lk_RX12_216 ⟨by decide, by decide⟩ rv_68 rfl hl.1 rfl (Nat.le_of_ble_eq_true rfl) ⟨Nat.le_refl _, Nat.le_refl _⟩ dX12_writeCommands_300) (fun H locs Z => ?_)
    refine lv_aload_n hx hb dX12_writeCommands_303 rfl (lv_at hl 0 rfl) ?_
    refine lv_aload_n hx hb dX12_writeCommands_304 rfl (lv_at hl 0 rfl) ?_
    refine gf_RX12_250 X Z dX12_writeCommands_305 ?_
    refine lv_i2l (v := (s10.1 68 37).toInt64) hx hb dX12_writeCommands_308 rfl ?_
    refine lv_iconst (v := 4) hx hb dX12_writeCommands_309 (by decide) ?_
    obtain ⟨s12, h11, hf⟩ := bv_s hf
    refine goV Z (run_V (As := [.long ((s10.1 68 37).toInt64), .int (4 : Int32)]) (rest := []) X Z (c_X12_put l D h cy ((s10.1 68 37).toInt64) (4 : Int32) s10 s12 h11 _) lk_RX12_216 ⟨by decide, by decide⟩ rv_68 rfl hl.1 rfl (Nat.le_of_ble_eq_true rfl) ⟨Nat.le_refl _, Nat.le_refl _⟩ dX12_writeCommands_310) (fun H locs Z => ?_)
    refine lv_aload_n hx hb dX12_writeCommands_313 rfl (lv_at hl 0 rfl) ?_
    refine lv_ldc2 (v := 2147483700) hx hb X.o (X.t _ kc_RX12_296) dX12_writeCommands_314 ?_
    refine lv_ldc2 (v := 16) hx hb X.o (X.t _ kc_RX12_298) dX12_writeCommands_317 ?_
    refine lv_aload_n hx hb dX12_writeCommands_320 rfl (lv_at hl 0 rfl) ?_
    refine gf_RX12_264 X Z dX12_writeCommands_321 ?_
    refine lv_i2l (v := (s12.1 68 33).toInt64) hx hb dX12_writeCommands_324 rfl ?_
    refine lv_aload_n hx hb dX12_writeCommands_325 rfl (lv_at hl 0 rfl) ?_
    refine gf_RX12_273 X Z dX12_writeCommands_326 ?_
    refine lv_i2l (v := (s12.1 68 34).toInt64) hx hb dX12_writeCommands_329 rfl ?_
    obtain ⟨s14, h13, hf⟩ := bv_s hf
    refine goV Z (run_V (As := [.long (2147483700 : Int64), .long (16 : Int64), .long ((s12.1 68 33).toInt64), .long ((s12.1 68 34).toInt64)]) (rest := []) X Z (c_X12_putFours l D h cy (2147483700 : Int64) (16 : Int64) ((s12.1 68 33).toInt64) ((s12.1 68 34).toInt64) s12 s14 h13 _) lk_RX12_278 ⟨by decide, by decide⟩ rv_68 rfl hl.1 rfl (Nat.le_of_ble_eq_true rfl) ⟨Nat.le_refl _, Nat.le_refl _⟩ dX12_writeCommands_330) (fun H locs Z => ?_)
    exact retV X hr hk Z hf dX12_writeCommands_333
  · have hf := itn c6 hf
    refine lv_aload_n hx hb dX12_writeCommands_41 rfl (lv_at hl 0 rfl) ?_
    refine lv_iload_n hx hb dX12_writeCommands_42 rfl (lv_at hl 1 rfl) ?_
    obtain ⟨r17, s16, h15, hf⟩ := bi_s hf
    refine goI Z (run_V (As := [.int x2]) (rest := []) X Z (c_X12_sectionsOf l D h cy x2 σ (r17, s16) h15 _) lk_RX12_224 ⟨by decide, by decide⟩ rv_68 rfl hl.1 rfl (Nat.le_of_ble_eq_true rfl) ⟨Nat.le_refl _, Nat.le_refl _⟩ dX12_writeCommands_43) (fun H locs Z => ?_)
    refine lv_istore_n (lv' := [(3, .int r17), (0, .ref (h 68)), (2, .int x2)]) hx hb dX12_writeCommands_46 rfl hl (by decide) rfl (fun ls hl => ?_)
    refine lv_aload_n hx hb dX12_writeCommands_47 rfl (lv_at hl 1 rfl) ?_
    refine lv_ldc2 (v := 25) hx hb X.o (X.t _ kc_RX12_290) dX12_writeCommands_48 ?_
    refine lv_iconst (v := 4) hx hb dX12_writeCommands_51 (by decide) ?_
    obtain ⟨s19, h18, hf⟩ := bv_s hf
    refine goV Z (run_V (As := [.long (25 : Int64), .int (4 : Int32)]) (rest := []) X Z (c_X12_put l D h cy (25 : Int64) (4 : Int32) s16 s19 h18 _) lk_RX12_216 ⟨by decide, by decide⟩ rv_68 rfl hl.1 rfl (Nat.le_of_ble_eq_true rfl) ⟨Nat.le_refl _, Nat.le_refl _⟩ dX12_writeCommands_52) (fun H locs Z => ?_)
    refine lv_aload_n hx hb dX12_writeCommands_55 rfl (lv_at hl 1 rfl) ?_
    refine lv_bipush (v := 72) hx hb dX12_writeCommands_56 (by decide) ?_
    refine lv_bipush (v := 80) hx hb dX12_writeCommands_58 (by decide) ?_
    refine lv_iload_n hx hb dX12_writeCommands_60 rfl (lv_at hl 0 rfl) ?_
    refine lv_imul hx hb dX12_writeCommands_61 ?_
    refine lv_iadd hx hb dX12_writeCommands_62 ?_
    refine lv_i2l (v := (((72 : Int32) + ((80 : Int32) * r17))).toInt64) hx hb dX12_writeCommands_63 rfl ?_
    refine lv_iconst (v := 4) hx hb dX12_writeCommands_64 (by decide) ?_
    obtain ⟨s21, h20, hf⟩ := bv_s hf
    refine goV Z (run_V (As := [.long ((((72 : Int32) + ((80 : Int32) * r17))).toInt64), .int (4 : Int32)]) (rest := []) X Z (c_X12_put l D h cy ((((72 : Int32) + ((80 : Int32) * r17))).toInt64) (4 : Int32) s19 s21 h20 _) lk_RX12_216 ⟨by decide, by decide⟩ rv_68 rfl hl.1 rfl (Nat.le_of_ble_eq_true rfl) ⟨Nat.le_refl _, Nat.le_refl _⟩ dX12_writeCommands_65) (fun H locs Z => ?_)
    refine lv_aload_n hx hb dX12_writeCommands_68 rfl (lv_at hl 1 rfl) ?_
    refine lv_iload_n hx hb dX12_writeCommands_69 rfl (lv_at hl 2 rfl) ?_
    refine lv_bipush (v := 16) hx hb dX12_writeCommands_70 (by decide) ?_
    obtain ⟨s23, h22, hf⟩ := bv_s hf
    refine goV Z (run_V (As := [.int x2, .int (16 : Int32)]) (rest := []) X Z (c_X12_putName l D h cy x2 (16 : Int32) s21 s23 h22 _) lk_RX12_247 ⟨by decide, by decide⟩ rv_68 rfl hl.1 rfl (Nat.le_of_ble_eq_true rfl) ⟨Nat.le_refl _, Nat.le_refl _⟩ dX12_writeCommands_72) (fun H locs Z => ?_)
    refine lv_aload_n hx hb dX12_writeCommands_75 rfl (lv_at hl 1 rfl) ?_
    refine lv_aload_n hx hb dX12_writeCommands_76 rfl (lv_at hl 1 rfl) ?_
    refine lv_iload_n hx hb dX12_writeCommands_77 rfl (lv_at hl 2 rfl) ?_
    obtain ⟨r26, s25, h24, hf⟩ := bi_s hf
    refine goI Z (run_V (As := [.int x2]) (rest := [.ref (h 68)]) X Z (c_X12_addressOf l D h cy x2 s23 (r26, s25) h24 _) lk_RX12_238 ⟨by decide, by decide⟩ rv_68 rfl hl.1 rfl (Nat.le_of_ble_eq_true rfl) ⟨Nat.le_refl _, Nat.le_refl _⟩ dX12_writeCommands_78) (fun H locs Z => ?_)
    refine lv_i2l (v := r26.toInt64) hx hb dX12_writeCommands_81 rfl ?_
    refine lv_bipush (v := 8) hx hb dX12_writeCommands_82 (by decide) ?_
    obtain ⟨s28, h27, hf⟩ := bv_s hf
    refine goV Z (run_V (As := [.long r26.toInt64, .int (8 : Int32)]) (rest := []) X Z (c_X12_put l D h cy r26.toInt64 (8 : Int32) s25 s28 h27 _) lk_RX12_216 ⟨by decide, by decide⟩ rv_68 rfl hl.1 rfl (Nat.le_of_ble_eq_true rfl) ⟨Nat.le_refl _, Nat.le_refl _⟩ dX12_writeCommands_84) (fun H locs Z => ?_)
    refine lv_aload_n hx hb dX12_writeCommands_87 rfl (lv_at hl 1 rfl) ?_
    refine lv_aload_n hx hb dX12_writeCommands_88 rfl (lv_at hl 1 rfl) ?_
    refine lv_iload_n hx hb dX12_writeCommands_89 rfl (lv_at hl 2 rfl) ?_
    obtain ⟨r31, s30, h29, hf⟩ := bi_s hf
    refine goI Z (run_V (As := [.int x2]) (rest := [.ref (h 68)]) X Z (c_X12_spanOf l D h cy x2 s28 (r31, s30) h29 _) lk_RX12_220 ⟨by decide, by decide⟩ rv_68 rfl hl.1 rfl (Nat.le_of_ble_eq_true rfl) ⟨Nat.le_refl _, Nat.le_refl _⟩ dX12_writeCommands_90) (fun H locs Z => ?_)
    refine lv_i2l (v := r31.toInt64) hx hb dX12_writeCommands_93 rfl ?_
    refine lv_bipush (v := 8) hx hb dX12_writeCommands_94 (by decide) ?_
    obtain ⟨s33, h32, hf⟩ := bv_s hf
    refine goV Z (run_V (As := [.long r31.toInt64, .int (8 : Int32)]) (rest := []) X Z (c_X12_put l D h cy r31.toInt64 (8 : Int32) s30 s33 h32 _) lk_RX12_216 ⟨by decide, by decide⟩ rv_68 rfl hl.1 rfl (Nat.le_of_ble_eq_true rfl) ⟨Nat.le_refl _, Nat.le_refl _⟩ dX12_writeCommands_96) (fun H locs Z => ?_)
    refine lv_aload_n hx hb dX12_writeCommands_99 rfl (lv_at hl 1 rfl) ?_
    refine lv_aload_n hx hb dX12_writeCommands_100 rfl (lv_at hl 1 rfl) ?_
    refine gf_RX12_80 X Z dX12_writeCommands_101 ?_
    refine lv_iload_n hx hb dX12_writeCommands_104 rfl (lv_at hl 2 rfl) ?_
    obtain ⟨g34, hf⟩ := gd_s hf
    refine x_iald (k := 89) X Z sh_89 g34 dX12_writeCommands_105 ?_
    refine lv_i2l (v := (s33.1 89 x2.toNatClampNeg).toInt64) hx hb dX12_writeCommands_106 rfl ?_
    refine lv_bipush (v := 8) hx hb dX12_writeCommands_107 (by decide) ?_
    obtain ⟨s36, h35, hf⟩ := bv_s hf
    refine goV Z (run_V (As := [.long ((s33.1 89 x2.toNatClampNeg).toInt64), .int (8 : Int32)]) (rest := []) X Z (c_X12_put l D h cy ((s33.1 89 x2.toNatClampNeg).toInt64) (8 : Int32) s33 s36 h35 _) lk_RX12_216 ⟨by decide, by decide⟩ rv_68 rfl hl.1 rfl (Nat.le_of_ble_eq_true rfl) ⟨Nat.le_refl _, Nat.le_refl _⟩ dX12_writeCommands_109) (fun H locs Z => ?_)
    refine lv_aload_n hx hb dX12_writeCommands_112 rfl (lv_at hl 1 rfl) ?_
    refine lv_aload_n hx hb dX12_writeCommands_113 rfl (lv_at hl 1 rfl) ?_
    refine gf_RX12_24 X Z dX12_writeCommands_114 ?_
    refine lv_iload_n hx hb dX12_writeCommands_117 rfl (lv_at hl 2 rfl) ?_
    obtain ⟨g37, hf⟩ := gd_s hf
    refine x_iald (k := 71) X Z sh_71 g37 dX12_writeCommands_118 ?_
    refine lv_i2l (v := (s36.1 71 x2.toNatClampNeg).toInt64) hx hb dX12_writeCommands_119 rfl ?_
    refine lv_bipush (v := 8) hx hb dX12_writeCommands_120 (by decide) ?_
    obtain ⟨s39, h38, hf⟩ := bv_s hf
    refine goV Z (run_V (As := [.long ((s36.1 71 x2.toNatClampNeg).toInt64), .int (8 : Int32)]) (rest := []) X Z (c_X12_put l D h cy ((s36.1 71 x2.toNatClampNeg).toInt64) (8 : Int32) s36 s39 h38 _) lk_RX12_216 ⟨by decide, by decide⟩ rv_68 rfl hl.1 rfl (Nat.le_of_ble_eq_true rfl) ⟨Nat.le_refl _, Nat.le_refl _⟩ dX12_writeCommands_122) (fun H locs Z => ?_)
    refine lv_aload_n hx hb dX12_writeCommands_125 rfl (lv_at hl 1 rfl) ?_
    refine lv_ldc2 (v := 7) hx hb X.o (X.t _ kc_RX12_292) dX12_writeCommands_126 ?_
    refine lv_aload_n hx hb dX12_writeCommands_129 rfl (lv_at hl 1 rfl) ?_
    refine gf_RX12_27 X Z dX12_writeCommands_130 ?_
    refine lv_iload_n hx hb dX12_writeCommands_133 rfl (lv_at hl 2 rfl) ?_
    obtain ⟨g40, hf⟩ := gd_s hf
    refine x_iald (k := 72) X Z sh_72 g40 dX12_writeCommands_134 ?_
    refine lv_i2l (v := (s39.1 72 x2.toNatClampNeg).toInt64) hx hb dX12_writeCommands_135 rfl ?_
    refine lv_iload_n hx hb dX12_writeCommands_136 rfl (lv_at hl 0 rfl) ?_
    refine lv_i2l (v := r17.toInt64) hx hb dX12_writeCommands_137 rfl ?_
    refine lv_lconst (v := 0) hx hb dX12_writeCommands_138 (by decide) ?_
    obtain ⟨s42, h41, hf⟩ := bv_s hf
    refine goV Z (run_V (As := [.long (7 : Int64), .long ((s39.1 72 x2.toNatClampNeg).toInt64), .long r17.toInt64, .long (0 : Int64)]) (rest := []) X Z (c_X12_putFours l D h cy (7 : Int64) ((s39.1 72 x2.toNatClampNeg).toInt64) r17.toInt64 (0 : Int64) s39 s42 h41 _) lk_RX12_278 ⟨by decide, by decide⟩ rv_68 rfl hl.1 rfl (Nat.le_of_ble_eq_true rfl) ⟨Nat.le_refl _, Nat.le_refl _⟩ dX12_writeCommands_139) (fun H locs Z => ?_)
    refine lv_iconst (v := 1) hx hb dX12_writeCommands_142 (by decide) ?_
    refine lv_topi (fun v43 ev43 => ?_)
    have hf := zn_e ev43 hf
    refine lv_istore (lv' := [(4, .int v43), (3, .int r17), (0, .ref (h 68)), (2, .int x2)]) hx hb dX12_writeCommands_143 hl (by decide) rfl (fun ls hl => ?_)
    exact b_X12_writeCommands_145 X hr hk K33 hK33 x2 v43 s42 _ hf _ _ _ Z (lv_sub hl [2, 3, 0] rfl)

set_option maxRecDepth 100000 in
set_option maxHeartbeats 4000000 in
theorem b_X12_writeCommands_33 {p : Program} {l : Launch} {e : Env} {s : State} {m : MethodId} {args : Array Value} {below : List Frame} {meth : Method} {c : Code} {D : va_G} {h : Nat → Nat} {cy : Nat → ClassId} (X : Cx p s m args c D h cy RX12 cX12_writeCommands 6) (hr : meth.sig.returnType = none) (hk : meth.locks = false) (x2 : Int32) (σ : St) (y : St) (hf : f_X12_writeCommands_33 x2 σ = some y) : ∀ (H : Heap) (locs : List Loc) (ls : Array Slot), Zt D h cy s σ H locs → lv_has ls 6 [(0, .ref (h 68)), (2, .int x2)] → W p l e (rmz 2 52) s m args below meth c H locs 0 0 (EV below args s D h cy y) (F0 m 33 ls []) := by
  exact it_W (F := fun K a => f_X12_writeCommands_33b K a.1 a.2) (P := fun a y => ∀ (H : Heap) (locs : List Loc) (ls : Array Slot), Zt D h cy s a.2 H locs → lv_has ls 6 [(0, .ref (h 68)), (2, .int a.1)] → W p l e (rmz 2 52) s m args below meth c H locs 0 0 (EV below args s D h cy y) (F0 m 33 ls [])) (fun K hK a y hf => b_X12_writeCommands_33b X hr hk K hK (a.1) (a.2) y hf) FU _ y hf

set_option maxRecDepth 100000 in
set_option maxHeartbeats 4000000 in
theorem c_X12_writeCommands (l : Launch) (D : va_G) (h : Nat → Nat) (cy : Nat → ClassId) (a1 : Int32) (σ : St) (y : St) (hf : f_X12_writeCommands a1 σ = some y) : CV l yX12_writeCommands cX12_writeCommands 6 none 2 52 D h cy [.ref (h 68), .int a1] σ y := by
  refine ent (Qc := fun sz => QV D h cy sz y) (by decide) (Nat.le_of_ble_eq_true rfl) ?_
  intro p e s m below meth c ls X Z hr hk hl
  have X : Cx p s m _ c D h cy RX12 cX12_writeCommands 6 := X
  have hx := X.x
  have hb := X.b
  have hl : lv_has ls 6 [(0, .ref (h 68)), (1, .int a1)] := hl
  unfold f_X12_writeCommands at hf
  refine lv_aload_n hx hb dX12_writeCommands_0 rfl (lv_at hl 0 rfl) ?_
  refine lv_ldc2 (v := 4277009103) hx hb X.o (X.t _ kc_RX12_282) dX12_writeCommands_1 ?_
  refine lv_ldc2 (v := 16777228) hx hb X.o (X.t _ kc_RX12_284) dX12_writeCommands_4 ?_
  refine lv_lconst (v := 0) hx hb dX12_writeCommands_7 (by decide) ?_
  refine lv_ldc2 (v := 6) hx hb X.o (X.t _ kc_RX12_286) dX12_writeCommands_8 ?_
  obtain ⟨s2, h1, hf⟩ := bv_s hf
  refine goV Z (run_V (As := [.long (4277009103 : Int64), .long (16777228 : Int64), .long (0 : Int64), .long (6 : Int64)]) (rest := []) X Z (c_X12_putFours l D h cy (4277009103 : Int64) (16777228 : Int64) (0 : Int64) (6 : Int64) σ s2 h1 _) lk_RX12_278 ⟨by decide, by decide⟩ rv_68 rfl hl.1 rfl (Nat.le_of_ble_eq_true rfl) ⟨Nat.le_refl _, Nat.le_refl _⟩ dX12_writeCommands_11) (fun H locs Z => ?_)
  refine lv_aload_n hx hb dX12_writeCommands_14 rfl (lv_at hl 0 rfl) ?_
  refine lv_aload_n hx hb dX12_writeCommands_15 rfl (lv_at hl 0 rfl) ?_
  refine gf_RX12_174 X Z dX12_writeCommands_16 ?_
  refine lv_iconst (v := 2) hx hb dX12_writeCommands_19 (by decide) ?_
  refine lv_iadd hx hb dX12_writeCommands_20 ?_
  refine lv_i2l (v := (((s2.1 68 6) + (2 : Int32))).toInt64) hx hb dX12_writeCommands_21 rfl ?_
  refine lv_iload_n hx hb dX12_writeCommands_22 rfl (lv_at hl 1 rfl) ?_
  refine lv_i2l (v := a1.toInt64) hx hb dX12_writeCommands_23 rfl ?_
  refine lv_ldc2 (v := 133) hx hb X.o (X.t _ kc_RX12_288) dX12_writeCommands_24 ?_
  refine lv_lconst (v := 0) hx hb dX12_writeCommands_27 (by decide) ?_
  obtain ⟨s4, h3, hf⟩ := bv_s hf
  refine goV Z (run_V (As := [.long ((((s2.1 68 6) + (2 : Int32))).toInt64), .long a1.toInt64, .long (133 : Int64), .long (0 : Int64)]) (rest := []) X Z (c_X12_putFours l D h cy ((((s2.1 68 6) + (2 : Int32))).toInt64) a1.toInt64 (133 : Int64) (0 : Int64) s2 s4 h3 _) lk_RX12_278 ⟨by decide, by decide⟩ rv_68 rfl hl.1 rfl (Nat.le_of_ble_eq_true rfl) ⟨Nat.le_refl _, Nat.le_refl _⟩ dX12_writeCommands_28) (fun H locs Z => ?_)
  refine lv_iconst (v := 0) hx hb dX12_writeCommands_31 (by decide) ?_
  refine lv_topi (fun v5 ev5 => ?_)
  have hf := zn_e ev5 hf
  refine lv_istore_n (lv' := [(2, .int v5), (0, .ref (h 68)), (1, .int a1)]) hx hb dX12_writeCommands_32 rfl hl (by decide) rfl (fun ls hl => ?_)
  exact b_X12_writeCommands_33 X hr hk v5 s4 _ hf _ _ _ Z (lv_sub hl [1, 0] rfl)

set_option maxRecDepth 100000 in
set_option maxHeartbeats 4000000 in
theorem b_X12_write_261b {p : Program} {l : Launch} {e : Env} {s : State} {m : MethodId} {args : Array Value} {below : List Frame} {meth : Method} {c : Code} {D : va_G} {h : Nat → Nat} {cy : Nat → ClassId} (X : Cx p s m args c D h cy RX12 cX12_write 5) (hr : meth.sig.returnType = some .int) (hk : meth.locks = false) (K261 : (Int32 × Int32 × St) → Option (Int32 × St)) (hK261 : ∀ (a : Int32 × Int32 × St) (y : Int32 × St), K261 a = some y → ∀ (H : Heap) (locs : List Loc) (ls : Array Slot), Zt D h cy s a.2.2 H locs → lv_has ls 5 [(0, .ref (h 68)), (1, .int a.1), (3, .int a.2.1)] → W p l e (rmz 3 78) s m args below meth c H locs 0 0 (EI below args s D h cy y) (F0 m 261 ls [])) (x1 : Int32) (x3 : Int32) (σ : St) (y : Int32 × St) (hf : f_X12_write_261b K261 x1 x3 σ = some y) : ∀ (H : Heap) (locs : List Loc) (ls : Array Slot), Zt D h cy s σ H locs → lv_has ls 5 [(0, .ref (h 68)), (1, .int x1), (3, .int x3)] → W p l e (rmz 3 78) s m args below meth c H locs 0 0 (EI below args s D h cy y) (F0 m 261 ls []) := by
  intro H locs ls Z hl
  have hx := X.x
  have hb := X.b
  unfold f_X12_write_261b at hf
  refine lv_iload_n hx hb dX12_write_261 rfl (lv_at hl 2 rfl) ?_
  refine lv_aload_n hx hb dX12_write_262 rfl (lv_at hl 0 rfl) ?_
  refine gf_RX12_180 X Z dX12_write_263 ?_
  refine lv_icmp_ge (tgt := 297) hx hb dX12_write_266 (by decide) (fun c24 => ?_) (fun c24 => ?_)
  · have hf := itp c24 hf
    refine lv_aload_n hx hb dX12_write_297 rfl (lv_at hl 0 rfl) ?_
    refine lv_aload_n hx hb dX12_write_298 rfl (lv_at hl 0 rfl) ?_
    refine gf_RX12_213 X Z dX12_write_299 ?_
    refine lv_aload_n hx hb dX12_write_302 rfl (lv_at hl 0 rfl) ?_
    refine gf_RX12_244 X Z dX12_write_303 ?_
    refine lv_isub hx hb dX12_write_306 ?_
    refine pf_RX12_250 X Z dX12_write_307 (fun s25 H locs es25 Z => ?_)
    have hf := zn_e es25 hf
    refine lv_aload_n hx hb dX12_write_310 rfl (lv_at hl 0 rfl) ?_
    refine lv_aload_n hx hb dX12_write_311 rfl (lv_at hl 0 rfl) ?_
    refine gf_RX12_213 X Z dX12_write_312 ?_
    refine pf_RX12_253 X Z dX12_write_315 (fun s26 H locs es26 Z => ?_)
    have hf := zn_e es26 hf
    refine lv_aload_n hx hb dX12_write_318 rfl (lv_at hl 0 rfl) ?_
    obtain ⟨s28, h27, hf⟩ := bv_s hf
    refine goV Z (run_V (As := []) (rest := []) X Z (c_X12_writePointers l D h cy s26 s28 h27 _) lk_RX12_256 ⟨by decide, by decide⟩ rv_68 rfl hl.1 rfl (Nat.le_of_ble_eq_true rfl) ⟨Nat.le_refl _, Nat.le_refl _⟩ dX12_write_319) (fun H locs Z => ?_)
    refine lv_aload_n hx hb dX12_write_322 rfl (lv_at hl 0 rfl) ?_
    refine lv_iconst (v := 0) hx hb dX12_write_323 (by decide) ?_
    refine pf_RX12_213 X Z dX12_write_324 (fun s29 H locs es29 Z => ?_)
    have hf := zn_e es29 hf
    refine lv_aload_n hx hb dX12_write_327 rfl (lv_at hl 0 rfl) ?_
    refine lv_iload_n hx hb dX12_write_328 rfl (lv_at hl 1 rfl) ?_
    obtain ⟨s31, h30, hf⟩ := bv_s hf
    refine goV Z (run_V (As := [.int x1]) (rest := []) X Z (c_X12_writeCommands l D h cy x1 s29 s31 h30 _) lk_RX12_259 ⟨by decide, by decide⟩ rv_68 rfl hl.1 rfl (Nat.le_of_ble_eq_true rfl) ⟨Nat.le_refl _, Nat.le_refl _⟩ dX12_write_329) (fun H locs Z => ?_)
    refine lv_aload_n hx hb dX12_write_332 rfl (lv_at hl 0 rfl) ?_
    refine gf_RX12_253 X Z dX12_write_333 ?_
    exact retI X hr hk Z hf dX12_write_336
  · have hf := itn c24 hf
    refine lv_aload_n hx hb dX12_write_269 rfl (lv_at hl 0 rfl) ?_
    refine lv_bipush (v := 12) hx hb dX12_write_270 (by decide) ?_
    refine lv_iload_n hx hb dX12_write_272 rfl (lv_at hl 2 rfl) ?_
    refine lv_iadd hx hb dX12_write_273 ?_
    refine lv_aload_n hx hb dX12_write_274 rfl (lv_at hl 0 rfl) ?_
    refine lv_bipush (v := 12) hx hb dX12_write_275 (by decide) ?_
    refine lv_iload_n hx hb dX12_write_277 rfl (lv_at hl 2 rfl) ?_
    refine lv_iadd hx hb dX12_write_278 ?_
    obtain ⟨r34, s33, h32, hf⟩ := bi_s hf
    refine goI Z (run_V (As := [.int (((12 : Int32) + x3))]) (rest := [.int (((12 : Int32) + x3)), .ref (h 68)]) X Z (c_X12_longOf l D h cy (((12 : Int32) + x3)) σ (r34, s33) h32 _) lk_RX12_241 ⟨by decide, by decide⟩ rv_68 rfl hl.1 rfl (Nat.le_of_ble_eq_true rfl) ⟨Nat.le_refl _, Nat.le_refl _⟩ dX12_write_279) (fun H locs Z => ?_)
    obtain ⟨s36, h35, hf⟩ := bv_s hf
    refine goV Z (run_V (As := [.int (((12 : Int32) + x3)), .int r34]) (rest := []) X Z (c_X12_putName l D h cy (((12 : Int32) + x3)) r34 s33 s36 h35 _) lk_RX12_247 ⟨by decide, by decide⟩ rv_68 rfl hl.1 rfl (Nat.le_of_ble_eq_true rfl) ⟨Nat.le_refl _, Nat.le_refl _⟩ dX12_write_282) (fun H locs Z => ?_)
    refine lv_aload_n hx hb dX12_write_285 rfl (lv_at hl 0 rfl) ?_
    refine lv_lconst (v := 0) hx hb dX12_write_286 (by decide) ?_
    refine lv_iconst (v := 1) hx hb dX12_write_287 (by decide) ?_
    obtain ⟨s38, h37, hf⟩ := bv_s hf
    refine goV Z (run_V (As := [.long (0 : Int64), .int (1 : Int32)]) (rest := []) X Z (c_X12_put l D h cy (0 : Int64) (1 : Int32) s36 s38 h37 _) lk_RX12_216 ⟨by decide, by decide⟩ rv_68 rfl hl.1 rfl (Nat.le_of_ble_eq_true rfl) ⟨Nat.le_refl _, Nat.le_refl _⟩ dX12_write_288) (fun H locs Z => ?_)
    obtain ⟨v39, ev39⟩ : ∃ z : Int32, z = x3 + 1 := ⟨_, rfl⟩
    have hf := zn_e ev39 hf
    refine lv_iinc (v := v39) (lv' := [(3, .int v39), (0, .ref (h 68)), (1, .int x1)]) hx hb dX12_write_291 hl (k := 2) rfl (by rw [ev39]; rfl) (by decide) rfl (fun ls hl => ?_)
    refine lv_goto (tgt := 261) hx hb dX12_write_294 (by decide) ?_
    exact hK261 (x1, v39, s38) _ hf _ _ _ Z (lv_sub hl [1, 2, 0] rfl)

set_option maxRecDepth 100000 in
set_option maxHeartbeats 4000000 in
theorem b_X12_write_261 {p : Program} {l : Launch} {e : Env} {s : State} {m : MethodId} {args : Array Value} {below : List Frame} {meth : Method} {c : Code} {D : va_G} {h : Nat → Nat} {cy : Nat → ClassId} (X : Cx p s m args c D h cy RX12 cX12_write 5) (hr : meth.sig.returnType = some .int) (hk : meth.locks = false) (x1 : Int32) (x3 : Int32) (σ : St) (y : Int32 × St) (hf : f_X12_write_261 x1 x3 σ = some y) : ∀ (H : Heap) (locs : List Loc) (ls : Array Slot), Zt D h cy s σ H locs → lv_has ls 5 [(0, .ref (h 68)), (1, .int x1), (3, .int x3)] → W p l e (rmz 3 78) s m args below meth c H locs 0 0 (EI below args s D h cy y) (F0 m 261 ls []) := by
  exact it_W (F := fun K a => f_X12_write_261b K a.1 a.2.1 a.2.2) (P := fun a y => ∀ (H : Heap) (locs : List Loc) (ls : Array Slot), Zt D h cy s a.2.2 H locs → lv_has ls 5 [(0, .ref (h 68)), (1, .int a.1), (3, .int a.2.1)] → W p l e (rmz 3 78) s m args below meth c H locs 0 0 (EI below args s D h cy y) (F0 m 261 ls [])) (fun K hK a y hf => b_X12_write_261b X hr hk K hK (a.1) (a.2.1) (a.2.2) y hf) FU _ y hf

set_option maxRecDepth 100000 in
set_option maxHeartbeats 4000000 in
theorem b_X12_write_142b {p : Program} {l : Launch} {e : Env} {s : State} {m : MethodId} {args : Array Value} {below : List Frame} {meth : Method} {c : Code} {D : va_G} {h : Nat → Nat} {cy : Nat → ClassId} (X : Cx p s m args c D h cy RX12 cX12_write 5) (hr : meth.sig.returnType = some .int) (hk : meth.locks = false) (K142 : (Int32 × Int32 × Int32 × St) → Option (Int32 × St)) (hK142 : ∀ (a : Int32 × Int32 × Int32 × St) (y : Int32 × St), K142 a = some y → ∀ (H : Heap) (locs : List Loc) (ls : Array Slot), Zt D h cy s a.2.2.2 H locs → lv_has ls 5 [(0, .ref (h 68)), (1, .int a.1), (2, .int a.2.1), (3, .int a.2.2.1)] → W p l e (rmz 3 78) s m args below meth c H locs 0 0 (EI below args s D h cy y) (F0 m 142 ls [])) (x1 : Int32) (x2 : Int32) (x3 : Int32) (σ : St) (y : Int32 × St) (hf : f_X12_write_142b K142 x1 x2 x3 σ = some y) : ∀ (H : Heap) (locs : List Loc) (ls : Array Slot), Zt D h cy s σ H locs → lv_has ls 5 [(0, .ref (h 68)), (1, .int x1), (2, .int x2), (3, .int x3)] → W p l e (rmz 3 78) s m args below meth c H locs 0 0 (EI below args s D h cy y) (F0 m 142 ls []) := by
  intro H locs ls Z hl
  have hx := X.x
  have hb := X.b
  unfold f_X12_write_142b at hf
  refine lv_iload_n hx hb dX12_write_142 rfl (lv_at hl 3 rfl) ?_
  refine lv_aload_n hx hb dX12_write_143 rfl (lv_at hl 0 rfl) ?_
  refine gf_RX12_180 X Z dX12_write_144 ?_
  refine lv_icmp_ge (tgt := 239) hx hb dX12_write_147 (by decide) (fun c17 => ?_) (fun c17 => ?_)
  · have hf := itp c17 hf
    refine lv_aload_n hx hb dX12_write_239 rfl (lv_at hl 0 rfl) ?_
    refine lv_bipush (v := 8) hx hb dX12_write_240 (by decide) ?_
    obtain ⟨s19, h18, hf⟩ := bv_s hf
    refine goV Z (run_V (As := [.int (8 : Int32)]) (rest := []) X Z (c_X12_even l D h cy (8 : Int32) σ s19 h18 _) lk_RX12_227 ⟨by decide, by decide⟩ rv_68 rfl hl.1 rfl (Nat.le_of_ble_eq_true rfl) ⟨Nat.le_refl _, Nat.le_refl _⟩ dX12_write_242) (fun H locs Z => ?_)
    refine lv_aload_n hx hb dX12_write_245 rfl (lv_at hl 0 rfl) ?_
    refine lv_aload_n hx hb dX12_write_246 rfl (lv_at hl 0 rfl) ?_
    refine gf_RX12_213 X Z dX12_write_247 ?_
    refine pf_RX12_244 X Z dX12_write_250 (fun s20 H locs es20 Z => ?_)
    have hf := zn_e es20 hf
    refine lv_aload_n hx hb dX12_write_253 rfl (lv_at hl 0 rfl) ?_
    refine lv_lconst (v := 0) hx hb dX12_write_254 (by decide) ?_
    refine lv_iconst (v := 1) hx hb dX12_write_255 (by decide) ?_
    obtain ⟨s22, h21, hf⟩ := bv_s hf
    refine goV Z (run_V (As := [.long (0 : Int64), .int (1 : Int32)]) (rest := []) X Z (c_X12_put l D h cy (0 : Int64) (1 : Int32) s20 s22 h21 _) lk_RX12_216 ⟨by decide, by decide⟩ rv_68 rfl hl.1 rfl (Nat.le_of_ble_eq_true rfl) ⟨Nat.le_refl _, Nat.le_refl _⟩ dX12_write_256) (fun H locs Z => ?_)
    refine lv_iconst (v := 0) hx hb dX12_write_259 (by decide) ?_
    refine lv_topi (fun v23 ev23 => ?_)
    have hf := zn_e ev23 hf
    refine lv_istore_n (lv' := [(3, .int v23), (0, .ref (h 68)), (1, .int x1), (2, .int x2)]) hx hb dX12_write_260 rfl hl (by decide) rfl (fun ls hl => ?_)
    exact b_X12_write_261 X hr hk x1 v23 s22 _ hf _ _ _ Z (lv_sub hl [1, 2, 0] rfl)
  · have hf := itn c17 hf
    refine lv_aload_n hx hb dX12_write_150 rfl (lv_at hl 0 rfl) ?_
    refine gf_RX12_42 X Z dX12_write_151 ?_
    refine lv_iload_n hx hb dX12_write_154 rfl (lv_at hl 3 rfl) ?_
    obtain ⟨g40, hf⟩ := gd_s hf
    refine x_iald (k := 77) X Z sh_77 g40 dX12_write_155 ?_
    refine lv_topi (fun v41 ev41 => ?_)
    have hf := zn_e ev41 hf
    refine lv_istore (lv' := [(4, .int v41), (0, .ref (h 68)), (1, .int x1), (2, .int x2), (3, .int x3)]) hx hb dX12_write_156 hl (by decide) rfl (fun ls hl => ?_)
    refine lv_aload_n hx hb dX12_write_158 rfl (lv_at hl 1 rfl) ?_
    refine lv_iload_n hx hb dX12_write_159 rfl (lv_at hl 3 rfl) ?_
    refine lv_i2l (v := x2.toInt64) hx hb dX12_write_160 rfl ?_
    refine lv_iconst (v := 4) hx hb dX12_write_161 (by decide) ?_
    obtain ⟨s43, h42, hf⟩ := bv_s hf
    refine goV Z (run_V (As := [.long x2.toInt64, .int (4 : Int32)]) (rest := []) X Z (c_X12_put l D h cy x2.toInt64 (4 : Int32) σ s43 h42 _) lk_RX12_216 ⟨by decide, by decide⟩ rv_68 rfl hl.1 rfl (Nat.le_of_ble_eq_true rfl) ⟨Nat.le_refl _, Nat.le_refl _⟩ dX12_write_162) (fun H locs Z => ?_)
    refine lv_aload_n hx hb dX12_write_165 rfl (lv_at hl 1 rfl) ?_
    refine lv_ldc2 (v := 15) hx hb X.o (X.t _ kc_RX12_236) dX12_write_166 ?_
    refine lv_iconst (v := 1) hx hb dX12_write_169 (by decide) ?_
    obtain ⟨s45, h44, hf⟩ := bv_s hf
    refine goV Z (run_V (As := [.long (15 : Int64), .int (1 : Int32)]) (rest := []) X Z (c_X12_put l D h cy (15 : Int64) (1 : Int32) s43 s45 h44 _) lk_RX12_216 ⟨by decide, by decide⟩ rv_68 rfl hl.1 rfl (Nat.le_of_ble_eq_true rfl) ⟨Nat.le_refl _, Nat.le_refl _⟩ dX12_write_170) (fun H locs Z => ?_)
    refine lv_aload_n hx hb dX12_write_173 rfl (lv_at hl 1 rfl) ?_
    refine lv_iload hx hb dX12_write_174 (lv_at hl 0 rfl) ?_
    refine lv_i2l (v := v41.toInt64) hx hb dX12_write_176 rfl ?_
    refine lv_iconst (v := 1) hx hb dX12_write_177 (by decide) ?_
    obtain ⟨s47, h46, hf⟩ := bv_s hf
    refine goV Z (run_V (As := [.long v41.toInt64, .int (1 : Int32)]) (rest := []) X Z (c_X12_put l D h cy v41.toInt64 (1 : Int32) s45 s47 h46 _) lk_RX12_216 ⟨by decide, by decide⟩ rv_68 rfl hl.1 rfl (Nat.le_of_ble_eq_true rfl) ⟨Nat.le_refl _, Nat.le_refl _⟩ dX12_write_178) (fun H locs Z => ?_)
    refine lv_aload_n hx hb dX12_write_181 rfl (lv_at hl 1 rfl) ?_
    refine lv_lconst (v := 0) hx hb dX12_write_182 (by decide) ?_
    refine lv_iconst (v := 2) hx hb dX12_write_183 (by decide) ?_
    obtain ⟨s49, h48, hf⟩ := bv_s hf
    refine goV Z (run_V (As := [.long (0 : Int64), .int (2 : Int32)]) (rest := []) X Z (c_X12_put l D h cy (0 : Int64) (2 : Int32) s47 s49 h48 _) lk_RX12_216 ⟨by decide, by decide⟩ rv_68 rfl hl.1 rfl (Nat.le_of_ble_eq_true rfl) ⟨Nat.le_refl _, Nat.le_refl _⟩ dX12_write_184) (fun H locs Z => ?_)
    refine lv_aload_n hx hb dX12_write_187 rfl (lv_at hl 1 rfl) ?_
    refine lv_aload_n hx hb dX12_write_188 rfl (lv_at hl 1 rfl) ?_
    refine lv_aload_n hx hb dX12_write_189 rfl (lv_at hl 1 rfl) ?_
    refine gf_RX12_33 X Z dX12_write_190 ?_
    refine lv_iload hx hb dX12_write_193 (lv_at hl 0 rfl) ?_
    obtain ⟨g50, hf⟩ := gd_s hf
    refine x_iald (k := 74) X Z sh_74 g50 dX12_write_195 ?_
    obtain ⟨r53, s52, h51, hf⟩ := bi_s hf
    refine goI Z (run_V (As := [.int (s49.1 74 v41.toNatClampNeg)]) (rest := [.ref (h 68)]) X Z (c_X12_addressOf l D h cy (s49.1 74 v41.toNatClampNeg) s49 (r53, s52) h51 _) lk_RX12_238 ⟨by decide, by decide⟩ rv_68 rfl hl.1 rfl (Nat.le_of_ble_eq_true rfl) ⟨Nat.le_refl _, Nat.le_refl _⟩ dX12_write_196) (fun H locs Z => ?_)
    refine lv_aload_n hx hb dX12_write_199 rfl (lv_at hl 1 rfl) ?_
    refine gf_RX12_36 X Z dX12_write_200 ?_
    refine lv_iload hx hb dX12_write_203 (lv_at hl 0 rfl) ?_
    obtain ⟨g54, hf⟩ := gd_s hf
    refine x_iald (k := 75) X Z sh_75 g54 dX12_write_205 ?_
    refine lv_iadd hx hb dX12_write_206 ?_
    refine lv_aload_n hx hb dX12_write_207 rfl (lv_at hl 1 rfl) ?_
    refine gf_RX12_45 X Z dX12_write_208 ?_
    refine lv_iload_n hx hb dX12_write_211 rfl (lv_at hl 4 rfl) ?_
    obtain ⟨g55, hf⟩ := gd_s hf
    refine x_iald (k := 78) X Z sh_78 g55 dX12_write_212 ?_
    refine lv_iadd hx hb dX12_write_213 ?_
    refine lv_i2l (v := (((r53 + (s52.1 75 v41.toNatClampNeg)) + (s52.1 78 x3.toNatClampNeg))).toInt64) hx hb dX12_write_214 rfl ?_
    refine lv_bipush (v := 8) hx hb dX12_write_215 (by decide) ?_
    obtain ⟨s57, h56, hf⟩ := bv_s hf
    refine goV Z (run_V (As := [.long ((((r53 + (s52.1 75 v41.toNatClampNeg)) + (s52.1 78 x3.toNatClampNeg))).toInt64), .int (8 : Int32)]) (rest := []) X Z (c_X12_put l D h cy ((((r53 + (s52.1 75 v41.toNatClampNeg)) + (s52.1 78 x3.toNatClampNeg))).toInt64) (8 : Int32) s52 s57 h56 _) lk_RX12_216 ⟨by decide, by decide⟩ rv_68 rfl hl.1 rfl (Nat.le_of_ble_eq_true rfl) ⟨Nat.le_refl _, Nat.le_refl _⟩ dX12_write_217) (fun H locs Z => ?_)
    refine lv_iload_n hx hb dX12_write_220 rfl (lv_at hl 3 rfl) ?_
    refine lv_aload_n hx hb dX12_write_221 rfl (lv_at hl 1 rfl) ?_
    refine lv_bipush (v := 12) hx hb dX12_write_222 (by decide) ?_
    refine lv_iload_n hx hb dX12_write_224 rfl (lv_at hl 4 rfl) ?_
    refine lv_iadd hx hb dX12_write_225 ?_
    obtain ⟨r60, s59, h58, hf⟩ := bi_s hf
    refine goI Z (run_V (As := [.int (((12 : Int32) + x3))]) (rest := [.int x2]) X Z (c_X12_longOf l D h cy (((12 : Int32) + x3)) s57 (r60, s59) h58 _) lk_RX12_241 ⟨by decide, by decide⟩ rv_68 rfl hl.1 rfl (Nat.le_of_ble_eq_true rfl) ⟨Nat.le_refl _, Nat.le_refl _⟩ dX12_write_226) (fun H locs Z => ?_)
    refine lv_iconst (v := 1) hx hb dX12_write_229 (by decide) ?_
    refine lv_iadd hx hb dX12_write_230 ?_
    refine lv_iadd hx hb dX12_write_231 ?_
    refine lv_topi (fun v61 ev61 => ?_)
    have hf := zn_e ev61 hf
    refine lv_istore_n (lv' := [(2, .int v61), (4, .int v41), (0, .ref (h 68)), (1, .int x1), (3, .int x3)]) hx hb dX12_write_232 rfl hl (by decide) rfl (fun ls hl => ?_)
    obtain ⟨v62, ev62⟩ : ∃ z : Int32, z = x3 + 1 := ⟨_, rfl⟩
    have hf := zn_e ev62 hf
    refine lv_iinc (v := v62) (lv' := [(3, .int v62), (2, .int v61), (4, .int v41), (0, .ref (h 68)), (1, .int x1)]) hx hb dX12_write_233 hl (k := 4) rfl (by rw [ev62]; rfl) (by decide) rfl (fun ls hl => ?_)
    refine lv_goto (tgt := 142) hx hb dX12_write_236 (by decide) ?_
    exact hK142 (x1, v61, v62, s59) _ hf _ _ _ Z (lv_sub hl [3, 4, 1, 0] rfl)

set_option maxRecDepth 100000 in
set_option maxHeartbeats 4000000 in
theorem b_X12_write_142 {p : Program} {l : Launch} {e : Env} {s : State} {m : MethodId} {args : Array Value} {below : List Frame} {meth : Method} {c : Code} {D : va_G} {h : Nat → Nat} {cy : Nat → ClassId} (X : Cx p s m args c D h cy RX12 cX12_write 5) (hr : meth.sig.returnType = some .int) (hk : meth.locks = false) (x1 : Int32) (x2 : Int32) (x3 : Int32) (σ : St) (y : Int32 × St) (hf : f_X12_write_142 x1 x2 x3 σ = some y) : ∀ (H : Heap) (locs : List Loc) (ls : Array Slot), Zt D h cy s σ H locs → lv_has ls 5 [(0, .ref (h 68)), (1, .int x1), (2, .int x2), (3, .int x3)] → W p l e (rmz 3 78) s m args below meth c H locs 0 0 (EI below args s D h cy y) (F0 m 142 ls []) := by
  exact it_W (F := fun K a => f_X12_write_142b K a.1 a.2.1 a.2.2.1 a.2.2.2) (P := fun a y => ∀ (H : Heap) (locs : List Loc) (ls : Array Slot), Zt D h cy s a.2.2.2 H locs → lv_has ls 5 [(0, .ref (h 68)), (1, .int a.1), (2, .int a.2.1), (3, .int a.2.2.1)] → W p l e (rmz 3 78) s m args below meth c H locs 0 0 (EI below args s D h cy y) (F0 m 142 ls [])) (fun K hK a y hf => b_X12_write_142b X hr hk K hK (a.1) (a.2.1) (a.2.2.1) (a.2.2.2) y hf) FU _ y hf

set_option maxRecDepth 100000 in
set_option maxHeartbeats 4000000 in
theorem b_X12_write_74b {p : Program} {l : Launch} {e : Env} {s : State} {m : MethodId} {args : Array Value} {below : List Frame} {meth : Method} {c : Code} {D : va_G} {h : Nat → Nat} {cy : Nat → ClassId} (X : Cx p s m args c D h cy RX12 cX12_write 5) (hr : meth.sig.returnType = some .int) (hk : meth.locks = false) (K48 : (Int32 × Int32 × St) → Option (Int32 × St)) (hK48 : ∀ (a : Int32 × Int32 × St) (y : Int32 × St), K48 a = some y → ∀ (H : Heap) (locs : List Loc) (ls : Array Slot), Zt D h cy s a.2.2 H locs → lv_has ls 5 [(0, .ref (h 68)), (1, .int a.1), (2, .int a.2.1)] → W p l e (rmz 3 78) s m args below meth c H locs 0 0 (EI below args s D h cy y) (F0 m 48 ls [])) (K74 : (Int32 × Int32 × Int32 × St) → Option (Int32 × St)) (hK74 : ∀ (a : Int32 × Int32 × Int32 × St) (y : Int32 × St), K74 a = some y → ∀ (H : Heap) (locs : List Loc) (ls : Array Slot), Zt D h cy s a.2.2.2 H locs → lv_has ls 5 [(0, .ref (h 68)), (1, .int a.1), (2, .int a.2.1), (3, .int a.2.2.1)] → W p l e (rmz 3 78) s m args below meth c H locs 0 0 (EI below args s D h cy y) (F0 m 74 ls [])) (x1 : Int32) (x2 : Int32) (x3 : Int32) (σ : St) (y : Int32 × St) (hf : f_X12_write_74b K48 K74 x1 x2 x3 σ = some y) : ∀ (H : Heap) (locs : List Loc) (ls : Array Slot), Zt D h cy s σ H locs → lv_has ls 5 [(0, .ref (h 68)), (1, .int x1), (2, .int x2), (3, .int x3)] → W p l e (rmz 3 78) s m args below meth c H locs 0 0 (EI below args s D h cy y) (F0 m 74 ls []) := by
  intro H locs ls Z hl
  have hx := X.x
  have hb := X.b
  unfold f_X12_write_74b at hf
  refine lv_iload_n hx hb dX12_write_74 rfl (lv_at hl 3 rfl) ?_
  refine lv_aload_n hx hb dX12_write_75 rfl (lv_at hl 0 rfl) ?_
  refine gf_RX12_24 X Z dX12_write_76 ?_
  refine lv_iload_n hx hb dX12_write_79 rfl (lv_at hl 2 rfl) ?_
  obtain ⟨g68, hf⟩ := gd_s hf
  refine x_iald (k := 71) X Z sh_71 g68 dX12_write_80 ?_
  refine lv_icmp_ge (tgt := 108) hx hb dX12_write_81 (by decide) (fun c69 => ?_) (fun c69 => ?_)
  · have hf := itp c69 hf
    obtain ⟨v70, ev70⟩ : ∃ z : Int32, z = x2 + 1 := ⟨_, rfl⟩
    have hf := zn_e ev70 hf
    refine lv_iinc (v := v70) (lv' := [(2, .int v70), (0, .ref (h 68)), (1, .int x1), (3, .int x3)]) hx hb dX12_write_108 hl (k := 2) rfl (by rw [ev70]; rfl) (by decide) rfl (fun ls hl => ?_)
    refine lv_goto (tgt := 48) hx hb dX12_write_111 (by decide) ?_
    exact hK48 (x1, v70, σ) _ hf _ _ _ Z (lv_sub hl [1, 2, 0] rfl)
  · have hf := itn c69 hf
    refine lv_aload_n hx hb dX12_write_84 rfl (lv_at hl 0 rfl) ?_
    refine lv_aload_n hx hb dX12_write_85 rfl (lv_at hl 0 rfl) ?_
    refine gf_RX12_30 X Z dX12_write_86 ?_
    refine lv_sipush (v := 1024) hx hb dX12_write_89 (by decide) ?_
    refine lv_iload_n hx hb dX12_write_92 rfl (lv_at hl 2 rfl) ?_
    refine lv_imul hx hb dX12_write_93 ?_
    refine lv_iload_n hx hb dX12_write_94 rfl (lv_at hl 3 rfl) ?_
    refine lv_iadd hx hb dX12_write_95 ?_
    obtain ⟨g71, hf⟩ := gd_s hf
    refine x_iald (k := 73) X Z sh_73 g71 dX12_write_96 ?_
    refine lv_i2l (v := ((σ.1 73 ((((1024 : Int32) * x2) + x3)).toNatClampNeg)).toInt64) hx hb dX12_write_97 rfl ?_
    refine lv_iconst (v := 1) hx hb dX12_write_98 (by decide) ?_
    obtain ⟨s73, h72, hf⟩ := bv_s hf
    refine goV Z (run_V (As := [.long (((σ.1 73 ((((1024 : Int32) * x2) + x3)).toNatClampNeg)).toInt64), .int (1 : Int32)]) (rest := []) X Z (c_X12_put l D h cy (((σ.1 73 ((((1024 : Int32) * x2) + x3)).toNatClampNeg)).toInt64) (1 : Int32) σ s73 h72 _) lk_RX12_216 ⟨by decide, by decide⟩ rv_68 rfl hl.1 rfl (Nat.le_of_ble_eq_true rfl) ⟨Nat.le_refl _, Nat.le_refl _⟩ dX12_write_99) (fun H locs Z => ?_)
    obtain ⟨v74, ev74⟩ : ∃ z : Int32, z = x3 + 1 := ⟨_, rfl⟩
    have hf := zn_e ev74 hf
    refine lv_iinc (v := v74) (lv' := [(3, .int v74), (0, .ref (h 68)), (1, .int x1), (2, .int x2)]) hx hb dX12_write_102 hl (k := 3) rfl (by rw [ev74]; rfl) (by decide) rfl (fun ls hl => ?_)
    refine lv_goto (tgt := 74) hx hb dX12_write_105 (by decide) ?_
    exact hK74 (x1, x2, v74, s73) _ hf _ _ _ Z (lv_sub hl [1, 2, 3, 0] rfl)

set_option maxRecDepth 100000 in
set_option maxHeartbeats 4000000 in
theorem b_X12_write_74 {p : Program} {l : Launch} {e : Env} {s : State} {m : MethodId} {args : Array Value} {below : List Frame} {meth : Method} {c : Code} {D : va_G} {h : Nat → Nat} {cy : Nat → ClassId} (X : Cx p s m args c D h cy RX12 cX12_write 5) (hr : meth.sig.returnType = some .int) (hk : meth.locks = false) (K48 : (Int32 × Int32 × St) → Option (Int32 × St)) (hK48 : ∀ (a : Int32 × Int32 × St) (y : Int32 × St), K48 a = some y → ∀ (H : Heap) (locs : List Loc) (ls : Array Slot), Zt D h cy s a.2.2 H locs → lv_has ls 5 [(0, .ref (h 68)), (1, .int a.1), (2, .int a.2.1)] → W p l e (rmz 3 78) s m args below meth c H locs 0 0 (EI below args s D h cy y) (F0 m 48 ls [])) (x1 : Int32) (x2 : Int32) (x3 : Int32) (σ : St) (y : Int32 × St) (hf : f_X12_write_74 K48 x1 x2 x3 σ = some y) : ∀ (H : Heap) (locs : List Loc) (ls : Array Slot), Zt D h cy s σ H locs → lv_has ls 5 [(0, .ref (h 68)), (1, .int x1), (2, .int x2), (3, .int x3)] → W p l e (rmz 3 78) s m args below meth c H locs 0 0 (EI below args s D h cy y) (F0 m 74 ls []) := by
  exact it_W (F := fun K a => f_X12_write_74b K48 K a.1 a.2.1 a.2.2.1 a.2.2.2) (P := fun a y => ∀ (H : Heap) (locs : List Loc) (ls : Array Slot), Zt D h cy s a.2.2.2 H locs → lv_has ls 5 [(0, .ref (h 68)), (1, .int a.1), (2, .int a.2.1), (3, .int a.2.2.1)] → W p l e (rmz 3 78) s m args below meth c H locs 0 0 (EI below args s D h cy y) (F0 m 74 ls [])) (fun K hK a y hf => b_X12_write_74b X hr hk K48 hK48 K hK (a.1) (a.2.1) (a.2.2.1) (a.2.2.2) y hf) FU _ y hf

set_option maxRecDepth 100000 in
set_option maxHeartbeats 4000000 in
theorem b_X12_write_48b {p : Program} {l : Launch} {e : Env} {s : State} {m : MethodId} {args : Array Value} {below : List Frame} {meth : Method} {c : Code} {D : va_G} {h : Nat → Nat} {cy : Nat → ClassId} (X : Cx p s m args c D h cy RX12 cX12_write 5) (hr : meth.sig.returnType = some .int) (hk : meth.locks = false) (K48 : (Int32 × Int32 × St) → Option (Int32 × St)) (hK48 : ∀ (a : Int32 × Int32 × St) (y : Int32 × St), K48 a = some y → ∀ (H : Heap) (locs : List Loc) (ls : Array Slot), Zt D h cy s a.2.2 H locs → lv_has ls 5 [(0, .ref (h 68)), (1, .int a.1), (2, .int a.2.1)] → W p l e (rmz 3 78) s m args below meth c H locs 0 0 (EI below args s D h cy y) (F0 m 48 ls [])) (x1 : Int32) (x2 : Int32) (σ : St) (y : Int32 × St) (hf : f_X12_write_48b K48 x1 x2 σ = some y) : ∀ (H : Heap) (locs : List Loc) (ls : Array Slot), Zt D h cy s σ H locs → lv_has ls 5 [(0, .ref (h 68)), (1, .int x1), (2, .int x2)] → W p l e (rmz 3 78) s m args below meth c H locs 0 0 (EI below args s D h cy y) (F0 m 48 ls []) := by
  intro H locs ls Z hl
  have hx := X.x
  have hb := X.b
  unfold f_X12_write_48b at hf
  refine lv_iload_n hx hb dX12_write_48 rfl (lv_at hl 2 rfl) ?_
  refine lv_aload_n hx hb dX12_write_49 rfl (lv_at hl 0 rfl) ?_
  refine gf_RX12_174 X Z dX12_write_50 ?_
  refine lv_icmp_ge (tgt := 114) hx hb dX12_write_53 (by decide) (fun c7 => ?_) (fun c7 => ?_)
  · have hf := itp c7 hf
    refine lv_aload_n hx hb dX12_write_114 rfl (lv_at hl 0 rfl) ?_
    refine lv_bipush (v := 8) hx hb dX12_write_115 (by decide) ?_
    obtain ⟨s9, h8, hf⟩ := bv_s hf
    refine goV Z (run_V (As := [.int (8 : Int32)]) (rest := []) X Z (c_X12_even l D h cy (8 : Int32) σ s9 h8 _) lk_RX12_227 ⟨by decide, by decide⟩ rv_68 rfl hl.1 rfl (Nat.le_of_ble_eq_true rfl) ⟨Nat.le_refl _, Nat.le_refl _⟩ dX12_write_117) (fun H locs Z => ?_)
    refine lv_aload_n hx hb dX12_write_120 rfl (lv_at hl 0 rfl) ?_
    obtain ⟨s11, h10, hf⟩ := bv_s hf
    refine goV Z (run_V (As := []) (rest := []) X Z (c_X12_writeFixups l D h cy s9 s11 h10 _) lk_RX12_230 ⟨by decide, by decide⟩ rv_68 rfl hl.1 rfl (Nat.le_of_ble_eq_true rfl) ⟨Nat.le_refl _, Nat.le_refl _⟩ dX12_write_121) (fun H locs Z => ?_)
    refine lv_aload_n hx hb dX12_write_124 rfl (lv_at hl 0 rfl) ?_
    refine lv_bipush (v := 8) hx hb dX12_write_125 (by decide) ?_
    obtain ⟨s13, h12, hf⟩ := bv_s hf
    refine goV Z (run_V (As := [.int (8 : Int32)]) (rest := []) X Z (c_X12_even l D h cy (8 : Int32) s11 s13 h12 _) lk_RX12_227 ⟨by decide, by decide⟩ rv_68 rfl hl.1 rfl (Nat.le_of_ble_eq_true rfl) ⟨Nat.le_refl _, Nat.le_refl _⟩ dX12_write_127) (fun H locs Z => ?_)
    refine lv_aload_n hx hb dX12_write_130 rfl (lv_at hl 0 rfl) ?_
    refine lv_aload_n hx hb dX12_write_131 rfl (lv_at hl 0 rfl) ?_
    refine gf_RX12_213 X Z dX12_write_132 ?_
    refine pf_RX12_233 X Z dX12_write_135 (fun s14 H locs es14 Z => ?_)
    have hf := zn_e es14 hf
    refine lv_iconst (v := 1) hx hb dX12_write_138 (by decide) ?_
    refine lv_topi (fun v15 ev15 => ?_)
    have hf := zn_e ev15 hf
    refine lv_istore_n (lv' := [(2, .int v15), (0, .ref (h 68)), (1, .int x1)]) hx hb dX12_write_139 rfl hl (by decide) rfl (fun ls hl => ?_)
    refine lv_iconst (v := 0) hx hb dX12_write_140 (by decide) ?_
    refine lv_topi (fun v16 ev16 => ?_)
    have hf := zn_e ev16 hf
    refine lv_istore_n (lv' := [(3, .int v16), (2, .int v15), (0, .ref (h 68)), (1, .int x1)]) hx hb dX12_write_141 rfl hl (by decide) rfl (fun ls hl => ?_)
    exact b_X12_write_142 X hr hk x1 v15 v16 s14 _ hf _ _ _ Z (lv_sub hl [2, 3, 1, 0] rfl)
  · have hf := itn c7 hf
    refine lv_aload_n hx hb dX12_write_56 rfl (lv_at hl 0 rfl) ?_
    refine lv_bipush (v := 8) hx hb dX12_write_57 (by decide) ?_
    obtain ⟨s64, h63, hf⟩ := bv_s hf
    refine goV Z (run_V (As := [.int (8 : Int32)]) (rest := []) X Z (c_X12_even l D h cy (8 : Int32) σ s64 h63 _) lk_RX12_227 ⟨by decide, by decide⟩ rv_68 rfl hl.1 rfl (Nat.le_of_ble_eq_true rfl) ⟨Nat.le_refl _, Nat.le_refl _⟩ dX12_write_59) (fun H locs Z => ?_)
    refine lv_aload_n hx hb dX12_write_62 rfl (lv_at hl 0 rfl) ?_
    refine gf_RX12_80 X Z dX12_write_63 ?_
    refine lv_iload_n hx hb dX12_write_66 rfl (lv_at hl 2 rfl) ?_
    refine lv_aload_n hx hb dX12_write_67 rfl (lv_at hl 0 rfl) ?_
    refine gf_RX12_213 X Z dX12_write_68 ?_
    obtain ⟨g65, hf⟩ := gd_s hf
    refine x_iast (k := 89) X Z sh_89 g65 dX12_write_71 (fun s66 H locs es66 Z => ?_)
    have hf := zn_e es66 hf
    refine lv_iconst (v := 0) hx hb dX12_write_72 (by decide) ?_
    refine lv_topi (fun v67 ev67 => ?_)
    have hf := zn_e ev67 hf
    refine lv_istore_n (lv' := [(3, .int v67), (0, .ref (h 68)), (1, .int x1), (2, .int x2)]) hx hb dX12_write_73 rfl hl (by decide) rfl (fun ls hl => ?_)
    exact b_X12_write_74 X hr hk K48 hK48 x1 x2 v67 s66 _ hf _ _ _ Z (lv_sub hl [1, 2, 3, 0] rfl)

set_option maxRecDepth 100000 in
set_option maxHeartbeats 4000000 in
theorem b_X12_write_48 {p : Program} {l : Launch} {e : Env} {s : State} {m : MethodId} {args : Array Value} {below : List Frame} {meth : Method} {c : Code} {D : va_G} {h : Nat → Nat} {cy : Nat → ClassId} (X : Cx p s m args c D h cy RX12 cX12_write 5) (hr : meth.sig.returnType = some .int) (hk : meth.locks = false) (x1 : Int32) (x2 : Int32) (σ : St) (y : Int32 × St) (hf : f_X12_write_48 x1 x2 σ = some y) : ∀ (H : Heap) (locs : List Loc) (ls : Array Slot), Zt D h cy s σ H locs → lv_has ls 5 [(0, .ref (h 68)), (1, .int x1), (2, .int x2)] → W p l e (rmz 3 78) s m args below meth c H locs 0 0 (EI below args s D h cy y) (F0 m 48 ls []) := by
  exact it_W (F := fun K a => f_X12_write_48b K a.1 a.2.1 a.2.2) (P := fun a y => ∀ (H : Heap) (locs : List Loc) (ls : Array Slot), Zt D h cy s a.2.2 H locs → lv_has ls 5 [(0, .ref (h 68)), (1, .int a.1), (2, .int a.2.1)] → W p l e (rmz 3 78) s m args below meth c H locs 0 0 (EI below args s D h cy y) (F0 m 48 ls [])) (fun K hK a y hf => b_X12_write_48b X hr hk K hK (a.1) (a.2.1) (a.2.2) y hf) FU _ y hf

set_option maxRecDepth 100000 in
set_option maxHeartbeats 4000000 in
theorem b_X12_write_10b {p : Program} {l : Launch} {e : Env} {s : State} {m : MethodId} {args : Array Value} {below : List Frame} {meth : Method} {c : Code} {D : va_G} {h : Nat → Nat} {cy : Nat → ClassId} (X : Cx p s m args c D h cy RX12 cX12_write 5) (hr : meth.sig.returnType = some .int) (hk : meth.locks = false) (K10 : (Int32 × Int32 × St) → Option (Int32 × St)) (hK10 : ∀ (a : Int32 × Int32 × St) (y : Int32 × St), K10 a = some y → ∀ (H : Heap) (locs : List Loc) (ls : Array Slot), Zt D h cy s a.2.2 H locs → lv_has ls 5 [(0, .ref (h 68)), (1, .int a.1), (2, .int a.2.1)] → W p l e (rmz 3 78) s m args below meth c H locs 0 0 (EI below args s D h cy y) (F0 m 10 ls [])) (x1 : Int32) (x2 : Int32) (σ : St) (y : Int32 × St) (hf : f_X12_write_10b K10 x1 x2 σ = some y) : ∀ (H : Heap) (locs : List Loc) (ls : Array Slot), Zt D h cy s σ H locs → lv_has ls 5 [(0, .ref (h 68)), (1, .int x1), (2, .int x2)] → W p l e (rmz 3 78) s m args below meth c H locs 0 0 (EI below args s D h cy y) (F0 m 10 ls []) := by
  intro H locs ls Z hl
  have hx := X.x
  have hb := X.b
  unfold f_X12_write_10b at hf
  refine lv_iload_n hx hb dX12_write_10 rfl (lv_at hl 2 rfl) ?_
  refine lv_aload_n hx hb dX12_write_11 rfl (lv_at hl 0 rfl) ?_
  refine gf_RX12_174 X Z dX12_write_12 ?_
  refine lv_icmp_ge (tgt := 38) hx hb dX12_write_15 (by decide) (fun c4 => ?_) (fun c4 => ?_)
  · have hf := itp c4 hf
    refine lv_aload_n hx hb dX12_write_38 rfl (lv_at hl 0 rfl) ?_
    refine lv_bipush (v := 32) hx hb dX12_write_39 (by decide) ?_
    refine lv_iload_n hx hb dX12_write_41 rfl (lv_at hl 1 rfl) ?_
    refine lv_iadd hx hb dX12_write_42 ?_
    refine pf_RX12_213 X Z dX12_write_43 (fun s5 H locs es5 Z => ?_)
    have hf := zn_e es5 hf
    refine lv_iconst (v := 0) hx hb dX12_write_46 (by decide) ?_
    refine lv_topi (fun v6 ev6 => ?_)
    have hf := zn_e ev6 hf
    refine lv_istore_n (lv' := [(2, .int v6), (0, .ref (h 68)), (1, .int x1)]) hx hb dX12_write_47 rfl hl (by decide) rfl (fun ls hl => ?_)
    exact b_X12_write_48 X hr hk x1 v6 s5 _ hf _ _ _ Z (lv_sub hl [1, 2, 0] rfl)
  · have hf := itn c4 hf
    refine lv_iload_n hx hb dX12_write_18 rfl (lv_at hl 1 rfl) ?_
    refine lv_bipush (v := 72) hx hb dX12_write_19 (by decide) ?_
    refine lv_bipush (v := 80) hx hb dX12_write_21 (by decide) ?_
    refine lv_aload_n hx hb dX12_write_23 rfl (lv_at hl 0 rfl) ?_
    refine lv_iload_n hx hb dX12_write_24 rfl (lv_at hl 2 rfl) ?_
    obtain ⟨r77, s76, h75, hf⟩ := bi_s hf
    refine goI Z (run_V (As := [.int x2]) (rest := [.int (80 : Int32), .int (72 : Int32), .int x1]) X Z (c_X12_sectionsOf l D h cy x2 σ (r77, s76) h75 _) lk_RX12_224 ⟨by decide, by decide⟩ rv_68 rfl hl.1 rfl (Nat.le_of_ble_eq_true rfl) ⟨Nat.le_refl _, Nat.le_refl _⟩ dX12_write_25) (fun H locs Z => ?_)
    refine lv_imul hx hb dX12_write_28 ?_
    refine lv_iadd hx hb dX12_write_29 ?_
    refine lv_iadd hx hb dX12_write_30 ?_
    refine lv_topi (fun v78 ev78 => ?_)
    have hf := zn_e ev78 hf
    refine lv_istore_n (lv' := [(1, .int v78), (0, .ref (h 68)), (2, .int x2)]) hx hb dX12_write_31 rfl hl (by decide) rfl (fun ls hl => ?_)
    obtain ⟨v79, ev79⟩ : ∃ z : Int32, z = x2 + 1 := ⟨_, rfl⟩
    have hf := zn_e ev79 hf
    refine lv_iinc (v := v79) (lv' := [(2, .int v79), (1, .int v78), (0, .ref (h 68))]) hx hb dX12_write_32 hl (k := 2) rfl (by rw [ev79]; rfl) (by decide) rfl (fun ls hl => ?_)
    refine lv_goto (tgt := 10) hx hb dX12_write_35 (by decide) ?_
    exact hK10 (v78, v79, s76) _ hf _ _ _ Z (lv_sub hl [2, 1, 0] rfl)

set_option maxRecDepth 100000 in
set_option maxHeartbeats 4000000 in
theorem b_X12_write_10 {p : Program} {l : Launch} {e : Env} {s : State} {m : MethodId} {args : Array Value} {below : List Frame} {meth : Method} {c : Code} {D : va_G} {h : Nat → Nat} {cy : Nat → ClassId} (X : Cx p s m args c D h cy RX12 cX12_write 5) (hr : meth.sig.returnType = some .int) (hk : meth.locks = false) (x1 : Int32) (x2 : Int32) (σ : St) (y : Int32 × St) (hf : f_X12_write_10 x1 x2 σ = some y) : ∀ (H : Heap) (locs : List Loc) (ls : Array Slot), Zt D h cy s σ H locs → lv_has ls 5 [(0, .ref (h 68)), (1, .int x1), (2, .int x2)] → W p l e (rmz 3 78) s m args below meth c H locs 0 0 (EI below args s D h cy y) (F0 m 10 ls []) := by
  exact it_W (F := fun K a => f_X12_write_10b K a.1 a.2.1 a.2.2) (P := fun a y => ∀ (H : Heap) (locs : List Loc) (ls : Array Slot), Zt D h cy s a.2.2 H locs → lv_has ls 5 [(0, .ref (h 68)), (1, .int a.1), (2, .int a.2.1)] → W p l e (rmz 3 78) s m args below meth c H locs 0 0 (EI below args s D h cy y) (F0 m 10 ls [])) (fun K hK a y hf => b_X12_write_10b X hr hk K hK (a.1) (a.2.1) (a.2.2) y hf) FU _ y hf

set_option maxRecDepth 100000 in
set_option maxHeartbeats 4000000 in
theorem c_X12_write (l : Launch) (D : va_G) (h : Nat → Nat) (cy : Nat → ClassId) (σ : St) (y : Int32 × St) (hf : f_X12_write σ = some y) : CI l yX12_write cX12_write 5 (some .int) 3 78 D h cy [.ref (h 68)] σ y := by
  refine ent (Qc := fun sz => QI D h cy sz y) (by decide) (Nat.le_of_ble_eq_true rfl) ?_
  intro p e s m below meth c ls X Z hr hk hl
  have X : Cx p s m _ c D h cy RX12 cX12_write 5 := X
  have hx := X.x
  have hb := X.b
  have hl : lv_has ls 5 [(0, .ref (h 68))] := hl
  unfold f_X12_write at hf
  refine lv_aload_n hx hb dX12_write_0 rfl (lv_at hl 0 rfl) ?_
  refine lv_iconst (v := 0) hx hb dX12_write_1 (by decide) ?_
  refine pf_RX12_149 X Z dX12_write_2 (fun s1 H locs es1 Z => ?_)
  have hf := zn_e es1 hf
  refine lv_bipush (v := 40) hx hb dX12_write_5 (by decide) ?_
  refine lv_topi (fun v2 ev2 => ?_)
  have hf := zn_e ev2 hf
  refine lv_istore_n (lv' := [(1, .int v2), (0, .ref (h 68))]) hx hb dX12_write_7 rfl hl (by decide) rfl (fun ls hl => ?_)
  refine lv_iconst (v := 0) hx hb dX12_write_8 (by decide) ?_
  refine lv_topi (fun v3 ev3 => ?_)
  have hf := zn_e ev3 hf
  refine lv_istore_n (lv' := [(2, .int v3), (1, .int v2), (0, .ref (h 68))]) hx hb dX12_write_9 rfl hl (by decide) rfl (fun ls hl => ?_)
  exact b_X12_write_10 X hr hk v2 v3 s1 _ hf _ _ _ Z (lv_sub hl [2, 1, 0] rfl)

set_option maxRecDepth 100000 in
set_option maxHeartbeats 4000000 in
theorem c_X12_image (l : Launch) (D : va_G) (h : Nat → Nat) (cy : Nat → ClassId) (a1 : Int32) (σ : St) (y : Int32 × St) (hf : f_X12_image a1 σ = some y) : CI l yX12_image cX12_image 2 (some .int) 0 0 D h cy [.ref (h 68), .int a1] σ y := by
  refine ent (Qc := fun sz => QI D h cy sz y) (by decide) (Nat.le_of_ble_eq_true rfl) ?_
  intro p e s m below meth c ls X Z hr hk hl
  have X : Cx p s m _ c D h cy RX12 cX12_image 2 := X
  have hx := X.x
  have hb := X.b
  have hl : lv_has ls 2 [(0, .ref (h 68)), (1, .int a1)] := hl
  unfold f_X12_image at hf
  refine lv_aload_n hx hb dX12_image_0 rfl (lv_at hl 0 rfl) ?_
  refine lv_iconst (v := 0) hx hb dX12_image_1 (by decide) ?_
  refine pf_RX12_149 X Z dX12_image_2 (fun s1 H locs es1 Z => ?_)
  have hf := zn_e es1 hf
  refine lv_iload_n hx hb dX12_image_5 rfl (lv_at hl 1 rfl) ?_
  refine lv_if_lt (tgt := 17) hx hb dX12_image_6 (by decide) (fun c2 => ?_) (fun c2 => ?_)
  · have hf := itp c2 hf
    refine lv_iconst (v := (-1)) hx hb dX12_image_17 (by decide) ?_
    refine lv_goto (tgt := 27) hx hb dX12_image_18 (by decide) ?_
    exact retI X hr hk Z hf dX12_image_27
  · have hf := itn c2 hf
    refine lv_iload_n hx hb dX12_image_9 rfl (lv_at hl 1 rfl) ?_
    refine lv_aload_n hx hb dX12_image_10 rfl (lv_at hl 0 rfl) ?_
    refine gf_RX12_253 X Z dX12_image_11 ?_
    refine lv_icmp_lt (tgt := 21) hx hb dX12_image_14 (by decide) (fun c3 => ?_) (fun c3 => ?_)
    · have hf := itp c3 hf
      refine lv_aload_n hx hb dX12_image_21 rfl (lv_at hl 0 rfl) ?_
      refine gf_RX12_77 X Z dX12_image_22 ?_
      refine lv_iload_n hx hb dX12_image_25 rfl (lv_at hl 1 rfl) ?_
      obtain ⟨g4, hf⟩ := gd_s hf
      refine x_iald (k := 88) X Z sh_88 g4 dX12_image_26 ?_
      exact retI X hr hk Z hf dX12_image_27
    · have hf := itn c3 hf
      refine lv_iconst (v := (-1)) hx hb dX12_image_17 (by decide) ?_
      refine lv_goto (tgt := 27) hx hb dX12_image_18 (by decide) ?_
      exact retI X hr hk Z hf dX12_image_27

set_option maxRecDepth 100000 in
set_option maxHeartbeats 4000000 in
theorem c_X12_damage (l : Launch) (D : va_G) (h : Nat → Nat) (cy : Nat → ClassId) (a1 : Int32) (a2 : Int32) (σ : St) (y : Int32 × St) (hf : f_X12_damage a1 a2 σ = some y) : CI l yX12_damage cX12_damage 3 (some .boolean) 0 0 D h cy [.ref (h 68), .int a1, .int a2] σ y := by
  refine ent (Qc := fun sz => QI D h cy sz y) (by decide) (Nat.le_of_ble_eq_true rfl) ?_
  intro p e s m below meth c ls X Z hr hk hl
  have X : Cx p s m _ c D h cy RX12 cX12_damage 3 := X
  have hx := X.x
  have hb := X.b
  have hl : lv_has ls 3 [(0, .ref (h 68)), (1, .int a1), (2, .int a2)] := hl
  unfold f_X12_damage at hf
  refine lv_aload_n hx hb dX12_damage_0 rfl (lv_at hl 0 rfl) ?_
  refine lv_iconst (v := 0) hx hb dX12_damage_1 (by decide) ?_
  refine pf_RX12_149 X Z dX12_damage_2 (fun s1 H locs es1 Z => ?_)
  have hf := zn_e es1 hf
  refine lv_iload_n hx hb dX12_damage_5 rfl (lv_at hl 1 rfl) ?_
  refine lv_if_lt (tgt := 28) hx hb dX12_damage_6 (by decide) (fun c2 => ?_) (fun c2 => ?_)
  · have hf := itp c2 hf
    refine lv_iconst (v := 0) hx hb dX12_damage_28 (by decide) ?_
    exact retZ X hr hk Z (by decide) hf dX12_damage_29
  · have hf := itn c2 hf
    refine lv_iload_n hx hb dX12_damage_9 rfl (lv_at hl 1 rfl) ?_
    refine lv_aload_n hx hb dX12_damage_10 rfl (lv_at hl 0 rfl) ?_
    refine gf_RX12_253 X Z dX12_damage_11 ?_
    refine lv_icmp_ge (tgt := 28) hx hb dX12_damage_14 (by decide) (fun c3 => ?_) (fun c3 => ?_)
    · have hf := itp c3 hf
      refine lv_iconst (v := 0) hx hb dX12_damage_28 (by decide) ?_
      exact retZ X hr hk Z (by decide) hf dX12_damage_29
    · have hf := itn c3 hf
      refine lv_iload_n hx hb dX12_damage_17 rfl (lv_at hl 2 rfl) ?_
      refine lv_if_lt (tgt := 28) hx hb dX12_damage_18 (by decide) (fun c4 => ?_) (fun c4 => ?_)
      · have hf := itp c4 hf
        refine lv_iconst (v := 0) hx hb dX12_damage_28 (by decide) ?_
        exact retZ X hr hk Z (by decide) hf dX12_damage_29
      · have hf := itn c4 hf
        refine lv_iload_n hx hb dX12_damage_21 rfl (lv_at hl 2 rfl) ?_
        refine lv_sipush (v := 255) hx hb dX12_damage_22 (by decide) ?_
        refine lv_icmp_le (tgt := 30) hx hb dX12_damage_25 (by decide) (fun c5 => ?_) (fun c5 => ?_)
        · have hf := itp c5 hf
          refine lv_aload_n hx hb dX12_damage_30 rfl (lv_at hl 0 rfl) ?_
          refine gf_RX12_77 X Z dX12_damage_31 ?_
          refine lv_iload_n hx hb dX12_damage_34 rfl (lv_at hl 1 rfl) ?_
          refine lv_iload_n hx hb dX12_damage_35 rfl (lv_at hl 2 rfl) ?_
          obtain ⟨g6, hf⟩ := gd_s hf
          refine x_iast (k := 88) X Z sh_88 g6 dX12_damage_36 (fun s7 H locs es7 Z => ?_)
          have hf := zn_e es7 hf
          refine lv_iconst (v := 1) hx hb dX12_damage_37 (by decide) ?_
          exact retZ X hr hk Z (by decide) hf dX12_damage_38
        · have hf := itn c5 hf
          refine lv_iconst (v := 0) hx hb dX12_damage_28 (by decide) ?_
          exact retZ X hr hk Z (by decide) hf dX12_damage_29

set_option maxRecDepth 100000 in
set_option maxHeartbeats 4000000 in
theorem c_X12_cut (l : Launch) (D : va_G) (h : Nat → Nat) (cy : Nat → ClassId) (a1 : Int32) (σ : St) (y : Int32 × St) (hf : f_X12_cut a1 σ = some y) : CI l yX12_cut cX12_cut 2 (some .boolean) 0 0 D h cy [.ref (h 68), .int a1] σ y := by
  refine ent (Qc := fun sz => QI D h cy sz y) (by decide) (Nat.le_of_ble_eq_true rfl) ?_
  intro p e s m below meth c ls X Z hr hk hl
  have X : Cx p s m _ c D h cy RX12 cX12_cut 2 := X
  have hx := X.x
  have hb := X.b
  have hl : lv_has ls 2 [(0, .ref (h 68)), (1, .int a1)] := hl
  unfold f_X12_cut at hf
  refine lv_aload_n hx hb dX12_cut_0 rfl (lv_at hl 0 rfl) ?_
  refine lv_iconst (v := 0) hx hb dX12_cut_1 (by decide) ?_
  refine pf_RX12_149 X Z dX12_cut_2 (fun s1 H locs es1 Z => ?_)
  have hf := zn_e es1 hf
  refine lv_iload_n hx hb dX12_cut_5 rfl (lv_at hl 1 rfl) ?_
  refine lv_if_lt (tgt := 17) hx hb dX12_cut_6 (by decide) (fun c2 => ?_) (fun c2 => ?_)
  · have hf := itp c2 hf
    refine lv_iconst (v := 0) hx hb dX12_cut_17 (by decide) ?_
    exact retZ X hr hk Z (by decide) hf dX12_cut_18
  · have hf := itn c2 hf
    refine lv_iload_n hx hb dX12_cut_9 rfl (lv_at hl 1 rfl) ?_
    refine lv_aload_n hx hb dX12_cut_10 rfl (lv_at hl 0 rfl) ?_
    refine gf_RX12_253 X Z dX12_cut_11 ?_
    refine lv_icmp_le (tgt := 19) hx hb dX12_cut_14 (by decide) (fun c3 => ?_) (fun c3 => ?_)
    · have hf := itp c3 hf
      refine lv_aload_n hx hb dX12_cut_19 rfl (lv_at hl 0 rfl) ?_
      refine lv_iload_n hx hb dX12_cut_20 rfl (lv_at hl 1 rfl) ?_
      refine pf_RX12_253 X Z dX12_cut_21 (fun s4 H locs es4 Z => ?_)
      have hf := zn_e es4 hf
      refine lv_iconst (v := 1) hx hb dX12_cut_24 (by decide) ?_
      exact retZ X hr hk Z (by decide) hf dX12_cut_25
    · have hf := itn c3 hf
      refine lv_iconst (v := 0) hx hb dX12_cut_17 (by decide) ?_
      exact retZ X hr hk Z (by decide) hf dX12_cut_18

set_option maxRecDepth 100000 in
set_option maxHeartbeats 4000000 in
theorem b_X12_isTaped_13b {p : Program} {l : Launch} {e : Env} {s : State} {m : MethodId} {args : Array Value} {below : List Frame} {meth : Method} {c : Code} {D : va_G} {h : Nat → Nat} {cy : Nat → ClassId} (X : Cx p s m args c D h cy RX12 cX12_isTaped 4) (hr : meth.sig.returnType = some .boolean) (hk : meth.locks = false) (K13 : (Int32 × Int32 × Int32 × St) → Option (Int32 × St)) (hK13 : ∀ (a : Int32 × Int32 × Int32 × St) (y : Int32 × St), K13 a = some y → ∀ (H : Heap) (locs : List Loc) (ls : Array Slot), Zt D h cy s a.2.2.2 H locs → lv_has ls 4 [(0, .ref (h 68)), (1, .int a.1), (2, .int a.2.1), (3, .int a.2.2.1)] → W p l e (rmz 1 22) s m args below meth c H locs 0 0 (EI below args s D h cy y) (F0 m 13 ls [])) (x1 : Int32) (x2 : Int32) (x3 : Int32) (σ : St) (y : Int32 × St) (hf : f_X12_isTaped_13b K13 x1 x2 x3 σ = some y) : ∀ (H : Heap) (locs : List Loc) (ls : Array Slot), Zt D h cy s σ H locs → lv_has ls 4 [(0, .ref (h 68)), (1, .int x1), (2, .int x2), (3, .int x3)] → W p l e (rmz 1 22) s m args below meth c H locs 0 0 (EI below args s D h cy y) (F0 m 13 ls []) := by
  intro H locs ls Z hl
  have hx := X.x
  have hb := X.b
  unfold f_X12_isTaped_13b at hf
  refine lv_iload_n hx hb dX12_isTaped_13 rfl (lv_at hl 3 rfl) ?_
  refine lv_iload_n hx hb dX12_isTaped_14 rfl (lv_at hl 2 rfl) ?_
  refine lv_icmp_ge (tgt := 46) hx hb dX12_isTaped_15 (by decide) (fun c6 => ?_) (fun c6 => ?_)
  · have hf := itp c6 hf
    refine lv_iconst (v := 1) hx hb dX12_isTaped_46 (by decide) ?_
    exact retZ X hr hk Z (by decide) hf dX12_isTaped_47
  · have hf := itn c6 hf
    refine lv_aload_n hx hb dX12_isTaped_18 rfl (lv_at hl 0 rfl) ?_
    refine gf_RX12_13 X Z dX12_isTaped_19 ?_
    refine lv_bipush (v := 16) hx hb dX12_isTaped_22 (by decide) ?_
    refine lv_iload_n hx hb dX12_isTaped_24 rfl (lv_at hl 1 rfl) ?_
    refine lv_imul hx hb dX12_isTaped_25 ?_
    refine lv_iload_n hx hb dX12_isTaped_26 rfl (lv_at hl 3 rfl) ?_
    refine lv_iadd hx hb dX12_isTaped_27 ?_
    obtain ⟨g7, hf⟩ := gd_s hf
    refine x_iald (k := 70) X Z sh_70 g7 dX12_isTaped_28 ?_
    refine lv_aload_n hx hb dX12_isTaped_29 rfl (lv_at hl 0 rfl) ?_
    refine gf_RX12_7 X Z dX12_isTaped_30 ?_
    refine lv_iload_n hx hb dX12_isTaped_33 rfl (lv_at hl 3 rfl) ?_
    obtain ⟨g8, hf⟩ := gd_s hf
    refine x_iald (k := 69) X Z sh_69 g8 dX12_isTaped_34 ?_
    refine lv_icmp_eq (tgt := 40) hx hb dX12_isTaped_35 (by decide) (fun c9 => ?_) (fun c9 => ?_)
    · have hf := itp c9 hf
      obtain ⟨v10, ev10⟩ : ∃ z : Int32, z = x3 + 1 := ⟨_, rfl⟩
      have hf := zn_e ev10 hf
      refine lv_iinc (v := v10) (lv' := [(3, .int v10), (0, .ref (h 68)), (1, .int x1), (2, .int x2)]) hx hb dX12_isTaped_40 hl (k := 3) rfl (by rw [ev10]; rfl) (by decide) rfl (fun ls hl => ?_)
      refine lv_goto (tgt := 13) hx hb dX12_isTaped_43 (by decide) ?_
      exact hK13 (x1, x2, v10, σ) _ hf _ _ _ Z (lv_sub hl [1, 2, 3, 0] rfl)
    · have hf := itn c9 hf
      refine lv_iconst (v := 0) hx hb dX12_isTaped_38 (by decide) ?_
      exact retZ X hr hk Z (by decide) hf dX12_isTaped_39

set_option maxRecDepth 100000 in
set_option maxHeartbeats 4000000 in
theorem b_X12_isTaped_13 {p : Program} {l : Launch} {e : Env} {s : State} {m : MethodId} {args : Array Value} {below : List Frame} {meth : Method} {c : Code} {D : va_G} {h : Nat → Nat} {cy : Nat → ClassId} (X : Cx p s m args c D h cy RX12 cX12_isTaped 4) (hr : meth.sig.returnType = some .boolean) (hk : meth.locks = false) (x1 : Int32) (x2 : Int32) (x3 : Int32) (σ : St) (y : Int32 × St) (hf : f_X12_isTaped_13 x1 x2 x3 σ = some y) : ∀ (H : Heap) (locs : List Loc) (ls : Array Slot), Zt D h cy s σ H locs → lv_has ls 4 [(0, .ref (h 68)), (1, .int x1), (2, .int x2), (3, .int x3)] → W p l e (rmz 1 22) s m args below meth c H locs 0 0 (EI below args s D h cy y) (F0 m 13 ls []) := by
  exact it_W (F := fun K a => f_X12_isTaped_13b K a.1 a.2.1 a.2.2.1 a.2.2.2) (P := fun a y => ∀ (H : Heap) (locs : List Loc) (ls : Array Slot), Zt D h cy s a.2.2.2 H locs → lv_has ls 4 [(0, .ref (h 68)), (1, .int a.1), (2, .int a.2.1), (3, .int a.2.2.1)] → W p l e (rmz 1 22) s m args below meth c H locs 0 0 (EI below args s D h cy y) (F0 m 13 ls [])) (fun K hK a y hf => b_X12_isTaped_13b X hr hk K hK (a.1) (a.2.1) (a.2.2.1) (a.2.2.2) y hf) FU _ y hf

set_option maxRecDepth 100000 in
set_option maxHeartbeats 4000000 in
theorem c_X12_isTaped (l : Launch) (D : va_G) (h : Nat → Nat) (cy : Nat → ClassId) (a1 : Int32) (a2 : Int32) (σ : St) (y : Int32 × St) (hf : f_X12_isTaped a1 a2 σ = some y) : CI l yX12_isTaped cX12_isTaped 4 (some .boolean) 1 22 D h cy [.ref (h 68), .int a1, .int a2] σ y := by
  refine ent (Qc := fun sz => QI D h cy sz y) (by decide) (Nat.le_of_ble_eq_true rfl) ?_
  intro p e s m below meth c ls X Z hr hk hl
  have X : Cx p s m _ c D h cy RX12 cX12_isTaped 4 := X
  have hx := X.x
  have hb := X.b
  have hl : lv_has ls 4 [(0, .ref (h 68)), (1, .int a1), (2, .int a2)] := hl
  unfold f_X12_isTaped at hf
  refine lv_aload_n hx hb dX12_isTaped_0 rfl (lv_at hl 0 rfl) ?_
  refine lv_iload_n hx hb dX12_isTaped_1 rfl (lv_at hl 1 rfl) ?_
  obtain ⟨r3, s2, h1, hf⟩ := bi_s hf
  refine goI Z (run_V (As := [.int a1]) (rest := []) X Z (c_X12_longOf l D h cy a1 σ (r3, s2) h1 _) lk_RX12_241 ⟨by decide, by decide⟩ rv_68 rfl hl.1 rfl (Nat.le_of_ble_eq_true rfl) ⟨Nat.le_refl _, Nat.le_refl _⟩ dX12_isTaped_2) (fun H locs Z => ?_)
  refine lv_iload_n hx hb dX12_isTaped_5 rfl (lv_at hl 2 rfl) ?_
  refine lv_icmp_eq (tgt := 11) hx hb dX12_isTaped_6 (by decide) (fun c4 => ?_) (fun c4 => ?_)
  · have hf := itp c4 hf
    refine lv_iconst (v := 0) hx hb dX12_isTaped_11 (by decide) ?_
    refine lv_topi (fun v5 ev5 => ?_)
    have hf := zn_e ev5 hf
    refine lv_istore_n (lv' := [(3, .int v5), (0, .ref (h 68)), (1, .int a1), (2, .int a2)]) hx hb dX12_isTaped_12 rfl hl (by decide) rfl (fun ls hl => ?_)
    exact b_X12_isTaped_13 X hr hk a1 a2 v5 s2 _ hf _ _ _ Z (lv_sub hl [1, 2, 3, 0] rfl)
  · have hf := itn c4 hf
    refine lv_iconst (v := 0) hx hb dX12_isTaped_9 (by decide) ?_
    exact retZ X hr hk Z (by decide) hf dX12_isTaped_10

set_option maxRecDepth 100000 in
set_option maxHeartbeats 4000000 in
theorem b_X12_export_19 {p : Program} {l : Launch} {e : Env} {s : State} {m : MethodId} {args : Array Value} {below : List Frame} {meth : Method} {c : Code} {D : va_G} {h : Nat → Nat} {cy : Nat → ClassId} (X : Cx p s m args c D h cy RX12 cX12_export 7) (hr : meth.sig.returnType = some .boolean) (hk : meth.locks = false) (σ : St) (y : Int32 × St) (hf : f_X12_export_19 σ = some y) : ∀ (H : Heap) (locs : List Loc) (ls : Array Slot), Zt D h cy s σ H locs → lv_has ls 7 [(0, .ref (h 68))] → W p l e (rmz 2 45) s m args below meth c H locs 0 0 (EI below args s D h cy y) (F0 m 19 ls []) := by
  intro H locs ls Z hl
  have hx := X.x
  have hb := X.b
  unfold f_X12_export_19 at hf
  refine lv_aload_n hx hb dX12_export_19 rfl (lv_at hl 0 rfl) ?_
  refine lv_iconst (v := 0) hx hb dX12_export_20 (by decide) ?_
  refine pf_RX12_152 X Z dX12_export_21 (fun s3 H locs es3 Z => ?_)
  have hf := zn_e es3 hf
  refine lv_iconst (v := 0) hx hb dX12_export_24 (by decide) ?_
  exact retZ X hr hk Z (by decide) hf dX12_export_25

set_option maxRecDepth 100000 in
set_option maxHeartbeats 4000000 in
theorem b_X12_export_239 {p : Program} {l : Launch} {e : Env} {s : State} {m : MethodId} {args : Array Value} {below : List Frame} {meth : Method} {c : Code} {D : va_G} {h : Nat → Nat} {cy : Nat → ClassId} (X : Cx p s m args c D h cy RX12 cX12_export 7) (hr : meth.sig.returnType = some .boolean) (hk : meth.locks = false) (x2 : Int32) (x5 : Int32) (σ : St) (y : Int32 × St) (hf : f_X12_export_239 x2 x5 σ = some y) : ∀ (H : Heap) (locs : List Loc) (ls : Array Slot), Zt D h cy s σ H locs → lv_has ls 7 [(0, .ref (h 68)), (2, .int x2), (5, .int x5)] → W p l e (rmz 2 45) s m args below meth c H locs 0 0 (EI below args s D h cy y) (F0 m 239 ls []) := by
  intro H locs ls Z hl
  have hx := X.x
  have hb := X.b
  unfold f_X12_export_239 at hf
  refine lv_aload_n hx hb dX12_export_239 rfl (lv_at hl 0 rfl) ?_
  refine gf_RX12_74 X Z dX12_export_240 ?_
  refine lv_iload hx hb dX12_export_243 (lv_at hl 2 rfl) ?_
  refine lv_iload_n hx hb dX12_export_245 rfl (lv_at hl 1 rfl) ?_
  obtain ⟨g16, hf⟩ := gd_s hf
  refine x_iast (k := 87) X Z sh_87 g16 dX12_export_246 (fun s17 H locs es17 Z => ?_)
  have hf := zn_e es17 hf
  refine lv_iconst (v := 1) hx hb dX12_export_247 (by decide) ?_
  exact retZ X hr hk Z (by decide) hf dX12_export_248

set_option maxRecDepth 100000 in
set_option maxHeartbeats 4000000 in
theorem b_X12_export_214 {p : Program} {l : Launch} {e : Env} {s : State} {m : MethodId} {args : Array Value} {below : List Frame} {meth : Method} {c : Code} {D : va_G} {h : Nat → Nat} {cy : Nat → ClassId} (X : Cx p s m args c D h cy RX12 cX12_export 7) (hr : meth.sig.returnType = some .boolean) (hk : meth.locks = false) (K175 : (Int32 × Int32 × Int32 × Int32 × Int32 × St) → Option (Int32 × St)) (hK175 : ∀ (a : Int32 × Int32 × Int32 × Int32 × Int32 × St) (y : Int32 × St), K175 a = some y → ∀ (H : Heap) (locs : List Loc) (ls : Array Slot), Zt D h cy s a.2.2.2.2.2 H locs → lv_has ls 7 [(0, .ref (h 68)), (1, .int a.1), (2, .int a.2.1), (3, .int a.2.2.1), (5, .int a.2.2.2.1), (6, .int a.2.2.2.2.1)] → W p l e (rmz 2 45) s m args below meth c H locs 0 0 (EI below args s D h cy y) (F0 m 175 ls [])) (x1 : Int32) (x2 : Int32) (x3 : Int32) (x5 : Int32) (x6 : Int32) (t0 : Int32) (t1 : Int32) (σ : St) (y : Int32 × St) (hf : f_X12_export_214 K175 x1 x2 x3 x5 x6 t0 t1 σ = some y) : ∀ (H : Heap) (locs : List Loc) (ls : Array Slot), Zt D h cy s σ H locs → lv_has ls 7 [(0, .ref (h 68)), (1, .int x1), (2, .int x2), (3, .int x3), (5, .int x5), (6, .int x6)] → W p l e (rmz 2 45) s m args below meth c H locs 0 0 (EI below args s D h cy y) (F0 m 214 ls [.int t0, .int t1, .ref (h 70)]) := by
  intro H locs ls Z hl
  have hx := X.x
  have hb := X.b
  unfold f_X12_export_214 at hf
  obtain ⟨g24, hf⟩ := gd_s hf
  refine x_iast (k := 70) X Z sh_70 g24 dX12_export_214 (fun s25 H locs es25 Z => ?_)
  have hf := zn_e es25 hf
  obtain ⟨v26, ev26⟩ : ∃ z : Int32, z = x6 + 1 := ⟨_, rfl⟩
  have hf := zn_e ev26 hf
  refine lv_iinc (v := v26) (lv' := [(6, .int v26), (0, .ref (h 68)), (1, .int x1), (2, .int x2), (3, .int x3), (5, .int x5)]) hx hb dX12_export_215 hl (k := 5) rfl (by rw [ev26]; rfl) (by decide) rfl (fun ls hl => ?_)
  refine lv_goto (tgt := 175) hx hb dX12_export_218 (by decide) ?_
  exact hK175 (x1, x2, x3, x5, v26, s25) _ hf _ _ _ Z (lv_sub hl [1, 2, 3, 4, 5, 0] rfl)

set_option maxRecDepth 100000 in
set_option maxHeartbeats 4000000 in
theorem b_X12_export_175b {p : Program} {l : Launch} {e : Env} {s : State} {m : MethodId} {args : Array Value} {below : List Frame} {meth : Method} {c : Code} {D : va_G} {h : Nat → Nat} {cy : Nat → ClassId} (X : Cx p s m args c D h cy RX12 cX12_export 7) (hr : meth.sig.returnType = some .boolean) (hk : meth.locks = false) (K175 : (Int32 × Int32 × Int32 × Int32 × Int32 × St) → Option (Int32 × St)) (hK175 : ∀ (a : Int32 × Int32 × Int32 × Int32 × Int32 × St) (y : Int32 × St), K175 a = some y → ∀ (H : Heap) (locs : List Loc) (ls : Array Slot), Zt D h cy s a.2.2.2.2.2 H locs → lv_has ls 7 [(0, .ref (h 68)), (1, .int a.1), (2, .int a.2.1), (3, .int a.2.2.1), (5, .int a.2.2.2.1), (6, .int a.2.2.2.2.1)] → W p l e (rmz 2 45) s m args below meth c H locs 0 0 (EI below args s D h cy y) (F0 m 175 ls [])) (x1 : Int32) (x2 : Int32) (x3 : Int32) (x5 : Int32) (x6 : Int32) (σ : St) (y : Int32 × St) (hf : f_X12_export_175b K175 x1 x2 x3 x5 x6 σ = some y) : ∀ (H : Heap) (locs : List Loc) (ls : Array Slot), Zt D h cy s σ H locs → lv_has ls 7 [(0, .ref (h 68)), (1, .int x1), (2, .int x2), (3, .int x3), (5, .int x5), (6, .int x6)] → W p l e (rmz 2 45) s m args below meth c H locs 0 0 (EI below args s D h cy y) (F0 m 175 ls []) := by
  intro H locs ls Z hl
  have hx := X.x
  have hb := X.b
  unfold f_X12_export_175b at hf
  refine lv_iload hx hb dX12_export_175 (lv_at hl 5 rfl) ?_
  refine lv_bipush (v := 16) hx hb dX12_export_177 (by decide) ?_
  refine lv_icmp_ge (tgt := 221) hx hb dX12_export_179 (by decide) (fun c19 => ?_) (fun c19 => ?_)
  · have hf := itp c19 hf
    refine lv_aload_n hx hb dX12_export_221 rfl (lv_at hl 0 rfl) ?_
    refine gf_RX12_71 X Z dX12_export_222 ?_
    refine lv_iload hx hb dX12_export_225 (lv_at hl 4 rfl) ?_
    refine lv_iload_n hx hb dX12_export_227 rfl (lv_at hl 1 rfl) ?_
    obtain ⟨g20, hf⟩ := gd_s hf
    refine x_iast (k := 86) X Z sh_86 g20 dX12_export_228 (fun s21 H locs es21 Z => ?_)
    have hf := zn_e es21 hf
    refine lv_aload_n hx hb dX12_export_229 rfl (lv_at hl 0 rfl) ?_
    refine lv_dup hx hb dX12_export_230 rfl ?_
    refine gf_RX12_300 X Z dX12_export_231 ?_
    refine lv_iconst (v := 1) hx hb dX12_export_234 (by decide) ?_
    refine lv_iadd hx hb dX12_export_235 ?_
    refine pf_RX12_300 X Z dX12_export_236 (fun s22 H locs es22 Z => ?_)
    have hf := zn_e es22 hf
    exact b_X12_export_239 X hr hk x2 x5 s22 _ hf _ _ _ Z (lv_sub hl [0, 2, 4] rfl)
  · have hf := itn c19 hf
    refine lv_aload_n hx hb dX12_export_182 rfl (lv_at hl 0 rfl) ?_
    refine gf_RX12_13 X Z dX12_export_183 ?_
    refine lv_bipush (v := 16) hx hb dX12_export_186 (by decide) ?_
    refine lv_bipush (v := 52) hx hb dX12_export_188 (by decide) ?_
    refine lv_iload hx hb dX12_export_190 (lv_at hl 4 rfl) ?_
    refine lv_iadd hx hb dX12_export_192 ?_
    refine lv_imul hx hb dX12_export_193 ?_
    refine lv_iload hx hb dX12_export_194 (lv_at hl 5 rfl) ?_
    refine lv_iadd hx hb dX12_export_196 ?_
    refine lv_iload hx hb dX12_export_197 (lv_at hl 5 rfl) ?_
    refine lv_iload_n hx hb dX12_export_199 rfl (lv_at hl 3 rfl) ?_
    refine lv_icmp_ge (tgt := 213) hx hb dX12_export_200 (by decide) (fun c23 => ?_) (fun c23 => ?_)
    · have hf := itp c23 hf
      refine lv_iconst (v := 0) hx hb dX12_export_213 (by decide) ?_
      exact b_X12_export_214 X hr hk K175 hK175 x1 x2 x3 x5 x6 (0 : Int32) ((((16 : Int32) * ((52 : Int32) + x5)) + x6)) σ _ hf _ _ _ Z (lv_sub hl [0, 1, 2, 3, 4, 5] rfl)
    · have hf := itn c23 hf
      refine lv_aload_n hx hb dX12_export_203 rfl (lv_at hl 0 rfl) ?_
      refine gf_RX12_7 X Z dX12_export_204 ?_
      refine lv_iload hx hb dX12_export_207 (lv_at hl 5 rfl) ?_
      obtain ⟨g27, hf⟩ := gd_s hf
      refine x_iald (k := 69) X Z sh_69 g27 dX12_export_209 ?_
      refine lv_goto (tgt := 214) hx hb dX12_export_210 (by decide) ?_
      exact b_X12_export_214 X hr hk K175 hK175 x1 x2 x3 x5 x6 (σ.1 69 x6.toNatClampNeg) ((((16 : Int32) * ((52 : Int32) + x5)) + x6)) σ _ hf _ _ _ Z (lv_sub hl [0, 1, 2, 3, 4, 5] rfl)

set_option maxRecDepth 100000 in
set_option maxHeartbeats 4000000 in
theorem b_X12_export_175 {p : Program} {l : Launch} {e : Env} {s : State} {m : MethodId} {args : Array Value} {below : List Frame} {meth : Method} {c : Code} {D : va_G} {h : Nat → Nat} {cy : Nat → ClassId} (X : Cx p s m args c D h cy RX12 cX12_export 7) (hr : meth.sig.returnType = some .boolean) (hk : meth.locks = false) (x1 : Int32) (x2 : Int32) (x3 : Int32) (x5 : Int32) (x6 : Int32) (σ : St) (y : Int32 × St) (hf : f_X12_export_175 x1 x2 x3 x5 x6 σ = some y) : ∀ (H : Heap) (locs : List Loc) (ls : Array Slot), Zt D h cy s σ H locs → lv_has ls 7 [(0, .ref (h 68)), (1, .int x1), (2, .int x2), (3, .int x3), (5, .int x5), (6, .int x6)] → W p l e (rmz 2 45) s m args below meth c H locs 0 0 (EI below args s D h cy y) (F0 m 175 ls []) := by
  exact it_W (F := fun K a => f_X12_export_175b K a.1 a.2.1 a.2.2.1 a.2.2.2.1 a.2.2.2.2.1 a.2.2.2.2.2) (P := fun a y => ∀ (H : Heap) (locs : List Loc) (ls : Array Slot), Zt D h cy s a.2.2.2.2.2 H locs → lv_has ls 7 [(0, .ref (h 68)), (1, .int a.1), (2, .int a.2.1), (3, .int a.2.2.1), (5, .int a.2.2.2.1), (6, .int a.2.2.2.2.1)] → W p l e (rmz 2 45) s m args below meth c H locs 0 0 (EI below args s D h cy y) (F0 m 175 ls [])) (fun K hK a y hf => b_X12_export_175b X hr hk K hK (a.1) (a.2.1) (a.2.2.1) (a.2.2.2.1) (a.2.2.2.2.1) (a.2.2.2.2.2) y hf) FU _ y hf

set_option maxRecDepth 100000 in
set_option maxHeartbeats 4000000 in
theorem b_X12_export_154 {p : Program} {l : Launch} {e : Env} {s : State} {m : MethodId} {args : Array Value} {below : List Frame} {meth : Method} {c : Code} {D : va_G} {h : Nat → Nat} {cy : Nat → ClassId} (X : Cx p s m args c D h cy RX12 cX12_export 7) (hr : meth.sig.returnType = some .boolean) (hk : meth.locks = false) (x1 : Int32) (x2 : Int32) (x3 : Int32) (x5 : Int32) (σ : St) (y : Int32 × St) (hf : f_X12_export_154 x1 x2 x3 x5 σ = some y) : ∀ (H : Heap) (locs : List Loc) (ls : Array Slot), Zt D h cy s σ H locs → lv_has ls 7 [(0, .ref (h 68)), (1, .int x1), (2, .int x2), (3, .int x3), (5, .int x5)] → W p l e (rmz 2 45) s m args below meth c H locs 0 0 (EI below args s D h cy y) (F0 m 154 ls []) := by
  intro H locs ls Z hl
  have hx := X.x
  have hb := X.b
  unfold f_X12_export_154 at hf
  refine lv_iload hx hb dX12_export_154 (lv_at hl 4 rfl) ?_
  refine lv_bipush (v := 30) hx hb dX12_export_156 (by decide) ?_
  refine lv_icmp_ne (tgt := 163) hx hb dX12_export_158 (by decide) (fun c14 => ?_) (fun c14 => ?_)
  · have hf := itn c14 hf
    refine lv_iload hx hb dX12_export_163 (lv_at hl 4 rfl) ?_
    refine lv_aload_n hx hb dX12_export_165 rfl (lv_at hl 0 rfl) ?_
    refine gf_RX12_300 X Z dX12_export_166 ?_
    refine lv_icmp_ne (tgt := 239) hx hb dX12_export_169 (by decide) (fun c15 => ?_) (fun c15 => ?_)
    · have hf := itn c15 hf
      exact b_X12_export_239 X hr hk x2 x5 σ _ hf _ _ _ Z (lv_sub hl [0, 2, 4] rfl)
    · have hf := itp c15 hf
      refine lv_iconst (v := 0) hx hb dX12_export_172 (by decide) ?_
      refine lv_topi (fun v18 ev18 => ?_)
      have hf := zn_e ev18 hf
      refine lv_istore (lv' := [(6, .int v18), (0, .ref (h 68)), (1, .int x1), (2, .int x2), (3, .int x3), (5, .int x5)]) hx hb dX12_export_173 hl (by decide) rfl (fun ls hl => ?_)
      exact b_X12_export_175 X hr hk x1 x2 x3 x5 v18 σ _ hf _ _ _ Z (lv_sub hl [1, 2, 3, 4, 5, 0] rfl)
  · have hf := itp c14 hf
    refine lv_iconst (v := 0) hx hb dX12_export_161 (by decide) ?_
    exact retZ X hr hk Z (by decide) hf dX12_export_162

set_option maxRecDepth 100000 in
set_option maxHeartbeats 4000000 in
theorem b_X12_export_148 {p : Program} {l : Launch} {e : Env} {s : State} {m : MethodId} {args : Array Value} {below : List Frame} {meth : Method} {c : Code} {D : va_G} {h : Nat → Nat} {cy : Nat → ClassId} (X : Cx p s m args c D h cy RX12 cX12_export 7) (hr : meth.sig.returnType = some .boolean) (hk : meth.locks = false) (K115 : (Int32 × Int32 × Int32 × Int32 × St) → Option (Int32 × St)) (hK115 : ∀ (a : Int32 × Int32 × Int32 × Int32 × St) (y : Int32 × St), K115 a = some y → ∀ (H : Heap) (locs : List Loc) (ls : Array Slot), Zt D h cy s a.2.2.2.2 H locs → lv_has ls 7 [(0, .ref (h 68)), (1, .int a.1), (2, .int a.2.1), (3, .int a.2.2.1), (5, .int a.2.2.2.1)] → W p l e (rmz 2 45) s m args below meth c H locs 0 0 (EI below args s D h cy y) (F0 m 115 ls [])) (x1 : Int32) (x2 : Int32) (x3 : Int32) (x5 : Int32) (σ : St) (y : Int32 × St) (hf : f_X12_export_148 K115 x1 x2 x3 x5 σ = some y) : ∀ (H : Heap) (locs : List Loc) (ls : Array Slot), Zt D h cy s σ H locs → lv_has ls 7 [(0, .ref (h 68)), (1, .int x1), (2, .int x2), (3, .int x3), (5, .int x5)] → W p l e (rmz 2 45) s m args below meth c H locs 0 0 (EI below args s D h cy y) (F0 m 148 ls []) := by
  intro H locs ls Z hl
  have hx := X.x
  have hb := X.b
  unfold f_X12_export_148 at hf
  obtain ⟨v30, ev30⟩ : ∃ z : Int32, z = x5 + 1 := ⟨_, rfl⟩
  have hf := zn_e ev30 hf
  refine lv_iinc (v := v30) (lv' := [(5, .int v30), (0, .ref (h 68)), (1, .int x1), (2, .int x2), (3, .int x3)]) hx hb dX12_export_148 hl (k := 4) rfl (by rw [ev30]; rfl) (by decide) rfl (fun ls hl => ?_)
  refine lv_goto (tgt := 115) hx hb dX12_export_151 (by decide) ?_
  exact hK115 (x1, x2, x3, v30, σ) _ hf _ _ _ Z (lv_sub hl [1, 2, 3, 4, 0] rfl)

set_option maxRecDepth 100000 in
set_option maxHeartbeats 4000000 in
theorem b_X12_export_115b {p : Program} {l : Launch} {e : Env} {s : State} {m : MethodId} {args : Array Value} {below : List Frame} {meth : Method} {c : Code} {D : va_G} {h : Nat → Nat} {cy : Nat → ClassId} (X : Cx p s m args c D h cy RX12 cX12_export 7) (hr : meth.sig.returnType = some .boolean) (hk : meth.locks = false) (K115 : (Int32 × Int32 × Int32 × Int32 × St) → Option (Int32 × St)) (hK115 : ∀ (a : Int32 × Int32 × Int32 × Int32 × St) (y : Int32 × St), K115 a = some y → ∀ (H : Heap) (locs : List Loc) (ls : Array Slot), Zt D h cy s a.2.2.2.2 H locs → lv_has ls 7 [(0, .ref (h 68)), (1, .int a.1), (2, .int a.2.1), (3, .int a.2.2.1), (5, .int a.2.2.2.1)] → W p l e (rmz 2 45) s m args below meth c H locs 0 0 (EI below args s D h cy y) (F0 m 115 ls [])) (x1 : Int32) (x2 : Int32) (x3 : Int32) (x5 : Int32) (σ : St) (y : Int32 × St) (hf : f_X12_export_115b K115 x1 x2 x3 x5 σ = some y) : ∀ (H : Heap) (locs : List Loc) (ls : Array Slot), Zt D h cy s σ H locs → lv_has ls 7 [(0, .ref (h 68)), (1, .int x1), (2, .int x2), (3, .int x3), (5, .int x5)] → W p l e (rmz 2 45) s m args below meth c H locs 0 0 (EI below args s D h cy y) (F0 m 115 ls []) := by
  intro H locs ls Z hl
  have hx := X.x
  have hb := X.b
  unfold f_X12_export_115b at hf
  refine lv_iload hx hb dX12_export_115 (lv_at hl 4 rfl) ?_
  refine lv_aload_n hx hb dX12_export_117 rfl (lv_at hl 0 rfl) ?_
  refine gf_RX12_300 X Z dX12_export_118 ?_
  refine lv_icmp_ge (tgt := 154) hx hb dX12_export_121 (by decide) (fun c13 => ?_) (fun c13 => ?_)
  · have hf := itp c13 hf
    exact b_X12_export_154 X hr hk x1 x2 x3 x5 σ _ hf _ _ _ Z (lv_sub hl [0, 1, 2, 3, 4] rfl)
  · have hf := itn c13 hf
    refine lv_aload_n hx hb dX12_export_124 rfl (lv_at hl 0 rfl) ?_
    refine gf_RX12_71 X Z dX12_export_125 ?_
    refine lv_iload hx hb dX12_export_128 (lv_at hl 4 rfl) ?_
    obtain ⟨g28, hf⟩ := gd_s hf
    refine x_iald (k := 86) X Z sh_86 g28 dX12_export_130 ?_
    refine lv_iload_n hx hb dX12_export_131 rfl (lv_at hl 1 rfl) ?_
    refine lv_icmp_ne (tgt := 148) hx hb dX12_export_132 (by decide) (fun c29 => ?_) (fun c29 => ?_)
    · have hf := itn c29 hf
      exact b_X12_export_148 X hr hk K115 hK115 x1 x2 x3 x5 σ _ hf _ _ _ Z (lv_sub hl [0, 1, 2, 3, 4] rfl)
    · have hf := itp c29 hf
      refine lv_aload_n hx hb dX12_export_135 rfl (lv_at hl 0 rfl) ?_
      refine lv_bipush (v := 52) hx hb dX12_export_136 (by decide) ?_
      refine lv_iload hx hb dX12_export_138 (lv_at hl 4 rfl) ?_
      refine lv_iadd hx hb dX12_export_140 ?_
      refine lv_iload_n hx hb dX12_export_141 rfl (lv_at hl 3 rfl) ?_
      obtain ⟨r33, s32, h31, hf⟩ := bi_s hf
      refine goI Z (run_V (As := [.int (((52 : Int32) + x5)), .int x3]) (rest := []) X Z (c_X12_isTaped l D h cy (((52 : Int32) + x5)) x3 σ (r33, s32) h31 _) lk_RX12_303 ⟨by decide, by decide⟩ rv_68 rfl hl.1 rfl (Nat.le_of_ble_eq_true rfl) ⟨Nat.le_refl _, Nat.le_refl _⟩ dX12_export_142) (fun H locs Z => ?_)
      refine lv_if_ne (tgt := 154) hx hb dX12_export_145 (by decide) (fun c34 => ?_) (fun c34 => ?_)
      · have hf := itn c34 hf
        exact b_X12_export_154 X hr hk x1 x2 x3 x5 s32 _ hf _ _ _ Z (lv_sub hl [0, 1, 2, 3, 4] rfl)
      · have hf := itp c34 hf
        exact b_X12_export_148 X hr hk K115 hK115 x1 x2 x3 x5 s32 _ hf _ _ _ Z (lv_sub hl [0, 1, 2, 3, 4] rfl)

set_option maxRecDepth 100000 in
set_option maxHeartbeats 4000000 in
theorem b_X12_export_115 {p : Program} {l : Launch} {e : Env} {s : State} {m : MethodId} {args : Array Value} {below : List Frame} {meth : Method} {c : Code} {D : va_G} {h : Nat → Nat} {cy : Nat → ClassId} (X : Cx p s m args c D h cy RX12 cX12_export 7) (hr : meth.sig.returnType = some .boolean) (hk : meth.locks = false) (x1 : Int32) (x2 : Int32) (x3 : Int32) (x5 : Int32) (σ : St) (y : Int32 × St) (hf : f_X12_export_115 x1 x2 x3 x5 σ = some y) : ∀ (H : Heap) (locs : List Loc) (ls : Array Slot), Zt D h cy s σ H locs → lv_has ls 7 [(0, .ref (h 68)), (1, .int x1), (2, .int x2), (3, .int x3), (5, .int x5)] → W p l e (rmz 2 45) s m args below meth c H locs 0 0 (EI below args s D h cy y) (F0 m 115 ls []) := by
  exact it_W (F := fun K a => f_X12_export_115b K a.1 a.2.1 a.2.2.1 a.2.2.2.1 a.2.2.2.2) (P := fun a y => ∀ (H : Heap) (locs : List Loc) (ls : Array Slot), Zt D h cy s a.2.2.2.2 H locs → lv_has ls 7 [(0, .ref (h 68)), (1, .int a.1), (2, .int a.2.1), (3, .int a.2.2.1), (5, .int a.2.2.2.1)] → W p l e (rmz 2 45) s m args below meth c H locs 0 0 (EI below args s D h cy y) (F0 m 115 ls [])) (fun K hK a y hf => b_X12_export_115b X hr hk K hK (a.1) (a.2.1) (a.2.2.1) (a.2.2.2.1) (a.2.2.2.2) y hf) FU _ y hf

set_option maxRecDepth 100000 in
set_option maxHeartbeats 4000000 in
theorem b_X12_export_100 {p : Program} {l : Launch} {e : Env} {s : State} {m : MethodId} {args : Array Value} {below : List Frame} {meth : Method} {c : Code} {D : va_G} {h : Nat → Nat} {cy : Nat → ClassId} (X : Cx p s m args c D h cy RX12 cX12_export 7) (hr : meth.sig.returnType = some .boolean) (hk : meth.locks = false) (x1 : Int32) (x2 : Int32) (x3 : Int32) (x4 : Int32) (σ : St) (y : Int32 × St) (hf : f_X12_export_100 x1 x2 x3 x4 σ = some y) : ∀ (H : Heap) (locs : List Loc) (ls : Array Slot), Zt D h cy s σ H locs → lv_has ls 7 [(0, .ref (h 68)), (1, .int x1), (2, .int x2), (3, .int x3), (4, .int x4)] → W p l e (rmz 2 45) s m args below meth c H locs 0 0 (EI below args s D h cy y) (F0 m 100 ls []) := by
  intro H locs ls Z hl
  have hx := X.x
  have hb := X.b
  unfold f_X12_export_100 at hf
  refine lv_aload_n hx hb dX12_export_100 rfl (lv_at hl 0 rfl) ?_
  refine lv_iconst (v := 0) hx hb dX12_export_101 (by decide) ?_
  refine pf_RX12_152 X Z dX12_export_102 (fun s10 H locs es10 Z => ?_)
  have hf := zn_e es10 hf
  refine lv_iload hx hb dX12_export_105 (lv_at hl 4 rfl) ?_
  refine lv_if_ne (tgt := 112) hx hb dX12_export_107 (by decide) (fun c11 => ?_) (fun c11 => ?_)
  · have hf := itn c11 hf
    refine lv_iconst (v := 0) hx hb dX12_export_112 (by decide) ?_
    refine lv_topi (fun v12 ev12 => ?_)
    have hf := zn_e ev12 hf
    refine lv_istore (lv' := [(5, .int v12), (0, .ref (h 68)), (1, .int x1), (2, .int x2), (3, .int x3), (4, .int x4)]) hx hb dX12_export_113 hl (by decide) rfl (fun ls hl => ?_)
    exact b_X12_export_115 X hr hk x1 x2 x3 v12 s10 _ hf _ _ _ Z (lv_sub hl [1, 2, 3, 4, 0] rfl)
  · have hf := itp c11 hf
    refine lv_iconst (v := 0) hx hb dX12_export_110 (by decide) ?_
    exact retZ X hr hk Z (by decide) hf dX12_export_111

set_option maxRecDepth 100000 in
set_option maxHeartbeats 4000000 in
theorem b_X12_export_92 {p : Program} {l : Launch} {e : Env} {s : State} {m : MethodId} {args : Array Value} {below : List Frame} {meth : Method} {c : Code} {D : va_G} {h : Nat → Nat} {cy : Nat → ClassId} (X : Cx p s m args c D h cy RX12 cX12_export 7) (hr : meth.sig.returnType = some .boolean) (hk : meth.locks = false) (K52 : (Int32 × Int32 × Int32 × Int32 × Int32 × St) → Option (Int32 × St)) (hK52 : ∀ (a : Int32 × Int32 × Int32 × Int32 × Int32 × St) (y : Int32 × St), K52 a = some y → ∀ (H : Heap) (locs : List Loc) (ls : Array Slot), Zt D h cy s a.2.2.2.2.2 H locs → lv_has ls 7 [(0, .ref (h 68)), (1, .int a.1), (2, .int a.2.1), (3, .int a.2.2.1), (4, .int a.2.2.2.1), (5, .int a.2.2.2.2.1)] → W p l e (rmz 2 45) s m args below meth c H locs 0 0 (EI below args s D h cy y) (F0 m 52 ls [])) (x1 : Int32) (x2 : Int32) (x3 : Int32) (x5 : Int32) (t0 : Int32) (σ : St) (y : Int32 × St) (hf : f_X12_export_92 K52 x1 x2 x3 x5 t0 σ = some y) : ∀ (H : Heap) (locs : List Loc) (ls : Array Slot), Zt D h cy s σ H locs → lv_has ls 7 [(0, .ref (h 68)), (1, .int x1), (2, .int x2), (3, .int x3), (5, .int x5)] → W p l e (rmz 2 45) s m args below meth c H locs 0 0 (EI below args s D h cy y) (F0 m 92 ls [.int t0]) := by
  intro H locs ls Z hl
  have hx := X.x
  have hb := X.b
  unfold f_X12_export_92 at hf
  refine lv_istore (lv' := [(4, .int t0), (0, .ref (h 68)), (1, .int x1), (2, .int x2), (3, .int x3), (5, .int x5)]) hx hb dX12_export_92 hl (by decide) rfl (fun ls hl => ?_)
  obtain ⟨v38, ev38⟩ : ∃ z : Int32, z = x5 + 1 := ⟨_, rfl⟩
  have hf := zn_e ev38 hf
  refine lv_iinc (v := v38) (lv' := [(5, .int v38), (4, .int t0), (0, .ref (h 68)), (1, .int x1), (2, .int x2), (3, .int x3)]) hx hb dX12_export_94 hl (k := 5) rfl (by rw [ev38]; rfl) (by decide) rfl (fun ls hl => ?_)
  refine lv_goto (tgt := 52) hx hb dX12_export_97 (by decide) ?_
  exact hK52 (x1, x2, x3, t0, v38, σ) _ hf _ _ _ Z (lv_sub hl [2, 3, 4, 5, 1, 0] rfl)

set_option maxRecDepth 100000 in
set_option maxHeartbeats 4000000 in
theorem b_X12_export_91 {p : Program} {l : Launch} {e : Env} {s : State} {m : MethodId} {args : Array Value} {below : List Frame} {meth : Method} {c : Code} {D : va_G} {h : Nat → Nat} {cy : Nat → ClassId} (X : Cx p s m args c D h cy RX12 cX12_export 7) (hr : meth.sig.returnType = some .boolean) (hk : meth.locks = false) (K52 : (Int32 × Int32 × Int32 × Int32 × Int32 × St) → Option (Int32 × St)) (hK52 : ∀ (a : Int32 × Int32 × Int32 × Int32 × Int32 × St) (y : Int32 × St), K52 a = some y → ∀ (H : Heap) (locs : List Loc) (ls : Array Slot), Zt D h cy s a.2.2.2.2.2 H locs → lv_has ls 7 [(0, .ref (h 68)), (1, .int a.1), (2, .int a.2.1), (3, .int a.2.2.1), (4, .int a.2.2.2.1), (5, .int a.2.2.2.2.1)] → W p l e (rmz 2 45) s m args below meth c H locs 0 0 (EI below args s D h cy y) (F0 m 52 ls [])) (x1 : Int32) (x2 : Int32) (x3 : Int32) (x5 : Int32) (σ : St) (y : Int32 × St) (hf : f_X12_export_91 K52 x1 x2 x3 x5 σ = some y) : ∀ (H : Heap) (locs : List Loc) (ls : Array Slot), Zt D h cy s σ H locs → lv_has ls 7 [(0, .ref (h 68)), (1, .int x1), (2, .int x2), (3, .int x3), (5, .int x5)] → W p l e (rmz 2 45) s m args below meth c H locs 0 0 (EI below args s D h cy y) (F0 m 91 ls []) := by
  intro H locs ls Z hl
  have hx := X.x
  have hb := X.b
  unfold f_X12_export_91 at hf
  refine lv_iconst (v := 0) hx hb dX12_export_91 (by decide) ?_
  exact b_X12_export_92 X hr hk K52 hK52 x1 x2 x3 x5 (0 : Int32) σ _ hf _ _ _ Z (lv_sub hl [0, 1, 2, 3, 4] rfl)

set_option maxRecDepth 100000 in
set_option maxHeartbeats 4000000 in
theorem b_X12_export_52b {p : Program} {l : Launch} {e : Env} {s : State} {m : MethodId} {args : Array Value} {below : List Frame} {meth : Method} {c : Code} {D : va_G} {h : Nat → Nat} {cy : Nat → ClassId} (X : Cx p s m args c D h cy RX12 cX12_export 7) (hr : meth.sig.returnType = some .boolean) (hk : meth.locks = false) (K52 : (Int32 × Int32 × Int32 × Int32 × Int32 × St) → Option (Int32 × St)) (hK52 : ∀ (a : Int32 × Int32 × Int32 × Int32 × Int32 × St) (y : Int32 × St), K52 a = some y → ∀ (H : Heap) (locs : List Loc) (ls : Array Slot), Zt D h cy s a.2.2.2.2.2 H locs → lv_has ls 7 [(0, .ref (h 68)), (1, .int a.1), (2, .int a.2.1), (3, .int a.2.2.1), (4, .int a.2.2.2.1), (5, .int a.2.2.2.2.1)] → W p l e (rmz 2 45) s m args below meth c H locs 0 0 (EI below args s D h cy y) (F0 m 52 ls [])) (x1 : Int32) (x2 : Int32) (x3 : Int32) (x4 : Int32) (x5 : Int32) (σ : St) (y : Int32 × St) (hf : f_X12_export_52b K52 x1 x2 x3 x4 x5 σ = some y) : ∀ (H : Heap) (locs : List Loc) (ls : Array Slot), Zt D h cy s σ H locs → lv_has ls 7 [(0, .ref (h 68)), (1, .int x1), (2, .int x2), (3, .int x3), (4, .int x4), (5, .int x5)] → W p l e (rmz 2 45) s m args below meth c H locs 0 0 (EI below args s D h cy y) (F0 m 52 ls []) := by
  intro H locs ls Z hl
  have hx := X.x
  have hb := X.b
  unfold f_X12_export_52b at hf
  refine lv_iload hx hb dX12_export_52 (lv_at hl 5 rfl) ?_
  refine lv_iload_n hx hb dX12_export_54 rfl (lv_at hl 3 rfl) ?_
  refine lv_icmp_ge (tgt := 100) hx hb dX12_export_55 (by decide) (fun c9 => ?_) (fun c9 => ?_)
  · have hf := itp c9 hf
    exact b_X12_export_100 X hr hk x1 x2 x3 x4 σ _ hf _ _ _ Z (lv_sub hl [0, 1, 2, 3, 4] rfl)
  · have hf := itn c9 hf
    refine lv_iload hx hb dX12_export_58 (lv_at hl 4 rfl) ?_
    refine lv_if_eq (tgt := 100) hx hb dX12_export_60 (by decide) (fun c35 => ?_) (fun c35 => ?_)
    · have hf := itp c35 hf
      exact b_X12_export_100 X hr hk x1 x2 x3 x4 σ _ hf _ _ _ Z (lv_sub hl [0, 1, 2, 3, 4] rfl)
    · have hf := itn c35 hf
      refine lv_aload_n hx hb dX12_export_63 rfl (lv_at hl 0 rfl) ?_
      refine gf_RX12_7 X Z dX12_export_64 ?_
      refine lv_iload hx hb dX12_export_67 (lv_at hl 5 rfl) ?_
      obtain ⟨g36, hf⟩ := gd_s hf
      refine x_iald (k := 69) X Z sh_69 g36 dX12_export_69 ?_
      refine lv_bipush (v := 32) hx hb dX12_export_70 (by decide) ?_
      refine lv_icmp_le (tgt := 91) hx hb dX12_export_72 (by decide) (fun c37 => ?_) (fun c37 => ?_)
      · have hf := itp c37 hf
        exact b_X12_export_91 X hr hk K52 hK52 x1 x2 x3 x5 σ _ hf _ _ _ Z (lv_sub hl [0, 1, 2, 3, 5] rfl)
      · have hf := itn c37 hf
        refine lv_aload_n hx hb dX12_export_75 rfl (lv_at hl 0 rfl) ?_
        refine gf_RX12_7 X Z dX12_export_76 ?_
        refine lv_iload hx hb dX12_export_79 (lv_at hl 5 rfl) ?_
        obtain ⟨g39, hf⟩ := gd_s hf
        refine x_iald (k := 69) X Z sh_69 g39 dX12_export_81 ?_
        refine lv_bipush (v := 127) hx hb dX12_export_82 (by decide) ?_
        refine lv_icmp_ge (tgt := 91) hx hb dX12_export_84 (by decide) (fun c40 => ?_) (fun c40 => ?_)
        · have hf := itp c40 hf
          exact b_X12_export_91 X hr hk K52 hK52 x1 x2 x3 x5 σ _ hf _ _ _ Z (lv_sub hl [0, 1, 2, 3, 5] rfl)
        · have hf := itn c40 hf
          refine lv_iconst (v := 1) hx hb dX12_export_87 (by decide) ?_
          refine lv_goto (tgt := 92) hx hb dX12_export_88 (by decide) ?_
          exact b_X12_export_92 X hr hk K52 hK52 x1 x2 x3 x5 (1 : Int32) σ _ hf _ _ _ Z (lv_sub hl [0, 1, 2, 3, 5] rfl)

set_option maxRecDepth 100000 in
set_option maxHeartbeats 4000000 in
theorem b_X12_export_52 {p : Program} {l : Launch} {e : Env} {s : State} {m : MethodId} {args : Array Value} {below : List Frame} {meth : Method} {c : Code} {D : va_G} {h : Nat → Nat} {cy : Nat → ClassId} (X : Cx p s m args c D h cy RX12 cX12_export 7) (hr : meth.sig.returnType = some .boolean) (hk : meth.locks = false) (x1 : Int32) (x2 : Int32) (x3 : Int32) (x4 : Int32) (x5 : Int32) (σ : St) (y : Int32 × St) (hf : f_X12_export_52 x1 x2 x3 x4 x5 σ = some y) : ∀ (H : Heap) (locs : List Loc) (ls : Array Slot), Zt D h cy s σ H locs → lv_has ls 7 [(0, .ref (h 68)), (1, .int x1), (2, .int x2), (3, .int x3), (4, .int x4), (5, .int x5)] → W p l e (rmz 2 45) s m args below meth c H locs 0 0 (EI below args s D h cy y) (F0 m 52 ls []) := by
  exact it_W (F := fun K a => f_X12_export_52b K a.1 a.2.1 a.2.2.1 a.2.2.2.1 a.2.2.2.2.1 a.2.2.2.2.2) (P := fun a y => ∀ (H : Heap) (locs : List Loc) (ls : Array Slot), Zt D h cy s a.2.2.2.2.2 H locs → lv_has ls 7 [(0, .ref (h 68)), (1, .int a.1), (2, .int a.2.1), (3, .int a.2.2.1), (4, .int a.2.2.2.1), (5, .int a.2.2.2.2.1)] → W p l e (rmz 2 45) s m args below meth c H locs 0 0 (EI below args s D h cy y) (F0 m 52 ls [])) (fun K hK a y hf => b_X12_export_52b X hr hk K hK (a.1) (a.2.1) (a.2.2.1) (a.2.2.2.1) (a.2.2.2.2.1) (a.2.2.2.2.2) y hf) FU _ y hf

set_option maxRecDepth 100000 in
set_option maxHeartbeats 4000000 in
theorem b_X12_export_47 {p : Program} {l : Launch} {e : Env} {s : State} {m : MethodId} {args : Array Value} {below : List Frame} {meth : Method} {c : Code} {D : va_G} {h : Nat → Nat} {cy : Nat → ClassId} (X : Cx p s m args c D h cy RX12 cX12_export 7) (hr : meth.sig.returnType = some .boolean) (hk : meth.locks = false) (x1 : Int32) (x2 : Int32) (x3 : Int32) (t0 : Int32) (σ : St) (y : Int32 × St) (hf : f_X12_export_47 x1 x2 x3 t0 σ = some y) : ∀ (H : Heap) (locs : List Loc) (ls : Array Slot), Zt D h cy s σ H locs → lv_has ls 7 [(0, .ref (h 68)), (1, .int x1), (2, .int x2), (3, .int x3)] → W p l e (rmz 2 45) s m args below meth c H locs 0 0 (EI below args s D h cy y) (F0 m 47 ls [.int t0]) := by
  intro H locs ls Z hl
  have hx := X.x
  have hb := X.b
  unfold f_X12_export_47 at hf
  refine lv_istore (lv' := [(4, .int t0), (0, .ref (h 68)), (1, .int x1), (2, .int x2), (3, .int x3)]) hx hb dX12_export_47 hl (by decide) rfl (fun ls hl => ?_)
  refine lv_iconst (v := 0) hx hb dX12_export_49 (by decide) ?_
  refine lv_topi (fun v8 ev8 => ?_)
  have hf := zn_e ev8 hf
  refine lv_istore (lv' := [(5, .int v8), (4, .int t0), (0, .ref (h 68)), (1, .int x1), (2, .int x2), (3, .int x3)]) hx hb dX12_export_50 hl (by decide) rfl (fun ls hl => ?_)
  exact b_X12_export_52 X hr hk x1 x2 x3 t0 v8 σ _ hf _ _ _ Z (lv_sub hl [2, 3, 4, 5, 1, 0] rfl)

set_option maxRecDepth 100000 in
set_option maxHeartbeats 4000000 in
theorem b_X12_export_46 {p : Program} {l : Launch} {e : Env} {s : State} {m : MethodId} {args : Array Value} {below : List Frame} {meth : Method} {c : Code} {D : va_G} {h : Nat → Nat} {cy : Nat → ClassId} (X : Cx p s m args c D h cy RX12 cX12_export 7) (hr : meth.sig.returnType = some .boolean) (hk : meth.locks = false) (x1 : Int32) (x2 : Int32) (x3 : Int32) (σ : St) (y : Int32 × St) (hf : f_X12_export_46 x1 x2 x3 σ = some y) : ∀ (H : Heap) (locs : List Loc) (ls : Array Slot), Zt D h cy s σ H locs → lv_has ls 7 [(0, .ref (h 68)), (1, .int x1), (2, .int x2), (3, .int x3)] → W p l e (rmz 2 45) s m args below meth c H locs 0 0 (EI below args s D h cy y) (F0 m 46 ls []) := by
  intro H locs ls Z hl
  have hx := X.x
  have hb := X.b
  unfold f_X12_export_46 at hf
  refine lv_iconst (v := 0) hx hb dX12_export_46 (by decide) ?_
  exact b_X12_export_47 X hr hk x1 x2 x3 (0 : Int32) σ _ hf _ _ _ Z (lv_sub hl [0, 1, 2, 3] rfl)

set_option maxRecDepth 100000 in
set_option maxHeartbeats 4000000 in
theorem c_X12_export (l : Launch) (D : va_G) (h : Nat → Nat) (cy : Nat → ClassId) (a1 : Int32) (a2 : Int32) (σ : St) (y : Int32 × St) (hf : f_X12_export a1 a2 σ = some y) : CI l yX12_export cX12_export 7 (some .boolean) 2 45 D h cy [.ref (h 68), .int a1, .int a2] σ y := by
  refine ent (Qc := fun sz => QI D h cy sz y) (by decide) (Nat.le_of_ble_eq_true rfl) ?_
  intro p e s m below meth c ls X Z hr hk hl
  have X : Cx p s m _ c D h cy RX12 cX12_export 7 := X
  have hx := X.x
  have hb := X.b
  have hl : lv_has ls 7 [(0, .ref (h 68)), (1, .int a1), (2, .int a2)] := hl
  unfold f_X12_export at hf
  refine lv_aload_n hx hb dX12_export_0 rfl (lv_at hl 0 rfl) ?_
  refine lv_iconst (v := 0) hx hb dX12_export_1 (by decide) ?_
  refine pf_RX12_149 X Z dX12_export_2 (fun s1 H locs es1 Z => ?_)
  have hf := zn_e es1 hf
  refine lv_iload_n hx hb dX12_export_5 rfl (lv_at hl 1 rfl) ?_
  refine lv_iconst (v := 1) hx hb dX12_export_6 (by decide) ?_
  refine lv_icmp_lt (tgt := 19) hx hb dX12_export_7 (by decide) (fun c2 => ?_) (fun c2 => ?_)
  · have hf := itp c2 hf
    exact b_X12_export_19 X hr hk s1 _ hf _ _ _ Z (lv_sub hl [0] rfl)
  · have hf := itn c2 hf
    refine lv_iload_n hx hb dX12_export_10 rfl (lv_at hl 1 rfl) ?_
    refine lv_iconst (v := 3) hx hb dX12_export_11 (by decide) ?_
    refine lv_icmp_gt (tgt := 19) hx hb dX12_export_12 (by decide) (fun c4 => ?_) (fun c4 => ?_)
    · have hf := itp c4 hf
      exact b_X12_export_19 X hr hk s1 _ hf _ _ _ Z (lv_sub hl [0] rfl)
    · have hf := itn c4 hf
      refine lv_iload_n hx hb dX12_export_15 rfl (lv_at hl 2 rfl) ?_
      refine lv_if_ge (tgt := 26) hx hb dX12_export_16 (by decide) (fun c5 => ?_) (fun c5 => ?_)
      · have hf := itp c5 hf
        refine lv_aload_n hx hb dX12_export_26 rfl (lv_at hl 0 rfl) ?_
        refine gf_RX12_152 X Z dX12_export_27 ?_
        refine lv_topi (fun v6 ev6 => ?_)
        have hf := zn_e ev6 hf
        refine lv_istore_n (lv' := [(3, .int v6), (0, .ref (h 68)), (1, .int a1), (2, .int a2)]) hx hb dX12_export_30 rfl hl (by decide) rfl (fun ls hl => ?_)
        refine lv_iload_n hx hb dX12_export_31 rfl (lv_at hl 0 rfl) ?_
        refine lv_iconst (v := 1) hx hb dX12_export_32 (by decide) ?_
        refine lv_icmp_lt (tgt := 46) hx hb dX12_export_33 (by decide) (fun c7 => ?_) (fun c7 => ?_)
        · have hf := itp c7 hf
          exact b_X12_export_46 X hr hk a1 a2 v6 s1 _ hf _ _ _ Z (lv_sub hl [1, 2, 3, 0] rfl)
        · have hf := itn c7 hf
          refine lv_iload_n hx hb dX12_export_36 rfl (lv_at hl 0 rfl) ?_
          refine lv_bipush (v := 16) hx hb dX12_export_37 (by decide) ?_
          refine lv_icmp_gt (tgt := 46) hx hb dX12_export_39 (by decide) (fun c41 => ?_) (fun c41 => ?_)
          · have hf := itp c41 hf
            exact b_X12_export_46 X hr hk a1 a2 v6 s1 _ hf _ _ _ Z (lv_sub hl [1, 2, 3, 0] rfl)
          · have hf := itn c41 hf
            refine lv_iconst (v := 1) hx hb dX12_export_42 (by decide) ?_
            refine lv_goto (tgt := 47) hx hb dX12_export_43 (by decide) ?_
            exact b_X12_export_47 X hr hk a1 a2 v6 (1 : Int32) s1 _ hf _ _ _ Z (lv_sub hl [1, 2, 3, 0] rfl)
      · have hf := itn c5 hf
        exact b_X12_export_19 X hr hk s1 _ hf _ _ _ Z (lv_sub hl [0] rfl)
