theorem ar_byte : Cond.arrayClass .byte ∈ GT := GT1 49 rfl rfl
theorem ar_int : Cond.arrayClass .int ∈ GT := GT1 80 rfl rfl
theorem ar_long : Cond.arrayClass .long ∈ GT := GT1 161 rfl rfl
theorem ar_boolean : Cond.arrayClass .boolean ∈ GT := GT1 160 rfl rfl
theorem ob_im : Cond.instanceMethod Lib.objectInit ∈ GT := GT1 27 rfl rfl
theorem ob_cd : Cond.code Lib.objectInit ⟨#[0xb1]⟩ 1 none ∈ GT := GT1 28 rfl rfl
/-! makers: explicit worlds -/
def PzI (D : va_G) (cy : Nat → ClassId) (av : List Value) (w0 : va_W) (sz : Nat) : Array Value → State → Prop := va_Pc av (fun U => U.heap.size = sz ∧ va_P D vwCl w0 U.heap ∧ va_K D vwCl (tyL cy) U ∧ va_D (fun _ => True) w0)
def QzI (D : va_G) (w0 : va_W) (sz : Nat) (Wn : (Nat → Nat) → va_W) := va_Qv (fun (_ : Nat → Nat) => True) (fun u t => va_P D vwCl (Wn u) t.heap ∧ va_D (va_A w0 sz) (Wn u)) (va_A w0 sz)
def Cxi (p : Program) (s : State) (m : MethodId) (args : Array Value) (c : Code) (D : va_G) (cy : Nat → ClassId) (own : String) (cc : ByteArray) (nL : Nat) : Prop :=
  p.tables.exec = Jvm.exec ∧ c.code = cc ∧ c.maxLocals = nL ∧ s.vm.findClass own = some m.cls ∧ (∀ w ∈ GT, w.before args s = true) ∧ va_K D vwCl (tyL cy) s
def CIi (l : Launch) (y : MethodName) (b : ByteArray) (n : Nat) (rm : Room) (mc ms : Nat) (D : va_G) (cy : Nat → ClassId) (av : List Value) (w0 : va_W) (Wn : (Nat → Nat) → va_W) : Prop := ∀ sz, Met l y (wz y b n none) rm (PzI D cy av w0 sz) (QzI D w0 sz Wn) mc ms (va_A w0 sz)
theorem entI {l : Launch} {y : MethodName} {b : ByteArray} {n : Nat} {rm : Room} {mc ms : Nat} {D : va_G} {cy : Nat → ClassId} {av : List Value} {w0 : va_W} {Wn : (Nat → Nat) → va_W} (hy : plainName y.cls = true) (hn : (lg_sl av).length ≤ n)
    (body : ∀ (p : Program) (e : Env) (s : State) (m : MethodId) (below : List Frame) (meth : Method) (c : Code) (ls : Array Slot), Cxi p s m av.toArray c D cy y.cls b n → meth.name = y.name → meth.sig.returnType = none → meth.locks = false → va_P D vwCl w0 s.heap → va_D (va_A w0 s.heap.size) w0 → lv_has ls n (lv_args 0 av) → W p l e rm s m av.toArray below meth c s.heap [] 0 0 (MQ below (QzI D w0 s.heap.size Wn) av.toArray s mc ms (va_A w0 s.heap.size)) (F0 m 0 ls [])) :
    CIi l y b n rm mc ms D cy av w0 Wn := by
  intro sz
  refine Met.ofW (cc := b) (maxL := n) (ret := none) hy rfl ?_
  intro p e s m args below meth c s₁ B hml hv
  obtain ⟨rfl, hsz, hP, hK, hD0⟩ := hv
  subst hsz
  have hts0 := atoms_spec (ws := wz y b n none) B.pre
  have hl := lv_entry av (n := n) hn
  rw [lg_entry_eq]
  generalize (lg_sl av ++ List.replicate (n - (lg_sl av).length) Slot.unset).toArray = ls at hl ⊢
  exact body p e s m below meth c ls ⟨B.exec, B.bytes, hml, findClass_of_methodNamed B.named, fun w hw => hts0 w (List.mem_cons_of_mem _ hw), hK⟩ (name_of_methodNamed B.named B.method).1 B.returns B.notSynchronized hP hD0.self hl
section RC
variable {p : Program} {l : Launch} {e : Env} {R : Room} {s : State} {m : MethodId} {args : Array Value} {below : List Frame} {meth : Method} {c : Code} {H : Heap} {locs : List Loc} {cells slots : Nat} {Q : State → Prop} {D : va_G} {cy : Nat → ClassId} {own : String} {cc : ByteArray} {nL pc : Nat} {ls : Array Slot} {rest : List Value} {ws : va_W} {A : Nat → Prop}
theorem Cxi.x (X : Cxi p s m args c D cy own cc nL) : p.tables.exec = Jvm.exec := X.1
theorem Cxi.b (X : Cxi p s m args c D cy own cc nL) : c.code = cc := X.2.1
theorem Cxi.n (X : Cxi p s m args c D cy own cc nL) : c.maxLocals = nL := X.2.2.1
theorem Cxi.o (X : Cxi p s m args c D cy own cc nL) : s.vm.findClass own = some m.cls := X.2.2.2.1
theorem Cxi.t (X : Cxi p s m args c D cy own cc nL) : ∀ w ∈ GT, w.before args s = true := X.2.2.2.2.1
theorem Cxi.k (X : Cxi p s m args c D cy own cc nL) : va_K D vwCl (tyL cy) s := X.2.2.2.2.2
theorem cyEq {cA : ClassId} {ty : FieldType} {t : Nat} {cl : List vw_C} (hK : va_K D cl (tyL cy ++ [(cA, ty)]) s) (ht : (tyL cy)[t]? = some (cy t, ty)) (hr : ∀ (U : State) (cA : ClassId), va_RA U cA ty → U.vm.findClass ("[" ++ ty.toString) = some cA) : cA = cy t := by
  have h1 := hr _ _ (hK.2 t (cy t, ty) (by rw [List.getElem?_append_left (List.getElem?_eq_some_iff.mp ht).1]; exact ht)).2
  have h2 := hr _ _ (hK.2 4 (cA, ty) (by rfl)).2
  rw [h1] at h2
  exact (Option.some.inj h2).symm
theorem y_newi (X : Cxi p s m args c D cy own cc nL) (hP : va_P D vwCl ws H) (hD : va_D A ws) (hS : va_S A s.heap H locs) (hA : ∀ q, s.heap.size ≤ q → A q) {n : Int32} {N : Nat} (hn : ¬ n < 0) (hN : n.toNatClampNeg = N) (hbt : N * 8 ≤ 536870912) (hcells : cells + 1 ≤ R.cells) (hslots : slots + N ≤ R.slots) (hdg : decode cc pc = .ok (.newarray .int, 2))
    (kk : ∀ (q : Nat) (H : Heap), va_P D vwCl (ws ++ [(q, .inl (cy 1, N, .inl (fun _ => 0)))]) H → va_D A (ws ++ [(q, .inl (cy 1, N, .inl (fun _ => 0)))]) → va_S A s.heap H locs → W p l e R s m args below meth c H locs (cells + 1) (slots + N) Q (F0 m (pc + 2) ls (.ref q :: rest))) : W p l e R s m args below meth c H locs cells slots Q (F0 m pc ls (.int n :: rest)) :=
  va_newa (atype := .int) (ty := .int) X.x X.b (X.t _ ar_int) rfl X.k hP hD hS hA (a0 := (N, .inl (fun _ => 0))) (fun cA => rfl) hn hN (Nat.le_trans (Nat.mul_le_mul_left N (by decide)) hbt) hcells hslots hdg (fun q cA H1 hK1 hP1 hD1 hS1 => by
    have hc := cyEq (t := 1) hK1 rfl (fun _ _ h => h)
    subst hc
    exact kk q H1 hP1 hD1 hS1)
theorem y_newb (X : Cxi p s m args c D cy own cc nL) (hP : va_P D vwCl ws H) (hD : va_D A ws) (hS : va_S A s.heap H locs) (hA : ∀ q, s.heap.size ≤ q → A q) {n : Int32} {N : Nat} (hn : ¬ n < 0) (hN : n.toNatClampNeg = N) (hbt : N * 8 ≤ 536870912) (hcells : cells + 1 ≤ R.cells) (hslots : slots + N ≤ R.slots) (hdg : decode cc pc = .ok (.newarray .byte, 2))
    (kk : ∀ (q : Nat) (H : Heap), va_P D vwCl (ws ++ [(q, .inl (cy 0, N, .inl (fun _ => 0)))]) H → va_D A (ws ++ [(q, .inl (cy 0, N, .inl (fun _ => 0)))]) → va_S A s.heap H locs → W p l e R s m args below meth c H locs (cells + 1) (slots + N) Q (F0 m (pc + 2) ls (.ref q :: rest))) : W p l e R s m args below meth c H locs cells slots Q (F0 m pc ls (.int n :: rest)) :=
  va_newa (atype := .byte) (ty := .byte) X.x X.b (X.t _ ar_byte) rfl X.k hP hD hS hA (a0 := (N, .inl (fun _ => 0))) (fun cA => rfl) hn hN (Nat.le_trans (Nat.mul_le_mul_left N (by decide)) hbt) hcells hslots hdg (fun q cA H1 hK1 hP1 hD1 hS1 => by
    have hc := cyEq (t := 0) hK1 rfl (fun _ _ h => h)
    subst hc
    exact kk q H1 hP1 hD1 hS1)
theorem y_newz (X : Cxi p s m args c D cy own cc nL) (hP : va_P D vwCl ws H) (hD : va_D A ws) (hS : va_S A s.heap H locs) (hA : ∀ q, s.heap.size ≤ q → A q) {n : Int32} {N : Nat} (hn : ¬ n < 0) (hN : n.toNatClampNeg = N) (hbt : N * 8 ≤ 536870912) (hcells : cells + 1 ≤ R.cells) (hslots : slots + N ≤ R.slots) (hdg : decode cc pc = .ok (.newarray .boolean, 2))
    (kk : ∀ (q : Nat) (H : Heap), va_P D vwCl (ws ++ [(q, .inl (cy 3, N, .inl (fun _ => 0)))]) H → va_D A (ws ++ [(q, .inl (cy 3, N, .inl (fun _ => 0)))]) → va_S A s.heap H locs → W p l e R s m args below meth c H locs (cells + 1) (slots + N) Q (F0 m (pc + 2) ls (.ref q :: rest))) : W p l e R s m args below meth c H locs cells slots Q (F0 m pc ls (.int n :: rest)) :=
  va_newa (atype := .boolean) (ty := .boolean) X.x X.b (X.t _ ar_boolean) rfl X.k hP hD hS hA (a0 := (N, .inl (fun _ => 0))) (fun cA => rfl) hn hN (Nat.le_trans (Nat.mul_le_mul_left N (by decide)) hbt) hcells hslots hdg (fun q cA H1 hK1 hP1 hD1 hS1 => by
    have hc := cyEq (t := 3) hK1 rfl (fun _ _ h => h)
    subst hc
    exact kk q H1 hP1 hD1 hS1)
theorem y_newl (X : Cxi p s m args c D cy own cc nL) (hP : va_P D vwCl ws H) (hD : va_D A ws) (hS : va_S A s.heap H locs) (hA : ∀ q, s.heap.size ≤ q → A q) {n : Int32} {N : Nat} (hn : ¬ n < 0) (hN : n.toNatClampNeg = N) (hbt : N * 8 ≤ 536870912) (hcells : cells + 1 ≤ R.cells) (hslots : slots + N ≤ R.slots) (hdg : decode cc pc = .ok (.newarray .long, 2))
    (kk : ∀ (q : Nat) (H : Heap), va_P D vwCl (ws ++ [(q, .inl (cy 2, N, .inr (.inl (fun _ => 0))))]) H → va_D A (ws ++ [(q, .inl (cy 2, N, .inr (.inl (fun _ => 0))))]) → va_S A s.heap H locs → W p l e R s m args below meth c H locs (cells + 1) (slots + N) Q (F0 m (pc + 2) ls (.ref q :: rest))) : W p l e R s m args below meth c H locs cells slots Q (F0 m pc ls (.int n :: rest)) :=
  va_newa (atype := .long) (ty := .long) X.x X.b (X.t _ ar_long) rfl X.k hP hD hS hA (a0 := (N, .inr (.inl (fun _ => 0)))) (fun cA => rfl) hn hN (Nat.le_trans (Nat.mul_le_mul_left N (by decide)) hbt) hcells hslots hdg (fun q cA H1 hK1 hP1 hD1 hS1 => by
    have hc := cyEq (t := 2) hK1 rfl (fun _ _ h => h)
    subst hc
    exact kk q H1 hP1 hD1 hS1)
def LkI (own : String) (idx : Nat) (y : MethodName) (b : ByteArray) (n : Nat) (na : Nat) : Prop := Lk own idx y b n none na ∧ y.name = "<init>" ∧ Cond.instanceMethod y ∈ GT
theorem PzI_blind {av : List Value} {w0 : va_W} {sz : Nat} : FrameBlind (PzI D cy av w0 sz) := fun a U g mk q => by
  obtain ⟨q0, q1, qP, qK, qD⟩ := q
  exact ⟨q0, q1, qP, va_K.moved (u := U) (U := U.calling g mk a) (Vm.Alike.refl U.vm) qK, qD⟩
theorem y_callI (X : Cxi p s m args c D cy own cc nL) (hP : va_P D vwCl ws H) (hD : va_D A ws) (hS : va_S A s.heap H locs) (hA : ∀ q, s.heap.size ≤ q → A q) {wc wr : va_W} (isC isR : List Nat) (hC : isC.map (fun i => ws[i]?) = wc.map some) (hR : isR.map (fun i => ws[i]?) = wr.map some) (hnC : va_nd isC = true) (hn : va_nd isR = true) (hdis : ∀ i ∈ isR, i ∉ isC) {Wn : (Nat → Nat) → va_W} {idx n na q mc ms : Nat} {y : MethodName} {b : ByteArray} {rm : Room} {As : List Value} (hM : CIi l y b n rm mc ms D cy (.ref q :: As) wc Wn) (hL : LkI own idx y b n na) (hrm : rm.cells = mc ∧ rm.slots = ms ∧ rm.frames + 1 ≤ R.frames ∧ 8 + (n + 11) + rm.locals ≤ R.locals) (hna : As.length = na) (hsz : ls.size = nL) {st0 : List Value} (hst : st0 = As.reverse ++ .ref q :: rest) (hrs : (rest.map fun v => v.category).sum ≤ 8) (hcs : cells + mc ≤ R.cells ∧ slots + ms ≤ R.slots) (hdg : decode cc pc = .ok (.invokespecial idx, 3))
    (kk : ∀ (u : Nat → Nat) (H : Heap) (locs : List Loc), va_P D vwCl (wr ++ Wn u) H → va_D A (wr ++ Wn u) → va_S A s.heap H locs → W p l e R s m args below meth c H locs (cells + mc) (slots + ms) Q (F0 m (pc + 3) ls rest)) : W p l e R s m args below meth c H locs cells slots Q (F0 m pc ls st0) := by
  have hsub : isC.filterMap (fun i => ws[i]?) = wc := by
    have : (isC.map (fun i => ws[i]?)).filterMap id = (wc.map some).filterMap id := by rw [hC]
    simpa [List.filterMap_map, Function.comp_def] using this
  have hPc := hP.sub isC hsub
  have hDc := hD.sub isC hnC hC
  have hFc := va_free (wc := wc) hD hS hA isC hC
  refine va_callv (va_runI (As := As) (rest := rest) ⟨X.x, X.b, X.n, X.o, X.t⟩ (hM H.size) ⟨callB_of na X.t (good_wz hL.1.2.1) rfl hrm.1 hrm.2.1 (X.t _ hL.1.2.2.1) (X.t _ hL.1.1) hL.1.2.2.2 hrm.2.2, hL.2.1, X.t _ hL.2.2⟩ ⟨PzI_blind, fun U hU hW => ⟨rfl, by rw [hU], by rw [hU]; exact hPc, va_K.moved hW.alike X.k, hDc.weaken (fun _ _ _ _ => trivial)⟩⟩ rfl hna hsz hst (lv_room hrs) hdg hcs) hS (fun q _ h => hFc q h) hFc (fun u t H1 l1 ht hvm hw hB hz1 hk1 hS1 => ?_)
  obtain ⟨hP1, hD1⟩ := hB
  rw [ht] at hP1
  obtain ⟨hP2, hD2⟩ := va_join (wr := wr) (w1 := Wn u) hP hD isC isR hC hR hn hdis hk1 hFc hP1 hD1
  exact kk u H1 l1 hP2 hD2 hS1
theorem y_callVI (X : Cxi p s m args c D cy own cc nL) (hP : va_P D vwCl ws H) (hD : va_D A ws) (hS : va_S A s.heap H locs) (hA : ∀ q, s.heap.size ≤ q → A q) {wc wr : va_W} (isC isR : List Nat) (hC : isC.map (fun i => ws[i]?) = wc.map some) (hR : isR.map (fun i => ws[i]?) = wr.map some) (hnC : va_nd isC = true) (hn : va_nd isR = true) (hdis : ∀ i ∈ isR, i ∉ isC) {Wn : (Nat → Nat) → va_W} {idx n na q mc ms : Nat} {y : MethodName} {b : ByteArray} {rm : Room} {As : List Value} (hM : CIi l y b n rm mc ms D cy (.ref q :: As) wc Wn) (hL : LkV own idx y b n none na) (hrv : ∃ cellB : Cell, H[q]? = some cellB ∧ cellB.vm.isStatics = false ∧ s.vm.findClass y.cls = some cellB.cls) (hrm : rm.cells = mc ∧ rm.slots = ms ∧ rm.frames + 1 ≤ R.frames ∧ 8 + (n + 11) + rm.locals ≤ R.locals) (hna : As.length = na) (hsz : ls.size = nL) {st0 : List Value} (hst : st0 = As.reverse ++ .ref q :: rest) (hrs : (rest.map fun v => v.category).sum ≤ 8) (hcs : cells + mc ≤ R.cells ∧ slots + ms ≤ R.slots) (hdg : decode cc pc = .ok (.invokevirtual idx, 3))
    (kk : ∀ (u : Nat → Nat) (H : Heap) (locs : List Loc), va_P D vwCl (wr ++ Wn u) H → va_D A (wr ++ Wn u) → va_S A s.heap H locs → W p l e R s m args below meth c H locs (cells + mc) (slots + ms) Q (F0 m (pc + 3) ls rest)) : W p l e R s m args below meth c H locs cells slots Q (F0 m pc ls st0) := by
  have hsub : isC.filterMap (fun i => ws[i]?) = wc := by
    have : (isC.map (fun i => ws[i]?)).filterMap id = (wc.map some).filterMap id := by rw [hC]
    simpa [List.filterMap_map, Function.comp_def] using this
  have hPc := hP.sub isC hsub
  have hDc := hD.sub isC hnC hC
  have hFc := va_free (wc := wc) hD hS hA isC hC
  refine va_callv (va_runV (As := As) (rest := rest) ⟨X.x, X.b, X.n, X.o, X.t⟩ (hM H.size) ⟨callB_of na X.t (good_wz hL.1.2.1) rfl hrm.1 hrm.2.1 (X.t _ hL.1.2.2.1) (X.t _ hL.1.1) hL.1.2.2.2 hrm.2.2, X.t _ hL.2.1, X.t _ hL.2.2⟩ ⟨PzI_blind, hrv, fun U hU hW => ⟨rfl, by rw [hU], by rw [hU]; exact hPc, va_K.moved hW.alike X.k, hDc.weaken (fun _ _ _ _ => trivial)⟩⟩ rfl hna hsz hst (lv_room hrs) hdg hcs) hS (fun q _ h => hFc q h) hFc (fun u t H1 l1 ht hvm hw hB hz1 hk1 hS1 => ?_)
  obtain ⟨hP1, hD1⟩ := hB
  rw [ht] at hP1
  obtain ⟨hP2, hD2⟩ := va_join (wr := wr) (w1 := Wn u) hP hD isC isR hC hR hn hdis hk1 hFc hP1 hD1
  exact kk u H1 l1 hP2 hD2 hS1
end RC

theorem kc_RX8_9 : Cond.constant RX8 9 (65536) ∈ GT := GT1 56 rfl rfl
theorem kc_RX12_16 : Cond.constant RX12 16 (65536) ∈ GT := GT5 193 rfl rfl
theorem fl_RX3_27 : Cond.fieldLink RX3 27 (TX0 2).1 (TX0 2).2.1 (TX0 2).2.2.1 ∈ GT := GT2 41 rfl rfl
theorem lki_RX0_21 : LkI RX0 21 yX7_init cX7_init 1 0 := ⟨⟨GT2 8 rfl rfl, GT2 10 rfl rfl, GT1 9 rfl rfl, (by decide +kernel)⟩, rfl, GT2 9 rfl rfl⟩
theorem lki_RX1_11 : LkI RX1 11 yX5_init cX5_init 2 1 := ⟨⟨GT1 209 rfl rfl, GT1 61 rfl rfl, GT1 4 rfl rfl, (by decide +kernel)⟩, rfl, GT1 60 rfl rfl⟩
theorem lki_RX3_36 : LkI RX3 36 yX9_init cX9_init 1 0 := ⟨⟨GT2 93 rfl rfl, GT2 95 rfl rfl, GT1 11 rfl rfl, (by decide +kernel)⟩, rfl, GT2 94 rfl rfl⟩
theorem lki_RX4_11 : LkI RX4 11 yX7_init cX7_init 1 0 := ⟨⟨GT2 161 rfl rfl, GT2 10 rfl rfl, GT1 9 rfl rfl, (by decide +kernel)⟩, rfl, GT2 9 rfl rfl⟩
theorem lki_RX4_20 : LkI RX4 20 yX6_init cX6_init 2 1 := ⟨⟨GT2 163 rfl rfl, GT1 33 rfl rfl, GT1 2 rfl rfl, (by decide +kernel)⟩, rfl, GT1 32 rfl rfl⟩
theorem lki_RX4_29 : LkI RX4 29 yX9_init cX9_init 1 0 := ⟨⟨GT2 165 rfl rfl, GT2 95 rfl rfl, GT1 11 rfl rfl, (by decide +kernel)⟩, rfl, GT2 94 rfl rfl⟩
theorem lki_RX8_21 : LkI RX8 21 yX5_init cX5_init 2 1 := ⟨⟨GT1 59 rfl rfl, GT1 61 rfl rfl, GT1 4 rfl rfl, (by decide +kernel)⟩, rfl, GT1 60 rfl rfl⟩
theorem lki_RX11_11 : LkI RX11 11 yX6_init cX6_init 2 1 := ⟨⟨GT1 31 rfl rfl, GT1 33 rfl rfl, GT1 2 rfl rfl, (by decide +kernel)⟩, rfl, GT1 32 rfl rfl⟩
theorem lki_RX11_23 : LkI RX11 23 yX8_init cX8_init 1 0 := ⟨⟨GT1 52 rfl rfl, GT1 54 rfl rfl, GT1 3 rfl rfl, (by decide +kernel)⟩, rfl, GT1 53 rfl rfl⟩
theorem lki_RX11_30 : LkI RX11 30 yX10_init cX10_init 3 2 := ⟨⟨GT1 164 rfl rfl, GT1 166 rfl rfl, GT1 5 rfl rfl, (by decide +kernel)⟩, rfl, GT1 165 rfl rfl⟩
theorem lki_RX11_39 : LkI RX11 39 yX1_init cX1_init 1 0 := ⟨⟨GT1 204 rfl rfl, GT1 206 rfl rfl, GT1 6 rfl rfl, (by decide +kernel)⟩, rfl, GT1 205 rfl rfl⟩
theorem lki_RX11_46 : LkI RX11 46 yX2_init cX2_init 1 0 := ⟨⟨GT1 223 rfl rfl, GT1 225 rfl rfl, GT1 7 rfl rfl, (by decide +kernel)⟩, rfl, GT1 224 rfl rfl⟩
theorem lki_RX11_53 : LkI RX11 53 yX0_init cX0_init 3 2 := ⟨⟨GT2 2 rfl rfl, GT2 4 rfl rfl, GT1 8 rfl rfl, (by decide +kernel)⟩, rfl, GT2 3 rfl rfl⟩
theorem lki_RX11_62 : LkI RX11 62 yX3_init cX3_init 5 4 := ⟨⟨GT2 87 rfl rfl, GT2 89 rfl rfl, GT1 10 rfl rfl, (by decide +kernel)⟩, rfl, GT2 88 rfl rfl⟩
theorem lki_RX11_71 : LkI RX11 71 yX4_init cX4_init 1 0 := ⟨⟨GT2 156 rfl rfl, GT2 158 rfl rfl, GT1 12 rfl rfl, (by decide +kernel)⟩, rfl, GT2 157 rfl rfl⟩
theorem lki_RX2_9 : LkV RX2 9 yX2_clear cX2_clear 1 none 0 := ⟨⟨GT1 227 rfl rfl, GT1 230 rfl rfl, GT1 7 rfl rfl, (by decide +kernel)⟩, GT1 228 rfl rfl, GT1 229 rfl rfl⟩
