theorem xcl : Cond.classLink RX11 200 NSE ∈ GT := GT5 111 rfl rfl
theorem xin : Cond.initialized NSE ∈ GT := GT1 20 rfl rfl
theorem xcl13 : Cond.classLink RL 13 NSE ∈ GT := GT5 106 rfl rfl
/-! methods that throw, over the world -/
def rmx (f lo : Nat) : Room := { frames := f, cells := 1, slots := 6, locals := lo }
def Ths (A : Nat → Prop) (U : State) (H : Heap) : Prop := vx_Zq Bundle.tN "UNASSIGNED_STACK" Bundle.steD A U H ∧ vx_Zq Bundle.tN "SUPPRESSED_SENTINEL" Bundle.listD A U H
def PzX (D : va_G) (h : Nat → Nat) (cy : Nat → ClassId) (av : List Value) (σ : St) (sz : Nat) : Array Value → State → Prop := va_Pc av (fun U => U.heap.size = sz ∧ va_P D vwCl (wd h cy σ) U.heap ∧ va_K D vwCl (tyL cy) U ∧ Inj h ∧ Nst U ∧ Ths (Az h sz) U U.heap)
def QX (D : va_G) (h : Nat → Nat) (cy : Nat → ClassId) (sz : Nat) (y : Option Int64 × St) := va_Ql (fun r (u : St) => y.1 = some r ∧ u = y.2) (Bz D h cy) (Az h sz)
def XX (D : va_G) (h : Nat → Nat) (cy : Nat → ClassId) (sz : Nat) (y : Option Int64 × St) : String → State → State → Prop := vx_X (fun (u : St) => y.1 = none ∧ u = y.2) (fun E u t => E = NSE ∧ Bz D h cy u t) (Az h sz)
def CXx (l : Launch) (y : MethodName) (b : ByteArray) (n : Nat) (ret : Option FieldType) (f lo : Nat) (D : va_G) (h : Nat → Nat) (cy : Nat → ClassId) (av : List Value) (σ : St) (z : Option Int64 × St) : Prop := ∀ sz, vx_Met l y (wz y b n ret) (rmx f lo) (PzX D h cy av σ sz) (QX D h cy sz z) (XX D h cy sz z) 1 6 (Az h sz)
def EX (below : List Frame) (args : Array Value) (s : State) (D : va_G) (h : Nat → Nat) (cy : Nat → ClassId) (y : Option Int64 × St) : State → Prop := vx_MQ below (QX D h cy s.heap.size y) (XX D h cy s.heap.size y) args s 1 6 (Az h s.heap.size)
theorem entX {l : Launch} {y : MethodName} {b : ByteArray} {n : Nat} {ret : Option FieldType} {f lo : Nat} {D : va_G} {h : Nat → Nat} {cy : Nat → ClassId} {av : List Value} {σ : St} {z : Option Int64 × St} (hy : plainName y.cls = true) (hn : (lg_sl av).length ≤ n)
    (body : ∀ (p : Program) (e : Env) (s : State) (m : MethodId) (below : List Frame) (meth : Method) (c : Code) (ls : Array Slot), Cx p s m av.toArray c D h cy y.cls b n → Zt D h cy s σ s.heap [] → meth.sig.returnType = ret → meth.locks = false → Ths (Az h s.heap.size) s s.heap → (∀ x ∈ c.exceptionTable.toList, False) → lv_has ls n (lv_args 0 av) → W p l e (rmx f lo) s m av.toArray below meth c s.heap [] 0 0 (EX below av.toArray s D h cy z) (F0 m 0 ls [])) :
    CXx l y b n ret f lo D h cy av σ z := by
  intro sz
  refine vx_ofW (cc := b) (maxL := n) (ret := ret) hy rfl ?_
  intro p e s m args below meth c s₁ B hml ht hv
  obtain ⟨rfl, hsz, hP, hK, hj, hN, hS⟩ := hv
  subst hsz
  have hts0 := atoms_spec (ws := wz y b n ret) B.pre
  have hl := lv_entry av (n := n) hn
  rw [lg_entry_eq]
  generalize (lg_sl av ++ List.replicate (n - (lg_sl av).length) Slot.unset).toArray = ls at hl ⊢
  exact body p e s m below meth c ls ⟨B.exec, B.bytes, hml, findClass_of_methodNamed B.named, fun w hw => hts0 w (List.mem_cons_of_mem _ hw), hK, hj, hN⟩ ⟨hP, va_S.rf⟩ B.returns B.notSynchronized hS ht hl
section RX
variable {p : Program} {l : Launch} {e : Env} {R : Room} {s : State} {m : MethodId} {args : Array Value} {below : List Frame} {meth : Method} {c : Code} {H : Heap} {locs : List Loc} {cells slots : Nat} {Q : State → Prop} {D : va_G} {h : Nat → Nat} {cy : Nat → ClassId} {σ : St} {own : String} {cc : ByteArray} {nL pc : Nat} {ls : Array Slot} {rest : List Value}
theorem retX (X : Cx p s m args c D h cy own cc nL) (hr : meth.sig.returnType = some .long) (hk : meth.locks = false) (Z : Zt D h cy s σ H locs) {v : Int64} {y : Option Int64 × St} (hf : some (some v, σ) = some y) (hdg : decode cc pc = .ok (.lreturn, 1)) : W p l e R s m args below meth c H locs 0 0 (EX below args s D h cy y) (F0 m pc ls [.long v]) := by
  cases hf
  refine vx_ret (W.widen (k := 1) (n := 6) (by decide) (by decide) ?_)
  exact W.lret (v := v) X.x X.b hr (fun t ht hW => ⟨⟨v, σ, rfl, ⟨rfl, rfl⟩, by show va_P _ _ _ t.heap; rw [ht]; exact Z.1⟩, Z.2.F ht⟩) Z.2.2.2 hdg
theorem keptZ (Z : Zt D h cy s σ H locs) {t : State} (hz : H.size ≤ t.heap.size) (hq : ∀ q : Nat, q < H.size → t.heap[q]? = H[q]?) : Bz D h cy σ t ∧ va_F (Az h s.heap.size) s t :=
  ⟨Z.1.kept (fun k x hx => hq x.1 ((Z.1 k x hx).lt)), Nat.le_trans Z.2.1 hz, fun q h1 h2 => (hq q (Nat.lt_of_lt_of_le h1 Z.2.1)).trans (Z.2.2.1 q h1 h2)⟩
theorem throwX (X : Cx p s m args c D h cy RX11 cc nL) (hk : meth.locks = false) (Z : Zt D h cy s σ H locs) (S : Ths (Az h s.heap.size) s s.heap) (ht : ∀ x ∈ c.exceptionTable.toList, False) (htr : l.stackTraces = false) {y : Option Int64 × St} (hf : some (none, σ) = some y) (hsz : ls.size = nL) (d0 : decode cc pc = .ok (.new 200, 3)) (d3 : decode cc (pc + 3) = .ok (.dup, 1)) (d4 : decode cc (pc + 4) = .ok (.invokespecial 202, 3)) (d7 : decode cc (pc + 7) = .ok (.athrow, 1)) (hfr : NSN.length + 3 < R.frames) (hlo : (rest.map fun v => v.category).sum + (13 * (NSN.length + 1) + 42) ≤ R.locals) (hc : 0 + 1 ≤ R.cells) (hs : 0 + 6 ≤ R.slots) : W p l e R s m args below meth c H locs 0 0 (EX below args s D h cy y) (F0 m pc ls rest) := by
  cases hf
  exact vx_throw0 (names := NSN) (cls := NSE) (own := RX11) (ik := 200) (ic := 202) (A := Az h s.heap.size) X.x X.b htr X.o (by decide +kernel) (by decide +kernel) (X.t _ xcl) (X.t _ xin) (th_at X.t X.w) th_ot S.1 S.2 Z.2 (hsz.trans X.n.symm) d0 d3 d4 d7 (fun x hx => (ht x hx).elim) hfr hlo hc hs hk
    (fun t _ hz hq => ⟨σ, ⟨rfl, rfl⟩, ⟨rfl, (keptZ Z hz hq).1⟩, (keptZ Z hz hq).2⟩) Z.2.2.2 (Nat.le_refl _) (Nat.le_refl _)
theorem PzX_blind {av : List Value} {sz : Nat} : FrameBlind (PzX D h cy av σ sz) := fun a U g mk q => by
  obtain ⟨q0, q1, qP, qK, qj, qN, q2, q3⟩ := q
  exact ⟨q0, q1, qP, va_K.moved (u := U) (U := U.calling g mk a) (Vm.Alike.refl U.vm) qK, qj, Nst.same (u := U) rfl qN, vx_Zq.moved (u := U) (U := U.calling g mk a) (Vm.Alike.refl U.vm) q2, vx_Zq.moved (u := U) (U := U.calling g mk a) (Vm.Alike.refl U.vm) q3⟩
theorem Ths_at (Z : Zt D h cy s σ H locs) (S : Ths (Az h s.heap.size) s s.heap) {U : State} (hW : s.WarmedH U.vm) : Ths (Az h H.size) U H :=
  ⟨((S.1.kept (fun a h1 h2 => Z.2.2.1 a h1 h2)).narrow (Az_le Z)).moved hW.alike, ((S.2.kept (fun a h1 h2 => Z.2.2.1 a h1 h2)).narrow (Az_le Z)).moved hW.alike⟩
theorem PzX_at (X : Cx p s m args c D h cy own cc nL) (Z : Zt D h cy s σ H locs) (S : Ths (Az h s.heap.size) s s.heap) (av : List Value) : ∀ U : State, U.heap = H → s.WarmedH U.vm → PzX D h cy av σ H.size av.toArray U := fun U hU hW =>
  ⟨rfl, by rw [hU], by rw [hU]; exact Z.1, va_K.moved hW.alike X.k, X.j, X.w.warm hW, by rw [hU]; exact Ths_at Z S hW⟩
end RX
/-! the law's own two: they catch -/
def wzW (y : MethodName) (b : ByteArray) (n : Nat) (r : Option FieldType) (hh : List (Nat × Nat × Nat × Nat)) : List Cond := .codeWith y b n r hh :: GT
theorem good_wzW {y : MethodName} {b : ByteArray} {n : Nat} {r : Option FieldType} {hh : List (Nat × Nat × Nat × Nat)} (h : Cond.codeWith y b n r hh ∈ GT) : GoodIn GT (wzW y b n r hh) := by
  intro w hw
  rcases List.mem_cons.mp hw with rfl | hw
  · exact ⟨h, good_of_word (List.mem_filter.mp h).2⟩
  · exact ⟨hw, good_of_word (List.mem_filter.mp hw).2⟩
def CW1 (l : Launch) (y : MethodName) (b : ByteArray) (n : Nat) (hh : List (Nat × Nat × Nat × Nat)) (f lo : Nat) (D : va_G) (h : Nat → Nat) (cy : Nat → ClassId) (av : List Value) (σ : St) (z : Int32 × St) : Prop := ∀ sz, Met l y (wzW y b n (some .int) hh) (rmx f lo) (PzX D h cy av σ sz) (QI D h cy sz z) 1 6 (Az h sz)
theorem entW {l : Launch} {y : MethodName} {b : ByteArray} {n : Nat} {hh : List (Nat × Nat × Nat × Nat)} {f lo : Nat} {D : va_G} {h : Nat → Nat} {cy : Nat → ClassId} {av : List Value} {σ : St} {z : Int32 × St} (hy : plainName y.cls = true) (hn : (lg_sl av).length ≤ n)
    (body : ∀ (p : Program) (e : Env) (s : State) (m : MethodId) (below : List Frame) (meth : Method) (c : Code) (ls : Array Slot), Cx p s m av.toArray c D h cy y.cls b n → Zt D h cy s σ s.heap [] → meth.sig.returnType = some .int → meth.locks = false → Ths (Az h s.heap.size) s s.heap → c.exceptionTable.toList = tableOf hh → lv_has ls n (lv_args 0 av) → W p l e (rmx f lo) s m av.toArray below meth c s.heap [] 0 0 (MQ below (QI D h cy s.heap.size z) av.toArray s 1 6 (Az h s.heap.size)) (F0 m 0 ls [])) :
    CW1 l y b n hh f lo D h cy av σ z := by
  intro sz
  refine va_MetW (cc := b) (maxL := n) (ret := some .int) hy rfl ?_
  intro p e s m args below meth c s₁ B hml hv
  obtain ⟨rfl, hsz, hP, hK, hj, hN, hS⟩ := hv
  subst hsz
  have hts0 := atoms_spec (ws := wzW y b n (some .int) hh) B.pre
  have htb := vx_table (x := y) B (hts0 _ List.mem_cons_self)
  have hl := lv_entry av (n := n) hn
  rw [lg_entry_eq]
  generalize (lg_sl av ++ List.replicate (n - (lg_sl av).length) Slot.unset).toArray = ls at hl ⊢
  exact body p e s m below meth c ls ⟨B.exec, B.bytes, hml, findClass_of_methodNamed B.named, fun w hw => hts0 w (List.mem_cons_of_mem _ hw), hK, hj, hN⟩ ⟨hP, va_S.rf⟩ B.returns B.notSynchronized hS htb hl

theorem cd_X9_has : Cond.code yX9_has cX9_has 2 (some .boolean) ∈ GT := GT5 183 rfl rfl
theorem iv_X9_has : Cond.instanceMethod yX9_has ∈ GT := GT5 181 rfl rfl
theorem sl_X9_has : Cond.selects yX9_has.cls yX9_has yX9_has ∈ GT := GT5 182 rfl rfl
theorem fl_RX11_214 : Cond.fieldLink RX11 214 (TX9 1).1 (TX9 1).2.1 (TX9 1).2.2.1 ∈ GT := GT2 102 rfl rfl
theorem gf_RX11_214 {p : Program} {l : Launch} {e : Env} {R : Room} {s : State} {m : MethodId} {args : Array Value} {below : List Frame} {meth : Method} {c : Code} {H : Heap} {locs : List Loc} {cells slots : Nat} {Q : State → Prop} {D : va_G} {h : Nat → Nat} {cy : Nat → ClassId} {σ : St} {cc : ByteArray} {nL pc : Nat} {ls : Array Slot} {rest : List Value} (X : Cx p s m args c D h cy RX11 cc nL) (Z : Zt D h cy s σ H locs) {k : Nat} (hk : VisS k) (hdg : decode cc pc = .ok (.getfield 214, 3)) (kk : W p l e R s m args below meth c H locs cells slots Q (F0 m (pc + 3) ls (.ref (h (k + 2)) :: rest))) : W p l e R s m args below meth c H locs cells slots Q (F0 m pc ls (.ref (h k) :: rest)) :=
  x_get (T := TX9) X Z hk.1 ing9 rfl 1 (by decide) fl_RX11_214 rfl rfl hdg kk
theorem fl_RX11_218 : Cond.fieldLink RX11 218 (TX9 0).1 (TX9 0).2.1 (TX9 0).2.2.1 ∈ GT := GT2 99 rfl rfl
theorem gf_RX11_218 {p : Program} {l : Launch} {e : Env} {R : Room} {s : State} {m : MethodId} {args : Array Value} {below : List Frame} {meth : Method} {c : Code} {H : Heap} {locs : List Loc} {cells slots : Nat} {Q : State → Prop} {D : va_G} {h : Nat → Nat} {cy : Nat → ClassId} {σ : St} {cc : ByteArray} {nL pc : Nat} {ls : Array Slot} {rest : List Value} (X : Cx p s m args c D h cy RX11 cc nL) (Z : Zt D h cy s σ H locs) {k : Nat} (hk : VisS k) (hdg : decode cc pc = .ok (.getfield 218, 3)) (kk : W p l e R s m args below meth c H locs cells slots Q (F0 m (pc + 3) ls (.ref (h (k + 1)) :: rest))) : W p l e R s m args below meth c H locs cells slots Q (F0 m pc ls (.ref (h k) :: rest)) :=
  x_get (T := TX9) X Z hk.1 ing9 rfl 0 (by decide) fl_RX11_218 rfl rfl hdg kk
theorem lk_RX11_203 : LkV RX11 203 yX6_number cX6_number 7 (some .long) 2 := ⟨⟨GT5 172 rfl rfl, cd_X6_number, in_RX6, (by decide +kernel)⟩, iv_X6_number, sl_X6_number⟩
theorem lk_RX11_211 : LkV RX11 211 yX9_has cX9_has 2 (some .boolean) 1 := ⟨⟨GT5 180 rfl rfl, cd_X9_has, in_RX9, (by decide +kernel)⟩, iv_X9_has, sl_X9_has⟩
theorem lk_RX11_222 : LkS RX11 222 yX9_isBind cX9_isBind 2 (some .boolean) 1 := ⟨⟨GT5 184 rfl rfl, cd_X9_isBind, in_RX9, (by decide +kernel)⟩, GT5 26 rfl rfl⟩
theorem lk_RX11_226 : LkS RX11 226 yX9_subjectOf cX9_subjectOf 2 (some .long) 1 := ⟨⟨GT5 185 rfl rfl, cd_X9_subjectOf, in_RX9, (by decide +kernel)⟩, GT5 70 rfl rfl⟩
theorem lk_RX11_230 : LkS RX11 230 yX9_extraOf cX9_extraOf 2 (some .long) 1 := ⟨⟨GT5 186 rfl rfl, cd_X9_extraOf, in_RX9, (by decide +kernel)⟩, GT5 76 rfl rfl⟩
set_option maxRecDepth 100000 in
set_option maxHeartbeats 4000000 in
theorem c_X11_pointer (l : Launch) (htr : l.stackTraces = false) (D : va_G) (h : Nat → Nat) (cy : Nat → ClassId) (a1 : Int32) (σ : St) (y : Option Int64 × St) (hf : f_X11_pointer a1 σ = some y) : CXx l yX11_pointer cX11_pointer 3 (some .long) 6 90 D h cy [.ref (h 0), .int a1] σ y := by
  refine entX (by decide) (Nat.le_of_ble_eq_true rfl) ?_
  intro p e s m below meth c ls X Z hr hk S ht hl
  have X : Cx p s m _ c D h cy RX11 cX11_pointer 3 := X
  have hx := X.x
  have hb := X.b
  have hl : lv_has ls 3 [(0, .ref (h 0)), (1, .int a1)] := hl
  unfold f_X11_pointer at hf
  refine lv_aload_n hx hb dX11_pointer_0 rfl (lv_at hl 0 rfl) ?_
  refine gf_RX11_72 X Z dX11_pointer_1 ?_
  refine gf_RX11_192 X Z dX11_pointer_4 ?_
  refine lv_iload_n hx hb dX11_pointer_7 rfl (lv_at hl 1 rfl) ?_
  refine lv_bipush (v := 8) hx hb dX11_pointer_8 (by decide) ?_
  obtain ⟨r3, s2, h1, hf⟩ := bi_s hf
  refine goI Z (run_V (As := [.int a1, .int (8 : Int32)]) (rest := []) X Z (c_X7_placeOf l D h cy segs_54 a1 (8 : Int32) σ (r3, s2) h1 _) lk_RX11_193 ⟨by decide, by decide⟩ (rv_SegsS segs_54) rfl hl.1 rfl (Nat.le_of_ble_eq_true rfl) ⟨Nat.zero_le _, Nat.zero_le _⟩ dX11_pointer_10) (fun H locs Z => ?_)
  refine lv_istore_n (lv' := [(2, .int r3), (0, .ref (h 0)), (1, .int a1)]) hx hb dX11_pointer_13 rfl hl (by decide) rfl (fun ls hl => ?_)
  refine lv_iload_n hx hb dX11_pointer_14 rfl (lv_at hl 0 rfl) ?_
  refine lv_iconst (v := (-1)) hx hb dX11_pointer_15 (by decide) ?_
  refine lv_icmp_ne (tgt := 27) hx hb dX11_pointer_16 (by decide) (fun c4 => ?_) (fun c4 => ?_)
  · have hf := itn c4 hf
    refine lv_aload_n hx hb dX11_pointer_27 rfl (lv_at hl 1 rfl) ?_
    refine gf_RX11_72 X Z dX11_pointer_28 ?_
    refine gf_RX11_197 X Z dX11_pointer_31 ?_
    refine lv_iload_n hx hb dX11_pointer_34 rfl (lv_at hl 0 rfl) ?_
    refine lv_bipush (v := 8) hx hb dX11_pointer_35 (by decide) ?_
    obtain ⟨r7, s6, h5, hf⟩ := bi_s hf
    refine goL Z (run_V (As := [.int r3, .int (8 : Int32)]) (rest := []) X Z (c_X6_number l D h cy row_59 r3 (8 : Int32) s2 (r7, s6) h5 _) lk_RX11_203 ⟨by decide, by decide⟩ (rv_RowS row_59) rfl hl.1 rfl (Nat.le_of_ble_eq_true rfl) ⟨Nat.zero_le _, Nat.zero_le _⟩ dX11_pointer_37) (fun H locs Z => ?_)
    exact retX X hr hk Z hf dX11_pointer_40
  · have hf := itp c4 hf
    exact throwX X hk Z S ht htr hf hl.1 dX11_pointer_19 dX11_pointer_22 dX11_pointer_23 dX11_pointer_26 (by decide) (Nat.le_of_ble_eq_true rfl) (by decide) (by decide)
set_option maxRecDepth 100000 in
set_option maxHeartbeats 4000000 in
theorem c_X11_visit (l : Launch) (htr : l.stackTraces = false) (D : va_G) (h : Nat → Nat) (cy : Nat → ClassId) (a1 : Int32) (a2 : Int32) (σ : St) (y : Option Int64 × St) (hf : f_X11_visit a1 a2 σ = some y) : CXx l yX11_visit cX11_visit 6 (some .long) 6 90 D h cy [.ref (h 0), .int a1, .int a2] σ y := by
  refine entX (by decide) (Nat.le_of_ble_eq_true rfl) ?_
  intro p e s m below meth c ls X Z hr hk S ht hl
  have X : Cx p s m _ c D h cy RX11 cX11_visit 6 := X
  have hx := X.x
  have hb := X.b
  have hl : lv_has ls 6 [(0, .ref (h 0)), (1, .int a1), (2, .int a2)] := hl
  unfold f_X11_visit at hf
  refine lv_aload_n hx hb dX11_visit_0 rfl (lv_at hl 0 rfl) ?_
  refine gf_RX11_72 X Z dX11_visit_1 ?_
  refine gf_RX11_207 X Z dX11_visit_4 ?_
  refine lv_astore_n (lv' := [(3, .ref (h 61)), (0, .ref (h 0)), (1, .int a1), (2, .int a2)]) hx hb dX11_visit_7 rfl hl (by decide) rfl (fun ls hl => ?_)
  refine lv_aload_n hx hb dX11_visit_8 rfl (lv_at hl 0 rfl) ?_
  refine lv_iload_n hx hb dX11_visit_9 rfl (lv_at hl 2 rfl) ?_
  obtain ⟨r3, s2, h1, hf⟩ := bi_s hf
  refine goI Z (run_V (As := [.int a1]) (rest := []) X Z (c_X9_has l D h cy vis_61 a1 σ (r3, s2) h1 _) lk_RX11_211 ⟨by decide, by decide⟩ (rv_VisS vis_61) rfl hl.1 rfl (Nat.le_of_ble_eq_true rfl) ⟨Nat.zero_le _, Nat.zero_le _⟩ dX11_visit_10) (fun H locs Z => ?_)
  refine lv_if_ne (tgt := 24) hx hb dX11_visit_13 (by decide) (fun c4 => ?_) (fun c4 => ?_)
  · have hf := itn c4 hf
    refine lv_aload_n hx hb dX11_visit_24 rfl (lv_at hl 0 rfl) ?_
    refine gf_RX11_214 X Z vis_61 dX11_visit_25 ?_
    refine lv_iload_n hx hb dX11_visit_28 rfl (lv_at hl 2 rfl) ?_
    obtain ⟨g5, hf⟩ := gd_s hf
    refine x_lald (k := 63) X Z sh_63 g5 dX11_visit_29 ?_
    refine lv_topl (fun v6 ev6 => ?_)
    have hf := zn_e ev6 hf
    refine lv_lstore (lv' := [(4, .long v6), (3, .ref (h 61)), (0, .ref (h 0)), (1, .int a1), (2, .int a2)]) hx hb dX11_visit_30 hl (by decide) rfl (fun ls hl => ?_)
    refine lv_iload_n hx hb dX11_visit_32 rfl (lv_at hl 4 rfl) ?_
    refine Or.elim (Decidable.em (a2 = 0)) (fun c7 => ?_) (fun c7 => ?_)
    · have hf := itp c7 hf
      refine lv_tableIn (off := 31) (tgt := 64) hx hb dX11_visit_33 (by rw [c7]; decide) (by rw [c7]; decide) (by rw [c7]; rfl) (by decide) ?_
      refine lv_aload_n hx hb dX11_visit_64 rfl (lv_at hl 1 rfl) ?_
      refine gf_RX11_218 X Z vis_61 dX11_visit_65 ?_
      refine lv_iload_n hx hb dX11_visit_68 rfl (lv_at hl 3 rfl) ?_
      obtain ⟨g8, hf⟩ := gd_s hf
      refine x_iald (k := 62) X Z sh_62 g8 dX11_visit_69 ?_
      refine lv_i2l (v := (s2.1 62 a1.toNatClampNeg).toInt64) hx hb dX11_visit_70 rfl ?_
      exact retX X hr hk Z hf dX11_visit_71
    have hf := itn c7 hf
    refine Or.elim (Decidable.em (a2 = 1)) (fun c9 => ?_) (fun c9 => ?_)
    · have hf := itp c9 hf
      refine lv_tableIn (off := 39) (tgt := 72) hx hb dX11_visit_33 (by rw [c9]; decide) (by rw [c9]; decide) (by rw [c9]; rfl) (by decide) ?_
      refine lv_lload hx hb dX11_visit_72 (lv_at hl 0 rfl) ?_
      obtain ⟨r12, s11, h10, hf⟩ := bi_s hf
      refine goI Z (run_S (As := [.long v6]) (rest := []) X Z (c_X9_isBind l D h cy v6 s2 (r12, s11) h10 _) lk_RX11_222 ⟨by decide, by decide⟩ rfl hl.1 rfl (Nat.le_of_ble_eq_true rfl) ⟨Nat.zero_le _, Nat.zero_le _⟩ dX11_visit_74) (fun H locs Z => ?_)
      refine lv_if_eq (tgt := 84) hx hb dX11_visit_77 (by decide) (fun c13 => ?_) (fun c13 => ?_)
      · have hf := itp c13 hf
        refine lv_lconst (v := 0) hx hb dX11_visit_84 (by decide) ?_
        exact retX X hr hk Z hf dX11_visit_85
      · have hf := itn c13 hf
        refine lv_lconst (v := 1) hx hb dX11_visit_80 (by decide) ?_
        refine lv_goto (tgt := 85) hx hb dX11_visit_81 (by decide) ?_
        exact retX X hr hk Z hf dX11_visit_85
    have hf := itn c9 hf
    refine Or.elim (Decidable.em (a2 = 2)) (fun c14 => ?_) (fun c14 => ?_)
    · have hf := itp c14 hf
      refine lv_tableIn (off := 53) (tgt := 86) hx hb dX11_visit_33 (by rw [c14]; decide) (by rw [c14]; decide) (by rw [c14]; rfl) (by decide) ?_
      refine lv_lload hx hb dX11_visit_86 (lv_at hl 0 rfl) ?_
      obtain ⟨r17, s16, h15, hf⟩ := bi_s hf
      refine goL Z (run_S (As := [.long v6]) (rest := []) X Z (c_X9_subjectOf l D h cy v6 s2 (r17, s16) h15 _) lk_RX11_226 ⟨by decide, by decide⟩ rfl hl.1 rfl (Nat.le_of_ble_eq_true rfl) ⟨Nat.zero_le _, Nat.zero_le _⟩ dX11_visit_88) (fun H locs Z => ?_)
      exact retX X hr hk Z hf dX11_visit_91
    have hf := itn c14 hf
    refine Or.elim (Decidable.em (a2 = 3)) (fun c18 => ?_) (fun c18 => ?_)
    · have hf := itp c18 hf
      refine lv_tableIn (off := 59) (tgt := 92) hx hb dX11_visit_33 (by rw [c18]; decide) (by rw [c18]; decide) (by rw [c18]; rfl) (by decide) ?_
      refine lv_lload hx hb dX11_visit_92 (lv_at hl 0 rfl) ?_
      obtain ⟨r21, s20, h19, hf⟩ := bi_s hf
      refine goL Z (run_S (As := [.long v6]) (rest := []) X Z (c_X9_extraOf l D h cy v6 s2 (r21, s20) h19 _) lk_RX11_230 ⟨by decide, by decide⟩ rfl hl.1 rfl (Nat.le_of_ble_eq_true rfl) ⟨Nat.zero_le _, Nat.zero_le _⟩ dX11_visit_94) (fun H locs Z => ?_)
      exact retX X hr hk Z hf dX11_visit_97
    have hf := itn c18 hf
    refine lv_tableOut (tgt := 98) hx hb dX11_visit_33 (tsw_out 4 (fun i hi => by rcases (show i = 0 ∨ i = 1 ∨ i = 2 ∨ i = 3 by omega) with rfl | rfl | rfl | rfl <;> assumption)) (by decide) ?_
    exact throwX X hk Z S ht htr hf hl.1 dX11_visit_98 dX11_visit_101 dX11_visit_102 dX11_visit_105 (by decide) (Nat.le_of_ble_eq_true rfl) (by decide) (by decide)
  · have hf := itp c4 hf
    exact throwX X hk Z S ht htr hf hl.1 dX11_visit_16 dX11_visit_19 dX11_visit_20 dX11_visit_23 (by decide) (Nat.le_of_ble_eq_true rfl) (by decide) (by decide)
theorem cdw_L_pointer : Cond.codeWith yL_pointer cL_pointer 4 (some .int) [(0, 8, 11, 13)] ∈ GT := GT5 105 rfl rfl
theorem lkx_L_pointer : LkV RL 7 yX11_pointer cX11_pointer 3 (some .long) 1 := ⟨⟨GT5 107 rfl rfl, GT5 110 rfl rfl, GT1 1 rfl rfl, (by decide +kernel)⟩, GT5 108 rfl rfl, GT5 109 rfl rfl⟩
set_option maxRecDepth 100000 in
set_option maxHeartbeats 4000000 in
theorem c_L_pointer (l : Launch) (htr : l.stackTraces = false) (D : va_G) (h : Nat → Nat) (cy : Nat → ClassId) (a1 : Int32) (σ : St) (y : Int32 × St) (hf : f_L_pointer a1 σ = some y) : CW1 l yL_pointer cL_pointer 4 [(0, 8, 11, 13)] 7 112 D h cy [.ref (h 0), .int a1, .ref (h 110)] σ y := by
  refine entW (by decide) (Nat.le_of_ble_eq_true rfl) ?_
  intro p e s m below meth c ls X Z hr hk S htb hl
  have X : Cx p s m _ c D h cy RL cL_pointer 4 := X
  have hx := X.x
  have hb := X.b
  have hl : lv_has ls 4 [(0, .ref (h 0)), (1, .int a1), (2, .ref (h 110))] := hl
  unfold f_L_pointer at hf
  obtain ⟨r, s2, hc, hf⟩ := bi_s hf
  refine lv_aload_n hx hb dL_pointer_0 rfl (lv_at hl 2 rfl) ?_
  refine lv_iconst (v := 0) hx hb dL_pointer_1 (by decide) ?_
  refine lv_aload_n hx hb dL_pointer_2 rfl (lv_at hl 0 rfl) ?_
  refine lv_iload_n hx hb dL_pointer_3 rfl (lv_at hl 1 rfl) ?_
  refine vx_calll (vx_runV (As := [.int a1]) (rest := [.int 0, .ref (h 110)]) ⟨hx, hb, X.n, X.o, X.t⟩ (c_X11_pointer l htr D h cy a1 σ (r, s2) hc s.heap.size) ⟨callB_of 1 X.t (good_wz lkx_L_pointer.1.2.1) rfl rfl rfl (X.t _ lkx_L_pointer.1.2.2.1) (X.t _ lkx_L_pointer.1.1) lkx_L_pointer.1.2.2.2 ⟨by decide, by decide⟩, X.t _ lkx_L_pointer.2.1, X.t _ lkx_L_pointer.2.2⟩ ⟨PzX_blind, x_recv X Z rv_0, PzX_at X Z S _⟩ rfl rfl hl.1 rfl (lv_room (Nat.le_of_ble_eq_true rfl)) dL_pointer_4 ⟨Nat.le_of_ble_eq_true rfl, Nat.le_of_ble_eq_true rfl⟩) Z.2 (fun q _ hq => hq) (fun q hq => hq) (fun q _ hq => hq) (fun E ce q9 u t H1 locs1 ht hvm hp hB hz hq hS hce hcv hcl => ?_) (fun v u t H1 locs1 ht hvm hp hB hz hq hS => ?_)
  · obtain ⟨h1, h2⟩ := hp
    obtain ⟨rfl, hP0⟩ := hB
    rw [h2] at hP0
    have hP1 : va_P D vwCl (wd h cy s2) t.heap := hP0
    rw [ht] at hP1
    have h1 : r = none := h1
    subst h1
    have hf : some ((1 : Int32), s2) = some y := hf
    refine vx_catch (own := RL) (name := NSE) (E := NSE) (ce := ce) X.o [] { startPc := 0, endPc := 8, handlerPc := 11, catchType := 13 } [] htb (fun z hz => by cases hz) (by decide) (by decide) (X.t _ xcl13) ((X.w _ (List.mem_of_getElem? (i := 11) rfl)).use rfl) hce hcv hcl ?_
    refine lv_astore_n (lv' := [(3, .ref q9), (0, .ref (h 0)), (1, .int a1), (2, .ref (h 110))]) hx hb dL_pointer_11 rfl hl (by decide) rfl (fun ls hl => ?_)
    refine lv_iconst (v := 1) hx hb dL_pointer_12 (by decide) ?_
    cases hf
    exact W.iret (v := 1) hx hb hr (fun t' ht' hW => ⟨⟨1, s2, rfl, ⟨rfl, rfl⟩, by show va_P _ _ _ t'.heap; rw [ht']; exact hP1⟩, hS.F ht'⟩) hS.2.2 dL_pointer_13
  · obtain ⟨h1, h2⟩ := hp
    rw [h2] at hB
    have hP1 : va_P D vwCl (wd h cy s2) t.heap := hB
    rw [ht] at hP1
    have h1 : r = some v := h1
    subst h1
    have hf : some ((0 : Int32), sJ s2 110 0 v) = some y := hf
    have Z : Zt D h cy s s2 H1 locs1 := ⟨hP1, hS⟩
    refine x_last (k := 110) X Z sh_110 (by decide) dL_pointer_7 (fun s3 H locs e3 Z => ?_)
    refine lv_goto (tgt := 14) hx hb dL_pointer_8 (by decide) ?_
    refine lv_iconst (v := 0) hx hb dL_pointer_14 (by decide) ?_
    cases hf
    subst e3
    exact W.iret (v := 0) hx hb hr (fun t' ht' hW => ⟨⟨0, _, rfl, ⟨rfl, rfl⟩, by show va_P _ _ _ t'.heap; rw [ht']; exact Z.1⟩, Z.2.F ht'⟩) Z.2.2.2 dL_pointer_15
theorem cdw_L_visit : Cond.codeWith yL_visit cL_visit 5 (some .int) [(0, 9, 12, 13)] ∈ GT := GT5 175 rfl rfl
theorem lkx_L_visit : LkV RL 15 yX11_visit cX11_visit 6 (some .long) 2 := ⟨⟨GT5 176 rfl rfl, GT5 179 rfl rfl, GT1 1 rfl rfl, (by decide +kernel)⟩, GT5 177 rfl rfl, GT5 178 rfl rfl⟩
set_option maxRecDepth 100000 in
set_option maxHeartbeats 4000000 in
theorem c_L_visit (l : Launch) (htr : l.stackTraces = false) (D : va_G) (h : Nat → Nat) (cy : Nat → ClassId) (a1 a2 : Int32) (σ : St) (y : Int32 × St) (hf : f_L_visit a1 a2 σ = some y) : CW1 l yL_visit cL_visit 5 [(0, 9, 12, 13)] 7 115 D h cy [.ref (h 0), .int a1, .int a2, .ref (h 110)] σ y := by
  refine entW (by decide) (Nat.le_of_ble_eq_true rfl) ?_
  intro p e s m below meth c ls X Z hr hk S htb hl
  have X : Cx p s m _ c D h cy RL cL_visit 5 := X
  have hx := X.x
  have hb := X.b
  have hl : lv_has ls 5 [(0, .ref (h 0)), (1, .int a1), (2, .int a2), (3, .ref (h 110))] := hl
  unfold f_L_visit at hf
  obtain ⟨r, s2, hc, hf⟩ := bi_s hf
  refine lv_aload_n hx hb dL_visit_0 rfl (lv_at hl 3 rfl) ?_
  refine lv_iconst (v := 0) hx hb dL_visit_1 (by decide) ?_
  refine lv_aload_n hx hb dL_visit_2 rfl (lv_at hl 0 rfl) ?_
  refine lv_iload_n hx hb dL_visit_3 rfl (lv_at hl 1 rfl) ?_
  refine lv_iload_n hx hb dL_visit_4 rfl (lv_at hl 2 rfl) ?_
  refine vx_calll (vx_runV (As := [.int a1, .int a2]) (rest := [.int 0, .ref (h 110)]) ⟨hx, hb, X.n, X.o, X.t⟩ (c_X11_visit l htr D h cy a1 a2 σ (r, s2) hc s.heap.size) ⟨callB_of 2 X.t (good_wz lkx_L_visit.1.2.1) rfl rfl rfl (X.t _ lkx_L_visit.1.2.2.1) (X.t _ lkx_L_visit.1.1) lkx_L_visit.1.2.2.2 ⟨by decide, by decide⟩, X.t _ lkx_L_visit.2.1, X.t _ lkx_L_visit.2.2⟩ ⟨PzX_blind, x_recv X Z rv_0, PzX_at X Z S _⟩ rfl rfl hl.1 rfl (lv_room (Nat.le_of_ble_eq_true rfl)) dL_visit_5 ⟨Nat.le_of_ble_eq_true rfl, Nat.le_of_ble_eq_true rfl⟩) Z.2 (fun q _ hq => hq) (fun q hq => hq) (fun q _ hq => hq) (fun E ce q9 u t H1 locs1 ht hvm hp hB hz hq hS hce hcv hcl => ?_) (fun v u t H1 locs1 ht hvm hp hB hz hq hS => ?_)
  · obtain ⟨h1, h2⟩ := hp
    obtain ⟨rfl, hP0⟩ := hB
    rw [h2] at hP0
    have hP1 : va_P D vwCl (wd h cy s2) t.heap := hP0
    rw [ht] at hP1
    have h1 : r = none := h1
    subst h1
    have hf : some ((1 : Int32), s2) = some y := hf
    refine vx_catch (own := RL) (name := NSE) (E := NSE) (ce := ce) X.o [] { startPc := 0, endPc := 9, handlerPc := 12, catchType := 13 } [] htb (fun z hz => by cases hz) (by decide) (by decide) (X.t _ xcl13) ((X.w _ (List.mem_of_getElem? (i := 11) rfl)).use rfl) hce hcv hcl ?_
    refine lv_astore (lv' := [(4, .ref q9), (0, .ref (h 0)), (1, .int a1), (2, .int a2), (3, .ref (h 110))]) hx hb dL_visit_12 hl (by decide) rfl (fun ls hl => ?_)
    refine lv_iconst (v := 1) hx hb dL_visit_14 (by decide) ?_
    cases hf
    exact W.iret (v := 1) hx hb hr (fun t' ht' hW => ⟨⟨1, s2, rfl, ⟨rfl, rfl⟩, by show va_P _ _ _ t'.heap; rw [ht']; exact hP1⟩, hS.F ht'⟩) hS.2.2 dL_visit_15
  · obtain ⟨h1, h2⟩ := hp
    rw [h2] at hB
    have hP1 : va_P D vwCl (wd h cy s2) t.heap := hB
    rw [ht] at hP1
    have h1 : r = some v := h1
    subst h1
    have hf : some ((0 : Int32), sJ s2 110 0 v) = some y := hf
    have Z : Zt D h cy s s2 H1 locs1 := ⟨hP1, hS⟩
    refine x_last (k := 110) X Z sh_110 (by decide) dL_visit_8 (fun s3 H locs e3 Z => ?_)
    refine lv_goto (tgt := 16) hx hb dL_visit_9 (by decide) ?_
    refine lv_iconst (v := 0) hx hb dL_visit_16 (by decide) ?_
    cases hf
    subst e3
    exact W.iret (v := 0) hx hb hr (fun t' ht' hW => ⟨⟨0, _, rfl, ⟨rfl, rfl⟩, by show va_P _ _ _ t'.heap; rw [ht']; exact Z.1⟩, Z.2.F ht'⟩) Z.2.2.2 dL_visit_17
