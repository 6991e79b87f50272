/-! THE CLAIM OUT OF ONE WALK OF THE LAW'S BODY. Your part is whole_start (and what it stands on); all else here is the same for every law, but numbers. -/
def R_law : String := "ChainLoaderLaw"
def lw_P (b : Addr) (xs : List Int32) (args : Array Value) (s : State) : Prop := args = #[.ref b] ∧ s.IntsAt b xs ∧ xs.length ≤ 3072 ∧ (Jvm.Cond.and given_1 narrow_1).before args s = true
def lw_Q (_ : Array Value) (s : State) (o : Outcome) (t : State) : Prop := o = .returned (some (.int 1)) ∧ Framed s o t [] 601024 7293034
def lw_Z (below : List Frame) (a : Array Value) (s : State) : State → Prop := fun t => ∃ o, t.status = .running ∧ Ended t below o ∧ lw_Q a s o t
/-- the law's own end, with 1 on the stack, nothing written that was there before, its room as the claim has it -/
theorem lw_ret {p : Program} {l : Launch} {e : Env} {s : State} {m : MethodId} {below : List Frame} {meth : Method} {c : Code} {b : Nat} (hx : p.tables.exec = Jvm.exec) (hb : c.code = code) (hr : meth.sig.returnType = ret) (hlocks : meth.locks = false) {pc : Nat} {H : Heap} {ls : Array Slot} (hdg : decode code pc = .ok (.ireturn, 1)) : W p l e room_1 s m #[Value.ref b] below meth c H [] 601024 7293034 (lw_Z below #[Value.ref b] s) (F0 m pc ls [.int 1]) := by
  intro T hT X
  obtain ⟨fs, hret, hrun, hended, hW, hframe⟩ := X.leave (v := some (.int 1)) (hlocks := hlocks) (fun h => by rw [hr] at h; cases h)
  have hmeth' : T.vm.method? m = some meth := X.method'
  refine ⟨T.setFrames fs, ?_, .returned (some (.int 1)), hrun, hended, rfl, ⟨_, rfl⟩, hW, hframe⟩
  jvm_step X.here [X.here.top, hx, hb, hdg, hmeth', hr, ret, narrow_b1]
  (try refine ⟨rfl, ?_⟩); (try refine ⟨rfl, ?_⟩)
  first | (intro acts; rw [hret _ acts rfl rfl rfl]) | rw [hret _ _ rfl rfl rfl]
  exact Steps.refl _
/-- what holds at the law's entry: the machine, the code, the tables' words (any of lw_tbl by 'hts w (by decide +kernel)'), the script of L ints xs at the cell b, what the Statement gives of the start (any of its parts by flat_of_before) -/
def lw_At (p : Program) (s : State) (m : MethodId) (meth : Method) (c : Code) (b L : Nat) (xs : Nat → Int32) : Prop :=
  p.tables.exec = Jvm.exec ∧ c.code = code ∧ meth.sig.returnType = ret ∧ c.maxLocals = 8 ∧ s.vm.findClass R_law = some m.cls ∧ (∀ w ∈ lw_tbl, w.before #[Value.ref b] s = true) ∧ va_X b L xs s s.heap ∧ b < s.heap.size ∧ meth.locks = false ∧ (Jvm.Cond.and given_1 narrow_1).before #[Value.ref b] s = true
/-! the law's loop -/
def LkW (own : String) (idx : Nat) (y : MethodName) (b : ByteArray) (n : Nat) (hh : List (Nat × Nat × Nat × Nat)) (na : Nat) : Prop :=
  Cond.methodLink own idx y ∈ GT ∧ Cond.codeWith y b n (some .int) hh ∈ GT ∧ Cond.initialized y.cls ∈ GT ∧ (y.cls ≠ "java/lang/invoke/MethodHandle" ∧ y.cls ≠ "java/lang/invoke/VarHandle" ∧ (parseMethodDescriptor y.desc).map (fun d => d.parameters.length) = some na) ∧ Cond.static y ∈ GT
section RL
variable {p : Program} {l : Launch} {e : Env} {R : Room} {s : State} {m : MethodId} {args : Array Value} {below : List Frame} {meth : Method} {c : Code} {H : Heap} {locs : List Loc} {cells slots : Nat} {Q : State → Prop} {D : va_G} {h : Nat → Nat} {cy : Nat → ClassId} {σ : St} {own : String} {cc : ByteArray} {nL pc : Nat} {ls : Array Slot} {rest : List Value}
theorem run_W (X : Cx p s m args c D h cy own cc nL) (Z : Zt D h cy s σ H locs) (S : Ths (Az h s.heap.size) s s.heap) {idx n na f lo : Nat} {y : MethodName} {b : ByteArray} {hh : List (Nat × Nat × Nat × Nat)} {As : List Value} {Qc : Array Value → State → Outcome → State → Prop} (hM : Met l y (wzW y b n (some .int) hh) (rmx f lo) (PzX D h cy As σ H.size) Qc 1 6 (Az h H.size)) (hL : LkW own idx y b n hh na) (hR : f + 1 ≤ R.frames ∧ 8 + (n + 11) + lo ≤ R.locals) (hn : As.length = na) (hsz : ls.size = nL) {st0 : List Value} (hst : st0 = As.reverse ++ rest) (hrm : (rest.map fun v => v.category).sum ≤ 8) (hcs : cells + 1 ≤ R.cells ∧ slots + 6 ≤ R.slots) (hdg : decode cc pc = .ok (.invokestatic idx, 3)) :
    va_Run p l e R s m args below meth c H locs cells slots 1 6 (F0 m pc ls st0) rest (Qc As.toArray) (Az h H.size) := by
  have hG := good_wzW hL.2.1
  refine vx_runSW (As := As) (rest := rest) (hh := hh) ⟨X.x, X.b, X.n, X.o, X.t⟩ hM ⟨⟨rfl, rfl, hR.1, hR.2, pay_in X.t hG, List.mem_cons_self⟩, X.t _ hL.2.1, X.t _ hL.2.2.1, ⟨hL.2.2.2.1.1, hL.2.2.2.1.2.1⟩, fun sig hs => ?_, X.t _ hL.1, X.t _ hL.2.2.2.2⟩ ⟨PzX_blind, PzX_at X Z S _⟩ rfl hn hsz hst (lv_room hrm) hdg hcs
  have h2 := hL.2.2.2.1.2.2
  rw [hs] at h2
  exact (Option.some.inj h2).symm
theorem goW (Z : Zt D h cy s σ H locs) {st0 : List Value} {a : Array Value} {r : Int32} {σ1 : St} (hr : va_Run p l e R s m args below meth c H locs cells slots 1 6 (F0 m pc ls st0) rest (QI D h cy H.size (r, σ1) a) (Az h H.size))
    (kk : ∀ (H : Heap) (locs : List Loc), Zt D h cy s σ1 H locs → W p l e R s m args below meth c H locs (cells + 1) (slots + 6) Q (F0 m (pc + 3) ls (.int r :: rest))) : W p l e R s m args below meth c H locs cells slots Q (F0 m pc ls st0) :=
  va_calli hr Z.2 (fun q _ hq => Az_le Z q hq) (Az_le Z) (fun r1 u t H1 l1 ht hvm hw hB hz hk hS => by
    obtain ⟨rfl, rfl⟩ := hw
    exact kk H1 l1 ⟨by rw [← ht]; exact hB, hS⟩)
theorem law_b {b : Nat} (Hge : ∀ k, k < NC → s.heap.size ≤ h k) (hbl : b < s.heap.size) : ¬ Az h s.heap.size b := by
  rintro (⟨k, hk, rfl⟩ | hq)
  · exact absurd (Hge k hk) (Nat.not_le.mpr hbl)
  · exact absurd hq (Nat.not_le.mpr hbl)
theorem law_end {b : Nat} (X : Cx p s m #[Value.ref b] c D h cy RL cL_law 8) (Z : Zt D h cy s σ H locs) (Hge : ∀ k, k < NC → s.heap.size ≤ h k) (hr : meth.sig.returnType = ret) (hk : meth.locks = false) (hc : cells ≤ 601024) (hs : slots ≤ 7293034) (hdg : decode cL_law pc = .ok (.ireturn, 1)) : W p l e room_1 s m #[Value.ref b] below meth c H locs cells slots (lw_Z below #[Value.ref b] s) (F0 m pc ls [.int 1]) := by
  refine va_forget (fun q hq => ?_) (W.widen (k := 601024) (n := 7293034) hc hs (lw_ret X.x X.b hr hk hdg))
  rcases Z.2.2.2 q hq with ⟨k, hk, e⟩ | g
  · rw [e]; exact Hge k hk
  · exact g
end RL

theorem cd_X11_anew : Cond.code yX11_anew cX11_anew 3 (some .boolean) ∈ GT := GT3 11 rfl rfl
theorem cd_X11_bind : Cond.code yX11_bind cX11_bind 5 (some .boolean) ∈ GT := GT3 126 rfl rfl
theorem cd_X11_count : Cond.code yX11_count cX11_count 2 (some .int) ∈ GT := GT5 102 rfl rfl
theorem cd_X11_cut : Cond.code yX11_cut cX11_cut 2 (some .boolean) ∈ GT := GT4 49 rfl rfl
theorem cd_X11_damage : Cond.code yX11_damage cX11_damage 3 (some .boolean) ∈ GT := GT4 44 rfl rfl
theorem cd_X11_drop : Cond.code yX11_drop cX11_drop 3 (some .boolean) ∈ GT := GT3 132 rfl rfl
theorem cd_X11_end : Cond.code yX11_end cX11_end 2 (some .boolean) ∈ GT := GT3 3 rfl rfl
theorem cd_X11_export : Cond.code yX11_export cX11_export 4 (some .boolean) ∈ GT := GT4 53 rfl rfl
theorem cd_X11_feed : Cond.code yX11_feed cX11_feed 6 (some .int) ∈ GT := GT2 223 rfl rfl
theorem cd_X11_fill : Cond.code yX11_fill cX11_fill 4 (some .boolean) ∈ GT := GT3 61 rfl rfl
theorem cd_X11_find : Cond.code yX11_find cX11_find 2 (some .int) ∈ GT := GT5 93 rfl rfl
theorem cd_X11_image : Cond.code yX11_image cX11_image 2 (some .int) ∈ GT := GT4 38 rfl rfl
theorem cd_X11_imports : Cond.code yX11_imports cX11_imports 4 (some .int) ∈ GT := GT3 92 rfl rfl
theorem cd_X11_load : Cond.code yX11_load cX11_load 2 (some .int) ∈ GT := GT4 73 rfl rfl
theorem cd_X11_memory : Cond.code yX11_memory cX11_memory 3 (some .int) ∈ GT := GT5 88 rfl rfl
theorem cd_X11_place : Cond.code yX11_place cX11_place 1 (some .int) ∈ GT := GT5 84 rfl rfl
theorem cd_X11_rebase : Cond.code yX11_rebase cX11_rebase 6 (some .boolean) ∈ GT := GT3 103 rfl rfl
theorem cd_X11_section : Cond.code yX11_section cX11_section 5 (some .int) ∈ GT := GT3 76 rfl rfl
theorem cd_X11_segment : Cond.code yX11_segment cX11_segment 4 (some .int) ∈ GT := GT3 27 rfl rfl
theorem cd_X11_symbol : Cond.code yX11_symbol cX11_symbol 4 (some .int) ∈ GT := GT3 84 rfl rfl
theorem cd_X11_write : Cond.code yX11_write cX11_write 1 (some .int) ∈ GT := GT3 140 rfl rfl
theorem cd_X12_anew : Cond.code yX12_anew cX12_anew 3 (some .boolean) ∈ GT := GT6 209 rfl rfl
theorem cd_X12_bind : Cond.code yX12_bind cX12_bind 5 (some .boolean) ∈ GT := GT7 31 rfl rfl
theorem cd_X12_count : Cond.code yX12_count cX12_count 2 (some .int) ∈ GT := GT8 22 rfl rfl
theorem cd_X12_cut : Cond.code yX12_cut cX12_cut 2 (some .boolean) ∈ GT := GT7 113 rfl rfl
theorem cd_X12_damage : Cond.code yX12_damage cX12_damage 3 (some .boolean) ∈ GT := GT7 109 rfl rfl
theorem cd_X12_drop : Cond.code yX12_drop cX12_drop 4 (some .boolean) ∈ GT := GT7 35 rfl rfl
theorem cd_X12_end : Cond.code yX12_end cX12_end 2 (some .boolean) ∈ GT := GT6 205 rfl rfl
theorem cd_X12_export : Cond.code yX12_export cX12_export 7 (some .boolean) ∈ GT := GT7 117 rfl rfl
theorem cd_X12_feed : Cond.code yX12_feed cX12_feed 6 (some .int) ∈ GT := GT6 197 rfl rfl
theorem cd_X12_fill : Cond.code yX12_fill cX12_fill 5 (some .boolean) ∈ GT := GT6 230 rfl rfl
theorem cd_X12_find : Cond.code yX12_find cX12_find 5 (some .int) ∈ GT := GT8 18 rfl rfl
theorem cd_X12_image : Cond.code yX12_image cX12_image 2 (some .int) ∈ GT := GT7 105 rfl rfl
theorem cd_X12_imports : Cond.code yX12_imports cX12_imports 3 (some .int) ∈ GT := GT7 6 rfl rfl
theorem cd_X12_load : Cond.code yX12_load cX12_load 2 (some .int) ∈ GT := GT7 125 rfl rfl
theorem cd_X12_memory : Cond.code yX12_memory cX12_memory 3 (some .int) ∈ GT := GT7 238 rfl rfl
theorem cd_X12_place : Cond.code yX12_place cX12_place 1 (some .int) ∈ GT := GT7 234 rfl rfl
theorem cd_X12_pointer : Cond.code yX12_pointer cX12_pointer 6 (some .long) ∈ GT := GT8 10 rfl rfl
theorem cd_X12_rebase : Cond.code yX12_rebase cX12_rebase 6 (some .boolean) ∈ GT := GT7 10 rfl rfl
theorem cd_X12_section : Cond.code yX12_section cX12_section 5 (some .int) ∈ GT := GT6 238 rfl rfl
theorem cd_X12_segment : Cond.code yX12_segment cX12_segment 5 (some .int) ∈ GT := GT6 222 rfl rfl
theorem cd_X12_symbol : Cond.code yX12_symbol cX12_symbol 4 (some .int) ∈ GT := GT7 2 rfl rfl
theorem cd_X12_thrown : Cond.code yX12_thrown cX12_thrown 1 (some .int) ∈ GT := GT6 193 rfl rfl
theorem cd_X12_visit : Cond.code yX12_visit cX12_visit 3 (some .long) ∈ GT := GT8 14 rfl rfl
theorem cd_X12_write : Cond.code yX12_write cX12_write 5 (some .int) ∈ GT := GT7 39 rfl rfl
theorem iv_X11_anew : Cond.instanceMethod yX11_anew ∈ GT := GT3 9 rfl rfl
theorem sl_X11_anew : Cond.selects yX11_anew.cls yX11_anew yX11_anew ∈ GT := GT3 10 rfl rfl
theorem iv_X11_bind : Cond.instanceMethod yX11_bind ∈ GT := GT3 124 rfl rfl
theorem sl_X11_bind : Cond.selects yX11_bind.cls yX11_bind yX11_bind ∈ GT := GT3 125 rfl rfl
theorem iv_X11_count : Cond.instanceMethod yX11_count ∈ GT := GT5 100 rfl rfl
theorem sl_X11_count : Cond.selects yX11_count.cls yX11_count yX11_count ∈ GT := GT5 101 rfl rfl
theorem iv_X11_cut : Cond.instanceMethod yX11_cut ∈ GT := GT4 47 rfl rfl
theorem sl_X11_cut : Cond.selects yX11_cut.cls yX11_cut yX11_cut ∈ GT := GT4 48 rfl rfl
theorem iv_X11_damage : Cond.instanceMethod yX11_damage ∈ GT := GT4 42 rfl rfl
theorem sl_X11_damage : Cond.selects yX11_damage.cls yX11_damage yX11_damage ∈ GT := GT4 43 rfl rfl
theorem iv_X11_drop : Cond.instanceMethod yX11_drop ∈ GT := GT3 130 rfl rfl
theorem sl_X11_drop : Cond.selects yX11_drop.cls yX11_drop yX11_drop ∈ GT := GT3 131 rfl rfl
theorem iv_X11_end : Cond.instanceMethod yX11_end ∈ GT := GT3 1 rfl rfl
theorem sl_X11_end : Cond.selects yX11_end.cls yX11_end yX11_end ∈ GT := GT3 2 rfl rfl
theorem iv_X11_export : Cond.instanceMethod yX11_export ∈ GT := GT4 51 rfl rfl
theorem sl_X11_export : Cond.selects yX11_export.cls yX11_export yX11_export ∈ GT := GT4 52 rfl rfl
theorem iv_X11_feed : Cond.instanceMethod yX11_feed ∈ GT := GT2 221 rfl rfl
theorem sl_X11_feed : Cond.selects yX11_feed.cls yX11_feed yX11_feed ∈ GT := GT2 222 rfl rfl
theorem iv_X11_fill : Cond.instanceMethod yX11_fill ∈ GT := GT3 59 rfl rfl
theorem sl_X11_fill : Cond.selects yX11_fill.cls yX11_fill yX11_fill ∈ GT := GT3 60 rfl rfl
theorem iv_X11_find : Cond.instanceMethod yX11_find ∈ GT := GT5 91 rfl rfl
theorem sl_X11_find : Cond.selects yX11_find.cls yX11_find yX11_find ∈ GT := GT5 92 rfl rfl
theorem iv_X11_image : Cond.instanceMethod yX11_image ∈ GT := GT4 36 rfl rfl
theorem sl_X11_image : Cond.selects yX11_image.cls yX11_image yX11_image ∈ GT := GT4 37 rfl rfl
theorem iv_X11_imports : Cond.instanceMethod yX11_imports ∈ GT := GT3 90 rfl rfl
theorem sl_X11_imports : Cond.selects yX11_imports.cls yX11_imports yX11_imports ∈ GT := GT3 91 rfl rfl
theorem iv_X11_load : Cond.instanceMethod yX11_load ∈ GT := GT4 71 rfl rfl
theorem sl_X11_load : Cond.selects yX11_load.cls yX11_load yX11_load ∈ GT := GT4 72 rfl rfl
theorem iv_X11_memory : Cond.instanceMethod yX11_memory ∈ GT := GT5 86 rfl rfl
theorem sl_X11_memory : Cond.selects yX11_memory.cls yX11_memory yX11_memory ∈ GT := GT5 87 rfl rfl
theorem iv_X11_place : Cond.instanceMethod yX11_place ∈ GT := GT5 82 rfl rfl
theorem sl_X11_place : Cond.selects yX11_place.cls yX11_place yX11_place ∈ GT := GT5 83 rfl rfl
theorem iv_X11_rebase : Cond.instanceMethod yX11_rebase ∈ GT := GT3 101 rfl rfl
theorem sl_X11_rebase : Cond.selects yX11_rebase.cls yX11_rebase yX11_rebase ∈ GT := GT3 102 rfl rfl
theorem iv_X11_section : Cond.instanceMethod yX11_section ∈ GT := GT3 74 rfl rfl
theorem sl_X11_section : Cond.selects yX11_section.cls yX11_section yX11_section ∈ GT := GT3 75 rfl rfl
theorem iv_X11_segment : Cond.instanceMethod yX11_segment ∈ GT := GT3 25 rfl rfl
theorem sl_X11_segment : Cond.selects yX11_segment.cls yX11_segment yX11_segment ∈ GT := GT3 26 rfl rfl
theorem iv_X11_symbol : Cond.instanceMethod yX11_symbol ∈ GT := GT3 82 rfl rfl
theorem sl_X11_symbol : Cond.selects yX11_symbol.cls yX11_symbol yX11_symbol ∈ GT := GT3 83 rfl rfl
theorem iv_X11_write : Cond.instanceMethod yX11_write ∈ GT := GT3 138 rfl rfl
theorem sl_X11_write : Cond.selects yX11_write.cls yX11_write yX11_write ∈ GT := GT3 139 rfl rfl
theorem iv_X12_anew : Cond.instanceMethod yX12_anew ∈ GT := GT6 207 rfl rfl
theorem sl_X12_anew : Cond.selects yX12_anew.cls yX12_anew yX12_anew ∈ GT := GT6 208 rfl rfl
theorem iv_X12_bind : Cond.instanceMethod yX12_bind ∈ GT := GT7 29 rfl rfl
theorem sl_X12_bind : Cond.selects yX12_bind.cls yX12_bind yX12_bind ∈ GT := GT7 30 rfl rfl
theorem iv_X12_count : Cond.instanceMethod yX12_count ∈ GT := GT8 20 rfl rfl
theorem sl_X12_count : Cond.selects yX12_count.cls yX12_count yX12_count ∈ GT := GT8 21 rfl rfl
theorem iv_X12_cut : Cond.instanceMethod yX12_cut ∈ GT := GT7 111 rfl rfl
theorem sl_X12_cut : Cond.selects yX12_cut.cls yX12_cut yX12_cut ∈ GT := GT7 112 rfl rfl
theorem iv_X12_damage : Cond.instanceMethod yX12_damage ∈ GT := GT7 107 rfl rfl
theorem sl_X12_damage : Cond.selects yX12_damage.cls yX12_damage yX12_damage ∈ GT := GT7 108 rfl rfl
theorem iv_X12_drop : Cond.instanceMethod yX12_drop ∈ GT := GT7 33 rfl rfl
theorem sl_X12_drop : Cond.selects yX12_drop.cls yX12_drop yX12_drop ∈ GT := GT7 34 rfl rfl
theorem iv_X12_end : Cond.instanceMethod yX12_end ∈ GT := GT6 203 rfl rfl
theorem sl_X12_end : Cond.selects yX12_end.cls yX12_end yX12_end ∈ GT := GT6 204 rfl rfl
theorem iv_X12_export : Cond.instanceMethod yX12_export ∈ GT := GT7 115 rfl rfl
theorem sl_X12_export : Cond.selects yX12_export.cls yX12_export yX12_export ∈ GT := GT7 116 rfl rfl
theorem iv_X12_feed : Cond.instanceMethod yX12_feed ∈ GT := GT6 195 rfl rfl
theorem sl_X12_feed : Cond.selects yX12_feed.cls yX12_feed yX12_feed ∈ GT := GT6 196 rfl rfl
theorem iv_X12_fill : Cond.instanceMethod yX12_fill ∈ GT := GT6 228 rfl rfl
theorem sl_X12_fill : Cond.selects yX12_fill.cls yX12_fill yX12_fill ∈ GT := GT6 229 rfl rfl
theorem iv_X12_find : Cond.instanceMethod yX12_find ∈ GT := GT8 16 rfl rfl
theorem sl_X12_find : Cond.selects yX12_find.cls yX12_find yX12_find ∈ GT := GT8 17 rfl rfl
theorem iv_X12_image : Cond.instanceMethod yX12_image ∈ GT := GT7 103 rfl rfl
theorem sl_X12_image : Cond.selects yX12_image.cls yX12_image yX12_image ∈ GT := GT7 104 rfl rfl
theorem iv_X12_imports : Cond.instanceMethod yX12_imports ∈ GT := GT7 4 rfl rfl
theorem sl_X12_imports : Cond.selects yX12_imports.cls yX12_imports yX12_imports ∈ GT := GT7 5 rfl rfl
theorem iv_X12_load : Cond.instanceMethod yX12_load ∈ GT := GT7 123 rfl rfl
theorem sl_X12_load : Cond.selects yX12_load.cls yX12_load yX12_load ∈ GT := GT7 124 rfl rfl
theorem iv_X12_memory : Cond.instanceMethod yX12_memory ∈ GT := GT7 236 rfl rfl
theorem sl_X12_memory : Cond.selects yX12_memory.cls yX12_memory yX12_memory ∈ GT := GT7 237 rfl rfl
theorem iv_X12_place : Cond.instanceMethod yX12_place ∈ GT := GT7 232 rfl rfl
theorem sl_X12_place : Cond.selects yX12_place.cls yX12_place yX12_place ∈ GT := GT7 233 rfl rfl
theorem iv_X12_pointer : Cond.instanceMethod yX12_pointer ∈ GT := GT8 8 rfl rfl
theorem sl_X12_pointer : Cond.selects yX12_pointer.cls yX12_pointer yX12_pointer ∈ GT := GT8 9 rfl rfl
theorem iv_X12_rebase : Cond.instanceMethod yX12_rebase ∈ GT := GT7 8 rfl rfl
theorem sl_X12_rebase : Cond.selects yX12_rebase.cls yX12_rebase yX12_rebase ∈ GT := GT7 9 rfl rfl
theorem iv_X12_section : Cond.instanceMethod yX12_section ∈ GT := GT6 236 rfl rfl
theorem sl_X12_section : Cond.selects yX12_section.cls yX12_section yX12_section ∈ GT := GT6 237 rfl rfl
theorem iv_X12_segment : Cond.instanceMethod yX12_segment ∈ GT := GT6 220 rfl rfl
theorem sl_X12_segment : Cond.selects yX12_segment.cls yX12_segment yX12_segment ∈ GT := GT6 221 rfl rfl
theorem iv_X12_symbol : Cond.instanceMethod yX12_symbol ∈ GT := GT7 0 rfl rfl
theorem sl_X12_symbol : Cond.selects yX12_symbol.cls yX12_symbol yX12_symbol ∈ GT := GT7 1 rfl rfl
theorem iv_X12_thrown : Cond.instanceMethod yX12_thrown ∈ GT := GT6 191 rfl rfl
theorem sl_X12_thrown : Cond.selects yX12_thrown.cls yX12_thrown yX12_thrown ∈ GT := GT6 192 rfl rfl
theorem iv_X12_visit : Cond.instanceMethod yX12_visit ∈ GT := GT8 12 rfl rfl
theorem sl_X12_visit : Cond.selects yX12_visit.cls yX12_visit yX12_visit ∈ GT := GT8 13 rfl rfl
theorem iv_X12_write : Cond.instanceMethod yX12_write ∈ GT := GT7 37 rfl rfl
theorem sl_X12_write : Cond.selects yX12_write.cls yX12_write yX12_write ∈ GT := GT7 38 rfl rfl
theorem kc_RL_61 : Cond.constantLong RL 61 (4294967295) ∈ GT := GT8 23 rfl rfl
theorem lk_RL_102 : LkV RL 102 yX12_load cX12_load 2 (some .int) 1 := ⟨⟨GT7 122 rfl rfl, cd_X12_load, in_RX12, (by decide +kernel)⟩, iv_X12_load, sl_X12_load⟩
theorem lk_RL_103 : LkV RL 103 yX11_place cX11_place 1 (some .int) 0 := ⟨⟨GT5 81 rfl rfl, cd_X11_place, in_RX11, (by decide +kernel)⟩, iv_X11_place, sl_X11_place⟩
theorem lk_RL_106 : LkV RL 106 yX12_place cX12_place 1 (some .int) 0 := ⟨⟨GT7 231 rfl rfl, cd_X12_place, in_RX12, (by decide +kernel)⟩, iv_X12_place, sl_X12_place⟩
theorem lk_RL_107 : LkV RL 107 yX11_memory cX11_memory 3 (some .int) 1 := ⟨⟨GT5 85 rfl rfl, cd_X11_memory, in_RX11, (by decide +kernel)⟩, iv_X11_memory, sl_X11_memory⟩
theorem lk_RL_110 : LkV RL 110 yX12_memory cX12_memory 3 (some .int) 1 := ⟨⟨GT7 235 rfl rfl, cd_X12_memory, in_RX12, (by decide +kernel)⟩, iv_X12_memory, sl_X12_memory⟩
theorem lk_RL_116 : LkV RL 116 yX12_pointer cX12_pointer 6 (some .long) 1 := ⟨⟨GT8 7 rfl rfl, cd_X12_pointer, in_RX12, (by decide +kernel)⟩, iv_X12_pointer, sl_X12_pointer⟩
theorem lk_RL_117 : LkV RL 117 yX12_thrown cX12_thrown 1 (some .int) 0 := ⟨⟨GT6 190 rfl rfl, cd_X12_thrown, in_RX12, (by decide +kernel)⟩, iv_X12_thrown, sl_X12_thrown⟩
theorem lk_RL_123 : LkV RL 123 yX12_visit cX12_visit 3 (some .long) 2 := ⟨⟨GT8 11 rfl rfl, cd_X12_visit, in_RX12, (by decide +kernel)⟩, iv_X12_visit, sl_X12_visit⟩
theorem lk_RL_124 : LkV RL 124 yX11_find cX11_find 2 (some .int) 0 := ⟨⟨GT5 90 rfl rfl, cd_X11_find, in_RX11, (by decide +kernel)⟩, iv_X11_find, sl_X11_find⟩
theorem lk_RL_127 : LkV RL 127 yX12_find cX12_find 5 (some .int) 0 := ⟨⟨GT8 15 rfl rfl, cd_X12_find, in_RX12, (by decide +kernel)⟩, iv_X12_find, sl_X12_find⟩
theorem lk_RL_128 : LkV RL 128 yX11_count cX11_count 2 (some .int) 1 := ⟨⟨GT5 99 rfl rfl, cd_X11_count, in_RX11, (by decide +kernel)⟩, iv_X11_count, sl_X11_count⟩
theorem lk_RL_131 : LkV RL 131 yX12_count cX12_count 2 (some .int) 1 := ⟨⟨GT8 19 rfl rfl, cd_X12_count, in_RX12, (by decide +kernel)⟩, iv_X12_count, sl_X12_count⟩
theorem lk_RL_23 : LkV RL 23 yX11_feed cX11_feed 6 (some .int) 5 := ⟨⟨GT2 220 rfl rfl, cd_X11_feed, in_RX11, (by decide +kernel)⟩, iv_X11_feed, sl_X11_feed⟩
theorem lk_RL_27 : LkV RL 27 yX12_feed cX12_feed 6 (some .int) 5 := ⟨⟨GT6 194 rfl rfl, cd_X12_feed, in_RX12, (by decide +kernel)⟩, iv_X12_feed, sl_X12_feed⟩
theorem lk_RL_28 : LkV RL 28 yX11_end cX11_end 2 (some .boolean) 1 := ⟨⟨GT3 0 rfl rfl, cd_X11_end, in_RX11, (by decide +kernel)⟩, iv_X11_end, sl_X11_end⟩
theorem lk_RL_32 : LkV RL 32 yX12_end cX12_end 2 (some .boolean) 1 := ⟨⟨GT6 202 rfl rfl, cd_X12_end, in_RX12, (by decide +kernel)⟩, iv_X12_end, sl_X12_end⟩
theorem lk_RL_33 : LkV RL 33 yX11_anew cX11_anew 3 (some .boolean) 2 := ⟨⟨GT3 8 rfl rfl, cd_X11_anew, in_RX11, (by decide +kernel)⟩, iv_X11_anew, sl_X11_anew⟩
theorem lk_RL_37 : LkV RL 37 yX12_anew cX12_anew 3 (some .boolean) 2 := ⟨⟨GT6 206 rfl rfl, cd_X12_anew, in_RX12, (by decide +kernel)⟩, iv_X12_anew, sl_X12_anew⟩
theorem lk_RL_38 : LkV RL 38 yX11_segment cX11_segment 4 (some .int) 2 := ⟨⟨GT3 24 rfl rfl, cd_X11_segment, in_RX11, (by decide +kernel)⟩, iv_X11_segment, sl_X11_segment⟩
theorem lk_RL_42 : LkV RL 42 yX12_segment cX12_segment 5 (some .int) 2 := ⟨⟨GT6 219 rfl rfl, cd_X12_segment, in_RX12, (by decide +kernel)⟩, iv_X12_segment, sl_X12_segment⟩
theorem lk_RL_43 : LkV RL 43 yX11_fill cX11_fill 4 (some .boolean) 2 := ⟨⟨GT3 58 rfl rfl, cd_X11_fill, in_RX11, (by decide +kernel)⟩, iv_X11_fill, sl_X11_fill⟩
theorem lk_RL_46 : LkV RL 46 yX12_fill cX12_fill 5 (some .boolean) 2 := ⟨⟨GT6 227 rfl rfl, cd_X12_fill, in_RX12, (by decide +kernel)⟩, iv_X12_fill, sl_X12_fill⟩
theorem lk_RL_47 : LkV RL 47 yX11_section cX11_section 5 (some .int) 3 := ⟨⟨GT3 73 rfl rfl, cd_X11_section, in_RX11, (by decide +kernel)⟩, iv_X11_section, sl_X11_section⟩
theorem lk_RL_51 : LkV RL 51 yX12_section cX12_section 5 (some .int) 3 := ⟨⟨GT6 235 rfl rfl, cd_X12_section, in_RX12, (by decide +kernel)⟩, iv_X12_section, sl_X12_section⟩
theorem lk_RL_52 : LkV RL 52 yX11_symbol cX11_symbol 4 (some .int) 2 := ⟨⟨GT3 81 rfl rfl, cd_X11_symbol, in_RX11, (by decide +kernel)⟩, iv_X11_symbol, sl_X11_symbol⟩
theorem lk_RL_55 : LkV RL 55 yX12_symbol cX12_symbol 4 (some .int) 2 := ⟨⟨GT6 239 rfl rfl, cd_X12_symbol, in_RX12, (by decide +kernel)⟩, iv_X12_symbol, sl_X12_symbol⟩
theorem lk_RL_56 : LkV RL 56 yX11_imports cX11_imports 4 (some .int) 2 := ⟨⟨GT3 89 rfl rfl, cd_X11_imports, in_RX11, (by decide +kernel)⟩, iv_X11_imports, sl_X11_imports⟩
theorem lk_RL_60 : LkV RL 60 yX12_imports cX12_imports 3 (some .int) 2 := ⟨⟨GT7 3 rfl rfl, cd_X12_imports, in_RX12, (by decide +kernel)⟩, iv_X12_imports, sl_X12_imports⟩
theorem lk_RL_63 : LkV RL 63 yX11_rebase cX11_rebase 6 (some .boolean) 4 := ⟨⟨GT3 100 rfl rfl, cd_X11_rebase, in_RX11, (by decide +kernel)⟩, iv_X11_rebase, sl_X11_rebase⟩
theorem lk_RL_67 : LkV RL 67 yX12_rebase cX12_rebase 6 (some .boolean) 4 := ⟨⟨GT7 7 rfl rfl, cd_X12_rebase, in_RX12, (by decide +kernel)⟩, iv_X12_rebase, sl_X12_rebase⟩
theorem lk_RL_68 : LkV RL 68 yX11_bind cX11_bind 5 (some .boolean) 4 := ⟨⟨GT3 123 rfl rfl, cd_X11_bind, in_RX11, (by decide +kernel)⟩, iv_X11_bind, sl_X11_bind⟩
theorem lk_RL_72 : LkV RL 72 yX12_bind cX12_bind 5 (some .boolean) 4 := ⟨⟨GT7 28 rfl rfl, cd_X12_bind, in_RX12, (by decide +kernel)⟩, iv_X12_bind, sl_X12_bind⟩
theorem lk_RL_73 : LkV RL 73 yX11_drop cX11_drop 3 (some .boolean) 2 := ⟨⟨GT3 129 rfl rfl, cd_X11_drop, in_RX11, (by decide +kernel)⟩, iv_X11_drop, sl_X11_drop⟩
theorem lk_RL_76 : LkV RL 76 yX12_drop cX12_drop 4 (some .boolean) 2 := ⟨⟨GT7 32 rfl rfl, cd_X12_drop, in_RX12, (by decide +kernel)⟩, iv_X12_drop, sl_X12_drop⟩
theorem lk_RL_77 : LkV RL 77 yX11_write cX11_write 1 (some .int) 0 := ⟨⟨GT3 137 rfl rfl, cd_X11_write, in_RX11, (by decide +kernel)⟩, iv_X11_write, sl_X11_write⟩
theorem lk_RL_81 : LkV RL 81 yX12_write cX12_write 5 (some .int) 0 := ⟨⟨GT7 36 rfl rfl, cd_X12_write, in_RX12, (by decide +kernel)⟩, iv_X12_write, sl_X12_write⟩
theorem lk_RL_82 : LkV RL 82 yX11_image cX11_image 2 (some .int) 1 := ⟨⟨GT4 35 rfl rfl, cd_X11_image, in_RX11, (by decide +kernel)⟩, iv_X11_image, sl_X11_image⟩
theorem lk_RL_86 : LkV RL 86 yX12_image cX12_image 2 (some .int) 1 := ⟨⟨GT7 102 rfl rfl, cd_X12_image, in_RX12, (by decide +kernel)⟩, iv_X12_image, sl_X12_image⟩
theorem lk_RL_87 : LkV RL 87 yX11_damage cX11_damage 3 (some .boolean) 2 := ⟨⟨GT4 41 rfl rfl, cd_X11_damage, in_RX11, (by decide +kernel)⟩, iv_X11_damage, sl_X11_damage⟩
theorem lk_RL_90 : LkV RL 90 yX12_damage cX12_damage 3 (some .boolean) 2 := ⟨⟨GT7 106 rfl rfl, cd_X12_damage, in_RX12, (by decide +kernel)⟩, iv_X12_damage, sl_X12_damage⟩
theorem lk_RL_91 : LkV RL 91 yX11_cut cX11_cut 2 (some .boolean) 1 := ⟨⟨GT4 46 rfl rfl, cd_X11_cut, in_RX11, (by decide +kernel)⟩, iv_X11_cut, sl_X11_cut⟩
theorem lk_RL_94 : LkV RL 94 yX12_cut cX12_cut 2 (some .boolean) 1 := ⟨⟨GT7 110 rfl rfl, cd_X12_cut, in_RX12, (by decide +kernel)⟩, iv_X12_cut, sl_X12_cut⟩
theorem lk_RL_95 : LkV RL 95 yX11_export cX11_export 4 (some .boolean) 2 := ⟨⟨GT4 50 rfl rfl, cd_X11_export, in_RX11, (by decide +kernel)⟩, iv_X11_export, sl_X11_export⟩
theorem lk_RL_98 : LkV RL 98 yX12_export cX12_export 7 (some .boolean) 2 := ⟨⟨GT7 114 rfl rfl, cd_X12_export, in_RX12, (by decide +kernel)⟩, iv_X12_export, sl_X12_export⟩
theorem lk_RL_99 : LkV RL 99 yX11_load cX11_load 2 (some .int) 1 := ⟨⟨GT4 70 rfl rfl, cd_X11_load, in_RX11, (by decide +kernel)⟩, iv_X11_load, sl_X11_load⟩
theorem lkw_L_pointer : LkW RL 111 yL_pointer cL_pointer 4 [(0, 8, 11, 13)] 3 := ⟨GT5 103 rfl rfl, cdw_L_pointer, GT1 0 rfl rfl, (by decide +kernel), GT5 104 rfl rfl⟩
theorem lkw_L_visit : LkW RL 120 yL_visit cL_visit 5 [(0, 9, 12, 13)] 4 := ⟨GT5 173 rfl rfl, cdw_L_visit, GT1 0 rfl rfl, (by decide +kernel), GT5 174 rfl rfl⟩
set_option maxRecDepth 100000 in
set_option maxHeartbeats 8000000 in
theorem b_L_law_1047 {p : Program} {l : Launch} {e : Env} {s : State} {m : MethodId} {below : List Frame} {meth : Method} {c : Code} {D : va_G} {h : Nat → Nat} {cy : Nat → ClassId} {b L : Nat} {xs : Nat → Int32} (htr : l.stackTraces = false) (hL : L ≤ 3072) (X : Cx p s m #[Value.ref b] c D h cy RL cL_law 8) (hr : meth.sig.returnType = ret) (hk : meth.locks = false) (S : Ths (Az h s.heap.size) s s.heap) (Hge : ∀ k, k < NC → s.heap.size ≤ h k) (hXs : va_X b L xs s s.heap) (hbl : b < s.heap.size) (K23 : (Int32 × St) → Option (Int32 × St)) (hK23 : ∀ (a : Int32 × St) (y : Int32 × St), K23 a = some y → y.1 = 1 → ∀ (w cells slots : Nat), a.1 = nI (6 * w) → 6 * w ≤ L → cells ≤ 120 + w → slots ≤ 110000 + 6 * w → ∀ (H : Heap) (locs : List Loc) (ls : Array Slot), Zt D h cy s a.2 H locs → lv_has ls 8 [(0, .ref b), (1, .ref (h 0)), (2, .ref (h 68)), (3, .ref (h 110)), (4, .int a.1)] → W p l e room_1 s m #[Value.ref b] below meth c H locs cells slots (lw_Z below #[Value.ref b] s) (F0 m 23 ls [])) (x4 : Int32) (σ : St) (y : Int32 × St) (hf : f_L_law_1047 L xs K23 x4 σ = some y) (hy : y.1 = 1) : ∀ (w cells slots : Nat), x4 = nI (6 * w) → 6 * w + 6 ≤ L → cells ≤ 121 + w → slots ≤ 110006 + 6 * w → ∀ (H : Heap) (locs : List Loc) (ls : Array Slot), Zt D h cy s σ H locs → lv_has ls 8 [(0, .ref b), (1, .ref (h 0)), (2, .ref (h 68)), (3, .ref (h 110)), (4, .int x4)] → W p l e room_1 s m #[Value.ref b] below meth c H locs cells slots (lw_Z below #[Value.ref b] s) (F0 m 1047 ls []) := by
  intro w cells slots hw hwL hcc hss H locs ls Z hl
  have hx := X.x
  have hb := X.b
  have hbA : ¬ Az h s.heap.size b := law_b Hge hbl
  unfold f_L_law_1047 at hf
  obtain ⟨v21, ev21⟩ : ∃ z : Int32, z = x4 + 6 := ⟨_, rfl⟩
  have hf := zn_e ev21 hf
  refine lv_iinc (v := v21) (lv' := [(4, .int v21), (0, .ref b), (1, .ref (h 0)), (2, .ref (h 68)), (3, .ref (h 110))]) hx hb dL_law_1047 hl (k := 4) rfl (by rw [ev21]; rfl) (by decide) rfl (fun ls hl => ?_)
  refine lv_goto (tgt := 23) hx hb dL_law_1050 (by decide) ?_
  exact hK23 (v21, σ) _ hf hy (w + 1) _ _ (by rw [ev21, hw]; exact law_6 w) (by omega) (by omega) (by omega) _ _ _ Z (lv_sub hl [1, 2, 3, 4, 0] rfl)
set_option maxRecDepth 100000 in
set_option maxHeartbeats 8000000 in
theorem b_L_law_488 {p : Program} {l : Launch} {e : Env} {s : State} {m : MethodId} {below : List Frame} {meth : Method} {c : Code} {D : va_G} {h : Nat → Nat} {cy : Nat → ClassId} {b L : Nat} {xs : Nat → Int32} (htr : l.stackTraces = false) (hL : L ≤ 3072) (X : Cx p s m #[Value.ref b] c D h cy RL cL_law 8) (hr : meth.sig.returnType = ret) (hk : meth.locks = false) (S : Ths (Az h s.heap.size) s s.heap) (Hge : ∀ k, k < NC → s.heap.size ≤ h k) (hXs : va_X b L xs s s.heap) (hbl : b < s.heap.size) (K23 : (Int32 × St) → Option (Int32 × St)) (hK23 : ∀ (a : Int32 × St) (y : Int32 × St), K23 a = some y → y.1 = 1 → ∀ (w cells slots : Nat), a.1 = nI (6 * w) → 6 * w ≤ L → cells ≤ 120 + w → slots ≤ 110000 + 6 * w → ∀ (H : Heap) (locs : List Loc) (ls : Array Slot), Zt D h cy s a.2 H locs → lv_has ls 8 [(0, .ref b), (1, .ref (h 0)), (2, .ref (h 68)), (3, .ref (h 110)), (4, .int a.1)] → W p l e room_1 s m #[Value.ref b] below meth c H locs cells slots (lw_Z below #[Value.ref b] s) (F0 m 23 ls [])) (x4 : Int32) (t0 : Int32) (t1 : Int32) (t3 : Int32) (σ : St) (y : Int32 × St) (hf : f_L_law_488 L xs K23 x4 t0 t1 t3 σ = some y) (hy : y.1 = 1) : ∀ (w cells slots : Nat), x4 = nI (6 * w) → 6 * w + 6 ≤ L → cells ≤ 121 + w → slots ≤ 110006 + 6 * w → ∀ (H : Heap) (locs : List Loc) (ls : Array Slot), Zt D h cy s σ H locs → lv_has ls 8 [(0, .ref b), (1, .ref (h 0)), (2, .ref (h 68)), (3, .ref (h 110)), (4, .int x4)] → W p l e room_1 s m #[Value.ref b] below meth c H locs cells slots (lw_Z below #[Value.ref b] s) (F0 m 488 ls [.int t0, .int t1, .ref (h 68), .int t3]) := by
  intro w cells slots hw hwL hcc hss H locs ls Z hl
  have hx := X.x
  have hb := X.b
  have hbA : ¬ Az h s.heap.size b := law_b Hge hbl
  unfold f_L_law_488 at hf
  obtain ⟨r106, s105, h104, hf⟩ := bi_s hf
  refine goI Z (run_V (As := [.int t1, .int t0]) (rest := [.int t3]) X Z (c_X12_imports l D h cy t1 t0 σ (r106, s105) h104 _) lk_RL_60 ⟨by decide, by decide⟩ rv_68 rfl hl.1 rfl (Nat.le_of_ble_eq_true rfl) ⟨by show _ ≤ 601024; omega, by show _ ≤ 7293034; omega⟩ dL_law_488) (fun H locs Z => ?_)
  refine lv_icmp_eq (tgt := 1047) hx hb dL_law_491 (by decide) (fun c107 => ?_) (fun c107 => ?_)
  · have hf := itp c107 hf
    exact b_L_law_1047 htr hL X hr hk S Hge hXs hbl K23 hK23 x4 s105 _ hf hy w _ _ hw (by omega) (by omega) (by omega) _ _ _ Z (lv_sub hl [0, 1, 2, 3, 4] rfl)
  · have hf := itn c107 hf
    refine lv_iconst (v := 0) hx hb dL_law_494 (by decide) ?_
    exact absurd (congrArg Prod.fst (Option.some.inj hf)).symm (by rw [hy]; exact (by decide : ¬ (1 : Int32) = 0))
set_option maxRecDepth 100000 in
set_option maxHeartbeats 8000000 in
theorem b_L_law_464 {p : Program} {l : Launch} {e : Env} {s : State} {m : MethodId} {below : List Frame} {meth : Method} {c : Code} {D : va_G} {h : Nat → Nat} {cy : Nat → ClassId} {b L : Nat} {xs : Nat → Int32} (htr : l.stackTraces = false) (hL : L ≤ 3072) (X : Cx p s m #[Value.ref b] c D h cy RL cL_law 8) (hr : meth.sig.returnType = ret) (hk : meth.locks = false) (S : Ths (Az h s.heap.size) s s.heap) (Hge : ∀ k, k < NC → s.heap.size ≤ h k) (hXs : va_X b L xs s s.heap) (hbl : b < s.heap.size) (K23 : (Int32 × St) → Option (Int32 × St)) (hK23 : ∀ (a : Int32 × St) (y : Int32 × St), K23 a = some y → y.1 = 1 → ∀ (w cells slots : Nat), a.1 = nI (6 * w) → 6 * w ≤ L → cells ≤ 120 + w → slots ≤ 110000 + 6 * w → ∀ (H : Heap) (locs : List Loc) (ls : Array Slot), Zt D h cy s a.2 H locs → lv_has ls 8 [(0, .ref b), (1, .ref (h 0)), (2, .ref (h 68)), (3, .ref (h 110)), (4, .int a.1)] → W p l e room_1 s m #[Value.ref b] below meth c H locs cells slots (lw_Z below #[Value.ref b] s) (F0 m 23 ls [])) (x4 : Int32) (t0 : Int32) (t1 : Int32) (σ : St) (y : Int32 × St) (hf : f_L_law_464 L xs K23 x4 t0 t1 σ = some y) (hy : y.1 = 1) : ∀ (w cells slots : Nat), x4 = nI (6 * w) → 6 * w + 6 ≤ L → cells ≤ 121 + w → slots ≤ 110006 + 6 * w → ∀ (H : Heap) (locs : List Loc) (ls : Array Slot), Zt D h cy s σ H locs → lv_has ls 8 [(0, .ref b), (1, .ref (h 0)), (2, .ref (h 68)), (3, .ref (h 110)), (4, .int x4)] → W p l e room_1 s m #[Value.ref b] below meth c H locs cells slots (lw_Z below #[Value.ref b] s) (F0 m 464 ls [.int t0, .int t1, .ref (h 0)]) := by
  intro w cells slots hw hwL hcc hss H locs ls Z hl
  have hx := X.x
  have hb := X.b
  have hbA : ¬ Az h s.heap.size b := law_b Hge hbl
  unfold f_L_law_464 at hf
  obtain ⟨r100, s99, h98, hf⟩ := bi_s hf
  refine goI Z (run_V (As := [.int t1, .int t0]) (rest := []) X Z (c_X11_imports l D h cy t1 t0 σ (r100, s99) h98 _) lk_RL_56 ⟨by decide, by decide⟩ rv_0 rfl hl.1 rfl (Nat.le_of_ble_eq_true rfl) ⟨by show _ ≤ 601024; omega, by show _ ≤ 7293034; omega⟩ dL_law_464) (fun H locs Z => ?_)
  refine lv_aload_n hx hb dL_law_467 rfl (lv_at hl 2 rfl) ?_
  refine lv_aload_n hx hb dL_law_468 rfl (lv_at hl 0 rfl) ?_
  refine lv_iload hx hb dL_law_469 (lv_at hl 4 rfl) ?_
  refine lv_iconst (v := 1) hx hb dL_law_471 (by decide) ?_
  refine lv_iadd hx hb dL_law_472 ?_
  obtain ⟨g101, hf⟩ := gd_s hf
  refine va_sld hx hb hXs hbl hbA Z.2 (in_of g101) dL_law_473 ?_
  refine lv_aload_n hx hb dL_law_474 rfl (lv_at hl 0 rfl) ?_
  refine lv_iload hx hb dL_law_475 (lv_at hl 4 rfl) ?_
  refine lv_iconst (v := 2) hx hb dL_law_477 (by decide) ?_
  refine lv_iadd hx hb dL_law_478 ?_
  obtain ⟨g102, hf⟩ := gd_s hf
  refine va_sld hx hb hXs hbl hbA Z.2 (in_of g102) dL_law_479 ?_
  refine lv_if_eq (tgt := 487) hx hb dL_law_480 (by decide) (fun c103 => ?_) (fun c103 => ?_)
  · have hf := itp c103 hf
    refine lv_iconst (v := 0) hx hb dL_law_487 (by decide) ?_
    exact b_L_law_488 htr hL X hr hk S Hge hXs hbl K23 hK23 x4 (0 : Int32) ((xs ((x4 + (1 : Int32))).toNatClampNeg)) r100 s99 _ hf hy w _ _ hw (by omega) (by omega) (by omega) _ _ _ Z (lv_sub hl [0, 1, 2, 3, 4] rfl)
  · have hf := itn c103 hf
    refine lv_iconst (v := 1) hx hb dL_law_483 (by decide) ?_
    refine lv_goto (tgt := 488) hx hb dL_law_484 (by decide) ?_
    exact b_L_law_488 htr hL X hr hk S Hge hXs hbl K23 hK23 x4 (1 : Int32) ((xs ((x4 + (1 : Int32))).toNatClampNeg)) r100 s99 _ hf hy w _ _ hw (by omega) (by omega) (by omega) _ _ _ Z (lv_sub hl [0, 1, 2, 3, 4] rfl)
set_option maxRecDepth 100000 in
set_option maxHeartbeats 8000000 in
theorem b_L_law_939 {p : Program} {l : Launch} {e : Env} {s : State} {m : MethodId} {below : List Frame} {meth : Method} {c : Code} {D : va_G} {h : Nat → Nat} {cy : Nat → ClassId} {b L : Nat} {xs : Nat → Int32} (htr : l.stackTraces = false) (hL : L ≤ 3072) (X : Cx p s m #[Value.ref b] c D h cy RL cL_law 8) (hr : meth.sig.returnType = ret) (hk : meth.locks = false) (S : Ths (Az h s.heap.size) s s.heap) (Hge : ∀ k, k < NC → s.heap.size ≤ h k) (hXs : va_X b L xs s s.heap) (hbl : b < s.heap.size) (K23 : (Int32 × St) → Option (Int32 × St)) (hK23 : ∀ (a : Int32 × St) (y : Int32 × St), K23 a = some y → y.1 = 1 → ∀ (w cells slots : Nat), a.1 = nI (6 * w) → 6 * w ≤ L → cells ≤ 120 + w → slots ≤ 110000 + 6 * w → ∀ (H : Heap) (locs : List Loc) (ls : Array Slot), Zt D h cy s a.2 H locs → lv_has ls 8 [(0, .ref b), (1, .ref (h 0)), (2, .ref (h 68)), (3, .ref (h 110)), (4, .int a.1)] → W p l e room_1 s m #[Value.ref b] below meth c H locs cells slots (lw_Z below #[Value.ref b] s) (F0 m 23 ls [])) (x4 : Int32) (σ : St) (y : Int32 × St) (hf : f_L_law_939 L xs K23 x4 σ = some y) (hy : y.1 = 1) : ∀ (w cells slots : Nat), x4 = nI (6 * w) → 6 * w + 6 ≤ L → cells ≤ 121 + w → slots ≤ 110006 + 6 * w → ∀ (H : Heap) (locs : List Loc) (ls : Array Slot), Zt D h cy s σ H locs → lv_has ls 8 [(0, .ref b), (1, .ref (h 0)), (2, .ref (h 68)), (3, .ref (h 110)), (4, .int x4)] → W p l e room_1 s m #[Value.ref b] below meth c H locs cells slots (lw_Z below #[Value.ref b] s) (F0 m 939 ls []) := by
  intro w cells slots hw hwL hcc hss H locs ls Z hl
  have hx := X.x
  have hb := X.b
  have hbA : ¬ Az h s.heap.size b := law_b Hge hbl
  unfold f_L_law_939 at hf
  refine lv_goto (tgt := 1047) hx hb dL_law_939 (by decide) ?_
  exact b_L_law_1047 htr hL X hr hk S Hge hXs hbl K23 hK23 x4 σ _ hf hy w _ _ hw (by omega) (by omega) (by omega) _ _ _ Z (lv_sub hl [0, 1, 2, 3, 4] rfl)
set_option maxRecDepth 100000 in
set_option maxHeartbeats 8000000 in
theorem b_L_law_1006 {p : Program} {l : Launch} {e : Env} {s : State} {m : MethodId} {below : List Frame} {meth : Method} {c : Code} {D : va_G} {h : Nat → Nat} {cy : Nat → ClassId} {b L : Nat} {xs : Nat → Int32} (htr : l.stackTraces = false) (hL : L ≤ 3072) (X : Cx p s m #[Value.ref b] c D h cy RL cL_law 8) (hr : meth.sig.returnType = ret) (hk : meth.locks = false) (S : Ths (Az h s.heap.size) s s.heap) (Hge : ∀ k, k < NC → s.heap.size ≤ h k) (hXs : va_X b L xs s s.heap) (hbl : b < s.heap.size) (K23 : (Int32 × St) → Option (Int32 × St)) (hK23 : ∀ (a : Int32 × St) (y : Int32 × St), K23 a = some y → y.1 = 1 → ∀ (w cells slots : Nat), a.1 = nI (6 * w) → 6 * w ≤ L → cells ≤ 120 + w → slots ≤ 110000 + 6 * w → ∀ (H : Heap) (locs : List Loc) (ls : Array Slot), Zt D h cy s a.2 H locs → lv_has ls 8 [(0, .ref b), (1, .ref (h 0)), (2, .ref (h 68)), (3, .ref (h 110)), (4, .int a.1)] → W p l e room_1 s m #[Value.ref b] below meth c H locs cells slots (lw_Z below #[Value.ref b] s) (F0 m 23 ls [])) (x4 : Int32) (σ : St) (y : Int32 × St) (hf : f_L_law_1006 L xs K23 x4 σ = some y) (hy : y.1 = 1) : ∀ (w cells slots : Nat), x4 = nI (6 * w) → 6 * w + 6 ≤ L → cells ≤ 121 + w → slots ≤ 110006 + 6 * w → ∀ (H : Heap) (locs : List Loc) (ls : Array Slot), Zt D h cy s σ H locs → lv_has ls 8 [(0, .ref b), (1, .ref (h 0)), (2, .ref (h 68)), (3, .ref (h 110)), (4, .int x4)] → W p l e room_1 s m #[Value.ref b] below meth c H locs cells slots (lw_Z below #[Value.ref b] s) (F0 m 1006 ls []) := by
  intro w cells slots hw hwL hcc hss H locs ls Z hl
  have hx := X.x
  have hb := X.b
  have hbA : ¬ Az h s.heap.size b := law_b Hge hbl
  unfold f_L_law_1006 at hf
  refine lv_goto (tgt := 1047) hx hb dL_law_1006 (by decide) ?_
  exact b_L_law_1047 htr hL X hr hk S Hge hXs hbl K23 hK23 x4 σ _ hf hy w _ _ hw (by omega) (by omega) (by omega) _ _ _ Z (lv_sub hl [0, 1, 2, 3, 4] rfl)
set_option maxRecDepth 100000 in
set_option maxHeartbeats 8000000 in
theorem b_L_law_23b {p : Program} {l : Launch} {e : Env} {s : State} {m : MethodId} {below : List Frame} {meth : Method} {c : Code} {D : va_G} {h : Nat → Nat} {cy : Nat → ClassId} {b L : Nat} {xs : Nat → Int32} (htr : l.stackTraces = false) (hL : L ≤ 3072) (X : Cx p s m #[Value.ref b] c D h cy RL cL_law 8) (hr : meth.sig.returnType = ret) (hk : meth.locks = false) (S : Ths (Az h s.heap.size) s s.heap) (Hge : ∀ k, k < NC → s.heap.size ≤ h k) (hXs : va_X b L xs s s.heap) (hbl : b < s.heap.size) (K23 : (Int32 × St) → Option (Int32 × St)) (hK23 : ∀ (a : Int32 × St) (y : Int32 × St), K23 a = some y → y.1 = 1 → ∀ (w cells slots : Nat), a.1 = nI (6 * w) → 6 * w ≤ L → cells ≤ 120 + w → slots ≤ 110000 + 6 * w → ∀ (H : Heap) (locs : List Loc) (ls : Array Slot), Zt D h cy s a.2 H locs → lv_has ls 8 [(0, .ref b), (1, .ref (h 0)), (2, .ref (h 68)), (3, .ref (h 110)), (4, .int a.1)] → W p l e room_1 s m #[Value.ref b] below meth c H locs cells slots (lw_Z below #[Value.ref b] s) (F0 m 23 ls [])) (x4 : Int32) (σ : St) (y : Int32 × St) (hf : f_L_law_23b L xs K23 x4 σ = some y) (hy : y.1 = 1) : ∀ (w cells slots : Nat), x4 = nI (6 * w) → 6 * w ≤ L → cells ≤ 120 + w → slots ≤ 110000 + 6 * w → ∀ (H : Heap) (locs : List Loc) (ls : Array Slot), Zt D h cy s σ H locs → lv_has ls 8 [(0, .ref b), (1, .ref (h 0)), (2, .ref (h 68)), (3, .ref (h 110)), (4, .int x4)] → W p l e room_1 s m #[Value.ref b] below meth c H locs cells slots (lw_Z below #[Value.ref b] s) (F0 m 23 ls []) := by
  intro w cells slots hw hwL hcc hss H locs ls Z hl
  have hx := X.x
  have hb := X.b
  have hbA : ¬ Az h s.heap.size b := law_b Hge hbl
  unfold f_L_law_23b at hf
  refine lv_iload hx hb dL_law_23 (lv_at hl 4 rfl) ?_
  refine lv_aload_n hx hb dL_law_25 rfl (lv_at hl 0 rfl) ?_
  refine va_slen hx hb hXs hbl hbA Z.2 dL_law_26 ?_
  refine lv_bipush (v := 6) hx hb dL_law_27 (by decide) ?_
  refine lv_isub hx hb dL_law_29 ?_
  refine lv_icmp_gt (tgt := 1053) hx hb dL_law_30 (by decide) (fun c1 => ?_) (fun c1 => ?_)
  · have hf := itp c1 hf
    refine lv_iconst (v := 1) hx hb dL_law_1053 (by decide) ?_
    exact law_end X Z Hge hr hk (by omega) (by omega) dL_law_1054
  · have hf := itn c1 hf
    have hwL : 6 * w + 6 ≤ L := law_lt hL hw hwL c1
    refine lv_aload_n hx hb dL_law_33 rfl (lv_at hl 0 rfl) ?_
    refine lv_iload hx hb dL_law_34 (lv_at hl 4 rfl) ?_
    obtain ⟨g2, hf⟩ := gd_s hf
    refine va_sld hx hb hXs hbl hbA Z.2 (in_of g2) dL_law_36 ?_
    refine lv_bipush (v := 31) hx hb dL_law_37 (by decide) ?_
    refine lv_iand hx hb dL_law_39 ?_
    refine Or.elim (Decidable.em (((xs x4.toNatClampNeg) &&& (31 : Int32)) = 0)) (fun c3 => ?_) (fun c3 => ?_)
    · have hf := itp c3 hf
      refine lv_tableIn (off := 108) (tgt := 148) hx hb dL_law_40 (by rw [c3]; decide) (by rw [c3]; decide) (by rw [c3]; rfl) (by decide) ?_
      refine lv_aload_n hx hb dL_law_148 rfl (lv_at hl 1 rfl) ?_
      refine lv_aload_n hx hb dL_law_149 rfl (lv_at hl 0 rfl) ?_
      refine lv_iload hx hb dL_law_150 (lv_at hl 4 rfl) ?_
      refine lv_iconst (v := 1) hx hb dL_law_152 (by decide) ?_
      refine lv_iadd hx hb dL_law_153 ?_
      obtain ⟨g4, hf⟩ := gd_s hf
      refine va_sld hx hb hXs hbl hbA Z.2 (in_of g4) dL_law_154 ?_
      refine lv_aload_n hx hb dL_law_155 rfl (lv_at hl 0 rfl) ?_
      refine lv_iload hx hb dL_law_156 (lv_at hl 4 rfl) ?_
      refine lv_iconst (v := 2) hx hb dL_law_158 (by decide) ?_
      refine lv_iadd hx hb dL_law_159 ?_
      obtain ⟨g5, hf⟩ := gd_s hf
      refine va_sld hx hb hXs hbl hbA Z.2 (in_of g5) dL_law_160 ?_
      refine lv_aload_n hx hb dL_law_161 rfl (lv_at hl 0 rfl) ?_
      refine lv_iload hx hb dL_law_162 (lv_at hl 4 rfl) ?_
      refine lv_iconst (v := 3) hx hb dL_law_164 (by decide) ?_
      refine lv_iadd hx hb dL_law_165 ?_
      obtain ⟨g6, hf⟩ := gd_s hf
      refine va_sld hx hb hXs hbl hbA Z.2 (in_of g6) dL_law_166 ?_
      refine lv_aload_n hx hb dL_law_167 rfl (lv_at hl 0 rfl) ?_
      refine lv_iload hx hb dL_law_168 (lv_at hl 4 rfl) ?_
      refine lv_iconst (v := 4) hx hb dL_law_170 (by decide) ?_
      refine lv_iadd hx hb dL_law_171 ?_
      obtain ⟨g7, hf⟩ := gd_s hf
      refine va_sld hx hb hXs hbl hbA Z.2 (in_of g7) dL_law_172 ?_
      refine lv_aload_n hx hb dL_law_173 rfl (lv_at hl 0 rfl) ?_
      refine lv_iload hx hb dL_law_174 (lv_at hl 4 rfl) ?_
      refine lv_iconst (v := 5) hx hb dL_law_176 (by decide) ?_
      refine lv_iadd hx hb dL_law_177 ?_
      obtain ⟨g8, hf⟩ := gd_s hf
      refine va_sld hx hb hXs hbl hbA Z.2 (in_of g8) dL_law_178 ?_
      obtain ⟨r11, s10, h9, hf⟩ := bi_s hf
      refine goI Z (run_V (As := [.int ((xs ((x4 + (1 : Int32))).toNatClampNeg)), .int ((xs ((x4 + (2 : Int32))).toNatClampNeg)), .int ((xs ((x4 + (3 : Int32))).toNatClampNeg)), .int ((xs ((x4 + (4 : Int32))).toNatClampNeg)), .int ((xs ((x4 + (5 : Int32))).toNatClampNeg))]) (rest := []) X Z (c_X11_feed l D h cy ((xs ((x4 + (1 : Int32))).toNatClampNeg)) ((xs ((x4 + (2 : Int32))).toNatClampNeg)) ((xs ((x4 + (3 : Int32))).toNatClampNeg)) ((xs ((x4 + (4 : Int32))).toNatClampNeg)) ((xs ((x4 + (5 : Int32))).toNatClampNeg)) σ (r11, s10) h9 _) lk_RL_23 ⟨by decide, by decide⟩ rv_0 rfl hl.1 rfl (Nat.le_of_ble_eq_true rfl) ⟨by show _ ≤ 601024; omega, by show _ ≤ 7293034; omega⟩ dL_law_179) (fun H locs Z => ?_)
      refine lv_aload_n hx hb dL_law_182 rfl (lv_at hl 2 rfl) ?_
      refine lv_aload_n hx hb dL_law_183 rfl (lv_at hl 0 rfl) ?_
      refine lv_iload hx hb dL_law_184 (lv_at hl 4 rfl) ?_
      refine lv_iconst (v := 1) hx hb dL_law_186 (by decide) ?_
      refine lv_iadd hx hb dL_law_187 ?_
      obtain ⟨g12, hf⟩ := gd_s hf
      refine va_sld hx hb hXs hbl hbA Z.2 (in_of g12) dL_law_188 ?_
      refine lv_aload_n hx hb dL_law_189 rfl (lv_at hl 0 rfl) ?_
      refine lv_iload hx hb dL_law_190 (lv_at hl 4 rfl) ?_
      refine lv_iconst (v := 2) hx hb dL_law_192 (by decide) ?_
      refine lv_iadd hx hb dL_law_193 ?_
      obtain ⟨g13, hf⟩ := gd_s hf
      refine va_sld hx hb hXs hbl hbA Z.2 (in_of g13) dL_law_194 ?_
      refine lv_aload_n hx hb dL_law_195 rfl (lv_at hl 0 rfl) ?_
      refine lv_iload hx hb dL_law_196 (lv_at hl 4 rfl) ?_
      refine lv_iconst (v := 3) hx hb dL_law_198 (by decide) ?_
      refine lv_iadd hx hb dL_law_199 ?_
      obtain ⟨g14, hf⟩ := gd_s hf
      refine va_sld hx hb hXs hbl hbA Z.2 (in_of g14) dL_law_200 ?_
      refine lv_aload_n hx hb dL_law_201 rfl (lv_at hl 0 rfl) ?_
      refine lv_iload hx hb dL_law_202 (lv_at hl 4 rfl) ?_
      refine lv_iconst (v := 4) hx hb dL_law_204 (by decide) ?_
      refine lv_iadd hx hb dL_law_205 ?_
      obtain ⟨g15, hf⟩ := gd_s hf
      refine va_sld hx hb hXs hbl hbA Z.2 (in_of g15) dL_law_206 ?_
      refine lv_aload_n hx hb dL_law_207 rfl (lv_at hl 0 rfl) ?_
      refine lv_iload hx hb dL_law_208 (lv_at hl 4 rfl) ?_
      refine lv_iconst (v := 5) hx hb dL_law_210 (by decide) ?_
      refine lv_iadd hx hb dL_law_211 ?_
      obtain ⟨g16, hf⟩ := gd_s hf
      refine va_sld hx hb hXs hbl hbA Z.2 (in_of g16) dL_law_212 ?_
      obtain ⟨r19, s18, h17, hf⟩ := bi_s hf
      refine goI Z (run_V (As := [.int ((xs ((x4 + (1 : Int32))).toNatClampNeg)), .int ((xs ((x4 + (2 : Int32))).toNatClampNeg)), .int ((xs ((x4 + (3 : Int32))).toNatClampNeg)), .int ((xs ((x4 + (4 : Int32))).toNatClampNeg)), .int ((xs ((x4 + (5 : Int32))).toNatClampNeg))]) (rest := [.int r11]) X Z (c_X12_feed l D h cy ((xs ((x4 + (1 : Int32))).toNatClampNeg)) ((xs ((x4 + (2 : Int32))).toNatClampNeg)) ((xs ((x4 + (3 : Int32))).toNatClampNeg)) ((xs ((x4 + (4 : Int32))).toNatClampNeg)) ((xs ((x4 + (5 : Int32))).toNatClampNeg)) s10 (r19, s18) h17 _) lk_RL_27 ⟨by decide, by decide⟩ rv_68 rfl hl.1 rfl (Nat.le_of_ble_eq_true rfl) ⟨by show _ ≤ 601024; omega, by show _ ≤ 7293034; omega⟩ dL_law_213) (fun H locs Z => ?_)
      refine lv_icmp_eq (tgt := 1047) hx hb dL_law_216 (by decide) (fun c20 => ?_) (fun c20 => ?_)
      · have hf := itp c20 hf
        exact b_L_law_1047 htr hL X hr hk S Hge hXs hbl K23 hK23 x4 s18 _ hf hy w _ _ hw (by omega) (by omega) (by omega) _ _ _ Z (lv_sub hl [0, 1, 2, 3, 4] rfl)
      · have hf := itn c20 hf
        refine lv_iconst (v := 0) hx hb dL_law_219 (by decide) ?_
        exact absurd (congrArg Prod.fst (Option.some.inj hf)).symm (by rw [hy]; exact (by decide : ¬ (1 : Int32) = 0))
    have hf := itn c3 hf
    refine Or.elim (Decidable.em (((xs x4.toNatClampNeg) &&& (31 : Int32)) = 1)) (fun c22 => ?_) (fun c22 => ?_)
    · have hf := itp c22 hf
      refine lv_tableIn (off := 181) (tgt := 221) hx hb dL_law_40 (by rw [c22]; decide) (by rw [c22]; decide) (by rw [c22]; rfl) (by decide) ?_
      refine lv_aload_n hx hb dL_law_221 rfl (lv_at hl 1 rfl) ?_
      refine lv_aload_n hx hb dL_law_222 rfl (lv_at hl 0 rfl) ?_
      refine lv_iload hx hb dL_law_223 (lv_at hl 4 rfl) ?_
      refine lv_iconst (v := 1) hx hb dL_law_225 (by decide) ?_
      refine lv_iadd hx hb dL_law_226 ?_
      obtain ⟨g23, hf⟩ := gd_s hf
      refine va_sld hx hb hXs hbl hbA Z.2 (in_of g23) dL_law_227 ?_
      obtain ⟨r26, s25, h24, hf⟩ := bi_s hf
      refine goI Z (run_V (As := [.int ((xs ((x4 + (1 : Int32))).toNatClampNeg))]) (rest := []) X Z (c_X11_end l D h cy ((xs ((x4 + (1 : Int32))).toNatClampNeg)) σ (r26, s25) h24 _) lk_RL_28 ⟨by decide, by decide⟩ rv_0 rfl hl.1 rfl (Nat.le_of_ble_eq_true rfl) ⟨by show _ ≤ 601024; omega, by show _ ≤ 7293034; omega⟩ dL_law_228) (fun H locs Z => ?_)
      refine lv_aload_n hx hb dL_law_231 rfl (lv_at hl 2 rfl) ?_
      refine lv_aload_n hx hb dL_law_232 rfl (lv_at hl 0 rfl) ?_
      refine lv_iload hx hb dL_law_233 (lv_at hl 4 rfl) ?_
      refine lv_iconst (v := 1) hx hb dL_law_235 (by decide) ?_
      refine lv_iadd hx hb dL_law_236 ?_
      obtain ⟨g27, hf⟩ := gd_s hf
      refine va_sld hx hb hXs hbl hbA Z.2 (in_of g27) dL_law_237 ?_
      obtain ⟨r30, s29, h28, hf⟩ := bi_s hf
      refine goI Z (run_V (As := [.int ((xs ((x4 + (1 : Int32))).toNatClampNeg))]) (rest := [.int r26]) X Z (c_X12_end l D h cy ((xs ((x4 + (1 : Int32))).toNatClampNeg)) s25 (r30, s29) h28 _) lk_RL_32 ⟨by decide, by decide⟩ rv_68 rfl hl.1 rfl (Nat.le_of_ble_eq_true rfl) ⟨by show _ ≤ 601024; omega, by show _ ≤ 7293034; omega⟩ dL_law_238) (fun H locs Z => ?_)
      refine lv_icmp_eq (tgt := 1047) hx hb dL_law_241 (by decide) (fun c31 => ?_) (fun c31 => ?_)
      · have hf := itp c31 hf
        exact b_L_law_1047 htr hL X hr hk S Hge hXs hbl K23 hK23 x4 s29 _ hf hy w _ _ hw (by omega) (by omega) (by omega) _ _ _ Z (lv_sub hl [0, 1, 2, 3, 4] rfl)
      · have hf := itn c31 hf
        refine lv_iconst (v := 0) hx hb dL_law_244 (by decide) ?_
        exact absurd (congrArg Prod.fst (Option.some.inj hf)).symm (by rw [hy]; exact (by decide : ¬ (1 : Int32) = 0))
    have hf := itn c22 hf
    refine Or.elim (Decidable.em (((xs x4.toNatClampNeg) &&& (31 : Int32)) = 2)) (fun c32 => ?_) (fun c32 => ?_)
    · have hf := itp c32 hf
      refine lv_tableIn (off := 206) (tgt := 246) hx hb dL_law_40 (by rw [c32]; decide) (by rw [c32]; decide) (by rw [c32]; rfl) (by decide) ?_
      refine lv_aload_n hx hb dL_law_246 rfl (lv_at hl 1 rfl) ?_
      refine lv_aload_n hx hb dL_law_247 rfl (lv_at hl 0 rfl) ?_
      refine lv_iload hx hb dL_law_248 (lv_at hl 4 rfl) ?_
      refine lv_iconst (v := 1) hx hb dL_law_250 (by decide) ?_
      refine lv_iadd hx hb dL_law_251 ?_
      obtain ⟨g33, hf⟩ := gd_s hf
      refine va_sld hx hb hXs hbl hbA Z.2 (in_of g33) dL_law_252 ?_
      refine lv_aload_n hx hb dL_law_253 rfl (lv_at hl 0 rfl) ?_
      refine lv_iload hx hb dL_law_254 (lv_at hl 4 rfl) ?_
      refine lv_iconst (v := 2) hx hb dL_law_256 (by decide) ?_
      refine lv_iadd hx hb dL_law_257 ?_
      obtain ⟨g34, hf⟩ := gd_s hf
      refine va_sld hx hb hXs hbl hbA Z.2 (in_of g34) dL_law_258 ?_
      obtain ⟨r37, s36, h35, hf⟩ := bi_s hf
      refine goI Z (run_V (As := [.int ((xs ((x4 + (1 : Int32))).toNatClampNeg)), .int ((xs ((x4 + (2 : Int32))).toNatClampNeg))]) (rest := []) X Z (c_X11_anew l D h cy ((xs ((x4 + (1 : Int32))).toNatClampNeg)) ((xs ((x4 + (2 : Int32))).toNatClampNeg)) σ (r37, s36) h35 _) lk_RL_33 ⟨by decide, by decide⟩ rv_0 rfl hl.1 rfl (Nat.le_of_ble_eq_true rfl) ⟨by show _ ≤ 601024; omega, by show _ ≤ 7293034; omega⟩ dL_law_259) (fun H locs Z => ?_)
      refine lv_aload_n hx hb dL_law_262 rfl (lv_at hl 2 rfl) ?_
      refine lv_aload_n hx hb dL_law_263 rfl (lv_at hl 0 rfl) ?_
      refine lv_iload hx hb dL_law_264 (lv_at hl 4 rfl) ?_
      refine lv_iconst (v := 1) hx hb dL_law_266 (by decide) ?_
      refine lv_iadd hx hb dL_law_267 ?_
      obtain ⟨g38, hf⟩ := gd_s hf
      refine va_sld hx hb hXs hbl hbA Z.2 (in_of g38) dL_law_268 ?_
      refine lv_aload_n hx hb dL_law_269 rfl (lv_at hl 0 rfl) ?_
      refine lv_iload hx hb dL_law_270 (lv_at hl 4 rfl) ?_
      refine lv_iconst (v := 2) hx hb dL_law_272 (by decide) ?_
      refine lv_iadd hx hb dL_law_273 ?_
      obtain ⟨g39, hf⟩ := gd_s hf
      refine va_sld hx hb hXs hbl hbA Z.2 (in_of g39) dL_law_274 ?_
      obtain ⟨r42, s41, h40, hf⟩ := bi_s hf
      refine goI Z (run_V (As := [.int ((xs ((x4 + (1 : Int32))).toNatClampNeg)), .int ((xs ((x4 + (2 : Int32))).toNatClampNeg))]) (rest := [.int r37]) X Z (c_X12_anew l D h cy ((xs ((x4 + (1 : Int32))).toNatClampNeg)) ((xs ((x4 + (2 : Int32))).toNatClampNeg)) s36 (r42, s41) h40 _) lk_RL_37 ⟨by decide, by decide⟩ rv_68 rfl hl.1 rfl (Nat.le_of_ble_eq_true rfl) ⟨by show _ ≤ 601024; omega, by show _ ≤ 7293034; omega⟩ dL_law_275) (fun H locs Z => ?_)
      refine lv_icmp_eq (tgt := 1047) hx hb dL_law_278 (by decide) (fun c43 => ?_) (fun c43 => ?_)
      · have hf := itp c43 hf
        exact b_L_law_1047 htr hL X hr hk S Hge hXs hbl K23 hK23 x4 s41 _ hf hy w _ _ hw (by omega) (by omega) (by omega) _ _ _ Z (lv_sub hl [0, 1, 2, 3, 4] rfl)
      · have hf := itn c43 hf
        refine lv_iconst (v := 0) hx hb dL_law_281 (by decide) ?_
        exact absurd (congrArg Prod.fst (Option.some.inj hf)).symm (by rw [hy]; exact (by decide : ¬ (1 : Int32) = 0))
    have hf := itn c32 hf
    refine Or.elim (Decidable.em (((xs x4.toNatClampNeg) &&& (31 : Int32)) = 3)) (fun c44 => ?_) (fun c44 => ?_)
    · have hf := itp c44 hf
      refine lv_tableIn (off := 243) (tgt := 283) hx hb dL_law_40 (by rw [c44]; decide) (by rw [c44]; decide) (by rw [c44]; rfl) (by decide) ?_
      refine lv_aload_n hx hb dL_law_283 rfl (lv_at hl 1 rfl) ?_
      refine lv_aload_n hx hb dL_law_284 rfl (lv_at hl 0 rfl) ?_
      refine lv_iload hx hb dL_law_285 (lv_at hl 4 rfl) ?_
      refine lv_iconst (v := 1) hx hb dL_law_287 (by decide) ?_
      refine lv_iadd hx hb dL_law_288 ?_
      obtain ⟨g45, hf⟩ := gd_s hf
      refine va_sld hx hb hXs hbl hbA Z.2 (in_of g45) dL_law_289 ?_
      refine lv_aload_n hx hb dL_law_290 rfl (lv_at hl 0 rfl) ?_
      refine lv_iload hx hb dL_law_291 (lv_at hl 4 rfl) ?_
      refine lv_iconst (v := 2) hx hb dL_law_293 (by decide) ?_
      refine lv_iadd hx hb dL_law_294 ?_
      obtain ⟨g46, hf⟩ := gd_s hf
      refine va_sld hx hb hXs hbl hbA Z.2 (in_of g46) dL_law_295 ?_
      obtain ⟨r49, s48, h47, hf⟩ := bi_s hf
      refine goI Z (run_V (As := [.int ((xs ((x4 + (1 : Int32))).toNatClampNeg)), .int ((xs ((x4 + (2 : Int32))).toNatClampNeg))]) (rest := []) X Z (c_X11_segment l D h cy ((xs ((x4 + (1 : Int32))).toNatClampNeg)) ((xs ((x4 + (2 : Int32))).toNatClampNeg)) σ (r49, s48) h47 _) lk_RL_38 ⟨by decide, by decide⟩ rv_0 rfl hl.1 rfl (Nat.le_of_ble_eq_true rfl) ⟨by show _ ≤ 601024; omega, by show _ ≤ 7293034; omega⟩ dL_law_296) (fun H locs Z => ?_)
      refine lv_aload_n hx hb dL_law_299 rfl (lv_at hl 2 rfl) ?_
      refine lv_aload_n hx hb dL_law_300 rfl (lv_at hl 0 rfl) ?_
      refine lv_iload hx hb dL_law_301 (lv_at hl 4 rfl) ?_
      refine lv_iconst (v := 1) hx hb dL_law_303 (by decide) ?_
      refine lv_iadd hx hb dL_law_304 ?_
      obtain ⟨g50, hf⟩ := gd_s hf
      refine va_sld hx hb hXs hbl hbA Z.2 (in_of g50) dL_law_305 ?_
      refine lv_aload_n hx hb dL_law_306 rfl (lv_at hl 0 rfl) ?_
      refine lv_iload hx hb dL_law_307 (lv_at hl 4 rfl) ?_
      refine lv_iconst (v := 2) hx hb dL_law_309 (by decide) ?_
      refine lv_iadd hx hb dL_law_310 ?_
      obtain ⟨g51, hf⟩ := gd_s hf
      refine va_sld hx hb hXs hbl hbA Z.2 (in_of g51) dL_law_311 ?_
      obtain ⟨r54, s53, h52, hf⟩ := bi_s hf
      refine goI Z (run_V (As := [.int ((xs ((x4 + (1 : Int32))).toNatClampNeg)), .int ((xs ((x4 + (2 : Int32))).toNatClampNeg))]) (rest := [.int r49]) X Z (c_X12_segment l D h cy ((xs ((x4 + (1 : Int32))).toNatClampNeg)) ((xs ((x4 + (2 : Int32))).toNatClampNeg)) s48 (r54, s53) h52 _) lk_RL_42 ⟨by decide, by decide⟩ rv_68 rfl hl.1 rfl (Nat.le_of_ble_eq_true rfl) ⟨by show _ ≤ 601024; omega, by show _ ≤ 7293034; omega⟩ dL_law_312) (fun H locs Z => ?_)
      refine lv_icmp_eq (tgt := 1047) hx hb dL_law_315 (by decide) (fun c55 => ?_) (fun c55 => ?_)
      · have hf := itp c55 hf
        exact b_L_law_1047 htr hL X hr hk S Hge hXs hbl K23 hK23 x4 s53 _ hf hy w _ _ hw (by omega) (by omega) (by omega) _ _ _ Z (lv_sub hl [0, 1, 2, 3, 4] rfl)
      · have hf := itn c55 hf
        refine lv_iconst (v := 0) hx hb dL_law_318 (by decide) ?_
        exact absurd (congrArg Prod.fst (Option.some.inj hf)).symm (by rw [hy]; exact (by decide : ¬ (1 : Int32) = 0))
    have hf := itn c44 hf
    refine Or.elim (Decidable.em (((xs x4.toNatClampNeg) &&& (31 : Int32)) = 4)) (fun c56 => ?_) (fun c56 => ?_)
    · have hf := itp c56 hf
      refine lv_tableIn (off := 280) (tgt := 320) hx hb dL_law_40 (by rw [c56]; decide) (by rw [c56]; decide) (by rw [c56]; rfl) (by decide) ?_
      refine lv_aload_n hx hb dL_law_320 rfl (lv_at hl 1 rfl) ?_
      refine lv_aload_n hx hb dL_law_321 rfl (lv_at hl 0 rfl) ?_
      refine lv_iload hx hb dL_law_322 (lv_at hl 4 rfl) ?_
      refine lv_iconst (v := 1) hx hb dL_law_324 (by decide) ?_
      refine lv_iadd hx hb dL_law_325 ?_
      obtain ⟨g57, hf⟩ := gd_s hf
      refine va_sld hx hb hXs hbl hbA Z.2 (in_of g57) dL_law_326 ?_
      refine lv_aload_n hx hb dL_law_327 rfl (lv_at hl 0 rfl) ?_
      refine lv_iload hx hb dL_law_328 (lv_at hl 4 rfl) ?_
      refine lv_iconst (v := 2) hx hb dL_law_330 (by decide) ?_
      refine lv_iadd hx hb dL_law_331 ?_
      obtain ⟨g58, hf⟩ := gd_s hf
      refine va_sld hx hb hXs hbl hbA Z.2 (in_of g58) dL_law_332 ?_
      obtain ⟨r61, s60, h59, hf⟩ := bi_s hf
      refine goI Z (run_V (As := [.int ((xs ((x4 + (1 : Int32))).toNatClampNeg)), .int ((xs ((x4 + (2 : Int32))).toNatClampNeg))]) (rest := []) X Z (c_X11_fill l D h cy ((xs ((x4 + (1 : Int32))).toNatClampNeg)) ((xs ((x4 + (2 : Int32))).toNatClampNeg)) σ (r61, s60) h59 _) lk_RL_43 ⟨by decide, by decide⟩ rv_0 rfl hl.1 rfl (Nat.le_of_ble_eq_true rfl) ⟨by show _ ≤ 601024; omega, by show _ ≤ 7293034; omega⟩ dL_law_333) (fun H locs Z => ?_)
      refine lv_aload_n hx hb dL_law_336 rfl (lv_at hl 2 rfl) ?_
      refine lv_aload_n hx hb dL_law_337 rfl (lv_at hl 0 rfl) ?_
      refine lv_iload hx hb dL_law_338 (lv_at hl 4 rfl) ?_
      refine lv_iconst (v := 1) hx hb dL_law_340 (by decide) ?_
      refine lv_iadd hx hb dL_law_341 ?_
      obtain ⟨g62, hf⟩ := gd_s hf
      refine va_sld hx hb hXs hbl hbA Z.2 (in_of g62) dL_law_342 ?_
      refine lv_aload_n hx hb dL_law_343 rfl (lv_at hl 0 rfl) ?_
      refine lv_iload hx hb dL_law_344 (lv_at hl 4 rfl) ?_
      refine lv_iconst (v := 2) hx hb dL_law_346 (by decide) ?_
      refine lv_iadd hx hb dL_law_347 ?_
      obtain ⟨g63, hf⟩ := gd_s hf
      refine va_sld hx hb hXs hbl hbA Z.2 (in_of g63) dL_law_348 ?_
      obtain ⟨r66, s65, h64, hf⟩ := bi_s hf
      refine goI Z (run_V (As := [.int ((xs ((x4 + (1 : Int32))).toNatClampNeg)), .int ((xs ((x4 + (2 : Int32))).toNatClampNeg))]) (rest := [.int r61]) X Z (c_X12_fill l D h cy ((xs ((x4 + (1 : Int32))).toNatClampNeg)) ((xs ((x4 + (2 : Int32))).toNatClampNeg)) s60 (r66, s65) h64 _) lk_RL_46 ⟨by decide, by decide⟩ rv_68 rfl hl.1 rfl (Nat.le_of_ble_eq_true rfl) ⟨by show _ ≤ 601024; omega, by show _ ≤ 7293034; omega⟩ dL_law_349) (fun H locs Z => ?_)
      refine lv_icmp_eq (tgt := 1047) hx hb dL_law_352 (by decide) (fun c67 => ?_) (fun c67 => ?_)
      · have hf := itp c67 hf
        exact b_L_law_1047 htr hL X hr hk S Hge hXs hbl K23 hK23 x4 s65 _ hf hy w _ _ hw (by omega) (by omega) (by omega) _ _ _ Z (lv_sub hl [0, 1, 2, 3, 4] rfl)
      · have hf := itn c67 hf
        refine lv_iconst (v := 0) hx hb dL_law_355 (by decide) ?_
        exact absurd (congrArg Prod.fst (Option.some.inj hf)).symm (by rw [hy]; exact (by decide : ¬ (1 : Int32) = 0))
    have hf := itn c56 hf
    refine Or.elim (Decidable.em (((xs x4.toNatClampNeg) &&& (31 : Int32)) = 5)) (fun c68 => ?_) (fun c68 => ?_)
    · have hf := itp c68 hf
      refine lv_tableIn (off := 317) (tgt := 357) hx hb dL_law_40 (by rw [c68]; decide) (by rw [c68]; decide) (by rw [c68]; rfl) (by decide) ?_
      refine lv_aload_n hx hb dL_law_357 rfl (lv_at hl 1 rfl) ?_
      refine lv_aload_n hx hb dL_law_358 rfl (lv_at hl 0 rfl) ?_
      refine lv_iload hx hb dL_law_359 (lv_at hl 4 rfl) ?_
      refine lv_iconst (v := 1) hx hb dL_law_361 (by decide) ?_
      refine lv_iadd hx hb dL_law_362 ?_
      obtain ⟨g69, hf⟩ := gd_s hf
      refine va_sld hx hb hXs hbl hbA Z.2 (in_of g69) dL_law_363 ?_
      refine lv_aload_n hx hb dL_law_364 rfl (lv_at hl 0 rfl) ?_
      refine lv_iload hx hb dL_law_365 (lv_at hl 4 rfl) ?_
      refine lv_iconst (v := 2) hx hb dL_law_367 (by decide) ?_
      refine lv_iadd hx hb dL_law_368 ?_
      obtain ⟨g70, hf⟩ := gd_s hf
      refine va_sld hx hb hXs hbl hbA Z.2 (in_of g70) dL_law_369 ?_
      refine lv_aload_n hx hb dL_law_370 rfl (lv_at hl 0 rfl) ?_
      refine lv_iload hx hb dL_law_371 (lv_at hl 4 rfl) ?_
      refine lv_iconst (v := 3) hx hb dL_law_373 (by decide) ?_
      refine lv_iadd hx hb dL_law_374 ?_
      obtain ⟨g71, hf⟩ := gd_s hf
      refine va_sld hx hb hXs hbl hbA Z.2 (in_of g71) dL_law_375 ?_
      obtain ⟨r74, s73, h72, hf⟩ := bi_s hf
      refine goI Z (run_V (As := [.int ((xs ((x4 + (1 : Int32))).toNatClampNeg)), .int ((xs ((x4 + (2 : Int32))).toNatClampNeg)), .int ((xs ((x4 + (3 : Int32))).toNatClampNeg))]) (rest := []) X Z (c_X11_section l D h cy ((xs ((x4 + (1 : Int32))).toNatClampNeg)) ((xs ((x4 + (2 : Int32))).toNatClampNeg)) ((xs ((x4 + (3 : Int32))).toNatClampNeg)) σ (r74, s73) h72 _) lk_RL_47 ⟨by decide, by decide⟩ rv_0 rfl hl.1 rfl (Nat.le_of_ble_eq_true rfl) ⟨by show _ ≤ 601024; omega, by show _ ≤ 7293034; omega⟩ dL_law_376) (fun H locs Z => ?_)
      refine lv_aload_n hx hb dL_law_379 rfl (lv_at hl 2 rfl) ?_
      refine lv_aload_n hx hb dL_law_380 rfl (lv_at hl 0 rfl) ?_
      refine lv_iload hx hb dL_law_381 (lv_at hl 4 rfl) ?_
      refine lv_iconst (v := 1) hx hb dL_law_383 (by decide) ?_
      refine lv_iadd hx hb dL_law_384 ?_
      obtain ⟨g75, hf⟩ := gd_s hf
      refine va_sld hx hb hXs hbl hbA Z.2 (in_of g75) dL_law_385 ?_
      refine lv_aload_n hx hb dL_law_386 rfl (lv_at hl 0 rfl) ?_
      refine lv_iload hx hb dL_law_387 (lv_at hl 4 rfl) ?_
      refine lv_iconst (v := 2) hx hb dL_law_389 (by decide) ?_
      refine lv_iadd hx hb dL_law_390 ?_
      obtain ⟨g76, hf⟩ := gd_s hf
      refine va_sld hx hb hXs hbl hbA Z.2 (in_of g76) dL_law_391 ?_
      refine lv_aload_n hx hb dL_law_392 rfl (lv_at hl 0 rfl) ?_
      refine lv_iload hx hb dL_law_393 (lv_at hl 4 rfl) ?_
      refine lv_iconst (v := 3) hx hb dL_law_395 (by decide) ?_
      refine lv_iadd hx hb dL_law_396 ?_
      obtain ⟨g77, hf⟩ := gd_s hf
      refine va_sld hx hb hXs hbl hbA Z.2 (in_of g77) dL_law_397 ?_
      obtain ⟨r80, s79, h78, hf⟩ := bi_s hf
      refine goI Z (run_V (As := [.int ((xs ((x4 + (1 : Int32))).toNatClampNeg)), .int ((xs ((x4 + (2 : Int32))).toNatClampNeg)), .int ((xs ((x4 + (3 : Int32))).toNatClampNeg))]) (rest := [.int r74]) X Z (c_X12_section l D h cy ((xs ((x4 + (1 : Int32))).toNatClampNeg)) ((xs ((x4 + (2 : Int32))).toNatClampNeg)) ((xs ((x4 + (3 : Int32))).toNatClampNeg)) s73 (r80, s79) h78 _) lk_RL_51 ⟨by decide, by decide⟩ rv_68 rfl hl.1 rfl (Nat.le_of_ble_eq_true rfl) ⟨by show _ ≤ 601024; omega, by show _ ≤ 7293034; omega⟩ dL_law_398) (fun H locs Z => ?_)
      refine lv_icmp_eq (tgt := 1047) hx hb dL_law_401 (by decide) (fun c81 => ?_) (fun c81 => ?_)
      · have hf := itp c81 hf
        exact b_L_law_1047 htr hL X hr hk S Hge hXs hbl K23 hK23 x4 s79 _ hf hy w _ _ hw (by omega) (by omega) (by omega) _ _ _ Z (lv_sub hl [0, 1, 2, 3, 4] rfl)
      · have hf := itn c81 hf
        refine lv_iconst (v := 0) hx hb dL_law_404 (by decide) ?_
        exact absurd (congrArg Prod.fst (Option.some.inj hf)).symm (by rw [hy]; exact (by decide : ¬ (1 : Int32) = 0))
    have hf := itn c68 hf
    refine Or.elim (Decidable.em (((xs x4.toNatClampNeg) &&& (31 : Int32)) = 6)) (fun c82 => ?_) (fun c82 => ?_)
    · have hf := itp c82 hf
      refine lv_tableIn (off := 366) (tgt := 406) hx hb dL_law_40 (by rw [c82]; decide) (by rw [c82]; decide) (by rw [c82]; rfl) (by decide) ?_
      refine lv_aload_n hx hb dL_law_406 rfl (lv_at hl 1 rfl) ?_
      refine lv_aload_n hx hb dL_law_407 rfl (lv_at hl 0 rfl) ?_
      refine lv_iload hx hb dL_law_408 (lv_at hl 4 rfl) ?_
      refine lv_iconst (v := 1) hx hb dL_law_410 (by decide) ?_
      refine lv_iadd hx hb dL_law_411 ?_
      obtain ⟨g83, hf⟩ := gd_s hf
      refine va_sld hx hb hXs hbl hbA Z.2 (in_of g83) dL_law_412 ?_
      refine lv_aload_n hx hb dL_law_413 rfl (lv_at hl 0 rfl) ?_
      refine lv_iload hx hb dL_law_414 (lv_at hl 4 rfl) ?_
      refine lv_iconst (v := 2) hx hb dL_law_416 (by decide) ?_
      refine lv_iadd hx hb dL_law_417 ?_
      obtain ⟨g84, hf⟩ := gd_s hf
      refine va_sld hx hb hXs hbl hbA Z.2 (in_of g84) dL_law_418 ?_
      obtain ⟨r87, s86, h85, hf⟩ := bi_s hf
      refine goI Z (run_V (As := [.int ((xs ((x4 + (1 : Int32))).toNatClampNeg)), .int ((xs ((x4 + (2 : Int32))).toNatClampNeg))]) (rest := []) X Z (c_X11_symbol l D h cy ((xs ((x4 + (1 : Int32))).toNatClampNeg)) ((xs ((x4 + (2 : Int32))).toNatClampNeg)) σ (r87, s86) h85 _) lk_RL_52 ⟨by decide, by decide⟩ rv_0 rfl hl.1 rfl (Nat.le_of_ble_eq_true rfl) ⟨by show _ ≤ 601024; omega, by show _ ≤ 7293034; omega⟩ dL_law_419) (fun H locs Z => ?_)
      refine lv_aload_n hx hb dL_law_422 rfl (lv_at hl 2 rfl) ?_
      refine lv_aload_n hx hb dL_law_423 rfl (lv_at hl 0 rfl) ?_
      refine lv_iload hx hb dL_law_424 (lv_at hl 4 rfl) ?_
      refine lv_iconst (v := 1) hx hb dL_law_426 (by decide) ?_
      refine lv_iadd hx hb dL_law_427 ?_
      obtain ⟨g88, hf⟩ := gd_s hf
      refine va_sld hx hb hXs hbl hbA Z.2 (in_of g88) dL_law_428 ?_
      refine lv_aload_n hx hb dL_law_429 rfl (lv_at hl 0 rfl) ?_
      refine lv_iload hx hb dL_law_430 (lv_at hl 4 rfl) ?_
      refine lv_iconst (v := 2) hx hb dL_law_432 (by decide) ?_
      refine lv_iadd hx hb dL_law_433 ?_
      obtain ⟨g89, hf⟩ := gd_s hf
      refine va_sld hx hb hXs hbl hbA Z.2 (in_of g89) dL_law_434 ?_
      obtain ⟨r92, s91, h90, hf⟩ := bi_s hf
      refine goI Z (run_V (As := [.int ((xs ((x4 + (1 : Int32))).toNatClampNeg)), .int ((xs ((x4 + (2 : Int32))).toNatClampNeg))]) (rest := [.int r87]) X Z (c_X12_symbol l D h cy ((xs ((x4 + (1 : Int32))).toNatClampNeg)) ((xs ((x4 + (2 : Int32))).toNatClampNeg)) s86 (r92, s91) h90 _) lk_RL_55 ⟨by decide, by decide⟩ rv_68 rfl hl.1 rfl (Nat.le_of_ble_eq_true rfl) ⟨by show _ ≤ 601024; omega, by show _ ≤ 7293034; omega⟩ dL_law_435) (fun H locs Z => ?_)
      refine lv_icmp_eq (tgt := 1047) hx hb dL_law_438 (by decide) (fun c93 => ?_) (fun c93 => ?_)
      · have hf := itp c93 hf
        exact b_L_law_1047 htr hL X hr hk S Hge hXs hbl K23 hK23 x4 s91 _ hf hy w _ _ hw (by omega) (by omega) (by omega) _ _ _ Z (lv_sub hl [0, 1, 2, 3, 4] rfl)
      · have hf := itn c93 hf
        refine lv_iconst (v := 0) hx hb dL_law_441 (by decide) ?_
        exact absurd (congrArg Prod.fst (Option.some.inj hf)).symm (by rw [hy]; exact (by decide : ¬ (1 : Int32) = 0))
    have hf := itn c82 hf
    refine Or.elim (Decidable.em (((xs x4.toNatClampNeg) &&& (31 : Int32)) = 7)) (fun c94 => ?_) (fun c94 => ?_)
    · have hf := itp c94 hf
      refine lv_tableIn (off := 403) (tgt := 443) hx hb dL_law_40 (by rw [c94]; decide) (by rw [c94]; decide) (by rw [c94]; rfl) (by decide) ?_
      refine lv_aload_n hx hb dL_law_443 rfl (lv_at hl 1 rfl) ?_
      refine lv_aload_n hx hb dL_law_444 rfl (lv_at hl 0 rfl) ?_
      refine lv_iload hx hb dL_law_445 (lv_at hl 4 rfl) ?_
      refine lv_iconst (v := 1) hx hb dL_law_447 (by decide) ?_
      refine lv_iadd hx hb dL_law_448 ?_
      obtain ⟨g95, hf⟩ := gd_s hf
      refine va_sld hx hb hXs hbl hbA Z.2 (in_of g95) dL_law_449 ?_
      refine lv_aload_n hx hb dL_law_450 rfl (lv_at hl 0 rfl) ?_
      refine lv_iload hx hb dL_law_451 (lv_at hl 4 rfl) ?_
      refine lv_iconst (v := 2) hx hb dL_law_453 (by decide) ?_
      refine lv_iadd hx hb dL_law_454 ?_
      obtain ⟨g96, hf⟩ := gd_s hf
      refine va_sld hx hb hXs hbl hbA Z.2 (in_of g96) dL_law_455 ?_
      refine lv_if_eq (tgt := 463) hx hb dL_law_456 (by decide) (fun c97 => ?_) (fun c97 => ?_)
      · have hf := itp c97 hf
        refine lv_iconst (v := 0) hx hb dL_law_463 (by decide) ?_
        exact b_L_law_464 htr hL X hr hk S Hge hXs hbl K23 hK23 x4 (0 : Int32) ((xs ((x4 + (1 : Int32))).toNatClampNeg)) σ _ hf hy w _ _ hw (by omega) (by omega) (by omega) _ _ _ Z (lv_sub hl [0, 1, 2, 3, 4] rfl)
      · have hf := itn c97 hf
        refine lv_iconst (v := 1) hx hb dL_law_459 (by decide) ?_
        refine lv_goto (tgt := 464) hx hb dL_law_460 (by decide) ?_
        exact b_L_law_464 htr hL X hr hk S Hge hXs hbl K23 hK23 x4 (1 : Int32) ((xs ((x4 + (1 : Int32))).toNatClampNeg)) σ _ hf hy w _ _ hw (by omega) (by omega) (by omega) _ _ _ Z (lv_sub hl [0, 1, 2, 3, 4] rfl)
    have hf := itn c94 hf
    refine Or.elim (Decidable.em (((xs x4.toNatClampNeg) &&& (31 : Int32)) = 8)) (fun c108 => ?_) (fun c108 => ?_)
    · have hf := itp c108 hf
      refine lv_tableIn (off := 456) (tgt := 496) hx hb dL_law_40 (by rw [c108]; decide) (by rw [c108]; decide) (by rw [c108]; rfl) (by decide) ?_
      refine lv_aload_n hx hb dL_law_496 rfl (lv_at hl 1 rfl) ?_
      refine lv_aload_n hx hb dL_law_497 rfl (lv_at hl 0 rfl) ?_
      refine lv_iload hx hb dL_law_498 (lv_at hl 4 rfl) ?_
      refine lv_iconst (v := 1) hx hb dL_law_500 (by decide) ?_
      refine lv_iadd hx hb dL_law_501 ?_
      obtain ⟨g109, hf⟩ := gd_s hf
      refine va_sld hx hb hXs hbl hbA Z.2 (in_of g109) dL_law_502 ?_
      refine lv_aload_n hx hb dL_law_503 rfl (lv_at hl 0 rfl) ?_
      refine lv_iload hx hb dL_law_504 (lv_at hl 4 rfl) ?_
      refine lv_iconst (v := 2) hx hb dL_law_506 (by decide) ?_
      refine lv_iadd hx hb dL_law_507 ?_
      obtain ⟨g110, hf⟩ := gd_s hf
      refine va_sld hx hb hXs hbl hbA Z.2 (in_of g110) dL_law_508 ?_
      refine lv_aload_n hx hb dL_law_509 rfl (lv_at hl 0 rfl) ?_
      refine lv_iload hx hb dL_law_510 (lv_at hl 4 rfl) ?_
      refine lv_iconst (v := 3) hx hb dL_law_512 (by decide) ?_
      refine lv_iadd hx hb dL_law_513 ?_
      obtain ⟨g111, hf⟩ := gd_s hf
      refine va_sld hx hb hXs hbl hbA Z.2 (in_of g111) dL_law_514 ?_
      refine lv_i2l (v := ((xs ((x4 + (3 : Int32))).toNatClampNeg)).toInt64) hx hb dL_law_515 rfl ?_
      refine lv_bipush (v := 32) hx hb dL_law_516 (by decide) ?_
      refine lv_lshl (v := zlshl (((xs ((x4 + (3 : Int32))).toNatClampNeg)).toInt64) (32 : Int32)) hx hb dL_law_518 rfl ?_
      refine lv_aload_n hx hb dL_law_519 rfl (lv_at hl 0 rfl) ?_
      refine lv_iload hx hb dL_law_520 (lv_at hl 4 rfl) ?_
      refine lv_iconst (v := 4) hx hb dL_law_522 (by decide) ?_
      refine lv_iadd hx hb dL_law_523 ?_
      obtain ⟨g112, hf⟩ := gd_s hf
      refine va_sld hx hb hXs hbl hbA Z.2 (in_of g112) dL_law_524 ?_
      refine lv_i2l (v := ((xs ((x4 + (4 : Int32))).toNatClampNeg)).toInt64) hx hb dL_law_525 rfl ?_
      refine lv_ldc2 (v := 4294967295) hx hb X.o (X.t _ kc_RL_61) dL_law_526 ?_
      refine lv_land hx hb dL_law_529 ?_
      refine lv_lor hx hb dL_law_530 ?_
      refine lv_aload_n hx hb dL_law_531 rfl (lv_at hl 0 rfl) ?_
      refine lv_iload hx hb dL_law_532 (lv_at hl 4 rfl) ?_
      refine lv_iconst (v := 5) hx hb dL_law_534 (by decide) ?_
      refine lv_iadd hx hb dL_law_535 ?_
      obtain ⟨g113, hf⟩ := gd_s hf
      refine va_sld hx hb hXs hbl hbA Z.2 (in_of g113) dL_law_536 ?_
      obtain ⟨r116, s115, h114, hf⟩ := bi_s hf
      refine goI Z (run_V (As := [.int ((xs ((x4 + (1 : Int32))).toNatClampNeg)), .int ((xs ((x4 + (2 : Int32))).toNatClampNeg)), .long (((zlshl (((xs ((x4 + (3 : Int32))).toNatClampNeg)).toInt64) (32 : Int32)) ||| (((xs ((x4 + (4 : Int32))).toNatClampNeg)).toInt64 &&& (4294967295 : Int64)))), .int ((xs ((x4 + (5 : Int32))).toNatClampNeg))]) (rest := []) X Z (c_X11_rebase l D h cy ((xs ((x4 + (1 : Int32))).toNatClampNeg)) ((xs ((x4 + (2 : Int32))).toNatClampNeg)) (((zlshl (((xs ((x4 + (3 : Int32))).toNatClampNeg)).toInt64) (32 : Int32)) ||| (((xs ((x4 + (4 : Int32))).toNatClampNeg)).toInt64 &&& (4294967295 : Int64)))) ((xs ((x4 + (5 : Int32))).toNatClampNeg)) σ (r116, s115) h114 _) lk_RL_63 ⟨by decide, by decide⟩ rv_0 rfl hl.1 rfl (Nat.le_of_ble_eq_true rfl) ⟨by show _ ≤ 601024; omega, by show _ ≤ 7293034; omega⟩ dL_law_537) (fun H locs Z => ?_)
      refine lv_aload_n hx hb dL_law_540 rfl (lv_at hl 2 rfl) ?_
      refine lv_aload_n hx hb dL_law_541 rfl (lv_at hl 0 rfl) ?_
      refine lv_iload hx hb dL_law_542 (lv_at hl 4 rfl) ?_
      refine lv_iconst (v := 1) hx hb dL_law_544 (by decide) ?_
      refine lv_iadd hx hb dL_law_545 ?_
      obtain ⟨g117, hf⟩ := gd_s hf
      refine va_sld hx hb hXs hbl hbA Z.2 (in_of g117) dL_law_546 ?_
      refine lv_aload_n hx hb dL_law_547 rfl (lv_at hl 0 rfl) ?_
      refine lv_iload hx hb dL_law_548 (lv_at hl 4 rfl) ?_
      refine lv_iconst (v := 2) hx hb dL_law_550 (by decide) ?_
      refine lv_iadd hx hb dL_law_551 ?_
      obtain ⟨g118, hf⟩ := gd_s hf
      refine va_sld hx hb hXs hbl hbA Z.2 (in_of g118) dL_law_552 ?_
      refine lv_aload_n hx hb dL_law_553 rfl (lv_at hl 0 rfl) ?_
      refine lv_iload hx hb dL_law_554 (lv_at hl 4 rfl) ?_
      refine lv_iconst (v := 3) hx hb dL_law_556 (by decide) ?_
      refine lv_iadd hx hb dL_law_557 ?_
      obtain ⟨g119, hf⟩ := gd_s hf
      refine va_sld hx hb hXs hbl hbA Z.2 (in_of g119) dL_law_558 ?_
      refine lv_i2l (v := ((xs ((x4 + (3 : Int32))).toNatClampNeg)).toInt64) hx hb dL_law_559 rfl ?_
      refine lv_bipush (v := 32) hx hb dL_law_560 (by decide) ?_
      refine lv_lshl (v := zlshl (((xs ((x4 + (3 : Int32))).toNatClampNeg)).toInt64) (32 : Int32)) hx hb dL_law_562 rfl ?_
      refine lv_aload_n hx hb dL_law_563 rfl (lv_at hl 0 rfl) ?_
      refine lv_iload hx hb dL_law_564 (lv_at hl 4 rfl) ?_
      refine lv_iconst (v := 4) hx hb dL_law_566 (by decide) ?_
      refine lv_iadd hx hb dL_law_567 ?_
      obtain ⟨g120, hf⟩ := gd_s hf
      refine va_sld hx hb hXs hbl hbA Z.2 (in_of g120) dL_law_568 ?_
      refine lv_i2l (v := ((xs ((x4 + (4 : Int32))).toNatClampNeg)).toInt64) hx hb dL_law_569 rfl ?_
      refine lv_ldc2 (v := 4294967295) hx hb X.o (X.t _ kc_RL_61) dL_law_570 ?_
      refine lv_land hx hb dL_law_573 ?_
      refine lv_lor hx hb dL_law_574 ?_
      refine lv_aload_n hx hb dL_law_575 rfl (lv_at hl 0 rfl) ?_
      refine lv_iload hx hb dL_law_576 (lv_at hl 4 rfl) ?_
      refine lv_iconst (v := 5) hx hb dL_law_578 (by decide) ?_
      refine lv_iadd hx hb dL_law_579 ?_
      obtain ⟨g121, hf⟩ := gd_s hf
      refine va_sld hx hb hXs hbl hbA Z.2 (in_of g121) dL_law_580 ?_
      obtain ⟨r124, s123, h122, hf⟩ := bi_s hf
      refine goI Z (run_V (As := [.int ((xs ((x4 + (1 : Int32))).toNatClampNeg)), .int ((xs ((x4 + (2 : Int32))).toNatClampNeg)), .long (((zlshl (((xs ((x4 + (3 : Int32))).toNatClampNeg)).toInt64) (32 : Int32)) ||| (((xs ((x4 + (4 : Int32))).toNatClampNeg)).toInt64 &&& (4294967295 : Int64)))), .int ((xs ((x4 + (5 : Int32))).toNatClampNeg))]) (rest := [.int r116]) X Z (c_X12_rebase l D h cy ((xs ((x4 + (1 : Int32))).toNatClampNeg)) ((xs ((x4 + (2 : Int32))).toNatClampNeg)) (((zlshl (((xs ((x4 + (3 : Int32))).toNatClampNeg)).toInt64) (32 : Int32)) ||| (((xs ((x4 + (4 : Int32))).toNatClampNeg)).toInt64 &&& (4294967295 : Int64)))) ((xs ((x4 + (5 : Int32))).toNatClampNeg)) s115 (r124, s123) h122 _) lk_RL_67 ⟨by decide, by decide⟩ rv_68 rfl hl.1 rfl (Nat.le_of_ble_eq_true rfl) ⟨by show _ ≤ 601024; omega, by show _ ≤ 7293034; omega⟩ dL_law_581) (fun H locs Z => ?_)
      refine lv_icmp_eq (tgt := 1047) hx hb dL_law_584 (by decide) (fun c125 => ?_) (fun c125 => ?_)
      · have hf := itp c125 hf
        exact b_L_law_1047 htr hL X hr hk S Hge hXs hbl K23 hK23 x4 s123 _ hf hy w _ _ hw (by omega) (by omega) (by omega) _ _ _ Z (lv_sub hl [0, 1, 2, 3, 4] rfl)
      · have hf := itn c125 hf
        refine lv_iconst (v := 0) hx hb dL_law_587 (by decide) ?_
        exact absurd (congrArg Prod.fst (Option.some.inj hf)).symm (by rw [hy]; exact (by decide : ¬ (1 : Int32) = 0))
    have hf := itn c108 hf
    refine Or.elim (Decidable.em (((xs x4.toNatClampNeg) &&& (31 : Int32)) = 9)) (fun c126 => ?_) (fun c126 => ?_)
    · have hf := itp c126 hf
      refine lv_tableIn (off := 549) (tgt := 589) hx hb dL_law_40 (by rw [c126]; decide) (by rw [c126]; decide) (by rw [c126]; rfl) (by decide) ?_
      refine lv_aload_n hx hb dL_law_589 rfl (lv_at hl 1 rfl) ?_
      refine lv_aload_n hx hb dL_law_590 rfl (lv_at hl 0 rfl) ?_
      refine lv_iload hx hb dL_law_591 (lv_at hl 4 rfl) ?_
      refine lv_iconst (v := 1) hx hb dL_law_593 (by decide) ?_
      refine lv_iadd hx hb dL_law_594 ?_
      obtain ⟨g127, hf⟩ := gd_s hf
      refine va_sld hx hb hXs hbl hbA Z.2 (in_of g127) dL_law_595 ?_
      refine lv_aload_n hx hb dL_law_596 rfl (lv_at hl 0 rfl) ?_
      refine lv_iload hx hb dL_law_597 (lv_at hl 4 rfl) ?_
      refine lv_iconst (v := 2) hx hb dL_law_599 (by decide) ?_
      refine lv_iadd hx hb dL_law_600 ?_
      obtain ⟨g128, hf⟩ := gd_s hf
      refine va_sld hx hb hXs hbl hbA Z.2 (in_of g128) dL_law_601 ?_
      refine lv_aload_n hx hb dL_law_602 rfl (lv_at hl 0 rfl) ?_
      refine lv_iload hx hb dL_law_603 (lv_at hl 4 rfl) ?_
      refine lv_iconst (v := 3) hx hb dL_law_605 (by decide) ?_
      refine lv_iadd hx hb dL_law_606 ?_
      obtain ⟨g129, hf⟩ := gd_s hf
      refine va_sld hx hb hXs hbl hbA Z.2 (in_of g129) dL_law_607 ?_
      refine lv_aload_n hx hb dL_law_608 rfl (lv_at hl 0 rfl) ?_
      refine lv_iload hx hb dL_law_609 (lv_at hl 4 rfl) ?_
      refine lv_iconst (v := 4) hx hb dL_law_611 (by decide) ?_
      refine lv_iadd hx hb dL_law_612 ?_
      obtain ⟨g130, hf⟩ := gd_s hf
      refine va_sld hx hb hXs hbl hbA Z.2 (in_of g130) dL_law_613 ?_
      obtain ⟨r133, s132, h131, hf⟩ := bi_s hf
      refine goI Z (run_V (As := [.int ((xs ((x4 + (1 : Int32))).toNatClampNeg)), .int ((xs ((x4 + (2 : Int32))).toNatClampNeg)), .int ((xs ((x4 + (3 : Int32))).toNatClampNeg)), .int ((xs ((x4 + (4 : Int32))).toNatClampNeg))]) (rest := []) X Z (c_X11_bind l D h cy ((xs ((x4 + (1 : Int32))).toNatClampNeg)) ((xs ((x4 + (2 : Int32))).toNatClampNeg)) ((xs ((x4 + (3 : Int32))).toNatClampNeg)) ((xs ((x4 + (4 : Int32))).toNatClampNeg)) σ (r133, s132) h131 _) lk_RL_68 ⟨by decide, by decide⟩ rv_0 rfl hl.1 rfl (Nat.le_of_ble_eq_true rfl) ⟨by show _ ≤ 601024; omega, by show _ ≤ 7293034; omega⟩ dL_law_614) (fun H locs Z => ?_)
      refine lv_aload_n hx hb dL_law_617 rfl (lv_at hl 2 rfl) ?_
      refine lv_aload_n hx hb dL_law_618 rfl (lv_at hl 0 rfl) ?_
      refine lv_iload hx hb dL_law_619 (lv_at hl 4 rfl) ?_
      refine lv_iconst (v := 1) hx hb dL_law_621 (by decide) ?_
      refine lv_iadd hx hb dL_law_622 ?_
      obtain ⟨g134, hf⟩ := gd_s hf
      refine va_sld hx hb hXs hbl hbA Z.2 (in_of g134) dL_law_623 ?_
      refine lv_aload_n hx hb dL_law_624 rfl (lv_at hl 0 rfl) ?_
      refine lv_iload hx hb dL_law_625 (lv_at hl 4 rfl) ?_
      refine lv_iconst (v := 2) hx hb dL_law_627 (by decide) ?_
      refine lv_iadd hx hb dL_law_628 ?_
      obtain ⟨g135, hf⟩ := gd_s hf
      refine va_sld hx hb hXs hbl hbA Z.2 (in_of g135) dL_law_629 ?_
      refine lv_aload_n hx hb dL_law_630 rfl (lv_at hl 0 rfl) ?_
      refine lv_iload hx hb dL_law_631 (lv_at hl 4 rfl) ?_
      refine lv_iconst (v := 3) hx hb dL_law_633 (by decide) ?_
      refine lv_iadd hx hb dL_law_634 ?_
      obtain ⟨g136, hf⟩ := gd_s hf
      refine va_sld hx hb hXs hbl hbA Z.2 (in_of g136) dL_law_635 ?_
      refine lv_aload_n hx hb dL_law_636 rfl (lv_at hl 0 rfl) ?_
      refine lv_iload hx hb dL_law_637 (lv_at hl 4 rfl) ?_
      refine lv_iconst (v := 4) hx hb dL_law_639 (by decide) ?_
      refine lv_iadd hx hb dL_law_640 ?_
      obtain ⟨g137, hf⟩ := gd_s hf
      refine va_sld hx hb hXs hbl hbA Z.2 (in_of g137) dL_law_641 ?_
      obtain ⟨r140, s139, h138, hf⟩ := bi_s hf
      refine goI Z (run_V (As := [.int ((xs ((x4 + (1 : Int32))).toNatClampNeg)), .int ((xs ((x4 + (2 : Int32))).toNatClampNeg)), .int ((xs ((x4 + (3 : Int32))).toNatClampNeg)), .int ((xs ((x4 + (4 : Int32))).toNatClampNeg))]) (rest := [.int r133]) X Z (c_X12_bind l D h cy ((xs ((x4 + (1 : Int32))).toNatClampNeg)) ((xs ((x4 + (2 : Int32))).toNatClampNeg)) ((xs ((x4 + (3 : Int32))).toNatClampNeg)) ((xs ((x4 + (4 : Int32))).toNatClampNeg)) s132 (r140, s139) h138 _) lk_RL_72 ⟨by decide, by decide⟩ rv_68 rfl hl.1 rfl (Nat.le_of_ble_eq_true rfl) ⟨by show _ ≤ 601024; omega, by show _ ≤ 7293034; omega⟩ dL_law_642) (fun H locs Z => ?_)
      refine lv_icmp_eq (tgt := 1047) hx hb dL_law_645 (by decide) (fun c141 => ?_) (fun c141 => ?_)
      · have hf := itp c141 hf
        exact b_L_law_1047 htr hL X hr hk S Hge hXs hbl K23 hK23 x4 s139 _ hf hy w _ _ hw (by omega) (by omega) (by omega) _ _ _ Z (lv_sub hl [0, 1, 2, 3, 4] rfl)
      · have hf := itn c141 hf
        refine lv_iconst (v := 0) hx hb dL_law_648 (by decide) ?_
        exact absurd (congrArg Prod.fst (Option.some.inj hf)).symm (by rw [hy]; exact (by decide : ¬ (1 : Int32) = 0))
    have hf := itn c126 hf
    refine Or.elim (Decidable.em (((xs x4.toNatClampNeg) &&& (31 : Int32)) = 10)) (fun c142 => ?_) (fun c142 => ?_)
    · have hf := itp c142 hf
      refine lv_tableIn (off := 610) (tgt := 650) hx hb dL_law_40 (by rw [c142]; decide) (by rw [c142]; decide) (by rw [c142]; rfl) (by decide) ?_
      refine lv_aload_n hx hb dL_law_650 rfl (lv_at hl 1 rfl) ?_
      refine lv_aload_n hx hb dL_law_651 rfl (lv_at hl 0 rfl) ?_
      refine lv_iload hx hb dL_law_652 (lv_at hl 4 rfl) ?_
      refine lv_iconst (v := 1) hx hb dL_law_654 (by decide) ?_
      refine lv_iadd hx hb dL_law_655 ?_
      obtain ⟨g143, hf⟩ := gd_s hf
      refine va_sld hx hb hXs hbl hbA Z.2 (in_of g143) dL_law_656 ?_
      refine lv_aload_n hx hb dL_law_657 rfl (lv_at hl 0 rfl) ?_
      refine lv_iload hx hb dL_law_658 (lv_at hl 4 rfl) ?_
      refine lv_iconst (v := 2) hx hb dL_law_660 (by decide) ?_
      refine lv_iadd hx hb dL_law_661 ?_
      obtain ⟨g144, hf⟩ := gd_s hf
      refine va_sld hx hb hXs hbl hbA Z.2 (in_of g144) dL_law_662 ?_
      obtain ⟨r147, s146, h145, hf⟩ := bi_s hf
      refine goI Z (run_V (As := [.int ((xs ((x4 + (1 : Int32))).toNatClampNeg)), .int ((xs ((x4 + (2 : Int32))).toNatClampNeg))]) (rest := []) X Z (c_X11_drop l D h cy ((xs ((x4 + (1 : Int32))).toNatClampNeg)) ((xs ((x4 + (2 : Int32))).toNatClampNeg)) σ (r147, s146) h145 _) lk_RL_73 ⟨by decide, by decide⟩ rv_0 rfl hl.1 rfl (Nat.le_of_ble_eq_true rfl) ⟨by show _ ≤ 601024; omega, by show _ ≤ 7293034; omega⟩ dL_law_663) (fun H locs Z => ?_)
      refine lv_aload_n hx hb dL_law_666 rfl (lv_at hl 2 rfl) ?_
      refine lv_aload_n hx hb dL_law_667 rfl (lv_at hl 0 rfl) ?_
      refine lv_iload hx hb dL_law_668 (lv_at hl 4 rfl) ?_
      refine lv_iconst (v := 1) hx hb dL_law_670 (by decide) ?_
      refine lv_iadd hx hb dL_law_671 ?_
      obtain ⟨g148, hf⟩ := gd_s hf
      refine va_sld hx hb hXs hbl hbA Z.2 (in_of g148) dL_law_672 ?_
      refine lv_aload_n hx hb dL_law_673 rfl (lv_at hl 0 rfl) ?_
      refine lv_iload hx hb dL_law_674 (lv_at hl 4 rfl) ?_
      refine lv_iconst (v := 2) hx hb dL_law_676 (by decide) ?_
      refine lv_iadd hx hb dL_law_677 ?_
      obtain ⟨g149, hf⟩ := gd_s hf
      refine va_sld hx hb hXs hbl hbA Z.2 (in_of g149) dL_law_678 ?_
      obtain ⟨r152, s151, h150, hf⟩ := bi_s hf
      refine goI Z (run_V (As := [.int ((xs ((x4 + (1 : Int32))).toNatClampNeg)), .int ((xs ((x4 + (2 : Int32))).toNatClampNeg))]) (rest := [.int r147]) X Z (c_X12_drop l D h cy ((xs ((x4 + (1 : Int32))).toNatClampNeg)) ((xs ((x4 + (2 : Int32))).toNatClampNeg)) s146 (r152, s151) h150 _) lk_RL_76 ⟨by decide, by decide⟩ rv_68 rfl hl.1 rfl (Nat.le_of_ble_eq_true rfl) ⟨by show _ ≤ 601024; omega, by show _ ≤ 7293034; omega⟩ dL_law_679) (fun H locs Z => ?_)
      refine lv_icmp_eq (tgt := 1047) hx hb dL_law_682 (by decide) (fun c153 => ?_) (fun c153 => ?_)
      · have hf := itp c153 hf
        exact b_L_law_1047 htr hL X hr hk S Hge hXs hbl K23 hK23 x4 s151 _ hf hy w _ _ hw (by omega) (by omega) (by omega) _ _ _ Z (lv_sub hl [0, 1, 2, 3, 4] rfl)
      · have hf := itn c153 hf
        refine lv_iconst (v := 0) hx hb dL_law_685 (by decide) ?_
        exact absurd (congrArg Prod.fst (Option.some.inj hf)).symm (by rw [hy]; exact (by decide : ¬ (1 : Int32) = 0))
    have hf := itn c142 hf
    refine Or.elim (Decidable.em (((xs x4.toNatClampNeg) &&& (31 : Int32)) = 11)) (fun c154 => ?_) (fun c154 => ?_)
    · have hf := itp c154 hf
      refine lv_tableIn (off := 647) (tgt := 687) hx hb dL_law_40 (by rw [c154]; decide) (by rw [c154]; decide) (by rw [c154]; rfl) (by decide) ?_
      refine lv_aload_n hx hb dL_law_687 rfl (lv_at hl 1 rfl) ?_
      obtain ⟨r157, s156, h155, hf⟩ := bi_s hf
      refine goI Z (run_V (As := []) (rest := []) X Z (c_X11_write l D h cy σ (r157, s156) h155 _) lk_RL_77 ⟨by decide, by decide⟩ rv_0 rfl hl.1 rfl (Nat.le_of_ble_eq_true rfl) ⟨by show _ ≤ 601024; omega, by show _ ≤ 7293034; omega⟩ dL_law_688) (fun H locs Z => ?_)
      refine lv_aload_n hx hb dL_law_691 rfl (lv_at hl 2 rfl) ?_
      obtain ⟨r160, s159, h158, hf⟩ := bi_s hf
      refine goI Z (run_V (As := []) (rest := [.int r157]) X Z (c_X12_write l D h cy s156 (r160, s159) h158 _) lk_RL_81 ⟨by decide, by decide⟩ rv_68 rfl hl.1 rfl (Nat.le_of_ble_eq_true rfl) ⟨by show _ ≤ 601024; omega, by show _ ≤ 7293034; omega⟩ dL_law_692) (fun H locs Z => ?_)
      refine lv_icmp_eq (tgt := 1047) hx hb dL_law_695 (by decide) (fun c161 => ?_) (fun c161 => ?_)
      · have hf := itp c161 hf
        exact b_L_law_1047 htr hL X hr hk S Hge hXs hbl K23 hK23 x4 s159 _ hf hy w _ _ hw (by omega) (by omega) (by omega) _ _ _ Z (lv_sub hl [0, 1, 2, 3, 4] rfl)
      · have hf := itn c161 hf
        refine lv_iconst (v := 0) hx hb dL_law_698 (by decide) ?_
        exact absurd (congrArg Prod.fst (Option.some.inj hf)).symm (by rw [hy]; exact (by decide : ¬ (1 : Int32) = 0))
    have hf := itn c154 hf
    refine Or.elim (Decidable.em (((xs x4.toNatClampNeg) &&& (31 : Int32)) = 12)) (fun c162 => ?_) (fun c162 => ?_)
    · have hf := itp c162 hf
      refine lv_tableIn (off := 660) (tgt := 700) hx hb dL_law_40 (by rw [c162]; decide) (by rw [c162]; decide) (by rw [c162]; rfl) (by decide) ?_
      refine lv_aload_n hx hb dL_law_700 rfl (lv_at hl 1 rfl) ?_
      refine lv_aload_n hx hb dL_law_701 rfl (lv_at hl 0 rfl) ?_
      refine lv_iload hx hb dL_law_702 (lv_at hl 4 rfl) ?_
      refine lv_iconst (v := 1) hx hb dL_law_704 (by decide) ?_
      refine lv_iadd hx hb dL_law_705 ?_
      obtain ⟨g163, hf⟩ := gd_s hf
      refine va_sld hx hb hXs hbl hbA Z.2 (in_of g163) dL_law_706 ?_
      obtain ⟨r166, s165, h164, hf⟩ := bi_s hf
      refine goI Z (run_V (As := [.int ((xs ((x4 + (1 : Int32))).toNatClampNeg))]) (rest := []) X Z (c_X11_image l D h cy ((xs ((x4 + (1 : Int32))).toNatClampNeg)) σ (r166, s165) h164 _) lk_RL_82 ⟨by decide, by decide⟩ rv_0 rfl hl.1 rfl (Nat.le_of_ble_eq_true rfl) ⟨by show _ ≤ 601024; omega, by show _ ≤ 7293034; omega⟩ dL_law_707) (fun H locs Z => ?_)
      refine lv_aload_n hx hb dL_law_710 rfl (lv_at hl 2 rfl) ?_
      refine lv_aload_n hx hb dL_law_711 rfl (lv_at hl 0 rfl) ?_
      refine lv_iload hx hb dL_law_712 (lv_at hl 4 rfl) ?_
      refine lv_iconst (v := 1) hx hb dL_law_714 (by decide) ?_
      refine lv_iadd hx hb dL_law_715 ?_
      obtain ⟨g167, hf⟩ := gd_s hf
      refine va_sld hx hb hXs hbl hbA Z.2 (in_of g167) dL_law_716 ?_
      obtain ⟨r170, s169, h168, hf⟩ := bi_s hf
      refine goI Z (run_V (As := [.int ((xs ((x4 + (1 : Int32))).toNatClampNeg))]) (rest := [.int r166]) X Z (c_X12_image l D h cy ((xs ((x4 + (1 : Int32))).toNatClampNeg)) s165 (r170, s169) h168 _) lk_RL_86 ⟨by decide, by decide⟩ rv_68 rfl hl.1 rfl (Nat.le_of_ble_eq_true rfl) ⟨by show _ ≤ 601024; omega, by show _ ≤ 7293034; omega⟩ dL_law_717) (fun H locs Z => ?_)
      refine lv_icmp_eq (tgt := 1047) hx hb dL_law_720 (by decide) (fun c171 => ?_) (fun c171 => ?_)
      · have hf := itp c171 hf
        exact b_L_law_1047 htr hL X hr hk S Hge hXs hbl K23 hK23 x4 s169 _ hf hy w _ _ hw (by omega) (by omega) (by omega) _ _ _ Z (lv_sub hl [0, 1, 2, 3, 4] rfl)
      · have hf := itn c171 hf
        refine lv_iconst (v := 0) hx hb dL_law_723 (by decide) ?_
        exact absurd (congrArg Prod.fst (Option.some.inj hf)).symm (by rw [hy]; exact (by decide : ¬ (1 : Int32) = 0))
    have hf := itn c162 hf
    refine Or.elim (Decidable.em (((xs x4.toNatClampNeg) &&& (31 : Int32)) = 13)) (fun c172 => ?_) (fun c172 => ?_)
    · have hf := itp c172 hf
      refine lv_tableIn (off := 685) (tgt := 725) hx hb dL_law_40 (by rw [c172]; decide) (by rw [c172]; decide) (by rw [c172]; rfl) (by decide) ?_
      refine lv_aload_n hx hb dL_law_725 rfl (lv_at hl 1 rfl) ?_
      refine lv_aload_n hx hb dL_law_726 rfl (lv_at hl 0 rfl) ?_
      refine lv_iload hx hb dL_law_727 (lv_at hl 4 rfl) ?_
      refine lv_iconst (v := 1) hx hb dL_law_729 (by decide) ?_
      refine lv_iadd hx hb dL_law_730 ?_
      obtain ⟨g173, hf⟩ := gd_s hf
      refine va_sld hx hb hXs hbl hbA Z.2 (in_of g173) dL_law_731 ?_
      refine lv_aload_n hx hb dL_law_732 rfl (lv_at hl 0 rfl) ?_
      refine lv_iload hx hb dL_law_733 (lv_at hl 4 rfl) ?_
      refine lv_iconst (v := 2) hx hb dL_law_735 (by decide) ?_
      refine lv_iadd hx hb dL_law_736 ?_
      obtain ⟨g174, hf⟩ := gd_s hf
      refine va_sld hx hb hXs hbl hbA Z.2 (in_of g174) dL_law_737 ?_
      obtain ⟨r177, s176, h175, hf⟩ := bi_s hf
      refine goI Z (run_V (As := [.int ((xs ((x4 + (1 : Int32))).toNatClampNeg)), .int ((xs ((x4 + (2 : Int32))).toNatClampNeg))]) (rest := []) X Z (c_X11_damage l D h cy ((xs ((x4 + (1 : Int32))).toNatClampNeg)) ((xs ((x4 + (2 : Int32))).toNatClampNeg)) σ (r177, s176) h175 _) lk_RL_87 ⟨by decide, by decide⟩ rv_0 rfl hl.1 rfl (Nat.le_of_ble_eq_true rfl) ⟨by show _ ≤ 601024; omega, by show _ ≤ 7293034; omega⟩ dL_law_738) (fun H locs Z => ?_)
      refine lv_aload_n hx hb dL_law_741 rfl (lv_at hl 2 rfl) ?_
      refine lv_aload_n hx hb dL_law_742 rfl (lv_at hl 0 rfl) ?_
      refine lv_iload hx hb dL_law_743 (lv_at hl 4 rfl) ?_
      refine lv_iconst (v := 1) hx hb dL_law_745 (by decide) ?_
      refine lv_iadd hx hb dL_law_746 ?_
      obtain ⟨g178, hf⟩ := gd_s hf
      refine va_sld hx hb hXs hbl hbA Z.2 (in_of g178) dL_law_747 ?_
      refine lv_aload_n hx hb dL_law_748 rfl (lv_at hl 0 rfl) ?_
      refine lv_iload hx hb dL_law_749 (lv_at hl 4 rfl) ?_
      refine lv_iconst (v := 2) hx hb dL_law_751 (by decide) ?_
      refine lv_iadd hx hb dL_law_752 ?_
      obtain ⟨g179, hf⟩ := gd_s hf
      refine va_sld hx hb hXs hbl hbA Z.2 (in_of g179) dL_law_753 ?_
      obtain ⟨r182, s181, h180, hf⟩ := bi_s hf
      refine goI Z (run_V (As := [.int ((xs ((x4 + (1 : Int32))).toNatClampNeg)), .int ((xs ((x4 + (2 : Int32))).toNatClampNeg))]) (rest := [.int r177]) X Z (c_X12_damage l D h cy ((xs ((x4 + (1 : Int32))).toNatClampNeg)) ((xs ((x4 + (2 : Int32))).toNatClampNeg)) s176 (r182, s181) h180 _) lk_RL_90 ⟨by decide, by decide⟩ rv_68 rfl hl.1 rfl (Nat.le_of_ble_eq_true rfl) ⟨by show _ ≤ 601024; omega, by show _ ≤ 7293034; omega⟩ dL_law_754) (fun H locs Z => ?_)
      refine lv_icmp_eq (tgt := 1047) hx hb dL_law_757 (by decide) (fun c183 => ?_) (fun c183 => ?_)
      · have hf := itp c183 hf
        exact b_L_law_1047 htr hL X hr hk S Hge hXs hbl K23 hK23 x4 s181 _ hf hy w _ _ hw (by omega) (by omega) (by omega) _ _ _ Z (lv_sub hl [0, 1, 2, 3, 4] rfl)
      · have hf := itn c183 hf
        refine lv_iconst (v := 0) hx hb dL_law_760 (by decide) ?_
        exact absurd (congrArg Prod.fst (Option.some.inj hf)).symm (by rw [hy]; exact (by decide : ¬ (1 : Int32) = 0))
    have hf := itn c172 hf
    refine Or.elim (Decidable.em (((xs x4.toNatClampNeg) &&& (31 : Int32)) = 14)) (fun c184 => ?_) (fun c184 => ?_)
    · have hf := itp c184 hf
      refine lv_tableIn (off := 722) (tgt := 762) hx hb dL_law_40 (by rw [c184]; decide) (by rw [c184]; decide) (by rw [c184]; rfl) (by decide) ?_
      refine lv_aload_n hx hb dL_law_762 rfl (lv_at hl 1 rfl) ?_
      refine lv_aload_n hx hb dL_law_763 rfl (lv_at hl 0 rfl) ?_
      refine lv_iload hx hb dL_law_764 (lv_at hl 4 rfl) ?_
      refine lv_iconst (v := 1) hx hb dL_law_766 (by decide) ?_
      refine lv_iadd hx hb dL_law_767 ?_
      obtain ⟨g185, hf⟩ := gd_s hf
      refine va_sld hx hb hXs hbl hbA Z.2 (in_of g185) dL_law_768 ?_
      obtain ⟨r188, s187, h186, hf⟩ := bi_s hf
      refine goI Z (run_V (As := [.int ((xs ((x4 + (1 : Int32))).toNatClampNeg))]) (rest := []) X Z (c_X11_cut l D h cy ((xs ((x4 + (1 : Int32))).toNatClampNeg)) σ (r188, s187) h186 _) lk_RL_91 ⟨by decide, by decide⟩ rv_0 rfl hl.1 rfl (Nat.le_of_ble_eq_true rfl) ⟨by show _ ≤ 601024; omega, by show _ ≤ 7293034; omega⟩ dL_law_769) (fun H locs Z => ?_)
      refine lv_aload_n hx hb dL_law_772 rfl (lv_at hl 2 rfl) ?_
      refine lv_aload_n hx hb dL_law_773 rfl (lv_at hl 0 rfl) ?_
      refine lv_iload hx hb dL_law_774 (lv_at hl 4 rfl) ?_
      refine lv_iconst (v := 1) hx hb dL_law_776 (by decide) ?_
      refine lv_iadd hx hb dL_law_777 ?_
      obtain ⟨g189, hf⟩ := gd_s hf
      refine va_sld hx hb hXs hbl hbA Z.2 (in_of g189) dL_law_778 ?_
      obtain ⟨r192, s191, h190, hf⟩ := bi_s hf
      refine goI Z (run_V (As := [.int ((xs ((x4 + (1 : Int32))).toNatClampNeg))]) (rest := [.int r188]) X Z (c_X12_cut l D h cy ((xs ((x4 + (1 : Int32))).toNatClampNeg)) s187 (r192, s191) h190 _) lk_RL_94 ⟨by decide, by decide⟩ rv_68 rfl hl.1 rfl (Nat.le_of_ble_eq_true rfl) ⟨by show _ ≤ 601024; omega, by show _ ≤ 7293034; omega⟩ dL_law_779) (fun H locs Z => ?_)
      refine lv_icmp_eq (tgt := 1047) hx hb dL_law_782 (by decide) (fun c193 => ?_) (fun c193 => ?_)
      · have hf := itp c193 hf
        exact b_L_law_1047 htr hL X hr hk S Hge hXs hbl K23 hK23 x4 s191 _ hf hy w _ _ hw (by omega) (by omega) (by omega) _ _ _ Z (lv_sub hl [0, 1, 2, 3, 4] rfl)
      · have hf := itn c193 hf
        refine lv_iconst (v := 0) hx hb dL_law_785 (by decide) ?_
        exact absurd (congrArg Prod.fst (Option.some.inj hf)).symm (by rw [hy]; exact (by decide : ¬ (1 : Int32) = 0))
    have hf := itn c184 hf
    refine Or.elim (Decidable.em (((xs x4.toNatClampNeg) &&& (31 : Int32)) = 15)) (fun c194 => ?_) (fun c194 => ?_)
    · have hf := itp c194 hf
      refine lv_tableIn (off := 747) (tgt := 787) hx hb dL_law_40 (by rw [c194]; decide) (by rw [c194]; decide) (by rw [c194]; rfl) (by decide) ?_
      refine lv_aload_n hx hb dL_law_787 rfl (lv_at hl 1 rfl) ?_
      refine lv_aload_n hx hb dL_law_788 rfl (lv_at hl 0 rfl) ?_
      refine lv_iload hx hb dL_law_789 (lv_at hl 4 rfl) ?_
      refine lv_iconst (v := 1) hx hb dL_law_791 (by decide) ?_
      refine lv_iadd hx hb dL_law_792 ?_
      obtain ⟨g195, hf⟩ := gd_s hf
      refine va_sld hx hb hXs hbl hbA Z.2 (in_of g195) dL_law_793 ?_
      refine lv_aload_n hx hb dL_law_794 rfl (lv_at hl 0 rfl) ?_
      refine lv_iload hx hb dL_law_795 (lv_at hl 4 rfl) ?_
      refine lv_iconst (v := 2) hx hb dL_law_797 (by decide) ?_
      refine lv_iadd hx hb dL_law_798 ?_
      obtain ⟨g196, hf⟩ := gd_s hf
      refine va_sld hx hb hXs hbl hbA Z.2 (in_of g196) dL_law_799 ?_
      obtain ⟨r199, s198, h197, hf⟩ := bi_s hf
      refine goI Z (run_V (As := [.int ((xs ((x4 + (1 : Int32))).toNatClampNeg)), .int ((xs ((x4 + (2 : Int32))).toNatClampNeg))]) (rest := []) X Z (c_X11_export l D h cy ((xs ((x4 + (1 : Int32))).toNatClampNeg)) ((xs ((x4 + (2 : Int32))).toNatClampNeg)) σ (r199, s198) h197 _) lk_RL_95 ⟨by decide, by decide⟩ rv_0 rfl hl.1 rfl (Nat.le_of_ble_eq_true rfl) ⟨by show _ ≤ 601024; omega, by show _ ≤ 7293034; omega⟩ dL_law_800) (fun H locs Z => ?_)
      refine lv_aload_n hx hb dL_law_803 rfl (lv_at hl 2 rfl) ?_
      refine lv_aload_n hx hb dL_law_804 rfl (lv_at hl 0 rfl) ?_
      refine lv_iload hx hb dL_law_805 (lv_at hl 4 rfl) ?_
      refine lv_iconst (v := 1) hx hb dL_law_807 (by decide) ?_
      refine lv_iadd hx hb dL_law_808 ?_
      obtain ⟨g200, hf⟩ := gd_s hf
      refine va_sld hx hb hXs hbl hbA Z.2 (in_of g200) dL_law_809 ?_
      refine lv_aload_n hx hb dL_law_810 rfl (lv_at hl 0 rfl) ?_
      refine lv_iload hx hb dL_law_811 (lv_at hl 4 rfl) ?_
      refine lv_iconst (v := 2) hx hb dL_law_813 (by decide) ?_
      refine lv_iadd hx hb dL_law_814 ?_
      obtain ⟨g201, hf⟩ := gd_s hf
      refine va_sld hx hb hXs hbl hbA Z.2 (in_of g201) dL_law_815 ?_
      obtain ⟨r204, s203, h202, hf⟩ := bi_s hf
      refine goI Z (run_V (As := [.int ((xs ((x4 + (1 : Int32))).toNatClampNeg)), .int ((xs ((x4 + (2 : Int32))).toNatClampNeg))]) (rest := [.int r199]) X Z (c_X12_export l D h cy ((xs ((x4 + (1 : Int32))).toNatClampNeg)) ((xs ((x4 + (2 : Int32))).toNatClampNeg)) s198 (r204, s203) h202 _) lk_RL_98 ⟨by decide, by decide⟩ rv_68 rfl hl.1 rfl (Nat.le_of_ble_eq_true rfl) ⟨by show _ ≤ 601024; omega, by show _ ≤ 7293034; omega⟩ dL_law_816) (fun H locs Z => ?_)
      refine lv_icmp_eq (tgt := 1047) hx hb dL_law_819 (by decide) (fun c205 => ?_) (fun c205 => ?_)
      · have hf := itp c205 hf
        exact b_L_law_1047 htr hL X hr hk S Hge hXs hbl K23 hK23 x4 s203 _ hf hy w _ _ hw (by omega) (by omega) (by omega) _ _ _ Z (lv_sub hl [0, 1, 2, 3, 4] rfl)
      · have hf := itn c205 hf
        refine lv_iconst (v := 0) hx hb dL_law_822 (by decide) ?_
        exact absurd (congrArg Prod.fst (Option.some.inj hf)).symm (by rw [hy]; exact (by decide : ¬ (1 : Int32) = 0))
    have hf := itn c194 hf
    refine Or.elim (Decidable.em (((xs x4.toNatClampNeg) &&& (31 : Int32)) = 16)) (fun c206 => ?_) (fun c206 => ?_)
    · have hf := itp c206 hf
      refine lv_tableIn (off := 784) (tgt := 824) hx hb dL_law_40 (by rw [c206]; decide) (by rw [c206]; decide) (by rw [c206]; rfl) (by decide) ?_
      refine lv_aload_n hx hb dL_law_824 rfl (lv_at hl 1 rfl) ?_
      refine lv_aload_n hx hb dL_law_825 rfl (lv_at hl 0 rfl) ?_
      refine lv_iload hx hb dL_law_826 (lv_at hl 4 rfl) ?_
      refine lv_iconst (v := 1) hx hb dL_law_828 (by decide) ?_
      refine lv_iadd hx hb dL_law_829 ?_
      obtain ⟨g207, hf⟩ := gd_s hf
      refine va_sld hx hb hXs hbl hbA Z.2 (in_of g207) dL_law_830 ?_
      obtain ⟨r210, s209, h208, hf⟩ := bi_s hf
      refine goI Z (run_V (As := [.int ((xs ((x4 + (1 : Int32))).toNatClampNeg))]) (rest := []) X Z (c_X11_load l D h cy ((xs ((x4 + (1 : Int32))).toNatClampNeg)) σ (r210, s209) h208 _) lk_RL_99 ⟨by decide, by decide⟩ rv_0 rfl hl.1 rfl (Nat.le_of_ble_eq_true rfl) ⟨by show _ ≤ 601024; omega, by show _ ≤ 7293034; omega⟩ dL_law_831) (fun H locs Z => ?_)
      refine lv_aload_n hx hb dL_law_834 rfl (lv_at hl 2 rfl) ?_
      refine lv_aload_n hx hb dL_law_835 rfl (lv_at hl 0 rfl) ?_
      refine lv_iload hx hb dL_law_836 (lv_at hl 4 rfl) ?_
      refine lv_iconst (v := 1) hx hb dL_law_838 (by decide) ?_
      refine lv_iadd hx hb dL_law_839 ?_
      obtain ⟨g211, hf⟩ := gd_s hf
      refine va_sld hx hb hXs hbl hbA Z.2 (in_of g211) dL_law_840 ?_
      obtain ⟨r214, s213, h212, hf⟩ := bi_s hf
      refine goI Z (run_V (As := [.int ((xs ((x4 + (1 : Int32))).toNatClampNeg))]) (rest := [.int r210]) X Z (c_X12_load l D h cy ((xs ((x4 + (1 : Int32))).toNatClampNeg)) s209 (r214, s213) h212 _) lk_RL_102 ⟨by decide, by decide⟩ rv_68 rfl hl.1 rfl (Nat.le_of_ble_eq_true rfl) ⟨by show _ ≤ 601024; omega, by show _ ≤ 7293034; omega⟩ dL_law_841) (fun H locs Z => ?_)
      refine lv_icmp_eq (tgt := 1047) hx hb dL_law_844 (by decide) (fun c215 => ?_) (fun c215 => ?_)
      · have hf := itp c215 hf
        exact b_L_law_1047 htr hL X hr hk S Hge hXs hbl K23 hK23 x4 s213 _ hf hy w _ _ hw (by omega) (by omega) (by omega) _ _ _ Z (lv_sub hl [0, 1, 2, 3, 4] rfl)
      · have hf := itn c215 hf
        refine lv_iconst (v := 0) hx hb dL_law_847 (by decide) ?_
        exact absurd (congrArg Prod.fst (Option.some.inj hf)).symm (by rw [hy]; exact (by decide : ¬ (1 : Int32) = 0))
    have hf := itn c206 hf
    refine Or.elim (Decidable.em (((xs x4.toNatClampNeg) &&& (31 : Int32)) = 17)) (fun c216 => ?_) (fun c216 => ?_)
    · have hf := itp c216 hf
      refine lv_tableIn (off := 809) (tgt := 849) hx hb dL_law_40 (by rw [c216]; decide) (by rw [c216]; decide) (by rw [c216]; rfl) (by decide) ?_
      refine lv_aload_n hx hb dL_law_849 rfl (lv_at hl 1 rfl) ?_
      obtain ⟨r219, s218, h217, hf⟩ := bi_s hf
      refine goI Z (run_V (As := []) (rest := []) X Z (c_X11_place l D h cy σ (r219, s218) h217 _) lk_RL_103 ⟨by decide, by decide⟩ rv_0 rfl hl.1 rfl (Nat.le_of_ble_eq_true rfl) ⟨by show _ ≤ 601024; omega, by show _ ≤ 7293034; omega⟩ dL_law_850) (fun H locs Z => ?_)
      refine lv_aload_n hx hb dL_law_853 rfl (lv_at hl 2 rfl) ?_
      obtain ⟨r222, s221, h220, hf⟩ := bi_s hf
      refine goI Z (run_V (As := []) (rest := [.int r219]) X Z (c_X12_place l D h cy s218 (r222, s221) h220 _) lk_RL_106 ⟨by decide, by decide⟩ rv_68 rfl hl.1 rfl (Nat.le_of_ble_eq_true rfl) ⟨by show _ ≤ 601024; omega, by show _ ≤ 7293034; omega⟩ dL_law_854) (fun H locs Z => ?_)
      refine lv_icmp_eq (tgt := 1047) hx hb dL_law_857 (by decide) (fun c223 => ?_) (fun c223 => ?_)
      · have hf := itp c223 hf
        exact b_L_law_1047 htr hL X hr hk S Hge hXs hbl K23 hK23 x4 s221 _ hf hy w _ _ hw (by omega) (by omega) (by omega) _ _ _ Z (lv_sub hl [0, 1, 2, 3, 4] rfl)
      · have hf := itn c223 hf
        refine lv_iconst (v := 0) hx hb dL_law_860 (by decide) ?_
        exact absurd (congrArg Prod.fst (Option.some.inj hf)).symm (by rw [hy]; exact (by decide : ¬ (1 : Int32) = 0))
    have hf := itn c216 hf
    refine Or.elim (Decidable.em (((xs x4.toNatClampNeg) &&& (31 : Int32)) = 18)) (fun c224 => ?_) (fun c224 => ?_)
    · have hf := itp c224 hf
      refine lv_tableIn (off := 822) (tgt := 862) hx hb dL_law_40 (by rw [c224]; decide) (by rw [c224]; decide) (by rw [c224]; rfl) (by decide) ?_
      refine lv_aload_n hx hb dL_law_862 rfl (lv_at hl 1 rfl) ?_
      refine lv_aload_n hx hb dL_law_863 rfl (lv_at hl 0 rfl) ?_
      refine lv_iload hx hb dL_law_864 (lv_at hl 4 rfl) ?_
      refine lv_iconst (v := 1) hx hb dL_law_866 (by decide) ?_
      refine lv_iadd hx hb dL_law_867 ?_
      obtain ⟨g225, hf⟩ := gd_s hf
      refine va_sld hx hb hXs hbl hbA Z.2 (in_of g225) dL_law_868 ?_
      obtain ⟨r228, s227, h226, hf⟩ := bi_s hf
      refine goI Z (run_V (As := [.int ((xs ((x4 + (1 : Int32))).toNatClampNeg))]) (rest := []) X Z (c_X11_memory l D h cy ((xs ((x4 + (1 : Int32))).toNatClampNeg)) σ (r228, s227) h226 _) lk_RL_107 ⟨by decide, by decide⟩ rv_0 rfl hl.1 rfl (Nat.le_of_ble_eq_true rfl) ⟨by show _ ≤ 601024; omega, by show _ ≤ 7293034; omega⟩ dL_law_869) (fun H locs Z => ?_)
      refine lv_aload_n hx hb dL_law_872 rfl (lv_at hl 2 rfl) ?_
      refine lv_aload_n hx hb dL_law_873 rfl (lv_at hl 0 rfl) ?_
      refine lv_iload hx hb dL_law_874 (lv_at hl 4 rfl) ?_
      refine lv_iconst (v := 1) hx hb dL_law_876 (by decide) ?_
      refine lv_iadd hx hb dL_law_877 ?_
      obtain ⟨g229, hf⟩ := gd_s hf
      refine va_sld hx hb hXs hbl hbA Z.2 (in_of g229) dL_law_878 ?_
      obtain ⟨r232, s231, h230, hf⟩ := bi_s hf
      refine goI Z (run_V (As := [.int ((xs ((x4 + (1 : Int32))).toNatClampNeg))]) (rest := [.int r228]) X Z (c_X12_memory l D h cy ((xs ((x4 + (1 : Int32))).toNatClampNeg)) s227 (r232, s231) h230 _) lk_RL_110 ⟨by decide, by decide⟩ rv_68 rfl hl.1 rfl (Nat.le_of_ble_eq_true rfl) ⟨by show _ ≤ 601024; omega, by show _ ≤ 7293034; omega⟩ dL_law_879) (fun H locs Z => ?_)
      refine lv_icmp_eq (tgt := 1047) hx hb dL_law_882 (by decide) (fun c233 => ?_) (fun c233 => ?_)
      · have hf := itp c233 hf
        exact b_L_law_1047 htr hL X hr hk S Hge hXs hbl K23 hK23 x4 s231 _ hf hy w _ _ hw (by omega) (by omega) (by omega) _ _ _ Z (lv_sub hl [0, 1, 2, 3, 4] rfl)
      · have hf := itn c233 hf
        refine lv_iconst (v := 0) hx hb dL_law_885 (by decide) ?_
        exact absurd (congrArg Prod.fst (Option.some.inj hf)).symm (by rw [hy]; exact (by decide : ¬ (1 : Int32) = 0))
    have hf := itn c224 hf
    refine Or.elim (Decidable.em (((xs x4.toNatClampNeg) &&& (31 : Int32)) = 19)) (fun c234 => ?_) (fun c234 => ?_)
    · have hf := itp c234 hf
      refine lv_tableIn (off := 847) (tgt := 887) hx hb dL_law_40 (by rw [c234]; decide) (by rw [c234]; decide) (by rw [c234]; rfl) (by decide) ?_
      refine lv_aload_n hx hb dL_law_887 rfl (lv_at hl 1 rfl) ?_
      refine lv_aload_n hx hb dL_law_888 rfl (lv_at hl 0 rfl) ?_
      refine lv_iload hx hb dL_law_889 (lv_at hl 4 rfl) ?_
      refine lv_iconst (v := 1) hx hb dL_law_891 (by decide) ?_
      refine lv_iadd hx hb dL_law_892 ?_
      obtain ⟨g235, hf⟩ := gd_s hf
      refine va_sld hx hb hXs hbl hbA Z.2 (in_of g235) dL_law_893 ?_
      refine lv_aload_n hx hb dL_law_894 rfl (lv_at hl 3 rfl) ?_
      obtain ⟨r238, s237, h236, hf⟩ := bi_s hf
      refine goW Z (run_W (As := [.ref (h 0), .int ((xs ((x4 + (1 : Int32))).toNatClampNeg)), .ref (h 110)]) (rest := []) X Z S (c_L_pointer l htr D h cy ((xs ((x4 + (1 : Int32))).toNatClampNeg)) σ (r238, s237) h236 _) lkw_L_pointer ⟨by decide, by decide⟩ rfl hl.1 rfl (Nat.le_of_ble_eq_true rfl) ⟨by show _ ≤ 601024; omega, by show _ ≤ 7293034; omega⟩ dL_law_895) (fun H locs Z => ?_)
      refine lv_istore (lv' := [(5, .int r238), (0, .ref b), (1, .ref (h 0)), (2, .ref (h 68)), (3, .ref (h 110)), (4, .int x4)]) hx hb dL_law_898 hl (by decide) rfl (fun ls hl => ?_)
      refine lv_aload_n hx hb dL_law_900 rfl (lv_at hl 3 rfl) ?_
      refine lv_aload_n hx hb dL_law_901 rfl (lv_at hl 1 rfl) ?_
      refine lv_iload hx hb dL_law_902 (lv_at hl 5 rfl) ?_
      refine lv_iconst (v := 1) hx hb dL_law_904 (by decide) ?_
      refine lv_iadd hx hb dL_law_905 ?_
      obtain ⟨g239, hf⟩ := gd_s hf
      refine va_sld hx hb hXs hbl hbA Z.2 (in_of g239) dL_law_906 ?_
      obtain ⟨r242, s241, h240, hf⟩ := bi_s hf
      refine goL Z (run_V (As := [.int ((xs ((x4 + (1 : Int32))).toNatClampNeg))]) (rest := []) X Z (c_X12_pointer l D h cy ((xs ((x4 + (1 : Int32))).toNatClampNeg)) s237 (r242, s241) h240 _) lk_RL_116 ⟨by decide, by decide⟩ rv_68 rfl hl.1 rfl (Nat.le_of_ble_eq_true rfl) ⟨by show _ ≤ 601024; omega, by show _ ≤ 7293034; omega⟩ dL_law_907) (fun H locs Z => ?_)
      refine lv_lstore (lv' := [(6, .long r242), (5, .int r238), (0, .ref b), (1, .ref (h 0)), (2, .ref (h 68)), (3, .ref (h 110)), (4, .int x4)]) hx hb dL_law_910 hl (by decide) rfl (fun ls hl => ?_)
      refine lv_aload_n hx hb dL_law_912 rfl (lv_at hl 4 rfl) ?_
      obtain ⟨r245, s244, h243, hf⟩ := bi_s hf
      refine goI Z (run_V (As := []) (rest := []) X Z (c_X12_thrown l D h cy s241 (r245, s244) h243 _) lk_RL_117 ⟨by decide, by decide⟩ rv_68 rfl hl.1 rfl (Nat.le_of_ble_eq_true rfl) ⟨by show _ ≤ 601024; omega, by show _ ≤ 7293034; omega⟩ dL_law_913) (fun H locs Z => ?_)
      refine lv_iload hx hb dL_law_916 (lv_at hl 1 rfl) ?_
      refine lv_icmp_eq (tgt := 923) hx hb dL_law_918 (by decide) (fun c246 => ?_) (fun c246 => ?_)
      · have hf := itp c246 hf
        refine lv_iload hx hb dL_law_923 (lv_at hl 1 rfl) ?_
        refine lv_if_ne (tgt := 939) hx hb dL_law_925 (by decide) (fun c247 => ?_) (fun c247 => ?_)
        · have hf := itn c247 hf
          exact b_L_law_939 htr hL X hr hk S Hge hXs hbl K23 hK23 x4 s244 _ hf hy w _ _ hw (by omega) (by omega) (by omega) _ _ _ Z (lv_sub hl [2, 3, 4, 5, 6] rfl)
        · have hf := itp c247 hf
          refine lv_aload_n hx hb dL_law_928 rfl (lv_at hl 5 rfl) ?_
          refine lv_iconst (v := 0) hx hb dL_law_929 (by decide) ?_
          obtain ⟨g248, hf⟩ := gd_s hf
          refine x_lald (k := 110) X Z sh_110 g248 dL_law_930 ?_
          refine lv_lload hx hb dL_law_931 (lv_at hl 0 rfl) ?_
          refine x_lif_eq (tgt := 939) X dL_law_933 dL_law_934 (by decide) (fun c249 => ?_) (fun c249 => ?_)
          · have hf := itp c249 hf
            exact b_L_law_939 htr hL X hr hk S Hge hXs hbl K23 hK23 x4 s244 _ hf hy w _ _ hw (by omega) (by omega) (by omega) _ _ _ Z (lv_sub hl [2, 3, 4, 5, 6] rfl)
          · have hf := itn c249 hf
            refine lv_iconst (v := 0) hx hb dL_law_937 (by decide) ?_
            exact absurd (congrArg Prod.fst (Option.some.inj hf)).symm (by rw [hy]; exact (by decide : ¬ (1 : Int32) = 0))
      · have hf := itn c246 hf
        refine lv_iconst (v := 0) hx hb dL_law_921 (by decide) ?_
        exact absurd (congrArg Prod.fst (Option.some.inj hf)).symm (by rw [hy]; exact (by decide : ¬ (1 : Int32) = 0))
    have hf := itn c234 hf
    refine Or.elim (Decidable.em (((xs x4.toNatClampNeg) &&& (31 : Int32)) = 20)) (fun c250 => ?_) (fun c250 => ?_)
    · have hf := itp c250 hf
      refine lv_tableIn (off := 902) (tgt := 942) hx hb dL_law_40 (by rw [c250]; decide) (by rw [c250]; decide) (by rw [c250]; rfl) (by decide) ?_
      refine lv_aload_n hx hb dL_law_942 rfl (lv_at hl 1 rfl) ?_
      refine lv_aload_n hx hb dL_law_943 rfl (lv_at hl 0 rfl) ?_
      refine lv_iload hx hb dL_law_944 (lv_at hl 4 rfl) ?_
      refine lv_iconst (v := 1) hx hb dL_law_946 (by decide) ?_
      refine lv_iadd hx hb dL_law_947 ?_
      obtain ⟨g251, hf⟩ := gd_s hf
      refine va_sld hx hb hXs hbl hbA Z.2 (in_of g251) dL_law_948 ?_
      refine lv_aload_n hx hb dL_law_949 rfl (lv_at hl 0 rfl) ?_
      refine lv_iload hx hb dL_law_950 (lv_at hl 4 rfl) ?_
      refine lv_iconst (v := 2) hx hb dL_law_952 (by decide) ?_
      refine lv_iadd hx hb dL_law_953 ?_
      obtain ⟨g252, hf⟩ := gd_s hf
      refine va_sld hx hb hXs hbl hbA Z.2 (in_of g252) dL_law_954 ?_
      refine lv_aload_n hx hb dL_law_955 rfl (lv_at hl 3 rfl) ?_
      obtain ⟨r255, s254, h253, hf⟩ := bi_s hf
      refine goW Z (run_W (As := [.ref (h 0), .int ((xs ((x4 + (1 : Int32))).toNatClampNeg)), .int ((xs ((x4 + (2 : Int32))).toNatClampNeg)), .ref (h 110)]) (rest := []) X Z S (c_L_visit l htr D h cy ((xs ((x4 + (1 : Int32))).toNatClampNeg)) ((xs ((x4 + (2 : Int32))).toNatClampNeg)) σ (r255, s254) h253 _) lkw_L_visit ⟨by decide, by decide⟩ rfl hl.1 rfl (Nat.le_of_ble_eq_true rfl) ⟨by show _ ≤ 601024; omega, by show _ ≤ 7293034; omega⟩ dL_law_956) (fun H locs Z => ?_)
      refine lv_istore (lv' := [(5, .int r255), (0, .ref b), (1, .ref (h 0)), (2, .ref (h 68)), (3, .ref (h 110)), (4, .int x4)]) hx hb dL_law_959 hl (by decide) rfl (fun ls hl => ?_)
      refine lv_aload_n hx hb dL_law_961 rfl (lv_at hl 3 rfl) ?_
      refine lv_aload_n hx hb dL_law_962 rfl (lv_at hl 1 rfl) ?_
      refine lv_iload hx hb dL_law_963 (lv_at hl 5 rfl) ?_
      refine lv_iconst (v := 1) hx hb dL_law_965 (by decide) ?_
      refine lv_iadd hx hb dL_law_966 ?_
      obtain ⟨g256, hf⟩ := gd_s hf
      refine va_sld hx hb hXs hbl hbA Z.2 (in_of g256) dL_law_967 ?_
      refine lv_aload_n hx hb dL_law_968 rfl (lv_at hl 1 rfl) ?_
      refine lv_iload hx hb dL_law_969 (lv_at hl 5 rfl) ?_
      refine lv_iconst (v := 2) hx hb dL_law_971 (by decide) ?_
      refine lv_iadd hx hb dL_law_972 ?_
      obtain ⟨g257, hf⟩ := gd_s hf
      refine va_sld hx hb hXs hbl hbA Z.2 (in_of g257) dL_law_973 ?_
      obtain ⟨r260, s259, h258, hf⟩ := bi_s hf
      refine goL Z (run_V (As := [.int ((xs ((x4 + (1 : Int32))).toNatClampNeg)), .int ((xs ((x4 + (2 : Int32))).toNatClampNeg))]) (rest := []) X Z (c_X12_visit l D h cy ((xs ((x4 + (1 : Int32))).toNatClampNeg)) ((xs ((x4 + (2 : Int32))).toNatClampNeg)) s254 (r260, s259) h258 _) lk_RL_123 ⟨by decide, by decide⟩ rv_68 rfl hl.1 rfl (Nat.le_of_ble_eq_true rfl) ⟨by show _ ≤ 601024; omega, by show _ ≤ 7293034; omega⟩ dL_law_974) (fun H locs Z => ?_)
      refine lv_lstore (lv' := [(6, .long r260), (5, .int r255), (0, .ref b), (1, .ref (h 0)), (2, .ref (h 68)), (3, .ref (h 110)), (4, .int x4)]) hx hb dL_law_977 hl (by decide) rfl (fun ls hl => ?_)
      refine lv_aload_n hx hb dL_law_979 rfl (lv_at hl 4 rfl) ?_
      obtain ⟨r263, s262, h261, hf⟩ := bi_s hf
      refine goI Z (run_V (As := []) (rest := []) X Z (c_X12_thrown l D h cy s259 (r263, s262) h261 _) lk_RL_117 ⟨by decide, by decide⟩ rv_68 rfl hl.1 rfl (Nat.le_of_ble_eq_true rfl) ⟨by show _ ≤ 601024; omega, by show _ ≤ 7293034; omega⟩ dL_law_980) (fun H locs Z => ?_)
      refine lv_iload hx hb dL_law_983 (lv_at hl 1 rfl) ?_
      refine lv_icmp_eq (tgt := 990) hx hb dL_law_985 (by decide) (fun c264 => ?_) (fun c264 => ?_)
      · have hf := itp c264 hf
        refine lv_iload hx hb dL_law_990 (lv_at hl 1 rfl) ?_
        refine lv_if_ne (tgt := 1006) hx hb dL_law_992 (by decide) (fun c265 => ?_) (fun c265 => ?_)
        · have hf := itn c265 hf
          exact b_L_law_1006 htr hL X hr hk S Hge hXs hbl K23 hK23 x4 s262 _ hf hy w _ _ hw (by omega) (by omega) (by omega) _ _ _ Z (lv_sub hl [2, 3, 4, 5, 6] rfl)
        · have hf := itp c265 hf
          refine lv_aload_n hx hb dL_law_995 rfl (lv_at hl 5 rfl) ?_
          refine lv_iconst (v := 0) hx hb dL_law_996 (by decide) ?_
          obtain ⟨g266, hf⟩ := gd_s hf
          refine x_lald (k := 110) X Z sh_110 g266 dL_law_997 ?_
          refine lv_lload hx hb dL_law_998 (lv_at hl 0 rfl) ?_
          refine x_lif_eq (tgt := 1006) X dL_law_1000 dL_law_1001 (by decide) (fun c267 => ?_) (fun c267 => ?_)
          · have hf := itp c267 hf
            exact b_L_law_1006 htr hL X hr hk S Hge hXs hbl K23 hK23 x4 s262 _ hf hy w _ _ hw (by omega) (by omega) (by omega) _ _ _ Z (lv_sub hl [2, 3, 4, 5, 6] rfl)
          · have hf := itn c267 hf
            refine lv_iconst (v := 0) hx hb dL_law_1004 (by decide) ?_
            exact absurd (congrArg Prod.fst (Option.some.inj hf)).symm (by rw [hy]; exact (by decide : ¬ (1 : Int32) = 0))
      · have hf := itn c264 hf
        refine lv_iconst (v := 0) hx hb dL_law_988 (by decide) ?_
        exact absurd (congrArg Prod.fst (Option.some.inj hf)).symm (by rw [hy]; exact (by decide : ¬ (1 : Int32) = 0))
    have hf := itn c250 hf
    refine Or.elim (Decidable.em (((xs x4.toNatClampNeg) &&& (31 : Int32)) = 21)) (fun c268 => ?_) (fun c268 => ?_)
    · have hf := itp c268 hf
      refine lv_tableIn (off := 969) (tgt := 1009) hx hb dL_law_40 (by rw [c268]; decide) (by rw [c268]; decide) (by rw [c268]; rfl) (by decide) ?_
      refine lv_aload_n hx hb dL_law_1009 rfl (lv_at hl 1 rfl) ?_
      obtain ⟨r271, s270, h269, hf⟩ := bi_s hf
      refine goI Z (run_V (As := []) (rest := []) X Z (c_X11_find l D h cy σ (r271, s270) h269 _) lk_RL_124 ⟨by decide, by decide⟩ rv_0 rfl hl.1 rfl (Nat.le_of_ble_eq_true rfl) ⟨by show _ ≤ 601024; omega, by show _ ≤ 7293034; omega⟩ dL_law_1010) (fun H locs Z => ?_)
      refine lv_aload_n hx hb dL_law_1013 rfl (lv_at hl 2 rfl) ?_
      obtain ⟨r274, s273, h272, hf⟩ := bi_s hf
      refine goI Z (run_V (As := []) (rest := [.int r271]) X Z (c_X12_find l D h cy s270 (r274, s273) h272 _) lk_RL_127 ⟨by decide, by decide⟩ rv_68 rfl hl.1 rfl (Nat.le_of_ble_eq_true rfl) ⟨by show _ ≤ 601024; omega, by show _ ≤ 7293034; omega⟩ dL_law_1014) (fun H locs Z => ?_)
      refine lv_icmp_eq (tgt := 1047) hx hb dL_law_1017 (by decide) (fun c275 => ?_) (fun c275 => ?_)
      · have hf := itp c275 hf
        exact b_L_law_1047 htr hL X hr hk S Hge hXs hbl K23 hK23 x4 s273 _ hf hy w _ _ hw (by omega) (by omega) (by omega) _ _ _ Z (lv_sub hl [0, 1, 2, 3, 4] rfl)
      · have hf := itn c275 hf
        refine lv_iconst (v := 0) hx hb dL_law_1020 (by decide) ?_
        exact absurd (congrArg Prod.fst (Option.some.inj hf)).symm (by rw [hy]; exact (by decide : ¬ (1 : Int32) = 0))
    have hf := itn c268 hf
    refine Or.elim (Decidable.em (((xs x4.toNatClampNeg) &&& (31 : Int32)) = 22)) (fun c276 => ?_) (fun c276 => ?_)
    · have hf := itp c276 hf
      refine lv_tableIn (off := 982) (tgt := 1022) hx hb dL_law_40 (by rw [c276]; decide) (by rw [c276]; decide) (by rw [c276]; rfl) (by decide) ?_
      refine lv_aload_n hx hb dL_law_1022 rfl (lv_at hl 1 rfl) ?_
      refine lv_aload_n hx hb dL_law_1023 rfl (lv_at hl 0 rfl) ?_
      refine lv_iload hx hb dL_law_1024 (lv_at hl 4 rfl) ?_
      refine lv_iconst (v := 1) hx hb dL_law_1026 (by decide) ?_
      refine lv_iadd hx hb dL_law_1027 ?_
      obtain ⟨g277, hf⟩ := gd_s hf
      refine va_sld hx hb hXs hbl hbA Z.2 (in_of g277) dL_law_1028 ?_
      obtain ⟨r280, s279, h278, hf⟩ := bi_s hf
      refine goI Z (run_V (As := [.int ((xs ((x4 + (1 : Int32))).toNatClampNeg))]) (rest := []) X Z (c_X11_count l D h cy ((xs ((x4 + (1 : Int32))).toNatClampNeg)) σ (r280, s279) h278 _) lk_RL_128 ⟨by decide, by decide⟩ rv_0 rfl hl.1 rfl (Nat.le_of_ble_eq_true rfl) ⟨by show _ ≤ 601024; omega, by show _ ≤ 7293034; omega⟩ dL_law_1029) (fun H locs Z => ?_)
      refine lv_aload_n hx hb dL_law_1032 rfl (lv_at hl 2 rfl) ?_
      refine lv_aload_n hx hb dL_law_1033 rfl (lv_at hl 0 rfl) ?_
      refine lv_iload hx hb dL_law_1034 (lv_at hl 4 rfl) ?_
      refine lv_iconst (v := 1) hx hb dL_law_1036 (by decide) ?_
      refine lv_iadd hx hb dL_law_1037 ?_
      obtain ⟨g281, hf⟩ := gd_s hf
      refine va_sld hx hb hXs hbl hbA Z.2 (in_of g281) dL_law_1038 ?_
      obtain ⟨r284, s283, h282, hf⟩ := bi_s hf
      refine goI Z (run_V (As := [.int ((xs ((x4 + (1 : Int32))).toNatClampNeg))]) (rest := [.int r280]) X Z (c_X12_count l D h cy ((xs ((x4 + (1 : Int32))).toNatClampNeg)) s279 (r284, s283) h282 _) lk_RL_131 ⟨by decide, by decide⟩ rv_68 rfl hl.1 rfl (Nat.le_of_ble_eq_true rfl) ⟨by show _ ≤ 601024; omega, by show _ ≤ 7293034; omega⟩ dL_law_1039) (fun H locs Z => ?_)
      refine lv_icmp_eq (tgt := 1047) hx hb dL_law_1042 (by decide) (fun c285 => ?_) (fun c285 => ?_)
      · have hf := itp c285 hf
        exact b_L_law_1047 htr hL X hr hk S Hge hXs hbl K23 hK23 x4 s283 _ hf hy w _ _ hw (by omega) (by omega) (by omega) _ _ _ Z (lv_sub hl [0, 1, 2, 3, 4] rfl)
      · have hf := itn c285 hf
        refine lv_iconst (v := 0) hx hb dL_law_1045 (by decide) ?_
        exact absurd (congrArg Prod.fst (Option.some.inj hf)).symm (by rw [hy]; exact (by decide : ¬ (1 : Int32) = 0))
    have hf := itn c276 hf
    refine lv_tableOut (tgt := 1047) hx hb dL_law_40 (tsw_out 23 (fun i hi => by rcases (show i = 0 ∨ i = 1 ∨ i = 2 ∨ i = 3 ∨ i = 4 ∨ i = 5 ∨ i = 6 ∨ i = 7 ∨ i = 8 ∨ i = 9 ∨ i = 10 ∨ i = 11 ∨ i = 12 ∨ i = 13 ∨ i = 14 ∨ i = 15 ∨ i = 16 ∨ i = 17 ∨ i = 18 ∨ i = 19 ∨ i = 20 ∨ i = 21 ∨ i = 22 by omega) with rfl | rfl | rfl | rfl | rfl | rfl | rfl | rfl | rfl | rfl | rfl | rfl | rfl | rfl | rfl | rfl | rfl | rfl | rfl | rfl | rfl | rfl | rfl <;> assumption)) (by decide) ?_
    exact b_L_law_1047 htr hL X hr hk S Hge hXs hbl K23 hK23 x4 σ _ hf hy w _ _ hw (by omega) (by omega) (by omega) _ _ _ Z (lv_sub hl [0, 1, 2, 3, 4] rfl)
set_option maxRecDepth 100000 in
set_option maxHeartbeats 4000000 in
theorem b_L_law_23 {p : Program} {l : Launch} {e : Env} {s : State} {m : MethodId} {below : List Frame} {meth : Method} {c : Code} {D : va_G} {h : Nat → Nat} {cy : Nat → ClassId} {b L : Nat} {xs : Nat → Int32} (htr : l.stackTraces = false) (hL : L ≤ 3072) (X : Cx p s m #[Value.ref b] c D h cy RL cL_law 8) (hr : meth.sig.returnType = ret) (hk : meth.locks = false) (S : Ths (Az h s.heap.size) s s.heap) (Hge : ∀ k, k < NC → s.heap.size ≤ h k) (hXs : va_X b L xs s s.heap) (hbl : b < s.heap.size) (x4 : Int32) (σ : St) (y : Int32 × St) (hf : f_L_law_23 L xs x4 σ = some y) : y.1 = 1 → ∀ (w cells slots : Nat), (x4, σ).1 = nI (6 * w) → 6 * w ≤ L → cells ≤ 120 + w → slots ≤ 110000 + 6 * w → ∀ (H : Heap) (locs : List Loc) (ls : Array Slot), Zt D h cy s (x4, σ).2 H locs → lv_has ls 8 [(0, .ref b), (1, .ref (h 0)), (2, .ref (h 68)), (3, .ref (h 110)), (4, .int ((x4, σ).1))] → W p l e room_1 s m #[Value.ref b] below meth c H locs cells slots (lw_Z below #[Value.ref b] s) (F0 m 23 ls []) := by
  exact it_W (F := fun K a => f_L_law_23b L xs K a.1 a.2) (P := fun a y => y.1 = 1 → ∀ (w cells slots : Nat), a.1 = nI (6 * w) → 6 * w ≤ L → cells ≤ 120 + w → slots ≤ 110000 + 6 * w → ∀ (H : Heap) (locs : List Loc) (ls : Array Slot), Zt D h cy s a.2 H locs → lv_has ls 8 [(0, .ref b), (1, .ref (h 0)), (2, .ref (h 68)), (3, .ref (h 110)), (4, .int a.1)] → W p l e room_1 s m #[Value.ref b] below meth c H locs cells slots (lw_Z below #[Value.ref b] s) (F0 m 23 ls [])) (fun K hK a y hf hy => b_L_law_23b htr hL X hr hk S Hge hXs hbl K hK (a.1) (a.2) y hf hy) FU _ y hf
