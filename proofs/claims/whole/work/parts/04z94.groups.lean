/-! each group of the relation, and the entries that it speaks of -/
def OS (S : Nat → Nat → Prop) (σ σ' : St) : Prop := ∀ a b, S a b → σ'.1 a b = σ.1 a b ∧ σ'.2 a b = σ.2 a b
theorem OS_of {E S : Nat → Nat → Prop} {σ σ' : St} (o : OM E σ σ') (h : ∀ a b, S a b → ¬ E a b) : OS S σ σ' := fun a b q => ⟨o.1 a b (h a b q), o.2 a b (h a b q)⟩
def Stpe (a b : Nat) : Prop := (a = 1 ∧ b = 1) ∨ (a = 68 ∧ b = 2) ∨ a = 2 ∨ a = 69
def Sim0 (a b : Nat) : Prop := (a = 3 ∧ b = 1) ∨ (a = 68 ∧ b = 30) ∨ a = 4 ∨ a = 88
def Sbp (a b : Nat) : Prop := (a = 5 ∧ b ≤ 1) ∨ (a = 68 ∧ (b = 4 ∨ b = 5))
def Sse (a b : Nat) : Prop := (a = 6 ∧ b = 2) ∨ (a = 68 ∧ b = 6) ∨ (7 ≤ a ∧ a ≤ 11) ∨ (71 ≤ a ∧ a ≤ 73) ∨ (a = 70 ∧ b < 64)
def Ssc (a b : Nat) : Prop := (a = 6 ∧ b = 2) ∨ (a = 12 ∧ b = 2) ∨ (a = 68 ∧ b = 7) ∨ (13 ≤ a ∧ a ≤ 17) ∨ (74 ≤ a ∧ a ≤ 76) ∨ a = 9 ∨ (a = 70 ∧ 64 ≤ b ∧ b < 192)
def Ssm (a b : Nat) : Prop := (a = 12 ∧ b = 2) ∨ (a = 18 ∧ b = 2) ∨ (a = 68 ∧ b = 8) ∨ (19 ≤ a ∧ a ≤ 22) ∨ a = 77 ∨ a = 78 ∨ a = 17 ∨ (a = 70 ∧ 192 ≤ b ∧ b < 512)
def Sip (a b : Nat) : Prop := (a = 23 ∧ b = 2) ∨ (a = 68 ∧ b = 9) ∨ (24 ≤ a ∧ a ≤ 27) ∨ a = 79 ∨ a = 80 ∨ (a = 70 ∧ 512 ≤ b ∧ b < 832)
def Spt (a b : Nat) : Prop := (a = 6 ∧ b = 2) ∨ (a = 5 ∧ (b = 1 ∨ b = 18)) ∨ (a = 68 ∧ b = 10) ∨ a = 9 ∨ (81 ≤ a ∧ a ≤ 85) ∨ a = 28 ∨ a = 29
def Sex (a b : Nat) : Prop := (34 ≤ a ∧ a ≤ 38) ∨ (a = 68 ∧ b = 11) ∨ a = 86 ∨ a = 87 ∨ (a = 70 ∧ 832 ≤ b)
def Sfl (a b : Nat) : Prop := (a = 39 ∧ b ≤ 1) ∨ (a = 68 ∧ (b = 39 ∨ b = 40))
def Sld (a b : Nat) : Prop := (53 ≤ a ∧ a ≤ 67) ∨ (a = 68 ∧ 63 ≤ b ∧ b ≤ 65) ∨ (98 ≤ a ∧ a ≤ 109)
theorem g_tp {σ σ' : St} (o : OS Stpe σ σ') (h : Rtape σ) : Rtape σ' := by
  obtain ⟨n, h1, h2, h3, h4, h5⟩ := h
  have f : ∀ b, σ'.1 2 b = σ.1 2 b := fun b => (o 2 b (by unfold Stpe; omega)).1
  refine ⟨n, h1, by rw [(o 1 1 (by unfold Stpe; omega)).1]; exact h2, by rw [(o 68 2 (by unfold Stpe; omega)).1]; exact h3, fun j hj => by rw [(o 69 j (by unfold Stpe; omega)).1, f]; exact h4 j hj, fun j => by rw [f]; exact h5 j⟩
theorem g_im {σ σ' : St} (o : OS Sim0 σ σ') (h : Rimg σ) : Rimg σ' := by
  obtain ⟨n, h1, h2, h3, h4, h5⟩ := h
  have f : ∀ b, σ'.1 4 b = σ.1 4 b := fun b => (o 4 b (by unfold Sim0; omega)).1
  refine ⟨n, h1, by rw [(o 3 1 (by unfold Sim0; omega)).1]; exact h2, by rw [(o 68 30 (by unfold Sim0; omega)).1]; exact h3, fun j hj => by rw [(o 88 j (by unfold Sim0; omega)).1, f]; exact h4 j hj, fun j => by rw [f]; exact h5 j⟩
theorem g_bp {σ σ' : St} (o : OS Sbp σ σ') (h : BpR σ σ) : BpR σ' σ' := by
  unfold BpR at h ⊢
  rw [(o 5 0 (by unfold Sbp; omega)).1, (o 5 1 (by unfold Sbp; omega)).1, (o 68 4 (by unfold Sbp; omega)).1, (o 68 5 (by unfold Sbp; omega)).1]
  exact h
theorem g_se {σ σ' : St} (o : OS Sse σ σ') (h : SeR σ σ) : SeR σ' σ' := by
  have f : ∀ a, (7 ≤ a ∧ a ≤ 11) ∨ (71 ≤ a ∧ a ≤ 73) → σ'.1 a = σ.1 a := fun a ha => funext fun b => (o a b (by unfold Sse; omega)).1
  obtain ⟨ns, s0, s1, s2, s3, s4, s5⟩ := h
  refine ⟨ns, s0, by rw [(o 6 2 (by unfold Sse; omega)).1]; exact s1, by rw [(o 68 6 (by unfold Sse; omega)).1]; exact s2, NmR_cg (f 7 (by omega)) (f 8 (by omega)) (fun k j hk hj => (o 70 _ (by unfold Sse; omega)).1) s3, ?_, ?_⟩
  · rw [f 9 (by omega), f 10 (by omega), f 71 (by omega), f 72 (by omega)]; exact s4
  · rw [f 11 (by omega), f 73 (by omega)]; exact s5
theorem g_sc {σ σ' : St} (o : OS Ssc σ σ') (h : ScR σ σ) : ScR σ' σ' := by
  have f : ∀ a, (13 ≤ a ∧ a ≤ 17) ∨ (74 ≤ a ∧ a ≤ 76) ∨ a = 9 → σ'.1 a = σ.1 a := fun a ha => funext fun b => (o a b (by unfold Ssc; omega)).1
  obtain ⟨ns, nc, s0, s1, s2, s3, s4, s5, s6⟩ := h
  refine ⟨ns, nc, s0, s1, by rw [(o 6 2 (by unfold Ssc; omega)).1]; exact s2, by rw [(o 12 2 (by unfold Ssc; omega)).1]; exact s3, by rw [(o 68 7 (by unfold Ssc; omega)).1]; exact s4, NmR_cg (f 13 (by omega)) (f 14 (by omega)) (fun k j hk hj => (o 70 _ (by unfold Ssc; omega)).1) s5, ?_⟩
  rw [f 9 (by omega), f 15 (by omega), f 16 (by omega), f 17 (by omega), f 74 (by omega), f 75 (by omega), f 76 (by omega)]; exact s6
theorem g_sm {σ σ' : St} (o : OS Ssm σ σ') (h : SmR σ σ) : SmR σ' σ' := by
  have f : ∀ a, (19 ≤ a ∧ a ≤ 22) ∨ a = 77 ∨ a = 78 ∨ a = 17 → σ'.1 a = σ.1 a := fun a ha => funext fun b => (o a b (by unfold Ssm; omega)).1
  obtain ⟨nc, ny, s0, s1, s2, s3, s4, s5, s6⟩ := h
  refine ⟨nc, ny, s0, s1, by rw [(o 12 2 (by unfold Ssm; omega)).1]; exact s2, by rw [(o 18 2 (by unfold Ssm; omega)).1]; exact s3, by rw [(o 68 8 (by unfold Ssm; omega)).1]; exact s4, NmR_cg (f 19 (by omega)) (f 20 (by omega)) (fun k j hk hj => (o 70 _ (by unfold Ssm; omega)).1) s5, ?_⟩
  rw [f 17 (by omega), f 21 (by omega), f 22 (by omega), f 77 (by omega), f 78 (by omega)]; exact s6
theorem g_ip {σ σ' : St} (o : OS Sip σ σ') (h : IpR σ σ) : IpR σ' σ' := by
  have f : ∀ a, (24 ≤ a ∧ a ≤ 27) ∨ a = 79 ∨ a = 80 → σ'.1 a = σ.1 a := fun a ha => funext fun b => (o a b (by unfold Sip; omega)).1
  obtain ⟨ni, s0, s1, s2, s3, s4⟩ := h
  refine ⟨ni, s0, by rw [(o 23 2 (by unfold Sip; omega)).1]; exact s1, by rw [(o 68 9 (by unfold Sip; omega)).1]; exact s2, NmR_cg (f 24 (by omega)) (f 25 (by omega)) (fun k j hk hj => (o 70 _ (by unfold Sip; omega)).1) s3, ?_⟩
  rw [f 26 (by omega), f 27 (by omega), f 79 (by omega), f 80 (by omega)]; exact s4
theorem g_pt {σ σ' : St} (o : OS Spt σ σ') (h : PtR σ σ) : PtR σ' σ' := by
  have f : ∀ a, a = 9 ∨ (81 ≤ a ∧ a ≤ 85) ∨ a = 28 ∨ a = 29 → σ'.1 a = σ.1 a ∧ σ'.2 a = σ.2 a := fun a ha => ⟨funext fun b => (o a b (by unfold Spt; omega)).1, funext fun b => (o a b (by unfold Spt; omega)).2⟩
  unfold PtR at h ⊢
  rw [(o 6 2 (by unfold Spt; omega)).1, (o 5 1 (by unfold Spt; omega)).1, (o 5 18 (by unfold Spt; omega)).1, (o 68 10 (by unfold Spt; omega)).1, (f 9 (by omega)).1, (f 81 (by omega)).1, (f 82 (by omega)).1, (f 83 (by omega)).1, (f 84 (by omega)).2, (f 85 (by omega)).1, (f 28 (by omega)).1, (f 29 (by omega)).2]
  exact h
theorem g_pt2 {σ σ' : St} (o : OS (fun a b => Spt a b ∧ a ≠ 6 ∧ a ≠ 9) σ σ') (hm : ∃ ns ns', σ.1 6 2 = nI ns ∧ σ'.1 6 2 = nI ns' ∧ ns ≤ ns' ∧ ns' ≤ 4 ∧ ∀ s, s < ns → σ'.1 9 s = σ.1 9 s) (h : PtR σ σ) : PtR σ' σ' := by
  have f : ∀ a, (81 ≤ a ∧ a ≤ 85) ∨ a = 28 ∨ a = 29 → σ'.1 a = σ.1 a ∧ σ'.2 a = σ.2 a := fun a ha => ⟨funext fun b => (o a b (by unfold Spt; omega)).1, funext fun b => (o a b (by unfold Spt; omega)).2⟩
  obtain ⟨n1, n2, m1, m2, m3, m4, m5⟩ := hm
  obtain ⟨ns, np, pg, F, a1, a2, a3, a4, a5, a6, a7, a8, a9, a10⟩ := h
  have e : ns = n1 := nI_jq (a3.symm.trans m1) (by omega) (by omega)
  subst e
  refine ⟨n2, np, pg, F, m4, a2, m2, by rw [(o 5 1 (by unfold Spt; omega)).1]; exact a4, a5, by rw [(o 5 18 (by unfold Spt; omega)).1]; exact a6, by rw [(o 68 10 (by unfold Spt; omega)).1]; exact a7, fun k hk => ?_, a9, ?_⟩
  · obtain ⟨b1, ⟨B, b2, b3⟩, b4⟩ := a8 k hk
    refine ⟨by omega, ⟨B, by rw [m5 _ b1]; exact b2, b3⟩, ?_⟩
    rw [(f 81 (by omega)).1, (f 82 (by omega)).1, (f 83 (by omega)).1, (f 84 (by omega)).2, (f 85 (by omega)).1, (f 28 (by omega)).1, (f 29 (by omega)).2]
    exact b4
  · rw [(f 28 (by omega)).1]
    exact a10
theorem g_ex {σ σ' : St} (o : OS Sex σ σ') (h : Rexp σ) : Rexp σ' :=
  Rexp_OM (E := fun a b => ¬ Sex a b) ⟨fun a b hn => (o a b (Classical.byContradiction hn)).1, fun a b hn => (o a b (Classical.byContradiction hn)).2⟩ (fun a j h1 h2 q => q (by unfold Sex; omega)) (fun q => q (by unfold Sex; omega)) (fun j hj q => q (by unfold Sex; omega)) (fun j => ⟨fun q => q (by unfold Sex; omega), fun q => q (by unfold Sex; omega)⟩) h
theorem g_fl {σ σ' : St} (o : OS Sfl σ σ') (h : Rflt σ) : Rflt σ' := by
  unfold Rflt at h ⊢
  rw [(o 39 0 (by unfold Sfl; omega)).1, (o 39 1 (by unfold Sfl; omega)).1, (o 68 39 (by unfold Sfl; omega)).1, (o 68 40 (by unfold Sfl; omega)).2]
  exact h
theorem g_ld {σ σ' : St} (o : OS Sld σ σ') (h : Rld σ) : Rld σ' :=
  Ld_cg (fun a h1 h2 => ⟨funext fun b => (o a b (by unfold Sld; omega)).1, funext fun b => (o a b (by unfold Sld; omega)).2⟩) ⟨fun b h1 h2 => (o 68 b (by unfold Sld; omega)).1, fun a h1 h2 => ⟨funext fun b => (o a b (by unfold Sld; omega)).1, funext fun b => (o a b (by unfold Sld; omega)).2⟩⟩ h
theorem t_0 {σ σ' : St} (h : Rtape σ) (h1 : σ'.1 1 1 = nI 0) (h2 : σ'.1 68 2 = nI 0) (h3 : ∀ j, σ'.1 2 j = σ.1 2 j) : Rtape σ' := by
  obtain ⟨n, _, _, _, _, h5⟩ := h
  exact ⟨0, by omega, h1, h2, fun j hj => absurd hj (Nat.not_lt_zero _), fun j => by rw [h3]; exact h5 j⟩
/-- the relation between the class's entries and the reference's -/
def RR0 (σ : St) : Prop := Rtape σ ∧ Rimg σ ∧ BpR σ σ ∧ SeR σ σ ∧ ScR σ σ ∧ SmR σ σ ∧ IpR σ σ ∧ PtR σ σ ∧ Rexp σ ∧ Rflt σ ∧ Rld σ
