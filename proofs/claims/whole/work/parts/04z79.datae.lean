theorem mkS (a b c d e f g : Nat) : ∃ h : Nat → Nat, h 0 = a ∧ h 1 = b ∧ h 2 = c ∧ h 3 = d ∧ h 4 = e ∧ h 5 = f ∧ h 6 = g :=
  ⟨fun i => [a, b, c, d, e, f, g].getD i 0, rfl, rfl, rfl, rfl, rfl, rfl, rfl⟩
theorem mkD (f0 f1 f2 f3 f4 f5 f6 f7 f8 f9 f10 f11 f12 f13 f14 f15 f16 f17 f18 : Nat → Nat) (F : Nat → Nat → Nat) : ∃ D : Nat → Nat → Nat, D 0 = f0 ∧ D 1 = f1 ∧ D 2 = f2 ∧ D 3 = f3 ∧ D 4 = f4 ∧ D 5 = f5 ∧ D 6 = f6 ∧ D 7 = f7 ∧ D 8 = f8 ∧ D 9 = f9 ∧ D 10 = f10 ∧ D 11 = f11 ∧ D 12 = f12 ∧ D 13 = f13 ∧ D 14 = f14 ∧ D 15 = f15 ∧ D 16 = f16 ∧ D 17 = f17 ∧ D 18 = f18 ∧ D 20 = F 0 ∧ D 21 = F 1 ∧ D 22 = F 2 ∧ D 23 = F 3 ∧ D 24 = F 4 :=
  ⟨fun i => [f0, f1, f2, f3, f4, f5, f6, f7, f8, f9, f10, f11, f12, f13, f14, f15, f16, f17, f18, f18, F 0, F 1, F 2, F 3, F 4].getD i f0, rfl, rfl, rfl, rfl, rfl, rfl, rfl, rfl, rfl, rfl, rfl, rfl, rfl, rfl, rfl, rfl, rfl, rfl, rfl, rfl, rfl, rfl, rfl, rfl⟩
theorem ch2 {n : Nat} {P : Nat → Nat → Nat → Prop} (h : ∀ k, k < n → ∃ v w, P k v w) : ∃ f g : Nat → Nat, ∀ k, k < n → P k (f k) (g k) := by
  obtain ⟨f, hf⟩ := ch1 h
  obtain ⟨g, hg⟩ := ch1 hf
  exact ⟨f, g, hg⟩
theorem ch3 {n : Nat} {P : Nat → Nat → Nat → Nat → Prop} (h : ∀ k, k < n → ∃ v w x, P k v w x) : ∃ f g e : Nat → Nat, ∀ k, k < n → P k (f k) (g k) (e k) := by
  obtain ⟨f, hf⟩ := ch1 h
  obtain ⟨g, e, hg⟩ := ch2 hf
  exact ⟨f, g, e, hg⟩
theorem nI_jq {a b : Nat} (h : nI a = nI b) (ha : a < 2 ^ 31) (hb : b < 2 ^ 31) : a = b := by
  have := congrArg Int32.toNatClampNeg h
  rw [nI_clamp ha, nI_clamp hb] at this
  exact this
theorem wd_of {σ τ : St} (hB : BpR σ τ) (hSe : SeR σ τ) (hSc : ScR σ τ) (hSm : SmR σ τ) (hIp : IpR σ τ) (hPt : PtR σ τ) : ∃ D, DOK D ∧ DC D σ ∧ DM D τ := by
  obtain ⟨bb, pg, b1, b2, b3, _, b5, b6, b7⟩ := hB
  obtain ⟨ns, s0, s1, s2, s3, s4, s5⟩ := hSe
  obtain ⟨ns2, nc, c0, c1, c2, c3, c4, c5, c6⟩ := hSc
  obtain ⟨nc2, ny, y0, y1, y2, y3, y4, y5, y6⟩ := hSm
  obtain ⟨ni, i0, i1, i2, i3, i4⟩ := hIp
  obtain ⟨ns3, np, pg2, F, p0, p1, p2, p3, p4, p5, p6, p7, p8, p9⟩ := hPt
  obtain rfl : ns = ns2 := nI_jq (s1.symm.trans c2) (by omega) (by omega)
  obtain rfl : ns = ns3 := nI_jq (s1.symm.trans p2) (by omega) (by omega)
  obtain rfl : nc = nc2 := nI_jq (c3.symm.trans y2) (by omega) (by omega)
  obtain rfl : pg = pg2 := nI_jq (b5.symm.trans p3) (by unfold isPg at b7; omega) (by unfold isPg at p4; omega)
  obtain ⟨L7, N7, n1, n2, n3⟩ := nm_of s3
  obtain ⟨L13, N13, n4, n5, n6⟩ := nm_of c5
  obtain ⟨L19, N19, n7, n8, n9⟩ := nm_of y5
  obtain ⟨L24, N24, n10, n11, n12⟩ := nm_of i3
  obtain ⟨B, A, s4⟩ := ch2 s4
  obtain ⟨con, s5⟩ := ch1 s5
  obtain ⟨G, pl, sz, c6⟩ := ch3 c6
  obtain ⟨yc, yp, yz, y6⟩ := ch3 y6
  obtain ⟨il, iw, i4⟩ := ch2 i4
  obtain ⟨h0, rfl, rfl, rfl, rfl, rfl, rfl, rfl⟩ := mkS ns nc ny ni np pg bb
  obtain ⟨D, rfl, rfl, rfl, rfl, rfl, rfl, rfl, rfl, rfl, rfl, rfl, rfl, rfl, rfl, rfl, rfl, rfl, rfl, rfl, e0, e1, e2, e3, e4⟩ := mkD h0 B A con N7 L7 G pl sz N13 L13 yc yp N19 L19 il iw N24 L24 F
  refine ⟨D, ?_, ?_, ?_⟩
  · refine ⟨s0, c0, y0, i0, p1, b7, b3, ⟨n1, n4, n7, n10⟩, fun s hs => ?_, fun j hj => (s5 j hj).1, fun k hk => ?_, fun k hk => ?_, fun k hk => ?_, fun k hk => ?_, ?_⟩
    · obtain ⟨_, _, d3, d4, _, _, d7⟩ := s4 s hs
      exact ⟨d3, d4, d7⟩
    · obtain ⟨B', d1, _, _, _, _, _, _, _, d9, d10⟩ := c6 k hk
      exact ⟨d1, by omega⟩
    · obtain ⟨d1, _, _, _, _, _, d7, d8⟩ := y6 k hk
      exact ⟨d1, by omega⟩
    · obtain ⟨_, _, d3, d4, _, _, d7⟩ := i4 k hk
      exact ⟨d3, d4, d7⟩
    · obtain ⟨d1, ⟨B', d2, d3, d4⟩, d5, d6, _, _, _, d7, _, _, d8, d9, d10, _⟩ := p7 k hk
      rw [e0, e1, e2, e3, e4]
      have := nI_jq ((s4 _ d1).1.symm.trans d2) (by have := (s4 _ d1).2.2.2.1; omega) (by omega)
      exact ⟨d1, by omega, d5, d6, d7, d8, d9, d10⟩
    · rw [e0, e1]
      exact p8
  · refine ⟨⟨s1, c3, y3, i1, b5, b1⟩, ⟨n2, n5, n8, n11⟩, fun s hs => ⟨(s4 s hs).1, (s4 s hs).2.2.2.2.1⟩, fun j hj => (s5 j hj).2.1, fun k hk => ?_, fun k hk => ?_, fun k hk => ?_, fun k hk => ?_, ?_⟩
    · obtain ⟨B', _, d2, _, d4, _, d6, _⟩ := c6 k hk
      exact ⟨d2, d4, d6⟩
    · obtain ⟨_, d2, _, d4, _⟩ := y6 k hk
      exact ⟨d2, d4⟩
    · obtain ⟨d1, _, _, _, d2, _⟩ := i4 k hk
      exact ⟨d1, d2⟩
    · obtain ⟨_, _, _, _, _, _, _, _, _, _, _, _, _, d1, d2⟩ := p7 k hk
      rw [e0, e1, e2, e3, e4]
      exact ⟨d1, d2⟩
    · rw [e0, e1]
      exact p9
  · refine ⟨⟨s2, c4, y4, i2, p6, b6, b2⟩, ⟨n3, n6, n9, n12⟩, fun s hs => ⟨(s4 s hs).2.1, (s4 s hs).2.2.2.2.2.1⟩, fun j hj => (s5 j hj).2.2, fun k hk => ?_, fun k hk => ?_, fun k hk => ?_, fun k hk => ?_⟩
    · obtain ⟨B', _, _, d2, _, d4, _, d6, _⟩ := c6 k hk
      exact ⟨d2, d4, d6⟩
    · obtain ⟨_, _, d2, _, d4, _⟩ := y6 k hk
      exact ⟨d2, d4⟩
    · obtain ⟨_, d1, _, _, _, d2, _⟩ := i4 k hk
      exact ⟨d1, d2⟩
    · obtain ⟨_, _, _, _, d1, d2, d3, _, d4, d5, _⟩ := p7 k hk
      rw [e0, e1, e2, e3, e4]
      exact ⟨d1, d2, d3, d4, d5⟩
