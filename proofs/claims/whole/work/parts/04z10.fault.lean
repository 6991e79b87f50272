def Rflt (σ : St) : Prop := σ.1 39 0 = σ.1 68 39 ∧ σ.1 39 1 = (σ.2 68 40).toInt32
theorem e_place {σ : St} (hF : Rflt σ) : ∃ (r : Int32) (σ1 σ2 : St), f_X11_place σ = some (r, σ1) ∧ f_X12_place σ1 = some (r, σ2) ∧ Rflt σ2 ∧ Only Eth σ σ2 ∧ σ2.1 68 0 = 0 := by
  refine ⟨σ.1 39 1, σ, sI σ 68 0 0, rfl, ?_, ⟨by simp [sI_g, hF.1], by rw [sI_l]; simp [sI_g, hF.2]⟩, only_th σ, by simp [sI_g]⟩
  unfold f_X12_place
  dsimp only [zn]
  rw [sI_l, hF.2]
