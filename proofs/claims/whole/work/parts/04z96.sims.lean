/-! one step of each method keeps the relation -/
theorem s_feed (a1 a2 a3 a4 a5 : Int32) : Sim RR0 (f_X11_feed a1 a2 a3 a4 a5) (f_X12_feed a1 a2 a3 a4 a5) := by
  rintro σ ⟨hTp, hIm, hBp, hSe, hSc, hSm, hIp, hPt, hEx, hFl, hLd⟩
  obtain ⟨r, σ1, σ2, e1, e2, w, o, _⟩ := e_feed hTp a1 a2 a3 a4 a5
  have cg : ∀ S : Nat → Nat → Prop, (∀ a b, S a b → ¬ (Etape a b)) → OS S σ σ2 := fun S h => OS_of o h
  exact ⟨r, σ1, σ2, e1, e2, w,
    g_im (cg _ (fun a b h => by unfold Sim0 at h; unfold Etape; omega)) hIm,
    g_bp (cg _ (fun a b h => by unfold Sbp at h; unfold Etape; omega)) hBp,
    g_se (cg _ (fun a b h => by unfold Sse at h; unfold Etape; omega)) hSe,
    g_sc (cg _ (fun a b h => by unfold Ssc at h; unfold Etape; omega)) hSc,
    g_sm (cg _ (fun a b h => by unfold Ssm at h; unfold Etape; omega)) hSm,
    g_ip (cg _ (fun a b h => by unfold Sip at h; unfold Etape; omega)) hIp,
    g_pt (cg _ (fun a b h => by unfold Spt at h; unfold Etape; omega)) hPt,
    g_ex (cg _ (fun a b h => by unfold Sex at h; unfold Etape; omega)) hEx,
    g_fl (cg _ (fun a b h => by unfold Sfl at h; unfold Etape; omega)) hFl,
    g_ld (cg _ (fun a b h => by unfold Sld at h; unfold Etape; omega)) hLd⟩
theorem s_end (a1 : Int32) : Sim RR0 (f_X11_end a1) (f_X12_end a1) := by
  rintro σ ⟨hTp, hIm, hBp, hSe, hSc, hSm, hIp, hPt, hEx, hFl, hLd⟩
  obtain ⟨r, σ1, σ2, e1, e2, w, o, _⟩ := e_end hTp a1
  have cg : ∀ S : Nat → Nat → Prop, (∀ a b, S a b → ¬ (Etape a b)) → OS S σ σ2 := fun S h => OS_of o h
  exact ⟨r, σ1, σ2, e1, e2, w,
    g_im (cg _ (fun a b h => by unfold Sim0 at h; unfold Etape; omega)) hIm,
    g_bp (cg _ (fun a b h => by unfold Sbp at h; unfold Etape; omega)) hBp,
    g_se (cg _ (fun a b h => by unfold Sse at h; unfold Etape; omega)) hSe,
    g_sc (cg _ (fun a b h => by unfold Ssc at h; unfold Etape; omega)) hSc,
    g_sm (cg _ (fun a b h => by unfold Ssm at h; unfold Etape; omega)) hSm,
    g_ip (cg _ (fun a b h => by unfold Sip at h; unfold Etape; omega)) hIp,
    g_pt (cg _ (fun a b h => by unfold Spt at h; unfold Etape; omega)) hPt,
    g_ex (cg _ (fun a b h => by unfold Sex at h; unfold Etape; omega)) hEx,
    g_fl (cg _ (fun a b h => by unfold Sfl at h; unfold Etape; omega)) hFl,
    g_ld (cg _ (fun a b h => by unfold Sld at h; unfold Etape; omega)) hLd⟩
theorem s_anew (a1 a2 : Int32) : Sim RR0 (f_X11_anew a1 a2) (f_X12_anew a1 a2) := by
  rintro σ ⟨hTp, hIm, hBp, hSe, hSc, hSm, hIp, hPt, hEx, hFl, hLd⟩
  obtain ⟨r, σ1, σ2, e1, e2, w1, w2, w3, w4, w5, w6, o⟩ := e_anew hBp hSe hSc hSm hIp hPt a1 a2
  have cg : ∀ S : Nat → Nat → Prop, (∀ a b, S a b → ¬ (EanC a b ∨ EanM a b)) → OS S σ σ2 := fun S h => OS_of o h
  exact ⟨r, σ1, σ2, e1, e2, g_tp (cg _ (fun a b h => by unfold Stpe at h; unfold EanC EanM; omega)) hTp,
    g_im (cg _ (fun a b h => by unfold Sim0 at h; unfold EanC EanM; omega)) hIm,
    w1,
    w2,
    w3,
    w4,
    w5,
    w6,
    g_ex (cg _ (fun a b h => by unfold Sex at h; unfold EanC EanM; omega)) hEx,
    g_fl (cg _ (fun a b h => by unfold Sfl at h; unfold EanC EanM; omega)) hFl,
    g_ld (cg _ (fun a b h => by unfold Sld at h; unfold EanC EanM; omega)) hLd⟩
theorem s_segment (a1 a2 : Int32) : Sim RR0 (f_X11_segment a1 a2) (f_X12_segment a1 a2) := by
  rintro σ ⟨hTp, hIm, hBp, hSe, hSc, hSm, hIp, hPt, hEx, hFl, hLd⟩
  obtain ⟨n, t, hT⟩ := Rtape_T hTp
  obtain ⟨r, σ1, σ2, e1, e2, w1, w2, z1, z2, m, o⟩ := e_segment hT hSe hSc a1 a2
  have cg : ∀ S : Nat → Nat → Prop, (∀ a b, S a b → ¬ (EseC a b ∨ EseM a b)) → OS S σ σ2 := fun S h => OS_of o h
  exact ⟨r, σ1, σ2, e1, e2, t_0 hTp z1 z2 (fun j => o.1 2 j (by show ¬ (EseC 2 j ∨ EseM 2 j); unfold EseC EseM; omega)),
    g_im (cg _ (fun a b h => by unfold Sim0 at h; unfold EseC EseM; omega)) hIm,
    g_bp (cg _ (fun a b h => by unfold Sbp at h; unfold EseC EseM; omega)) hBp,
    w1,
    w2,
    g_sm (cg _ (fun a b h => by unfold Ssm at h; unfold EseC EseM; omega)) hSm,
    g_ip (cg _ (fun a b h => by unfold Sip at h; unfold EseC EseM; omega)) hIp,
    g_pt2 (cg _ (fun a b h => by unfold Spt at h; unfold EseC EseM; omega)) m hPt,
    g_ex (cg _ (fun a b h => by unfold Sex at h; unfold EseC EseM; omega)) hEx,
    g_fl (cg _ (fun a b h => by unfold Sfl at h; unfold EseC EseM; omega)) hFl,
    g_ld (cg _ (fun a b h => by unfold Sld at h; unfold EseC EseM; omega)) hLd⟩
theorem s_fill (a1 a2 : Int32) : Sim RR0 (f_X11_fill a1 a2) (f_X12_fill a1 a2) := by
  rintro σ ⟨hTp, hIm, hBp, hSe, hSc, hSm, hIp, hPt, hEx, hFl, hLd⟩
  obtain ⟨n, t, hT⟩ := Rtape_T hTp
  obtain ⟨r, σ1, σ2, e1, e2, w1, z1, z2, o⟩ := e_fill hT hSe a1 a2
  have cg : ∀ S : Nat → Nat → Prop, (∀ a b, S a b → ¬ (EfiC a b ∨ EfiM a b)) → OS S σ σ2 := fun S h => OS_of o h
  exact ⟨r, σ1, σ2, e1, e2, t_0 hTp z1 z2 (fun j => o.1 2 j (by show ¬ (EfiC 2 j ∨ EfiM 2 j); unfold EfiC EfiM; omega)),
    g_im (cg _ (fun a b h => by unfold Sim0 at h; unfold EfiC EfiM; omega)) hIm,
    g_bp (cg _ (fun a b h => by unfold Sbp at h; unfold EfiC EfiM; omega)) hBp,
    w1,
    g_sc (cg _ (fun a b h => by unfold Ssc at h; unfold EfiC EfiM; omega)) hSc,
    g_sm (cg _ (fun a b h => by unfold Ssm at h; unfold EfiC EfiM; omega)) hSm,
    g_ip (cg _ (fun a b h => by unfold Sip at h; unfold EfiC EfiM; omega)) hIp,
    g_pt (cg _ (fun a b h => by unfold Spt at h; unfold EfiC EfiM; omega)) hPt,
    g_ex (cg _ (fun a b h => by unfold Sex at h; unfold EfiC EfiM; omega)) hEx,
    g_fl (cg _ (fun a b h => by unfold Sfl at h; unfold EfiC EfiM; omega)) hFl,
    g_ld (cg _ (fun a b h => by unfold Sld at h; unfold EfiC EfiM; omega)) hLd⟩
theorem s_section (a1 a2 a3 : Int32) : Sim RR0 (f_X11_section a1 a2 a3) (f_X12_section a1 a2 a3) := by
  rintro σ ⟨hTp, hIm, hBp, hSe, hSc, hSm, hIp, hPt, hEx, hFl, hLd⟩
  obtain ⟨n, t, hT⟩ := Rtape_T hTp
  obtain ⟨r, σ1, σ2, e1, e2, w1, w2, z1, z2, o⟩ := e_section hT hSc hSe hSm a1 a2 a3
  have cg : ∀ S : Nat → Nat → Prop, (∀ a b, S a b → ¬ (EscC a b ∨ EscM a b)) → OS S σ σ2 := fun S h => OS_of o h
  exact ⟨r, σ1, σ2, e1, e2, t_0 hTp z1 z2 (fun j => o.1 2 j (by show ¬ (EscC 2 j ∨ EscM 2 j); unfold EscC EscM; omega)),
    g_im (cg _ (fun a b h => by unfold Sim0 at h; unfold EscC EscM; omega)) hIm,
    g_bp (cg _ (fun a b h => by unfold Sbp at h; unfold EscC EscM; omega)) hBp,
    g_se (cg _ (fun a b h => by unfold Sse at h; unfold EscC EscM; omega)) hSe,
    w1,
    w2,
    g_ip (cg _ (fun a b h => by unfold Sip at h; unfold EscC EscM; omega)) hIp,
    g_pt (cg _ (fun a b h => by unfold Spt at h; unfold EscC EscM; omega)) hPt,
    g_ex (cg _ (fun a b h => by unfold Sex at h; unfold EscC EscM; omega)) hEx,
    g_fl (cg _ (fun a b h => by unfold Sfl at h; unfold EscC EscM; omega)) hFl,
    g_ld (cg _ (fun a b h => by unfold Sld at h; unfold EscC EscM; omega)) hLd⟩
theorem s_symbol (a1 a2 : Int32) : Sim RR0 (f_X11_symbol a1 a2) (f_X12_symbol a1 a2) := by
  rintro σ ⟨hTp, hIm, hBp, hSe, hSc, hSm, hIp, hPt, hEx, hFl, hLd⟩
  obtain ⟨n, t, hT⟩ := Rtape_T hTp
  obtain ⟨r, σ1, σ2, e1, e2, w1, z1, z2, o⟩ := e_symbol hT hSm hSc a1 a2
  have cg : ∀ S : Nat → Nat → Prop, (∀ a b, S a b → ¬ (EsyC a b ∨ EsyM a b)) → OS S σ σ2 := fun S h => OS_of o h
  exact ⟨r, σ1, σ2, e1, e2, t_0 hTp z1 z2 (fun j => o.1 2 j (by show ¬ (EsyC 2 j ∨ EsyM 2 j); unfold EsyC EsyM; omega)),
    g_im (cg _ (fun a b h => by unfold Sim0 at h; unfold EsyC EsyM; omega)) hIm,
    g_bp (cg _ (fun a b h => by unfold Sbp at h; unfold EsyC EsyM; omega)) hBp,
    g_se (cg _ (fun a b h => by unfold Sse at h; unfold EsyC EsyM; omega)) hSe,
    g_sc (cg _ (fun a b h => by unfold Ssc at h; unfold EsyC EsyM; omega)) hSc,
    w1,
    g_ip (cg _ (fun a b h => by unfold Sip at h; unfold EsyC EsyM; omega)) hIp,
    g_pt (cg _ (fun a b h => by unfold Spt at h; unfold EsyC EsyM; omega)) hPt,
    g_ex (cg _ (fun a b h => by unfold Sex at h; unfold EsyC EsyM; omega)) hEx,
    g_fl (cg _ (fun a b h => by unfold Sfl at h; unfold EsyC EsyM; omega)) hFl,
    g_ld (cg _ (fun a b h => by unfold Sld at h; unfold EsyC EsyM; omega)) hLd⟩
theorem s_imports (a1 z : Int32) (hz : z = 0 ∨ z = 1) : Sim RR0 (f_X11_imports a1 z) (f_X12_imports a1 z) := by
  rintro σ ⟨hTp, hIm, hBp, hSe, hSc, hSm, hIp, hPt, hEx, hFl, hLd⟩
  obtain ⟨n, t, hT⟩ := Rtape_T hTp
  obtain ⟨r, σ1, σ2, e1, e2, w1, z1, z2, o⟩ := e_imports hT hIp a1 z hz
  have cg : ∀ S : Nat → Nat → Prop, (∀ a b, S a b → ¬ (EipC a b ∨ EipM a b)) → OS S σ σ2 := fun S h => OS_of o h
  exact ⟨r, σ1, σ2, e1, e2, t_0 hTp z1 z2 (fun j => o.1 2 j (by show ¬ (EipC 2 j ∨ EipM 2 j); unfold EipC EipM; omega)),
    g_im (cg _ (fun a b h => by unfold Sim0 at h; unfold EipC EipM; omega)) hIm,
    g_bp (cg _ (fun a b h => by unfold Sbp at h; unfold EipC EipM; omega)) hBp,
    g_se (cg _ (fun a b h => by unfold Sse at h; unfold EipC EipM; omega)) hSe,
    g_sc (cg _ (fun a b h => by unfold Ssc at h; unfold EipC EipM; omega)) hSc,
    g_sm (cg _ (fun a b h => by unfold Ssm at h; unfold EipC EipM; omega)) hSm,
    w1,
    g_pt (cg _ (fun a b h => by unfold Spt at h; unfold EipC EipM; omega)) hPt,
    g_ex (cg _ (fun a b h => by unfold Sex at h; unfold EipC EipM; omega)) hEx,
    g_fl (cg _ (fun a b h => by unfold Sfl at h; unfold EipC EipM; omega)) hFl,
    g_ld (cg _ (fun a b h => by unfold Sld at h; unfold EipC EipM; omega)) hLd⟩
theorem s_rebase (a1 a2 : Int32) (a3 : Int64) (a4 : Int32) : Sim RR0 (f_X11_rebase a1 a2 a3 a4) (f_X12_rebase a1 a2 a3 a4) := by
  rintro σ ⟨hTp, hIm, hBp, hSe, hSc, hSm, hIp, hPt, hEx, hFl, hLd⟩
  obtain ⟨r, σ1, σ2, e1, e2, w1, o⟩ := e_rebase hPt hSe hBp a1 a2 a3 a4
  have cg : ∀ S : Nat → Nat → Prop, (∀ a b, S a b → ¬ (EptC a b ∨ EptM a b)) → OS S σ σ2 := fun S h => OS_of o h
  exact ⟨r, σ1, σ2, e1, e2, g_tp (cg _ (fun a b h => by unfold Stpe at h; unfold EptC EptM; omega)) hTp,
    g_im (cg _ (fun a b h => by unfold Sim0 at h; unfold EptC EptM; omega)) hIm,
    g_bp (cg _ (fun a b h => by unfold Sbp at h; unfold EptC EptM; omega)) hBp,
    g_se (cg _ (fun a b h => by unfold Sse at h; unfold EptC EptM; omega)) hSe,
    g_sc (cg _ (fun a b h => by unfold Ssc at h; unfold EptC EptM; omega)) hSc,
    g_sm (cg _ (fun a b h => by unfold Ssm at h; unfold EptC EptM; omega)) hSm,
    g_ip (cg _ (fun a b h => by unfold Sip at h; unfold EptC EptM; omega)) hIp,
    w1,
    g_ex (cg _ (fun a b h => by unfold Sex at h; unfold EptC EptM; omega)) hEx,
    g_fl (cg _ (fun a b h => by unfold Sfl at h; unfold EptC EptM; omega)) hFl,
    g_ld (cg _ (fun a b h => by unfold Sld at h; unfold EptC EptM; omega)) hLd⟩
theorem s_bind (a1 a2 a3 a4 : Int32) : Sim RR0 (f_X11_bind a1 a2 a3 a4) (f_X12_bind a1 a2 a3 a4) := by
  rintro σ ⟨hTp, hIm, hBp, hSe, hSc, hSm, hIp, hPt, hEx, hFl, hLd⟩
  obtain ⟨r, σ1, σ2, e1, e2, w1, o⟩ := e_bind hPt hSe hBp hIp a1 a2 a3 a4
  have cg : ∀ S : Nat → Nat → Prop, (∀ a b, S a b → ¬ (EptC a b ∨ EptM a b)) → OS S σ σ2 := fun S h => OS_of o h
  exact ⟨r, σ1, σ2, e1, e2, g_tp (cg _ (fun a b h => by unfold Stpe at h; unfold EptC EptM; omega)) hTp,
    g_im (cg _ (fun a b h => by unfold Sim0 at h; unfold EptC EptM; omega)) hIm,
    g_bp (cg _ (fun a b h => by unfold Sbp at h; unfold EptC EptM; omega)) hBp,
    g_se (cg _ (fun a b h => by unfold Sse at h; unfold EptC EptM; omega)) hSe,
    g_sc (cg _ (fun a b h => by unfold Ssc at h; unfold EptC EptM; omega)) hSc,
    g_sm (cg _ (fun a b h => by unfold Ssm at h; unfold EptC EptM; omega)) hSm,
    g_ip (cg _ (fun a b h => by unfold Sip at h; unfold EptC EptM; omega)) hIp,
    w1,
    g_ex (cg _ (fun a b h => by unfold Sex at h; unfold EptC EptM; omega)) hEx,
    g_fl (cg _ (fun a b h => by unfold Sfl at h; unfold EptC EptM; omega)) hFl,
    g_ld (cg _ (fun a b h => by unfold Sld at h; unfold EptC EptM; omega)) hLd⟩
theorem s_drop (a1 a2 : Int32) : Sim RR0 (f_X11_drop a1 a2) (f_X12_drop a1 a2) := by
  rintro σ ⟨hTp, hIm, hBp, hSe, hSc, hSm, hIp, hPt, hEx, hFl, hLd⟩
  obtain ⟨r, σ1, σ2, e1, e2, w1, o⟩ := e_drop hPt a1 a2
  have cg : ∀ S : Nat → Nat → Prop, (∀ a b, S a b → ¬ (EptC a b ∨ EptM a b)) → OS S σ σ2 := fun S h => OS_of o h
  exact ⟨r, σ1, σ2, e1, e2, g_tp (cg _ (fun a b h => by unfold Stpe at h; unfold EptC EptM; omega)) hTp,
    g_im (cg _ (fun a b h => by unfold Sim0 at h; unfold EptC EptM; omega)) hIm,
    g_bp (cg _ (fun a b h => by unfold Sbp at h; unfold EptC EptM; omega)) hBp,
    g_se (cg _ (fun a b h => by unfold Sse at h; unfold EptC EptM; omega)) hSe,
    g_sc (cg _ (fun a b h => by unfold Ssc at h; unfold EptC EptM; omega)) hSc,
    g_sm (cg _ (fun a b h => by unfold Ssm at h; unfold EptC EptM; omega)) hSm,
    g_ip (cg _ (fun a b h => by unfold Sip at h; unfold EptC EptM; omega)) hIp,
    w1,
    g_ex (cg _ (fun a b h => by unfold Sex at h; unfold EptC EptM; omega)) hEx,
    g_fl (cg _ (fun a b h => by unfold Sfl at h; unfold EptC EptM; omega)) hFl,
    g_ld (cg _ (fun a b h => by unfold Sld at h; unfold EptC EptM; omega)) hLd⟩
theorem s_write : Sim RR0 (f_X11_write ) (f_X12_write ) := by
  rintro σ ⟨hTp, hIm, hBp, hSe, hSc, hSm, hIp, hPt, hEx, hFl, hLd⟩
  obtain ⟨r, σ1, σ2, e1, e2, w1, o⟩ := e_write hIm hBp hSe hSc hSm hIp hPt
  have cg : ∀ S : Nat → Nat → Prop, (∀ a b, S a b → ¬ (Ewc a b ∨ Ewm a b)) → OS S σ σ2 := fun S h => OS_of o h
  exact ⟨r, σ1, σ2, e1, e2, g_tp (cg _ (fun a b h => by unfold Stpe at h; unfold Ewc Ewm; omega)) hTp,
    w1,
    g_bp (cg _ (fun a b h => by unfold Sbp at h; unfold Ewc Ewm; omega)) hBp,
    g_se (cg _ (fun a b h => by unfold Sse at h; unfold Ewc Ewm; omega)) hSe,
    g_sc (cg _ (fun a b h => by unfold Ssc at h; unfold Ewc Ewm; omega)) hSc,
    g_sm (cg _ (fun a b h => by unfold Ssm at h; unfold Ewc Ewm; omega)) hSm,
    g_ip (cg _ (fun a b h => by unfold Sip at h; unfold Ewc Ewm; omega)) hIp,
    g_pt (cg _ (fun a b h => by unfold Spt at h; unfold Ewc Ewm; omega)) hPt,
    g_ex (cg _ (fun a b h => by unfold Sex at h; unfold Ewc Ewm; omega)) hEx,
    g_fl (cg _ (fun a b h => by unfold Sfl at h; unfold Ewc Ewm; omega)) hFl,
    g_ld (cg _ (fun a b h => by unfold Sld at h; unfold Ewc Ewm; omega)) hLd⟩
theorem s_image (a1 : Int32) : Sim RR0 (f_X11_image a1) (f_X12_image a1) := by
  rintro σ ⟨hTp, hIm, hBp, hSe, hSc, hSm, hIp, hPt, hEx, hFl, hLd⟩
  obtain ⟨r, σ1, σ2, e1, e2, w1, o, _⟩ := e_image hIm a1
  have cg : ∀ S : Nat → Nat → Prop, (∀ a b, S a b → ¬ (Eth a b)) → OS S σ σ2 := fun S h => OS_of o h
  exact ⟨r, σ1, σ2, e1, e2, g_tp (cg _ (fun a b h => by unfold Stpe at h; unfold Eth; omega)) hTp,
    w1,
    g_bp (cg _ (fun a b h => by unfold Sbp at h; unfold Eth; omega)) hBp,
    g_se (cg _ (fun a b h => by unfold Sse at h; unfold Eth; omega)) hSe,
    g_sc (cg _ (fun a b h => by unfold Ssc at h; unfold Eth; omega)) hSc,
    g_sm (cg _ (fun a b h => by unfold Ssm at h; unfold Eth; omega)) hSm,
    g_ip (cg _ (fun a b h => by unfold Sip at h; unfold Eth; omega)) hIp,
    g_pt (cg _ (fun a b h => by unfold Spt at h; unfold Eth; omega)) hPt,
    g_ex (cg _ (fun a b h => by unfold Sex at h; unfold Eth; omega)) hEx,
    g_fl (cg _ (fun a b h => by unfold Sfl at h; unfold Eth; omega)) hFl,
    g_ld (cg _ (fun a b h => by unfold Sld at h; unfold Eth; omega)) hLd⟩
theorem s_damage (a1 a2 : Int32) : Sim RR0 (f_X11_damage a1 a2) (f_X12_damage a1 a2) := by
  rintro σ ⟨hTp, hIm, hBp, hSe, hSc, hSm, hIp, hPt, hEx, hFl, hLd⟩
  obtain ⟨r, σ1, σ2, e1, e2, w1, o, _⟩ := e_damage hIm a1 a2
  have cg : ∀ S : Nat → Nat → Prop, (∀ a b, S a b → ¬ (Eimg a b)) → OS S σ σ2 := fun S h => OS_of o h
  exact ⟨r, σ1, σ2, e1, e2, g_tp (cg _ (fun a b h => by unfold Stpe at h; unfold Eimg; omega)) hTp,
    w1,
    g_bp (cg _ (fun a b h => by unfold Sbp at h; unfold Eimg; omega)) hBp,
    g_se (cg _ (fun a b h => by unfold Sse at h; unfold Eimg; omega)) hSe,
    g_sc (cg _ (fun a b h => by unfold Ssc at h; unfold Eimg; omega)) hSc,
    g_sm (cg _ (fun a b h => by unfold Ssm at h; unfold Eimg; omega)) hSm,
    g_ip (cg _ (fun a b h => by unfold Sip at h; unfold Eimg; omega)) hIp,
    g_pt (cg _ (fun a b h => by unfold Spt at h; unfold Eimg; omega)) hPt,
    g_ex (cg _ (fun a b h => by unfold Sex at h; unfold Eimg; omega)) hEx,
    g_fl (cg _ (fun a b h => by unfold Sfl at h; unfold Eimg; omega)) hFl,
    g_ld (cg _ (fun a b h => by unfold Sld at h; unfold Eimg; omega)) hLd⟩
theorem s_cut (a1 : Int32) : Sim RR0 (f_X11_cut a1) (f_X12_cut a1) := by
  rintro σ ⟨hTp, hIm, hBp, hSe, hSc, hSm, hIp, hPt, hEx, hFl, hLd⟩
  obtain ⟨r, σ1, σ2, e1, e2, w1, o, _⟩ := e_cut hIm a1
  have cg : ∀ S : Nat → Nat → Prop, (∀ a b, S a b → ¬ (Eimg a b)) → OS S σ σ2 := fun S h => OS_of o h
  exact ⟨r, σ1, σ2, e1, e2, g_tp (cg _ (fun a b h => by unfold Stpe at h; unfold Eimg; omega)) hTp,
    w1,
    g_bp (cg _ (fun a b h => by unfold Sbp at h; unfold Eimg; omega)) hBp,
    g_se (cg _ (fun a b h => by unfold Sse at h; unfold Eimg; omega)) hSe,
    g_sc (cg _ (fun a b h => by unfold Ssc at h; unfold Eimg; omega)) hSc,
    g_sm (cg _ (fun a b h => by unfold Ssm at h; unfold Eimg; omega)) hSm,
    g_ip (cg _ (fun a b h => by unfold Sip at h; unfold Eimg; omega)) hIp,
    g_pt (cg _ (fun a b h => by unfold Spt at h; unfold Eimg; omega)) hPt,
    g_ex (cg _ (fun a b h => by unfold Sex at h; unfold Eimg; omega)) hEx,
    g_fl (cg _ (fun a b h => by unfold Sfl at h; unfold Eimg; omega)) hFl,
    g_ld (cg _ (fun a b h => by unfold Sld at h; unfold Eimg; omega)) hLd⟩
theorem s_export (a1 a2 : Int32) : Sim RR0 (f_X11_export a1 a2) (f_X12_export a1 a2) := by
  rintro σ ⟨hTp, hIm, hBp, hSe, hSc, hSm, hIp, hPt, hEx, hFl, hLd⟩
  obtain ⟨n, t, hT⟩ := Rtape_T hTp
  obtain ⟨r, σ1, σ2, e1, e2, w1, z1, z2, o⟩ := e_export hT hEx a1 a2
  have cg : ∀ S : Nat → Nat → Prop, (∀ a b, S a b → ¬ (EexC a b ∨ EexM a b)) → OS S σ σ2 := fun S h => OS_of o h
  exact ⟨r, σ1, σ2, e1, e2, t_0 hTp z1 z2 (fun j => o.1 2 j (by show ¬ (EexC 2 j ∨ EexM 2 j); unfold EexC EexM; omega)),
    g_im (cg _ (fun a b h => by unfold Sim0 at h; unfold EexC EexM; omega)) hIm,
    g_bp (cg _ (fun a b h => by unfold Sbp at h; unfold EexC EexM; omega)) hBp,
    g_se (cg _ (fun a b h => by unfold Sse at h; unfold EexC EexM; omega)) hSe,
    g_sc (cg _ (fun a b h => by unfold Ssc at h; unfold EexC EexM; omega)) hSc,
    g_sm (cg _ (fun a b h => by unfold Ssm at h; unfold EexC EexM; omega)) hSm,
    g_ip (cg _ (fun a b h => by unfold Sip at h; unfold EexC EexM; omega)) hIp,
    g_pt (cg _ (fun a b h => by unfold Spt at h; unfold EexC EexM; omega)) hPt,
    w1,
    g_fl (cg _ (fun a b h => by unfold Sfl at h; unfold EexC EexM; omega)) hFl,
    g_ld (cg _ (fun a b h => by unfold Sld at h; unfold EexC EexM; omega)) hLd⟩
theorem s_load (a1 : Int32) : Sim RR0 (f_X11_load a1) (f_X12_load a1) := by
  rintro σ ⟨hTp, hIm, hBp, hSe, hSc, hSm, hIp, hPt, hEx, hFl, hLd⟩
  obtain ⟨r, σ1, σ2, e1, e2, w1, w2, o⟩ := e_load hIm hEx hLd a1
  have cg : ∀ S : Nat → Nat → Prop, (∀ a b, S a b → ¬ (Elc a b ∨ Elm a b)) → OS S σ σ2 := fun S h => OS_of o h
  exact ⟨r, σ1, σ2, e1, e2, g_tp (cg _ (fun a b h => by unfold Stpe at h; unfold Elc Elm; omega)) hTp,
    g_im (cg _ (fun a b h => by unfold Sim0 at h; unfold Elc Elm; omega)) hIm,
    g_bp (cg _ (fun a b h => by unfold Sbp at h; unfold Elc Elm; omega)) hBp,
    g_se (cg _ (fun a b h => by unfold Sse at h; unfold Elc Elm; omega)) hSe,
    g_sc (cg _ (fun a b h => by unfold Ssc at h; unfold Elc Elm; omega)) hSc,
    g_sm (cg _ (fun a b h => by unfold Ssm at h; unfold Elc Elm; omega)) hSm,
    g_ip (cg _ (fun a b h => by unfold Sip at h; unfold Elc Elm; omega)) hIp,
    g_pt (cg _ (fun a b h => by unfold Spt at h; unfold Elc Elm; omega)) hPt,
    g_ex (cg _ (fun a b h => by unfold Sex at h; unfold Elc Elm; omega)) hEx,
    w1,
    w2⟩
theorem s_place : Sim RR0 (f_X11_place ) (f_X12_place ) := by
  rintro σ ⟨hTp, hIm, hBp, hSe, hSc, hSm, hIp, hPt, hEx, hFl, hLd⟩
  obtain ⟨r, σ1, σ2, e1, e2, w1, o, _⟩ := e_place hFl
  have cg : ∀ S : Nat → Nat → Prop, (∀ a b, S a b → ¬ (Eth a b)) → OS S σ σ2 := fun S h => OS_of o h
  exact ⟨r, σ1, σ2, e1, e2, g_tp (cg _ (fun a b h => by unfold Stpe at h; unfold Eth; omega)) hTp,
    g_im (cg _ (fun a b h => by unfold Sim0 at h; unfold Eth; omega)) hIm,
    g_bp (cg _ (fun a b h => by unfold Sbp at h; unfold Eth; omega)) hBp,
    g_se (cg _ (fun a b h => by unfold Sse at h; unfold Eth; omega)) hSe,
    g_sc (cg _ (fun a b h => by unfold Ssc at h; unfold Eth; omega)) hSc,
    g_sm (cg _ (fun a b h => by unfold Ssm at h; unfold Eth; omega)) hSm,
    g_ip (cg _ (fun a b h => by unfold Sip at h; unfold Eth; omega)) hIp,
    g_pt (cg _ (fun a b h => by unfold Spt at h; unfold Eth; omega)) hPt,
    g_ex (cg _ (fun a b h => by unfold Sex at h; unfold Eth; omega)) hEx,
    w1,
    g_ld (cg _ (fun a b h => by unfold Sld at h; unfold Eth; omega)) hLd⟩
theorem s_memory (a1 : Int32) : Sim RR0 (f_X11_memory a1) (f_X12_memory a1) := by
  rintro σ ⟨hTp, hIm, hBp, hSe, hSc, hSm, hIp, hPt, hEx, hFl, hLd⟩
  obtain ⟨r, σ1, σ2, e1, e2, w1, o⟩ := e_memory hLd a1
  have cg : ∀ S : Nat → Nat → Prop, (∀ a b, S a b → ¬ (Eth a b)) → OS S σ σ2 := fun S h => OS_of o h
  exact ⟨r, σ1, σ2, e1, e2, g_tp (cg _ (fun a b h => by unfold Stpe at h; unfold Eth; omega)) hTp,
    g_im (cg _ (fun a b h => by unfold Sim0 at h; unfold Eth; omega)) hIm,
    g_bp (cg _ (fun a b h => by unfold Sbp at h; unfold Eth; omega)) hBp,
    g_se (cg _ (fun a b h => by unfold Sse at h; unfold Eth; omega)) hSe,
    g_sc (cg _ (fun a b h => by unfold Ssc at h; unfold Eth; omega)) hSc,
    g_sm (cg _ (fun a b h => by unfold Ssm at h; unfold Eth; omega)) hSm,
    g_ip (cg _ (fun a b h => by unfold Sip at h; unfold Eth; omega)) hIp,
    g_pt (cg _ (fun a b h => by unfold Spt at h; unfold Eth; omega)) hPt,
    g_ex (cg _ (fun a b h => by unfold Sex at h; unfold Eth; omega)) hEx,
    g_fl (cg _ (fun a b h => by unfold Sfl at h; unfold Eth; omega)) hFl,
    w1⟩
theorem s_pointer (a1 : Int32) : SimX RR0 (f_L_pointer a1) (f_X12_pointer a1) := by
  rintro σ ⟨hTp, hIm, hBp, hSe, hSc, hSm, hIp, hPt, hEx, hFl, hLd⟩
  obtain ⟨k, σ1, q, σ2, e1, e2, e3, e4, w1, o⟩ := e_pointer hLd a1
  have cg : ∀ S : Nat → Nat → Prop, (∀ a b, S a b → ¬ (Epv a b)) → OS S σ σ2 := fun S h => OS_of o h
  exact ⟨k, σ1, q, σ2, e1, e2, e3, e4, g_tp (cg _ (fun a b h => by unfold Stpe at h; unfold Epv; omega)) hTp,
    g_im (cg _ (fun a b h => by unfold Sim0 at h; unfold Epv; omega)) hIm,
    g_bp (cg _ (fun a b h => by unfold Sbp at h; unfold Epv; omega)) hBp,
    g_se (cg _ (fun a b h => by unfold Sse at h; unfold Epv; omega)) hSe,
    g_sc (cg _ (fun a b h => by unfold Ssc at h; unfold Epv; omega)) hSc,
    g_sm (cg _ (fun a b h => by unfold Ssm at h; unfold Epv; omega)) hSm,
    g_ip (cg _ (fun a b h => by unfold Sip at h; unfold Epv; omega)) hIp,
    g_pt (cg _ (fun a b h => by unfold Spt at h; unfold Epv; omega)) hPt,
    g_ex (cg _ (fun a b h => by unfold Sex at h; unfold Epv; omega)) hEx,
    g_fl (cg _ (fun a b h => by unfold Sfl at h; unfold Epv; omega)) hFl,
    w1⟩
theorem s_visit (a1 a2 : Int32) : SimX RR0 (f_L_visit a1 a2) (f_X12_visit a1 a2) := by
  rintro σ ⟨hTp, hIm, hBp, hSe, hSc, hSm, hIp, hPt, hEx, hFl, hLd⟩
  obtain ⟨k, σ1, q, σ2, e1, e2, e3, e4, w1, o⟩ := e_visit hLd a1 a2
  have cg : ∀ S : Nat → Nat → Prop, (∀ a b, S a b → ¬ (Epv a b)) → OS S σ σ2 := fun S h => OS_of o h
  exact ⟨k, σ1, q, σ2, e1, e2, e3, e4, g_tp (cg _ (fun a b h => by unfold Stpe at h; unfold Epv; omega)) hTp,
    g_im (cg _ (fun a b h => by unfold Sim0 at h; unfold Epv; omega)) hIm,
    g_bp (cg _ (fun a b h => by unfold Sbp at h; unfold Epv; omega)) hBp,
    g_se (cg _ (fun a b h => by unfold Sse at h; unfold Epv; omega)) hSe,
    g_sc (cg _ (fun a b h => by unfold Ssc at h; unfold Epv; omega)) hSc,
    g_sm (cg _ (fun a b h => by unfold Ssm at h; unfold Epv; omega)) hSm,
    g_ip (cg _ (fun a b h => by unfold Sip at h; unfold Epv; omega)) hIp,
    g_pt (cg _ (fun a b h => by unfold Spt at h; unfold Epv; omega)) hPt,
    g_ex (cg _ (fun a b h => by unfold Sex at h; unfold Epv; omega)) hEx,
    g_fl (cg _ (fun a b h => by unfold Sfl at h; unfold Epv; omega)) hFl,
    w1⟩
theorem s_find : Sim RR0 (f_X11_find ) (f_X12_find ) := by
  rintro σ ⟨hTp, hIm, hBp, hSe, hSc, hSm, hIp, hPt, hEx, hFl, hLd⟩
  obtain ⟨r, σ1, σ2, e1, e2, w1, o⟩ := e_find hTp hLd
  have cg : ∀ S : Nat → Nat → Prop, (∀ a b, S a b → ¬ (Etape a b)) → OS S σ σ2 := fun S h => OS_of o h
  exact ⟨r, σ1, σ2, e1, e2, w1,
    g_im (cg _ (fun a b h => by unfold Sim0 at h; unfold Etape; omega)) hIm,
    g_bp (cg _ (fun a b h => by unfold Sbp at h; unfold Etape; omega)) hBp,
    g_se (cg _ (fun a b h => by unfold Sse at h; unfold Etape; omega)) hSe,
    g_sc (cg _ (fun a b h => by unfold Ssc at h; unfold Etape; omega)) hSc,
    g_sm (cg _ (fun a b h => by unfold Ssm at h; unfold Etape; omega)) hSm,
    g_ip (cg _ (fun a b h => by unfold Sip at h; unfold Etape; omega)) hIp,
    g_pt (cg _ (fun a b h => by unfold Spt at h; unfold Etape; omega)) hPt,
    g_ex (cg _ (fun a b h => by unfold Sex at h; unfold Etape; omega)) hEx,
    g_fl (cg _ (fun a b h => by unfold Sfl at h; unfold Etape; omega)) hFl,
    g_ld (cg _ (fun a b h => by unfold Sld at h; unfold Etape; omega)) hLd⟩
theorem s_count (a1 : Int32) : Sim RR0 (f_X11_count a1) (f_X12_count a1) := by
  intro σ hR
  obtain ⟨r, e1, e2⟩ := e_count (CnR_of hR) a1
  obtain ⟨hTp, hIm, hBp, hSe, hSc, hSm, hIp, hPt, hEx, hFl, hLd⟩ := hR
  have o : OM Eth σ (sI σ 68 0 (nI 0)) := OM.sI OM.rf ⟨rfl, rfl⟩
  have cg : ∀ S : Nat → Nat → Prop, (∀ a b, S a b → ¬ (Eth a b)) → OS S σ (sI σ 68 0 (nI 0)) := fun S h => OS_of o h
  exact ⟨r, σ, _, e1, e2, g_tp (cg _ (fun a b h => by unfold Stpe at h; unfold Eth; omega)) hTp,
    g_im (cg _ (fun a b h => by unfold Sim0 at h; unfold Eth; omega)) hIm,
    g_bp (cg _ (fun a b h => by unfold Sbp at h; unfold Eth; omega)) hBp,
    g_se (cg _ (fun a b h => by unfold Sse at h; unfold Eth; omega)) hSe,
    g_sc (cg _ (fun a b h => by unfold Ssc at h; unfold Eth; omega)) hSc,
    g_sm (cg _ (fun a b h => by unfold Ssm at h; unfold Eth; omega)) hSm,
    g_ip (cg _ (fun a b h => by unfold Sip at h; unfold Eth; omega)) hIp,
    g_pt (cg _ (fun a b h => by unfold Spt at h; unfold Eth; omega)) hPt,
    g_ex (cg _ (fun a b h => by unfold Sex at h; unfold Eth; omega)) hEx,
    g_fl (cg _ (fun a b h => by unfold Sfl at h; unfold Eth; omega)) hFl,
    g_ld (cg _ (fun a b h => by unfold Sld at h; unfold Eth; omega)) hLd⟩
theorem RR0_0 : RR0 σ0 := by
  have z : ∀ a b, a ≠ 5 → a ≠ 39 → a ≠ 68 → σ0.1 a b = nI 0 := fun a b h1 h2 h3 => by
    show (if a = 5 then (fun j => if j = 0 then (65536 : Int32) else if j = 1 then 256 else 0) else if a = 39 then (fun j => if j = 1 then (-1) else 0) else if a = 68 then (fun j => if j = 4 then 65536 else if j = 5 then 256 else 0) else (fun _ => 0)) b = nI 0
    rw [if_neg h1, if_neg h2, if_neg h3]
    rfl
  have z68 : ∀ b, b ≠ 4 → b ≠ 5 → σ0.1 68 b = nI 0 := fun b h1 h2 => by
    show (if b = 4 then (65536 : Int32) else if b = 5 then 256 else 0) = nI 0
    rw [if_neg h1, if_neg h2]
    rfl
  have no : ∀ {P : Nat → Prop} (j : Nat), j < 0 → P j := fun j hj => absurd hj (Nat.not_lt_zero _)
  refine ⟨⟨0, by omega, z 1 1 (by omega) (by omega) (by omega), z68 2 (by omega) (by omega), fun j hj => absurd hj (Nat.not_lt_zero _), fun j => ?_⟩, ⟨0, by omega, z 3 1 (by omega) (by omega) (by omega), z68 30 (by omega) (by omega), fun j hj => absurd hj (Nat.not_lt_zero _), fun j => ?_⟩, ⟨65536, 256, rfl, rfl, by omega, by omega, rfl, rfl, Or.inl rfl⟩, ⟨0, by omega, z 6 2 (by omega) (by omega) (by omega), z68 6 (by omega) (by omega), fun j hj => absurd hj (Nat.not_lt_zero _), fun j hj => absurd hj (Nat.not_lt_zero _), fun j hj => absurd hj (by omega)⟩, ⟨0, 0, by omega, by omega, z 6 2 (by omega) (by omega) (by omega), z 12 2 (by omega) (by omega) (by omega), z68 7 (by omega) (by omega), fun j hj => absurd hj (Nat.not_lt_zero _), fun j hj => absurd hj (Nat.not_lt_zero _)⟩, ⟨0, 0, by omega, by omega, z 12 2 (by omega) (by omega) (by omega), z 18 2 (by omega) (by omega) (by omega), z68 8 (by omega) (by omega), fun j hj => absurd hj (Nat.not_lt_zero _), fun j hj => absurd hj (Nat.not_lt_zero _)⟩, ⟨0, by omega, z 23 2 (by omega) (by omega) (by omega), z68 9 (by omega) (by omega), fun j hj => absurd hj (Nat.not_lt_zero _), fun j hj => absurd hj (Nat.not_lt_zero _)⟩, ⟨0, 0, 256, fun _ _ => 0, by omega, by omega, z 6 2 (by omega) (by omega) (by omega), rfl, Or.inl rfl, rfl, z68 10 (by omega) (by omega), fun j hj => absurd hj (Nat.not_lt_zero _), fun i j _ hj => absurd hj (Nat.not_lt_zero _), fun q _ => Or.inl (z 28 q (by omega) (by omega) (by omega))⟩, ⟨0, fun _ _ => 0, ⟨by omega, fun j hj => absurd hj (Nat.not_lt_zero _), fun j hj => absurd hj (Nat.not_lt_zero _)⟩, ⟨z 34 2 (by omega) (by omega) (by omega), fun j hj => absurd hj (Nat.not_lt_zero _), fun j hj => absurd hj (Nat.not_lt_zero _)⟩, ⟨z68 11 (by omega) (by omega), fun j hj => absurd hj (Nat.not_lt_zero _), fun j hj => absurd hj (Nat.not_lt_zero _)⟩⟩, ⟨rfl, ?_⟩, ⟨0, fun _ => 0, fun _ => 0, by omega, by decide, fun j hj => absurd hj (Nat.not_lt_zero _), ⟨z 54 4 (by omega) (by omega) (by omega), fun j hj => absurd hj (Nat.not_lt_zero _)⟩, fun j hj => absurd hj (Nat.not_lt_zero _), z68 63 (by omega) (by omega), z 59 1 (by omega) (by omega) (by omega), fun j hj => absurd hj (Nat.not_lt_zero _)⟩, ⟨0, by omega, z 61 2 (by omega) (by omega) (by omega), z68 64 (by omega) (by omega), fun j hj => absurd hj (Nat.not_lt_zero _)⟩, ⟨0, 0, 0, by omega, by omega, z 53 6 (by omega) (by omega) (by omega), z68 65 (by omega) (by omega), z 64 1 (by omega) (by omega) (by omega), fun j hj => absurd hj (Nat.not_lt_zero _), fun j hj => absurd hj (Nat.not_lt_zero _)⟩⟩
  · rw [z 2 j (by omega) (by omega) (by omega)]; decide
  · rw [z 4 j (by omega) (by omega) (by omega)]; decide
  · decide
theorem pure_law (L : Nat) (xs : Nat → Int32) (hL : L ≤ 3072) : ∃ y, f_L_law_23 L xs 0 σ0 = some y ∧ y.1 = 1 :=
  pure_of RR0 RR0_0 s_feed s_end s_anew s_segment s_fill s_section s_symbol s_imports s_rebase s_bind s_drop s_write s_image s_damage s_cut s_export s_load s_place s_memory s_pointer s_visit s_find s_count L xs hL
