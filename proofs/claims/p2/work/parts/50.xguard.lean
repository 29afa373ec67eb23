/-! The rule's code stays what it was outside the guards -/
theorem xHEV_B : xHE xX xgA_B xgF_B xV := by
  intro ph ph' hs h
  obtain ⟨l, n, h1, h2, h3, h4⟩ := h
  have e1 := hs.1 179 9 rfl (by decide +kernel)
  have e2 := hs.2 170 0 23 rfl (by decide +kernel)
  exact ⟨l, n, e1 ▸ h1, e2 ▸ h2, h3, h4⟩
theorem xHEV_A : xHE xX xgA_A xgF_A xV := by
  intro ph ph' hs h
  obtain ⟨l, n, h1, h2, h3, h4⟩ := h
  have e1 := hs.1 179 9 rfl (by decide +kernel)
  have e2 := hs.2 170 0 23 rfl (by decide +kernel)
  exact ⟨l, n, e1 ▸ h1, e2 ▸ h2, h3, h4⟩
theorem xHEV_O : xHE xX xgA_O xgF_O xV := xhe_BO xHEV_B
theorem xHEV_F : xHE xX xgA_F xgF_F xV := xhe_BF xHEV_B
