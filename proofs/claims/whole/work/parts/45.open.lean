theorem m_closed {σ : Sg} (h : inR (gI σ 201 - 1)) (t : Int) : f10_isTerm σ t = some (σ, if 0 ≤ t ∧ t < gI σ 201 then 1 else 0) := m_isTerm h t
theorem c_closed {σ : Sg} (hn : gI σ 87 ≤ 60) (t : Int) : f4_hasClosed σ t = some (σ, if (0 ≤ t ∧ t < gI σ 87) ∧ gA σ 84 t = 0 then 1 else 0) := by
  unfold f4_hasClosed
  rw [c_has, bd_s, ite_b, ck01, ck11]
  by_cases h : 0 ≤ t ∧ t < gI σ 87
  · rw [if_pos h, ck_t (show 0 ≤ t ∧ t < 60 by omega)]
    by_cases h2 : gA σ 84 t = 0
    · rw [if_pos h2, if_pos ⟨h, h2⟩]
    · rw [if_neg h2, if_neg (fun q => h2 q.2)]
  · rw [if_neg h, if_neg (fun q => h q.1)]
theorem TI_in {σ : Sg} (h : TI σ) : inR (gI σ 201 - 1) := ⟨by have := h.1.1; omega, by have := h.1.2; omega⟩
theorem open_rel {σc σm : Sg} (hR : RT σc σm) (hTI : TI σm) (t : Int) : ∃ (rc rm v : Int), f9_open σc t = some (σc, rc) ∧ f10_open σm t = some (sI σm 200 v, rm) ∧ ((rc = -103 ∧ v = 1) ∨ (-100 < rc ∧ rc = rm ∧ v = 0)) := by
  unfold f9_open f10_open b10_open_14
  rw [c_has, bd_s, ite_b, m_isTerm (TI_in hTI), bd_s, ite_b, hR.1]
  simp only [nx_d, gI_sI, if_true, gA_sI]
  by_cases h : 0 ≤ t ∧ t < gI σm 201
  · rw [if_pos h, if_pos h, hR.2.2.2.2.2.1 t]
    have h60 : 0 ≤ t ∧ t < 60 := by have := hTI.1.2; omega
    have hN := (hTI.2 t h.1 h.2).2.2.2.2.2.2.2
    rw [ck_t h60, if_pos (Int.le_refl 0), ck_t h60, ck_t (show -100 < gA σm 208 t by omega)]
    exact ⟨_, _, 0, rfl, rfl, Or.inr ⟨by omega, rfl, rfl⟩⟩
  · rw [if_neg h, if_neg h, if_neg (by decide)]
    exact ⟨_, _, 1, rfl, rfl, Or.inl ⟨rfl, rfl⟩⟩
