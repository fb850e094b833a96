/-! ===== value, steps, count ===== -/
theorem value_rel {σc σm : Sg} {k : Int} (hC : CR σc σm k) : ∃ r, f9_value σc = some (σc, r) ∧ f10_value σm = some (sI σm 200 0, r) := by
  obtain ⟨c1, c2, c3, c4, c5, c6, c7, c8⟩ := hC
  unfold f9_value f10_value
  rw [nx_d, c8]
  simp only [gI_sI, Nat.reduceEqDiff, reduceIte]
  refine ⟨_, rfl, ?_⟩
  by_cases h : 0 < gI σm 233
  · rw [if_neg (show ¬ gI σm 233 ≤ 0 by omega)]
    by_cases h2 : gI σm 230 < 2
    · rw [if_neg (show ¬ 2 ≤ gI σm 230 by omega), if_pos ⟨h, h2⟩]
    · rw [if_pos (show 2 ≤ gI σm 230 by omega), if_neg (fun q => h2 q.2)]
  · rw [if_pos (show gI σm 233 ≤ 0 by omega), if_neg (fun q => h q.1)]
theorem steps_rel {σc σm : Sg} {k : Int} (hC : CR σc σm k) : ∃ r, f9_steps σc = some (σc, r) ∧ f10_steps σm = some (sI σm 200 0, r) := by
  obtain ⟨c1, c2, c3, c4, c5, c6, c7, c8⟩ := hC
  unfold f9_steps f10_steps
  rw [nx_d, c7]
  refine ⟨_, rfl, ?_⟩
  rw [gI_sI, if_neg (by decide)]
theorem count_rel {σc σm : Sg} (hR : RT σc σm) {k : Int} (hC : CR σc σm k) (x : Int) : ∃ r, f9_count σc x = some (σc, r) ∧ f10_count σm x = some (sI σm 200 0, r) := by
  obtain ⟨c1, c2, c3, c4, c5, c6, c7, c8⟩ := hC
  unfold f9_count f10_count
  rw [nx_d, hR.1, c1.1, c2.1, c3.1, c4.1, c5.1]
  simp only [gI_sI, Nat.reduceEqDiff, reduceIte]
  by_cases h0 : x = 0
  · rw [if_pos h0, if_pos h0]; exact ⟨_, rfl, rfl⟩
  rw [if_neg h0, if_neg h0]
  by_cases h1 : x = 1
  · rw [if_pos h1, if_pos h1]; exact ⟨_, rfl, rfl⟩
  rw [if_neg h1, if_neg h1]
  by_cases h2 : x = 2
  · rw [if_pos h2, if_pos h2]; exact ⟨_, rfl, rfl⟩
  rw [if_neg h2, if_neg h2]
  by_cases h3 : x = 3
  · rw [if_pos h3, if_pos h3]; exact ⟨_, rfl, rfl⟩
  rw [if_neg h3, if_neg h3]
  by_cases h4 : x = 4
  · rw [if_pos h4, if_pos h4]; exact ⟨_, rfl, rfl⟩
  rw [if_neg h4, if_neg h4]
  by_cases h5 : x = 5
  · rw [if_pos h5, if_pos h5]; exact ⟨_, rfl, rfl⟩
  · rw [if_neg h5, if_neg h5]; exact ⟨_, rfl, rfl⟩
