theorem leave_both {σc σm : Sg} {d : Int → Int} {fuel next steps mk : Int} (hS : SIM σc σm d fuel next steps mk) (hg : 0 ≤ gI σc 49) (hto : gI σc 46 = -1) (hm : 0 < gI σc 45) : ∃ (σc' σm' : Sg), f2_leaveMark σc = some (σc', 0) ∧ σm' = sI (sI σm 223 (gI σm 223 - 1)) 225 (gA σm 224 (gI σm 223 - 1)) ∧ fr CWI CWA σc σc' ∧ SIM σc' σm' d fuel next steps (mk - 1) := by
  obtain ⟨hTB, hnow, hst, hcn, he, hcur⟩ := hS
  obtain ⟨c1, c2, c3, c4, c5⟩ := hcn
  rcases hcur with ⟨q, -⟩ | ⟨-, hn, hVR⟩
  case inl => omega
  have hM := hTB.2.2.1
  obtain ⟨g1, g2⟩ := hM.2 (gI σc 45 - 1) (by omega) (by omega)
  have h223 : gI σm 223 = gI σc 45 := hM.1.1
  unfold f2_leaveMark
  rw [if_neg (by omega), ck_t (show inR (gI σc 45 - 1) from ⟨by omega, by omega⟩), nx_d, gI_sI, if_pos rfl, ck_t (show 0 ≤ gI σc 45 - 1 ∧ gI σc 45 - 1 < 200 by omega), nx_d]
  refine ⟨_, _, rfl, rfl, fr_I _ _ (by decide) (fr_I _ _ (by decide) (fr_r _)), ?_⟩
  have fc : fr [45, 46] [] σc (sI (sI σc 45 (gI σc 45 - 1)) 46 (gA (sI σc 45 (gI σc 45 - 1)) 44 (gI σc 45 - 1))) := fr_I _ _ (by decide) (fr_I _ _ (by decide) (fr_r _))
  have fm : fr [223, 225] [] σm (sI (sI σm 223 (gI σm 223 - 1)) 225 (gA σm 224 (gI σm 223 - 1))) := fr_I _ _ (by decide) (fr_I _ _ (by decide) (fr_r _))
  have hE : Ext σc σm d (sI (sI σc 45 (gI σc 45 - 1)) 46 (gA (sI σc 45 (gI σc 45 - 1)) 44 (gI σc 45 - 1))) (sI (sI σm 223 (gI σm 223 - 1)) 225 (gA σm 224 (gI σm 223 - 1))) d := ⟨⟨Int.le_refl _, fun _ _ _ => ⟨rfl, rfl, rfl⟩⟩, ⟨Int.le_refl _, fun _ _ _ => ⟨rfl, rfl⟩⟩, ⟨Int.le_refl _, fun j _ _ => rfl⟩, Int.le_refl _, rfl, fun _ => rfl, fun _ => rfl⟩
  obtain ⟨hs, hw, -, h1, h2⟩ := hTB
  refine ⟨⟨TS_e hE rfl rfl (fun _ => rfl) (fun _ => rfl) (fun _ => rfl) (fun _ => rfl) (fun _ => rfl) hs, TW_e hE rfl rfl (fun _ => rfl) (fun _ => rfl) (fun _ => rfl) (fun _ => rfl) (fun _ => rfl) (fun _ => rfl) (fun _ => rfl) (fun _ => rfl) (fun _ => rfl) (fun _ => rfl) hw, ⟨⟨?_, ?_⟩, fun j h0 hl => ?_⟩, h1, h2⟩, ?_, ?_, ?_, ?_, Or.inr ⟨?_, hn, VR_m hE hVR⟩⟩
  · simp only [gI_sI, Nat.reduceEqDiff, reduceIte]; omega
  · simp only [gI_sI, Nat.reduceEqDiff, reduceIte]; omega
  · simp only [gI_sI, Nat.reduceEqDiff, reduceIte] at hl
    exact hM.2 j h0 (by omega)
  · simp only [gI_sI, gA_sI, Nat.reduceEqDiff, reduceIte]; rw [h223]; omega
  · simp only [gI_sI, Nat.reduceEqDiff, reduceIte]; exact hst
  · unfold CNTS; simp only [gI_sI, Nat.reduceEqDiff, reduceIte]; omega
  · simp only [gI_sI, Nat.reduceEqDiff, reduceIte]; exact he
  · simp only [gI_sI, Nat.reduceEqDiff, reduceIte]; exact hg
/-- both machines run to the same end -/
theorem loop_both {N : Nat} (hN : 10 ≤ N) {fuel : Int} (σc0 σm0 : Sg) (hR0 : RT σc0 σm0) (hT0 : TI σm0) : ∀ (r : Nat) (n m : Nat) (σc σm : Sg) (d : Int → Int) (next steps mk i : Int), SIM σc σm d fuel next steps mk → fr CWI CWA σc0 σc → fr MWI MWA σm0 σm → 0 ≤ mk → 2 * (fuel - steps) + mk + 1 ≤ r → 0 ≤ i → i + r ≤ 402 → r < n → r + 1 < m → ∃ (σc' σm' : Sg) (e s : Int), b2_workOut_54 N n σc i = some (σc', e) ∧ b10_run_43 N m σm fuel steps next 1 = some (σm', s) ∧ fr CWI CWA σc0 σc' ∧ fr MWI MWA σm0 σm' ∧ ((e = 0 ∧ s = gI σc' 52 ∧ 0 ≤ s ∧ s ≤ 200 ∧ ∃ d', VR σc' σm' d' (gI σc' 49) (gI σm' 226) (gI σm' 227) ∧ gI σc' 143 ≤ 200) ∨ (e = 1 ∧ s = -1) ∨ (e = 2 ∧ s = -2)) := by
  intro r
  induction r with
  | zero => intro n m σc σm d next steps mk i hS _ _ h0 h1; have := hS.2.2.1; omega
  | succ r ih =>
    intro n m σc σm d next steps mk i hS hfc hfm hmk hr hi hir hn hm
    obtain ⟨n, rfl⟩ : ∃ q, n = q + 1 := ⟨n - 1, by omega⟩
    obtain ⟨m, rfl⟩ : ∃ q, m = q + 1 := ⟨m - 1, by omega⟩
    obtain ⟨n', rfl⟩ : ∃ q, n = q + 1 := ⟨n - 1, by omega⟩
    obtain ⟨m', rfl⟩ : ∃ q, m = q + 1 := ⟨m - 1, by omega⟩
    have hR : RT σc σm := RT_fr hfc hfm (by decide) (by decide) (by decide) (by decide) hR0
    have hT : TI σm := TI_fr hfm (by decide) (by decide) hT0
    have hS' := hS
    obtain ⟨hTB, hnow, hst, hcn, he, hcur⟩ := hS'
    have hin : inR (i + 1) := ⟨by omega, by omega⟩
    have hsin : inR (steps + 1) := ⟨by omega, by omega⟩
    have htick : b2_doRound_23 N σc = if gI σc 51 = 0 then some (sI σc 50 2, 0) else (if gI (tick σc) 49 = -1 then (bd (f2_beginTerm N (tick σc)) fun σ8 _ => some (σ8, 0)) else (bd (f2_bringValue (tick σc)) fun σ10 _ => some (σ10, 0))) := by
      unfold b2_doRound_23
      by_cases h0 : gI σc 51 = 0
      · rw [if_pos h0, if_pos h0, nx_d]
      · rw [if_neg h0, if_neg h0, ck_t (show inR (gI σc 51 - 1) from ⟨by omega, by omega⟩), nx_d, gI_sI, if_neg (by decide), ck_t (show inR (gI σc 52 + 1) from ⟨by omega, by omega⟩), nx_d]
        rfl
    have t49 : gI (tick σc) 49 = gI σc 49 := by unfold tick; simp only [gI_sI, Nat.reduceEqDiff, reduceIte]
    rw [b2_workOut_54, b10_run_43, if_neg (show ¬ (402 : Int) ≤ i by omega), if_pos he.1, if_neg (by decide)]
    unfold f2_doRound
    -- what a state that has come to its end gives
    have endc : ∀ (σ : Sg) (e i : Int), gI σ 50 = e → e ≠ 3 → b2_workOut_54 N (n' + 1) σ i = some (σ, e) := by
      intro σ e i h1 h2
      rw [b2_workOut_54, h1]
      by_cases h : (402 : Int) ≤ i
      · rw [if_pos h]
      · rw [if_neg h, if_neg h2]
    by_cases hfe : steps = fuel
    · -- no fuel is left
      have h51 : gI σc 51 = 0 := by omega
      rw [htick, if_pos h51]
      rcases hcur with ⟨h49, hnx, hnr, -⟩ | ⟨h49, hnx, hVR⟩
      · rw [if_pos h49, bd_s, ck_t hin, endc _ 2 _ (by rw [gI_sI, if_pos rfl]) (by decide), if_neg (by omega), if_pos hfe]
        exact ⟨_, _, 2, -2, rfl, rfl, fr_I _ _ (by decide) hfc, hfm, Or.inr (Or.inr ⟨rfl, rfl⟩)⟩
      · rw [if_neg (by omega)]
        by_cases hto : gI σc 46 = -1
        · rw [if_pos hto, if_pos (by omega), if_pos (by omega)]
          by_cases hm0 : gI σc 45 = 0
          · have : gI σm 223 = 0 := by rw [hTB.2.2.1.1.1]; exact hm0
            unfold f2_leaveMark
            rw [if_pos hm0, nx_d, bd_s, bd_s, ck_t hin, endc _ 0 _ (by rw [gI_sI, if_pos rfl]) (by decide), if_pos (by omega), b10_run_43, if_pos rfl]
            refine ⟨_, _, 0, steps, rfl, rfl, fr_I _ _ (by decide) hfc, hfm, Or.inl ⟨rfl, ?_, by omega, by omega, d, ?_, ?_⟩⟩
            · rw [gI_sI, if_neg (by decide)]; exact hst.1.symm
            · have e9 : gI (sI σc 50 0) 49 = gI σc 49 := by rw [gI_sI, if_neg (by decide)]
              rw [e9]
              exact VR_m (Ext_fr d (fr_I (S := [50]) (T := []) _ _ (by decide) (fr_r _)) (fr_r (S := []) (T := []) _) (by decide) (by decide) (by decide) (by decide)) hVR
            · rw [gI_sI, if_neg (by decide)]; have := hcn.1; omega
          · have hm1 : 0 < gI σc 45 := by have := hTB.2.2.1.1.2; omega
            obtain ⟨σc', σm', e1, e2, hf1, hS2⟩ := leave_both hS h49 hto hm1
            have h223 : gI σm 223 = gI σc 45 := hTB.2.2.1.1.1
            have c45 := hcn.2.2.1
            rw [e1, bd_s, bd_s, ck_t hin, if_neg (by omega), ck_t (show inR (gI σm 223 - 1) from ⟨by omega, by omega⟩), nx_d, gI_sI, if_pos rfl, ck_t (show 0 ≤ gI σm 223 - 1 ∧ gI σm 223 - 1 < 320 by omega), nx_d, gA_sI, ← e2]
            have fm2 : fr MWI MWA σm0 σm' := by rw [e2]; exact fr_I _ _ (by decide) (fr_I _ _ (by decide) hfm)
            exact ih (n' + 1) (m' + 1) σc' σm' d next steps (mk - 1) (i + 1) hS2 (fr_t hfc hf1) fm2 (by omega) (by omega) (by omega) (by omega) (by omega) (by omega)
        · rw [if_neg hto, bd_s, ck_t hin, endc _ 2 _ (by rw [gI_sI, if_pos rfl]) (by decide), if_pos (by omega), if_neg (by omega), if_pos hfe]
          exact ⟨_, _, 2, -2, rfl, rfl, fr_I _ _ (by decide) hfc, hfm, Or.inr (Or.inr ⟨rfl, rfl⟩)⟩
    · -- a step, or a mark left
      have h51 : ¬ gI σc 51 = 0 := by omega
      rw [htick, if_neg h51, t49]
      rcases hcur with ⟨h49, hnx, hnr, -⟩ | ⟨h49, hnx, hVR⟩
      · obtain ⟨σc', σm', d', next', e1, e2, f1, f2, hS2⟩ := begin_step hS hR hT h49 (by omega) hN
        rw [if_pos h49, if_pos h49, e1, bd_s, bd_s, ck_t hin, if_neg (by omega), if_neg hfe, ck_t hsin, e2, bd_s]
        exact ih (n' + 1) (m' + 1) σc' σm' d' next' (steps + 1) (mk + 1) (i + 1) hS2 (fr_t hfc f1) (fr_t hfm f2) (by omega) (by omega) (by omega) (by omega) (by omega) (by omega)
      · rw [if_neg (by omega)]
        by_cases hto : gI σc 46 = -1
        · rw [if_pos hto, if_pos (by omega), if_pos (by omega)]
          by_cases hm0 : gI σc 45 = 0
          · have : gI σm 223 = 0 := by rw [hTB.2.2.1.1.1]; exact hm0
            unfold f2_leaveMark
            rw [if_pos hm0, nx_d, bd_s, bd_s, ck_t hin, endc _ 0 _ (by rw [gI_sI, if_pos rfl]) (by decide), if_pos (by omega), b10_run_43, if_pos rfl]
            refine ⟨_, _, 0, steps, rfl, rfl, fr_I _ _ (by decide) hfc, hfm, Or.inl ⟨rfl, ?_, by omega, by omega, d, ?_, ?_⟩⟩
            · rw [gI_sI, if_neg (by decide)]; exact hst.1.symm
            · have e9 : gI (sI σc 50 0) 49 = gI σc 49 := by rw [gI_sI, if_neg (by decide)]
              rw [e9]
              exact VR_m (Ext_fr d (fr_I (S := [50]) (T := []) _ _ (by decide) (fr_r _)) (fr_r (S := []) (T := []) _) (by decide) (by decide) (by decide) (by decide)) hVR
            · rw [gI_sI, if_neg (by decide)]; have := hcn.1; omega
          · have hm1 : 0 < gI σc 45 := by have := hTB.2.2.1.1.2; omega
            obtain ⟨σc', σm', e1, e2, hf1, hS2⟩ := leave_both hS h49 hto hm1
            have h223 : gI σm 223 = gI σc 45 := hTB.2.2.1.1.1
            have c45 := hcn.2.2.1
            rw [e1, bd_s, bd_s, ck_t hin, if_neg (by omega), ck_t (show inR (gI σm 223 - 1) from ⟨by omega, by omega⟩), nx_d, gI_sI, if_pos rfl, ck_t (show 0 ≤ gI σm 223 - 1 ∧ gI σm 223 - 1 < 320 by omega), nx_d, gA_sI, ← e2]
            have fm2 : fr MWI MWA σm0 σm' := by rw [e2]; exact fr_I _ _ (by decide) (fr_I _ _ (by decide) hfm)
            exact ih (n' + 1) (m' + 1) σc' σm' d next steps (mk - 1) (i + 1) hS2 (fr_t hfc hf1) fm2 (by omega) (by omega) (by omega) (by omega) (by omega) (by omega)
        · obtain ⟨σc', σm', rr, e1, e2, f1, f2, h3⟩ := bring_step hS hR hT h49 (by omega) (by omega)
          rw [if_neg hto, if_neg (by omega), e1, bd_s, bd_s, ck_t hin, if_pos (by omega), if_neg (by omega), if_neg hfe, ck_t hsin, e2, bd_s]
          rcases h3 with ⟨hc1, hm1⟩ | ⟨d', hS2, hm0⟩
          · rw [endc _ 1 _ hc1 (by decide), if_neg (by omega)]
            exact ⟨_, _, 1, -1, rfl, rfl, fr_t hfc f1, fr_t hfm f2, Or.inr (Or.inl ⟨rfl, rfl⟩)⟩
          · rw [if_pos hm0]
            exact ih (n' + 1) (m' + 1) σc' σm' d' rr (steps + 1) (mk + 1) (i + 1) hS2 (fr_t hfc f1) (fr_t hfm f2) (by omega) (by omega) (by omega) (by omega) (by omega) (by omega)
