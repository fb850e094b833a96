theorem run_both {σc σm : Sg} (hR : RT σc σm) (hT : TI σm) {N : Nat} (hN : 500 ≤ N) {t fuel : Int} (ht : 0 ≤ t ∧ t < gI σm 201) (hn : gA σm 208 t = 0) (hf : 1 ≤ fuel ∧ fuel ≤ 200) : ∃ (σc' σm' : Sg) (e s : Int), f2_workOut N σc t fuel = some (σc', e) ∧ f10_run N σm t fuel = some (σm', s) ∧ fr CWI CWA σc σc' ∧ fr MWI MWA σm σm' ∧ ((e = 0 ∧ s = gI σc' 52 ∧ 0 ≤ s ∧ s ≤ 200 ∧ ∃ d', VR σc' σm' d' (gI σc' 49) (gI σm' 226) (gI σm' 227) ∧ gI σc' 143 ≤ 200) ∨ (e = 1 ∧ s = -1) ∨ (e = 2 ∧ s = -2)) := by
  unfold f2_workOut f10_run f7_clear f3_clear f8_clear
  simp only [nx_d, bd_s, c_aG, true_or, ckT]
  obtain ⟨κ, hκ⟩ : ∃ κ, aG (sI (sI (sI (sI (sI (sI (sI (sI σc 143 0) 62 0) 164 0) 45 0) 46 (-1)) 51 fuel) 52 0) 50 3) t (-1) = κ := ⟨_, rfl⟩
  obtain ⟨μ, hμ⟩ : ∃ μ, sI (sI (sI (sI (sI (sI (sI σm 209 0) 213 0) 216 0) 223 0) 225 0) 229 0) 228 0 = μ := ⟨_, rfl⟩
  rw [hκ, hμ]
  have fc : fr CWI CWA σc κ := by
    rw [← hκ]
    exact fr_aG _ _ (by decide) (fr_I _ _ (by decide) (fr_I _ _ (by decide) (fr_I _ _ (by decide) (fr_I _ _ (by decide) (fr_I _ _ (by decide) (fr_I _ _ (by decide) (fr_I _ _ (by decide) (fr_I _ _ (by decide) (fr_r _)))))))))
  have fm : fr MWI MWA σm μ := by
    rw [← hμ]
    exact fr_I _ _ (by decide) (fr_I _ _ (by decide) (fr_I _ _ (by decide) (fr_I _ _ (by decide) (fr_I _ _ (by decide) (fr_I _ _ (by decide) (fr_I _ _ (by decide) (fr_r _)))))))
  have e : gI κ 143 = 0 ∧ gI κ 62 = 0 ∧ gI κ 164 = 0 ∧ gI κ 45 = 0 ∧ gI κ 46 = -1 ∧ gI κ 51 = fuel ∧ gI κ 52 = 0 ∧ gI κ 50 = 3 ∧ gI κ 47 = t ∧ gI κ 48 = -1 ∧ gI κ 49 = -1 := by
    rw [← hκ]
    simp only [aG, gI_sI, Nat.reduceEqDiff, reduceIte, and_self]
  have g : gI μ 209 = 0 ∧ gI μ 213 = 0 ∧ gI μ 216 = 0 ∧ gI μ 223 = 0 ∧ gI μ 225 = 0 ∧ gI μ 229 = 0 ∧ gI μ 228 = 0 := by
    rw [← hμ]
    simp only [gI_sI, Nat.reduceEqDiff, reduceIte, and_self]
  obtain ⟨e1, e2, e3, e4, e5, e6, e7, e8, e9, e10, e11⟩ := e
  obtain ⟨g1, g2, g3, g4, g5, g6, g7⟩ := g
  have hS : SIM κ μ (fun _ => 0) fuel t 0 0 := by
    refine ⟨⟨⟨⟨by omega, by omega⟩, rfl, fun j h0 hl => by omega⟩, ⟨⟨by omega, by omega⟩, fun j h0 hl => by omega⟩, ⟨⟨by omega, by omega⟩, fun j h0 hl => by omega⟩, by omega, by omega⟩, by omega, by omega, ⟨by omega, by omega, by omega, by omega, Or.inl (by omega)⟩, ⟨e8, g6⟩, Or.inl ⟨e11, e9.symm, ?_, by omega, by omega, ?_⟩⟩
    · rw [fm.1 201 (by decide)]; exact ht
    · rw [fm.2 208 (by decide), hn]; exact Int.le_refl 0
  exact loop_both (by omega) σc σm hR hT 401 N N κ μ _ t 0 0 0 hS fc fm (by omega) (by omega) (by omega) (by omega) (by omega) (by omega)
/-! counters, values -/
def CR (σc σm : Sg) (k : Int) : Prop := (gI σc 187 = gI σm 233 ∧ 0 ≤ gI σm 233 ∧ gI σm 233 ≤ k) ∧ (gI σc 188 = gI σm 234 ∧ 0 ≤ gI σm 234 ∧ gI σm 234 ≤ k) ∧ (gI σc 189 = gI σm 235 ∧ 0 ≤ gI σm 235 ∧ gI σm 235 ≤ k) ∧ (gI σc 190 = gI σm 236 ∧ 0 ≤ gI σm 236 ∧ gI σm 236 ≤ k) ∧ (gI σc 191 = gI σm 237 ∧ 0 ≤ gI σm 237 ∧ gI σm 237 ≤ k) ∧ (gI σc 186 = gI σm 238 ∧ 0 ≤ gI σm 238 ∧ gI σm 238 ≤ 200 * k) ∧ gI σc 185 = gI σm 232 ∧ gI σc 184 = (if 0 < gI σm 233 ∧ gI σm 230 < 2 then gI σm 231 else 0)
def CCI : List Nat := [184, 185, 186, 187, 188, 189, 190, 191]
def MCI : List Nat := [230, 231, 232, 233, 234, 235, 236, 237, 238]
theorem CR_fr {S T S' T' : List Nat} {σc σc' σm σm' : Sg} {k : Int} (hc : fr S T σc σc') (hm : fr S' T' σm σm') (h1 : ∀ k ∈ CCI, k ∉ S) (h2 : ∀ k ∈ MCI, k ∉ S') (h : CR σc σm k) : CR σc' σm' k := by
  unfold CR
  rw [hc.1 184 (h1 _ (by decide)), hc.1 185 (h1 _ (by decide)), hc.1 186 (h1 _ (by decide)), hc.1 187 (h1 _ (by decide)), hc.1 188 (h1 _ (by decide)), hc.1 189 (h1 _ (by decide)), hc.1 190 (h1 _ (by decide)), hc.1 191 (h1 _ (by decide)), hm.1 230 (h2 _ (by decide)), hm.1 231 (h2 _ (by decide)), hm.1 232 (h2 _ (by decide)), hm.1 233 (h2 _ (by decide)), hm.1 234 (h2 _ (by decide)), hm.1 235 (h2 _ (by decide)), hm.1 236 (h2 _ (by decide)), hm.1 237 (h2 _ (by decide)), hm.1 238 (h2 _ (by decide))]
  exact h
theorem CR_m {σc σm : Sg} {k m : Int} (h : CR σc σm k) (hk : k ≤ m) : CR σc σm m := by
  obtain ⟨a1, a2, a3, a4, a5, a6, a7, a8⟩ := h
  exact ⟨by omega, by omega, by omega, by omega, by omega, by omega, a7, a8⟩
def WCI : List Nat := CWI ++ CCI
def WMI : List Nat := 200 :: (MWI ++ MCI)
theorem work_rel {σc σm : Sg} (hR : RT σc σm) (hT : TI σm) {k : Int} (hC : CR σc σm k) (hk : 0 ≤ k ∧ k ≤ 10000) {N : Nat} (hN : 500 ≤ N) (t fuel : Int) : ∃ (σc' σm' : Sg) (rc rm : Int), f9_work N σc t fuel = some (σc', rc) ∧ f10_work N σm t fuel = some (σm', rm) ∧ CR σc' σm' (k + 1) ∧ fr WCI CWA σc σc' ∧ fr WMI MWA σm σm' ∧ ((rc = -103 ∧ gI σm' 200 = 1) ∨ (rc = -104 ∧ gI σm' 200 = 2) ∨ (rc = -101 ∧ gI σm' 200 = 3) ∨ (rc = -102 ∧ gI σm' 200 = 4) ∨ (-100 < rc ∧ rc = rm ∧ gI σm' 200 = 0)) := by
  have h60 : gI σc 87 ≤ 60 := by rw [hR.1]; exact hT.1.2
  have m201 : gI (sI σm 200 0) 201 = gI σm 201 := by rw [gI_sI, if_neg (by decide)]
  have fw1 : ∀ v, fr WMI MWA σm (sI (sI σm 200 0) 200 v) := fun v => fr_I _ _ (by decide) (fr_I _ _ (by decide) (fr_r _))
  have g200 : ∀ (σ : Sg) v, gI (sI σ 200 v) 200 = v := fun σ v => by rw [gI_sI, if_pos rfl]
  have cr1 : ∀ v, CR σc (sI (sI σm 200 0) 200 v) (k + 1) := fun v => CR_m (CR_fr (S := []) (T := []) (S' := [200]) (T' := []) (fr_r _) (fr_I _ _ (by decide) (fr_I _ _ (by decide) (fr_r _))) (by decide) (by decide) hC) (by omega)
  unfold f9_work f10_work b9_work_31 b10_work_22
  rw [c_closed h60, bd_s, ite_b, nx_d, m_isTerm (by rw [m201]; exact TI_in hT), bd_s, ite_b, m201, hR.1, hR.2.2.2.2.2.1 t]
  by_cases ht : ¬ (0 ≤ t ∧ t < gI σm 201)
  · rw [if_neg (fun q => ht q.1), if_neg ht, m_fail, bd_s]
    exact ⟨_, _, _, _, rfl, rfl, cr1 1, fr_r _, fw1 1, Or.inl ⟨rfl, g200 _ _⟩⟩
  have ht : 0 ≤ t ∧ t < gI σm 201 := Classical.not_not.mp ht
  have h60t : 0 ≤ t ∧ t < 60 := by have := hT.1.2; omega
  have hN0 := (hT.2 t ht.1 ht.2).2.2.2.2.2.2.2
  rw [if_pos ht, ck_t h60t, gA_sI]
  by_cases hn : ¬ gA σm 208 t = 0
  · rw [if_neg (fun q => hn q.2), if_neg (by omega), m_fail, bd_s]
    exact ⟨_, _, _, _, rfl, rfl, cr1 1, fr_r _, fw1 1, Or.inl ⟨rfl, g200 _ _⟩⟩
  have hn : gA σm 208 t = 0 := Classical.not_not.mp hn
  rw [if_pos ⟨ht, hn⟩, if_pos (show gA σm 208 t ≤ 0 by omega), m_in, bd_s, ite_b]
  by_cases hf : ¬ (1 ≤ fuel ∧ fuel ≤ 200)
  · rw [if_neg hf, m_fail, bd_s]
    by_cases h1 : fuel < 1
    · rw [if_pos h1]
      exact ⟨_, _, _, _, rfl, rfl, cr1 2, fr_r _, fw1 2, Or.inr (Or.inl ⟨rfl, g200 _ _⟩)⟩
    · rw [if_neg h1, if_neg (by omega)]
      exact ⟨_, _, _, _, rfl, rfl, cr1 2, fr_r _, fw1 2, Or.inr (Or.inl ⟨rfl, g200 _ _⟩)⟩
  have hf : 1 ≤ fuel ∧ fuel ≤ 200 := Classical.not_not.mp hf
  rw [if_neg (show ¬ fuel < 1 by omega), if_pos hf.2, if_pos hf]
  obtain ⟨σ1, σ2, e, s, e1, e2, f1, f2, hend⟩ := run_both (σc := σc) (σm := sI σm 200 0) (t := t) (fuel := fuel) (RT_fr (S := []) (T := []) (S' := [200]) (T' := []) (fr_r _) (fr_I _ _ (by decide) (fr_r _)) (by decide) (by decide) (by decide) (by decide) hR) (TI_fr (S := [200]) (T := []) (fr_I _ _ (by decide) (fr_r _)) (by decide) (by decide) hT) hN (by rw [m201]; exact ht) hn hf
  rw [e1, bd_s, e2, bd_s]
  have f1' : fr WCI CWA σc σ1 := fr_m (by decide) (by decide) f1
  have f2' : fr WMI MWA σm σ2 := fr_t (fr_I _ _ (by decide) (fr_r _)) (fr_m (by decide) (by decide) f2)
  have f2s : fr (200 :: MWI) MWA σm σ2 := fr_t (fr_I _ _ (by decide) (fr_r _)) (fr_m (by decide) (by decide) f2)
  have hC2 : CR σ1 σ2 k := CR_fr f1 f2s (by decide) (by decide) hC
  have z200 : gI σ2 200 = 0 := by rw [f2.1 200 (by decide), g200]
  rcases hend with ⟨h0, hs, hs0, hs1, d, hV, hv200⟩ | ⟨h1, hs⟩ | ⟨h2, hs⟩
  · -- a value
    rw [if_neg (by omega), if_pos h0, if_neg (by omega), if_neg (by omega)]
    have hg : 0 ≤ gI σ1 49 ∧ gI σ1 49 < 200 := by have := hV.1; omega
    have hform : gA σ1 140 (gI σ1 49) = gI σ2 226 := hV.2.1
    have hw : gI σ2 226 < 2 → gA σ1 141 (gI σ1 49) = gI σ2 227 := fun h => by rcases hV.2.2 with q | q | q; exact q.2; omega; omega
    have hk03 : 0 ≤ gI σ2 226 ∧ gI σ2 226 ≤ 3 := by rcases hV.2.2 with q | q | q <;> omega
    have hmn : (if gI σ2 226 ≤ 2 then b10_work_112 N σ2 s (gI σ2 226) else b10_work_112 N σ2 s 2) = b10_work_112 N σ2 s (mn (gI σ2 226) 2) := by
      unfold mn
      by_cases h : gI σ2 226 ≤ 2
      · rw [if_pos h, if_neg (by omega)]
      · rw [if_neg h, if_pos (by omega)]
    obtain ⟨c1, c2, c3, c4, c5, c6, c7, c8⟩ := hC2
    rw [hmn]
    have hpl : ∀ σ : Sg, gI σ 49 = gI σ1 49 → gA σ 140 (gI σ1 49) = gI σ2 226 → f2_resultForm σ = some (σ, mn (gI σ2 226) 2) := fun σ h1 h2 => by
      unfold f2_resultForm
      rw [h1, ck_t hg, h2]
    have hpr : f2_plainResult σ1 = some (σ1, if gI σ2 226 < 2 then gI σ2 227 else 0) := by
      unfold f2_plainResult
      rw [hpl σ1 rfl hform, bd_s]
      by_cases h : gI σ2 226 < 2
      · rw [if_pos h, ck_t hg, hw h, if_neg (by unfold mn; split <;> omega)]
      · rw [if_neg h, if_pos (by unfold mn; split <;> omega)]
    unfold f9_keepValue b10_work_112
    rw [hpr, bd_s]
    simp only [nx_d, gI_sI, Nat.reduceEqDiff, reduceIte]
    rw [ck_t (show inR (gI σ1 186 + gI σ1 52) from ⟨by omega, by omega⟩), ck_t (show inR (gI σ1 187 + 1) from ⟨by omega, by omega⟩), ck_t (show inR (gI σ2 233 + 1) from ⟨by omega, by omega⟩), ck_t (show inR (gI σ2 238 + s) from ⟨by omega, by omega⟩)]
    rw [hpl (sI (sI (sI (sI σ1 184 (if gI σ2 226 < 2 then gI σ2 227 else 0)) 185 (gI σ1 52)) 186 (gI σ1 186 + gI σ1 52)) 187 (gI σ1 187 + 1)) (by simp only [gI_sI, Nat.reduceEqDiff, reduceIte]) (by simp only [gA_sI]; exact hform), bd_s, bd_s, ck_t (show -100 < mn (gI σ2 226) 2 by unfold mn; split <;> omega)]
    refine ⟨_, _, _, _, rfl, rfl, ?_, fr_I _ _ (by decide) (fr_I _ _ (by decide) (fr_I _ _ (by decide) (fr_I _ _ (by decide) f1'))), fr_I _ _ (by decide) (fr_I _ _ (by decide) (fr_I _ _ (by decide) (fr_I _ _ (by decide) (fr_I _ _ (by decide) f2')))), Or.inr (Or.inr (Or.inr (Or.inr ⟨by unfold mn; split <;> omega, rfl, ?_⟩)))⟩
    · unfold CR
      simp only [gI_sI, Nat.reduceEqDiff, reduceIte]
      refine ⟨by omega, by omega, by omega, by omega, by omega, by omega, hs.symm, ?_⟩
      by_cases h : gI σ2 226 < 2
      · rw [if_pos h, if_pos ⟨by omega, by unfold mn; split <;> omega⟩]
      · rw [if_neg h, if_neg (by unfold mn; split <;> omega)]
    · simp only [gI_sI, Nat.reduceEqDiff, reduceIte]; exact z200
  · -- stuck
    obtain ⟨c1, c2, c3, c4, c5, c6, c7, c8⟩ := hC2
    rw [if_pos h1, if_pos hs, ck_t (show inR (gI σ1 188 + 1) from ⟨by omega, by omega⟩), ck_t (show inR (gI σ2 234 + 1) from ⟨by omega, by omega⟩), nx_d, nx_d, m_fail, bd_s]
    refine ⟨_, _, _, _, rfl, rfl, ?_, fr_I _ _ (by decide) f1', fr_I _ _ (by decide) (fr_I _ _ (by decide) f2'), Or.inr (Or.inr (Or.inl ⟨rfl, g200 _ _⟩))⟩
    unfold CR
    simp only [gI_sI, Nat.reduceEqDiff, reduceIte]
    exact ⟨by omega, by omega, by omega, by omega, by omega, by omega, c7, c8⟩
  · -- more fuel is wanted
    obtain ⟨c1, c2, c3, c4, c5, c6, c7, c8⟩ := hC2
    rw [if_neg (by omega), if_neg (by omega), if_neg (by omega), if_pos hs, ck_t (show inR (gI σ1 189 + 1) from ⟨by omega, by omega⟩), ck_t (show inR (gI σ2 235 + 1) from ⟨by omega, by omega⟩), nx_d, nx_d, m_fail, bd_s]
    refine ⟨_, _, _, _, rfl, rfl, ?_, fr_I _ _ (by decide) f1', fr_I _ _ (by decide) (fr_I _ _ (by decide) f2'), Or.inr (Or.inr (Or.inr (Or.inl ⟨rfl, g200 _ _⟩)))⟩
    unfold CR
    simp only [gI_sI, Nat.reduceEqDiff, reduceIte]
    exact ⟨by omega, by omega, by omega, by omega, by omega, by omega, c7, c8⟩
