theorem fin_val {σc σm : Sg} {d : Int → Int} {fuel steps mk v k w : Int} (hTB : TB σc σm d) (hnow : gI σm 225 = gI σc 46 + 1 ∧ -1 ≤ gI σc 46 ∧ gI σc 46 < gI σc 164) (hst : gI σc 52 = steps ∧ gI σc 51 = fuel - steps ∧ 0 ≤ steps ∧ steps ≤ fuel ∧ fuel ≤ 200) (hc : gI σc 143 ≤ steps ∧ gI σc 164 ≤ steps ∧ (gI σc 45 ≤ mk ∧ mk ≤ steps) ∧ gI σm 213 ≤ steps ∧ gI σc 62 ≤ steps) (he : gI σc 50 = 3 ∧ gI σm 229 = 0) (hv : VR σc σm d v k w) : SIM (sI σc 49 v) (mG σm k w) d fuel (-1) steps mk := by
  have hfc : fr [49] [] σc (sI σc 49 v) := fr_I _ _ (by decide) (fr_r _)
  have hfm : fr [226, 227] [] σm (mG σm k w) := fr_I _ _ (by decide) (fr_I _ _ (by decide) (fr_r _))
  have hE := Ext_fr d hfc hfm (by decide) (by decide) (by decide) (by decide)
  refine ⟨TB_fr hfc hfm (by decide) (by decide) (by decide) (by decide) hTB, ?_, ?_, ?_, ?_, Or.inr ⟨?_, rfl, ?_⟩⟩
  · rw [hfm.1 225 (by decide), hfc.1 46 (by decide), hfc.1 164 (by decide)]; exact hnow
  · rw [hfc.1 52 (by decide), hfc.1 51 (by decide)]; exact hst
  · unfold CNTS; rw [hfc.1 143 (by decide), hfc.1 164 (by decide), hfc.1 45 (by decide), hfm.1 213 (by decide), hfc.1 62 (by decide)]
    exact ⟨hc.1, hc.2.1, hc.2.2.1, hc.2.2.2.1, Or.inl hc.2.2.2.2⟩
  · rw [hfc.1 50 (by decide), hfm.1 229 (by decide)]; exact he
  · rw [gI_sI, if_pos rfl]; exact hv.1.1
  · have e1 : gI (sI σc 49 v) 49 = v := by rw [gI_sI, if_pos rfl]
    have e2 : gI (mG σm k w) 226 = k := by unfold mG; simp only [gI_sI, Nat.reduceEqDiff, reduceIte]
    have e3 : gI (mG σm k w) 227 = w := by unfold mG; simp only [gI_sI, Nat.reduceEqDiff, reduceIte]
    rw [e1, e2, e3]
    exact VR_m hE hv
theorem fin_go {σc σm : Sg} {d : Int → Int} {fuel steps mk t s : Int} (hTB : TB σc σm d) (hnow : gI σm 225 = gI σc 46 + 1 ∧ -1 ≤ gI σc 46 ∧ gI σc 46 < gI σc 164) (hst : gI σc 52 = steps ∧ gI σc 51 = fuel - steps ∧ 0 ≤ steps ∧ steps ≤ fuel ∧ fuel ≤ 200) (hc : gI σc 143 ≤ steps ∧ gI σc 164 ≤ steps ∧ (gI σc 45 ≤ mk ∧ mk ≤ steps) ∧ gI σm 213 ≤ steps ∧ gI σc 62 ≤ steps + 1) (he : gI σc 50 = 3 ∧ gI σm 229 = 0) (h47 : gI σc 47 = t) (h48 : gI σc 48 = s) (h49 : gI σc 49 = -1) (ht : 0 ≤ t ∧ t < gI σm 201) (h228 : gI σm 228 = s + 1) (hs : -1 ≤ s ∧ s < gI σc 62) (hn : gA σm 208 t ≤ d s) : SIM σc σm d fuel t steps mk :=
  ⟨hTB, hnow, hst, ⟨hc.1, hc.2.1, hc.2.2.1, hc.2.2.2.1, Or.inr ⟨h49, hc.2.2.2.2⟩⟩, he, Or.inl ⟨h49, h47.symm, ht, by rw [h48]; exact h228, by rw [h48]; exact hs, by rw [h48]; exact hn⟩⟩
theorem new_V {σc σm : Sg} {d : Int → Int} (h0 : 0 ≤ gI σc 143) {k x y w : Int} (h : ((k = 0 ∨ k = 1) ∧ x = w) ∨ (k = 2 ∧ (1 ≤ w ∧ w ≤ gI σm 213) ∧ gA σm 214 w = x ∧ gA σm 215 w = y + 1 ∧ (0 ≤ x ∧ x < gI σm 201) ∧ (gA σm 202 x = 3 ∨ gA σm 202 x = 11) ∧ (-1 ≤ y ∧ y < gI σc 62) ∧ gA σm 208 x ≤ d y) ∨ (k = 3 ∧ w = x + 1 ∧ -1 ≤ x ∧ x < gI σc 164)) : VR (aV σc k x y) σm d (gI σc 143) k w := by
  have e0 : gI (aV σc k x y) 143 = gI σc 143 + 1 := by unfold aV; rw [gI_sI, if_pos rfl]
  have e1 : gA (aV σc k x y) 140 (gI σc 143) = k := by unfold aV; simp only [gA_sI, gA_sA, Nat.reduceEqDiff, reduceIte]
  have e2 : gA (aV σc k x y) 141 (gI σc 143) = x := by unfold aV; simp only [gA_sI, gA_sA, Nat.reduceEqDiff, reduceIte]
  have e3 : gA (aV σc k x y) 142 (gI σc 143) = y := by unfold aV; simp only [gA_sI, gA_sA, Nat.reduceEqDiff, reduceIte]
  have e4 : gI (aV σc k x y) 62 = gI σc 62 := by unfold aV; simp only [gI_sI, gI_sA, Nat.reduceEqDiff, reduceIte]
  have e5 : gI (aV σc k x y) 164 = gI σc 164 := by unfold aV; simp only [gI_sI, gI_sA, Nat.reduceEqDiff, reduceIte]
  unfold VR
  rw [e0, e1, e2, e3, e4, e5]
  exact ⟨⟨h0, by omega⟩, rfl, h⟩
theorem fr_aV {S T : List Nat} {σ σ' : Sg} (a b c : Int) (h1 : 143 ∈ S) (h2 : ∀ k ∈ [140, 141, 142], k ∈ T) (h : fr S T σ σ') : fr S T σ (aV σ' a b c) := fr_I _ _ h1 (fr_A _ _ _ (h2 _ (by decide)) (fr_A _ _ _ (h2 _ (by decide)) (fr_A _ _ _ (h2 _ (by decide)) h)))
theorem fr_aS {S T : List Nat} {σ σ' : Sg} (a b : Int) (h1 : 62 ∈ S) (h2 : ∀ k ∈ [60, 61], k ∈ T) (h : fr S T σ σ') : fr S T σ (aS σ' a b) := fr_I _ _ h1 (fr_A _ _ _ (h2 _ (by decide)) (fr_A _ _ _ (h2 _ (by decide)) h))
theorem fr_aW {S T : List Nat} {σ σ' : Sg} (a b c x : Int) (h1 : 164 ∈ S) (h2 : ∀ k ∈ [160, 161, 162, 163], k ∈ T) (h : fr S T σ σ') : fr S T σ (aW σ' a b c x) := fr_I _ _ h1 (fr_A _ _ _ (h2 _ (by decide)) (fr_A _ _ _ (h2 _ (by decide)) (fr_A _ _ _ (h2 _ (by decide)) (fr_A _ _ _ (h2 _ (by decide)) h))))
theorem fr_aM {S T : List Nat} {σ σ' : Sg} (x : Int) (h1 : ∀ k ∈ [45, 46], k ∈ S) (h2 : 44 ∈ T) (h : fr S T σ σ') : fr S T σ (aM σ' x) := fr_I _ _ (h1 _ (by decide)) (fr_I _ _ (h1 _ (by decide)) (fr_A _ _ _ h2 h))
theorem fr_aG {S T : List Nat} {σ σ' : Sg} (t s : Int) (h1 : ∀ k ∈ [47, 48, 49], k ∈ S) (h : fr S T σ σ') : fr S T σ (aG σ' t s) := fr_I _ _ (h1 _ (by decide)) (fr_I _ _ (h1 _ (by decide)) (fr_I _ _ (h1 _ (by decide)) h))
theorem fr_mS {S T : List Nat} {σ σ' : Sg} (k w x : Int) (h1 : 209 ∈ S) (h2 : ∀ k ∈ [210, 211, 212], k ∈ T) (h : fr S T σ σ') : fr S T σ (mS σ' k w x) := fr_A _ _ _ (h2 _ (by decide)) (fr_A _ _ _ (h2 _ (by decide)) (fr_A _ _ _ (h2 _ (by decide)) (fr_I _ _ h1 h)))
theorem fr_mW3 {S T : List Nat} {σ σ' : Sg} (a b c x y : Int) (h1 : ∀ k ∈ [216, 225], k ∈ S) (h2 : ∀ k ∈ [217, 218, 219, 220, 221, 222], k ∈ T) (h : fr S T σ σ') : fr S T σ (mW3 σ' a b c x y) := fr_I _ _ (h1 _ (by decide)) (fr_A _ _ _ (h2 _ (by decide)) (fr_A _ _ _ (h2 _ (by decide)) (fr_A _ _ _ (h2 _ (by decide)) (fr_A _ _ _ (h2 _ (by decide)) (fr_A _ _ _ (h2 _ (by decide)) (fr_A _ _ _ (h2 _ (by decide)) (fr_I _ _ (h1 _ (by decide)) h)))))))
theorem fr_mF {S T : List Nat} {σ σ' : Sg} (a b : Int) (h1 : 213 ∈ S) (h2 : ∀ k ∈ [214, 215], k ∈ T) (h : fr S T σ σ') : fr S T σ (mF σ' a b) := fr_A _ _ _ (h2 _ (by decide)) (fr_A _ _ _ (h2 _ (by decide)) (fr_I _ _ h1 h))
theorem fr_mG {S T : List Nat} {σ σ' : Sg} (a b : Int) (h1 : ∀ k ∈ [226, 227], k ∈ S) (h : fr S T σ σ') : fr S T σ (mG σ' a b) := fr_I _ _ (h1 _ (by decide)) (fr_I _ _ (h1 _ (by decide)) h)
set_option maxHeartbeats 4000000 in
theorem begin_step {σc σm : Sg} {d : Int → Int} {fuel next steps mk : Int} (hS : SIM σc σm d fuel next steps mk) (hR : RT σc σm) (hTI : TI σm) (hg : gI σc 49 = -1) (hf : steps < fuel) {N : Nat} (hN : 10 ≤ N) : ∃ (σc' σm' : Sg) (d' : Int → Int) (next' : Int), f2_beginTerm N (tick σc) = some (σc', 0) ∧ f10_begin N σm next (gI σm 228) = some (σm', next') ∧ fr CWI CWA σc σc' ∧ fr MWI MWA σm σm' ∧ SIM σc' σm' d' fuel next' (steps + 1) (mk + 1) := by
  obtain ⟨hTB, hnow, hst, hcn, he, hcur⟩ := hS
  rcases hcur with ⟨-, hnx, hnr, htk, hsc, hnd⟩ | ⟨q, -, -⟩
  case inr => omega
  have hTT := hTI.2 next hnr.1 hnr.2
  have h60 : 0 ≤ next ∧ next < 60 := by have := hTI.1.2; omega
  obtain ⟨c1, c2, c3, c4, c5⟩ := hcn
  have c5 : gI σc 62 ≤ steps + 1 := by omega
  -- the class's state as the step begins
  obtain ⟨τ, hτ⟩ : ∃ τ, tick σc = τ := ⟨_, rfl⟩
  have fτ : fr [51, 52] [] σc τ := by rw [← hτ]; exact fr_tick _ (by decide) (by decide)
  have t51 : gI τ 51 = fuel - (steps + 1) := by rw [← hτ]; unfold tick; simp only [gI_sI, Nat.reduceEqDiff, reduceIte]; omega
  have t52 : gI τ 52 = steps + 1 := by rw [← hτ]; unfold tick; simp only [gI_sI, Nat.reduceEqDiff, reduceIte]; omega
  have t47 : gI τ 47 = next := (fτ.1 47 (by decide)).trans hnx.symm
  have t48 := fτ.1 48 (by decide)
  have t46 := fτ.1 46 (by decide)
  have t49 := (fτ.1 49 (by decide)).trans hg
  have t50 := (fτ.1 50 (by decide)).trans he.1
  have t45 := fτ.1 45 (by decide)
  have t62 := fτ.1 62 (by decide)
  have t143 := fτ.1 143 (by decide)
  have t164 := fτ.1 164 (by decide)
  have aK : gA τ 80 next = gA σm 202 next := (fτ.2 80 (by decide) _).trans (hR.2.1 next)
  have aA : gA τ 81 next = gA σm 203 next := (fτ.2 81 (by decide) _).trans (hR.2.2.1 next)
  have fτ' : fr CWI CWA σc τ := fr_m (by decide) (by decide) fτ
  -- the reference's
  obtain ⟨μ, hμ⟩ : ∃ μ, sI σm 228 (gI σm 228) = μ := ⟨_, rfl⟩
  have fμ : fr [228] [] σm μ := by rw [← hμ]; exact fr_I _ _ (by decide) (fr_r _)
  have m228 : gI μ 228 = gI σc 48 + 1 := by rw [← hμ, gI_sI, if_pos rfl]; exact htk
  have m225 := fμ.1 225 (by decide)
  have m229 := (fμ.1 229 (by decide)).trans he.2
  have m209 := fμ.1 209 (by decide)
  have m213 := fμ.1 213 (by decide)
  have m216 := fμ.1 216 (by decide)
  have m223 := fμ.1 223 (by decide)
  have m201 := fμ.1 201 (by decide)
  have fμ' : fr MWI MWA σm μ := fr_m (by decide) (by decide) fμ
  have TB1 : TB τ μ d := TB_fr fτ fμ (by decide) (by decide) (by decide) (by decide) hTB
  have hv0 : 0 ≤ gI τ 143 ∧ gI τ 143 < 200 := ⟨TB1.2.2.2.1, by omega⟩
  have hs0 : 0 ≤ gI τ 62 := TB1.1.1.2
  have hw0 : 0 ≤ gI τ 164 ∧ gI τ 164 < 200 := ⟨TB1.2.1.1.2, by omega⟩
  have hk0 : 0 ≤ gI τ 45 ∧ gI τ 45 < 200 := ⟨TB1.2.2.1.1.2, by omega⟩
  have hf0 : 0 ≤ gI μ 213 ∧ gI μ 213 < 209 := ⟨TB1.2.2.2.2, by omega⟩
  have hb0 : 0 ≤ gI μ 209 ∧ gI μ 209 < 319 := by rw [TB1.1.1.1]; omega
  have hwm : 0 ≤ gI μ 216 ∧ gI μ 216 < 319 := by rw [TB1.2.1.1.1]; omega
  have hkm : 0 ≤ gI μ 223 ∧ gI μ 223 < 320 := by rw [TB1.2.2.1.1.1]; omega
  have w216 : gI μ 216 = gI τ 164 := TB1.2.1.1.1
  have s209 : gI μ 209 = gI τ 62 := TB1.1.1.1
  have k223 : gI μ 223 = gI τ 45 := TB1.2.2.1.1.1
  have hst' : gI τ 52 = steps + 1 ∧ gI τ 51 = fuel - (steps + 1) ∧ 0 ≤ steps + 1 ∧ steps + 1 ≤ fuel ∧ fuel ≤ 200 := ⟨t52, t51, by omega, by omega, hst.2.2.2.2⟩
  have hA3 : 3 ≤ gA σm 202 next → 0 ≤ gA σm 203 next ∧ gA σm 203 next < gI σm 201 := fun h => by have := TT_a hTT h; omega
  have hna := TT_na hTT
  have aAμ : gA μ 203 next = gA σm 203 next := fμ.2 203 (by decide) _
  have aNμ : ∀ i, gA μ 208 i = gA σm 208 i := fun i => fμ.2 208 (by decide) i
  have aKμ : ∀ i, gA μ 202 i = gA σm 202 i := fun i => fμ.2 202 (by decide) i
  unfold f2_beginTerm f10_begin
  simp only [hτ, hμ, nx_d, t47, aK, aA, t46, t48]
  rw [ck_t h60, ck_t h60, ck_t h60]
  rcases kinds hTT.1 with hk | hk | hk | hk | hk | hk | hk | hk | hk | hk | hk | hk <;> simp only [hk, Int.reduceEq, reduceIte, ck_t h60, aAμ]
  · -- a number
    rw [c_aV hv0, bd_s, m_mG, bd_s]
    refine ⟨_, _, d, _, rfl, rfl, fr_I _ _ (by decide) (fr_aV _ _ _ (by decide) (by decide) fτ'), fr_mG _ _ (by decide) fμ', ?_⟩
    refine fin_val (TB_V _ _ _ TB1) ?_ ?_ ?_ ?_ (new_V hv0.1 (Or.inl ⟨Or.inl rfl, rfl⟩))
    all_goals (unfold aV; simp only [gI_sI, gI_sA, Nat.reduceEqDiff, reduceIte])
    · omega
    · exact hst'
    · omega
    · exact ⟨t50, m229⟩
  · -- a truth
    rw [c_aV hv0, bd_s, m_mG, bd_s]
    refine ⟨_, _, d, _, rfl, rfl, fr_I _ _ (by decide) (fr_aV _ _ _ (by decide) (by decide) fτ'), fr_mG _ _ (by decide) fμ', ?_⟩
    refine fin_val (TB_V _ _ _ TB1) ?_ ?_ ?_ ?_ (new_V hv0.1 (Or.inl ⟨Or.inr rfl, rfl⟩))
    all_goals (unfold aV; simp only [gI_sI, gI_sA, Nat.reduceEqDiff, reduceIte])
    · omega
    · exact hst'
    · omega
    · exact ⟨t50, m229⟩
  · -- a variable
    have hp := hTT.2.1
    have hN2 : gA σm 208 next = gA σm 203 next + 1 := by rw [hTT.2.2.2.2.1]; unfold nT; rw [if_pos hk]
    obtain ⟨k, hk5⟩ : ∃ k : Nat, gA σm 203 next = k := ⟨(gA σm 203 next).toNat, by omega⟩
    obtain ⟨j, hj, e1, e2⟩ := look_both (σc := τ) (σm := μ) TB1.1 (by omega) N h60 aAμ (by omega) k N N (gI σc 48) 0 (by omega) (by omega) (by omega) (by omega) (by omega) (by omega)
    rw [f3_look, e1, bd_s, htk, e2]
    have hVR := (TB1.1.2.2 j hj.1 hj.2).1
    refine ⟨_, _, d, _, rfl, rfl, fr_I _ _ (by decide) fτ', fr_mG _ _ (by decide) fμ', ?_⟩
    exact fin_val TB1 (by omega) hst' (by omega) ⟨t50, m229⟩ hVR
  · -- a function
    rw [c_aV hv0, bd_s, m_mF hf0, bd_s, m_mG, bd_s]
    refine ⟨_, _, d, _, rfl, rfl, fr_I _ _ (by decide) (fr_aV _ _ _ (by decide) (by decide) fτ'), fr_mG _ _ (by decide) (fr_mF _ _ (by decide) (by decide) fμ'), ?_⟩
    refine fin_val (TB_V _ _ _ (TB_F _ _ TB1)) ?_ ?_ ?_ ?_ (new_V hv0.1 (Or.inr (Or.inl ⟨rfl, ?_, ?_, ?_, ?_, ?_, ?_, ?_⟩)))
    all_goals (try simp only [aV, mF, gI_sI, gI_sA, gA_sI, gA_sA, Nat.reduceEqDiff, reduceIte])
    all_goals first | omega | exact hst' | exact ⟨t50, m229⟩ | exact htk | (rw [aKμ]; first | exact Or.inl hk | exact Or.inr hk) | (rw [aNμ]; exact hnd)
  · -- a term that waits
    have hA := hA3 (by omega)
    rw [c_aW hw0, bd_s, m_mW3 hwm, bd_s, htk]
    have TB2 : TB (aW τ next (gI σc 48) (-1) (gI σc 46)) (mW3 μ 4 next (gI σc 48 + 1) (-1) 0) d := TB_W TB1 (by omega) (by rw [aKμ, hk]) (by rw [aKμ, hk]; decide) (by omega) (by rw [aNμ]; exact hnd) (by omega) (by omega) (Or.inl ⟨rfl, rfl⟩)
    refine ⟨_, _, d, gA σm 203 next, rfl, by show some (_, gA μ 203 next) = _; rw [aAμ], fr_I _ _ (by decide) (fr_I _ _ (by decide) (fr_aW _ _ _ _ (by decide) (by decide) fτ')), fr_mW3 _ _ _ _ _ (by decide) (by decide) fμ', ?_⟩
    refine fin_go (s := gI σc 48) (TB_fr (S := [46, 47]) (T := []) (S' := []) (T' := []) (fr_I _ _ (by decide) (fr_I _ _ (by decide) (fr_r _))) (fr_r _) (by decide) (by decide) (by decide) (by decide) TB2) ?_ ?_ ?_ ?_ ?_ ?_ ?_ ?_ ?_ ?_ ?_
    all_goals (try simp only [aW, mW3, gI_sI, gI_sA, gA_sI, gA_sA, Nat.reduceEqDiff, reduceIte])
    all_goals first | omega | exact hst' | exact ⟨t50, m229⟩ | exact t48 | exact t49 | (rw [aNμ]; have := hna.1 (by omega); omega)
  · -- a term that waits
    have hA := hA3 (by omega)
    rw [c_aW hw0, bd_s, m_mW3 hwm, bd_s, htk]
    have TB2 : TB (aW τ next (gI σc 48) (-1) (gI σc 46)) (mW3 μ 5 next (gI σc 48 + 1) (-1) 0) d := TB_W TB1 (by omega) (by rw [aKμ, hk]) (by rw [aKμ, hk]; decide) (by omega) (by rw [aNμ]; exact hnd) (by omega) (by omega) (Or.inl ⟨rfl, rfl⟩)
    refine ⟨_, _, d, gA σm 203 next, rfl, by show some (_, gA μ 203 next) = _; rw [aAμ], fr_I _ _ (by decide) (fr_I _ _ (by decide) (fr_aW _ _ _ _ (by decide) (by decide) fτ')), fr_mW3 _ _ _ _ _ (by decide) (by decide) fμ', ?_⟩
    refine fin_go (s := gI σc 48) (TB_fr (S := [46, 47]) (T := []) (S' := []) (T' := []) (fr_I _ _ (by decide) (fr_I _ _ (by decide) (fr_r _))) (fr_r _) (by decide) (by decide) (by decide) (by decide) TB2) ?_ ?_ ?_ ?_ ?_ ?_ ?_ ?_ ?_ ?_ ?_
    all_goals (try simp only [aW, mW3, gI_sI, gI_sA, gA_sI, gA_sA, Nat.reduceEqDiff, reduceIte])
    all_goals first | omega | exact hst' | exact ⟨t50, m229⟩ | exact t48 | exact t49 | (rw [aNμ]; have := hna.1 (by omega); omega)
  · -- a term that waits
    have hA := hA3 (by omega)
    rw [c_aW hw0, bd_s, m_mW3 hwm, bd_s, htk]
    have TB2 : TB (aW τ next (gI σc 48) (-1) (gI σc 46)) (mW3 μ 6 next (gI σc 48 + 1) (-1) 0) d := TB_W TB1 (by omega) (by rw [aKμ, hk]) (by rw [aKμ, hk]; decide) (by omega) (by rw [aNμ]; exact hnd) (by omega) (by omega) (Or.inl ⟨rfl, rfl⟩)
    refine ⟨_, _, d, gA σm 203 next, rfl, by show some (_, gA μ 203 next) = _; rw [aAμ], fr_I _ _ (by decide) (fr_I _ _ (by decide) (fr_aW _ _ _ _ (by decide) (by decide) fτ')), fr_mW3 _ _ _ _ _ (by decide) (by decide) fμ', ?_⟩
    refine fin_go (s := gI σc 48) (TB_fr (S := [46, 47]) (T := []) (S' := []) (T' := []) (fr_I _ _ (by decide) (fr_I _ _ (by decide) (fr_r _))) (fr_r _) (by decide) (by decide) (by decide) (by decide) TB2) ?_ ?_ ?_ ?_ ?_ ?_ ?_ ?_ ?_ ?_ ?_
    all_goals (try simp only [aW, mW3, gI_sI, gI_sA, gA_sI, gA_sA, Nat.reduceEqDiff, reduceIte])
    all_goals first | omega | exact hst' | exact ⟨t50, m229⟩ | exact t48 | exact t49 | (rw [aNμ]; have := hna.1 (by omega); omega)
  · -- a term that waits
    have hA := hA3 (by omega)
    rw [c_aW hw0, bd_s, m_mW3 hwm, bd_s, htk]
    have TB2 : TB (aW τ next (gI σc 48) (-1) (gI σc 46)) (mW3 μ 7 next (gI σc 48 + 1) (-1) 0) d := TB_W TB1 (by omega) (by rw [aKμ, hk]) (by rw [aKμ, hk]; decide) (by omega) (by rw [aNμ]; exact hnd) (by omega) (by omega) (Or.inl ⟨rfl, rfl⟩)
    refine ⟨_, _, d, gA σm 203 next, rfl, by show some (_, gA μ 203 next) = _; rw [aAμ], fr_I _ _ (by decide) (fr_I _ _ (by decide) (fr_aW _ _ _ _ (by decide) (by decide) fτ')), fr_mW3 _ _ _ _ _ (by decide) (by decide) fμ', ?_⟩
    refine fin_go (s := gI σc 48) (TB_fr (S := [46, 47]) (T := []) (S' := []) (T' := []) (fr_I _ _ (by decide) (fr_I _ _ (by decide) (fr_r _))) (fr_r _) (by decide) (by decide) (by decide) (by decide) TB2) ?_ ?_ ?_ ?_ ?_ ?_ ?_ ?_ ?_ ?_ ?_
    all_goals (try simp only [aW, mW3, gI_sI, gI_sA, gA_sI, gA_sA, Nat.reduceEqDiff, reduceIte])
    all_goals first | omega | exact hst' | exact ⟨t50, m229⟩ | exact t48 | exact t49 | (rw [aNμ]; have := hna.1 (by omega); omega)
  · -- a term that waits
    have hA := hA3 (by omega)
    rw [c_aW hw0, bd_s, m_mW3 hwm, bd_s, htk]
    have TB2 : TB (aW τ next (gI σc 48) (-1) (gI σc 46)) (mW3 μ 8 next (gI σc 48 + 1) (-1) 0) d := TB_W TB1 (by omega) (by rw [aKμ, hk]) (by rw [aKμ, hk]; decide) (by omega) (by rw [aNμ]; exact hnd) (by omega) (by omega) (Or.inl ⟨rfl, rfl⟩)
    refine ⟨_, _, d, gA σm 203 next, rfl, by show some (_, gA μ 203 next) = _; rw [aAμ], fr_I _ _ (by decide) (fr_I _ _ (by decide) (fr_aW _ _ _ _ (by decide) (by decide) fτ')), fr_mW3 _ _ _ _ _ (by decide) (by decide) fμ', ?_⟩
    refine fin_go (s := gI σc 48) (TB_fr (S := [46, 47]) (T := []) (S' := []) (T' := []) (fr_I _ _ (by decide) (fr_I _ _ (by decide) (fr_r _))) (fr_r _) (by decide) (by decide) (by decide) (by decide) TB2) ?_ ?_ ?_ ?_ ?_ ?_ ?_ ?_ ?_ ?_ ?_
    all_goals (try simp only [aW, mW3, gI_sI, gI_sA, gA_sI, gA_sA, Nat.reduceEqDiff, reduceIte])
    all_goals first | omega | exact hst' | exact ⟨t50, m229⟩ | exact t48 | exact t49 | (rw [aNμ]; have := hna.1 (by omega); omega)
  · -- a mark
    have hA := hA3 (by omega)
    rw [c_aM hk0, bd_s, ck_t hkm, gI_sA, ck_t (show inR (gI μ 223 + 1) from ⟨by omega, by omega⟩)]
    have TB2 := TB_M (x := -1) (y := 0) TB1 (by omega) (by omega)
    refine ⟨_, _, d, gA σm 203 next, rfl, by show some (_, gA μ 203 next) = _; rw [aAμ], fr_I _ _ (by decide) (fr_aM _ (by decide) (by decide) fτ'), fr_I _ _ (by decide) (fr_I _ _ (by decide) (fr_A _ _ _ (by decide) fμ')), ?_⟩
    refine fin_go (s := gI σc 48) (TB_fr (S := [47]) (T := []) (S' := []) (T' := []) (fr_I _ _ (by decide) (fr_r _)) (fr_r _) (by decide) (by decide) (by decide) (by decide) TB2) ?_ ?_ ?_ ?_ ?_ ?_ ?_ ?_ ?_ ?_ ?_
    all_goals (try simp only [aM, gI_sI, gI_sA, gA_sI, gA_sA, Nat.reduceEqDiff, reduceIte])
    all_goals first | omega | exact hst' | exact ⟨t50, m229⟩ | exact t48 | exact t49 | (rw [aNμ]; have := hna.1 (by omega); omega)
  · -- a taking
    have hA := hA3 (by omega)
    have q1 : gI (aV τ 3 (gI σc 46) (-1)) 62 = gI τ 62 := by simp only [aV, gI_sI, gI_sA, Nat.reduceEqDiff, reduceIte]
    have q2 : gI (aV τ 3 (gI σc 46) (-1)) 48 = gI σc 48 := by simp only [aV, gI_sI, gI_sA, Nat.reduceEqDiff, reduceIte]; exact t48
    rw [c_aV hv0, bd_s, q2, c_aS (by rw [q1]; omega), bd_s, m_mS hb0, bd_s, htk]
    have hVR : VR (aV τ 3 (gI σc 46) (-1)) μ d (gI τ 143) 3 (gI μ 225) := new_V hv0.1 (Or.inr (Or.inr ⟨rfl, by omega, by omega, by omega⟩))
    have hd2 : dU d (gI τ 62) (gI σc 48) (gI τ 62) = d (gI σc 48) + 1 := by unfold dU; rw [if_pos rfl]
    have TB2 := TB_S (o := gI σc 48) (TB_V _ _ _ TB1) hVR (by rw [q1]; omega)
    refine ⟨_, _, dU d (gI (aV τ 3 (gI σc 46) (-1)) 62) (gI σc 48), gA σm 203 next, rfl, by show some (_, gA μ 203 next) = _; rw [aAμ], fr_I _ _ (by decide) (fr_I _ _ (by decide) (fr_I _ _ (by decide) (fr_aS _ _ (by decide) (by decide) (fr_aV _ _ _ (by decide) (by decide) fτ')))), fr_I _ _ (by decide) (fr_I _ _ (by decide) (fr_mS _ _ _ (by decide) (by decide) fμ')), ?_⟩
    refine fin_go (s := gI τ 62) (TB_fr (S := [46, 47, 48]) (T := []) (S' := [225, 228]) (T' := []) (fr_I _ _ (by decide) (fr_I _ _ (by decide) (fr_I _ _ (by decide) (fr_r _)))) (fr_I _ _ (by decide) (fr_I _ _ (by decide) (fr_r _))) (by decide) (by decide) (by decide) (by decide) TB2) ?_ ?_ ?_ ?_ ?_ ?_ ?_ ?_ ?_ ?_ ?_
    all_goals (try simp only [aS, aV, mS, gI_sI, gI_sA, gA_sI, gA_sA, Nat.reduceEqDiff, reduceIte])
    all_goals first | omega | exact hst' | exact ⟨t50, m229⟩ | exact t48 | exact t49 | (rw [aNμ]; have := hna.2.1 (Or.inr hk); omega)
  · -- FIX
    rw [c_aV hv0, bd_s, m_mF hf0, bd_s, m_mG, bd_s]
    refine ⟨_, _, d, _, rfl, rfl, fr_I _ _ (by decide) (fr_aV _ _ _ (by decide) (by decide) fτ'), fr_mG _ _ (by decide) (fr_mF _ _ (by decide) (by decide) fμ'), ?_⟩
    refine fin_val (TB_V _ _ _ (TB_F _ _ TB1)) ?_ ?_ ?_ ?_ (new_V hv0.1 (Or.inr (Or.inl ⟨rfl, ?_, ?_, ?_, ?_, ?_, ?_, ?_⟩)))
    all_goals (try simp only [aV, mF, gI_sI, gI_sA, gA_sI, gA_sA, Nat.reduceEqDiff, reduceIte])
    all_goals first | omega | exact hst' | exact ⟨t50, m229⟩ | exact htk | (rw [aKμ]; first | exact Or.inl hk | exact Or.inr hk) | (rw [aNμ]; exact hnd)
