theorem fin_keep {σc σm : Sg} {d : Int → Int} {fuel steps mk : Int} (hTB : TB σc σm d) (hnow : gI σm 225 = gI σc 46 + 1 ∧ -1 ≤ gI σc 46 ∧ gI σc 46 < gI σc 164) (hst : gI σc 52 = steps ∧ gI σc 51 = fuel - steps ∧ 0 ≤ steps ∧ steps ≤ fuel ∧ fuel ≤ 200) (hc : gI σc 143 ≤ steps ∧ gI σc 164 ≤ steps ∧ (gI σc 45 ≤ mk ∧ mk ≤ steps) ∧ gI σm 213 ≤ steps ∧ gI σc 62 ≤ steps) (he : gI σc 50 = 3 ∧ gI σm 229 = 0) (hv : VR σc σm d (gI σc 49) (gI σm 226) (gI σm 227)) : SIM σc σm d fuel (-1) steps mk :=
  ⟨hTB, hnow, hst, ⟨hc.1, hc.2.1, hc.2.2.1, hc.2.2.2.1, Or.inl hc.2.2.2.2⟩, he, Or.inr ⟨hv.1.1, rfl, hv⟩⟩
set_option maxHeartbeats 4000000 in
theorem bring_step {σc σm : Sg} {d : Int → Int} {fuel next steps mk : Int} (hS : SIM σc σm d fuel next steps mk) (hR : RT σc σm) (hTI : TI σm) (hg : 0 ≤ gI σc 49) (hto : 0 ≤ gI σc 46) (hf : steps < fuel) : ∃ (σc' σm' : Sg) (r : Int), f2_bringValue (tick σc) = some (σc', 0) ∧ f10_goOn σm = some (σm', r) ∧ fr CWI CWA σc σc' ∧ fr MWI MWA σm σm' ∧ ((gI σc' 50 = 1 ∧ gI σm' 229 = 1) ∨ ∃ d', SIM σc' σm' d' fuel r (steps + 1) (mk + 1) ∧ gI σm' 229 = 0) := by
  obtain ⟨hTB, hnow, hst, hcn, he, hcur⟩ := hS
  rcases hcur with ⟨q, -⟩ | ⟨-, -, hVR⟩
  case inl => omega
  obtain ⟨c1, c2, c3, c4, c5⟩ := hcn
  have c5 : gI σc 62 ≤ steps := by omega
  -- what waits
  obtain ⟨j, hj⟩ : ∃ j, gI σc 46 = j := ⟨_, rfl⟩
  rw [hj] at hnow hto
  obtain ⟨g1, g2, g3, g4, g5, g6, g7, g8, g9, g10⟩ := hTB.2.1.2 j hto hnow.2.2
  obtain ⟨t, ht⟩ : ∃ t, gA σc 160 j = t := ⟨_, rfl⟩
  obtain ⟨sc, hsc⟩ : ∃ s, gA σc 161 j = s := ⟨_, rfl⟩
  obtain ⟨nx0, hnx0⟩ : ∃ s, gA σc 163 j = s := ⟨_, rfl⟩
  rw [ht] at g1 g2 g3 g4 g7
  rw [hsc] at g5 g6 g7
  rw [hnx0] at g8 g9
  have hTT := hTI.2 t g2.1 g2.2
  have h60 : 0 ≤ t ∧ t < 60 := by have := hTI.1.2; omega
  -- the class's state
  obtain ⟨τ, hτ⟩ : ∃ τ, tick σc = τ := ⟨_, rfl⟩
  have fτ : fr [51, 52] [] σc τ := by rw [← hτ]; exact fr_tick _ (by decide) (by decide)
  obtain ⟨κ, hκ⟩ : ∃ κ, sI τ 46 nx0 = κ := ⟨_, rfl⟩
  have fκ : fr [46, 51, 52] [] σc κ := by rw [← hκ]; exact fr_I _ _ (by decide) (fr_m (by decide) (by decide) fτ)
  have k51 : gI κ 51 = fuel - (steps + 1) := by rw [← hκ, ← hτ]; unfold tick; simp only [gI_sI, Nat.reduceEqDiff, reduceIte]; omega
  have k52 : gI κ 52 = steps + 1 := by rw [← hκ, ← hτ]; unfold tick; simp only [gI_sI, Nat.reduceEqDiff, reduceIte]; omega
  have k46 : gI κ 46 = nx0 := by rw [← hκ, gI_sI, if_pos rfl]
  have k49 := fκ.1 49 (by decide)
  have k50 := (fκ.1 50 (by decide)).trans he.1
  have k45 := fκ.1 45 (by decide)
  have k62 := fκ.1 62 (by decide)
  have k143 := fκ.1 143 (by decide)
  have k164 := fκ.1 164 (by decide)
  have aB : gA κ 82 t = gA σm 204 t := (fκ.2 82 (by decide) _).trans (hR.2.2.2.1 t)
  have aC : gA κ 83 t = gA σm 205 t := (fκ.2 83 (by decide) _).trans (hR.2.2.2.2.1 t)
  have fκ' : fr CWI CWA σc κ := fr_m (by decide) (by decide) fκ
  have t46 : gI τ 46 = j := (fτ.1 46 (by decide)).trans hj
  have x160 : gA τ 160 j = t := (fτ.2 160 (by decide) _).trans ht
  have x163 : gA τ 163 j = nx0 := (fτ.2 163 (by decide) _).trans hnx0
  have x80 : gA τ 80 t = gA σm 202 t := (fτ.2 80 (by decide) _).trans (hR.2.1 t)
  have x161 : gA κ 161 j = sc := (fκ.2 161 (by decide) _).trans hsc
  have x162 : gA κ 162 j = gA σc 162 j := fκ.2 162 (by decide) _
  -- the reference's
  obtain ⟨μ, hμ⟩ : ∃ μ, sI (sI σm 225 (nx0 + 1)) 228 (sc + 1) = μ := ⟨_, rfl⟩
  have fμ : fr [225, 228] [] σm μ := by rw [← hμ]; exact fr_I _ _ (by decide) (fr_I _ _ (by decide) (fr_r _))
  have m228 : gI μ 228 = sc + 1 := by rw [← hμ, gI_sI, if_pos rfl]
  have m225 : gI μ 225 = nx0 + 1 := by rw [← hμ, gI_sI, if_neg (by decide), gI_sI, if_pos rfl]
  have m229 := (fμ.1 229 (by decide)).trans he.2
  have m226 := fμ.1 226 (by decide)
  have m227 := fμ.1 227 (by decide)
  have m213 := fμ.1 213 (by decide)
  have m201 := fμ.1 201 (by decide)
  have bB : gA μ 204 t = gA σm 204 t := fμ.2 204 (by decide) _
  have bC : gA μ 205 t = gA σm 205 t := fμ.2 205 (by decide) _
  have bN : ∀ i, gA μ 208 i = gA σm 208 i := fun i => fμ.2 208 (by decide) i
  have bK : ∀ i, gA μ 202 i = gA σm 202 i := fun i => fμ.2 202 (by decide) i
  have fμ' : fr MWI MWA σm μ := fr_m (by decide) (by decide) fμ
  have TB1 : TB κ μ d := TB_fr fκ fμ (by decide) (by decide) (by decide) (by decide) hTB
  have hE := Ext_fr d fκ fμ (by decide) (by decide) (by decide) (by decide)
  have VR1 : VR κ μ d (gI σc 49) (gI σm 226) (gI σm 227) := VR_m hE hVR
  have hs0 : 0 ≤ gI κ 62 := TB1.1.1.2
  have hw0 : 0 ≤ gI κ 164 ∧ gI κ 164 < 200 := ⟨TB1.2.1.1.2, by omega⟩
  have hv0 : 0 ≤ gI κ 143 ∧ gI κ 143 < 200 := ⟨TB1.2.2.2.1, by omega⟩
  have hk0 : 0 ≤ gI κ 45 ∧ gI κ 45 < 200 := ⟨TB1.2.2.1.1.2, by omega⟩
  have s209 : gI μ 209 = gI κ 62 := TB1.1.1.1
  have w216 : gI μ 216 = gI κ 164 := TB1.2.1.1.1
  have p223 : gI μ 223 = gI κ 45 := TB1.2.2.1.1.1
  have hb0 : 0 ≤ gI μ 209 ∧ gI μ 209 < 319 := by omega
  have hwm : 0 ≤ gI μ 216 ∧ gI μ 216 < 319 := by omega
  have hg200 : 0 ≤ gI σc 49 ∧ gI σc 49 < 200 := by have := hVR.1; omega
  have hst' : gI κ 52 = steps + 1 ∧ gI κ 51 = fuel - (steps + 1) ∧ 0 ≤ steps + 1 ∧ steps + 1 ≤ fuel ∧ fuel ≤ 200 := ⟨k52, k51, by omega, by omega, hst.2.2.2.2⟩
  have hj200 : 0 ≤ j ∧ j < 200 := by omega
  have hnow320 : 0 ≤ j + 1 ∧ j + 1 < 320 := by omega
  have hB : 0 ≤ gA σm 204 t ∧ gA σm 204 t < gI σm 201 := by have := TT_b hTT g4; omega
  have hnb := TT_nb hTT
  unfold f2_bringValue f10_goOn b10_goOn_34
  simp only [hτ, nx_d, t46, x160, x163, hκ, x80, x161, x162, k46, k49, hnow.1, g1, g3, g5, g8, gA_sI, hμ]
  rw [ck_t hj200, ck_t h60, ck_t hj200, ck_t hnow320, ck_t hnow320, ck_t hnow320]
  simp only [ck_t hj200, ck_t h60, ck_t hnow320, aB, m226, m227, bB, bC]
  have vform : gA κ 140 (gI σc 49) = gI σm 226 := VR1.2.1
  have vcont : (gI σm 226 = 0 ∨ gI σm 226 = 1) → gA κ 141 (gI σc 49) = gI σm 227 := fun h => by
    rcases VR1.2.2 with q | q | q
    · exact q.2
    · omega
    · omega
  by_cases h7 : gA σm 202 t = 7
  · -- IF
    simp only [if_pos h7, ite_self]
    unfold f2_choose b10_goOn_76
    simp only [k49, vform, nx_d, c_aG, bd_s, aB, aC, gI_sI, gA_sI, Nat.reduceEqDiff, reduceIte, m227, ck01, ck11, bB, bC]
    rw [ck_t hg200]
    by_cases h1 : gI σm 226 = 1
    · rw [if_pos h1, if_pos h1, ck_t hg200, vcont (Or.inr h1)]
      have hC := TT_cc hTT h7
      by_cases hw : gI σm 227 = 1
      · rw [if_pos hw, if_pos hw, ck_t h60, ck_t h60]
        refine ⟨_, _, _, rfl, rfl, fr_aG _ _ (by decide) fκ', fr_I _ _ (by decide) fμ', Or.inr ⟨d, ?_, by rw [gI_sI, if_pos rfl]⟩⟩
        refine fin_go (s := sc) (TB_fr (S := [47, 48, 49]) (T := []) (S' := [229]) (T' := []) (fr_aG _ _ (by decide) (fr_r _)) (fr_I _ _ (by decide) (fr_r _)) (by decide) (by decide) (by decide) (by decide) TB1) ?_ ?_ ?_ ?_ ?_ ?_ ?_ ?_ ?_ ?_ ?_
        all_goals (try simp only [aG, gI_sI, gI_sA, gA_sI, gA_sA, Nat.reduceEqDiff, reduceIte])
        all_goals first | omega | exact hst' | exact ⟨k50, trivial⟩ | (rw [bN]; have := hnb.1 (by omega); omega)
      · rw [if_neg hw, if_neg hw, ck_t h60, ck_t h60]
        refine ⟨_, _, _, rfl, rfl, fr_aG _ _ (by decide) fκ', fr_I _ _ (by decide) fμ', Or.inr ⟨d, ?_, by rw [gI_sI, if_pos rfl]⟩⟩
        refine fin_go (s := sc) (TB_fr (S := [47, 48, 49]) (T := []) (S' := [229]) (T' := []) (fr_aG _ _ (by decide) (fr_r _)) (fr_I _ _ (by decide) (fr_r _)) (by decide) (by decide) (by decide) (by decide) TB1) ?_ ?_ ?_ ?_ ?_ ?_ ?_ ?_ ?_ ?_ ?_
        all_goals (try simp only [aG, gI_sI, gI_sA, gA_sI, gA_sA, Nat.reduceEqDiff, reduceIte])
        all_goals first | omega | exact hst' | exact ⟨k50, trivial⟩ | (rw [bN]; have := hnb.2.2 (by omega); omega)
    · rw [if_neg h1, if_neg h1]
      by_cases hw : gI σm 227 = 1
      · rw [if_pos hw, ck_t h60]
        exact ⟨_, _, _, rfl, rfl, fr_I _ _ (by decide) fκ', fr_I _ _ (by decide) fμ', Or.inl ⟨by rw [gI_sI, if_pos rfl], by rw [gI_sI, if_pos rfl]⟩⟩
      · rw [if_neg hw, ck_t h60]
        exact ⟨_, _, _, rfl, rfl, fr_I _ _ (by decide) fκ', fr_I _ _ (by decide) fμ', Or.inl ⟨by rw [gI_sI, if_pos rfl], by rw [gI_sI, if_pos rfl]⟩⟩
  by_cases h8 : gA σm 202 t = 8
  · -- LET
    simp only [if_neg h7, if_pos h8, ite_self]
    rw [c_aS (by omega), bd_s, c_aG, bd_s, m_mS hb0, bd_s]
    have hd2 : dU d (gI κ 62) sc (gI κ 62) = d sc + 1 := by unfold dU; rw [if_pos rfl]
    have TB2 := TB_S (o := sc) TB1 VR1 (by omega)
    refine ⟨_, _, gA σm 204 t, rfl, by show some (_, gA μ 204 t) = _; rw [bB], fr_aG _ _ (by decide) (fr_aS _ _ (by decide) (by decide) fκ'), fr_I _ _ (by decide) (fr_mS _ _ _ (by decide) (by decide) fμ'), Or.inr ⟨dU d (gI κ 62) sc, ?_, by simp only [mS, gI_sI, gI_sA, Nat.reduceEqDiff, reduceIte]; exact m229⟩⟩
    refine fin_go (s := gI κ 62) (TB_fr (S := [47, 48, 49]) (T := []) (S' := [228]) (T' := []) (fr_aG _ _ (by decide) (fr_r _)) (fr_I _ _ (by decide) (fr_r _)) (by decide) (by decide) (by decide) (by decide) TB2) ?_ ?_ ?_ ?_ ?_ ?_ ?_ ?_ ?_ ?_ ?_
    all_goals (try simp only [aG, aS, mS, gI_sI, gI_sA, gA_sI, gA_sA, Nat.reduceEqDiff, reduceIte])
    all_goals first | omega | exact hst' | exact ⟨k50, m229⟩ | (rw [bN]; have := hnb.2.1 (by omega); omega)
  simp only [if_neg h7, if_neg h8]
  rcases g10 with ⟨hh, hh2⟩ | hHV
  · -- the first word's value
    rw [if_pos hh, if_pos hh2, if_neg (by decide), c_aW hw0, bd_s, c_aG, bd_s, m_mW3 hwm, bd_s]
    have TB2 : TB (aW κ t sc (gI σc 49) nx0) (mW3 μ (gA σm 202 t) t (sc + 1) (gI σm 226) (gI σm 227)) d := TB_W TB1 (by omega) (bK t).symm (by rw [bK]; exact g4) (by omega) (by rw [bN]; exact g7) (by omega) (by omega) (Or.inr VR1)
    have y82 : gA (aW κ t sc (gI σc 49) nx0) 82 t = gA σm 204 t := aB
    have y161 : gA (aW κ t sc (gI σc 49) nx0) 161 j = sc := by simp only [aW, gA_sI, gA_sA, Nat.reduceEqDiff, reduceIte]; rw [if_neg (by omega)]; exact x161
    rw [y82, y161]
    refine ⟨_, _, gA σm 204 t, rfl, by show some (_, gA μ 204 t) = _; rw [bB], fr_aG _ _ (by decide) (fr_I _ _ (by decide) (fr_aW _ _ _ _ (by decide) (by decide) fκ')), fr_mW3 _ _ _ _ _ (by decide) (by decide) fμ', Or.inr ⟨d, ?_, by simp only [mW3, gI_sI, gI_sA, Nat.reduceEqDiff, reduceIte]; exact m229⟩⟩
    refine fin_go (s := sc) (TB_fr (S := [46, 47, 48, 49]) (T := []) (S' := []) (T' := []) (fr_aG _ _ (by decide) (fr_I _ _ (by decide) (fr_r _))) (fr_r _) (by decide) (by decide) (by decide) (by decide) TB2) ?_ ?_ ?_ ?_ ?_ ?_ ?_ ?_ ?_ ?_ ?_
    all_goals (try simp only [aG, aW, mW3, gI_sI, gI_sA, gA_sI, gA_sA, Nat.reduceEqDiff, reduceIte])
    all_goals first | omega | exact hst' | exact ⟨k50, m229⟩ | (rw [bN]; have := hnb.1 (by omega); omega)
  -- the second word's
  obtain ⟨hd, hhd⟩ : ∃ v, gA σc 162 j = v := ⟨_, rfl⟩
  obtain ⟨k2, hk2⟩ : ∃ v, gA σm 220 (j + 1) = v := ⟨_, rfl⟩
  obtain ⟨w2, hw2⟩ : ∃ v, gA σm 221 (j + 1) = v := ⟨_, rfl⟩
  rw [hhd, hk2, hw2] at hHV
  have VR2 : VR κ μ d hd k2 w2 := VR_m hE hHV
  have hk2n : k2 ≠ -1 := by rcases VR2.2.2 with q | q | q <;> omega
  have hd200 : 0 ≤ hd ∧ hd < 200 := by have := hHV.1; omega
  have hform : gA κ 140 hd = k2 := VR2.2.1
  rw [hhd, hk2, hw2, if_neg (show ¬ hd = -1 by omega), if_neg hk2n, if_true]
  have y221 : gA μ 221 (j + 1) = w2 := (fμ.2 221 (by decide) _).trans hw2
  by_cases h4 : gA σm 202 t = 4
  · -- CALL
    rw [if_pos h4, if_pos h4]
    unfold f2_callWith f10_call
    rw [ck_t hd200, hform]
    rcases VR2.2.2 with ⟨q1, q2⟩ | ⟨q1, q2, q3, q4, q5, q6, q7, q8⟩ | ⟨q1, q2, q3⟩
    · rw [if_neg (show ¬ k2 = 3 by omega), if_neg (show ¬ k2 = 2 by omega), if_neg (show ¬ k2 = 3 by omega), if_neg (show ¬ k2 = 2 by omega), nx_d, bd_s, ck11, nx_d, bd_s]
      exact ⟨_, _, _, rfl, rfl, fr_I _ _ (by decide) fκ', fr_I _ _ (by decide) fμ', Or.inl ⟨by rw [gI_sI, if_pos rfl], by rw [gI_sI, if_pos rfl]⟩⟩
    · obtain ⟨x, hx⟩ : ∃ x, gA κ 141 hd = x := ⟨_, rfl⟩
      obtain ⟨y, hy⟩ : ∃ x, gA κ 142 hd = x := ⟨_, rfl⟩
      rw [hx] at q3 q5 q6 q8
      rw [hy] at q4 q7 q8
      rw [bN] at q8
      rw [bK] at q6
      rw [m201] at q5
      have hTx := hTI.2 x q5.1 q5.2
      have hx60 : 0 ≤ x ∧ x < 60 := by have := hTI.1.2; omega
      have hAx : 0 ≤ gA σm 203 x ∧ gA σm 203 x < gI σm 201 := by have := TT_a hTx (by omega); omega
      have z80 : gA κ 80 x = gA σm 202 x := (fκ.2 80 (by decide) _).trans (hR.2.1 x)
      have z81 : gA κ 81 x = gA σm 203 x := (fκ.2 81 (by decide) _).trans (hR.2.2.1 x)
      have z203 : gA μ 203 x = gA σm 203 x := fμ.2 203 (by decide) _
      have hw210 : 0 ≤ w2 ∧ w2 < 210 := by omega
      have hna := TT_na hTx
      unfold b2_callWith_85 b10_call_86
      rw [if_neg (show ¬ k2 = 3 by omega), if_pos q1, if_neg (show ¬ k2 = 3 by omega), if_pos q1, hx, hy, ck_t hd200, ck_t hd200, ck_t hx60, ck_t hw210, q3, ck_t hx60, z80, bK, q4]
      rcases q6 with h3 | h11
      · -- FUNCTION
        rw [if_neg (show ¬ gA σm 202 x = 11 by omega), if_neg (show ¬ gA σm 202 x = 11 by omega), ck_t hx60, ck_t hw210, c_aS (by omega), bd_s, z81, c_aG, bd_s, bd_s, m226, m227, m_mS hb0, bd_s, nx_d, ck_t hx60, bd_s]
        have hd2 : dU d (gI κ 62) y (gI κ 62) = d y + 1 := by unfold dU; rw [if_pos rfl]
        have TB2 := TB_S (o := y) TB1 VR1 (by omega)
        refine ⟨_, _, gA σm 203 x, rfl, by show some (_, gA μ 203 x) = _; rw [z203], fr_aG _ _ (by decide) (fr_aS _ _ (by decide) (by decide) fκ'), fr_I _ _ (by decide) (fr_mS _ _ _ (by decide) (by decide) fμ'), Or.inr ⟨dU d (gI κ 62) y, ?_, by simp only [mS, gI_sI, gI_sA, Nat.reduceEqDiff, reduceIte]; exact m229⟩⟩
        refine fin_go (s := gI κ 62) (TB_fr (S := [47, 48, 49]) (T := []) (S' := [228]) (T' := []) (fr_aG _ _ (by decide) (fr_r _)) (fr_I _ _ (by decide) (fr_r _)) (by decide) (by decide) (by decide) (by decide) TB2) ?_ ?_ ?_ ?_ ?_ ?_ ?_ ?_ ?_ ?_ ?_
        all_goals (try simp only [aG, aS, mS, gI_sI, gI_sA, gA_sI, gA_sA, Nat.reduceEqDiff, reduceIte])
        all_goals first | omega | exact hst' | exact ⟨k50, m229⟩ | (rw [bN]; have := hna.2.1 (Or.inl h3); omega)
      · -- FIX
        have u62 : gI (aS κ hd y) 62 = gI κ 62 + 1 := by simp only [aS, gI_sI, gI_sA, Nat.reduceEqDiff, reduceIte]
        have u209 : gI (mS μ 2 w2 (y + 1)) 209 = gI μ 209 + 1 := by simp only [mS, gI_sI, gI_sA, Nat.reduceEqDiff, reduceIte]
        have u226 : gI (mS μ 2 w2 (y + 1)) 226 = gI σm 226 := m226
        have u227 : gI (mS μ 2 w2 (y + 1)) 227 = gI σm 227 := m227
        have z81' : gA (aS κ hd y) 81 x = gA σm 203 x := z81
        rw [if_pos h11, if_pos h11, c_aS (by omega), bd_s, ck_t hx60, ck_t hw210, c_aS (by omega), bd_s, m_mS hb0, bd_s, u226, u227, m_mS (by omega)]
        simp only [bd_s, nx_d, ck_t hx60, z81', c_aG]
        have hd1 : dU d (gI κ 62) y (gI κ 62) = d y + 1 := by unfold dU; rw [if_pos rfl]
        have hd2 : dU (dU d (gI κ 62) y) (gI (aS κ hd y) 62) (gI κ 62) (gI κ 62 + 1) = d y + 2 := by
          have e9 : dU (dU d (gI κ 62) y) (gI (aS κ hd y) 62) (gI κ 62) (gI κ 62 + 1) = dU d (gI κ 62) y (gI κ 62) + 1 := by rw [u62]; unfold dU; rw [if_pos rfl]
          rw [e9, hd1]; omega
        have q1' : k2 = 2 := q1
        subst q1'
        have TB2 := TB_S (o := y) TB1 VR2 (by omega)
        have VR3 := VR_m (Ext_S (σm := μ) (d := d) hs0 hd y 2 w2 (y + 1)) VR1
        have TB3 := TB_S (o := gI κ 62) TB2 VR3 (by omega)
        rw [s209]
        refine ⟨_, _, gA σm 203 x, rfl, by show some (_, gA μ 203 x) = _; rw [z203], fr_aG _ _ (by decide) (fr_aS _ _ (by decide) (by decide) (fr_aS _ _ (by decide) (by decide) fκ')), fr_I _ _ (by decide) (fr_mS _ _ _ (by decide) (by decide) (fr_mS _ _ _ (by decide) (by decide) fμ')), Or.inr ⟨dU (dU d (gI κ 62) y) (gI (aS κ hd y) 62) (gI κ 62), ?_, by simp only [mS, gI_sI, gI_sA, Nat.reduceEqDiff, reduceIte]; exact m229⟩⟩
        rw [u62] at TB3 hd2 ⊢
        refine fin_go (s := gI κ 62 + 1) (TB_fr (S := [47, 48, 49]) (T := []) (S' := [228]) (T' := []) (fr_aG _ _ (by decide) (fr_r _)) (fr_I _ _ (by decide) (fr_r _)) (by decide) (by decide) (by decide) (by decide) TB3) ?_ ?_ ?_ ?_ ?_ ?_ ?_ ?_ ?_ ?_ ?_
        all_goals (try simp only [aG, aS, mS, gI_sI, gI_sA, gA_sI, gA_sA, Nat.reduceEqDiff, reduceIte])
        all_goals first | omega | exact hst' | exact ⟨k50, m229⟩ | (rw [bN]; have := hna.2.2 h11; omega)
    · -- a piece
      have hkm : 0 ≤ gI μ 223 ∧ gI μ 223 < 320 := by omega
      rw [if_pos q1, if_pos q1, ck_t hd200, c_aM hk0, bd_s, bd_s, ck_t hkm]
      simp only [nx_d, gI_sA, gI_sI, Nat.reduceEqDiff, reduceIte]
      rw [ck_t (show inR (gI μ 223 + 1) from ⟨by omega, by omega⟩), bd_s]
      have TB2 := TB_M (x := gA κ 141 hd) (y := w2) TB1 (by omega) (by omega)
      refine ⟨_, _, _, rfl, rfl, fr_aM _ (by decide) (by decide) fκ', fr_I _ _ (by decide) (fr_I _ _ (by decide) (fr_A _ _ _ (by decide) fμ')), Or.inr ⟨d, ?_, by simp only [gI_sI, gI_sA, Nat.reduceEqDiff, reduceIte]; exact m229⟩⟩
      refine fin_keep TB2 ?_ ?_ ?_ ?_ ?_
      all_goals (try simp only [aM, gI_sI, gI_sA, gA_sI, gA_sA, Nat.reduceEqDiff, reduceIte])
      · omega
      · exact hst'
      · omega
      · exact ⟨k50, m229⟩
      · rw [k49, m226, m227]
        exact VR_m ⟨⟨Int.le_refl _, fun _ _ _ => ⟨rfl, rfl, rfl⟩⟩, ⟨Int.le_refl _, fun _ _ _ => ⟨rfl, rfl⟩⟩, ⟨Int.le_refl _, fun j _ _ => rfl⟩, Int.le_refl _, rfl, fun _ => rfl, fun _ => rfl⟩ VR1
  · -- SUM, LESS
    rw [if_neg h4, if_neg h4]
    unfold f2_joinNumbers b10_goOn_209 b10_goOn_214 b10_goOn_261 b2_joinNumbers_24 b2_joinNumbers_104
    rw [ck_t hd200, hform, vform]
    simp only [nx_d, gA_sI, gI_sI, Nat.reduceEqDiff, reduceIte, y221, m227, m_mG, bd_s, ck01, ck11, true_or, or_true, ckT, ck_t hnow320]
    have stuckR : ∀ (A B : Option (Sg × Int)), (∃ σ r, A = some (σ, r) ∧ fr MWI MWA σm σ ∧ gI σ 229 = 1) → B = some (sI κ 50 1, 0) → ∃ (σc' σm' : Sg) (r : Int), (bd B fun σ7 r7 => some (σ7, (0 : Int))) = some (σc', 0) ∧ A = some (σm', r) ∧ fr CWI CWA σc σc' ∧ fr MWI MWA σm σm' ∧ ((gI σc' 50 = 1 ∧ gI σm' 229 = 1) ∨ ∃ d', SIM σc' σm' d' fuel r (steps + 1) (mk + 1) ∧ gI σm' 229 = 0) := by
      rintro A B ⟨σ, r, rfl, h1, h2⟩ rfl
      exact ⟨_, σ, r, rfl, rfl, fr_I _ _ (by decide) fκ', h1, Or.inl ⟨by rw [gI_sI, if_pos rfl], h2⟩⟩
    have stuckM : ∃ σ r, (if gA σm 202 t = 5 then some (mG (sI μ 229 1) 0 (wr (w2 + gI σm 227)), (-1 : Int)) else if gI σm 227 ≤ w2 then some (mG (sI μ 229 1) 1 0, (-1 : Int)) else some (mG (sI μ 229 1) 1 1, (-1 : Int))) = some (σ, r) ∧ fr MWI MWA σm σ ∧ gI σ 229 = 1 := by
      have f1 : ∀ a b, fr MWI MWA σm (mG (sI μ 229 1) a b) := fun a b => fr_mG _ _ (by decide) (fr_I _ _ (by decide) fμ')
      have f2 : ∀ a b, gI (mG (sI μ 229 1) a b) 229 = 1 := fun a b => by simp only [mG, gI_sI, Nat.reduceEqDiff, reduceIte]
      by_cases h5 : gA σm 202 t = 5
      · rw [if_pos h5]; exact ⟨_, _, rfl, f1 _ _, f2 _ _⟩
      · rw [if_neg h5]
        by_cases hle : gI σm 227 ≤ w2
        · rw [if_pos hle]; exact ⟨_, _, rfl, f1 _ _, f2 _ _⟩
        · rw [if_neg hle]; exact ⟨_, _, rfl, f1 _ _, f2 _ _⟩
    by_cases ha : ¬ k2 = 0
    · rw [if_neg ha, if_neg ha]
      exact stuckR _ _ stuckM rfl
    have ha : k2 = 0 := by omega
    rw [if_pos ha, if_pos ha, ck_t hg200]
    by_cases hb : ¬ gI σm 226 = 0
    · rw [if_neg hb, if_neg hb]
      exact stuckR _ _ stuckM rfl
    have hb : gI σm 226 = 0 := by omega
    rw [if_pos hb, if_pos hb, vcont (Or.inl hb)]
    have hcont : gA κ 141 hd = w2 := by rcases VR2.2.2 with q | q | q; exact q.2; omega; omega
    rw [hcont, ck_t hd200, ck_t hg200, ck_t hd200, ck_t hg200]
    have TB2 : ∀ a b, TB (aV κ a b (-1)) (sI μ 229 0) d := fun a b => TB_V _ _ _ (TB_fr (S := []) (T := []) (S' := [229]) (T' := []) (fr_r _) (fr_I _ _ (by decide) (fr_r _)) (by decide) (by decide) (by decide) (by decide) TB1)
    have fin : ∀ k b, (k = 0 ∨ k = 1) → SIM (sI (aV κ k b (-1)) 49 (gI κ 143)) (mG (sI μ 229 0) k b) d fuel (-1) (steps + 1) (mk + 1) := fun k b hk => by
      refine fin_val (TB2 k b) ?_ ?_ ?_ ?_ (new_V hv0.1 (Or.inl ⟨hk, rfl⟩))
      all_goals (try simp only [aV, gI_sI, gI_sA, Nat.reduceEqDiff, reduceIte])
      · omega
      · exact hst'
      · omega
      · exact ⟨k50, trivial⟩
    have f1 : ∀ a b, fr MWI MWA σm (mG (sI μ 229 0) a b) := fun a b => fr_mG _ _ (by decide) (fr_I _ _ (by decide) fμ')
    have f2 : ∀ a b, gI (mG (sI μ 229 0) a b) 229 = 0 := fun a b => by simp only [mG, gI_sI, Nat.reduceEqDiff, reduceIte]
    have f3 : ∀ k b, fr CWI CWA σc (sI (aV κ k b (-1)) 49 (gI κ 143)) := fun k b => fr_I _ _ (by decide) (fr_aV _ _ _ (by decide) (by decide) fκ')
    by_cases h5 : gA σm 202 t = 5
    · rw [if_pos h5, if_pos h5, c_aV hv0, bd_s, bd_s]
      exact ⟨_, _, _, rfl, rfl, f3 _ _, f1 _ _, Or.inr ⟨d, fin _ _ (Or.inl rfl), f2 _ _⟩⟩
    · rw [if_neg h5, if_neg h5]
      by_cases hle : gI σm 227 ≤ w2
      · rw [if_pos hle, if_pos hle, c_aV hv0, bd_s, bd_s]
        exact ⟨_, _, _, rfl, rfl, f3 _ _, f1 _ _, Or.inr ⟨d, fin _ _ (Or.inr rfl), f2 _ _⟩⟩
      · rw [if_neg hle, if_neg hle, c_aV hv0, bd_s, bd_s]
        exact ⟨_, _, _, rfl, rfl, f3 _ _, f1 _ _, Or.inr ⟨d, fin _ _ (Or.inr rfl), f2 _ _⟩⟩
