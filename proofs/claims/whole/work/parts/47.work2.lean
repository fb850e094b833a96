theorem TS_e {σc σm σc' σm' : Sg} {d d' : Int → Int} (hE : Ext σc σm d σc' σm' d') (i1 : gI σc' 62 = gI σc 62) (i2 : gI σm' 209 = gI σm 209) (a1 : ∀ i, gA σc' 60 i = gA σc 60 i) (a2 : ∀ i, gA σc' 61 i = gA σc 61 i) (b1 : ∀ i, gA σm' 210 i = gA σm 210 i) (b2 : ∀ i, gA σm' 211 i = gA σm 211 i) (b3 : ∀ i, gA σm' 212 i = gA σm 212 i) (h : TS σc σm d) : TS σc' σm' d' := by
  obtain ⟨⟨h1, h2⟩, h3, h4⟩ := h
  have hd := hE.2.2.1.2
  refine ⟨⟨by rw [i1, i2]; exact h1, by rw [i1]; exact h2⟩, by rw [hd (-1) (by omega) (by omega)]; exact h3, fun j h0 hl => ?_⟩
  rw [i1] at hl
  obtain ⟨g1, g2, g3, g4⟩ := h4 j h0 hl
  rw [a1, a2, b1, b2, b3, hd j (by omega) hl, hd _ g3.1 (by omega)]
  exact ⟨VR_m hE g1, g2, g3, g4⟩
theorem TW_e {σc σm σc' σm' : Sg} {d d' : Int → Int} (hE : Ext σc σm d σc' σm' d') (i1 : gI σc' 164 = gI σc 164) (i2 : gI σm' 216 = gI σm 216) (a1 : ∀ i, gA σc' 160 i = gA σc 160 i) (a2 : ∀ i, gA σc' 161 i = gA σc 161 i) (a3 : ∀ i, gA σc' 162 i = gA σc 162 i) (a4 : ∀ i, gA σc' 163 i = gA σc 163 i) (b1 : ∀ i, gA σm' 217 i = gA σm 217 i) (b2 : ∀ i, gA σm' 218 i = gA σm 218 i) (b3 : ∀ i, gA σm' 219 i = gA σm 219 i) (b4 : ∀ i, gA σm' 220 i = gA σm 220 i) (b5 : ∀ i, gA σm' 221 i = gA σm 221 i) (b6 : ∀ i, gA σm' 222 i = gA σm 222 i) (h : TW σc σm d) : TW σc' σm' d' := by
  obtain ⟨⟨h1, h2⟩, h4⟩ := h
  have hd := hE.2.2.1.2
  refine ⟨⟨by rw [i1, i2]; exact h1, by rw [i1]; exact h2⟩, fun j h0 hl => ?_⟩
  rw [i1] at hl
  obtain ⟨g1, g2, g3, g4, g5, g6, g7, g8, g9, g10⟩ := h4 j h0 hl
  rw [a1, a2, a3, a4, b1, b2, b3, b4, b5, b6, hE.2.2.2.2.2.1, hE.2.2.2.2.2.2, hE.2.2.2.2.1, hd _ g6.1 g6.2]
  have := hE.2.2.1.1
  refine ⟨g1, g2, g3, g4, g5, ⟨g6.1, by omega⟩, g7, g8, g9, ?_⟩
  rcases g10 with q | q
  · exact Or.inl q
  · exact Or.inr (VR_m hE q)
theorem TM_e {σc σm σc' σm' : Sg} (i0 : gI σc 164 ≤ gI σc' 164) (i1 : gI σc' 45 = gI σc 45) (i2 : gI σm' 223 = gI σm 223) (a1 : ∀ i, gA σc' 44 i = gA σc 44 i) (b1 : ∀ i, gA σm' 224 i = gA σm 224 i) (h : TM σc σm) : TM σc' σm' := by
  obtain ⟨⟨h1, h2⟩, h4⟩ := h
  refine ⟨⟨by rw [i1, i2]; exact h1, by rw [i1]; exact h2⟩, fun j h0 hl => ?_⟩
  rw [i1] at hl
  obtain ⟨g1, g2⟩ := h4 j h0 hl
  rw [a1, b1]
  exact ⟨g1, g2.1, by omega⟩
def RCI : List Nat := [62, 164, 143, 45]
def RCA : List Nat := [60, 61, 140, 141, 142, 160, 161, 162, 163, 44]
def RMI : List Nat := [209, 213, 216, 223, 201]
def RMA : List Nat := [210, 211, 212, 214, 215, 217, 218, 219, 220, 221, 222, 224, 202, 208]
theorem Ext_r (σc σm : Sg) (d : Int → Int) : Ext σc σm d σc σm d := ⟨⟨Int.le_refl _, fun _ _ _ => ⟨rfl, rfl, rfl⟩⟩, ⟨Int.le_refl _, fun _ _ _ => ⟨rfl, rfl⟩⟩, ⟨Int.le_refl _, fun _ _ _ => rfl⟩, Int.le_refl _, rfl, fun _ => rfl, fun _ => rfl⟩
theorem Ext_fr {S T S' T' : List Nat} {σc σm σc' σm' : Sg} (d : Int → Int) (hc : fr S T σc σc') (hm : fr S' T' σm σm') (h1 : ∀ k ∈ RCI, k ∉ S) (h2 : ∀ k ∈ RCA, k ∉ T) (h3 : ∀ k ∈ RMI, k ∉ S') (h4 : ∀ k ∈ RMA, k ∉ T') : Ext σc σm d σc' σm' d :=
  ⟨⟨Int.le_of_eq (hc.1 143 (h1 _ (by decide))).symm, fun _ _ _ => ⟨hc.2 140 (h2 _ (by decide)) _, hc.2 141 (h2 _ (by decide)) _, hc.2 142 (h2 _ (by decide)) _⟩⟩, ⟨Int.le_of_eq (hm.1 213 (h3 _ (by decide))).symm, fun _ _ _ => ⟨hm.2 214 (h4 _ (by decide)) _, hm.2 215 (h4 _ (by decide)) _⟩⟩, ⟨Int.le_of_eq (hc.1 62 (h1 _ (by decide))).symm, fun _ _ _ => rfl⟩, Int.le_of_eq (hc.1 164 (h1 _ (by decide))).symm, hm.1 201 (h3 _ (by decide)), fun i => hm.2 202 (h4 _ (by decide)) i, fun i => hm.2 208 (h4 _ (by decide)) i⟩
theorem TB_fr {S T S' T' : List Nat} {σc σm σc' σm' : Sg} {d : Int → Int} (hc : fr S T σc σc') (hm : fr S' T' σm σm') (h1 : ∀ k ∈ RCI, k ∉ S) (h2 : ∀ k ∈ RCA, k ∉ T) (h3 : ∀ k ∈ RMI, k ∉ S') (h4 : ∀ k ∈ RMA, k ∉ T') (h : TB σc σm d) : TB σc' σm' d := by
  have hE := Ext_fr d hc hm h1 h2 h3 h4
  obtain ⟨hs, hw, hM, hv, hf⟩ := h
  refine ⟨TS_e hE (hc.1 _ (h1 _ (by decide))) (hm.1 _ (h3 _ (by decide))) (fun i => hc.2 _ (h2 _ (by decide)) i) (fun i => hc.2 _ (h2 _ (by decide)) i) (fun i => hm.2 _ (h4 _ (by decide)) i) (fun i => hm.2 _ (h4 _ (by decide)) i) (fun i => hm.2 _ (h4 _ (by decide)) i) hs, TW_e hE (hc.1 _ (h1 _ (by decide))) (hm.1 _ (h3 _ (by decide))) (fun i => hc.2 _ (h2 _ (by decide)) i) (fun i => hc.2 _ (h2 _ (by decide)) i) (fun i => hc.2 _ (h2 _ (by decide)) i) (fun i => hc.2 _ (h2 _ (by decide)) i) (fun i => hm.2 _ (h4 _ (by decide)) i) (fun i => hm.2 _ (h4 _ (by decide)) i) (fun i => hm.2 _ (h4 _ (by decide)) i) (fun i => hm.2 _ (h4 _ (by decide)) i) (fun i => hm.2 _ (h4 _ (by decide)) i) (fun i => hm.2 _ (h4 _ (by decide)) i) hw, TM_e (Int.le_of_eq (hc.1 164 (h1 _ (by decide))).symm) (hc.1 _ (h1 _ (by decide))) (hm.1 _ (h3 _ (by decide))) (fun i => hc.2 _ (h2 _ (by decide)) i) (fun i => hm.2 _ (h4 _ (by decide)) i) hM, ?_, ?_⟩
  · rw [hc.1 143 (h1 _ (by decide))]; exact hv
  · rw [hm.1 213 (h3 _ (by decide))]; exact hf
/-! a new value, a new function -/
theorem Ext_V (σc σm : Sg) (d : Int → Int) (a b c : Int) : Ext σc σm d (aV σc a b c) σm d := by
  refine ⟨⟨?_, fun v h0 hl => ?_⟩, ⟨Int.le_refl _, fun _ _ _ => ⟨rfl, rfl⟩⟩, ⟨Int.le_refl _, fun _ _ _ => rfl⟩, Int.le_refl _, rfl, fun _ => rfl, fun _ => rfl⟩
  · unfold aV; rw [gI_sI, if_pos rfl]; omega
  · unfold aV
    simp only [gA_sI, gA_sA, Nat.reduceEqDiff, reduceIte]
    rw [if_neg (by omega), if_neg (by omega), if_neg (by omega)]
    exact ⟨rfl, rfl, rfl⟩
theorem Ext_F (σc σm : Sg) (d : Int → Int) (t b : Int) : Ext σc σm d σc (mF σm t b) d := by
  refine ⟨⟨Int.le_refl _, fun _ _ _ => ⟨rfl, rfl, rfl⟩⟩, ⟨?_, fun w h0 hl => ?_⟩, ⟨Int.le_refl _, fun _ _ _ => rfl⟩, Int.le_refl _, rfl, fun _ => rfl, fun _ => rfl⟩
  · unfold mF; rw [gI_sA, gI_sA, gI_sI, if_pos rfl]; omega
  · unfold mF
    simp only [gA_sI, gA_sA, Nat.reduceEqDiff, reduceIte]
    rw [if_neg (by omega), if_neg (by omega)]
    exact ⟨rfl, rfl⟩
theorem TB_V {σc σm : Sg} {d : Int → Int} (a b c : Int) (h : TB σc σm d) : TB (aV σc a b c) σm d := by
  have hE := Ext_V σc σm d a b c
  obtain ⟨hs, hw, hM, hv, hf⟩ := h
  exact ⟨TS_e hE rfl rfl (fun _ => rfl) (fun _ => rfl) (fun _ => rfl) (fun _ => rfl) (fun _ => rfl) hs, TW_e hE rfl rfl (fun _ => rfl) (fun _ => rfl) (fun _ => rfl) (fun _ => rfl) (fun _ => rfl) (fun _ => rfl) (fun _ => rfl) (fun _ => rfl) (fun _ => rfl) (fun _ => rfl) hw, TM_e (Int.le_refl _) rfl rfl (fun _ => rfl) (fun _ => rfl) hM, by unfold aV; rw [gI_sI, if_pos rfl]; omega, hf⟩
theorem TB_F {σc σm : Sg} {d : Int → Int} (t b : Int) (h : TB σc σm d) : TB σc (mF σm t b) d := by
  have hE := Ext_F σc σm d t b
  obtain ⟨hs, hw, hM, hv, hf⟩ := h
  exact ⟨TS_e hE rfl rfl (fun _ => rfl) (fun _ => rfl) (fun _ => rfl) (fun _ => rfl) (fun _ => rfl) hs, TW_e hE rfl rfl (fun _ => rfl) (fun _ => rfl) (fun _ => rfl) (fun _ => rfl) (fun _ => rfl) (fun _ => rfl) (fun _ => rfl) (fun _ => rfl) (fun _ => rfl) (fun _ => rfl) hw, TM_e (Int.le_refl _) rfl rfl (fun _ => rfl) (fun _ => rfl) hM, hv, by unfold mF; rw [gI_sA, gI_sA, gI_sI, if_pos rfl]; omega⟩
/-! a new link of a scope -/
def dU (d : Int → Int) (j x : Int) : Int → Int := fun i => if i = j then d x + 1 else d i
theorem Ext_S {σc σm : Sg} {d : Int → Int} (h0 : 0 ≤ gI σc 62) (v o k w x : Int) : Ext σc σm d (aS σc v o) (mS σm k w x) (dU d (gI σc 62) o) := by
  refine ⟨⟨Int.le_refl _, fun _ _ _ => ⟨rfl, rfl, rfl⟩⟩, ⟨Int.le_refl _, fun _ _ _ => ⟨rfl, rfl⟩⟩, ⟨?_, fun j h1 h2 => ?_⟩, Int.le_refl _, rfl, fun _ => rfl, fun _ => rfl⟩
  · unfold aS; rw [gI_sI, if_pos rfl]; omega
  · unfold dU; rw [if_neg (by omega)]
theorem TB_S {σc σm : Sg} {d : Int → Int} {v o k w : Int} (h : TB σc σm d) (hv : VR σc σm d v k w) (ho : -1 ≤ o ∧ o < gI σc 62) : TB (aS σc v o) (mS σm k w (o + 1)) (dU d (gI σc 62) o) := by
  obtain ⟨hs, hw, hM, h1, h2⟩ := h
  have hE := Ext_S (σm := σm) (d := d) hs.1.2 v o k w (o + 1)
  have hb : gI σm 209 = gI σc 62 := hs.1.1
  refine ⟨⟨⟨?_, ?_⟩, ?_, fun j h0 hl => ?_⟩, TW_e hE rfl rfl (fun _ => rfl) (fun _ => rfl) (fun _ => rfl) (fun _ => rfl) (fun _ => rfl) (fun _ => rfl) (fun _ => rfl) (fun _ => rfl) (fun _ => rfl) (fun _ => rfl) hw, TM_e (Int.le_refl _) rfl rfl (fun _ => rfl) (fun _ => rfl) hM, h1, h2⟩
  · unfold aS mS; rw [gI_sI, if_pos rfl, gI_sA, gI_sA, gI_sA, gI_sI, if_pos rfl, hb]
  · unfold aS; rw [gI_sI, if_pos rfl]; have := hs.1.2; omega
  · unfold dU; rw [if_neg (by have := hs.1.2; omega)]; exact hs.2.1
  · have hl : j < gI σc 62 + 1 := by unfold aS at hl; rw [gI_sI, if_pos rfl] at hl; exact hl
    by_cases hj : j < gI σc 62
    · obtain ⟨g1, g2, g3, g4⟩ := hs.2.2 j h0 hj
      have e1 : gA (aS σc v o) 60 j = gA σc 60 j := by unfold aS; simp only [gA_sI, gA_sA, Nat.reduceEqDiff, reduceIte]; exact if_neg (by omega)
      have e2 : gA (aS σc v o) 61 j = gA σc 61 j := by unfold aS; simp only [gA_sI, gA_sA, Nat.reduceEqDiff, reduceIte]; exact if_neg (by omega)
      have e3 : gA (mS σm k w (o + 1)) 210 (j + 1) = gA σm 210 (j + 1) := by unfold mS; simp only [gA_sI, gA_sA, Nat.reduceEqDiff, reduceIte]; exact if_neg (by omega)
      have e4 : gA (mS σm k w (o + 1)) 211 (j + 1) = gA σm 211 (j + 1) := by unfold mS; simp only [gA_sI, gA_sA, Nat.reduceEqDiff, reduceIte]; exact if_neg (by omega)
      have e5 : gA (mS σm k w (o + 1)) 212 (j + 1) = gA σm 212 (j + 1) := by unfold mS; simp only [gA_sI, gA_sA, Nat.reduceEqDiff, reduceIte]; exact if_neg (by omega)
      rw [e1, e2, e3, e4, e5, hE.2.2.1.2 j (by omega) hj, hE.2.2.1.2 _ g3.1 (by omega)]
      exact ⟨VR_m hE g1, g2, g3, g4⟩
    · have hj : j = gI σc 62 := by omega
      subst hj
      have e1 : gA (aS σc v o) 60 (gI σc 62) = v := by unfold aS; simp only [gA_sI, gA_sA, Nat.reduceEqDiff, reduceIte]
      have e2 : gA (aS σc v o) 61 (gI σc 62) = o := by unfold aS; simp only [gA_sI, gA_sA, Nat.reduceEqDiff, reduceIte]
      have e3 : gA (mS σm k w (o + 1)) 210 (gI σc 62 + 1) = k := by unfold mS; rw [hb]; simp only [gA_sI, gA_sA, Nat.reduceEqDiff, reduceIte]
      have e4 : gA (mS σm k w (o + 1)) 211 (gI σc 62 + 1) = w := by unfold mS; rw [hb]; simp only [gA_sI, gA_sA, Nat.reduceEqDiff, reduceIte]
      have e5 : gA (mS σm k w (o + 1)) 212 (gI σc 62 + 1) = o + 1 := by unfold mS; rw [hb]; simp only [gA_sI, gA_sA, Nat.reduceEqDiff, reduceIte]
      rw [e1, e2, e3, e4, e5]
      refine ⟨VR_m hE hv, rfl, ho, ?_⟩
      rw [hE.2.2.1.2 o ho.1 ho.2]
      unfold dU
      rw [if_pos rfl]
/-! a new waiting -/
theorem Ext_W {σc σm : Sg} {d : Int → Int} (t s h x : Int) (k2 t2 b2 v2 w2 : Int) : Ext σc σm d (aW σc t s h x) (mW3 σm k2 t2 b2 v2 w2) d := by
  refine ⟨⟨Int.le_refl _, fun _ _ _ => ⟨rfl, rfl, rfl⟩⟩, ⟨Int.le_refl _, fun _ _ _ => ⟨rfl, rfl⟩⟩, ⟨Int.le_refl _, fun j _ _ => rfl⟩, ?_, rfl, fun _ => rfl, fun _ => rfl⟩
  unfold aW; rw [gI_sI, if_pos rfl]; omega
theorem TB_W {σc σm : Sg} {d : Int → Int} {t s hh x kk v w : Int} (h : TB σc σm d) (ht : 0 ≤ t ∧ t < gI σm 201) (hk : kk = gA σm 202 t) (h4 : 4 ≤ gA σm 202 t ∧ gA σm 202 t ≤ 8) (hsc : -1 ≤ s ∧ s < gI σc 62) (hn : gA σm 208 t ≤ d s) (hx : -1 ≤ x ∧ x < gI σc 164) (hnow : gI σm 225 = x + 1) (hv : (hh = -1 ∧ v = -1) ∨ VR σc σm d hh v w) : TB (aW σc t s hh x) (mW3 σm kk t (s + 1) v w) d := by
  obtain ⟨hs, hw, hM, h1, h2⟩ := h
  have hE := Ext_W (σc := σc) (σm := σm) (d := d) t s hh x kk t (s + 1) v w
  have hb : gI σm 216 = gI σc 164 := hw.1.1
  refine ⟨TS_e hE rfl rfl (fun _ => rfl) (fun _ => rfl) (fun _ => rfl) (fun _ => rfl) (fun _ => rfl) hs, ⟨⟨?_, ?_⟩, fun j h0 hl => ?_⟩, TM_e hE.2.2.2.1 rfl rfl (fun _ => rfl) (fun _ => rfl) hM, h1, h2⟩
  · unfold aW mW3; simp only [gI_sI, gI_sA, Nat.reduceEqDiff, reduceIte]; rw [hb]
  · unfold aW; rw [gI_sI, if_pos rfl]; have := hw.1.2; omega
  · have hl : j < gI σc 164 + 1 := by unfold aW at hl; rw [gI_sI, if_pos rfl] at hl; exact hl
    by_cases hj : j < gI σc 164
    · obtain ⟨g1, g2, g3, g4, g5, g6, g7, g8, g9, g10⟩ := hw.2 j h0 hj
      have e : ∀ q ∈ [160, 161, 162, 163], gA (aW σc t s hh x) q j = gA σc q j := by
        intro q hq
        simp only [List.mem_cons, List.not_mem_nil, or_false] at hq
        unfold aW
        rcases hq with rfl | rfl | rfl | rfl <;> simp only [gA_sI, gA_sA, Nat.reduceEqDiff, reduceIte] <;> exact if_neg (by omega)
      have f : ∀ q ∈ [217, 218, 219, 220, 221, 222], gA (mW3 σm kk t (s + 1) v w) q (j + 1) = gA σm q (j + 1) := by
        intro q hq
        simp only [List.mem_cons, List.not_mem_nil, or_false] at hq
        unfold mW3
        rcases hq with rfl | rfl | rfl | rfl | rfl | rfl <;> simp only [gA_sI, gA_sA, Nat.reduceEqDiff, reduceIte] <;> exact if_neg (by omega)
      rw [e 160 (by decide), e 161 (by decide), e 162 (by decide), e 163 (by decide), f 217 (by decide), f 218 (by decide), f 219 (by decide), f 220 (by decide), f 221 (by decide), f 222 (by decide)]
      refine ⟨g1, g2, g3, g4, g5, g6, g7, g8, g9, ?_⟩
      rcases g10 with q | q
      · exact Or.inl q
      · exact Or.inr (VR_m hE q)
    · have hj : j = gI σc 164 := by omega
      subst hj
      have e0 : gA (aW σc t s hh x) 160 (gI σc 164) = t := by unfold aW; simp only [gA_sI, gA_sA, Nat.reduceEqDiff, reduceIte]
      have e1 : gA (aW σc t s hh x) 161 (gI σc 164) = s := by unfold aW; simp only [gA_sI, gA_sA, Nat.reduceEqDiff, reduceIte]
      have e2 : gA (aW σc t s hh x) 162 (gI σc 164) = hh := by unfold aW; simp only [gA_sI, gA_sA, Nat.reduceEqDiff, reduceIte]
      have e3 : gA (aW σc t s hh x) 163 (gI σc 164) = x := by unfold aW; simp only [gA_sI, gA_sA, Nat.reduceEqDiff, reduceIte]
      have f0 : gA (mW3 σm kk t (s + 1) v w) 217 (gI σc 164 + 1) = kk := by unfold mW3; rw [hb]; simp only [gA_sI, gA_sA, Nat.reduceEqDiff, reduceIte]
      have f1 : gA (mW3 σm kk t (s + 1) v w) 218 (gI σc 164 + 1) = t := by unfold mW3; rw [hb]; simp only [gA_sI, gA_sA, Nat.reduceEqDiff, reduceIte]
      have f2 : gA (mW3 σm kk t (s + 1) v w) 219 (gI σc 164 + 1) = s + 1 := by unfold mW3; rw [hb]; simp only [gA_sI, gA_sA, Nat.reduceEqDiff, reduceIte]
      have f3 : gA (mW3 σm kk t (s + 1) v w) 220 (gI σc 164 + 1) = v := by unfold mW3; rw [hb]; simp only [gA_sI, gA_sA, Nat.reduceEqDiff, reduceIte]
      have f4 : gA (mW3 σm kk t (s + 1) v w) 221 (gI σc 164 + 1) = w := by unfold mW3; rw [hb]; simp only [gA_sI, gA_sA, Nat.reduceEqDiff, reduceIte]
      have f5 : gA (mW3 σm kk t (s + 1) v w) 222 (gI σc 164 + 1) = x + 1 := by unfold mW3; rw [hb, hnow]; simp only [gA_sI, gA_sA, Nat.reduceEqDiff, reduceIte]
      rw [e0, e1, e2, e3, f0, f1, f2, f3, f4, f5]
      refine ⟨rfl, ht, hk, h4, rfl, hsc, hn, rfl, ⟨hx.1, hx.2⟩, ?_⟩
      rcases hv with q | q
      · exact Or.inl q
      · exact Or.inr (VR_m hE q)
/-! a mark entered, a mark left -/
theorem TB_M {σc σm : Sg} {d : Int → Int} {x y : Int} (h : TB σc σm d) (hto : -1 ≤ gI σc 46 ∧ gI σc 46 < gI σc 164) (hnow : gI σm 225 = gI σc 46 + 1) : TB (aM σc x) (sI (sI (sA σm 224 (gI σm 223) (gI σm 225)) 223 (gI σm 223 + 1)) 225 y) d := by
  obtain ⟨hs, hw, hM, h1, h2⟩ := h
  have hE : Ext σc σm d (aM σc x) (sI (sI (sA σm 224 (gI σm 223) (gI σm 225)) 223 (gI σm 223 + 1)) 225 y) d := ⟨⟨Int.le_refl _, fun _ _ _ => ⟨rfl, rfl, rfl⟩⟩, ⟨Int.le_refl _, fun _ _ _ => ⟨rfl, rfl⟩⟩, ⟨Int.le_refl _, fun j _ _ => rfl⟩, Int.le_refl _, rfl, fun _ => rfl, fun _ => rfl⟩
  have hb := hM.1.1
  refine ⟨TS_e hE rfl rfl (fun _ => rfl) (fun _ => rfl) (fun _ => rfl) (fun _ => rfl) (fun _ => rfl) hs, TW_e hE rfl rfl (fun _ => rfl) (fun _ => rfl) (fun _ => rfl) (fun _ => rfl) (fun _ => rfl) (fun _ => rfl) (fun _ => rfl) (fun _ => rfl) (fun _ => rfl) (fun _ => rfl) hw, ⟨⟨?_, ?_⟩, fun j h0 hl => ?_⟩, h1, h2⟩
  · unfold aM; simp only [gI_sI, gI_sA, Nat.reduceEqDiff, reduceIte]; rw [hb]
  · unfold aM; simp only [gI_sI, gI_sA, Nat.reduceEqDiff, reduceIte]; have := hM.1.2; omega
  · have hl : j < gI σc 45 + 1 := by unfold aM at hl; simp only [gI_sI, gI_sA, Nat.reduceEqDiff, reduceIte] at hl; exact hl
    unfold aM
    simp only [gA_sI, gA_sA, Nat.reduceEqDiff, reduceIte]
    rw [hb]
    by_cases hj : j < gI σc 45
    · rw [if_neg (by omega), if_neg (by omega)]
      exact hM.2 j h0 hj
    · rw [if_pos (by omega), if_pos (by omega)]
      exact ⟨hnow, hto⟩
