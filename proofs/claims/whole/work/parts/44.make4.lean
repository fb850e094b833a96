/-! frames of states -/
def fr (S T : List Nat) (σ σ' : Sg) : Prop := (∀ k, k ∉ S → gI σ' k = gI σ k) ∧ ∀ k, k ∉ T → ∀ i, gA σ' k i = gA σ k i
theorem fr_r {S T : List Nat} (σ : Sg) : fr S T σ σ := ⟨fun _ _ => rfl, fun _ _ _ => rfl⟩
theorem fr_I {S T : List Nat} {σ σ' : Sg} (k : Nat) (v : Int) (hk : k ∈ S) (h : fr S T σ σ') : fr S T σ (sI σ' k v) := ⟨fun j hj => by rw [gI_sI, if_neg (fun e => hj (by rw [e]; exact hk))]; exact h.1 j hj, fun j hj i => h.2 j hj i⟩
theorem fr_A {S T : List Nat} {σ σ' : Sg} (k : Nat) (i v : Int) (hk : k ∈ T) (h : fr S T σ σ') : fr S T σ (sA σ' k i v) := ⟨fun j hj => h.1 j hj, fun j hj t => by rw [gA_sA, if_neg (fun e => hj (by rw [e]; exact hk))]; exact h.2 j hj t⟩
theorem fr_t {S T : List Nat} {σ σ' σ'' : Sg} (h1 : fr S T σ σ') (h2 : fr S T σ' σ'') : fr S T σ σ'' := ⟨fun k hk => (h2.1 k hk).trans (h1.1 k hk), fun k hk i => (h2.2 k hk i).trans (h1.2 k hk i)⟩
theorem fr_m {S T S' T' : List Nat} {σ σ' : Sg} (hS : ∀ k ∈ S, k ∈ S') (hT : ∀ k ∈ T, k ∈ T') (h : fr S T σ σ') : fr S' T' σ σ' := ⟨fun k hk => h.1 k (fun q => hk (hS k q)), fun k hk => h.2 k (fun q => hk (hT k q))⟩
theorem pF_k {n k a b c : Int} (h : pF n k a b c) : 0 ≤ k ∧ k ≤ 11 := by omega
theorem pF_m {n m k a b c : Int} (h : pF n k a b c) (hm : n ≤ m) : pF m k a b c := by omega
theorem c_room {σ : Sg} {n k a b c : Int} (hn0 : gI σ 87 = n) (hn : 0 ≤ n ∧ n ≤ 60) (hp : pF n k a b c) (hH : ∀ t, 0 ≤ t → t < n → 1 ≤ gA σ 85 t ∧ gA σ 85 t ≤ 9) (hZ : ∀ t, 0 ≤ t → t < n → 1 ≤ gA σ 86 t ∧ gA σ 86 t ≤ 120) : f4_hasRoomFor σ k a b c = some (σ, if n = 60 ∨ 9 < hT (gA σ 85) k a b c ∨ 120 < zT (gA σ 86) k a b c then 0 else 1) := by
  have hk := pF_k hp
  unfold f4_hasRoomFor
  rw [ck_t (show 0 ≤ k ∧ k < 12 by omega), c_height hk hp hn.2 hH, bd_s, c_size hk hp hn.2 hZ, bd_s, hn0, ck01, ck11]
  by_cases h1 : n = 60
  · rw [if_pos (by omega), if_pos (Or.inl h1)]
  rw [if_neg (by omega)]
  by_cases h2 : 9 < hT (gA σ 85) k a b c
  · rw [if_pos h2, if_pos (Or.inr (Or.inl h2))]
  rw [if_neg h2]
  by_cases h3 : 120 < zT (gA σ 86) k a b c
  · rw [if_pos h3, if_pos (Or.inr (Or.inr h3))]
  · rw [if_neg h3, if_neg (by omega)]
theorem hT_c {H H' : Int → Int} {n k a b c : Int} (hp : pF n k a b c) (h : ∀ i, 0 ≤ i → i < n → H' i = H i) : hT H' k a b c = hT H k a b c := by
  unfold hT
  split
  · rfl
  split
  · rw [h a (by omega) (by omega), h b (by omega) (by omega), h c (by omega) (by omega)]
  split
  · rw [h a (by omega) (by omega), h b (by omega) (by omega)]
  · rw [h a (by omega) (by omega)]
theorem zT_c {H H' : Int → Int} {n k a b c : Int} (hp : pF n k a b c) (h : ∀ i, 0 ≤ i → i < n → H' i = H i) : zT H' k a b c = zT H k a b c := by
  unfold zT
  split
  · rfl
  split
  · rw [h a (by omega) (by omega), h b (by omega) (by omega), h c (by omega) (by omega)]
  split
  · rw [h a (by omega) (by omega), h b (by omega) (by omega)]
  · rw [h a (by omega) (by omega)]
theorem nT_c {H H' : Int → Int} {n k a b c : Int} (hp : pF n k a b c) (h : ∀ i, 0 ≤ i → i < n → H' i = H i) : nT H' k a b c = nT H k a b c := by
  unfold nT
  split
  · rfl
  split
  · rfl
  split
  · rw [h a (by omega) (by omega), h b (by omega) (by omega), h c (by omega) (by omega)]
  split
  · rw [h a (by omega) (by omega), h b (by omega) (by omega)]
  split
  · rw [h a (by omega) (by omega), h b (by omega) (by omega)]
  split
  · rw [h a (by omega) (by omega)]
  split
  · rw [h a (by omega) (by omega)]
  · rw [h a (by omega) (by omega)]
theorem TT_c {K A B C H Z N K' A' B' C' H' Z' N' : Int → Int} {n t : Int} (ht : t < n) (hK : ∀ i, i < n → K' i = K i) (hA : ∀ i, i < n → A' i = A i) (hB : ∀ i, i < n → B' i = B i) (hC : ∀ i, i < n → C' i = C i) (hH : ∀ i, i < n → H' i = H i) (hZ : ∀ i, i < n → Z' i = Z i) (hN : ∀ i, i < n → N' i = N i) (h : TT K A B C H Z N t) : TT K' A' B' C' H' Z' N' t := by
  obtain ⟨h1, h2, h3, h4, h5, h6, h7, h8⟩ := h
  unfold TT
  rw [hK t ht, hA t ht, hB t ht, hC t ht, hH t ht, hZ t ht, hN t ht, hT_c h2 (fun i _ hi => hH i (by omega)), zT_c h2 (fun i _ hi => hZ i (by omega)), nT_c h2 (fun i _ hi => hN i (by omega))]
  exact ⟨h1, h2, h3, h4, h5, h6, h7, h8⟩
def MI : List Nat := [200, 201]
def MA : List Nat := [202, 203, 204, 205, 206, 207, 208]
def CI : List Nat := [87]
def CA : List Nat := [80, 81, 82, 83, 84, 85, 86]
theorem TI_fr {S T : List Nat} {σ σ' : Sg} (h : fr S T σ σ') (h1 : 201 ∉ S) (h2 : ∀ k ∈ MA, k ∉ T) (hT : TI σ) : TI σ' := by
  refine ⟨by rw [h.1 201 h1]; exact hT.1, fun t h0 hl => ?_⟩
  rw [h.1 201 h1] at hl
  exact TT_c (n := gI σ 201) hl (fun i _ => h.2 202 (h2 _ (by decide)) i) (fun i _ => h.2 203 (h2 _ (by decide)) i) (fun i _ => h.2 204 (h2 _ (by decide)) i) (fun i _ => h.2 205 (h2 _ (by decide)) i) (fun i _ => h.2 206 (h2 _ (by decide)) i) (fun i _ => h.2 207 (h2 _ (by decide)) i) (fun i _ => h.2 208 (h2 _ (by decide)) i) (hT.2 t h0 hl)
theorem RT_fr {S T S' T' : List Nat} {σc σc' σm σm' : Sg} (hc : fr S T σc σc') (hm : fr S' T' σm σm') (h1 : 87 ∉ S) (h2 : ∀ k ∈ CA, k ∉ T) (h3 : 201 ∉ S') (h4 : ∀ k ∈ MA, k ∉ T') (h : RT σc σm) : RT σc' σm' := by
  obtain ⟨a0, a1, a2, a3, a4, a5, a6, a7⟩ := h
  exact ⟨by rw [hc.1 _ h1, hm.1 _ h3]; exact a0, fun i => by rw [hc.2 80 (h2 _ (by decide)), hm.2 202 (h4 _ (by decide))]; exact a1 i, fun i => by rw [hc.2 81 (h2 _ (by decide)), hm.2 203 (h4 _ (by decide))]; exact a2 i, fun i => by rw [hc.2 82 (h2 _ (by decide)), hm.2 204 (h4 _ (by decide))]; exact a3 i, fun i => by rw [hc.2 83 (h2 _ (by decide)), hm.2 205 (h4 _ (by decide))]; exact a4 i, fun i => by rw [hc.2 84 (h2 _ (by decide)), hm.2 208 (h4 _ (by decide))]; exact a5 i, fun i => by rw [hc.2 85 (h2 _ (by decide)), hm.2 206 (h4 _ (by decide))]; exact a6 i, fun i => by rw [hc.2 86 (h2 _ (by decide)), hm.2 207 (h4 _ (by decide))]; exact a7 i⟩
theorem make_rel {σc σm : Sg} (hR : RT σc σm) (hTI : TI σm) (k a b c : Int) : ∃ (σc' σm' : Sg) (rc rm : Int), f9_make σc k a b c = some (σc', rc) ∧ f10_make σm k a b c = some (σm', rm) ∧ RT σc' σm' ∧ TI σm' ∧ fr CI CA σc σc' ∧ fr MI MA σm σm' ∧ ((rc = -101 ∧ gI σm' 200 = 1) ∨ (rc = -102 ∧ gI σm' 200 = 2) ∨ (-100 < rc ∧ rc = rm ∧ gI σm' 200 = 0)) := by
  obtain ⟨n, hn0⟩ : ∃ n, gI σm 201 = n := ⟨_, rfl⟩
  have hnc : gI σc 87 = n := hR.1.trans hn0
  have hn : 0 ≤ n ∧ n ≤ 60 := by rw [← hn0]; exact hTI.1
  have hTT := hTI.2
  rw [hn0] at hTT
  have fm : ∀ v, fr MI MA σm (sI (sI σm 200 0) 200 v) := fun v => fr_I _ _ (by decide) (fr_I _ _ (by decide) (fr_r _))
  have g200 : ∀ v, gI (sI (sI σm 200 0) 200 v) 200 = v := fun v => by rw [gI_sI, if_pos rfl]
  have keepR : ∀ v, RT σc (sI (sI σm 200 0) 200 v) := fun v => by
    obtain ⟨a0, a1, a2, a3, a4, a5, a6, a7⟩ := hR
    exact ⟨by rw [gI_sI, if_neg (by decide), gI_sI, if_neg (by decide)]; exact a0, a1, a2, a3, a4, a5, a6, a7⟩
  have keepT : ∀ v, TI (sI (sI σm 200 0) 200 v) := fun v => by
    refine ⟨by rw [gI_sI, if_neg (by decide), gI_sI, if_neg (by decide)]; exact hTI.1, fun t h0 hl => ?_⟩
    rw [gI_sI, if_neg (by decide), gI_sI, if_neg (by decide)] at hl
    exact hTI.2 t h0 hl
  unfold f9_make
  rw [c_fits, bd_s, ite_b, hnc]
  by_cases hp : ¬ pF n k a b c
  · rw [if_neg hp, m_make_bad hn0 hn (fun q => hp q.2)]
    exact ⟨σc, _, -101, 0, rfl, rfl, keepR 1, keepT 1, fr_r _, fm 1, Or.inl ⟨rfl, g200 1⟩⟩
  have hp : pF n k a b c := Classical.not_not.mp hp
  have hk := pF_k hp
  rw [if_pos hp]
  have hHm : ∀ t, 0 ≤ t → t < n → 1 ≤ gA σm 206 t ∧ gA σm 206 t ≤ 9 := fun t h0 hl => (hTT t h0 hl).2.2.2.2.2.1
  have hZm : ∀ t, 0 ≤ t → t < n → 1 ≤ gA σm 207 t ∧ gA σm 207 t ≤ 120 := fun t h0 hl => (hTT t h0 hl).2.2.2.2.2.2.1
  have hNm : ∀ t, 0 ≤ t → t < n → 0 ≤ gA σm 208 t ∧ gA σm 208 t ≤ 6 := fun t h0 hl => (hTT t h0 hl).2.2.2.2.2.2.2
  have eH : gA σc 85 = gA σm 206 := funext hR.2.2.2.2.2.2.1
  have eZ : gA σc 86 = gA σm 207 := funext hR.2.2.2.2.2.2.2
  have eN : gA σc 84 = gA σm 208 := funext hR.2.2.2.2.2.1
  rw [c_room hnc hn hp (by rw [eH]; exact hHm) (by rw [eZ]; exact hZm), bd_s, m_make_ok hn0 hn hk hp hHm hZm, m_134 (τ := sI σm 200 0) (n := n) _ _ (by rw [gI_sI, if_neg (by decide)]; exact hn0) hn hk hp hNm, eH, eZ]
  by_cases hf : n = 60 ∨ 9 < hT (gA σm 206) k a b c ∨ 120 < zT (gA σm 207) k a b c
  · rw [if_pos hf, if_pos hf, if_pos rfl]
    exact ⟨σc, _, -102, 0, rfl, rfl, keepR 2, keepT 2, fr_r _, fm 2, Or.inr (Or.inl ⟨rfl, g200 2⟩)⟩
  · rw [if_neg hf, if_neg hf, if_neg (by decide), c_add hnc (by omega) hk hp (by rw [eH]; exact hHm) (by rw [eZ]; exact hZm) (by rw [eN]; exact hNm), bd_s, ck_t (show -100 < n by omega)]
    refine ⟨_, _, n, n, rfl, rfl, ?_, ?_, ?_, ?_, Or.inr (Or.inr ⟨by omega, rfl, ?_⟩)⟩
    · obtain ⟨a0, a1, a2, a3, a4, a5, a6, a7⟩ := hR
      unfold RT cAdd mAddG
      simp only [gI_sI, gA_sI, gI_sA, gA_sA, eH, eZ, eN, if_pos, Nat.reduceEqDiff, if_false, reduceIte, a1, a2, a3, a4, a5, a6, a7]
      simp
      exact fun i => rfl
    · have hh := hT_in hk hp hHm
      have hz := zT_in hk hp hZm
      have hd := nT_in hk hp hNm
      refine ⟨?_, fun t h0 hl => ?_⟩
      · unfold mAddG
        rw [gI_sI, if_pos rfl]; omega
      · have hl : t < n + 1 := by unfold mAddG at hl; rw [gI_sI, if_pos rfl] at hl; exact hl
        have up : ∀ (j : Nat) (v i : Int), i < n → (if i = n then v else gA σm j i) = gA σm j i := fun j v i hi => if_neg (by omega)
        by_cases ht : t < n
        · refine TT_c (n := n) ht ?_ ?_ ?_ ?_ ?_ ?_ ?_ (hTT t h0 ht) <;> intro i hi <;> unfold mAddG <;> simp only [gI_sI, gA_sI, gI_sA, gA_sA, Nat.reduceEqDiff, reduceIte] <;> exact up _ _ _ hi
        · have ht : t = n := by omega
          subst ht
          unfold TT mAddG
          simp only [gI_sI, gA_sI, gI_sA, gA_sA, Nat.reduceEqDiff, reduceIte]
          refine ⟨hk, hp, ?_, ?_, ?_, by omega, by omega, hd⟩
          · exact (hT_c hp (fun i _ hi => by rw [gA_sI, gA_sA]; simp only [Nat.reduceEqDiff, reduceIte]; exact if_neg (by omega))).symm
          · exact (zT_c hp (fun i _ hi => by rw [gA_sI, gA_sA]; simp only [Nat.reduceEqDiff, reduceIte]; exact if_neg (by omega))).symm
          · exact (nT_c hp (fun i _ hi => by rw [gA_sI, gA_sA]; simp only [Nat.reduceEqDiff, reduceIte]; exact if_neg (by omega))).symm
    · exact fr_I _ _ (by decide) (fr_A _ _ _ (by decide) (fr_A _ _ _ (by decide) (fr_A _ _ _ (by decide) (fr_A _ _ _ (by decide) (fr_A _ _ _ (by decide) (fr_A _ _ _ (by decide) (fr_A _ _ _ (by decide) (fr_r _))))))))
    · exact fr_I _ _ (by decide) (fr_A _ _ _ (by decide) (fr_A _ _ _ (by decide) (fr_A _ _ _ (by decide) (fr_A _ _ _ (by decide) (fr_A _ _ _ (by decide) (fr_A _ _ _ (by decide) (fr_A _ _ _ (by decide) (fr_I _ _ (by decide) (fr_r _)))))))))
    · unfold mAddG
      simp only [gI_sI, gA_sI, gI_sA, gA_sA, Nat.reduceEqDiff, reduceIte]
