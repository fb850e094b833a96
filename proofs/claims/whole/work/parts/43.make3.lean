def mAddG (τ : Sg) (n k a b c h z nd : Int) : Sg := sI (sA (sA (sA (sA (sA (sA (sA τ 202 n k) 203 n a) 204 n b) 205 n c) 206 n h) 207 n z) 208 n nd) 201 (n + 1)
theorem m_134 {τ : Sg} {n k a b c : Int} (h z : Int) (hn0 : gI τ 201 = n) (hn : 0 ≤ n ∧ n ≤ 60) (hk : 0 ≤ k ∧ k ≤ 11) (hp : pF n k a b c) (hN : ∀ t, 0 ≤ t → t < n → 0 ≤ gA τ 208 t ∧ gA τ 208 t ≤ 6) : b10_make_134 τ k a b c h z = if n = 60 ∨ 9 < h ∨ 120 < z then some (sI τ 200 2, 0) else some (mAddG τ n k a b c h z (nT (gA τ 208) k a b c), n) := by
  have h157 : b10_make_157 τ = some (sI τ 200 2, 0) := rfl
  unfold b10_make_134
  rw [hn0, h157]
  by_cases h1 : n = 60
  · rw [if_pos h1, if_pos (Or.inl h1)]
  rw [if_neg h1]
  by_cases h2 : 9 < h
  · rw [if_pos h2, if_pos (Or.inr (Or.inl h2))]
  rw [if_neg h2]
  by_cases h3 : ¬ z ≤ 120
  · rw [if_neg h3, if_pos (by omega)]
  have h3 : z ≤ 120 := by omega
  rw [if_pos h3, if_neg (by omega)]
  have hn' : 0 ≤ n ∧ n < 60 := by omega
  simp only [nx_d, gI_sA, hn0]
  rw [ck_t hn', ck_t hn', ck_t hn', ck_t hn', ck_t hn', ck_t hn']
  rw [m_need (σ := sA (sA (sA (sA (sA (sA τ 202 n k) 203 n a) 204 n b) 205 n c) 206 n h) 207 n z) hk hp (by omega) hN, bd_s, ck_t hn']
  simp only [gI_sA, hn0, gI_sI, if_pos]
  rw [ck_t (show inR (n + 1) from ⟨by omega, by omega⟩), ck_t (show inR (n + 1 - 1) from ⟨by omega, by omega⟩), show n + 1 - 1 = n by omega]
  rfl
theorem mx_s (a b : Int) : mx (a + 1) (b + 1) = mx a b + 1 := by unfold mx; split <;> split <;> omega
theorem m_make_ok {σ : Sg} {n k a b c : Int} (hn0 : gI σ 201 = n) (hn : 0 ≤ n ∧ n ≤ 60) (hk : 0 ≤ k ∧ k ≤ 11) (hp : pF n k a b c) (hH : ∀ t, 0 ≤ t → t < n → 1 ≤ gA σ 206 t ∧ gA σ 206 t ≤ 9) (hZ : ∀ t, 0 ≤ t → t < n → 1 ≤ gA σ 207 t ∧ gA σ 207 t ≤ 120) : f10_make σ k a b c = b10_make_134 (sI σ 200 0) k a b c (hT (gA σ 206) k a b c) (zT (gA σ 207) k a b c) := by
  have e1 : ∀ t, 0 ≤ t ∧ t < n → (0 ≤ t ∧ t < 60) := fun t h => by omega
  have eH : ∀ t, 0 ≤ t ∧ t < n → inR (gA σ 206 t + 1) := fun t h => by have := hH t h.1 h.2; exact ⟨by omega, by omega⟩
  have e201 : gI (sI σ 200 0) 201 = n := by rw [gI_sI, if_neg (by decide)]; exact hn0
  unfold f10_make
  rw [nx_d, m_in, bd_s, if_pos hk, if_neg (by decide), m_fits (by rw [e201]; exact ⟨by omega, by omega⟩) hk, bd_s, e201, if_pos hp, if_neg (by decide), m_hasA, bd_s, ite_b]
  unfold b10_make_67 b10_make_100
  simp only [m_hasB, bd_s, ite_b, m_greater, gr_mx, gA_sI]
  by_cases h3 : k < 3
  · rw [if_neg (by omega), if_neg (by omega), if_neg (by omega)]
    unfold hT zT
    rw [if_pos h3, if_pos h3]
  have ha : 0 ≤ a ∧ a < n := by omega
  have zA := hZ a ha.1 ha.2
  rw [if_pos (by omega), ck_t (e1 a ha), ck_t (eH a ha), ck_t (e1 a ha), ck_t (show inR (1 + gA σ 207 a) from ⟨by omega, by omega⟩)]
  unfold hT zT
  rw [if_neg h3, if_neg h3]
  by_cases h4 : 4 ≤ k ∧ k ≤ 8
  · have hb : 0 ≤ b ∧ b < n := by omega
    have zB := hZ b hb.1 hb.2
    rw [if_pos h4, ck_t (e1 b hb), ck_t (eH b hb), ck_t (e1 b hb), ck_t (show inR (1 + gA σ 207 a + gA σ 207 b) from ⟨by omega, by omega⟩), mx_s]
    by_cases h7 : k = 7
    · have hc : 0 ≤ c ∧ c < n := by omega
      have zC := hZ c hc.1 hc.2
      rw [if_pos h7, if_pos h7, if_pos h7, ck_t (e1 c hc), ck_t (eH c hc), ck_t (e1 c hc), ck_t (show inR (1 + gA σ 207 a + gA σ 207 b + gA σ 207 c) from ⟨by omega, by omega⟩), mx_s, show 1 + gA σ 207 a + gA σ 207 b + gA σ 207 c = gA σ 207 a + gA σ 207 b + gA σ 207 c + 1 by omega]
    · rw [if_neg h7, if_neg h7, if_neg h7, if_pos h4, if_pos h4, show 1 + gA σ 207 a + gA σ 207 b = gA σ 207 a + gA σ 207 b + 1 by omega]
  · rw [if_neg h4, if_neg h4, if_neg (show ¬ k = 7 by omega), if_neg (show ¬ k = 7 by omega), if_neg (show ¬ k = 7 by omega), if_neg h4, show 1 + gA σ 207 a = gA σ 207 a + 1 by omega]
theorem m_make_bad {σ : Sg} {n k a b c : Int} (hn0 : gI σ 201 = n) (hn : 0 ≤ n ∧ n ≤ 60) (hb : ¬ ((0 ≤ k ∧ k ≤ 11) ∧ pF n k a b c)) : f10_make σ k a b c = some (sI (sI σ 200 0) 200 1, 0) := by
  have e201 : gI (sI σ 200 0) 201 = n := by rw [gI_sI, if_neg (by decide)]; exact hn0
  unfold f10_make
  rw [nx_d, m_in, bd_s]
  by_cases hk : 0 ≤ k ∧ k ≤ 11
  · rw [if_pos hk, if_neg (by decide), m_fits (by rw [e201]; exact ⟨by omega, by omega⟩) hk, bd_s, e201, if_neg (fun q => hb ⟨hk, q⟩), if_pos rfl]
    rfl
  · rw [if_neg hk, if_pos rfl]
    rfl
