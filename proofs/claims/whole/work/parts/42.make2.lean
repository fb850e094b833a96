theorem c_need {σ : Sg} {n k a b c : Int} (hk : 0 ≤ k ∧ k ≤ 11) (h2 : k ≠ 2) (hp : pF n k a b c) (hn : n ≤ 60) (hN : ∀ t, 0 ≤ t → t < n → 0 ≤ gA σ 84 t ∧ gA σ 84 t ≤ 6) : f4_neededOver σ k a b c = some (σ, nT (gA σ 84) k a b c) := by
  have e1 : ∀ t, 0 ≤ t ∧ t < n → (0 ≤ t ∧ t < 60) := fun t h => by omega
  have e2 : ∀ t x, 0 ≤ t ∧ t < n → 0 ≤ x ∧ x ≤ 2 → inR (gA σ 84 t - x) := fun t x h h2 => by have := hN t h.1 h.2; exact ⟨by omega, by omega⟩
  have e5 : ∀ t, 0 ≤ t ∧ t < n → gA σ 84 t - 0 = gA σ 84 t := fun t h => by omega
  unfold f4_neededOver nT
  rcases kinds hk with rfl | rfl | rfl | rfl | rfl | rfl | rfl | rfl | rfl | rfl | rfl | rfl <;> simp [pF] at hp <;> simp [tw, tb, ckT]
  · exact absurd rfl h2
  · have h1 := e1 a hp; have h3 := e2 a 1 hp (by decide); rw [ck_t h1, ck_t h3]
  · have h1 := e1 a hp.1; have h3 := e1 b hp.2; have h4 := e2 b 0 hp.2 (by decide); rw [e5 b hp.2] at h4; rw [ck_t h1, ck_t h3, ck_t h4]
  · have h1 := e1 a hp.1; have h3 := e1 b hp.2; have h4 := e2 b 0 hp.2 (by decide); rw [e5 b hp.2] at h4; rw [ck_t h1, ck_t h3, ck_t h4]
  · have h1 := e1 a hp.1; have h3 := e1 b hp.2; have h4 := e2 b 0 hp.2 (by decide); rw [e5 b hp.2] at h4; rw [ck_t h1, ck_t h3, ck_t h4]
  · have h1 := e1 a hp.1; have h3 := e1 b hp.2.1; have h4 := e1 c hp.2.2; rw [ck_t h1, ck_t h3, ck_t h4]
  · have h1 := e1 a hp.1; have h3 := e1 b hp.2; have h4 := e2 b 1 hp.2 (by decide); rw [ck_t h1, ck_t h3, ck_t h4]
  · have h1 := e1 a hp; have h3 := e2 a 0 hp (by decide); rw [e5 a hp] at h3; rw [ck_t h1, ck_t h3]
  · have h1 := e1 a hp; have h3 := e2 a 1 hp (by decide); rw [ck_t h1, ck_t h3]
  · have h1 := e1 a hp; have h3 := e2 a 2 hp (by decide); rw [ck_t h1, ck_t h3]
theorem mx_c (a b : Int) : mx a b = mx b a := by unfold mx; split <;> split <;> omega
theorem m_need {σ : Sg} {n k a b c : Int} (hk : 0 ≤ k ∧ k ≤ 11) (hp : pF n k a b c) (hn : n ≤ 60) (hN : ∀ t, 0 ≤ t → t < n → 0 ≤ gA σ 208 t ∧ gA σ 208 t ≤ 6) : f10_needs σ k a b c = some (σ, nT (gA σ 208) k a b c) := by
  have e1 : ∀ t, 0 ≤ t ∧ t < n → (0 ≤ t ∧ t < 60) := fun t h => by omega
  have e2 : ∀ t x, 0 ≤ t ∧ t < n → 0 ≤ x ∧ x ≤ 2 → inR (gA σ 208 t - x) := fun t x h h2 => by have := hN t h.1 h.2; exact ⟨by omega, by omega⟩
  unfold f10_needs nT
  simp only [m_greater, bd_s, gr_mx]
  rcases kinds hk with rfl | rfl | rfl | rfl | rfl | rfl | rfl | rfl | rfl | rfl | rfl | rfl <;> simp [pF] at hp <;> simp [ckT]
  · exact ck_t ⟨by omega, by omega⟩
  · have h1 := e1 a hp; have h3 := e2 a 1 hp (by decide); rw [ck_t h1, ck_t h3, mx_c]
  · have h1 := e1 a hp.1; have h3 := e1 b hp.2; rw [ck_t h1, ck_t h3]
  · have h1 := e1 a hp.1; have h3 := e1 b hp.2; rw [ck_t h1, ck_t h3]
  · have h1 := e1 a hp.1; have h3 := e1 b hp.2; rw [ck_t h1, ck_t h3]
  · have h1 := e1 a hp.1; have h3 := e1 b hp.2.1; have h4 := e1 c hp.2.2; rw [ck_t h1, ck_t h3, ck_t h4]
  · have h1 := e1 a hp.1; have h3 := e1 b hp.2; have h4 := e2 b 1 hp.2 (by decide); rw [ck_t h1, ck_t h3, ck_t h4]
  · have h1 := e1 a hp; have h3 := (hN a hp.1 hp.2).1; rw [ck_t h1, mx_c]; unfold mx; rw [if_neg (by omega)]
  · have h1 := e1 a hp; have h3 := e2 a 1 hp (by decide); rw [ck_t h1, ck_t h3, mx_c]
  · have h1 := e1 a hp; have h3 := e2 a 2 hp (by decide); rw [ck_t h1, ck_t h3, mx_c]
def cAdd (σ : Sg) (n k a b c : Int) : Sg := sI (sA (sA (sA (sA (sA (sA (sA σ 80 n k) 81 n a) 82 n b) 83 n c) 85 n (hT (gA σ 85) k a b c)) 86 n (zT (gA σ 86) k a b c)) 84 n (nT (gA σ 84) k a b c)) 87 (n + 1)
def mAdd (σ : Sg) (n k a b c : Int) : Sg := sI (sA (sA (sA (sA (sA (sA (sA σ 202 n k) 203 n a) 204 n b) 205 n c) 206 n (hT (gA σ 206) k a b c)) 207 n (zT (gA σ 207) k a b c)) 208 n (nT (gA σ 208) k a b c)) 201 (n + 1)
theorem c_add {σ : Sg} {n k a b c : Int} (hn0 : gI σ 87 = n) (hn : 0 ≤ n ∧ n < 60) (hk : 0 ≤ k ∧ k ≤ 11) (hp : pF n k a b c) (hH : ∀ t, 0 ≤ t → t < n → 1 ≤ gA σ 85 t ∧ gA σ 85 t ≤ 9) (hZ : ∀ t, 0 ≤ t → t < n → 1 ≤ gA σ 86 t ∧ gA σ 86 t ≤ 120) (hN : ∀ t, 0 ≤ t → t < n → 0 ≤ gA σ 84 t ∧ gA σ 84 t ≤ 6) : f4_add σ k a b c = some (cAdd σ n k a b c, n) := by
  have hn1 : inR (n + 1) := ⟨by omega, by omega⟩
  unfold f4_add
  simp only [hn0]
  rw [ck_t (show 0 ≤ k ∧ k < 12 by omega), ck_t hn, nx_d, ck_t hn, nx_d, ck_t hn, nx_d, ck_t hn, nx_d]
  rw [c_height (σ := sA (sA (sA (sA σ 80 n k) 81 n a) 82 n b) 83 n c) hk hp (by omega) hH, bd_s, ck_t hn, nx_d]
  rw [c_size (σ := sA (sA (sA (sA (sA σ 80 n k) 81 n a) 82 n b) 83 n c) 85 n _) hk hp (by omega) hZ, bd_s, ck_t hn, nx_d]
  by_cases h2 : k = 2
  · subst h2
    rw [if_pos rfl, ck_t (show inR (a + 1) by simp [pF] at hp; exact ⟨by omega, by omega⟩)]
    unfold b4_add_106
    simp only [nx_d, gI_sA, hn0]
    rw [ck_t hn, ck_t hn1]
    rfl
  · rw [if_neg h2, c_need (σ := sA (sA (sA (sA (sA (sA σ 80 n k) 81 n a) 82 n b) 83 n c) 85 n _) 86 n _) hk h2 hp (by omega) hN, bd_s]
    unfold b4_add_106
    simp only [nx_d, gI_sA, hn0]
    rw [ck_t hn, ck_t hn1]
    rfl
theorem hT_in {H : Int → Int} {n k a b c : Int} (hk : 0 ≤ k ∧ k ≤ 11) (hp : pF n k a b c) (hH : ∀ t, 0 ≤ t → t < n → 1 ≤ H t ∧ H t ≤ 9) : 1 ≤ hT H k a b c ∧ hT H k a b c ≤ 10 := by
  have e : ∀ x y : Int, (1 ≤ x ∧ x ≤ 9) → (1 ≤ y ∧ y ≤ 9) → 1 ≤ mx x y ∧ mx x y ≤ 9 := fun x y h1 h2 => ⟨Int.le_trans h1.1 (le_mx1 x y), mx_le h1.2 h2.2⟩
  unfold hT
  split
  · decide
  split
  · have := e _ _ (e _ _ (hH a (by omega) (by omega)) (hH b (by omega) (by omega))) (hH c (by omega) (by omega)); omega
  split
  · have := e _ _ (hH a (by omega) (by omega)) (hH b (by omega) (by omega)); omega
  · have := hH a (by omega) (by omega); omega
theorem zT_in {Z : Int → Int} {n k a b c : Int} (hk : 0 ≤ k ∧ k ≤ 11) (hp : pF n k a b c) (hZ : ∀ t, 0 ≤ t → t < n → 1 ≤ Z t ∧ Z t ≤ 120) : 1 ≤ zT Z k a b c ∧ zT Z k a b c ≤ 400 := by
  unfold zT
  split
  · decide
  split
  · have := hZ a (by omega) (by omega); have := hZ b (by omega) (by omega); have := hZ c (by omega) (by omega); omega
  split
  · have := hZ a (by omega) (by omega); have := hZ b (by omega) (by omega); omega
  · have := hZ a (by omega) (by omega); omega
theorem nT_in {N : Int → Int} {n k a b c : Int} (hk : 0 ≤ k ∧ k ≤ 11) (hp : pF n k a b c) (hN : ∀ t, 0 ≤ t → t < n → 0 ≤ N t ∧ N t ≤ 6) : 0 ≤ nT N k a b c ∧ nT N k a b c ≤ 6 := by
  have m1 : ∀ x y : Int, 0 ≤ x → x ≤ 6 → y ≤ 6 → 0 ≤ mx x y ∧ mx x y ≤ 6 := fun x y h0 h1 h2 => ⟨Int.le_trans h0 (le_mx1 x y), mx_le h1 h2⟩
  unfold nT
  split
  · omega
  split
  · decide
  split
  · have h1 := hN a (by omega) (by omega); have h2 := hN b (by omega) (by omega); have h3 := hN c (by omega) (by omega)
    exact m1 _ _ h1.1 h1.2 (m1 _ _ h2.1 h2.2 h3.2).2
  split
  · have h1 := hN a (by omega) (by omega); have h2 := hN b (by omega) (by omega); exact m1 _ _ h1.1 h1.2 (by omega)
  split
  · have h1 := hN a (by omega) (by omega); have h2 := hN b (by omega) (by omega); exact m1 _ _ h1.1 h1.2 h2.2
  split
  · have h1 := hN a (by omega) (by omega); exact m1 _ _ (by omega) (by omega) h1.2
  split
  · have h1 := hN a (by omega) (by omega); exact m1 _ _ (by omega) (by omega) (by omega)
  · have h1 := hN a (by omega) (by omega); exact m1 _ _ (by omega) (by omega) (by omega)
