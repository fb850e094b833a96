/-! ===== the terms: both tables are one; what holds of them ===== -/
def RT (σc σm : Sg) : Prop := gI σc 87 = gI σm 201 ∧ (∀ i, gA σc 80 i = gA σm 202 i) ∧ (∀ i, gA σc 81 i = gA σm 203 i) ∧ (∀ i, gA σc 82 i = gA σm 204 i) ∧ (∀ i, gA σc 83 i = gA σm 205 i) ∧ (∀ i, gA σc 84 i = gA σm 208 i) ∧ (∀ i, gA σc 85 i = gA σm 206 i) ∧ (∀ i, gA σc 86 i = gA σm 207 i)
def hT (H : Int → Int) (k a b c : Int) : Int := if k < 3 then 1 else if k = 7 then mx (mx (H a) (H b)) (H c) + 1 else if 4 ≤ k ∧ k ≤ 8 then mx (H a) (H b) + 1 else H a + 1
def zT (Z : Int → Int) (k a b c : Int) : Int := if k < 3 then 1 else if k = 7 then Z a + Z b + Z c + 1 else if 4 ≤ k ∧ k ≤ 8 then Z a + Z b + 1 else Z a + 1
def nT (N : Int → Int) (k a b c : Int) : Int := if k = 2 then a + 1 else if k < 3 then 0 else if k = 7 then mx (N a) (mx (N b) (N c)) else if k = 8 then mx (N a) (N b - 1) else if 4 ≤ k ∧ k ≤ 6 then mx (N a) (N b) else if k = 9 then mx 0 (N a) else if k = 11 then mx 0 (N a - 2) else mx 0 (N a - 1)
/-- a term t of the table: its kind and words, height, size, need by those of its words -/
def TT (K A B C H Z N : Int → Int) (t : Int) : Prop := (0 ≤ K t ∧ K t ≤ 11) ∧ pF t (K t) (A t) (B t) (C t) ∧ H t = hT H (K t) (A t) (B t) (C t) ∧ Z t = zT Z (K t) (A t) (B t) (C t) ∧ N t = nT N (K t) (A t) (B t) (C t) ∧ (1 ≤ H t ∧ H t ≤ 9) ∧ (1 ≤ Z t ∧ Z t ≤ 120) ∧ (0 ≤ N t ∧ N t ≤ 6)
def TI (σ : Sg) : Prop := (0 ≤ gI σ 201 ∧ gI σ 201 ≤ 60) ∧ ∀ t, 0 ≤ t → t < gI σ 201 → TT (gA σ 202) (gA σ 203) (gA σ 204) (gA σ 205) (gA σ 206) (gA σ 207) (gA σ 208) t
theorem mx_le {a b c : Int} (h1 : a ≤ c) (h2 : b ≤ c) : mx a b ≤ c := by unfold mx; split <;> assumption
theorem le_mx1 (a b : Int) : a ≤ mx a b := by unfold mx; split <;> omega
theorem le_mx2 (a b : Int) : b ≤ mx a b := by unfold mx; split <;> omega
theorem gr_mx (a b : Int) : (if a ≤ b then b else a) = mx a b := by unfold mx; split <;> split <;> omega
theorem c_height {σ : Sg} {n k a b c : Int} (hk : 0 ≤ k ∧ k ≤ 11) (hp : pF n k a b c) (hn : n ≤ 60) (hH : ∀ t, 0 ≤ t → t < n → 1 ≤ gA σ 85 t ∧ gA σ 85 t ≤ 9) : f4_heightOver σ (tw k) a b c = some (σ, hT (gA σ 85) k a b c) := by
  have e1 : ∀ t, 0 ≤ t ∧ t < n → (0 ≤ t ∧ t < 60) := fun t h => by omega
  have e2 : ∀ x : Int, 0 ≤ x ∧ x ≤ 9 → inR (x + 1) := fun x h => ⟨by omega, by omega⟩
  have e3 : ∀ x y : Int, (0 ≤ x ∧ x ≤ 9) → (0 ≤ y ∧ y ≤ 9) → 0 ≤ mx x y ∧ mx x y ≤ 9 := fun x y h1 h2 => ⟨Int.le_trans h1.1 (le_mx1 x y), mx_le h1.2 h2.2⟩
  have e4 : ∀ t, 0 ≤ t ∧ t < n → 0 ≤ gA σ 85 t ∧ gA σ 85 t ≤ 9 := fun t h => by have := hH t h.1 h.2; omega
  have m0 : ∀ x : Int, 0 ≤ x → mx 0 x = x := fun x h => by unfold mx; split <;> omega
  unfold f4_heightOver b4_heightOver_15 b4_heightOver_35 hT
  rcases kinds hk with rfl | rfl | rfl | rfl | rfl | rfl | rfl | rfl | rfl | rfl | rfl | rfl <;> simp [pF] at hp <;> simp [tw]
  · exact ck_t (by decide)
  · exact ck_t (by decide)
  · exact ck_t (by decide)
  · rw [ck_t (e1 a hp), ck_t (e2 _ (e4 a hp))]
  all_goals first
    | (rw [ck_t (e1 a hp), ck_t (e2 _ (e4 a hp))]; done)
    | (rw [ck_t (e1 a hp.1), ck_t (e1 b hp.2), ck_t (e2 _ (e3 _ _ (e4 a hp.1) (e4 b hp.2)))]; done)
    | (rw [ck_t (e1 a hp.1), ck_t (e1 b hp.2.1), ck_t (e1 c hp.2.2), ck_t (e2 _ (e3 _ _ (e3 _ _ (e4 a hp.1) (e4 b hp.2.1)) (e4 c hp.2.2)))]; done)
theorem c_size {σ : Sg} {n k a b c : Int} (hk : 0 ≤ k ∧ k ≤ 11) (hp : pF n k a b c) (hn : n ≤ 60) (hZ : ∀ t, 0 ≤ t → t < n → 1 ≤ gA σ 86 t ∧ gA σ 86 t ≤ 120) : f4_sizeOver σ (tw k) a b c = some (σ, zT (gA σ 86) k a b c) := by
  have e1 : ∀ t, 0 ≤ t ∧ t < n → (0 ≤ t ∧ t < 60) := fun t h => by omega
  have e2 : ∀ x : Int, 0 ≤ x ∧ x ≤ 1000 → inR x := fun x h => ⟨by omega, by omega⟩
  have e4 : ∀ t, 0 ≤ t ∧ t < n → 0 ≤ gA σ 86 t ∧ gA σ 86 t ≤ 120 := fun t h => by have := hZ t h.1 h.2; omega
  unfold f4_sizeOver b4_sizeOver_15 b4_sizeOver_33 zT
  rcases kinds hk with rfl | rfl | rfl | rfl | rfl | rfl | rfl | rfl | rfl | rfl | rfl | rfl <;> simp [pF] at hp <;> simp [tw]
  · exact ck_t (by decide)
  · exact ck_t (by decide)
  · exact ck_t (by decide)
  all_goals first
    | (rw [ck_t (e1 a hp), ck_t (e2 _ (by have := e4 a hp; omega))]; done)
    | (rw [ck_t (e1 a hp.1), ck_t (e1 b hp.2), ck_t (e2 _ (by have := e4 a hp.1; have := e4 b hp.2; omega)), ck_t (e2 _ (by have := e4 a hp.1; have := e4 b hp.2; omega))]; done)
    | (rw [ck_t (e1 a hp.1), ck_t (e1 b hp.2.1), ck_t (e2 _ (by have := e4 a hp.1; have := e4 b hp.2.1; omega)), ck_t (e1 c hp.2.2), ck_t (e2 _ (by have := e4 a hp.1; have := e4 b hp.2.1; have := e4 c hp.2.2; omega)), ck_t (e2 _ (by have := e4 a hp.1; have := e4 b hp.2.1; have := e4 c hp.2.2; omega))]; done)
