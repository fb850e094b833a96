/-! ===== pure rows: reading the states ===== -/
theorem gI_sI (σ : Sg) (k : Nat) (v : Int) (j : Nat) : gI (sI σ k v) j = if j = k then v else gI σ j := by
  show (bif Nat.beq j k then v else σ.1 j) = _
  by_cases h : j = k
  · subst h
    rw [if_pos rfl, show Nat.beq j j = true from Nat.beq_refl j]
    rfl
  · rw [if_neg h, show Nat.beq j k = false from Bool.eq_false_iff.mpr (fun q => h (Nat.eq_of_beq_eq_true q))]
    rfl
theorem gA_sI (σ : Sg) (k : Nat) (v : Int) (j : Nat) (t : Int) : gA (sI σ k v) j t = gA σ j t := Eq.trans (b := gA σ j t) rfl rfl
theorem gI_sA (σ : Sg) (k : Nat) (i v : Int) (j : Nat) : gI (sA σ k i v) j = gI σ j := Eq.trans (b := gI σ j) rfl rfl
theorem gA_sA (σ : Sg) (k : Nat) (i v : Int) (j : Nat) (t : Int) : gA (sA σ k i v) j t = if j = k then (if t = i then v else gA σ k t) else gA σ j t := by
  show (bif Nat.beq j k then (fun t => if t = i then v else σ.2 k t) else σ.2 j) t = _
  by_cases h : j = k
  · subst h
    rw [if_pos rfl, show Nat.beq j j = true from Nat.beq_refl j]
    rfl
  · rw [if_neg h, show Nat.beq j k = false from Bool.eq_false_iff.mpr (fun q => h (Nat.eq_of_beq_eq_true q))]
    rfl
theorem ck_t {α : Type} {P : Prop} {inst : Decidable P} {x : Option α} (h : P) : @ck α P inst x = x := if_pos h
theorem nx_d {α : Type} (σ : Sg) (f : Sg → Option α) : nx σ f = f σ := rfl
theorem bd_s {α : Type} (σ : Sg) (r : Int) (f : Sg → Int → Option α) : bd (some (σ, r)) f = f σ r := rfl
theorem ck01 {α : Type} (x : Option α) : ck ((0 : Int) = 0 ∨ (0 : Int) = 1) x = x := ck_t (by decide)
theorem ck11 {α : Type} (x : Option α) : ck ((1 : Int) = 0 ∨ (1 : Int) = 1) x = x := ck_t (by decide)
theorem ckT {α : Type} {inst : Decidable True} (x : Option α) : @ck α True inst x = x := if_pos trivial
/-! small methods, in closed form -/
theorem m_in (σ : Sg) (x a b : Int) : f10_in σ x a b = some (σ, if a ≤ x ∧ x ≤ b then 1 else 0) := by
  unfold f10_in
  rw [ck01, ck11]
  by_cases h : x < a
  · rw [if_pos h, if_neg (by omega)]
  · rw [if_neg h]
    by_cases h2 : b < x
    · rw [if_pos h2, if_neg (by omega)]
    · rw [if_neg h2, if_pos (by omega)]
theorem m_greater (σ : Sg) (a b : Int) : f10_greater σ a b = some (σ, if a ≤ b then b else a) := by
  unfold f10_greater
  by_cases h : a ≤ b
  · rw [if_pos h, if_pos h]
  · rw [if_neg h, if_neg h]
theorem m_isTerm {σ : Sg} (h : inR (gI σ 201 - 1)) (x : Int) : f10_isTerm σ x = some (σ, if 0 ≤ x ∧ x < gI σ 201 then 1 else 0) := by
  unfold f10_isTerm
  rw [ck_t h, m_in, bd_s]
  by_cases h2 : 0 ≤ x ∧ x ≤ gI σ 201 - 1
  · rw [if_pos h2, if_pos (by omega), ck11]
  · rw [if_neg h2, if_neg (by omega), ck01]
theorem m_hasA (σ : Sg) (k : Int) : f10_hasA σ k = some (σ, if 3 ≤ k ∧ k ≤ 11 then 1 else 0) := by
  unfold f10_hasA
  rw [m_in, bd_s]
  by_cases h : (3 : Int) ≤ k ∧ k ≤ 11
  · rw [if_pos h, ck11]
  · rw [if_neg h, ck01]
theorem m_hasB (σ : Sg) (k : Int) : f10_hasB σ k = some (σ, if 4 ≤ k ∧ k ≤ 8 then 1 else 0) := by
  unfold f10_hasB
  rw [m_in, bd_s]
  by_cases h : (4 : Int) ≤ k ∧ k ≤ 8
  · rw [if_pos h, ck11]
  · rw [if_neg h, ck01]
theorem m_fail (σ : Sg) (c : Int) : f10_fail σ c = some (sI σ 200 c, 0) := rfl
theorem c_has (σ : Sg) (x : Int) : f4_has σ x = some (σ, if 0 ≤ x ∧ x < gI σ 87 then 1 else 0) := by
  unfold f4_has
  rw [ck01, ck11]
  by_cases h : x < 0
  · rw [if_pos h, if_neg (by omega)]
  · rw [if_neg h]
    by_cases h2 : gI σ 87 ≤ x
    · rw [if_pos h2, if_neg (by omega)]
    · rw [if_neg h2, if_pos (by omega)]
/-- the words of a kind are as they must be, n terms being there -/
abbrev pF (n k a b c : Int) : Prop := (k = 0 ∧ -1000 ≤ a ∧ a ≤ 1000) ∨ (k = 1 ∧ 0 ≤ a ∧ a ≤ 1) ∨ (k = 2 ∧ 0 ≤ a ∧ a ≤ 5) ∨ (3 ≤ k ∧ k ≤ 11 ∧ (0 ≤ a ∧ a < n) ∧ (k < 4 ∨ 8 < k ∨ (0 ≤ b ∧ b < n)) ∧ (k ≠ 7 ∨ (0 ≤ c ∧ c < n)))
theorem kinds {k : Int} (h : 0 ≤ k ∧ k ≤ 11) : k = 0 ∨ k = 1 ∨ k = 2 ∨ k = 3 ∨ k = 4 ∨ k = 5 ∨ k = 6 ∨ k = 7 ∨ k = 8 ∨ k = 9 ∨ k = 10 ∨ k = 11 := by omega
theorem some_if {σ : Sg} {P Q : Prop} [Decidable P] [Decidable Q] (h : P ↔ Q) : some (σ, if P then (1 : Int) else 0) = some (σ, if Q then (1 : Int) else 0) := by
  by_cases hp : P
  · rw [if_pos hp, if_pos (h.mp hp)]
  · rw [if_neg hp, if_neg (fun q => hp (h.mpr q))]
theorem ite_b {α : Type} {P : Prop} [Decidable P] (x y : α) : (if (if P then (1 : Int) else 0) = 0 then x else y) = if P then y else x := by
  by_cases h : P
  · rw [if_pos h, if_pos h, if_neg (by decide)]
  · rw [if_neg h, if_neg h, if_pos rfl]
theorem ck_b {α : Type} {P : Prop} [Decidable P] (x : Option α) : ck ((if P then (1 : Int) else 0) = 0 ∨ (if P then (1 : Int) else 0) = 1) x = x := by
  refine ck_t ?_
  by_cases h : P
  · rw [if_pos h]; exact Or.inr rfl
  · rw [if_neg h]; exact Or.inl rfl
theorem m_fits {σ : Sg} (h : inR (gI σ 201 - 1)) {k : Int} (hk : 0 ≤ k ∧ k ≤ 11) (a b c : Int) : f10_fits σ k a b c = some (σ, if pF (gI σ 201) k a b c then 1 else 0) := by
  unfold f10_fits b10_fits_76
  generalize hn : gI σ 201 = n at h
  simp only [m_in, m_isTerm (σ := σ) (by rw [hn]; exact h), m_hasB, bd_s, ite_b, ck_b, ck01, ck11, true_or, or_true, ckT, hn]
  by_cases h0 : k = 0
  · rw [if_pos h0]
    exact some_if (by omega)
  rw [if_neg h0]
  by_cases h1 : k = 1
  · rw [if_pos h1]
    exact some_if (by omega)
  rw [if_neg h1]
  by_cases h2 : k = 2
  · rw [if_pos h2]
    exact some_if (by omega)
  rw [if_neg h2]
  unfold pF
  (repeat' split) <;> first | rfl | (exfalso; omega)
theorem tw3 {k : Int} (h : 3 ≤ k ∧ k ≤ 11) : tw k = if k = 7 then 3 else if 4 ≤ k ∧ k ≤ 8 then 2 else 1 := by
  unfold tw
  (repeat' split) <;> first | rfl | (exfalso; omega)
theorem c_fits {σ : Sg} (k a b c : Int) : f4_wordsFit σ k a b c = some (σ, if pF (gI σ 87) k a b c then 1 else 0) := by
  unfold f4_wordsFit b4_wordsFit_119
  generalize hn : gI σ 87 = n
  simp only [c_has, bd_s, ite_b, ck_b, ck01, ck11, true_or, or_true, ckT, hn]
  by_cases hk : k < 0
  · rw [if_pos hk, if_neg (by omega)]
  rw [if_neg hk]
  by_cases hk2 : ¬ k < 12
  · rw [if_neg hk2, if_neg (by omega)]
  have hk2 : k < 12 := by omega
  rw [if_pos hk2]
  by_cases h0 : k = 0
  · rw [if_pos h0]
    unfold pF
    (repeat' split) <;> first | rfl | (exfalso; omega)
  rw [if_neg h0]
  by_cases h1 : k = 1
  · rw [if_pos h1]
    unfold pF
    (repeat' split) <;> first | rfl | (exfalso; omega)
  rw [if_neg h1]
  by_cases h2 : k = 2
  · rw [if_pos h2]
    unfold pF
    (repeat' split) <;> first | rfl | (exfalso; omega)
  rw [if_neg h2, ck_t (show 0 ≤ k ∧ k < 12 by omega), tw3 (by omega)]
  unfold pF
  by_cases h7 : k = 7
  · simp only [if_pos h7]
    (repeat' split) <;> first | rfl | (exfalso; omega)
  · simp only [if_neg h7]
    by_cases h4 : 4 ≤ k ∧ k ≤ 8
    · simp only [if_pos h4]
      (repeat' split) <;> first | rfl | (exfalso; omega)
    · simp only [if_neg h4]
      (repeat' split) <;> first | rfl | (exfalso; omega)
