/-! ===== the reference numbers its letters ===== -/
theorem n_kids {N : Nat} {K : Sg → Int → Int → Option (Sg × Int)} {c k : Int} (hk : 0 ≤ k ∧ k < 1280) : ∀ (M : Nat) (σ : Sg) (p i : Int), gA σ 241 k = 2 → -1 ≤ i → i ≤ 3 → 0 ≤ p → p + i + 1 ≤ 1400 → i + 2 ≤ M → ∃ σ', b10_numberLetters_114 N K M σ p c k i = K σ' (p + i + 1) c ∧ fr [] [247] σ σ' ∧ (∀ j, j < p → gA σ' 247 j = gA σ 247 j) ∧ ∀ t, 0 ≤ t → t ≤ i → gA σ' 247 (p + (i - t)) = gA σ 243 (4 * k + t) := by
  intro M
  induction M with
  | zero => intro σ p i _ _ _ _ _ h; exact absurd h (by omega)
  | succ M ih =>
    intro σ p i h0 h1 h2 h3 h4 h5
    unfold b10_numberLetters_114
    by_cases e : i < 0
    · rw [if_pos e]
      unfold b10_numberLetters_157
      exact ⟨σ, by rw [show p + i + 1 = p by omega], fr_r _, fun _ _ => rfl, fun t t1 t2 => absurd t2 (by omega)⟩
    · rw [if_neg e, ck_t (show 0 ≤ k ∧ k < 1280 by omega), if_pos h0, ck_t (show inR (4 * k) from ⟨by omega, by omega⟩), ck_t (show inR (4 * k + i) from ⟨by omega, by omega⟩), ck_t (show 0 ≤ 4 * k + i ∧ 4 * k + i < 5120 by omega), ck_t (show 0 ≤ p ∧ p < 1400 by omega), nx_d, ck_t (show inR (p + 1) from ⟨by omega, by omega⟩), ck_t (show inR (i + -1) from ⟨by omega, by omega⟩)]
      obtain ⟨σ', q1, q2, q3, q4⟩ := ih (sA σ 247 p (gA σ 243 (4 * k + i))) (p + 1) (i + -1) h0 (by omega) (by omega) (by omega) (by omega) (by omega)
      refine ⟨σ', by rw [q1, show p + 1 + (i + -1) + 1 = p + i + 1 by omega], fr_t (fr_A _ _ _ (by decide) (fr_r _)) q2, fun j hj => ?_, fun t t1 t2 => ?_⟩
      · rw [q3 j (by omega), gA_sA, if_pos rfl, if_neg (by omega)]
      · by_cases z : t = i
        · rw [z, show p + (i - i) = p by omega, q3 p (by omega), gA_sA, if_pos rfl, if_pos rfl]
        · have := q4 t t1 (by omega)
          rw [show p + 1 + (i + -1 - t) = p + (i - t) by omega, gA_sA, if_neg (by decide)] at this
          exact this
theorem n_none {N : Nat} {K : Sg → Int → Int → Option (Sg × Int)} {c k p : Int} {σ : Sg} (hk : 0 ≤ k ∧ k < 1280) (h : gA σ 241 k ≠ 2) (hN : 1 ≤ N) : b10_numberLetters_111 N K σ p c k = K σ p c := by
  unfold b10_numberLetters_111
  obtain ⟨M, e⟩ : ∃ M, N = M + 1 := ⟨N - 1, by omega⟩
  rw [show b10_numberLetters_114 N K N σ p c k 3 = b10_numberLetters_114 N K (M + 1) σ p c k 3 by rw [← e]]
  unfold b10_numberLetters_114
  rw [if_neg (by decide), ck_t (show 0 ≤ k ∧ k < 1280 by omega), if_neg h]
  rfl
def NM (lo n : Int) (F P R sn lt : Int → Int) (X W : List Int) : Prop := (∀ k, lo ≤ k → k < lo + n → sn k ≠ 0 → R k = k ∧ (F k = 3 → (0 ≤ lt k ∧ lt k ≤ 1280) ∧ W[(lt k).toNat]? = some (3 + k)) ∧ (F k = 2 → ∀ i, 0 ≤ i → i < 4 → sn (R (P (4 * k + i))) ≠ 0 ∨ ∃ x ∈ X, R x = R (P (4 * k + i)))) ∧ (∀ x ∈ W, ∃ k, (lo ≤ k ∧ k < lo + n) ∧ sn k ≠ 0 ∧ x = 3 + k) ∧ W.Nodup ∧ ∀ x ∈ X, lo ≤ x ∧ x < lo + n
theorem n_clear {lo n : Int} {N : Nat} {x1 : Int} (hlo : 0 ≤ lo ∧ lo + n ≤ 1280) : ∀ (M : Nat) (σ : Sg) (x : Int), gI σ 240 = n → lo ≤ x → x ≤ lo + n → lo + n + 1 ≤ x + M → ∃ σ', b10_numberLetters_13 N M σ x1 lo x = b10_numberLetters_51 N N (sA σ' 247 0 x1) (0 + 1) 0 ∧ fr [] [249] σ σ' ∧ (∀ j, x ≤ j → j < lo + n → gA σ' 249 j = 0) ∧ ∀ j, j < x → gA σ' 249 j = gA σ 249 j := by
  intro M
  induction M with
  | zero => intro σ x _ h2 h3 h4; exact absurd h4 (by omega)
  | succ M ih =>
    intro σ x h1 h2 h3 h4
    unfold b10_numberLetters_13
    rw [h1, ck_t (show inR (lo + n) from ⟨by omega, by omega⟩)]
    by_cases e : lo + n ≤ x
    · rw [if_pos e, ck_t (by decide), nx_d, ck_t (by decide)]
      exact ⟨σ, rfl, fr_r _, fun j j1 j2 => absurd j2 (by omega), fun _ _ => rfl⟩
    · rw [if_neg e, ck01, ck_t (show 0 ≤ x ∧ x < 1280 by omega), nx_d, ck_t (show inR (x + 1) from ⟨by omega, by omega⟩)]
      obtain ⟨σ', q1, q2, q3, q4⟩ := ih (sA σ 249 x 0) (x + 1) h1 (by omega) (by omega) (by omega)
      refine ⟨σ', q1, fr_t (fr_A _ _ _ (by decide) (fr_r _)) q2, fun j j1 j2 => ?_, fun j j1 => ?_⟩
      · by_cases z : j = x
        · rw [q4 j (by omega), gA_sA, if_pos rfl, if_pos z]
        · exact q3 j (by omega) j2
      · rw [q4 j (by omega), gA_sA, if_pos rfl, if_neg (by omega)]
