/-! ===== endless: one cell looked at ===== -/
theorem e_inner {lo n : Int} {P R : Int → Int} {d : Int → Nat} {J : Nat} {L : List Int} {N : Nat} {K52 : Sg → Int → Int → Option (Sg × Int)} {K60 : Sg → Int → Int → Int → Option (Sg × Int)} {σ : Sg} {x1 x2 k : Int} (hlo : 0 ≤ lo ∧ lo + n ≤ 1280) (hn : n ≤ 640) (hN : 1300 ≤ N) (e2 : gA σ 243 = P) (hu : US lo n (sf (gA σ 242)) R d J L) (hs : ∀ k, lo ≤ k → k < lo + n → gA σ 242 k ≠ k) (hk : lo ≤ k ∧ k < lo + n) (hp : ∀ i, 0 ≤ i → i < 4 → lo ≤ P (4 * k + i) ∧ P (4 * k + i) < lo + n) : ∀ (M : Nat) (y i : Int), 0 ≤ i → i ≤ 4 → 5 ≤ i + M → ∃ z, b10_endless_98 N K52 K60 M σ x1 x2 k y i = b10_endless_137 N K52 K60 σ x1 x2 k z ∧ (z ≠ 0 → y ≠ 0 ∧ ∀ j, i ≤ j → j < 4 → gA σ 249 (R (P (4 * k + j))) ≠ 0) ∧ (y ≠ 0 → (∀ j, i ≤ j → j < 4 → gA σ 249 (R (P (4 * k + j))) ≠ 0) → z ≠ 0) := by
  intro M
  induction M with
  | zero => intro y i _ h2 h3; exact absurd h3 (by omega)
  | succ M ih =>
    intro y i h1 h2 h3
    unfold b10_endless_98
    by_cases e : 4 ≤ i
    · rw [if_pos e]
      exact ⟨y, rfl, fun z => ⟨z, fun j j1 j2 => absurd j2 (by omega)⟩, fun z _ => z⟩
    rw [if_neg e]
    by_cases y0 : y = 0
    · rw [if_pos y0]
      exact ⟨y, rfl, fun z => absurd y0 z, fun z => absurd y0 z⟩
    have q := hp i h1 (by omega)
    have dj := US_J hu q.1 q.2
    have ri := (hu.1 _ q.1 q.2).2.1
    unfold f10_end
    rw [if_neg y0, ck_t (show inR (4 * k) from ⟨by omega, by omega⟩), ck_t (show inR (4 * k + i) from ⟨by omega, by omega⟩), ck_t (show 0 ≤ 4 * k + i ∧ 4 * k + i < 5120 by omega), e2, m_end hlo hu hs N _ q.1 q.2 (by omega), bd_s, ck_t (show 0 ≤ R (P (4 * k + i)) ∧ R (P (4 * k + i)) < 1280 by omega), ck_t (show inR (i + 1) from ⟨by omega, by omega⟩)]
    obtain ⟨z, z1, z2, z3⟩ := ih (gA σ 249 (R (P (4 * k + i)))) (i + 1) (by omega) (by omega) (by omega)
    refine ⟨z, z1, fun w => ⟨y0, fun j j1 j2 => ?_⟩, fun _ w => z3 (w i (Int.le_refl _) (by omega)) (fun j j1 j2 => w j (by omega) j2)⟩
    by_cases ej : j = i
    · rw [ej]; exact (z2 w).1
    · exact (z2 w).2 j (by omega) j2
