/-! ===== the reference reads the type that it found ===== -/
/-- the cells reached: closed under parts, letters with their places in W -/
def KM (lo n : Int) (F P R lt : Int → Int) (X0 : Int → Prop) (W : List Int) : Prop := ∀ k, X0 k → (lo ≤ k ∧ k < lo + n) ∧ R k = k ∧ (0 ≤ F k ∧ F k ≤ 3) ∧ (F k = 3 → (0 ≤ lt k ∧ lt k ≤ 1280) ∧ W[(lt k).toNat]? = some (3 + k)) ∧ (F k = 2 → ∀ i, 0 ≤ i → i < 4 → (lo ≤ P (4 * k + i) ∧ P (4 * k + i) < lo + n) ∧ X0 (R (P (4 * k + i))) ∧ R (R (P (4 * k + i))) = R (P (4 * k + i)))
theorem m_walk {lo n : Int} {F P R : Int → Int} {d : Int → Nat} {J : Nat} {L : List Int} {σ : Sg} {X0 : Int → Prop} {W : List Int} (hlo : 0 ≤ lo ∧ lo + n ≤ 1280) (hn : n ≤ 640) (e1 : gA σ 241 = F) (e2 : gA σ 243 = P) (hu : US lo n (sf (gA σ 242)) R d J L) (hs : ∀ k, lo ≤ k → k < lo + n → gA σ 242 k ≠ k) (hk : KM lo n F P R (gA σ 244) X0 W) {N : Nat} (hN : 1300 ≤ N) : ∀ (m M : Nat) (k x : Int), m < M → X0 k → 0 ≤ x → x < (10 : Int) ^ m → ∃ r, b10_part_25 N M σ k x = some (σ, r) ∧ RD W (m + 1) (v0 F P R k) x r := by
  intro m
  have base : ∀ (M : Nat) (k x : Int), X0 k → x ≤ 0 → ∃ r, b10_part_25 N (M + 1) σ k x = some (σ, r) ∧ lb W (v0 F P R k []) r := by
    intro M k x k0 hx
    obtain ⟨a1, a2, a3, a4, a5⟩ := hk k k0
    unfold b10_part_25
    rw [if_pos hx, ck_t (show 0 ≤ k ∧ k < 1280 by omega), ck_t (show 0 ≤ k ∧ k < 1280 by omega), e1]
    unfold f10_told
    have l0 : v0 F P R k [] = if F k = 3 then 3 + k else F k := by
      show (if F (R k) = 3 then 3 + R k else F (R k)) = _
      rw [a2]
    rw [l0]
    by_cases f3 : F k = 3
    · have q := a4 f3
      rw [if_pos f3, if_pos f3, ck_t (show inR (3 + gA σ 244 k) from ⟨by omega, by omega⟩), bd_s]
      refine ⟨_, rfl, Or.inr ⟨by omega, by omega, ?_⟩⟩
      rw [show (3 + gA σ 244 k - 3).toNat = (gA σ 244 k).toNat by congr 1; omega]
      exact q.2
    · rw [if_neg f3, if_neg f3, bd_s]
      exact ⟨_, rfl, Or.inl ⟨by omega, rfl⟩⟩
  induction m with
  | zero =>
    intro M k x hM k0 x0 x1
    have hx : x = 0 := by have : (10 : Int) ^ 0 = 1 := rfl; omega
    obtain ⟨M', e⟩ : ∃ M', M = M' + 1 := ⟨M - 1, by omega⟩
    subst e hx
    obtain ⟨r, r1, r2⟩ := base M' k 0 k0 (Int.le_refl 0)
    exact ⟨r, r1, r2⟩
  | succ m ih =>
    intro M k x hM k0 x0 x1
    obtain ⟨M', e⟩ : ∃ M', M = M' + 1 := ⟨M - 1, by omega⟩
    subst e
    obtain ⟨a1, a2, a3, a4, a5⟩ := hk k k0
    have l0 : v0 F P R k [] = if F k = 3 then 3 + k else F k := by
      show (if F (R k) = 3 then 3 + R k else F (R k)) = _
      rw [a2]
    show ∃ r, _ ∧ (if x ≤ 0 then lb W (v0 F P R k []) r else if x % 10 < 1 ∨ 4 < x % 10 ∨ v0 F P R k [] ≠ 2 then r = -1 else RD W (m + 1) (chT (v0 F P R k) (x % 10 - 1)) (x / 10) r)
    by_cases hx : x ≤ 0
    · obtain ⟨r, r1, r2⟩ := base M' k x k0 hx
      refine ⟨r, r1, ?_⟩
      rw [if_pos hx]; exact r2
    unfold b10_part_25
    simp only [if_neg hx]
    rw [ck_t x0, m_in, bd_s, ite_b]
    by_cases dg : 1 ≤ x % 10 ∧ x % 10 ≤ 4
    · rw [if_pos dg, ck_t (show 0 ≤ k ∧ k < 1280 by omega), e1]
      by_cases f2 : F k = 2
      · have l2 : v0 F P R k [] = 2 := by rw [l0, if_neg (by omega), f2]
        rw [if_pos f2, ck_t (show inR (4 * k) from ⟨by omega, by omega⟩), ck_t (show inR (4 * k + x % 10) from ⟨by omega, by omega⟩), ck_t (show inR (4 * k + x % 10 - 1) from ⟨by omega, by omega⟩), ck_t (show 0 ≤ 4 * k + x % 10 - 1 ∧ 4 * k + x % 10 - 1 < 5120 by omega), e2]
        obtain ⟨i, hi⟩ : ∃ i, x % 10 - 1 = i := ⟨_, rfl⟩
        have hi4 : 0 ≤ i ∧ i < 4 := by omega
        obtain ⟨p1, p2, p3⟩ := a5 f2 i hi4.1 hi4.2
        rw [show 4 * k + x % 10 - 1 = 4 * k + i by omega]
        unfold f10_end
        have dj := US_J hu p1.1 p1.2
        rw [m_end hlo hu hs N _ p1.1 p1.2 (by omega), bd_s, ck_t x0]
        have hpow : (10 : Int) ^ (m + 1) = 10 ^ m * 10 := Int.pow_succ 10 m
        obtain ⟨r, r1, r2⟩ := ih M' (R (P (4 * k + i))) (x / 10) (by omega) p2 (by omega) (by omega)
        refine ⟨r, r1, ?_⟩
        rw [if_neg (by rw [l2]; omega)]
        have ch : chT (v0 F P R k) (x % 10 - 1) = v0 F P R (R (P (4 * k + i))) := by
          rw [hi]
          funext q
          show ul F P R (i :: q) k = ul F P R q (R (P (4 * k + i)))
          rw [ul_c p3 q]
          show (if F (R k) = 2 ∧ 0 ≤ i ∧ i < 4 then ul F P R q (P (4 * R k + i)) else -1) = _
          rw [a2, if_pos ⟨f2, hi4⟩]
        rw [ch]
        exact r2
      · rw [if_neg f2]
        refine ⟨_, rfl, ?_⟩
        rw [if_pos (Or.inr (Or.inr _))]
        rw [l0]
        by_cases f3 : F k = 3
        · rw [if_pos f3]; omega
        · rw [if_neg f3]; exact f2
    · rw [if_neg dg]
      refine ⟨_, rfl, ?_⟩
      rw [if_pos (by omega)]
