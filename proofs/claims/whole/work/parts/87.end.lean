/-! ===== the reference's endless: its first and its last loop ===== -/
theorem e_init {lo n : Int} {N : Nat} (hlo : 0 ≤ lo ∧ lo + n ≤ 1280) : ∀ (M : Nat) (σ : Sg) (x : Int), gI σ 240 = n → lo ≤ x → x ≤ lo + n → lo + n + 1 ≤ x + M → ∃ σ', b10_endless_13 N M σ lo x = b10_endless_52 N N σ' lo 1 ∧ fr [] [249] σ σ' ∧ (∀ j, x ≤ j → j < lo + n → gA σ' 249 j = if gA σ 241 j = 2 then 0 else 1) ∧ ∀ j, j < x → gA σ' 249 j = gA σ 249 j := by
  intro M
  induction M with
  | zero => intro σ x _ h2 h3 h4; exact absurd h4 (by omega)
  | succ M ih =>
    intro σ x h1 h2 h3 h4
    unfold b10_endless_13
    rw [h1, ck_t (show inR (lo + n) from ⟨by omega, by omega⟩)]
    by_cases e : lo + n ≤ x
    · rw [if_pos e]
      exact ⟨σ, rfl, fr_r _, fun j j1 j2 => absurd j2 (by omega), fun _ _ => rfl⟩
    · rw [if_neg e, ck_t (show 0 ≤ x ∧ x < 1280 by omega)]
      have step : ∀ y : Int, (y = 0 ∨ y = 1) → (y = if gA σ 241 x = 2 then 0 else 1) → ∃ σ', b10_endless_43 N (b10_endless_13 N M) σ lo x x y = b10_endless_52 N N σ' lo 1 ∧ fr [] [249] σ σ' ∧ (∀ j, x ≤ j → j < lo + n → gA σ' 249 j = if gA σ 241 j = 2 then 0 else 1) ∧ ∀ j, j < x → gA σ' 249 j = gA σ 249 j := fun y y1 y2 => by
        unfold b10_endless_43
        rw [ck_t y1, ck_t (show 0 ≤ x ∧ x < 1280 by omega), nx_d, ck_t (show inR (x + 1) from ⟨by omega, by omega⟩)]
        obtain ⟨σ', q1, q2, q3, q4⟩ := ih (sA σ 249 x y) (x + 1) h1 (by omega) (by omega) (by omega)
        refine ⟨σ', q1, fr_t (fr_A _ _ _ (by decide) (fr_r _)) q2, fun j j1 j2 => ?_, fun j j1 => ?_⟩
        · by_cases z : j = x
          · rw [q4 j (by omega), gA_sA, if_pos rfl, if_pos z, z]; exact y2
          · have := q3 j (by omega) j2
            rw [show gA (sA σ 249 x y) 241 j = gA σ 241 j from by rw [gA_sA, if_neg (by decide)]] at this
            exact this
        · rw [q4 j (by omega), gA_sA, if_pos rfl, if_neg (by omega)]
      by_cases f2 : gA σ 241 x = 2
      · rw [if_pos f2]
        exact step 0 (Or.inl rfl) (by rw [if_pos f2])
      · rw [if_neg f2]
        exact step 1 (Or.inr rfl) (by rw [if_neg f2])
/-- whether something is left over -/
theorem e_last {lo n : Int} {N : Nat} (hlo : 0 ≤ lo ∧ lo + n ≤ 1280) {σ : Sg} (hc : gI σ 240 = n) : ∀ (M : Nat) (y x : Int), (y = 0 ∨ y = 1) → lo ≤ x → x ≤ lo + n → lo + n + 1 ≤ x + M → ∃ r, b10_endless_165 N M σ lo y x = some (σ, r) ∧ (r = 0 ∨ r = 1) ∧ (y = 1 → r = 1) ∧ (r = 0 → ∀ j, x ≤ j → j < lo + n → gA σ 249 j ≠ 0 ∨ 0 ≤ gA σ 242 j) ∧ (r = 1 → y = 1 ∨ ∃ j, x ≤ j ∧ j < lo + n ∧ gA σ 249 j = 0 ∧ gA σ 242 j < 0) := by
  intro M
  induction M with
  | zero => intro y x _ h2 h3 h4; exact absurd h4 (by omega)
  | succ M ih =>
    intro y x hy h2 h3 h4
    unfold b10_endless_165
    rw [hc, ck_t (show inR (lo + n) from ⟨by omega, by omega⟩)]
    by_cases e : lo + n ≤ x
    · rw [if_pos e, ck_t hy]
      exact ⟨y, rfl, hy, fun q => q, fun _ j j1 j2 => absurd j2 (by omega), fun q => Or.inl q⟩
    rw [if_neg e]
    have step : ∀ y' : Int, (y' = 0 ∨ y' = 1) → (y = 1 → y' = 1) → (y' = 0 → gA σ 249 x ≠ 0 ∨ 0 ≤ gA σ 242 x) → (y' = 1 → y = 1 ∨ (gA σ 249 x = 0 ∧ gA σ 242 x < 0)) → ∃ r, b10_endless_205 N (b10_endless_165 N M) σ lo x y' = some (σ, r) ∧ (r = 0 ∨ r = 1) ∧ (y = 1 → r = 1) ∧ (r = 0 → ∀ j, x ≤ j → j < lo + n → gA σ 249 j ≠ 0 ∨ 0 ≤ gA σ 242 j) ∧ (r = 1 → y = 1 ∨ ∃ j, x ≤ j ∧ j < lo + n ∧ gA σ 249 j = 0 ∧ gA σ 242 j < 0) := fun y' y1 y2 y3 y4 => by
      unfold b10_endless_205
      rw [ck_t (show inR (x + 1) from ⟨by omega, by omega⟩)]
      obtain ⟨r, q1, q2, q3, q4, q5⟩ := ih y' (x + 1) y1 (by omega) (by omega) (by omega)
      refine ⟨r, q1, q2, fun z => q3 (y2 z), fun z j j1 j2 => ?_, fun z => ?_⟩
      · by_cases w : j = x
        · rw [w]
          refine y3 (Classical.byContradiction (fun v => ?_))
          have := q3 (y1.elim (fun a => absurd a v) (fun a => a))
          rw [z] at this
          exact absurd this (by decide)
        · exact q4 z j (by omega) j2
      · rcases q5 z with w | ⟨j, j1, j2, j3⟩
        · rcases y4 w with w | w
          · exact Or.inl w
          · exact Or.inr ⟨x, by omega, by omega, w⟩
        · exact Or.inr ⟨j, by omega, j2, j3⟩
    by_cases hy0 : y = 0
    · rw [if_pos hy0, ck_t (show 0 ≤ x ∧ x < 1280 by omega)]
      by_cases s0 : gA σ 249 x = 0
      · rw [if_pos s0, ck_t (show 0 ≤ x ∧ x < 1280 by omega)]
        by_cases t0 : 0 ≤ gA σ 242 x
        · rw [if_pos t0]
          exact step 0 (Or.inl rfl) (fun q => by omega) (fun _ => Or.inr t0) (fun q => absurd q (by decide))
        · rw [if_neg t0]
          exact step 1 (Or.inr rfl) (fun _ => rfl) (fun q => absurd q (by decide)) (fun _ => Or.inr ⟨s0, by omega⟩)
      · rw [if_neg s0]
        exact step 0 (Or.inl rfl) (fun q => by omega) (fun _ => Or.inl s0) (fun q => absurd q (by decide))
    · rw [if_neg hy0]
      exact step 1 (Or.inr rfl) (fun _ => rfl) (fun q => absurd q (by decide)) (fun _ => Or.inl (by omega))
