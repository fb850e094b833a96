/-! ===== the reference's cells ===== -/
def sf (f : Int → Int) : Int → Int := fun k => if f k < 0 then k else f k
theorem m_end {lo n : Int} (hlo : 0 ≤ lo ∧ lo + n ≤ 1280) {σ : Sg} {R : Int → Int} {d : Int → Nat} {J : Nat} {L : List Int} (h : US lo n (sf (gA σ 242)) R d J L) (hs : ∀ k, lo ≤ k → k < lo + n → gA σ 242 k ≠ k) {N : Nat} : ∀ (M : Nat) (x : Int), lo ≤ x → x < lo + n → d x < M → b10_end_2 N M σ x = some (σ, R x) := by
  intro M
  induction M with
  | zero => intro x _ _ h3; exact absurd h3 (Nat.not_lt_zero _)
  | succ M ih =>
    intro x h1 h2 h3
    obtain ⟨a1, a2, a3, a4, a5, a6, a7, a8⟩ := h.1 x h1 h2
    unfold b10_end_2
    rw [ck_t (show 0 ≤ x ∧ x < 1280 by omega)]
    by_cases e : gA σ 242 x < 0
    · have : sf (gA σ 242) x = x := if_pos e
      rw [if_pos e, a5 this]
    · have es : sf (gA σ 242) x = gA σ 242 x := if_neg e
      rw [es] at a1 a3 a6
      rw [if_neg e, ck_t (show 0 ≤ x ∧ x < 1280 by omega), ih _ a1.1 a1.2 (by have := a6 (hs x h1 h2); omega), a3]
/-- the reference's cells stand well -/
def MS (σ : Sg) (lo n : Int) (R : Int → Int) (LF : List Int) : Prop := (gI σ 239 = 0 ∨ gI σ 239 = 1) ∧ lo = 640 * (1 - gI σ 239) ∧ gI σ 240 = n ∧ (0 ≤ n ∧ n ≤ 640) ∧ ∃ (d : Int → Nat) (J : Nat) (L : List Int), US lo n (sf (gA σ 242)) R d J L ∧ CL lo n (gA σ 241) (gA σ 243) R (fun _ => True) ∧ FL lo n (gA σ 241) R LF ∧ ∀ k, lo ≤ k → k < lo + n → gA σ 242 k ≠ k
abbrev MM (σ : Sg) (lo n : Int) (R : Int → Int) (v : Int → Tr) : Prop := MD lo n (gA σ 241) (gA σ 243) R v
theorem MS_lo {σ : Sg} {lo n : Int} {R : Int → Int} {LF : List Int} (h : MS σ lo n R LF) : (lo = 0 ∨ lo = 640) ∧ 0 ≤ lo ∧ lo + n ≤ 1280 := by
  obtain ⟨h1, h2, h3, h4, -⟩ := h
  rcases h1 with q | q <;> rw [q] at h2 <;> omega
theorem m_cell {σ : Sg} {lo n : Int} (hb : gI σ 239 = 0 ∨ gI σ 239 = 1) (hlo : lo = 640 * (1 - gI σ 239)) (hc : gI σ 240 = n) (hn : 0 ≤ n ∧ n < 640) (f : Int) : ∃ σ', f10_cell σ f = some (σ', lo + n) ∧ gI σ' 240 = n + 1 ∧ (∀ j, gA σ' 241 j = if j = lo + n then f else gA σ 241 j) ∧ (∀ j, gA σ' 242 j = if j = lo + n then -1 else gA σ 242 j) ∧ fr [240] [241, 242] σ σ' := by
  unfold f10_cell
  have hb2 : 0 ≤ gI σ 239 ∧ gI σ 239 ≤ 1 := by omega
  rw [ck_t (show inR (1 - gI σ 239) from ⟨by omega, by omega⟩), ← hlo, hc, ck_t (show inR lo from ⟨by omega, by omega⟩), ck_t (show inR (lo + n) from ⟨by omega, by omega⟩), ck_t (show 0 ≤ lo + n ∧ lo + n < 1280 by omega), nx_d, ck_t (show 0 ≤ lo + n ∧ lo + n < 1280 by omega), nx_d, gI_sA, gI_sA, hc, ck_t (show inR (n + 1) from ⟨by omega, by omega⟩), nx_d]
  refine ⟨_, rfl, by rw [gI_sI, if_pos rfl], fun j => ?_, fun j => ?_, fr_I _ _ (by decide) (fr_A _ _ _ (by decide) (fr_A _ _ _ (by decide) (fr_r _)))⟩
  · simp only [gA_sI, gA_sA, Nat.reduceEqDiff, reduceIte]
  · simp only [gA_sI, gA_sA, Nat.reduceEqDiff, reduceIte]
/-- a new cell that is no function -/
theorem m_new {σ : Sg} {lo n : Int} {R : Int → Int} {LF : List Int} (h : MS σ lo n R LF) (hn : n < 640) {f : Int} (hf : f = 0 ∨ f = 1 ∨ f = 3) : ∃ (σ' : Sg) (R' : Int → Int), f10_cell σ f = some (σ', lo + n) ∧ fr [240] [241, 242] σ σ' ∧ MS σ' lo (n + 1) R' LF ∧ ∀ v, (MM σ' lo (n + 1) R' v ↔ MM σ lo n R v ∧ tre (v (lo + n)) ∧ (f = 0 → v (lo + n) = leaf 0) ∧ (f = 1 → v (lo + n) = leaf 1)) := by
  have hl := MS_lo h
  obtain ⟨h1, h2, h3, h4, d, J, L, u1, u2, u3, u4⟩ := h
  obtain ⟨σ', e1, e2, e3, e4, e5⟩ := m_cell h1 h2 h3 (by omega) f
  have e243 : gA σ' 243 = gA σ 243 := funext fun j => e5.2 243 (by decide) j
  have e239 : gI σ' 239 = gI σ 239 := e5.1 239 (by decide)
  have w1 := US_new u1 h4.1 (S' := sf (gA σ' 242)) (fun k k1 k2 => by unfold sf; rw [e4, if_neg (show ¬ k = lo + n by omega)]) (by unfold sf; rw [e4, if_pos (show lo + n = lo + n from rfl), if_pos (by decide)])
  have w2 := CL_new (F' := gA σ' 241) (P' := gA σ 243) u2 (fun k k1 k2 => (u1.1 k k1 k2).2.1) (fun k k1 k2 => by rw [e3, if_neg (by omega)]) (fun _ _ _ _ _ _ => rfl) (by rw [e3, if_pos rfl]; omega) (fun z => by rw [e3, if_pos rfl] at z; omega)
  have w3 := FL_new' (F' := gA σ' 241) u3 (fun k k1 k2 => by rw [e3, if_neg (by omega)]) (by rw [e3, if_pos rfl]; omega)
  have w4 := MD_new (F' := gA σ' 241) (P' := gA σ 243) h4.1 u2 (fun k k1 k2 => by rw [e3, if_neg (by omega)]) (fun _ _ _ _ _ _ => rfl)
  refine ⟨σ', _, e1, e5, ⟨by rw [e239]; exact h1, by rw [e239]; exact h2, e2, by omega, _, J, _, w1, by rw [e243]; exact w2, w3, fun k k1 k2 => ?_⟩, fun v => ?_⟩
  · rw [e4]
    by_cases z : k = lo + n
    · rw [if_pos z]; omega
    · rw [if_neg z]; exact u4 k k1 (by omega)
  · unfold MM
    rw [e243, w4 v, e3 (lo + n), if_pos rfl]
    refine ⟨fun q => ⟨q.1, q.2.1, q.2.2.1, q.2.2.2.1⟩, fun q => ⟨q.1, q.2.1, q.2.2.1, q.2.2.2, fun z => ?_⟩⟩
    omega
/-- a new function -/
theorem m_newF {σ : Sg} {lo n : Int} {R : Int → Int} {LF : List Int} (h : MS σ lo n R LF) (hn : n < 640) {a b c e : Int} (ha : lo ≤ a ∧ a < lo + n) (hb : lo ≤ b ∧ b < lo + n) (hc : lo ≤ c ∧ c < lo + n) (he : lo ≤ e ∧ e < lo + n) : ∃ (σ' : Sg) (R' : Int → Int), f10_functionCell σ a b c e = some (σ', lo + n) ∧ fr [240] [241, 242, 243] σ σ' ∧ MS σ' lo (n + 1) R' ((lo + n) :: LF) ∧ ∀ v, (MM σ' lo (n + 1) R' v ↔ MM σ lo n R v ∧ v (lo + n) = fnT (v a) (v b) (v c) (v e)) := by
  have hl := MS_lo h
  obtain ⟨h1, h2, h3, h4, d, J, L, u1, u2, u3, u4⟩ := h
  obtain ⟨σ1, e1, e2, e3, e4, e5⟩ := m_cell h1 h2 h3 (by omega) 2
  unfold f10_functionCell
  rw [e1, bd_s]
  obtain ⟨m, hm⟩ : ∃ m, lo + n = m := ⟨_, rfl⟩
  have hm2 : 0 ≤ m ∧ m < 1280 := by omega
  rw [hm, ck_t (show inR (4 * m) from ⟨by omega, by omega⟩), ck_t (show 0 ≤ 4 * m ∧ 4 * m < 5120 by omega), nx_d, ck_t (show inR (4 * m) from ⟨by omega, by omega⟩), ck_t (show inR (4 * m + 1) from ⟨by omega, by omega⟩), ck_t (show 0 ≤ 4 * m + 1 ∧ 4 * m + 1 < 5120 by omega), nx_d, ck_t (show inR (4 * m) from ⟨by omega, by omega⟩), ck_t (show inR (4 * m + 2) from ⟨by omega, by omega⟩), ck_t (show 0 ≤ 4 * m + 2 ∧ 4 * m + 2 < 5120 by omega), nx_d, ck_t (show inR (4 * m) from ⟨by omega, by omega⟩), ck_t (show inR (4 * m + 3) from ⟨by omega, by omega⟩), ck_t (show 0 ≤ 4 * m + 3 ∧ 4 * m + 3 < 5120 by omega), nx_d]
  obtain ⟨σ', hs⟩ : ∃ σ', sA (sA (sA (sA σ1 243 (4 * m) a) 243 (4 * m + 1) b) 243 (4 * m + 2) c) 243 (4 * m + 3) e = σ' := ⟨_, rfl⟩
  rw [hs]
  have e5' : fr [240] [241, 242, 243] σ σ' := by
    rw [← hs]
    exact fr_A _ _ _ (by decide) (fr_A _ _ _ (by decide) (fr_A _ _ _ (by decide) (fr_A _ _ _ (by decide) (fr_m (by decide) (by decide) e5))))
  have p : ∀ j, gA σ' 243 j = if j = 4 * m + 3 then e else if j = 4 * m + 2 then c else if j = 4 * m + 1 then b else if j = 4 * m then a else gA σ 243 j := fun j => by
    rw [← hs]
    simp only [gA_sA, reduceIte]
    rw [e5.2 243 (by decide)]
  have e2' : gI σ' 240 = n + 1 := by rw [← hs]; simp only [gI_sA]; exact e2
  have e239 : gI σ' 239 = gI σ 239 := e5'.1 239 (by decide)
  have e3' : ∀ j, gA σ' 241 j = if j = lo + n then 2 else gA σ 241 j := fun j => by rw [← hs]; simp only [gA_sA, Nat.reduceEqDiff, reduceIte]; exact e3 j
  have e4' : ∀ j, gA σ' 242 j = if j = lo + n then -1 else gA σ 242 j := fun j => by rw [← hs]; simp only [gA_sA, Nat.reduceEqDiff, reduceIte]; exact e4 j
  have p0 : gA σ' 243 (4 * m) = a := by rw [p, if_neg (by omega), if_neg (by omega), if_neg (by omega), if_pos rfl]
  have p1 : gA σ' 243 (4 * m + 1) = b := by rw [p, if_neg (by omega), if_neg (by omega), if_pos rfl]
  have p2 : gA σ' 243 (4 * m + 2) = c := by rw [p, if_neg (by omega), if_pos rfl]
  have p3 : gA σ' 243 (4 * m + 3) = e := by rw [p, if_pos rfl]
  have pold : ∀ k, lo ≤ k → k < lo + n → ∀ i, 0 ≤ i → i < 4 → gA σ' 243 (4 * k + i) = gA σ 243 (4 * k + i) := fun k k1 k2 i i1 i2 => by rw [p, if_neg (by omega), if_neg (by omega), if_neg (by omega), if_neg (by omega)]
  have w1 := US_new u1 h4.1 (S' := sf (gA σ' 242)) (fun k k1 k2 => by unfold sf; rw [e4', if_neg (show ¬ k = lo + n by omega)]) (by unfold sf; rw [e4', if_pos (show lo + n = lo + n from rfl), if_pos (by decide)])
  have w2 := CL_new (F' := gA σ' 241) (P' := gA σ' 243) u2 (fun k k1 k2 => (u1.1 k k1 k2).2.1) (fun k k1 k2 => by rw [e3', if_neg (by omega)]) pold (by rw [e3', if_pos rfl]; decide) (fun _ i i1 i2 => by
    rw [hm]
    rcases idx4 ⟨i1, i2⟩ with rfl | rfl | rfl | rfl
    · rw [Int.add_zero, p0]; omega
    · rw [p1]; omega
    · rw [p2]; omega
    · rw [p3]; omega)
  have w3 := FL_new (F' := gA σ' 241) u3 (fun k k1 k2 => by rw [e3', if_neg (by omega)])
  have w4 := MD_new (F' := gA σ' 241) (P' := gA σ' 243) h4.1 u2 (fun k k1 k2 => by rw [e3', if_neg (by omega)]) pold
  rw [← hm]
  refine ⟨σ', _, rfl, e5', ⟨by rw [e239]; exact h1, by rw [e239]; exact h2, e2', by omega, _, J, _, w1, w2, w3, fun k k1 k2 => ?_⟩, fun v => ?_⟩
  · rw [e4']
    by_cases z : k = lo + n
    · rw [if_pos z]; omega
    · rw [if_neg z]; exact u4 k k1 (by omega)
  · unfold MM
    rw [w4 v, e3' (lo + n), if_pos rfl, hm, p0, p1, p2, p3]
    refine ⟨fun q => ⟨q.1, q.2.2.2.2 rfl⟩, fun q => ⟨q.1, ?_, fun z => absurd z (by decide), fun z => absurd z (by decide), fun _ => q.2⟩⟩
    rw [q.2]
    exact tre_fn (q.1 a ha.1 ha.2).1 (q.1 b hb.1 hb.2).1 (q.1 c hc.1 hc.2).1 (q.1 e he.1 he.2).1
