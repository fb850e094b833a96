/-! ===== the reference's contains ===== -/
theorem m_push {N : Nat} {K : Sg → Int → Int → Option (Sg × Int)} {which k : Int} (hk : 0 ≤ k ∧ k < 1280) : ∀ (M : Nat) (σ : Sg) (p i : Int), 0 ≤ i → i ≤ 4 → 0 ≤ p → p + 4 ≤ 1400 + i → 5 ≤ i + M → ∃ σ', b10_contains_113 N K M σ which p k i = K σ' which (p + (4 - i)) ∧ fr [] [247] σ σ' ∧ (∀ j, j < p → gA σ' 247 j = gA σ 247 j) ∧ ∀ t, i ≤ t → t < 4 → gA σ' 247 (p + (t - i)) = gA σ 243 (4 * k + t) := by
  intro M
  induction M with
  | zero => intro σ p i _ _ _ _ h; exact absurd h (by omega)
  | succ M ih =>
    intro σ p i h1 h2 h3 h4 h5
    unfold b10_contains_113
    by_cases e : 4 ≤ i
    · rw [if_pos e]
      unfold b10_contains_146
      refine ⟨σ, by rw [show p + (4 - i) = p by omega], fr_r _, fun _ _ => rfl, fun t t1 t2 => absurd t2 (by omega)⟩
    · rw [if_neg e, ck_t (show inR (4 * k) from ⟨by omega, by omega⟩), ck_t (show inR (4 * k + i) from ⟨by omega, by omega⟩), ck_t (show 0 ≤ 4 * k + i ∧ 4 * k + i < 5120 by omega), ck_t (show 0 ≤ p ∧ p < 1400 by omega), nx_d, ck_t (show inR (p + 1) from ⟨by omega, by omega⟩), ck_t (show inR (i + 1) from ⟨by omega, by omega⟩)]
      obtain ⟨σ', q1, q2, q3, q4⟩ := ih (sA σ 247 p (gA σ 243 (4 * k + i))) (p + 1) (i + 1) (by omega) (by omega) (by omega) (by omega) (by omega)
      refine ⟨σ', by rw [q1, show p + 1 + (4 - (i + 1)) = p + (4 - i) by omega], fr_t (fr_A _ _ _ (by decide) (fr_r _)) q2, fun j hj => ?_, fun t t1 t2 => ?_⟩
      · rw [q3 j (by omega), gA_sA, if_pos rfl, if_neg (by omega)]
      · by_cases z : t = i
        · rw [z, show p + (i - i) = p by omega, q3 p (by omega), gA_sA, if_pos rfl, if_pos rfl]
        · have := q4 t (by omega) t2
          rw [show p + 1 + (t - (i + 1)) = p + (t - i) by omega, gA_sA, if_neg (by decide)] at this
          exact this
section
variable {lo n : Int} {F P R : Int → Int} {d : Int → Nat} {J : Nat} {L : List Int} {N : Nat} {t l : Int}
theorem m_search (hlo : 0 ≤ lo ∧ lo + n ≤ 1280) (hn : n ≤ 640) (hN : 1300 ≤ N) (hcl : ∀ k, lo ≤ k → k < lo + n → F k = 2 → ∀ i, 0 ≤ i → i < 4 → lo ≤ P (4 * k + i) ∧ P (4 * k + i) < lo + n) : ∀ (M : Nat) (σ : Sg) (p : Int) (NU : List Int), gA σ 241 = F → gA σ 243 = P → US lo n (sf (gA σ 242)) R d J L → (∀ k, lo ≤ k → k < lo + n → gA σ 242 k ≠ k) → (∀ k, lo ≤ k → k < lo + n → F k = 2 → R k = k → gA σ 249 k = 0 → k ∈ NU) → 0 ≤ p → p + 4 * NU.length ≤ 1396 → p + 4 * NU.length < M → (∀ j, 0 ≤ j → j < p → (lo ≤ gA σ 247 j ∧ gA σ 247 j < lo + n) ∧ (∀ v m, MD lo n F P R v → fin m (v t) → fin m (v (gA σ 247 j))) ∧ (R (gA σ 247 j) = l → ∀ v m, MD lo n F P R v → fin (m + 1) (v t) → fin m (v (gA σ 247 j)))) → ∃ σ' r, b10_contains_54 N M σ l p = some (σ', r) ∧ fr [] [247, 249] σ σ' ∧ (r = 0 ∨ (r = 1 ∧ ∃ x, (lo ≤ x ∧ x < lo + n) ∧ R x = l ∧ ∀ v m, MD lo n F P R v → fin (m + 1) (v t) → fin m (v x))) := by
  intro M
  induction M with
  | zero => intro σ p NU _ _ _ _ _ h6 _ h8; exact absurd h8 (by omega)
  | succ M ih =>
    intro σ p NU h1 h2 h3 h4 h5 h6 h7 h8 h9
    unfold b10_contains_54
    by_cases hp : p ≤ 0
    · rw [if_pos hp, ck01]
      exact ⟨σ, 0, rfl, fr_r _, Or.inl rfl⟩
    obtain ⟨q, hq⟩ : ∃ q, p = q + 1 := ⟨p - 1, by omega⟩
    subst hq
    rw [if_neg hp, show q + 1 + -1 = q by omega, ck_t (show inR q from ⟨by omega, by omega⟩), ck_t (show 0 ≤ q ∧ q < 1400 by omega)]
    obtain ⟨x, hx⟩ : ∃ x, gA σ 247 q = x := ⟨_, rfl⟩
    have hxx := h9 q (by omega) (by omega)
    rw [hx] at hxx ⊢
    obtain ⟨x1, x2, x3⟩ := hxx
    unfold f10_end
    have dj := US_J h3 x1.1 x1.2
    rw [m_end hlo h3 h4 N x x1.1 x1.2 (by omega), bd_s]
    obtain ⟨k, hk⟩ : ∃ k, R x = k := ⟨_, rfl⟩
    have hki := (h3.1 x x1.1 x1.2).2.1
    have hkr := US_RR h3 x1.1 x1.2
    rw [hk] at hki hkr x3 ⊢
    have skip : ∃ σ' r, b10_contains_146 N (b10_contains_54 N M) σ l q = some (σ', r) ∧ fr [] [247, 249] σ σ' ∧ (r = 0 ∨ (r = 1 ∧ ∃ x, (lo ≤ x ∧ x < lo + n) ∧ R x = l ∧ ∀ v m, MD lo n F P R v → fin (m + 1) (v t) → fin m (v x))) := by
      unfold b10_contains_146
      exact ih σ q NU h1 h2 h3 h4 h5 (by omega) (by omega) (by omega) (fun j j1 j2 => h9 j j1 (by omega))
    by_cases kl : k = l
    · rw [if_pos kl, ck11]
      exact ⟨σ, 1, rfl, fr_r _, Or.inr ⟨rfl, x, x1, by rw [hk]; exact kl, x3 kl⟩⟩
    rw [if_neg kl, ck_t (show 0 ≤ k ∧ k < 1280 by omega), h1]
    by_cases f2 : F k = 2
    · rw [if_pos f2, ck_t (show 0 ≤ k ∧ k < 1280 by omega)]
      by_cases sk : gA σ 249 k = 0
      · rw [if_pos sk, ck11, ck_t (show 0 ≤ k ∧ k < 1280 by omega), nx_d]
        have kNU := h5 k hki.1 hki.2 f2 hkr sk
        have hlen := List.length_erase_of_mem kNU
        have hpos := List.length_pos_of_mem kNU
        obtain ⟨σ1, g1, g2, g3, g4⟩ := m_push (N := N) (K := b10_contains_54 N M) (which := l) (k := k) (by omega) N (sA σ 249 k 1) q 0 (by decide) (by decide) (by omega) (by omega) (by omega)
        rw [g1, show q + (4 - 0) = q + 4 by omega]
        have f01 : fr [] [247, 249] σ σ1 := fr_t (fr_A _ _ _ (by decide) (fr_r _)) (fr_m (by decide) (by decide) g2)
        have a242 : gA σ1 242 = gA σ 242 := funext fun j => f01.2 242 (by decide) j
        have a249 : ∀ j, gA σ1 249 j = if j = k then 1 else gA σ 249 j := fun j => by rw [g2.2 249 (by decide), gA_sA, if_pos rfl]
        obtain ⟨σ', r, w1, w2, w3⟩ := ih σ1 (q + 4) (NU.erase k) ((funext fun j => f01.2 241 (by decide) j).trans h1) ((funext fun j => f01.2 243 (by decide) j).trans h2) (by rw [a242]; exact h3) (by rw [a242]; exact h4) (fun j j1 j2 jf jr js => by
          rw [a249] at js
          by_cases z : j = k
          · rw [if_pos z] at js; exact absurd js (by decide)
          · rw [if_neg z] at js
            exact (List.mem_erase_of_ne z).mpr (h5 j j1 j2 jf jr js)) (by omega) (by omega) (by omega) (fun j j1 j2 => by
          by_cases z : j < q
          · rw [g3 j z, show gA (sA σ 249 k 1) 247 j = gA σ 247 j from rfl]
            exact h9 j j1 (by omega)
          · obtain ⟨i, hi⟩ : ∃ i, j = q + (i - 0) := ⟨j - q, by omega⟩
            have hi4 : 0 ≤ i ∧ i < 4 := by omega
            rw [hi, g4 i hi4.1 hi4.2, show gA (sA σ 249 k 1) 243 (4 * k + i) = P (4 * k + i) from by rw [gA_sA, if_neg (by decide), h2]]
            have strict : ∀ v m, MD lo n F P R v → fin (m + 1) (v t) → fin m (v (P (4 * k + i))) := fun v m hv hm => by
              have a := x2 v (m + 1) hv hm
              rw [(hv x x1.1 x1.2).2.1, hk, (hv k hki.1 hki.2).2.2.2.2 f2] at a
              have b := fin_ch a i
              rcases idx4 hi4 with rfl | rfl | rfl | rfl
              · rw [Int.add_zero]; exact b
              · exact b
              · exact b
              · exact b
            refine ⟨hcl k hki.1 hki.2 f2 i hi4.1 hi4.2, fun v m hv hm => ?_, fun _ => strict⟩
            exact strict v m hv (fin_m hm (by omega)))
        exact ⟨σ', r, w1, fr_t f01 w2, w3⟩
      · rw [if_neg sk]; exact skip
    · rw [if_neg f2]; exact skip
theorem m_clearSeen {x1 x2 : Int} (hlo : 0 ≤ lo ∧ lo + n ≤ 1280) : ∀ (M : Nat) (σ : Sg) (x : Int), gI σ 240 = n → lo ≤ x → x ≤ lo + n → lo + n + 1 ≤ x + M → ∃ σ', b10_contains_18 N M σ x1 x2 0 lo x = b10_contains_54 N N (sA σ' 247 0 x1) x2 (0 + 1) ∧ fr [] [249] σ σ' ∧ (∀ j, x ≤ j → j < lo + n → gA σ' 249 j = 0) ∧ ∀ j, j < x → gA σ' 249 j = gA σ 249 j := by
  intro M
  induction M with
  | zero => intro σ x _ h2 h3 h4; exact absurd h4 (by omega)
  | succ M ih =>
    intro σ x h1 h2 h3 h4
    unfold b10_contains_18
    rw [h1, ck_t (show inR (lo + n) from ⟨by omega, by omega⟩)]
    by_cases e : lo + n ≤ x
    · rw [if_pos e, ck_t (by decide), nx_d, ck_t (by decide)]
      exact ⟨σ, rfl, fr_r _, fun j j1 j2 => absurd j2 (by omega), fun _ _ => rfl⟩
    · rw [if_neg e, ck01, ck_t (show 0 ≤ x ∧ x < 1280 by omega), nx_d, ck_t (show inR (x + 1) from ⟨by omega, by omega⟩)]
      obtain ⟨σ', q1, q2, q3, q4⟩ := ih (sA σ 249 x 0) (x + 1) h1 (by omega) (by omega) (by omega)
      refine ⟨σ', q1, fr_t (fr_A _ _ _ (by decide) (fr_r _)) q2, fun j j1 j2 => ?_, fun j j1 => ?_⟩
      · by_cases z : j = x
        · rw [q4 j (by omega), gA_sA, if_pos rfl, if_pos z]
        · exact q3 j (by omega) j2
      · rw [q4 j (by omega), gA_sA, if_pos rfl, if_neg (by omega)]
end
/-- contains: where it says yes, no model makes the two the same -/
theorem m_contains {σ : Sg} {lo n : Int} {F P R : Int → Int} {d : Int → Nat} {J : Nat} {L LF : List Int} (hb : gI σ 239 = 0 ∨ gI σ 239 = 1) (hlo : lo = 640 * (1 - gI σ 239)) (hc : gI σ 240 = n) (hn : 0 ≤ n ∧ n ≤ 640) (e1 : gA σ 241 = F) (e2 : gA σ 243 = P) (hu : US lo n (sf (gA σ 242)) R d J L) (hs : ∀ k, lo ≤ k → k < lo + n → gA σ 242 k ≠ k) (hcl : ∀ k, lo ≤ k → k < lo + n → F k = 2 → ∀ i, 0 ≤ i → i < 4 → lo ≤ P (4 * k + i) ∧ P (4 * k + i) < lo + n) (hF : FL lo n F R LF) (hl : LF.length ≤ 120) {N : Nat} (hN : 1300 ≤ N) {t l : Int} (ht : lo ≤ t ∧ t < lo + n) (hRt : R t = t) (htl : t ≠ l) (hll : lo ≤ l ∧ l < lo + n) (hRl : R l = l) : ∃ σ' r, f10_contains N σ t l = some (σ', r) ∧ fr [] [247, 249] σ σ' ∧ (r = 0 ∨ (r = 1 ∧ ∀ v, MD lo n F P R v → v l ≠ v t)) := by
  unfold f10_contains
  have hlo2 : 0 ≤ lo ∧ lo + n ≤ 1280 := by rcases hb with q | q <;> rw [q] at hlo <;> omega
  rw [ck_t (show inR (1 - gI σ 239) from by rcases hb with q | q <;> rw [q] <;> decide), ← hlo, ck_t (show inR lo from ⟨by omega, by omega⟩)]
  obtain ⟨σ1, a1, a2, a3, a4⟩ := m_clearSeen (N := N) (lo := lo) (n := n) (x1 := t) (x2 := l) hlo2 N σ lo hc (Int.le_refl _) (by omega) (by omega)
  rw [a1, show (0 : Int) + 1 = 1 from rfl]
  have f1 : fr [] [247, 249] σ (sA σ1 247 0 t) := fr_A _ _ _ (by decide) (fr_m (by decide) (by decide) a2)
  have b242 : gA (sA σ1 247 0 t) 242 = gA σ 242 := funext fun j => f1.2 242 (by decide) j
  have b0 : gA (sA σ1 247 0 t) 247 0 = t := by rw [gA_sA, if_pos rfl, if_pos rfl]
  obtain ⟨σ', r, w1, w2, w3⟩ := m_search (lo := lo) (n := n) (F := F) (P := P) (R := R) (d := d) (J := J) (L := L) (N := N) (t := t) (l := l) hlo2 hn.2 hN hcl N (sA σ1 247 0 t) 1 LF ((funext fun j => f1.2 241 (by decide) j).trans e1) ((funext fun j => f1.2 243 (by decide) j).trans e2) (by rw [b242]; exact hu) (by rw [b242]; exact hs) (fun k k1 k2 kf kr _ => hF k k1 k2 kf kr) (by decide) (by omega) (by omega) (fun j j1 j2 => by
    have z : j = 0 := by omega
    rw [z, b0]
    exact ⟨ht, fun v m _ h => h, fun h => absurd (hRt.symm.trans h) htl⟩)
  refine ⟨σ', r, w1, fr_t f1 w2, ?_⟩
  rcases w3 with w | ⟨w, x, x1, x2, x3⟩
  · exact Or.inl w
  · refine Or.inr ⟨w, fun v hv e => no_self (hv t ht.1 ht.2).1 (fun m hm => ?_)⟩
    have := x3 v m hv hm
    rw [(hv x x1.1 x1.2).2.1, x2, e] at this
    exact this
