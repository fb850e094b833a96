/-! ===== the relation between the two machines at work ===== -/
def CWI : List Nat := [45, 46, 47, 48, 49, 50, 51, 52, 62, 143, 164]
def CWA : List Nat := [44, 60, 61, 140, 141, 142, 160, 161, 162, 163]
def MWI : List Nat := [209, 213, 216, 223, 225, 226, 227, 228, 229]
def MWA : List Nat := [210, 211, 212, 214, 215, 217, 218, 219, 220, 221, 222, 224]
def CUR (σc σm : Sg) (d : Int → Int) (next : Int) : Prop := (gI σc 49 = -1 ∧ next = gI σc 47 ∧ (0 ≤ next ∧ next < gI σm 201) ∧ gI σm 228 = gI σc 48 + 1 ∧ (-1 ≤ gI σc 48 ∧ gI σc 48 < gI σc 62) ∧ gA σm 208 next ≤ d (gI σc 48)) ∨ (0 ≤ gI σc 49 ∧ next = -1 ∧ VR σc σm d (gI σc 49) (gI σm 226) (gI σm 227))
def CNTS (σc σm : Sg) (steps mk : Int) : Prop := gI σc 143 ≤ steps ∧ gI σc 164 ≤ steps ∧ (gI σc 45 ≤ mk ∧ mk ≤ steps) ∧ gI σm 213 ≤ steps ∧ (gI σc 62 ≤ steps ∨ (gI σc 49 = -1 ∧ gI σc 62 ≤ steps + 1))
def SIM (σc σm : Sg) (d : Int → Int) (fuel next steps mk : Int) : Prop := TB σc σm d ∧ (gI σm 225 = gI σc 46 + 1 ∧ -1 ≤ gI σc 46 ∧ gI σc 46 < gI σc 164) ∧ (gI σc 52 = steps ∧ gI σc 51 = fuel - steps ∧ 0 ≤ steps ∧ steps ≤ fuel ∧ fuel ≤ 200) ∧ CNTS σc σm steps mk ∧ (gI σc 50 = 3 ∧ gI σm 229 = 0) ∧ CUR σc σm d next
/-- the class's state as a step begins -/
def tick (σ : Sg) : Sg := sI (sI σ 51 (gI σ 51 - 1)) 52 (gI σ 52 + 1)
theorem fr_tick {S T : List Nat} (σ : Sg) (h1 : 51 ∈ S) (h2 : 52 ∈ S) : fr S T σ (tick σ) := fr_I _ _ h2 (fr_I _ _ h1 (fr_r _))
theorem TT_a {K A B C H Z N : Int → Int} {t : Int} (h : TT K A B C H Z N t) (h3 : 3 ≤ K t) : 0 ≤ A t ∧ A t < t := by
  have := h.2.1; omega
theorem TT_b {K A B C H Z N : Int → Int} {t : Int} (h : TT K A B C H Z N t) (h3 : 4 ≤ K t ∧ K t ≤ 8) : 0 ≤ B t ∧ B t < t := by
  have := h.2.1; omega
theorem TT_cc {K A B C H Z N : Int → Int} {t : Int} (h : TT K A B C H Z N t) (h3 : K t = 7) : 0 ≤ C t ∧ C t < t := by
  have := h.2.1; omega
theorem TT_na {K A B C H Z N : Int → Int} {t : Int} (h : TT K A B C H Z N t) : (4 ≤ K t ∧ K t ≤ 9 → N (A t) ≤ N t) ∧ (K t = 3 ∨ K t = 10 → N (A t) - 1 ≤ N t) ∧ (K t = 11 → N (A t) - 2 ≤ N t) := by
  have hn := h.2.2.2.2.1
  refine ⟨fun hk => ?_, fun hk => ?_, fun hk => ?_⟩
  · rw [hn]; unfold nT
    rw [if_neg (by omega), if_neg (by omega)]
    split
    · exact le_mx1 _ _
    split
    · exact le_mx1 _ _
    split
    · exact le_mx1 _ _
    split
    · exact le_mx2 _ _
    · exfalso; omega
  · rw [hn]; unfold nT
    rw [if_neg (by omega), if_neg (by omega), if_neg (by omega), if_neg (by omega), if_neg (by omega), if_neg (by omega), if_neg (by omega)]
    exact le_mx2 _ _
  · rw [hn]; unfold nT
    rw [if_neg (by omega), if_neg (by omega), if_neg (by omega), if_neg (by omega), if_neg (by omega), if_neg (by omega), if_pos hk]
    exact le_mx2 _ _
theorem TT_nb {K A B C H Z N : Int → Int} {t : Int} (h : TT K A B C H Z N t) : (4 ≤ K t ∧ K t ≤ 7 → N (B t) ≤ N t) ∧ (K t = 8 → N (B t) - 1 ≤ N t) ∧ (K t = 7 → N (C t) ≤ N t) := by
  have hn := h.2.2.2.2.1
  refine ⟨fun hk => ?_, fun hk => ?_, fun hk => ?_⟩
  · rw [hn]; unfold nT
    rw [if_neg (by omega), if_neg (by omega)]
    split
    · exact Int.le_trans (le_mx1 _ _) (le_mx2 _ _)
    · rw [if_neg (by omega), if_pos (by omega)]
      exact le_mx2 _ _
  · rw [hn]; unfold nT
    rw [if_neg (by omega), if_neg (by omega), if_neg (by omega), if_pos hk]
    exact le_mx2 _ _
  · rw [hn]; unfold nT
    rw [if_neg (by omega), if_neg (by omega), if_pos hk]
    exact Int.le_trans (le_mx2 _ _) (le_mx2 _ _)
/-! the look of a variable -/
theorem look_both {σc σm : Sg} {d : Int → Int} (hT : TS σc σm d) (hb : gI σc 62 ≤ 201) (N : Nat) {t a : Int} (ht : 0 ≤ t ∧ t < 60) (ha : gA σm 203 t = a) (ha5 : a ≤ 5) :
    ∀ (k n m : Nat) (s i : Int), k < n → k < m → 0 ≤ i → a - i = k → (-1 ≤ s ∧ s < gI σc 62) → (k : Int) + 1 ≤ d s → ∃ j, (0 ≤ j ∧ j < gI σc 62) ∧ b3_look_5 N n σc a s i = some (σc, gA σc 60 j) ∧ b10_begin_108 N m σm t (s + 1) i = some (mG σm (gA σm 210 (j + 1)) (gA σm 211 (j + 1)), -1) := by
  intro k
  induction k with
  | zero =>
    intro n m s i hn hm hi hk hs hd
    obtain ⟨n, rfl⟩ : ∃ q, n = q + 1 := ⟨n - 1, by omega⟩
    obtain ⟨m, rfl⟩ : ∃ q, m = q + 1 := ⟨m - 1, by omega⟩
    have hs0 : 0 ≤ s := by
      rcases Int.lt_or_le s 0 with q | q
      · have : s = -1 := by omega
        rw [this, hT.2.1] at hd
        omega
      · exact q
    refine ⟨s, ⟨hs0, hs.2⟩, ?_, ?_⟩
    · rw [b3_look_5, if_pos (by omega), b3_look_29, if_neg (by omega), ck_t (show 0 ≤ s ∧ s < 400 by omega)]
    · rw [b10_begin_108, ck_t ht, ha, if_pos (by omega), ck_t (show 0 ≤ s + 1 ∧ s + 1 < 320 by omega), ck_t (show 0 ≤ s + 1 ∧ s + 1 < 320 by omega), m_mG, bd_s]
  | succ k ih =>
    intro n m s i hn hm hi hk hs hd
    obtain ⟨n, rfl⟩ : ∃ q, n = q + 1 := ⟨n - 1, by omega⟩
    obtain ⟨m, rfl⟩ : ∃ q, m = q + 1 := ⟨m - 1, by omega⟩
    have hs0 : 0 ≤ s := by
      rcases Int.lt_or_le s 0 with q | q
      · have : s = -1 := by omega
        rw [this, hT.2.1] at hd
        omega
      · exact q
    obtain ⟨-, g2, g3, g4⟩ := hT.2.2 s hs0 hs.2
    obtain ⟨j, hj, e1, e2⟩ := ih n m (gA σc 61 s) (i + 1) (by omega) (by omega) (by omega) (by omega) ⟨g3.1, by omega⟩ (by omega)
    refine ⟨j, hj, ?_, ?_⟩
    · rw [b3_look_5, if_neg (by omega), if_neg (by omega), ck_t (show 0 ≤ s ∧ s < 400 by omega), ck_t (show inR (i + 1) from ⟨by omega, by omega⟩)]
      exact e1
    · rw [b10_begin_108, ck_t ht, ha, if_neg (by omega), ck_t (show 0 ≤ s + 1 ∧ s + 1 < 320 by omega), ck_t (show inR (i + 1) from ⟨by omega, by omega⟩), g2]
      exact e2
