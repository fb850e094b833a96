/-! ===== the reference's rules: cells made and made the same, with what is still to be held ===== -/
theorem MM_ag {σ : Sg} {lo n : Int} {R : Int → Int} {LF : List Int} (h : MS σ lo n R LF) {v v' : Int → Tr} (ha : ∀ k, lo ≤ k → k < lo + n → v' k = v k) (hm : MM σ lo n R v) : MM σ lo n R v' := by
  obtain ⟨-, -, -, -, d, J, L, u1, u2, -, -⟩ := h
  exact MD_agree (fun k k1 k2 => (u1.1 k k1 k2).2.1) (fun k k1 k2 hk => ((u2 k k1 k2).2.2.2 hk).2.1) ha hm
def JB (lo n : Int) (σ : Sg) : Prop := (gI σ 239 = 0 ∨ gI σ 239 = 1) ∧ lo = 640 * (1 - gI σ 239) ∧ gI σ 240 = n ∧ 0 ≤ n
/-- T is what is still to be held: with the cells it says just what T0 says of the first n0 cells; or there is no solution -/
def JJ (lo n0 : Int) (T0 : (Int → Tr) → Prop) (σ : Sg) (n f : Int) (T : (Int → Tr) → Prop) : Prop := JB lo n σ ∧ n0 ≤ n ∧ ((gI σ 246 = 0 ∧ ∃ (R : Int → Int) (LF : List Int), MS σ lo n R LF ∧ (LF.length : Int) ≤ f ∧ (∀ v, MM σ lo n R v → T v → T0 v) ∧ ∀ v, T0 v → ∃ v', (∀ k, lo ≤ k → k < lo + n0 → v' k = v k) ∧ MM σ lo n R v' ∧ T v') ∨ (gI σ 246 = 1 ∧ ∀ v, ¬ T0 v))
/-- cells of the other bank are not written -/
def OB (lo : Int) (σ σ' : Sg) : Prop := (∀ k, k < lo ∨ lo + 640 ≤ k → gA σ' 241 k = gA σ 241 k ∧ gA σ' 242 k = gA σ 242 k) ∧ ∀ j, j < 4 * lo ∨ 4 * (lo + 640) ≤ j → gA σ' 243 j = gA σ 243 j
theorem OB_t {lo : Int} {σ σ' σ'' : Sg} (h1 : OB lo σ σ') (h2 : OB lo σ' σ'') : OB lo σ σ'' := ⟨fun k hk => ⟨(h2.1 k hk).1.trans (h1.1 k hk).1, (h2.1 k hk).2.trans (h1.1 k hk).2⟩, fun j hj => (h2.2 j hj).trans (h1.2 j hj)⟩
theorem OB_fr {S X : List Nat} {lo : Int} {σ σ' : Sg} (h : fr S X σ σ') (b1 : 241 ∉ X) (b2 : 242 ∉ X) (b3 : 243 ∉ X) : OB lo σ σ' := ⟨fun k _ => ⟨h.2 241 b1 k, h.2 242 b2 k⟩, fun j _ => h.2 243 b3 j⟩
section
variable {lo n0 n f : Int} {T0 T : (Int → Tr) → Prop} {σ : Sg}
theorem JJ_fr {S X : List Nat} {σ' : Sg} (h : fr S X σ σ') (a1 : 239 ∉ S) (a2 : 240 ∉ S) (a3 : 246 ∉ S) (b1 : 241 ∉ X) (b2 : 242 ∉ X) (b3 : 243 ∉ X) (hj : JJ lo n0 T0 σ n f T) : JJ lo n0 T0 σ' n f T := by
  have e1 := h.1 239 a1
  have e2 := h.1 240 a2
  have e3 := h.1 246 a3
  have g1 : gA σ' 241 = gA σ 241 := funext fun j => h.2 241 b1 j
  have g2 : gA σ' 242 = gA σ 242 := funext fun j => h.2 242 b2 j
  have g3 : gA σ' 243 = gA σ 243 := funext fun j => h.2 243 b3 j
  unfold JJ JB MS MM at hj ⊢
  rw [e1, e2, e3, g1, g2, g3]
  exact hj
theorem JJ_conv {T' : (Int → Tr) → Prop} {f' : Int} (hj : JJ lo n0 T0 σ n f T) (hT : ∀ v, T v ↔ T' v) (hf : f ≤ f') : JJ lo n0 T0 σ n f' T' := by
  obtain ⟨h1, h2, h3⟩ := hj
  refine ⟨h1, h2, ?_⟩
  rcases h3 with ⟨z, R, LF, m1, m2, m3, m4⟩ | q
  · refine Or.inl ⟨z, R, LF, m1, Int.le_trans m2 hf, fun v hv ht => m3 v hv ((hT v).mpr ht), fun v hv => ?_⟩
    obtain ⟨v', d1, d2, d3⟩ := m4 v hv
    exact ⟨v', d1, d2, (hT v').mp d3⟩
  · exact Or.inr q
theorem JB_fr {S X : List Nat} {σ' : Sg} (h : fr S X σ σ') (a1 : 239 ∉ S) (a2 : 240 ∉ S) (hb : JB lo n σ) : JB lo n σ' := by
  unfold JB at hb ⊢
  rw [h.1 239 a1, h.1 240 a2]
  exact hb
theorem JJ_cell {w : Int} (hw : w = 0 ∨ w = 1 ∨ w = 3) (hn : n < 640) (hj : JJ lo n0 T0 σ n f (fun v => ∃ x, tre x ∧ (w = 0 → x = leaf 0) ∧ (w = 1 → x = leaf 1) ∧ T (uv v (lo + n) x))) : ∃ σ', f10_cell σ w = some (σ', lo + n) ∧ fr [240] [241, 242] σ σ' ∧ OB lo σ σ' ∧ JJ lo n0 T0 σ' (n + 1) f T := by
  obtain ⟨hb, h0, hj⟩ := hj
  obtain ⟨σ', e1, e2, e3, e4, e5⟩ := m_cell hb.1 hb.2.1 hb.2.2.1 ⟨hb.2.2.2, hn⟩ w
  have hb4 := hb.2.2.2
  have b' : JB lo (n + 1) σ' := ⟨by rw [e5.1 239 (by decide)]; exact hb.1, by rw [e5.1 239 (by decide)]; exact hb.2.1, e2, by omega⟩
  have e246 : gI σ' 246 = gI σ 246 := e5.1 246 (by decide)
  refine ⟨σ', e1, e5, ⟨fun k hk => ⟨by rw [e3, if_neg (by omega)], by rw [e4, if_neg (by omega)]⟩, fun j _ => e5.2 243 (by decide) j⟩, b', by omega, ?_⟩
  rw [e246]
  rcases hj with ⟨z, R, LF, m1, m2, m3, m4⟩ | ⟨z, m⟩
  · obtain ⟨σ2, R', q1, q2, q3, q4⟩ := m_new m1 hn hw
    have e : σ2 = σ' := (Prod.mk.inj (Option.some.inj (q1.symm.trans e1))).1
    rw [e] at q3 q4
    refine Or.inl ⟨z, R', LF, q3, m2, fun v hv ht => ?_, fun v hv => ?_⟩
    · obtain ⟨c1, c2, c3, c4⟩ := (q4 v).mp hv
      exact m3 v c1 ⟨v (lo + n), c2, c3, c4, by rw [uv_e]; exact ht⟩
    · obtain ⟨v', d1, d2, x, x1, x2, x3, x4⟩ := m4 v hv
      refine ⟨uv v' (lo + n) x, fun k k1 k2 => by rw [uv_n (by omega)]; exact d1 k k1 k2, (q4 _).mpr ⟨MM_ag m1 (fun k k1 k2 => uv_n (by omega)) d2, ?_⟩, x4⟩
      rw [uv_s]
      exact ⟨x1, x2, x3⟩
  · exact Or.inr ⟨z, m⟩
theorem JJ_letter (hn : n < 640) (hj : JJ lo n0 T0 σ n f (fun v => ∃ x, tre x ∧ T (uv v (lo + n) x))) : ∃ σ', f10_letterCell σ = some (σ', lo + n) ∧ fr [240] [241, 242] σ σ' ∧ OB lo σ σ' ∧ JJ lo n0 T0 σ' (n + 1) f T := by
  obtain ⟨σ', e1, e2, e3⟩ := JJ_cell (w := 3) (T := T) (Or.inr (Or.inr rfl)) hn (JJ_conv hj (fun v => ⟨fun ⟨x, a, b⟩ => ⟨x, a, fun z => absurd z (by decide), fun z => absurd z (by decide), b⟩, fun ⟨x, a, _, _, b⟩ => ⟨x, a, b⟩⟩) (Int.le_refl _))
  unfold f10_letterCell
  rw [e1, bd_s]
  exact ⟨σ', rfl, e2, e3⟩
theorem JJ_leaf {w : Int} (hw : w = 0 ∨ w = 1) (hn : n < 640) (hj : JJ lo n0 T0 σ n f (fun v => T (uv v (lo + n) (leaf w)))) : ∃ σ', f10_cell σ w = some (σ', lo + n) ∧ fr [240] [241, 242] σ σ' ∧ OB lo σ σ' ∧ JJ lo n0 T0 σ' (n + 1) f T := by
  refine JJ_cell (w := w) (T := T) (by omega) hn (JJ_conv hj (fun v => ⟨fun h => ⟨leaf w, tre_leaf (by omega), fun z => by rw [z], fun z => by rw [z], h⟩, fun h => ?_⟩) (Int.le_refl _))
  obtain ⟨x, a, b, c, e⟩ := h
  rcases hw with z | z
  · rw [b z] at e
    show T (uv v (lo + n) (leaf w))
    rw [z]
    exact e
  · rw [c z] at e
    show T (uv v (lo + n) (leaf w))
    rw [z]
    exact e
theorem m_fcell (hb : JB lo n σ) (hn : n < 640) (a b c e : Int) : ∃ σ', f10_functionCell σ a b c e = some (σ', lo + n) ∧ gI σ' 240 = n + 1 ∧ fr [240] [241, 242, 243] σ σ' ∧ OB lo σ σ' := by
  obtain ⟨h1, h2, h3, h4⟩ := hb
  obtain ⟨σ1, e1, e2, e3, e4, e5⟩ := m_cell h1 h2 h3 ⟨h4, hn⟩ 2
  unfold f10_functionCell
  rw [e1, bd_s]
  obtain ⟨m, hm⟩ : ∃ m, lo + n = m := ⟨_, rfl⟩
  have hm2 : 0 ≤ m ∧ m < 1280 := by
    rcases h1 with q | q
    · rw [q] at h2; omega
    · rw [q] at h2; omega
  rw [hm, ck_t (show inR (4 * m) from ⟨by omega, by omega⟩), ck_t (show 0 ≤ 4 * m ∧ 4 * m < 5120 by omega), nx_d, ck_t (show inR (4 * m) from ⟨by omega, by omega⟩), ck_t (show inR (4 * m + 1) from ⟨by omega, by omega⟩), ck_t (show 0 ≤ 4 * m + 1 ∧ 4 * m + 1 < 5120 by omega), nx_d, ck_t (show inR (4 * m) from ⟨by omega, by omega⟩), ck_t (show inR (4 * m + 2) from ⟨by omega, by omega⟩), ck_t (show 0 ≤ 4 * m + 2 ∧ 4 * m + 2 < 5120 by omega), nx_d, ck_t (show inR (4 * m) from ⟨by omega, by omega⟩), ck_t (show inR (4 * m + 3) from ⟨by omega, by omega⟩), ck_t (show 0 ≤ 4 * m + 3 ∧ 4 * m + 3 < 5120 by omega), nx_d]
  refine ⟨_, rfl, by simp only [gI_sA]; exact e2, fr_A _ _ _ (by decide) (fr_A _ _ _ (by decide) (fr_A _ _ _ (by decide) (fr_A _ _ _ (by decide) (fr_m (by decide) (by decide) e5)))), fun k hk => ⟨?_, ?_⟩, fun j hj => ?_⟩
  · simp only [gA_sA, Nat.reduceEqDiff, reduceIte]
    rw [e3, if_neg (by omega)]
  · simp only [gA_sA, Nat.reduceEqDiff, reduceIte]
    rw [e4, if_neg (by omega)]
  · simp only [gA_sA, reduceIte]
    rw [if_neg (by omega), if_neg (by omega), if_neg (by omega), if_neg (by omega)]
    exact e5.2 243 (by decide) j
theorem JJ_fn (hn : n < 640) {a b c e : Int} (ha : lo ≤ a ∧ a < lo + n) (hb : lo ≤ b ∧ b < lo + n) (hc : lo ≤ c ∧ c < lo + n) (he : lo ≤ e ∧ e < lo + n) (hj : JJ lo n0 T0 σ n f (fun v => T (uv v (lo + n) (fnT (v a) (v b) (v c) (v e))))) : ∃ σ', f10_functionCell σ a b c e = some (σ', lo + n) ∧ fr [240] [241, 242, 243] σ σ' ∧ OB lo σ σ' ∧ JJ lo n0 T0 σ' (n + 1) (f + 1) T := by
  obtain ⟨hb', h0, hj⟩ := hj
  obtain ⟨σ', e1, e2, e5, e6⟩ := m_fcell hb' hn a b c e
  have hb4 := hb'.2.2.2
  have b' : JB lo (n + 1) σ' := ⟨by rw [e5.1 239 (by decide)]; exact hb'.1, by rw [e5.1 239 (by decide)]; exact hb'.2.1, e2, by omega⟩
  have e246 : gI σ' 246 = gI σ 246 := e5.1 246 (by decide)
  refine ⟨σ', e1, e5, e6, b', by omega, ?_⟩
  rw [e246]
  rcases hj with ⟨z, R, LF, m1, m2, m3, m4⟩ | ⟨z, m⟩
  · obtain ⟨σ2, R', q1, q2, q3, q4⟩ := m_newF m1 hn ha hb hc he
    have eσ : σ2 = σ' := (Prod.mk.inj (Option.some.inj (q1.symm.trans e1))).1
    rw [eσ] at q3 q4
    refine Or.inl ⟨z, R', (lo + n) :: LF, q3, by rw [List.length_cons]; omega, fun v hv ht => ?_, fun v hv => ?_⟩
    · obtain ⟨c1, c2⟩ := (q4 v).mp hv
      refine m3 v c1 ?_
      show T (uv v (lo + n) (fnT (v a) (v b) (v c) (v e)))
      rw [← c2, uv_e]
      exact ht
    · obtain ⟨v', d1, d2, d3⟩ := m4 v hv
      refine ⟨uv v' (lo + n) (fnT (v' a) (v' b) (v' c) (v' e)), fun k k1 k2 => by rw [uv_n (by omega)]; exact d1 k k1 k2, (q4 _).mpr ⟨MM_ag m1 (fun k k1 k2 => uv_n (by omega)) d2, ?_⟩, d3⟩
      rw [uv_s, uv_n (by omega), uv_n (by omega), uv_n (by omega), uv_n (by omega)]
  · exact Or.inr ⟨z, m⟩
theorem m_eqbad {N : Nat} (hN : 1 ≤ N) (h : gI σ 246 = 1) (a b : Int) : ∃ σ', f10_equal N σ a b = some (σ', 0) ∧ fr [] [248] σ σ' ∧ gI σ' 246 = 1 := by
  unfold f10_equal
  rw [ck_t (by decide), nx_d, ck_t (by decide), nx_d]
  obtain ⟨M, hM⟩ : ∃ M, N = M + 1 := ⟨N - 1, by omega⟩
  have e : gI (sA (sA σ 248 0 a) 248 1 b) 246 = 1 := h
  have g : b10_equal_16 N (M + 1) (sA (sA σ 248 0 a) 248 1 b) 2 = some (sA (sA σ 248 0 a) 248 1 b, 0) := by
    unfold b10_equal_16
    rw [if_neg (by decide), e, if_neg (by decide)]
  rw [← hM] at g
  exact ⟨_, g, fr_A _ _ _ (by decide) (fr_A _ _ _ (by decide) (fr_r _)), e⟩
theorem JJ_equal {N : Nat} (hN : 1300 ≤ N) (hf : f ≤ 120) {a b : Int} (ha : lo ≤ a ∧ a < lo + n) (hb : lo ≤ b ∧ b < lo + n) (hj : JJ lo n0 T0 σ n f (fun v => v a = v b ∧ T v)) : ∃ σ', f10_equal N σ a b = some (σ', 0) ∧ fr [246] [242, 247, 248, 249] σ σ' ∧ OB lo σ σ' ∧ JJ lo n0 T0 σ' n f T := by
  obtain ⟨hb', h0, hj⟩ := hj
  rcases hj with ⟨z, R, LF, m1, m2, m3, m4⟩ | ⟨z, m⟩
  · obtain ⟨σ', e1, e2, e3⟩ := m_equal m1 z (by omega) hN ha hb
    refine ⟨σ', e1, e2.1, ⟨fun k hk => ⟨e2.1.2 241 (by decide) k, e2.2 k (by have := hb'.2.2.2; have := (MS_lo m1).2; have := m1.2.2.2.1; omega)⟩, fun j _ => e2.1.2 243 (by decide) j⟩, JB_fr e2.1 (by decide) (by decide) hb', h0, ?_⟩
    rcases e3 with ⟨w, R', LF', c1, c2, c3⟩ | ⟨w, c⟩
    · refine Or.inl ⟨w, R', LF', c1, by omega, fun v hv ht => m3 v ((c3 v).mp hv).1 ⟨((c3 v).mp hv).2, ht⟩, fun v hv => ?_⟩
      obtain ⟨v', d1, d2, d3, d4⟩ := m4 v hv
      exact ⟨v', d1, (c3 v').mpr ⟨d2, d3⟩, d4⟩
    · refine Or.inr ⟨w, fun v hv => ?_⟩
      obtain ⟨v', d1, d2, d3, d4⟩ := m4 v hv
      exact c v' ⟨d2, d3⟩
  · obtain ⟨σ', e1, e2, e3⟩ := m_eqbad (N := N) (by omega) z a b
    exact ⟨σ', e1, fr_m (by decide) (by decide) e2, OB_fr e2 (by decide) (by decide) (by decide), JB_fr e2 (by decide) (by decide) hb', h0, Or.inr ⟨e3, m⟩⟩
end
