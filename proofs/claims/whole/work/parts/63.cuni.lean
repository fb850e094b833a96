/-! ===== the class's nodes: chosen, new nodes, made the same ===== -/
theorem c_chosen {n : Int} (hn : n ≤ 604) {R : Int → Int} {d : Int → Nat} {J : Nat} {L : List Int} (N : Nat) : ∀ (M : Nat) (σ : Sg) (x i : Int), gI σ 107 = n → US 0 n (gA σ 101) R d J L → 0 ≤ x → x < n → d x < M → 0 ≤ i → i + d x < n → ∃ σ', b5_chosen_4 N M σ x i = some (σ', R x) ∧ US 0 n (gA σ' 101) R d J L ∧ fr [] [101] σ σ' := by
  intro M
  induction M with
  | zero => intro σ x i h1 h2 h3 h4 h5; exact absurd h5 (Nat.not_lt_zero _)
  | succ M ih =>
    intro σ x i h1 h2 h3 h4 h5 h6 h7
    obtain ⟨a1, a2, a3, a4, a5, a6, a7, a8⟩ := h2.1 x h3 (by omega)
    unfold b5_chosen_4
    rw [h1, if_neg (show ¬ n ≤ i by omega), ck_t (show 0 ≤ x ∧ x < 604 by omega)]
    by_cases e : gA σ 101 x = x
    · rw [if_pos e]
      exact ⟨σ, by rw [a5 e], h2, fr_r _⟩
    · rw [if_neg e, ck_t (show 0 ≤ x ∧ x < 604 by omega), ck_t (show 0 ≤ gA σ 101 x ∧ gA σ 101 x < 604 by omega), ck_t (show 0 ≤ x ∧ x < 604 by omega), nx_d, ck_t (show 0 ≤ x ∧ x < 604 by omega), ck_t (show inR (i + 1) from ⟨by omega, by omega⟩)]
      rw [gA_sA, if_pos rfl, if_pos rfl]
      obtain ⟨c1, c2, c3, c4, c5, c6, c7, c8⟩ := h2.1 (gA σ 101 x) a1.1 a1.2
      have dlt : d (gA σ 101 (gA σ 101 x)) < d x := by
        by_cases q : gA σ 101 (gA σ 101 x) = gA σ 101 x
        · rw [q]; exact a6 e
        · exact Nat.lt_trans (c6 q) (a6 e)
      obtain ⟨σ', e1, e2, e3⟩ := ih (sA σ 101 x (gA σ 101 (gA σ 101 x))) (gA σ 101 (gA σ 101 x)) (i + 1) (by rw [gI_sA]; exact h1) (US_half h2 h3 (by omega) e (fun j => by rw [gA_sA, if_pos rfl])) (by omega) (by omega) (by omega) (by omega) (by omega)
      exact ⟨σ', by rw [e1, c3, a3], e2, fr_t (fr_A _ _ _ (by decide) (fr_r _)) e3⟩
theorem c_chosen0 {σ : Sg} {n : Int} (h1 : gI σ 107 = n) (hn : n ≤ 604) {R : Int → Int} {d : Int → Nat} {J : Nat} {L : List Int} (h : US 0 n (gA σ 101) R d J L) {N : Nat} (hN : 605 ≤ N) {x : Int} (hx : 0 ≤ x ∧ x < n) : ∃ σ', f5_chosen N σ x = some (σ', R x) ∧ US 0 n (gA σ' 101) R d J L ∧ fr [] [101] σ σ' := by
  have := US_J h hx.1 (by omega)
  unfold f5_chosen
  exact c_chosen hn N N σ x 0 h1 h hx.1 hx.2 (by omega) (by omega) (by omega)
theorem c_addPair {σ : Sg} {m : Int} (hm : gI σ 108 = m) (h0 : 0 ≤ m ∧ m < 481) (a b : Int) : ∃ σ', f5_addPair σ a b = some (σ', 0) ∧ gI σ' 108 = m + 1 ∧ (∀ j, gA σ' 103 j = if j = 2 * m + 1 then b else if j = 2 * m then a else gA σ 103 j) ∧ fr [108] [103] σ σ' := by
  unfold f5_addPair
  rw [hm, ck_t (show inR (2 * m) from ⟨by omega, by omega⟩), ck_t (show 0 ≤ 2 * m ∧ 2 * m < 962 by omega), nx_d, gI_sA, hm, ck_t (show inR (2 * m) from ⟨by omega, by omega⟩), ck_t (show inR (2 * m + 1) from ⟨by omega, by omega⟩), ck_t (show 0 ≤ 2 * m + 1 ∧ 2 * m + 1 < 962 by omega), nx_d, gI_sA, gI_sA, hm, ck_t (show inR (m + 1) from ⟨by omega, by omega⟩), nx_d]
  refine ⟨_, rfl, by rw [gI_sI, if_pos rfl], fun j => ?_, fr_I _ _ (by decide) (fr_A _ _ _ (by decide) (fr_A _ _ _ (by decide) (fr_r _)))⟩
  rw [gA_sI, gA_sA, if_pos rfl, gA_sA, if_pos rfl]
/-- joining two functions: their parts are to be made the same -/
theorem c_parts {N : Nat} {l r m : Int} (hl : 0 ≤ l ∧ l < 604) (hr : 0 ≤ r ∧ r < 604) (hm : 0 ≤ m ∧ m + 4 ≤ 481) : ∀ (M : Nat) (σ : Sg) (i : Int), 0 ≤ i → i ≤ 4 → 5 ≤ i + M → gI σ 108 = m + i → ∃ σ', b5_join_69 N M σ l r i = some (σ', 1) ∧ gI σ' 108 = m + 4 ∧ (∀ j, j < 2 * (m + i) → gA σ' 103 j = gA σ 103 j) ∧ (∀ k, i ≤ k → k < 4 → gA σ' 103 (2 * (m + k)) = gA σ 102 (4 * l + k) ∧ gA σ' 103 (2 * (m + k) + 1) = gA σ 102 (4 * r + k)) ∧ fr [108] [103] σ σ' := by
  intro M
  induction M with
  | zero => intro σ i h1 h2 h3; exact absurd h3 (by omega)
  | succ M ih =>
    intro σ i h1 h2 h3 h4
    unfold b5_join_69
    by_cases e : 4 ≤ i
    · have e : i = 4 := by omega
      subst e
      rw [if_pos (by decide), ck11]
      exact ⟨σ, rfl, h4, fun _ _ => rfl, fun k k1 k2 => absurd k2 (by omega), fr_r _⟩
    · rw [if_neg e, ck_t (show inR (4 * l) from ⟨by omega, by omega⟩), ck_t (show inR (4 * l + i) from ⟨by omega, by omega⟩), ck_t (show 0 ≤ 4 * l + i ∧ 4 * l + i < 2416 by omega), ck_t (show inR (4 * r) from ⟨by omega, by omega⟩), ck_t (show inR (4 * r + i) from ⟨by omega, by omega⟩), ck_t (show 0 ≤ 4 * r + i ∧ 4 * r + i < 2416 by omega)]
      obtain ⟨σ1, e1, e2, e3, e4⟩ := c_addPair h4 (by omega) (gA σ 102 (4 * l + i)) (gA σ 102 (4 * r + i))
      rw [e1, bd_s, ck_t (show inR (i + 1) from ⟨by omega, by omega⟩)]
      obtain ⟨σ2, g1, g2, g3, g4, g5⟩ := ih σ1 (i + 1) (by omega) (by omega) (by omega) (by rw [e2]; omega)
      refine ⟨σ2, g1, g2, fun j hj => ?_, fun k k1 k2 => ?_, fr_t e4 g5⟩
      · rw [g3 j (by omega), e3, if_neg (by omega), if_neg (by omega)]
      · by_cases z : k = i
        · subst z
          rw [g3 _ (by omega), g3 _ (by omega), e3, e3, if_neg (by omega), if_pos rfl, if_pos rfl]
          exact ⟨rfl, rfl⟩
        · have := g4 k (by omega) k2
          rw [e4.2 102 (by decide), e4.2 102 (by decide)] at this
          exact this
/-- number and truth have one node each -/
def CF (n : Int) (F : Int → Int) : Prop := ∀ k, 0 ≤ k → k < n → (F k = 0 → k = 0) ∧ (F k = 1 → k = 1)
theorem cf_ne {a b l r : Int} (ha : 0 ≤ a ∧ a ≤ 3) (hb : 0 ≤ b ∧ b ≤ 3) (a3 : a ≠ 3) (b3 : b ≠ 3) (kl : (a = 0 → l = 0) ∧ (a = 1 → l = 1)) (kr : (b = 0 → r = 0) ∧ (b = 1 → r = 1)) (h : l ≠ r) (h2 : a ≠ 2) : a ≠ b := by omega
theorem c_loop {n : Int} (hn : n ≤ 604) {F P : Int → Int} (hcf : CF n F) {N : Nat} (hN : 605 ≤ N) : ∀ (M : Nat) (σ : Sg) (i : Int) (R : Int → Int) (d : Int → Nat) (J : Nat) (L LF : List Int), gI σ 107 = n → gA σ 100 = F → gA σ 102 = P → UI 0 n F P (gA σ 101) (gA σ 103) (gI σ 108) R d J L LF → 0 ≤ gI σ 108 → 0 ≤ i → i + gI σ 108 + 4 * LF.length ≤ 481 → 482 ≤ i + M → ∃ σ' r, b5_makeSame_13 N M σ i = some (σ', r) ∧ fr [108] [101, 103] σ σ' ∧ ((r = 1 ∧ ∃ (R' : Int → Int) (d' : Int → Nat) (J' : Nat) (L' LF' : List Int), UI 0 n F P (gA σ' 101) (gA σ' 103) 0 R' d' J' L' LF' ∧ LF'.length ≤ LF.length ∧ ∀ v, (MD 0 n F P R' v ↔ MD 0 n F P R v ∧ SQ (gA σ 103) (gI σ 108) v)) ∨ (r = 0 ∧ ∀ v, ¬ (MD 0 n F P R v ∧ SQ (gA σ 103) (gI σ 108) v))) := by
  intro M
  induction M with
  | zero => intro σ i R d J L LF _ _ _ _ h5 h6 h7 h8; exact absurd h8 (by omega)
  | succ M ih =>
    intro σ i R d J L LF h1 h2 h3 h4 h5 h6 h7 h8
    unfold b5_makeSame_13
    have stop : gI σ 108 = 0 → ∃ σ' r, some (σ, (1 : Int)) = some (σ', r) ∧ fr [108] [101, 103] σ σ' ∧ ((r = 1 ∧ ∃ (R' : Int → Int) (d' : Int → Nat) (J' : Nat) (L' LF' : List Int), UI 0 n F P (gA σ' 101) (gA σ' 103) 0 R' d' J' L' LF' ∧ LF'.length ≤ LF.length ∧ ∀ v, (MD 0 n F P R' v ↔ MD 0 n F P R v ∧ SQ (gA σ 103) (gI σ 108) v)) ∨ (r = 0 ∧ ∀ v, ¬ (MD 0 n F P R v ∧ SQ (gA σ 103) (gI σ 108) v))) := fun z => by
      rw [z] at h4
      refine ⟨σ, 1, rfl, fr_r _, Or.inl ⟨rfl, R, d, J, L, LF, h4, Nat.le_refl _, fun v => ⟨fun q => ⟨q, fun j j1 j2 => absurd j2 (by omega)⟩, fun q => q.1⟩⟩⟩
    by_cases hi : 481 ≤ i
    · rw [if_pos hi, ck11]
      exact stop (by omega)
    rw [if_neg hi]
    by_cases hp : gI σ 108 ≤ 0
    · rw [if_pos hp, ck11]
      exact stop (by omega)
    rw [if_neg hp]
    obtain ⟨m, hm⟩ : ∃ m, gI σ 108 = m + 1 := ⟨gI σ 108 - 1, by omega⟩
    rw [hm] at h4 h5 h7 hp ⊢
    rw [show m + 1 - 1 = m by omega, ck_t (show inR m from ⟨by omega, by omega⟩), nx_d]
    have z1 : gI (sI σ 108 m) 108 = m := by rw [gI_sI, if_pos rfl]
    rw [z1, ck_t (show inR (2 * m) from ⟨by omega, by omega⟩), ck_t (show 0 ≤ 2 * m ∧ 2 * m < 962 by omega)]
    have b1 := h4.2.2.2 (2 * m) (by omega) (by omega)
    have b2 := h4.2.2.2 (2 * m + 1) (by omega) (by omega)
    have e1 : gA (sI σ 108 m) 103 = gA σ 103 := rfl
    rw [e1]
    obtain ⟨σ1, c1, c2, c3⟩ := c_chosen0 (σ := sI σ 108 m) (show gI (sI σ 108 m) 107 = n by rw [gI_sI, if_neg (by decide)]; exact h1) hn h4.1 hN (x := gA σ 103 (2 * m)) (by omega)
    rw [c1, bd_s]
    have y1 : gI σ1 108 = m := by rw [c3.1 108 (by decide)]; exact z1
    have y2 : gA σ1 103 = gA σ 103 := funext fun j => c3.2 103 (by decide) j
    rw [y1, y2, ck_t (show inR (2 * m) from ⟨by omega, by omega⟩), ck_t (show inR (2 * m + 1) from ⟨by omega, by omega⟩), ck_t (show 0 ≤ 2 * m + 1 ∧ 2 * m + 1 < 962 by omega)]
    obtain ⟨σ2, g1, g2, g3⟩ := c_chosen0 (σ := σ1) (show gI σ1 107 = n by rw [c3.1 107 (by decide), gI_sI, if_neg (by decide)]; exact h1) hn c2 hN (x := gA σ 103 (2 * m + 1)) (by omega)
    rw [g1, bd_s]
    have f2 : fr [108] [101, 103] σ σ2 := fr_t (fr_I _ _ (by decide) (fr_r _)) (fr_t (fr_m (by decide) (by decide) c3) (fr_m (by decide) (by decide) g3))
    have x1 : gI σ2 108 = m := by rw [g3.1 108 (by decide)]; exact y1
    have x2 : gA σ2 103 = gA σ 103 := (funext fun j => g3.2 103 (by decide) j).trans y2
    have x3 : gI σ2 107 = n := by rw [f2.1 107 (by decide)]; exact h1
    have x4 : gA σ2 100 = F := (funext fun j => f2.2 100 (by decide) j).trans h2
    have x5 : gA σ2 102 = P := (funext fun j => f2.2 102 (by decide) j).trans h3
    have h4' : UI 0 n F P (gA σ2 101) (gA σ 103) (m + 1) R d J L LF := ⟨g2, h4.2⟩
    obtain ⟨l, hl⟩ : ∃ l, R (gA σ 103 (2 * m)) = l := ⟨_, rfl⟩
    obtain ⟨r, hr⟩ : ∃ r, R (gA σ 103 (2 * m + 1)) = r := ⟨_, rfl⟩
    rw [hl, hr]
    have hli := (UI_RR h4' _ b1.1 b1.2).1
    have hri := (UI_RR h4' _ b2.1 b2.2).1
    rw [hl] at hli
    rw [hr] at hri
    have sl : gA σ2 101 l = l := by have := (g2.1 _ b1.1 b1.2).2.2.2.1; rw [hl] at this; exact this
    have sr : gA σ2 101 r = r := by have := (g2.1 _ b2.1 b2.2).2.2.2.1; rw [hr] at this; exact this
    unfold b5_makeSame_93
    -- how a later state goes on
    have go : ∀ (σ3 : Sg) (m' : Int) (R3 : Int → Int) (d3 : Int → Nat) (J3 : Nat) (L3 LF3 : List Int), fr [108] [101, 103] σ σ3 → gI σ3 108 = m' → 0 ≤ m' → UI 0 n F P (gA σ3 101) (gA σ3 103) m' R3 d3 J3 L3 LF3 → i + 1 + m' + 4 * LF3.length ≤ 481 → LF3.length ≤ LF.length → (∀ v, (MD 0 n F P R3 v ∧ SQ (gA σ3 103) m' v ↔ MD 0 n F P R v ∧ SQ (gA σ 103) (m + 1) v)) → ∃ σ' r, ck (inR (i + 1)) (b5_makeSame_13 N M σ3 (i + 1)) = some (σ', r) ∧ fr [108] [101, 103] σ σ' ∧ ((r = 1 ∧ ∃ (R' : Int → Int) (d' : Int → Nat) (J' : Nat) (L' LF' : List Int), UI 0 n F P (gA σ' 101) (gA σ' 103) 0 R' d' J' L' LF' ∧ LF'.length ≤ LF.length ∧ ∀ v, (MD 0 n F P R' v ↔ MD 0 n F P R v ∧ SQ (gA σ 103) (m + 1) v)) ∨ (r = 0 ∧ ∀ v, ¬ (MD 0 n F P R v ∧ SQ (gA σ 103) (m + 1) v))) := by
      intro σ3 m' R3 d3 J3 L3 LF3 k1 k2 k3 k4 k5 k6 k7
      rw [ck_t (show inR (i + 1) from ⟨by omega, by omega⟩)]
      rw [← k2] at k3 k4 k5 k7
      obtain ⟨σ', r', q1, q2, q3⟩ := ih σ3 (i + 1) R3 d3 J3 L3 LF3 (by rw [k1.1 107 (by decide)]; exact h1) ((funext fun j => k1.2 100 (by decide) j).trans h2) ((funext fun j => k1.2 102 (by decide) j).trans h3) k4 k3 (by omega) k5 (by omega)
      refine ⟨σ', r', q1, fr_t k1 q2, ?_⟩
      rcases q3 with ⟨w0, R', d', J', L', LF', w1, w2, w3⟩ | ⟨w0, w1⟩
      · exact Or.inl ⟨w0, R', d', J', L', LF', w1, Nat.le_trans w2 k6, fun v => (w3 v).trans (k7 v)⟩
      · exact Or.inr ⟨w0, fun v q => w1 v ((k7 v).mpr q)⟩
    by_cases hlr : l = r
    · rw [if_pos hlr]
      obtain ⟨u1, u2⟩ := UI_same (by omega) h4' (by rw [hl, hr, hlr])
      exact go σ2 m R d J L LF f2 x1 (by omega) (by rw [x2]; exact u1) (by omega) (Nat.le_refl _) (by rw [x2]; exact u2)
    rw [if_neg hlr]
    unfold f5_join
    rw [ck_t (show 0 ≤ l ∧ l < 604 by omega), x4]
    by_cases fl : F l = 3
    · rw [if_pos fl, ck_t (show 0 ≤ l ∧ l < 604 by omega), nx_d, ck11, bd_s, if_neg (by decide)]
      obtain ⟨u1, u2⟩ := UI_letter (S' := gA (sA σ2 101 l r) 101) (by omega) h4' (Or.inl ⟨hl, hr⟩) hli hri sl sr hlr fl (fun k => by rw [gA_sA, if_pos rfl])
      have x2' : gA (sA σ2 101 l r) 103 = gA σ 103 := x2
      exact go (sA σ2 101 l r) m _ _ _ _ LF (fr_t f2 (fr_A _ _ _ (by decide) (fr_r _))) x1 (by omega) (by rw [x2']; exact u1) (by omega) (Nat.le_refl _) (by rw [x2']; exact u2)
    rw [if_neg fl, ck_t (show 0 ≤ r ∧ r < 604 by omega)]
    by_cases fr' : F r = 3
    · rw [if_pos fr', ck_t (show 0 ≤ r ∧ r < 604 by omega), nx_d, ck11, bd_s, if_neg (by decide)]
      obtain ⟨u1, u2⟩ := UI_letter (S' := gA (sA σ2 101 r l) 101) (by omega) h4' (Or.inr ⟨hl, hr⟩) hri hli sr sl (Ne.symm hlr) fr' (fun k => by rw [gA_sA, if_pos rfl])
      have x2' : gA (sA σ2 101 r l) 103 = gA σ 103 := x2
      exact go (sA σ2 101 r l) m _ _ _ _ LF (fr_t f2 (fr_A _ _ _ (by decide) (fr_r _))) x1 (by omega) (by rw [x2']; exact u1) (by omega) (Nat.le_refl _) (by rw [x2']; exact u2)
    rw [if_neg fr', ck_t (show 0 ≤ l ∧ l < 604 by omega)]
    have cl := (h4.2.1 l hli.1 hli.2).1
    have cr := (h4.2.1 r hri.1 hri.2).1
    have kl := hcf l hli.1 (by omega)
    have kr := hcf r hri.1 (by omega)
    have clash : F l ≠ F r → ∃ σ' r', some (σ2, (0 : Int)) = some (σ', r') ∧ fr [108] [101, 103] σ σ' ∧ ((r' = 1 ∧ ∃ (R' : Int → Int) (d' : Int → Nat) (J' : Nat) (L' LF' : List Int), UI 0 n F P (gA σ' 101) (gA σ' 103) 0 R' d' J' L' LF' ∧ LF'.length ≤ LF.length ∧ ∀ v, (MD 0 n F P R' v ↔ MD 0 n F P R v ∧ SQ (gA σ 103) (m + 1) v)) ∨ (r' = 0 ∧ ∀ v, ¬ (MD 0 n F P R v ∧ SQ (gA σ 103) (m + 1) v))) := fun z => ⟨σ2, 0, rfl, f2, Or.inr ⟨rfl, UI_clash (by omega) h4' (Or.inl ⟨hl, hr⟩) hli hri fl fr' z⟩⟩
    by_cases f2l : F l = 2
    · rw [if_pos f2l, ck_t (show 0 ≤ r ∧ r < 604 by omega)]
      by_cases f2r : F r = 2
      · rw [if_pos f2r, ck_t (show 0 ≤ l ∧ l < 604 by omega), nx_d]
        have hlf : l ∈ LF := h4.2.2.1 l hli.1 hli.2 f2l (by have := (UI_RR h4' _ b1.1 b1.2).2; rw [hl] at this; exact this)
        have hlen := List.length_erase_of_mem hlf
        have hpos := List.length_pos_of_mem hlf
        obtain ⟨σ3, s1, s2, s3, s4, s5⟩ := c_parts (N := N) (l := l) (r := r) (m := m) (by omega) (by omega) (by omega) N (sA σ2 101 l r) 0 (by omega) (by omega) (by omega) (by rw [Int.add_zero]; exact x1)
        rw [s1, bd_s, if_neg (by decide)]
        have p102 : gA (sA σ2 101 l r) 102 = P := x5
        have p103 : gA (sA σ2 101 l r) 103 = gA σ 103 := x2
        rw [p102] at s4
        rw [p103] at s3
        obtain ⟨u1, u2, u3⟩ := UI_fn (S' := gA σ3 101) (B' := gA σ3 103) (by omega) h4' (Or.inl ⟨hl, hr⟩) hli hri sl sr hlr f2l f2r (fun k => by rw [s5.2 101 (by decide), gA_sA, if_pos rfl]) (fun j j1 j2 => s3 j (by omega)) (fun k k1 k2 => s4 k k1 k2)
        exact go σ3 (m + 4) _ _ _ _ (LF.erase l) (fr_t f2 (fr_t (fr_A _ _ _ (by decide) (fr_r _)) (fr_m (by decide) (by decide) s5))) s2 (by omega) u1 (by omega) (by omega) u3
      · rw [if_neg f2r, ck01, bd_s, if_pos rfl, ck01]
        exact clash (fun z => f2r (by rw [← z]; exact f2l))
    · rw [if_neg f2l, ck01, bd_s, if_pos rfl, ck01]
      exact clash (cf_ne cl cr fl fr' kl kr hlr f2l)
def PG (n : Int) (A B : Int → Int) : Prop := ∀ k, 0 ≤ k → k < n → A k = 0 ∧ B k = 0
/-- the class's nodes stand well -/
def CS (σ : Sg) (R : Int → Int) (LF : List Int) : Prop := ∃ (d : Int → Nat) (J : Nat) (L : List Int), US 0 (gI σ 107) (gA σ 101) R d J L ∧ CL 0 (gI σ 107) (gA σ 100) (gA σ 102) R (fun _ => True) ∧ FL 0 (gI σ 107) (gA σ 100) R LF ∧ CF (gI σ 107) (gA σ 100) ∧ 0 ≤ gI σ 107 ∧ PG (gI σ 107) (gA σ 104) (gA σ 105)
abbrev MC (σ : Sg) (R : Int → Int) (v : Int → Tr) : Prop := MD 0 (gI σ 107) (gA σ 100) (gA σ 102) R v
theorem c_same {σ : Sg} {R : Int → Int} {LF : List Int} (h : CS σ R LF) (hn : gI σ 107 ≤ 604) (hf : LF.length ≤ 120) {N : Nat} (hN : 605 ≤ N) {a b : Int} (ha : 0 ≤ a ∧ a < gI σ 107) (hb : 0 ≤ b ∧ b < gI σ 107) : ∃ σ' r, f5_makeSame N σ a b = some (σ', r) ∧ fr [108] [101, 103] σ σ' ∧ ((r = 1 ∧ ∃ (R' : Int → Int) (LF' : List Int), CS σ' R' LF' ∧ LF'.length ≤ LF.length ∧ ∀ v, (MC σ' R' v ↔ MC σ R v ∧ v a = v b)) ∨ (r = 0 ∧ ∀ v, ¬ (MC σ R v ∧ v a = v b))) := by
  obtain ⟨d, J, L, h1, h2, h3, h4, h5, h6⟩ := h
  unfold f5_makeSame
  obtain ⟨σ1, e1, e2, e3, e4⟩ := c_addPair (σ := sI σ 108 0) (m := 0) (by rw [gI_sI, if_pos rfl]) (by omega) a b
  rw [nx_d, e1, bd_s]
  have f1 : fr [108] [101, 103] σ σ1 := fr_t (fr_I _ _ (by decide) (fr_r _)) (fr_m (by decide) (by decide) e4)
  have B0 : gA σ1 103 0 = a := by rw [e3, if_neg (by decide), if_pos (by decide)]
  have B1 : gA σ1 103 1 = b := by rw [e3, if_pos (by decide)]
  have e2 : gI σ1 108 = 1 := e2
  have sq : ∀ {α : Type} (w : Int → α), SQ (gA σ1 103) 1 w ↔ w a = w b := fun {α} w => by
    refine ⟨fun q => ?_, fun q j j1 j2 => ?_⟩
    · have := q 0 (by omega) (by omega)
      rw [show (2 : Int) * 0 = 0 from rfl, show (0 : Int) + 1 = 1 from rfl, B0, B1] at this
      exact this
    · have : j = 0 := by omega
      rw [this, show (2 : Int) * 0 = 0 from rfl, show (0 : Int) + 1 = 1 from rfl, B0, B1]
      exact q
  have s101 : gA σ1 101 = gA σ 101 := funext fun j => e4.2 101 (by decide) j
  have s107 : gI σ1 107 = gI σ 107 := f1.1 107 (by decide)
  have s100 : gA σ1 100 = gA σ 100 := funext fun j => f1.2 100 (by decide) j
  have s102 : gA σ1 102 = gA σ 102 := funext fun j => f1.2 102 (by decide) j
  obtain ⟨σ2, r, g1, g2, g3⟩ := c_loop hn h4 hN N σ1 0 R d J L LF s107 s100 s102 (by rw [s101, e2]; exact ⟨h1, CL_q h2 (fun _ _ _ => trivial), h3, fun j j1 j2 => by
    by_cases z : j = 0
    · rw [z, B0]; omega
    · rw [show j = 1 by omega, B1]; omega⟩) (by omega) (by omega) (by omega) (by omega)
  have t107 : gI σ2 107 = gI σ 107 := (g2.1 107 (by decide)).trans s107
  have t100 : gA σ2 100 = gA σ 100 := (funext fun j => g2.2 100 (by decide) j).trans s100
  have t102 : gA σ2 102 = gA σ 102 := (funext fun j => g2.2 102 (by decide) j).trans s102
  refine ⟨σ2, r, g1, fr_t f1 g2, ?_⟩
  rw [e2] at g3
  rcases g3 with ⟨w0, R', d', J', L', LF', w1, w2, w3⟩ | ⟨w0, w1⟩
  · refine Or.inl ⟨w0, R', LF', ⟨d', J', L', ?_⟩, w2, fun v => ?_⟩
    · rw [t107, t100, t102, show gA σ2 104 = gA σ 104 from (funext fun j => g2.2 104 (by decide) j).trans (funext fun j => f1.2 104 (by decide) j), show gA σ2 105 = gA σ 105 from (funext fun j => g2.2 105 (by decide) j).trans (funext fun j => f1.2 105 (by decide) j)]
      exact ⟨w1.1, CL_q w1.2.1 (fun w _ _ j j1 j2 => absurd j2 (by omega)), w1.2.2.1, h4, h5, h6⟩
    · unfold MC
      rw [t107, t100, t102, w3 v, sq]
  · refine Or.inr ⟨w0, fun v q => w1 v ⟨q.1, (sq v).mpr q.2⟩⟩
