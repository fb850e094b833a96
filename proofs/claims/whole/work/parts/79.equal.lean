/-! ===== the reference's equal ===== -/
/-- two cells that are both numbers, or both truths, are just passed over -/
theorem UI_plain {lo n : Int} {F P S B : Int → Int} {m : Int} {R : Int → Int} {d : Int → Nat} {J : Nat} {L LF : List Int} (hm : 0 ≤ m) (h : UI lo n F P S B (m + 1) R d J L LF) {l r : Int} (hp : PR R B m l r) (hl : lo ≤ l ∧ l < lo + n) (hr : lo ≤ r ∧ r < lo + n) (hf : F l = F r) (h01 : F l = 0 ∨ F l = 1) : UI lo n F P S B m R d J L LF ∧ ∀ v, (MD lo n F P R v ∧ SQ B m v ↔ MD lo n F P R v ∧ SQ B (m + 1) v) := by
  obtain ⟨h1, h2, h3, h4⟩ := h
  have b1 := h4 (2 * m) (by omega) (by omega)
  have b2 := h4 (2 * m + 1) (by omega) (by omega)
  refine ⟨⟨h1, CL_q h2 (fun w hw hq => (SQ_s hm).mpr ⟨hq, ?_⟩), h3, fun j j1 j2 => h4 j j1 (by omega)⟩, fun v => ⟨fun q => ⟨q.1, (SQ_s hm).mpr ⟨q.2, ?_⟩⟩, fun q => ⟨q.1, ((SQ_s hm).mp q.2).1⟩⟩⟩
  · exact (PR_v hp hw.1 b1 b2).mpr (hw.2 l r hl.1 hl.2 hr.1 hr.2 hf h01)
  · refine (PR_v hp (fun k k1 k2 => (q.1 k k1 k2).2.1) b1 b2).mpr ?_
    have ml := (q.1 l hl.1 hl.2).2.2
    have mr := (q.1 r hr.1 hr.2).2.2
    rcases h01 with z | z
    · rw [ml.1 z, mr.1 (by omega)]
    · rw [ml.2.1 z, mr.2.1 (by omega)]
theorem m_pairs {N : Nat} {K : Sg → Int → Option (Sg × Int)} {l r : Int} (hl : 0 ≤ l ∧ l < 1280) (hr : 0 ≤ r ∧ r < 1280) : ∀ (M : Nat) (σ : Sg) (m i : Int), 0 ≤ i → i ≤ 4 → 0 ≤ m → m + 4 ≤ 1200 + i → 5 ≤ i + M → ∃ σ', b10_equal_200 N K M σ (2 * m) l r i = K σ' (2 * (m + (4 - i))) ∧ fr [] [248] σ σ' ∧ (∀ j, j < 2 * m → gA σ' 248 j = gA σ 248 j) ∧ ∀ t, i ≤ t → t < 4 → gA σ' 248 (2 * (m + (t - i))) = gA σ 243 (4 * l + t) ∧ gA σ' 248 (2 * (m + (t - i)) + 1) = gA σ 243 (4 * r + t) := by
  intro M
  induction M with
  | zero => intro σ m i _ _ _ _ h; exact absurd h (by omega)
  | succ M ih =>
    intro σ m i h1 h2 h3 h4 h5
    unfold b10_equal_200
    by_cases e : 4 ≤ i
    · rw [if_pos e]
      unfold b10_equal_253
      refine ⟨σ, by rw [show m + (4 - i) = m by omega], fr_r _, fun _ _ => rfl, fun t t1 t2 => absurd t2 (by omega)⟩
    · rw [if_neg e, ck_t (show inR (4 * l) from ⟨by omega, by omega⟩), ck_t (show inR (4 * l + i) from ⟨by omega, by omega⟩), ck_t (show 0 ≤ 4 * l + i ∧ 4 * l + i < 5120 by omega), ck_t (show 0 ≤ 2 * m ∧ 2 * m < 2400 by omega), nx_d, ck_t (show inR (2 * m + 1) from ⟨by omega, by omega⟩), ck_t (show inR (4 * r) from ⟨by omega, by omega⟩), ck_t (show inR (4 * r + i) from ⟨by omega, by omega⟩), ck_t (show 0 ≤ 4 * r + i ∧ 4 * r + i < 5120 by omega), ck_t (show 0 ≤ 2 * m + 1 ∧ 2 * m + 1 < 2400 by omega), nx_d, ck_t (show inR (2 * m + 2) from ⟨by omega, by omega⟩), ck_t (show inR (i + 1) from ⟨by omega, by omega⟩)]
      obtain ⟨σ1, hσ1⟩ : ∃ σ1, sA (sA σ 248 (2 * m) (gA σ 243 (4 * l + i))) 248 (2 * m + 1) (gA (sA σ 248 (2 * m) (gA σ 243 (4 * l + i))) 243 (4 * r + i)) = σ1 := ⟨_, rfl⟩
      rw [hσ1]
      have f1 : fr [] [248] σ σ1 := by rw [← hσ1]; exact fr_A _ _ _ (by decide) (fr_A _ _ _ (by decide) (fr_r _))
      have a : ∀ j, gA σ1 248 j = if j = 2 * m + 1 then gA σ 243 (4 * r + i) else if j = 2 * m then gA σ 243 (4 * l + i) else gA σ 248 j := fun j => by
        rw [← hσ1]
        simp only [gA_sA, Nat.reduceEqDiff, reduceIte]
      obtain ⟨σ', q1, q2, q3, q4⟩ := ih σ1 (m + 1) (i + 1) (by omega) (by omega) (by omega) (by omega) (by omega)
      rw [show 2 * m + 2 = 2 * (m + 1) by omega]
      refine ⟨σ', by rw [q1, show m + 1 + (4 - (i + 1)) = m + (4 - i) by omega], fr_t f1 q2, fun j hj => ?_, fun t t1 t2 => ?_⟩
      · rw [q3 j (by omega), a, if_neg (by omega), if_neg (by omega)]
      · by_cases z : t = i
        · rw [z, show m + (i - i) = m by omega, q3 _ (by omega), q3 _ (by omega), a, a, if_neg (by omega), if_pos rfl, if_pos rfl]
          exact ⟨rfl, rfl⟩
        · have := q4 t (by omega) t2
          rw [show m + 1 + (t - (i + 1)) = m + (t - i) by omega, f1.2 243 (by decide), f1.2 243 (by decide)] at this
          exact this
/-- the frame of making the same: no cell outside is written -/
def frE (lo n : Int) (σ σ' : Sg) : Prop := fr [246] [242, 247, 248, 249] σ σ' ∧ ∀ k, ¬ (lo ≤ k ∧ k < lo + n) → gA σ' 242 k = gA σ 242 k
theorem frE_r {lo n : Int} (σ : Sg) : frE lo n σ σ := ⟨fr_r _, fun _ _ => rfl⟩
theorem frE_t {lo n : Int} {σ σ' σ'' : Sg} (h1 : frE lo n σ σ') (h2 : frE lo n σ' σ'') : frE lo n σ σ'' := ⟨fr_t h1.1 h2.1, fun k hk => (h2.2 k hk).trans (h1.2 k hk)⟩
section
variable {lo n : Int} {F P : Int → Int} {N : Nat}
theorem m_loop (hlo : 0 ≤ lo ∧ lo + n ≤ 1280) (hn : 0 ≤ n ∧ n ≤ 640) (hN : 1300 ≤ N) : ∀ (M : Nat) (σ : Sg) (m : Int) (R : Int → Int) (d : Int → Nat) (J : Nat) (L LF : List Int), (gI σ 239 = 0 ∨ gI σ 239 = 1) → lo = 640 * (1 - gI σ 239) → gI σ 240 = n → gA σ 241 = F → gA σ 243 = P → gI σ 246 = 0 → UI lo n F P (sf (gA σ 242)) (gA σ 248) m R d J L LF → (∀ k, lo ≤ k → k < lo + n → gA σ 242 k ≠ k) → LF.length ≤ 120 → 0 ≤ m → m + 4 * LF.length ≤ 481 → m + 4 * LF.length < M → ∃ σ', b10_equal_16 N M σ (2 * m) = some (σ', 0) ∧ frE lo n σ σ' ∧ ((gI σ' 246 = 0 ∧ (∃ (R' : Int → Int) (d' : Int → Nat) (J' : Nat) (L' LF' : List Int), UI lo n F P (sf (gA σ' 242)) (gA σ' 248) 0 R' d' J' L' LF' ∧ (∀ k, lo ≤ k → k < lo + n → gA σ' 242 k ≠ k) ∧ LF'.length ≤ LF.length ∧ ∀ v, (MD lo n F P R' v ↔ MD lo n F P R v ∧ SQ (gA σ 248) m v))) ∨ (gI σ' 246 = 1 ∧ ∀ v, ¬ (MD lo n F P R v ∧ SQ (gA σ 248) m v))) := by
  intro M
  induction M with
  | zero => intro σ m R d J L LF _ _ _ _ _ _ _ _ _ h1 h2 h3; exact absurd h3 (by omega)
  | succ M ih =>
    intro σ m R d J L LF hb hl0 hc e1 e2 bad0 hU hs hLF hm hbud hM
    unfold b10_equal_16
    by_cases hm0 : 2 * m ≤ 0
    · have z : m = 0 := by omega
      subst z
      rw [if_pos hm0]
      exact ⟨σ, rfl, frE_r _, Or.inl ⟨bad0, R, d, J, L, LF, hU, hs, Nat.le_refl _, fun v => ⟨fun q => ⟨q, fun j j1 j2 => absurd j2 (by omega)⟩, fun q => q.1⟩⟩⟩
    obtain ⟨q, hq⟩ : ∃ q, m = q + 1 := ⟨m - 1, by omega⟩
    subst hq
    rw [if_neg hm0, if_pos bad0, show 2 * (q + 1) + -2 = 2 * q by omega, ck_t (show inR (2 * q) from ⟨by omega, by omega⟩), ck_t (show 0 ≤ 2 * q ∧ 2 * q < 2400 by omega)]
    have b1 := hU.2.2.2 (2 * q) (by omega) (by omega)
    have b2 := hU.2.2.2 (2 * q + 1) (by omega) (by omega)
    have j1 := US_J hU.1 b1.1 b1.2
    have j2 := US_J hU.1 b2.1 b2.2
    unfold f10_end
    rw [m_end hlo hU.1 hs N _ b1.1 b1.2 (by omega), bd_s, ck_t (show inR (2 * q + 1) from ⟨by omega, by omega⟩), ck_t (show 0 ≤ 2 * q + 1 ∧ 2 * q + 1 < 2400 by omega), m_end hlo hU.1 hs N _ b2.1 b2.2 (by omega), bd_s]
    obtain ⟨x, hx⟩ : ∃ x, R (gA σ 248 (2 * q)) = x := ⟨_, rfl⟩
    obtain ⟨y, hy⟩ : ∃ y, R (gA σ 248 (2 * q + 1)) = y := ⟨_, rfl⟩
    have hxi := (UI_RR hU _ b1.1 b1.2).1
    have hyi := (UI_RR hU _ b2.1 b2.2).1
    have hxr := (UI_RR hU _ b1.1 b1.2).2
    have hyr := (UI_RR hU _ b2.1 b2.2).2
    have sx := (hU.1.1 _ b1.1 b1.2).2.2.2.1
    have sy := (hU.1.1 _ b2.1 b2.2).2.2.2.1
    rw [hx] at hxi hxr sx
    rw [hy] at hyi hyr sy
    rw [hx, hy]
    have pxy : PR R (gA σ 248) q x y := Or.inl ⟨hx, hy⟩
    have pyx : PR R (gA σ 248) q y x := Or.inr ⟨hx, hy⟩
    have hpart : ∀ k, lo ≤ k → k < lo + n → F k = 2 → ∀ i, 0 ≤ i → i < 4 → lo ≤ P (4 * k + i) ∧ P (4 * k + i) < lo + n := fun k k1 k2 kf => ((hU.2.1 k k1 k2).2.2.2 kf).2.1
    have go : ∀ (σ3 : Sg) (m3 : Int) (R3 : Int → Int) (d3 : Int → Nat) (J3 : Nat) (L3 LF3 : List Int), frE lo n σ σ3 → gI σ3 246 = 0 → UI lo n F P (sf (gA σ3 242)) (gA σ3 248) m3 R3 d3 J3 L3 LF3 → (∀ k, lo ≤ k → k < lo + n → gA σ3 242 k ≠ k) → LF3.length ≤ LF.length → 0 ≤ m3 → m3 + 4 * LF3.length + 1 ≤ q + 1 + 4 * LF.length → (∀ v, (MD lo n F P R3 v ∧ SQ (gA σ3 248) m3 v ↔ MD lo n F P R v ∧ SQ (gA σ 248) (q + 1) v)) → ∃ σ', b10_equal_16 N M σ3 (2 * m3) = some (σ', 0) ∧ frE lo n σ σ' ∧ ((gI σ' 246 = 0 ∧ (∃ (R' : Int → Int) (d' : Int → Nat) (J' : Nat) (L' LF' : List Int), UI lo n F P (sf (gA σ' 242)) (gA σ' 248) 0 R' d' J' L' LF' ∧ (∀ k, lo ≤ k → k < lo + n → gA σ' 242 k ≠ k) ∧ LF'.length ≤ LF.length ∧ ∀ v, (MD lo n F P R' v ↔ MD lo n F P R v ∧ SQ (gA σ 248) (q + 1) v))) ∨ (gI σ' 246 = 1 ∧ ∀ v, ¬ (MD lo n F P R v ∧ SQ (gA σ 248) (q + 1) v))) := by
      intro σ3 m3 R3 d3 J3 L3 LF3 g1 g2 g3 g4 g5 g6 g7 g8
      obtain ⟨σ', w1, w2, w3⟩ := ih σ3 m3 R3 d3 J3 L3 LF3 (by rw [g1.1.1 239 (by decide)]; exact hb) (by rw [g1.1.1 239 (by decide)]; exact hl0) (by rw [g1.1.1 240 (by decide)]; exact hc) ((funext fun j => g1.1.2 241 (by decide) j).trans e1) ((funext fun j => g1.1.2 243 (by decide) j).trans e2) g2 g3 g4 (by omega) g6 (by omega) (by omega)
      refine ⟨σ', w1, frE_t g1 w2, ?_⟩
      rcases w3 with ⟨z0, R', d', J', L', LF', z1, z2, z3, z4⟩ | ⟨z0, z1⟩
      · exact Or.inl ⟨z0, R', d', J', L', LF', z1, z2, Nat.le_trans z3 g5, fun v => (z4 v).trans (g8 v)⟩
      · exact Or.inr ⟨z0, fun v w => z1 v ((g8 v).mpr w)⟩
    have ended : ∀ (σ3 : Sg) (m3 : Int), frE lo n σ σ3 → gI σ3 246 = 1 → (∀ v, ¬ (MD lo n F P R v ∧ SQ (gA σ 248) (q + 1) v)) → ∃ σ', b10_equal_16 N M σ3 (2 * m3) = some (σ', 0) ∧ frE lo n σ σ' ∧ ((gI σ' 246 = 0 ∧ (∃ (R' : Int → Int) (d' : Int → Nat) (J' : Nat) (L' LF' : List Int), UI lo n F P (sf (gA σ' 242)) (gA σ' 248) 0 R' d' J' L' LF' ∧ (∀ k, lo ≤ k → k < lo + n → gA σ' 242 k ≠ k) ∧ LF'.length ≤ LF.length ∧ ∀ v, (MD lo n F P R' v ↔ MD lo n F P R v ∧ SQ (gA σ 248) (q + 1) v))) ∨ (gI σ' 246 = 1 ∧ ∀ v, ¬ (MD lo n F P R v ∧ SQ (gA σ 248) (q + 1) v))) := by
      intro σ3 m3 g1 g2 g3
      obtain ⟨M', hM'⟩ : ∃ M', M = M' + 1 := ⟨M - 1, by omega⟩
      rw [hM']
      unfold b10_equal_16
      refine ⟨σ3, ?_, g1, Or.inr ⟨g2, g3⟩⟩
      by_cases z : 2 * m3 ≤ 0
      · rw [if_pos z]
      · rw [if_neg z, if_neg (show ¬ gI σ3 246 = 0 by omega)]
    by_cases hxy : x = y
    · rw [if_pos hxy]
      obtain ⟨u1, u2⟩ := UI_same (by omega) hU (by rw [hx, hy, hxy])
      exact go σ q R d J L LF (frE_r _) bad0 u1 hs (Nat.le_refl _) (by omega) (by omega) u2
    rw [if_neg hxy, ck_t (show 0 ≤ x ∧ x < 1280 by omega), e1]
    -- a letter l is to stand for t
    have letter : ∀ l t : Int, PR R (gA σ 248) q l t → (lo ≤ l ∧ l < lo + n) → (lo ≤ t ∧ t < lo + n) → sf (gA σ 242) l = l → sf (gA σ 242) t = t → R l = l → R t = t → l ≠ t → F l = 3 → ∃ σ', b10_equal_126 N (b10_equal_16 N M) σ (2 * q) l t = some (σ', 0) ∧ frE lo n σ σ' ∧ ((gI σ' 246 = 0 ∧ (∃ (R' : Int → Int) (d' : Int → Nat) (J' : Nat) (L' LF' : List Int), UI lo n F P (sf (gA σ' 242)) (gA σ' 248) 0 R' d' J' L' LF' ∧ (∀ k, lo ≤ k → k < lo + n → gA σ' 242 k ≠ k) ∧ LF'.length ≤ LF.length ∧ ∀ v, (MD lo n F P R' v ↔ MD lo n F P R v ∧ SQ (gA σ 248) (q + 1) v))) ∨ (gI σ' 246 = 1 ∧ ∀ v, ¬ (MD lo n F P R v ∧ SQ (gA σ 248) (q + 1) v))) := by
      intro l t hp hl ht sl st rl rt hlt fl
      unfold b10_equal_126
      obtain ⟨σ1, r, w1, w2, w3⟩ := m_contains hb hl0 hc hn e1 e2 hU.1 hs hpart hU.2.2.1 hLF hN ht rt (Ne.symm hlt) hl rl
      have r01 : r = 0 ∨ r = 1 := w3.elim Or.inl (fun z => Or.inr z.1)
      rw [w1, bd_s, ck_t r01, nx_d, ck_t (show 0 ≤ l ∧ l < 1280 by omega), nx_d]
      obtain ⟨σ2, hσ2⟩ : ∃ σ2, sA (sI σ1 246 r) 242 l t = σ2 := ⟨_, rfl⟩
      rw [hσ2]
      unfold b10_equal_253
      have f2 : fr [246] [242, 247, 248, 249] σ σ2 := by rw [← hσ2]; exact fr_A _ _ _ (by decide) (fr_I _ _ (by decide) (fr_m (by decide) (by decide) w2))
      have bad2 : gI σ2 246 = r := by rw [← hσ2, gI_sA, gI_sI, if_pos rfl]
      have a242 : ∀ j, gA σ2 242 j = if j = l then t else gA σ 242 j := fun j => by
        rw [← hσ2, gA_sA, if_pos rfl, gA_sI, w2.2 242 (by decide)]
      have a248 : gA σ2 248 = gA σ 248 := funext fun j => by rw [← hσ2, gA_sA, if_neg (by decide), gA_sI]; exact w2.2 248 (by decide) j
      rcases w3 with w | ⟨w, w4⟩
      · obtain ⟨u1, u2⟩ := UI_letter (S' := sf (gA σ2 242)) (by omega) hU hp hl ht sl st hlt fl (fun k => by
          unfold sf
          rw [a242]
          by_cases z : k = l
          · rw [if_pos z, if_pos z, if_neg (by omega)]
          · rw [if_neg z, if_neg z])
        refine go σ2 q _ _ _ _ LF ⟨f2, fun k hk => by rw [a242, if_neg (fun e => hk (by rw [e]; exact hl))]⟩ (by rw [bad2]; exact w) (by rw [a248]; exact u1) (fun k k1 k2 => ?_) (Nat.le_refl _) (by omega) (by omega) (by rw [a248]; exact u2)
        rw [a242]
        by_cases z : k = l
        · rw [if_pos z, z]; exact Ne.symm hlt
        · rw [if_neg z]; exact hs k k1 k2
      · refine ended σ2 q ⟨f2, fun k hk => by rw [a242, if_neg (fun e => hk (by rw [e]; exact hl))]⟩ (by rw [bad2]; exact w) (fun v hv => w4 v hv.1 ?_)
        exact (PR_v hp (fun k k1 k2 => (hv.1 k k1 k2).2.1) b1 b2).mp ((SQ_s (by omega)).mp hv.2).2
    by_cases fx : F x = 3
    · rw [if_pos fx]
      unfold b10_equal_88 b10_equal_106
      rw [ck_t (show 0 ≤ x ∧ x < 1280 by omega), ck_t (show 0 ≤ x ∧ x < 1280 by omega), e1, if_pos fx, if_pos fx]
      exact letter x y pxy hxi hyi sx sy hxr hyr hxy fx
    rw [if_neg fx, ck_t (show 0 ≤ y ∧ y < 1280 by omega)]
    by_cases fy : F y = 3
    · rw [if_pos fy]
      unfold b10_equal_88 b10_equal_106
      rw [ck_t (show 0 ≤ x ∧ x < 1280 by omega), ck_t (show 0 ≤ x ∧ x < 1280 by omega), e1, if_neg fx, if_neg fx, ck_t (show 0 ≤ x ∧ x < 1280 by omega)]
      exact letter y x pyx hyi hxi sy sx hyr hxr (Ne.symm hxy) fy
    rw [if_neg fy, ck_t (show 0 ≤ x ∧ x < 1280 by omega), ck_t (show 0 ≤ y ∧ y < 1280 by omega)]
    by_cases fxy : F x = F y
    · rw [if_pos fxy, ck_t (show 0 ≤ x ∧ x < 1280 by omega)]
      by_cases f2 : F x = 2
      · rw [if_pos f2, ck_t (show 0 ≤ x ∧ x < 1280 by omega), nx_d]
        have f2y : F y = 2 := by omega
        have hxL := hU.2.2.1 x hxi.1 hxi.2 f2 hxr
        have hlen := List.length_erase_of_mem hxL
        have hpos := List.length_pos_of_mem hxL
        obtain ⟨σ2, g1, g2, g3, g4⟩ := m_pairs (N := N) (K := b10_equal_16 N M) (l := x) (r := y) (by omega) (by omega) N (sA σ 242 x y) q 0 (by decide) (by decide) (by omega) (by omega) (by omega)
        rw [g1, show q + (4 - 0) = q + 4 by omega]
        have f02 : fr [246] [242, 247, 248, 249] σ σ2 := fr_t (fr_A _ _ _ (by decide) (fr_r _)) (fr_m (by decide) (by decide) g2)
        have a242 : ∀ j, gA σ2 242 j = if j = x then y else gA σ 242 j := fun j => by rw [g2.2 242 (by decide), gA_sA, if_pos rfl]
        have p243 : gA (sA σ 242 x y) 243 = P := e2
        rw [p243] at g4
        obtain ⟨u1, u2, u3⟩ := UI_fn (S' := sf (gA σ2 242)) (B' := gA σ2 248) (by omega) hU pxy hxi hyi sx sy hxy f2 f2y (fun k => by
          unfold sf
          rw [a242]
          by_cases z : k = x
          · rw [if_pos z, if_pos z, if_neg (by omega)]
          · rw [if_neg z, if_neg z]) (fun j _ j2 => g3 j j2) (fun i i1 i2 => by have := g4 i i1 i2; rw [show q + (i - 0) = q + i by omega] at this; exact this)
        refine go σ2 (q + 4) _ _ _ _ (LF.erase x) ⟨f02, fun k hk => by rw [a242, if_neg (fun e => hk (by rw [e]; exact hxi))]⟩ (by rw [g2.1 246 List.not_mem_nil]; exact bad0) u1 (fun k k1 k2 => ?_) (by omega) (by omega) (by omega) u3
        rw [a242]
        by_cases z : k = x
        · rw [if_pos z, z]; exact Ne.symm hxy
        · rw [if_neg z]; exact hs k k1 k2
      · rw [if_neg f2]
        unfold b10_equal_253
        have fr4 := (hU.2.1 x hxi.1 hxi.2).1
        obtain ⟨u1, u2⟩ := UI_plain (by omega) hU pxy hxi hyi fxy (by clear letter ended go; omega)
        exact go σ q R d J L LF (frE_r _) bad0 u1 hs (Nat.le_refl _) (by omega) (by omega) u2
    · rw [if_neg fxy, ck11, nx_d]
      unfold b10_equal_253
      exact ended (sI σ 246 1) q ⟨fr_I _ _ (by decide) (fr_r _), fun _ _ => rfl⟩ (by rw [gI_sI, if_pos rfl]) (UI_clash (by omega) hU pxy hxi hyi fx fy fxy)
end
/-- equal(one, other), while nothing is bad -/
theorem m_equal {σ : Sg} {lo n : Int} {R : Int → Int} {LF : List Int} (h : MS σ lo n R LF) (bad0 : gI σ 246 = 0) (hLF : LF.length ≤ 120) {N : Nat} (hN : 1300 ≤ N) {a b : Int} (ha : lo ≤ a ∧ a < lo + n) (hb : lo ≤ b ∧ b < lo + n) : ∃ σ', f10_equal N σ a b = some (σ', 0) ∧ frE lo n σ σ' ∧ ((gI σ' 246 = 0 ∧ ∃ (R' : Int → Int) (LF' : List Int), MS σ' lo n R' LF' ∧ LF'.length ≤ LF.length ∧ ∀ v, (MM σ' lo n R' v ↔ MM σ lo n R v ∧ v a = v b)) ∨ (gI σ' 246 = 1 ∧ ∀ v, ¬ (MM σ lo n R v ∧ v a = v b))) := by
  have hlo := MS_lo h
  obtain ⟨h1, h2, h3, h4, d, J, L, u1, u2, u3, u4⟩ := h
  unfold f10_equal
  rw [ck_t (by decide), nx_d, ck_t (by decide), nx_d]
  obtain ⟨σ1, hσ1⟩ : ∃ σ1, sA (sA σ 248 0 a) 248 1 b = σ1 := ⟨_, rfl⟩
  rw [hσ1]
  have f1 : fr [] [248] σ σ1 := by rw [← hσ1]; exact fr_A _ _ _ (by decide) (fr_A _ _ _ (by decide) (fr_r _))
  have B0 : gA σ1 248 0 = a := by rw [← hσ1]; simp only [gA_sA, reduceIte]; rfl
  have B1 : gA σ1 248 1 = b := by rw [← hσ1]; simp only [gA_sA, reduceIte]
  have sq : ∀ {α : Type} (w : Int → α), SQ (gA σ1 248) 1 w ↔ w a = w b := fun {α} w => by
    refine ⟨fun q => ?_, fun q j j1 j2 => ?_⟩
    · have := q 0 (by omega) (by omega)
      rw [show (2 : Int) * 0 = 0 from rfl, show (0 : Int) + 1 = 1 from rfl, B0, B1] at this
      exact this
    · have : j = 0 := by omega
      rw [this, show (2 : Int) * 0 = 0 from rfl, show (0 : Int) + 1 = 1 from rfl, B0, B1]
      exact q
  have a242 : gA σ1 242 = gA σ 242 := funext fun j => f1.2 242 (by decide) j
  have a239 : gI σ1 239 = gI σ 239 := f1.1 239 List.not_mem_nil
  obtain ⟨σ2, g1, g2, g3⟩ := m_loop (lo := lo) (n := n) (F := gA σ 241) (P := gA σ 243) (N := N) hlo.2 h4 hN N σ1 1 R d J L LF (by rw [a239]; exact h1) (by rw [a239]; exact h2) ((f1.1 240 List.not_mem_nil).trans h3) (funext fun j => f1.2 241 (by decide) j) (funext fun j => f1.2 243 (by decide) j) ((f1.1 246 List.not_mem_nil).trans bad0) (by rw [a242]; exact ⟨u1, CL_q u2 (fun _ _ _ => trivial), u3, fun j j1 j2 => by
    by_cases z : j = 0
    · rw [z, B0]; exact ha
    · rw [show j = 1 by omega, B1]; exact hb⟩) (by rw [a242]; exact u4) hLF (by decide) (by omega) (by omega)
  rw [show (2 : Int) = 2 * 1 from rfl, g1]
  have t0 : frE lo n σ σ2 := ⟨fr_t (fr_m (by decide) (by decide) f1) g2.1, fun k hk => (g2.2 k hk).trans (f1.2 242 (by decide) k)⟩
  have t := t0.1
  have t241 : gA σ2 241 = gA σ 241 := funext fun j => t.2 241 (by decide) j
  have t243 : gA σ2 243 = gA σ 243 := funext fun j => t.2 243 (by decide) j
  have t239 : gI σ2 239 = gI σ 239 := t.1 239 (by decide)
  refine ⟨σ2, rfl, t0, ?_⟩
  rcases g3 with ⟨z0, R', d', J', L', LF', z1, z2, z3, z4⟩ | ⟨z0, z1⟩
  · refine Or.inl ⟨z0, R', LF', ⟨by rw [t239]; exact h1, by rw [t239]; exact h2, (t.1 240 (by decide)).trans h3, h4, d', J', L', z1.1, ?_, by rw [t241]; exact z1.2.2.1, z2⟩, z3, fun v => ?_⟩
    · rw [t241, t243]
      exact CL_q z1.2.1 (fun w _ _ j j1 j2 => absurd j2 (by omega))
    · unfold MM
      rw [t241, t243, z4 v, sq]
  · exact Or.inr ⟨z0, fun v q => z1 v ⟨q.1, (sq v).mpr q.2⟩⟩
