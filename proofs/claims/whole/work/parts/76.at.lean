/-! ===== reading the type that is kept ===== -/
def lb (W : List Int) (l r : Int) : Prop := (l < 3 ∧ r = l) ∨ (3 ≤ l ∧ 3 ≤ r ∧ W[(r - 3).toNat]? = some l)
def RD (W : List Int) : Nat → Tr → Int → Int → Prop
  | 0, _, _, _ => False
  | m + 1, T, x, r => if x ≤ 0 then lb W (T []) r else if x % 10 < 1 ∨ 4 < x % 10 ∨ T [] ≠ 2 then r = -1 else RD W m (chT T (x % 10 - 1)) (x / 10) r
/-- the class has kept the tree T, its letters in the order W -/
def KT (σ : Sg) (T : Tr) (W : List Int) : Prop := ∃ (n : Int) (F P R : Int → Int), (0 ≤ n ∧ n ≤ 604) ∧ KN n F P R (gA σ 20) (gA σ 21) [] W ∧ (0 ≤ gI σ 23 ∧ gI σ 23 < n) ∧ gA σ 20 (gI σ 23) ≠ -1 ∧ T = v0 F P R (gI σ 23) ∧ (∀ k, 0 ≤ k → k < n → F k = 2 → ∀ i, 0 ≤ i → i < 4 → 0 ≤ R (P (4 * k + i)) ∧ R (P (4 * k + i)) < n) ∧ (∀ k, 0 ≤ k → k < n → 0 ≤ F k ∧ F k ≤ 3) ∧ ∀ k, 0 ≤ k → k < n → ∀ i, 0 ≤ i → i < 4 → F k = 2 → R (R (P (4 * k + i))) = R (P (4 * k + i))
theorem c_walk {n : Int} {F P R : Int → Int} {σ : Sg} {W : List Int} (hn : 0 ≤ n ∧ n ≤ 604) (hk : KN n F P R (gA σ 20) (gA σ 21) [] W) (hp : ∀ k, 0 ≤ k → k < n → F k = 2 → ∀ i, 0 ≤ i → i < 4 → 0 ≤ R (P (4 * k + i)) ∧ R (P (4 * k + i)) < n) (hF : ∀ k, 0 ≤ k → k < n → 0 ≤ F k ∧ F k ≤ 3) (hRR : ∀ k, 0 ≤ k → k < n → ∀ i, 0 ≤ i → i < 4 → F k = 2 → R (R (P (4 * k + i))) = R (P (4 * k + i))) {N : Nat} : ∀ (m M : Nat) (k x : Int), m < M → 0 ≤ k → k < n → gA σ 20 k ≠ -1 → 0 ≤ x → x < (10 : Int) ^ m → ∃ r, b1_at_21 N M σ k x = some (σ, r) ∧ RD W (m + 1) (v0 F P R k) x r := by
  intro m
  induction m with
  | zero =>
    intro M k x hM k1 k2 k3 x0 x1
    have hx : x = 0 := by have : (10 : Int) ^ 0 = 1 := rfl; omega
    obtain ⟨M', e⟩ : ∃ M', M = M' + 1 := ⟨M - 1, by omega⟩
    subst e hx
    unfold b1_at_21
    rw [if_pos (Int.le_refl 0), ck_t (show 0 ≤ k ∧ k < 604 by omega)]
    refine ⟨_, rfl, ?_⟩
    show lb W (v0 F P R k []) (gA σ 20 k)
    obtain ⟨a1, a2, a3, a4⟩ := hk.1 k k1 k2 k3
    have f := hF k k1 k2
    by_cases f3 : F k = 3
    · have := v0_letter (F := F) (P := P) (R := R) (k := k) (by rw [a1]; exact f3)
      rw [a1] at this
      rw [this, leaf_n]
      exact Or.inr ⟨by omega, (a2 f3).1, (a2 f3).2⟩
    · rw [a3 f3]
      have : v0 F P R k [] = F k := by
        show (if F (R k) = 3 then 3 + R k else F (R k)) = F k
        rw [a1, if_neg f3]
      rw [this]
      exact Or.inl ⟨by omega, rfl⟩
  | succ m ih =>
    intro M k x hM k1 k2 k3 x0 x1
    obtain ⟨M', e⟩ : ∃ M', M = M' + 1 := ⟨M - 1, by omega⟩
    subst e
    obtain ⟨a1, a2, a3, a4⟩ := hk.1 k k1 k2 k3
    have f := hF k k1 k2
    have l0 : v0 F P R k [] = if F k = 3 then 3 + k else F k := by
      show (if F (R k) = 3 then 3 + R k else F (R k)) = _
      rw [a1]
    unfold b1_at_21
    show ∃ r, _ ∧ (if x ≤ 0 then lb W (v0 F P R k []) r else if x % 10 < 1 ∨ 4 < x % 10 ∨ v0 F P R k [] ≠ 2 then r = -1 else RD W (m + 1) (chT (v0 F P R k) (x % 10 - 1)) (x / 10) r)
    by_cases hx : x ≤ 0
    · simp only [if_pos hx]
      rw [ck_t (show 0 ≤ k ∧ k < 604 by omega)]
      refine ⟨_, rfl, ?_⟩
      rw [l0]
      by_cases f3 : F k = 3
      · rw [if_pos f3]
        exact Or.inr ⟨by omega, (a2 f3).1, (a2 f3).2⟩
      · rw [if_neg f3, a3 f3]
        exact Or.inl ⟨by omega, rfl⟩
    simp only [if_neg hx]
    rw [ck_t x0]
    by_cases d1 : x % 10 < 1
    · rw [if_pos d1]
      refine ⟨_, rfl, ?_⟩
      rw [if_pos (Or.inl d1)]
    rw [if_neg d1]
    by_cases d4 : 4 < x % 10
    · rw [if_pos d4]
      refine ⟨_, rfl, ?_⟩
      rw [if_pos (Or.inr (Or.inl d4))]
    rw [if_neg d4, ck_t (show 0 ≤ k ∧ k < 604 by omega)]
    by_cases f2 : F k = 2
    · have an2 : gA σ 20 k = 2 := by rw [a3 (by omega), f2]
      have l2 : v0 F P R k [] = 2 := by rw [l0, if_neg (by omega), f2]
      rw [if_pos an2, ck_t (show inR (4 * k) from ⟨by omega, by omega⟩), ck_t (show inR (4 * k + x % 10) from ⟨by omega, by omega⟩), ck_t (show inR (4 * k + x % 10 - 1) from ⟨by omega, by omega⟩), ck_t (show 0 ≤ 4 * k + x % 10 - 1 ∧ 4 * k + x % 10 - 1 < 2416 by omega), ck_t x0]
      obtain ⟨i, hi⟩ : ∃ i, x % 10 - 1 = i := ⟨_, rfl⟩
      have hi4 : 0 ≤ i ∧ i < 4 := by omega
      have ec := a4 f2 i hi4.1 hi4.2
      have es : gA σ 20 (R (P (4 * k + i))) ≠ -1 := ec.2.elim (fun q => q) (fun q => absurd q List.not_mem_nil)
      have ep := hp k k1 k2 f2 i hi4.1 hi4.2
      rw [show 4 * k + x % 10 - 1 = 4 * k + i by omega, ec.1]
      have hpow : (10 : Int) ^ (m + 1) = 10 ^ m * 10 := Int.pow_succ 10 m
      obtain ⟨r, r1, r2⟩ := ih M' (R (P (4 * k + i))) (x / 10) (by omega) ep.1 ep.2 es (by omega) (by omega)
      refine ⟨r, r1, ?_⟩
      rw [if_neg (by rw [l2]; omega)]
      have ch : chT (v0 F P R k) (x % 10 - 1) = v0 F P R (R (P (4 * k + i))) := by
        rw [hi]
        funext q
        show ul F P R (i :: q) k = ul F P R q (R (P (4 * k + i)))
        rw [ul_c (hRR k k1 k2 i hi4.1 hi4.2 f2) q]
        show (if F (R k) = 2 ∧ 0 ≤ i ∧ i < 4 then ul F P R q (P (4 * R k + i)) else -1) = _
        rw [a1, if_pos ⟨f2, hi4⟩]
      rw [ch]
      exact r2
    · have an2 : gA σ 20 k ≠ 2 := by
        by_cases f3 : F k = 3
        · have := (a2 f3).1; omega
        · rw [a3 f3]; exact f2
      rw [if_neg an2]
      refine ⟨_, rfl, ?_⟩
      rw [if_pos (Or.inr (Or.inr _))]
      rw [l0]
      by_cases f3 : F k = 3
      · rw [if_pos f3]; omega
      · rw [if_neg f3]; exact f2
/-- part(path), when a type is kept -/
theorem c_at {σ : Sg} {T : Tr} {W : List Int} (h : KT σ T W) {N : Nat} (hN : 20 ≤ N) {x : Int} (hx : inR x) : ∃ r, f1_at N σ x = some (σ, r) ∧ ((x < 0 ∧ r = -1) ∨ (0 ≤ x ∧ RD W 13 T x r)) := by
  obtain ⟨n, F, P, R, h1, h2, h3, h4, h5, h6, h7, h8⟩ := h
  unfold f1_at
  rw [if_neg (show ¬ gI σ 23 = -1 by omega)]
  by_cases z : 0 ≤ x
  · rw [if_pos z]
    have hp : x < (10 : Int) ^ 12 := by have : (10 : Int) ^ 12 = 1000000000000 := by decide
                                        have := hx.2; omega
    obtain ⟨r, r1, r2⟩ := c_walk h1 h2 h6 h7 h8 (N := N) 12 N (gI σ 23) x (by omega) h3.1 h3.2 h4 z hp
    exact ⟨r, r1, Or.inr ⟨z, by rw [h5]; exact r2⟩⟩
  · rw [if_neg z]
    exact ⟨-1, rfl, Or.inl ⟨by omega, rfl⟩⟩
/-- keep(), after a type was found -/
theorem c_keep {K A B C : Int → Int} {e : Int} {σ : Sg} {n : Int} {F P R : Int → Int} {d : Int → Nat} {J : Nat} {L LF : List Int} (h : FD K A B C e σ n F P R d J L LF) {N : Nat} (hN : 4000 ≤ N) {n0 : Nat} (hf : ∀ k, 0 ≤ k → k < n → fin n0 (v0 F P R k)) : ∃ σ', f1_keep N σ 3 = some (σ', 0) ∧ fr [23, 24] [20, 21, 22, 101] σ σ' ∧ KT σ' (v0 F P R 3) (ord n0 (v0 F P R 3) []) := by
  obtain ⟨h1, h2, h3, h4, h5, h6, h7, h8⟩ := h
  have hR : ∀ k, 0 ≤ k → k < 0 + n → (0 ≤ R k ∧ R k < 0 + n) ∧ R (R k) = R k := fun k k1 k2 => ⟨(h1.2.2.2.1 k k1 k2).2.1, US_RR h1.2.2.2 k1 k2⟩
  unfold f1_keep
  obtain ⟨σ1, a1, a2, a3⟩ := c_chosen0 h1.1 h5.2 h1.2.2.2 (N := N) (by omega) (x := 3) (by omega)
  rw [a1, bd_s, nx_d, nx_d]
  obtain ⟨rt, hrt⟩ : ∃ rt, R 3 = rt := ⟨_, rfl⟩
  have hr := hR 3 (by decide) (by omega)
  rw [hrt] at hr ⊢
  unfold f7_fill_53178
  obtain ⟨σ2, b1, b2, b3, b4⟩ := c_fill (N := N) N (sI (sI σ1 23 rt) 24 0) 0 (by decide) (by decide) (by omega)
  rw [b1, bd_s, ck_t (by decide), nx_d]
  have g23 : gI σ2 23 = rt := by rw [b4.1 23 (by decide)]; simp only [gI_sI, Nat.reduceEqDiff, reduceIte]
  have g24 : gI σ2 24 = 0 := by rw [b4.1 24 (by decide)]; simp only [gI_sI, Nat.reduceEqDiff, reduceIte]
  rw [g23]
  obtain ⟨σ3, hσ3⟩ : ∃ σ3, sA σ2 22 0 rt = σ3 := ⟨_, rfl⟩
  rw [hσ3]
  have f3 : fr [23, 24] [20, 21, 22, 101] σ σ3 := by
    rw [← hσ3]
    exact fr_A _ _ _ (by decide) (fr_t (fr_I _ _ (by decide) (fr_I _ _ (by decide) (fr_m (by decide) (by decide) a3))) (fr_m (by decide) (by decide) b4))
  have f23 : fr [23, 24] [20, 22] σ1 σ3 := by
    rw [← hσ3]
    exact fr_A _ _ _ (by decide) (fr_t (fr_I _ _ (by decide) (fr_I _ _ (by decide) (fr_r _))) (fr_m (by decide) (by decide) b4))
  have s3 : SS σ3 n F P R d J L := ⟨(f3.1 107 (by decide)).trans h1.1, (funext fun j => f3.2 100 (by decide) j).trans h1.2.1, (funext fun j => f3.2 102 (by decide) j).trans h1.2.2.1, by rw [show gA σ3 101 = gA σ1 101 from funext fun j => f23.2 101 (by decide) j]; exact a2⟩
  have c20 : ∀ k, 0 ≤ k → k < n → gA σ3 20 k = -1 := fun k k1 k2 => by
    rw [← hσ3, gA_sA, if_neg (by decide)]
    exact b2 k k1 (by omega)
  have c22 : stk (gA σ3 22) 1 = [rt] := by
    show gA σ3 22 ((0 : Nat) : Int) :: [] = [rt]
    rw [← hσ3, gA_sA, if_pos rfl, if_pos (show ((0 : Nat) : Int) = 0 from rfl)]
  have c24 : gI σ3 24 = (([] : List Int).length : Int) := by rw [← hσ3, gI_sA, g24]; rfl
  have vrt : v0 F P R rt = v0 F P R 3 := v0_c (by rw [hrt]; exact hr.2)
  obtain ⟨σ4, W', q1, q2, q3, q4, q5, q6⟩ := c_keeps (N := N) (by omega) (by omega) h2 hR h6 hf (Wf := ord n0 (v0 F P R 3) []) N σ3 1 0 [] LF s3 (by
    rw [c22]
    refine ⟨?_, fun k hk => absurd (c20 k hk.1 hk.2.1) hk.2.2⟩
    show ord n0 (v0 F P R rt) [] = _
    rw [vrt]) (by
    rw [c22]
    refine ⟨fun k k1 k2 hk => absurd (c20 k k1 k2) hk, fun x hx => absurd hx List.not_mem_nil, List.nodup_nil, fun x hx => ?_⟩
    rw [List.mem_singleton.mp hx]
    exact ⟨by have := hr.1; omega, hr.2⟩) c24 (by decide) (fun k k1 k2 hf' hk _ => h3 k k1 (by omega) hf' hk) (by decide) (by omega) (by omega)
  refine ⟨σ4, q1, fr_t f3 (fr_m (by decide) (by decide) q2), n, F, P, R, by omega, by rw [← q4]; exact q5, ?_, ?_, ?_, fun k k1 k2 hk i i1 i2 => ?_, fun k k1 k2 => (h2 k k1 (by omega)).1, fun k k1 k2 i i1 i2 hk => ?_⟩
  · rw [q2.1 23 (by decide), ← hσ3, gI_sA, g23]; have := hr.1; omega
  · rw [q2.1 23 (by decide), ← hσ3, gI_sA, g23]
    exact q6 rt hr.1.1 (by have := hr.1; omega) (Or.inr (by rw [c22]; exact List.mem_cons_self))
  · rw [q2.1 23 (by decide), ← hσ3, gI_sA, g23]; exact vrt.symm
  · have p := ((h2 k k1 (by omega)).2.2.2 hk).2.1 i i1 i2
    have := (hR _ p.1 p.2).1
    omega
  · have p := ((h2 k k1 (by omega)).2.2.2 hk).2.1 i i1 i2
    exact (hR _ p.1 p.2).2
