/-! ===== what the nodes unfold to ===== -/
def ul (F P R : Int → Int) : List Int → Int → Int
  | [], k => if F (R k) = 3 then 3 + R k else F (R k)
  | i :: p, k => if F (R k) = 2 ∧ 0 ≤ i ∧ i < 4 then ul F P R p (P (4 * R k + i)) else -1
def v0 (F P R : Int → Int) (k : Int) : Tr := fun p => ul F P R p k
theorem ul_c {F P R : Int → Int} {a b : Int} (h : R a = R b) (p : List Int) : ul F P R p a = ul F P R p b := by
  cases p with
  | nil => unfold ul; rw [h]
  | cons i p => unfold ul; rw [h]
theorem v0_c {F P R : Int → Int} {a b : Int} (h : R a = R b) : v0 F P R a = v0 F P R b := funext fun p => ul_c h p
section
variable {lo n : Int} {F P R : Int → Int}
theorem v0_leaf {k : Int} (h2 : F (R k) ≠ 2) (h3 : F (R k) ≠ 3) : v0 F P R k = leaf (F (R k)) := funext fun p => by
  cases p with
  | nil => show ul F P R [] k = _; unfold ul; rw [if_neg h3]; rfl
  | cons i p => show ul F P R (i :: p) k = _; unfold ul; rw [if_neg (fun q => h2 q.1)]; rfl
theorem v0_letter {k : Int} (h3 : F (R k) = 3) : v0 F P R k = leaf (3 + R k) := funext fun p => by
  cases p with
  | nil => show ul F P R [] k = _; unfold ul; rw [if_pos h3]; rfl
  | cons i p => show ul F P R (i :: p) k = _; unfold ul; rw [if_neg (by rw [h3]; omega)]; rfl
theorem v0_fn {k : Int} (h2 : F (R k) = 2) : v0 F P R k = fnT (v0 F P R (P (4 * R k))) (v0 F P R (P (4 * R k + 1))) (v0 F P R (P (4 * R k + 2))) (v0 F P R (P (4 * R k + 3))) := funext fun p => by
  cases p with
  | nil => show ul F P R [] k = _; unfold ul; rw [if_neg (by rw [h2]; decide), h2]; rfl
  | cons i p =>
    show ul F P R (i :: p) k = _
    unfold ul
    by_cases hi : 0 ≤ i ∧ i < 4
    · rw [if_pos ⟨h2, hi⟩]
      rcases idx4 hi with rfl | rfl | rfl | rfl
      · rw [Int.add_zero]; rfl
      · rfl
      · rfl
      · rfl
    · rw [if_neg (fun q => hi q.2), fnT_o _ _ _ _ _ _ hi]
theorem v0_tre (hlo : 0 ≤ lo) (hR : ∀ k, lo ≤ k → k < lo + n → (lo ≤ R k ∧ R k < lo + n) ∧ R (R k) = R k) (hc : CL lo n F P R (fun _ => True)) (rk : Int → Nat) (hrk : ∀ k, lo ≤ k → k < lo + n → R k = k → F k = 2 → ∀ i, 0 ≤ i → i < 4 → rk (R (P (4 * k + i))) < rk k) : ∀ (m : Nat) (k : Int), lo ≤ k → k < lo + n → rk (R k) < m → fin (m + 1) (v0 F P R k) := by
  intro m
  induction m with
  | zero => intro k _ _ h; exact absurd h (Nat.not_lt_zero _)
  | succ m ih =>
    intro k h1 h2 h3
    have r := hR k h1 h2
    by_cases f2 : F (R k) = 2
    · rw [v0_fn f2]
      have c := (hc (R k) r.1.1 r.1.2).2.2.2 f2
      have hk := hrk (R k) r.1.1 r.1.2 r.2 f2
      have p0 := c.2.1 0 (by omega) (by omega)
      have k0 := hk 0 (by omega) (by omega)
      rw [Int.add_zero] at p0 k0
      have p1 := c.2.1 1 (by omega) (by omega)
      have p2 := c.2.1 2 (by omega) (by omega)
      have p3 := c.2.1 3 (by omega) (by omega)
      exact fin_fn (ih _ p0.1 p0.2 (by omega)) (ih _ p1.1 p1.2 (by have := hk 1 (by omega) (by omega); omega)) (ih _ p2.1 p2.2 (by have := hk 2 (by omega) (by omega); omega)) (ih _ p3.1 p3.2 (by have := hk 3 (by omega) (by omega); omega))
    · by_cases f3 : F (R k) = 3
      · rw [v0_letter f3]; exact fin_m (fin_leaf _) (by omega)
      · rw [v0_leaf f2 f3]; exact fin_m (fin_leaf _) (by omega)
theorem v0_MD (hlo : 0 ≤ lo) (hR : ∀ k, lo ≤ k → k < lo + n → (lo ≤ R k ∧ R k < lo + n) ∧ R (R k) = R k) (hc : CL lo n F P R (fun _ => True)) (rk : Int → Nat) (hrk : ∀ k, lo ≤ k → k < lo + n → R k = k → F k = 2 → ∀ i, 0 ≤ i → i < 4 → rk (R (P (4 * k + i))) < rk k) : MD lo n F P R (v0 F P R) := fun k h1 h2 => by
  have r := hR k h1 h2
  obtain ⟨c1, c2, c3, c4⟩ := hc k h1 h2
  have cr := (hc (R k) r.1.1 r.1.2).1
  refine ⟨⟨?_, _, v0_tre hlo hR hc rk hrk (rk (R k) + 1) k h1 h2 (by omega)⟩, v0_c r.2.symm, fun z => ?_, fun z => ?_, fun z => ?_⟩
  · show (if F (R k) = 3 then 3 + R k else F (R k)) ≠ -1
    split <;> omega
  · have := c2 z
    rw [v0_leaf (by omega) (by omega), this]
  · have := c3 z
    rw [v0_leaf (by omega) (by omega), this]
  · obtain ⟨z1, z2, z3⟩ := c4 z
    have w := z3 (fun j => if F (R j) = 0 then -2 else if F (R j) = 1 then -3 else R j) ⟨fun j j1 j2 => by
      show (if F (R j) = 0 then (-2 : Int) else if F (R j) = 1 then -3 else R j) = (if F (R (R j)) = 0 then -2 else if F (R (R j)) = 1 then -3 else R (R j))
      rw [(hR j j1 j2).2], fun j j' j1 j2 j1' j2' q1 q2 => by
      show (if F (R j) = 0 then (-2 : Int) else if F (R j) = 1 then -3 else R j) = (if F (R j') = 0 then -2 else if F (R j') = 1 then -3 else R j')
      obtain ⟨-, x2, x3, -⟩ := hc j j1 j2
      obtain ⟨-, y2, y3, -⟩ := hc j' j1' j2'
      rcases q2 with q2 | q2
      · rw [if_pos (x2 q2), if_pos (y2 (by omega))]
      · have a := x3 q2
        have b := y3 (by omega)
        rw [if_neg (by omega), if_pos a, if_neg (by omega), if_pos b]⟩ trivial
    have w' : ∀ i, 0 ≤ i → i < 4 → v0 F P R (P (4 * R k + i)) = v0 F P R (P (4 * k + i)) := fun i i1 i2 => by
      have e := w i i1 i2
      have pi := z2 i i1 i2
      have pr := ((hc (R k) r.1.1 r.1.2).2.2.2 z1).2.1 i i1 i2
      have ra := (hR _ pi.1 pi.2).1
      have rb := (hR _ pr.1 pr.2).1
      obtain ⟨a, ha⟩ : ∃ a, P (4 * k + i) = a := ⟨_, rfl⟩
      obtain ⟨b, hb⟩ : ∃ b, P (4 * R k + i) = b := ⟨_, rfl⟩
      rw [ha, hb] at e
      rw [ha] at ra
      rw [hb] at rb
      rw [ha, hb]
      have e : (if F (R a) = 0 then (-2 : Int) else if F (R a) = 1 then -3 else R a) = (if F (R b) = 0 then -2 else if F (R b) = 1 then -3 else R b) := e
      by_cases a0 : F (R a) = 0
      · rw [if_pos a0] at e
        have b0 : F (R b) = 0 := by
          refine Classical.byContradiction (fun q => ?_)
          rw [if_neg q] at e
          by_cases q1 : F (R b) = 1
          · rw [if_pos q1] at e; omega
          · rw [if_neg q1] at e; omega
        rw [v0_leaf (by omega) (by omega), v0_leaf (by omega) (by omega), a0, b0]
      rw [if_neg a0] at e
      by_cases a1 : F (R a) = 1
      · rw [if_pos a1] at e
        have b1 : F (R b) = 1 := by
          refine Classical.byContradiction (fun q => ?_)
          by_cases q1 : F (R b) = 0
          · rw [if_pos q1] at e; omega
          · rw [if_neg q1, if_neg q] at e; omega
        rw [v0_leaf (by omega) (by omega), v0_leaf (by omega) (by omega), a1, b1]
      rw [if_neg a1] at e
      have b0 : ¬ F (R b) = 0 := fun q => by rw [if_pos q] at e; omega
      have b1 : ¬ F (R b) = 1 := fun q => by rw [if_neg b0, if_pos q] at e; omega
      rw [if_neg b0, if_neg b1] at e
      exact v0_c e.symm
    have w0 := w' 0 (by omega) (by omega)
    rw [Int.add_zero, Int.add_zero] at w0
    rw [v0_fn z1, w0, w' 1 (by omega) (by omega), w' 2 (by omega) (by omega), w' 3 (by omega) (by omega)]
/-- a set of functions, each with a part in it, has no trees -/
theorem no_model {X : Int → Prop} (hX : ∀ k, X k → (lo ≤ k ∧ k < lo + n) ∧ F k = 2 ∧ ∃ i, (0 ≤ i ∧ i < 4) ∧ (lo ≤ P (4 * k + i) ∧ P (4 * k + i) < lo + n) ∧ X (R (P (4 * k + i)))) {k0 : Int} (h0 : X k0) {v : Int → Tr} (hv : MD lo n F P R v) : False := by
  have key : ∀ (m : Nat) (k : Int), X k → ¬ fin m (v k) := by
    intro m
    induction m with
    | zero =>
      intro k hk h
      obtain ⟨a1, a2, -⟩ := hX k hk
      have := (hv k a1.1 a1.2).1.1
      exact this (h [] (Nat.zero_le _))
    | succ m ih =>
      intro k hk h
      obtain ⟨a1, a2, i, a3, a4, a5⟩ := hX k hk
      refine ih _ a5 ?_
      rw [← (hv _ a4.1 a4.2).2.1]
      have e := (hv k a1.1 a1.2).2.2.2.2 a2
      have := fin_ch h i
      rw [e] at this
      rcases idx4 a3 with rfl | rfl | rfl | rfl
      · rw [Int.add_zero]; exact this
      · exact this
      · exact this
      · exact this
  obtain ⟨a1, -⟩ := hX k0 h0
  obtain ⟨-, m, hm⟩ := (hv k0 a1.1 a1.2).1
  exact key m k0 h0 hm
end
/-! putting trees for letters -/
def sb (s : Int → Tr) : List Int → Tr → Int
  | [], T => if 3 ≤ T [] then s (T [] - 3) [] else T []
  | i :: p, T => if 3 ≤ T [] then s (T [] - 3) (i :: p) else sb s p (chT T i)
theorem sb_none (s : Int → Tr) : ∀ (p : List Int), sb s p (fun _ => -1) = -1 := by
  intro p
  induction p with
  | nil => rfl
  | cons i p ih => exact ih
theorem sb_fn (s : Int → Tr) (i : Int) (p : List Int) (a b c e : Tr) : sb s (i :: p) (fnT a b c e) = sb s p (chT (fnT a b c e) i) := rfl
theorem sb_leaf (s : Int → Tr) {x : Int} (hx : x < 3) (p : List Int) : sb s p (leaf x) = leaf x p := by
  cases p with
  | nil => show (if 3 ≤ x then s (x - 3) [] else x) = x; rw [if_neg (by omega)]
  | cons i p =>
    show (if 3 ≤ x then s (x - 3) (i :: p) else sb s p (chT (leaf x) i)) = -1
    rw [if_neg (by omega)]
    exact sb_none s p
theorem sb_letter (s : Int → Tr) {x : Int} (hx : 0 ≤ x) (p : List Int) : sb s p (leaf (3 + x)) = s x p := by
  cases p with
  | nil => show (if 3 ≤ 3 + x then s (3 + x - 3) [] else 3 + x) = _; rw [if_pos (by omega), show 3 + x - 3 = x by omega]
  | cons i p => show (if 3 ≤ 3 + x then s (3 + x - 3) (i :: p) else _) = _; rw [if_pos (by omega), show 3 + x - 3 = x by omega]
/-- every model is the unfolding with trees put for its letters -/
theorem v0_most {lo n : Int} {F P R : Int → Int} (hlo : 0 ≤ lo) (hR : ∀ k, lo ≤ k → k < lo + n → (lo ≤ R k ∧ R k < lo + n) ∧ R (R k) = R k) (hc : CL lo n F P R (fun _ => True)) {v : Int → Tr} (hv : MD lo n F P R v) : ∀ (p : List Int) (k : Int), lo ≤ k → k < lo + n → v k p = sb v p (v0 F P R k) := by
  intro p
  induction p with
  | nil =>
    intro k h1 h2
    have r := hR k h1 h2
    have cr := (hc (R k) r.1.1 r.1.2).1
    have m := hv (R k) r.1.1 r.1.2
    rw [(hv k h1 h2).2.1]
    by_cases f3 : F (R k) = 3
    · rw [v0_letter f3, sb_letter v (by omega)]
    · by_cases f2 : F (R k) = 2
      · rw [v0_fn f2, m.2.2.2.2 f2]
        show (2 : Int) = if (3 : Int) ≤ 2 then _ else 2
        rw [if_neg (by decide)]
      · rw [v0_leaf f2 f3, sb_leaf v (by omega)]
        by_cases f0 : F (R k) = 0
        · rw [m.2.2.1 f0, f0]
        · have f1 : F (R k) = 1 := by omega
          rw [m.2.2.2.1 f1, f1]
  | cons i p ih =>
    intro k h1 h2
    have r := hR k h1 h2
    have cr := (hc (R k) r.1.1 r.1.2).1
    have m := hv (R k) r.1.1 r.1.2
    rw [(hv k h1 h2).2.1]
    by_cases f3 : F (R k) = 3
    · rw [v0_letter f3, sb_letter v (by omega)]
    · by_cases f2 : F (R k) = 2
      · have c := (hc (R k) r.1.1 r.1.2).2.2.2 f2
        rw [v0_fn f2, m.2.2.2.2 f2, sb_fn]
        by_cases hi : 0 ≤ i ∧ i < 4
        · have q := c.2.1 i hi.1 hi.2
          have := ih _ q.1 q.2
          rcases idx4 hi with rfl | rfl | rfl | rfl
          · rw [Int.add_zero] at this; exact this
          · exact this
          · exact this
          · exact this
        · rw [fnT_o _ _ _ _ _ _ hi, show chT (fnT (v0 F P R (P (4 * R k))) (v0 F P R (P (4 * R k + 1))) (v0 F P R (P (4 * R k + 2))) (v0 F P R (P (4 * R k + 3)))) i = fun _ => -1 from funext fun q => fnT_o _ _ _ _ _ _ hi, sb_none]
      · rw [v0_leaf f2 f3, sb_leaf v (by omega)]
        by_cases f0 : F (R k) = 0
        · rw [m.2.2.1 f0]; rfl
        · have f1 : F (R k) = 1 := by omega
          rw [m.2.2.2.1 f1]; rfl
