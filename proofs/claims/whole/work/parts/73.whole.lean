/-! ===== the class's finding of a type ===== -/
theorem sm_0 {f : Int → Int} : ∀ (m : Nat), (∀ j : Int, 0 ≤ j → j < m → 0 ≤ f j) → 0 ≤ sm f m := by
  intro m
  induction m with
  | zero => intro _; exact Int.le_refl 0
  | succ m ih =>
    intro h
    have := ih (fun j j1 j2 => h j j1 (by omega))
    have := h m (by omega) (by omega)
    show 0 ≤ sm f m + f m
    omega
section
variable {n : Int} {F P R : Int → Int} {d : Int → Nat} {J : Nat} {L : List Int} {N : Nat}
theorem DI_start {pr ps pa pr' pa' : Int → Int} {rk : Int → Nat} {b : Nat} {NW : List Int} (h : DI n F P R pr ps pa 0 rk b NW) {c : Int} (hc : 0 ≤ c ∧ c < n) (hRc : R c = c) (hFc : F c = 2) (hprc : pr c = 0) (hpr : ∀ k, pr' k = if k = c then 1 else pr k) (hpa : pa' 0 = c) : DI n F P R pr' ps pa' 1 rk b (NW.erase c) ∧ c ∈ NW := by
  obtain ⟨h1, -⟩ := h
  have cNW : c ∈ NW := (h1 c hc.1 hc.2).2.2.2.2.2 hFc hRc hprc
  have two : ∀ x, pr x = 2 → pr' x = 2 := fun x q => by
    rw [hpr, if_neg (fun z => by rw [z, hprc] at q; exact absurd q (by decide))]; exact q
  refine ⟨⟨fun k k1 k2 => ?_, fun j j1 j2 => ?_⟩, cNW⟩
  · obtain ⟨a1, a2, a3, a4, a5, a6⟩ := h1 k k1 k2
    by_cases e : k = c
    · rw [hpr k, if_pos e]
      exact ⟨by omega, a2, fun q => absurd q (by decide), fun _ => ⟨0, by omega, by omega, by rw [hpa, e]⟩, fun q => absurd q (by decide), fun _ _ q => absurd q (by decide)⟩
    · rw [hpr k, if_neg e]
      refine ⟨a1, a2, a3, fun q => ?_, fun q => ⟨fun i i1 i2 hf => ?_, (a5 q).2⟩, fun q1 q2 q3 => (List.mem_erase_of_ne e).mpr (a6 q1 q2 q3)⟩
      · obtain ⟨j, j1, j2, -⟩ := a4 q
        omega
      · obtain ⟨q1, q2⟩ := (a5 q).1 i i1 i2 hf
        exact ⟨two _ q1, q2⟩
  · have z : j = 0 := by omega
    rw [z, hpa]
    refine ⟨hc, hRc, hFc, by rw [hpr, if_pos rfl], fun i i1 i2 hf => ?_, fun q => absurd q (by omega), fun j' j1' j2' => absurd j2' (by omega)⟩
    rw [(h1 c hc.1 hc.2).2.2.1 hprc] at i2
    omega
theorem c_none (hn : 0 ≤ n ∧ n ≤ 604) (hN : 4000 ≤ N) (hR : ∀ k, 0 ≤ k → k < n → (0 ≤ R k ∧ R k < n) ∧ R (R k) = R k) (hpart : ∀ k, 0 ≤ k → k < n → F k = 2 → ∀ i, 0 ≤ i → i < 4 → 0 ≤ P (4 * k + i) ∧ P (4 * k + i) < n) : ∀ (M : Nat) (σ : Sg) (x : Int) (rk : Int → Nat) (b : Nat) (NW : List Int), SS σ n F P R d J L → DI n F P R (gA σ 104) (gA σ 105) (gA σ 106) 0 rk b NW → NW.length ≤ 120 → 0 ≤ x ∧ x ≤ n → (∀ k, 0 ≤ k → k < x → k < n → F (R k) = 2 → gA σ 104 (R k) ≠ 0) → n + 1 ≤ x + M → ∃ σ' r, b5_noneContainsItself_2 N M σ x = some (σ', r) ∧ fr [] [101, 104, 105, 106] σ σ' ∧ ((r = 1 ∧ SS σ' n F P R d J L ∧ ∃ rk : Int → Nat, ∀ k, 0 ≤ k → k < n → R k = k → F k = 2 → ∀ i, 0 ≤ i → i < 4 → rk (R (P (4 * k + i))) < rk k) ∨ (r = 0 ∧ ∀ v, ¬ MD 0 n F P R v)) := by
  intro M
  induction M with
  | zero =>
    intro σ x rk b NW h1 h2 h3 h4 h5 h6
    exact absurd h6 (by omega)
  | succ M ih =>
    intro σ x rk b NW h1 h2 h3 h4 h5 h6
    unfold b5_noneContainsItself_2
    rw [h1.1]
    by_cases hx : n ≤ x
    · rw [if_pos hx, ck11]
      refine ⟨σ, 1, rfl, fr_r _, Or.inl ⟨rfl, h1, fun k => if F k = 2 then rk k + 1 else 0, fun k k1 k2 kr kf i i1 i2 => ?_⟩⟩
      have hk := h2.1 k k1 k2
      have p0 : gA σ 104 k ≠ 0 := by have := h5 k k1 (by omega) k2; rw [kr] at this; exact this kf
      have p1 : gA σ 104 k ≠ 1 := fun q => by obtain ⟨j, j1, j2, -⟩ := hk.2.2.2.1 q; omega
      have p2 : gA σ 104 k = 2 := by have := hk.1; omega
      have q := (hk.2.2.2.2.1 p2).1 i i1 i2
      show (if F (R (P (4 * k + i))) = 2 then rk (R (P (4 * k + i))) + 1 else 0) < (if F k = 2 then rk k + 1 else 0)
      rw [if_pos kf]
      by_cases z : F (R (P (4 * k + i))) = 2
      · rw [if_pos z]
        have := (q z).2
        omega
      · rw [if_neg z]; omega
    rw [if_neg hx]
    obtain ⟨σ1, e1, e2, e3⟩ := c_chosen0 h1.1 hn.2 h1.2.2.2 (N := N) (by omega) (x := x) (by omega)
    rw [e1, bd_s]
    have s1 : SS σ1 n F P R d J L := ⟨(e3.1 107 (by decide)).trans h1.1, (funext fun j => e3.2 100 (by decide) j).trans h1.2.1, (funext fun j => e3.2 102 (by decide) j).trans h1.2.2.1, e2⟩
    have r104 : gA σ1 104 = gA σ 104 := funext fun j => e3.2 104 (by decide) j
    have r105 : gA σ1 105 = gA σ 105 := funext fun j => e3.2 105 (by decide) j
    have r106 : gA σ1 106 = gA σ 106 := funext fun j => e3.2 106 (by decide) j
    have hr := hR x h4.1 (by omega)
    obtain ⟨c, hc⟩ : ∃ c, R x = c := ⟨_, rfl⟩
    rw [hc] at hr ⊢
    have f1 : fr [] [101, 104, 105, 106] σ σ1 := fr_m (by decide) (by decide) e3
    rw [ck_t (show 0 ≤ c ∧ c < 604 by omega), s1.2.1, r104]
    unfold b5_noneContainsItself_45
    have go : ∀ (σ3 : Sg) (rk3 : Int → Nat) (b3 : Nat) (NW3 : List Int), fr [] [101, 104, 105, 106] σ σ3 → SS σ3 n F P R d J L → DI n F P R (gA σ3 104) (gA σ3 105) (gA σ3 106) 0 rk3 b3 NW3 → NW3.length ≤ 120 → (∀ k, 0 ≤ k → k < n → gA σ 104 k ≠ 0 → gA σ3 104 k ≠ 0) → (F c = 2 → gA σ3 104 c ≠ 0) → ∃ σ' r, ck (inR (x + 1)) (b5_noneContainsItself_2 N M σ3 (x + 1)) = some (σ', r) ∧ fr [] [101, 104, 105, 106] σ σ' ∧ ((r = 1 ∧ SS σ' n F P R d J L ∧ ∃ rk : Int → Nat, ∀ k, 0 ≤ k → k < n → R k = k → F k = 2 → ∀ i, 0 ≤ i → i < 4 → rk (R (P (4 * k + i))) < rk k) ∨ (r = 0 ∧ ∀ v, ¬ MD 0 n F P R v)) := by
      intro σ3 rk3 b3 NW3 g1 g2 g3 g4 g5 g6
      rw [ck_t (show inR (x + 1) from ⟨by omega, by omega⟩)]
      obtain ⟨σ', r, q1, q2, q3⟩ := ih σ3 (x + 1) rk3 b3 NW3 g2 g3 g4 (by omega) (fun k k1 k2 k3 kf => by
        by_cases z : k = x
        · rw [z, hc] at kf ⊢
          exact g6 kf
        · have w := hR k k1 k3
          exact g5 _ w.1.1 w.1.2 (h5 k k1 (by omega) k3 kf)) (by omega)
      exact ⟨σ', r, q1, fr_t g1 q2, q3⟩
    by_cases fc : F c = 2
    · rw [if_pos fc, ck_t (show 0 ≤ c ∧ c < 604 by omega)]
      by_cases pc : gA σ 104 c = 0
      · rw [if_pos pc]
        unfold f5_endsEverywhere
        rw [ck_t (by decide), nx_d, ck_t (show 0 ≤ c ∧ c < 604 by omega), nx_d]
        obtain ⟨σ2, hσ2⟩ : ∃ σ2, sA (sA σ1 106 0 c) 104 c 1 = σ2 := ⟨_, rfl⟩
        rw [hσ2]
        have f12 : fr [] [104, 106] σ1 σ2 := by rw [← hσ2]; exact fr_A _ _ _ (by decide) (fr_A _ _ _ (by decide) (fr_r _))
        have u104 : ∀ y, gA σ2 104 y = if y = c then 1 else gA σ 104 y := fun y => by
          rw [← hσ2]
          simp only [gA_sA, Nat.reduceEqDiff, reduceIte, r104]
        have u106 : gA σ2 106 0 = c := by
          rw [← hσ2]
          simp only [gA_sA, Nat.reduceEqDiff, reduceIte]
        have u105 : gA σ2 105 = gA σ 105 := (funext fun j => f12.2 105 (by decide) j).trans r105
        obtain ⟨w1, w2⟩ := DI_start (pr' := gA σ2 104) (pa' := gA σ2 106) h2 hr.1 hr.2 fc pc u104 u106
        have hlen := List.length_erase_of_mem w2
        have hpos := List.length_pos_of_mem w2
        rw [← u105] at w1
        have s2 : SS σ2 n F P R d J L := SS_fr f12 (by decide) (by decide) (by decide) s1
        obtain ⟨σ3, r3, q1, q2, q3⟩ := c_dfs (N := N) hn (by omega) hR hpart N σ2 1 0 rk b (NW.erase c) s2 w1 (by omega) (by omega) (by omega) (sm_0 _ (fun j j1 j2 => by
          have := (w1.1 j j1 (by omega)).2.1
          show 0 ≤ gA σ2 105 j + (if gA σ2 104 j = 2 then 1 else 0)
          split <;> omega)) (by omega)
        have f3 : fr [] [101, 104, 105, 106] σ σ3 := fr_t f1 (fr_t (fr_m (by decide) (by decide) f12) q2)
        rw [q1, bd_s]
        rcases q3 with ⟨y0, y1, ⟨rk', b', NW', y2, y3⟩, y4⟩ | ⟨y0, y1⟩
        · rw [y0, if_neg (by decide)]
          have c3 : gA σ3 104 c ≠ 0 := y4 c hr.1.1 hr.1.2 (by rw [u104, if_pos rfl]; decide)
          refine go σ3 rk' b' NW' f3 y1 y2 (Nat.le_trans y3 (by omega)) (fun k k1 k2 hk => y4 k k1 k2 ?_) (fun _ => c3)
          rw [u104]
          by_cases z : k = c
          · rw [if_pos z]; decide
          · rw [if_neg z]; exact hk
        · rw [y0, if_pos rfl, ck01]
          exact ⟨σ3, 0, rfl, f3, Or.inr ⟨rfl, y1⟩⟩
      · rw [if_neg pc]
        exact go σ1 rk b NW f1 s1 (by rw [r104, r105, r106]; exact h2) h3 (fun k _ _ hk => by rw [r104]; exact hk) (fun _ => by rw [r104]; exact pc)
    · rw [if_neg fc]
      exact go σ1 rk b NW f1 s1 (by rw [r104, r105, r106]; exact h2) h3 (fun k _ _ hk => by rw [r104]; exact hk) (fun q => absurd q fc)
end
/-! the beginning: two fixed nodes, two letters -/
theorem c_clear (σ : Sg) : ∃ (σ' : Sg), f5_clear σ = some (σ', 0) ∧ fr [107] [100, 101, 104, 105] σ σ' ∧ CS σ' (fun k => k) [] ∧ gI σ' 107 = 2 ∧ gA σ' 100 0 = 0 ∧ gA σ' 100 1 = 1 := by
  unfold f5_clear
  rw [nx_d]
  have z : gI (sI σ 107 0) 107 = 0 := by rw [gI_sI, if_pos rfl]
  obtain ⟨σ1, a1, a2, a3, a4, a6, a7, a5⟩ := c_addNode (σ := sI σ 107 0) (by rw [z]; decide) (by rw [z]; decide) 0
  rw [z] at a1 a2 a3 a4 a6 a7
  obtain ⟨σ2, b1, b2, b3, b4, b6, b7, b5⟩ := c_addNode (σ := σ1) (by rw [a2]; decide) (by rw [a2]; decide) 1
  rw [a2] at b1 b2 b3 b4 b6 b7
  rw [a1, bd_s, b1, bd_s]
  have fr0 : fr [107] [100, 101, 104, 105] σ σ2 := fr_t (fr_t (fr_I _ _ (by decide) (fr_r _)) a5) b5
  have F0 : gA σ2 100 0 = 0 := by rw [b3, if_neg (by decide), a3, if_pos rfl]
  have F1 : gA σ2 100 1 = 1 := by rw [b3, if_pos (by decide)]
  have S0 : gA σ2 101 0 = 0 := by rw [b4, if_neg (by decide), a4, if_pos rfl]
  have S1 : gA σ2 101 1 = 1 := by rw [b4, if_pos (by decide)]; rfl
  have two : ∀ k : Int, 0 ≤ k → k < 0 + 2 → k = 0 ∨ k = 1 := fun k k1 k2 => by omega
  have n2 : gI σ2 107 = 2 := b2
  refine ⟨σ2, rfl, fr0, ?_, n2, F0, F1⟩
  unfold CS
  rw [n2]
  refine ⟨fun _ => 0, 0, [0, 1], ⟨fun k k1 k2 => ?_, by decide⟩, fun k k1 k2 => ?_, fun k k1 k2 hf _ => ?_, fun k k1 k2 => ?_, by decide, fun k k1 k2 => ?_⟩
  · rcases two k k1 k2 with rfl | rfl
    · rw [S0]; exact ⟨by decide, by decide, rfl, rfl, fun _ => rfl, fun q => absurd rfl q, by decide, fun _ => ⟨by decide, rfl⟩⟩
    · rw [S1]; exact ⟨by decide, by decide, rfl, rfl, fun _ => rfl, fun q => absurd rfl q, by decide, fun _ => ⟨by decide, rfl⟩⟩
  · rcases two k k1 k2 with rfl | rfl
    · rw [F0]; exact ⟨by decide, fun q => q, fun q => q, fun q => absurd q (by decide)⟩
    · rw [F1]; exact ⟨by decide, fun q => q, fun q => q, fun q => absurd q (by decide)⟩
  · rcases two k k1 k2 with rfl | rfl
    · rw [F0] at hf; exact absurd hf (by decide)
    · rw [F1] at hf; exact absurd hf (by decide)
  · rcases two k k1 (by omega) with rfl | rfl
    · exact ⟨fun _ => rfl, fun q => absurd (F0.symm.trans q) (by decide)⟩
    · exact ⟨fun q => absurd (F1.symm.trans q) (by decide), fun _ => rfl⟩
  · rcases two k k1 (by omega) with rfl | rfl
    · rw [b6, b7, if_neg (by decide), if_neg (by decide), a6, a7, if_pos rfl, if_pos rfl]; exact ⟨rfl, rfl⟩
    · rw [b6, b7, if_pos (by decide), if_pos (by decide)]; exact ⟨rfl, rfl⟩
/-- what the class has found: the nodes, closed, with a rank; node 3 is the most general type -/
def FD (K A B C : Int → Int) (e : Int) (σ : Sg) (n : Int) (F P R : Int → Int) (d : Int → Nat) (J : Nat) (L LF : List Int) : Prop := SS σ n F P R d J L ∧ CL 0 n F P R (fun _ => True) ∧ FL 0 n F R LF ∧ LF.length ≤ 120 ∧ (4 ≤ n ∧ n ≤ 604) ∧ MD 0 n F P R (v0 F P R) ∧ HT K A B C 10 e [] (v0 F P R 2) (v0 F P R 2) (v0 F P R 3) ∧ ∀ t q, tre t → tre q → HT K A B C 10 e [] t t q → ∃ s, ∀ p, q p = sb s p (v0 F P R 3)
def CTI : List Nat := [107, 108, 124]
def CTA : List Nat := [100, 101, 102, 103, 104, 105, 106, 122, 123]
theorem c_type {K A B C H Z Nd : Int → Int} {T0 : Int} (hT0 : T0 ≤ 60) (hT : ∀ t, 0 ≤ t → t < T0 → TT K A B C H Z Nd t) {N : Nat} (hN : 4000 ≤ N) {σ : Sg} (t1 : gA σ 80 = K) (t2 : gA σ 81 = A) (t3 : gA σ 82 = B) (t4 : gA σ 83 = C) {e : Int} (he : 0 ≤ e ∧ e < T0) (hN0 : Nd e ≤ 0) : ∃ σ' r, f6_typeOfWhole N σ e = some (σ', r) ∧ fr CTI CTA σ σ' ∧ ((r = -1 ∧ ∀ t q, tre t → tre q → ¬ HT K A B C 10 e [] t t q) ∨ (r = 3 ∧ ∃ (n : Int) (F P R : Int → Int) (d : Int → Nat) (J : Nat) (L LF : List Int), FD K A B C e σ' n F P R d J L LF)) := by
  unfold f6_typeOfWhole
  obtain ⟨σ1, a1, a2, a3, a4, a5, a6⟩ := c_clear σ
  rw [a1, bd_s, nx_d]
  have hTT := hT e he.1 he.2
  have fs : fr [124] [] σ1 (sI σ1 124 0) := fr_I _ _ (by decide) (fr_r _)
  have z107 : gI (sI σ1 124 0) 107 = 2 := by rw [gI_sI, if_neg (by decide)]; exact a4
  have c1 : CTy (sI σ1 124 0) (fun k => k) [] [] := ⟨CS_fr fs (by decide) (by decide) (by decide) (by decide) (by decide) (by decide) a3, by rw [gI_sI, if_pos rfl]; rfl, trivial, fun e he => absurd he List.not_mem_nil, a5, a6, by rw [z107]; decide⟩
  obtain ⟨σ2, R2, b1, b2, b3, b4, b5⟩ := c_letter c1 (by rw [z107]; decide)
  rw [b1, bd_s, z107]
  rw [z107] at b2 b5
  have n2 : gI σ2 107 = 3 := b2
  obtain ⟨σ3, R3, g1, g2, g3, g4, g5⟩ := c_letter b4 (by rw [n2]; decide)
  rw [g1, bd_s, n2]
  rw [n2] at g2 g5
  have n3 : gI σ3 107 = 4 := g2
  have f3 : fr CTI CTA σ σ3 := fr_t (fr_m (by decide) (by decide) a2) (fr_t (fr_m (by decide) (by decide) fs) (fr_t (fr_m (by decide) (by decide) b3) (fr_m (by decide) (by decide) g3)))
  have tb : ∀ {k : Nat} {X : Int → Int}, k ∉ CTA → gA σ k = X → gA σ3 k = X := fun {k X} hk h => (funext fun j => f3.2 k hk j).trans h
  obtain ⟨σ4, r4, e1, e2, e3, e4, e5⟩ := c_rec hT0 hT (N := N) (by omega) 10 1 (by decide) (by decide) σ3 R3 [] [] e 2 2 3 (tb (by decide) t1) (tb (by decide) t2) (tb (by decide) t3) (tb (by decide) t4) g4 he.1 he.2 (by have := hTT.2.2.2.2.2.1; omega) (by show Nd e ≤ 0; exact hN0) (by decide) (by omega) (by omega) (by omega) (by have := hTT.2.2.2.2.2.2.1; omega) (by have := hTT.2.2.2.2.2.2.1; show (0 : Int) + Z e ≤ 120; omega)
  rw [e1, bd_s]
  have f4 : fr CTI CTA σ σ4 := fr_t f3 (fr_m (by decide) (by decide) e2)
  -- a model of the four nodes for every solution
  have start : ∀ t q, tre t → tre q → ∃ v, MC σ3 R3 v ∧ v 2 = t ∧ v 3 = q := fun t q ht hq => by
    refine ⟨fun k => if k = 0 then leaf 0 else if k = 1 then leaf 1 else if k = 2 then t else q, (g5 _).mpr ⟨(b5 _).mpr ⟨?_, ht⟩, hq⟩, rfl, rfl⟩
    unfold MC
    rw [z107]
    intro k k1 k2
    have F0 : gA (sI σ1 124 0) 100 0 = 0 := a5
    have F1 : gA (sI σ1 124 0) 100 1 = 1 := a6
    rcases (show k = 0 ∨ k = 1 by omega) with rfl | rfl
    · rw [F0]
      exact ⟨tre_leaf (by decide), rfl, fun _ => rfl, fun z => absurd z (by decide), fun z => absurd z (by decide)⟩
    · rw [F1]
      exact ⟨tre_leaf (by decide), rfl, fun z => absurd z (by decide), fun _ => rfl, fun z => absurd z (by decide)⟩
  rcases e5 with ⟨w, R4, LF4, h1, h2, h3, h4, h5, h6⟩ | ⟨w, h5⟩
  · rw [w, if_neg (by decide)]
    obtain ⟨⟨d, J, LL, q1, q2, q3, q4, q5, q6⟩, -⟩ := h1
    obtain ⟨n, hn⟩ : ∃ n, gI σ4 107 = n := ⟨_, rfl⟩
    have hZ := hTT.2.2.2.2.2.2.1
    have hl0 : (([] : List Int).length : Int) = 0 := rfl
    rw [hn] at q1 q2 q3 q4 q5 q6 h2 h3
    have hR : ∀ k, 0 ≤ k → k < 0 + n → (0 ≤ R4 k ∧ R4 k < 0 + n) ∧ R4 (R4 k) = R4 k := fun k k1 k2 => ⟨(q1.1 k k1 k2).2.1, US_RR q1 k1 k2⟩
    have n0 : (0 : Int) + n = n := by omega
    have hs : SS σ4 n (gA σ4 100) (gA σ4 102) R4 d J LL := ⟨hn, rfl, rfl, q1⟩
    have hDI : DI n (gA σ4 100) (gA σ4 102) R4 (gA σ4 104) (gA σ4 105) (gA σ4 106) 0 (fun _ => 0) 0 LF4 := ⟨fun k k1 k2 => by
      obtain ⟨p1, p2⟩ := q6 k k1 k2
      exact ⟨by omega, by omega, fun _ => p2, fun z => absurd (p1.symm.trans z) (by decide), fun z => absurd (p1.symm.trans z) (by decide), fun z1 z2 _ => q3 k k1 (by omega) z1 z2⟩, fun j j1 j2 => absurd j2 (by omega)⟩
    unfold f5_noneContainsItself
    obtain ⟨σ5, r5, m1, m2, m3⟩ := c_none (n := n) (F := gA σ4 100) (P := gA σ4 102) (R := R4) (d := d) (J := J) (L := LL) (N := N) (by omega) hN (by rw [n0] at hR; exact hR) (fun k k1 k2 hk => by have := ((q2 k k1 (by omega)).2.2.2 hk).2.1; rw [n0] at this; exact this) N σ4 0 (fun _ => 0) 0 LF4 hs hDI (by omega) (by omega) (fun k k1 k2 => absurd k2 (by omega)) (by omega)
    rw [m1, bd_s]
    have f5 : fr CTI CTA σ σ5 := fr_t f4 (fr_m (by decide) (by decide) m2)
    have sol : ∀ t q, tre t → tre q → HT K A B C 10 e [] t t q → ∃ v, MD 0 n (gA σ4 100) (gA σ4 102) R4 v ∧ v 3 = q := fun t q ht hq hh => by
      obtain ⟨v, v1, v2, v3⟩ := start t q ht hq
      obtain ⟨v', x1, x2⟩ := h6 v v1 (by show HT K A B C 10 e (EV v []) (v 2) (v 2) (v 3); rw [v2, v3]; exact hh)
      unfold MC at x2
      rw [hn] at x2
      exact ⟨v', x2, by rw [x1 3 (by decide) (by omega)]; exact v3⟩
    rcases m3 with ⟨y0, y1, rk, y2⟩ | ⟨y0, y1⟩
    · rw [y0, if_neg (by decide)]
      have hv0 := v0_MD (Int.le_refl 0) hR q2 rk (fun k k1 k2 => y2 k k1 (by omega))
      refine ⟨σ5, 3, rfl, f5, Or.inr ⟨rfl, n, gA σ4 100, gA σ4 102, R4, d, J, LL, LF4, y1, q2, q3, by omega, by omega, hv0, ?_, fun t q ht hq hh => ?_⟩⟩
      · have := (h5 (v0 (gA σ4 100) (gA σ4 102) R4) (by unfold MC; rw [hn]; exact hv0)).2
        exact this
      · obtain ⟨v, x1, x2⟩ := sol t q ht hq hh
        refine ⟨v, fun p => ?_⟩
        rw [← x2]
        exact v0_most (Int.le_refl 0) hR q2 x1 p 3 (by omega) (by omega)
    · rw [y0, if_pos rfl]
      refine ⟨σ5, -1, rfl, f5, Or.inl ⟨rfl, fun t q ht hq hh => ?_⟩⟩
      obtain ⟨v, x1, -⟩ := sol t q ht hq hh
      exact y1 v x1
  · rw [w, if_pos rfl]
    refine ⟨σ4, -1, rfl, f4, Or.inl ⟨rfl, fun t q ht hq hh => ?_⟩⟩
    obtain ⟨v, v1, v2, v3⟩ := start t q ht hq
    refine h5 v v1 ?_
    show HT K A B C 10 e (EV v []) (v 2) (v 2) (v 3)
    rw [v2, v3]
    exact hh
