/-! ===== the class's search for a type that contains itself ===== -/
def sm (f : Int → Int) : Nat → Int
  | 0 => 0
  | m + 1 => sm f m + f m
theorem sm_c {f f' : Int → Int} : ∀ (m : Nat), (∀ j : Int, 0 ≤ j → j < m → f' j = f j) → sm f' m = sm f m := by
  intro m
  induction m with
  | zero => intro _; rfl
  | succ m ih =>
    intro h
    show sm f' m + f' m = sm f m + f m
    rw [ih (fun j j1 j2 => h j j1 (by omega)), h m (by omega) (by omega)]
theorem sm_up {f f' : Int → Int} {k : Int} (h : ∀ j, j ≠ k → f' j = f j) (h0 : 0 ≤ k) : ∀ (m : Nat), k < m → sm f' m = sm f m + (f' k - f k) := by
  intro m
  induction m with
  | zero => intro h1; exact absurd h1 (by omega)
  | succ m ih =>
    intro h1
    show sm f' m + f' m = sm f m + f m + (f' k - f k)
    by_cases e : k = m
    · rw [← e, sm_c m (fun j j1 j2 => h j (by omega))]; omega
    · rw [ih (by omega), h m (fun q => e q.symm)]; omega
theorem sm_le {f : Int → Int} {c : Int} : ∀ (m : Nat), (∀ j : Int, 0 ≤ j → j < m → f j ≤ c) → sm f m ≤ c * m := by
  intro m
  induction m with
  | zero => intro _; show (0 : Int) ≤ c * 0; omega
  | succ m ih =>
    intro h
    have := ih (fun j j1 j2 => h j j1 (by omega))
    have := h m (by omega) (by omega)
    show sm f m + f m ≤ c * ((m + 1 : Nat) : Int)
    have e : c * ((m + 1 : Nat) : Int) = c * m + c := by rw [Int.natCast_add, Int.mul_add]; show c * (m : Int) + c * 1 = _; omega
    omega
def DI (n : Int) (F P R pr ps pa : Int → Int) (dp : Int) (rk : Int → Nat) (b : Nat) (NW : List Int) : Prop :=
  (∀ k, 0 ≤ k → k < n → (0 ≤ pr k ∧ pr k ≤ 2) ∧ (0 ≤ ps k ∧ ps k ≤ 4) ∧ (pr k = 0 → ps k = 0) ∧ (pr k = 1 → ∃ j, 0 ≤ j ∧ j < dp ∧ pa j = k) ∧ (pr k = 2 → (∀ i, 0 ≤ i → i < 4 → F (R (P (4 * k + i))) = 2 → pr (R (P (4 * k + i))) = 2 ∧ rk (R (P (4 * k + i))) < rk k) ∧ rk k < b) ∧ (F k = 2 → R k = k → pr k = 0 → k ∈ NW))
  ∧ ∀ j, 0 ≤ j → j < dp → (0 ≤ pa j ∧ pa j < n) ∧ R (pa j) = pa j ∧ F (pa j) = 2 ∧ pr (pa j) = 1 ∧ (∀ i, 0 ≤ i → i < ps (pa j) → F (R (P (4 * pa j + i))) = 2 → pr (R (P (4 * pa j + i))) = 2 ∨ (j + 1 < dp ∧ R (P (4 * pa j + i)) = pa (j + 1))) ∧ (j + 1 < dp → ∃ i, 0 ≤ i ∧ i < 4 ∧ R (P (4 * pa j + i)) = pa (j + 1)) ∧ ∀ j', 0 ≤ j' → j' < j → pa j' ≠ pa j
abbrev wk (pr ps : Int → Int) : Int → Int := fun k => ps k + if pr k = 2 then 1 else 0
section
variable {n : Int} {F P R : Int → Int}
/-- the top node is left -/
theorem DI_leave {pr ps pa pr' : Int → Int} {dp : Int} {rk : Int → Nat} {b : Nat} {NW : List Int} (hpart : ∀ k, 0 ≤ k → k < n → F k = 2 → ∀ i, 0 ≤ i → i < 4 → 0 ≤ R (P (4 * k + i)) ∧ R (P (4 * k + i)) < n) (h : DI n F P R pr ps pa (dp + 1) rk b NW) (hd : 0 ≤ dp) (h4 : ps (pa dp) = 4) (hpr : ∀ k, pr' k = if k = pa dp then 2 else pr k) : DI n F P R pr' ps pa dp (fun k => if k = pa dp then b else rk k) (b + 1) NW := by
  obtain ⟨h1, h2⟩ := h
  obtain ⟨t1, t2, t3, t4, t5, t6, t7⟩ := h2 dp hd (by omega)
  refine ⟨fun k k1 k2 => ?_, fun j j1 j2 => ?_⟩
  · obtain ⟨a1, a2, a3, a4, a5, a6⟩ := h1 k k1 k2
    by_cases e : k = pa dp
    · rw [hpr k, if_pos e]
      refine ⟨by omega, a2, fun q => absurd q (by decide), fun q => absurd q (by decide), fun _ => ⟨fun i i1 i2 hf => ?_, ?_⟩, fun _ _ q => absurd q (by decide)⟩
      · rw [e] at hf ⊢
        have hp := hpart (pa dp) t1.1 t1.2 t3 i i1 i2
        rcases t5 i i1 (by omega) hf with q | q
        · have ne : R (P (4 * pa dp + i)) ≠ pa dp := fun z => by rw [z, t4] at q; exact absurd q (by decide)
          rw [hpr, if_neg ne]
          refine ⟨q, ?_⟩
          show (if R (P (4 * pa dp + i)) = pa dp then b else rk (R (P (4 * pa dp + i)))) < (if pa dp = pa dp then b else rk (pa dp))
          rw [if_neg ne, if_pos rfl]
          exact ((h1 _ hp.1 hp.2).2.2.2.2.1 q).2
        · exact absurd q.1 (by omega)
      · show (if k = pa dp then b else rk k) < b + 1
        rw [if_pos e]; omega
    · rw [hpr k, if_neg e]
      refine ⟨a1, a2, a3, fun q => ?_, fun q => ⟨fun i i1 i2 hf => ?_, ?_⟩, a6⟩
      · obtain ⟨j, j1, j2, j3⟩ := a4 q
        refine ⟨j, j1, ?_, j3⟩
        by_cases z : j = dp
        · rw [z] at j3; exact absurd j3.symm e
        · omega
      · obtain ⟨q1, q2⟩ := (a5 q).1 i i1 i2 hf
        have ne : R (P (4 * k + i)) ≠ pa dp := fun z => by rw [z, t4] at q1; exact absurd q1 (by decide)
        rw [hpr, if_neg ne]
        refine ⟨q1, ?_⟩
        show (if R (P (4 * k + i)) = pa dp then b else rk (R (P (4 * k + i)))) < (if k = pa dp then b else rk k)
        rw [if_neg ne, if_neg e]; exact q2
      · show (if k = pa dp then b else rk k) < b + 1
        rw [if_neg e]
        have := (a5 q).2
        omega
  · obtain ⟨c1, c2, c3, c4, c5, c6, c7⟩ := h2 j j1 (by omega)
    have ne : pa j ≠ pa dp := t7 j j1 j2
    refine ⟨c1, c2, c3, by rw [hpr, if_neg ne]; exact c4, fun i i1 i2 hf => ?_, fun q => c6 (by omega), c7⟩
    rw [hpr]
    by_cases z : R (P (4 * pa j + i)) = pa dp
    · rw [if_pos z]; exact Or.inl rfl
    · rw [if_neg z]
      rcases c5 i i1 i2 hf with q | ⟨q1, q2⟩
      · exact Or.inl q
      · refine Or.inr ⟨?_, q2⟩
        by_cases y : j + 1 = dp
        · rw [y] at q2; exact absurd q2 z
        · omega
/-- a part of the top node has been looked at, and is done with -/
theorem DI_next {pr ps pa ps' : Int → Int} {dp : Int} {rk : Int → Nat} {b : Nat} {NW : List Int} (h : DI n F P R pr ps pa (dp + 1) rk b NW) (hd : 0 ≤ dp) (h4 : ps (pa dp) < 4) (hps : ∀ k, ps' k = if k = pa dp then ps k + 1 else ps k) (hin : F (R (P (4 * pa dp + ps (pa dp)))) = 2 → pr (R (P (4 * pa dp + ps (pa dp)))) = 2) : DI n F P R pr ps' pa (dp + 1) rk b NW := by
  obtain ⟨h1, h2⟩ := h
  obtain ⟨t1, t2, t3, t4, t5, t6, t7⟩ := h2 dp hd (by omega)
  refine ⟨fun k k1 k2 => ?_, fun j j1 j2 => ?_⟩
  · obtain ⟨a1, a2, a3, a4, a5, a6⟩ := h1 k k1 k2
    rw [hps k]
    by_cases e : k = pa dp
    · rw [if_pos e]
      refine ⟨a1, by rw [e] at a2 ⊢; omega, fun q => ?_, a4, a5, a6⟩
      rw [e, t4] at q; exact absurd q (by decide)
    · rw [if_neg e]
      exact ⟨a1, a2, a3, a4, a5, a6⟩
  · obtain ⟨c1, c2, c3, c4, c5, c6, c7⟩ := h2 j j1 j2
    refine ⟨c1, c2, c3, c4, fun i i1 i2 hf => ?_, c6, c7⟩
    rw [hps] at i2
    by_cases z : j = dp
    · subst z
      rw [if_pos rfl] at i2
      by_cases y : i = ps (pa j)
      · rw [y] at hf ⊢
        exact Or.inl (hin hf)
      · exact c5 i i1 (by omega) hf
    · have ne : pa j ≠ pa dp := t7 j j1 (by omega)
      rw [if_neg ne] at i2
      exact c5 i i1 i2 hf
/-- a part of the top node is gone into -/
theorem DI_push {pr ps pa ps' pr' pa' : Int → Int} {dp : Int} {rk : Int → Nat} {b : Nat} {NW : List Int} (h : DI n F P R pr ps pa (dp + 1) rk b NW) (hd : 0 ≤ dp) (h4 : 0 ≤ ps (pa dp) ∧ ps (pa dp) < 4) {c : Int} (hcc : R (P (4 * pa dp + ps (pa dp))) = c) (hc : 0 ≤ c ∧ c < n) (hRc : R c = c) (hFc : F c = 2) (hprc : pr c = 0) (hps : ∀ k, ps' k = if k = pa dp then ps k + 1 else ps k) (hpr : ∀ k, pr' k = if k = c then 1 else pr k) (hpa : ∀ j, pa' j = if j = dp + 1 then c else pa j) : DI n F P R pr' ps' pa' (dp + 1 + 1) rk b (NW.erase c) ∧ c ∈ NW := by
  obtain ⟨h1, h2⟩ := h
  obtain ⟨t1, t2, t3, t4, t5, t6, t7⟩ := h2 dp hd (by omega)
  have cNW : c ∈ NW := (h1 c hc.1 hc.2).2.2.2.2.2 hFc hRc hprc
  have nec : ∀ j, 0 ≤ j → j < dp + 1 → pa j ≠ c := fun j j1 j2 z => by
    have := (h2 j j1 j2).2.2.2.1
    rw [z, hprc] at this; exact absurd this (by decide)
  have two : ∀ x, pr x = 2 → pr' x = 2 := fun x q => by
    rw [hpr, if_neg (fun z => by rw [z, hprc] at q; exact absurd q (by decide))]; exact q
  refine ⟨⟨fun k k1 k2 => ?_, fun j j1 j2 => ?_⟩, cNW⟩
  · obtain ⟨a1, a2, a3, a4, a5, a6⟩ := h1 k k1 k2
    by_cases e : k = c
    · have ne : k ≠ pa dp := fun z => nec dp hd (by omega) (z.symm.trans e)
      rw [hpr k, if_pos e, hps k, if_neg ne]
      refine ⟨by omega, a2, fun q => absurd q (by decide), fun _ => ⟨dp + 1, by omega, by omega, by rw [hpa, if_pos rfl, e]⟩, fun q => absurd q (by decide), fun _ _ q => absurd q (by decide)⟩
    · rw [hpr k, if_neg e]
      refine ⟨a1, ?_, fun q => ?_, fun q => ?_, fun q => ⟨fun i i1 i2 hf => ?_, (a5 q).2⟩, fun q1 q2 q3 => (List.mem_erase_of_ne e).mpr (a6 q1 q2 q3)⟩
      · rw [hps k]
        by_cases y : k = pa dp
        · rw [if_pos y]; rw [y] at a2 ⊢; omega
        · rw [if_neg y]; exact a2
      · rw [hps k, if_neg (fun y => by rw [y, t4] at q; exact absurd q (by decide))]; exact a3 q
      · obtain ⟨j, j1, j2, j3⟩ := a4 q
        exact ⟨j, j1, by omega, by rw [hpa, if_neg (by omega)]; exact j3⟩
      · obtain ⟨q1, q2⟩ := (a5 q).1 i i1 i2 hf
        exact ⟨two _ q1, q2⟩
  · by_cases z : j = dp + 1
    · rw [hpa j, if_pos z]
      refine ⟨hc, hRc, hFc, by rw [hpr, if_pos rfl], fun i i1 i2 hf => ?_, fun q => absurd q (by omega), fun j' j1' j2' => by rw [hpa, if_neg (by omega)]; exact nec j' j1' (by omega)⟩
      rw [hps, if_neg (fun y => nec dp hd (by omega) y.symm), (h1 c hc.1 hc.2).2.2.1 hprc] at i2
      omega
    · obtain ⟨c1, c2, c3, c4, c5, c6, c7⟩ := h2 j j1 (by omega)
      rw [hpa j, if_neg z]
      refine ⟨c1, c2, c3, by rw [hpr, if_neg (nec j j1 (by omega))]; exact c4, fun i i1 i2 hf => ?_, fun q => ?_, fun j' j1' j2' => by rw [hpa, if_neg (by omega)]; exact c7 j' j1' j2'⟩
      · rw [hps] at i2
        by_cases y : j = dp
        · rw [y] at i2 hf c5 ⊢
          rw [if_pos rfl] at i2
          by_cases y2 : i = ps (pa dp)
          · rw [y2]
            exact Or.inr ⟨by omega, by rw [hpa, if_pos rfl]; exact hcc⟩
          · rcases c5 i i1 (by omega) hf with q | ⟨q1, -⟩
            · exact Or.inl (two _ q)
            · exact absurd q1 (by omega)
        · have ne : pa j ≠ pa dp := t7 j j1 (by clear c6; omega)
          rw [if_neg ne] at i2
          rcases c5 i i1 i2 hf with q | ⟨q1, q2⟩
          · exact Or.inl (two _ q)
          · exact Or.inr ⟨by omega, by rw [hpa, if_neg (by omega)]; exact q2⟩
      · by_cases y : j = dp
        · refine ⟨ps (pa dp), h4.1, h4.2, ?_⟩
          rw [y, hpa, if_pos rfl]; exact hcc
        · obtain ⟨i, i1, i2, i3⟩ := c6 (by omega)
          exact ⟨i, i1, i2, by rw [hpa, if_neg (by omega)]; exact i3⟩
/-- a part of the top node that is on the way to it -/
theorem DI_cycle {pr ps pa : Int → Int} {dp : Int} {rk : Int → Nat} {b : Nat} {NW : List Int} (hpart : ∀ k, 0 ≤ k → k < n → F k = 2 → ∀ i, 0 ≤ i → i < 4 → 0 ≤ P (4 * k + i) ∧ P (4 * k + i) < 0 + n) (h : DI n F P R pr ps pa (dp + 1) rk b NW) (hd : 0 ≤ dp) {s : Int} (hs : 0 ≤ s ∧ s < 4) {c : Int} (hcc : R (P (4 * pa dp + s)) = c) (hc : 0 ≤ c ∧ c < n) (hprc : pr c = 1) {v : Int → Tr} (hv : MD 0 n F P R v) : False := by
  obtain ⟨h1, h2⟩ := h
  obtain ⟨j0, j1, j2, j3⟩ := (h1 c hc.1 hc.2).2.2.2.1 hprc
  refine no_model (X := fun k => ∃ j, j0 ≤ j ∧ j < dp + 1 ∧ pa j = k) (fun k hk => ?_) (k0 := c) ⟨j0, by omega, j2, j3⟩ hv
  obtain ⟨j, q1, q2, q3⟩ := hk
  obtain ⟨c1, c2, c3, c4, c5, c6, c7⟩ := h2 j (by omega) q2
  rw [← q3]
  refine ⟨by omega, c3, ?_⟩
  by_cases z : j = dp
  · rw [z] at c1 c3 ⊢
    exact ⟨s, hs, hpart _ c1.1 c1.2 c3 s hs.1 hs.2, j0, by omega, j2, by rw [hcc]; exact j3⟩
  · obtain ⟨i, i1, i2, i3⟩ := c6 (by omega)
    exact ⟨i, ⟨i1, i2⟩, hpart _ c1.1 c1.2 c3 i i1 i2, j + 1, by omega, by omega, i3.symm⟩
end
