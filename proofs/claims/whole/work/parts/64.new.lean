/-! ===== new nodes; the document's rules over trees ===== -/
theorem MD_agree {lo n : Int} {F P R : Int → Int} (hR : ∀ k, lo ≤ k → k < lo + n → lo ≤ R k ∧ R k < lo + n) (hP : ∀ k, lo ≤ k → k < lo + n → F k = 2 → ∀ i, 0 ≤ i → i < 4 → lo ≤ P (4 * k + i) ∧ P (4 * k + i) < lo + n) {v v' : Int → Tr} (h : ∀ k, lo ≤ k → k < lo + n → v' k = v k) (hM : MD lo n F P R v) : MD lo n F P R v' := fun k h1 h2 => by
  obtain ⟨a1, a2, a3, a4, a5⟩ := hM k h1 h2
  rw [h k h1 h2, h (R k) (hR k h1 h2).1 (hR k h1 h2).2]
  refine ⟨a1, a2, a3, a4, fun z => ?_⟩
  have p0 := hP k h1 h2 z 0 (by omega) (by omega)
  rw [Int.add_zero] at p0
  have p1 := hP k h1 h2 z 1 (by omega) (by omega)
  have p2 := hP k h1 h2 z 2 (by omega) (by omega)
  have p3 := hP k h1 h2 z 3 (by omega) (by omega)
  rw [h _ p0.1 p0.2, h _ p1.1 p1.2, h _ p2.1 p2.2, h _ p3.1 p3.2]
  exact a5 z
theorem CL_new {lo n : Int} {F P R F' P' : Int → Int} (h : CL lo n F P R (fun _ => True)) (hR : ∀ k, lo ≤ k → k < lo + n → lo ≤ R k ∧ R k < lo + n) (hF : ∀ k, lo ≤ k → k < lo + n → F' k = F k) (hP : ∀ k, lo ≤ k → k < lo + n → ∀ i, 0 ≤ i → i < 4 → P' (4 * k + i) = P (4 * k + i)) (hf : 0 ≤ F' (lo + n) ∧ F' (lo + n) ≤ 3) (hp : F' (lo + n) = 2 → ∀ i, 0 ≤ i → i < 4 → lo ≤ P' (4 * (lo + n) + i) ∧ P' (4 * (lo + n) + i) < lo + n) : CL lo (n + 1) F' P' (up R (lo + n) (lo + n)) (fun _ => True) := fun k h1 h2 => by
  by_cases e : k = lo + n
  · rw [e, up_s]
    exact ⟨hf, fun z => z, fun z => z, fun z => ⟨z, fun i i1 i2 => by have := hp z i i1 i2; omega, fun w _ _ i _ _ => rfl⟩⟩
  · have h2' : k < lo + n := by omega
    obtain ⟨a1, a2, a3, a4⟩ := h k h1 h2'
    have r := hR k h1 h2'
    rw [up_n e, hF k h1 h2', hF (R k) r.1 r.2]
    refine ⟨a1, a2, a3, fun z => ⟨(a4 z).1, fun i i1 i2 => ?_, fun w hw _ i i1 i2 => ?_⟩⟩
    · rw [hP k h1 h2' i i1 i2]
      have := (a4 z).2.1 i i1 i2
      omega
    · rw [hP k h1 h2' i i1 i2, hP (R k) r.1 r.2 i i1 i2]
      refine (a4 z).2.2 w ⟨fun j j1 j2 => ?_, fun j j' j1 j2 j1' j2' q1 q2 => ?_⟩ trivial i i1 i2
      · have := hw.1 j j1 (by omega)
        rw [up_n (by omega)] at this
        exact this
      · exact hw.2 j j' j1 (by omega) j1' (by omega) (by rw [hF j j1 j2, hF j' j1' j2']; exact q1) (by rw [hF j j1 j2]; exact q2)
theorem MD_new {lo n : Int} (hn : 0 ≤ n) {F P R F' P' : Int → Int} (hcl : CL lo n F P R (fun _ => True)) (hF : ∀ k, lo ≤ k → k < lo + n → F' k = F k) (hP : ∀ k, lo ≤ k → k < lo + n → ∀ i, 0 ≤ i → i < 4 → P' (4 * k + i) = P (4 * k + i)) (v : Int → Tr) : MD lo (n + 1) F' P' (up R (lo + n) (lo + n)) v ↔ MD lo n F P R v ∧ tre (v (lo + n)) ∧ (F' (lo + n) = 0 → v (lo + n) = leaf 0) ∧ (F' (lo + n) = 1 → v (lo + n) = leaf 1) ∧ (F' (lo + n) = 2 → v (lo + n) = fnT (v (P' (4 * (lo + n)))) (v (P' (4 * (lo + n) + 1))) (v (P' (4 * (lo + n) + 2))) (v (P' (4 * (lo + n) + 3)))) := by
  have h0 : ∀ k, lo ≤ k → k < lo + n → P' (4 * k) = P (4 * k) := fun k h1 h2 => by have := hP k h1 h2 0 (by omega) (by omega); rw [Int.add_zero] at this; exact this
  refine ⟨fun h => ⟨fun k h1 h2 => ?_, ?_⟩, fun h k h1 h2 => ?_⟩
  · obtain ⟨a1, a2, a3, a4, a5⟩ := h k h1 (by omega)
    rw [up_n (by omega)] at a2
    rw [hF k h1 h2] at a3 a4 a5
    rw [h0 k h1 h2, hP k h1 h2 1 (by omega) (by omega), hP k h1 h2 2 (by omega) (by omega), hP k h1 h2 3 (by omega) (by omega)] at a5
    exact ⟨a1, a2, a3, a4, a5⟩
  · have := h (lo + n) (by omega) (by omega)
    exact ⟨this.1, this.2.2⟩
  · by_cases e : k = lo + n
    · rw [e, up_s]
      exact ⟨h.2.1, rfl, h.2.2⟩
    · have h2' : k < lo + n := by omega
      rw [up_n e, hF k h1 h2', h0 k h1 h2', hP k h1 h2' 1 (by omega) (by omega), hP k h1 h2' 2 (by omega) (by omega), hP k h1 h2' 3 (by omega) (by omega)]
      exact h.1 k h1 h2'
theorem FL_new {lo n : Int} {F R F' : Int → Int} {LF : List Int} (h : FL lo n F R LF) (hF : ∀ k, lo ≤ k → k < lo + n → F' k = F k) : FL lo (n + 1) F' (up R (lo + n) (lo + n)) ((lo + n) :: LF) := fun k h1 h2 hf hk => by
  by_cases e : k = lo + n
  · rw [e]; exact List.mem_cons_self
  · have h2' : k < lo + n := by omega
    rw [up_n e] at hk
    rw [hF k h1 h2'] at hf
    exact List.mem_cons_of_mem _ (h k h1 h2' hf hk)
theorem FL_new' {lo n : Int} {F R F' : Int → Int} {LF : List Int} (h : FL lo n F R LF) (hF : ∀ k, lo ≤ k → k < lo + n → F' k = F k) (hf : F' (lo + n) ≠ 2) : FL lo (n + 1) F' (up R (lo + n) (lo + n)) LF := fun k h1 h2 hf' hk => by
  by_cases e : k = lo + n
  · rw [e] at hf'; exact absurd hf' hf
  · have h2' : k < lo + n := by omega
    rw [up_n e] at hk
    rw [hF k h1 h2'] at hf'
    exact h k h1 h2' hf' hk
/-! the rules -/
def VT (Γ : List (Tr × Option Tr)) (a : Int) (t : Tr) : Prop := ∃ e, Γ[a.toNat]? = some e ∧ ((e.2 = none ∧ t = e.1) ∨ ∃ g r, e.2 = some g ∧ tre r ∧ t = fnT e.1 r g r)
def HT (K A B C : Int → Int) : Nat → Int → List (Tr × Option Tr) → Tr → Tr → Tr → Prop
  | 0, _, _, _, _, _ => False
  | n + 1, e, Γ, t, p, q =>
    if K e = 0 then t = leaf 0 ∧ p = q
    else if K e = 1 then t = leaf 1 ∧ p = q
    else if K e = 2 then VT Γ (A e) t ∧ p = q
    else if K e = 3 then p = q ∧ ∃ x b g a, tre x ∧ tre b ∧ tre g ∧ tre a ∧ t = fnT x b g a ∧ HT K A B C n (A e) ((x, none) :: Γ) g b a
    else if K e = 4 then ∃ x a m, tre x ∧ tre a ∧ tre m ∧ HT K A B C n (A e) Γ (fnT x p t a) m q ∧ HT K A B C n (B e) Γ x a m
    else if K e = 5 then t = leaf 0 ∧ ∃ m, tre m ∧ HT K A B C n (A e) Γ (leaf 0) m q ∧ HT K A B C n (B e) Γ (leaf 0) p m
    else if K e = 6 then t = leaf 1 ∧ ∃ m, tre m ∧ HT K A B C n (A e) Γ (leaf 0) m q ∧ HT K A B C n (B e) Γ (leaf 0) p m
    else if K e = 7 then ∃ m, tre m ∧ HT K A B C n (A e) Γ (leaf 1) m q ∧ HT K A B C n (B e) Γ t p m ∧ HT K A B C n (C e) Γ t p m
    else if K e = 8 then ∃ x m, tre x ∧ tre m ∧ HT K A B C n (A e) Γ x m q ∧ HT K A B C n (B e) ((x, none) :: Γ) t p m
    else if K e = 9 then p = q ∧ ∃ m, tre m ∧ HT K A B C n (A e) Γ m m t
    else if K e = 11 then p = q ∧ ∃ x b g a, tre x ∧ tre b ∧ tre g ∧ tre a ∧ t = fnT x b g a ∧ HT K A B C n (A e) ((x, none) :: (fnT x b g a, none) :: Γ) g b a
    else ∃ m, tre m ∧ HT K A B C n (A e) ((t, some p) :: Γ) m m q
section
variable {K A B C : Int → Int} {n : Nat} {e : Int} {Γ : List (Tr × Option Tr)} {t p q : Tr}
theorem HT_0 (h : K e = 0) : HT K A B C (n + 1) e Γ t p q ↔ t = leaf 0 ∧ p = q := by
  rw [HT, if_pos h]
theorem HT_1 (h : K e = 1) : HT K A B C (n + 1) e Γ t p q ↔ t = leaf 1 ∧ p = q := by
  rw [HT, if_neg (by omega), if_pos h]
theorem HT_2 (h : K e = 2) : HT K A B C (n + 1) e Γ t p q ↔ VT Γ (A e) t ∧ p = q := by
  rw [HT, if_neg (by omega), if_neg (by omega), if_pos h]
theorem HT_3 (h : K e = 3) : HT K A B C (n + 1) e Γ t p q ↔ p = q ∧ ∃ x b g a, tre x ∧ tre b ∧ tre g ∧ tre a ∧ t = fnT x b g a ∧ HT K A B C n (A e) ((x, none) :: Γ) g b a := by
  rw [HT, if_neg (by omega), if_neg (by omega), if_neg (by omega), if_pos h]
theorem HT_4 (h : K e = 4) : HT K A B C (n + 1) e Γ t p q ↔ ∃ x a m, tre x ∧ tre a ∧ tre m ∧ HT K A B C n (A e) Γ (fnT x p t a) m q ∧ HT K A B C n (B e) Γ x a m := by
  rw [HT, if_neg (by omega), if_neg (by omega), if_neg (by omega), if_neg (by omega), if_pos h]
theorem HT_5 (h : K e = 5) : HT K A B C (n + 1) e Γ t p q ↔ t = leaf 0 ∧ ∃ m, tre m ∧ HT K A B C n (A e) Γ (leaf 0) m q ∧ HT K A B C n (B e) Γ (leaf 0) p m := by
  rw [HT, if_neg (by omega), if_neg (by omega), if_neg (by omega), if_neg (by omega), if_neg (by omega), if_pos h]
theorem HT_6 (h : K e = 6) : HT K A B C (n + 1) e Γ t p q ↔ t = leaf 1 ∧ ∃ m, tre m ∧ HT K A B C n (A e) Γ (leaf 0) m q ∧ HT K A B C n (B e) Γ (leaf 0) p m := by
  rw [HT, if_neg (by omega), if_neg (by omega), if_neg (by omega), if_neg (by omega), if_neg (by omega), if_neg (by omega), if_pos h]
theorem HT_7 (h : K e = 7) : HT K A B C (n + 1) e Γ t p q ↔ ∃ m, tre m ∧ HT K A B C n (A e) Γ (leaf 1) m q ∧ HT K A B C n (B e) Γ t p m ∧ HT K A B C n (C e) Γ t p m := by
  rw [HT, if_neg (by omega), if_neg (by omega), if_neg (by omega), if_neg (by omega), if_neg (by omega), if_neg (by omega), if_neg (by omega), if_pos h]
theorem HT_8 (h : K e = 8) : HT K A B C (n + 1) e Γ t p q ↔ ∃ x m, tre x ∧ tre m ∧ HT K A B C n (A e) Γ x m q ∧ HT K A B C n (B e) ((x, none) :: Γ) t p m := by
  rw [HT, if_neg (by omega), if_neg (by omega), if_neg (by omega), if_neg (by omega), if_neg (by omega), if_neg (by omega), if_neg (by omega), if_neg (by omega), if_pos h]
theorem HT_9 (h : K e = 9) : HT K A B C (n + 1) e Γ t p q ↔ p = q ∧ ∃ m, tre m ∧ HT K A B C n (A e) Γ m m t := by
  rw [HT, if_neg (by omega), if_neg (by omega), if_neg (by omega), if_neg (by omega), if_neg (by omega), if_neg (by omega), if_neg (by omega), if_neg (by omega), if_neg (by omega), if_pos h]
theorem HT_11 (h : K e = 11) : HT K A B C (n + 1) e Γ t p q ↔ p = q ∧ ∃ x b g a, tre x ∧ tre b ∧ tre g ∧ tre a ∧ t = fnT x b g a ∧ HT K A B C n (A e) ((x, none) :: (fnT x b g a, none) :: Γ) g b a := by
  rw [HT, if_neg (by omega), if_neg (by omega), if_neg (by omega), if_neg (by omega), if_neg (by omega), if_neg (by omega), if_neg (by omega), if_neg (by omega), if_neg (by omega), if_neg (by omega), if_pos h]
theorem HT_10 (h : K e = 10) : HT K A B C (n + 1) e Γ t p q ↔ ∃ m, tre m ∧ HT K A B C n (A e) ((t, some p) :: Γ) m m q := by
  rw [HT, if_neg (by omega), if_neg (by omega), if_neg (by omega), if_neg (by omega), if_neg (by omega), if_neg (by omega), if_neg (by omega), if_neg (by omega), if_neg (by omega), if_neg (by omega), if_neg (by omega)]
end
/-! what is bound: nodes, and the trees that they have -/
def EV (v : Int → Tr) (L : List (Int × Int)) : List (Tr × Option Tr) := L.map (fun e => (v e.1, if e.2 = -1 then none else some (v e.2)))
def ED (lo n : Int) (L : List (Int × Int)) : Prop := ∀ e ∈ L, (lo ≤ e.1 ∧ e.1 < lo + n) ∧ (e.2 = -1 ∨ (lo ≤ e.2 ∧ e.2 < lo + n))
theorem EV_agree {lo n : Int} {L : List (Int × Int)} (h : ED lo n L) {v v' : Int → Tr} (hv : ∀ k, lo ≤ k → k < lo + n → v' k = v k) : EV v' L = EV v L := by
  refine List.map_congr_left (fun e he => ?_)
  obtain ⟨h1, h2⟩ := h e he
  rw [hv _ h1.1 h1.2]
  rcases h2 with h2 | h2
  · rw [if_pos h2, if_pos h2]
  · rw [hv _ h2.1 h2.2]
theorem ED_m {lo n m : Int} {L : List (Int × Int)} (h : ED lo n L) (hm : n ≤ m) : ED lo m L := fun e he => by
  have := h e he
  omega
theorem ED_c {lo n : Int} {L : List (Int × Int)} (h : ED lo n L) {a g : Int} (ha : lo ≤ a ∧ a < lo + n) (hg : g = -1 ∨ (lo ≤ g ∧ g < lo + n)) : ED lo n ((a, g) :: L) := fun e he => by
  rcases List.mem_cons.mp he with rfl | h'
  · exact ⟨ha, hg⟩
  · exact h e h'
theorem EV_p (v : Int → Tr) (a : Int) (L : List (Int × Int)) : EV v ((a, -1) :: L) = (v a, none) :: EV v L := rfl
theorem EV_g (v : Int → Tr) (a g : Int) (hg : g ≠ -1) (L : List (Int × Int)) : EV v ((a, g) :: L) = (v a, some (v g)) :: EV v L := by
  show (v a, if g = -1 then none else some (v g)) :: EV v L = _
  rw [if_neg hg]
/-! what the table says of a term's words -/
theorem TT_hz {K A B C H Z N : Int → Int} {t : Int} (h : TT K A B C H Z N t) : (3 ≤ K t → (0 ≤ A t ∧ A t < t) ∧ H (A t) + 1 ≤ H t) ∧ (4 ≤ K t ∧ K t ≤ 8 → (0 ≤ B t ∧ B t < t) ∧ H (B t) + 1 ≤ H t) ∧ (K t = 7 → (0 ≤ C t ∧ C t < t) ∧ H (C t) + 1 ≤ H t) ∧ (K t = 3 ∨ 9 ≤ K t → Z t = Z (A t) + 1) ∧ (4 ≤ K t ∧ K t ≤ 8 ∧ K t ≠ 7 → Z t = Z (A t) + Z (B t) + 1) ∧ (K t = 7 → Z t = Z (A t) + Z (B t) + Z (C t) + 1) := by
  obtain ⟨h1, h2, h3, h4, -⟩ := h
  unfold hT at h3
  unfold zT at h4
  refine ⟨fun k => ⟨by omega, ?_⟩, fun k => ⟨by omega, ?_⟩, fun k => ⟨by omega, ?_⟩, fun k => ?_, fun k => ?_, fun k => ?_⟩
  · rw [if_neg (by omega)] at h3
    by_cases k7 : K t = 7
    · rw [if_pos k7] at h3
      have := le_mx1 (H (A t)) (H (B t))
      have := le_mx1 (mx (H (A t)) (H (B t))) (H (C t))
      omega
    rw [if_neg k7] at h3
    by_cases k4 : 4 ≤ K t ∧ K t ≤ 8
    · rw [if_pos k4] at h3
      have := le_mx1 (H (A t)) (H (B t))
      omega
    · rw [if_neg k4] at h3
      omega
  · rw [if_neg (by omega)] at h3
    by_cases k7 : K t = 7
    · rw [if_pos k7] at h3
      have := le_mx2 (H (A t)) (H (B t))
      have := le_mx1 (mx (H (A t)) (H (B t))) (H (C t))
      omega
    rw [if_neg k7, if_pos k] at h3
    have := le_mx2 (H (A t)) (H (B t))
    omega
  · rw [if_neg (by omega), if_pos k] at h3
    have := le_mx2 (mx (H (A t)) (H (B t))) (H (C t))
    omega
  · rw [if_neg (by omega), if_neg (by omega), if_neg (by omega)] at h4
    exact h4
  · rw [if_neg (by omega), if_neg (by omega), if_pos (by omega)] at h4
    exact h4
  · rw [if_neg (by omega), if_pos k] at h4
    exact h4
