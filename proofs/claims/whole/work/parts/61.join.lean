/-! ===== the three joins, and new nodes ===== -/
theorem MD_merge {lo n : Int} {F P R : Int → Int} {v : Int → Tr} {l r : Int} (hRl : R l = l) (hl : lo ≤ l ∧ l < lo + n) (hlr : l ≠ r) (hRR : ∀ k, lo ≤ k → k < lo + n → (lo ≤ R k ∧ R k < lo + n) ∧ R (R k) = R k) : MD lo n F P (mg R l r) v ↔ MD lo n F P R v ∧ v l = v r := by
  refine ⟨fun h => ?_, fun h k h1 h2 => ?_⟩
  · have := mg_w hRl hl hlr hRR (fun k h1 h2 => (h k h1 h2).2.1)
    exact ⟨fun k h1 h2 => ⟨(h k h1 h2).1, this.2 k h1 h2, (h k h1 h2).2.2⟩, this.1⟩
  · have := mg_v h.2 (fun k h1 h2 => (h.1 k h1 h2).2.1) k h1 h2
    exact ⟨(h.1 k h1 h2).1, this, (h.1 k h1 h2).2.2⟩
/-- a letter joined to another chosen node -/
theorem CL_letter {lo n : Int} {F P R : Int → Int} {q q' : (Int → Int) → Prop} (h : CL lo n F P R q) {l r : Int} (hRl : R l = l) (hl : lo ≤ l ∧ l < lo + n) (hlr : l ≠ r) (hRR : ∀ k, lo ≤ k → k < lo + n → (lo ≤ R k ∧ R k < lo + n) ∧ R (R k) = R k) (hf : F l = 3) (hq : ∀ w, RW lo n F (mg R l r) w → q' w → q w) : CL lo n F P (mg R l r) q' := fun k h1 h2 => by
  obtain ⟨a1, a2, a3, a4⟩ := h k h1 h2
  have e : F k ≠ 3 → mg R l r k = R k := fun q => by
    unfold mg
    rw [if_neg]
    intro e
    rw [e, hf] at a2 a3 a4
    have := a1
    by_cases z : F k = 0
    · exact absurd (a2 z) (by decide)
    by_cases z1 : F k = 1
    · exact absurd (a3 z1) (by decide)
    · exact absurd (a4 (by omega)).1 (by decide)
  refine ⟨a1, fun z => by rw [e (by omega)]; exact a2 z, fun z => by rw [e (by omega)]; exact a3 z, fun z => ?_⟩
  rw [e (by omega)]
  exact ⟨(a4 z).1, (a4 z).2.1, fun w hw hqw => (a4 z).2.2 w ⟨(mg_w hRl hl hlr hRR hw.1).2, hw.2⟩ (hq w hw hqw)⟩
/-- two functions joined, their parts being among what is still to be made the same -/
theorem CL_fn {lo n : Int} {F P R : Int → Int} {q q' : (Int → Int) → Prop} (h : CL lo n F P R q) {l r : Int} (hRl : R l = l) (hl : lo ≤ l ∧ l < lo + n) (hlr : l ≠ r) (hRR : ∀ k, lo ≤ k → k < lo + n → (lo ≤ R k ∧ R k < lo + n) ∧ R (R k) = R k) (hf : F l = 2) (hg : F r = 2) (hq : ∀ w, RW lo n F (mg R l r) w → q' w → q w ∧ ∀ i, 0 ≤ i → i < 4 → w (P (4 * l + i)) = w (P (4 * r + i))) : CL lo n F P (mg R l r) q' := fun k h1 h2 => by
  obtain ⟨a1, a2, a3, a4⟩ := h k h1 h2
  have e : F k ≠ 2 → F k ≠ 3 → mg R l r k = R k := fun q q2 => by
    unfold mg
    rw [if_neg]
    intro e
    rw [e, hf] at a2 a3
    by_cases z : F k = 0
    · exact absurd (a2 z) (by decide)
    · exact absurd (a3 (by omega)) (by decide)
  refine ⟨a1, fun z => by rw [e (by omega) (by omega)]; exact a2 z, fun z => by rw [e (by omega) (by omega)]; exact a3 z, fun z => ⟨?_, (a4 z).2.1, fun w hw hqw i i1 i2 => ?_⟩⟩
  · unfold mg
    split
    · exact hg
    · exact (a4 z).1
  · have b := (a4 z).2.2 w ⟨(mg_w hRl hl hlr hRR hw.1).2, hw.2⟩ (hq w hw hqw).1 i i1 i2
    unfold mg
    by_cases c : R k = l
    · rw [if_pos c, b, c]
      exact (hq w hw hqw).2 i i1 i2
    · rw [if_neg c]; exact b
theorem CL_q {lo n : Int} {F P R : Int → Int} {q q' : (Int → Int) → Prop} (h : CL lo n F P R q) (hq : ∀ w, RW lo n F R w → q' w → q w) : CL lo n F P R q' := fun k h1 h2 => by
  obtain ⟨a1, a2, a3, a4⟩ := h k h1 h2
  exact ⟨a1, a2, a3, fun z => ⟨(a4 z).1, (a4 z).2.1, fun w hw hqw => (a4 z).2.2 w hw (hq w hw hqw)⟩⟩
theorem FL_merge {lo n : Int} {F R : Int → Int} {L : List Int} (h : FL lo n F R L) {l r : Int} (hRl : R l = l) (hRr : R r = r) (hlr : l ≠ r) : FL lo n F (mg R l r) (L.erase l) := fun k h1 h2 hf hk => by
  unfold mg at hk
  by_cases c : R k = l
  · rw [if_pos c] at hk
    exact absurd (by rw [← c, ← hk, hRr]) hlr
  · rw [if_neg c] at hk
    exact (List.mem_erase_of_ne (fun e => c (by rw [e]; exact hRl))).mpr (h k h1 h2 hf hk)
