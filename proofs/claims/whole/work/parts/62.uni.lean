/-! ===== one step of making two nodes the same, for class and reference alike ===== -/
def UI (lo n : Int) (F P S B : Int → Int) (m : Int) (R : Int → Int) (d : Int → Nat) (J : Nat) (L LF : List Int) : Prop := US lo n S R d J L ∧ CL lo n F P R (SQ B m) ∧ FL lo n F R LF ∧ ∀ j, 0 ≤ j → j < 2 * m → lo ≤ B j ∧ B j < lo + n
theorem UI_RR {lo n : Int} {F P S B : Int → Int} {m : Int} {R : Int → Int} {d : Int → Nat} {J : Nat} {L LF : List Int} (h : UI lo n F P S B m R d J L LF) : ∀ k, lo ≤ k → k < lo + n → (lo ≤ R k ∧ R k < lo + n) ∧ R (R k) = R k := fun k h1 h2 => ⟨(h.1.1 k h1 h2).2.1, US_RR h.1 h1 h2⟩
theorem SQ_s {α : Type} {B : Int → Int} {m : Int} (hm : 0 ≤ m) {w : Int → α} : SQ B (m + 1) w ↔ SQ B m w ∧ w (B (2 * m)) = w (B (2 * m + 1)) := by
  refine ⟨fun h => ⟨fun j h1 h2 => h j h1 (by omega), h m hm (by omega)⟩, fun h j h1 h2 => ?_⟩
  by_cases e : j = m
  · rw [e]; exact h.2
  · exact h.1 j h1 (by omega)
theorem SQ_c {α : Type} {B B' : Int → Int} {m : Int} {w : Int → α} (h : ∀ j, 0 ≤ j → j < 2 * m → B' j = B j) : SQ B' m w ↔ SQ B m w := by
  refine ⟨fun q j h1 h2 => ?_, fun q j h1 h2 => ?_⟩
  · have := q j h1 h2
    rw [h _ (by omega) (by omega), h _ (by omega) (by omega)] at this
    exact this
  · rw [h _ (by omega) (by omega), h _ (by omega) (by omega)]
    exact q j h1 h2
theorem UI_same {lo n : Int} {F P S B : Int → Int} {m : Int} {R : Int → Int} {d : Int → Nat} {J : Nat} {L LF : List Int} (hm : 0 ≤ m) (h : UI lo n F P S B (m + 1) R d J L LF) (e : R (B (2 * m)) = R (B (2 * m + 1))) : UI lo n F P S B m R d J L LF ∧ ∀ v, (MD lo n F P R v ∧ SQ B m v ↔ MD lo n F P R v ∧ SQ B (m + 1) v) := by
  obtain ⟨h1, h2, h3, h4⟩ := h
  have b1 := h4 (2 * m) (by omega) (by omega)
  have b2 := h4 (2 * m + 1) (by omega) (by omega)
  refine ⟨⟨h1, CL_q h2 (fun w hw hq => (SQ_s hm).mpr ⟨hq, ?_⟩), h3, fun j j1 j2 => h4 j j1 (by omega)⟩, fun v => ⟨fun q => ⟨q.1, (SQ_s hm).mpr ⟨q.2, ?_⟩⟩, fun q => ⟨q.1, ((SQ_s hm).mp q.2).1⟩⟩⟩
  · rw [hw.1 _ b1.1 b1.2, hw.1 _ b2.1 b2.2, e]
  · rw [(q.1 _ b1.1 b1.2).2.1, (q.1 _ b2.1 b2.2).2.1, e]
/-- l, r: the chosen nodes of the pair, in one order or the other -/
def PR (R B : Int → Int) (m l r : Int) : Prop := (R (B (2 * m)) = l ∧ R (B (2 * m + 1)) = r) ∨ (R (B (2 * m)) = r ∧ R (B (2 * m + 1)) = l)
theorem PR_v {α : Type} {lo n : Int} {R B : Int → Int} {m l r : Int} (h : PR R B m l r) {w : Int → α} (hw : ∀ k, lo ≤ k → k < lo + n → w k = w (R k)) (b1 : lo ≤ B (2 * m) ∧ B (2 * m) < lo + n) (b2 : lo ≤ B (2 * m + 1) ∧ B (2 * m + 1) < lo + n) : w (B (2 * m)) = w (B (2 * m + 1)) ↔ w l = w r := by
  rw [hw _ b1.1 b1.2, hw _ b2.1 b2.2]
  rcases h with ⟨e1, e2⟩ | ⟨e1, e2⟩
  · rw [e1, e2]
  · rw [e1, e2]
    exact ⟨fun q => q.symm, fun q => q.symm⟩
theorem UI_letter {lo n : Int} {F P S S' B : Int → Int} {m : Int} {R : Int → Int} {d : Int → Nat} {J : Nat} {L LF : List Int} (hm : 0 ≤ m) (h : UI lo n F P S B (m + 1) R d J L LF) {l r : Int} (hp : PR R B m l r) (hl : lo ≤ l ∧ l < lo + n) (hr : lo ≤ r ∧ r < lo + n) (sl : S l = l) (sr : S r = r) (hlr : l ≠ r) (hf : F l = 3) (hS : ∀ k, S' k = if k = l then r else S k) : UI lo n F P S' B m (mg R l r) (fun k => if R k = l then d k + 1 else d k) (J + 1) (L.erase l) LF ∧ ∀ v, (MD lo n F P (mg R l r) v ∧ SQ B m v ↔ MD lo n F P R v ∧ SQ B (m + 1) v) := by
  have hRR := UI_RR h
  obtain ⟨h1, h2, h3, h4⟩ := h
  have b1 := h4 (2 * m) (by omega) (by omega)
  have b2 := h4 (2 * m + 1) (by omega) (by omega)
  have Rl : R l = l := (h1.1 l hl.1 hl.2).2.2.2.2.1 sl
  have Rr : R r = r := (h1.1 r hr.1 hr.2).2.2.2.2.1 sr
  have eS : S' = up S l r := funext hS
  refine ⟨⟨by rw [eS]; exact US_merge h1 hl hr sl sr hlr, CL_letter h2 Rl hl hlr hRR hf (fun w hw hq => ?_), fun k k1 k2 hk hR => ?_, fun j j1 j2 => h4 j j1 (by omega)⟩, fun v => ?_⟩
  · have := mg_w Rl hl hlr hRR hw.1
    exact (SQ_s hm).mpr ⟨hq, (PR_v hp this.2 b1 b2).mpr this.1⟩
  · exact List.mem_of_mem_erase (FL_merge h3 Rl Rr hlr k k1 k2 hk hR)
  · rw [MD_merge Rl hl hlr hRR, SQ_s hm]
    refine ⟨fun q => ⟨q.1.1, q.2, (PR_v hp (fun k k1 k2 => (q.1.1 k k1 k2).2.1) b1 b2).mpr q.1.2⟩, fun q => ⟨⟨q.1, (PR_v hp (fun k k1 k2 => (q.1 k k1 k2).2.1) b1 b2).mp q.2.2⟩, q.2.1⟩⟩
theorem UI_fn {lo n : Int} {F P S S' B B' : Int → Int} {m : Int} {R : Int → Int} {d : Int → Nat} {J : Nat} {L LF : List Int} (hm : 0 ≤ m) (h : UI lo n F P S B (m + 1) R d J L LF) {l r : Int} (hp : PR R B m l r) (hl : lo ≤ l ∧ l < lo + n) (hr : lo ≤ r ∧ r < lo + n) (sl : S l = l) (sr : S r = r) (hlr : l ≠ r) (hf : F l = 2) (hg : F r = 2) (hS : ∀ k, S' k = if k = l then r else S k) (hB : ∀ j, 0 ≤ j → j < 2 * m → B' j = B j) (hB1 : ∀ i, 0 ≤ i → i < 4 → B' (2 * (m + i)) = P (4 * l + i) ∧ B' (2 * (m + i) + 1) = P (4 * r + i)) : UI lo n F P S' B' (m + 4) (mg R l r) (fun k => if R k = l then d k + 1 else d k) (J + 1) (L.erase l) (LF.erase l) ∧ l ∈ LF ∧ ∀ v, (MD lo n F P (mg R l r) v ∧ SQ B' (m + 4) v ↔ MD lo n F P R v ∧ SQ B (m + 1) v) := by
  have hRR := UI_RR h
  obtain ⟨h1, h2, h3, h4⟩ := h
  have b1 := h4 (2 * m) (by omega) (by omega)
  have b2 := h4 (2 * m + 1) (by omega) (by omega)
  have Rl : R l = l := (h1.1 l hl.1 hl.2).2.2.2.2.1 sl
  have Rr : R r = r := (h1.1 r hr.1 hr.2).2.2.2.2.1 sr
  have eS : S' = up S l r := funext hS
  have pl := ((h2 l hl.1 hl.2).2.2.2 hf).2.1
  have pr := ((h2 r hr.1 hr.2).2.2.2 hg).2.1
  have q4 : ∀ {α : Type} {w : Int → α}, SQ B' (m + 4) w ↔ SQ B m w ∧ ∀ i, 0 ≤ i → i < 4 → w (P (4 * l + i)) = w (P (4 * r + i)) := fun {α} {w} => by
    refine ⟨fun q => ⟨fun j j1 j2 => ?_, fun i i1 i2 => ?_⟩, fun q j j1 j2 => ?_⟩
    · have := q j j1 (by omega)
      rw [hB _ (by omega) (by omega), hB _ (by omega) (by omega)] at this
      exact this
    · have := q (m + i) (by omega) (by omega)
      rw [(hB1 i i1 i2).1, (hB1 i i1 i2).2] at this
      exact this
    · by_cases e : j < m
      · rw [hB _ (by omega) (by omega), hB _ (by omega) (by omega)]
        exact q.1 j j1 e
      · have := q.2 (j - m) (by omega) (by omega)
        rw [← (hB1 (j - m) (by omega) (by omega)).1, ← (hB1 (j - m) (by omega) (by omega)).2, show m + (j - m) = j by omega] at this
        exact this
  refine ⟨⟨by rw [eS]; exact US_merge h1 hl hr sl sr hlr, CL_fn h2 Rl hl hlr hRR hf hg (fun w hw hq => ?_), FL_merge h3 Rl Rr hlr, fun j j1 j2 => ?_⟩, h3 l hl.1 hl.2 hf Rl, fun v => ?_⟩
  · have := mg_w Rl hl hlr hRR hw.1
    have hq := q4.mp hq
    exact ⟨(SQ_s hm).mpr ⟨hq.1, (PR_v hp this.2 b1 b2).mpr this.1⟩, hq.2⟩
  · by_cases e : j < 2 * m
    · rw [hB j j1 e]; exact h4 j j1 (by omega)
    · by_cases e2 : j % 2 = 0
      · have := (hB1 (j / 2 - m) (by omega) (by omega)).1
        rw [show 2 * (m + (j / 2 - m)) = j by omega] at this
        rw [this]; exact pl _ (by omega) (by omega)
      · have := (hB1 (j / 2 - m) (by omega) (by omega)).2
        rw [show 2 * (m + (j / 2 - m)) + 1 = j by omega] at this
        rw [this]; exact pr _ (by omega) (by omega)
  · rw [MD_merge Rl hl hlr hRR, SQ_s hm, q4]
    refine ⟨fun q => ⟨q.1.1, q.2.1, (PR_v hp (fun k k1 k2 => (q.1.1 k k1 k2).2.1) b1 b2).mpr q.1.2⟩, fun q => ?_⟩
    have e := (PR_v hp (fun k k1 k2 => (q.1 k k1 k2).2.1) b1 b2).mp q.2.2
    refine ⟨⟨q.1, e⟩, q.2.1, fun i i1 i2 => ?_⟩
    rw [(q.1 l hl.1 hl.2).2.2.2.2 hf, (q.1 r hr.1 hr.2).2.2.2.2 hg] at e
    obtain ⟨e0, e1, e2, e3⟩ := fnT_inj e
    rcases idx4 ⟨i1, i2⟩ with rfl | rfl | rfl | rfl
    · rw [Int.add_zero, Int.add_zero]; exact e0
    · exact e1
    · exact e2
    · exact e3
theorem UI_clash {lo n : Int} {F P S B : Int → Int} {m : Int} {R : Int → Int} {d : Int → Nat} {J : Nat} {L LF : List Int} (hm : 0 ≤ m) (h : UI lo n F P S B (m + 1) R d J L LF) {l r : Int} (hp : PR R B m l r) (hl : lo ≤ l ∧ l < lo + n) (hr : lo ≤ r ∧ r < lo + n) (hf : F l ≠ 3) (hg : F r ≠ 3) (hfg : F l ≠ F r) (v : Int → Tr) : ¬ (MD lo n F P R v ∧ SQ B (m + 1) v) := fun q => by
  obtain ⟨h1, h2, h3, h4⟩ := h
  have b1 := h4 (2 * m) (by omega) (by omega)
  have b2 := h4 (2 * m + 1) (by omega) (by omega)
  have e := (PR_v hp (fun k k1 k2 => (q.1 k k1 k2).2.1) b1 b2).mp ((SQ_s hm).mp q.2).2
  have f1 := (h2 l hl.1 hl.2).1
  have f2 := (h2 r hr.1 hr.2).1
  have m1 := (q.1 l hl.1 hl.2).2.2
  have m2 := (q.1 r hr.1 hr.2).2.2
  have lab : ∀ k : Int, (0 ≤ F k ∧ F k ≤ 3) → F k ≠ 3 → ((F k = 0 → v k = leaf 0) ∧ (F k = 1 → v k = leaf 1) ∧ (F k = 2 → v k = fnT (v (P (4 * k))) (v (P (4 * k + 1))) (v (P (4 * k + 2))) (v (P (4 * k + 3))))) → v k [] = F k := fun k a b c => by
    by_cases z : F k = 0
    · rw [c.1 z, z]; rfl
    by_cases z1 : F k = 1
    · rw [c.2.1 z1, z1]; rfl
    · have z2 : F k = 2 := by omega
      rw [c.2.2 z2, z2]; rfl
  have a1 := lab l f1 hf m1
  have a2 := lab r f2 hg m2
  rw [e] at a1
  exact hfg (a1.symm.trans a2)
