/-! ===== the class's rules: a small logic of making nodes and making them the same ===== -/
def CYI : List Nat := [107, 108, 124]
def CYA : List Nat := [100, 101, 102, 103, 104, 105, 122, 123]
def EnvC (σ : Sg) : List (Int × Int) → Prop
  | [] => True
  | (a, g) :: L => gA σ 122 L.length = a ∧ gA σ 123 L.length = g ∧ EnvC σ L
def CTy (σ : Sg) (R : Int → Int) (LF : List Int) (L : List (Int × Int)) : Prop := CS σ R LF ∧ gI σ 124 = L.length ∧ EnvC σ L ∧ ED 0 (gI σ 107) L ∧ gA σ 100 0 = 0 ∧ gA σ 100 1 = 1 ∧ 2 ≤ gI σ 107
abbrev ag (n : Int) (v' v : Int → Tr) : Prop := ∀ k, 0 ≤ k → k < n → v' k = v k
def uv (v : Int → Tr) (n : Int) (x : Tr) : Int → Tr := fun k => if k = n then x else v k
theorem uv_s (v : Int → Tr) (n : Int) (x : Tr) : uv v n x n = x := if_pos rfl
theorem uv_n {v : Int → Tr} {n : Int} {x : Tr} {k : Int} (h : k ≠ n) : uv v n x k = v k := if_neg h
theorem uv_e (v : Int → Tr) (n : Int) : uv v n (v n) = v := funext fun k => by
  by_cases h : k = n
  · rw [h, uv_s]
  · exact uv_n h
theorem uv_ag (v : Int → Tr) (n : Int) (x : Tr) : ag n (uv v n x) v := fun k _ h2 => uv_n (by omega)
def PO (σ : Sg) (R : Int → Int) (LF : List Int) (L : List (Int × Int)) (y z : Int) (T : (Int → Tr) → Prop) (σ' : Sg) (r : Int) : Prop := fr CYI CYA σ σ' ∧ gI σ' 124 = L.length ∧ EnvC σ' L ∧ ((r = 1 ∧ ∃ (R' : Int → Int) (LF' : List Int), CTy σ' R' LF' L ∧ gI σ 107 ≤ gI σ' 107 ∧ gI σ' 107 ≤ gI σ 107 + y ∧ (LF'.length : Int) ≤ LF.length + z ∧ (∀ v, MC σ' R' v → MC σ R v ∧ T v) ∧ ∀ v, MC σ R v → T v → ∃ v', ag (gI σ 107) v' v ∧ MC σ' R' v') ∨ (r = 0 ∧ ∀ v, MC σ R v → ¬ T v))
def GO (prog : Option (Sg × Int)) (σ : Sg) (R : Int → Int) (LF : List Int) (L : List (Int × Int)) (y z : Int) (T : (Int → Tr) → Prop) : Prop := ∃ σ' r, prog = some (σ', r) ∧ PO σ R LF L y z T σ' r
def Loc (n : Int) (T : (Int → Tr) → Prop) : Prop := ∀ v v', ag n v' v → T v → T v'
theorem GO_conv {prog : Option (Sg × Int)} {σ : Sg} {R : Int → Int} {LF : List Int} {L : List (Int × Int)} {y z y' z' : Int} {T T' : (Int → Tr) → Prop} (h : GO prog σ R LF L y z T) (hy : y ≤ y') (hz : z ≤ z') (hT : ∀ v, MC σ R v → (T v ↔ T' v)) : GO prog σ R LF L y' z' T' := by
  obtain ⟨σ', r, e, h1, h2, h3, h4⟩ := h
  refine ⟨σ', r, e, h1, h2, h3, ?_⟩
  rcases h4 with ⟨w, R', LF', a1, a2, a3, a4, a5, a6⟩ | ⟨w, a⟩
  · exact Or.inl ⟨w, R', LF', a1, a2, by omega, by omega, fun v q => ⟨(a5 v q).1, (hT v (a5 v q).1).mp (a5 v q).2⟩, fun v q t => a6 v q ((hT v q).mpr t)⟩
  · exact Or.inr ⟨w, fun v q t => a v q ((hT v q).mpr t)⟩
theorem ag_s {n : Int} {v v' : Int → Tr} (h : ag n v' v) : ag n v v' := fun k h1 h2 => (h k h1 h2).symm
theorem GO_seq {prog : Option (Sg × Int)} {rest : Sg → Int → Option (Sg × Int)} {σ : Sg} {R : Int → Int} {LF : List Int} {L : List (Int × Int)} {y1 z1 y2 z2 : Int} {T1 T2 : (Int → Tr) → Prop} (h1 : GO prog σ R LF L y1 z1 T1) (l1 : Loc (gI σ 107) T1) (l2 : Loc (gI σ 107) T2) (hy : 0 ≤ y2) (hz : 0 ≤ z2) (next : ∀ (σ1 : Sg) (R1 : Int → Int) (LF1 : List Int), fr CYI CYA σ σ1 → CTy σ1 R1 LF1 L → gI σ 107 ≤ gI σ1 107 → gI σ1 107 ≤ gI σ 107 + y1 → (LF1.length : Int) ≤ LF.length + z1 → GO (rest σ1 1) σ1 R1 LF1 L y2 z2 T2) : GO (bd prog fun σ5 r5 => if r5 = 0 then (ck ((0 : Int) = 0 ∨ (0 : Int) = 1) (some (σ5, (0 : Int)))) else rest σ5 r5) σ R LF L (y1 + y2) (z1 + z2) (fun v => T1 v ∧ T2 v) := by
  obtain ⟨σ1, r1, e, h1, h2, h3, h4⟩ := h1
  rw [e, bd_s]
  rcases h4 with ⟨w, R', LF', a1, a2, a3, a4, a5, a6⟩ | ⟨w, a⟩
  · rw [w, if_neg (by decide)]
    obtain ⟨σ2, r2, g, k1, k2, k3, k4⟩ := next σ1 R' LF' h1 a1 a2 a3 a4
    refine ⟨σ2, r2, g, fr_t h1 k1, k2, k3, ?_⟩
    rcases k4 with ⟨w2, R2, LF2, b1, b2, b3, b4, b5, b6⟩ | ⟨w2, b⟩
    · refine Or.inl ⟨w2, R2, LF2, b1, by omega, by omega, by omega, fun v q => ⟨(a5 v (b5 v q).1).1, (a5 v (b5 v q).1).2, (b5 v q).2⟩, fun v q t => ?_⟩
      obtain ⟨v1, c1, c2⟩ := a6 v q t.1
      obtain ⟨v2, d1, d2⟩ := b6 v1 c2 (l2 v v1 c1 t.2)
      exact ⟨v2, fun k q1 q2 => (d1 k q1 (by omega)).trans (c1 k q1 q2), d2⟩
    · refine Or.inr ⟨w2, fun v q t => ?_⟩
      obtain ⟨v1, c1, c2⟩ := a6 v q t.1
      exact b v1 c2 (l2 v v1 c1 t.2)
  · rw [w, if_pos rfl, ck01]
    exact ⟨σ1, 0, rfl, h1, h2, h3, Or.inr ⟨rfl, fun v q t => a v q t.1⟩⟩
theorem GO_last {prog : Option (Sg × Int)} {σ : Sg} {R : Int → Int} {LF : List Int} {L : List (Int × Int)} {y z : Int} {T : (Int → Tr) → Prop} (h : GO prog σ R LF L y z T) : GO (bd prog fun σ5 r5 => if r5 = 0 then (ck ((0 : Int) = 0 ∨ (0 : Int) = 1) (some (σ5, (0 : Int)))) else (ck ((1 : Int) = 0 ∨ (1 : Int) = 1) (some (σ5, (1 : Int))))) σ R LF L y z T := by
  obtain ⟨σ1, r1, e, h1⟩ := h
  rw [e, bd_s]
  have : r1 = 1 ∨ r1 = 0 := h1.2.2.2.elim (fun q => Or.inl q.1) (fun q => Or.inr q.1)
  rcases this with rfl | rfl
  · rw [if_neg (by decide), ck11]
    exact ⟨σ1, 1, rfl, h1⟩
  · rw [if_pos rfl, ck01]
    exact ⟨σ1, 0, rfl, h1⟩
theorem GO_ret {prog : Option (Sg × Int)} {σ : Sg} {R : Int → Int} {LF : List Int} {L : List (Int × Int)} {y z : Int} {T : (Int → Tr) → Prop} (h : GO prog σ R LF L y z T) : GO (bd prog fun σ5 r5 => ck (r5 = 0 ∨ r5 = 1) (some (σ5, r5))) σ R LF L y z T := by
  obtain ⟨σ1, r1, e, h1⟩ := h
  rw [e, bd_s, ck_t (h1.2.2.2.elim (fun q => Or.inr q.1) (fun q => Or.inl q.1))]
  exact ⟨σ1, r1, rfl, h1⟩
/-! making two nodes the same -/
theorem EnvC_c {σ σ' : Sg} : ∀ (L : List (Int × Int)), (∀ i : Int, 0 ≤ i → i < L.length → gA σ' 122 i = gA σ 122 i ∧ gA σ' 123 i = gA σ 123 i) → EnvC σ L → EnvC σ' L := by
  intro L
  induction L with
  | nil => intro _ _; trivial
  | cons x L ih =>
    intro h h2
    obtain ⟨a, g⟩ := x
    have hl : ((((a, g) :: L : List (Int × Int)).length : Nat) : Int) = L.length + 1 := by rw [List.length_cons]; omega
    rw [hl] at h
    have := h L.length (by omega) (by omega)
    exact ⟨this.1.trans h2.1, this.2.trans h2.2.1, ih (fun i i1 i2 => h i i1 (by omega)) h2.2.2⟩
theorem EnvC_fr {S T : List Nat} {σ σ' : Sg} (h : fr S T σ σ') (h1 : 122 ∉ T) (h2 : 123 ∉ T) {L : List (Int × Int)} (hL : EnvC σ L) : EnvC σ' L := EnvC_c L (fun i _ _ => ⟨h.2 122 h1 i, h.2 123 h2 i⟩) hL
theorem GO_same {σ : Sg} {R : Int → Int} {LF : List Int} {L : List (Int × Int)} (h : CTy σ R LF L) (hn : gI σ 107 ≤ 604) (hf : LF.length ≤ 120) {N : Nat} (hN : 605 ≤ N) {a b : Int} (ha : 0 ≤ a ∧ a < gI σ 107) (hb : 0 ≤ b ∧ b < gI σ 107) : GO (f5_makeSame N σ a b) σ R LF L 0 0 (fun v => v a = v b) := by
  obtain ⟨h1, h2, h3, h4, h5, h6, h7⟩ := h
  obtain ⟨σ', r, e, f, g⟩ := c_same h1 hn hf hN ha hb
  have e107 : gI σ' 107 = gI σ 107 := f.1 107 (by decide)
  have e124 : gI σ' 124 = L.length := (f.1 124 (by decide)).trans h2
  have eE := EnvC_fr f (by decide) (by decide) h3
  refine ⟨σ', r, e, fr_m (by decide) (by decide) f, e124, eE, ?_⟩
  rcases g with ⟨w, R', LF', a1, a2, a3⟩ | ⟨w, a1⟩
  · refine Or.inl ⟨w, R', LF', ⟨a1, e124, eE, by rw [e107]; exact h4, (f.2 100 (by decide) 0).trans h5, (f.2 100 (by decide) 1).trans h6, by omega⟩, by omega, by omega, by omega, fun v q => (a3 v).mp q, fun v q t => ⟨v, fun _ _ _ => rfl, (a3 v).mpr ⟨q, t⟩⟩⟩
  · exact Or.inr ⟨w, fun v q t => a1 v ⟨q, t⟩⟩
/-! new nodes -/
theorem c_addNode {σ : Sg} (h0 : 0 ≤ gI σ 107) (hn : gI σ 107 < 604) (f : Int) : ∃ σ', f5_addNode σ f = some (σ', gI σ 107) ∧ gI σ' 107 = gI σ 107 + 1 ∧ (∀ j, gA σ' 100 j = if j = gI σ 107 then f else gA σ 100 j) ∧ (∀ j, gA σ' 101 j = if j = gI σ 107 then gI σ 107 else gA σ 101 j) ∧ (∀ j, gA σ' 104 j = if j = gI σ 107 then 0 else gA σ 104 j) ∧ (∀ j, gA σ' 105 j = if j = gI σ 107 then 0 else gA σ 105 j) ∧ fr [107] [100, 101, 104, 105] σ σ' := by
  unfold f5_addNode
  obtain ⟨n, e⟩ : ∃ n, gI σ 107 = n := ⟨_, rfl⟩
  rw [e] at h0 hn ⊢
  rw [ck_t (show 0 ≤ n ∧ n < 604 by omega), nx_d, gI_sA, e, ck_t (show 0 ≤ n ∧ n < 604 by omega), nx_d, gI_sA, gI_sA, e, ck_t (show 0 ≤ n ∧ n < 604 by omega), nx_d, gI_sA, gI_sA, gI_sA, e, ck_t (show 0 ≤ n ∧ n < 604 by omega), nx_d, gI_sA, gI_sA, gI_sA, gI_sA, e, ck_t (show inR (n + 1) from ⟨by omega, by omega⟩), nx_d]
  refine ⟨_, rfl, by rw [gI_sI, if_pos rfl], fun j => ?_, fun j => ?_, fun j => ?_, fun j => ?_, fr_I _ _ (by decide) (fr_A _ _ _ (by decide) (fr_A _ _ _ (by decide) (fr_A _ _ _ (by decide) (fr_A _ _ _ (by decide) (fr_r _)))))⟩
  · simp only [gA_sI, gA_sA, Nat.reduceEqDiff, reduceIte]
  · simp only [gA_sI, gA_sA, Nat.reduceEqDiff, reduceIte]
  · simp only [gA_sI, gA_sA, Nat.reduceEqDiff, reduceIte]
  · simp only [gA_sI, gA_sA, Nat.reduceEqDiff, reduceIte]
theorem CS_in {σ : Sg} {R : Int → Int} {LF : List Int} (h : CS σ R LF) : (∀ k, 0 ≤ k → k < 0 + gI σ 107 → 0 ≤ R k ∧ R k < 0 + gI σ 107) ∧ ∀ k, 0 ≤ k → k < 0 + gI σ 107 → gA σ 100 k = 2 → ∀ i, 0 ≤ i → i < 4 → 0 ≤ gA σ 102 (4 * k + i) ∧ gA σ 102 (4 * k + i) < 0 + gI σ 107 := by
  obtain ⟨d, J, L, h1, h2, h3, h4, h5, h6⟩ := h
  exact ⟨fun k k1 k2 => (h1.1 k k1 k2).2.1, fun k k1 k2 hk => ((h2 k k1 k2).2.2.2 hk).2.1⟩
theorem MC_ag {σ : Sg} {R : Int → Int} {LF : List Int} (h : CS σ R LF) {v v' : Int → Tr} (ha : ag (gI σ 107) v' v) (hm : MC σ R v) : MC σ R v' := MD_agree (CS_in h).1 (CS_in h).2 (fun k k1 k2 => ha k k1 (by omega)) hm
theorem c_letter {σ : Sg} {R : Int → Int} {LF : List Int} {L : List (Int × Int)} (h : CTy σ R LF L) (hn : gI σ 107 < 604) : ∃ (σ' : Sg) (R' : Int → Int), f5_letter σ = some (σ', gI σ 107) ∧ gI σ' 107 = gI σ 107 + 1 ∧ fr CYI CYA σ σ' ∧ CTy σ' R' LF L ∧ ∀ v, (MC σ' R' v ↔ MC σ R v ∧ tre (v (gI σ 107))) := by
  obtain ⟨⟨d, J, LL, h1, h2, h3, h4, h8, h9⟩, g2, g3, g4, g5, g6, g7⟩ := h
  obtain ⟨σ', e1, e2, e3, e4, e6, e7, e5⟩ := c_addNode h8 hn 3
  unfold f5_letter
  rw [e1, bd_s]
  have n0 : (0 : Int) + gI σ 107 = gI σ 107 := by omega
  have u1 := US_new h1 h8 (S' := gA σ' 101) (fun k k1 k2 => by rw [e4, if_neg (by omega)]) (by rw [e4, if_pos n0, n0])
  have u2 := CL_new (F' := gA σ' 100) (P' := gA σ 102) h2 (fun k k1 k2 => (h1.1 k k1 k2).2.1) (fun k k1 k2 => by rw [e3, if_neg (by omega)]) (fun _ _ _ _ _ _ => rfl) (by rw [e3, if_pos n0]; decide) (fun z => absurd z (by rw [e3, if_pos n0]; decide))
  have u3 := FL_new' (F' := gA σ' 100) h3 (fun k k1 k2 => by rw [e3, if_neg (by omega)]) (by rw [e3, if_pos n0]; decide)
  have u4 := MD_new (F' := gA σ' 100) (P' := gA σ 102) h8 h2 (fun k k1 k2 => by rw [e3, if_neg (by omega)]) (fun _ _ _ _ _ _ => rfl)
  have e102 : gA σ' 102 = gA σ 102 := funext fun j => e5.2 102 (by decide) j
  have cs : CS σ' (up R (0 + gI σ 107) (0 + gI σ 107)) LF := by
    unfold CS
    rw [e2, e102]
    refine ⟨_, J, _, u1, u2, u3, fun k k1 k2 => ?_, by omega, fun k k1 k2 => ?_⟩
    · rw [e3]
      by_cases z : k = gI σ 107
      · rw [if_pos z]; exact ⟨fun q => absurd q (by decide), fun q => absurd q (by decide)⟩
      · rw [if_neg z]; exact h4 k k1 (by omega)
    · rw [e6, e7]
      by_cases z : k = gI σ 107
      · rw [if_pos z, if_pos z]; exact ⟨rfl, rfl⟩
      · rw [if_neg z, if_neg z]; exact h9 k k1 (by omega)
  refine ⟨σ', _, rfl, e2, fr_m (by decide) (by decide) e5, ⟨cs, (e5.1 124 (by decide)).trans g2, EnvC_fr e5 (by decide) (by decide) g3, by rw [e2]; exact ED_m g4 (by omega), by rw [e3, if_neg (by omega)]; exact g5, by rw [e3, if_neg (by omega)]; exact g6, by omega⟩, fun v => ?_⟩
  unfold MC
  rw [e2, e102, u4 v, e3 (0 + gI σ 107), if_pos n0, n0]
  exact ⟨fun q => ⟨q.1, q.2.1⟩, fun q => ⟨q.1, q.2, fun z => absurd z (by decide), fun z => absurd z (by decide), fun z => absurd z (by decide)⟩⟩
theorem GO_letter {rest : Sg → Int → Option (Sg × Int)} {σ : Sg} {R : Int → Int} {LF : List Int} {L : List (Int × Int)} {y z : Int} {T : (Int → Tr) → Prop} (h : CTy σ R LF L) (hn : gI σ 107 < 604) (hy : 0 ≤ y) (next : ∀ (σ1 : Sg) (R1 : Int → Int), fr CYI CYA σ σ1 → CTy σ1 R1 LF L → gI σ1 107 = gI σ 107 + 1 → GO (rest σ1 (gI σ 107)) σ1 R1 LF L y z T) : GO (bd (f5_letter σ) rest) σ R LF L (1 + y) z (fun v => ∃ x, tre x ∧ T (uv v (gI σ 107) x)) := by
  obtain ⟨σ1, R1, e1, e2, e3, e4, e5⟩ := c_letter h hn
  rw [e1, bd_s]
  obtain ⟨σ2, r2, g, k1, k2, k3, k4⟩ := next σ1 R1 e3 e4 e2
  refine ⟨σ2, r2, g, fr_t e3 k1, k2, k3, ?_⟩
  have ext : ∀ v x, MC σ R v → tre x → MC σ1 R1 (uv v (gI σ 107) x) := fun v x q t => (e5 _).mpr ⟨MC_ag h.1 (uv_ag v _ x) q, by rw [uv_s]; exact t⟩
  rcases k4 with ⟨w2, R2, LF2, b1, b2, b3, b4, b5, b6⟩ | ⟨w2, b⟩
  · refine Or.inl ⟨w2, R2, LF2, b1, by omega, by omega, b4, fun v q => ?_, fun v q t => ?_⟩
    · have c := (e5 v).mp (b5 v q).1
      exact ⟨c.1, v (gI σ 107), c.2, by rw [uv_e]; exact (b5 v q).2⟩
    · obtain ⟨x, x1, x2⟩ := t
      obtain ⟨v2, d1, d2⟩ := b6 _ (ext v x q x1) x2
      exact ⟨v2, fun k q1 q2 => (d1 k q1 (by omega)).trans (uv_ag v _ x k q1 q2), d2⟩
  · refine Or.inr ⟨w2, fun v q t => ?_⟩
    obtain ⟨x, x1, x2⟩ := t
    exact b _ (ext v x q x1) x2
theorem c_function {σ : Sg} {R : Int → Int} {LF : List Int} {L : List (Int × Int)} (h : CTy σ R LF L) (hn : gI σ 107 < 604) {a b c e : Int} (ha : 0 ≤ a ∧ a < gI σ 107) (hb : 0 ≤ b ∧ b < gI σ 107) (hc : 0 ≤ c ∧ c < gI σ 107) (he : 0 ≤ e ∧ e < gI σ 107) : ∃ (σ' : Sg) (R' : Int → Int), f5_function σ a b c e = some (σ', gI σ 107) ∧ gI σ' 107 = gI σ 107 + 1 ∧ fr CYI CYA σ σ' ∧ CTy σ' R' (gI σ 107 :: LF) L ∧ ∀ v, (MC σ' R' v ↔ MC σ R v ∧ v (gI σ 107) = fnT (v a) (v b) (v c) (v e)) := by
  obtain ⟨⟨d, J, LL, h1, h2, h3, h4, h8, h9⟩, g2, g3, g4, g5, g6, g7⟩ := h
  obtain ⟨σ1, e1, e2, e3, e4, e6, e7, e5⟩ := c_addNode h8 hn 2
  unfold f5_function
  rw [e1, bd_s]
  obtain ⟨n, hnn⟩ : ∃ n, gI σ 107 = n := ⟨_, rfl⟩
  rw [hnn] at h1 h2 h3 h4 h8 h9 g4 g7 hn ha hb hc he e2 e3 e4 e6 e7 ⊢
  rw [ck_t (show inR (4 * n) from ⟨by omega, by omega⟩), ck_t (show 0 ≤ 4 * n ∧ 4 * n < 2416 by omega), nx_d, ck_t (show inR (4 * n) from ⟨by omega, by omega⟩), ck_t (show inR (4 * n + 1) from ⟨by omega, by omega⟩), ck_t (show 0 ≤ 4 * n + 1 ∧ 4 * n + 1 < 2416 by omega), nx_d, ck_t (show inR (4 * n) from ⟨by omega, by omega⟩), ck_t (show inR (4 * n + 2) from ⟨by omega, by omega⟩), ck_t (show 0 ≤ 4 * n + 2 ∧ 4 * n + 2 < 2416 by omega), nx_d, ck_t (show inR (4 * n) from ⟨by omega, by omega⟩), ck_t (show inR (4 * n + 3) from ⟨by omega, by omega⟩), ck_t (show 0 ≤ 4 * n + 3 ∧ 4 * n + 3 < 2416 by omega), nx_d]
  obtain ⟨σ', hs⟩ : ∃ σ', sA (sA (sA (sA σ1 102 (4 * n) a) 102 (4 * n + 1) b) 102 (4 * n + 2) c) 102 (4 * n + 3) e = σ' := ⟨_, rfl⟩
  rw [hs]
  have e5' : fr [107] [100, 101, 102, 104, 105] σ σ' := by
    rw [← hs]
    exact fr_A _ _ _ (by decide) (fr_A _ _ _ (by decide) (fr_A _ _ _ (by decide) (fr_A _ _ _ (by decide) (fr_m (by decide) (by decide) e5))))
  have p : ∀ j, gA σ' 102 j = if j = 4 * n + 3 then e else if j = 4 * n + 2 then c else if j = 4 * n + 1 then b else if j = 4 * n then a else gA σ 102 j := fun j => by
    rw [← hs]
    simp only [gA_sA, reduceIte]
    rw [e5.2 102 (by decide)]
  have e2' : gI σ' 107 = n + 1 := by rw [← hs]; simp only [gI_sA]; exact e2
  have e3' : ∀ j, gA σ' 100 j = if j = n then 2 else gA σ 100 j := fun j => by rw [← hs]; simp only [gA_sA, Nat.reduceEqDiff, reduceIte]; exact e3 j
  have e4' : ∀ j, gA σ' 101 j = if j = n then n else gA σ 101 j := fun j => by rw [← hs]; simp only [gA_sA, Nat.reduceEqDiff, reduceIte]; exact e4 j
  have n0 : (0 : Int) + n = n := by omega
  have u1 := US_new h1 h8 (S' := gA σ' 101) (fun k k1 k2 => by rw [e4', if_neg (by omega)]) (by rw [e4', if_pos n0, n0])
  have pold : ∀ k, 0 ≤ k → k < 0 + n → ∀ i, 0 ≤ i → i < 4 → gA σ' 102 (4 * k + i) = gA σ 102 (4 * k + i) := fun k k1 k2 i i1 i2 => by rw [p, if_neg (by omega), if_neg (by omega), if_neg (by omega), if_neg (by omega)]
  have u2 := CL_new (F' := gA σ' 100) (P' := gA σ' 102) h2 (fun k k1 k2 => (h1.1 k k1 k2).2.1) (fun k k1 k2 => by rw [e3', if_neg (by omega)]) pold (by rw [e3', if_pos n0]; decide) (fun _ i i1 i2 => by
    rw [n0, p]
    rcases idx4 ⟨i1, i2⟩ with rfl | rfl | rfl | rfl
    · rw [if_neg (by omega), if_neg (by omega), if_neg (by omega), if_pos (by omega)]; exact ha
    · rw [if_neg (by omega), if_neg (by omega), if_pos rfl]; exact hb
    · rw [if_neg (by omega), if_pos rfl]; exact hc
    · rw [if_pos rfl]; exact he)
  have u3 := FL_new (F' := gA σ' 100) h3 (fun k k1 k2 => by rw [e3', if_neg (by omega)])
  have u4 := MD_new (F' := gA σ' 100) (P' := gA σ' 102) h8 h2 (fun k k1 k2 => by rw [e3', if_neg (by omega)]) pold
  rw [n0] at u3
  have cs : CS σ' (up R (0 + n) (0 + n)) (n :: LF) := by
    unfold CS
    rw [e2']
    refine ⟨_, J, _, u1, u2, by rw [n0]; exact u3, fun k k1 k2 => ?_, by omega, fun k k1 k2 => ?_⟩
    · rw [e3']
      by_cases z : k = n
      · rw [if_pos z]; exact ⟨fun q => absurd q (by decide), fun q => absurd q (by decide)⟩
      · rw [if_neg z]; exact h4 k k1 (by omega)
    · rw [← hs]
      simp only [gA_sA, Nat.reduceEqDiff, reduceIte]
      rw [e6, e7]
      by_cases z : k = n
      · rw [if_pos z, if_pos z]; exact ⟨rfl, rfl⟩
      · rw [if_neg z, if_neg z]; exact h9 k k1 (by omega)
  refine ⟨σ', _, rfl, e2', fr_m (by decide) (by decide) e5', ⟨cs, (e5'.1 124 (by decide)).trans g2, EnvC_fr e5' (by decide) (by decide) g3, by rw [e2']; exact ED_m g4 (by omega), by rw [e3', if_neg (by omega)]; exact g5, by rw [e3', if_neg (by omega)]; exact g6, by omega⟩, fun v => ?_⟩
  have p0 : gA σ' 102 (4 * n) = a := by rw [p, if_neg (by omega), if_neg (by omega), if_neg (by omega), if_pos rfl]
  have p1 : gA σ' 102 (4 * n + 1) = b := by rw [p, if_neg (by omega), if_neg (by omega), if_pos rfl]
  have p2 : gA σ' 102 (4 * n + 2) = c := by rw [p, if_neg (by omega), if_pos rfl]
  have p3 : gA σ' 102 (4 * n + 3) = e := by rw [p, if_pos rfl]
  unfold MC
  rw [e2', u4 v, e3' (0 + n), if_pos n0, n0, p0, p1, p2, p3, hnn]
  refine ⟨fun q => ⟨q.1, q.2.2.2.2 rfl⟩, fun q => ⟨q.1, ?_, fun z => absurd z (by decide), fun z => absurd z (by decide), fun _ => q.2⟩⟩
  rw [q.2]
  exact tre_fn (q.1 a ha.1 (by omega)).1 (q.1 b hb.1 (by omega)).1 (q.1 c hc.1 (by omega)).1 (q.1 e he.1 (by omega)).1
theorem GO_fun {rest : Sg → Int → Option (Sg × Int)} {σ : Sg} {R : Int → Int} {LF : List Int} {L : List (Int × Int)} {y z : Int} {T : (Int → Tr) → Prop} (h : CTy σ R LF L) (hn : gI σ 107 < 604) {a b c e : Int} (ha : 0 ≤ a ∧ a < gI σ 107) (hb : 0 ≤ b ∧ b < gI σ 107) (hc : 0 ≤ c ∧ c < gI σ 107) (he : 0 ≤ e ∧ e < gI σ 107) (hy : 0 ≤ y) (next : ∀ (σ1 : Sg) (R1 : Int → Int), fr CYI CYA σ σ1 → CTy σ1 R1 (gI σ 107 :: LF) L → gI σ1 107 = gI σ 107 + 1 → GO (rest σ1 (gI σ 107)) σ1 R1 (gI σ 107 :: LF) L y z T) : GO (bd (f5_function σ a b c e) rest) σ R LF L (1 + y) (1 + z) (fun v => T (uv v (gI σ 107) (fnT (v a) (v b) (v c) (v e)))) := by
  obtain ⟨σ1, R1, e1, e2, e3, e4, e5⟩ := c_function h hn ha hb hc he
  rw [e1, bd_s]
  obtain ⟨σ2, r2, g, k1, k2, k3, k4⟩ := next σ1 R1 e3 e4 e2
  refine ⟨σ2, r2, g, fr_t e3 k1, k2, k3, ?_⟩
  have ext : ∀ v, MC σ R v → MC σ1 R1 (uv v (gI σ 107) (fnT (v a) (v b) (v c) (v e))) := fun v q => (e5 _).mpr ⟨MC_ag h.1 (uv_ag v _ _) q, by rw [uv_s, uv_n (by omega), uv_n (by omega), uv_n (by omega), uv_n (by omega)]⟩
  have hlen : ((gI σ 107 :: LF).length : Int) = LF.length + 1 := by rw [List.length_cons]; omega
  rcases k4 with ⟨w2, R2, LF2, b1, b2, b3, b4, b5, b6⟩ | ⟨w2, b⟩
  · refine Or.inl ⟨w2, R2, LF2, b1, by omega, by omega, by omega, fun v q => ?_, fun v q t => ?_⟩
    · have cc := (e5 v).mp (b5 v q).1
      refine ⟨cc.1, ?_⟩
      show T (uv v (gI σ 107) (fnT (v a) (v b) (v c) (v e)))
      rw [← cc.2, uv_e]
      exact (b5 v q).2
    · obtain ⟨v2, d1, d2⟩ := b6 _ (ext v q) t
      exact ⟨v2, fun k q1 q2 => (d1 k q1 (by omega)).trans (uv_ag v _ _ k q1 q2), d2⟩
  · exact Or.inr ⟨w2, fun v q t => b _ (ext v q) t⟩
