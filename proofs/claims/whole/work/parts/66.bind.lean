/-! ===== binding, and looking up what is bound ===== -/
theorem EnvC_get {σ : Sg} : ∀ (L : List (Int × Int)) (i : Nat), i < L.length → EnvC σ L → L[i]? = some (gA σ 122 ((L.length : Int) - 1 - i), gA σ 123 ((L.length : Int) - 1 - i)) := by
  intro L
  induction L with
  | nil => intro i h; exact absurd h (Nat.not_lt_zero _)
  | cons x L ih =>
    intro i h h2
    obtain ⟨a, g⟩ := x
    have hl : ((((a, g) :: L : List (Int × Int)).length : Nat) : Int) = L.length + 1 := by rw [List.length_cons]; omega
    cases i with
    | zero =>
      rw [hl, show (L.length : Int) + 1 - 1 - ((0 : Nat) : Int) = L.length by omega, h2.1, h2.2.1]
      rfl
    | succ i =>
      rw [List.length_cons] at h
      have := ih i (by omega) h2.2.2
      rw [List.getElem?_cons_succ, this, hl, show (L.length : Int) + 1 - 1 - ((i + 1 : Nat) : Int) = L.length - 1 - i by omega]
theorem c_bind {σ : Sg} {R : Int → Int} {LF : List Int} {L : List (Int × Int)} (h : CTy σ R LF L) (hl : L.length < 18) {a g : Int} (ha : 0 ≤ a ∧ a < gI σ 107) (hg : g = -1 ∨ (0 ≤ g ∧ g < gI σ 107)) : ∃ σ', f6_bind σ a g = some (σ', 0) ∧ fr [124] [122, 123] σ σ' ∧ CTy σ' R LF ((a, g) :: L) := by
  obtain ⟨h1, h2, h3, h4, h5, h6, h7⟩ := h
  unfold f6_bind
  rw [h2, ck_t (show (0 : Int) ≤ L.length ∧ (L.length : Int) < 18 by omega), nx_d, gI_sA, h2, ck_t (show (0 : Int) ≤ L.length ∧ (L.length : Int) < 18 by omega), nx_d, gI_sA, gI_sA, h2, ck_t (show inR ((L.length : Int) + 1) from ⟨by omega, by omega⟩), nx_d]
  have f : fr [124] [122, 123] σ (sI (sA (sA σ 122 L.length a) 123 L.length g) 124 ((L.length : Int) + 1)) := fr_I _ _ (by decide) (fr_A _ _ _ (by decide) (fr_A _ _ _ (by decide) (fr_r _)))
  refine ⟨_, rfl, f, h1, ?_, ⟨?_, ?_, EnvC_c L (fun i i1 i2 => ?_) h3⟩, ED_c h4 (by omega) (by omega), h5, h6, h7⟩
  · rw [gI_sI, if_pos rfl, List.length_cons]; omega
  · simp only [gA_sI, gA_sA, Nat.reduceEqDiff, reduceIte]
  · simp only [gA_sI, gA_sA, Nat.reduceEqDiff, reduceIte]
  · simp only [gA_sI, gA_sA, Nat.reduceEqDiff, reduceIte]
    rw [if_neg (by omega), if_neg (by omega)]
    exact ⟨rfl, rfl⟩
theorem MC_fr {S T : List Nat} {σ σ' : Sg} (h : fr S T σ σ') (h1 : 107 ∉ S) (h2 : 100 ∉ T) (h3 : 102 ∉ T) (R : Int → Int) (v : Int → Tr) : MC σ' R v ↔ MC σ R v := by
  unfold MC
  rw [h.1 107 h1, show gA σ' 100 = gA σ 100 from funext fun j => h.2 100 h2 j, show gA σ' 102 = gA σ 102 from funext fun j => h.2 102 h3 j]
theorem CS_fr {S T : List Nat} {σ σ' : Sg} (h : fr S T σ σ') (h1 : 107 ∉ S) (h2 : 100 ∉ T) (h3 : 102 ∉ T) (h4 : 101 ∉ T) (h5 : 104 ∉ T) (h6 : 105 ∉ T) {R : Int → Int} {LF : List Int} (hc : CS σ R LF) : CS σ' R LF := by
  unfold CS
  rw [h.1 107 h1, show gA σ' 104 = gA σ 104 from funext fun j => h.2 104 h5 j, show gA σ' 105 = gA σ 105 from funext fun j => h.2 105 h6 j, show gA σ' 100 = gA σ 100 from funext fun j => h.2 100 h2 j, show gA σ' 102 = gA σ 102 from funext fun j => h.2 102 h3 j, show gA σ' 101 = gA σ 101 from funext fun j => h.2 101 h4 j]
  exact hc
theorem GO_unbind {prog : Option (Sg × Int)} {σ σ1 : Sg} {R : Int → Int} {LF : List Int} {L L1 : List (Int × Int)} {y z : Int} {T : (Int → Tr) → Prop} (h : CTy σ R LF L) (f : fr [124] [122, 123] σ σ1) (hs : ∃ X, L1 = X ++ L) (hg : GO prog σ1 R LF L1 y z T) {x : Int} (hx : x = L.length) : GO (bd prog fun σ5 r5 => some (sI σ5 124 x, r5)) σ R LF L y z T := by
  obtain ⟨σ2, r, e, h1, h2, h3, h4⟩ := hg
  rw [e, bd_s, hx]
  have e107 : gI σ1 107 = gI σ 107 := f.1 107 (by decide)
  have suf : ∀ (τ : Sg) (X : List (Int × Int)), EnvC τ (X ++ L) → EnvC τ L := fun τ X => by
    induction X with
    | nil => intro q; exact q
    | cons a X ih => intro q; exact ih q.2.2
  obtain ⟨X, hX⟩ := hs
  subst hX
  have k3 : EnvC (sI σ2 124 L.length) L := EnvC_c (σ := σ2) L (fun i _ _ => ⟨rfl, rfl⟩) (suf σ2 X h3)
  have k2 : gI (sI σ2 124 L.length) 124 = L.length := by rw [gI_sI, if_pos rfl]
  have z107 : gI (sI σ2 124 L.length) 107 = gI σ2 107 := by rw [gI_sI, if_neg (by decide)]
  have mc := MC_fr f (by decide) (by decide) (by decide) R
  refine ⟨_, r, rfl, fr_I _ _ (by decide) (fr_t (fr_m (by decide) (by decide) f) h1), k2, k3, ?_⟩
  rw [z107]
  rw [e107] at h4
  rcases h4 with ⟨w, R', LF', a1, a2, a3, a4, a5, a6⟩ | ⟨w, a⟩
  · obtain ⟨b1, b2, b3, b4, b5, b6, b7⟩ := a1
    have fs : fr [124] [] σ2 (sI σ2 124 L.length) := fr_I _ _ (by decide) (fr_r _)
    refine Or.inl ⟨w, R', LF', ⟨CS_fr fs (by decide) (by decide) (by decide) (by decide) (by decide) (by decide) b1, k2, k3, ?_, b5, b6, by rw [z107]; exact b7⟩, a2, a3, a4, fun v q => ?_, fun v q t => ?_⟩
    · rw [z107]
      exact fun e he => b4 e (List.mem_append_right X he)
    · have := a5 v ((MC_fr fs (by decide) (by decide) (by decide) R' v).mp q)
      exact ⟨(mc v).mp this.1, this.2⟩
    · obtain ⟨v', c1, c2⟩ := a6 v ((mc v).mpr q) t
      exact ⟨v', c1, (MC_fr fs (by decide) (by decide) (by decide) R' v').mpr c2⟩
  · exact Or.inr ⟨w, fun v q t => a v ((mc v).mpr q) t⟩
theorem bd_nx (prog : Option (Sg × Int)) (x : Int) (rest : Sg → Int → Option (Sg × Int)) : (bd prog fun σ5 r5 => nx (sI σ5 124 x) fun σ7 => rest σ7 r5) = bd (bd prog fun σ5 r5 => some (sI σ5 124 x, r5)) rest := by
  cases prog with
  | none => rfl
  | some q => rfl
theorem bd_bd (prog : Option (Sg × Int)) (f g : Sg → Int → Option (Sg × Int)) : bd (bd prog f) g = bd prog fun σ r => bd (f σ r) g := by
  cases prog with
  | none => rfl
  | some q => rfl
theorem bd_id (prog : Option (Sg × Int)) : (bd prog fun σ r => some (σ, r)) = prog := by
  cases prog with
  | none => rfl
  | some q => rfl
theorem GO_let {prog : Option (Sg × Int)} {σ σ1 : Sg} {R : Int → Int} {LF : List Int} {L : List (Int × Int)} {x : Int × Int} {y z : Int} {T : (Int → Tr) → Prop} (h : CTy σ R LF L) (hl : L.length < 18) (f : fr [124] [122, 123] σ σ1) (hg : GO prog σ1 R LF (x :: L) y z T) : GO (bd prog fun σ14 r14 => ck (inR ((gI σ14 124) - (1 : Int))) <| nx (sI σ14 124 ((gI σ14 124) - (1 : Int))) fun σ17 => ck (r14 = 0 ∨ r14 = 1) (some (σ17, r14))) σ R LF L y z T := by
  have := GO_ret (GO_unbind h f ⟨[x], rfl⟩ hg rfl)
  obtain ⟨σ2, r, e, h1, h2, h3, h4⟩ := hg
  rw [e, bd_s] at this
  rw [e, bd_s]
  rw [h2, List.length_cons, show ((L.length + 1 : Nat) : Int) - 1 = L.length by omega, ck_t (show inR (L.length : Int) from ⟨by omega, by omega⟩), nx_d]
  exact this
theorem Loc_HT {K A B C : Int → Int} {d : Nat} {e n a b c : Int} {L : List (Int × Int)} (h : ED 0 n L) (ha : 0 ≤ a ∧ a < n) (hb : 0 ≤ b ∧ b < n) (hc : 0 ≤ c ∧ c < n) : Loc n (fun v => HT K A B C d e (EV v L) (v a) (v b) (v c)) := fun v v' q t => by
  show HT K A B C d e (EV v' L) (v' a) (v' b) (v' c)
  rw [EV_agree h (v := v) (fun k k1 k2 => q k k1 (by omega)), q a ha.1 ha.2, q b hb.1 hb.2, q c hc.1 hc.2]
  exact t
theorem Loc_eq {n a b : Int} (ha : 0 ≤ a ∧ a < n) (hb : 0 ≤ b ∧ b < n) : Loc n (fun v => v a = v b) := fun v v' q t => by
  show v' a = v' b
  rw [q a ha.1 ha.2, q b hb.1 hb.2]
  exact t
theorem Loc_and {n : Int} {T1 T2 : (Int → Tr) → Prop} (h1 : Loc n T1) (h2 : Loc n T2) : Loc n (fun v => T1 v ∧ T2 v) := fun v v' q t => ⟨h1 v v' q t.1, h2 v v' q t.2⟩
