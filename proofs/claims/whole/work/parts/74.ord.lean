/-! ===== letters in the order in which they come ===== -/
def ord : Nat → Tr → List Int → List Int
  | 0, _, W => W
  | n + 1, T, W => if T [] = 2 then ord n (chT T 3) (ord n (chT T 2) (ord n (chT T 1) (ord n (chT T 0) W))) else if 3 ≤ T [] then (if T [] ∈ W then W else W ++ [T []]) else W
theorem ord_fin0 {T : Tr} (h : fin 0 T) (n : Nat) (W : List Int) : ord n T W = W := by
  have e : T [] = -1 := h [] (Nat.zero_le _)
  cases n with
  | zero => rfl
  | succ n => unfold ord; rw [if_neg (by omega), if_neg (by omega)]
theorem ord_m : ∀ (m n : Nat) (T : Tr) (W : List Int), fin m T → m ≤ n → ord n T W = ord m T W := by
  intro m
  induction m with
  | zero => intro n T W h _; rw [ord_fin0 h]; rfl
  | succ m ih =>
    intro n T W h hn
    obtain ⟨n', e⟩ : ∃ n', n = n' + 1 := ⟨n - 1, by omega⟩
    subst e
    unfold ord
    have c := fun i => fin_ch h i
    rw [ih n' _ W (c 0) (by omega), ih n' _ _ (c 1) (by omega), ih n' _ _ (c 2) (by omega), ih n' _ _ (c 3) (by omega)]
theorem ord_in : ∀ (n : Nat) (T : Tr) (W : List Int), (∀ p, 3 ≤ T p → T p ∈ W) → ord n T W = W := by
  intro n
  induction n with
  | zero => intro T W _; rfl
  | succ n ih =>
    intro T W h
    unfold ord
    have c : ∀ i, ord n (chT T i) W = W := fun i => ih _ W (fun p hp => h (i :: p) hp)
    rw [c 0, c 1, c 2, c 3]
    by_cases e2 : T [] = 2
    · rw [if_pos e2]
    · rw [if_neg e2]
      by_cases e3 : 3 ≤ T []
      · rw [if_pos e3, if_pos (h [] e3)]
      · rw [if_neg e3]
theorem ord_fn {n : Nat} {a b c e : Tr} (h : fin n (fnT a b c e)) (W : List Int) : ord n (fnT a b c e) W = ord n e (ord n c (ord n b (ord n a W))) := by
  cases n with
  | zero => exact absurd (h [] (Nat.zero_le _)) (by rw [fnT_n]; decide)
  | succ n =>
    have ha : fin n a := fin_ch h 0
    have hb : fin n b := fin_ch h 1
    have hc : fin n c := fin_ch h 2
    have he : fin n e := fin_ch h 3
    rw [ord_m n (n + 1) a W ha (by omega), ord_m n (n + 1) b _ hb (by omega), ord_m n (n + 1) c _ hc (by omega), ord_m n (n + 1) e _ he (by omega)]
    rfl
theorem ord_letter (n : Nat) {x : Int} (hx : 3 ≤ x) {W : List Int} (hW : x ∉ W) : ord (n + 1) (leaf x) W = W ++ [x] := by
  show (if x = 2 then _ else if 3 ≤ x then (if x ∈ W then W else W ++ [x]) else W) = _
  rw [if_neg (by omega), if_pos hx, if_neg hW]
theorem ord_plain (n : Nat) {x : Int} (hx : x < 2) (W : List Int) : ord n (leaf x) W = W := by
  cases n with
  | zero => rfl
  | succ n =>
    show (if x = 2 then _ else if 3 ≤ x then (if x ∈ W then W else W ++ [x]) else W) = _
    rw [if_neg (by omega), if_neg (by omega)]
def ordL (n : Nat) : List Tr → List Int → List Int
  | [], W => W
  | T :: X, W => ordL n X (ord n T W)
/-- the walk: what waits (the next one first), what was seen, the letters so far -/
def KI (n : Nat) (v : Int → Tr) (X : List Int) (sn : Int → Prop) (W Wf : List Int) : Prop := ordL n (X.map v) W = Wf ∧ ∀ k, sn k → ∃ Y Z, X = Y ++ Z ∧ (∀ y ∈ Y, ∀ m, fin (m + 1) (v k) → fin m (v y)) ∧ ∀ p, 3 ≤ v k p → v k p ∈ W ∨ ∃ y ∈ Y, ∃ p', v y p' = v k p
theorem no_self {T : Tr} (h : tre T) (hs : ∀ m, fin (m + 1) T → fin m T) : False := by
  obtain ⟨h1, n, h2⟩ := h
  have : ∀ m, fin m T → False := by
    intro m
    induction m with
    | zero => intro q; exact h1 (q [] (Nat.zero_le _))
    | succ m ih => intro q; exact ih (hs m q)
  exact this n h2
theorem KI_seen {n : Nat} {v : Int → Tr} {x k : Int} {X : List Int} {sn : Int → Prop} {W Wf : List Int} (hx : v x = v k) (ht : tre (v k)) (h : KI n v (x :: X) sn W Wf) (hs : sn k) : KI n v X sn W Wf := by
  obtain ⟨h1, h2⟩ := h
  have all : ∀ p, 3 ≤ v k p → v k p ∈ W := by
    obtain ⟨Y, Z, e1, e2, e3⟩ := h2 k hs
    cases Y with
    | nil =>
      intro p hp
      rcases e3 p hp with q | ⟨y, hy, -⟩
      · exact q
      · exact absurd hy List.not_mem_nil
    | cons y Y =>
      have : x = y := (List.cons.inj e1).1
      refine absurd (no_self ht (fun m q => ?_)) (fun z => z)
      have := e2 y List.mem_cons_self m q
      rw [← (List.cons.inj e1).1, hx] at this
      exact this
  refine ⟨?_, fun j hj => ?_⟩
  · have : ordL n ((x :: X).map v) W = ordL n (X.map v) (ord n (v x) W) := rfl
    rw [this, hx, ord_in n (v k) W all] at h1
    exact h1
  · obtain ⟨Y, Z, e1, e2, e3⟩ := h2 j hj
    cases Y with
    | nil => exact ⟨[], X, rfl, fun y hy => absurd hy List.not_mem_nil, fun p hp => by
        rcases e3 p hp with q | ⟨y, hy, -⟩
        · exact Or.inl q
        · exact absurd hy List.not_mem_nil⟩
    | cons y Y =>
      obtain ⟨q1, q2⟩ := List.cons.inj e1
      refine ⟨Y, Z, q2, fun z hz => e2 z (List.mem_cons_of_mem _ hz), fun p hp => ?_⟩
      rcases e3 p hp with q | ⟨z, hz, p', hp'⟩
      · exact Or.inl q
      · rcases List.mem_cons.mp hz with rfl | hz
        · rw [← q1, hx] at hp'
          rw [← hp'] at hp ⊢
          exact Or.inl (all p' hp)
        · exact Or.inr ⟨z, hz, p', hp'⟩
/-- a new node that is no function: its own letter, if it is one, is among the letters then -/
theorem KI_leaf {n : Nat} {v : Int → Tr} {x k : Int} {X : List Int} {sn : Int → Prop} {W W' Wf : List Int} (hx : v x = v k) (h : KI n v (x :: X) sn W Wf) (hW : ord n (v k) W = W') (hsub : ∀ y ∈ W, y ∈ W') (hk : ∀ p, 3 ≤ v k p → v k p ∈ W') : KI n v X (fun j => sn j ∨ j = k) W' Wf := by
  obtain ⟨h1, h2⟩ := h
  refine ⟨?_, fun j hj => ?_⟩
  · have : ordL n ((x :: X).map v) W = ordL n (X.map v) (ord n (v x) W) := rfl
    rw [this, hx, hW] at h1
    exact h1
  · rcases hj with hj | hj
    · obtain ⟨Y, Z, e1, e2, e3⟩ := h2 j hj
      cases Y with
      | nil => exact ⟨[], X, rfl, fun y hy => absurd hy List.not_mem_nil, fun p hp => by
          rcases e3 p hp with q | ⟨y, hy, -⟩
          · exact Or.inl (hsub _ q)
          · exact absurd hy List.not_mem_nil⟩
      | cons y Y =>
        obtain ⟨q1, q2⟩ := List.cons.inj e1
        refine ⟨Y, Z, q2, fun z hz => e2 z (List.mem_cons_of_mem _ hz), fun p hp => ?_⟩
        rcases e3 p hp with q | ⟨z, hz, p', hp'⟩
        · exact Or.inl (hsub _ q)
        · rcases List.mem_cons.mp hz with rfl | hz
          · rw [← q1, hx] at hp'
            rw [← hp'] at hp ⊢
            exact Or.inl (hk p' hp)
          · exact Or.inr ⟨z, hz, p', hp'⟩
    · rw [hj]
      exact ⟨[], X, rfl, fun y hy => absurd hy List.not_mem_nil, fun p hp => Or.inl (hk p hp)⟩
theorem KI_fn {n : Nat} {v : Int → Tr} {x k : Int} {X : List Int} {sn : Int → Prop} {W Wf : List Int} (hx : v x = v k) (h : KI n v (x :: X) sn W Wf) (hf : fin n (v k)) {a b c e : Int} (hv : v k = fnT (v a) (v b) (v c) (v e)) : KI n v (a :: b :: c :: e :: X) (fun j => sn j ∨ j = k) W Wf := by
  obtain ⟨h1, h2⟩ := h
  have lt : ∀ y ∈ [a, b, c, e], ∀ m, fin (m + 1) (v k) → fin m (v y) := fun y hy m hm => by
    have q := fun i => fin_ch hm i
    rw [hv] at q
    rcases List.mem_cons.mp hy with rfl | hy
    · exact q 0
    rcases List.mem_cons.mp hy with rfl | hy
    · exact q 1
    rcases List.mem_cons.mp hy with rfl | hy
    · exact q 2
    rcases List.mem_cons.mp hy with rfl | hy
    · exact q 3
    · exact absurd hy List.not_mem_nil
  have lab : ∀ p, 3 ≤ v k p → ∃ y ∈ [a, b, c, e], ∃ p', v y p' = v k p := fun p hp => by
    rw [hv] at hp ⊢
    cases p with
    | nil => rw [fnT_n] at hp; exact absurd hp (by decide)
    | cons i p =>
      by_cases hi : 0 ≤ i ∧ i < 4
      · rcases idx4 hi with rfl | rfl | rfl | rfl
        · exact ⟨a, List.mem_cons_self, p, rfl⟩
        · exact ⟨b, List.mem_cons_of_mem _ List.mem_cons_self, p, rfl⟩
        · exact ⟨c, List.mem_cons_of_mem _ (List.mem_cons_of_mem _ List.mem_cons_self), p, rfl⟩
        · exact ⟨e, List.mem_cons_of_mem _ (List.mem_cons_of_mem _ (List.mem_cons_of_mem _ List.mem_cons_self)), p, rfl⟩
      · rw [fnT_o _ _ _ _ _ _ hi] at hp
        exact absurd hp (by decide)
  refine ⟨?_, fun j hj => ?_⟩
  · have e1 : ordL n ((x :: X).map v) W = ordL n (X.map v) (ord n (v x) W) := rfl
    have e2 : ordL n ((a :: b :: c :: e :: X).map v) W = ordL n (X.map v) (ord n (v e) (ord n (v c) (ord n (v b) (ord n (v a) W)))) := rfl
    rw [e2]
    rw [hv] at hf
    rw [e1, hx, hv, ord_fn hf] at h1
    exact h1
  · rcases hj with hj | hj
    · obtain ⟨Y, Z, q1, q2, q3⟩ := h2 j hj
      cases Y with
      | nil => exact ⟨[], a :: b :: c :: e :: X, rfl, fun y hy => absurd hy List.not_mem_nil, fun p hp => by
          rcases q3 p hp with q | ⟨y, hy, -⟩
          · exact Or.inl q
          · exact absurd hy List.not_mem_nil⟩
      | cons y Y =>
        obtain ⟨r1, r2⟩ := List.cons.inj q1
        refine ⟨a :: b :: c :: e :: Y, Z, by rw [r2]; rfl, fun z hz m hm => ?_, fun p hp => ?_⟩
        · have hz' : z ∈ [a, b, c, e] ++ Y := hz
          rcases List.mem_append.mp hz' with hz | hz
          · have := q2 y List.mem_cons_self m hm
            rw [← r1, hx] at this
            cases m with
            | zero =>
              have := this [] (Nat.zero_le _)
              rw [hv, fnT_n] at this
              exact absurd this (by decide)
            | succ m => exact fin_m (lt z hz m this) (by omega)
          · exact q2 z (List.mem_cons_of_mem _ hz) m hm
        · rcases q3 p hp with q | ⟨z, hz, p', hp'⟩
          · exact Or.inl q
          · rcases List.mem_cons.mp hz with rfl | hz
            · rw [← r1, hx] at hp'
              rw [← hp'] at hp ⊢
              obtain ⟨y', g1, p'', g2⟩ := lab p' hp
              refine Or.inr ⟨y', ?_, p'', g2⟩
              show y' ∈ [a, b, c, e] ++ Y
              exact List.mem_append.mpr (Or.inl g1)
            · refine Or.inr ⟨z, ?_, p', hp'⟩
              show z ∈ [a, b, c, e] ++ Y
              exact List.mem_append.mpr (Or.inr hz)
    · rw [hj]
      exact ⟨[a, b, c, e], X, rfl, lt, fun p hp => Or.inr (lab p hp)⟩
