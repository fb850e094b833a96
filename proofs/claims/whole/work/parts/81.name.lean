/-! ===== two most general types differ by the names of their letters alone ===== -/
/-- nothing is below a label that is no function -/
def wel (T : Tr) : Prop := ∀ (p : List Int) (i : Int), T (p ++ [i]) ≠ -1 → T p = 2
theorem sbp_at {s : Int → Tr} : ∀ (p : List Int) (T : Tr), (∀ a b : List Int, p = a ++ b → T a < 3) → sb s p T = T p := by
  intro p
  induction p with
  | nil =>
    intro T h
    show (if 3 ≤ T [] then s (T [] - 3) [] else T []) = T []
    have := h [] [] rfl
    rw [if_neg (by omega)]
  | cons i p ih =>
    intro T h
    show (if 3 ≤ T [] then s (T [] - 3) (i :: p) else sb s p (chT T i)) = T (i :: p)
    have := h [] (i :: p) rfl
    rw [if_neg (by omega), ih (chT T i) (fun a b e => h (i :: a) b (by rw [e]; rfl))]
    rfl
theorem sbp_let {s : Int → Tr} : ∀ (p : List Int) (T : Tr), (∀ (a b : List Int) (i : Int), p = a ++ i :: b → T a < 3) → 3 ≤ T p → sb s p T = s (T p - 3) [] := by
  intro p
  induction p with
  | nil =>
    intro T _ h
    show (if 3 ≤ T [] then s (T [] - 3) [] else T []) = _
    rw [if_pos h]
  | cons i p ih =>
    intro T h h3
    show (if 3 ≤ T [] then s (T [] - 3) (i :: p) else sb s p (chT T i)) = _
    have := h [] p i rfl
    rw [if_neg (by omega), ih (chT T i) (fun a b j e => h (i :: a) b j (by rw [e]; rfl)) h3]
    rfl
theorem wel_none {T : Tr} (h : wel T) : ∀ (r q : List Int), T q = -1 → T (q ++ r) = -1 := by
  intro r
  induction r with
  | nil => intro q hq; rw [List.append_nil]; exact hq
  | cons i r ih =>
    intro q hq
    rw [show q ++ i :: r = (q ++ [i]) ++ r by rw [List.append_assoc]; rfl]
    refine ih _ (Classical.byContradiction (fun z => ?_))
    have := h q i z
    omega
theorem wel_pre {T : Tr} (h : wel T) {a b : List Int} {i : Int} (hp : T (a ++ i :: b) ≠ -1) : T a = 2 := by
  refine h a i (fun z => hp ?_)
  rw [show a ++ i :: b = (a ++ [i]) ++ b by rw [List.append_assoc]; rfl]
  exact wel_none h b _ z
theorem v0_wel {F P R : Int → Int} : ∀ (p : List Int) (i k : Int), ul F P R (p ++ [i]) k ≠ -1 → ul F P R p k = 2 := by
  intro p
  induction p with
  | nil =>
    intro i k h
    have h : (if F (R k) = 2 ∧ 0 ≤ i ∧ i < 4 then ul F P R [] (P (4 * R k + i)) else -1) ≠ -1 := h
    by_cases z : F (R k) = 2 ∧ 0 ≤ i ∧ i < 4
    · show (if F (R k) = 3 then 3 + R k else F (R k)) = 2
      rw [if_neg (by omega)]; exact z.1
    · rw [if_neg z] at h; exact absurd rfl h
  | cons j p ih =>
    intro i k h
    have h : (if F (R k) = 2 ∧ 0 ≤ j ∧ j < 4 then ul F P R (p ++ [i]) (P (4 * R k + j)) else -1) ≠ -1 := h
    by_cases z : F (R k) = 2 ∧ 0 ≤ j ∧ j < 4
    · rw [if_pos z] at h
      show (if F (R k) = 2 ∧ 0 ≤ j ∧ j < 4 then ul F P R p (P (4 * R k + j)) else -1) = 2
      rw [if_pos z]
      exact ih i _ h
    · rw [if_neg z] at h; exact absurd rfl h
section
variable {T U : Tr} {s s' : Int → Tr}
theorem same_shape (hT : ∀ p, T p = sb s p U) (hU : ∀ p, U p = sb s' p T) (wT : wel T) (wU : wel U) : ∀ (m : Nat) (p : List Int), p.length ≤ m → (T p < 3 ∧ U p = T p) ∨ (3 ≤ T p ∧ 3 ≤ U p) := by
  intro m
  induction m with
  | zero =>
    intro p hp
    have e : p = [] := List.length_eq_zero_iff.mp (by omega)
    subst e
    by_cases z : T [] < 3
    · refine Or.inl ⟨z, ?_⟩
      rw [hU]
      show (if 3 ≤ T [] then _ else T []) = T []
      rw [if_neg (by omega)]
    · refine Or.inr ⟨by omega, Classical.byContradiction (fun y => ?_)⟩
      have := hT []
      have : T [] = (if 3 ≤ U [] then s (U [] - 3) [] else U []) := this
      rw [if_neg y] at this
      omega
  | succ m ih =>
    intro p hp
    by_cases B : ∃ (a b : List Int) (i : Int), p = a ++ i :: b ∧ 3 ≤ T a
    · obtain ⟨a, b, i, e, ha⟩ := B
      have hl : a.length ≤ m := by
        rw [e, List.length_append, List.length_cons] at hp
        omega
      have ua : 3 ≤ U a := by
        rcases ih a hl with q | q
        · omega
        · exact q.2
      have t1 : T p = -1 := Classical.byContradiction (fun z => by rw [e] at z; have := wel_pre wT z; omega)
      have u1 : U p = -1 := Classical.byContradiction (fun z => by rw [e] at z; have := wel_pre wU z; omega)
      exact Or.inl ⟨by omega, by rw [t1, u1]⟩
    · have pre : ∀ (a b : List Int) (i : Int), p = a ++ i :: b → T a < 3 ∧ U a = T a := fun a b i e => by
        have hl : a.length ≤ m := by
          rw [e, List.length_append, List.length_cons] at hp
          omega
        rcases ih a hl with q | q
        · exact q
        · exact absurd ⟨a, b, i, e, q.1⟩ B
      by_cases z : T p < 3
      · refine Or.inl ⟨z, ?_⟩
        rw [hU p]
        refine sbp_at p T (fun a b e => ?_)
        cases b with
        | nil => rw [List.append_nil] at e; rw [← e]; exact z
        | cons i b => exact (pre a b i e).1
      · refine Or.inr ⟨by omega, Classical.byContradiction (fun y => ?_)⟩
        have : T p = U p := by
          rw [hT p]
          refine sbp_at p U (fun a b e => ?_)
          cases b with
          | nil => rw [List.append_nil] at e; rw [← e]; omega
          | cons i b => rw [(pre a b i e).2]; exact (pre a b i e).1
        omega
/-- the letters of U by those of T -/
theorem same_let (hU : ∀ p, U p = sb s' p T) (wT : wel T) (p : List Int) (hp : 3 ≤ T p) : U p = s' (T p - 3) [] := by
  rw [hU p]
  refine sbp_let p T (fun a b i e => ?_) hp
  have : T a = 2 := wel_pre wT (b := b) (i := i) (by rw [← e]; omega)
  omega
end
/-- a tree with other names for its letters -/
theorem ord_name {f : Int → Int} : ∀ (n : Nat) (T U : Tr) (S : Int → Prop), (∀ p, (T p < 3 ∧ U p = T p) ∨ (3 ≤ T p ∧ 3 ≤ U p ∧ U p = f (T p) ∧ S (T p))) → (∀ x y, S x → S y → f x = f y → x = y) → ∀ W : List Int, (∀ x ∈ W, S x) → ord n U (W.map f) = (ord n T W).map f ∧ ∀ x ∈ ord n T W, S x := by
  intro n
  induction n with
  | zero => intro T U S _ _ W hW; exact ⟨rfl, hW⟩
  | succ n ih =>
    intro T U S h inj W hW
    unfold ord
    rcases h [] with ⟨h1, h2⟩ | ⟨h1, h2, h3, h4⟩
    · rw [h2]
      by_cases e : T [] = 2
      · rw [if_pos e, if_pos e]
        have c : ∀ i, ∀ W : List Int, (∀ x ∈ W, S x) → ord n (chT U i) (W.map f) = (ord n (chT T i) W).map f ∧ ∀ x ∈ ord n (chT T i) W, S x := fun i W hW => ih (chT T i) (chT U i) S (fun p => h (i :: p)) inj W hW
        have c0 := c 0 W hW
        have c1 := c 1 _ c0.2
        have c2 := c 2 _ c1.2
        have c3 := c 3 _ c2.2
        rw [c0.1, c1.1, c2.1, c3.1]
        exact ⟨rfl, c3.2⟩
      · rw [if_neg e, if_neg e, if_neg (by omega), if_neg (by omega)]
        exact ⟨rfl, hW⟩
    · rw [if_neg (show ¬ U [] = 2 by omega), if_pos h2, if_neg (show ¬ T [] = 2 by omega), if_pos h1, h3]
      by_cases m : T [] ∈ W
      · rw [if_pos m, if_pos (List.mem_map.mpr ⟨_, m, rfl⟩)]
        exact ⟨rfl, hW⟩
      · rw [if_neg m, if_neg (fun q => by
          obtain ⟨x, x1, x2⟩ := List.mem_map.mp q
          have := inj x (T []) (hW x x1) h4 x2
          rw [this] at x1
          exact m x1)]
        refine ⟨by rw [List.map_append]; rfl, fun x hx => ?_⟩
        rcases List.mem_append.mp hx with q | q
        · exact hW x q
        · rw [List.mem_singleton.mp q]; exact h4
theorem nodup_at : ∀ (W : List Int) (i j : Nat) (a : Int), W.Nodup → W[i]? = some a → W[j]? = some a → i = j := by
  intro W
  induction W with
  | nil => intro i j a _ h; exact absurd h (by rw [List.getElem?_nil]; intro z; cases z)
  | cons w W ih =>
    intro i j a hN h1 h2
    have hN := List.nodup_cons.mp hN
    cases i with
    | zero =>
      cases j with
      | zero => rfl
      | succ j =>
        have e : w = a := Option.some.inj h1
        rw [List.getElem?_cons_succ] at h2
        exact absurd (List.mem_of_getElem? h2) (by rw [← e]; exact hN.1)
    | succ i =>
      cases j with
      | zero =>
        have e : w = a := Option.some.inj h2
        rw [List.getElem?_cons_succ] at h1
        exact absurd (List.mem_of_getElem? h1) (by rw [← e]; exact hN.1)
      | succ j =>
        rw [List.getElem?_cons_succ] at h1 h2
        rw [ih i j a hN.2 h1 h2]
/-- reading both by the same path gives the same number -/
theorem RD_name {f : Int → Int} : ∀ (n : Nat) (T U : Tr) (S : Int → Prop) (W : List Int), (∀ p, (T p < 3 ∧ U p = T p) ∨ (3 ≤ T p ∧ 3 ≤ U p ∧ U p = f (T p) ∧ S (T p))) → (∀ x y, S x → S y → f x = f y → x = y) → (∀ x ∈ W, S x) → W.Nodup → ∀ x r r', RD W n T x r → RD (W.map f) n U x r' → r = r' := by
  intro n
  induction n with
  | zero => intro T U S W _ _ _ _ x r r' h; exact absurd h (fun q => q)
  | succ n ih =>
    intro T U S W h inj hW hN x r r' h1 h2
    unfold RD at h1 h2
    by_cases hx : x ≤ 0
    · rw [if_pos hx] at h1 h2
      rcases h [] with ⟨a1, a2⟩ | ⟨a1, a2, a3, a4⟩
      · rcases h1 with q | q
        · rcases h2 with q' | q'
          · rw [q.2, q'.2, a2]
          · omega
        · omega
      · rcases h1 with q | q
        · omega
        · rcases h2 with q' | q'
          · omega
          · rw [a3] at q'
            have e1 := q.2.2
            have e2 := q'.2.2
            rw [List.getElem?_map] at e2
            obtain ⟨y, y1, y2⟩ := Option.map_eq_some_iff.mp e2
            have yS : S y := hW y (List.mem_of_getElem? y1)
            have yT : y = T [] := inj y (T []) yS a4 y2
            rw [yT] at y1
            have := nodup_at W _ _ _ hN e1 y1
            omega
    · rw [if_neg hx] at h1 h2
      have u2 : (T [] ≠ 2) = (U [] ≠ 2) := by
        rcases h [] with ⟨a1, a2⟩ | ⟨a1, a2, a3, a4⟩
        · rw [a2]
        · exact propext ⟨fun _ => by omega, fun _ => by omega⟩
      have cc : (x % 10 < 1 ∨ 4 < x % 10 ∨ T [] ≠ 2) ↔ (x % 10 < 1 ∨ 4 < x % 10 ∨ U [] ≠ 2) := by rw [u2]
      by_cases c : x % 10 < 1 ∨ 4 < x % 10 ∨ T [] ≠ 2
      · rw [if_pos c] at h1
        rw [if_pos (cc.mp c)] at h2
        rw [h1, h2]
      · rw [if_neg c] at h1
        rw [if_neg (fun q => c (cc.mpr q))] at h2
        exact ih _ _ S W (fun p => h ((x % 10 - 1) :: p)) inj hW hN _ r r' h1 h2
