/-! ===== types as trees: a label for each path; 0 number, 1 truth, 2 function, 3 + i a letter, -1 nothing ===== -/
abbrev Tr : Type := List Int → Int
def leaf (x : Int) : Tr := fun p => match p with | [] => x | _ :: _ => -1
def fnT (a b c e : Tr) : Tr := fun p => match p with | [] => 2 | i :: q => if i = 0 then a q else if i = 1 then b q else if i = 2 then c q else if i = 3 then e q else -1
def chT (T : Tr) (i : Int) : Tr := fun p => T (i :: p)
def fin (n : Nat) (T : Tr) : Prop := ∀ p : List Int, n ≤ p.length → T p = -1
def tre (T : Tr) : Prop := T [] ≠ -1 ∧ ∃ n, fin n T
theorem leaf_n (x : Int) : leaf x [] = x := rfl
theorem leaf_c (x i : Int) (p : List Int) : leaf x (i :: p) = -1 := rfl
theorem fnT_n (a b c e : Tr) : fnT a b c e [] = 2 := rfl
theorem fnT_0 (a b c e : Tr) (p : List Int) : fnT a b c e (0 :: p) = a p := rfl
theorem fnT_1 (a b c e : Tr) (p : List Int) : fnT a b c e (1 :: p) = b p := rfl
theorem fnT_2 (a b c e : Tr) (p : List Int) : fnT a b c e (2 :: p) = c p := rfl
theorem fnT_3 (a b c e : Tr) (p : List Int) : fnT a b c e (3 :: p) = e p := rfl
theorem fnT_o (a b c e : Tr) (i : Int) (p : List Int) (h : ¬ (0 ≤ i ∧ i < 4)) : fnT a b c e (i :: p) = -1 := by
  show (if i = 0 then a p else if i = 1 then b p else if i = 2 then c p else if i = 3 then e p else -1) = -1
  rw [if_neg (by omega), if_neg (by omega), if_neg (by omega), if_neg (by omega)]
theorem fnT_inj {a b c e a' b' c' e' : Tr} (h : fnT a b c e = fnT a' b' c' e') : a = a' ∧ b = b' ∧ c = c' ∧ e = e' :=
  ⟨funext fun p => congrFun h (0 :: p), funext fun p => congrFun h (1 :: p), funext fun p => congrFun h (2 :: p), funext fun p => congrFun h (3 :: p)⟩
theorem idx4 {i : Int} (h : 0 ≤ i ∧ i < 4) : i = 0 ∨ i = 1 ∨ i = 2 ∨ i = 3 := by omega
theorem fin_m {n m : Nat} {T : Tr} (h : fin n T) (hm : n ≤ m) : fin m T := fun p hp => h p (Nat.le_trans hm hp)
theorem fin_leaf (x : Int) : fin 1 (leaf x) := fun p hp => by
  cases p with
  | nil => exact absurd hp (by decide)
  | cons i q => rfl
theorem tre_leaf {x : Int} (h : x ≠ -1) : tre (leaf x) := ⟨h, 1, fin_leaf x⟩
theorem fin_fn {n : Nat} {a b c e : Tr} (ha : fin n a) (hb : fin n b) (hc : fin n c) (he : fin n e) : fin (n + 1) (fnT a b c e) := fun p hp => by
  cases p with
  | nil => exact absurd hp (Nat.not_succ_le_zero n)
  | cons i q =>
    have hq : n ≤ q.length := Nat.le_of_succ_le_succ hp
    by_cases h : 0 ≤ i ∧ i < 4
    · rcases idx4 h with rfl | rfl | rfl | rfl
      · exact ha q hq
      · exact hb q hq
      · exact hc q hq
      · exact he q hq
    · exact fnT_o a b c e i q h
theorem fin_ch {n : Nat} {T : Tr} (h : fin (n + 1) T) (i : Int) : fin n (chT T i) := fun p hp => h (i :: p) (Nat.succ_le_succ hp)
theorem tre_fn {a b c e : Tr} (ha : tre a) (hb : tre b) (hc : tre c) (he : tre e) : tre (fnT a b c e) := by
  obtain ⟨-, n1, h1⟩ := ha
  obtain ⟨-, n2, h2⟩ := hb
  obtain ⟨-, n3, h3⟩ := hc
  obtain ⟨-, n4, h4⟩ := he
  exact ⟨by rw [fnT_n]; decide, n1 + n2 + n3 + n4 + 1, fin_fn (fin_m h1 (by omega)) (fin_m h2 (by omega)) (fin_m h3 (by omega)) (fin_m h4 (by omega))⟩
theorem leaf_ne_fn {x : Int} (h : x ≠ 2) {a b c e : Tr} : leaf x ≠ fnT a b c e := fun q => h (congrFun q [])
theorem leaf_inj {x y : Int} (h : leaf x = leaf y) : x = y := congrFun h []
/-! a node set lo .. lo + n - 1, forms F, parts P, chosen nodes R; v gives each node a tree -/
def MD (lo n : Int) (F P R : Int → Int) (v : Int → Tr) : Prop := ∀ k, lo ≤ k → k < lo + n → tre (v k) ∧ v k = v (R k) ∧ (F k = 0 → v k = leaf 0) ∧ (F k = 1 → v k = leaf 1) ∧ (F k = 2 → v k = fnT (v (P (4 * k))) (v (P (4 * k + 1))) (v (P (4 * k + 2))) (v (P (4 * k + 3))))
def US (lo n : Int) (S R : Int → Int) (d : Int → Nat) (J : Nat) (L : List Int) : Prop := (∀ k, lo ≤ k → k < lo + n → (lo ≤ S k ∧ S k < lo + n) ∧ (lo ≤ R k ∧ R k < lo + n) ∧ R (S k) = R k ∧ S (R k) = R k ∧ (S k = k → R k = k) ∧ (S k ≠ k → d (S k) < d k) ∧ d k ≤ J ∧ (S k = k → k ∈ L ∧ d k = 0)) ∧ (J : Int) + L.length ≤ n
/-- w has one value on what is the same, on numbers, and on truths -/
def RW (lo n : Int) (F R : Int → Int) (w : Int → Int) : Prop := (∀ k, lo ≤ k → k < lo + n → w k = w (R k)) ∧ ∀ k j, lo ≤ k → k < lo + n → lo ≤ j → j < lo + n → F k = F j → (F k = 0 ∨ F k = 1) → w k = w j
def CL (lo n : Int) (F P R : Int → Int) (q : (Int → Int) → Prop) : Prop := ∀ k, lo ≤ k → k < lo + n → (0 ≤ F k ∧ F k ≤ 3) ∧ (F k = 0 → F (R k) = 0) ∧ (F k = 1 → F (R k) = 1) ∧ (F k = 2 → F (R k) = 2 ∧ (∀ i, 0 ≤ i → i < 4 → lo ≤ P (4 * k + i) ∧ P (4 * k + i) < lo + n) ∧ ∀ w, RW lo n F R w → q w → ∀ i, 0 ≤ i → i < 4 → w (P (4 * k + i)) = w (P (4 * R k + i)))
def FL (lo n : Int) (F R : Int → Int) (L : List Int) : Prop := ∀ k, lo ≤ k → k < lo + n → F k = 2 → R k = k → k ∈ L
def SQ {α : Type} (B : Int → Int) (m : Int) (w : Int → α) : Prop := ∀ j, 0 ≤ j → j < m → w (B (2 * j)) = w (B (2 * j + 1))
def up (f : Int → Int) (k x : Int) : Int → Int := fun i => if i = k then x else f i
theorem up_s (f : Int → Int) (k x : Int) : up f k x k = x := if_pos rfl
theorem up_n {f : Int → Int} {k x i : Int} (h : i ≠ k) : up f k x i = f i := if_neg h
def mg (R : Int → Int) (l r : Int) : Int → Int := fun k => if R k = l then r else R k
theorem US_RR {lo n : Int} {S R : Int → Int} {d : Int → Nat} {J : Nat} {L : List Int} (h : US lo n S R d J L) {k : Int} (h1 : lo ≤ k) (h2 : k < lo + n) : R (R k) = R k := by
  have a := h.1 k h1 h2
  have b := h.1 (R k) a.2.1.1 a.2.1.2
  exact b.2.2.2.2.1 a.2.2.2.1
theorem US_merge {lo n : Int} {S R : Int → Int} {d : Int → Nat} {J : Nat} {L : List Int} (h : US lo n S R d J L) {l r : Int} (hl : lo ≤ l ∧ l < lo + n) (hr : lo ≤ r ∧ r < lo + n) (sl : S l = l) (sr : S r = r) (hlr : l ≠ r) : US lo n (up S l r) (mg R l r) (fun k => if R k = l then d k + 1 else d k) (J + 1) (L.erase l) := by
  have Rl : R l = l := (h.1 l hl.1 hl.2).2.2.2.2.1 sl
  have Rr : R r = r := (h.1 r hr.1 hr.2).2.2.2.2.1 sr
  have lL : l ∈ L := ((h.1 l hl.1 hl.2).2.2.2.2.2.2.2 sl).1
  have dl : d l = 0 := ((h.1 l hl.1 hl.2).2.2.2.2.2.2.2 sl).2
  have dr : d r = 0 := ((h.1 r hr.1 hr.2).2.2.2.2.2.2.2 sr).2
  refine ⟨fun k h1 h2 => ?_, ?_⟩
  · obtain ⟨a1, a2, a3, a4, a5, a6, a7, a8⟩ := h.1 k h1 h2
    by_cases hk : k = l
    · subst hk
      rw [up_s]
      have e1 : mg R k r k = r := if_pos Rl
      have e2 : mg R k r r = r := by unfold mg; rw [Rr, if_neg (Ne.symm hlr)]
      refine ⟨hr, by rw [e1]; exact hr, by rw [e1, e2], by rw [e1, up_n (Ne.symm hlr)]; exact sr, fun q => absurd q (Ne.symm hlr), fun _ => ?_, ?_, fun q => absurd q (Ne.symm hlr)⟩
      · show (if R r = k then d r + 1 else d r) < (if R k = k then d k + 1 else d k)
        rw [Rr, if_neg (Ne.symm hlr), if_pos Rl, dr]
        exact Nat.succ_pos _
      · show (if R k = k then d k + 1 else d k) ≤ J + 1
        rw [if_pos Rl]; omega
    · rw [up_n hk]
      have eS : mg R l r (S k) = mg R l r k := by unfold mg; rw [a3]
      have eM : lo ≤ mg R l r k ∧ mg R l r k < lo + n := by
        unfold mg
        split
        · exact hr
        · exact a2
      refine ⟨a1, eM, eS, ?_, fun q => ?_, fun q => ?_, ?_, fun q => ⟨?_, ?_⟩⟩
      · unfold mg
        split
        · rw [up_n (Ne.symm hlr)]; exact sr
        · next g => rw [up_n g]; exact a4
      · have := a5 q
        show (if R k = l then r else R k) = k
        rw [this, if_neg hk]
      · have := a6 q
        show (if R (S k) = l then d (S k) + 1 else d (S k)) < (if R k = l then d k + 1 else d k)
        rw [a3]
        split <;> omega
      · show (if R k = l then d k + 1 else d k) ≤ J + 1
        split <;> omega
      · exact (List.mem_erase_of_ne hk).mpr (a8 q).1
      · show (if R k = l then d k + 1 else d k) = 0
        rw [a5 q, if_neg hk]
        exact (a8 q).2
  · rw [List.length_erase_of_mem lL]
    have : 0 < L.length := List.length_pos_of_mem lL
    have := h.2
    omega
theorem US_new {lo n : Int} {S R : Int → Int} {d : Int → Nat} {J : Nat} {L : List Int} (h : US lo n S R d J L) (hn : 0 ≤ n) {S' : Int → Int} (hS : ∀ k, lo ≤ k → k < lo + n → S' k = S k) (hs : S' (lo + n) = lo + n) : US lo (n + 1) S' (up R (lo + n) (lo + n)) (fun k => if k = lo + n then 0 else d k) J ((lo + n) :: L) := by
  refine ⟨fun k h1 h2 => ?_, ?_⟩
  · by_cases hk : k = lo + n
    · rw [hk, hs, up_s, hs]
      refine ⟨by omega, by omega, rfl, rfl, fun _ => rfl, fun q => absurd rfl q, ?_, fun _ => ⟨List.mem_cons_self, ?_⟩⟩
      · show (if lo + n = lo + n then 0 else d (lo + n)) ≤ J
        rw [if_pos rfl]; exact Nat.zero_le _
      · show (if lo + n = lo + n then 0 else d (lo + n)) = 0
        rw [if_pos rfl]
    · have h2' : k < lo + n := by omega
      obtain ⟨a1, a2, a3, a4, a5, a6, a7, a8⟩ := h.1 k h1 h2'
      have e1 : S k ≠ lo + n := by omega
      have e2 : R k ≠ lo + n := by omega
      rw [hS k h1 h2', up_n hk]
      refine ⟨by omega, by omega, by rw [up_n e1]; exact a3, by rw [hS _ a2.1 a2.2]; exact a4, a5, fun q => ?_, ?_, fun q => ⟨List.mem_cons_of_mem _ (a8 q).1, ?_⟩⟩
      · show (if S k = lo + n then 0 else d (S k)) < (if k = lo + n then 0 else d k)
        rw [if_neg e1, if_neg hk]; exact a6 q
      · show (if k = lo + n then 0 else d k) ≤ J
        rw [if_neg hk]; exact a7
      · show (if k = lo + n then 0 else d k) = 0
        rw [if_neg hk]; exact (a8 q).2
  · have := h.2
    rw [List.length_cons]
    omega
theorem US_J {lo n : Int} {S R : Int → Int} {d : Int → Nat} {J : Nat} {L : List Int} (h : US lo n S R d J L) {k : Int} (h1 : lo ≤ k) (h2 : k < lo + n) : (d k : Int) < n := by
  obtain ⟨a1, a2, a3, a4, a5, a6, a7, a8⟩ := h.1 k h1 h2
  have hm := ((h.1 (R k) a2.1 a2.2).2.2.2.2.2.2.2 a4).1
  have : 0 < L.length := List.length_pos_of_mem hm
  have := h.2
  omega
/-- one node's pointer moved up keeps all -/
theorem US_half {lo n : Int} {S R : Int → Int} {d : Int → Nat} {J : Nat} {L : List Int} (h : US lo n S R d J L) {k : Int} (h1 : lo ≤ k) (h2 : k < lo + n) (hk : S k ≠ k) {S' : Int → Int} (hS : ∀ i, S' i = if i = k then S (S k) else S i) : US lo n S' R d J L := by
  obtain ⟨b1, b2, b3, b4, b5, b6, b7, b8⟩ := h.1 k h1 h2
  obtain ⟨c1, c2, c3, c4, c5, c6, c7, c8⟩ := h.1 (S k) b1.1 b1.2
  have dlt : d (S (S k)) < d k := by
    by_cases q : S (S k) = S k
    · rw [q]; exact b6 hk
    · exact Nat.lt_trans (c6 q) (b6 hk)
  have ne : S (S k) ≠ k := fun q => by rw [q] at dlt; exact Nat.lt_irrefl _ dlt
  refine ⟨fun i i1 i2 => ?_, h.2⟩
  obtain ⟨a1, a2, a3, a4, a5, a6, a7, a8⟩ := h.1 i i1 i2
  have hRi : S' (R i) = R i := by
    rw [hS]
    by_cases q : R i = k
    · exact absurd (by rw [← q]; exact a4) hk
    · rw [if_neg q]; exact a4
  by_cases q : i = k
  · subst q
    rw [hS i, if_pos rfl]
    exact ⟨c1, a2, by rw [c3, b3], hRi, fun e => absurd e ne, fun _ => dlt, a7, fun e => absurd e ne⟩
  · rw [hS i, if_neg q]
    exact ⟨a1, a2, a3, hRi, a5, a6, a7, a8⟩
/-! merging two chosen nodes, as models see it -/
theorem mg_in {lo n : Int} {R : Int → Int} {l r : Int} (hR : ∀ k, lo ≤ k → k < lo + n → lo ≤ R k ∧ R k < lo + n) (hr : lo ≤ r ∧ r < lo + n) {k : Int} (h1 : lo ≤ k) (h2 : k < lo + n) : lo ≤ mg R l r k ∧ mg R l r k < lo + n := by
  unfold mg
  split
  · exact hr
  · exact hR k h1 h2
theorem mg_w {α : Type} {lo n : Int} {R : Int → Int} {l r : Int} (hRl : R l = l) (hl : lo ≤ l ∧ l < lo + n) {w : Int → α} (hlr : l ≠ r) (hRR : ∀ k, lo ≤ k → k < lo + n → (lo ≤ R k ∧ R k < lo + n) ∧ R (R k) = R k) (h : ∀ k, lo ≤ k → k < lo + n → w k = w (mg R l r k)) : w l = w r ∧ ∀ k, lo ≤ k → k < lo + n → w k = w (R k) := by
  have e : w l = w r := by
    have := h l hl.1 hl.2
    unfold mg at this
    rw [hRl, if_pos rfl] at this
    exact this
  refine ⟨e, fun k h1 h2 => ?_⟩
  have a := h k h1 h2
  unfold mg at a
  by_cases q : R k = l
  · rw [if_pos q] at a
    rw [a, q, e]
  · rw [if_neg q] at a
    exact a
theorem mg_v {α : Type} {lo n : Int} {R : Int → Int} {l r : Int} {w : Int → α} (e : w l = w r) (h : ∀ k, lo ≤ k → k < lo + n → w k = w (R k)) : ∀ k, lo ≤ k → k < lo + n → w k = w (mg R l r k) := fun k h1 h2 => by
  unfold mg
  by_cases q : R k = l
  · rw [if_pos q, h k h1 h2, q, e]
  · rw [if_neg q]; exact h k h1 h2
