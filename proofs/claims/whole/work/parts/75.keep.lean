/-! ===== the class keeps the type that it found ===== -/
def stk (B : Int → Int) : Nat → List Int
  | 0 => []
  | m + 1 => B m :: stk B m
theorem stk_c {B B' : Int → Int} : ∀ (m : Nat), (∀ j : Int, 0 ≤ j → j < m → B' j = B j) → stk B' m = stk B m := by
  intro m
  induction m with
  | zero => intro _; rfl
  | succ m ih =>
    intro h
    show B' m :: stk B' m = B m :: stk B m
    rw [ih (fun j j1 j2 => h j j1 (by omega)), h m (by omega) (by omega)]
theorem c_fill {N : Nat} : ∀ (M : Nat) (σ : Sg) (x : Int), 0 ≤ x → x ≤ 604 → 605 ≤ x + M → ∃ σ', b7_fill_53178_5 N M σ (-1) x 604 = some (σ', 0) ∧ (∀ j, x ≤ j → j < 604 → gA σ' 20 j = -1) ∧ (∀ j, j < x → gA σ' 20 j = gA σ 20 j) ∧ fr [] [20] σ σ' := by
  intro M
  induction M with
  | zero => intro σ x h1 h2 h3; exact absurd h3 (by omega)
  | succ M ih =>
    intro σ x h1 h2 h3
    unfold b7_fill_53178_5
    by_cases e : (604 : Int) ≤ x
    · rw [if_pos e]
      exact ⟨σ, rfl, fun j j1 j2 => absurd j2 (by omega), fun _ _ => rfl, fr_r _⟩
    · rw [if_neg e, ck_t (show 0 ≤ x ∧ x < 604 by omega), nx_d, ck_t (show inR (x + 1) from ⟨by omega, by omega⟩)]
      obtain ⟨σ', q1, q2, q3, q4⟩ := ih (sA σ 20 x (-1)) (x + 1) (by omega) (by omega) (by omega)
      refine ⟨σ', q1, fun j j1 j2 => ?_, fun j j1 => ?_, fr_t (fr_A _ _ _ (by decide) (fr_r _)) q4⟩
      · by_cases z : j = x
        · rw [q3 j (by omega), gA_sA, if_pos rfl, if_pos z]
        · exact q2 j (by omega) j2
      · rw [q3 j (by omega), gA_sA, if_pos rfl, if_neg (by omega)]
section
variable {n : Int} {F P R : Int → Int} {d : Int → Nat} {J : Nat} {L : List Int} {N : Nat}
theorem c_kids (hn : n ≤ 604) (hN : 605 ≤ N) {k : Int} (hk : 0 ≤ k ∧ k < n) (hp : ∀ i, 0 ≤ i → i < 4 → 0 ≤ P (4 * k + i) ∧ P (4 * k + i) < n) : ∀ (M : Nat) (σ : Sg) (i top : Int), SS σ n F P R d J L → -1 ≤ i → i ≤ 3 → 0 ≤ top → top + i + 1 ≤ 481 → i + 2 ≤ M → ∃ σ', b1_keepNode_64 N M σ k top i = some (σ', top + i + 1) ∧ SS σ' n F P R d J L ∧ fr [] [21, 22, 101] σ σ' ∧ (∀ t, 0 ≤ t → t ≤ i → gA σ' 22 (top + (i - t)) = R (P (4 * k + t)) ∧ gA σ' 21 (4 * k + t) = R (P (4 * k + t))) ∧ (∀ j, j < top → gA σ' 22 j = gA σ 22 j) ∧ ∀ j, (j < 4 * k ∨ 4 * k + i < j) → gA σ' 21 j = gA σ 21 j := by
  intro M
  induction M with
  | zero => intro σ i top _ _ _ _ _ h; exact absurd h (by omega)
  | succ M ih =>
    intro σ i top h1 h2 h3 h4 h5 h6
    unfold b1_keepNode_64
    by_cases e : i < 0
    · rw [if_pos e]
      refine ⟨σ, by rw [show top + i + 1 = top by omega], h1, fr_r _, fun t t1 t2 => absurd t2 (by omega), fun _ _ => rfl, fun _ _ => rfl⟩
    · rw [if_neg e]
      obtain ⟨σ1, c1, c2, c3⟩ := c_part h1 hn hN (k := k) (i := i) hk (by omega) (hp i (by omega) (by omega))
      rw [c1, bd_s, ck_t (show inR (4 * k) from ⟨by omega, by omega⟩), ck_t (show inR (4 * k + i) from ⟨by omega, by omega⟩), ck_t (show 0 ≤ 4 * k + i ∧ 4 * k + i < 2416 by omega), nx_d, ck_t (show 0 ≤ top ∧ top < 481 by omega), nx_d, ck_t (show inR (top + 1) from ⟨by omega, by omega⟩), ck_t (show inR (i + -1) from ⟨by omega, by omega⟩)]
      obtain ⟨c, hc⟩ : ∃ c, R (P (4 * k + i)) = c := ⟨_, rfl⟩
      rw [hc]
      obtain ⟨σ2, hσ2⟩ : ∃ σ2, sA (sA σ1 21 (4 * k + i) c) 22 top c = σ2 := ⟨_, rfl⟩
      rw [hσ2]
      have f12 : fr [] [21, 22] σ1 σ2 := by rw [← hσ2]; exact fr_A _ _ _ (by decide) (fr_A _ _ _ (by decide) (fr_r _))
      have a22 : ∀ j, gA σ2 22 j = if j = top then c else gA σ 22 j := fun j => by
        rw [← hσ2]
        simp only [gA_sA, Nat.reduceEqDiff, reduceIte]
        rw [c3.2 22 (by decide)]
      have a21 : ∀ j, gA σ2 21 j = if j = 4 * k + i then c else gA σ 21 j := fun j => by
        rw [← hσ2]
        simp only [gA_sA, Nat.reduceEqDiff, reduceIte]
        rw [c3.2 21 (by decide)]
      obtain ⟨σ3, q1, q2, q3, q4, q5, q6⟩ := ih σ2 (i + -1) (top + 1) (SS_fr f12 (by decide) (by decide) (by decide) c2) (by omega) (by omega) (by omega) (by omega) (by omega)
      refine ⟨σ3, by rw [q1, show top + 1 + (i + -1) + 1 = top + i + 1 by omega], q2, fr_t (fr_m (by decide) (by decide) c3) (fr_t (fr_m (by decide) (by decide) f12) q3), fun t t1 t2 => ?_, fun j hj => ?_, fun j hj => ?_⟩
      · by_cases z : t = i
        · rw [z, show top + (i - i) = top by omega, q5 top (by omega), a22, if_pos rfl, q6 (4 * k + i) (by omega), a21, if_pos rfl, hc]
          exact ⟨rfl, rfl⟩
        · have := q4 t t1 (by omega)
          rw [show top + 1 + (i + -1 - t) = top + (i - t) by omega] at this
          exact this
      · rw [q5 j (by omega), a22, if_neg (by omega)]
      · rw [q6 j (by omega), a21, if_neg (by omega)]
end
/-- what is kept of the nodes seen -/
def KN (n : Int) (F P R an pa : Int → Int) (X W : List Int) : Prop := (∀ k, 0 ≤ k → k < n → an k ≠ -1 → R k = k ∧ (F k = 3 → 3 ≤ an k ∧ W[(an k - 3).toNat]? = some (3 + k)) ∧ (F k ≠ 3 → an k = F k) ∧ (F k = 2 → ∀ i, 0 ≤ i → i < 4 → pa (4 * k + i) = R (P (4 * k + i)) ∧ (an (R (P (4 * k + i))) ≠ -1 ∨ R (P (4 * k + i)) ∈ X))) ∧ (∀ x ∈ W, ∃ k, (0 ≤ k ∧ k < n) ∧ an k ≠ -1 ∧ x = 3 + k) ∧ W.Nodup ∧ ∀ x ∈ X, (0 ≤ x ∧ x < n) ∧ R x = x
section
variable {n : Int} {F P R : Int → Int} {d : Int → Nat} {J : Nat} {L : List Int} {N : Nat}
theorem KI_mono {n : Nat} {v : Int → Tr} {X : List Int} {sn sn' : Int → Prop} {W Wf : List Int} (h : KI n v X sn W Wf) (hs : ∀ j, sn' j → sn j) : KI n v X sn' W Wf := ⟨h.1, fun k hk => h.2 k (hs k hk)⟩
theorem c_keeps (hn : 0 ≤ n ∧ n ≤ 604) (hN : 605 ≤ N) (hcl : CL 0 n F P R (fun _ => True)) (hR : ∀ k, 0 ≤ k → k < 0 + n → (0 ≤ R k ∧ R k < 0 + n) ∧ R (R k) = R k) (hv : MD 0 n F P R (v0 F P R)) {n0 : Nat} (hf : ∀ k, 0 ≤ k → k < n → fin n0 (v0 F P R k)) {Wf : List Int} : ∀ (M : Nat) (σ : Sg) (left : Nat) (i : Int) (W NU : List Int), SS σ n F P R d J L → KI n0 (v0 F P R) (stk (gA σ 22) left) (fun k => 0 ≤ k ∧ k < n ∧ gA σ 20 k ≠ -1) W Wf → KN n F P R (gA σ 20) (gA σ 21) (stk (gA σ 22) left) W → gI σ 24 = W.length → (W.length : Int) ≤ i → (∀ k, 0 ≤ k → k < n → F k = 2 → R k = k → gA σ 20 k = -1 → k ∈ NU) → 0 ≤ i → i + left + 4 * NU.length ≤ 481 → 482 ≤ i + M → ∃ (σ' : Sg) (W' : List Int), b1_keep_37 N M σ left i = some (σ', 0) ∧ fr [24] [20, 21, 22, 101] σ σ' ∧ SS σ' n F P R d J L ∧ W' = Wf ∧ KN n F P R (gA σ' 20) (gA σ' 21) [] W' ∧ ∀ k, 0 ≤ k → k < n → (gA σ 20 k ≠ -1 ∨ k ∈ stk (gA σ 22) left) → gA σ' 20 k ≠ -1 := by
  intro M
  induction M with
  | zero => intro σ left i W NU _ _ _ _ _ _ h7 h8 h9; exact absurd h9 (by omega)
  | succ M ih =>
    intro σ left i W NU h1 h2 h3 h4 hW h6 h7 h8 h9
    unfold b1_keep_37
    cases left with
    | zero =>
      have stop : ∃ (σ' : Sg) (W' : List Int), some (σ, (0 : Int)) = some (σ', 0) ∧ fr [24] [20, 21, 22, 101] σ σ' ∧ SS σ' n F P R d J L ∧ W' = Wf ∧ KN n F P R (gA σ' 20) (gA σ' 21) [] W' ∧ ∀ k, 0 ≤ k → k < n → (gA σ 20 k ≠ -1 ∨ k ∈ stk (gA σ 22) 0) → gA σ' 20 k ≠ -1 := ⟨σ, W, rfl, fr_r _, h1, h2.1, h3, fun k _ _ q => q.elim (fun z => z) (fun z => absurd z List.not_mem_nil)⟩
      by_cases hi : 481 ≤ i
      · rw [if_pos hi]; exact stop
      · rw [if_neg hi, if_pos (by decide)]; exact stop
    | succ l =>
      rw [if_neg (show ¬ 481 ≤ i by omega), if_neg (show ¬ ((l + 1 : Nat) : Int) ≤ 0 by omega), show ((l + 1 : Nat) : Int) + -1 = l by omega, ck_t (show inR (l : Int) from ⟨by omega, by omega⟩), ck_t (show 0 ≤ (l : Int) ∧ (l : Int) < 481 by omega)]
      obtain ⟨x, hx⟩ : ∃ x, gA σ 22 l = x := ⟨_, rfl⟩
      have eX : stk (gA σ 22) (l + 1) = x :: stk (gA σ 22) l := by rw [← hx]; rfl
      rw [eX] at h2 h3 ⊢
      rw [hx]
      obtain ⟨k1, k2, k3, k4⟩ := h3
      have hxi := (k4 x List.mem_cons_self).1
      have hxr := (k4 x List.mem_cons_self).2
      rw [ck_t (show 0 ≤ x ∧ x < 604 by omega)]
      have go : ∀ (σ1 : Sg) (left1 : Nat) (W1 NU1 : List Int), fr [24] [20, 21, 22, 101] σ σ1 → SS σ1 n F P R d J L → KI n0 (v0 F P R) (stk (gA σ1 22) left1) (fun k => 0 ≤ k ∧ k < n ∧ gA σ1 20 k ≠ -1) W1 Wf → KN n F P R (gA σ1 20) (gA σ1 21) (stk (gA σ1 22) left1) W1 → gI σ1 24 = W1.length → (W1.length : Int) ≤ i + 1 → (∀ k, 0 ≤ k → k < n → F k = 2 → R k = k → gA σ1 20 k = -1 → k ∈ NU1) → i + 1 + left1 + 4 * NU1.length ≤ 481 → gA σ1 20 x ≠ -1 → (∀ k, gA σ 20 k ≠ -1 → gA σ1 20 k ≠ -1) → (∀ k, k ∈ stk (gA σ 22) l → k ∈ stk (gA σ1 22) left1) → ∃ (σ' : Sg) (W' : List Int), b1_keep_82 N (b1_keep_37 N M) σ1 left1 i = some (σ', 0) ∧ fr [24] [20, 21, 22, 101] σ σ' ∧ SS σ' n F P R d J L ∧ W' = Wf ∧ KN n F P R (gA σ' 20) (gA σ' 21) [] W' ∧ ∀ k, 0 ≤ k → k < n → (gA σ 20 k ≠ -1 ∨ k ∈ x :: stk (gA σ 22) l) → gA σ' 20 k ≠ -1 := by
        intro σ1 left1 W1 NU1 g1 g2 g3 g4 g5 g6 g7 g8 g9 g10 g11
        unfold b1_keep_82
        rw [ck_t (show inR (i + 1) from ⟨by omega, by omega⟩)]
        obtain ⟨σ', W', q1, q2, q3, q4, q5, q6⟩ := ih σ1 left1 (i + 1) W1 NU1 g2 g3 g4 g5 g6 g7 (by omega) g8 (by omega)
        refine ⟨σ', W', q1, fr_t g1 q2, q3, q4, q5, fun k z1 z2 z => q6 k z1 z2 ?_⟩
        rcases z with z | z
        · exact Or.inl (g10 k z)
        · rcases List.mem_cons.mp z with z | z
          · rw [z]; exact Or.inl g9
          · exact Or.inr (g11 k z)
      by_cases sx : gA σ 20 x = -1
      · rw [if_pos sx]
        have hcx := hcl x hxi.1 (by omega)
        have nW : (3 + x) ∉ W := fun q => by
          obtain ⟨k, a1, a2, a3⟩ := k2 _ q
          have : k = x := by omega
          rw [this] at a2
          exact a2 sx
        have len24 : gI σ 24 = W.length := h4
        unfold f1_keepNode
        rw [ck_t (show 0 ≤ x ∧ x < 604 by omega), ck_t (show 0 ≤ x ∧ x < 604 by omega), nx_d, ck_t (show 0 ≤ x ∧ x < 604 by omega), h1.2.1, gA_sA, if_pos rfl, if_pos rfl]
        by_cases f3 : F x = 3
        · rw [if_pos f3, gI_sA, len24, ck_t (show inR (3 + (W.length : Int)) from ⟨by omega, by omega⟩), ck_t (show 0 ≤ x ∧ x < 604 by omega), nx_d, gI_sA, gI_sA, len24, ck_t (show inR ((W.length : Int) + 1) from ⟨by omega, by omega⟩), nx_d, bd_s]
          obtain ⟨σ1, hσ1⟩ : ∃ σ1, sI (sA (sA σ 20 x (F x)) 20 x (3 + (W.length : Int))) 24 ((W.length : Int) + 1) = σ1 := ⟨_, rfl⟩
          rw [hσ1]
          have f1 : fr [24] [20] σ σ1 := by rw [← hσ1]; exact fr_I _ _ (by decide) (fr_A _ _ _ (by decide) (fr_A _ _ _ (by decide) (fr_r _)))
          have a20 : ∀ j, gA σ1 20 j = if j = x then 3 + (W.length : Int) else gA σ 20 j := fun j => by
            rw [← hσ1]
            simp only [gA_sI, gA_sA, Nat.reduceEqDiff, reduceIte]
            by_cases z : j = x
            · rw [if_pos z, if_pos z]
            · rw [if_neg z, if_neg z, if_neg z]
          have a21 : gA σ1 21 = gA σ 21 := funext fun j => f1.2 21 (by decide) j
          have a22 : gA σ1 22 = gA σ 22 := funext fun j => f1.2 22 (by decide) j
          have a24 : gI σ1 24 = (W ++ [3 + x]).length := by rw [← hσ1, gI_sI, if_pos rfl, List.length_append]; show _ = ((W.length + 1 : Nat) : Int); omega
          have mono : ∀ k, gA σ 20 k ≠ -1 → gA σ1 20 k ≠ -1 := fun k q => by
            rw [a20]
            by_cases z : k = x
            · rw [if_pos z]; omega
            · rw [if_neg z]; exact q
          have s1 : SS σ1 n F P R d J L := ⟨(f1.1 107 (by decide)).trans h1.1, (funext fun j => f1.2 100 (by decide) j).trans h1.2.1, (funext fun j => f1.2 102 (by decide) j).trans h1.2.2.1, by rw [show gA σ1 101 = gA σ 101 from funext fun j => f1.2 101 (by decide) j]; exact h1.2.2.2⟩
          have vx : v0 F P R x = leaf (3 + x) := by have := v0_letter (F := F) (P := P) (R := R) (k := x) (by rw [hxr]; exact f3); rw [hxr] at this; exact this
          have n0p : ∃ m, n0 = m + 1 := by
            cases n0 with
            | zero => exact absurd (hf x hxi.1 hxi.2 [] (Nat.zero_le _)) (by rw [vx, leaf_n]; omega)
            | succ m => exact ⟨m, rfl⟩
          have ki := KI_leaf (W' := W ++ [3 + x]) rfl h2 (by obtain ⟨m, e⟩ := n0p; rw [e, vx]; exact ord_letter m (by omega) nW) (fun y hy => List.mem_append.mpr (Or.inl hy)) (fun p hp => by
            rw [vx] at hp ⊢
            cases p with
            | nil => exact List.mem_append.mpr (Or.inr List.mem_cons_self)
            | cons i p => exact absurd hp (by rw [leaf_c]; decide))
          refine go σ1 l (W ++ [3 + x]) NU (fr_m (by decide) (by decide) f1) s1 ?_ ?_ a24 ?_ (fun k z1 z2 zf zr z => h6 k z1 z2 zf zr ?_) (by omega) (by rw [a20, if_pos rfl]; omega) mono (fun k hk => by rw [a22]; exact hk)
          · rw [a22]
            refine KI_mono ki (fun j hj => ?_)
            by_cases z : j = x
            · exact Or.inr z
            · have := hj.2.2
              rw [a20, if_neg z] at this
              exact Or.inl ⟨hj.1, hj.2.1, this⟩
          · rw [a21, a22]
            refine ⟨fun k z1 z2 z => ?_, fun y hy => ?_, ?_, fun y hy => k4 y (List.mem_cons_of_mem _ hy)⟩
            · have cond : ∀ c, gA σ 20 c ≠ -1 ∨ c ∈ x :: stk (gA σ 22) l → gA σ1 20 c ≠ -1 ∨ c ∈ stk (gA σ 22) l := fun c q => by
                rcases q with q | q
                · exact Or.inl (mono c q)
                · rcases List.mem_cons.mp q with q | q
                  · rw [q, a20, if_pos rfl]; exact Or.inl (by omega)
                  · exact Or.inr q
              by_cases e : k = x
              · rw [e]
                refine ⟨hxr, fun _ => ?_, fun q => absurd f3 q, fun q => absurd (f3.symm.trans q) (by decide)⟩
                rw [a20, if_pos rfl]
                refine ⟨by omega, ?_⟩
                rw [show (3 + (W.length : Int) - 3).toNat = W.length by omega, List.getElem?_append_right (Nat.le_refl _), Nat.sub_self]
                rfl
              · rw [a20, if_neg e] at z ⊢
                obtain ⟨y1, y2, y3, y4⟩ := k1 k z1 z2 z
                refine ⟨y1, fun q => ⟨(y2 q).1, ?_⟩, y3, fun q i i1 i2 => ⟨(y4 q i i1 i2).1, cond _ (y4 q i i1 i2).2⟩⟩
                have w := (y2 q).2
                have hlt : (gA σ 20 k - 3).toNat < W.length := (List.getElem?_eq_some_iff.mp w).1
                rw [List.getElem?_append_left hlt]
                exact w
            · rcases List.mem_append.mp hy with hy | hy
              · obtain ⟨k, q1, q2, q3⟩ := k2 y hy
                exact ⟨k, q1, mono k q2, q3⟩
              · rw [List.mem_singleton.mp hy]
                exact ⟨x, hxi, by rw [a20, if_pos rfl]; omega, rfl⟩
            · rw [List.nodup_append]
              refine ⟨k3, List.nodup_cons.mpr ⟨List.not_mem_nil, List.nodup_nil⟩, fun a ha b hb e => ?_⟩
              rw [List.mem_singleton.mp hb] at e
              rw [e] at ha
              exact nW ha
          · rw [List.length_append]; show ((W.length + 1 : Nat) : Int) ≤ _; omega
          · rw [a20] at z
            by_cases e : k = x
            · rw [if_pos e] at z; omega
            · rw [if_neg e] at z; exact z
        · rw [if_neg f3, ck_t (show 0 ≤ x ∧ x < 604 by omega)]
          have hfx := hcx.1
          -- any later state in which x is marked by its form
          have mark : ∀ (σ1 : Sg) (X1 : List Int), (∀ j, gA σ1 20 j = if j = x then F x else gA σ 20 j) → (∀ j, (F x ≠ 2 ∨ j < 4 * x ∨ 4 * x + 3 < j) → gA σ1 21 j = gA σ 21 j) → (F x = 2 → ∀ i, 0 ≤ i → i < 4 → gA σ1 21 (4 * x + i) = R (P (4 * x + i)) ∧ R (P (4 * x + i)) ∈ X1) → (∀ y ∈ stk (gA σ 22) l, y ∈ X1) → (∀ y ∈ X1, (0 ≤ y ∧ y < n) ∧ R y = y) → KN n F P R (gA σ1 20) (gA σ1 21) X1 W := by
            intro σ1 X1 a20 a21 a21x hX hX2
            have mono : ∀ k, gA σ 20 k ≠ -1 → gA σ1 20 k ≠ -1 := fun k q => by
              rw [a20]
              by_cases z : k = x
              · rw [if_pos z]; omega
              · rw [if_neg z]; exact q
            refine ⟨fun k z1 z2 z => ?_, fun y hy => ?_, k3, hX2⟩
            · by_cases e : k = x
              · rw [e, a20, if_pos rfl]
                exact ⟨hxr, fun q => absurd q f3, fun _ => rfl, fun q i i1 i2 => ⟨(a21x q i i1 i2).1, Or.inr (a21x q i i1 i2).2⟩⟩
              · rw [a20, if_neg e] at z
                obtain ⟨y1, y2, y3, y4⟩ := k1 k z1 z2 z
                rw [a20 k, if_neg e]
                refine ⟨y1, y2, y3, fun q i i1 i2 => ⟨?_, ?_⟩⟩
                · rw [a21 _ (by omega)]
                  exact (y4 q i i1 i2).1
                · rcases (y4 q i i1 i2).2 with w | w
                  · exact Or.inl (mono _ w)
                  · rcases List.mem_cons.mp w with w | w
                    · rw [w, a20, if_pos rfl]; exact Or.inl (by omega)
                    · exact Or.inr (hX _ w)
            · obtain ⟨k, q1, q2, q3⟩ := k2 y hy
              exact ⟨k, q1, mono k q2, q3⟩
          have f0 : fr [24] [20, 21, 22, 101] σ (sA σ 20 x (F x)) := fr_A _ _ _ (by decide) (fr_r _)
          have s0 : SS (sA σ 20 x (F x)) n F P R d J L := SS_fr (T := [20]) (fr_A _ _ _ (by decide) (fr_r _)) (by decide) (by decide) (by decide) h1
          by_cases f2 : F x = 2
          · rw [if_pos f2]
            have hp := (hcx.2.2.2 f2).2.1
            have hxNU : x ∈ NU := h6 x hxi.1 hxi.2 f2 hxr sx
            have hlen := List.length_erase_of_mem hxNU
            have hpos := List.length_pos_of_mem hxNU
            obtain ⟨σ1, c1, c2, c3, c4, c5, c6⟩ := c_kids (N := N) hn.2 hN (k := x) hxi (fun i i1 i2 => by have := hp i i1 i2; omega) N (sA σ 20 x (F x)) 3 l s0 (by decide) (by decide) (by omega) (by omega) (by omega)
            rw [c1, bd_s, show (l : Int) + 3 + 1 = ((l + 4 : Nat) : Int) by omega]
            have a20 : ∀ j, gA σ1 20 j = if j = x then F x else gA σ 20 j := fun j => by rw [c3.2 20 (by decide), gA_sA, if_pos rfl]
            have c0' := (c4 0 (by decide) (by decide)).1
            have c1' := (c4 1 (by decide) (by decide)).1
            have c2' := (c4 2 (by decide) (by decide)).1
            have c3' := (c4 3 (by decide) (by decide)).1
            rw [Int.add_zero] at c0'
            have eX1 : stk (gA σ1 22) (l + 4) = R (P (4 * x)) :: R (P (4 * x + 1)) :: R (P (4 * x + 2)) :: R (P (4 * x + 3)) :: stk (gA σ 22) l := by
              show gA σ1 22 ((l + 3 : Nat) : Int) :: gA σ1 22 ((l + 2 : Nat) : Int) :: gA σ1 22 ((l + 1 : Nat) : Int) :: gA σ1 22 ((l : Nat) : Int) :: stk (gA σ1 22) l = _
              rw [stk_c l (B := gA σ 22) (fun j _ j2 => (c5 j j2).trans rfl), show ((l + 3 : Nat) : Int) = (l : Int) + (3 - 0) by omega, show ((l + 2 : Nat) : Int) = (l : Int) + (3 - 1) by omega, show ((l + 1 : Nat) : Int) = (l : Int) + (3 - 2) by omega, c0', c1', c2']
              rw [show (l : Int) + (3 - 3) = l by omega] at c3'
              rw [c3']
            have rr : ∀ i, 0 ≤ i → i < 4 → (0 ≤ R (P (4 * x + i)) ∧ R (P (4 * x + i)) < n) ∧ R (R (P (4 * x + i))) = R (P (4 * x + i)) := fun i i1 i2 => by
              have q := hp i i1 i2
              have w := hR _ q.1 q.2
              exact ⟨by have := w.1; omega, w.2⟩
            have rr0 := rr 0 (by decide) (by decide)
            rw [Int.add_zero] at rr0
            have vx : v0 F P R x = fnT (v0 F P R (R (P (4 * x)))) (v0 F P R (R (P (4 * x + 1)))) (v0 F P R (R (P (4 * x + 2)))) (v0 F P R (R (P (4 * x + 3)))) := by
              rw [v0_fn (F := F) (P := P) (R := R) (k := x) (by rw [hxr]; exact f2), hxr, v0_c rr0.2, v0_c (rr 1 (by decide) (by decide)).2, v0_c (rr 2 (by decide) (by decide)).2, v0_c (rr 3 (by decide) (by decide)).2]
            have ki := KI_fn rfl h2 (hf x hxi.1 hxi.2) vx
            have sub : ∀ y ∈ stk (gA σ 22) l, y ∈ stk (gA σ1 22) (l + 4) := fun y hy => by
              rw [eX1]
              exact List.mem_cons_of_mem _ (List.mem_cons_of_mem _ (List.mem_cons_of_mem _ (List.mem_cons_of_mem _ hy)))
            refine go σ1 (l + 4) W (NU.erase x) (fr_t f0 (fr_m (by decide) (by decide) c3)) c2 ?_ (mark σ1 _ a20 (fun j hj => c6 j (by omega)) (fun _ i i1 i2 => ⟨(c4 i i1 (by omega)).2, ?_⟩) sub ?_) ?_ (by omega) (fun k z1 z2 zf zr z => ?_) (by omega) (by rw [a20, if_pos rfl]; omega) (fun k q => ?_) sub
            · rw [eX1]
              refine KI_mono ki (fun j hj => ?_)
              by_cases z : j = x
              · exact Or.inr z
              · have := hj.2.2
                rw [a20, if_neg z] at this
                exact Or.inl ⟨hj.1, hj.2.1, this⟩
            · rw [eX1]
              rcases idx4 ⟨i1, i2⟩ with rfl | rfl | rfl | rfl
              · rw [Int.add_zero]; exact List.mem_cons_self
              · exact List.mem_cons_of_mem _ List.mem_cons_self
              · exact List.mem_cons_of_mem _ (List.mem_cons_of_mem _ List.mem_cons_self)
              · exact List.mem_cons_of_mem _ (List.mem_cons_of_mem _ (List.mem_cons_of_mem _ List.mem_cons_self))
            · intro y hy
              rw [eX1] at hy
              rcases List.mem_cons.mp hy with rfl | hy
              · exact rr0
              rcases List.mem_cons.mp hy with rfl | hy
              · exact rr 1 (by decide) (by decide)
              rcases List.mem_cons.mp hy with rfl | hy
              · exact rr 2 (by decide) (by decide)
              rcases List.mem_cons.mp hy with rfl | hy
              · exact rr 3 (by decide) (by decide)
              · exact k4 y (List.mem_cons_of_mem _ hy)
            · rw [c3.1 24 (by decide)]; exact h4
            · rw [a20] at z
              by_cases e : k = x
              · rw [if_pos e] at z; omega
              · rw [if_neg e] at z
                exact (List.mem_erase_of_ne e).mpr (h6 k z1 z2 zf zr z)
            · rw [a20]
              by_cases z : k = x
              · rw [if_pos z]; omega
              · rw [if_neg z]; exact q
          · rw [if_neg f2, bd_s]
            have vx : v0 F P R x = leaf (F x) := by have := v0_leaf (F := F) (P := P) (R := R) (k := x) (by rw [hxr]; exact f2) (by rw [hxr]; exact f3); rw [hxr] at this; exact this
            have ki := KI_leaf (W' := W) rfl h2 (by rw [vx]; exact ord_plain n0 (by omega) W) (fun y hy => hy) (fun p hp => by
              rw [vx] at hp
              cases p with
              | nil => exact absurd hp (by rw [leaf_n]; omega)
              | cons i p => exact absurd hp (by rw [leaf_c]; decide))
            have a20 : ∀ j, gA (sA σ 20 x (F x)) 20 j = if j = x then F x else gA σ 20 j := fun j => by rw [gA_sA, if_pos rfl]
            refine go (sA σ 20 x (F x)) l W NU f0 s0 ?_ (mark _ _ a20 (fun j _ => rfl) (fun q => absurd q f2) (fun y hy => hy) (fun y hy => k4 y (List.mem_cons_of_mem _ hy))) h4 (by omega) (fun k z1 z2 zf zr z => h6 k z1 z2 zf zr ?_) (by omega) (by rw [a20, if_pos rfl]; omega) (fun k q => ?_) (fun y hy => hy)
            · refine KI_mono ki (fun j hj => ?_)
              by_cases z : j = x
              · exact Or.inr z
              · have := hj.2.2
                rw [a20, if_neg z] at this
                exact Or.inl ⟨hj.1, hj.2.1, this⟩
            · rw [a20] at z
              by_cases e : k = x
              · rw [if_pos e] at z; omega
              · rw [if_neg e] at z; exact z
            · rw [a20]
              by_cases z : k = x
              · rw [if_pos z]; omega
              · rw [if_neg z]; exact q
      · rw [if_neg sx]
        have ki := KI_seen rfl (hv x hxi.1 (by omega)).1 h2 ⟨hxi.1, hxi.2, sx⟩
        refine go σ l W NU (fr_r _) h1 ki ⟨fun k z1 z2 z => ?_, k2, k3, fun y hy => k4 y (List.mem_cons_of_mem _ hy)⟩ h4 (by omega) h6 (by omega) sx (fun _ q => q) (fun _ q => q)
        obtain ⟨y1, y2, y3, y4⟩ := k1 k z1 z2 z
        refine ⟨y1, y2, y3, fun q i i1 i2 => ⟨(y4 q i i1 i2).1, ?_⟩⟩
        rcases (y4 q i i1 i2).2 with w | w
        · exact Or.inl w
        · rcases List.mem_cons.mp w with w | w
          · rw [w]; exact Or.inl sx
          · exact Or.inr w
end
