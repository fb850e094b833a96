/-! ===== the walk over the reference's cells ===== -/
section
variable {lo n : Int} {F P R : Int → Int} {d : Int → Nat} {J : Nat} {L : List Int} {N : Nat}
theorem m_numbers (hlo : 0 ≤ lo ∧ lo + n ≤ 1280) (hn : 0 ≤ n ∧ n ≤ 640) (hN : 1300 ≤ N) (hcl : CL lo n F P R (fun _ => True)) (hR : ∀ k, lo ≤ k → k < lo + n → (lo ≤ R k ∧ R k < lo + n) ∧ R (R k) = R k) (hv : MD lo n F P R (v0 F P R)) {n0 : Nat} (hf : ∀ k, lo ≤ k → k < lo + n → fin n0 (v0 F P R k)) {Wf : List Int} : ∀ (M : Nat) (σ : Sg) (left : Nat) (W NU : List Int), gA σ 241 = F → gA σ 243 = P → US lo n (sf (gA σ 242)) R d J L → (∀ k, lo ≤ k → k < lo + n → gA σ 242 k ≠ k) → KI n0 (v0 F P R) (stk (gA σ 247) left) (fun k => lo ≤ k ∧ k < lo + n ∧ gA σ 249 k ≠ 0) W Wf → NM lo n F P R (gA σ 249) (gA σ 244) (stk (gA σ 247) left) W → (∀ k, lo ≤ k → k < lo + n → F k = 2 → R k = k → gA σ 249 k = 0 → k ∈ NU) → left + 4 * NU.length + W.length ≤ 481 → left + 4 * NU.length < M → ∃ σ', b10_numberLetters_51 N M σ left W.length = some (σ', 0) ∧ fr [] [244, 247, 249] σ σ' ∧ NM lo n F P R (gA σ' 249) (gA σ' 244) [] Wf ∧ ∀ k, lo ≤ k → k < lo + n → (gA σ 249 k ≠ 0 ∨ ∃ x ∈ stk (gA σ 247) left, R x = k) → gA σ' 249 k ≠ 0 := by
  intro M
  induction M with
  | zero => intro σ left W NU _ _ _ _ _ _ _ _ h; exact absurd h (by omega)
  | succ M ih =>
    intro σ left W NU e1 e2 hu hs hK hM hNU hb hfu
    unfold b10_numberLetters_51
    cases left with
    | zero =>
      rw [if_pos (by decide)]
      refine ⟨σ, rfl, fr_r _, ?_, fun k _ _ q => q.elim (fun z => z) (fun z => by obtain ⟨x, hx, -⟩ := z; exact absurd hx List.not_mem_nil)⟩
      have : W = Wf := hK.1
      rw [← this]
      exact hM
    | succ l =>
      rw [if_neg (show ¬ ((l + 1 : Nat) : Int) ≤ 0 by omega), show ((l + 1 : Nat) : Int) + -1 = l by omega, ck_t (show inR (l : Int) from ⟨by omega, by omega⟩), ck_t (show 0 ≤ (l : Int) ∧ (l : Int) < 1400 by omega)]
      obtain ⟨x, hx⟩ : ∃ x, gA σ 247 l = x := ⟨_, rfl⟩
      have eX : stk (gA σ 247) (l + 1) = x :: stk (gA σ 247) l := by rw [← hx]; rfl
      rw [eX] at hK hM ⊢
      rw [hx]
      obtain ⟨m1, m2, m3, m4⟩ := hM
      have hxi := m4 x List.mem_cons_self
      unfold f10_end
      have dj := US_J hu hxi.1 hxi.2
      rw [m_end hlo hu hs N x hxi.1 hxi.2 (by omega), bd_s]
      obtain ⟨k, hk⟩ : ∃ k, R x = k := ⟨_, rfl⟩
      have hki := (hR x hxi.1 hxi.2).1
      have hkr := (hR x hxi.1 hxi.2).2
      rw [hk] at hki hkr ⊢
      have vxk : v0 F P R x = v0 F P R k := v0_c (by rw [hk]; exact hkr.symm)
      rw [ck_t (show 0 ≤ k ∧ k < 1280 by omega)]
      have go : ∀ (σ1 : Sg) (left1 : Nat) (W1 NU1 : List Int), fr [] [244, 247, 249] σ σ1 → KI n0 (v0 F P R) (stk (gA σ1 247) left1) (fun k => lo ≤ k ∧ k < lo + n ∧ gA σ1 249 k ≠ 0) W1 Wf → NM lo n F P R (gA σ1 249) (gA σ1 244) (stk (gA σ1 247) left1) W1 → (∀ k, lo ≤ k → k < lo + n → F k = 2 → R k = k → gA σ1 249 k = 0 → k ∈ NU1) → left1 + 4 * NU1.length + W1.length ≤ 481 → left1 + 4 * NU1.length < M → gA σ1 249 k ≠ 0 → (∀ j, gA σ 249 j ≠ 0 → gA σ1 249 j ≠ 0) → (∀ y, y ∈ stk (gA σ 247) l → y ∈ stk (gA σ1 247) left1) → ∃ σ', b10_numberLetters_51 N M σ1 left1 W1.length = some (σ', 0) ∧ fr [] [244, 247, 249] σ σ' ∧ NM lo n F P R (gA σ' 249) (gA σ' 244) [] Wf ∧ ∀ k, lo ≤ k → k < lo + n → (gA σ 249 k ≠ 0 ∨ ∃ y ∈ x :: stk (gA σ 247) l, R y = k) → gA σ' 249 k ≠ 0 := by
        intro σ1 left1 W1 NU1 g1 g2 g3 g4 g5 g6 g7 g8 g9
        have a242 : gA σ1 242 = gA σ 242 := funext fun j => g1.2 242 (by decide) j
        obtain ⟨σ', q1, q2, q3, q4⟩ := ih σ1 left1 W1 NU1 ((funext fun j => g1.2 241 (by decide) j).trans e1) ((funext fun j => g1.2 243 (by decide) j).trans e2) (by rw [a242]; exact hu) (by rw [a242]; exact hs) g2 g3 g4 g5 g6
        refine ⟨σ', q1, fr_t g1 q2, q3, fun j j1 j2 z => q4 j j1 j2 ?_⟩
        rcases z with z | ⟨y, y1, y2⟩
        · exact Or.inl (g8 j z)
        · rcases List.mem_cons.mp y1 with y1 | y1
          · rw [y1, hk] at y2
            rw [← y2]; exact Or.inl g7
          · exact Or.inr ⟨y, g9 y y1, y2⟩
      by_cases sk : gA σ 249 k = 0
      · rw [if_pos sk, ck11, ck_t (show 0 ≤ k ∧ k < 1280 by omega), nx_d, ck_t (show 0 ≤ k ∧ k < 1280 by omega)]
        have nW : (3 + k) ∉ W := fun q => by
          obtain ⟨j, a1, a2, a3⟩ := m2 _ q
          have : j = k := by omega
          rw [this] at a2
          exact a2 sk
        have hck := hcl k hki.1 hki.2
        have e1' : gA (sA σ 249 k 1) 241 = F := e1
        rw [e1']
        have a249 : ∀ j, gA (sA σ 249 k 1) 249 j = if j = k then 1 else gA σ 249 j := fun j => by rw [gA_sA, if_pos rfl]
        have mono : ∀ j, gA σ 249 j ≠ 0 → (if j = k then (1 : Int) else gA σ 249 j) ≠ 0 := fun j q => by
          by_cases z : j = k
          · rw [if_pos z]; decide
          · rw [if_neg z]; exact q
        have seenKI : ∀ {X W1 : List Int}, KI n0 (v0 F P R) X (fun j => (lo ≤ j ∧ j < lo + n ∧ gA σ 249 j ≠ 0) ∨ j = k) W1 Wf → ∀ sn : Int → Int, (∀ j, sn j = if j = k then 1 else gA σ 249 j) → KI n0 (v0 F P R) X (fun j => lo ≤ j ∧ j < lo + n ∧ sn j ≠ 0) W1 Wf := fun q sn hsn => KI_mono q (fun j hj => by
          by_cases z : j = k
          · exact Or.inr z
          · have := hj.2.2
            rw [hsn, if_neg z] at this
            exact Or.inl ⟨hj.1, hj.2.1, this⟩)
        have cond : ∀ (sn : Int → Int) (X1 : List Int) (c : Int), (∀ j, sn j = if j = k then 1 else gA σ 249 j) → (∀ y, y ∈ stk (gA σ 247) l → y ∈ X1) → (gA σ 249 c ≠ 0 ∨ ∃ y ∈ x :: stk (gA σ 247) l, R y = c) → (sn c ≠ 0 ∨ ∃ y ∈ X1, R y = c) := fun sn X1 c hsn hX q => by
          rcases q with q | ⟨y, y1, y2⟩
          · rw [hsn]; exact Or.inl (mono c q)
          · rcases List.mem_cons.mp y1 with y1 | y1
            · rw [y1, hk] at y2
              rw [← y2, hsn, if_pos rfl]; exact Or.inl (by decide)
            · exact Or.inr ⟨y, hX y y1, y2⟩
        by_cases f3 : F k = 3
        · rw [if_pos f3, ck_t (show 0 ≤ k ∧ k < 1280 by omega), nx_d, ck_t (show inR ((W.length : Int) + 1) from ⟨by omega, by omega⟩)]
          rw [n_none (by omega) (by show gA σ 241 k ≠ 2; rw [e1]; omega) (by omega)]
          obtain ⟨σ1, hσ1⟩ : ∃ σ1, sA (sA σ 249 k 1) 244 k (W.length : Int) = σ1 := ⟨_, rfl⟩
          rw [hσ1]
          have f1 : fr [] [244, 247, 249] σ σ1 := by rw [← hσ1]; exact fr_A _ _ _ (by decide) (fr_A _ _ _ (by decide) (fr_r _))
          have b249 : ∀ j, gA σ1 249 j = if j = k then 1 else gA σ 249 j := fun j => by rw [← hσ1, gA_sA, if_neg (by decide)]; exact a249 j
          have b244 : ∀ j, gA σ1 244 j = if j = k then (W.length : Int) else gA σ 244 j := fun j => by
            rw [← hσ1]
            simp only [gA_sA, Nat.reduceEqDiff, reduceIte]
          have b247 : gA σ1 247 = gA σ 247 := funext fun j => by rw [← hσ1, gA_sA, if_neg (by decide), gA_sA, if_neg (by decide)]
          have vk : v0 F P R k = leaf (3 + k) := by have := v0_letter (F := F) (P := P) (R := R) (k := k) (by rw [hkr]; exact f3); rw [hkr] at this; exact this
          have n0p : ∃ m, n0 = m + 1 := by
            cases n0 with
            | zero => exact absurd (hf k hki.1 hki.2 [] (Nat.zero_le _)) (by rw [vk, leaf_n]; omega)
            | succ m => exact ⟨m, rfl⟩
          have ki := KI_leaf (W' := W ++ [3 + k]) vxk hK (by obtain ⟨m, e⟩ := n0p; rw [e, vk]; exact ord_letter m (by omega) nW) (fun y hy => List.mem_append.mpr (Or.inl hy)) (fun p hp => by
            rw [vk] at hp ⊢
            cases p with
            | nil => exact List.mem_append.mpr (Or.inr List.mem_cons_self)
            | cons i p => exact absurd hp (by rw [leaf_c]; decide))
          have hl1 : (W ++ [3 + k]).length = W.length + 1 := by rw [List.length_append]; rfl
          have := go σ1 l (W ++ [3 + k]) NU f1 (by rw [b247]; exact seenKI ki _ b249) ?_ (fun j z1 z2 zf zr z => hNU j z1 z2 zf zr ?_) (by omega) (by omega) (by rw [b249, if_pos rfl]; decide) (fun j q => by rw [b249]; exact mono j q) (fun y hy => by rw [b247]; exact hy)
          · rw [hl1, show ((W.length + 1 : Nat) : Int) = (W.length : Int) + 1 by omega] at this
            exact this
          · rw [b247]
            refine ⟨fun j z1 z2 z => ?_, fun y hy => ?_, ?_, fun y hy => m4 y (List.mem_cons_of_mem _ hy)⟩
            · by_cases e : j = k
              · rw [e]
                refine ⟨hkr, fun _ => ?_, fun q => absurd (f3.symm.trans q) (by decide)⟩
                rw [b244, if_pos rfl]
                refine ⟨by omega, ?_⟩
                rw [show ((W.length : Int)).toNat = W.length by omega, List.getElem?_append_right (Nat.le_refl _), Nat.sub_self]
                rfl
              · rw [b249, if_neg e] at z
                obtain ⟨y1, y2, y3⟩ := m1 j z1 z2 z
                rw [b244, if_neg e]
                refine ⟨y1, fun q => ⟨(y2 q).1, ?_⟩, fun q i i1 i2 => cond _ _ _ b249 (fun y hy => hy) (y3 q i i1 i2)⟩
                have w := (y2 q).2
                have hlt : (gA σ 244 j).toNat < W.length := (List.getElem?_eq_some_iff.mp w).1
                rw [List.getElem?_append_left hlt]
                exact w
            · rcases List.mem_append.mp hy with hy | hy
              · obtain ⟨j, q1, q2, q3⟩ := m2 y hy
                exact ⟨j, q1, by rw [b249]; exact mono j q2, q3⟩
              · rw [List.mem_singleton.mp hy]
                exact ⟨k, hki, by rw [b249, if_pos rfl]; decide, rfl⟩
            · rw [List.nodup_append]
              refine ⟨m3, List.nodup_cons.mpr ⟨List.not_mem_nil, List.nodup_nil⟩, fun a ha b hb e => ?_⟩
              rw [List.mem_singleton.mp hb] at e
              rw [e] at ha
              exact nW ha
          · rw [b249] at z
            by_cases e : j = k
            · rw [if_pos e] at z; exact absurd z (by decide)
            · rw [if_neg e] at z; exact z
        · rw [if_neg f3]
          have mark : ∀ (σ1 : Sg) (X1 : List Int), (∀ j, gA σ1 249 j = if j = k then 1 else gA σ 249 j) → gA σ1 244 = gA σ 244 → (F k = 2 → ∀ i, 0 ≤ i → i < 4 → P (4 * k + i) ∈ X1) → (∀ y ∈ stk (gA σ 247) l, y ∈ X1) → (∀ y ∈ X1, lo ≤ y ∧ y < lo + n) → NM lo n F P R (gA σ1 249) (gA σ1 244) X1 W := by
            intro σ1 X1 b249 b244 hX1 hX2 hX3
            rw [b244]
            refine ⟨fun j z1 z2 z => ?_, fun y hy => ?_, m3, hX3⟩
            · by_cases e : j = k
              · rw [e]
                exact ⟨hkr, fun q => absurd q f3, fun q i i1 i2 => Or.inr ⟨_, hX1 q i i1 i2, rfl⟩⟩
              · rw [b249, if_neg e] at z
                obtain ⟨y1, y2, y3⟩ := m1 j z1 z2 z
                exact ⟨y1, y2, fun q i i1 i2 => cond _ _ _ b249 hX2 (y3 q i i1 i2)⟩
            · obtain ⟨j, q1, q2, q3⟩ := m2 y hy
              exact ⟨j, q1, by rw [b249]; exact mono j q2, q3⟩
          have fs : fr [] [244, 247, 249] σ (sA σ 249 k 1) := fr_A _ _ _ (by decide) (fr_r _)
          by_cases f2 : F k = 2
          · unfold b10_numberLetters_111
            have kNU := hNU k hki.1 hki.2 f2 hkr sk
            have hlen := List.length_erase_of_mem kNU
            have hpos := List.length_pos_of_mem kNU
            obtain ⟨σ1, g1, g2, g3, g4⟩ := n_kids (N := N) (K := b10_numberLetters_51 N M) (c := (W.length : Int)) (k := k) (by omega) N (sA σ 249 k 1) l 3 (by rw [e1']; exact f2) (by decide) (by decide) (by omega) (by omega) (by omega)
            rw [g1, show (l : Int) + 3 + 1 = ((l + 4 : Nat) : Int) by omega]
            have b249 : ∀ j, gA σ1 249 j = if j = k then 1 else gA σ 249 j := fun j => by rw [g2.2 249 (by decide)]; exact a249 j
            have b244 : gA σ1 244 = gA σ 244 := funext fun j => by rw [g2.2 244 (by decide), gA_sA, if_neg (by decide)]
            have p243 : gA (sA σ 249 k 1) 243 = P := e2
            rw [p243] at g4
            have c0 := g4 0 (by decide) (by decide)
            have c1 := g4 1 (by decide) (by decide)
            have c2 := g4 2 (by decide) (by decide)
            have c3 := g4 3 (by decide) (by decide)
            rw [Int.add_zero] at c0
            have eX1 : stk (gA σ1 247) (l + 4) = P (4 * k) :: P (4 * k + 1) :: P (4 * k + 2) :: P (4 * k + 3) :: stk (gA σ 247) l := by
              show gA σ1 247 ((l + 3 : Nat) : Int) :: gA σ1 247 ((l + 2 : Nat) : Int) :: gA σ1 247 ((l + 1 : Nat) : Int) :: gA σ1 247 ((l : Nat) : Int) :: stk (gA σ1 247) l = _
              rw [stk_c l (B := gA σ 247) (fun j _ j2 => (g3 j j2).trans rfl), show ((l + 3 : Nat) : Int) = (l : Int) + (3 - 0) by omega, show ((l + 2 : Nat) : Int) = (l : Int) + (3 - 1) by omega, show ((l + 1 : Nat) : Int) = (l : Int) + (3 - 2) by omega, c0, c1, c2]
              rw [show (l : Int) + (3 - 3) = l by omega] at c3
              rw [c3]
            have pin := (hck.2.2.2 f2).2.1
            have pin0 := pin 0 (by decide) (by decide)
            rw [Int.add_zero] at pin0
            have vk := v0_fn (F := F) (P := P) (R := R) (k := k) (by rw [hkr]; exact f2)
            rw [hkr] at vk
            have ki := KI_fn vxk hK (hf k hki.1 hki.2) vk
            have sub : ∀ y ∈ stk (gA σ 247) l, y ∈ stk (gA σ1 247) (l + 4) := fun y hy => by
              rw [eX1]
              exact List.mem_cons_of_mem _ (List.mem_cons_of_mem _ (List.mem_cons_of_mem _ (List.mem_cons_of_mem _ hy)))
            refine go σ1 (l + 4) W (NU.erase k) (fr_t fs (fr_m (by decide) (by decide) g2)) (by rw [eX1]; exact seenKI ki _ b249) (mark σ1 _ b249 b244 (fun _ i i1 i2 => ?_) sub ?_) (fun j z1 z2 zf zr z => ?_) (by omega) (by omega) (by rw [b249, if_pos rfl]; decide) (fun j q => by rw [b249]; exact mono j q) sub
            · rw [eX1]
              rcases idx4 ⟨i1, i2⟩ with rfl | rfl | rfl | rfl
              · rw [Int.add_zero]; exact List.mem_cons_self
              · exact List.mem_cons_of_mem _ List.mem_cons_self
              · exact List.mem_cons_of_mem _ (List.mem_cons_of_mem _ List.mem_cons_self)
              · exact List.mem_cons_of_mem _ (List.mem_cons_of_mem _ (List.mem_cons_of_mem _ List.mem_cons_self))
            · intro y hy
              rw [eX1] at hy
              rcases List.mem_cons.mp hy with rfl | hy
              · exact pin0
              rcases List.mem_cons.mp hy with rfl | hy
              · exact pin 1 (by decide) (by decide)
              rcases List.mem_cons.mp hy with rfl | hy
              · exact pin 2 (by decide) (by decide)
              rcases List.mem_cons.mp hy with rfl | hy
              · exact pin 3 (by decide) (by decide)
              · exact m4 y (List.mem_cons_of_mem _ hy)
            · rw [b249] at z
              by_cases e : j = k
              · rw [if_pos e] at z; exact absurd z (by decide)
              · rw [if_neg e] at z
                exact (List.mem_erase_of_ne e).mpr (hNU j z1 z2 zf zr z)
          · rw [n_none (by omega) (by rw [e1']; exact f2) (by omega)]
            have vk : v0 F P R k = leaf (F k) := by have := v0_leaf (F := F) (P := P) (R := R) (k := k) (by rw [hkr]; exact f2) (by rw [hkr]; exact f3); rw [hkr] at this; exact this
            have hfk := hck.1
            have ki := KI_leaf (W' := W) vxk hK (by rw [vk]; exact ord_plain n0 (by clear go; omega) W) (fun y hy => hy) (fun p hp => by
              rw [vk] at hp
              cases p with
              | nil => exact absurd hp (by rw [leaf_n]; omega)
              | cons i p => exact absurd hp (by rw [leaf_c]; decide))
            have b247 : gA (sA σ 249 k 1) 247 = gA σ 247 := funext fun j => by rw [gA_sA, if_neg (by decide)]
            have b244 : gA (sA σ 249 k 1) 244 = gA σ 244 := funext fun j => by rw [gA_sA, if_neg (by decide)]
            refine go (sA σ 249 k 1) l W NU fs (by rw [b247]; exact seenKI ki _ a249) (by rw [b247]; exact mark _ _ a249 b244 (fun q => absurd q f2) (fun y hy => hy) (fun y hy => m4 y (List.mem_cons_of_mem _ hy))) (fun j z1 z2 zf zr z => hNU j z1 z2 zf zr ?_) (by omega) (by omega) (by rw [a249, if_pos rfl]; decide) (fun j q => by rw [a249]; exact mono j q) (fun y hy => by rw [b247]; exact hy)
            rw [a249] at z
            by_cases e : j = k
            · rw [if_pos e] at z; exact absurd z (by decide)
            · rw [if_neg e] at z; exact z
      · rw [if_neg sk]
        unfold b10_numberLetters_157
        have ki := KI_seen vxk (hv k hki.1 hki.2).1 hK ⟨hki.1, hki.2, sk⟩
        refine go σ l W NU (fr_r _) ki ⟨fun j z1 z2 z => ?_, m2, m3, fun y hy => m4 y (List.mem_cons_of_mem _ hy)⟩ hNU (by omega) (by omega) sk (fun _ q => q) (fun _ q => q)
        obtain ⟨y1, y2, y3⟩ := m1 j z1 z2 z
        refine ⟨y1, y2, fun q i i1 i2 => ?_⟩
        rcases y3 q i i1 i2 with w | ⟨y, w1, w2⟩
        · exact Or.inl w
        · rcases List.mem_cons.mp w1 with w | w
          · rw [w, hk] at w2
            rw [← w2]; exact Or.inl sk
          · exact Or.inr ⟨y, w, w2⟩
end
