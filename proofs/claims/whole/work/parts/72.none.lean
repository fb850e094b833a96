/-! ===== noneContainsItself ===== -/
/-- what stays while the class searches -/
def SS (σ : Sg) (n : Int) (F P R : Int → Int) (d : Int → Nat) (J : Nat) (L : List Int) : Prop := gI σ 107 = n ∧ gA σ 100 = F ∧ gA σ 102 = P ∧ US 0 n (gA σ 101) R d J L
theorem SS_fr {T : List Nat} {σ σ' : Sg} (h : fr [] T σ σ') (h1 : 100 ∉ T) (h2 : 102 ∉ T) (h3 : 101 ∉ T) {n : Int} {F P R : Int → Int} {d : Int → Nat} {J : Nat} {L : List Int} (hs : SS σ n F P R d J L) : SS σ' n F P R d J L := ⟨(h.1 107 (List.not_mem_nil)).trans hs.1, (funext fun j => h.2 100 h1 j).trans hs.2.1, (funext fun j => h.2 102 h2 j).trans hs.2.2.1, by rw [show gA σ' 101 = gA σ 101 from funext fun j => h.2 101 h3 j]; exact hs.2.2.2⟩
theorem c_part {σ : Sg} {n : Int} {F P R : Int → Int} {d : Int → Nat} {J : Nat} {L : List Int} (hs : SS σ n F P R d J L) (hn : n ≤ 604) {N : Nat} (hN : 605 ≤ N) {k i : Int} (hk : 0 ≤ k ∧ k < n) (hi : 0 ≤ i ∧ i < 4) (hp : 0 ≤ P (4 * k + i) ∧ P (4 * k + i) < n) : ∃ σ', f5_chosenPart N σ k i = some (σ', R (P (4 * k + i))) ∧ SS σ' n F P R d J L ∧ fr [] [101] σ σ' := by
  obtain ⟨h1, h2, h3, h4⟩ := hs
  unfold f5_chosenPart
  rw [ck_t (show inR (4 * k) from ⟨by omega, by omega⟩), ck_t (show inR (4 * k + i) from ⟨by omega, by omega⟩), ck_t (show 0 ≤ 4 * k + i ∧ 4 * k + i < 2416 by omega), h3, bd_id]
  obtain ⟨σ', e1, e2, e3⟩ := c_chosen0 h1 hn h4 hN (x := P (4 * k + i)) hp
  exact ⟨σ', e1, ⟨(e3.1 107 (by decide)).trans h1, (funext fun j => e3.2 100 (by decide) j).trans h2, (funext fun j => e3.2 102 (by decide) j).trans h3, e2⟩, e3⟩
section
variable {n : Int} {F P R : Int → Int} {d : Int → Nat} {J : Nat} {L : List Int} {N : Nat}
theorem c_dfs (hn : 0 ≤ n ∧ n ≤ 604) (hN : 605 ≤ N) (hR : ∀ k, 0 ≤ k → k < n → (0 ≤ R k ∧ R k < n) ∧ R (R k) = R k) (hpart : ∀ k, 0 ≤ k → k < n → F k = 2 → ∀ i, 0 ≤ i → i < 4 → 0 ≤ P (4 * k + i) ∧ P (4 * k + i) < n) : ∀ (M : Nat) (σ : Sg) (dp i : Int) (rk : Int → Nat) (b : Nat) (NW : List Int), SS σ n F P R d J L → DI n F P R (gA σ 104) (gA σ 105) (gA σ 106) dp rk b NW → 0 ≤ dp → NW.length + dp ≤ 120 → 0 ≤ i → i ≤ sm (wk (gA σ 104) (gA σ 105)) n.toNat → 3022 ≤ i + M → ∃ σ' r, b5_endsEverywhere_18 N M σ dp i = some (σ', r) ∧ fr [] [101, 104, 105, 106] σ σ' ∧ ((r = 1 ∧ SS σ' n F P R d J L ∧ (∃ (rk' : Int → Nat) (b' : Nat) (NW' : List Int), DI n F P R (gA σ' 104) (gA σ' 105) (gA σ' 106) 0 rk' b' NW' ∧ NW'.length ≤ NW.length) ∧ ∀ k, 0 ≤ k → k < n → gA σ 104 k ≠ 0 → gA σ' 104 k ≠ 0) ∨ (r = 0 ∧ ∀ v, ¬ MD 0 n F P R v)) := by
  intro M
  induction M with
  | zero =>
    intro σ dp i rk b NW h1 h2 h3 h4 h5 h6 h7
    have hw : ∀ k : Int, 0 ≤ k → k < (n.toNat : Nat) → wk (gA σ 104) (gA σ 105) k ≤ 5 := fun k k1 k2 => by
      have := (h2.1 k k1 (by omega)).2.1
      show gA σ 105 k + (if gA σ 104 k = 2 then 1 else 0) ≤ 5
      split <;> omega
    have := sm_le (c := 5) n.toNat hw
    omega
  | succ M ih =>
    intro σ dp i rk b NW h1 h2 h3 h4 h5 h6 h7
    have hw : ∀ k : Int, 0 ≤ k → k < (n.toNat : Nat) → wk (gA σ 104) (gA σ 105) k ≤ 5 := fun k k1 k2 => by
      have := (h2.1 k k1 (by omega)).2.1
      show gA σ 105 k + (if gA σ 104 k = 2 then 1 else 0) ≤ 5
      split <;> omega
    have hsum := sm_le (c := 5) n.toNat hw
    unfold b5_endsEverywhere_18
    have stop : dp = 0 → ∃ σ' r, some (σ, (1 : Int)) = some (σ', r) ∧ fr [] [101, 104, 105, 106] σ σ' ∧ ((r = 1 ∧ SS σ' n F P R d J L ∧ (∃ (rk' : Int → Nat) (b' : Nat) (NW' : List Int), DI n F P R (gA σ' 104) (gA σ' 105) (gA σ' 106) 0 rk' b' NW' ∧ NW'.length ≤ NW.length) ∧ ∀ k, 0 ≤ k → k < n → gA σ 104 k ≠ 0 → gA σ' 104 k ≠ 0) ∨ (r = 0 ∧ ∀ v, ¬ MD 0 n F P R v)) := fun z => by
      rw [z] at h2
      exact ⟨σ, 1, rfl, fr_r _, Or.inl ⟨rfl, h1, ⟨rk, b, NW, h2, Nat.le_refl _⟩, fun _ _ _ q => q⟩⟩
    by_cases hdp : dp = 0
    · by_cases hi : 3020 ≤ i
      · rw [if_pos hi, ck11]; exact stop hdp
      · rw [if_neg hi, if_pos (show dp ≤ 0 by omega), ck11]; exact stop hdp
    obtain ⟨e, he⟩ : ∃ e, dp = e + 1 := ⟨dp - 1, by omega⟩
    subst he
    clear stop
    obtain ⟨t1, t2, t3, t4, -, -, -⟩ := h2.2 e (by omega) (by omega)
    obtain ⟨k, hk⟩ : ∃ k, gA σ 106 e = k := ⟨_, rfl⟩
    have hps := (h2.1 _ t1.1 t1.2).2.1
    rw [hk] at t1 t2 t3 t4 hps
    have hstrict : sm (wk (gA σ 104) (gA σ 105)) n.toNat ≤ 5 * n - 1 := by
      have u := sm_up (f := wk (gA σ 104) (gA σ 105)) (f' := fun j => if j = k then 5 else wk (gA σ 104) (gA σ 105) j) (k := k) (fun j hj => if_neg hj) t1.1 n.toNat (by omega)
      have w := sm_le (f := fun j => if j = k then 5 else wk (gA σ 104) (gA σ 105) j) (c := 5) n.toNat (fun j j1 j2 => by
        show (if j = k then 5 else wk (gA σ 104) (gA σ 105) j) ≤ 5
        by_cases z : j = k
        · rw [if_pos z]; omega
        · rw [if_neg z]; exact hw j j1 j2)
      rw [if_pos rfl] at u
      have x : wk (gA σ 104) (gA σ 105) k = gA σ 105 k := by
        show gA σ 105 k + (if gA σ 104 k = 2 then 1 else 0) = _
        rw [if_neg (by omega)]; omega
      rw [x] at u
      omega
    rw [if_neg (show ¬ 3020 ≤ i by omega), if_neg (show ¬ e + 1 ≤ 0 by omega), show e + 1 - 1 = e by omega, ck_t (show inR e from ⟨by omega, by omega⟩), ck_t (show 0 ≤ e ∧ e < 604 by omega), hk, ck_t (show 0 ≤ k ∧ k < 604 by omega)]
    -- how it goes on
    have go : ∀ (σ3 : Sg) (dp3 : Int) (rk3 : Int → Nat) (b3 : Nat) (NW3 : List Int), fr [] [101, 104, 105, 106] σ σ3 → SS σ3 n F P R d J L → DI n F P R (gA σ3 104) (gA σ3 105) (gA σ3 106) dp3 rk3 b3 NW3 → 0 ≤ dp3 → NW3.length + dp3 ≤ 120 → NW3.length ≤ NW.length → sm (wk (gA σ3 104) (gA σ3 105)) n.toNat = sm (wk (gA σ 104) (gA σ 105)) n.toNat + 1 → (∀ k, 0 ≤ k → k < n → gA σ 104 k ≠ 0 → gA σ3 104 k ≠ 0) → ∃ σ' r, b5_endsEverywhere_154 N (b5_endsEverywhere_18 N M) σ3 dp3 i = some (σ', r) ∧ fr [] [101, 104, 105, 106] σ σ' ∧ ((r = 1 ∧ SS σ' n F P R d J L ∧ (∃ (rk' : Int → Nat) (b' : Nat) (NW' : List Int), DI n F P R (gA σ' 104) (gA σ' 105) (gA σ' 106) 0 rk' b' NW' ∧ NW'.length ≤ NW.length) ∧ ∀ k, 0 ≤ k → k < n → gA σ 104 k ≠ 0 → gA σ' 104 k ≠ 0) ∨ (r = 0 ∧ ∀ v, ¬ MD 0 n F P R v)) := by
      intro σ3 dp3 rk3 b3 NW3 g1 g2 g3 g4 g5 g6 g7 g8
      unfold b5_endsEverywhere_154
      rw [ck_t (show inR (i + 1) from ⟨by omega, by omega⟩)]
      obtain ⟨σ', r, q1, q2, q3⟩ := ih σ3 dp3 (i + 1) rk3 b3 NW3 g2 g3 g4 g5 (by omega) (by omega) (by omega)
      refine ⟨σ', r, q1, fr_t g1 q2, ?_⟩
      rcases q3 with ⟨w1, w2, ⟨rk', b', NW', w3, w4⟩, w5⟩ | w
      · exact Or.inl ⟨w1, w2, ⟨rk', b', NW', w3, Nat.le_trans w4 g6⟩, fun k k1 k2 q => w5 k k1 k2 (g8 k k1 k2 q)⟩
      · exact Or.inr w
    by_cases p4 : gA σ 105 k = 4
    · rw [if_pos p4, ck_t (show 0 ≤ k ∧ k < 604 by omega), nx_d, show e + 1 + -1 = e by omega, ck_t (show inR e from ⟨by omega, by omega⟩)]
      have f : fr [] [101, 104, 105, 106] σ (sA σ 104 k 2) := fr_A _ _ _ (by decide) (fr_r _)
      refine go (sA σ 104 k 2) e _ _ NW f (SS_fr (T := [104]) (fr_A _ _ _ (by decide) (fr_r _)) (by decide) (by decide) (by decide) h1) (DI_leave (pr' := gA (sA σ 104 k 2) 104) (ps := gA σ 105) (pa := gA σ 106) (fun x x1 x2 hx j j1 j2 => (hR _ (hpart x x1 x2 hx j j1 j2).1 (hpart x x1 x2 hx j j1 j2).2).1) h2 (by omega) (by rw [hk]; exact p4) (fun x => by rw [gA_sA, if_pos rfl, hk])) (by omega) (by omega) (Nat.le_refl _) ?_ (fun x x1 x2 hx => ?_)
      · rw [sm_up (f := wk (gA σ 104) (gA σ 105)) (k := k) (fun j hj => ?_) t1.1 n.toNat (by omega)]
        · have x : wk (gA (sA σ 104 k 2) 104) (gA (sA σ 104 k 2) 105) k = gA σ 105 k + 1 := by
            show gA σ 105 k + (if gA (sA σ 104 k 2) 104 k = 2 then 1 else 0) = _
            rw [gA_sA, if_pos rfl, if_pos rfl, if_pos rfl]
          have y : wk (gA σ 104) (gA σ 105) k = gA σ 105 k := by
            show gA σ 105 k + (if gA σ 104 k = 2 then 1 else 0) = _
            rw [if_neg (by omega)]; omega
          rw [x, y]; omega
        · show gA σ 105 j + (if gA (sA σ 104 k 2) 104 j = 2 then 1 else 0) = gA σ 105 j + (if gA σ 104 j = 2 then 1 else 0)
          rw [gA_sA, if_pos rfl, if_neg hj]
      · rw [gA_sA, if_pos rfl]
        by_cases z : x = k
        · rw [if_pos z]; decide
        · rw [if_neg z]; exact hx
    rw [if_neg p4, ck_t (show 0 ≤ k ∧ k < 604 by omega)]
    have hs4 : 0 ≤ gA σ 105 k ∧ gA σ 105 k < 4 := by omega
    have hpp := hpart k t1.1 t1.2 t3 _ hs4.1 hs4.2
    obtain ⟨σ1, c1, c2, c3⟩ := c_part h1 hn.2 hN (k := k) (i := gA σ 105 k) t1 hs4 hpp
    rw [c1, bd_s, c3.2 105 (by decide), ck_t (show 0 ≤ k ∧ k < 604 by omega), ck_t (show inR (gA σ 105 k + 1) from ⟨by omega, by omega⟩), ck_t (show 0 ≤ k ∧ k < 604 by omega), nx_d]
    obtain ⟨c, hc⟩ : ∃ c, R (P (4 * k + gA σ 105 k)) = c := ⟨_, rfl⟩
    have hci := (hR _ hpp.1 hpp.2).1
    have hRc := (hR _ hpp.1 hpp.2).2
    rw [hc] at hci hRc ⊢
    obtain ⟨σ2, hσ2⟩ : ∃ σ2, sA σ1 105 k (gA σ 105 k + 1) = σ2 := ⟨_, rfl⟩
    rw [hσ2]
    have f12 : fr [] [105] σ1 σ2 := by rw [← hσ2]; exact fr_A _ _ _ (by decide) (fr_r _)
    have f2 : fr [] [101, 104, 105, 106] σ σ2 := fr_t (fr_m (by decide) (by decide) c3) (fr_m (by decide) (by decide) f12)
    have s2 : SS σ2 n F P R d J L := SS_fr f12 (by decide) (by decide) (by decide) c2
    have r104 : gA σ2 104 = gA σ 104 := (funext fun j => f12.2 104 (by decide) j).trans (funext fun j => c3.2 104 (by decide) j)
    have r106 : gA σ2 106 = gA σ 106 := (funext fun j => f12.2 106 (by decide) j).trans (funext fun j => c3.2 106 (by decide) j)
    have r105 : ∀ x, gA σ2 105 x = if x = gA σ 106 e then gA σ 105 x + 1 else gA σ 105 x := fun x => by
      rw [← hσ2, gA_sA, if_pos rfl, hk]
      by_cases z : x = k
      · rw [if_pos z, if_pos z, z]
      · rw [if_neg z, if_neg z, c3.2 105 (by decide)]
    have hc' : R (P (4 * gA σ 106 e + gA σ 105 (gA σ 106 e))) = c := by rw [hk]; exact hc
    have sum2 : ∀ pr : Int → Int, (∀ x, (pr x = 2 ↔ gA σ 104 x = 2)) → sm (wk pr (gA σ2 105)) n.toNat = sm (wk (gA σ 104) (gA σ 105)) n.toNat + 1 := fun pr hpr => by
      have iff1 : ∀ x, (if pr x = 2 then (1 : Int) else 0) = if gA σ 104 x = 2 then 1 else 0 := fun x => by
        by_cases z : gA σ 104 x = 2
        · rw [if_pos z, if_pos ((hpr x).mpr z)]
        · rw [if_neg z, if_neg (fun q => z ((hpr x).mp q))]
      rw [sm_up (f := wk (gA σ 104) (gA σ 105)) (k := k) (fun j hj => ?_) t1.1 n.toNat (by omega)]
      · show _ + (gA σ2 105 k + (if pr k = 2 then 1 else 0) - (gA σ 105 k + if gA σ 104 k = 2 then 1 else 0)) = _
        rw [iff1, r105, hk, if_pos rfl]; omega
      · show gA σ2 105 j + (if pr j = 2 then 1 else 0) = gA σ 105 j + (if gA σ 104 j = 2 then 1 else 0)
        rw [iff1, r105, hk, if_neg hj]
    rw [ck_t (show 0 ≤ c ∧ c < 604 by omega), s2.2.1, r104]
    have skip : (F c = 2 → gA σ 104 c = 2) → ∃ σ' r, b5_endsEverywhere_154 N (b5_endsEverywhere_18 N M) σ2 (e + 1) i = some (σ', r) ∧ fr [] [101, 104, 105, 106] σ σ' ∧ ((r = 1 ∧ SS σ' n F P R d J L ∧ (∃ (rk' : Int → Nat) (b' : Nat) (NW' : List Int), DI n F P R (gA σ' 104) (gA σ' 105) (gA σ' 106) 0 rk' b' NW' ∧ NW'.length ≤ NW.length) ∧ ∀ k, 0 ≤ k → k < n → gA σ 104 k ≠ 0 → gA σ' 104 k ≠ 0) ∨ (r = 0 ∧ ∀ v, ¬ MD 0 n F P R v)) := fun hin => by
      refine go σ2 (e + 1) rk b NW f2 s2 ?_ (by omega) h4 (Nat.le_refl _) ?_ (fun x _ _ q => by rw [r104]; exact q)
      · rw [r104, r106]
        exact DI_next h2 (by omega) (by rw [hk]; exact hs4.2) r105 (by rw [hc']; exact hin)
      · rw [r104]; exact sum2 _ (fun _ => Iff.rfl)
    unfold b5_endsEverywhere_114
    rw [ck_t (show 0 ≤ c ∧ c < 604 by omega), s2.2.1, r104]
    by_cases fc : F c = 2
    · rw [if_pos fc, ck_t (show 0 ≤ c ∧ c < 604 by omega)]
      by_cases pc1 : gA σ 104 c = 1
      · rw [if_pos pc1, ck01]
        exact ⟨σ2, 0, rfl, f2, Or.inr ⟨rfl, fun v hv => DI_cycle (fun x x1 x2 hx j j1 j2 => by have := hpart x x1 x2 hx j j1 j2; omega) h2 (by omega) hs4 (by rw [hk]; exact hc) hci pc1 hv⟩⟩
      · rw [if_neg pc1, if_pos fc, ck_t (show 0 ≤ c ∧ c < 604 by omega)]
        by_cases pc0 : gA σ 104 c = 0
        · rw [if_pos pc0, ck_t (show 0 ≤ c ∧ c < 604 by omega), nx_d, ck_t (show 0 ≤ e + 1 ∧ e + 1 < 604 by omega), nx_d, ck_t (show inR (e + 1 + 1) from ⟨by omega, by omega⟩)]
          obtain ⟨σ3, hσ3⟩ : ∃ σ3, sA (sA σ2 104 c 1) 106 (e + 1) c = σ3 := ⟨_, rfl⟩
          rw [hσ3]
          have f23 : fr [] [104, 106] σ2 σ3 := by rw [← hσ3]; exact fr_A _ _ _ (by decide) (fr_A _ _ _ (by decide) (fr_r _))
          have u104 : ∀ x, gA σ3 104 x = if x = c then 1 else gA σ 104 x := fun x => by
            rw [← hσ3, gA_sA, if_neg (by decide), gA_sA, if_pos rfl, r104]
          have u105 : gA σ3 105 = gA σ2 105 := funext fun j => f23.2 105 (by decide) j
          have u106 : ∀ j, gA σ3 106 j = if j = e + 1 then c else gA σ 106 j := fun j => by
            rw [← hσ3]
            simp only [gA_sA, Nat.reduceEqDiff, reduceIte, r106]
          obtain ⟨w1, w2⟩ := DI_push (pr' := gA σ3 104) (ps' := gA σ3 105) (pa' := gA σ3 106) h2 (by omega) (by rw [hk]; exact hs4) hc' hci hRc fc pc0 (by rw [u105]; exact r105) u104 u106
          have hlen := List.length_erase_of_mem w2
          have hpos := List.length_pos_of_mem w2
          refine go σ3 (e + 1 + 1) rk b (NW.erase c) (fr_t f2 (fr_m (by decide) (by decide) f23)) (SS_fr f23 (by decide) (by decide) (by decide) s2) w1 (by omega) (by omega) (by omega) ?_ (fun x x1 x2 hx => ?_)
          · rw [u105]
            refine sum2 _ (fun x => ?_)
            rw [u104]
            by_cases z : x = c
            · rw [if_pos z, z, pc0]; exact ⟨fun q => absurd q (by decide), fun q => absurd q (by decide)⟩
            · rw [if_neg z]
          · rw [u104]
            by_cases z : x = c
            · rw [if_pos z]; decide
            · rw [if_neg z]; exact hx
        · rw [if_neg pc0]
          have := (h2.1 c hci.1 hci.2).1
          exact skip (fun _ => by clear skip go; omega)
    · rw [if_neg fc, if_neg fc, ck_t (show 0 ≤ c ∧ c < 604 by omega)]
      exact skip (fun q => absurd q fc)
end
