/-! ===== variables; all kinds ===== -/
theorem VT_p {v : Int → Tr} {L : List (Int × Int)} {i : Int} {a : Int} (hg : L[i.toNat]? = some (a, -1)) (t : Tr) : VT (EV v L) i t ↔ t = v a := by
  have e : (EV v L)[i.toNat]? = some (v a, none) := by
    unfold EV
    rw [List.getElem?_map, hg]
    rfl
  constructor
  · rintro ⟨x, h1, h2⟩
    rw [e] at h1
    have hx := Option.some.inj h1
    subst hx
    rcases h2 with ⟨-, h⟩ | ⟨g, r, h, -⟩
    · exact h
    · exact absurd h (by intro z; cases z)
  · intro h
    exact ⟨_, e, Or.inl ⟨rfl, h⟩⟩
theorem VT_g {v : Int → Tr} {L : List (Int × Int)} {i : Int} {a g : Int} (hg : L[i.toNat]? = some (a, g)) (hn : g ≠ -1) (t : Tr) : VT (EV v L) i t ↔ ∃ r, tre r ∧ t = fnT (v a) r (v g) r := by
  have e : (EV v L)[i.toNat]? = some (v a, some (v g)) := by
    unfold EV
    rw [List.getElem?_map, hg]
    show some (v a, if g = -1 then none else some (v g)) = _
    rw [if_neg hn]
  constructor
  · rintro ⟨x, h1, h2⟩
    rw [e] at h1
    have hx := Option.some.inj h1
    subst hx
    rcases h2 with ⟨h, -⟩ | ⟨g', r, h, h3, h4⟩
    · exact absurd h (by intro z; cases z)
    · have := Option.some.inj h
      subst this
      exact ⟨r, h3, h4⟩
  · rintro ⟨r, h3, h4⟩
    exact ⟨_, e, Or.inr ⟨_, r, rfl, h3, h4⟩⟩
section
variable {K A B C H Z Nd : Int → Int} {T0 : Int} {N : Nat} {G : Sg → Int → Int → Int → Int → Int → Option (Sg × Int)} {d : Nat} {lev : Int}
theorem c_var (hN : 605 ≤ N) {σ : Sg} {R : Int → Int} {LF : List Int} {L : List (Int × Int)} {i t p q : Int} (h : CTy σ R LF L) (hi : 0 ≤ i ∧ i < L.length) (hL : L.length < 100) {n : Int} (hnn : gI σ 107 = n) (ht : 0 ≤ t ∧ t < n) (hp : 0 ≤ p ∧ p < n) (hq : 0 ≤ q ∧ q < n) (hn : n + 5 ≤ 604) (hf : LF.length + 1 ≤ 120) (hL18 : L.length ≤ 18) : GO (bd (f6_typeOfVariable σ i) fun σ19 r19 => bd (f5_makeSame N σ19 t r19) fun σ21 r21 => if r21 = 0 then (ck ((0 : Int) = 0 ∨ (0 : Int) = 1) (some (σ21, (0 : Int)))) else (bd (f5_makeSame N σ21 p q) fun σ24 r24 => if r24 = 0 then (ck ((0 : Int) = 0 ∨ (0 : Int) = 1) (some (σ24, (0 : Int)))) else (ck ((1 : Int) = 0 ∨ (1 : Int) = 1) (some (σ24, (1 : Int)))))) σ R LF L 5 1 (fun v => VT (EV v L) i (v t) ∧ v p = v q) := by
  have h4 := h.2.2.2.1
  have h7 := h.2.2.2.2.2.2
  have b124 := h.2.1
  have hg := EnvC_get L i.toNat (by omega) h.2.2.1
  have ei : ((i.toNat : Nat) : Int) = i := by omega
  rw [ei] at hg
  obtain ⟨j, hj⟩ : ∃ j, (L.length : Int) - 1 - i = j := ⟨_, rfl⟩
  rw [hj] at hg
  have hmem := h4 _ (List.mem_of_getElem? hg)
  have ha : 0 ≤ gA σ 122 j ∧ gA σ 122 j < n := by have := hmem.1; omega
  unfold f6_typeOfVariable
  rw [b124, hj, ck_t (show inR ((L.length : Int) - 1) from ⟨by omega, by omega⟩), ck_t (show inR j from ⟨by omega, by omega⟩), if_pos (show 0 ≤ j by omega), ck_t (show 0 ≤ j ∧ j < 18 by omega)]
  by_cases g1 : gA σ 123 j = -1
  · rw [if_pos g1, ck_t (show 0 ≤ j ∧ j < 18 by omega), bd_s]
    rw [g1] at hg
    refine GO_conv (GO_seq (T1 := fun v => v t = v (gA σ 122 j)) (T2 := fun v => v p = v q) (GO_same h (by omega) (by omega) hN (by omega) (by omega)) (Loc_eq (by omega) (by omega)) (Loc_eq (by omega) (by omega)) (Int.le_refl 0) (Int.le_refl 0) (fun σ1 R1 LF1 f1 c1 n1 n1' l1 => GO_last (GO_same c1 (by omega) (by omega) hN (by omega) (by omega)))) (by decide) (by decide) (fun v _ => ?_)
    rw [VT_p hg]
  · have hgg : 0 ≤ gA σ 123 j ∧ gA σ 123 j < n := by rcases hmem.2 with z | z; exact absurd z g1; have := z; omega
    rw [if_neg g1, bd_bd]
    have step := GO_lt (T := fun v => (fun v => v t = v (n + 1) ∧ v p = v q) (uv v (n + 1) (fnT (v (gA σ 122 j)) (v n) (v (gA σ 123 j)) (v n)))) (rest := fun σ7 r7 => bd (ck (0 ≤ j ∧ j < 18) <| ck (0 ≤ j ∧ j < 18) <| bd (f5_function σ7 (gA σ7 122 j) r7 (gA σ7 123 j) r7) fun σ11 r11 => some (σ11, r11)) fun σ19 r19 => bd (f5_makeSame N σ19 t r19) fun σ21 r21 => if r21 = 0 then (ck ((0 : Int) = 0 ∨ (0 : Int) = 1) (some (σ21, (0 : Int)))) else (bd (f5_makeSame N σ21 p q) fun σ24 r24 => if r24 = 0 then (ck ((0 : Int) = 0 ∨ (0 : Int) = 1) (some (σ24, (0 : Int)))) else (ck ((1 : Int) = 0 ∨ (1 : Int) = 1) (some (σ24, (1 : Int)))))) (y := 1 + (0 + 0)) (z := 1 + (0 + 0)) n hnn h (by omega) (by omega) (fun σ1 R1 f1 c1 n1 => by
      have hg1 := EnvC_get L i.toNat (by omega) c1.2.2.1
      rw [ei, hj, hg] at hg1
      have hx := Option.some.inj hg1
      have x1 : gA σ1 122 j = gA σ 122 j := (Prod.mk.inj hx).1.symm
      have x2 : gA σ1 123 j = gA σ 123 j := (Prod.mk.inj hx).2.symm
      rw [ck_t (show 0 ≤ j ∧ j < 18 by omega), ck_t (show 0 ≤ j ∧ j < 18 by omega), bd_id, x1, x2]
      refine GO_fn (T := fun v => v t = v (n + 1) ∧ v p = v q) (n + 1) (by omega) c1 (by omega) (by omega) (by omega) (by omega) (by omega) (by omega) (fun σ2 R2 f2 c2 n2 => ?_)
      have hlen : (((n + 1) :: LF).length : Int) = LF.length + 1 := by rw [List.length_cons]; omega
      exact GO_seq (T1 := fun v => v t = v (n + 1)) (T2 := fun v => v p = v q) (GO_same c2 (by omega) (by omega) hN (by omega) (by omega)) (Loc_eq (by omega) (by omega)) (Loc_eq (by omega) (by omega)) (Int.le_refl 0) (Int.le_refl 0) (fun σ3 R3 LF3 f3 c3 n3 n3' l3 => GO_last (GO_same c3 (by omega) (by omega) hN (by omega) (by omega))))
    refine GO_conv step (by decide) (by decide) (fun v _ => ?_)
    rw [VT_g hg g1]
    have key : ∀ x, (fun v => (fun v : Int → Tr => v t = v (n + 1) ∧ v p = v q) (uv v (n + 1) (fnT (v (gA σ 122 j)) (v n) (v (gA σ 123 j)) (v n)))) (uv v n x) ↔ v t = fnT (v (gA σ 122 j)) x (v (gA σ 123 j)) x ∧ v p = v q := fun x => by
      show uv (uv v n x) (n + 1) (fnT (uv v n x (gA σ 122 j)) (uv v n x n) (uv v n x (gA σ 123 j)) (uv v n x n)) t = uv (uv v n x) (n + 1) (fnT (uv v n x (gA σ 122 j)) (uv v n x n) (uv v n x (gA σ 123 j)) (uv v n x n)) (n + 1) ∧ uv (uv v n x) (n + 1) (fnT (uv v n x (gA σ 122 j)) (uv v n x n) (uv v n x (gA σ 123 j)) (uv v n x n)) p = uv (uv v n x) (n + 1) (fnT (uv v n x (gA σ 122 j)) (uv v n x n) (uv v n x (gA σ 123 j)) (uv v n x n)) q ↔ _
      rw [uv_s (uv v n x), uv_n (show t ≠ n + 1 by omega), uv_n (show p ≠ n + 1 by omega), uv_n (show q ≠ n + 1 by omega), uv_n (show t ≠ n by omega), uv_n (show p ≠ n by omega), uv_n (show q ≠ n by omega), uv_n (show gA σ 122 j ≠ n by omega), uv_n (show gA σ 123 j ≠ n by omega), uv_s]
    constructor
    · rintro ⟨x, hx, k⟩
      have k := (key x).mp k
      exact ⟨⟨x, hx, k.1⟩, k.2⟩
    · rintro ⟨⟨x, hx, k1⟩, k2⟩
      exact ⟨x, hx, (key x).mpr ⟨k1, k2⟩⟩
end
theorem c_rec {K A B C H Z Nd : Int → Int} {T0 : Int} (hT0 : T0 ≤ 60) (hT : ∀ t, 0 ≤ t → t < T0 → TT K A B C H Z Nd t) {N : Nat} (hN : 605 ≤ N) : ∀ (d : Nat) (lev : Int), lev + d = 11 → 1 ≤ lev → GG K A B C H Z Nd T0 (f6_rec N d) d lev := by
  intro d
  induction d with
  | zero =>
    intro lev h1 h2 σ R LF L e t p q _ _ _ _ _ he he' hH
    have := (hT e he he').2.2.2.2.2.1
    omega
  | succ d ih =>
    intro lev h1 h2 σ R LF L e t p q t1 t2 t3 t4 hc he he' hH hNd hL ht hp hq hn hf
    have hTT := hT e he he'
    have hHe := hTT.2.2.2.2.2.1
    have hZe := hTT.2.2.2.2.2.2.1
    have hlev : 1 ≤ lev ∧ lev ≤ 9 := by omega
    have hG := ih (lev + 1) (by omega) (by omega)
    have hK := hTT.1
    have hz := TT_hz hTT
    have hna := TT_na hTT
    have hnb := TT_nb hTT
    have h4 := hc.2.2.2.1
    have h7 := hc.2.2.2.2.2.2
    have word : ∀ x, 0 ≤ x → x < e → (1 ≤ Z x) := fun x x1 x2 => (hT x x1 (by omega)).2.2.2.2.2.2.1.1
    show GO (f6_holds N (f6_rec N d) σ e t p q lev) σ R LF L _ _ _
    unfold f6_holds
    rw [if_pos hlev.2, ck_t (show 0 ≤ e ∧ e < 60 by omega), ck_t (show 0 ≤ e ∧ e < 60 by omega), t1, t2]
    by_cases k0 : K e = 0
    · rw [if_pos k0]
      refine GO_conv (GO_seq (T1 := fun v => v t = v 0) (T2 := fun v => v p = v q) (GO_same hc (by omega) (by omega) hN (by omega) (by omega)) (Loc_eq (by omega) (by omega)) (Loc_eq (by omega) (by omega)) (Int.le_refl 0) (Int.le_refl 0) (fun σ1 R1 LF1 f1 c1 n1 n1' l1 => GO_last (GO_same c1 (by omega) (by omega) hN (by omega) (by omega)))) (by omega) (by omega) (fun v hv => ?_)
      rw [HT_0 k0, (v_num hc hv).1]
    rw [if_neg k0]
    by_cases k1 : K e = 1
    · rw [if_pos k1]
      refine GO_conv (GO_seq (T1 := fun v => v t = v 1) (T2 := fun v => v p = v q) (GO_same hc (by omega) (by omega) hN (by omega) (by omega)) (Loc_eq (by omega) (by omega)) (Loc_eq (by omega) (by omega)) (Int.le_refl 0) (Int.le_refl 0) (fun σ1 R1 LF1 f1 c1 n1 n1' l1 => GO_last (GO_same c1 (by omega) (by omega) hN (by omega) (by omega)))) (by omega) (by omega) (fun v hv => ?_)
      rw [HT_1 k1, (v_num hc hv).2]
    rw [if_neg k1]
    by_cases k2 : K e = 2
    · rw [if_pos k2]
      have hw : 0 ≤ A e ∧ A e < L.length := by
        have h2 := hTT.2.1
        have h5 := hTT.2.2.2.2.1
        unfold nT at h5
        rw [if_pos k2] at h5
        omega
      refine GO_conv (c_var hN hc hw (by omega) rfl ht hp hq (by omega) (by omega) (by omega)) (by omega) (by omega) (fun v _ => ?_)
      rw [HT_2 k2]
    rw [if_neg k2]
    have wa := (hz.1 (by omega))
    have za := word _ wa.1.1 wa.1.2
    have fnc : K e = 3 ∨ K e = 11 → GO (bd (f5_makeSame N σ p q) fun σ28 r28 => if r28 = 0 then (ck ((0 : Int) = 0 ∨ (0 : Int) = 1) (some (σ28, (0 : Int)))) else (bd (f6_functionHolds N (f6_rec N d) σ28 e t lev) fun σ31 r31 => if r31 = 0 then (ck ((0 : Int) = 0 ∨ (0 : Int) = 1) (some (σ31, (0 : Int)))) else (ck ((1 : Int) = 0 ∨ (1 : Int) = 1) (some (σ31, (1 : Int)))))) σ R LF L (5 * Z e) (Z e) (fun v => HT K A B C (d + 1) e (EV v L) (v t) (v p) (v q)) := fun kk => by
      have zz := hz.2.2.2.1 (by omega)
      refine GO_conv (GO_seq (T1 := fun v => v p = v q) (T2 := fun v => ∃ x b g a, tre x ∧ tre b ∧ tre g ∧ tre a ∧ v t = fnT x b g a ∧ HT K A B C d (A e) (if K e = 11 then (x, none) :: (fnT x b g a, none) :: EV v L else (x, none) :: EV v L) g b a) (y2 := 1 + (1 + (1 + (1 + (1 + (5 * Z (A e) + 0)))))) (z2 := 1 + (Z (A e) + 0)) (GO_same hc (by omega) (by omega) hN (by omega) (by omega)) (Loc_eq (by omega) (by omega)) ?_ (by omega) (by omega) (fun σ1 R1 LF1 f1 c1 n1 n1' l1 => GO_last (c_fun hN hG hlev (tab_fr f1 (by decide) t1) (tab_fr f1 (by decide) t2) (tab_fr f1 (by decide) t3) (tab_fr f1 (by decide) t4) c1 (by omega) (by omega) (by omega) kk ?_ hL (n := gI σ1 107) rfl (by omega) za (by omega) (by omega)))) (by omega) (by omega) (fun v hv => ?_)
      · rintro v v' hag ⟨x, b, g, a, q1, q2, q3, q4, q5, q6⟩
        refine ⟨x, b, g, a, q1, q2, q3, q4, (hag t ht.1 ht.2).trans q5, ?_⟩
        rw [EV_agree h4 (v := v) (fun k z1 z2 => hag k z1 (by omega))]
        exact q6
      · rcases kk with kk | kk
        · rw [if_neg (by omega)]
          have := hna.2.1 (Or.inl kk)
          omega
        · rw [if_pos kk]
          have := hna.2.2 kk
          omega
      · rcases kk with kk | kk
        · rw [HT_3 kk]
          have : ¬ K e = 11 := by omega
          simp only [if_neg this]
        · rw [HT_11 kk]
          simp only [if_pos kk]
    by_cases k3 : K e = 3
    · rw [if_pos k3]
      exact fnc (Or.inl k3)
    rw [if_neg k3]
    by_cases k4 : K e = 4
    · rw [if_pos k4]
      have wb := hz.2.1 (by omega)
      have zb := word _ wb.1.1 wb.1.2
      have zz := hz.2.2.2.2.1 (by omega)
      have n1 := hna.1 (by omega)
      have n2 := hnb.1 (by omega)
      refine GO_conv (GO_ret (c_call (N := N) hG hlev t1 t2 t3 t4 hc (by omega) (by omega) (by omega) (by omega) (by omega) (by omega) (by omega) hL rfl ht hp hq za zb (by omega) (by omega))) (by omega) (by omega) (fun v hv => ?_)
      rw [HT_4 k4]
    rw [if_neg k4]
    have nums : K e = 5 ∨ K e = 6 → ∀ b : Int, (b = 0 ∨ b = 1) → GO (bd (f5_makeSame N σ t b) fun σ38 r38 => if r38 = 0 then (ck ((0 : Int) = 0 ∨ (0 : Int) = 1) (some (σ38, (0 : Int)))) else (bd (f6_numbersHold N (f6_rec N d) σ38 e p q lev) fun σ41 r41 => if r41 = 0 then (ck ((0 : Int) = 0 ∨ (0 : Int) = 1) (some (σ41, (0 : Int)))) else (ck ((1 : Int) = 0 ∨ (1 : Int) = 1) (some (σ41, (1 : Int)))))) σ R LF L (5 * Z e) (Z e) (fun v => v t = v b ∧ ∃ m, tre m ∧ HT K A B C d (A e) (EV v L) (leaf 0) m (v q) ∧ HT K A B C d (B e) (EV v L) (leaf 0) (v p) m) := fun kk b hb => by
      have wb := hz.2.1 (by omega)
      have zb := word _ wb.1.1 wb.1.2
      have zz := hz.2.2.2.2.1 (by omega)
      have n1 := hna.1 (by omega)
      have n2 := hnb.1 (by omega)
      refine GO_conv (GO_seq (T1 := fun v => v t = v b) (T2 := fun v => ∃ m, tre m ∧ HT K A B C d (A e) (EV v L) (leaf 0) m (v q) ∧ HT K A B C d (B e) (EV v L) (leaf 0) (v p) m) (y2 := 1 + (5 * Z (A e) + 5 * Z (B e))) (z2 := Z (A e) + Z (B e)) (GO_same hc (by omega) (by omega) hN (by omega) (by omega)) (Loc_eq (by omega) (by omega)) ?_ (by omega) (by omega) (fun σ1 R1 LF1 f1 c1 n1 n1' l1 => GO_last (c_numbers (N := N) hG hlev (tab_fr f1 (by decide) t1) (tab_fr f1 (by decide) t2) (tab_fr f1 (by decide) t3) (tab_fr f1 (by decide) t4) c1 (by omega) (by omega) (by omega) (by omega) (by omega) (by omega) (by omega) hL (by omega) (by omega) za zb (by omega) (by omega)))) (by omega) (by omega) (fun v hv => Iff.rfl)
      rintro v v' hag ⟨m, q1, q2, q3⟩
      refine ⟨m, q1, ?_⟩
      rw [EV_agree h4 (v := v) (fun k z1 z2 => hag k z1 (by omega)), hag p hp.1 hp.2, hag q hq.1 hq.2]
      exact ⟨q2, q3⟩
    by_cases k5 : K e = 5
    · rw [if_pos k5]
      refine GO_conv (nums (Or.inl k5) 0 (Or.inl rfl)) (Int.le_refl _) (Int.le_refl _) (fun v hv => ?_)
      rw [HT_5 k5, (v_num hc hv).1]
    rw [if_neg k5]
    by_cases k6 : K e = 6
    · rw [if_pos k6]
      refine GO_conv (nums (Or.inr k6) 1 (Or.inr rfl)) (Int.le_refl _) (Int.le_refl _) (fun v hv => ?_)
      rw [HT_6 k6, (v_num hc hv).2]
    rw [if_neg k6]
    by_cases k7 : K e = 7
    · rw [if_pos k7]
      have wb := hz.2.1 (by omega)
      have zb := word _ wb.1.1 wb.1.2
      have wc := hz.2.2.1 k7
      have zc := word _ wc.1.1 wc.1.2
      have zz := hz.2.2.2.2.2 k7
      have n1 := hna.1 (by omega)
      have n2 := hnb.1 (by omega)
      have n3 := hnb.2.2 k7
      refine GO_conv (GO_ret (c_if (N := N) hG hlev t1 t2 t3 t4 hc (by omega) (by omega) (by omega) (by omega) (by omega) (by omega) (by omega) (by omega) (by omega) (by omega) hL ht hp hq za zb zc (by omega) (by omega))) (by omega) (by omega) (fun v hv => ?_)
      rw [HT_7 k7]
    rw [if_neg k7]
    by_cases k8 : K e = 8
    · rw [if_pos k8]
      have wb := hz.2.1 (by omega)
      have zb := word _ wb.1.1 wb.1.2
      have zz := hz.2.2.2.2.1 (by omega)
      have n1 := hna.1 (by omega)
      have n2 := hnb.2.1 k8
      refine GO_conv (GO_ret (c_let (N := N) hG hlev t1 t2 t3 t4 hc (by omega) (by omega) (by omega) (by omega) (by omega) (by omega) (by omega) hL rfl ht hp hq za zb (by omega) (by omega))) (by omega) (by omega) (fun v hv => ?_)
      rw [HT_8 k8]
    rw [if_neg k8]
    have zz := hz.2.2.2.1 (by omega)
    by_cases k9 : K e = 9
    · rw [if_pos k9]
      have n1 := hna.1 (by omega)
      refine GO_conv (GO_seq (T1 := fun v => v p = v q) (T2 := fun v => ∃ m, tre m ∧ HT K A B C d (A e) (EV v L) m m (v t)) (y2 := 1 + 5 * Z (A e)) (z2 := Z (A e)) (GO_same hc (by omega) (by omega) hN (by omega) (by omega)) (Loc_eq (by omega) (by omega)) ?_ (by omega) (by omega) (fun σ1 R1 LF1 f1 c1 n1 n1' l1 => GO_last (c_whole hN hG hlev (tab_fr f1 (by decide) t1) (tab_fr f1 (by decide) t2) (tab_fr f1 (by decide) t3) (tab_fr f1 (by decide) t4) c1 (by omega) (by omega) (by omega) (by omega) (by omega) za (by omega) (by omega)))) (by omega) (by omega) (fun v hv => ?_)
      · rintro v v' hag ⟨m, q1, q2⟩
        refine ⟨m, q1, ?_⟩
        rw [EV_agree h4 (v := v) (fun k z1 z2 => hag k z1 (by omega)), hag t ht.1 ht.2]
        exact q2
      · rw [HT_9 k9]
    rw [if_neg k9]
    by_cases k10 : K e = 10
    · rw [if_pos k10]
      have n1 := hna.2.1 (Or.inr k10)
      refine GO_conv (GO_ret (c_take hN hG hlev t1 t2 t3 t4 hc (by omega) (by omega) (by omega) hL ht hp hq za (by omega) (by omega))) (by omega) (by omega) (fun v hv => ?_)
      rw [HT_10 k10]
    rw [if_neg k10, if_pos (show K e = 11 by omega)]
    exact fnc (Or.inr (by omega))
