/-! ===== calls, lets, takings, functions ===== -/
theorem GO_lt {rest : Sg → Int → Option (Sg × Int)} {σ : Sg} {R : Int → Int} {LF : List Int} {L : List (Int × Int)} {y z : Int} {T : (Int → Tr) → Prop} (n : Int) (hnn : gI σ 107 = n) (h : CTy σ R LF L) (hn : n < 604) (hy : 0 ≤ y) (next : ∀ (σ1 : Sg) (R1 : Int → Int), fr CYI CYA σ σ1 → CTy σ1 R1 LF L → gI σ1 107 = n + 1 → GO (rest σ1 n) σ1 R1 LF L y z T) : GO (bd (f5_letter σ) rest) σ R LF L (1 + y) z (fun v => ∃ x, tre x ∧ T (uv v n x)) := by
  subst hnn
  exact GO_letter h hn hy next
theorem GO_fn {rest : Sg → Int → Option (Sg × Int)} {σ : Sg} {R : Int → Int} {LF : List Int} {L : List (Int × Int)} {y z : Int} {T : (Int → Tr) → Prop} (n : Int) (hnn : gI σ 107 = n) (h : CTy σ R LF L) (hn : n < 604) {a b c e : Int} (ha : 0 ≤ a ∧ a < n) (hb : 0 ≤ b ∧ b < n) (hc : 0 ≤ c ∧ c < n) (he : 0 ≤ e ∧ e < n) (hy : 0 ≤ y) (next : ∀ (σ1 : Sg) (R1 : Int → Int), fr CYI CYA σ σ1 → CTy σ1 R1 (n :: LF) L → gI σ1 107 = n + 1 → GO (rest σ1 n) σ1 R1 (n :: LF) L y z T) : GO (bd (f5_function σ a b c e) rest) σ R LF L (1 + y) (1 + z) (fun v => T (uv v n (fnT (v a) (v b) (v c) (v e)))) := by
  subst hnn
  exact GO_fun h hn ha hb hc he hy next
section
variable {K A B C H Z Nd : Int → Int} {T0 : Int} {N : Nat} {G : Sg → Int → Int → Int → Int → Int → Option (Sg × Int)} {d : Nat} {lev : Int}
theorem c_call (hG : GG K A B C H Z Nd T0 G d (lev + 1)) (hlev : 1 ≤ lev ∧ lev ≤ 9) {σ : Sg} {R : Int → Int} {LF : List Int} {L : List (Int × Int)} {e t p q : Int} (t1 : gA σ 80 = K) (t2 : gA σ 81 = A) (t3 : gA σ 82 = B) (t4 : gA σ 83 = C) (h : CTy σ R LF L) (he : 0 ≤ e ∧ e < 60) (ha : 0 ≤ A e ∧ A e < T0) (hb : 0 ≤ B e ∧ B e < T0) (hH1 : H (A e) + (lev + 1) ≤ 10) (hH2 : H (B e) + (lev + 1) ≤ 10) (hN1 : Nd (A e) ≤ L.length) (hN2 : Nd (B e) ≤ L.length) (hL : (L.length : Int) ≤ 2 * (lev - 1)) {n : Int} (hnn : gI σ 107 = n) (ht : 0 ≤ t ∧ t < n) (hp : 0 ≤ p ∧ p < n) (hq : 0 ≤ q ∧ q < n) (z1 : 1 ≤ Z (A e)) (z2 : 1 ≤ Z (B e)) (hn : n + 4 + 5 * Z (A e) + 5 * Z (B e) ≤ 604) (hf : LF.length + 1 + Z (A e) + Z (B e) ≤ 120) : GO (f6_callHolds N G σ e t p q lev) σ R LF L (1 + (1 + (1 + (1 + (5 * Z (A e) + 5 * Z (B e)))))) (1 + (Z (A e) + Z (B e))) (fun v => ∃ x a m, tre x ∧ tre a ∧ tre m ∧ HT K A B C d (A e) (EV v L) (fnT x (v p) (v t) a) m (v q) ∧ HT K A B C d (B e) (EV v L) x a m) := by
  unfold f6_callHolds
  have h4 := h.2.2.2.1
  have h7 := h.2.2.2.2.2.2
  have step := GO_lt (T := fun v => ∃ x, tre x ∧ (∃ y, tre y ∧ (fun w => HT K A B C d (A e) (EV w L) (w (n + 3)) (w (n + 2)) (w q) ∧ HT K A B C d (B e) (EV w L) (w n) (w (n + 1)) (w (n + 2))) ((fun w : Int → Tr => uv w (n + 3) (fnT (w n) (w p) (w t) (w (n + 1)))) (uv (uv v (n + 1) x) (n + 2) y)))) (rest := fun σ1 r1 => bd (f5_letter σ1) fun σ3 r3 => bd (f5_letter σ3) fun σ5 r5 => bd (f5_function σ5 r1 p t r3) fun σ7 r7 => ck (0 ≤ e ∧ e < 60) <| ck (inR (lev + (1 : Int))) <| bd (G σ7 (gA σ7 81 e) r7 r5 q (lev + (1 : Int))) fun σ11 r11 => if r11 = 0 then (ck ((0 : Int) = 0 ∨ (0 : Int) = 1) (some (σ11, (0 : Int)))) else (ck (0 ≤ e ∧ e < 60) <| ck (inR (lev + (1 : Int))) <| bd (G σ11 (gA σ11 82 e) r1 r3 r5 (lev + (1 : Int))) fun σ16 r16 => if r16 = 0 then (ck ((0 : Int) = 0 ∨ (0 : Int) = 1) (some (σ16, (0 : Int)))) else (ck ((1 : Int) = 0 ∨ (1 : Int) = 1) (some (σ16, (1 : Int)))))) (y := 1 + (1 + (1 + (5 * Z (A e) + 5 * Z (B e))))) (z := 1 + (Z (A e) + Z (B e))) n hnn h (by omega) (by omega) (fun σ1 R1 f1 c1 n1 => by
    refine GO_lt (T := fun v => ∃ y, tre y ∧ (fun w => HT K A B C d (A e) (EV w L) (w (n + 3)) (w (n + 2)) (w q) ∧ HT K A B C d (B e) (EV w L) (w n) (w (n + 1)) (w (n + 2))) ((fun w : Int → Tr => uv w (n + 3) (fnT (w n) (w p) (w t) (w (n + 1)))) (uv v (n + 2) y))) (n + 1) (by omega) c1 (by omega) (by omega) (fun σ2 R2 f2 c2 n2 => ?_)
    refine GO_lt (T := fun v => (fun w => HT K A B C d (A e) (EV w L) (w (n + 3)) (w (n + 2)) (w q) ∧ HT K A B C d (B e) (EV w L) (w n) (w (n + 1)) (w (n + 2))) ((fun w : Int → Tr => uv w (n + 3) (fnT (w n) (w p) (w t) (w (n + 1)))) v)) (n + 2) (by omega) c2 (by omega) (by omega) (fun σ3 R3 f3 c3 n3 => ?_)
    refine GO_fn (T := fun w => HT K A B C d (A e) (EV w L) (w (n + 3)) (w (n + 2)) (w q) ∧ HT K A B C d (B e) (EV w L) (w n) (w (n + 1)) (w (n + 2))) (n + 3) (by omega) c3 (by omega) (by omega) (by omega) (by omega) (by omega) (by omega) (fun σ4 R4 f4 c4 n4 => ?_)
    have f14 := fr_t (fr_t (fr_t f1 f2) f3) f4
    have hlen : (((n + 3) :: LF).length : Int) = LF.length + 1 := by rw [List.length_cons]; omega
    rw [ck_t he, ck_t (show inR (lev + 1) from ⟨by omega, by omega⟩), tab_fr f14 (by decide) t2]
    have h44 := c4.2.2.2.1
    refine GO_seq (T1 := fun v => HT K A B C d (A e) (EV v L) (v (n + 3)) (v (n + 2)) (v q)) (T2 := fun v => HT K A B C d (B e) (EV v L) (v n) (v (n + 1)) (v (n + 2))) (hG σ4 R4 _ L (A e) (n + 3) (n + 2) q (tab_fr f14 (by decide) t1) (tab_fr f14 (by decide) t2) (tab_fr f14 (by decide) t3) (tab_fr f14 (by decide) t4) c4 ha.1 ha.2 hH1 hN1 (by omega) (by omega) (by omega) (by omega) (by omega) (by omega)) (Loc_HT h44 (by omega) (by omega) (by omega)) (Loc_HT h44 (by omega) (by omega) (by omega)) (by omega) (by omega) (fun σ5 R5 LF5 f5 c5 n5 n5' l5 => ?_)
    have f15 := fr_t f14 f5
    rw [ck_t he, ck_t (show inR (lev + 1) from ⟨by omega, by omega⟩), tab_fr f15 (by decide) t3]
    exact GO_last (hG σ5 R5 LF5 L (B e) n (n + 1) (n + 2) (tab_fr f15 (by decide) t1) (tab_fr f15 (by decide) t2) (tab_fr f15 (by decide) t3) (tab_fr f15 (by decide) t4) c5 hb.1 hb.2 hH2 hN2 (by omega) (by omega) (by omega) (by omega) (by omega) (by omega)))
  refine GO_conv step (Int.le_refl _) (Int.le_refl _) (fun v _ => ?_)
  have key : ∀ x a m, (fun w => HT K A B C d (A e) (EV w L) (w (n + 3)) (w (n + 2)) (w q) ∧ HT K A B C d (B e) (EV w L) (w n) (w (n + 1)) (w (n + 2))) ((fun w : Int → Tr => uv w (n + 3) (fnT (w n) (w p) (w t) (w (n + 1)))) (uv (uv (uv v n x) (n + 1) a) (n + 2) m)) ↔ HT K A B C d (A e) (EV v L) (fnT x (v p) (v t) a) m (v q) ∧ HT K A B C d (B e) (EV v L) x a m := fun x a m => by
    obtain ⟨w, hw⟩ : ∃ w, uv (uv (uv v n x) (n + 1) a) (n + 2) m = w := ⟨_, rfl⟩
    have o : ∀ k, 0 ≤ k → k < n → w k = v k := fun k _ k2 => by rw [← hw, uv_n (by omega), uv_n (by omega), uv_n (by omega)]
    have w0 : w n = x := by rw [← hw, uv_n (by omega), uv_n (by omega), uv_s]
    have w1 : w (n + 1) = a := by rw [← hw, uv_n (by omega), uv_s]
    have w2 : w (n + 2) = m := by rw [← hw, uv_s]
    rw [hw]
    have ev : EV (uv w (n + 3) (fnT (w n) (w p) (w t) (w (n + 1)))) L = EV v L := EV_agree h4 (fun k k1 k2 => by rw [uv_n (by omega)]; exact o k k1 (by omega))
    show HT K A B C d (A e) (EV (uv w (n + 3) (fnT (w n) (w p) (w t) (w (n + 1)))) L) (uv w (n + 3) (fnT (w n) (w p) (w t) (w (n + 1))) (n + 3)) (uv w (n + 3) (fnT (w n) (w p) (w t) (w (n + 1))) (n + 2)) (uv w (n + 3) (fnT (w n) (w p) (w t) (w (n + 1))) q) ∧ HT K A B C d (B e) (EV (uv w (n + 3) (fnT (w n) (w p) (w t) (w (n + 1)))) L) (uv w (n + 3) (fnT (w n) (w p) (w t) (w (n + 1))) n) (uv w (n + 3) (fnT (w n) (w p) (w t) (w (n + 1))) (n + 1)) (uv w (n + 3) (fnT (w n) (w p) (w t) (w (n + 1))) (n + 2)) ↔ _
    rw [ev, uv_s, uv_n (show n + 2 ≠ n + 3 by omega), uv_n (show q ≠ n + 3 by omega), uv_n (show n ≠ n + 3 by omega), uv_n (show n + 1 ≠ n + 3 by omega), w0, w1, w2, o p hp.1 hp.2, o t ht.1 ht.2, o q hq.1 hq.2]
  constructor
  · rintro ⟨x, hx, a, ha', m, hm, q'⟩
    exact ⟨x, a, m, hx, ha', hm, (key x a m).mp q'⟩
  · rintro ⟨x, a, m, hx, ha', hm, q'⟩
    exact ⟨x, hx, a, ha', m, hm, (key x a m).mpr q'⟩
theorem c_let (hG : GG K A B C H Z Nd T0 G d (lev + 1)) (hlev : 1 ≤ lev ∧ lev ≤ 9) {σ : Sg} {R : Int → Int} {LF : List Int} {L : List (Int × Int)} {e t p q : Int} (t1 : gA σ 80 = K) (t2 : gA σ 81 = A) (t3 : gA σ 82 = B) (t4 : gA σ 83 = C) (h : CTy σ R LF L) (he : 0 ≤ e ∧ e < 60) (ha : 0 ≤ A e ∧ A e < T0) (hb : 0 ≤ B e ∧ B e < T0) (hH1 : H (A e) + (lev + 1) ≤ 10) (hH2 : H (B e) + (lev + 1) ≤ 10) (hN1 : Nd (A e) ≤ L.length) (hN2 : Nd (B e) ≤ L.length + 1) (hL : (L.length : Int) ≤ 2 * (lev - 1)) {n : Int} (hnn : gI σ 107 = n) (ht : 0 ≤ t ∧ t < n) (hp : 0 ≤ p ∧ p < n) (hq : 0 ≤ q ∧ q < n) (z1 : 1 ≤ Z (A e)) (z2 : 1 ≤ Z (B e)) (hn : n + 2 + 5 * Z (A e) + 5 * Z (B e) ≤ 604) (hf : LF.length + Z (A e) + Z (B e) ≤ 120) : GO (f6_letHolds N G σ e t p q lev) σ R LF L (1 + (1 + (5 * Z (A e) + 5 * Z (B e)))) (Z (A e) + Z (B e)) (fun v => ∃ x m, tre x ∧ tre m ∧ HT K A B C d (A e) (EV v L) x m (v q) ∧ HT K A B C d (B e) ((x, none) :: EV v L) (v t) (v p) m) := by
  unfold f6_letHolds
  have h4 := h.2.2.2.1
  have h7 := h.2.2.2.2.2.2
  have step := GO_lt (T := fun v => ∃ x, tre x ∧ (fun w => HT K A B C d (A e) (EV w L) (w n) (w (n + 1)) (w q) ∧ HT K A B C d (B e) (EV w ((n, -1) :: L)) (w t) (w p) (w (n + 1))) (uv v (n + 1) x)) (rest := fun σ1 r1 => bd (f5_letter σ1 ) fun σ3 r3 => ck (0 ≤ e ∧ e < 60) <| ck (inR (lev + (1 : Int))) <| bd (G σ3 (gA σ3 81 e) r1 r3 q (lev + (1 : Int))) fun σ7 r7 => if r7 = 0 then (ck ((0 : Int) = 0 ∨ (0 : Int) = 1) (some (σ7, (0 : Int)))) else (bd (f6_bind σ7 r1 (-1 : Int)) fun σ10 r10 => ck (0 ≤ e ∧ e < 60) <| ck (inR (lev + (1 : Int))) <| bd (G σ10 (gA σ10 82 e) t p r3 (lev + (1 : Int))) fun σ14 r14 => ck (inR ((gI σ14 124) - (1 : Int))) <| nx (sI σ14 124 ((gI σ14 124) - (1 : Int))) fun σ17 => ck (r14 = 0 ∨ r14 = 1) (some (σ17, r14)))) (y := 1 + (5 * Z (A e) + 5 * Z (B e))) (z := Z (A e) + Z (B e)) n hnn h (by omega) (by omega) (fun σ1 R1 f1 c1 n1 => by
    refine GO_lt (T := fun w => HT K A B C d (A e) (EV w L) (w n) (w (n + 1)) (w q) ∧ HT K A B C d (B e) (EV w ((n, -1) :: L)) (w t) (w p) (w (n + 1))) (n + 1) (by omega) c1 (by omega) (by omega) (fun σ2 R2 f2 c2 n2 => ?_)
    have f14 := fr_t f1 f2
    rw [ck_t he, ck_t (show inR (lev + 1) from ⟨by omega, by omega⟩), tab_fr f14 (by decide) t2]
    have h44 := c2.2.2.2.1
    refine GO_seq (T1 := fun w => HT K A B C d (A e) (EV w L) (w n) (w (n + 1)) (w q)) (T2 := fun w => HT K A B C d (B e) (EV w ((n, -1) :: L)) (w t) (w p) (w (n + 1))) (hG σ2 R2 _ L (A e) n (n + 1) q (tab_fr f14 (by decide) t1) (tab_fr f14 (by decide) t2) (tab_fr f14 (by decide) t3) (tab_fr f14 (by decide) t4) c2 ha.1 ha.2 hH1 hN1 (by omega) (by omega) (by omega) (by omega) (by omega) (by omega)) (Loc_HT h44 (by omega) (by omega) (by omega)) (Loc_HT (ED_c h44 (by omega) (Or.inl rfl)) (by omega) (by omega) (by omega)) (by omega) (by omega) (fun σ5 R5 LF5 f5 c5 n5 n5' l5 => ?_)
    have f15 := fr_t f14 f5
    obtain ⟨σ6, b1, b2, b3⟩ := c_bind c5 (by omega) (a := n) (g := -1) (by omega) (Or.inl rfl)
    rw [b1, bd_s]
    have f16 : fr CYI CYA σ σ6 := fr_t f15 (fr_m (by decide) (by decide) b2)
    have e107 : gI σ6 107 = gI σ5 107 := b2.1 107 (by decide)
    rw [ck_t he, ck_t (show inR (lev + 1) from ⟨by omega, by omega⟩), tab_fr f16 (by decide) t3]
    exact GO_let c5 (by omega) b2 (hG σ6 R5 LF5 ((n, -1) :: L) (B e) t p (n + 1) (tab_fr f16 (by decide) t1) (tab_fr f16 (by decide) t2) (tab_fr f16 (by decide) t3) (tab_fr f16 (by decide) t4) b3 hb.1 hb.2 hH2 (by rw [List.length_cons]; omega) (by rw [List.length_cons]; omega) (by omega) (by omega) (by omega) (by omega) (by omega)))
  refine GO_conv step (Int.le_refl _) (Int.le_refl _) (fun v _ => ?_)
  have key : ∀ x m, (fun w => HT K A B C d (A e) (EV w L) (w n) (w (n + 1)) (w q) ∧ HT K A B C d (B e) (EV w ((n, -1) :: L)) (w t) (w p) (w (n + 1))) (uv (uv v n x) (n + 1) m) ↔ HT K A B C d (A e) (EV v L) x m (v q) ∧ HT K A B C d (B e) ((x, none) :: EV v L) (v t) (v p) m := fun x m => by
    obtain ⟨w, hw⟩ : ∃ w, uv (uv v n x) (n + 1) m = w := ⟨_, rfl⟩
    have o : ∀ k, 0 ≤ k → k < n → w k = v k := fun k _ k2 => by rw [← hw, uv_n (by omega), uv_n (by omega)]
    have w0 : w n = x := by rw [← hw, uv_n (by omega), uv_s]
    have w1 : w (n + 1) = m := by rw [← hw, uv_s]
    rw [hw]
    have ev : EV w L = EV v L := EV_agree h4 (fun k k1 k2 => o k k1 (by omega))
    show HT K A B C d (A e) (EV w L) (w n) (w (n + 1)) (w q) ∧ HT K A B C d (B e) (EV w ((n, -1) :: L)) (w t) (w p) (w (n + 1)) ↔ _
    rw [EV_p, ev, w0, w1, o p hp.1 hp.2, o t ht.1 ht.2, o q hq.1 hq.2]
  constructor
  · rintro ⟨x, hx, m, hm, q'⟩
    exact ⟨x, m, hx, hm, (key x m).mp q'⟩
  · rintro ⟨x, m, hx, hm, q'⟩
    exact ⟨x, hx, m, hm, (key x m).mpr q'⟩
theorem c_take (hN : 605 ≤ N) (hG : GG K A B C H Z Nd T0 G d (lev + 1)) (hlev : 1 ≤ lev ∧ lev ≤ 9) {σ : Sg} {R : Int → Int} {LF : List Int} {L : List (Int × Int)} {e t p q : Int} (t1 : gA σ 80 = K) (t2 : gA σ 81 = A) (t3 : gA σ 82 = B) (t4 : gA σ 83 = C) (h : CTy σ R LF L) (he : 0 ≤ e ∧ e < T0) (hH : H e + (lev + 1) ≤ 10) (hNd : Nd e ≤ L.length + 1) (hL : (L.length : Int) ≤ 2 * (lev - 1)) (ht : 0 ≤ t ∧ t < gI σ 107) (hp : 0 ≤ p ∧ p < gI σ 107) (hq : 0 ≤ q ∧ q < gI σ 107) (hZ0 : 1 ≤ Z e) (hn : gI σ 107 + 1 + 5 * Z e ≤ 604) (hf : LF.length + Z e ≤ 120) : GO (f6_takeHolds N G σ e t p q lev) σ R LF L (1 + 5 * Z e) (Z e) (fun v => ∃ m, tre m ∧ HT K A B C d e ((v t, some (v p)) :: EV v L) m m (v q)) := by
  unfold f6_takeHolds
  obtain ⟨σ6, b1, b2, b3⟩ := c_bind h (by omega) (a := t) (g := p) ht (Or.inr hp)
  rw [b1, bd_s]
  have f16 : fr CYI CYA σ σ6 := fr_m (by decide) (by decide) b2
  have e107 : gI σ6 107 = gI σ 107 := b2.1 107 (by decide)
  have := GO_let h (by omega) b2 (c_whole hN hG hlev (tab_fr f16 (by decide) t1) (tab_fr f16 (by decide) t2) (tab_fr f16 (by decide) t3) (tab_fr f16 (by decide) t4) b3 he hH (by rw [List.length_cons]; omega) (by rw [List.length_cons]; omega) (by rw [e107]; exact hq) hZ0 (by omega) hf)
  refine GO_conv this (Int.le_refl _) (Int.le_refl _) (fun v _ => ?_)
  rw [EV_g v t p (by omega)]
theorem c_fun (hN : 605 ≤ N) (hG : GG K A B C H Z Nd T0 G d (lev + 1)) (hlev : 1 ≤ lev ∧ lev ≤ 9) {σ : Sg} {R : Int → Int} {LF : List Int} {L : List (Int × Int)} {e t : Int} (t1 : gA σ 80 = K) (t2 : gA σ 81 = A) (t3 : gA σ 82 = B) (t4 : gA σ 83 = C) (h : CTy σ R LF L) (he : 0 ≤ e ∧ e < 60) (ha : 0 ≤ A e ∧ A e < T0) (hH1 : H (A e) + (lev + 1) ≤ 10) (hk : K e = 3 ∨ K e = 11) (hN1 : Nd (A e) ≤ L.length + (if K e = 11 then 2 else 1)) (hL : (L.length : Int) ≤ 2 * (lev - 1)) {n : Int} (hnn : gI σ 107 = n) (ht : 0 ≤ t ∧ t < n) (z1 : 1 ≤ Z (A e)) (hn : n + 5 + 5 * Z (A e) ≤ 604) (hf : LF.length + 1 + Z (A e) ≤ 120) : GO (f6_functionHolds N G σ e t lev) σ R LF L (1 + (1 + (1 + (1 + (1 + (5 * Z (A e) + 0)))))) (1 + (Z (A e) + 0)) (fun v => ∃ x b g a, tre x ∧ tre b ∧ tre g ∧ tre a ∧ v t = fnT x b g a ∧ HT K A B C d (A e) (if K e = 11 then (x, none) :: (fnT x b g a, none) :: EV v L else (x, none) :: EV v L) g b a) := by
  unfold f6_functionHolds
  have h4 := h.2.2.2.1
  have h7 := h.2.2.2.2.2.2
  obtain ⟨L1, hL1⟩ : ∃ L1, (if K e = 11 then (n, -1) :: (n + 4, -1) :: L else (n, -1) :: L : List (Int × Int)) = L1 := ⟨_, rfl⟩
  have step := GO_lt (T := fun v => ∃ b, tre b ∧ (fun v => ∃ g, tre g ∧ (fun v => ∃ a, tre a ∧ (fun v => (fun w => HT K A B C d (A e) (EV w L1) (w (n + 2)) (w (n + 1)) (w (n + 3)) ∧ w t = w (n + 4)) (uv v (n + 4) (fnT (v n) (v (n + 1)) (v (n + 2)) (v (n + 3))))) (uv v (n + 3) a)) (uv v (n + 2) g)) (uv v (n + 1) b)) (rest := fun σ1 r1 => bd (f5_letter σ1 ) fun σ3 r3 => bd (f5_letter σ3 ) fun σ5 r5 => bd (f5_letter σ5 ) fun σ7 r7 => bd (f5_function σ7 r1 r3 r5 r7) fun σ9 r9 => ck (0 ≤ e ∧ e < 60) <| if (gA σ9 80 e) = (11 : Int) then (bd (f6_bind σ9 r9 (-1 : Int)) fun σ13 r13 => (b6_functionHolds_80 N G σ13 e t lev r1 r3 r5 r7 r9 (gI σ9 124))) else ((b6_functionHolds_80 N G σ9 e t lev r1 r3 r5 r7 r9 (gI σ9 124)))) (y := 1 + (1 + (1 + (1 + (5 * Z (A e) + 0))))) (z := 1 + (Z (A e) + 0)) n hnn h (by omega) (by omega) (fun σ1 R1 f1 c1 n1 => by
    refine GO_lt (T := fun v => ∃ g, tre g ∧ (fun v => ∃ a, tre a ∧ (fun v => (fun w => HT K A B C d (A e) (EV w L1) (w (n + 2)) (w (n + 1)) (w (n + 3)) ∧ w t = w (n + 4)) (uv v (n + 4) (fnT (v n) (v (n + 1)) (v (n + 2)) (v (n + 3))))) (uv v (n + 3) a)) (uv v (n + 2) g)) (n + 1) (by omega) c1 (by omega) (by omega) (fun σ2 R2 f2 c2 n2 => ?_)
    refine GO_lt (T := fun v => ∃ a, tre a ∧ (fun v => (fun w => HT K A B C d (A e) (EV w L1) (w (n + 2)) (w (n + 1)) (w (n + 3)) ∧ w t = w (n + 4)) (uv v (n + 4) (fnT (v n) (v (n + 1)) (v (n + 2)) (v (n + 3))))) (uv v (n + 3) a)) (n + 2) (by omega) c2 (by omega) (by omega) (fun σ3 R3 f3 c3 n3 => ?_)
    refine GO_lt (T := fun v => (fun w => HT K A B C d (A e) (EV w L1) (w (n + 2)) (w (n + 1)) (w (n + 3)) ∧ w t = w (n + 4)) (uv v (n + 4) (fnT (v n) (v (n + 1)) (v (n + 2)) (v (n + 3))))) (n + 3) (by omega) c3 (by omega) (by omega) (fun σ4 R4 f4 c4 n4 => ?_)
    refine GO_fn (T := fun w => HT K A B C d (A e) (EV w L1) (w (n + 2)) (w (n + 1)) (w (n + 3)) ∧ w t = w (n + 4)) (n + 4) (by omega) c4 (by omega) (by omega) (by omega) (by omega) (by omega) (by omega) (fun σ5 R5 f5 c5 n5 => ?_)
    have f15 := fr_t (fr_t (fr_t (fr_t f1 f2) f3) f4) f5
    have hlen : (((n + 4) :: LF).length : Int) = LF.length + 1 := by rw [List.length_cons]; omega
    rw [ck_t he, tab_fr f15 (by decide) t1]
    have h45 := c5.2.2.2.1
    have b124 : gI σ5 124 = L.length := c5.2.1
    have body : ∀ (σ6 : Sg) (X : List (Int × Int)), fr [124] [122, 123] σ5 σ6 → CTy σ6 R5 ((n + 4) :: LF) (X ++ L) → (n, -1) :: (X ++ L) = L1 → ((X ++ L).length : Int) + 1 = L.length + (if K e = 11 then 2 else 1) → GO (b6_functionHolds_80 N G σ6 e t lev n (n + 1) (n + 2) (n + 3) (n + 4) (gI σ5 124)) σ5 R5 ((n + 4) :: LF) L (5 * Z (A e) + 0) (Z (A e) + 0) (fun w => HT K A B C d (A e) (EV w L1) (w (n + 2)) (w (n + 1)) (w (n + 3)) ∧ w t = w (n + 4)) := by
      intro σ6 X f6 c6 eX lX
      have l12 : (if K e = 11 then (2 : Int) else 1) ≤ 2 := by split <;> omega
      have e107 : gI σ6 107 = gI σ5 107 := f6.1 107 (by decide)
      unfold b6_functionHolds_80
      obtain ⟨σ7, b1, b2, b3⟩ := c_bind c6 (by omega) (a := n) (g := -1) (by omega) (Or.inl rfl)
      rw [b1, bd_s]
      have f57 : fr [124] [122, 123] σ5 σ7 := fr_t f6 b2
      have f17 : fr CYI CYA σ σ7 := fr_t f15 (fr_m (by decide) (by decide) f57)
      have e107' : gI σ7 107 = gI σ5 107 := f57.1 107 (by decide)
      rw [ck_t he, ck_t (show inR (lev + 1) from ⟨by omega, by omega⟩), tab_fr f17 (by decide) t2, bd_nx]
      rw [eX] at b3
      have hl1 : (L1.length : Int) = L.length + (if K e = 11 then 2 else 1) := by rw [← eX, List.length_cons]; omega
      have hG7 := hG σ7 R5 ((n + 4) :: LF) L1 (A e) (n + 2) (n + 1) (n + 3) (tab_fr f17 (by decide) t1) (tab_fr f17 (by decide) t2) (tab_fr f17 (by decide) t3) (tab_fr f17 (by decide) t4) b3 ha.1 ha.2 hH1 (by omega) (by omega) (by omega) (by omega) (by omega) (by omega) (by omega)
      have ed : ED 0 (gI σ5 107) L1 := by have := b3.2.2.2.1; rw [e107'] at this; exact this
      refine GO_seq (T1 := fun w => HT K A B C d (A e) (EV w L1) (w (n + 2)) (w (n + 1)) (w (n + 3))) (T2 := fun w => w t = w (n + 4)) (GO_unbind c5 f57 ⟨(n, -1) :: X, by rw [← eX]; rfl⟩ hG7 b124) (Loc_HT ed (by omega) (by omega) (by omega)) (Loc_eq (by omega) (by omega)) (by omega) (by omega) (fun σ8 R8 LF8 f8 c8 n8 n8' l8 => ?_)
      exact GO_last (GO_same c8 (by omega) (by omega) hN (by omega) (by omega))
    by_cases k11 : K e = 11
    · rw [if_pos k11]
      obtain ⟨σ6, b1, b2, b3⟩ := c_bind c5 (by omega) (a := n + 4) (g := -1) (by omega) (Or.inl rfl)
      rw [b1, bd_s]
      rw [if_pos k11] at hL1
      exact body σ6 [(n + 4, -1)] b2 b3 hL1 (by rw [if_pos k11]; show (((((n + 4, -1) :: L : List (Int × Int)).length : Nat) : Int)) + 1 = _; rw [List.length_cons]; omega)
    · rw [if_neg k11]
      rw [if_neg k11] at hL1
      exact body σ5 [] (fr_r _) c5 hL1 (by rw [if_neg k11]; rfl))
  refine GO_conv step (Int.le_refl _) (Int.le_refl _) (fun v _ => ?_)
  have key : ∀ x b g a, (fun w => HT K A B C d (A e) (EV w L1) (w (n + 2)) (w (n + 1)) (w (n + 3)) ∧ w t = w (n + 4)) ((fun v : Int → Tr => uv v (n + 4) (fnT (v n) (v (n + 1)) (v (n + 2)) (v (n + 3)))) (uv (uv (uv (uv v n x) (n + 1) b) (n + 2) g) (n + 3) a)) ↔ v t = fnT x b g a ∧ HT K A B C d (A e) (if K e = 11 then (x, none) :: (fnT x b g a, none) :: EV v L else (x, none) :: EV v L) g b a := fun x b g a => by
    obtain ⟨w, hw⟩ : ∃ w, uv (uv (uv (uv v n x) (n + 1) b) (n + 2) g) (n + 3) a = w := ⟨_, rfl⟩
    have o : ∀ k, 0 ≤ k → k < n → w k = v k := fun k _ k2 => by rw [← hw, uv_n (by omega), uv_n (by omega), uv_n (by omega), uv_n (by omega)]
    have w0 : w n = x := by rw [← hw, uv_n (by omega), uv_n (by omega), uv_n (by omega), uv_s]
    have w1 : w (n + 1) = b := by rw [← hw, uv_n (by omega), uv_n (by omega), uv_s]
    have w2 : w (n + 2) = g := by rw [← hw, uv_n (by omega), uv_s]
    have w3 : w (n + 3) = a := by rw [← hw, uv_s]
    rw [hw]
    show (fun w => HT K A B C d (A e) (EV w L1) (w (n + 2)) (w (n + 1)) (w (n + 3)) ∧ w t = w (n + 4)) (uv w (n + 4) (fnT (w n) (w (n + 1)) (w (n + 2)) (w (n + 3)))) ↔ _
    rw [w0, w1, w2, w3]
    have ev : EV (uv w (n + 4) (fnT x b g a)) L1 = (if K e = 11 then (x, none) :: (fnT x b g a, none) :: EV v L else (x, none) :: EV v L) := by
      have e0 : EV (uv w (n + 4) (fnT x b g a)) L = EV v L := EV_agree h4 (fun k k1 k2 => by rw [uv_n (by omega)]; exact o k k1 (by omega))
      rw [← hL1]
      by_cases k11 : K e = 11
      · rw [if_pos k11, if_pos k11, EV_p, EV_p, e0, uv_s, uv_n (by omega), w0]
      · rw [if_neg k11, if_neg k11, EV_p, e0, uv_n (by omega), w0]
    show HT K A B C d (A e) (EV (uv w (n + 4) (fnT x b g a)) L1) (uv w (n + 4) (fnT x b g a) (n + 2)) (uv w (n + 4) (fnT x b g a) (n + 1)) (uv w (n + 4) (fnT x b g a) (n + 3)) ∧ uv w (n + 4) (fnT x b g a) t = uv w (n + 4) (fnT x b g a) (n + 4) ↔ _
    rw [ev, uv_s, uv_n (show n + 2 ≠ n + 4 by omega), uv_n (show n + 1 ≠ n + 4 by omega), uv_n (show n + 3 ≠ n + 4 by omega), uv_n (show t ≠ n + 4 by omega), w1, w2, w3, o t ht.1 ht.2]
    exact ⟨fun q => ⟨q.2, q.1⟩, fun q => ⟨q.2, q.1⟩⟩
  constructor
  · rintro ⟨x, hx, b, hb, g, hg, a, ha', q'⟩
    exact ⟨x, b, g, a, hx, hb, hg, ha', (key x b g a).mp q'⟩
  · rintro ⟨x, b, g, a, hx, hb, hg, ha', q'⟩
    exact ⟨x, hx, b, hb, g, hg, a, ha', (key x b g a).mpr q'⟩
end
