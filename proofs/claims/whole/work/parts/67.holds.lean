/-! ===== the class's rules hold what the document's rules say ===== -/
def GG (K A B C H Z Nd : Int → Int) (T0 : Int) (G : Sg → Int → Int → Int → Int → Int → Option (Sg × Int)) (d : Nat) (lev : Int) : Prop := ∀ (σ : Sg) (R : Int → Int) (LF : List Int) (L : List (Int × Int)) (e t p q : Int), gA σ 80 = K → gA σ 81 = A → gA σ 82 = B → gA σ 83 = C → CTy σ R LF L → 0 ≤ e → e < T0 → H e + lev ≤ 10 → Nd e ≤ L.length → (L.length : Int) ≤ 2 * (lev - 1) → (0 ≤ t ∧ t < gI σ 107) → (0 ≤ p ∧ p < gI σ 107) → (0 ≤ q ∧ q < gI σ 107) → gI σ 107 + 5 * Z e ≤ 604 → LF.length + Z e ≤ 120 → GO (G σ e t p q lev) σ R LF L (5 * Z e) (Z e) (fun v => HT K A B C d e (EV v L) (v t) (v p) (v q))
theorem tab_fr {σ σ' : Sg} (h : fr CYI CYA σ σ') {k : Nat} (hk : k ∉ CYA) {K : Int → Int} (e : gA σ k = K) : gA σ' k = K := (funext fun j => h.2 k hk j).trans e
theorem v_num {σ : Sg} {R : Int → Int} {LF : List Int} {L : List (Int × Int)} (h : CTy σ R LF L) {v : Int → Tr} (hv : MC σ R v) : v 0 = leaf 0 ∧ v 1 = leaf 1 := by
  obtain ⟨h1, h2, h3, h4, h5, h6, h7⟩ := h
  exact ⟨(hv 0 (by omega) (by omega)).2.2.1 h5, (hv 1 (by omega) (by omega)).2.2.2.1 h6⟩
section
variable {K A B C H Z Nd : Int → Int} {T0 : Int} {N : Nat} {G : Sg → Int → Int → Int → Int → Int → Option (Sg × Int)} {d : Nat} {lev : Int}
/-- what a mark holds, or a taking puts into it -/
theorem c_whole (hN : 605 ≤ N) (hG : GG K A B C H Z Nd T0 G d (lev + 1)) (hlev : 1 ≤ lev ∧ lev ≤ 9) {σ : Sg} {R : Int → Int} {LF : List Int} {L : List (Int × Int)} {e q : Int} (t1 : gA σ 80 = K) (t2 : gA σ 81 = A) (t3 : gA σ 82 = B) (t4 : gA σ 83 = C) (h : CTy σ R LF L) (he : 0 ≤ e ∧ e < T0) (hH : H e + (lev + 1) ≤ 10) (hNd : Nd e ≤ L.length) (hL : (L.length : Int) ≤ 2 * lev) (hq : 0 ≤ q ∧ q < gI σ 107) (hZ0 : 1 ≤ Z e) (hn : gI σ 107 + 1 + 5 * Z e ≤ 604) (hf : LF.length + Z e ≤ 120) : GO (f6_wholeHolds N G σ e q lev) σ R LF L (1 + 5 * Z e) (Z e) (fun v => ∃ m, tre m ∧ HT K A B C d e (EV v L) m m (v q)) := by
  unfold f6_wholeHolds
  have h4 := h.2.2.2.1
  have step := GO_letter (rest := fun σ1 r1 => ck (inR (lev + (1 : Int))) <| bd (G σ1 e r1 r1 q (lev + (1 : Int))) fun σ4 r4 => ck (r4 = 0 ∨ r4 = 1) (some (σ4, r4))) (y := 5 * Z e) (z := Z e) (T := fun v => HT K A B C d e (EV v L) (v (gI σ 107)) (v (gI σ 107)) (v q)) h (by omega) (by omega) (fun σ1 R1 f1 c1 n1 => by
    show GO (ck (inR (lev + (1 : Int))) _) σ1 R1 LF L _ _ _
    rw [ck_t (show inR (lev + 1) from ⟨by omega, by omega⟩)]
    have h7 := h.2.2.2.2.2.2
    exact GO_ret (hG σ1 R1 LF L e (gI σ 107) (gI σ 107) q (tab_fr f1 (by decide) t1) (tab_fr f1 (by decide) t2) (tab_fr f1 (by decide) t3) (tab_fr f1 (by decide) t4) c1 he.1 he.2 hH hNd (by omega) (by omega) (by omega) (by omega) (by omega) hf))
  refine GO_conv step (Int.le_refl _) (Int.le_refl _) (fun v _ => ?_)
  have ev : ∀ x, EV (uv v (gI σ 107) x) L = EV v L := fun x => EV_agree h4 (fun k k1 k2 => uv_ag v _ x k k1 (by omega))
  show (∃ x, tre x ∧ HT K A B C d e (EV (uv v (gI σ 107) x) L) (uv v (gI σ 107) x (gI σ 107)) (uv v (gI σ 107) x (gI σ 107)) (uv v (gI σ 107) x q)) ↔ _
  simp only [ev, uv_s]
  have : ∀ x, uv v (gI σ 107) x q = v q := fun x => uv_n (by omega)
  simp only [this]
theorem c_numbers (hG : GG K A B C H Z Nd T0 G d (lev + 1)) (hlev : 1 ≤ lev ∧ lev ≤ 9) {σ : Sg} {R : Int → Int} {LF : List Int} {L : List (Int × Int)} {e p q : Int} (t1 : gA σ 80 = K) (t2 : gA σ 81 = A) (t3 : gA σ 82 = B) (t4 : gA σ 83 = C) (h : CTy σ R LF L) (he : 0 ≤ e ∧ e < 60) (ha : 0 ≤ A e ∧ A e < T0) (hb : 0 ≤ B e ∧ B e < T0) (hH1 : H (A e) + (lev + 1) ≤ 10) (hH2 : H (B e) + (lev + 1) ≤ 10) (hN1 : Nd (A e) ≤ L.length) (hN2 : Nd (B e) ≤ L.length) (hL : (L.length : Int) ≤ 2 * (lev - 1)) (hp : 0 ≤ p ∧ p < gI σ 107) (hq : 0 ≤ q ∧ q < gI σ 107) (z1 : 1 ≤ Z (A e)) (z2 : 1 ≤ Z (B e)) (hn : gI σ 107 + 1 + 5 * Z (A e) + 5 * Z (B e) ≤ 604) (hf : LF.length + Z (A e) + Z (B e) ≤ 120) : GO (f6_numbersHold N G σ e p q lev) σ R LF L (1 + (5 * Z (A e) + 5 * Z (B e))) (Z (A e) + Z (B e)) (fun v => ∃ m, tre m ∧ HT K A B C d (A e) (EV v L) (leaf 0) m (v q) ∧ HT K A B C d (B e) (EV v L) (leaf 0) (v p) m) := by
  unfold f6_numbersHold
  have h4 := h.2.2.2.1
  have h7 := h.2.2.2.2.2.2
  have step := GO_letter (rest := fun σ1 r1 => ck (0 ≤ e ∧ e < 60) <| ck (inR (lev + (1 : Int))) <| bd (G σ1 (gA σ1 81 e) (0 : Int) r1 q (lev + (1 : Int))) fun σ5 r5 => if r5 = 0 then (ck ((0 : Int) = 0 ∨ (0 : Int) = 1) (some (σ5, (0 : Int)))) else (ck (0 ≤ e ∧ e < 60) <| ck (inR (lev + (1 : Int))) <| bd (G σ5 (gA σ5 82 e) (0 : Int) p r1 (lev + (1 : Int))) fun σ10 r10 => if r10 = 0 then (ck ((0 : Int) = 0 ∨ (0 : Int) = 1) (some (σ10, (0 : Int)))) else (ck ((1 : Int) = 0 ∨ (1 : Int) = 1) (some (σ10, (1 : Int)))))) (y := 5 * Z (A e) + 5 * Z (B e)) (z := Z (A e) + Z (B e)) (T := fun v => HT K A B C d (A e) (EV v L) (v 0) (v (gI σ 107)) (v q) ∧ HT K A B C d (B e) (EV v L) (v 0) (v p) (v (gI σ 107))) h (by omega) (by omega) (fun σ1 R1 f1 c1 n1 => by
    show GO (ck (0 ≤ e ∧ e < 60) _) σ1 R1 LF L _ _ _
    rw [ck_t he, ck_t (show inR (lev + 1) from ⟨by omega, by omega⟩), tab_fr f1 (by decide) t2]
    have h41 := c1.2.2.2.1
    refine GO_seq (rest := fun σ5 r5 => ck (0 ≤ e ∧ e < 60) <| ck (inR (lev + (1 : Int))) <| bd (G σ5 (gA σ5 82 e) (0 : Int) p (gI σ 107) (lev + (1 : Int))) fun σ10 r10 => if r10 = 0 then (ck ((0 : Int) = 0 ∨ (0 : Int) = 1) (some (σ10, (0 : Int)))) else (ck ((1 : Int) = 0 ∨ (1 : Int) = 1) (some (σ10, (1 : Int))))) (hG σ1 R1 LF L (A e) 0 (gI σ 107) q (tab_fr f1 (by decide) t1) (tab_fr f1 (by decide) t2) (tab_fr f1 (by decide) t3) (tab_fr f1 (by decide) t4) c1 ha.1 ha.2 hH1 hN1 (by omega) (by omega) (by omega) (by omega) (by omega) (by omega)) (Loc_HT h41 (by omega) (by omega) (by omega)) (Loc_HT h41 (by omega) (by omega) (by omega)) (by omega) (by omega) (fun σ2 R2 LF2 f2 c2 n2 n2' l2 => ?_)
    show GO (ck (0 ≤ e ∧ e < 60) _) σ2 R2 LF2 L _ _ _
    have f12 := fr_t f1 f2
    rw [ck_t he, ck_t (show inR (lev + 1) from ⟨by omega, by omega⟩), tab_fr f12 (by decide) t3]
    exact GO_last (hG σ2 R2 LF2 L (B e) 0 p (gI σ 107) (tab_fr f12 (by decide) t1) (tab_fr f12 (by decide) t2) (tab_fr f12 (by decide) t3) (tab_fr f12 (by decide) t4) c2 hb.1 hb.2 hH2 hN2 (by omega) (by omega) (by omega) (by omega) (by omega) (by omega)))
  refine GO_conv step (Int.le_refl _) (Int.le_refl _) (fun v hv => ?_)
  have ev : ∀ x, EV (uv v (gI σ 107) x) L = EV v L := fun x => EV_agree h4 (fun k k1 k2 => uv_ag v _ x k k1 (by omega))
  have w : ∀ x k, k < gI σ 107 → uv v (gI σ 107) x k = v k := fun x k hk => uv_n (by omega)
  show (∃ x, tre x ∧ HT K A B C d (A e) (EV (uv v (gI σ 107) x) L) (uv v (gI σ 107) x 0) (uv v (gI σ 107) x (gI σ 107)) (uv v (gI σ 107) x q) ∧ HT K A B C d (B e) (EV (uv v (gI σ 107) x) L) (uv v (gI σ 107) x 0) (uv v (gI σ 107) x p) (uv v (gI σ 107) x (gI σ 107))) ↔ _
  simp only [ev, uv_s, w _ 0 (by omega), w _ q hq.2, w _ p hp.2, (v_num h hv).1]
theorem c_if (hG : GG K A B C H Z Nd T0 G d (lev + 1)) (hlev : 1 ≤ lev ∧ lev ≤ 9) {σ : Sg} {R : Int → Int} {LF : List Int} {L : List (Int × Int)} {e t p q : Int} (t1 : gA σ 80 = K) (t2 : gA σ 81 = A) (t3 : gA σ 82 = B) (t4 : gA σ 83 = C) (h : CTy σ R LF L) (he : 0 ≤ e ∧ e < 60) (ha : 0 ≤ A e ∧ A e < T0) (hb : 0 ≤ B e ∧ B e < T0) (hc : 0 ≤ C e ∧ C e < T0) (hH1 : H (A e) + (lev + 1) ≤ 10) (hH2 : H (B e) + (lev + 1) ≤ 10) (hH3 : H (C e) + (lev + 1) ≤ 10) (hN1 : Nd (A e) ≤ L.length) (hN2 : Nd (B e) ≤ L.length) (hN3 : Nd (C e) ≤ L.length) (hL : (L.length : Int) ≤ 2 * (lev - 1)) (ht : 0 ≤ t ∧ t < gI σ 107) (hp : 0 ≤ p ∧ p < gI σ 107) (hq : 0 ≤ q ∧ q < gI σ 107) (z1 : 1 ≤ Z (A e)) (z2 : 1 ≤ Z (B e)) (z3 : 1 ≤ Z (C e)) (hn : gI σ 107 + 1 + 5 * Z (A e) + 5 * Z (B e) + 5 * Z (C e) ≤ 604) (hf : LF.length + Z (A e) + Z (B e) + Z (C e) ≤ 120) : GO (f6_ifHolds N G σ e t p q lev) σ R LF L (1 + (5 * Z (A e) + (5 * Z (B e) + 5 * Z (C e)))) (Z (A e) + (Z (B e) + Z (C e))) (fun v => ∃ m, tre m ∧ HT K A B C d (A e) (EV v L) (leaf 1) m (v q) ∧ HT K A B C d (B e) (EV v L) (v t) (v p) m ∧ HT K A B C d (C e) (EV v L) (v t) (v p) m) := by
  unfold f6_ifHolds
  have h4 := h.2.2.2.1
  have h7 := h.2.2.2.2.2.2
  have step := GO_letter (rest := fun σ1 r1 => ck (0 ≤ e ∧ e < 60) <| ck (inR (lev + (1 : Int))) <| bd (G σ1 (gA σ1 81 e) (1 : Int) r1 q (lev + (1 : Int))) fun σ5 r5 => if r5 = 0 then (ck ((0 : Int) = 0 ∨ (0 : Int) = 1) (some (σ5, (0 : Int)))) else (ck (0 ≤ e ∧ e < 60) <| ck (inR (lev + (1 : Int))) <| bd (G σ5 (gA σ5 82 e) t p r1 (lev + (1 : Int))) fun σ10 r10 => if r10 = 0 then (ck ((0 : Int) = 0 ∨ (0 : Int) = 1) (some (σ10, (0 : Int)))) else (ck (0 ≤ e ∧ e < 60) <| ck (inR (lev + (1 : Int))) <| bd (G σ10 (gA σ10 83 e) t p r1 (lev + (1 : Int))) fun σ15 r15 => if r15 = 0 then (ck ((0 : Int) = 0 ∨ (0 : Int) = 1) (some (σ15, (0 : Int)))) else (ck ((1 : Int) = 0 ∨ (1 : Int) = 1) (some (σ15, (1 : Int))))))) (y := 5 * Z (A e) + (5 * Z (B e) + 5 * Z (C e))) (z := Z (A e) + (Z (B e) + Z (C e))) (T := fun v => HT K A B C d (A e) (EV v L) (v 1) (v (gI σ 107)) (v q) ∧ HT K A B C d (B e) (EV v L) (v t) (v p) (v (gI σ 107)) ∧ HT K A B C d (C e) (EV v L) (v t) (v p) (v (gI σ 107))) h (by omega) (by omega) (fun σ1 R1 f1 c1 n1 => by
    show GO (ck (0 ≤ e ∧ e < 60) _) σ1 R1 LF L _ _ _
    rw [ck_t he, ck_t (show inR (lev + 1) from ⟨by omega, by omega⟩), tab_fr f1 (by decide) t2]
    have h41 := c1.2.2.2.1
    refine GO_seq (rest := fun σ5 r5 => ck (0 ≤ e ∧ e < 60) <| ck (inR (lev + (1 : Int))) <| bd (G σ5 (gA σ5 82 e) t p (gI σ 107) (lev + (1 : Int))) fun σ10 r10 => if r10 = 0 then (ck ((0 : Int) = 0 ∨ (0 : Int) = 1) (some (σ10, (0 : Int)))) else (ck (0 ≤ e ∧ e < 60) <| ck (inR (lev + (1 : Int))) <| bd (G σ10 (gA σ10 83 e) t p (gI σ 107) (lev + (1 : Int))) fun σ15 r15 => if r15 = 0 then (ck ((0 : Int) = 0 ∨ (0 : Int) = 1) (some (σ15, (0 : Int)))) else (ck ((1 : Int) = 0 ∨ (1 : Int) = 1) (some (σ15, (1 : Int)))))) (hG σ1 R1 LF L (A e) 1 (gI σ 107) q (tab_fr f1 (by decide) t1) (tab_fr f1 (by decide) t2) (tab_fr f1 (by decide) t3) (tab_fr f1 (by decide) t4) c1 ha.1 ha.2 hH1 hN1 (by omega) (by omega) (by omega) (by omega) (by omega) (by omega)) (Loc_HT h41 (by omega) (by omega) (by omega)) (Loc_and (Loc_HT h41 (by omega) (by omega) (by omega)) (Loc_HT h41 (by omega) (by omega) (by omega))) (by omega) (by omega) (fun σ2 R2 LF2 f2 c2 n2 n2' l2 => ?_)
    show GO (ck (0 ≤ e ∧ e < 60) _) σ2 R2 LF2 L _ _ _
    have f12 := fr_t f1 f2
    have h42 := c2.2.2.2.1
    rw [ck_t he, ck_t (show inR (lev + 1) from ⟨by omega, by omega⟩), tab_fr f12 (by decide) t3]
    refine GO_seq (rest := fun σ10 r10 => ck (0 ≤ e ∧ e < 60) <| ck (inR (lev + (1 : Int))) <| bd (G σ10 (gA σ10 83 e) t p (gI σ 107) (lev + (1 : Int))) fun σ15 r15 => if r15 = 0 then (ck ((0 : Int) = 0 ∨ (0 : Int) = 1) (some (σ15, (0 : Int)))) else (ck ((1 : Int) = 0 ∨ (1 : Int) = 1) (some (σ15, (1 : Int))))) (hG σ2 R2 LF2 L (B e) t p (gI σ 107) (tab_fr f12 (by decide) t1) (tab_fr f12 (by decide) t2) (tab_fr f12 (by decide) t3) (tab_fr f12 (by decide) t4) c2 hb.1 hb.2 hH2 hN2 (by omega) (by omega) (by omega) (by omega) (by omega) (by omega)) (Loc_HT h42 (by omega) (by omega) (by omega)) (Loc_HT h42 (by omega) (by omega) (by omega)) (by omega) (by omega) (fun σ3 R3 LF3 f3 c3 n3 n3' l3 => ?_)
    show GO (ck (0 ≤ e ∧ e < 60) _) σ3 R3 LF3 L _ _ _
    have f13 := fr_t f12 f3
    rw [ck_t he, ck_t (show inR (lev + 1) from ⟨by omega, by omega⟩), tab_fr f13 (by decide) t4]
    exact GO_last (hG σ3 R3 LF3 L (C e) t p (gI σ 107) (tab_fr f13 (by decide) t1) (tab_fr f13 (by decide) t2) (tab_fr f13 (by decide) t3) (tab_fr f13 (by decide) t4) c3 hc.1 hc.2 hH3 hN3 (by omega) (by omega) (by omega) (by omega) (by omega) (by omega)))
  refine GO_conv step (Int.le_refl _) (Int.le_refl _) (fun v hv => ?_)
  have ev : ∀ x, EV (uv v (gI σ 107) x) L = EV v L := fun x => EV_agree h4 (fun k k1 k2 => uv_ag v _ x k k1 (by omega))
  have w : ∀ x k, k < gI σ 107 → uv v (gI σ 107) x k = v k := fun x k hk => uv_n (by omega)
  show (∃ x, tre x ∧ HT K A B C d (A e) (EV (uv v (gI σ 107) x) L) (uv v (gI σ 107) x 1) (uv v (gI σ 107) x (gI σ 107)) (uv v (gI σ 107) x q) ∧ HT K A B C d (B e) (EV (uv v (gI σ 107) x) L) (uv v (gI σ 107) x t) (uv v (gI σ 107) x p) (uv v (gI σ 107) x (gI σ 107)) ∧ HT K A B C d (C e) (EV (uv v (gI σ 107) x) L) (uv v (gI σ 107) x t) (uv v (gI σ 107) x p) (uv v (gI σ 107) x (gI σ 107))) ↔ _
  simp only [ev, uv_s, w _ 1 (by omega), w _ q hq.2, w _ p hp.2, w _ t ht.2, (v_num h hv).2]
end
