/-! ===== the reference solves one goal ===== -/
/-- a program that endK with goals whose sizes are less than z in all -/
def SO (K A B C H Z Nd : Int → Int) (T1 : Int) (σz : Sg) (lo n0 : Int) (T0 : (Int → Tr) → Prop) (z : Int) (prog : Option (Sg × Int)) : Prop := ∃ (σ' : Sg) (n' c' f' : Int) (G' : List Go) (L' : List (Int × Int)) (b' : Int), prog = some (σ', 0) ∧ MJ σz lo n0 T0 σ' n' c' f' G' L' b' (GS K A B C G') ∧ GK H Nd T1 lo n' G' ∧ n' + 5 * SZ Z G' ≤ 602 ∧ f' + SZ Z G' ≤ 120 ∧ (0 ≤ c' ∧ c' + 2 * SZ Z G' ≤ 240) ∧ SZ Z G' < z
theorem MJ_letter' {σz : Sg} {lo n0 : Int} {T0 : (Int → Tr) → Prop} {σ : Sg} {n c f : Int} {G : List Go} {L : List (Int × Int)} {b : Int} {T : (Int → Tr) → Prop} (hn : n < 640) (h : MJ σz lo n0 T0 σ n c f G L b (fun v => ∃ x, tre x ∧ T (uv v (lo + n) x))) : ∃ σ', f10_letterCell σ = some (σ', lo + n) ∧ MJ σz lo n0 T0 σ' (n + 1) c f G L b T ∧ fr [240] [241, 242] σ σ' := by
  obtain ⟨σ', e1, e2, ob, e3⟩ := JJ_letter hn h.2.1
  exact ⟨σ', e1, MJ_step h e2 (by decide) (by decide) ob e3, e2⟩
def vb (N : Nat) (σ0 : Sg) (x3 x4 : Int) : Option (Sg × Int) := ck (0 ≤ x4 ∧ x4 < 250) <|
  if (gA σ0 258 x4) = (-1 : Int) then (ck (0 ≤ x4 ∧ x4 < 250) <|
  bd (f10_equal N σ0 x3 (gA σ0 257 x4)) fun σ5 _ =>
  some (σ5, 0))
  else (bd (f10_letterCell σ0 ) fun σ7 r7 =>
  ck (0 ≤ x4 ∧ x4 < 250) <|
  ck (0 ≤ x4 ∧ x4 < 250) <|
  bd (f10_functionCell σ7 (gA σ7 257 x4) r7 (gA σ7 258 x4) r7) fun σ11 r11 =>
  bd (f10_equal N σ11 x3 r11) fun σ13 _ =>
  some (σ13, 0))
theorem var_walk {N : Nat} {σ : Sg} {c a t : Int} (hc : c < 250) (ha : a ≤ 100) : ∀ (M : Nat) (L : List (Int × Int)) (b k : Int), EnvM σ c L b → 0 ≤ k → k ≤ a → a - k < L.length → a - k < M → ∃ y, (1 ≤ y ∧ y ≤ c) ∧ L[(a - k).toNat]? = some (gA σ 257 y, gA σ 258 y) ∧ b10_variable_6 N M σ a t b k = vb N σ t y := by
  intro M
  induction M with
  | zero => intro L b k _ _ h2 _ h4; exact absurd h4 (by omega)
  | succ M ih =>
    intro L b k hE h1 h2 h3 h4
    cases L with
    | nil => rw [List.length_nil] at h3; exact absurd h3 (by omega)
    | cons x L =>
      obtain ⟨q1, q2, q3, q4⟩ := hE
      rw [List.length_cons] at h3
      unfold b10_variable_6
      by_cases e : a ≤ k
      · rw [if_pos e]
        refine ⟨b, q1, ?_, rfl⟩
        rw [show (a - k).toNat = 0 by omega, q2, q3]
        rfl
      · rw [if_neg e, ck_t (show 0 ≤ b ∧ b < 250 by omega), ck_t (show inR (k + 1) from ⟨by omega, by omega⟩)]
        obtain ⟨y, y1, y2, y3⟩ := ih L (gA σ 259 b) (k + 1) q4 (by omega) (by omega) (by omega) (by omega)
        refine ⟨y, y1, ?_, y3⟩
        rw [show (a - k).toNat = (a - (k + 1)).toNat + 1 by omega, List.getElem?_cons_succ]
        exact y2
section
variable {K A B C H Z Nd : Int → Int} {T1 : Int} {σz : Sg} {lo n0 : Int} {T0 : (Int → Tr) → Prop} {σ : Sg} {n c f : Int} {G : List Go} {L : List (Int × Int)} {b z : Int} {N : Nat}
theorem s_leaf (hN : 1300 ≤ N) {w t : Int} (hw : w = 0 ∨ w = 1) (hk : GK H Nd T1 lo n G) (hs : (G.length : Int) ≤ SZ Z G) (ht : lo ≤ t ∧ t < lo + n) (b1 : n + 5 * (SZ Z G + z) ≤ 602) (b2 : f + (SZ Z G + z) ≤ 120) (b3 : 0 ≤ c ∧ c + 2 * (SZ Z G + z) ≤ 240) (hz : 1 ≤ z) (h : MJ σz lo n0 T0 σ n c f G L b (fun v => v t = leaf w ∧ GS K A B C G v)) : SO K A B C H Z Nd T1 σz lo n0 T0 (SZ Z G + z) (b10_solve_181 N σ t w) := by
  have hn0 : 0 ≤ n := h.2.1.1.2.2.2
  unfold b10_solve_181
  obtain ⟨σ1, e1, h1⟩ := MJ_leaf (T := fun v => v t = v (lo + n) ∧ GS K A B C G v) hw (by omega) (MJ_conv h (fun v => by
    show (v t = leaf w ∧ GS K A B C G v) ↔ (uv v (lo + n) (leaf w) t = uv v (lo + n) (leaf w) (lo + n) ∧ GS K A B C G (uv v (lo + n) (leaf w)))
    rw [uv_s, uv_n (by omega), GS_uv hk v (Int.le_refl _)]))
  rw [e1, bd_s]
  obtain ⟨σ2, e2, h2⟩ := MJ_equal (T := GS K A B C G) hN (by omega) (by omega) (by omega) h1
  rw [e2, bd_s]
  exact ⟨σ2, n + 1, c, f, G, L, b, rfl, h2, GK_m (by omega) G hk, by omega, by omega, by omega, by omega⟩
theorem cv_var {v : Int → Tr} {t px pg : Int} (hk : GK H Nd T1 lo n G) (ht : lo ≤ t ∧ t < lo + n) (h1 : lo ≤ px ∧ px < lo + n) (h2 : lo ≤ pg ∧ pg < lo + n) (x : Tr) : (fun v : Int → Tr => (fun v : Int → Tr => v t = v (lo + (n + 1)) ∧ GS K A B C G v) (uv v (lo + (n + 1)) (fnT (v px) (v (lo + n)) (v pg) (v (lo + n))))) (uv v (lo + n) x) ↔ (v t = fnT (v px) x (v pg) x ∧ GS K A B C G v) := by
  show (uv (uv v (lo + n) x) (lo + (n + 1)) (fnT (uv v (lo + n) x px) (uv v (lo + n) x (lo + n)) (uv v (lo + n) x pg) (uv v (lo + n) x (lo + n))) t = uv (uv v (lo + n) x) (lo + (n + 1)) (fnT (uv v (lo + n) x px) (uv v (lo + n) x (lo + n)) (uv v (lo + n) x pg) (uv v (lo + n) x (lo + n))) (lo + (n + 1)) ∧ GS K A B C G (uv (uv v (lo + n) x) (lo + (n + 1)) (fnT (uv v (lo + n) x px) (uv v (lo + n) x (lo + n)) (uv v (lo + n) x pg) (uv v (lo + n) x (lo + n))))) ↔ _
  rw [GS_uv hk _ (by omega), GS_uv hk _ (Int.le_refl _), uv_s (uv v (lo + n) x), uv_n (show t ≠ lo + (n + 1) by omega), uv_n (show t ≠ lo + n by omega), uv_n (show px ≠ lo + n by omega), uv_n (show pg ≠ lo + n by omega), uv_s]
theorem s_var (hN : 1300 ≤ N) {a t : Int} (ha : 0 ≤ a ∧ a < L.length) (ha5 : a ≤ 5) (hL : ED lo n L) (hk : GK H Nd T1 lo n G) (hs : (G.length : Int) ≤ SZ Z G) (ht : lo ≤ t ∧ t < lo + n) (b1 : n + 5 * (SZ Z G + z) ≤ 602) (b2 : f + (SZ Z G + z) ≤ 120) (b3 : 0 ≤ c ∧ c + 2 * (SZ Z G + z) ≤ 240) (hz : 1 ≤ z) (h : MJ σz lo n0 T0 σ n c f G L b (fun v => VT (EV v L) a (v t) ∧ GS K A B C G v)) : SO K A B C H Z Nd T1 σz lo n0 T0 (SZ Z G + z) (f10_variable N σ a b t) := by
  have hn0 : 0 ≤ n := h.2.1.1.2.2.2
  unfold f10_variable
  obtain ⟨y, y1, y2, y3⟩ := var_walk (N := N) (σ := σ) (c := c) (a := a) (t := t) (by omega) (by omega) N L b 0 h.2.2.2.2.2 (by omega) (by omega) (by omega) (by omega)
  rw [y3]
  rw [show a - 0 = a by omega] at y2
  unfold vb
  have hy : 0 ≤ y ∧ y < 250 := by omega
  rw [ck_t hy]
  have hm := hL _ (List.mem_of_getElem? y2)
  obtain ⟨px, hpx⟩ : ∃ px, gA σ 257 y = px := ⟨_, rfl⟩
  obtain ⟨pg, hpg⟩ : ∃ pg, gA σ 258 y = pg := ⟨_, rfl⟩
  rw [hpx, hpg] at y2 hm
  have hm1 : lo ≤ px ∧ px < lo + n := hm.1
  rw [hpg]
  by_cases g : pg = -1
  · rw [if_pos g, ck_t hy, hpx]
    rw [g] at y2
    obtain ⟨σ1, e1, h1⟩ := MJ_equal (T := GS K A B C G) hN (by omega) ht hm1 (MJ_conv h (fun v => by
      show (VT (EV v L) a (v t) ∧ GS K A B C G v) ↔ (v t = v px ∧ GS K A B C G v)
      rw [VT_p y2]))
    rw [e1, bd_s]
    exact ⟨σ1, n, c, f, G, L, b, rfl, h1, hk, by omega, by omega, by omega, by omega⟩
  · rw [if_neg g]
    have hg : lo ≤ pg ∧ pg < lo + n := hm.2.resolve_left g
    obtain ⟨σ1, e1, h1, f1⟩ := MJ_letter' (T := fun v => (fun v => v t = v (lo + (n + 1)) ∧ GS K A B C G v) (uv v (lo + (n + 1)) (fnT (v px) (v (lo + n)) (v pg) (v (lo + n))))) (by omega) (MJ_conv h (fun v => by
      rw [VT_g y2 g]
      refine ⟨fun q => ?_, fun q => ?_⟩
      · obtain ⟨⟨r, r1, r2⟩, q2⟩ := q
        exact ⟨r, r1, (cv_var hk ht hm1 hg r).mpr ⟨r2, q2⟩⟩
      · obtain ⟨r, r1, r2⟩ := q
        have r2 := (cv_var hk ht hm1 hg r).mp r2
        exact ⟨⟨r, r1, r2.1⟩, r2.2⟩))
    rw [e1, bd_s, ck_t hy, ck_t hy, f1.2 257 (by decide), f1.2 258 (by decide), hpx, hpg]
    obtain ⟨σ2, e2, h2⟩ := MJ_fn (T := fun v => v t = v (lo + (n + 1)) ∧ GS K A B C G v) (by omega) (by omega) (by omega) (by omega) (by omega) h1
    rw [e2, bd_s]
    obtain ⟨σ3, e3, h3⟩ := MJ_equal (T := GS K A B C G) hN (by omega) (by omega) (by omega) h2
    rw [e3, bd_s]
    exact ⟨σ3, n + 1 + 1, c, f + 1, G, L, b, rfl, h3, GK_m (by omega) G hk, by omega, by omega, by omega, by omega⟩
/-- what a mark holds -/
theorem s_mark {e t : Int} {d : Nat} (tA : gA σz 203 = A) (he : 0 ≤ e ∧ e < 60) (wa : 0 ≤ A e ∧ A e < T1) (hH : H (A e) ≤ d) (hNd : Nd (A e) ≤ L.length) (hL : ED lo n L) (hk : GK H Nd T1 lo n G) (hs : (G.length : Int) ≤ SZ Z G) (ht : lo ≤ t ∧ t < lo + n) (b1 : n + 5 * (SZ Z G + z) ≤ 602) (b2 : f + (SZ Z G + z) ≤ 120) (b3 : 0 ≤ c ∧ c + 2 * (SZ Z G + z) ≤ 240) (za : 1 ≤ Z (A e)) (hz : z = Z (A e) + 1) (h : MJ σz lo n0 T0 σ n c f G L b (fun v => (∃ m, tre m ∧ HT K A B C d (A e) (EV v L) m m (v t)) ∧ GS K A B C G v)) : SO K A B C H Z Nd T1 σz lo n0 T0 (SZ Z G + z) (bd (f10_letterCell σ ) fun σ28 r28 => ck (0 ≤ e ∧ e < 60) <| bd (f10_goal σ28 (gA σ28 203 e) b r28 r28 t) fun σ31 _ => some (σ31, 0)) := by
  have hn0 : 0 ≤ n := h.2.1.1.2.2.2
  obtain ⟨σ1, e1, h1⟩ := MJ_letter (T := GS K A B C ((d, A e, L, lo + n, lo + n, t) :: G)) (by omega) (MJ_conv h (fun v => by
    show ((∃ m, tre m ∧ HT K A B C d (A e) (EV v L) m m (v t)) ∧ GS K A B C G v) ↔ ∃ x, tre x ∧ (HT K A B C d (A e) (EV (uv v (lo + n) x) L) (uv v (lo + n) x (lo + n)) (uv v (lo + n) x (lo + n)) (uv v (lo + n) x t) ∧ GS K A B C G (uv v (lo + n) x))
    simp (disch := omega) only [EV_uv hL, GS_uv hk, uv_s, uv_n]
    exact ⟨fun ⟨⟨m, q1, q2⟩, q3⟩ => ⟨m, q1, q2, q3⟩, fun ⟨m, q1, q2, q3⟩ => ⟨⟨m, q1, q2⟩, q3⟩⟩))
  rw [e1, bd_s, ck_t he, MJ_tab h1 (by decide) tA]
  obtain ⟨σ2, e2, h2⟩ := MJ_goal (by omega) d (A e) (lo + n) (lo + n) t h1
  rw [e2, bd_s]
  have sz : SZ Z ((d, A e, L, lo + n, lo + n, t) :: G) = Z (A e) + SZ Z G := rfl
  exact ⟨σ2, n + 1, c, f, _, L, b, rfl, h2, ⟨⟨wa, hH, hNd, ED_m hL (by omega), ⟨by show lo ≤ lo + n; omega, by show lo + n < lo + (n + 1); omega⟩, ⟨by show lo ≤ lo + n; omega, by show lo + n < lo + (n + 1); omega⟩, ⟨ht.1, by show t < lo + (n + 1); omega⟩⟩, GK_m (by omega) G hk⟩, by rw [sz]; omega, by rw [sz]; omega, by rw [sz]; omega, by rw [sz]; omega⟩
theorem s_take {e t p q : Int} {d : Nat} (hp1 : lo = 0 ∨ lo = 640) (tA : gA σz 203 = A) (he : 0 ≤ e ∧ e < 60) (wa : 0 ≤ A e ∧ A e < T1) (hH : H (A e) ≤ d) (hNd : Nd (A e) ≤ L.length + 1) (hL : ED lo n L) (hk : GK H Nd T1 lo n G) (hs : (G.length : Int) ≤ SZ Z G) (ht : lo ≤ t ∧ t < lo + n) (hp : lo ≤ p ∧ p < lo + n) (hq : lo ≤ q ∧ q < lo + n) (b1 : n + 5 * (SZ Z G + z) ≤ 602) (b2 : f + (SZ Z G + z) ≤ 120) (b3 : 0 ≤ c ∧ c + 2 * (SZ Z G + z) ≤ 240) (za : 1 ≤ Z (A e)) (hz : z = Z (A e) + 1) (h : MJ σz lo n0 T0 σ n c f G L b (fun v => (∃ m, tre m ∧ HT K A B C d (A e) ((v t, some (v p)) :: EV v L) m m (v q)) ∧ GS K A B C G v)) : SO K A B C H Z Nd T1 σz lo n0 T0 (SZ Z G + z) (bd (f10_letterCell σ ) fun σ34 r34 => ck (0 ≤ e ∧ e < 60) <| bd (f10_place σ34 t p b) fun σ37 r37 => bd (f10_goal σ37 (gA σ34 203 e) r37 r34 r34 q) fun σ39 _ => some (σ39, 0)) := by
  have hn0 : 0 ≤ n := h.2.1.1.2.2.2
  have hp2 : p ≠ -1 := by omega
  obtain ⟨σ1, e1, h1⟩ := MJ_letter (T := GS K A B C ((d, A e, (t, p) :: L, lo + n, lo + n, q) :: G)) (by omega) (MJ_conv h (fun v => by
    show ((∃ m, tre m ∧ HT K A B C d (A e) ((v t, some (v p)) :: EV v L) m m (v q)) ∧ GS K A B C G v) ↔ ∃ x, tre x ∧ (HT K A B C d (A e) (EV (uv v (lo + n) x) ((t, p) :: L)) (uv v (lo + n) x (lo + n)) (uv v (lo + n) x (lo + n)) (uv v (lo + n) x q) ∧ GS K A B C G (uv v (lo + n) x))
    have hE : ED lo n ((t, p) :: L) := ED_c hL ht (Or.inr hp)
    simp (disch := omega) only [EV_uv hE, GS_uv hk, uv_s, uv_n]
    rw [EV_g v t p hp2]
    exact ⟨fun ⟨⟨m, q1, q2⟩, q3⟩ => ⟨m, q1, q2, q3⟩, fun ⟨m, q1, q2, q3⟩ => ⟨⟨m, q1, q2⟩, q3⟩⟩))
  rw [e1, bd_s, ck_t he, MJ_tab h1 (by decide) tA]
  obtain ⟨σ2, e2, h2⟩ := MJ_place (by omega) t p h1
  rw [e2, bd_s]
  obtain ⟨σ3, e3, h3⟩ := MJ_goal (by omega) d (A e) (lo + n) (lo + n) q h2
  rw [e3, bd_s]
  have sz : SZ Z ((d, A e, (t, p) :: L, lo + n, lo + n, q) :: G) = Z (A e) + SZ Z G := rfl
  exact ⟨σ3, n + 1, c + 1, f, _, _, _, rfl, h3, ⟨⟨wa, hH, by show Nd (A e) ≤ (((t, p) :: L : List (Int × Int)).length : Int); rw [List.length_cons]; omega, ED_m (ED_c hL ht (Or.inr hp)) (by omega), ⟨by show lo ≤ lo + n; omega, by show lo + n < lo + (n + 1); omega⟩, ⟨by show lo ≤ lo + n; omega, by show lo + n < lo + (n + 1); omega⟩, ⟨hq.1, by show q < lo + (n + 1); omega⟩⟩, GK_m (by omega) G hk⟩, by rw [sz]; omega, by rw [sz]; omega, by rw [sz]; omega, by rw [sz]; omega⟩
end
