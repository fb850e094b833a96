/-! ===== goals of two and three words, and functions ===== -/
def XX1 (lo n : Int) (T : (Int → Tr) → Prop) (v : Int → Tr) : Prop := ∃ x, tre x ∧ T (uv v (lo + n) x)
def XX0 (lo n w : Int) (T : (Int → Tr) → Prop) (v : Int → Tr) : Prop := T (uv v (lo + n) (leaf w))
def XX2 (lo n a b c e : Int) (T : (Int → Tr) → Prop) (v : Int → Tr) : Prop := T (uv v (lo + n) (fnT (v a) (v b) (v c) (v e)))
def XXE (a b : Int) (T : (Int → Tr) → Prop) (v : Int → Tr) : Prop := v a = v b ∧ T v
section
variable {σz : Sg} {lo n0 : Int} {T0 : (Int → Tr) → Prop} {σ : Sg} {n c f : Int} {G : List Go} {L : List (Int × Int)} {b : Int} {T : (Int → Tr) → Prop}
theorem Mx1 (hn : n < 640) (h : MJ σz lo n0 T0 σ n c f G L b (XX1 lo n T)) : ∃ σ', f10_letterCell σ = some (σ', lo + n) ∧ MJ σz lo n0 T0 σ' (n + 1) c f G L b T := MJ_letter hn h
theorem Mx0 {w : Int} (hw : w = 0 ∨ w = 1) (hn : n < 640) (h : MJ σz lo n0 T0 σ n c f G L b (XX0 lo n w T)) : ∃ σ', f10_cell σ w = some (σ', lo + n) ∧ MJ σz lo n0 T0 σ' (n + 1) c f G L b T := MJ_leaf hw hn h
theorem Mx2 (hn : n < 640) {a b' c' e : Int} (ha : lo ≤ a ∧ a < lo + n) (hb : lo ≤ b' ∧ b' < lo + n) (hc : lo ≤ c' ∧ c' < lo + n) (he : lo ≤ e ∧ e < lo + n) (h : MJ σz lo n0 T0 σ n c f G L b (XX2 lo n a b' c' e T)) : ∃ σ', f10_functionCell σ a b' c' e = some (σ', lo + n) ∧ MJ σz lo n0 T0 σ' (n + 1) c (f + 1) G L b T := MJ_fn hn ha hb hc he h
theorem MxE {N : Nat} (hN : 1300 ≤ N) (hf : f ≤ 120) {a b' : Int} (ha : lo ≤ a ∧ a < lo + n) (hb : lo ≤ b' ∧ b' < lo + n) (h : MJ σz lo n0 T0 σ n c f G L b (XXE a b' T)) : ∃ σ', f10_equal N σ a b' = some (σ', 0) ∧ MJ σz lo n0 T0 σ' n c f G L b T := MJ_equal hN hf ha hb h
end
section
variable {K A B C H Z Nd : Int → Int} {T1 : Int} {lo n : Int} {G : List Go} {L : List (Int × Int)} {v : Int → Tr} {d : Nat} {t p q ea eb ec : Int}
theorem cv_fun (hk : GK H Nd T1 lo n G) (hL : ED lo n L) (ht : lo ≤ t ∧ t < lo + n) (hn : 0 ≤ n) : ((∃ x b g a, tre x ∧ tre b ∧ tre g ∧ tre a ∧ v t = fnT x b g a ∧ HT K A B C d ea ((x, none) :: EV v L) g b a) ∧ GS K A B C G v) ↔ XX1 lo n (XX1 lo (n + 1) (XX1 lo (n + 1 + 1) (XX1 lo (n + 1 + 1 + 1) (XX2 lo (n + 1 + 1 + 1 + 1) (lo + n) (lo + (n + 1)) (lo + (n + 1 + 1)) (lo + (n + 1 + 1 + 1)) (XXE t (lo + (n + 1 + 1 + 1 + 1)) (GS K A B C ((d, ea, (lo + n, -1) :: L, lo + (n + 1 + 1), lo + (n + 1), lo + (n + 1 + 1 + 1)) :: G))))))) v := by
  simp only [XX1, XX2, XXE, GS]
  simp (disch := omega) only [EV_p, EV_uv hL, GS_uv hk, uv_s, uv_n]
  refine ⟨?_, ?_⟩
  · rintro ⟨⟨x, b, g, a, q1, q2, q3, q4, q5, q6⟩, q7⟩
    exact ⟨x, q1, b, q2, g, q3, a, q4, q5, q6, q7⟩
  · rintro ⟨x, q1, b, q2, g, q3, a, q4, q5, q6, q7⟩
    exact ⟨⟨x, b, g, a, q1, q2, q3, q4, q5, q6⟩, q7⟩
theorem cv_fix (hk : GK H Nd T1 lo n G) (hL : ED lo n L) (ht : lo ≤ t ∧ t < lo + n) (hn : 0 ≤ n) : ((∃ x b g a, tre x ∧ tre b ∧ tre g ∧ tre a ∧ v t = fnT x b g a ∧ HT K A B C d ea ((x, none) :: (fnT x b g a, none) :: EV v L) g b a) ∧ GS K A B C G v) ↔ XX1 lo n (XX1 lo (n + 1) (XX1 lo (n + 1 + 1) (XX1 lo (n + 1 + 1 + 1) (XX2 lo (n + 1 + 1 + 1 + 1) (lo + n) (lo + (n + 1)) (lo + (n + 1 + 1)) (lo + (n + 1 + 1 + 1)) (XXE t (lo + (n + 1 + 1 + 1 + 1)) (GS K A B C ((d, ea, (lo + n, -1) :: (lo + (n + 1 + 1 + 1 + 1), -1) :: L, lo + (n + 1 + 1), lo + (n + 1), lo + (n + 1 + 1 + 1)) :: G))))))) v := by
  simp only [XX1, XX2, XXE, GS]
  simp (disch := omega) only [EV_p, EV_uv hL, GS_uv hk, uv_s, uv_n]
  refine ⟨?_, ?_⟩
  · rintro ⟨⟨x, b, g, a, q1, q2, q3, q4, q5, q6⟩, q7⟩
    exact ⟨x, q1, b, q2, g, q3, a, q4, q5, q6, q7⟩
  · rintro ⟨x, q1, b, q2, g, q3, a, q4, q5, q6, q7⟩
    exact ⟨⟨x, b, g, a, q1, q2, q3, q4, q5, q6⟩, q7⟩
theorem cv_call (hk : GK H Nd T1 lo n G) (hL : ED lo n L) (ht : lo ≤ t ∧ t < lo + n) (hp : lo ≤ p ∧ p < lo + n) (hq : lo ≤ q ∧ q < lo + n) (hn : 0 ≤ n) : ((∃ x a m, tre x ∧ tre a ∧ tre m ∧ HT K A B C d ea (EV v L) (fnT x (v p) (v t) a) m (v q) ∧ HT K A B C d eb (EV v L) x a m) ∧ GS K A B C G v) ↔ XX1 lo n (XX1 lo (n + 1) (XX1 lo (n + 1 + 1) (XX2 lo (n + 1 + 1 + 1) (lo + (n + 1)) p t (lo + (n + 1 + 1)) (GS K A B C ((d, eb, L, lo + (n + 1), lo + (n + 1 + 1), lo + n) :: (d, ea, L, lo + (n + 1 + 1 + 1), lo + n, q) :: G))))) v := by
  simp only [XX1, XX2, XXE, GS]
  simp (disch := omega) only [EV_uv hL, GS_uv hk, uv_s, uv_n]
  refine ⟨?_, ?_⟩
  · rintro ⟨⟨x, a, m, q1, q2, q3, q4, q5⟩, q6⟩
    exact ⟨m, q3, x, q1, a, q2, q5, q4, q6⟩
  · rintro ⟨m, q3, x, q1, a, q2, q5, q4, q6⟩
    exact ⟨⟨x, a, m, q1, q2, q3, q4, q5⟩, q6⟩
theorem cv_let (hk : GK H Nd T1 lo n G) (hL : ED lo n L) (ht : lo ≤ t ∧ t < lo + n) (hp : lo ≤ p ∧ p < lo + n) (hq : lo ≤ q ∧ q < lo + n) (hn : 0 ≤ n) : ((∃ x m, tre x ∧ tre m ∧ HT K A B C d ea (EV v L) x m (v q) ∧ HT K A B C d eb ((x, none) :: EV v L) (v t) (v p) m) ∧ GS K A B C G v) ↔ XX1 lo n (XX1 lo (n + 1) (GS K A B C ((d, eb, (lo + (n + 1), -1) :: L, t, p, lo + n) :: (d, ea, L, lo + (n + 1), lo + n, q) :: G))) v := by
  simp only [XX1, XX2, XXE, GS]
  simp (disch := omega) only [EV_p, EV_uv hL, GS_uv hk, uv_s, uv_n]
  refine ⟨?_, ?_⟩
  · rintro ⟨⟨x, m, q1, q2, q3, q4⟩, q5⟩
    exact ⟨m, q2, x, q1, q4, q3, q5⟩
  · rintro ⟨m, q2, x, q1, q4, q3, q5⟩
    exact ⟨⟨x, m, q1, q2, q3, q4⟩, q5⟩
theorem cv_if (hk : GK H Nd T1 lo n G) (hL : ED lo n L) (ht : lo ≤ t ∧ t < lo + n) (hp : lo ≤ p ∧ p < lo + n) (hq : lo ≤ q ∧ q < lo + n) (hn : 0 ≤ n) : ((∃ m, tre m ∧ HT K A B C d ea (EV v L) (leaf 1) m (v q) ∧ HT K A B C d eb (EV v L) (v t) (v p) m ∧ HT K A B C d ec (EV v L) (v t) (v p) m) ∧ GS K A B C G v) ↔ XX1 lo n (XX0 lo (n + 1) 1 (GS K A B C ((d, ec, L, t, p, lo + n) :: (d, eb, L, t, p, lo + n) :: (d, ea, L, lo + (n + 1), lo + n, q) :: G))) v := by
  simp only [XX1, XX0, XXE, GS]
  simp (disch := omega) only [EV_uv hL, GS_uv hk, uv_s, uv_n]
  refine ⟨?_, ?_⟩
  · rintro ⟨⟨m, q1, q2, q3, q4⟩, q5⟩
    exact ⟨m, q1, q4, q3, q2, q5⟩
  · rintro ⟨m, q1, q4, q3, q2, q5⟩
    exact ⟨⟨m, q1, q2, q3, q4⟩, q5⟩
theorem cv_num {w : Int} (hk : GK H Nd T1 lo n G) (hL : ED lo n L) (ht : lo ≤ t ∧ t < lo + n) (hp : lo ≤ p ∧ p < lo + n) (hq : lo ≤ q ∧ q < lo + n) (hn : 0 ≤ n) : ((v t = leaf w ∧ ∃ m, tre m ∧ HT K A B C d ea (EV v L) (leaf 0) m (v q) ∧ HT K A B C d eb (EV v L) (leaf 0) (v p) m) ∧ GS K A B C G v) ↔ XX1 lo n (XX0 lo (n + 1) w (XXE t (lo + (n + 1)) (XX0 lo (n + 1 + 1) 0 (XX0 lo (n + 1 + 1 + 1) 0 (GS K A B C ((d, eb, L, lo + (n + 1 + 1 + 1), p, lo + n) :: (d, ea, L, lo + (n + 1 + 1), lo + n, q) :: G)))))) v := by
  simp only [XX1, XX0, XXE, GS]
  simp (disch := omega) only [EV_uv hL, GS_uv hk, uv_s, uv_n]
  refine ⟨?_, ?_⟩
  · rintro ⟨⟨q0, m, q1, q2, q3⟩, q5⟩
    exact ⟨m, q1, q0, q3, q2, q5⟩
  · rintro ⟨m, q1, q0, q3, q2, q5⟩
    exact ⟨⟨q0, m, q1, q2, q3⟩, q5⟩
end
/-- a new goal stands well -/
theorem GK1_i {H Nd : Int → Int} {T1 lo n : Int} {d : Nat} {e t p q : Int} {L : List (Int × Int)} (he : 0 ≤ e ∧ e < T1) (hH : H e ≤ d) (hNd : Nd e ≤ L.length) (hL : ED lo n L) (ht : lo ≤ t ∧ t < lo + n) (hp : lo ≤ p ∧ p < lo + n) (hq : lo ≤ q ∧ q < lo + n) : GK1 H Nd T1 lo n (d, e, L, t, p, q) := ⟨he, hH, hNd, hL, ht, hp, hq⟩
section
variable {K A B C H Z Nd : Int → Int} {T1 : Int} {σz : Sg} {lo n0 : Int} {T0 : (Int → Tr) → Prop} {σ : Sg} {n c f : Int} {G : List Go} {L : List (Int × Int)} {b z e t p q : Int} {d : Nat} {N : Nat}
theorem s_fun (hN : 1300 ≤ N) (tA : gA σz 203 = A) (he : 0 ≤ e ∧ e < 60) (wa : 0 ≤ A e ∧ A e < T1) (hH : H (A e) ≤ d) (hNd : Nd (A e) ≤ L.length + 1) (hL : ED lo n L) (hk : GK H Nd T1 lo n G) (hs : (G.length : Int) ≤ SZ Z G) (ht : lo ≤ t ∧ t < lo + n) (b1 : n + 5 * (SZ Z G + z) ≤ 602) (b2 : f + (SZ Z G + z) ≤ 120) (b3 : 0 ≤ c ∧ c + 2 * (SZ Z G + z) ≤ 240) (za : 1 ≤ Z (A e)) (hz : z = Z (A e) + 1) (h : MJ σz lo n0 T0 σ n c f G L b (fun v => (∃ x b g a, tre x ∧ tre b ∧ tre g ∧ tre a ∧ v t = fnT x b g a ∧ HT K A B C d (A e) ((x, none) :: EV v L) g b a) ∧ GS K A B C G v)) : SO K A B C H Z Nd T1 σz lo n0 T0 (SZ Z G + z) (f10_function N σ 3 e b t) := by
  have hn0 : 0 ≤ n := h.2.1.1.2.2.2
  unfold f10_function
  obtain ⟨σ1, e1, h1⟩ := Mx1 (by omega) (MJ_conv h (fun v => cv_fun hk hL ht hn0))
  rw [e1, bd_s]
  obtain ⟨σ2, e2, h2⟩ := Mx1 (by omega) h1
  rw [e2, bd_s]
  obtain ⟨σ3, e3, h3⟩ := Mx1 (by omega) h2
  rw [e3, bd_s]
  obtain ⟨σ4, e4, h4⟩ := Mx1 (by omega) h3
  rw [e4, bd_s]
  obtain ⟨σ5, e5, h5⟩ := Mx2 (by omega) (by omega) (by omega) (by omega) (by omega) h4
  rw [e5, bd_s]
  obtain ⟨σ6, e6, h6⟩ := MxE hN (by omega) (by omega) (by omega) h5
  rw [e6, bd_s, if_neg (by decide)]
  unfold b10_function_64
  rw [ck_t he]
  obtain ⟨σ7, e7, h7⟩ := MJ_place (by omega) (lo + n) (-1) h6
  rw [e7, bd_s, MJ_tab h6 (by decide) tA]
  obtain ⟨σ8, e8, h8⟩ := MJ_goal (by omega) d (A e) (lo + (n + 1 + 1)) (lo + (n + 1)) (lo + (n + 1 + 1 + 1)) h7
  rw [e8, bd_s]
  have sz : SZ Z ((d, A e, (lo + n, -1) :: L, lo + (n + 1 + 1), lo + (n + 1), lo + (n + 1 + 1 + 1)) :: G) = Z (A e) + SZ Z G := rfl
  refine ⟨σ8, n + 1 + 1 + 1 + 1 + 1, c + 1, f + 1, _, _, _, rfl, h8, ⟨GK1_i wa hH ?_ (ED_c (ED_m hL (by omega)) (by omega) (Or.inl rfl)) (by omega) (by omega) (by omega), GK_m (by omega) G hk⟩, ?_, ?_, ?_, ?_⟩
  · rw [List.length_cons]; omega
  · rw [sz]; omega
  · rw [sz]; omega
  · rw [sz]; omega
  · rw [sz]; omega
theorem s_fix (hN : 1300 ≤ N) (tA : gA σz 203 = A) (he : 0 ≤ e ∧ e < 60) (wa : 0 ≤ A e ∧ A e < T1) (hH : H (A e) ≤ d) (hNd : Nd (A e) ≤ L.length + 2) (hL : ED lo n L) (hk : GK H Nd T1 lo n G) (hs : (G.length : Int) ≤ SZ Z G) (ht : lo ≤ t ∧ t < lo + n) (b1 : n + 5 * (SZ Z G + z) ≤ 602) (b2 : f + (SZ Z G + z) ≤ 120) (b3 : 0 ≤ c ∧ c + 2 * (SZ Z G + z) ≤ 240) (za : 1 ≤ Z (A e)) (hz : z = Z (A e) + 1) (h : MJ σz lo n0 T0 σ n c f G L b (fun v => (∃ x b g a, tre x ∧ tre b ∧ tre g ∧ tre a ∧ v t = fnT x b g a ∧ HT K A B C d (A e) ((x, none) :: (fnT x b g a, none) :: EV v L) g b a) ∧ GS K A B C G v)) : SO K A B C H Z Nd T1 σz lo n0 T0 (SZ Z G + z) (f10_function N σ 11 e b t) := by
  have hn0 : 0 ≤ n := h.2.1.1.2.2.2
  unfold f10_function
  obtain ⟨σ1, e1, h1⟩ := Mx1 (by omega) (MJ_conv h (fun v => cv_fix hk hL ht hn0))
  rw [e1, bd_s]
  obtain ⟨σ2, e2, h2⟩ := Mx1 (by omega) h1
  rw [e2, bd_s]
  obtain ⟨σ3, e3, h3⟩ := Mx1 (by omega) h2
  rw [e3, bd_s]
  obtain ⟨σ4, e4, h4⟩ := Mx1 (by omega) h3
  rw [e4, bd_s]
  obtain ⟨σ5, e5, h5⟩ := Mx2 (by omega) (by omega) (by omega) (by omega) (by omega) h4
  rw [e5, bd_s]
  obtain ⟨σ6, e6, h6⟩ := MxE hN (by omega) (by omega) (by omega) h5
  rw [e6, bd_s, if_pos rfl]
  obtain ⟨σ9, e9, h9⟩ := MJ_place (by omega) (lo + (n + 1 + 1 + 1 + 1)) (-1) h6
  rw [e9, bd_s]
  unfold b10_function_64
  rw [ck_t he]
  obtain ⟨σ7, e7, h7⟩ := MJ_place (by omega) (lo + n) (-1) h9
  rw [e7, bd_s, MJ_tab h9 (by decide) tA]
  obtain ⟨σ8, e8, h8⟩ := MJ_goal (by omega) d (A e) (lo + (n + 1 + 1)) (lo + (n + 1)) (lo + (n + 1 + 1 + 1)) h7
  rw [e8, bd_s]
  have sz : SZ Z ((d, A e, (lo + n, -1) :: (lo + (n + 1 + 1 + 1 + 1), -1) :: L, lo + (n + 1 + 1), lo + (n + 1), lo + (n + 1 + 1 + 1)) :: G) = Z (A e) + SZ Z G := rfl
  refine ⟨σ8, n + 1 + 1 + 1 + 1 + 1, c + 1 + 1, f + 1, _, _, _, rfl, h8, ⟨GK1_i wa hH ?_ (ED_c (ED_c (ED_m hL (by omega)) (by omega) (Or.inl rfl)) (by omega) (Or.inl rfl)) (by omega) (by omega) (by omega), GK_m (by omega) G hk⟩, ?_, ?_, ?_, ?_⟩
  · rw [List.length_cons, List.length_cons]; omega
  · rw [sz]; omega
  · rw [sz]; omega
  · rw [sz]; omega
  · rw [sz]; omega
theorem s_call (tA : gA σz 203 = A) (tB : gA σz 204 = B) (rt : gA σ 253 (gI σ 250) = t) (rp : gA σ 254 (gI σ 250) = p) (rq : gA σ 255 (gI σ 250) = q) (he : 0 ≤ e ∧ e < 60) (wa : 0 ≤ A e ∧ A e < T1) (wb : 0 ≤ B e ∧ B e < T1) (hH1 : H (A e) ≤ d) (hH2 : H (B e) ≤ d) (hN1 : Nd (A e) ≤ L.length) (hN2 : Nd (B e) ≤ L.length) (hL : ED lo n L) (hk : GK H Nd T1 lo n G) (hs : (G.length : Int) ≤ SZ Z G) (ht : lo ≤ t ∧ t < lo + n) (hp : lo ≤ p ∧ p < lo + n) (hq : lo ≤ q ∧ q < lo + n) (b1 : n + 5 * (SZ Z G + z) ≤ 602) (b2 : f + (SZ Z G + z) ≤ 120) (b3 : 0 ≤ c ∧ c + 2 * (SZ Z G + z) ≤ 240) (za : 1 ≤ Z (A e)) (zb : 1 ≤ Z (B e)) (hz : z = Z (A e) + Z (B e) + 1) (h : MJ σz lo n0 T0 σ n c f G L b (fun v => (∃ x a m, tre x ∧ tre a ∧ tre m ∧ HT K A B C d (A e) (EV v L) (fnT x (v p) (v t) a) m (v q) ∧ HT K A B C d (B e) (EV v L) x a m) ∧ GS K A B C G v)) : SO K A B C H Z Nd T1 σz lo n0 T0 (SZ Z G + z) (f10_solveTwo N σ 4 e b) := by
  have hn0 : 0 ≤ n := h.2.1.1.2.2.2
  have h250 : gI σ 250 = G.length := h.2.2.1
  unfold f10_solveTwo
  rw [rt, rp, rq, h250, ck_t (show (0 : Int) ≤ G.length ∧ (G.length : Int) < 130 by omega), ck_t (show (0 : Int) ≤ G.length ∧ (G.length : Int) < 130 by omega), ck_t (show (0 : Int) ≤ G.length ∧ (G.length : Int) < 130 by omega)]
  obtain ⟨σ1, e1, h1⟩ := Mx1 (by omega) (MJ_conv h (fun v => cv_call hk hL ht hp hq hn0))
  rw [e1, bd_s, if_pos rfl]
  obtain ⟨σ2, e2, h2⟩ := Mx1 (by omega) h1
  rw [e2, bd_s]
  obtain ⟨σ3, e3, h3⟩ := Mx1 (by omega) h2
  rw [e3, bd_s, ck_t he]
  obtain ⟨σ4, e4, h4⟩ := Mx2 (by omega) (by omega) (by omega) (by omega) (by omega) h3
  rw [e4, bd_s, MJ_tab h3 (by decide) tA]
  obtain ⟨σ5, e5, h5⟩ := MJ_goal (by omega) d (A e) (lo + (n + 1 + 1 + 1)) (lo + n) q h4
  rw [e5, bd_s, ck_t he, MJ_tab h5 (by decide) tB]
  obtain ⟨σ6, e6, h6⟩ := MJ_goal (by rw [List.length_cons]; omega) d (B e) (lo + (n + 1)) (lo + (n + 1 + 1)) (lo + n) h5
  rw [e6, bd_s]
  have sz : SZ Z ((d, B e, L, lo + (n + 1), lo + (n + 1 + 1), lo + n) :: (d, A e, L, lo + (n + 1 + 1 + 1), lo + n, q) :: G) = Z (B e) + (Z (A e) + SZ Z G) := rfl
  refine ⟨σ6, n + 1 + 1 + 1 + 1, c, f + 1, _, _, _, rfl, h6, ⟨GK1_i wb hH2 hN2 (ED_m hL (by omega)) (by omega) (by omega) (by omega), GK1_i wa hH1 hN1 (ED_m hL (by omega)) (by omega) (by omega) (by omega), GK_m (by omega) G hk⟩, ?_, ?_, ?_, ?_⟩
  · rw [sz]; omega
  · rw [sz]; omega
  · rw [sz]; omega
  · rw [sz]; omega
theorem s_let (tA : gA σz 203 = A) (tB : gA σz 204 = B) (rt : gA σ 253 (gI σ 250) = t) (rp : gA σ 254 (gI σ 250) = p) (rq : gA σ 255 (gI σ 250) = q) (he : 0 ≤ e ∧ e < 60) (wa : 0 ≤ A e ∧ A e < T1) (wb : 0 ≤ B e ∧ B e < T1) (hH1 : H (A e) ≤ d) (hH2 : H (B e) ≤ d) (hN1 : Nd (A e) ≤ L.length) (hN2 : Nd (B e) ≤ L.length + 1) (hL : ED lo n L) (hk : GK H Nd T1 lo n G) (hs : (G.length : Int) ≤ SZ Z G) (ht : lo ≤ t ∧ t < lo + n) (hp : lo ≤ p ∧ p < lo + n) (hq : lo ≤ q ∧ q < lo + n) (b1 : n + 5 * (SZ Z G + z) ≤ 602) (b2 : f + (SZ Z G + z) ≤ 120) (b3 : 0 ≤ c ∧ c + 2 * (SZ Z G + z) ≤ 240) (za : 1 ≤ Z (A e)) (zb : 1 ≤ Z (B e)) (hz : z = Z (A e) + Z (B e) + 1) (h : MJ σz lo n0 T0 σ n c f G L b (fun v => (∃ x m, tre x ∧ tre m ∧ HT K A B C d (A e) (EV v L) x m (v q) ∧ HT K A B C d (B e) ((x, none) :: EV v L) (v t) (v p) m) ∧ GS K A B C G v)) : SO K A B C H Z Nd T1 σz lo n0 T0 (SZ Z G + z) (f10_solveTwo N σ 8 e b) := by
  have hn0 : 0 ≤ n := h.2.1.1.2.2.2
  have h250 : gI σ 250 = G.length := h.2.2.1
  unfold f10_solveTwo
  rw [rt, rp, rq, h250, ck_t (show (0 : Int) ≤ G.length ∧ (G.length : Int) < 130 by omega), ck_t (show (0 : Int) ≤ G.length ∧ (G.length : Int) < 130 by omega), ck_t (show (0 : Int) ≤ G.length ∧ (G.length : Int) < 130 by omega)]
  obtain ⟨σ1, e1, h1⟩ := Mx1 (by omega) (MJ_conv h (fun v => cv_let hk hL ht hp hq hn0))
  rw [e1, bd_s, if_neg (by decide), if_pos rfl]
  obtain ⟨σ2, e2, h2⟩ := Mx1 (by omega) h1
  rw [e2, bd_s, ck_t he, MJ_tab h2 (by decide) tA]
  obtain ⟨σ5, e5, h5⟩ := MJ_goal (by omega) d (A e) (lo + (n + 1)) (lo + n) q h2
  rw [e5, bd_s, ck_t he]
  obtain ⟨σ7, e7, h7⟩ := MJ_place (by omega) (lo + (n + 1)) (-1) h5
  rw [e7, bd_s, MJ_tab h5 (by decide) tB]
  obtain ⟨σ6, e6, h6⟩ := MJ_goal (by rw [List.length_cons]; omega) d (B e) t p (lo + n) h7
  rw [e6, bd_s]
  have sz : SZ Z ((d, B e, (lo + (n + 1), -1) :: L, t, p, lo + n) :: (d, A e, L, lo + (n + 1), lo + n, q) :: G) = Z (B e) + (Z (A e) + SZ Z G) := rfl
  refine ⟨σ6, n + 1 + 1, c + 1, f, _, _, _, rfl, h6, ⟨GK1_i wb hH2 ?_ (ED_c (ED_m hL (by omega)) (by omega) (Or.inl rfl)) (by omega) (by omega) (by omega), GK1_i wa hH1 hN1 (ED_m hL (by omega)) (by omega) (by omega) (by omega), GK_m (by omega) G hk⟩, ?_, ?_, ?_, ?_⟩
  · rw [List.length_cons]; omega
  · rw [sz]; omega
  · rw [sz]; omega
  · rw [sz]; omega
  · rw [sz]; omega
theorem s_if (tA : gA σz 203 = A) (tB : gA σz 204 = B) (tC : gA σz 205 = C) (rt : gA σ 253 (gI σ 250) = t) (rp : gA σ 254 (gI σ 250) = p) (rq : gA σ 255 (gI σ 250) = q) (he : 0 ≤ e ∧ e < 60) (wa : 0 ≤ A e ∧ A e < T1) (wb : 0 ≤ B e ∧ B e < T1) (wc : 0 ≤ C e ∧ C e < T1) (hH1 : H (A e) ≤ d) (hH2 : H (B e) ≤ d) (hH3 : H (C e) ≤ d) (hN1 : Nd (A e) ≤ L.length) (hN2 : Nd (B e) ≤ L.length) (hN3 : Nd (C e) ≤ L.length) (hL : ED lo n L) (hk : GK H Nd T1 lo n G) (hs : (G.length : Int) ≤ SZ Z G) (ht : lo ≤ t ∧ t < lo + n) (hp : lo ≤ p ∧ p < lo + n) (hq : lo ≤ q ∧ q < lo + n) (b1 : n + 5 * (SZ Z G + z) ≤ 602) (b2 : f + (SZ Z G + z) ≤ 120) (b3 : 0 ≤ c ∧ c + 2 * (SZ Z G + z) ≤ 240) (za : 1 ≤ Z (A e)) (zb : 1 ≤ Z (B e)) (zc : 1 ≤ Z (C e)) (hz : z = Z (A e) + Z (B e) + Z (C e) + 1) (h : MJ σz lo n0 T0 σ n c f G L b (fun v => (∃ m, tre m ∧ HT K A B C d (A e) (EV v L) (leaf 1) m (v q) ∧ HT K A B C d (B e) (EV v L) (v t) (v p) m ∧ HT K A B C d (C e) (EV v L) (v t) (v p) m) ∧ GS K A B C G v)) : SO K A B C H Z Nd T1 σz lo n0 T0 (SZ Z G + z) (f10_solveTwo N σ 7 e b) := by
  have hn0 : 0 ≤ n := h.2.1.1.2.2.2
  have h250 : gI σ 250 = G.length := h.2.2.1
  unfold f10_solveTwo
  rw [rt, rp, rq, h250, ck_t (show (0 : Int) ≤ G.length ∧ (G.length : Int) < 130 by omega), ck_t (show (0 : Int) ≤ G.length ∧ (G.length : Int) < 130 by omega), ck_t (show (0 : Int) ≤ G.length ∧ (G.length : Int) < 130 by omega)]
  obtain ⟨σ1, e1, h1⟩ := Mx1 (by omega) (MJ_conv h (fun v => cv_if hk hL ht hp hq hn0))
  rw [e1, bd_s, if_neg (by decide), if_neg (by decide), if_pos rfl, ck_t he]
  obtain ⟨σ2, e2, h2⟩ := Mx0 (Or.inr rfl) (by omega) h1
  rw [e2, bd_s, MJ_tab h1 (by decide) tA]
  obtain ⟨σ5, e5, h5⟩ := MJ_goal (by omega) d (A e) (lo + (n + 1)) (lo + n) q h2
  rw [e5, bd_s, ck_t he, MJ_tab h5 (by decide) tB]
  obtain ⟨σ6, e6, h6⟩ := MJ_goal (by rw [List.length_cons]; omega) d (B e) t p (lo + n) h5
  rw [e6, bd_s, ck_t he, MJ_tab h6 (by decide) tC]
  obtain ⟨σ7, e7, h7⟩ := MJ_goal (by rw [List.length_cons, List.length_cons]; omega) d (C e) t p (lo + n) h6
  rw [e7, bd_s]
  have sz : SZ Z ((d, C e, L, t, p, lo + n) :: (d, B e, L, t, p, lo + n) :: (d, A e, L, lo + (n + 1), lo + n, q) :: G) = Z (C e) + (Z (B e) + (Z (A e) + SZ Z G)) := rfl
  refine ⟨σ7, n + 1 + 1, c, f, _, _, _, rfl, h7, ⟨GK1_i wc hH3 hN3 (ED_m hL (by omega)) (by omega) (by omega) (by omega), GK1_i wb hH2 hN2 (ED_m hL (by omega)) (by omega) (by omega) (by omega), GK1_i wa hH1 hN1 (ED_m hL (by omega)) (by omega) (by omega) (by omega), GK_m (by omega) G hk⟩, ?_, ?_, ?_, ?_⟩
  · rw [sz]; omega
  · rw [sz]; omega
  · rw [sz]; omega
  · rw [sz]; omega
theorem s_num (hN : 1300 ≤ N) {w k : Int} (hk56 : (k = 5 ∧ w = 0) ∨ (k = 6 ∧ w = 1)) (tA : gA σz 203 = A) (tB : gA σz 204 = B) (rt : gA σ 253 (gI σ 250) = t) (rp : gA σ 254 (gI σ 250) = p) (rq : gA σ 255 (gI σ 250) = q) (he : 0 ≤ e ∧ e < 60) (wa : 0 ≤ A e ∧ A e < T1) (wb : 0 ≤ B e ∧ B e < T1) (hH1 : H (A e) ≤ d) (hH2 : H (B e) ≤ d) (hN1 : Nd (A e) ≤ L.length) (hN2 : Nd (B e) ≤ L.length) (hL : ED lo n L) (hk : GK H Nd T1 lo n G) (hs : (G.length : Int) ≤ SZ Z G) (ht : lo ≤ t ∧ t < lo + n) (hp : lo ≤ p ∧ p < lo + n) (hq : lo ≤ q ∧ q < lo + n) (b1 : n + 5 * (SZ Z G + z) ≤ 602) (b2 : f + (SZ Z G + z) ≤ 120) (b3 : 0 ≤ c ∧ c + 2 * (SZ Z G + z) ≤ 240) (za : 1 ≤ Z (A e)) (zb : 1 ≤ Z (B e)) (hz : z = Z (A e) + Z (B e) + 1) (h : MJ σz lo n0 T0 σ n c f G L b (fun v => (v t = leaf w ∧ ∃ m, tre m ∧ HT K A B C d (A e) (EV v L) (leaf 0) m (v q) ∧ HT K A B C d (B e) (EV v L) (leaf 0) (v p) m) ∧ GS K A B C G v)) : SO K A B C H Z Nd T1 σz lo n0 T0 (SZ Z G + z) (f10_solveTwo N σ k e b) := by
  have hn0 : 0 ≤ n := h.2.1.1.2.2.2
  have h250 : gI σ 250 = G.length := h.2.2.1
  unfold f10_solveTwo
  rw [rt, rp, rq, h250, ck_t (show (0 : Int) ≤ G.length ∧ (G.length : Int) < 130 by omega), ck_t (show (0 : Int) ≤ G.length ∧ (G.length : Int) < 130 by omega), ck_t (show (0 : Int) ≤ G.length ∧ (G.length : Int) < 130 by omega)]
  obtain ⟨σ1, e1, h1⟩ := Mx1 (by omega) (MJ_conv h (fun v => cv_num hk hL ht hp hq hn0))
  have fin : SO K A B C H Z Nd T1 σz lo n0 T0 (SZ Z G + z) (b10_solveTwo_236 N σ1 e b p q (lo + n) t w) := by
    unfold b10_solveTwo_236
    obtain ⟨σ2, e2, h2⟩ := Mx0 (show w = 0 ∨ w = 1 by omega) (by omega) h1
    rw [e2, bd_s]
    obtain ⟨σ3, e3, h3⟩ := MxE hN (by omega) (by omega) (by omega) h2
    rw [e3, bd_s, ck_t he]
    obtain ⟨σ4, e4, h4⟩ := Mx0 (Or.inl rfl) (by omega) h3
    rw [e4, bd_s, MJ_tab h3 (by decide) tA]
    obtain ⟨σ5, e5, h5⟩ := MJ_goal (by omega) d (A e) (lo + (n + 1 + 1)) (lo + n) q h4
    rw [e5, bd_s, ck_t he]
    obtain ⟨σ6, e6, h6⟩ := Mx0 (Or.inl rfl) (by omega) h5
    rw [e6, bd_s, MJ_tab h5 (by decide) tB]
    obtain ⟨σ7, e7, h7⟩ := MJ_goal (by rw [List.length_cons]; omega) d (B e) (lo + (n + 1 + 1 + 1)) p (lo + n) h6
    rw [e7, bd_s]
    have sz : SZ Z ((d, B e, L, lo + (n + 1 + 1 + 1), p, lo + n) :: (d, A e, L, lo + (n + 1 + 1), lo + n, q) :: G) = Z (B e) + (Z (A e) + SZ Z G) := rfl
    refine ⟨σ7, n + 1 + 1 + 1 + 1, c, f, _, _, _, rfl, h7, ⟨GK1_i wb hH2 hN2 (ED_m hL (by omega)) (by omega) (by omega) (by omega), GK1_i wa hH1 hN1 (ED_m hL (by omega)) (by omega) (by omega) (by omega), GK_m (by omega) G hk⟩, ?_, ?_, ?_, ?_⟩
    · rw [sz]; omega
    · rw [sz]; omega
    · rw [sz]; omega
    · rw [sz]; omega
  rcases hk56 with ⟨k5, w0⟩ | ⟨k6, w1⟩
  · rw [e1, bd_s, if_neg (by omega), if_neg (by omega), if_neg (by omega), if_pos k5]
    rw [w0] at fin
    exact fin
  · rw [e1, bd_s, if_neg (by omega), if_neg (by omega), if_neg (by omega), if_neg (by omega)]
    rw [w1] at fin
    exact fin
end
