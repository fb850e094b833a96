/-! ===== one goal, of any kind; all goals ===== -/
section
variable {K A B C H Z Nd : Int → Int} {T1 : Int} {σz : Sg} {lo n0 : Int} {T0 : (Int → Tr) → Prop} {N : Nat}
theorem s_94 (hN : 1300 ≤ N) {σ : Sg} {n c f : Int} {G : List Go} {L : List (Int × Int)} {b z e t p q k : Int} {T : (Int → Tr) → Prop} (hf : f ≤ 120) (hp : lo ≤ p ∧ p < lo + n) (hq : lo ≤ q ∧ q < lo + n) (h : MJ σz lo n0 T0 σ n c f G L b (fun v => v p = v q ∧ T v)) (next : ∀ σ1, MJ σz lo n0 T0 σ1 n c f G L b T → SO K A B C H Z Nd T1 σz lo n0 T0 z (b10_solve_102 N σ1 e b t p q k)) : SO K A B C H Z Nd T1 σz lo n0 T0 z (b10_solve_94 N σ e b t p q k) := by
  unfold b10_solve_94
  obtain ⟨σ1, e1, h1⟩ := MJ_equal hN hf hp hq h
  rw [e1, bd_s]
  exact next σ1 h1
theorem SO_bd {z : Int} {prog : Option (Sg × Int)} (h : SO K A B C H Z Nd T1 σz lo n0 T0 z prog) : SO K A B C H Z Nd T1 σz lo n0 T0 z (bd prog fun σ9 _ => some (σ9, 0)) := by
  obtain ⟨σ', n', c', f', G', L', b', e, r⟩ := h
  exact ⟨σ', n', c', f', G', L', b', by rw [e, bd_s], r⟩
theorem SO_z {z z' : Int} {prog : Option (Sg × Int)} (h : SO K A B C H Z Nd T1 σz lo n0 T0 z prog) (hz : z = z') : SO K A B C H Z Nd T1 σz lo n0 T0 z' prog := by rw [← hz]; exact h
theorem m_solve (hT1 : T1 ≤ 60) (hT : ∀ t, 0 ≤ t → t < T1 → TT K A B C H Z Nd t) (hN : 1300 ≤ N) (hlo : lo = 0 ∨ lo = 640) (tK : gA σz 202 = K) (tA : gA σz 203 = A) (tB : gA σz 204 = B) (tC : gA σz 205 = C) {σ : Sg} {n c f : Int} {g : Go} {G : List Go} {L0 : List (Int × Int)} {b0 : Int} (h : MJ σz lo n0 T0 σ n c f (g :: G) L0 b0 (GS K A B C (g :: G))) (hk : GK H Nd T1 lo n (g :: G)) (b1 : n + 5 * SZ Z (g :: G) ≤ 602) (b2 : f + SZ Z (g :: G) ≤ 120) (b3 : 0 ≤ c ∧ c + 2 * SZ Z (g :: G) ≤ 240) : SO K A B C H Z Nd T1 σz lo n0 T0 (SZ Z (g :: G)) (f10_solve N σ) := by
  obtain ⟨d0, e, L, t, p, q⟩ := g
  obtain ⟨k1, hk⟩ := hk
  have he : 0 ≤ e ∧ e < T1 := k1.1
  have hH : H e ≤ d0 := k1.2.1
  have hNd : Nd e ≤ L.length := k1.2.2.1
  have hL : ED lo n L := k1.2.2.2.1
  have ht : lo ≤ t ∧ t < lo + n := k1.2.2.2.2.1
  have hp : lo ≤ p ∧ p < lo + n := k1.2.2.2.2.2.1
  have hq : lo ≤ q ∧ q < lo + n := k1.2.2.2.2.2.2
  have sz : SZ Z ((d0, e, L, t, p, q) :: G) = Z e + SZ Z G := rfl
  have sz' : SZ Z ((d0, e, L, t, p, q) :: G) = SZ Z G + Z e := by rw [sz]; omega
  rw [sz'] at b1 b2 b3 ⊢
  have hZ : ∀ t, 0 ≤ t → t < T1 → 1 ≤ Z t := fun t x1 x2 => (hT t x1 x2).2.2.2.2.2.2.1.1
  have hs := SZ_len (Z := Z) hZ G hk
  have hTT := hT e he.1 he.2
  have hHe := hTT.2.2.2.2.2.1
  have hZe := hTT.2.2.2.2.2.2.1
  have hK := hTT.1
  have hz := TT_hz hTT
  have hna := TT_na hTT
  have hnb := TT_nb hTT
  obtain ⟨d, hd⟩ : ∃ d, d0 = d + 1 := ⟨d0 - 1, by omega⟩
  subst hd
  have word : ∀ x, 0 ≤ x → x < e → (0 ≤ x ∧ x < T1) ∧ 1 ≤ Z x := fun x x1 x2 => ⟨⟨x1, by omega⟩, hZ x x1 (by omega)⟩
  obtain ⟨h1, h2, h3, h4, h5, h6⟩ := h
  have hn0 : 0 ≤ n := h2.1.2.2.2
  obtain ⟨g1, g2, g3, g4, g5, g6⟩ := h5
  have h3 : gI σ 250 = (G.length : Int) + 1 := by rw [h3, List.length_cons]; omega
  unfold f10_solve
  rw [h3, show (G.length : Int) + 1 - 1 = G.length by omega, ck_t (show inR (G.length : Int) from ⟨by omega, by omega⟩), nx_d]
  obtain ⟨σ2, hσ2⟩ : ∃ σ2, sI σ 250 (G.length : Int) = σ2 := ⟨_, rfl⟩
  rw [hσ2]
  have z250 : gI σ2 250 = G.length := by rw [← hσ2, gI_sI, if_pos rfl]
  have f2 : fr [250] [] σ σ2 := by rw [← hσ2]; exact fr_I _ _ (by decide) (fr_r _)
  have r251 : gA σ2 251 G.length = e := (f2.2 251 (by decide) _).trans g1
  have r253 : gA σ2 253 G.length = t := (f2.2 253 (by decide) _).trans g3
  have r254 : gA σ2 254 G.length = p := (f2.2 254 (by decide) _).trans g4
  have r255 : gA σ2 255 G.length = q := (f2.2 255 (by decide) _).trans g5
  obtain ⟨b, hb⟩ : ∃ b, gA σ2 252 G.length = b := ⟨_, rfl⟩
  have hE : ∀ (L : List (Int × Int)) (b : Int), EnvM σ c L b → EnvM σ2 c L b := EnvM_c (Int.le_refl _) (fun i _ _ => ⟨f2.2 257 (by decide) i, f2.2 258 (by decide) i, f2.2 259 (by decide) i⟩)
  have M : MJ σz lo n0 T0 σ2 n c f G L b (fun v => HT K A B C (d + 1) e (EV v L) (v t) (v p) (v q) ∧ GS K A B C G v) := by
    refine ⟨⟨fr_t h1.1 (fr_m (by decide) (by decide) f2), OB_t h1.2 (OB_fr f2 (by decide) (by decide) (by decide))⟩, JJ_fr f2 (by decide) (by decide) (by decide) (by decide) (by decide) (by decide) h2, z250, (f2.1 256 (by decide)).trans h4, GL_c hE G (fun i _ _ => ⟨f2.2 251 (by decide) i, f2.2 252 (by decide) i, f2.2 253 (by decide) i, f2.2 254 (by decide) i, f2.2 255 (by decide) i⟩) g6, ?_⟩
    rw [← hb, f2.2 252 (by decide)]
    exact hE L _ g2
  have rt : gA σ2 253 (gI σ2 250) = t := by rw [z250]; exact r253
  have rp : gA σ2 254 (gI σ2 250) = p := by rw [z250]; exact r254
  have rq : gA σ2 255 (gI σ2 250) = q := by rw [z250]; exact r255
  have g0 : (0 : Int) ≤ G.length ∧ (G.length : Int) < 130 := by omega
  rw [z250, r251, r253, r254, r255, hb, MJ_tab M (by decide) tK, ck_t g0, ck_t g0, ck_t g0, ck_t g0, ck_t g0, ck_t (show 0 ≤ e ∧ e < 60 by omega), m_in, bd_s, ite_b]
  clear g1 g2 g3 g4 g5 g6 h6 h2 h1 hE hσ2 f2
  have he60 : 0 ≤ e ∧ e < 60 := by omega
  have hf : f ≤ 120 := by omega
  by_cases k0 : K e = 0
  · rw [if_pos (show 0 ≤ K e ∧ K e ≤ 3 by omega)]
    refine s_94 hN hf hp hq (T := fun v => v t = leaf 0 ∧ GS K A B C G v) (MJ_conv M (fun v => by rw [HT_0 k0]; exact ⟨fun x => ⟨x.1.2, x.1.1, x.2⟩, fun x => ⟨⟨x.2.1, x.1⟩, x.2.2⟩⟩)) (fun σ1 M1 => ?_)
    unfold b10_solve_102
    rw [if_pos k0, if_pos k0]
    exact s_leaf hN (Or.inl rfl) hk hs ht b1 b2 b3 hZe.1 M1
  by_cases k1' : K e = 1
  · rw [if_pos (show 0 ≤ K e ∧ K e ≤ 3 by omega)]
    refine s_94 hN hf hp hq (T := fun v => v t = leaf 1 ∧ GS K A B C G v) (MJ_conv M (fun v => by rw [HT_1 k1']; exact ⟨fun x => ⟨x.1.2, x.1.1, x.2⟩, fun x => ⟨⟨x.2.1, x.1⟩, x.2.2⟩⟩)) (fun σ1 M1 => ?_)
    unfold b10_solve_102
    rw [if_neg k0, if_pos k1', if_neg k0]
    exact s_leaf hN (Or.inr rfl) hk hs ht b1 b2 b3 hZe.1 M1
  by_cases k2 : K e = 2
  · rw [if_pos (show 0 ≤ K e ∧ K e ≤ 3 by omega)]
    have hw : (0 ≤ A e ∧ A e < L.length) ∧ A e ≤ 5 := by
      have x2 := hTT.2.1
      have x5 := hTT.2.2.2.2.1
      unfold nT at x5
      rw [if_pos k2] at x5
      omega
    refine s_94 hN hf hp hq (T := fun v => VT (EV v L) (A e) (v t) ∧ GS K A B C G v) (MJ_conv M (fun v => by rw [HT_2 k2]; exact ⟨fun x => ⟨x.1.2, x.1.1, x.2⟩, fun x => ⟨⟨x.2.1, x.1⟩, x.2.2⟩⟩)) (fun σ1 M1 => ?_)
    unfold b10_solve_102
    rw [if_neg k0, if_neg k1', if_pos k2, ck_t he60, MJ_tab M1 (by decide) tA]
    exact SO_bd (s_var hN hw.1 hw.2 hL hk hs ht b1 b2 b3 hZe.1 M1)
  have wa := hz.1 (by omega)
  have wa' := word _ wa.1.1 wa.1.2
  by_cases k3 : K e = 3
  · rw [if_pos (show 0 ≤ K e ∧ K e ≤ 3 by omega)]
    have na := hna.2.1 (Or.inl k3)
    refine s_94 hN hf hp hq (T := fun v => (∃ x b g a, tre x ∧ tre b ∧ tre g ∧ tre a ∧ v t = fnT x b g a ∧ HT K A B C d (A e) ((x, none) :: EV v L) g b a) ∧ GS K A B C G v) (MJ_conv M (fun v => by rw [HT_3 k3, and_assoc])) (fun σ1 M1 => ?_)
    unfold b10_solve_102
    rw [if_neg k0, if_neg k1', if_neg k2, if_pos k3, k3]
    exact SO_bd (s_fun hN tA he60 wa'.1 (by omega) (by omega) hL hk hs ht b1 b2 b3 wa'.2 (hz.2.2.2.1 (by omega)) M1)
  rw [if_neg (show ¬ (0 ≤ K e ∧ K e ≤ 3) by omega)]
  by_cases k11 : K e = 11
  · rw [if_pos k11]
    have na := hna.2.2 k11
    refine s_94 hN hf hp hq (T := fun v => (∃ x b g a, tre x ∧ tre b ∧ tre g ∧ tre a ∧ v t = fnT x b g a ∧ HT K A B C d (A e) ((x, none) :: (fnT x b g a, none) :: EV v L) g b a) ∧ GS K A B C G v) (MJ_conv M (fun v => by rw [HT_11 k11, and_assoc])) (fun σ1 M1 => ?_)
    unfold b10_solve_102
    rw [k11]
    simp only [reduceIte, show ¬ ((11 : Int) = 0) by decide, show ¬ ((11 : Int) = 1) by decide, show ¬ ((11 : Int) = 2) by decide, show ¬ ((11 : Int) = 3) by decide, show ¬ ((11 : Int) = 4) by decide, show ¬ ((11 : Int) = 5) by decide, show ¬ ((11 : Int) = 6) by decide, show ¬ ((11 : Int) = 7) by decide, show ¬ ((11 : Int) = 8) by decide, show ¬ ((11 : Int) = 9) by decide, show ¬ ((11 : Int) = 10) by decide]
    exact SO_bd (s_fix hN tA he60 wa'.1 (by omega) (by omega) hL hk hs ht b1 b2 b3 wa'.2 (hz.2.2.2.1 (by omega)) M1)
  rw [if_neg k11]
  by_cases k9 : K e = 9
  · rw [if_pos k9]
    have na := hna.1 (by omega)
    refine s_94 hN hf hp hq (T := fun v => (∃ m, tre m ∧ HT K A B C d (A e) (EV v L) m m (v t)) ∧ GS K A B C G v) (MJ_conv M (fun v => by rw [HT_9 k9, and_assoc])) (fun σ1 M1 => ?_)
    unfold b10_solve_102
    rw [if_neg k0, if_neg k1', if_neg k2, if_neg k3, if_neg (by omega), if_neg (by omega), if_neg (by omega), if_neg (by omega), if_neg (by omega), if_pos k9]
    exact s_mark tA he60 wa'.1 (by omega) (by omega) hL hk hs ht b1 b2 b3 wa'.2 (hz.2.2.2.1 (by omega)) M1
  rw [if_neg k9]
  unfold b10_solve_102
  rw [if_neg k0, if_neg k1', if_neg k2, if_neg k3]
  by_cases k10 : K e = 10
  · have na := hna.2.1 (Or.inr k10)
    rw [if_neg (by omega), if_neg (by omega), if_neg (by omega), if_neg (by omega), if_neg (by omega), if_neg k9, if_pos k10]
    exact s_take (d := d) hlo tA he60 wa'.1 (by omega) (by omega) hL hk hs ht hp hq b1 b2 b3 wa'.2 (hz.2.2.2.1 (by omega)) (MJ_conv M (fun v => by rw [HT_10 k10]))
  have wb := hz.2.1 (by omega)
  have wb' := word _ wb.1.1 wb.1.2
  have na := hna.1 (by omega)
  by_cases k4 : K e = 4
  · have nb := hnb.1 (by omega)
    rw [if_pos k4, k4]
    exact SO_bd (s_call (d := d) tA tB rt rp rq he60 wa'.1 wb'.1 (by omega) (by omega) (by omega) (by omega) hL hk hs ht hp hq b1 b2 b3 wa'.2 wb'.2 (hz.2.2.2.2.1 (by omega)) (MJ_conv M (fun v => by rw [HT_4 k4])))
  rw [if_neg k4]
  by_cases k5 : K e = 5
  · have nb := hnb.1 (by omega)
    rw [if_pos k5]
    exact SO_bd (s_num (d := d) hN (Or.inl ⟨k5, rfl⟩) tA tB rt rp rq he60 wa'.1 wb'.1 (by omega) (by omega) (by omega) (by omega) hL hk hs ht hp hq b1 b2 b3 wa'.2 wb'.2 (hz.2.2.2.2.1 (by omega)) (MJ_conv M (fun v => by rw [HT_5 k5])))
  rw [if_neg k5]
  by_cases k6 : K e = 6
  · have nb := hnb.1 (by omega)
    rw [if_pos k6]
    exact SO_bd (s_num (d := d) hN (Or.inr ⟨k6, rfl⟩) tA tB rt rp rq he60 wa'.1 wb'.1 (by omega) (by omega) (by omega) (by omega) hL hk hs ht hp hq b1 b2 b3 wa'.2 wb'.2 (hz.2.2.2.2.1 (by omega)) (MJ_conv M (fun v => by rw [HT_6 k6])))
  rw [if_neg k6]
  by_cases k7 : K e = 7
  · have nb := hnb.1 (by omega)
    have nc := hnb.2.2 k7
    have wc := hz.2.2.1 k7
    have wc' := word _ wc.1.1 wc.1.2
    rw [if_pos k7, k7]
    exact SO_bd (s_if (d := d) tA tB tC rt rp rq he60 wa'.1 wb'.1 wc'.1 (by omega) (by omega) (by omega) (by omega) (by omega) (by omega) hL hk hs ht hp hq b1 b2 b3 wa'.2 wb'.2 wc'.2 (hz.2.2.2.2.2 k7) (MJ_conv M (fun v => by rw [HT_7 k7])))
  have k8 : K e = 8 := by omega
  have nb := hnb.2.1 k8
  rw [if_neg k7, if_pos k8, k8]
  exact SO_bd (s_let (d := d) tA tB rt rp rq he60 wa'.1 wb'.1 (by omega) (by omega) (by omega) (by omega) hL hk hs ht hp hq b1 b2 b3 wa'.2 wb'.2 (hz.2.2.2.2.1 (by omega)) (MJ_conv M (fun v => by rw [HT_8 k8])))
/-- all goals -/
theorem m_goals (hT1 : T1 ≤ 60) (hT : ∀ t, 0 ≤ t → t < T1 → TT K A B C H Z Nd t) (hN : 1300 ≤ N) (hlo : lo = 0 ∨ lo = 640) (tK : gA σz 202 = K) (tA : gA σz 203 = A) (tB : gA σz 204 = B) (tC : gA σz 205 = C) {x : Int} : ∀ (M : Nat) (σ : Sg) (n c f : Int) (G : List Go) (L0 : List (Int × Int)) (b0 : Int), MJ σz lo n0 T0 σ n c f G L0 b0 (GS K A B C G) → GK H Nd T1 lo n G → n + 5 * SZ Z G ≤ 602 → f + SZ Z G ≤ 120 → (0 ≤ c ∧ c + 2 * SZ Z G ≤ 240) → SZ Z G < M → ∃ (σ' : Sg) (n' f' : Int), b10_type_67 N M σ x = b10_type_88 N σ' x ∧ (fr MYI MYA σz σ' ∧ OB lo σz σ') ∧ n' ≤ 602 ∧ f' ≤ 120 ∧ JJ lo n0 T0 σ' n' f' (fun _ => True) := by
  have hZ : ∀ t, 0 ≤ t → t < T1 → 1 ≤ Z t := fun t x1 x2 => (hT t x1 x2).2.2.2.2.2.2.1.1
  intro M
  induction M with
  | zero =>
    intro σ n c f G L0 b0 _ h2 _ _ _ h6
    have := SZ_len (Z := Z) hZ G h2
    exact absurd h6 (by omega)
  | succ M ih =>
    intro σ n c f G L0 b0 h1 h2 h3 h4 h5 h6
    have hs := SZ_len (Z := Z) hZ G h2
    unfold b10_type_67
    have bad : gI σ 246 = 1 → JJ lo n0 T0 σ n f (fun _ => True) := fun z => by
      obtain ⟨j1, j2, j3⟩ := h1.2.1
      refine ⟨j1, j2, Or.inr ⟨z, ?_⟩⟩
      rcases j3 with ⟨w, -⟩ | ⟨-, w⟩
      · exact absurd (w.symm.trans z) (by decide)
      · exact w
    cases G with
    | nil =>
      have e : gI σ 250 = 0 := h1.2.2.1
      rw [e, if_pos (by decide)]
      have s0 : SZ Z ([] : List Go) = 0 := rfl
      rw [s0] at h3 h4
      exact ⟨σ, n, f, rfl, h1.1, by omega, by omega, JJ_conv h1.2.1 (fun v => ⟨fun _ => trivial, fun _ => trivial⟩) (Int.le_refl _)⟩
    | cons g G =>
      have e : gI σ 250 = (G.length : Int) + 1 := by rw [h1.2.2.1, List.length_cons]; omega
      rw [e, if_neg (by omega)]
      by_cases z : gI σ 246 = 0
      · rw [if_pos z]
        obtain ⟨σ', n', c', f', G', L', b', q1, q2, q3, q4, q5, q6, q7⟩ := m_solve hT1 hT hN hlo tK tA tB tC h1 h2 h3 h4 h5
        rw [q1, bd_s]
        exact ih σ' n' c' f' G' L' b' q2 q3 q4 q5 q6 (by omega)
      · rw [if_neg z]
        have z1 : gI σ 246 = 1 := by
          rcases h1.2.1.2.2 with ⟨w, -⟩ | ⟨w, -⟩
          · exact absurd w z
          · exact w
        exact ⟨σ, n, f, rfl, h1.1, by omega, by omega, bad z1⟩
end
