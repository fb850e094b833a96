/-! ===== type and part: class and reference agree ===== -/
theorem KT_fr {S X : List Nat} {σ σ' : Sg} {T : Tr} {W : List Int} (h : fr S X σ σ') (a1 : 23 ∉ S) (b1 : 20 ∉ X) (b2 : 21 ∉ X) (hk : KT σ T W) : KT σ' T W := by
  unfold KT at hk ⊢
  rw [h.1 23 a1, show gA σ' 20 = gA σ 20 from funext fun j => h.2 20 b1 j, show gA σ' 21 = gA σ 21 from funext fun j => h.2 21 b2 j]
  exact hk
theorem KT_nodup {σ : Sg} {T : Tr} {W : List Int} (h : KT σ T W) : W.Nodup := by
  obtain ⟨n, F, P, R, h1, h2, h3⟩ := h
  exact h2.2.2.1
theorem KT_root {σ : Sg} {T : Tr} {W : List Int} (h : KT σ T W) : gI σ 23 ≠ -1 := by
  obtain ⟨n, F, P, R, h1, h2, h3, h4⟩ := h
  omega
theorem v0_lone {F P R : Int → Int} {k : Int} (hF : 0 ≤ F (R k) ∧ F (R k) ≤ 3) (h : 3 ≤ v0 F P R k []) : v0 F P R k = leaf (v0 F P R k []) := by
  have l0 : v0 F P R k [] = if F (R k) = 3 then 3 + R k else F (R k) := rfl
  have f3 : F (R k) = 3 := by
    refine Classical.byContradiction (fun q => ?_)
    rw [l0, if_neg q] at h
    omega
  rw [l0, if_pos f3]
  exact v0_letter f3
/-- the answer for the type itself -/
theorem lb_top {T : Tr} {a : Nat} (hf : fin a T) (ht : tre T) (h1 : 3 ≤ T [] → T = leaf (T [])) {r : Int} (h : lb (ord a T []) (T []) r) : r = if 3 ≤ T [] then 3 else T [] := by
  rcases h with ⟨q1, q2⟩ | ⟨q1, q2, q3⟩
  · rw [if_neg (by omega)]; exact q2
  · rw [if_pos q1]
    cases a with
    | zero => exact absurd (hf [] (Nat.zero_le _)) ht.1
    | succ a =>
      have o : ord (a + 1) T [] = [T []] := by
        have e := h1 q1
        have w := ord_letter a q1 (W := []) List.not_mem_nil
        rw [← e] at w
        exact w
      rw [o] at q3
      have : (r - 3).toNat < 1 := by
        have := (List.getElem?_eq_some_iff.mp q3).1
        exact this
      omega
/-- what stands between the calls, of types -/
def TR (σc σm : Sg) : Prop := (gI σm 239 = 0 ∨ gI σm 239 = 1) ∧ ((gI σc 23 = -1 ∧ gI σm 245 < 0) ∨ (0 ≤ gI σm 245 ∧ ∃ (T U : Tr) (s s' : Int → Tr) (a b : Nat), KT σc T (ord a T []) ∧ fin a T ∧ wel T ∧ KR σm U (ord b U []) ∧ fin b U ∧ wel U ∧ (∀ p, T p = sb s p U) ∧ ∀ p, U p = sb s' p T))
theorem TR_fr {S X S' X' : List Nat} {σc σc' σm σm' : Sg} (hc : fr S X σc σc') (hm : fr S' X' σm σm') (a1 : 23 ∉ S) (b1 : 20 ∉ X) (b2 : 21 ∉ X) (c1 : 239 ∉ S') (c2 : 245 ∉ S') (d1 : 241 ∉ X') (d2 : 242 ∉ X') (d3 : 243 ∉ X') (d4 : 244 ∉ X') (h : TR σc σm) : TR σc' σm' := by
  obtain ⟨h1, h2⟩ := h
  refine ⟨by rw [hm.1 239 c1]; exact h1, ?_⟩
  rw [hc.1 23 a1, hm.1 245 c2]
  rcases h2 with q | ⟨q0, T, U, s, s', a, b, q1, q2, q3, q4, q5, q6, q7, q8⟩
  · exact Or.inl q
  · exact Or.inr ⟨q0, T, U, s, s', a, b, KT_fr hc a1 b1 b2 q1, q2, q3, KR_c q4 (hm.1 239 c1) (hm.1 245 c2) (fun k _ _ => ⟨hm.2 241 d1 k, hm.2 242 d2 k, hm.2 244 d4 k⟩) (fun j _ _ => hm.2 243 d3 j), q5, q6, q7, q8⟩
def TCI : List Nat := [23, 24, 107, 108, 124, 190, 191]
def TCA : List Nat := [20, 21, 22, 100, 101, 102, 103, 104, 105, 106, 122, 123]
theorem type_rel {σc σm : Sg} (hR : RT σc σm) (hT : TI σm) {k : Int} (hC : CR σc σm k) (hk : 0 ≤ k ∧ k ≤ 10000) (hTR : TR σc σm) {N : Nat} (hN : 4000 ≤ N) (t : Int) : ∃ (σc' σm' : Sg) (rc rm : Int), f9_type N σc t = some (σc', rc) ∧ f10_type N σm t = some (σm', rm) ∧ CR σc' σm' (k + 1) ∧ TR σc' σm' ∧ fr TCI TCA σc σc' ∧ fr MTI MTA σm σm' ∧ ((rc = -103 ∧ gI σm' 200 = 1) ∨ (rc = -101 ∧ gI σm' 200 = 2) ∨ (-100 < rc ∧ rc = rm ∧ gI σm' 200 = 0)) := by
  have hn := hT.1
  obtain ⟨r1, r2, r3, r4, r5, r6, r7, r8⟩ := hR
  unfold f9_type
  rw [c_closed (by omega), bd_s, ite_b]
  by_cases cl : (0 ≤ t ∧ t < gI σc 87) ∧ gA σc 84 t = 0
  · rw [if_pos cl]
    have ht : 0 ≤ t ∧ t < gI σm 201 := by omega
    have hn0 : gA σm 208 t = 0 := by rw [← r6]; exact cl.2
    obtain ⟨c1, c2, c3, c4, c5, c6, c7, c8⟩ := id hC
    obtain ⟨σ4, x4, e4, f4, g4⟩ := c_type (K := gA σm 202) (A := gA σm 203) (B := gA σm 204) (C := gA σm 205) (H := gA σm 206) (Z := gA σm 207) (Nd := gA σm 208) (T0 := gI σm 201) hn.2 hT.2 hN (σ := σc) (funext r2) (funext r3) (funext r4) (funext r5) ht (by omega)
    obtain ⟨σ', r', e', f', g'⟩ := m_type hT (N := N) (by omega) hTR.1 ht hn0 ⟨by omega, by omega⟩ ⟨by omega, by omega⟩
    rw [e4, bd_s, e']
    rcases g4 with ⟨w, no⟩ | ⟨w, n, F, P, R, d, J, L, LF, fd⟩
    · rcases g' with ⟨y1, y2, y3, y4, y5, y6, -⟩ | ⟨-, -, -, -, -, T, n0, -, fm, -⟩
      · rw [w, if_pos rfl]
        have z191 : gI σ4 191 = gI σc 191 := f4.1 191 (by decide)
        rw [z191, ck_t (show inR (gI σc 191 + 1) from ⟨by omega, by omega⟩), nx_d]
        have fc : fr TCI TCA σc (sI σ4 191 (gI σc 191 + 1)) := fr_I _ _ (by decide) (fr_m (by decide) (by decide) f4)
        have fk : fr [107, 108, 124, 191] CTA σc (sI σ4 191 (gI σc 191 + 1)) := fr_I _ _ (by decide) (fr_m (by decide) (by decide) f4)
        refine ⟨_, σ', _, r', rfl, rfl, ?_, ⟨by rw [y4]; exact hTR.1, ?_⟩, fc, f', Or.inr (Or.inl ⟨rfl, y1⟩)⟩
        · unfold CR
          rw [fk.1 187 (by decide), fk.1 188 (by decide), fk.1 189 (by decide), fk.1 190 (by decide), fk.1 186 (by decide), fk.1 185 (by decide), fk.1 184 (by decide), f'.1 233 (by decide), f'.1 234 (by decide), f'.1 235 (by decide), f'.1 238 (by decide), f'.1 232 (by decide), f'.1 231 (by decide), f'.1 230 (by decide), y2, y3, gI_sI, if_pos rfl]
          exact ⟨by omega, by omega, by omega, by omega, by omega, by omega, c7, c8⟩
        · rw [fk.1 23 (by decide), y6]
          rcases hTR.2 with q | ⟨q0, T, U, s, s', a, b, q1, q2, q3, q4, q5⟩
          · exact Or.inl q
          · exact Or.inr ⟨q0, T, U, s, s', a, b, KT_fr fk (by decide) (by decide) (by decide) q1, q2, q3, y5 _ _ q4, q5⟩
      · obtain ⟨-, tt, -, -, ⟨u, u1, u2⟩, -⟩ := fm
        exact absurd u2 (no u T u1 tt)
    · obtain ⟨s1, s2, s3, s4, s5, s6, s7, s8⟩ := id fd
      have tr2 := (s6 2 (by decide) (by omega)).1
      have tr3 := (s6 3 (by decide) (by omega)).1
      rcases g' with ⟨-, -, -, -, -, -, no⟩ | ⟨y1, y2, y3, y4, y5, U, b, kr, fm, er⟩
      · exact absurd s7 (no _ _ tr2 tr3)
      · rw [w, if_neg (by decide)]
        have z190 : gI σ4 190 = gI σc 190 := f4.1 190 (by decide)
        rw [z190, ck_t (show inR (gI σc 190 + 1) from ⟨by omega, by omega⟩), nx_d]
        obtain ⟨σ5, hσ5⟩ : ∃ σ5, sI σ4 190 (gI σc 190 + 1) = σ5 := ⟨_, rfl⟩
        rw [hσ5]
        have f5 : fr [190] [] σ4 σ5 := by rw [← hσ5]; exact fr_I _ _ (by decide) (fr_r _)
        obtain ⟨a, ha⟩ := MD_fin (by omega) s6
        have fd5 : FD (gA σm 202) (gA σm 203) (gA σm 204) (gA σm 205) t σ5 n F P R d J L LF := ⟨⟨(f5.1 107 (by decide)).trans s1.1, (funext fun j => f5.2 100 (by decide) j).trans s1.2.1, (funext fun j => f5.2 102 (by decide) j).trans s1.2.2.1, by rw [show gA σ5 101 = gA σ4 101 from funext fun j => f5.2 101 (by decide) j]; exact s1.2.2.2⟩, s2, s3, s4, s5, s6, s7, s8⟩
        obtain ⟨σ6, k1, k2, k3⟩ := c_keep fd5 hN (n0 := a) (fun j j1 j2 => ha j j1 (by omega))
        rw [k1, bd_s]
        obtain ⟨r, p1, p2⟩ := c_at k3 (N := N) (by omega) (x := 0) ⟨by decide, by decide⟩
        rw [p1, bd_s]
        have hl : lb (ord a (v0 F P R 3) []) (v0 F P R 3 []) r := by
          rcases p2 with p2 | p2
          · exact absurd p2.1 (by decide)
          · have := p2.2
            unfold RD at this
            rw [if_pos (Int.le_refl 0)] at this
            exact this
        have fin3 := ha 3 (by decide) (by omega)
        have R3 := (s1.2.2.2.1 3 (by decide) (by omega)).2.1
        have lone : 3 ≤ v0 F P R 3 [] → v0 F P R 3 = leaf (v0 F P R 3 []) := v0_lone (s2 (R 3) R3.1 R3.2).1
        have rv := lb_top fin3 tr3 lone hl
        obtain ⟨m1, m2, m3, m4, ⟨u, u1, u2⟩, m6⟩ := fm
        obtain ⟨s', hs'⟩ := s8 u U u1 m2 u2
        obtain ⟨s, hs⟩ := m6 _ _ tr2 tr3 s7
        have wT : wel (v0 F P R 3) := fun p i => v0_wel p i 3
        have sh := same_shape hs hs' wT m3 0 [] (Nat.le_refl _)
        have req : r = r' := by
          rw [rv, er]
          rcases sh with q | q
          · rw [q.2]
          · rw [if_pos q.1, if_pos q.2]
        have rb : -100 < r := by
          rw [rv]
          have := (s2 (R 3) R3.1 R3.2).1
          have l0 : v0 F P R 3 [] = if F (R 3) = 3 then 3 + R 3 else F (R 3) := rfl
          by_cases z : 3 ≤ v0 F P R 3 []
          · rw [if_pos z]; decide
          · rw [if_neg z, l0]
            split <;> omega
        rw [ck_t rb]
        have f46 : fr [23, 24, 190] [20, 21, 22, 101] σ4 σ6 := fr_t (fr_m (by decide) (by decide) f5) (fr_m (by decide) (by decide) k2)
        have fc : fr TCI TCA σc σ6 := fr_t (fr_m (by decide) (by decide) f4) (fr_m (by decide) (by decide) f46)
        have fk : fr [23, 24, 107, 108, 124, 190] TCA σc σ6 := fr_t (fr_m (by decide) (by decide) f4) (fr_m (by decide) (by decide) f46)
        have g190 : gI σ6 190 = gI σc 190 + 1 := by rw [k2.1 190 (by decide), ← hσ5, gI_sI, if_pos rfl]
        refine ⟨σ6, σ', r, r', rfl, rfl, ?_, ⟨by rw [y4]; have := hTR.1; omega, Or.inr ⟨y5, v0 F P R 3, U, s, s', a, b, k3, fin3, wT, kr, m1, m3, hs, hs'⟩⟩, fc, f', Or.inr (Or.inr ⟨rb, req, y1⟩)⟩
        unfold CR
        rw [fk.1 187 (by decide), fk.1 188 (by decide), fk.1 189 (by decide), fk.1 191 (by decide), fk.1 186 (by decide), fk.1 185 (by decide), fk.1 184 (by decide), f'.1 233 (by decide), f'.1 234 (by decide), f'.1 235 (by decide), f'.1 238 (by decide), f'.1 232 (by decide), f'.1 231 (by decide), f'.1 230 (by decide), y2, y3, g190]
        exact ⟨by omega, by omega, by omega, by omega, by omega, by omega, c7, c8⟩
  · rw [if_neg cl]
    have g201 : gI (sI σm 200 0) 201 = gI σm 201 := by rw [gI_sI, if_neg (by decide)]
    have em : f10_type N σm t = some (sI (sI σm 200 0) 200 1, 0) := by
      unfold f10_type
      rw [nx_d, m_isTerm (σ := sI σm 200 0) (by rw [g201]; exact TI_in hT), bd_s, ite_b, g201]
      by_cases z : 0 ≤ t ∧ t < gI σm 201
      · have := (hT.2 t z.1 z.2).2.2.2.2.2.2.2
        have nz : gA σm 208 t ≠ 0 := fun q => cl ⟨by omega, by rw [r6]; exact q⟩
        rw [if_pos z, ck_t (show 0 ≤ t ∧ t < 60 by omega), gA_sI, if_neg (by omega)]
        rfl
      · rw [if_neg z]
        rfl
    have fm : fr [200] [] σm (sI (sI σm 200 0) 200 1) := fr_I _ _ (by decide) (fr_I _ _ (by decide) (fr_r _))
    refine ⟨σc, _, -103, 0, rfl, em, CR_m (CR_fr (fr_r (S := []) (T := []) σc) fm (by decide) (by decide) hC) (by omega), TR_fr (fr_r (S := []) (T := []) σc) fm (by decide) (by decide) (by decide) (by decide) (by decide) (by decide) (by decide) (by decide) (by decide) hTR, fr_r _, fr_m (by decide) (by decide) fm, Or.inl ⟨rfl, by rw [gI_sI, if_pos rfl]⟩⟩
theorem part_rel {σc σm : Sg} (hTR : TR σc σm) {N : Nat} (hN : 1300 ≤ N) {x : Int} (hx : inR x) : ∃ r, f9_part N σc x = some (σc, r) ∧ f10_part N σm x = some (sI σm 200 0, r) := by
  have fm : fr [200] [] σm (sI σm 200 0) := fr_I _ _ (by decide) (fr_r _)
  unfold f9_part f10_part
  rw [nx_d, gI_sI, if_neg (show ¬ (245 = 200) by decide)]
  rcases hTR.2 with ⟨q1, q2⟩ | ⟨q0, T, U, s, s', a, b, q1, q2, q3, q4, q5, q6, q7, q8⟩
  · unfold f1_at
    rw [if_pos q1, bd_s, if_pos q2]
    exact ⟨-1, rfl, rfl⟩
  · rw [if_neg (by omega)]
    obtain ⟨r, r1, r2⟩ := c_at q1 (N := N) (by omega) hx
    rw [r1, bd_s]
    refine ⟨r, rfl, ?_⟩
    rcases r2 with ⟨z, r2⟩ | ⟨z, r2⟩
    · rw [if_neg (by omega), r2]
    · rw [if_pos z]
      obtain ⟨lo, n, R, d, J, L, X0, h1, h2, h3, h4, h5, h6, h7, h8⟩ := KR_c (σ' := sI σm 200 0) q4 (fm.1 239 (by decide)) (fm.1 245 (by decide)) (fun k _ _ => ⟨rfl, rfl, rfl⟩) (fun j _ _ => rfl)
      have g245 : gI (sI σm 200 0) 245 = gI σm 245 := fm.1 245 (by decide)
      rw [g245] at h7 h8
      have hlo : 0 ≤ lo ∧ lo + n ≤ 1280 := by
        rcases h1 with y | y
        · rw [y] at h2; omega
        · rw [y] at h2; omega
      have hp : x < (10 : Int) ^ 12 := by
        have e : (10 : Int) ^ 12 = 1000000000000 := by decide
        have := hx.2
        omega
      obtain ⟨r', p1, p2⟩ := m_walk hlo h3.2 rfl rfl h4 h5 h6 hN 12 N (gI σm 245) x (by omega) h7 z hp
      rw [p1]
      rw [← h8] at p2
      rw [read_same q7 q8 q3 q6 q2 q5 (KT_nodup q1) r2 p2]
