/-! ===== the reference's finding of a type ===== -/
theorem US_c {lo n : Int} {S S' R : Int → Int} {d : Int → Nat} {J : Nat} {L : List Int} (h : US lo n S R d J L) (hS : ∀ k, lo ≤ k → k < lo + n → S' k = S k) : US lo n S' R d J L := ⟨fun k h1 h2 => by
  have a := h.1 k h1 h2
  rw [hS k h1 h2, hS (R k) a.2.1.1 a.2.1.2]
  exact a, h.2⟩
/-- what the reference keeps: the tree T of the latest type, its letters in the order W -/
def KR (σ : Sg) (T : Tr) (W : List Int) : Prop := ∃ (lo n : Int) (R : Int → Int) (d : Int → Nat) (J : Nat) (L : List Int) (X0 : Int → Prop), (gI σ 239 = 0 ∨ gI σ 239 = 1) ∧ lo = 640 * gI σ 239 ∧ (0 ≤ n ∧ n ≤ 640) ∧ US lo n (sf (gA σ 242)) R d J L ∧ (∀ k, lo ≤ k → k < lo + n → gA σ 242 k ≠ k) ∧ KM lo n (gA σ 241) (gA σ 243) R (gA σ 244) X0 W ∧ X0 (gI σ 245) ∧ T = v0 (gA σ 241) (gA σ 243) R (gI σ 245)
theorem ul_x {lo n : Int} {F P R lt F' P' : Int → Int} {X0 : Int → Prop} {W : List Int} (hk : KM lo n F P R lt X0 W) (hF : ∀ k, X0 k → F' k = F k) (hP : ∀ k, X0 k → ∀ i, 0 ≤ i → i < 4 → P' (4 * k + i) = P (4 * k + i)) : ∀ (p : List Int) (y : Int), X0 (R y) → ul F' P' R p y = ul F P R p y := by
  intro p
  induction p with
  | nil => intro y hy; unfold ul; rw [hF _ hy]
  | cons i p ih =>
    intro y hy
    unfold ul
    rw [hF _ hy]
    by_cases c : F (R y) = 2 ∧ 0 ≤ i ∧ i < 4
    · rw [if_pos c, if_pos c, hP _ hy i c.2.1 c.2.2]
      exact ih _ ((hk _ hy).2.2.2.2 c.1 i c.2.1 c.2.2).2.1
    · rw [if_neg c, if_neg c]
theorem KR_c {σ σ' : Sg} {T : Tr} {W : List Int} (h : KR σ T W) (e1 : gI σ' 239 = gI σ 239) (e2 : gI σ' 245 = gI σ 245) (hc : ∀ k, 640 * gI σ 239 ≤ k → k < 640 * gI σ 239 + 640 → gA σ' 241 k = gA σ 241 k ∧ gA σ' 242 k = gA σ 242 k ∧ gA σ' 244 k = gA σ 244 k) (hp : ∀ j, 4 * (640 * gI σ 239) ≤ j → j < 4 * (640 * gI σ 239 + 640) → gA σ' 243 j = gA σ 243 j) : KR σ' T W := by
  obtain ⟨lo, n, R, d, J, L, X0, h1, h2, h3, h4, h5, h6, h7, h8⟩ := h
  rw [← h2] at hc hp
  have hF : ∀ k, X0 k → gA σ' 241 k = gA σ 241 k := fun k hk => by
    have q := (h6 k hk).1
    exact (hc k q.1 (by omega)).1
  have hP : ∀ k, X0 k → ∀ i, 0 ≤ i → i < 4 → gA σ' 243 (4 * k + i) = gA σ 243 (4 * k + i) := fun k hk i i1 i2 => by
    have q := (h6 k hk).1
    exact hp _ (by omega) (by omega)
  refine ⟨lo, n, R, d, J, L, X0, by rw [e1]; exact h1, by rw [e1]; exact h2, h3, US_c h4 (fun k k1 k2 => ?_), fun k k1 k2 => ?_, fun k hk => ?_, by rw [e2]; exact h7, ?_⟩
  · unfold sf
    rw [(hc k k1 (by omega)).2.1]
  · rw [(hc k k1 (by omega)).2.1]
    exact h5 k k1 k2
  · obtain ⟨a1, a2, a3, a4, a5⟩ := h6 k hk
    rw [hF k hk, (hc k a1.1 (by omega)).2.2]
    refine ⟨a1, a2, a3, a4, fun z i i1 i2 => ?_⟩
    rw [hP k hk i i1 i2]
    exact a5 z i i1 i2
  · rw [h8, e2]
    funext p
    refine (ul_x h6 hF hP p _ ?_).symm
    rw [(h6 _ h7).2.1]
    exact h7
theorem m_lett {σ : Sg} {lo n : Int} {R : Int → Int} {LF : List Int} (h : MS σ lo n R LF) (hn : n < 640) : ∃ (σ' : Sg) (R' : Int → Int), f10_letterCell σ = some (σ', lo + n) ∧ fr [240] [241, 242] σ σ' ∧ OB lo σ σ' ∧ MS σ' lo (n + 1) R' LF ∧ ∀ v, (MM σ' lo (n + 1) R' v ↔ MM σ lo n R v ∧ tre (v (lo + n))) := by
  obtain ⟨σ', e1, e2, e3, e4, e5⟩ := m_cell h.1 h.2.1 h.2.2.1 ⟨h.2.2.2.1.1, hn⟩ 3
  obtain ⟨σ2, R', q1, q2, q3, q4⟩ := m_new h hn (f := 3) (by omega)
  have e : σ2 = σ' := (Prod.mk.inj (Option.some.inj (q1.symm.trans e1))).1
  rw [e] at q3 q4
  have h0 := h.2.2.2.1
  unfold f10_letterCell
  rw [e1, bd_s]
  refine ⟨σ', R', rfl, e5, ⟨fun k hk => ⟨by rw [e3, if_neg (by omega)], by rw [e4, if_neg (by omega)]⟩, fun j _ => e5.2 243 (by decide) j⟩, q3, fun v => ?_⟩
  rw [q4 v]
  exact ⟨fun q => ⟨q.1, q.2.1⟩, fun q => ⟨q.1, q.2, fun z => absurd z (by decide), fun z => absurd z (by decide)⟩⟩
/-- the letters of a type that was found -/
theorem m_letters {σ : Sg} {lo n : Int} {R : Int → Int} {LF : List Int} (h : MS σ lo n R LF) (hLF : LF.length ≤ 120) {N : Nat} (hN : 1300 ≤ N) (hv : MM σ lo n R (v0 (gA σ 241) (gA σ 243) R)) {q : Int} (hq : lo ≤ q ∧ q < lo + n) {n0 : Nat} (hf : ∀ k, lo ≤ k → k < lo + n → fin n0 (v0 (gA σ 241) (gA σ 243) R k)) : ∃ (σ' : Sg) (X0 : Int → Prop), f10_numberLetters N σ q = some (σ', 0) ∧ fr [] [244, 247, 249] σ σ' ∧ KM lo n (gA σ 241) (gA σ 243) R (gA σ' 244) X0 (ord n0 (v0 (gA σ 241) (gA σ 243) R q) []) ∧ X0 (R q) := by
  have hl := MS_lo h
  obtain ⟨h1, h2, h3, h4, d, J, L, u1, u2, u3, u4⟩ := h
  have hR : ∀ k, lo ≤ k → k < lo + n → (lo ≤ R k ∧ R k < lo + n) ∧ R (R k) = R k := fun k k1 k2 => ⟨(u1.1 k k1 k2).2.1, US_RR u1 k1 k2⟩
  have hb2 : 0 ≤ gI σ 239 ∧ gI σ 239 ≤ 1 := by omega
  unfold f10_numberLetters
  rw [ck_t (show inR (1 - gI σ 239) from ⟨by omega, by omega⟩), ← h2, ck_t (show inR lo from ⟨by omega, by omega⟩)]
  obtain ⟨σ1, a1, a2, a3, a4⟩ := n_clear (N := N) (x1 := q) hl.2 N σ lo h3 (Int.le_refl _) (by omega) (by omega)
  rw [a1]
  obtain ⟨σ2, hσ2⟩ : ∃ σ2, sA σ1 247 0 q = σ2 := ⟨_, rfl⟩
  rw [hσ2]
  have f2 : fr [] [247, 249] σ σ2 := by rw [← hσ2]; exact fr_A _ _ _ (by decide) (fr_m (by decide) (by decide) a2)
  have e241 : gA σ2 241 = gA σ 241 := funext fun j => f2.2 241 (by decide) j
  have e242 : gA σ2 242 = gA σ 242 := funext fun j => f2.2 242 (by decide) j
  have e243 : gA σ2 243 = gA σ 243 := funext fun j => f2.2 243 (by decide) j
  have c249 : ∀ k, lo ≤ k → k < lo + n → gA σ2 249 k = 0 := fun k k1 k2 => by
    rw [← hσ2, gA_sA, if_neg (by decide)]
    exact a3 k k1 k2
  have c247 : stk (gA σ2 247) 1 = [q] := by
    show gA σ2 247 ((0 : Nat) : Int) :: [] = [q]
    rw [← hσ2, gA_sA, if_pos rfl, if_pos (show ((0 : Nat) : Int) = 0 from rfl)]
  obtain ⟨σ3, q1, q2, q3, q4⟩ := m_numbers (N := N) hl.2 h4 hN u2 hR hv hf (Wf := ord n0 (v0 (gA σ 241) (gA σ 243) R q) []) N σ2 1 [] LF e241 e243 (by rw [e242]; exact u1) (by rw [e242]; exact u4) (by
    rw [c247]
    exact ⟨rfl, fun k hk => absurd (c249 k hk.1 hk.2.1) hk.2.2⟩) (by
    rw [c247]
    refine ⟨fun k k1 k2 hk => absurd (c249 k k1 k2) hk, fun x hx => absurd hx List.not_mem_nil, List.nodup_nil, fun x hx => ?_⟩
    rw [List.mem_singleton.mp hx]
    exact hq) (fun k k1 k2 hf' hk _ => u3 k k1 k2 hf' hk) (by rw [List.length_nil]; omega) (by omega)
  have q1' : b10_numberLetters_51 N N σ2 (0 + 1) 0 = some (σ3, 0) := q1
  rw [q1']
  refine ⟨σ3, fun k => (lo ≤ k ∧ k < lo + n) ∧ gA σ3 249 k ≠ 0, rfl, fr_t (fr_m (by decide) (by decide) f2) q2, fun k hk => ?_, (hR q hq.1 hq.2).1, ?_⟩
  · obtain ⟨m1, m2⟩ := hk
    obtain ⟨b1, b2, b3⟩ := q3.1 k m1.1 m1.2 m2
    obtain ⟨c1, c2, c3, c4⟩ := u2 k m1.1 m1.2
    refine ⟨m1, b1, c1, b2, fun z i i1 i2 => ?_⟩
    have pi := (c4 z).2.1 i i1 i2
    have rr := hR _ pi.1 pi.2
    refine ⟨pi, ⟨rr.1, ?_⟩, rr.2⟩
    rcases b3 z i i1 i2 with w | ⟨x, hx, -⟩
    · exact w
    · exact absurd hx List.not_mem_nil
  · refine q4 (R q) (hR q hq.1 hq.2).1.1 (hR q hq.1 hq.2).1.2 (Or.inr ⟨q, ?_, rfl⟩)
    rw [c247]
    exact List.mem_cons_self
def MTI : List Nat := [200, 236, 237, 239, 240, 245, 246, 250, 256]
def MTA : List Nat := [241, 242, 243, 244, 247, 248, 249, 251, 252, 253, 254, 255, 257, 258, 259]
/-- a type was found: T, the most general one -/
def FM (K A B C : Int → Int) (e : Int) (T : Tr) (n0 : Nat) : Prop := fin n0 T ∧ tre T ∧ wel T ∧ (3 ≤ T [] → T = leaf (T [])) ∧ (∃ t, tre t ∧ HT K A B C 10 e [] t t T) ∧ ∀ t q, tre t → tre q → HT K A B C 10 e [] t t q → ∃ s, ∀ p, q p = sb s p T
theorem m_type {σ : Sg} (hT : TI σ) {N : Nat} (hN : 1300 ≤ N) (hb : gI σ 239 = 0 ∨ gI σ 239 = 1) {e : Int} (he : 0 ≤ e ∧ e < gI σ 201) (hn0 : gA σ 208 e = 0) (i1 : inR (gI σ 236 + 1)) (i2 : inR (gI σ 237 + 1)) : ∃ σ' r, f10_type N σ e = some (σ', r) ∧ fr MTI MTA σ σ' ∧ ((gI σ' 200 = 2 ∧ gI σ' 237 = gI σ 237 + 1 ∧ gI σ' 236 = gI σ 236 ∧ gI σ' 239 = gI σ 239 ∧ (∀ T W, KR σ T W → KR σ' T W) ∧ gI σ' 245 = gI σ 245 ∧ ∀ t q, tre t → tre q → ¬ HT (gA σ 202) (gA σ 203) (gA σ 204) (gA σ 205) 10 e [] t t q) ∨ (gI σ' 200 = 0 ∧ gI σ' 236 = gI σ 236 + 1 ∧ gI σ' 237 = gI σ 237 ∧ gI σ' 239 = 1 - gI σ 239 ∧ 0 ≤ gI σ' 245 ∧ ∃ (T : Tr) (n0 : Nat), KR σ' T (ord n0 T []) ∧ FM (gA σ 202) (gA σ 203) (gA σ 204) (gA σ 205) e T n0 ∧ r = if 3 ≤ T [] then 3 else T [])) := by
  obtain ⟨hT1, hTT⟩ := hT
  obtain ⟨lo, hlo⟩ : ∃ lo, 640 * (1 - gI σ 239) = lo := ⟨_, rfl⟩
  have hlo2 : (lo = 0 ∨ lo = 640) ∧ (gI σ 239 = 0 → lo = 640) ∧ (gI σ 239 = 1 → lo = 0) := by
    rcases hb with q | q
    · rw [q] at hlo; omega
    · rw [q] at hlo; omega
  unfold f10_type
  rw [nx_d, m_isTerm (σ := sI σ 200 0) (by rw [gI_sI, if_neg (by decide)]; exact ⟨by omega, by omega⟩), bd_s, ite_b, gI_sI, if_neg (show ¬ (201 = 200) by decide), if_pos he, ck_t (show 0 ≤ e ∧ e < 60 by omega), gA_sI, hn0, if_pos (Int.le_refl 0), nx_d, nx_d, nx_d, ck01, nx_d]
  obtain ⟨σ4, hσ4⟩ : ∃ σ4, sI (sI (sI (sI (sI σ 200 0) 240 0) 250 0) 256 0) 246 0 = σ4 := ⟨_, rfl⟩
  rw [hσ4]
  have f4 : fr [200, 240, 246, 250, 256] [] σ σ4 := by rw [← hσ4]; exact fr_I _ _ (by decide) (fr_I _ _ (by decide) (fr_I _ _ (by decide) (fr_I _ _ (by decide) (fr_I _ _ (by decide) (fr_r _)))))
  have z240 : gI σ4 240 = 0 := by rw [← hσ4]; simp only [gI_sI, Nat.reduceEqDiff, reduceIte]
  have z246 : gI σ4 246 = 0 := by rw [← hσ4]; simp only [gI_sI, Nat.reduceEqDiff, reduceIte]
  have z250 : gI σ4 250 = 0 := by rw [← hσ4]; simp only [gI_sI, Nat.reduceEqDiff, reduceIte]
  have z256 : gI σ4 256 = 0 := by rw [← hσ4]; simp only [gI_sI, Nat.reduceEqDiff, reduceIte]
  have z200 : gI σ4 200 = 0 := by rw [← hσ4]; simp only [gI_sI, Nat.reduceEqDiff, reduceIte]
  have z239 : gI σ4 239 = gI σ 239 := f4.1 239 (by decide)
  have ms4 : MS σ4 lo 0 (fun k => k) [] := ⟨by rw [z239]; exact hb, by rw [z239]; exact hlo.symm, z240, by omega, fun _ => 0, 0, [], ⟨fun k k1 k2 => absurd k2 (by omega), by decide⟩, fun k k1 k2 => absurd k2 (by omega), fun k k1 k2 => absurd k2 (by omega), fun k k1 k2 => absurd k2 (by omega)⟩
  obtain ⟨σ5, R5, l1, l2, l3, l4, l5⟩ := m_lett ms4 (by decide)
  rw [l1, bd_s]
  obtain ⟨σ6, R6, k1, k2, k3, k4, k5⟩ := m_lett l4 (by decide)
  rw [k1, bd_s]
  have f46 : fr [240] [241, 242] σ4 σ6 := fr_t l2 k2
  have ob46 : OB lo σ4 σ6 := OB_t l3 k3
  obtain ⟨T0, hT0⟩ : ∃ T0 : (Int → Tr) → Prop, T0 = fun v => (tre (v (lo + 0)) ∧ tre (v (lo + (0 + 1)))) ∧ HT (gA σ 202) (gA σ 203) (gA σ 204) (gA σ 205) 10 e [] (v (lo + 0)) (v (lo + 0)) (v (lo + (0 + 1))) := ⟨_, rfl⟩
  have m6 : ∀ v, MM σ6 lo (0 + 1 + 1) R6 v ↔ tre (v (lo + 0)) ∧ tre (v (lo + (0 + 1))) := fun v => by
    rw [k5 v, l5 v]
    exact ⟨fun q => ⟨q.1.2, q.2⟩, fun q => ⟨⟨fun k k1 k2 => absurd k2 (by omega), q.1⟩, q.2⟩⟩
  have J6 : JJ lo 2 T0 σ6 (0 + 1 + 1) 0 (GS (gA σ 202) (gA σ 203) (gA σ 204) (gA σ 205) [(10, e, [], lo + 0, lo + 0, lo + (0 + 1))]) := by
    refine ⟨⟨k4.1, k4.2.1, k4.2.2.1, by decide⟩, by decide, Or.inl ⟨(f46.1 246 (by decide)).trans z246, R6, [], k4, Int.le_refl _, fun v hv ht => ?_, fun v hv => ⟨v, fun _ _ _ => rfl, ?_, ?_⟩⟩⟩
    · rw [hT0]
      exact ⟨(m6 v).mp hv, ht.1⟩
    · rw [hT0] at hv
      exact (m6 v).mpr hv.1
    · rw [hT0] at hv
      exact ⟨hv.2, trivial⟩
  have M6 : MJ σ4 lo 2 T0 σ6 (0 + 1 + 1) 0 0 [] [] 0 (GS (gA σ 202) (gA σ 203) (gA σ 204) (gA σ 205) [(10, e, [], lo + 0, lo + 0, lo + (0 + 1))]) := ⟨⟨fr_m (by decide) (by decide) f46, ob46⟩, J6, (f46.1 250 (by decide)).trans z250, (f46.1 256 (by decide)).trans z256, trivial, trivial⟩
  obtain ⟨σ7, g1, g2⟩ := MJ_goal (by decide) 10 e (lo + 0) (lo + 0) (lo + (0 + 1)) M6
  rw [g1, bd_s]
  have tTT := hTT e he.1 he.2
  have hZe := tTT.2.2.2.2.2.2.1
  have hHe := tTT.2.2.2.2.2.1
  have t4 : ∀ k, gA σ4 k = gA σ k := fun k => funext fun j => f4.2 k List.not_mem_nil j
  obtain ⟨σ8, n8, f8, w1, w2, w3, w4, w5⟩ := m_goals (K := gA σ 202) (A := gA σ 203) (B := gA σ 204) (C := gA σ 205) (H := gA σ 206) (Z := gA σ 207) (Nd := gA σ 208) (T1 := gI σ 201) (N := N) hT1.2 hTT hN hlo2.1 (t4 202) (t4 203) (t4 204) (t4 205) (x := lo + (0 + 1)) N σ7 (0 + 1 + 1) 0 0 _ [] 0 g2 ⟨GK1_i he (by omega) (by rw [hn0]; decide) (fun x hx => absurd hx List.not_mem_nil) (by omega) (by omega) (by omega), trivial⟩ (by show (0 : Int) + 1 + 1 + 5 * (gA σ 207 e + 0) ≤ 602; omega) (by show (0 : Int) + (gA σ 207 e + 0) ≤ 120; omega) (by show (0 : Int) ≤ 0 ∧ (0 : Int) + 2 * (gA σ 207 e + 0) ≤ 240; omega) (by show gA σ 207 e + 0 < (N : Int); omega)
  rw [w1]
  clear g1 g2 w1 M6 J6 m6 k5 l5 k4 l4 k1 l1 ms4
  -- what the goals' end says
  obtain ⟨⟨j1, j2, j3, j4⟩, j5, j6⟩ := w5
  have f8' : fr MTI MTA σ σ8 := fr_t (fr_m (by decide) (by decide) f4) (fr_m (by decide) (by decide) w2.1)
  have e239 : gI σ8 239 = gI σ 239 := (w2.1.1 239 (by decide)).trans z239
  have e200 : gI σ8 200 = 0 := (w2.1.1 200 (by decide)).trans z200
  have e236 : gI σ8 236 = gI σ 236 := (w2.1.1 236 (by decide)).trans (f4.1 236 (by decide))
  have e237 : gI σ8 237 = gI σ 237 := (w2.1.1 237 (by decide)).trans (f4.1 237 (by decide))
  have e245 : gI σ8 245 = gI σ 245 := (w2.1.1 245 (by decide)).trans (f4.1 245 (by decide))
  have e244 : gA σ8 244 = gA σ 244 := (funext fun j => w2.1.2 244 (by decide) j).trans (t4 244)
  have ob8 : OB lo σ σ8 := OB_t (OB_fr f4 (by decide) (by decide) (by decide)) w2.2
  have sol : ∀ t q, tre t → tre q → HT (gA σ 202) (gA σ 203) (gA σ 204) (gA σ 205) 10 e [] t t q → ∃ v, T0 v ∧ v (lo + 0) = t ∧ v (lo + (0 + 1)) = q := fun t q ht hq hh => by
    have a0 : (fun k : Int => if k = lo + 0 then t else q) (lo + 0) = t := if_pos rfl
    have a1 : (fun k : Int => if k = lo + 0 then t else q) (lo + (0 + 1)) = q := if_neg (by omega)
    refine ⟨fun k => if k = lo + 0 then t else q, ?_, a0, a1⟩
    rw [hT0]
    show (tre ((fun k : Int => if k = lo + 0 then t else q) (lo + 0)) ∧ tre ((fun k : Int => if k = lo + 0 then t else q) (lo + (0 + 1)))) ∧ HT _ _ _ _ 10 e [] ((fun k : Int => if k = lo + 0 then t else q) (lo + 0)) ((fun k : Int => if k = lo + 0 then t else q) (lo + 0)) ((fun k : Int => if k = lo + 0 then t else q) (lo + (0 + 1)))
    rw [a0, a1]
    exact ⟨⟨ht, hq⟩, hh⟩
  -- no type
  have fail : ∀ σ9 : Sg, fr [] [249] σ8 σ9 → (∀ v, ¬ T0 v) → ∃ σ' r, b10_type_103 N σ9 (lo + (0 + 1)) = some (σ', r) ∧ fr MTI MTA σ σ' ∧ ((gI σ' 200 = 2 ∧ gI σ' 237 = gI σ 237 + 1 ∧ gI σ' 236 = gI σ 236 ∧ gI σ' 239 = gI σ 239 ∧ (∀ T W, KR σ T W → KR σ' T W) ∧ gI σ' 245 = gI σ 245 ∧ ∀ t q, tre t → tre q → ¬ HT (gA σ 202) (gA σ 203) (gA σ 204) (gA σ 205) 10 e [] t t q) ∨ (gI σ' 200 = 0 ∧ gI σ' 236 = gI σ 236 + 1 ∧ gI σ' 237 = gI σ 237 ∧ gI σ' 239 = 1 - gI σ 239 ∧ 0 ≤ gI σ' 245 ∧ ∃ (T : Tr) (n0 : Nat), KR σ' T (ord n0 T []) ∧ FM (gA σ 202) (gA σ 203) (gA σ 204) (gA σ 205) e T n0 ∧ r = if 3 ≤ T [] then 3 else T [])) := fun σ9 f9 hno => by
    unfold b10_type_103 b10_type_108
    have y237 : gI (sI σ9 246 1) 237 = gI σ 237 := by rw [gI_sI, if_neg (by decide), f9.1 237 List.not_mem_nil, e237]
    rw [ck11, nx_d, gI_sI, if_pos rfl, if_neg (by decide), y237, ck_t i2, nx_d, m_fail, bd_s]
    obtain ⟨σ', hσ'⟩ : ∃ σ', sI (sI (sI σ9 246 1) 237 (gI σ 237 + 1)) 200 2 = σ' := ⟨_, rfl⟩
    rw [hσ']
    have f' : fr [246, 237, 200] [249] σ8 σ' := by rw [← hσ']; exact fr_I _ _ (by decide) (fr_I _ _ (by decide) (fr_I _ _ (by decide) (fr_m (by decide) (by decide) f9)))
    have ob' : OB lo σ σ' := OB_t ob8 (OB_fr f' (by decide) (by decide) (by decide))
    refine ⟨σ', _, rfl, fr_t f8' (fr_m (by decide) (by decide) f'), Or.inl ⟨by rw [← hσ']; simp only [gI_sI, reduceIte], by rw [← hσ']; simp only [gI_sI, Nat.reduceEqDiff, reduceIte], (f'.1 236 (by decide)).trans e236, (f'.1 239 (by decide)).trans e239, fun T W hk => ?_, (f'.1 245 (by decide)).trans e245, fun t q ht hq hh => ?_⟩⟩
    · refine KR_c hk ((f'.1 239 (by decide)).trans e239) ((f'.1 245 (by decide)).trans e245) (fun k q1 q2 => ?_) (fun j q1 q2 => ?_)
      · have o := ob'.1 k (by rcases hb with z | z <;> rw [z] at q1 q2 <;> omega)
        exact ⟨o.1, o.2, by rw [f'.2 244 (by decide), e244]⟩
      · exact ob'.2 j (by rcases hb with z | z <;> rw [z] at q1 q2 <;> omega)
    · obtain ⟨v, v1, -⟩ := sol t q ht hq hh
      exact hno v v1
  unfold b10_type_88
  rcases j6 with ⟨z, R, LF, m1, m2, m3, m4⟩ | ⟨z, m⟩
  · rw [if_pos z]
    obtain ⟨σ9, r9, a1, a2, a3⟩ := m_endless m1 (by omega) hN
    rw [a1, bd_s]
    rcases a3 with ⟨r0, rk, hrk⟩ | ⟨r1, hno⟩
    · rw [r0, if_pos rfl]
      unfold b10_type_108
      rw [ck01, nx_d, gI_sI, if_pos rfl, if_pos rfl]
      have hml := MS_lo m1
      obtain ⟨-, -, -, h4, d, J, L, u1, u2, u3, u4⟩ := id m1
      have hR : ∀ k, lo ≤ k → k < lo + n8 → (lo ≤ R k ∧ R k < lo + n8) ∧ R (R k) = R k := fun k k1 k2 => ⟨(u1.1 k k1 k2).2.1, US_RR u1 k1 k2⟩
      have hv0 : MM σ8 lo n8 R (v0 (gA σ8 241) (gA σ8 243) R) := v0_MD hml.2.1 hR u2 rk hrk
      obtain ⟨n0, hn⟩ := MD_fin h4.1 hv0
      obtain ⟨σ10, hσ10⟩ : ∃ σ10, sI σ9 246 0 = σ10 := ⟨_, rfl⟩
      rw [hσ10]
      have f10 : fr [246] [249] σ8 σ10 := by rw [← hσ10]; exact fr_I _ _ (by decide) (fr_m (by decide) (by decide) a2)
      have t241 : gA σ10 241 = gA σ8 241 := funext fun j => f10.2 241 (by decide) j
      have t242 : gA σ10 242 = gA σ8 242 := funext fun j => f10.2 242 (by decide) j
      have t243 : gA σ10 243 = gA σ8 243 := funext fun j => f10.2 243 (by decide) j
      have ms10 : MS σ10 lo n8 R LF := by
        unfold MS at m1 ⊢
        rw [f10.1 239 (by decide), f10.1 240 (by decide), t241, t242, t243]
        exact m1
      have hq : lo ≤ lo + (0 + 1) ∧ lo + (0 + 1) < lo + n8 := by omega
      obtain ⟨σ11, X0, b1, b2, b3, b4⟩ := m_letters ms10 (by omega) hN (by unfold MM; rw [t241, t243]; exact hv0) hq (n0 := n0) (by rw [t241, t243]; exact hn)
      rw [b1, bd_s]
      rw [t241, t243] at b3
      have f11 : fr [246] [244, 247, 249] σ8 σ11 := fr_t (fr_m (by decide) (by decide) f10) (fr_m (by decide) (by decide) b2)
      have x239 : gI σ11 239 = gI σ 239 := (f11.1 239 (by decide)).trans e239
      have hb2 : 0 ≤ gI σ 239 ∧ gI σ 239 ≤ 1 := by omega
      rw [x239, ck_t (show inR (1 - gI σ 239) from ⟨by omega, by omega⟩), nx_d]
      obtain ⟨σ12, hσ12⟩ : ∃ σ12, sI σ11 239 (1 - gI σ 239) = σ12 := ⟨_, rfl⟩
      rw [hσ12]
      have f12 : fr [246, 239] [244, 247, 249] σ8 σ12 := by rw [← hσ12]; exact fr_I _ _ (by decide) (fr_m (by decide) (by decide) f11)
      have y242 : gA σ12 242 = gA σ8 242 := funext fun j => f12.2 242 (by decide) j
      have dj := US_J u1 hq.1 hq.2
      unfold f10_end
      rw [m_end (lo := lo) (n := n8) hml.2 (by rw [y242]; exact u1) (by rw [y242]; exact u4) N _ hq.1 hq.2 (by omega), bd_s, nx_d]
      have hr := hR _ hq.1 hq.2
      obtain ⟨rt, hrt⟩ : ∃ rt, R (lo + (0 + 1)) = rt := ⟨_, rfl⟩
      rw [hrt] at hr b4 ⊢
      have y236 : gI (sI σ12 245 rt) 236 = gI σ 236 := by rw [gI_sI, if_neg (by decide), f12.1 236 (by decide), e236]
      rw [y236, ck_t i1, nx_d]
      obtain ⟨σ', hσ'⟩ : ∃ σ', sI (sI σ12 245 rt) 236 (gI σ 236 + 1) = σ' := ⟨_, rfl⟩
      rw [hσ']
      have f' : fr [246, 239, 245, 236] [244, 247, 249] σ8 σ' := by rw [← hσ']; exact fr_I _ _ (by decide) (fr_I _ _ (by decide) (fr_m (by decide) (by decide) f12))
      have s245 : gI σ' 245 = rt := by rw [← hσ']; simp only [gI_sI, Nat.reduceEqDiff, reduceIte]
      have s239 : gI σ' 239 = 1 - gI σ 239 := by rw [← hσ', ← hσ12]; simp only [gI_sI, Nat.reduceEqDiff, reduceIte]
      have s236 : gI σ' 236 = gI σ 236 + 1 := by rw [← hσ']; simp only [gI_sI, reduceIte]
      have s241 : gA σ' 241 = gA σ8 241 := funext fun j => f'.2 241 (by decide) j
      have s242 : gA σ' 242 = gA σ8 242 := funext fun j => f'.2 242 (by decide) j
      have s243 : gA σ' 243 = gA σ8 243 := funext fun j => f'.2 243 (by decide) j
      have s244 : gA σ' 244 = gA σ11 244 := by rw [← hσ', ← hσ12]; rfl
      rw [s245, ck_t (show 0 ≤ rt ∧ rt < 1280 by omega), s241]
      have vrt : v0 (gA σ8 241) (gA σ8 243) R (lo + (0 + 1)) = v0 (gA σ8 241) (gA σ8 243) R rt := v0_c (by rw [hrt]; exact hr.2.symm)
      rw [vrt] at b3
      have cF := (u2 rt hr.1.1 hr.1.2).1
      refine ⟨σ', _, rfl, fr_t f8' (fr_m (by decide) (by decide) f'), Or.inr ⟨(f'.1 200 (by decide)).trans e200, s236, (f'.1 237 (by decide)).trans e237, s239, by rw [s245]; omega, v0 (gA σ8 241) (gA σ8 243) R rt, n0, ?_, ⟨hn rt hr.1.1 hr.1.2, (hv0 rt hr.1.1 hr.1.2).1, fun p i => v0_wel p i rt, ?_, ?_, ?_⟩, ?_⟩⟩
      · refine ⟨lo, n8, R, d, J, L, X0, by rw [s239]; omega, by rw [s239]; exact hlo.symm, h4, by rw [s242]; exact u1, by rw [s242]; exact u4, by rw [s241, s243, s244]; exact b3, by rw [s245]; exact b4, by rw [s241, s243, s245]⟩
      · intro h3
        have l0 : v0 (gA σ8 241) (gA σ8 243) R rt [] = if gA σ8 241 (R rt) = 3 then 3 + R rt else gA σ8 241 (R rt) := rfl
        have f3 : gA σ8 241 (R rt) = 3 := by
          refine Classical.byContradiction (fun q => ?_)
          rw [l0, if_neg q, hr.2] at h3
          rw [hr.2] at q
          omega
        rw [l0, if_pos f3]
        exact v0_letter f3
      · have := m3 _ hv0 trivial
        rw [hT0] at this
        refine ⟨v0 (gA σ8 241) (gA σ8 243) R (lo + 0), this.1.1, ?_⟩
        have t2 := this.2
        rw [vrt] at t2
        exact t2
      · intro t q ht hq' hh
        obtain ⟨v, v1, v2, v3⟩ := sol t q ht hq' hh
        obtain ⟨v', x1, x2, -⟩ := m4 v v1
        refine ⟨v', fun p => ?_⟩
        have := v0_most hml.2.1 hR u2 x2 p (lo + (0 + 1)) hq.1 hq.2
        rw [vrt, x1 _ (by omega) (by omega), v3] at this
        exact this
      · show gA σ8 241 rt = if 3 ≤ (if gA σ8 241 (R rt) = 3 then 3 + R rt else gA σ8 241 (R rt)) then 3 else (if gA σ8 241 (R rt) = 3 then 3 + R rt else gA σ8 241 (R rt))
        rw [hr.2]
        by_cases f3 : gA σ8 241 rt = 3
        · rw [if_pos f3, if_pos (by omega)]; exact f3
        · rw [if_neg f3, if_neg (by omega)]
    · rw [r1, if_neg (by decide)]
      refine fail σ9 a2 (fun v hv => ?_)
      obtain ⟨v', -, x2, -⟩ := m4 v hv
      exact hno v' x2
  · rw [if_neg (by rw [z]; decide)]
    exact fail σ8 (fr_r _) m
