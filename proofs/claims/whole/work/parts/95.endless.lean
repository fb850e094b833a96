/-! ===== endless, as a whole ===== -/
def EN (lo n : Int) (F P R S : Int → Int) (rk : Int → Nat) (c : Nat) (NU : List Int) : Prop := ∀ k, lo ≤ k → k < lo + n → (F k ≠ 2 → S k ≠ 0) ∧ (S k ≠ 0 → F k = 2 → ∀ i, 0 ≤ i → i < 4 → S (R (P (4 * k + i))) ≠ 0 ∧ rk (R (P (4 * k + i))) < rk k) ∧ rk k < c ∧ (F k = 2 → R k = k → S k = 0 → k ∈ NU)
def endK (P R D S : Int → Int) (k : Int) : Prop := S k = 0 ∧ D k < 0 ∧ ∀ i, 0 ≤ i → i < 4 → S (R (P (4 * k + i))) ≠ 0
section
variable {lo n : Int} {F P R D : Int → Int} {d : Int → Nat} {J : Nat} {L : List Int} {N : Nat}
theorem D_root (hu : US lo n (sf D) R d J L) (hs : ∀ k, lo ≤ k → k < lo + n → D k ≠ k) {k : Int} (h1 : lo ≤ k) (h2 : k < lo + n) : D k < 0 ↔ R k = k := by
  obtain ⟨a1, a2, a3, a4, a5, a6, a7, a8⟩ := hu.1 k h1 h2
  refine ⟨fun q => a5 (if_pos q), fun q => ?_⟩
  rw [q] at a4
  unfold sf at a4
  by_cases z : D k < 0
  · exact z
  · rw [if_neg z] at a4
    exact absurd a4 (hs k h1 h2)
theorem EN_mark {S S' : Int → Int} {rk : Int → Nat} {c : Nat} {NU : List Int} (h : EN lo n F P R S rk c NU) (hR : ∀ k, lo ≤ k → k < lo + n → lo ≤ R k ∧ R k < lo + n) (hP : ∀ k, lo ≤ k → k < lo + n → F k = 2 → ∀ i, 0 ≤ i → i < 4 → lo ≤ P (4 * k + i) ∧ P (4 * k + i) < lo + n) {k : Int} (h1 : lo ≤ k) (h2 : k < lo + n) (hRk : R k = k) (hS0 : S k = 0) (he : ∀ i, 0 ≤ i → i < 4 → S (R (P (4 * k + i))) ≠ 0) (hS : ∀ j, S' j = if j = k then 1 else S j) : EN lo n F P R S' (fun j => if j = k then c else rk j) (c + 1) (NU.erase k) ∧ k ∈ NU := by
  have hF : F k = 2 := Classical.byContradiction (fun q => (h k h1 h2).1 q hS0)
  refine ⟨fun j j1 j2 => ?_, (h k h1 h2).2.2.2 hF hRk hS0⟩
  obtain ⟨a1, a2, a3, a4⟩ := h j j1 j2
  refine ⟨fun q => ?_, fun q f2 i i1 i2 => ?_, ?_, fun f2 r0 s0 => ?_⟩
  · rw [hS]
    by_cases z : j = k
    · rw [if_pos z]; decide
    · rw [if_neg z]; exact a1 q
  · have inn := hP j j1 j2 f2 i i1 i2
    have inr := hR _ inn.1 inn.2
    have rkc := (h _ inr.1 inr.2).2.2.1
    obtain ⟨y, hy⟩ : ∃ y, R (P (4 * j + i)) = y := ⟨_, rfl⟩
    by_cases z : j = k
    · have w := he i i1 i2
      rw [← z, hy] at w
      rw [hy] at rkc ⊢
      have yk : y ≠ k := fun e => w (by rw [e]; exact hS0)
      show S' y ≠ 0 ∧ (if y = k then c else rk y) < (if j = k then c else rk j)
      rw [hS, if_neg yk, if_neg yk, if_pos z]
      exact ⟨w, rkc⟩
    · rw [hS, if_neg z] at q
      obtain ⟨w1, w2⟩ := a2 q f2 i i1 i2
      rw [hy] at w1 w2 rkc ⊢
      have yk : y ≠ k := fun e => w1 (by rw [e]; exact hS0)
      show S' y ≠ 0 ∧ (if y = k then c else rk y) < (if j = k then c else rk j)
      rw [hS, if_neg yk, if_neg yk, if_neg z]
      exact ⟨w1, w2⟩
  · show (if j = k then c else rk j) < c + 1
    split
    · omega
    · omega
  · rw [hS] at s0
    by_cases z : j = k
    · rw [if_pos z] at s0; exact absurd s0 (by decide)
    · rw [if_neg z] at s0
      exact (List.mem_erase_of_ne z).mpr (a4 f2 r0 s0)
theorem e_skip {K52 : Sg → Int → Int → Option (Sg × Int)} {K60 : Sg → Int → Int → Int → Option (Sg × Int)} {σ : Sg} {x1 x2 k : Int} : ∀ (M : Nat), 1 ≤ M → b10_endless_98 N K52 K60 M σ x1 x2 k 0 0 = b10_endless_137 N K52 K60 σ x1 x2 k 0 := by
  intro M hM
  cases M with
  | zero => exact absurd hM (by decide)
  | succ M =>
    unfold b10_endless_98
    rw [if_neg (by decide), if_pos rfl]
theorem e_pass {K52 : Sg → Int → Int → Option (Sg × Int)} (hlo : 0 ≤ lo ∧ lo + n ≤ 1280) (hn : n ≤ 640) (hN : 1300 ≤ N) (hu : US lo n (sf D) R d J L) (hs : ∀ k, lo ≤ k → k < lo + n → D k ≠ k) (hP : ∀ k, lo ≤ k → k < lo + n → F k = 2 → ∀ i, 0 ≤ i → i < 4 → lo ≤ P (4 * k + i) ∧ P (4 * k + i) < lo + n) : ∀ (M : Nat) (σ : Sg) (y x : Int) (rk : Int → Nat) (c : Nat) (NU : List Int), gA σ 243 = P → gA σ 242 = D → gI σ 240 = n → EN lo n F P R (gA σ 249) rk c NU → lo ≤ x → x ≤ lo + n → lo + n + 1 ≤ x + M → ∃ (σ' : Sg) (y' : Int) (rk' : Int → Nat) (c' : Nat) (NU' : List Int), b10_endless_60 N K52 M σ lo y x = K52 σ' lo y' ∧ fr [] [249] σ σ' ∧ EN lo n F P R (gA σ' 249) rk' c' NU' ∧ NU'.length ≤ NU.length ∧ (y' ≠ 0 → y ≠ 0 ∨ NU'.length < NU.length) ∧ (y' = 0 → y = 0 ∧ gA σ' 249 = gA σ 249 ∧ ∀ k, x ≤ k → k < lo + n → ¬ endK P R D (gA σ 249) k) := by
  intro M
  induction M with
  | zero => intro σ y x rk c NU _ _ _ _ h5 h6 h7; exact absurd h7 (by omega)
  | succ M ih =>
    intro σ y x rk c NU h1 h2 h3 h4 h5 h6 h7
    unfold b10_endless_60
    rw [h3, ck_t (show inR (lo + n) from ⟨by omega, by omega⟩)]
    by_cases e : lo + n ≤ x
    · rw [if_pos e]
      exact ⟨σ, y, rk, c, NU, rfl, fr_r _, h4, Nat.le_refl _, fun q => Or.inl q, fun q => ⟨q, rfl, fun k k1 k2 => absurd k2 (by omega)⟩⟩
    rw [if_neg e, ck_t (show 0 ≤ x ∧ x < 1280 by omega)]
    -- nothing done here
    have pass : ¬ endK P R D (gA σ 249) x → ∃ (σ' : Sg) (y' : Int) (rk' : Int → Nat) (c' : Nat) (NU' : List Int), b10_endless_137 N K52 (b10_endless_60 N K52 M) σ lo y x 0 = K52 σ' lo y' ∧ fr [] [249] σ σ' ∧ EN lo n F P R (gA σ' 249) rk' c' NU' ∧ NU'.length ≤ NU.length ∧ (y' ≠ 0 → y ≠ 0 ∨ NU'.length < NU.length) ∧ (y' = 0 → y = 0 ∧ gA σ' 249 = gA σ 249 ∧ ∀ k, x ≤ k → k < lo + n → ¬ endK P R D (gA σ 249) k) := fun ne => by
      unfold b10_endless_137
      rw [if_pos rfl]
      unfold b10_endless_151
      rw [ck_t (show inR (x + 1) from ⟨by omega, by omega⟩)]
      obtain ⟨σ', y', rk', c', NU', q1, q2, q3, q4, q5, q6⟩ := ih σ y (x + 1) rk c NU h1 h2 h3 h4 (by omega) (by omega) (by omega)
      refine ⟨σ', y', rk', c', NU', q1, q2, q3, q4, q5, fun w => ?_⟩
      obtain ⟨w1, w2, w3⟩ := q6 w
      refine ⟨w1, w2, fun k k1 k2 => ?_⟩
      by_cases z : k = x
      · rw [z]; exact ne
      · exact w3 k (by omega) k2
    have skip : ¬ endK P R D (gA σ 249) x → ∃ (σ' : Sg) (y' : Int) (rk' : Int → Nat) (c' : Nat) (NU' : List Int), b10_endless_92 N K52 (b10_endless_60 N K52 M) σ lo y x = K52 σ' lo y' ∧ fr [] [249] σ σ' ∧ EN lo n F P R (gA σ' 249) rk' c' NU' ∧ NU'.length ≤ NU.length ∧ (y' ≠ 0 → y ≠ 0 ∨ NU'.length < NU.length) ∧ (y' = 0 → y = 0 ∧ gA σ' 249 = gA σ 249 ∧ ∀ k, x ≤ k → k < lo + n → ¬ endK P R D (gA σ 249) k) := fun ne => by
      unfold b10_endless_92 b10_endless_93
      rw [e_skip N (by omega)]
      exact pass ne
    by_cases s0 : gA σ 249 x = 0
    · rw [if_pos s0, ck_t (show 0 ≤ x ∧ x < 1280 by omega), h2]
      by_cases t0 : 0 ≤ D x
      · rw [if_pos t0]
        exact skip (fun q => absurd q.2.1 (by omega))
      · rw [if_neg t0]
        have hF : F x = 2 := Classical.byContradiction (fun q => (h4 x h5 (by omega)).1 q s0)
        have hRx := (D_root hu hs h5 (by omega)).mp (by omega)
        unfold b10_endless_93
        obtain ⟨z, z1, z2, z3⟩ := e_inner (K52 := K52) (K60 := b10_endless_60 N K52 M) (x1 := lo) (x2 := y) (k := x) hlo hn hN h1 (by rw [h2]; exact hu) (by rw [h2]; exact hs) ⟨h5, by omega⟩ (hP x h5 (by omega) hF) N 1 0 (by omega) (by omega) (by omega)
        rw [z1]
        by_cases zz : z = 0
        · rw [zz]
          exact pass (fun q => z3 (by decide) (fun j j1 j2 => q.2.2 j j1 j2) zz)
        · have all := (z2 zz).2
          unfold b10_endless_137
          rw [if_neg zz, ck11, ck_t (show 0 ≤ x ∧ x < 1280 by omega), nx_d]
          unfold b10_endless_151
          rw [ck_t (show inR (x + 1) from ⟨by omega, by omega⟩)]
          obtain ⟨m1, m2⟩ := EN_mark (S' := gA (sA σ 249 x 1) 249) h4 (fun k k1 k2 => (hu.1 k k1 k2).2.1) hP h5 (by omega) hRx s0 all (fun j => by rw [gA_sA, if_pos rfl])
          have hlen := List.length_erase_of_mem m2
          have hpos := List.length_pos_of_mem m2
          have a243 : gA (sA σ 249 x 1) 243 = P := by rw [← h1]; exact funext fun j => by rw [gA_sA, if_neg (by decide)]
          have a242 : gA (sA σ 249 x 1) 242 = D := by rw [← h2]; exact funext fun j => by rw [gA_sA, if_neg (by decide)]
          obtain ⟨σ', y', rk', c', NU', q1, q2, q3, q4, q5, q6⟩ := ih (sA σ 249 x 1) 1 (x + 1) _ _ _ a243 a242 h3 m1 (by omega) (by omega) (by omega)
          exact ⟨σ', y', rk', c', NU', q1, fr_t (fr_A _ _ _ (by decide) (fr_r _)) q2, q3, by omega, fun _ => Or.inr (by omega), fun w => absurd (q6 w).1 (by decide)⟩
    · rw [if_neg s0]
      exact skip (fun q => s0 q.1)
theorem e_rounds (hlo : 0 ≤ lo ∧ lo + n ≤ 1280) (hn : 0 ≤ n ∧ n ≤ 640) (hN : 1300 ≤ N) (hu : US lo n (sf D) R d J L) (hs : ∀ k, lo ≤ k → k < lo + n → D k ≠ k) (hP : ∀ k, lo ≤ k → k < lo + n → F k = 2 → ∀ i, 0 ≤ i → i < 4 → lo ≤ P (4 * k + i) ∧ P (4 * k + i) < lo + n) : ∀ (M : Nat) (σ : Sg) (y : Int) (rk : Int → Nat) (c : Nat) (NU : List Int), gA σ 243 = P → gA σ 242 = D → gI σ 240 = n → EN lo n F P R (gA σ 249) rk c NU → (y = 0 → ∀ k, lo ≤ k → k < lo + n → ¬ endK P R D (gA σ 249) k) → (y = 0 ∧ 1 ≤ M ∨ NU.length + 2 ≤ M) → ∃ (σ' : Sg) (rk' : Int → Nat) (c' : Nat) (NU' : List Int), b10_endless_52 N M σ lo y = b10_endless_165 N N σ' lo 0 lo ∧ fr [] [249] σ σ' ∧ EN lo n F P R (gA σ' 249) rk' c' NU' ∧ ∀ k, lo ≤ k → k < lo + n → ¬ endK P R D (gA σ' 249) k := by
  intro M
  induction M with
  | zero => intro σ y rk c NU _ _ _ _ _ h6; exact absurd h6 (by omega)
  | succ M ih =>
    intro σ y rk c NU h1 h2 h3 h4 h5 h6
    unfold b10_endless_52
    by_cases y0 : y = 0
    · rw [if_pos y0]
      exact ⟨σ, rk, c, NU, rfl, fr_r _, h4, h5 y0⟩
    rw [if_neg y0]
    obtain ⟨σ1, y1, rk1, c1, NU1, q1, q2, q3, q4, q5, q6⟩ := e_pass (K52 := b10_endless_52 N M) hlo hn.2 hN hu hs hP N σ 0 lo rk c NU h1 h2 h3 h4 (Int.le_refl _) (by omega) (by omega)
    rw [q1]
    have a243 : gA σ1 243 = P := (funext fun j => q2.2 243 (by decide) j).trans h1
    have a242 : gA σ1 242 = D := (funext fun j => q2.2 242 (by decide) j).trans h2
    obtain ⟨σ2, rk2, c2, NU2, w1, w2, w3, w4⟩ := ih σ1 y1 rk1 c1 NU1 a243 a242 ((q2.1 240 List.not_mem_nil).trans h3) q3 (fun z => by rw [(q6 z).2.1]; exact (q6 z).2.2) (by
      by_cases z : y1 = 0
      · left; exact ⟨z, by omega⟩
      · right
        rcases q5 z with w | w
        · exact absurd rfl w
        · omega)
    exact ⟨σ2, rk2, c2, NU2, w1, fr_t q2 w2, w3, w4⟩
end
theorem m_endless {σ : Sg} {lo n : Int} {R : Int → Int} {LF : List Int} (h : MS σ lo n R LF) (hLF : LF.length ≤ 120) {N : Nat} (hN : 1300 ≤ N) : ∃ σ' r, f10_endless N σ = some (σ', r) ∧ fr [] [249] σ σ' ∧ ((r = 0 ∧ ∃ rk : Int → Nat, ∀ k, lo ≤ k → k < lo + n → R k = k → gA σ 241 k = 2 → ∀ i, 0 ≤ i → i < 4 → rk (R (gA σ 243 (4 * k + i))) < rk k) ∨ (r = 1 ∧ ∀ v, ¬ MM σ lo n R v)) := by
  have hl := MS_lo h
  obtain ⟨h1, h2, h3, h4, d, J, L, u1, u2, u3, u4⟩ := h
  have hP : ∀ k, lo ≤ k → k < lo + n → gA σ 241 k = 2 → ∀ i, 0 ≤ i → i < 4 → lo ≤ gA σ 243 (4 * k + i) ∧ gA σ 243 (4 * k + i) < lo + n := fun k k1 k2 hk => ((u2 k k1 k2).2.2.2 hk).2.1
  have hb2 : 0 ≤ gI σ 239 ∧ gI σ 239 ≤ 1 := by omega
  unfold f10_endless
  rw [ck_t (show inR (1 - gI σ 239) from ⟨by omega, by omega⟩), ← h2, ck_t (show inR lo from ⟨by omega, by omega⟩)]
  obtain ⟨σ1, a1, a2, a3, a4⟩ := e_init (N := N) hl.2 N σ lo h3 (Int.le_refl _) (by omega) (by omega)
  rw [a1]
  have en : EN lo n (gA σ 241) (gA σ 243) R (gA σ1 249) (fun _ => 0) 1 LF := fun k k1 k2 => by
    rw [a3 k k1 k2]
    refine ⟨fun q => by rw [if_neg q]; decide, fun q f2 => absurd (if_pos f2) q, Nat.zero_lt_one, fun f2 r0 _ => u3 k k1 k2 f2 r0⟩
  obtain ⟨σ2, rk, c, NU, w1, w2, w3, w4⟩ := e_rounds (N := N) (D := gA σ 242) (F := gA σ 241) (P := gA σ 243) hl.2 h4 hN u1 u4 hP N σ1 1 (fun _ => 0) 1 LF (funext fun j => a2.2 243 (by decide) j) (funext fun j => a2.2 242 (by decide) j) ((a2.1 240 List.not_mem_nil).trans h3) en (fun q => absurd q (by decide)) (by omega)
  rw [w1]
  have f2 : fr [] [249] σ σ2 := fr_t a2 w2
  have e242 : gA σ2 242 = gA σ 242 := funext fun j => f2.2 242 (by decide) j
  obtain ⟨r, q1, q2, q3, q4, q5⟩ := e_last (N := N) (σ := σ2) hl.2 ((f2.1 240 List.not_mem_nil).trans h3) N 0 lo (Or.inl rfl) (Int.le_refl _) (by omega) (by omega)
  refine ⟨σ2, r, q1, f2, ?_⟩
  rw [e242] at q4 q5
  rcases q2 with r0 | r1
  · refine Or.inl ⟨r0, rk, fun k k1 k2 hk hf i i1 i2 => ?_⟩
    have s1 : gA σ2 249 k ≠ 0 := by
      rcases q4 r0 k k1 k2 with z | z
      · exact z
      · have := (D_root u1 u4 k1 k2).mpr hk
        omega
    exact ((w3 k k1 k2).2.1 s1 hf i i1 i2).2
  · refine Or.inr ⟨r1, fun v hv => ?_⟩
    rcases q5 r1 with z | ⟨j, j1, j2, j3, j4⟩
    · exact absurd z (by decide)
    · refine no_model (X := fun k => (lo ≤ k ∧ k < lo + n) ∧ gA σ2 249 k = 0 ∧ gA σ 242 k < 0) (fun k hk => ?_) (k0 := j) ⟨⟨j1, j2⟩, j3, j4⟩ hv
      obtain ⟨⟨k1, k2⟩, k3, k4⟩ := hk
      have hF : gA σ 241 k = 2 := Classical.byContradiction (fun q => (w3 k k1 k2).1 q k3)
      refine ⟨⟨k1, k2⟩, hF, Classical.byContradiction (fun ne => w4 k k1 k2 ⟨k3, k4, fun i i1 i2 => fun s0 => ne ?_⟩)⟩
      have pi := hP k k1 k2 hF i i1 i2
      have rr := (u1.1 _ pi.1 pi.2).2.1
      exact ⟨i, ⟨i1, i2⟩, pi, rr, s0, (D_root u1 u4 rr.1 rr.2).mpr (US_RR u1 pi.1 pi.2)⟩
