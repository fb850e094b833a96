/-! ===== the reference's goals and places ===== -/
abbrev Go : Type := Nat × Int × List (Int × Int) × Int × Int × Int
def EnvM (σ : Sg) (c : Int) : List (Int × Int) → Int → Prop
  | [], _ => True
  | x :: L, b => (1 ≤ b ∧ b ≤ c) ∧ gA σ 257 b = x.1 ∧ gA σ 258 b = x.2 ∧ EnvM σ c L (gA σ 259 b)
def GL (σ : Sg) (c : Int) : List Go → Prop
  | [] => True
  | g :: G => gA σ 251 G.length = g.2.1 ∧ EnvM σ c g.2.2.1 (gA σ 252 G.length) ∧ gA σ 253 G.length = g.2.2.2.1 ∧ gA σ 254 G.length = g.2.2.2.2.1 ∧ gA σ 255 G.length = g.2.2.2.2.2 ∧ GL σ c G
def GS (K A B C : Int → Int) : List Go → (Int → Tr) → Prop
  | [], _ => True
  | g :: G, v => HT K A B C g.1 g.2.1 (EV v g.2.2.1) (v g.2.2.2.1) (v g.2.2.2.2.1) (v g.2.2.2.2.2) ∧ GS K A B C G v
def GK1 (H Nd : Int → Int) (T1 lo n : Int) (g : Go) : Prop := (0 ≤ g.2.1 ∧ g.2.1 < T1) ∧ H g.2.1 ≤ g.1 ∧ Nd g.2.1 ≤ g.2.2.1.length ∧ ED lo n g.2.2.1 ∧ (lo ≤ g.2.2.2.1 ∧ g.2.2.2.1 < lo + n) ∧ (lo ≤ g.2.2.2.2.1 ∧ g.2.2.2.2.1 < lo + n) ∧ (lo ≤ g.2.2.2.2.2 ∧ g.2.2.2.2.2 < lo + n)
def GK (H Nd : Int → Int) (T1 lo n : Int) : List Go → Prop
  | [] => True
  | g :: G => GK1 H Nd T1 lo n g ∧ GK H Nd T1 lo n G
def SZ (Z : Int → Int) : List Go → Int
  | [] => 0
  | g :: G => Z g.2.1 + SZ Z G
theorem GK1_m {H Nd : Int → Int} {T1 lo n m : Int} {g : Go} (h : GK1 H Nd T1 lo n g) (hm : n ≤ m) : GK1 H Nd T1 lo m g := by
  obtain ⟨a, b, c, e, t, p, q⟩ := h
  exact ⟨a, b, c, ED_m e hm, by omega, by omega, by omega⟩
theorem GK_m {H Nd : Int → Int} {T1 lo n m : Int} (hm : n ≤ m) : ∀ (G : List Go), GK H Nd T1 lo n G → GK H Nd T1 lo m G := by
  intro G
  induction G with
  | nil => intro _; trivial
  | cons g G ih => intro h; exact ⟨GK1_m h.1 hm, ih h.2⟩
theorem EV_uv {lo n : Int} {L : List (Int × Int)} (h : ED lo n L) (v : Int → Tr) {m : Int} (hm : lo + n ≤ m) (x : Tr) : EV (uv v m x) L = EV v L := EV_agree h (fun k _ k2 => uv_n (by omega))
theorem GS_uv {K A B C H Nd : Int → Int} {T1 lo n : Int} : ∀ {G : List Go}, GK H Nd T1 lo n G → ∀ (v : Int → Tr) {m : Int}, lo + n ≤ m → ∀ (x : Tr), GS K A B C G (uv v m x) = GS K A B C G v := by
  intro G
  induction G with
  | nil => intro _ v m _ x; rfl
  | cons g G ih =>
    intro h v m hm x
    obtain ⟨⟨a, b, c, e, t, p, q⟩, h2⟩ := h
    show (HT K A B C g.1 g.2.1 (EV (uv v m x) g.2.2.1) (uv v m x g.2.2.2.1) (uv v m x g.2.2.2.2.1) (uv v m x g.2.2.2.2.2) ∧ GS K A B C G (uv v m x)) = (HT K A B C g.1 g.2.1 (EV v g.2.2.1) (v g.2.2.2.1) (v g.2.2.2.2.1) (v g.2.2.2.2.2) ∧ GS K A B C G v)
    rw [ih h2 v hm x, EV_uv e v hm x, uv_n (show g.2.2.2.1 ≠ m by omega), uv_n (show g.2.2.2.2.1 ≠ m by omega), uv_n (show g.2.2.2.2.2 ≠ m by omega)]
theorem SZ_len {Z : Int → Int} {H Nd : Int → Int} {T1 lo n : Int} (hZ : ∀ t, 0 ≤ t → t < T1 → 1 ≤ Z t) : ∀ (G : List Go), GK H Nd T1 lo n G → (G.length : Int) ≤ SZ Z G := by
  intro G
  induction G with
  | nil => intro _; exact Int.le_refl 0
  | cons g G ih =>
    intro h
    have a := ih h.2
    have b := hZ g.2.1 h.1.1.1 h.1.1.2
    show ((G.length + 1 : Nat) : Int) ≤ Z g.2.1 + SZ Z G
    omega
theorem EnvM_c {σ σ' : Sg} {c c' : Int} (hc : c ≤ c') (h : ∀ i : Int, 1 ≤ i → i ≤ c → gA σ' 257 i = gA σ 257 i ∧ gA σ' 258 i = gA σ 258 i ∧ gA σ' 259 i = gA σ 259 i) : ∀ (L : List (Int × Int)) (b : Int), EnvM σ c L b → EnvM σ' c' L b := by
  intro L
  induction L with
  | nil => intro b _; trivial
  | cons x L ih =>
    intro b hb
    obtain ⟨b1, b2, b3, b4⟩ := hb
    obtain ⟨q1, q2, q3⟩ := h b b1.1 b1.2
    refine ⟨⟨b1.1, by omega⟩, q1.trans b2, q2.trans b3, ?_⟩
    rw [q3]
    exact ih _ b4
theorem GL_c {σ σ' : Sg} {c c' : Int} (he : ∀ (L : List (Int × Int)) (b : Int), EnvM σ c L b → EnvM σ' c' L b) : ∀ (G : List Go), (∀ i : Int, 0 ≤ i → i < G.length → gA σ' 251 i = gA σ 251 i ∧ gA σ' 252 i = gA σ 252 i ∧ gA σ' 253 i = gA σ 253 i ∧ gA σ' 254 i = gA σ 254 i ∧ gA σ' 255 i = gA σ 255 i) → GL σ c G → GL σ' c' G := by
  intro G
  induction G with
  | nil => intro _ _; trivial
  | cons g G ih =>
    intro h hG
    obtain ⟨b1, b2, b3, b4, b5, b6⟩ := hG
    have hl : (((g :: G : List Go).length : Nat) : Int) = G.length + 1 := by rw [List.length_cons]; omega
    rw [hl] at h
    obtain ⟨q1, q2, q3, q4, q5⟩ := h G.length (by omega) (by omega)
    refine ⟨q1.trans b1, ?_, q3.trans b3, q4.trans b4, q5.trans b5, ih (fun i i1 i2 => h i i1 (by omega)) b6⟩
    rw [q2]
    exact he _ _ b2
def MYI : List Nat := [240, 246, 250, 256]
def MYA : List Nat := [241, 242, 243, 247, 248, 249, 251, 252, 253, 254, 255, 257, 258, 259]
/-- a state on the way: L is bound at place b -/
def MJ (σz : Sg) (lo n0 : Int) (T0 : (Int → Tr) → Prop) (σ : Sg) (n c f : Int) (G : List Go) (L : List (Int × Int)) (b : Int) (T : (Int → Tr) → Prop) : Prop := (fr MYI MYA σz σ ∧ OB lo σz σ) ∧ JJ lo n0 T0 σ n f T ∧ gI σ 250 = G.length ∧ gI σ 256 = c ∧ GL σ c G ∧ EnvM σ c L b
section
variable {σz : Sg} {lo n0 : Int} {T0 : (Int → Tr) → Prop} {σ : Sg} {n c f : Int} {G : List Go} {L : List (Int × Int)} {b : Int} {T : (Int → Tr) → Prop}
theorem MJ_conv {T' : (Int → Tr) → Prop} (h : MJ σz lo n0 T0 σ n c f G L b T) (hT : ∀ v, T v ↔ T' v) : MJ σz lo n0 T0 σ n c f G L b T' := ⟨h.1, JJ_conv h.2.1 hT (Int.le_refl _), h.2.2⟩
theorem MJ_step {S X : List Nat} {σ' : Sg} {n' f' : Int} {T' : (Int → Tr) → Prop} (h : MJ σz lo n0 T0 σ n c f G L b T) (hf : fr S X σ σ') (s1 : ∀ k ∈ S, k ∈ [240, 246]) (s2 : ∀ k ∈ X, k ∈ [241, 242, 243, 247, 248, 249]) (ob : OB lo σ σ') (hj : JJ lo n0 T0 σ' n' f' T') : MJ σz lo n0 T0 σ' n' c f' G L b T' := by
  have hf' : fr [240, 246] [241, 242, 243, 247, 248, 249] σ σ' := fr_m s1 s2 hf
  obtain ⟨h1, h2, h3, h4, h5, h6⟩ := h
  have he : ∀ (L : List (Int × Int)) (b : Int), EnvM σ c L b → EnvM σ' c L b := EnvM_c (Int.le_refl _) (fun i _ _ => ⟨hf'.2 257 (by decide) i, hf'.2 258 (by decide) i, hf'.2 259 (by decide) i⟩)
  exact ⟨⟨fr_t h1.1 (fr_m (by decide) (by decide) hf'), OB_t h1.2 ob⟩, hj, (hf'.1 250 (by decide)).trans h3, (hf'.1 256 (by decide)).trans h4, GL_c he G (fun i _ _ => ⟨hf'.2 251 (by decide) i, hf'.2 252 (by decide) i, hf'.2 253 (by decide) i, hf'.2 254 (by decide) i, hf'.2 255 (by decide) i⟩) h5, he L b h6⟩
theorem MJ_letter (hn : n < 640) (h : MJ σz lo n0 T0 σ n c f G L b (fun v => ∃ x, tre x ∧ T (uv v (lo + n) x))) : ∃ σ', f10_letterCell σ = some (σ', lo + n) ∧ MJ σz lo n0 T0 σ' (n + 1) c f G L b T := by
  obtain ⟨σ', e1, e2, ob, e3⟩ := JJ_letter hn h.2.1
  exact ⟨σ', e1, MJ_step h e2 (by decide) (by decide) ob e3⟩
theorem MJ_leaf {w : Int} (hw : w = 0 ∨ w = 1) (hn : n < 640) (h : MJ σz lo n0 T0 σ n c f G L b (fun v => T (uv v (lo + n) (leaf w)))) : ∃ σ', f10_cell σ w = some (σ', lo + n) ∧ MJ σz lo n0 T0 σ' (n + 1) c f G L b T := by
  obtain ⟨σ', e1, e2, ob, e3⟩ := JJ_leaf hw hn h.2.1
  exact ⟨σ', e1, MJ_step h e2 (by decide) (by decide) ob e3⟩
theorem MJ_fn (hn : n < 640) {a b' c' e : Int} (ha : lo ≤ a ∧ a < lo + n) (hb : lo ≤ b' ∧ b' < lo + n) (hc : lo ≤ c' ∧ c' < lo + n) (he : lo ≤ e ∧ e < lo + n) (h : MJ σz lo n0 T0 σ n c f G L b (fun v => T (uv v (lo + n) (fnT (v a) (v b') (v c') (v e))))) : ∃ σ', f10_functionCell σ a b' c' e = some (σ', lo + n) ∧ MJ σz lo n0 T0 σ' (n + 1) c (f + 1) G L b T := by
  obtain ⟨σ', e1, e2, ob, e3⟩ := JJ_fn hn ha hb hc he h.2.1
  exact ⟨σ', e1, MJ_step h e2 (by decide) (by decide) ob e3⟩
theorem MJ_equal {N : Nat} (hN : 1300 ≤ N) (hf : f ≤ 120) {a b' : Int} (ha : lo ≤ a ∧ a < lo + n) (hb : lo ≤ b' ∧ b' < lo + n) (h : MJ σz lo n0 T0 σ n c f G L b (fun v => v a = v b' ∧ T v)) : ∃ σ', f10_equal N σ a b' = some (σ', 0) ∧ MJ σz lo n0 T0 σ' n c f G L b T := by
  obtain ⟨σ', e1, e2, ob, e3⟩ := JJ_equal hN hf ha hb h.2.1
  exact ⟨σ', e1, MJ_step h e2 (by decide) (by decide) ob e3⟩
theorem MJ_place (hc : 0 ≤ c ∧ c < 249) (a g : Int) (h : MJ σz lo n0 T0 σ n c f G L b T) : ∃ σ', f10_place σ a g b = some (σ', c + 1) ∧ MJ σz lo n0 T0 σ' n (c + 1) f G ((a, g) :: L) (c + 1) T := by
  obtain ⟨h1, h2, h3, h4, h5, h6⟩ := h
  unfold f10_place
  rw [h4, ck_t (show inR (c + 1) from ⟨by omega, by omega⟩), nx_d]
  have z : gI (sI σ 256 (c + 1)) 256 = c + 1 := by rw [gI_sI, if_pos rfl]
  simp only [gI_sA, z, nx_d]
  rw [ck_t (show 0 ≤ c + 1 ∧ c + 1 < 250 by omega), ck_t (show 0 ≤ c + 1 ∧ c + 1 < 250 by omega), ck_t (show 0 ≤ c + 1 ∧ c + 1 < 250 by omega)]
  obtain ⟨σ', hσ⟩ : ∃ σ', sA (sA (sA (sI σ 256 (c + 1)) 257 (c + 1) a) 258 (c + 1) g) 259 (c + 1) b = σ' := ⟨_, rfl⟩
  rw [hσ]
  have f1 : fr [256] [257, 258, 259] σ σ' := by rw [← hσ]; exact fr_A _ _ _ (by decide) (fr_A _ _ _ (by decide) (fr_A _ _ _ (by decide) (fr_I _ _ (by decide) (fr_r _))))
  have p1 : ∀ i, gA σ' 257 i = if i = c + 1 then a else gA σ 257 i := fun i => by rw [← hσ]; simp only [gA_sI, gA_sA, Nat.reduceEqDiff, reduceIte]
  have p2 : ∀ i, gA σ' 258 i = if i = c + 1 then g else gA σ 258 i := fun i => by rw [← hσ]; simp only [gA_sI, gA_sA, Nat.reduceEqDiff, reduceIte]
  have p3 : ∀ i, gA σ' 259 i = if i = c + 1 then b else gA σ 259 i := fun i => by rw [← hσ]; simp only [gA_sI, gA_sA, Nat.reduceEqDiff, reduceIte]
  have he : ∀ (L : List (Int × Int)) (b : Int), EnvM σ c L b → EnvM σ' (c + 1) L b := EnvM_c (by omega) (fun i _ i2 => ⟨by rw [p1, if_neg (by omega)], by rw [p2, if_neg (by omega)], by rw [p3, if_neg (by omega)]⟩)
  refine ⟨σ', rfl, ⟨fr_t h1.1 (fr_m (by decide) (by decide) f1), OB_t h1.2 (OB_fr f1 (by decide) (by decide) (by decide))⟩, JJ_fr f1 (by decide) (by decide) (by decide) (by decide) (by decide) (by decide) h2, (f1.1 250 (by decide)).trans h3, by rw [← hσ]; exact z, GL_c he G (fun i _ _ => ⟨f1.2 251 (by decide) i, f1.2 252 (by decide) i, f1.2 253 (by decide) i, f1.2 254 (by decide) i, f1.2 255 (by decide) i⟩) h5, ⟨by omega, by omega⟩, by rw [p1, if_pos rfl], by rw [p2, if_pos rfl], ?_⟩
  rw [p3, if_pos rfl]
  exact he L b h6
theorem MJ_goal (hl : (G.length : Int) < 130) (d : Nat) (e t p q : Int) (h : MJ σz lo n0 T0 σ n c f G L b T) : ∃ σ', f10_goal σ e b t p q = some (σ', 0) ∧ MJ σz lo n0 T0 σ' n c f ((d, e, L, t, p, q) :: G) L b T := by
  obtain ⟨h1, h2, h3, h4, h5, h6⟩ := h
  unfold f10_goal
  simp only [gI_sA, h3, nx_d]
  have g0 : (0 : Int) ≤ G.length ∧ (G.length : Int) < 130 := ⟨by omega, hl⟩
  rw [ck_t g0, ck_t g0, ck_t g0, ck_t g0, ck_t g0, ck_t (show inR ((G.length : Int) + 1) from ⟨by omega, by omega⟩)]
  obtain ⟨σ', hσ⟩ : ∃ σ', sI (sA (sA (sA (sA (sA σ 251 G.length e) 252 G.length b) 253 G.length t) 254 G.length p) 255 G.length q) 250 ((G.length : Int) + 1) = σ' := ⟨_, rfl⟩
  rw [hσ]
  have f1 : fr [250] [251, 252, 253, 254, 255] σ σ' := by rw [← hσ]; exact fr_I _ _ (by decide) (fr_A _ _ _ (by decide) (fr_A _ _ _ (by decide) (fr_A _ _ _ (by decide) (fr_A _ _ _ (by decide) (fr_A _ _ _ (by decide) (fr_r _))))))
  have p1 : ∀ i, gA σ' 251 i = if i = (G.length : Int) then e else gA σ 251 i := fun i => by rw [← hσ]; simp only [gA_sI, gA_sA, Nat.reduceEqDiff, reduceIte]
  have p2 : ∀ i, gA σ' 252 i = if i = (G.length : Int) then b else gA σ 252 i := fun i => by rw [← hσ]; simp only [gA_sI, gA_sA, Nat.reduceEqDiff, reduceIte]
  have p3 : ∀ i, gA σ' 253 i = if i = (G.length : Int) then t else gA σ 253 i := fun i => by rw [← hσ]; simp only [gA_sI, gA_sA, Nat.reduceEqDiff, reduceIte]
  have p4 : ∀ i, gA σ' 254 i = if i = (G.length : Int) then p else gA σ 254 i := fun i => by rw [← hσ]; simp only [gA_sI, gA_sA, Nat.reduceEqDiff, reduceIte]
  have p5 : ∀ i, gA σ' 255 i = if i = (G.length : Int) then q else gA σ 255 i := fun i => by rw [← hσ]; simp only [gA_sI, gA_sA, Nat.reduceEqDiff, reduceIte]
  have he : ∀ (L : List (Int × Int)) (b : Int), EnvM σ c L b → EnvM σ' c L b := EnvM_c (Int.le_refl _) (fun i _ _ => ⟨f1.2 257 (by decide) i, f1.2 258 (by decide) i, f1.2 259 (by decide) i⟩)
  refine ⟨σ', rfl, ⟨fr_t h1.1 (fr_m (by decide) (by decide) f1), OB_t h1.2 (OB_fr f1 (by decide) (by decide) (by decide))⟩, JJ_fr f1 (by decide) (by decide) (by decide) (by decide) (by decide) (by decide) h2, ?_, (f1.1 256 (by decide)).trans h4, ⟨by rw [p1, if_pos rfl], ?_, by rw [p3, if_pos rfl], by rw [p4, if_pos rfl], by rw [p5, if_pos rfl], GL_c he G (fun i _ i2 => ⟨by rw [p1, if_neg (by omega)], by rw [p2, if_neg (by omega)], by rw [p3, if_neg (by omega)], by rw [p4, if_neg (by omega)], by rw [p5, if_neg (by omega)]⟩) h5⟩, he L b h6⟩
  · rw [← hσ, gI_sI, if_pos rfl, List.length_cons]; omega
  · rw [p2, if_pos rfl]
    exact he L b h6
theorem MJ_tab (h : MJ σz lo n0 T0 σ n c f G L b T) {k : Nat} (hk : k ∉ MYA) {X : Int → Int} (e : gA σz k = X) : gA σ k = X := (funext fun j => h.1.1.2 k hk j).trans e
end
