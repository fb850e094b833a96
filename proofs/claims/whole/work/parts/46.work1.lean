/-! ===== work: primitives in closed form ===== -/
def aV (σ : Sg) (a b c : Int) : Sg := sI (sA (sA (sA σ 140 (gI σ 143) a) 141 (gI σ 143) b) 142 (gI σ 143) c) 143 (gI σ 143 + 1)
def aS (σ : Sg) (v o : Int) : Sg := sI (sA (sA σ 60 (gI σ 62) v) 61 (gI σ 62) o) 62 (gI σ 62 + 1)
def aW (σ : Sg) (t s h x : Int) : Sg := sI (sA (sA (sA (sA σ 160 (gI σ 164) t) 161 (gI σ 164) s) 162 (gI σ 164) h) 163 (gI σ 164) x) 164 (gI σ 164 + 1)
def aM (σ : Sg) (x : Int) : Sg := sI (sI (sA σ 44 (gI σ 45) (gI σ 46)) 45 (gI σ 45 + 1)) 46 x
def aG (σ : Sg) (t s : Int) : Sg := sI (sI (sI σ 47 t) 48 s) 49 (-1)
def mS (σ : Sg) (k w x : Int) : Sg := sA (sA (sA (sI σ 209 (gI σ 209 + 1)) 210 (gI σ 209 + 1) k) 211 (gI σ 209 + 1) w) 212 (gI σ 209 + 1) x
def mW3 (σ : Sg) (k t b v w : Int) : Sg := sI (sA (sA (sA (sA (sA (sA (sI σ 216 (gI σ 216 + 1)) 217 (gI σ 216 + 1) k) 218 (gI σ 216 + 1) t) 219 (gI σ 216 + 1) b) 220 (gI σ 216 + 1) v) 221 (gI σ 216 + 1) w) 222 (gI σ 216 + 1) (gI σ 225)) 225 (gI σ 216 + 1)
def mF (σ : Sg) (t b : Int) : Sg := sA (sA (sI σ 213 (gI σ 213 + 1)) 214 (gI σ 213 + 1) t) 215 (gI σ 213 + 1) b
def mG (σ : Sg) (k w : Int) : Sg := sI (sI σ 226 k) 227 w
theorem c_aV {σ : Sg} (h : 0 ≤ gI σ 143 ∧ gI σ 143 < 200) (a b c : Int) : f7_add σ a b c = some (aV σ a b c, gI σ 143) := by
  unfold f7_add aV
  simp only [nx_d, gI_sA, gI_sI]
  rw [ck_t h, ck_t h, ck_t h, ck_t (show inR (gI σ 143 + 1) from ⟨by omega, by omega⟩)]
theorem c_aS {σ : Sg} (h : 0 ≤ gI σ 62 ∧ gI σ 62 < 400) (v o : Int) : f3_bind σ v o = some (aS σ v o, gI σ 62) := by
  unfold f3_bind aS
  simp only [nx_d, gI_sA, gI_sI]
  rw [ck_t h, ck_t h, ck_t (show inR (gI σ 62 + 1) from ⟨by omega, by omega⟩)]
theorem c_aW {σ : Sg} (h : 0 ≤ gI σ 164 ∧ gI σ 164 < 200) (t s h1 x : Int) : f8_add σ t s h1 x = some (aW σ t s h1 x, gI σ 164) := by
  unfold f8_add aW
  simp only [nx_d, gI_sA, gI_sI]
  rw [ck_t h, ck_t h, ck_t h, ck_t h, ck_t (show inR (gI σ 164 + 1) from ⟨by omega, by omega⟩)]
theorem c_aM {σ : Sg} (h : 0 ≤ gI σ 45 ∧ gI σ 45 < 200) (x : Int) : f2_enterMark σ x = some (aM σ x, 0) := by
  unfold f2_enterMark aM
  simp only [nx_d, gI_sA, gI_sI]
  rw [ck_t h, ck_t (show inR (gI σ 45 + 1) from ⟨by omega, by omega⟩)]
theorem c_aG (σ : Sg) (t s : Int) : f2_goTo σ t s = some (aG σ t s, 0) := rfl
theorem m_mS {σ : Sg} (h : 0 ≤ gI σ 209 ∧ gI σ 209 < 319) (k w x : Int) : f10_bind σ k w x = some (mS σ k w x, gI σ 209 + 1) := by
  have h2 : 0 ≤ gI σ 209 + 1 ∧ gI σ 209 + 1 < 320 := by omega
  unfold f10_bind mS
  simp only [nx_d, gI_sA, gI_sI, if_true]
  rw [ck_t (show inR (gI σ 209 + 1) from ⟨by omega, by omega⟩), ck_t h2, ck_t h2, ck_t h2]
theorem m_mW3 {σ : Sg} (h : 0 ≤ gI σ 216 ∧ gI σ 216 < 319) (k t b v w : Int) : f10_then σ k t b v w = some (mW3 σ k t b v w, 0) := by
  have h2 : 0 ≤ gI σ 216 + 1 ∧ gI σ 216 + 1 < 320 := by omega
  unfold f10_then mW3
  simp only [nx_d, gI_sA, gI_sI, if_true, Nat.reduceEqDiff, reduceIte]
  rw [ck_t (show inR (gI σ 216 + 1) from ⟨by omega, by omega⟩), ck_t h2, ck_t h2, ck_t h2, ck_t h2, ck_t h2, ck_t h2]
theorem m_mF {σ : Sg} (h : 0 ≤ gI σ 213 ∧ gI σ 213 < 209) (t b : Int) : f10_closure σ t b = some (mF σ t b, gI σ 213 + 1) := by
  have h2 : 0 ≤ gI σ 213 + 1 ∧ gI σ 213 + 1 < 210 := by omega
  unfold f10_closure mF
  simp only [nx_d, gI_sA, gI_sI, if_true]
  rw [ck_t (show inR (gI σ 213 + 1) from ⟨by omega, by omega⟩), ck_t h2, ck_t h2]
theorem m_mG (σ : Sg) (k w : Int) : f10_give σ k w = some (mG σ k w, 0) := rfl
/-! the values: one of the class's table, a kind and a word in the reference -/
def VR (σc σm : Sg) (d : Int → Int) (v k w : Int) : Prop :=
  (0 ≤ v ∧ v < gI σc 143) ∧ gA σc 140 v = k ∧
  (((k = 0 ∨ k = 1) ∧ gA σc 141 v = w) ∨
   (k = 2 ∧ (1 ≤ w ∧ w ≤ gI σm 213) ∧ gA σm 214 w = gA σc 141 v ∧ gA σm 215 w = gA σc 142 v + 1 ∧ (0 ≤ gA σc 141 v ∧ gA σc 141 v < gI σm 201) ∧ (gA σm 202 (gA σc 141 v) = 3 ∨ gA σm 202 (gA σc 141 v) = 11) ∧ (-1 ≤ gA σc 142 v ∧ gA σc 142 v < gI σc 62) ∧ gA σm 208 (gA σc 141 v) ≤ d (gA σc 142 v)) ∨
   (k = 3 ∧ w = gA σc 141 v + 1 ∧ -1 ≤ gA σc 141 v ∧ gA σc 141 v < gI σc 164))
/-- later states hold what earlier ones held -/
def Ext (σc σm : Sg) (d : Int → Int) (σc' σm' : Sg) (d' : Int → Int) : Prop :=
  (gI σc 143 ≤ gI σc' 143 ∧ ∀ v, 0 ≤ v → v < gI σc 143 → gA σc' 140 v = gA σc 140 v ∧ gA σc' 141 v = gA σc 141 v ∧ gA σc' 142 v = gA σc 142 v) ∧
  (gI σm 213 ≤ gI σm' 213 ∧ ∀ w, 1 ≤ w → w ≤ gI σm 213 → gA σm' 214 w = gA σm 214 w ∧ gA σm' 215 w = gA σm 215 w) ∧
  (gI σc 62 ≤ gI σc' 62 ∧ ∀ j, -1 ≤ j → j < gI σc 62 → d' j = d j) ∧ gI σc 164 ≤ gI σc' 164 ∧
  gI σm' 201 = gI σm 201 ∧ (∀ i, gA σm' 202 i = gA σm 202 i) ∧ (∀ i, gA σm' 208 i = gA σm 208 i)
theorem VR_m {σc σm σc' σm' : Sg} {d d' : Int → Int} (h : Ext σc σm d σc' σm' d') {v k w : Int} (hv : VR σc σm d v k w) : VR σc' σm' d' v k w := by
  obtain ⟨⟨x1, x2⟩, ⟨y1, y2⟩, ⟨z1, z2⟩, u1, n1, n2, n3⟩ := h
  obtain ⟨hv0, hk, hc⟩ := hv
  obtain ⟨e0, e1, e2⟩ := x2 v hv0.1 hv0.2
  refine ⟨⟨hv0.1, by omega⟩, by rw [e0]; exact hk, ?_⟩
  rw [e1, e2, n1]
  rcases hc with hc | ⟨a1, a2, a3, a4, a5, a6, a7, a8⟩ | ⟨a1, a2, a3⟩
  · exact Or.inl hc
  · obtain ⟨f1, f2⟩ := y2 w a2.1 a2.2
    refine Or.inr (Or.inl ⟨a1, ⟨a2.1, by omega⟩, by rw [f1]; exact a3, by rw [f2]; exact a4, a5, by rw [n2]; exact a6, ⟨a7.1, by omega⟩, by rw [n3, z2 _ a7.1 a7.2]; exact a8⟩)
  · exact Or.inr (Or.inr ⟨a1, a2, a3.1, by omega⟩)
def TS (σc σm : Sg) (d : Int → Int) : Prop := (gI σm 209 = gI σc 62 ∧ 0 ≤ gI σc 62) ∧ d (-1) = 0 ∧ ∀ j, 0 ≤ j → j < gI σc 62 → VR σc σm d (gA σc 60 j) (gA σm 210 (j + 1)) (gA σm 211 (j + 1)) ∧ gA σm 212 (j + 1) = gA σc 61 j + 1 ∧ (-1 ≤ gA σc 61 j ∧ gA σc 61 j < j) ∧ d j = d (gA σc 61 j) + 1
def TW (σc σm : Sg) (d : Int → Int) : Prop := (gI σm 216 = gI σc 164 ∧ 0 ≤ gI σc 164) ∧ ∀ j, 0 ≤ j → j < gI σc 164 → gA σm 218 (j + 1) = gA σc 160 j ∧ (0 ≤ gA σc 160 j ∧ gA σc 160 j < gI σm 201) ∧ gA σm 217 (j + 1) = gA σm 202 (gA σc 160 j) ∧ (4 ≤ gA σm 202 (gA σc 160 j) ∧ gA σm 202 (gA σc 160 j) ≤ 8) ∧ gA σm 219 (j + 1) = gA σc 161 j + 1 ∧ (-1 ≤ gA σc 161 j ∧ gA σc 161 j < gI σc 62) ∧ gA σm 208 (gA σc 160 j) ≤ d (gA σc 161 j) ∧ gA σm 222 (j + 1) = gA σc 163 j + 1 ∧ (-1 ≤ gA σc 163 j ∧ gA σc 163 j < j) ∧ ((gA σc 162 j = -1 ∧ gA σm 220 (j + 1) = -1) ∨ VR σc σm d (gA σc 162 j) (gA σm 220 (j + 1)) (gA σm 221 (j + 1)))
def TM (σc σm : Sg) : Prop := (gI σm 223 = gI σc 45 ∧ 0 ≤ gI σc 45) ∧ ∀ j, 0 ≤ j → j < gI σc 45 → gA σm 224 j = gA σc 44 j + 1 ∧ (-1 ≤ gA σc 44 j ∧ gA σc 44 j < gI σc 164)
def TB (σc σm : Sg) (d : Int → Int) : Prop := TS σc σm d ∧ TW σc σm d ∧ TM σc σm ∧ 0 ≤ gI σc 143 ∧ 0 ≤ gI σm 213
