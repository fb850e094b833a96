/-! ===== one depth for all nodes ===== -/
theorem all_fin {v : Int → Tr} {lo : Int} : ∀ (m : Nat), (∀ k, lo ≤ k → k < lo + m → tre (v k)) → ∃ n0, ∀ k, lo ≤ k → k < lo + m → fin n0 (v k) := by
  intro m
  induction m with
  | zero => intro _; exact ⟨0, fun k h1 h2 => absurd h2 (by omega)⟩
  | succ m ih =>
    intro h
    obtain ⟨n0, h0⟩ := ih (fun k h1 h2 => h k h1 (by omega))
    obtain ⟨-, n1, h1⟩ := h (lo + m) (by omega) (by omega)
    refine ⟨n0 + n1, fun k k1 k2 => ?_⟩
    by_cases e : k = lo + m
    · rw [e]; exact fin_m h1 (by omega)
    · exact fin_m (h0 k k1 (by omega)) (by omega)
theorem MD_fin {lo n : Int} (hn : 0 ≤ n) {F P R : Int → Int} {v : Int → Tr} (h : MD lo n F P R v) : ∃ n0, ∀ k, lo ≤ k → k < lo + n → fin n0 (v k) := by
  obtain ⟨n0, h0⟩ := all_fin (v := v) (lo := lo) n.toNat (fun k h1 h2 => (h k h1 (by omega)).1)
  exact ⟨n0, fun k h1 h2 => h0 k h1 (by omega)⟩
/-- both read the same numbers: T the class's type, U the reference's -/
theorem read_same {T U : Tr} {s s' : Int → Tr} (hT : ∀ p, T p = sb s p U) (hU : ∀ p, U p = sb s' p T) (wT : wel T) (wU : wel U) {a b : Nat} (fa : fin a T) (fb : fin b U) (hN : (ord a T []).Nodup) {m : Nat} {x r r' : Int} (h1 : RD (ord a T []) m T x r) (h2 : RD (ord b U []) m U x r') : r = r' := by
  have sh := same_shape hT hU wT wU
  have hh : ∀ p, (T p < 3 ∧ U p = T p) ∨ (3 ≤ T p ∧ 3 ≤ U p ∧ U p = (fun x => s' (x - 3) []) (T p) ∧ (fun x => ∃ p, T p = x ∧ 3 ≤ x) (T p)) := fun p => by
    rcases sh p.length p (Nat.le_refl _) with q | q
    · exact Or.inl q
    · exact Or.inr ⟨q.1, q.2, same_let hU wT p q.1, p, rfl, q.1⟩
  have inj : ∀ x y, (fun x => ∃ p, T p = x ∧ 3 ≤ x) x → (fun x => ∃ p, T p = x ∧ 3 ≤ x) y → (fun x => s' (x - 3) []) x = (fun x => s' (x - 3) []) y → x = y := fun x y hx hy e => by
    obtain ⟨p, p1, p2⟩ := hx
    obtain ⟨q, q1, q2⟩ := hy
    have ep := same_let hU wT p (by omega)
    have eq := same_let hU wT q (by omega)
    rw [p1] at ep
    rw [q1] at eq
    have e : s' (x - 3) [] = s' (y - 3) [] := e
    have up : 3 ≤ U p := by rcases sh p.length p (Nat.le_refl _) with z | z; omega; exact z.2
    have uq : 3 ≤ U q := by rcases sh q.length q (Nat.le_refl _) with z | z; omega; exact z.2
    have tp := same_let hT wU p up
    have tq := same_let hT wU q uq
    rw [← p1, ← q1, tp, tq, ep, eq, e]
  have o := ord_name (f := fun x => s' (x - 3) []) (a + b) T U (fun x => ∃ p, T p = x ∧ 3 ≤ x) hh inj [] (fun x hx => absurd hx List.not_mem_nil)
  have oa : ord (a + b) T [] = ord a T [] := ord_m a (a + b) T [] fa (by omega)
  have ob : ord (a + b) U [] = ord b U [] := ord_m b (a + b) U [] fb (by omega)
  have o1 : ord (a + b) U [] = (ord (a + b) T []).map (fun x => s' (x - 3) []) := o.1
  rw [oa, ob] at o1
  have o2 := o.2
  rw [oa] at o2
  rw [o1] at h2
  exact RD_name m T U _ _ hh inj o2 hN x r r' h1 h2
