/-! ===== worlds side by side ===== -/
section
variable {A A0 : Nat → Prop} {D : va_G} {cl : List vw_C} {ws ws' X Y w1 : va_W} {H H1 : Heap}
theorem wp_perm (h : ws.Perm ws') (hP : va_P D cl ws H) : va_P D cl ws' H := fun k q hk => by
  obtain ⟨i, hi⟩ := List.getElem?_of_mem (h.mem_iff.mpr (List.mem_of_getElem? hk))
  exact hP i q hi
theorem wd_nd (h : va_D A ws) : (ws.map Prod.fst).Nodup := by
  refine List.pairwise_iff_getElem.mpr (fun i j hi hj hij e => ?_)
  rw [List.length_map] at hi hj
  rw [List.getElem_map, List.getElem_map] at e
  have := h.1 i j _ _ (List.getElem?_eq_getElem hi) (List.getElem?_eq_getElem hj) e
  omega
theorem wd_of (h : (ws.map Prod.fst).Nodup) (hA : ∀ q ∈ ws, A q.1) : va_D A ws := by
  have key := List.pairwise_iff_getElem.mp h
  refine ⟨fun i j p q hp hq e => ?_, fun k q hk => hA q (List.mem_of_getElem? hk)⟩
  obtain ⟨hi, ei⟩ := List.getElem?_eq_some_iff.mp hp
  obtain ⟨hj, ej⟩ := List.getElem?_eq_some_iff.mp hq
  refine Classical.byContradiction (fun ne => ?_)
  rcases Nat.lt_or_gt_of_ne ne with lt | lt
  · refine key i j (by rw [List.length_map]; exact hi) (by rw [List.length_map]; exact hj) lt ?_
    rw [List.getElem_map, List.getElem_map, ei, ej]
    exact e
  · refine key j i (by rw [List.length_map]; exact hj) (by rw [List.length_map]; exact hi) lt ?_
    rw [List.getElem_map, List.getElem_map, ei, ej]
    exact e.symm
theorem wd_A (h : va_D A ws) : ∀ q ∈ ws, A q.1 := fun q hq => by
  obtain ⟨i, hi⟩ := List.getElem?_of_mem hq
  exact h.2 i q hi
theorem wd_perm (h : ws.Perm ws') (hD : va_D A ws) : va_D A ws' := wd_of ((h.map Prod.fst).nodup_iff.mp (wd_nd hD)) (fun q hq => wd_A hD q (h.mem_iff.mpr hq))
theorem wp_l (hP : va_P D cl (X ++ Y) H) : va_P D cl X H := fun k q hk => by
  obtain ⟨i, hi⟩ := List.getElem?_of_mem (List.mem_append_left Y (List.mem_of_getElem? hk))
  exact hP i q hi
theorem wp_r (hP : va_P D cl (X ++ Y) H) : va_P D cl Y H := fun k q hk => by
  obtain ⟨i, hi⟩ := List.getElem?_of_mem (List.mem_append_right X (List.mem_of_getElem? hk))
  exact hP i q hi
theorem wd_l (hD : va_D A (X ++ Y)) : va_D A X := by
  have n := wd_nd hD
  rw [List.map_append] at n
  exact wd_of (List.nodup_append.mp n).1 (fun q hq => wd_A hD q (List.mem_append_left Y hq))
theorem wa_in {sz : Nat} {q : Nat × va_E} (h : q ∈ X) : va_A X sz q.1 := by
  obtain ⟨i, hi⟩ := List.getElem?_of_mem h
  exact va_A.in hi
theorem wa_free {H0 : Heap} {locs : List Jvm.Loc} (hD : va_D A0 (X ++ Y)) (hS : va_S A0 H0 H locs) (hA : ∀ q, H0.size ≤ q → A0 q) : ∀ q, va_A X H.size q → A0 q := fun q h => by
  rcases h with ⟨k, e, hk⟩ | h
  · exact wd_A hD (q, e) (List.mem_append_left Y (List.mem_of_getElem? hk))
  · exact hA q (Nat.le_trans hS.1 h)
/-- behind a call of a method with the world X, Y beside it -/
theorem wj (hP : va_P D cl (X ++ Y) H) (hD : va_D A0 (X ++ Y)) (hF : ∀ q, va_A X H.size q → A0 q) (hk : ∀ q : Nat, q < H.size → ¬ va_A X H.size q → H1[q]? = H[q]?) (hP1 : va_P D cl w1 H1) (hD1 : va_D (va_A X H.size) w1) : va_P D cl (w1 ++ Y) H1 ∧ va_D A0 (w1 ++ Y) := by
  have n := wd_nd hD
  rw [List.map_append] at n
  obtain ⟨n1, n2, n3⟩ := List.nodup_append.mp n
  have lt : ∀ q ∈ Y, q.1 < H.size := fun q hq => by
    obtain ⟨i, hi⟩ := List.getElem?_of_mem (List.mem_append_right X hq)
    exact (hP i q hi).lt
  have out : ∀ q ∈ Y, ¬ va_A X H.size q.1 := fun q hq h => by
    rcases h with ⟨k, e, h⟩ | h
    · exact n3 q.1 (List.mem_map.mpr ⟨(q.1, e), List.mem_of_getElem? h, rfl⟩) q.1 (List.mem_map.mpr ⟨q, hq, rfl⟩) rfl
    · exact absurd (lt q hq) (by omega)
  have PY : va_P D cl Y H1 := (wp_r hP).kept (fun k q hq => hk q.1 (lt q (List.mem_of_getElem? hq)) (out q (List.mem_of_getElem? hq)))
  refine ⟨hP1.app PY, wd_of ?_ (fun q hq => ?_)⟩
  · rw [List.map_append]
    refine List.nodup_append.mpr ⟨wd_nd hD1, n2, fun a ha b hb e => ?_⟩
    obtain ⟨p, hp, rfl⟩ := List.mem_map.mp ha
    obtain ⟨q, hq, rfl⟩ := List.mem_map.mp hb
    have := wd_A hD1 p hp
    rw [e] at this
    exact out q hq this
  · rcases List.mem_append.mp hq with h | h
    · exact hF q.1 (wd_A hD1 q h)
    · exact wd_A hD q (List.mem_append_right X h)
/-- the first thing goes behind a part -/
theorem perm_o (o : Nat × va_E) (X Y : va_W) : ((o :: X) ++ Y).Perm (X ++ (o :: Y)) := List.perm_middle.symm
end
