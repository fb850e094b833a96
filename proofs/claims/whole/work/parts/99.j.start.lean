/-! ===== the law's start: what the tables and the start give ===== -/
theorem l_arr {args : Array Value} {s : State} {ty : FieldType} (h : (Cond.arrayClass ty).before args s = true) (hs : ∀ c, ty ≠ .object c) : ∃ cA : ClassId, ArrOfT s cA ty ∧ va_RA s cA ty := by
  obtain ⟨cA, k, comp, h1, h2, h3⟩ := Cond.arrayClass_spec h
  refine ⟨cA, fun n z => ⟨fun k h => (by cases h), k, h2, comp, h3⟩, ?_⟩
  cases ty with
  | object c => exact absurd rfl (hs c)
  | _ => exact h1
set_option maxRecDepth 100000 in
theorem l_K {args : Array Value} {s : State} (hts : ∀ w ∈ lw_tbl, w.before args s = true) : ∃ (D : va_G) (cI cZ cJ : ClassId), va_K D vwCl (lT cI cZ cJ) s := by
  obtain ⟨c0, iS0, hKn0⟩ := u_known (C := RX1) (T := TX1) (N := 5) (n := 5) hts inX1 (hts (.instantiable RX1 5) (by decide +kernel))
  obtain ⟨c1, iS1, hKn1⟩ := u_known (C := RX2) (T := TX2) (N := 13) (n := 13) hts inX2 (hts (.instantiable RX2 13) (by decide +kernel))
  obtain ⟨c2, iS2, hKn2⟩ := u_known (C := RX3) (T := TX3) (N := 3) (n := 3) hts inX3 (hts (.instantiable RX3 3) (by decide +kernel))
  obtain ⟨c3, iS3, hKn3⟩ := u_known (C := RX4) (T := TX4) (N := 8) (n := 8) hts inX4 (hts (.instantiable RX4 8) (by decide +kernel))
  obtain ⟨c4, iS4, hKn4⟩ := u_known (C := RX5) (T := TX5) (N := 9) (n := 9) hts inX5 (hts (.instantiable RX5 9) (by decide +kernel))
  obtain ⟨c5, iS5, hKn5⟩ := u_known (C := RX6) (T := TX6) (N := 5) (n := 5) hts inX6 (hts (.instantiable RX6 5) (by decide +kernel))
  obtain ⟨c6, iS6, hKn6⟩ := u_known (C := RX7) (T := TX7) (N := 4) (n := 4) hts inX7 (hts (.instantiable RX7 4) (by decide +kernel))
  obtain ⟨c7, iS7, hKn7⟩ := u_known (C := RX8) (T := TX8) (N := 5) (n := 5) hts inX8 (hts (.instantiable RX8 5) (by decide +kernel))
  obtain ⟨c8, iS8, hKn8⟩ := u_known (C := RX9) (T := TX9) (N := 12) (n := 12) hts inX9 (hts (.instantiable RX9 12) (by decide +kernel))
  obtain ⟨c9, iS9, hKn9⟩ := u_known (C := RX10) (T := TX10) (N := 60) (n := 60) hts inX10 (hts (.instantiable RX10 60) (by decide +kernel))
  obtain ⟨cI, a1, b1⟩ := l_arr (hts (.arrayClass .int) (by decide +kernel)) (fun _ h => by cases h)
  obtain ⟨cZ, a2, b2⟩ := l_arr (hts (.arrayClass .boolean) (by decide +kernel)) (fun _ h => by cases h)
  obtain ⟨cJ, a3, b3⟩ := l_arr (hts (.arrayClass .long) (by decide +kernel)) (fun _ h => by cases h)
  refine ⟨(fun k => match k with | 0 => c0 | 1 => c1 | 2 => c2 | 3 => c3 | 4 => c4 | 5 => c5 | 6 => c6 | 7 => c7 | 8 => c8 | _ => c9, fun k => match k with | 0 => iS0 | 1 => iS1 | 2 => iS2 | 3 => iS3 | 4 => iS4 | 5 => iS5 | 6 => iS6 | 7 => iS7 | 8 => iS8 | _ => iS9), cI, cZ, cJ, ?_, ?_⟩
  · intro k q hq
    match k, hq with
    | 0, hq => cases hq; exact hKn0
    | 1, hq => cases hq; exact hKn1
    | 2, hq => cases hq; exact hKn2
    | 3, hq => cases hq; exact hKn3
    | 4, hq => cases hq; exact hKn4
    | 5, hq => cases hq; exact hKn5
    | 6, hq => cases hq; exact hKn6
    | 7, hq => cases hq; exact hKn7
    | 8, hq => cases hq; exact hKn8
    | 9, hq => cases hq; exact hKn9
    | k + 10, hq => simp at hq
  · intro k q hq
    match k, hq with
    | 0, hq => cases hq; exact ⟨a1, b1⟩
    | 1, hq => cases hq; exact ⟨a2, b2⟩
    | 2, hq => cases hq; exact ⟨a3, b3⟩
    | k + 3, hq => simp at hq
set_option maxRecDepth 100000 in
theorem l_tw {args : Array Value} {s : State} {A : Nat → Prop} (hts : ∀ w ∈ lw_tbl, w.before args s = true) (hgv : (Jvm.Cond.and given_1 narrow_1).before args s = true) (hA : ∀ a : Nat, a < s.heap.size → ¬ A a) : ∃ t : Nat, va_Z "MarkDesk$Kind" "TERM_WORDS" "[I" (.ref t) A s s.heap ∧ va_T .int t 12 (fun j => .int (iI (tw (j : Nat)))) A s s.heap := by
  have hs := flat_of_before _ hgv
  have hel : ∀ j : Nat, j < 12 → (Term.elem (.static "MarkDesk$Kind" "TERM_WORDS" "[I") (.int (Int32.ofNat j))).eval args s none [] s = some (.int (iI (tw (j : Nat)))) := by
    intro j hj
    rcases (show j = 0 ∨ j = 1 ∨ j = 2 ∨ j = 3 ∨ j = 4 ∨ j = 5 ∨ j = 6 ∨ j = 7 ∨ j = 8 ∨ j = 9 ∨ j = 10 ∨ j = 11 by omega) with rfl | rfl | rfl | rfl | rfl | rfl | rfl | rfl | rfl | rfl | rfl | rfl
    · exact va_eqt (t := .elem (.static "MarkDesk$Kind" "TERM_WORDS" "[I") (.int 0)) (z := 0) (hs _ (by decide +kernel))
    · exact va_eqt (t := .elem (.static "MarkDesk$Kind" "TERM_WORDS" "[I") (.int 1)) (z := 0) (hs _ (by decide +kernel))
    · exact va_eqt (t := .elem (.static "MarkDesk$Kind" "TERM_WORDS" "[I") (.int 2)) (z := 0) (hs _ (by decide +kernel))
    · exact va_eqt (t := .elem (.static "MarkDesk$Kind" "TERM_WORDS" "[I") (.int 3)) (z := 1) (hs _ (by decide +kernel))
    · exact va_eqt (t := .elem (.static "MarkDesk$Kind" "TERM_WORDS" "[I") (.int 4)) (z := 2) (hs _ (by decide +kernel))
    · exact va_eqt (t := .elem (.static "MarkDesk$Kind" "TERM_WORDS" "[I") (.int 5)) (z := 2) (hs _ (by decide +kernel))
    · exact va_eqt (t := .elem (.static "MarkDesk$Kind" "TERM_WORDS" "[I") (.int 6)) (z := 2) (hs _ (by decide +kernel))
    · exact va_eqt (t := .elem (.static "MarkDesk$Kind" "TERM_WORDS" "[I") (.int 7)) (z := 3) (hs _ (by decide +kernel))
    · exact va_eqt (t := .elem (.static "MarkDesk$Kind" "TERM_WORDS" "[I") (.int 8)) (z := 2) (hs _ (by decide +kernel))
    · exact va_eqt (t := .elem (.static "MarkDesk$Kind" "TERM_WORDS" "[I") (.int 9)) (z := 1) (hs _ (by decide +kernel))
    · exact va_eqt (t := .elem (.static "MarkDesk$Kind" "TERM_WORDS" "[I") (.int 10)) (z := 1) (hs _ (by decide +kernel))
    · exact va_eqt (t := .elem (.static "MarkDesk$Kind" "TERM_WORDS" "[I") (.int 11)) (z := 1) (hs _ (by decide +kernel))
  obtain ⟨t, h1, h2⟩ := va_Tof (tm := .static "MarkDesk$Kind" "TERM_WORDS" "[I") (ty := .int) (N := 12) (f := fun j => .int (iI (tw (j : Nat)))) (A := A) (by decide) (hs _ (by decide +kernel)) (va_eqt (z := 12) (hs _ (by decide +kernel))) hel hA
  exact ⟨t, va_Zof (hts _ (by decide +kernel)) (hts _ (by decide +kernel)) h1 hA, h2⟩
set_option maxRecDepth 100000 in
theorem l_tb {args : Array Value} {s : State} {A : Nat → Prop} (hts : ∀ w ∈ lw_tbl, w.before args s = true) (hgv : (Jvm.Cond.and given_1 narrow_1).before args s = true) (hA : ∀ a : Nat, a < s.heap.size → ¬ A a) : ∃ t : Nat, va_Z "MarkDesk$Kind" "BINDS" "[I" (.ref t) A s s.heap ∧ va_T .int t 12 (fun j => .int (iI (tb (j : Nat)))) A s s.heap := by
  have hs := flat_of_before _ hgv
  have hel : ∀ j : Nat, j < 12 → (Term.elem (.static "MarkDesk$Kind" "BINDS" "[I") (.int (Int32.ofNat j))).eval args s none [] s = some (.int (iI (tb (j : Nat)))) := by
    intro j hj
    rcases (show j = 0 ∨ j = 1 ∨ j = 2 ∨ j = 3 ∨ j = 4 ∨ j = 5 ∨ j = 6 ∨ j = 7 ∨ j = 8 ∨ j = 9 ∨ j = 10 ∨ j = 11 by omega) with rfl | rfl | rfl | rfl | rfl | rfl | rfl | rfl | rfl | rfl | rfl | rfl
    · exact va_eqt (t := .elem (.static "MarkDesk$Kind" "BINDS" "[I") (.int 0)) (z := 0) (hs _ (by decide +kernel))
    · exact va_eqt (t := .elem (.static "MarkDesk$Kind" "BINDS" "[I") (.int 1)) (z := 0) (hs _ (by decide +kernel))
    · exact va_eqt (t := .elem (.static "MarkDesk$Kind" "BINDS" "[I") (.int 2)) (z := 0) (hs _ (by decide +kernel))
    · exact va_eqt (t := .elem (.static "MarkDesk$Kind" "BINDS" "[I") (.int 3)) (z := 1) (hs _ (by decide +kernel))
    · exact va_eqt (t := .elem (.static "MarkDesk$Kind" "BINDS" "[I") (.int 4)) (z := 0) (hs _ (by decide +kernel))
    · exact va_eqt (t := .elem (.static "MarkDesk$Kind" "BINDS" "[I") (.int 5)) (z := 0) (hs _ (by decide +kernel))
    · exact va_eqt (t := .elem (.static "MarkDesk$Kind" "BINDS" "[I") (.int 6)) (z := 0) (hs _ (by decide +kernel))
    · exact va_eqt (t := .elem (.static "MarkDesk$Kind" "BINDS" "[I") (.int 7)) (z := 0) (hs _ (by decide +kernel))
    · exact va_eqt (t := .elem (.static "MarkDesk$Kind" "BINDS" "[I") (.int 8)) (z := 1) (hs _ (by decide +kernel))
    · exact va_eqt (t := .elem (.static "MarkDesk$Kind" "BINDS" "[I") (.int 9)) (z := 0) (hs _ (by decide +kernel))
    · exact va_eqt (t := .elem (.static "MarkDesk$Kind" "BINDS" "[I") (.int 10)) (z := 1) (hs _ (by decide +kernel))
    · exact va_eqt (t := .elem (.static "MarkDesk$Kind" "BINDS" "[I") (.int 11)) (z := 2) (hs _ (by decide +kernel))
  obtain ⟨t, h1, h2⟩ := va_Tof (tm := .static "MarkDesk$Kind" "BINDS" "[I") (ty := .int) (N := 12) (f := fun j => .int (iI (tb (j : Nat)))) (A := A) (by decide) (hs _ (by decide +kernel)) (va_eqt (z := 12) (hs _ (by decide +kernel))) hel hA
  exact ⟨t, va_Zof (hts _ (by decide +kernel)) (hts _ (by decide +kernel)) h1 hA, h2⟩
set_option maxRecDepth 100000 in
theorem l_cE {args : Array Value} {s : State} {A : Nat → Prop} (hts : ∀ w ∈ lw_tbl, w.before args s = true) (hgv : (Jvm.Cond.and given_1 narrow_1).before args s = true) (hA : ∀ a : Nat, a < s.heap.size → ¬ A a) : ∃ t1 t2 : Nat, wE t1 t2 A s s.heap := by
  have hs := flat_of_before _ hgv
  obtain ⟨t1, h1, h2⟩ := l_tw hts hgv hA
  obtain ⟨t2, h3, h4⟩ := l_tb hts hgv hA
  refine ⟨t1, t2, ⟨⟨⟨h1, h2⟩, h3, h4⟩, vx_Zqof (hts _ (by decide +kernel)) (hts _ (by decide +kernel)) (hs _ (by decide +kernel)) hA, vx_Zqof (hts _ (by decide +kernel)) (hts _ (by decide +kernel)) (hs _ (by decide +kernel)) hA, ?_, ?_⟩, ?_⟩
  · intro C hC
    have w : (Cond.castable C C).before args s = true := hts _ ((by decide +kernel : ∀ C ∈ excL, Cond.castable C C ∈ lw_tbl) C hC)
    unfold cS
    simp only [Cond.before, Cond.holds, Cond.value] at w
    cases h1 : s.vm.findClass C with
    | none => simp [h1] at w
    | some k => exact ⟨k, rfl, by simpa [h1] using w⟩
  · intro x hx
    exact va_Nw.of rfl (hts _ ((by decide +kernel : ∀ x ∈ decL, Cond.declares x ∈ lw_tbl) x hx))
  · intro q hq
    simp only [ncL, List.mem_cons, List.not_mem_nil, or_false] at hq
    rcases hq with rfl | rfl | rfl | rfl | rfl | rfl <;> exact va_Nc.of (hs _ (by decide +kernel))
set_option maxRecDepth 100000 in
theorem l_nE {args : Array Value} {s : State} (hts : ∀ w ∈ lw_tbl, w.before args s = true) : nE s := by
  intro w hw
  have key : ∀ w ∈ nestL, w ∈ lw_tbl ∧ w.onTables = true := by decide +kernel
  exact va_Nw.of (key w hw).2 (hts w (key w hw).1)
