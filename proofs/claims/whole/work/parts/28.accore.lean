/-! ===== the class's own static tables; longs ===== -/
def tw (z : Int) : Int := if z = 3 then 1 else if z = 7 then 3 else if 4 ≤ z ∧ z ≤ 8 then 2 else if 9 ≤ z ∧ z ≤ 11 then 1 else 0
def tb (z : Int) : Int := if z = 3 then 1 else if z = 8 then 1 else if z = 10 then 1 else if z = 11 then 2 else 0
theorem in_tw (z : Int) : inR (tw z) := by unfold tw; (repeat' split) <;> decide
theorem in_tb (z : Int) : inR (tb z) := by unfold tb; (repeat' split) <;> decide
def cS (C : String) (U : State) : Prop := ∃ k : ClassId, U.vm.findClass C = some k ∧ U.vm.assignable k k = true
theorem cS.moved {C : String} {u U : State} (hvm : u.vm.Alike U.vm) (h : cS C u) : cS C U := by
  obtain ⟨k, h1, h2⟩ := h
  exact ⟨k, by rw [hvm.findClass]; exact h1, by rw [hvm.assignable]; exact h2⟩
theorem cS.word {C : String} {s : State} {args : Array Value} (h : cS C s) : (Cond.castable C C).before args s = true := by
  obtain ⟨k, h1, h2⟩ := h
  simp [Cond.before, Cond.holds, Cond.value, h1, h2]
def excL : List String := ["java/lang/IllegalArgumentException", "java/lang/IllegalStateException", "java/util/NoSuchElementException", "java/lang/IndexOutOfBoundsException"]
def decL : List MethodName := [⟨"java/lang/RuntimeException", "<init>", "()V"⟩, ⟨"java/lang/Exception", "<init>", "()V"⟩, ⟨"java/lang/Throwable", "<init>", "()V"⟩]
def cE (t1 t2 : Nat) : EE := fun A U H => ((va_Z "MarkDesk$Kind" "TERM_WORDS" "[I" (.ref t1) A U H ∧ va_T .int t1 12 (fun j => .int (iI (tw (j : Nat)))) A U H) ∧ va_Z "MarkDesk$Kind" "BINDS" "[I" (.ref t2) A U H ∧ va_T .int t2 12 (fun j => .int (iI (tb (j : Nat)))) A U H) ∧ vx_Zq Bundle.tN "UNASSIGNED_STACK" Bundle.steD A U H ∧ vx_Zq Bundle.tN "SUPPRESSED_SENTINEL" Bundle.listD A U H ∧ (∀ C ∈ excL, cS C U) ∧ ∀ x ∈ decL, va_Nw (.declares x) U
theorem cE_ok (t1 t2 : Nat) : Eok (cE t1 t2) := by
  intro A B u U H H1 hW hAB hk h
  have hvm := hW.alike
  obtain ⟨⟨⟨h1, h2⟩, h3, h4⟩, h5, h6, h7, h8⟩ := h
  exact ⟨⟨⟨((h1.moved hvm).kept hk).narrow hAB, ((h2.moved hvm).kept hk).narrow hAB⟩, ((h3.moved hvm).kept hk).narrow hAB, ((h4.moved hvm).kept hk).narrow hAB⟩, ((h5.moved hvm).kept hk).narrow hAB, ((h6.moved hvm).kept hk).narrow hAB, fun C hC => (h7 C hC).moved hvm, fun x hx => va_Nw.warmD hW (h8 x hx)⟩
section JMS
variable {p : Program} {l : Launch} {e : Env} {R : Room} {s : State} {m : MethodId} {args : Array Value} {below : List Frame} {meth : Method} {c : Code} {wf : Sg → va_W} {D : va_G} {tys : List (ClassId × FieldType)} {A : Nat → Prop} {Qf : Sg → Int → State → Prop} {cc : ByteArray} {nL : Nat} {Ts : List Cond} {own : String} {ret : Option FieldType} {σ : Sg} {pc n : Nat} {lv : List (Nat × Value)} {st : List Value} {o : Option (Sg × Int)} {t1 t2 : Nat}
theorem jm_gets1 (X : CX p m meth c cc nL ret s args Ts own D tys (cE t1 t2) A) {idx : Nat} (hlink : Cond.fieldLink own idx "MarkDesk$Kind" "TERM_WORDS" "[I" ∈ Ts) (hdg : decode cc pc = .ok (.getstatic idx, 3)) (hn : pc + 3 = n) (kk : JM p l e R s m args below meth c wf D A s.heap nL Qf σ n lv (.ref t1 :: st) o) : JM p l e R s m args below meth c wf D A s.heap nL Qf σ pc lv st o := by
  subst hn
  intro σ' r ho H locs ls hP hD hS hl
  exact va_gets X.1 X.2.1 X.2.2.2.2.2.2.2.2.1.1.1.1 hS X.2.2.2.1 (X.2.2.2.2.1 _ hlink) (fun _ h => h) hdg (kk σ' r ho H locs ls hP hD hS hl)
theorem jm_tald1 (X : CX p m meth c cc nL ret s args Ts own D tys (cE t1 t2) A) {z : Int} {f : Option (Sg × Int)} (hz : inR z) (hdg : decode cc pc = .ok (.iaload, 1)) (hn : pc + 1 = n) (kk : 0 ≤ z ∧ z < 12 → JM p l e R s m args below meth c wf D A s.heap nL Qf σ n lv (.int (iI (tw z)) :: st) f) : JM p l e R s m args below meth c wf D A s.heap nL Qf σ pc lv (.int (iI z) :: .ref t1 :: st) (ck (0 ≤ z ∧ z < 12) f) := by
  subst hn
  refine jm_ck fun h => ?_
  intro σ' r ho H locs ls hP hD hS hl
  exact va_ti (v := .int (iI (tw z))) X.1 X.2.1 X.2.2.2.2.2.2.2.2.1.1.1.2 hS ((iI_in hz).mpr h) (by show Value.int (iI (tw ((iI z).toNatClampNeg : Nat))) = _; rw [iI_cl hz, Int.toNat_of_nonneg h.1]) hdg (kk h σ' r ho H locs ls hP hD hS hl)
theorem jm_tlen1 (X : CX p m meth c cc nL ret s args Ts own D tys (cE t1 t2) A) (hdg : decode cc pc = .ok (.arraylength, 1)) (hn : pc + 1 = n) (kk : JM p l e R s m args below meth c wf D A s.heap nL Qf σ n lv (.int (iI 12) :: st) o) : JM p l e R s m args below meth c wf D A s.heap nL Qf σ pc lv (.ref t1 :: st) o := by
  subst hn
  intro σ' r ho H locs ls hP hD hS hl
  exact va_tlen (v := iI 12) X.1 X.2.1 X.2.2.2.2.2.2.2.2.1.1.1.2 hS (by decide) hdg (kk σ' r ho H locs ls hP hD hS hl)
theorem jm_gets2 (X : CX p m meth c cc nL ret s args Ts own D tys (cE t1 t2) A) {idx : Nat} (hlink : Cond.fieldLink own idx "MarkDesk$Kind" "BINDS" "[I" ∈ Ts) (hdg : decode cc pc = .ok (.getstatic idx, 3)) (hn : pc + 3 = n) (kk : JM p l e R s m args below meth c wf D A s.heap nL Qf σ n lv (.ref t2 :: st) o) : JM p l e R s m args below meth c wf D A s.heap nL Qf σ pc lv st o := by
  subst hn
  intro σ' r ho H locs ls hP hD hS hl
  exact va_gets X.1 X.2.1 X.2.2.2.2.2.2.2.2.1.1.2.1 hS X.2.2.2.1 (X.2.2.2.2.1 _ hlink) (fun _ h => h) hdg (kk σ' r ho H locs ls hP hD hS hl)
theorem jm_tald2 (X : CX p m meth c cc nL ret s args Ts own D tys (cE t1 t2) A) {z : Int} {f : Option (Sg × Int)} (hz : inR z) (hdg : decode cc pc = .ok (.iaload, 1)) (hn : pc + 1 = n) (kk : 0 ≤ z ∧ z < 12 → JM p l e R s m args below meth c wf D A s.heap nL Qf σ n lv (.int (iI (tb z)) :: st) f) : JM p l e R s m args below meth c wf D A s.heap nL Qf σ pc lv (.int (iI z) :: .ref t2 :: st) (ck (0 ≤ z ∧ z < 12) f) := by
  subst hn
  refine jm_ck fun h => ?_
  intro σ' r ho H locs ls hP hD hS hl
  exact va_ti (v := .int (iI (tb z))) X.1 X.2.1 X.2.2.2.2.2.2.2.2.1.1.2.2 hS ((iI_in hz).mpr h) (by show Value.int (iI (tb ((iI z).toNatClampNeg : Nat))) = _; rw [iI_cl hz, Int.toNat_of_nonneg h.1]) hdg (kk h σ' r ho H locs ls hP hD hS hl)
theorem jm_tlen2 (X : CX p m meth c cc nL ret s args Ts own D tys (cE t1 t2) A) (hdg : decode cc pc = .ok (.arraylength, 1)) (hn : pc + 1 = n) (kk : JM p l e R s m args below meth c wf D A s.heap nL Qf σ n lv (.int (iI 12) :: st) o) : JM p l e R s m args below meth c wf D A s.heap nL Qf σ pc lv (.ref t2 :: st) o := by
  subst hn
  intro σ' r ho H locs ls hP hD hS hl
  exact va_tlen (v := iI 12) X.1 X.2.1 X.2.2.2.2.2.2.2.2.1.1.2.2 hS (by decide) hdg (kk σ' r ho H locs ls hP hD hS hl)
end JMS
section JML
variable {p : Program} {l : Launch} {e : Env} {R : Room} {s : State} {m : MethodId} {args : Array Value} {below : List Frame} {meth : Method} {c : Code} {wf : Sg → va_W} {D : va_G} {tys : List (ClassId × FieldType)} {A : Nat → Prop} {H0 : Heap} {Qf : Sg → Int → State → Prop} {cc : ByteArray} {nL : Nat} {Ts : List Cond} {own : String} {E : EE} {ret : Option FieldType} {σ : Sg} {pc n : Nat} {lv : List (Nat × Value)} {st : List Value} {o : Option (Sg × Int)}
theorem i2l_I {x : Int} (h : inR x) : (iI x).toInt64 = Int64.ofInt x := by
  apply Int64.toInt_inj.mp
  rw [Int32.toInt_toInt64, iI_toInt h, Int64.toInt_ofInt_of_le (by have := h.1; omega) (by have := h.2; omega)]
theorem jm_i2l (X : CX p m meth c cc nL ret s args Ts own D tys E A) {x : Int} (hx : inR x) (hdg : decode cc pc = .ok (.i2l, 1)) (hn : pc + 1 = n) (kk : JM p l e R s m args below meth c wf D A H0 nL Qf σ n lv (.long (Int64.ofInt x) :: st) o) : JM p l e R s m args below meth c wf D A H0 nL Qf σ pc lv (.int (iI x) :: st) o := by
  subst hn
  intro σ' r ho H locs ls hP hD hS hl
  exact lv_i2l X.1 X.2.1 hdg (i2l_I hx) (kk σ' r ho H locs ls hP hD hS hl)
theorem jm_ladd (X : CX p m meth c cc nL ret s args Ts own D tys E A) {x y : Int} {f : Option (Sg × Int)} (hdg : decode cc pc = .ok (.ladd, 1)) (hn : pc + 1 = n) (kk : inR (x + y) → JM p l e R s m args below meth c wf D A H0 nL Qf σ n lv (.long (Int64.ofInt (x + y)) :: st) f) : JM p l e R s m args below meth c wf D A H0 nL Qf σ pc lv (.long (Int64.ofInt y) :: .long (Int64.ofInt x) :: st) (ck (inR (x + y)) f) := by
  subst hn
  refine jm_ck fun h => ?_
  intro σ' r ho H locs ls hP hD hS hl
  refine lv_ladd X.1 X.2.1 hdg ?_
  rw [← Int64.ofInt_add]
  exact kk h σ' r ho H locs ls hP hD hS hl
end JML
