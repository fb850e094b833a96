/-! ===== methods of the class that throw: a throw is coded by a number below -100 ===== -/
def excR (r : Int) (E : String) : Prop := (r = -101 ∧ E = "java/lang/IllegalArgumentException") ∨ (r = -102 ∧ E = "java/lang/IllegalStateException") ∨ (r = -103 ∧ E = "java/util/NoSuchElementException") ∨ (r = -104 ∧ E = "java/lang/IndexOutOfBoundsException")
def QX (wf : Sg → va_W) (D : va_G) (tys : List (ClassId × FieldType)) (σ0 : Sg) (sz : Nat) (σ' : Sg) (r : Int) : Array Value → State → Outcome → State → Prop := va_Qi (fun r' (u : Sg) => r' = iI r ∧ u = σ' ∧ ok σ' ∧ inR r ∧ -100 < r) (BB wf D tys σ0 sz) (va_A (wf σ0) sz)
def XX (wf : Sg → va_W) (D : va_G) (tys : List (ClassId × FieldType)) (σ0 : Sg) (sz : Nat) (σ' : Sg) (r : Int) : String → State → State → Prop := vx_X (fun (u : Sg) => u = σ' ∧ ok σ') (fun E u t => excR r E ∧ BB wf D tys σ0 sz u t) (va_A (wf σ0) sz)
def ctX (E : EE) (l : Launch) (wf : Sg → va_W) (D : va_G) (tys : List (ClassId × FieldType)) (y : MethodName) (ws : List Cond) (rm : Room) (vs : List Value) (σ0 : Sg) (o : Option (Sg × Int)) : Prop := ∀ (σ' : Sg) (r : Int), o = some (σ', r) → ∀ sz : Nat, vx_Met l y ws rm (PP E wf D tys σ0 sz vs) (QX wf D tys σ0 sz σ' r) (XX wf D tys σ0 sz σ' r) 1 6 (va_A (wf σ0) sz)
abbrev JX (l : Launch) (rm : Room) (wf : Sg → va_W) (D : va_G) (tys : List (ClassId × FieldType)) (σz : Sg) (sz nL : Nat) (p : Program) (e : Env) (s : State) (m : MethodId) (args : Array Value) (below : List Frame) (meth : Method) (c : Code) : Sg → Nat → List (Nat × Value) → List Value → Option (Sg × Int) → Prop := JM p l e rm s m args below meth c wf D (va_A (wf σz) sz) s.heap nL (fun σ' r => vx_MQ below (QX wf D tys σz sz σ' r) (XX wf D tys σz sz σ' r) args s 1 6 (va_A (wf σz) sz))
theorem of_X {E : EE} (hE : Eok E) {l : Launch} {wf : Sg → va_W} {D : va_G} {tys : List (ClassId × FieldType)} {y : MethodName} {ws ws' : List Cond} {rm : Room} {cc : ByteArray} {maxL : Nat} {own : String} {vs : List Value} {σ0 : Sg} {o : Option (Sg × Int)} {lv : List (Nat × Value)} (hy : plainName y.cls = true) (hw : ws = Cond.code y cc maxL (some .int) :: ws') (hown : y.cls = own) (hvs : (lg_sl vs).length ≤ maxL) (hlv : lv_args 0 vs = lv)
    (body : ∀ (p : Program) (e : Env) (s : State) (m : MethodId) (below : List Frame) (meth : Method) (c : Code) (sz : Nat), CX p m meth c cc maxL (some .int) s vs.toArray ws own D tys E (va_A (wf σ0) sz) → (∀ z : Nat, s.heap.size ≤ z → va_A (wf σ0) sz z) → (∀ x ∈ c.exceptionTable.toList, False) → JX l rm wf D tys σ0 sz maxL p e s m vs.toArray below meth c σ0 0 lv [] o) : ctX E l wf D tys y ws rm vs σ0 o := by
  intro σ' r ho sz
  refine vx_ofW (cc := cc) (maxL := maxL) (ret := some .int) hy hw ?_
  intro p e s m args below meth c s₁ B hml hT hv
  obtain ⟨rfl, hsz, hP, hK, hD0, hE0⟩ := hv
  have hts := atoms_spec (ws := ws) B.pre
  have hown2 : s.vm.findClass own = some m.cls := by rw [← hown]; exact findClass_of_methodNamed B.named
  have hl := lv_entry vs (n := maxL) hvs
  rw [lg_entry_eq]
  generalize (lg_sl vs ++ List.replicate (maxL - (lg_sl vs).length) Slot.unset).toArray = ls at hl ⊢
  rw [hlv] at hl
  exact body p e s m below meth c sz ⟨B.exec, B.bytes, hml, hown2, hts, hK, B.returns, B.notSynchronized, hE0, hE⟩ (fun z hz => Or.inr (by rw [← hsz]; exact hz)) hT σ' r ho s.heap [] ls hP (hD0.self (sz := sz)) va_S.rf hl
section JXR
variable {p : Program} {l : Launch} {e : Env} {R : Room} {s : State} {m : MethodId} {args : Array Value} {below : List Frame} {meth : Method} {c : Code} {wf : Sg → va_W} {D : va_G} {tys : List (ClassId × FieldType)} {cc : ByteArray} {nL : Nat} {Ts : List Cond} {own : String} {ret : Option FieldType} {σ : Sg} {pc n : Nat} {lv : List (Nat × Value)} {st : List Value} {o : Option (Sg × Int)} {σ0 : Sg} {sz : Nat} {t1 t2 : Nat}
theorem jx_iret (X : CX p m meth c cc nL (some .int) s args Ts own D tys (cE t1 t2) (va_A (wf σ0) sz)) {r : Int} (hok : ok σ) (hr : inR r) (hdg : decode cc pc = .ok (.ireturn, 1)) : JX l R wf D tys σ0 sz nL p e s m args below meth c σ pc lv [.int (iI r)] (ck (-100 < r) (some (σ, r))) := by
  refine jm_ck fun h100 => ?_
  intro σ' r' ho H locs ls hP hD hS hl
  cases ho
  have hlocks := X.2.2.2.2.2.2.2.1
  refine W.widen (k := 1) (n := 6) (Nat.zero_le _) (Nat.zero_le _) ?_
  exact vx_ret (W.iret (v := iI r) X.1 X.2.1 X.2.2.2.2.2.2.1 (fun t ht hW => ⟨⟨iI r, σ, rfl, ⟨rfl, rfl, hok, hr, h100⟩, by rw [ht]; exact hP, va_K.moved hW.alike X.2.2.2.2.2.1, hD⟩, hS.F ht⟩) hS.2.2 hdg hlocks)
theorem jx_throw (X : CX p m meth c cc nL ret s args Ts own D tys (cE t1 t2) (va_A (wf σ0) sz)) (hT : ∀ x ∈ c.exceptionTable.toList, False) (hl : l.stackTraces = false) {r : Int} {cls : String} {ik ic : Nat} (hok : ok σ) (hx : excR r cls) (hcls : cls ∈ excL) (hfit : Bundle.fit cls = true) (hk : Cond.classLink own ik cls ∈ Ts) (hini : Cond.initialized cls ∈ Ts)
    (hat : ∀ w ∈ (vx_at0 own ic cls ["java/lang/RuntimeException", "java/lang/Exception"]).filter goodWord, w ∈ Ts) (hng : ∀ w ∈ (vx_at0 own ic cls ["java/lang/RuntimeException", "java/lang/Exception"]).filter (fun w => !goodWord w), w ∈ [Cond.castable cls cls]) (hgood : ∀ w ∈ Cond.classLink own ik cls :: Cond.initialized cls :: vx_at0 own ic cls ["java/lang/RuntimeException", "java/lang/Exception"], vx_ot w = true)
    (d0 : decode cc pc = .ok (.new ik, 3)) (d3 : decode cc (pc + 3) = .ok (.dup, 1)) (d4 : decode cc (pc + 4) = .ok (.invokespecial ic, 3)) (d7 : decode cc (pc + 7) = .ok (.athrow, 1)) (hR : 5 < R.frames ∧ (st.map fun v => v.category).sum + 81 ≤ R.locals ∧ 1 ≤ R.cells ∧ 6 ≤ R.slots) : JX l R wf D tys σ0 sz nL p e s m args below meth c σ pc lv st (some (σ, r)) := by
  intro σ' r' ho H locs ls hP hD hS hlv
  cases ho
  have hts := X.2.2.2.2.1
  obtain ⟨-, hU, hN, hC⟩ := X.2.2.2.2.2.2.2.2.1
  refine vx_throw0 (cls := cls) (names := ["java/lang/RuntimeException", "java/lang/Exception"]) X.1 X.2.1 hl X.2.2.2.1 hfit (by decide) (hts _ hk) (hts _ hini) (vx_hat (fun w hw => hts w (hat w hw)) hng (vx_c (hC cls hcls).word vx_n)) hgood hU hN hS (hlv.1.trans X.2.2.1.symm) d0 d3 d4 d7 (fun x hx => (hT x hx).elim) hR.1 hR.2.1 (by simpa using hR.2.2.1) (by simpa using hR.2.2.2) X.2.2.2.2.2.2.2.1 (fun t hvm hz hkp => ?_) hS.2.2 (Nat.le_refl _) (Nat.le_refl _)
  exact ⟨σ, ⟨rfl, hok⟩, ⟨hx, hP.kept (fun k q hq => hkp q.1 (hP k q hq).lt), va_K.moved hvm X.2.2.2.2.2.1, hD⟩, Nat.le_trans hS.1 hz, fun q h1 h2 => by rw [hkp q (Nat.lt_of_lt_of_le h1 hS.1)]; exact hS.2.1 q h1 h2⟩
end JXR
theorem xn_IA : ∀ w ∈ (vx_at0 RX9 45 "java/lang/IllegalArgumentException" ["java/lang/RuntimeException", "java/lang/Exception"]).filter (fun w => !goodWord w), w ∈ [Cond.castable "java/lang/IllegalArgumentException" "java/lang/IllegalArgumentException"] := by decide +kernel
theorem xg_IA : ∀ w ∈ Cond.classLink RX9 43 "java/lang/IllegalArgumentException" :: Cond.initialized "java/lang/IllegalArgumentException" :: vx_at0 RX9 45 "java/lang/IllegalArgumentException" ["java/lang/RuntimeException", "java/lang/Exception"], vx_ot w = true := by decide +kernel
theorem xn_IS : ∀ w ∈ (vx_at0 RX9 51 "java/lang/IllegalStateException" ["java/lang/RuntimeException", "java/lang/Exception"]).filter (fun w => !goodWord w), w ∈ [Cond.castable "java/lang/IllegalStateException" "java/lang/IllegalStateException"] := by decide +kernel
theorem xg_IS : ∀ w ∈ Cond.classLink RX9 49 "java/lang/IllegalStateException" :: Cond.initialized "java/lang/IllegalStateException" :: vx_at0 RX9 51 "java/lang/IllegalStateException" ["java/lang/RuntimeException", "java/lang/Exception"], vx_ot w = true := by decide +kernel
theorem xn_NS : ∀ w ∈ (vx_at0 RX9 62 "java/util/NoSuchElementException" ["java/lang/RuntimeException", "java/lang/Exception"]).filter (fun w => !goodWord w), w ∈ [Cond.castable "java/util/NoSuchElementException" "java/util/NoSuchElementException"] := by decide +kernel
theorem xg_NS : ∀ w ∈ Cond.classLink RX9 60 "java/util/NoSuchElementException" :: Cond.initialized "java/util/NoSuchElementException" :: vx_at0 RX9 62 "java/util/NoSuchElementException" ["java/lang/RuntimeException", "java/lang/Exception"], vx_ot w = true := by decide +kernel
theorem xn_IO : ∀ w ∈ (vx_at0 RX9 72 "java/lang/IndexOutOfBoundsException" ["java/lang/RuntimeException", "java/lang/Exception"]).filter (fun w => !goodWord w), w ∈ [Cond.castable "java/lang/IndexOutOfBoundsException" "java/lang/IndexOutOfBoundsException"] := by decide +kernel
theorem xg_IO : ∀ w ∈ Cond.classLink RX9 70 "java/lang/IndexOutOfBoundsException" :: Cond.initialized "java/lang/IndexOutOfBoundsException" :: vx_at0 RX9 72 "java/lang/IndexOutOfBoundsException" ["java/lang/RuntimeException", "java/lang/Exception"], vx_ot w = true := by decide +kernel
