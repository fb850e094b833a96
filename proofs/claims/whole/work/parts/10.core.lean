/-! ===== ints as integers, states as functions, the judgement JM, a rule an instruction ===== -/
def iI (z : Int) : Int32 := Int32.ofInt z
abbrev inR (z : Int) : Prop := -2147483648 ≤ z ∧ z ≤ 2147483647
theorem iI_toInt {z : Int} (h : inR z) : (iI z).toInt = z := Int32.toInt_ofInt_of_le (by have := h.1; omega) (by have := h.2; omega)
theorem iI_add (a b : Int) : iI a + iI b = iI (a + b) := (Int32.ofInt_add a b).symm
theorem iI_sub (a b : Int) : iI a - iI b = iI (a - b) := (Int32.ofInt_sub a b).symm
theorem iI_mul (a b : Int) : iI a * iI b = iI (a * b) := (Int32.ofInt_mul a b).symm
theorem iI_lt {a b : Int} (ha : inR a) (hb : inR b) : iI a < iI b ↔ a < b := by rw [Int32.lt_iff_toInt_lt, iI_toInt ha, iI_toInt hb]
theorem iI_le {a b : Int} (ha : inR a) (hb : inR b) : iI a ≤ iI b ↔ a ≤ b := by rw [Int32.le_iff_toInt_le, iI_toInt ha, iI_toInt hb]
theorem iI_eq {a b : Int} (ha : inR a) (hb : inR b) : iI a = iI b ↔ a = b := by rw [← Int32.toInt_inj, iI_toInt ha, iI_toInt hb]
theorem iI_in {z : Int} {n : Nat} (h : inR z) : vp_in (iI z) n ↔ 0 ≤ z ∧ z < n := by rw [vp_in_iff, iI_toInt h]
theorem iI_cl {z : Int} (h : inR z) : (iI z).toNatClampNeg = z.toNat := by rw [← Int32.toNat_toInt, iI_toInt h]
theorem iI_of (x : Int32) : iI x.toInt = x := Int32.ofInt_toInt x
theorem inR_of (x : Int32) : inR x.toInt := ⟨by have := x.le_toInt; omega, by have := x.toInt_lt; omega⟩
theorem inR_0 : inR 0 := by decide
/-- a value that wraps -/
def wr (z : Int) : Int := (iI z).toInt
theorem wr_in (z : Int) : inR (wr z) := inR_of _
theorem iI_wr (z : Int) : iI (wr z) = iI z := iI_of _
/-- the states: ints by a number, arrays by a number -/
abbrev Sg : Type := (Nat → Int) × (Nat → Int → Int)
def gI (σ : Sg) (k : Nat) : Int := σ.1 k
def gA (σ : Sg) (k : Nat) (i : Int) : Int := σ.2 k i
def sI (σ : Sg) (k : Nat) (v : Int) : Sg := (fun j => bif Nat.beq j k then v else σ.1 j, σ.2)
def sA (σ : Sg) (k : Nat) (i v : Int) : Sg := (σ.1, fun j => bif Nat.beq j k then (fun t => if t = i then v else σ.2 k t) else σ.2 j)
def ok (σ : Sg) : Prop := (∀ k, inR (gI σ k)) ∧ ∀ k i, inR (gA σ k i)
theorem ok_sI {σ : Sg} (h : ok σ) (k : Nat) {v : Int} (hv : inR v) : ok (sI σ k v) := by
  refine ⟨fun j => ?_, h.2⟩
  show inR (bif Nat.beq j k then v else σ.1 j)
  cases Nat.beq j k
  · exact h.1 j
  · exact hv
theorem ok_sA {σ : Sg} (h : ok σ) (k : Nat) (i : Int) {v : Int} (hv : inR v) : ok (sA σ k i v) := by
  refine ⟨h.1, fun j t => ?_⟩
  show inR ((bif Nat.beq j k then (fun t => if t = i then v else σ.2 k t) else σ.2 j) t)
  cases hj : Nat.beq j k
  · exact h.2 j t
  · show inR (if t = i then v else σ.2 k t)
    by_cases ht : t = i
    · rw [if_pos ht]; exact hv
    · rw [if_neg ht]; exact h.2 k t
def ck {α : Type} (P : Prop) [Decidable P] (x : Option α) : Option α := if P then x else none
def nx {α : Type} (σ : Sg) (f : Sg → Option α) : Option α := f σ
def bd {α : Type} (x : Option (Sg × Int)) (f : Sg → Int → Option α) : Option α := match x with
  | none => none
  | some u => f u.1 u.2
/-- what the method needs of the statics: kept while nothing outside A changes -/
abbrev EE : Type := (Nat → Prop) → State → Heap → Prop
def Eok (E : EE) : Prop := ∀ (A B : Nat → Prop) (u U : State) (H H1 : Heap), u.WarmedH U.vm → (∀ q, B q → A q) → (∀ a : Nat, a < H.size → ¬ A a → H1[a]? = H[a]?) → E A u H → E B U H1
def noE : EE := fun _ _ _ => True
theorem noE_ok : Eok noE := fun _ _ _ _ _ _ _ _ _ _ => trivial
/-- the context of a method's walk -/
def CX (p : Program) (m : MethodId) (meth : Method) (c : Code) (cc : ByteArray) (nL : Nat) (ret : Option FieldType) (s : State) (args : Array Value) (Ts : List Cond) (own : String) (D : va_G) (tys : List (ClassId × FieldType)) (E : EE) (A : Nat → Prop) : Prop :=
  p.tables.exec = Jvm.exec ∧ c.code = cc ∧ c.maxLocals = nL ∧ s.vm.findClass own = some m.cls ∧ (∀ w ∈ Ts, w.before args s = true) ∧ va_K D vwCl tys s ∧ meth.sig.returnType = ret ∧ meth.locks = false ∧ E A s s.heap ∧ Eok E
/-- the machine at pc, with the world of σ, locals lv, stack st: if the mirror o gives (σ', r), it comes to Qf σ' r -/
def JM (p : Program) (l : Launch) (e : Env) (R : Room) (s : State) (m : MethodId) (args : Array Value) (below : List Frame) (meth : Method) (c : Code) (wf : Sg → va_W) (D : va_G) (A : Nat → Prop) (H0 : Heap) (nL : Nat) (Qf : Sg → Int → State → Prop) (σ : Sg) (pc : Nat) (lv : List (Nat × Value)) (st : List Value) (o : Option (Sg × Int)) : Prop :=
  ∀ (σ' : Sg) (r : Int), o = some (σ', r) → ∀ (H : Heap) (locs : List Loc) (ls : Array Slot), va_P D vwCl (wf σ) H → va_D A (wf σ) → va_S A H0 H locs → lv_has ls nL lv → W p l e R s m args below meth c H locs 0 0 (Qf σ' r) (F0 m pc ls st)
section JMR
variable {p : Program} {l : Launch} {e : Env} {R : Room} {s : State} {m : MethodId} {args : Array Value} {below : List Frame} {meth : Method} {c : Code} {wf : Sg → va_W} {D : va_G} {tys : List (ClassId × FieldType)} {A : Nat → Prop} {H0 : Heap} {Qf : Sg → Int → State → Prop} {cc : ByteArray} {nL : Nat} {Ts : List Cond} {own : String} {E : EE} {ret : Option FieldType} {σ : Sg} {pc n : Nat} {lv : List (Nat × Value)} {st : List Value} {o : Option (Sg × Int)}
theorem jm_iconst (X : CX p m meth c cc nL ret s args Ts own D tys E A) {z : Int} (hdg : decode cc pc = .ok (.iconst z, 1)) (hn : pc + 1 = n) (kk : JM p l e R s m args below meth c wf D A H0 nL Qf σ n lv (.int (iI z) :: st) o) : JM p l e R s m args below meth c wf D A H0 nL Qf σ pc lv st o := by
  subst hn
  intro σ' r ho H locs ls hP hD hS hl
  exact lv_iconst X.1 X.2.1 hdg rfl (kk σ' r ho H locs ls hP hD hS hl)
theorem jm_bipush (X : CX p m meth c cc nL ret s args Ts own D tys E A) {z : Int} (hdg : decode cc pc = .ok (.bipush z, 2)) (hz : (Int8.ofInt z).toInt32 = iI z) (hn : pc + 2 = n) (kk : JM p l e R s m args below meth c wf D A H0 nL Qf σ n lv (.int (iI z) :: st) o) : JM p l e R s m args below meth c wf D A H0 nL Qf σ pc lv st o := by
  subst hn
  intro σ' r ho H locs ls hP hD hS hl
  exact lv_bipush X.1 X.2.1 hdg hz (kk σ' r ho H locs ls hP hD hS hl)
theorem jm_sipush (X : CX p m meth c cc nL ret s args Ts own D tys E A) {z : Int} (hdg : decode cc pc = .ok (.sipush z, 3)) (hz : (Int16.ofInt z).toInt32 = iI z) (hn : pc + 3 = n) (kk : JM p l e R s m args below meth c wf D A H0 nL Qf σ n lv (.int (iI z) :: st) o) : JM p l e R s m args below meth c wf D A H0 nL Qf σ pc lv st o := by
  subst hn
  intro σ' r ho H locs ls hP hD hS hl
  exact lv_sipush X.1 X.2.1 hdg hz (kk σ' r ho H locs ls hP hD hS hl)
theorem jm_iload_n (X : CX p m meth c cc nL ret s args Ts own D tys E A) (k : Nat) {i : Fin 4} {x : Int} (hk : lv[k]? = some ((i : Nat), .int (iI x))) (hdg : decode cc pc = .ok (.iload_n i, 1)) (hn : pc + 1 = n) (kk : JM p l e R s m args below meth c wf D A H0 nL Qf σ n lv (.int (iI x) :: st) o) : JM p l e R s m args below meth c wf D A H0 nL Qf σ pc lv st o := by
  subst hn
  intro σ' r ho H locs ls hP hD hS hl
  exact lv_iload_n X.1 X.2.1 hdg rfl (lv_at hl k hk) (kk σ' r ho H locs ls hP hD hS hl)
theorem jm_iload (X : CX p m meth c cc nL ret s args Ts own D tys E A) (k : Nat) {i : Nat} {x : Int} (hk : lv[k]? = some (i, .int (iI x))) (hdg : decode cc pc = .ok (.iload i, 2)) (hn : pc + 2 = n) (kk : JM p l e R s m args below meth c wf D A H0 nL Qf σ n lv (.int (iI x) :: st) o) : JM p l e R s m args below meth c wf D A H0 nL Qf σ pc lv st o := by
  subst hn
  intro σ' r ho H locs ls hP hD hS hl
  exact lv_iload X.1 X.2.1 hdg (lv_at hl k hk) (kk σ' r ho H locs ls hP hD hS hl)
theorem jm_aload_n (X : CX p m meth c cc nL ret s args Ts own D tys E A) (k : Nat) {i : Fin 4} {a : Nat} (hk : lv[k]? = some ((i : Nat), .ref a)) (hdg : decode cc pc = .ok (.aload_n i, 1)) (hn : pc + 1 = n) (kk : JM p l e R s m args below meth c wf D A H0 nL Qf σ n lv (.ref a :: st) o) : JM p l e R s m args below meth c wf D A H0 nL Qf σ pc lv st o := by
  subst hn
  intro σ' r ho H locs ls hP hD hS hl
  exact lv_aload_n X.1 X.2.1 hdg rfl (lv_at hl k hk) (kk σ' r ho H locs ls hP hD hS hl)
theorem jm_aload (X : CX p m meth c cc nL ret s args Ts own D tys E A) (k : Nat) {i : Nat} {a : Nat} (hk : lv[k]? = some (i, .ref a)) (hdg : decode cc pc = .ok (.aload i, 2)) (hn : pc + 2 = n) (kk : JM p l e R s m args below meth c wf D A H0 nL Qf σ n lv (.ref a :: st) o) : JM p l e R s m args below meth c wf D A H0 nL Qf σ pc lv st o := by
  subst hn
  intro σ' r ho H locs ls hP hD hS hl
  exact lv_aload X.1 X.2.1 hdg (lv_at hl k hk) (kk σ' r ho H locs ls hP hD hS hl)
theorem jm_istore_n (X : CX p m meth c cc nL ret s args Ts own D tys E A) {i : Fin 4} {x : Int} {lv' : List (Nat × Value)} (hdg : decode cc pc = .ok (.istore_n i, 1)) (hi : (i : Nat) < nL) (hlv : ((i : Nat), Value.int (iI x)) :: lv.filter (fun q => !(q.1 == (i : Nat)) && !(q.1 + 1 == (i : Nat) && q.2.category == 2)) = lv') (hn : pc + 1 = n) (kk : JM p l e R s m args below meth c wf D A H0 nL Qf σ n lv' st o) : JM p l e R s m args below meth c wf D A H0 nL Qf σ pc lv (.int (iI x) :: st) o := by
  subst hn
  intro σ' r ho H locs ls hP hD hS hl
  exact lv_istore_n X.1 X.2.1 hdg rfl hl hi hlv (fun ls2 hl2 => kk σ' r ho H locs ls2 hP hD hS hl2)
theorem jm_istore (X : CX p m meth c cc nL ret s args Ts own D tys E A) {i : Nat} {x : Int} {lv' : List (Nat × Value)} (hdg : decode cc pc = .ok (.istore i, 2)) (hi : i < nL) (hlv : (i, Value.int (iI x)) :: lv.filter (fun q => !(q.1 == i) && !(q.1 + 1 == i && q.2.category == 2)) = lv') (hn : pc + 2 = n) (kk : JM p l e R s m args below meth c wf D A H0 nL Qf σ n lv' st o) : JM p l e R s m args below meth c wf D A H0 nL Qf σ pc lv (.int (iI x) :: st) o := by
  subst hn
  intro σ' r ho H locs ls hP hD hS hl
  exact lv_istore X.1 X.2.1 hdg hl hi hlv (fun ls2 hl2 => kk σ' r ho H locs ls2 hP hD hS hl2)
theorem jm_iinc (X : CX p m meth c cc nL ret s args Ts own D tys E A) (k : Nat) {i : Nat} {d x : Int} {lv' : List (Nat × Value)} {f : Option (Sg × Int)} (hk : lv[k]? = some (i, .int (iI x))) (hdg : decode cc pc = .ok (.iinc i d, 3)) (hi : i < nL) (hlv : (i, Value.int (iI (x + d))) :: lv.filter (fun q => !(q.1 == i) && !(q.1 + 1 == i && q.2.category == 2)) = lv') (hn : pc + 3 = n) (kk : inR (x + d) → JM p l e R s m args below meth c wf D A H0 nL Qf σ n lv' st f) : JM p l e R s m args below meth c wf D A H0 nL Qf σ pc lv st (ck (inR (x + d)) f) := by
  subst hn
  intro σ' r ho H locs ls hP hD hS hl
  by_cases h : inR (x + d)
  · rw [ck, if_pos h] at ho
    exact lv_iinc (v := iI (x + d)) X.1 X.2.1 hdg hl hk (iI_add x d) hi hlv (fun ls2 hl2 => kk h σ' r ho H locs ls2 hP hD hS hl2)
  · rw [ck, if_neg h] at ho; cases ho
theorem jm_ck {Pr : Prop} [Decidable Pr] {f : Option (Sg × Int)} (kk : Pr → JM p l e R s m args below meth c wf D A H0 nL Qf σ pc lv st f) : JM p l e R s m args below meth c wf D A H0 nL Qf σ pc lv st (ck Pr f) := by
  intro σ' r ho
  by_cases h : Pr
  · rw [ck, if_pos h] at ho; exact kk h σ' r ho
  · rw [ck, if_neg h] at ho; cases ho
theorem jm_perm (ks : List Nat) {lv' : List (Nat × Value)} (h : lv_pick lv ks = lv') (kk : JM p l e R s m args below meth c wf D A H0 nL Qf σ pc lv' st o) : JM p l e R s m args below meth c wf D A H0 nL Qf σ pc lv st o := fun σ' r ho H locs ls hP hD hS hl => kk σ' r ho H locs ls hP hD hS (lv_sub hl ks h)
theorem jm_iadd (X : CX p m meth c cc nL ret s args Ts own D tys E A) {x y : Int} {f : Option (Sg × Int)} (hdg : decode cc pc = .ok (.iadd, 1)) (hn : pc + 1 = n) (kk : inR (x + y) → JM p l e R s m args below meth c wf D A H0 nL Qf σ n lv (.int (iI (x + y)) :: st) f) : JM p l e R s m args below meth c wf D A H0 nL Qf σ pc lv (.int (iI y) :: .int (iI x) :: st) (ck (inR (x + y)) f) := by
  subst hn
  refine jm_ck fun h => ?_
  intro σ' r ho H locs ls hP hD hS hl
  refine lv_iadd X.1 X.2.1 hdg ?_
  rw [iI_add]
  exact kk h σ' r ho H locs ls hP hD hS hl
theorem jm_isub (X : CX p m meth c cc nL ret s args Ts own D tys E A) {x y : Int} {f : Option (Sg × Int)} (hdg : decode cc pc = .ok (.isub, 1)) (hn : pc + 1 = n) (kk : inR (x - y) → JM p l e R s m args below meth c wf D A H0 nL Qf σ n lv (.int (iI (x - y)) :: st) f) : JM p l e R s m args below meth c wf D A H0 nL Qf σ pc lv (.int (iI y) :: .int (iI x) :: st) (ck (inR (x - y)) f) := by
  subst hn
  refine jm_ck fun h => ?_
  intro σ' r ho H locs ls hP hD hS hl
  refine lv_isub X.1 X.2.1 hdg ?_
  rw [iI_sub]
  exact kk h σ' r ho H locs ls hP hD hS hl
theorem jm_imul (X : CX p m meth c cc nL ret s args Ts own D tys E A) {x y : Int} {f : Option (Sg × Int)} (hdg : decode cc pc = .ok (.imul, 1)) (hn : pc + 1 = n) (kk : inR (x * y) → JM p l e R s m args below meth c wf D A H0 nL Qf σ n lv (.int (iI (x * y)) :: st) f) : JM p l e R s m args below meth c wf D A H0 nL Qf σ pc lv (.int (iI y) :: .int (iI x) :: st) (ck (inR (x * y)) f) := by
  subst hn
  refine jm_ck fun h => ?_
  intro σ' r ho H locs ls hP hD hS hl
  refine lv_imul X.1 X.2.1 hdg ?_
  rw [iI_mul]
  exact kk h σ' r ho H locs ls hP hD hS hl
theorem jm_iaddW (X : CX p m meth c cc nL ret s args Ts own D tys E A) {x y : Int} (hdg : decode cc pc = .ok (.iadd, 1)) (hn : pc + 1 = n) (kk : JM p l e R s m args below meth c wf D A H0 nL Qf σ n lv (.int (iI (wr (x + y))) :: st) o) : JM p l e R s m args below meth c wf D A H0 nL Qf σ pc lv (.int (iI y) :: .int (iI x) :: st) o := by
  subst hn
  intro σ' r ho H locs ls hP hD hS hl
  refine lv_iadd X.1 X.2.1 hdg ?_
  rw [iI_add, ← iI_wr]
  exact kk σ' r ho H locs ls hP hD hS hl
theorem iI_div {x y : Int} (hx : inR x) (hy : inR y) (h0 : 0 ≤ x) (h1 : 0 < y) : iI x / iI y = iI (x / y) := by
  obtain ⟨a, rfl⟩ := Int.eq_ofNat_of_zero_le h0
  obtain ⟨b, rfl⟩ := Int.eq_ofNat_of_zero_le (Int.le_of_lt h1)
  have ea : iI (a : Int) = nI a := Int32.ofInt_eq_ofNat
  have eb : iI (b : Int) = nI b := Int32.ofInt_eq_ofNat
  have ec : iI ((a : Int) / (b : Int)) = nI (a / b) := Int32.ofInt_eq_ofNat
  rw [ea, eb, ec]
  exact pk_div (by have := hx.2; omega) (by omega) (by have := hy.2; omega)
theorem iI_rem {x y : Int} (hx : inR x) (hy : inR y) (h0 : 0 ≤ x) (h1 : 0 < y) : iI x - iI x / iI y * iI y = iI (x % y) := by
  rw [iI_div hx hy h0 h1, iI_mul, iI_sub]
  congr 1
  have := Int.emod_add_mul_ediv x y
  rw [Int.mul_comm] at this
  omega
theorem jm_idiv (X : CX p m meth c cc nL ret s args Ts own D tys E A) {x y : Int} {f : Option (Sg × Int)} (hdg : decode cc pc = .ok (.idiv, 1)) (hx : inR x) (hy : inR y) (h1 : 0 < y) (hn : pc + 1 = n) (kk : 0 ≤ x → JM p l e R s m args below meth c wf D A H0 nL Qf σ n lv (.int (iI (x / y)) :: st) f) : JM p l e R s m args below meth c wf D A H0 nL Qf σ pc lv (.int (iI y) :: .int (iI x) :: st) (ck (0 ≤ x) f) := by
  subst hn
  refine jm_ck fun h => ?_
  intro σ' r ho H locs ls hP hD hS hl
  refine lv_idiv X.1 X.2.1 hdg (fun q => ?_) ?_
  · have := (iI_eq hy inR_0).mp q; omega
  · rw [iI_div hx hy h h1]
    exact kk h σ' r ho H locs ls hP hD hS hl
theorem jm_irem (X : CX p m meth c cc nL ret s args Ts own D tys E A) {x y : Int} {f : Option (Sg × Int)} (hdg : decode cc pc = .ok (.irem, 1)) (hx : inR x) (hy : inR y) (h1 : 0 < y) (hn : pc + 1 = n) (kk : 0 ≤ x → JM p l e R s m args below meth c wf D A H0 nL Qf σ n lv (.int (iI (x % y)) :: st) f) : JM p l e R s m args below meth c wf D A H0 nL Qf σ pc lv (.int (iI y) :: .int (iI x) :: st) (ck (0 ≤ x) f) := by
  subst hn
  refine jm_ck fun h => ?_
  intro σ' r ho H locs ls hP hD hS hl
  refine lv_irem X.1 X.2.1 hdg (fun q => ?_) ?_
  · have := (iI_eq hy inR_0).mp q; omega
  · rw [iI_rem hx hy h h1]
    exact kk h σ' r ho H locs ls hP hD hS hl
theorem jm_dup (X : CX p m meth c cc nL ret s args Ts own D tys E A) {v : Value} (hdg : decode cc pc = .ok (.dup, 1)) (hv : v.category = 1) (hn : pc + 1 = n) (kk : JM p l e R s m args below meth c wf D A H0 nL Qf σ n lv (v :: v :: st) o) : JM p l e R s m args below meth c wf D A H0 nL Qf σ pc lv (v :: st) o := by
  subst hn
  intro σ' r ho H locs ls hP hD hS hl
  exact lv_dup X.1 X.2.1 hdg hv (kk σ' r ho H locs ls hP hD hS hl)
theorem jm_pop (X : CX p m meth c cc nL ret s args Ts own D tys E A) {v : Value} (hdg : decode cc pc = .ok (.pop, 1)) (hv : v.category = 1) (hn : pc + 1 = n) (kk : JM p l e R s m args below meth c wf D A H0 nL Qf σ n lv st o) : JM p l e R s m args below meth c wf D A H0 nL Qf σ pc lv (v :: st) o := by
  subst hn
  intro σ' r ho H locs ls hP hD hS hl
  exact lv_pop X.1 X.2.1 hdg hv (kk σ' r ho H locs ls hP hD hS hl)
theorem jm_dup_x1 (X : CX p m meth c cc nL ret s args Ts own D tys E A) {v w : Value} (hdg : decode cc pc = .ok (.dup_x1, 1)) (hv : v.category = 1) (hw : w.category = 1) (hn : pc + 1 = n) (kk : JM p l e R s m args below meth c wf D A H0 nL Qf σ n lv (v :: w :: v :: st) o) : JM p l e R s m args below meth c wf D A H0 nL Qf σ pc lv (v :: w :: st) o := by
  subst hn
  intro σ' r ho H locs ls hP hD hS hl
  exact lv_dup_x1 X.1 X.2.1 hdg hv hw (kk σ' r ho H locs ls hP hD hS hl)
theorem jm_dup2 (X : CX p m meth c cc nL ret s args Ts own D tys E A) {v w : Value} (hdg : decode cc pc = .ok (.dup2, 1)) (hv : v.category = 1) (hw : w.category = 1) (hn : pc + 1 = n) (kk : JM p l e R s m args below meth c wf D A H0 nL Qf σ n lv (v :: w :: v :: w :: st) o) : JM p l e R s m args below meth c wf D A H0 nL Qf σ pc lv (v :: w :: st) o := by
  subst hn
  intro σ' r ho H locs ls hP hD hS hl
  exact lv_dup2_11 X.1 X.2.1 hdg hv hw (kk σ' r ho H locs ls hP hD hS hl)
theorem jm_goto (X : CX p m meth c cc nL ret s args Ts own D tys E A) {off : Int} (hdg : decode cc pc = .ok (.goto off, 3)) (ht : (pc : Int) + off = (n : Int)) (kk : JM p l e R s m args below meth c wf D A H0 nL Qf σ n lv st o) : JM p l e R s m args below meth c wf D A H0 nL Qf σ pc lv st o := by
  intro σ' r ho H locs ls hP hD hS hl
  exact lv_goto X.1 X.2.1 hdg ht (kk σ' r ho H locs ls hP hD hS hl)
def mx (x y : Int) : Int := if x < y then y else x
def mn (x y : Int) : Int := if y < x then y else x
theorem in_mx {x y : Int} (hx : inR x) (hy : inR y) : inR (mx x y) := by
  unfold mx
  split
  · exact hy
  · exact hx
theorem in_mn {x y : Int} (hx : inR x) (hy : inR y) : inR (mn x y) := by
  unfold mn
  split
  · exact hy
  · exact hx
theorem jm_mmax (X : CX p m meth c cc nL ret s args Ts own D tys E A) {x y : Int} {idx : Nat} (hlink : Cond.methodLink own idx Lib.Math.max.name ∈ Ts) (hstat : Cond.static Lib.Math.max.name ∈ Ts) (hini : Cond.initialized "java/lang/Math" ∈ Ts) (hcode : Cond.code Lib.Math.max.name Lib.Math.max.code 2 (some .int) ∈ Ts) (hR : 1 ≤ R.frames ∧ (st.map fun v => v.category).sum + 13 ≤ R.locals) (hx : inR x) (hy : inR y) (hdg : decode cc pc = .ok (.invokestatic idx, 3)) (hn : pc + 3 = n) (kk : JM p l e R s m args below meth c wf D A H0 nL Qf σ n lv (.int (iI (mx x y)) :: st) o) : JM p l e R s m args below meth c wf D A H0 nL Qf σ pc lv (.int (iI y) :: .int (iI x) :: st) o := by
  subst hn
  intro σ' r ho H locs ls hP hD hS hl
  refine va_mmax X.1 X.2.1 (X.2.2.1.trans hl.1.symm) X.2.2.2.1 (X.2.2.2.2.1 _ hlink) (X.2.2.2.2.1 _ hstat) (X.2.2.2.2.1 _ hini) (X.2.2.2.2.1 _ hcode) hR.1 hR.2 (Nat.zero_le _) (Nat.zero_le _) hdg ?_
  have e1 : (if iI x < iI y then iI y else iI x) = iI (mx x y) := by
    unfold mx
    by_cases h : iI x < iI y
    · rw [if_pos h, if_pos ((iI_lt hx hy).mp h)]
    · rw [if_neg h, if_neg (fun z => h ((iI_lt hx hy).mpr z))]
  rw [e1]
  exact kk σ' r ho H locs ls hP hD hS hl
theorem jm_mmin (X : CX p m meth c cc nL ret s args Ts own D tys E A) {x y : Int} {idx : Nat} (hlink : Cond.methodLink own idx Lib.Math.min.name ∈ Ts) (hstat : Cond.static Lib.Math.min.name ∈ Ts) (hini : Cond.initialized "java/lang/Math" ∈ Ts) (hcode : Cond.code Lib.Math.min.name Lib.Math.min.code 2 (some .int) ∈ Ts) (hR : 1 ≤ R.frames ∧ (st.map fun v => v.category).sum + 13 ≤ R.locals) (hx : inR x) (hy : inR y) (hdg : decode cc pc = .ok (.invokestatic idx, 3)) (hn : pc + 3 = n) (kk : JM p l e R s m args below meth c wf D A H0 nL Qf σ n lv (.int (iI (mn x y)) :: st) o) : JM p l e R s m args below meth c wf D A H0 nL Qf σ pc lv (.int (iI y) :: .int (iI x) :: st) o := by
  subst hn
  intro σ' r ho H locs ls hP hD hS hl
  refine va_mmin X.1 X.2.1 (X.2.2.1.trans hl.1.symm) X.2.2.2.1 (X.2.2.2.2.1 _ hlink) (X.2.2.2.2.1 _ hstat) (X.2.2.2.2.1 _ hini) (X.2.2.2.2.1 _ hcode) hR.1 hR.2 (Nat.zero_le _) (Nat.zero_le _) hdg ?_
  have e1 : (if iI y < iI x then iI y else iI x) = iI (mn x y) := by
    unfold mn
    by_cases h : iI y < iI x
    · rw [if_pos h, if_pos ((iI_lt hy hx).mp h)]
    · rw [if_neg h, if_neg (fun z => h ((iI_lt hy hx).mpr z))]
  rw [e1]
  exact kk σ' r ho H locs ls hP hD hS hl
theorem jm_icmp_lt (X : CX p m meth c cc nL ret s args Ts own D tys E A) {x y off : Int} {tgt : Nat} {f g : Option (Sg × Int)} (hdg : decode cc pc = .ok (.if_icmp .lt off, 3)) (ht : (pc : Int) + off = (tgt : Int)) (hx : inR x) (hy : inR y) (hn : pc + 3 = n) (kt : x < y → JM p l e R s m args below meth c wf D A H0 nL Qf σ tgt lv st f) (kf : ¬ x < y → JM p l e R s m args below meth c wf D A H0 nL Qf σ n lv st g) : JM p l e R s m args below meth c wf D A H0 nL Qf σ pc lv (.int (iI y) :: .int (iI x) :: st) (if x < y then f else g) := by
  subst hn
  intro σ' r ho H locs ls hP hD hS hl
  refine lv_icmp_lt X.1 X.2.1 hdg ht (fun q => ?_) (fun q => ?_)
  · have q := (iI_lt hx hy).mp q
    rw [if_pos q] at ho
    exact kt q σ' r ho H locs ls hP hD hS hl
  · have q := fun z => q ((iI_lt hx hy).mpr z)
    rw [if_neg q] at ho
    exact kf q σ' r ho H locs ls hP hD hS hl
theorem jm_if_lt (X : CX p m meth c cc nL ret s args Ts own D tys E A) {x off : Int} {tgt : Nat} {f g : Option (Sg × Int)} (hdg : decode cc pc = .ok (.ifCond .lt off, 3)) (ht : (pc : Int) + off = (tgt : Int)) (hx : inR x) (hn : pc + 3 = n) (kt : x < 0 → JM p l e R s m args below meth c wf D A H0 nL Qf σ tgt lv st f) (kf : ¬ x < 0 → JM p l e R s m args below meth c wf D A H0 nL Qf σ n lv st g) : JM p l e R s m args below meth c wf D A H0 nL Qf σ pc lv (.int (iI x) :: st) (if x < 0 then f else g) := by
  subst hn
  intro σ' r ho H locs ls hP hD hS hl
  refine lv_if_lt X.1 X.2.1 hdg ht (fun q => ?_) (fun q => ?_)
  · have q := (iI_lt hx inR_0).mp (show _ from q)
    rw [if_pos q] at ho
    exact kt q σ' r ho H locs ls hP hD hS hl
  · have q := fun z => q ((iI_lt hx inR_0).mpr z)
    rw [if_neg q] at ho
    exact kf q σ' r ho H locs ls hP hD hS hl
theorem jm_icmp_ge (X : CX p m meth c cc nL ret s args Ts own D tys E A) {x y off : Int} {tgt : Nat} {f g : Option (Sg × Int)} (hdg : decode cc pc = .ok (.if_icmp .ge off, 3)) (ht : (pc : Int) + off = (tgt : Int)) (hx : inR x) (hy : inR y) (hn : pc + 3 = n) (kt : y ≤ x → JM p l e R s m args below meth c wf D A H0 nL Qf σ tgt lv st f) (kf : ¬ y ≤ x → JM p l e R s m args below meth c wf D A H0 nL Qf σ n lv st g) : JM p l e R s m args below meth c wf D A H0 nL Qf σ pc lv (.int (iI y) :: .int (iI x) :: st) (if y ≤ x then f else g) := by
  subst hn
  intro σ' r ho H locs ls hP hD hS hl
  refine lv_icmp_ge X.1 X.2.1 hdg ht (fun q => ?_) (fun q => ?_)
  · have q := (iI_le hy hx).mp q
    rw [if_pos q] at ho
    exact kt q σ' r ho H locs ls hP hD hS hl
  · have q := fun z => q ((iI_le hy hx).mpr z)
    rw [if_neg q] at ho
    exact kf q σ' r ho H locs ls hP hD hS hl
theorem jm_if_ge (X : CX p m meth c cc nL ret s args Ts own D tys E A) {x off : Int} {tgt : Nat} {f g : Option (Sg × Int)} (hdg : decode cc pc = .ok (.ifCond .ge off, 3)) (ht : (pc : Int) + off = (tgt : Int)) (hx : inR x) (hn : pc + 3 = n) (kt : 0 ≤ x → JM p l e R s m args below meth c wf D A H0 nL Qf σ tgt lv st f) (kf : ¬ 0 ≤ x → JM p l e R s m args below meth c wf D A H0 nL Qf σ n lv st g) : JM p l e R s m args below meth c wf D A H0 nL Qf σ pc lv (.int (iI x) :: st) (if 0 ≤ x then f else g) := by
  subst hn
  intro σ' r ho H locs ls hP hD hS hl
  refine lv_if_ge X.1 X.2.1 hdg ht (fun q => ?_) (fun q => ?_)
  · have q := (iI_le inR_0 hx).mp (show _ from q)
    rw [if_pos q] at ho
    exact kt q σ' r ho H locs ls hP hD hS hl
  · have q := fun z => q ((iI_le inR_0 hx).mpr z)
    rw [if_neg q] at ho
    exact kf q σ' r ho H locs ls hP hD hS hl
theorem jm_icmp_gt (X : CX p m meth c cc nL ret s args Ts own D tys E A) {x y off : Int} {tgt : Nat} {f g : Option (Sg × Int)} (hdg : decode cc pc = .ok (.if_icmp .gt off, 3)) (ht : (pc : Int) + off = (tgt : Int)) (hx : inR x) (hy : inR y) (hn : pc + 3 = n) (kt : y < x → JM p l e R s m args below meth c wf D A H0 nL Qf σ tgt lv st f) (kf : ¬ y < x → JM p l e R s m args below meth c wf D A H0 nL Qf σ n lv st g) : JM p l e R s m args below meth c wf D A H0 nL Qf σ pc lv (.int (iI y) :: .int (iI x) :: st) (if y < x then f else g) := by
  subst hn
  intro σ' r ho H locs ls hP hD hS hl
  refine lv_icmp_gt X.1 X.2.1 hdg ht (fun q => ?_) (fun q => ?_)
  · have q := (iI_lt hy hx).mp q
    rw [if_pos q] at ho
    exact kt q σ' r ho H locs ls hP hD hS hl
  · have q := fun z => q ((iI_lt hy hx).mpr z)
    rw [if_neg q] at ho
    exact kf q σ' r ho H locs ls hP hD hS hl
theorem jm_if_gt (X : CX p m meth c cc nL ret s args Ts own D tys E A) {x off : Int} {tgt : Nat} {f g : Option (Sg × Int)} (hdg : decode cc pc = .ok (.ifCond .gt off, 3)) (ht : (pc : Int) + off = (tgt : Int)) (hx : inR x) (hn : pc + 3 = n) (kt : 0 < x → JM p l e R s m args below meth c wf D A H0 nL Qf σ tgt lv st f) (kf : ¬ 0 < x → JM p l e R s m args below meth c wf D A H0 nL Qf σ n lv st g) : JM p l e R s m args below meth c wf D A H0 nL Qf σ pc lv (.int (iI x) :: st) (if 0 < x then f else g) := by
  subst hn
  intro σ' r ho H locs ls hP hD hS hl
  refine lv_if_gt X.1 X.2.1 hdg ht (fun q => ?_) (fun q => ?_)
  · have q := (iI_lt inR_0 hx).mp (show _ from q)
    rw [if_pos q] at ho
    exact kt q σ' r ho H locs ls hP hD hS hl
  · have q := fun z => q ((iI_lt inR_0 hx).mpr z)
    rw [if_neg q] at ho
    exact kf q σ' r ho H locs ls hP hD hS hl
theorem jm_icmp_le (X : CX p m meth c cc nL ret s args Ts own D tys E A) {x y off : Int} {tgt : Nat} {f g : Option (Sg × Int)} (hdg : decode cc pc = .ok (.if_icmp .le off, 3)) (ht : (pc : Int) + off = (tgt : Int)) (hx : inR x) (hy : inR y) (hn : pc + 3 = n) (kt : x ≤ y → JM p l e R s m args below meth c wf D A H0 nL Qf σ tgt lv st f) (kf : ¬ x ≤ y → JM p l e R s m args below meth c wf D A H0 nL Qf σ n lv st g) : JM p l e R s m args below meth c wf D A H0 nL Qf σ pc lv (.int (iI y) :: .int (iI x) :: st) (if x ≤ y then f else g) := by
  subst hn
  intro σ' r ho H locs ls hP hD hS hl
  refine lv_icmp_le X.1 X.2.1 hdg ht (fun q => ?_) (fun q => ?_)
  · have q := (iI_le hx hy).mp q
    rw [if_pos q] at ho
    exact kt q σ' r ho H locs ls hP hD hS hl
  · have q := fun z => q ((iI_le hx hy).mpr z)
    rw [if_neg q] at ho
    exact kf q σ' r ho H locs ls hP hD hS hl
theorem jm_if_le (X : CX p m meth c cc nL ret s args Ts own D tys E A) {x off : Int} {tgt : Nat} {f g : Option (Sg × Int)} (hdg : decode cc pc = .ok (.ifCond .le off, 3)) (ht : (pc : Int) + off = (tgt : Int)) (hx : inR x) (hn : pc + 3 = n) (kt : x ≤ 0 → JM p l e R s m args below meth c wf D A H0 nL Qf σ tgt lv st f) (kf : ¬ x ≤ 0 → JM p l e R s m args below meth c wf D A H0 nL Qf σ n lv st g) : JM p l e R s m args below meth c wf D A H0 nL Qf σ pc lv (.int (iI x) :: st) (if x ≤ 0 then f else g) := by
  subst hn
  intro σ' r ho H locs ls hP hD hS hl
  refine lv_if_le X.1 X.2.1 hdg ht (fun q => ?_) (fun q => ?_)
  · have q := (iI_le hx inR_0).mp (show _ from q)
    rw [if_pos q] at ho
    exact kt q σ' r ho H locs ls hP hD hS hl
  · have q := fun z => q ((iI_le hx inR_0).mpr z)
    rw [if_neg q] at ho
    exact kf q σ' r ho H locs ls hP hD hS hl
theorem jm_icmp_eq (X : CX p m meth c cc nL ret s args Ts own D tys E A) {x y off : Int} {tgt : Nat} {f g : Option (Sg × Int)} (hdg : decode cc pc = .ok (.if_icmp .eq off, 3)) (ht : (pc : Int) + off = (tgt : Int)) (hx : inR x) (hy : inR y) (hn : pc + 3 = n) (kt : x = y → JM p l e R s m args below meth c wf D A H0 nL Qf σ tgt lv st f) (kf : ¬ x = y → JM p l e R s m args below meth c wf D A H0 nL Qf σ n lv st g) : JM p l e R s m args below meth c wf D A H0 nL Qf σ pc lv (.int (iI y) :: .int (iI x) :: st) (if x = y then f else g) := by
  subst hn
  intro σ' r ho H locs ls hP hD hS hl
  refine lv_icmp_eq X.1 X.2.1 hdg ht (fun q => ?_) (fun q => ?_)
  · have q := (iI_eq hx hy).mp q
    rw [if_pos q] at ho
    exact kt q σ' r ho H locs ls hP hD hS hl
  · have q := fun z => q ((iI_eq hx hy).mpr z)
    rw [if_neg q] at ho
    exact kf q σ' r ho H locs ls hP hD hS hl
theorem jm_if_eq (X : CX p m meth c cc nL ret s args Ts own D tys E A) {x off : Int} {tgt : Nat} {f g : Option (Sg × Int)} (hdg : decode cc pc = .ok (.ifCond .eq off, 3)) (ht : (pc : Int) + off = (tgt : Int)) (hx : inR x) (hn : pc + 3 = n) (kt : x = 0 → JM p l e R s m args below meth c wf D A H0 nL Qf σ tgt lv st f) (kf : ¬ x = 0 → JM p l e R s m args below meth c wf D A H0 nL Qf σ n lv st g) : JM p l e R s m args below meth c wf D A H0 nL Qf σ pc lv (.int (iI x) :: st) (if x = 0 then f else g) := by
  subst hn
  intro σ' r ho H locs ls hP hD hS hl
  refine lv_if_eq X.1 X.2.1 hdg ht (fun q => ?_) (fun q => ?_)
  · have q := (iI_eq hx inR_0).mp (show _ from q)
    rw [if_pos q] at ho
    exact kt q σ' r ho H locs ls hP hD hS hl
  · have q := fun z => q ((iI_eq hx inR_0).mpr z)
    rw [if_neg q] at ho
    exact kf q σ' r ho H locs ls hP hD hS hl
theorem jm_icmp_ne (X : CX p m meth c cc nL ret s args Ts own D tys E A) {x y off : Int} {tgt : Nat} {f g : Option (Sg × Int)} (hdg : decode cc pc = .ok (.if_icmp .ne off, 3)) (ht : (pc : Int) + off = (tgt : Int)) (hx : inR x) (hy : inR y) (hn : pc + 3 = n) (kt : x = y → JM p l e R s m args below meth c wf D A H0 nL Qf σ n lv st f) (kf : ¬ x = y → JM p l e R s m args below meth c wf D A H0 nL Qf σ tgt lv st g) : JM p l e R s m args below meth c wf D A H0 nL Qf σ pc lv (.int (iI y) :: .int (iI x) :: st) (if x = y then f else g) := by
  subst hn
  intro σ' r ho H locs ls hP hD hS hl
  refine lv_icmp_ne X.1 X.2.1 hdg ht (fun q => ?_) (fun q => ?_)
  · have q := fun z => q ((iI_eq hx hy).mpr z)
    rw [if_neg q] at ho
    exact kf q σ' r ho H locs ls hP hD hS hl
  · have q := (iI_eq hx hy).mp q
    rw [if_pos q] at ho
    exact kt q σ' r ho H locs ls hP hD hS hl
theorem jm_if_ne (X : CX p m meth c cc nL ret s args Ts own D tys E A) {x off : Int} {tgt : Nat} {f g : Option (Sg × Int)} (hdg : decode cc pc = .ok (.ifCond .ne off, 3)) (ht : (pc : Int) + off = (tgt : Int)) (hx : inR x) (hn : pc + 3 = n) (kt : x = 0 → JM p l e R s m args below meth c wf D A H0 nL Qf σ n lv st f) (kf : ¬ x = 0 → JM p l e R s m args below meth c wf D A H0 nL Qf σ tgt lv st g) : JM p l e R s m args below meth c wf D A H0 nL Qf σ pc lv (.int (iI x) :: st) (if x = 0 then f else g) := by
  subst hn
  intro σ' r ho H locs ls hP hD hS hl
  refine lv_if_ne X.1 X.2.1 hdg ht (fun q => ?_) (fun q => ?_)
  · have q := fun z => q ((iI_eq hx inR_0).mpr z)
    rw [if_neg q] at ho
    exact kf q σ' r ho H locs ls hP hD hS hl
  · have q := (iI_eq hx inR_0).mp q
    rw [if_pos q] at ho
    exact kt q σ' r ho H locs ls hP hD hS hl
theorem jm_tcase (X : CX p m meth c cc nL ret s args Ts own D tys E A) {x : Int} {dflt lo hi off : Int} {offs : Array Int} {len tgt : Nat} {f g : Option (Sg × Int)} (k : Int) (hdg : decode cc pc = .ok (.tableswitch dflt lo hi offs, len)) (hx : inR x) (hlo : lo ≤ k) (hhi : k ≤ hi) (ho9 : offs[(k - lo).toNat]? = some off) (ht : (pc : Int) + off = (tgt : Int)) (kt : x = k → JM p l e R s m args below meth c wf D A H0 nL Qf σ tgt lv st f) (kf : ¬ x = k → JM p l e R s m args below meth c wf D A H0 nL Qf σ pc lv (.int (iI x) :: st) g) : JM p l e R s m args below meth c wf D A H0 nL Qf σ pc lv (.int (iI x) :: st) (if x = k then f else g) := by
  intro σ' r ho H locs ls hP hD hS hl
  by_cases q : x = k
  · rw [if_pos q] at ho
    refine lv_tableIn X.1 X.2.1 hdg (by rw [iI_toInt hx]; omega) (by rw [iI_toInt hx]; omega) (by rw [iI_toInt hx, q]; exact ho9) ht (kt q σ' r ho H locs ls hP hD hS hl)
  · rw [if_neg q] at ho
    exact kf q σ' r ho H locs ls hP hD hS hl
theorem jm_tout (X : CX p m meth c cc nL ret s args Ts own D tys E A) {x : Int} {dflt lo hi : Int} {offs : Array Int} {len tgt : Nat} (hdg : decode cc pc = .ok (.tableswitch dflt lo hi offs, len)) (hx : inR x) (ht : (pc : Int) + dflt = (tgt : Int)) (h : x < lo ∨ hi < x) (kk : JM p l e R s m args below meth c wf D A H0 nL Qf σ tgt lv st o) : JM p l e R s m args below meth c wf D A H0 nL Qf σ pc lv (.int (iI x) :: st) o := by
  intro σ' r ho H locs ls hP hD hS hl
  exact lv_tableOut X.1 X.2.1 hdg (by rw [iI_toInt hx]; exact h) ht (kk σ' r ho H locs ls hP hD hS hl)
theorem jm_get (X : CX p m meth c cc nL ret s args Ts own D tys E A) (q0 ci k : Nat) {C : String} {T : u_T} {N idx a : Nat} {fs : List Value} {v : Value} (he : (wf σ)[q0]? = some (a, .inr (ci, fs))) (hc : vwCl[ci]? = some (C, T, N)) (hk : k < N) (hin : ∀ w ∈ u_ws C T N, w ∈ Ts) (hlink : Cond.fieldLink own idx (T k).1 (T k).2.1 (T k).2.2.1 ∈ Ts) (hv : fs[k]? = some v) (hdg : decode cc pc = .ok (.getfield idx, 3)) (hn : pc + 3 = n) (kk : JM p l e R s m args below meth c wf D A H0 nL Qf σ n lv (v :: st) o) : JM p l e R s m args below meth c wf D A H0 nL Qf σ pc lv (.ref a :: st) o := by
  subst hn
  intro σ' r ho H locs ls hP hD hS hl
  exact va_get X.1 X.2.1 X.2.2.2.2.1 hin X.2.2.2.1 X.2.2.2.2.2.1 hP q0 he hc k hk (X.2.2.2.2.1 _ hlink) (fun _ h => h) hv hdg (kk σ' r ho H locs ls hP hD hS hl)
theorem jm_put (X : CX p m meth c cc nL ret s args Ts own D tys E A) (q0 ci k j : Nat) {C : String} {T : u_T} {N idx a : Nat} {fs : List Value} {v : Value} {z : Int} {ty : FieldType} {f : Sg → Option (Sg × Int)} (he : (wf σ)[q0]? = some (a, .inr (ci, fs))) (hc : vwCl[ci]? = some (C, T, N)) (hk : k < N) (hin : ∀ w ∈ u_ws C T N, w ∈ Ts) (ty0 : Nat → FieldType) (hty : ∀ k, k < N → parseFieldDescriptor (T k).2.2.1 = some (ty0 k)) (hnm : ∀ a, a < N → ∀ b, b < N → a ≠ b → (T a).2.1 ≠ (T b).2.1) (hlink : Cond.fieldLink own idx (T k).1 (T k).2.1 (T k).2.2.1 ∈ Ts) (hfin : (T k).2.2.2 = false) (hd : ty0 k = ty) (hnar : narrow ty v = v) (hfit : fits ty v = true) (hlen : k < fs.length) (hset : (wf σ).set q0 (a, .inr (ci, fs.set k v)) = wf (sI σ j z)) (hok : ok σ) (hz : inR z) (hdg : decode cc pc = .ok (.putfield idx, 3)) (hn : pc + 3 = n) (kk : ∀ τ, ok τ → JM p l e R s m args below meth c wf D A H0 nL Qf τ n lv st (f τ)) : JM p l e R s m args below meth c wf D A H0 nL Qf σ pc lv (v :: .ref a :: st) (nx (sI σ j z) f) := by
  subst hn
  subst hd
  intro σ' r ho H locs ls hP hD hS hl
  refine va_put X.1 X.2.1 X.2.2.2.2.1 hin ty0 hty hnm X.2.2.2.1 X.2.2.2.2.2.1 hP hD hS q0 he hc k hk (X.2.2.2.2.1 _ hlink) (fun _ h => h) hfin (hty k hk) hnar hfit hlen hdg (fun H1 locs1 hP1 hD1 hS1 => ?_)
  rw [hset] at hP1 hD1
  exact kk _ (ok_sI hok j hz) σ' r ho H1 locs1 ls hP1 hD1 hS1 hl
theorem narrow_I (x : Int32) : narrow .int (.int x) = .int x := rfl
theorem fits_I (x : Int32) : fits .int (.int x) = true := rfl
theorem narrow_Z {z : Int} (h : z = 0 ∨ z = 1) : narrow .boolean (.int (iI z)) = .int (iI z) := by rcases h with rfl | rfl <;> rfl
theorem fits_Z {z : Int} (h : z = 0 ∨ z = 1) : fits .boolean (.int (iI z)) = true := by rcases h with rfl | rfl <;> rfl
theorem jm_ald (X : CX p m meth c cc nL ret s args Ts own D tys E A) (q0 t0 k : Nat) {cA : ClassId} {N a : Nat} {z M : Int} {f : Option (Sg × Int)} (ha : (wf σ)[q0]? = some (a, .inl (cA, N, .inl (fun j : Nat => iI (gA σ k j))))) (ht : tys[t0]? = some (cA, .int)) (hM : (N : Int) = M) (hz : inR z) (hdg : decode cc pc = .ok (.iaload, 1)) (hn : pc + 1 = n) (kk : 0 ≤ z ∧ z < M → JM p l e R s m args below meth c wf D A H0 nL Qf σ n lv (.int (iI (gA σ k z)) :: st) f) : JM p l e R s m args below meth c wf D A H0 nL Qf σ pc lv (.int (iI z) :: .ref a :: st) (ck (0 ≤ z ∧ z < M) f) := by
  subst hn
  subst hM
  refine jm_ck fun h => ?_
  intro σ' r ho H locs ls hP hD hS hl
  refine va_iald X.1 X.2.1 X.2.2.2.2.2.1 hP q0 t0 ha ht ((iI_in hz).mpr h) hdg ?_
  have e1 : iI (gA σ k ((iI z).toNatClampNeg : Nat)) = iI (gA σ k z) := by rw [iI_cl hz, Int.toNat_of_nonneg h.1]
  show W p l e R s m args below meth c H locs 0 0 (Qf σ' r) (F0 m (pc + 1) ls (.int (iI (gA σ k ((iI z).toNatClampNeg : Nat))) :: st))
  rw [e1]
  exact kk h σ' r ho H locs ls hP hD hS hl
theorem upd_sA {σ : Sg} {k : Nat} {z v : Int} (hz : inR z) (h0 : 0 ≤ z) : upd (fun j : Nat => iI (gA σ k j)) (iI z).toNatClampNeg (iI v) = fun j : Nat => iI (gA (sA σ k z v) k j) := by
  funext j
  rw [iI_cl hz]
  show (if j = z.toNat then iI v else iI (gA σ k j)) = iI ((bif Nat.beq k k then (fun t => if t = z then v else σ.2 k t) else σ.2 k) (j : Int))
  rw [show Nat.beq k k = true from Nat.beq_refl k]
  show (if j = z.toNat then iI v else iI (gA σ k j)) = iI (if (j : Int) = z then v else σ.2 k j)
  by_cases h : j = z.toNat
  · rw [if_pos h, if_pos (by omega)]
  · rw [if_neg h, if_neg (by omega)]; rfl
theorem jm_ast (X : CX p m meth c cc nL ret s args Ts own D tys E A) (q0 t0 k : Nat) {cA : ClassId} {N a : Nat} {z M v : Int} {f : Sg → Option (Sg × Int)} (ha : (wf σ)[q0]? = some (a, .inl (cA, N, .inl (fun j : Nat => iI (gA σ k j))))) (ht : tys[t0]? = some (cA, .int)) (hM : (N : Int) = M) (hset : (wf σ).set q0 (a, .inl (cA, N, .inl (fun j : Nat => iI (gA (sA σ k z v) k j)))) = wf (sA σ k z v)) (hok : ok σ) (hz : inR z) (hv : inR v) (hdg : decode cc pc = .ok (.iastore, 1)) (hn : pc + 1 = n) (kk : 0 ≤ z ∧ z < M → ∀ τ, ok τ → JM p l e R s m args below meth c wf D A H0 nL Qf τ n lv st (f τ)) : JM p l e R s m args below meth c wf D A H0 nL Qf σ pc lv (.int (iI v) :: .int (iI z) :: .ref a :: st) (ck (0 ≤ z ∧ z < M) (nx (sA σ k z v) f)) := by
  subst hn
  subst hM
  refine jm_ck fun h => ?_
  intro σ' r ho H locs ls hP hD hS hl
  refine va_iast X.1 X.2.1 X.2.2.2.2.2.1 hP hD hS q0 t0 ha ht ((iI_in hz).mpr h) hdg (fun H1 locs1 hP1 hD1 hS1 => ?_)
  rw [upd_sA hz h.1, hset] at hP1 hD1
  exact kk h _ (ok_sA hok k z hv) σ' r ho H1 locs1 ls hP1 hD1 hS1 hl
theorem jm_zald (X : CX p m meth c cc nL ret s args Ts own D tys E A) (q0 t0 k : Nat) {cA : ClassId} {N a : Nat} {z M : Int} {f : Option (Sg × Int)} (ha : (wf σ)[q0]? = some (a, .inl (cA, N, .inl (fun j : Nat => iI (gA σ k j))))) (ht : tys[t0]? = some (cA, .boolean)) (hM : (N : Int) = M) (hz : inR z) (hdg : decode cc pc = .ok (.baload, 1)) (hn : pc + 1 = n) (kk : 0 ≤ z ∧ z < M → JM p l e R s m args below meth c wf D A H0 nL Qf σ n lv (.int (iI (gA σ k z)) :: st) f) : JM p l e R s m args below meth c wf D A H0 nL Qf σ pc lv (.int (iI z) :: .ref a :: st) (ck (0 ≤ z ∧ z < M) f) := by
  subst hn
  subst hM
  refine jm_ck fun h => ?_
  intro σ' r ho H locs ls hP hD hS hl
  refine va_zald X.1 X.2.1 X.2.2.2.2.2.1 hP q0 t0 ha ht ((iI_in hz).mpr h) hdg ?_
  have e1 : iI (gA σ k ((iI z).toNatClampNeg : Nat)) = iI (gA σ k z) := by rw [iI_cl hz, Int.toNat_of_nonneg h.1]
  show W p l e R s m args below meth c H locs 0 0 (Qf σ' r) (F0 m (pc + 1) ls (.int (iI (gA σ k ((iI z).toNatClampNeg : Nat))) :: st))
  rw [e1]
  exact kk h σ' r ho H locs ls hP hD hS hl
theorem nar_Z {v : Int} (h : v = 0 ∨ v = 1) : vp_nar .boolean (iI v) = iI v := by rcases h with rfl | rfl <;> rfl
theorem jm_zast (X : CX p m meth c cc nL ret s args Ts own D tys E A) (q0 t0 k : Nat) {cA : ClassId} {N a : Nat} {z M v : Int} {f : Sg → Option (Sg × Int)} (ha : (wf σ)[q0]? = some (a, .inl (cA, N, .inl (fun j : Nat => iI (gA σ k j))))) (ht : tys[t0]? = some (cA, .boolean)) (hM : (N : Int) = M) (hset : (wf σ).set q0 (a, .inl (cA, N, .inl (fun j : Nat => iI (gA (sA σ k z v) k j)))) = wf (sA σ k z v)) (hok : ok σ) (hz : inR z) (hv : v = 0 ∨ v = 1) (hdg : decode cc pc = .ok (.bastore, 1)) (hn : pc + 1 = n) (kk : 0 ≤ z ∧ z < M → ∀ τ, ok τ → JM p l e R s m args below meth c wf D A H0 nL Qf τ n lv st (f τ)) : JM p l e R s m args below meth c wf D A H0 nL Qf σ pc lv (.int (iI v) :: .int (iI z) :: .ref a :: st) (ck (0 ≤ z ∧ z < M) (nx (sA σ k z v) f)) := by
  subst hn
  subst hM
  refine jm_ck fun h => ?_
  intro σ' r ho H locs ls hP hD hS hl
  refine va_zast X.1 X.2.1 X.2.2.2.2.2.1 hP hD hS q0 t0 ha ht ((iI_in hz).mpr h) hdg (fun H1 locs1 hP1 hD1 hS1 => ?_)
  rw [nar_Z hv, upd_sA hz h.1, hset] at hP1 hD1
  exact kk h _ (ok_sA hok k z (by rcases hv with rfl | rfl <;> decide)) σ' r ho H1 locs1 ls hP1 hD1 hS1 hl
theorem jm_alen (X : CX p m meth c cc nL ret s args Ts own D tys E A) (q0 t0 : Nat) {cA : ClassId} {N a : Nat} {ty : FieldType} {z : Int} {g : Nat → Int32} (ha : (wf σ)[q0]? = some (a, .inl (cA, N, .inl g))) (ht : tys[t0]? = some (cA, ty)) (hN : Int32.ofNat N = iI z) (hdg : decode cc pc = .ok (.arraylength, 1)) (hn : pc + 1 = n) (kk : JM p l e R s m args below meth c wf D A H0 nL Qf σ n lv (.int (iI z) :: st) o) : JM p l e R s m args below meth c wf D A H0 nL Qf σ pc lv (.ref a :: st) o := by
  subst hn
  intro σ' r ho H locs ls hP hD hS hl
  exact va_alen X.1 X.2.1 X.2.2.2.2.2.1 hP q0 t0 ha ht hN hdg (kk σ' r ho H locs ls hP hD hS hl)
end JMR
/-- a method's start and end over a world of states -/
def PP (E : EE) (wf : Sg → va_W) (D : va_G) (tys : List (ClassId × FieldType)) (σ0 : Sg) (sz : Nat) (vs : List Value) : Array Value → State → Prop := va_Pc vs (fun U => U.heap.size = sz ∧ va_P D vwCl (wf σ0) U.heap ∧ va_K D vwCl tys U ∧ va_D (fun _ => True) (wf σ0) ∧ E (va_A (wf σ0) sz) U U.heap)
def BB (wf : Sg → va_W) (D : va_G) (tys : List (ClassId × FieldType)) (σ0 : Sg) (sz : Nat) (u : Sg) (t : State) : Prop := va_P D vwCl (wf u) t.heap ∧ va_K D vwCl tys t ∧ va_D (va_A (wf σ0) sz) (wf u)
def QI (wf : Sg → va_W) (D : va_G) (tys : List (ClassId × FieldType)) (σ0 : Sg) (sz : Nat) (σ' : Sg) (r : Int) : Array Value → State → Outcome → State → Prop := va_Qi (fun r' (u : Sg) => r' = iI r ∧ u = σ' ∧ ok σ' ∧ inR r) (BB wf D tys σ0 sz) (va_A (wf σ0) sz)
def QV (wf : Sg → va_W) (D : va_G) (tys : List (ClassId × FieldType)) (σ0 : Sg) (sz : Nat) (σ' : Sg) : Array Value → State → Outcome → State → Prop := va_Qv (fun (u : Sg) => u = σ' ∧ ok σ') (BB wf D tys σ0 sz) (va_A (wf σ0) sz)
def ctI (E : EE) (l : Launch) (wf : Sg → va_W) (D : va_G) (tys : List (ClassId × FieldType)) (y : MethodName) (ws : List Cond) (rm : Room) (vs : List Value) (σ0 : Sg) (o : Option (Sg × Int)) : Prop := ∀ (σ' : Sg) (r : Int), o = some (σ', r) → ∀ sz : Nat, Met l y ws rm (PP E wf D tys σ0 sz vs) (QI wf D tys σ0 sz σ' r) 0 0 (va_A (wf σ0) sz)
def ctV (E : EE) (l : Launch) (wf : Sg → va_W) (D : va_G) (tys : List (ClassId × FieldType)) (y : MethodName) (ws : List Cond) (rm : Room) (vs : List Value) (σ0 : Sg) (o : Option (Sg × Int)) : Prop := ∀ (σ' : Sg) (r : Int), o = some (σ', r) → ∀ sz : Nat, Met l y ws rm (PP E wf D tys σ0 sz vs) (QV wf D tys σ0 sz σ') 0 0 (va_A (wf σ0) sz)
theorem PP_blind {E : EE} (hE : Eok E) (wf : Sg → va_W) (D : va_G) (tys : List (ClassId × FieldType)) (σ0 : Sg) (sz : Nat) (vs : List Value) : FrameBlind (PP E wf D tys σ0 sz vs) := fun a U g mk q => by
  obtain ⟨q0, q1, qP, qK, qD, qE⟩ := q
  exact ⟨q0, q1, qP, va_K.moved (u := U) (U := U.calling g mk a) (Vm.Alike.refl U.vm) qK, qD, hE _ _ U (U.calling g mk a) U.heap U.heap (State.WarmedH.refl U) (fun _ h => h) (fun _ _ _ => rfl) qE⟩
theorem of_I {E : EE} (hE : Eok E) {l : Launch} {wf : Sg → va_W} {D : va_G} {tys : List (ClassId × FieldType)} {y : MethodName} {ws ws' : List Cond} {rm : Room} {cc : ByteArray} {maxL : Nat} {own : String} {vs : List Value} {σ0 : Sg} {o : Option (Sg × Int)} {lv : List (Nat × Value)} (hy : plainName y.cls = true) (hw : ws = Cond.code y cc maxL (some .int) :: ws') (hown : y.cls = own) (hvs : (lg_sl vs).length ≤ maxL) (hlv : lv_args 0 vs = lv)
    (body : ∀ (p : Program) (e : Env) (s : State) (m : MethodId) (below : List Frame) (meth : Method) (c : Code) (sz : Nat), CX p m meth c cc maxL (some .int) s vs.toArray ws own D tys E (va_A (wf σ0) sz) → (∀ z : Nat, s.heap.size ≤ z → va_A (wf σ0) sz z) → JM p l e rm s m vs.toArray below meth c wf D (va_A (wf σ0) sz) s.heap maxL (fun σ' r => MQ below (QI wf D tys σ0 sz σ' r) vs.toArray s 0 0 (va_A (wf σ0) sz)) σ0 0 lv [] o) : ctI E l wf D tys y ws rm vs σ0 o := by
  intro σ' r ho sz
  refine Met.ofW (cc := cc) (maxL := maxL) (ret := (some .int)) hy hw ?_
  intro p e s m args below meth c s₁ B hml hv
  obtain ⟨rfl, hsz, hP, hK, hD0, hE0⟩ := hv
  have hts := atoms_spec (ws := ws) B.pre
  have hown2 : s.vm.findClass own = some m.cls := by rw [← hown]; exact findClass_of_methodNamed B.named
  have hl := lv_entry vs (n := maxL) hvs
  rw [lg_entry_eq]
  generalize (lg_sl vs ++ List.replicate (maxL - (lg_sl vs).length) Slot.unset).toArray = ls at hl ⊢
  rw [hlv] at hl
  exact body p e s m below meth c sz ⟨B.exec, B.bytes, hml, hown2, hts, hK, B.returns, B.notSynchronized, hE0, hE⟩ (fun z hz => Or.inr (by rw [← hsz]; exact hz)) σ' r ho s.heap [] ls hP (hD0.self (sz := sz)) va_S.rf hl
theorem of_Z {E : EE} (hE : Eok E) {l : Launch} {wf : Sg → va_W} {D : va_G} {tys : List (ClassId × FieldType)} {y : MethodName} {ws ws' : List Cond} {rm : Room} {cc : ByteArray} {maxL : Nat} {own : String} {vs : List Value} {σ0 : Sg} {o : Option (Sg × Int)} {lv : List (Nat × Value)} (hy : plainName y.cls = true) (hw : ws = Cond.code y cc maxL (some .boolean) :: ws') (hown : y.cls = own) (hvs : (lg_sl vs).length ≤ maxL) (hlv : lv_args 0 vs = lv)
    (body : ∀ (p : Program) (e : Env) (s : State) (m : MethodId) (below : List Frame) (meth : Method) (c : Code) (sz : Nat), CX p m meth c cc maxL (some .boolean) s vs.toArray ws own D tys E (va_A (wf σ0) sz) → (∀ z : Nat, s.heap.size ≤ z → va_A (wf σ0) sz z) → JM p l e rm s m vs.toArray below meth c wf D (va_A (wf σ0) sz) s.heap maxL (fun σ' r => MQ below (QI wf D tys σ0 sz σ' r) vs.toArray s 0 0 (va_A (wf σ0) sz)) σ0 0 lv [] o) : ctI E l wf D tys y ws rm vs σ0 o := by
  intro σ' r ho sz
  refine Met.ofW (cc := cc) (maxL := maxL) (ret := (some .boolean)) hy hw ?_
  intro p e s m args below meth c s₁ B hml hv
  obtain ⟨rfl, hsz, hP, hK, hD0, hE0⟩ := hv
  have hts := atoms_spec (ws := ws) B.pre
  have hown2 : s.vm.findClass own = some m.cls := by rw [← hown]; exact findClass_of_methodNamed B.named
  have hl := lv_entry vs (n := maxL) hvs
  rw [lg_entry_eq]
  generalize (lg_sl vs ++ List.replicate (maxL - (lg_sl vs).length) Slot.unset).toArray = ls at hl ⊢
  rw [hlv] at hl
  exact body p e s m below meth c sz ⟨B.exec, B.bytes, hml, hown2, hts, hK, B.returns, B.notSynchronized, hE0, hE⟩ (fun z hz => Or.inr (by rw [← hsz]; exact hz)) σ' r ho s.heap [] ls hP (hD0.self (sz := sz)) va_S.rf hl
theorem of_V {E : EE} (hE : Eok E) {l : Launch} {wf : Sg → va_W} {D : va_G} {tys : List (ClassId × FieldType)} {y : MethodName} {ws ws' : List Cond} {rm : Room} {cc : ByteArray} {maxL : Nat} {own : String} {vs : List Value} {σ0 : Sg} {o : Option (Sg × Int)} {lv : List (Nat × Value)} (hy : plainName y.cls = true) (hw : ws = Cond.code y cc maxL none :: ws') (hown : y.cls = own) (hvs : (lg_sl vs).length ≤ maxL) (hlv : lv_args 0 vs = lv)
    (body : ∀ (p : Program) (e : Env) (s : State) (m : MethodId) (below : List Frame) (meth : Method) (c : Code) (sz : Nat), CX p m meth c cc maxL none s vs.toArray ws own D tys E (va_A (wf σ0) sz) → (∀ z : Nat, s.heap.size ≤ z → va_A (wf σ0) sz z) → JM p l e rm s m vs.toArray below meth c wf D (va_A (wf σ0) sz) s.heap maxL (fun σ' _ => MQ below (QV wf D tys σ0 sz σ') vs.toArray s 0 0 (va_A (wf σ0) sz)) σ0 0 lv [] o) : ctV E l wf D tys y ws rm vs σ0 o := by
  intro σ' r ho sz
  refine Met.ofW (cc := cc) (maxL := maxL) (ret := none) hy hw ?_
  intro p e s m args below meth c s₁ B hml hv
  obtain ⟨rfl, hsz, hP, hK, hD0, hE0⟩ := hv
  have hts := atoms_spec (ws := ws) B.pre
  have hown2 : s.vm.findClass own = some m.cls := by rw [← hown]; exact findClass_of_methodNamed B.named
  have hl := lv_entry vs (n := maxL) hvs
  rw [lg_entry_eq]
  generalize (lg_sl vs ++ List.replicate (maxL - (lg_sl vs).length) Slot.unset).toArray = ls at hl ⊢
  rw [hlv] at hl
  exact body p e s m below meth c sz ⟨B.exec, B.bytes, hml, hown2, hts, hK, B.returns, B.notSynchronized, hE0, hE⟩ (fun z hz => Or.inr (by rw [← hsz]; exact hz)) σ' r ho s.heap [] ls hP (hD0.self (sz := sz)) va_S.rf hl
abbrev mT (cI cZ : ClassId) : List (ClassId × FieldType) := [(cI, .int), (cZ, .boolean)]
abbrev JI (l : Launch) (rm : Room) (wf : Sg → va_W) (D : va_G) (tys : List (ClassId × FieldType)) (σz : Sg) (sz nL : Nat) (p : Program) (e : Env) (s : State) (m : MethodId) (args : Array Value) (below : List Frame) (meth : Method) (c : Code) : Sg → Nat → List (Nat × Value) → List Value → Option (Sg × Int) → Prop := JM p l e rm s m args below meth c wf D (va_A (wf σz) sz) s.heap nL (fun σ' r => MQ below (QI wf D tys σz sz σ' r) args s 0 0 (va_A (wf σz) sz))
abbrev JV (l : Launch) (rm : Room) (wf : Sg → va_W) (D : va_G) (tys : List (ClassId × FieldType)) (σz : Sg) (sz nL : Nat) (p : Program) (e : Env) (s : State) (m : MethodId) (args : Array Value) (below : List Frame) (meth : Method) (c : Code) : Sg → Nat → List (Nat × Value) → List Value → Option (Sg × Int) → Prop := JM p l e rm s m args below meth c wf D (va_A (wf σz) sz) s.heap nL (fun σ' _ => MQ below (QV wf D tys σz sz σ') args s 0 0 (va_A (wf σz) sz))
theorem in_idiv {x y : Int} (hx : inR x) (h0 : 0 ≤ x) (hy : 0 < y) : inR (x / y) := ⟨by have := Int.ediv_nonneg h0 (Int.le_of_lt hy); omega, Int.le_trans (Int.ediv_le_self y h0) hx.2⟩
theorem in_irem {x y : Int} (hx : inR x) (h0 : 0 ≤ x) (hy : 0 < y) : inR (x % y) := ⟨by have := Int.emod_nonneg x (Int.ne_of_gt hy); omega, by have h1 := Int.emod_nonneg x (Int.ne_of_gt hy); have h2 := Int.mul_ediv_add_emod x y; have h3 := Int.mul_nonneg (Int.le_of_lt hy) (Int.ediv_nonneg h0 (Int.le_of_lt hy)); have := hx.2; omega⟩
section JMC
variable {p : Program} {l : Launch} {e : Env} {R : Room} {s : State} {m : MethodId} {args : Array Value} {below : List Frame} {meth : Method} {c : Code} {wf : Sg → va_W} {D : va_G} {tys : List (ClassId × FieldType)} {A : Nat → Prop} {H0 : Heap} {cc : ByteArray} {nL : Nat} {Ts : List Cond} {own : String} {E : EE} {ret : Option FieldType} {σ : Sg} {pc n : Nat} {lv : List (Nat × Value)} {st : List Value} {o : Option (Sg × Int)} {σ0 : Sg} {sz : Nat}
theorem jm_iret (X : CX p m meth c cc nL (some .int) s args Ts own D tys E (va_A (wf σ0) sz)) {r : Int} (hH : H0 = s.heap) (hok : ok σ) (hr : inR r) (hdg : decode cc pc = .ok (.ireturn, 1)) : JM p l e R s m args below meth c wf D (va_A (wf σ0) sz) H0 nL (fun σ' r => MQ below (QI wf D tys σ0 sz σ' r) args s 0 0 (va_A (wf σ0) sz)) σ pc lv [.int (iI r)] (some (σ, r)) := by
  subst hH
  intro σ' r' ho H locs ls hP hD hS hl
  cases ho
  have hlocks := X.2.2.2.2.2.2.2.1
  exact W.iret (v := iI r) X.1 X.2.1 X.2.2.2.2.2.2.1 (fun t ht hW => ⟨⟨iI r, σ, rfl, ⟨rfl, rfl, hok, hr⟩, by rw [ht]; exact hP, va_K.moved hW.alike X.2.2.2.2.2.1, hD⟩, hS.F ht⟩) hS.2.2 hdg hlocks
theorem jm_zret (X : CX p m meth c cc nL (some .boolean) s args Ts own D tys E (va_A (wf σ0) sz)) {r : Int} (hH : H0 = s.heap) (hok : ok σ) (hdg : decode cc pc = .ok (.ireturn, 1)) : JM p l e R s m args below meth c wf D (va_A (wf σ0) sz) H0 nL (fun σ' r => MQ below (QI wf D tys σ0 sz σ' r) args s 0 0 (va_A (wf σ0) sz)) σ pc lv [.int (iI r)] (ck (r = 0 ∨ r = 1) (some (σ, r))) := by
  subst hH
  refine jm_ck fun h01 => ?_
  intro σ' r' ho H locs ls hP hD hS hl
  cases ho
  have hlocks := X.2.2.2.2.2.2.2.1
  exact W.zret (v := iI r) X.1 X.2.1 X.2.2.2.2.2.2.1 (narrow_Z h01) (fun t ht hW => ⟨⟨iI r, σ, rfl, ⟨rfl, rfl, hok, by rcases h01 with rfl | rfl <;> decide⟩, by rw [ht]; exact hP, va_K.moved hW.alike X.2.2.2.2.2.1, hD⟩, hS.F ht⟩) hS.2.2 hdg hlocks
theorem jm_vret (X : CX p m meth c cc nL none s args Ts own D tys E (va_A (wf σ0) sz)) {r : Int} (hH : H0 = s.heap) (hok : ok σ) (hdg : decode cc pc = .ok (.return_, 1)) : JM p l e R s m args below meth c wf D (va_A (wf σ0) sz) H0 nL (fun σ' _ => MQ below (QV wf D tys σ0 sz σ') args s 0 0 (va_A (wf σ0) sz)) σ pc lv [] (some (σ, r)) := by
  subst hH
  intro σ' r' ho H locs ls hP hD hS hl
  cases ho
  have hlocks := X.2.2.2.2.2.2.2.1
  exact W.vret X.1 X.2.1 X.2.2.2.2.2.2.1 (fun t ht hW => ⟨⟨σ, rfl, ⟨rfl, hok⟩, by rw [ht]; exact hP, va_K.moved hW.alike X.2.2.2.2.2.1, hD⟩, hS.F ht⟩) hS.2.2 hdg hlocks
end JMC
section JMK
variable {p : Program} {l : Launch} {e : Env} {R : Room} {s : State} {m : MethodId} {args : Array Value} {below : List Frame} {meth : Method} {c : Code} {wf : Sg → va_W} {D : va_G} {tys : List (ClassId × FieldType)} {A : Nat → Prop} {Qf : Sg → Int → State → Prop} {cc : ByteArray} {nL : Nat} {Ts : List Cond} {own : String} {E : EE} {ret : Option FieldType} {σ : Sg} {pc n : Nat} {lv : List (Nat × Value)} {st : List Value} {o : Option (Sg × Int)} {y : MethodName} {bytes : ByteArray} {maxL idx k : Nat} {ret2 : Option FieldType} {ws : List Cond} {rm : Room} {vs rest : List Value} {b : Nat} {C : String} {q : Option (Sg × Int)} {f : Sg → Int → Option (Sg × Int)}
theorem jm_callVi (X : CX p m meth c cc nL ret s args Ts own D tys E A) (hA : ∀ z : Nat, s.heap.size ≤ z → A z) (hM : ctI E l wf D tys y ws rm (.ref b :: vs) σ q) (cw : CallW R s args own C idx y bytes maxL ret2 ws rm 0 0 k) (q0 ci : Nat) {T : u_T} {N : Nat} {fs : List Value} (he : (wf σ)[q0]? = some (b, .inr (ci, fs))) (hc : vwCl[ci]? = some (C, T, N)) (hlen : vs.length = k) (hroom : (rest.map fun v => v.category).sum ≤ 8) (hdg : decode cc pc = .ok (.invokevirtual idx, 3)) (hn : pc + 3 = n) (kk : ∀ (τ : Sg) (r : Int), ok τ → inR r → JM p l e R s m args below meth c wf D A s.heap nL Qf τ n lv (.int (iI r) :: rest) (f τ r)) : JM p l e R s m args below meth c wf D A s.heap nL Qf σ pc lv (vs.reverse ++ .ref b :: rest) (bd q f) := by
  subst hn
  intro σ' r' ho H locs ls hP hD hS hl
  have hFc : ∀ z, va_A (wf σ) H.size z → A z := fun z hz => by
    rcases hz with ⟨k9, e9, h9⟩ | h9
    · exact hD.2 k9 _ h9
    · exact hA z (Nat.le_trans hS.1 h9)
  cases hq : q with
  | none => rw [hq] at ho; cases ho
  | some u =>
    obtain ⟨τ, r⟩ := u
    rw [hq] at ho
    refine va_calli (va_runV (As := vs) (rest := rest) ⟨X.1, X.2.1, X.2.2.1, X.2.2.2.1, X.2.2.2.2.1⟩ (hM _ _ hq H.size) cw ⟨PP_blind X.2.2.2.2.2.2.2.2.2 wf D tys σ _ _, va_recv X.2.2.2.2.2.1 hP hc he, fun U hU hW => ⟨rfl, by rw [hU], by rw [hU]; exact hP, va_K.moved hW.alike X.2.2.2.2.2.1, hD.weaken (fun _ _ _ _ => trivial), X.2.2.2.2.2.2.2.2.2 _ _ s U s.heap U.heap hW hFc (fun a h1 h2 => by rw [hU]; exact hS.2.1 a h1 h2) X.2.2.2.2.2.2.2.2.1⟩⟩ rfl hlen hl.1 rfl (lv_room hroom) hdg ⟨Nat.zero_le _, Nat.zero_le _⟩) hS (fun z _ h => hFc z h) hFc (fun r9 u t H1 locs1 ht hvm hw hB hz1 hk1 hS1 => ?_)
    obtain ⟨rfl, rfl, hok2, hr2⟩ := hw
    obtain ⟨hP1, hK1, hD1⟩ := hB
    rw [ht] at hP1
    exact kk _ _ hok2 hr2 σ' r' ho H1 locs1 ls hP1 (hD1.weaken (fun _ _ _ h => hFc _ h)) hS1 hl
theorem jm_callVv (X : CX p m meth c cc nL ret s args Ts own D tys E A) (hA : ∀ z : Nat, s.heap.size ≤ z → A z) (hM : ctV E l wf D tys y ws rm (.ref b :: vs) σ q) (cw : CallW R s args own C idx y bytes maxL ret2 ws rm 0 0 k) (q0 ci : Nat) {T : u_T} {N : Nat} {fs : List Value} (he : (wf σ)[q0]? = some (b, .inr (ci, fs))) (hc : vwCl[ci]? = some (C, T, N)) (hlen : vs.length = k) (hroom : (rest.map fun v => v.category).sum ≤ 8) (hdg : decode cc pc = .ok (.invokevirtual idx, 3)) (hn : pc + 3 = n) (kk : ∀ (τ : Sg) (r : Int), ok τ → JM p l e R s m args below meth c wf D A s.heap nL Qf τ n lv rest (f τ r)) : JM p l e R s m args below meth c wf D A s.heap nL Qf σ pc lv (vs.reverse ++ .ref b :: rest) (bd q f) := by
  subst hn
  intro σ' r' ho H locs ls hP hD hS hl
  have hFc : ∀ z, va_A (wf σ) H.size z → A z := fun z hz => by
    rcases hz with ⟨k9, e9, h9⟩ | h9
    · exact hD.2 k9 _ h9
    · exact hA z (Nat.le_trans hS.1 h9)
  cases hq : q with
  | none => rw [hq] at ho; cases ho
  | some u =>
    obtain ⟨τ, r⟩ := u
    rw [hq] at ho
    refine va_callv (va_runV (As := vs) (rest := rest) ⟨X.1, X.2.1, X.2.2.1, X.2.2.2.1, X.2.2.2.2.1⟩ (hM _ _ hq H.size) cw ⟨PP_blind X.2.2.2.2.2.2.2.2.2 wf D tys σ _ _, va_recv X.2.2.2.2.2.1 hP hc he, fun U hU hW => ⟨rfl, by rw [hU], by rw [hU]; exact hP, va_K.moved hW.alike X.2.2.2.2.2.1, hD.weaken (fun _ _ _ _ => trivial), X.2.2.2.2.2.2.2.2.2 _ _ s U s.heap U.heap hW hFc (fun a h1 h2 => by rw [hU]; exact hS.2.1 a h1 h2) X.2.2.2.2.2.2.2.2.1⟩⟩ rfl hlen hl.1 rfl (lv_room hroom) hdg ⟨Nat.zero_le _, Nat.zero_le _⟩) hS (fun z _ h => hFc z h) hFc (fun u t H1 locs1 ht hvm hw hB hz1 hk1 hS1 => ?_)
    obtain ⟨rfl, hok2⟩ := hw
    obtain ⟨hP1, hK1, hD1⟩ := hB
    rw [ht] at hP1
    exact kk _ _ hok2 σ' r' ho H1 locs1 ls hP1 (hD1.weaken (fun _ _ _ h => hFc _ h)) hS1 hl
theorem jm_callSi (X : CX p m meth c cc nL ret s args Ts own D tys E A) (hA : ∀ z : Nat, s.heap.size ≤ z → A z) (hM : ctI E l wf D tys y ws rm vs σ q) (cw : CallB R s args own idx y bytes maxL ret2 ws rm 0 0 k ∧ (Cond.static y).before args s = true) (hlen : vs.length = k) (hroom : (rest.map fun v => v.category).sum ≤ 8) (hdg : decode cc pc = .ok (.invokestatic idx, 3)) (hn : pc + 3 = n) (kk : ∀ (τ : Sg) (r : Int), ok τ → inR r → JM p l e R s m args below meth c wf D A s.heap nL Qf τ n lv (.int (iI r) :: rest) (f τ r)) : JM p l e R s m args below meth c wf D A s.heap nL Qf σ pc lv (vs.reverse ++ rest) (bd q f) := by
  subst hn
  intro σ' r' ho H locs ls hP hD hS hl
  have hFc : ∀ z, va_A (wf σ) H.size z → A z := fun z hz => by
    rcases hz with ⟨k9, e9, h9⟩ | h9
    · exact hD.2 k9 _ h9
    · exact hA z (Nat.le_trans hS.1 h9)
  cases hq : q with
  | none => rw [hq] at ho; cases ho
  | some u =>
    obtain ⟨τ, r⟩ := u
    rw [hq] at ho
    refine va_calli (va_runS (As := vs) (rest := rest) ⟨X.1, X.2.1, X.2.2.1, X.2.2.2.1, X.2.2.2.2.1⟩ (hM _ _ hq H.size) cw ⟨PP_blind X.2.2.2.2.2.2.2.2.2 wf D tys σ _ _, fun U hU hW => ⟨rfl, by rw [hU], by rw [hU]; exact hP, va_K.moved hW.alike X.2.2.2.2.2.1, hD.weaken (fun _ _ _ _ => trivial), X.2.2.2.2.2.2.2.2.2 _ _ s U s.heap U.heap hW hFc (fun a h1 h2 => by rw [hU]; exact hS.2.1 a h1 h2) X.2.2.2.2.2.2.2.2.1⟩⟩ rfl hlen hl.1 rfl (lv_room hroom) hdg ⟨Nat.zero_le _, Nat.zero_le _⟩) hS (fun z _ h => hFc z h) hFc (fun r9 u t H1 locs1 ht hvm hw hB hz1 hk1 hS1 => ?_)
    obtain ⟨rfl, rfl, hok2, hr2⟩ := hw
    obtain ⟨hP1, hK1, hD1⟩ := hB
    rw [ht] at hP1
    exact kk _ _ hok2 hr2 σ' r' ho H1 locs1 ls hP1 (hD1.weaken (fun _ _ _ h => hFc _ h)) hS1 hl
theorem jm_callSv (X : CX p m meth c cc nL ret s args Ts own D tys E A) (hA : ∀ z : Nat, s.heap.size ≤ z → A z) (hM : ctV E l wf D tys y ws rm vs σ q) (cw : CallB R s args own idx y bytes maxL ret2 ws rm 0 0 k ∧ (Cond.static y).before args s = true) (hlen : vs.length = k) (hroom : (rest.map fun v => v.category).sum ≤ 8) (hdg : decode cc pc = .ok (.invokestatic idx, 3)) (hn : pc + 3 = n) (kk : ∀ (τ : Sg) (r : Int), ok τ → JM p l e R s m args below meth c wf D A s.heap nL Qf τ n lv rest (f τ r)) : JM p l e R s m args below meth c wf D A s.heap nL Qf σ pc lv (vs.reverse ++ rest) (bd q f) := by
  subst hn
  intro σ' r' ho H locs ls hP hD hS hl
  have hFc : ∀ z, va_A (wf σ) H.size z → A z := fun z hz => by
    rcases hz with ⟨k9, e9, h9⟩ | h9
    · exact hD.2 k9 _ h9
    · exact hA z (Nat.le_trans hS.1 h9)
  cases hq : q with
  | none => rw [hq] at ho; cases ho
  | some u =>
    obtain ⟨τ, r⟩ := u
    rw [hq] at ho
    refine va_callv (va_runS (As := vs) (rest := rest) ⟨X.1, X.2.1, X.2.2.1, X.2.2.2.1, X.2.2.2.2.1⟩ (hM _ _ hq H.size) cw ⟨PP_blind X.2.2.2.2.2.2.2.2.2 wf D tys σ _ _, fun U hU hW => ⟨rfl, by rw [hU], by rw [hU]; exact hP, va_K.moved hW.alike X.2.2.2.2.2.1, hD.weaken (fun _ _ _ _ => trivial), X.2.2.2.2.2.2.2.2.2 _ _ s U s.heap U.heap hW hFc (fun a h1 h2 => by rw [hU]; exact hS.2.1 a h1 h2) X.2.2.2.2.2.2.2.2.1⟩⟩ rfl hlen hl.1 rfl (lv_room hroom) hdg ⟨Nat.zero_le _, Nat.zero_le _⟩) hS (fun z _ h => hFc z h) hFc (fun u t H1 locs1 ht hvm hw hB hz1 hk1 hS1 => ?_)
    obtain ⟨rfl, hok2⟩ := hw
    obtain ⟨hP1, hK1, hD1⟩ := hB
    rw [ht] at hP1
    exact kk _ _ hok2 σ' r' ho H1 locs1 ls hP1 (hD1.weaken (fun _ _ _ h => hFc _ h)) hS1 hl
end JMK
