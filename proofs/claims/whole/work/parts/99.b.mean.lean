/-! ===== mean: contracts of class and reference ===== -/
def QFl (wf : Sg → va_W) (D : va_G) (tys : List (ClassId × FieldType)) (σ0 : Sg) (sz : Nat) (σ' : Sg) (x : UInt32) : Array Value → State → Outcome → State → Prop := va_Qf (fun r' (u : Sg) => r' = x ∧ u = σ' ∧ ok σ') (BB wf D tys σ0 sz) (va_A (wf σ0) sz)
def ctF (E : EE) (l : Launch) (wf : Sg → va_W) (D : va_G) (tys : List (ClassId × FieldType)) (y : MethodName) (ws : List Cond) (rm : Room) (vs : List Value) (σ0 : Sg) (o : Option (Sg × Int)) (fx : Sg → UInt32) : Prop := ∀ (σ' : Sg) (r : Int), o = some (σ', r) → ∀ sz : Nat, Met l y ws rm (PP E wf D tys σ0 sz vs) (QFl wf D tys σ0 sz σ' (fx σ')) 0 0 (va_A (wf σ0) sz)
theorem of_F {E : EE} (hE : Eok E) {l : Launch} {wf : Sg → va_W} {D : va_G} {tys : List (ClassId × FieldType)} {y : MethodName} {ws ws' : List Cond} {rm : Room} {cc : ByteArray} {maxL : Nat} {own : String} {vs : List Value} {σ0 : Sg} {o : Option (Sg × Int)} {fx : Sg → UInt32} {lv : List (Nat × Value)} (hy : plainName y.cls = true) (hw : ws = Cond.code y cc maxL (some .float) :: ws') (hown : y.cls = own) (hvs : (lg_sl vs).length ≤ maxL) (hlv : lv_args 0 vs = lv)
    (body : ∀ (p : Program) (e : Env) (s : State) (m : MethodId) (below : List Frame) (meth : Method) (c : Code) (sz : Nat), CX p m meth c cc maxL (some .float) s vs.toArray ws own D tys E (va_A (wf σ0) sz) → (∀ z : Nat, s.heap.size ≤ z → va_A (wf σ0) sz z) → JM p l e rm s m vs.toArray below meth c wf D (va_A (wf σ0) sz) s.heap maxL (fun σ' _ => MQ below (QFl wf D tys σ0 sz σ' (fx σ')) vs.toArray s 0 0 (va_A (wf σ0) sz)) σ0 0 lv [] o) : ctF E l wf D tys y ws rm vs σ0 o fx := by
  intro σ' r ho sz
  refine Met.ofW (cc := cc) (maxL := maxL) (ret := (some .float)) hy hw ?_
  intro p e s m args below meth c s₁ B hml hv
  obtain ⟨rfl, hsz, hP, hK, hD0, hE0⟩ := hv
  have hts := atoms_spec (ws := ws) B.pre
  have hown2 : s.vm.findClass own = some m.cls := by rw [← hown]; exact findClass_of_methodNamed B.named
  have hl := lv_entry vs (n := maxL) hvs
  rw [lg_entry_eq]
  generalize (lg_sl vs ++ List.replicate (maxL - (lg_sl vs).length) Slot.unset).toArray = ls at hl ⊢
  rw [hlv] at hl
  exact body p e s m below meth c sz ⟨B.exec, B.bytes, hml, hown2, hts, hK, B.returns, B.notSynchronized, hE0, hE⟩ (fun z hz => Or.inr (by rw [← hsz]; exact hz)) σ' r ho s.heap [] ls hP (hD0.self (sz := sz)) va_S.rf hl
section
variable {p : Program} {l : Launch} {e : Env} {R : Room} {s : State} {m : MethodId} {args : Array Value} {below : List Frame} {meth : Method} {c : Code} {wf : Sg → va_W} {D : va_G} {tys : List (ClassId × FieldType)} {A : Nat → Prop} {H0 : Heap} {Qf : Sg → Int → State → Prop} {cc : ByteArray} {nL : Nat} {Ts : List Cond} {own : String} {E : EE} {ret : Option FieldType} {σ : Sg} {pc n : Nat} {lv : List (Nat × Value)} {st : List Value} {o : Option (Sg × Int)}
theorem jm_i2f (X : CX p m meth c cc nL ret s args Ts own D tys E A) {x : Int32} (hdg : decode cc pc = .ok (.i2f, 1)) (hn : pc + 1 = n) (kk : JM p l e R s m args below meth c wf D A H0 nL Qf σ n lv (.float (FP.i2f x) :: st) o) : JM p l e R s m args below meth c wf D A H0 nL Qf σ pc lv (.int x :: st) o := by
  subst hn
  intro σ' r ho H locs ls hP hD hS hl
  exact lv_i2f X.1 X.2.1 hdg (kk σ' r ho H locs ls hP hD hS hl)
theorem jm_l2f (X : CX p m meth c cc nL ret s args Ts own D tys E A) {x : Int} (hx : inR x) (hdg : decode cc pc = .ok (.l2f, 1)) (hn : pc + 1 = n) (kk : JM p l e R s m args below meth c wf D A H0 nL Qf σ n lv (.float (FP.i2f (iI x)) :: st) o) : JM p l e R s m args below meth c wf D A H0 nL Qf σ pc lv (.long (Int64.ofInt x) :: st) o := by
  subst hn
  intro σ' r ho H locs ls hP hD hS hl
  refine lv_l2f X.1 X.2.1 hdg ?_
  rw [l2f_same hx]
  exact kk σ' r ho H locs ls hP hD hS hl
theorem jm_fdiv (X : CX p m meth c cc nL ret s args Ts own D tys E A) {x y : UInt32} (hne : vf_n32 (FP.fdiv x y)) (hdg : decode cc pc = .ok (.fdiv, 1)) (hn : pc + 1 = n) (kk : JM p l e R s m args below meth c wf D A H0 nL Qf σ n lv (.float (FP.fdiv x y) :: st) o) : JM p l e R s m args below meth c wf D A H0 nL Qf σ pc lv (.float y :: .float x :: st) o := by
  subst hn
  intro σ' r ho H locs ls hP hD hS hl
  exact lv_fdiv X.1 X.2.1 hdg hne (kk σ' r ho H locs ls hP hD hS hl)
theorem jm_fconst0 (X : CX p m meth c cc nL ret s args Ts own D tys E A) (hdg : decode cc pc = .ok (.fconst 0, 1)) (hn : pc + 1 = n) (kk : JM p l e R s m args below meth c wf D A H0 nL Qf σ n lv (.float FP.fconst0 :: st) o) : JM p l e R s m args below meth c wf D A H0 nL Qf σ pc lv st o := by
  subst hn
  intro σ' r ho H locs ls hP hD hS hl
  exact lv_fconst0 X.1 X.2.1 hdg (kk σ' r ho H locs ls hP hD hS hl)
theorem jm_fstore_n (X : CX p m meth c cc nL ret s args Ts own D tys E A) {i : Fin 4} {x : UInt32} {lv' : List (Nat × Value)} (hdg : decode cc pc = .ok (.fstore_n i, 1)) (hi : (i : Nat) < nL) (hlv : ((i : Nat), Value.float x) :: lv.filter (fun q => !(q.1 == (i : Nat)) && !(q.1 + 1 == (i : Nat) && q.2.category == 2)) = lv') (hn : pc + 1 = n) (kk : JM p l e R s m args below meth c wf D A H0 nL Qf σ n lv' st o) : JM p l e R s m args below meth c wf D A H0 nL Qf σ pc lv (.float x :: st) o := by
  subst hn
  intro σ' r ho H locs ls hP hD hS hl
  exact lv_fstore_n X.1 X.2.1 hdg rfl hl hi hlv (fun ls2 hl2 => kk σ' r ho H locs ls2 hP hD hS hl2)
theorem jm_fload_n (X : CX p m meth c cc nL ret s args Ts own D tys E A) (k : Nat) {i : Fin 4} {x : UInt32} (hk : lv[k]? = some ((i : Nat), .float x)) (hdg : decode cc pc = .ok (.fload_n i, 1)) (hn : pc + 1 = n) (kk : JM p l e R s m args below meth c wf D A H0 nL Qf σ n lv (.float x :: st) o) : JM p l e R s m args below meth c wf D A H0 nL Qf σ pc lv st o := by
  subst hn
  intro σ' r ho H locs ls hP hD hS hl
  exact lv_fload_n X.1 X.2.1 hdg rfl (lv_at hl k hk) (kk σ' r ho H locs ls hP hD hS hl)
theorem jm_fret {σ0 : Sg} {sz : Nat} {y : UInt32} {fx : Sg → UInt32} (X : CX p m meth c cc nL (some .float) s args Ts own D tys E (va_A (wf σ0) sz)) (hH : H0 = s.heap) (hok : ok σ) (hx : y = fx σ) (hdg : decode cc pc = .ok (.freturn, 1)) : JM p l e R s m args below meth c wf D (va_A (wf σ0) sz) H0 nL (fun σ' _ => MQ below (QFl wf D tys σ0 sz σ' (fx σ')) args s 0 0 (va_A (wf σ0) sz)) σ pc lv [.float y] (some (σ, 0)) := by
  subst hH
  intro σ9 r9 ho H locs ls hP hD hS hl
  cases ho
  have hlocks := X.2.2.2.2.2.2.2.1
  exact W.fret (v := y) X.1 X.2.1 X.2.2.2.2.2.2.1 (fun t ht hW => ⟨⟨y, σ, rfl, ⟨hx, rfl, hok⟩, by rw [ht]; exact hP, va_K.moved hW.alike X.2.2.2.2.2.1, hD⟩, hS.F ht⟩) hS.2.2 hdg hlocks
end
abbrev rm9_mean : Room := { frames := 0, cells := 0, slots := 0, locals := 0 }
abbrev rm10_mean : Room := { frames := 0, cells := 0, slots := 0, locals := 0 }
def f9_mean (σ0 : Sg) : Option (Sg × Int) := ck (0 ≤ gI σ0 187 ∧ gI σ0 187 ≤ 512) <| if gI σ0 187 = 0 then some (σ0, 0) else some (σ0, 0)
def f10_mean (σ0 : Sg) : Option (Sg × Int) := nx (sI σ0 200 0) fun τ => ck (0 ≤ gI τ 233 ∧ gI τ 233 ≤ 512) <| if gI τ 233 = 0 then some (τ, 0) else some (τ, 0)
set_option maxRecDepth 100000 in
theorem t9_mean (l : Launch) {h : Nat → Nat} {cI cZ : ClassId} {D : va_G} {t1 t2 : Nat} {σ0 : Sg} (k0 : ok σ0) : ctF (cE t1 t2) l (cW h cI cZ) D (mT cI cZ) yX9_mean wsX9_mean rm9_mean [.ref (h 199)] σ0 (f9_mean σ0) (fun σ => mf (gI σ 186) (gI σ 187)) := by
  refine of_F (cE_ok t1 t2) (own := RX9) (lv := [(0, .ref (h 199))]) (by decide) rfl rfl (Nat.le_of_ble_eq_true rfl) rfl (fun p e s m below meth c sz X hA => ?_)
  have hw : ∀ w ∈ wsX90, w ∈ wsX9_mean := fun w h => List.mem_cons_of_mem _ (List.mem_append_right _ h)
  rw [f9_mean]
  refine jm_ck (fun hn => ?_)
  refine jm_aload_n (n := 1) X 0 rfl dX9_mean_0 rfl ?_
  refine jm_get (n := 4) X 0 8 7 cW_X9 rfl (by decide) hw (List.mem_of_getElem? (i := 1) rfl) rfl dX9_mean_1 rfl ?_
  refine jm_if_ne (n := 7) (tgt := 9) X dX9_mean_4 (by decide) (k0.1 187) rfl (fun z => ?_) (fun z => ?_)
  · refine jm_fconst0 (n := 8) X dX9_mean_7 rfl ?_
    exact jm_fret X rfl k0 (by unfold mf; rw [if_pos z]) dX9_mean_8
  · refine jm_aload_n (n := 10) X 0 rfl dX9_mean_9 rfl ?_
    refine jm_get (n := 13) X 0 8 6 cW_X9 rfl (by decide) hw (List.mem_of_getElem? (i := 2) rfl) rfl dX9_mean_10 rfl ?_
    refine jm_l2f (n := 14) X (k0.1 186) dX9_mean_13 rfl ?_
    refine jm_aload_n (n := 15) X 0 rfl dX9_mean_14 rfl ?_
    refine jm_get (n := 18) X 0 8 7 cW_X9 rfl (by decide) hw (List.mem_of_getElem? (i := 1) rfl) rfl dX9_mean_15 rfl ?_
    refine jm_i2f (n := 19) X dX9_mean_18 rfl ?_
    refine jm_fdiv (n := 20) X (mf_div _ (by omega) (by omega)).1 dX9_mean_19 rfl ?_
    exact jm_fret X rfl k0 (by unfold mf; rw [if_neg z]) dX9_mean_20
set_option maxRecDepth 100000 in
theorem t10_mean (l : Launch) {h : Nat → Nat} {cI cZ : ClassId} {D : va_G} {σ0 : Sg} (k0 : ok σ0) : ctF noE l (mW h cI cZ) D (mT cI cZ) yX10_mean wsX10_mean rm10_mean [.ref (h 299)] σ0 (f10_mean σ0) (fun σ => mf (gI σ 238) (gI σ 233)) := by
  refine of_F noE_ok (own := RX10) (lv := [(0, .ref (h 299))]) (by decide) rfl rfl (Nat.le_of_ble_eq_true rfl) rfl (fun p e s m below meth c sz X hA => ?_)
  have hw : ∀ w ∈ wsX100, w ∈ wsX10_mean := fun w h => List.mem_cons_of_mem _ (List.mem_append_right _ h)
  rw [f10_mean]
  refine jm_aload_n (n := 1) X 0 rfl dX10_mean_0 rfl ?_
  refine jm_iconst (n := 2) X dX10_mean_1 rfl ?_
  refine jm_put (n := 5) X 0 9 0 200 mW_X10 rfl (by decide) hw tyX10 tyX10_ok nmX10 (List.mem_of_getElem? (i := 1) rfl) rfl rfl rfl rfl (Nat.le_of_ble_eq_true rfl) mS_200 k0 (by decide) dX10_mean_2 rfl (fun σ1 k1 => ?_)
  refine jm_ck (fun hn => ?_)
  refine jm_aload_n (n := 6) X 0 rfl dX10_mean_5 rfl ?_
  refine jm_get (n := 9) X 0 9 33 mW_X10 rfl (by decide) hw (List.mem_of_getElem? (i := 2) rfl) rfl dX10_mean_6 rfl ?_
  refine jm_if_ne (n := 12) (tgt := 14) X dX10_mean_9 (by decide) (k1.1 233) rfl (fun z => ?_) (fun z => ?_)
  · refine jm_fconst0 (n := 13) X dX10_mean_12 rfl ?_
    exact jm_fret X rfl k1 (by unfold mf; rw [if_pos z]) dX10_mean_13
  · refine jm_aload_n (n := 15) X 0 rfl dX10_mean_14 rfl ?_
    refine jm_get (n := 18) X 0 9 38 mW_X10 rfl (by decide) hw (List.mem_of_getElem? (i := 3) rfl) rfl dX10_mean_15 rfl ?_
    refine jm_i2f (n := 19) X dX10_mean_18 rfl ?_
    refine jm_fstore_n (n := 20) (lv' := [(1, .float (FP.i2f (iI (gI σ1 238)))), (0, .ref (h 299))]) X dX10_mean_19 (by decide) rfl rfl ?_
    refine jm_aload_n (n := 21) X 1 rfl dX10_mean_20 rfl ?_
    refine jm_get (n := 24) X 0 9 33 mW_X10 rfl (by decide) hw (List.mem_of_getElem? (i := 2) rfl) rfl dX10_mean_21 rfl ?_
    refine jm_i2f (n := 25) X dX10_mean_24 rfl ?_
    refine jm_fstore_n (n := 26) (lv' := [(2, .float (FP.i2f (iI (gI σ1 233)))), (1, .float (FP.i2f (iI (gI σ1 238)))), (0, .ref (h 299))]) X dX10_mean_25 (by decide) rfl rfl ?_
    refine jm_fload_n (n := 27) X 1 rfl dX10_mean_26 rfl ?_
    refine jm_fload_n (n := 28) X 0 rfl dX10_mean_27 rfl ?_
    refine jm_fdiv (n := 29) X (mf_div _ (by omega) (by omega)).1 dX10_mean_28 rfl ?_
    exact jm_fret X rfl k1 (by unfold mf; rw [if_neg z]) dX10_mean_29
theorem mean_rel {σc σm : Sg} {k : Int} (hC : CR σc σm k) (hk : k ≤ 512) : f9_mean σc = some (σc, 0) ∧ f10_mean σm = some (sI σm 200 0, 0) ∧ mf (gI σc 186) (gI σc 187) = mf (gI (sI σm 200 0) 238) (gI (sI σm 200 0) 233) ∧ (0 ≤ gI σc 187 ∧ gI σc 187 ≤ 512) := by
  obtain ⟨c1, c2, c3, c4, c5, c6, c7, c8⟩ := hC
  have e1 : gI (sI σm 200 0) 233 = gI σm 233 := by rw [gI_sI, if_neg (by decide)]
  have e2 : gI (sI σm 200 0) 238 = gI σm 238 := by rw [gI_sI, if_neg (by decide)]
  refine ⟨?_, ?_, by rw [e1, e2, c1.1, c6.1], by omega⟩
  · unfold f9_mean
    rw [ck_t (show 0 ≤ gI σc 187 ∧ gI σc 187 ≤ 512 by omega)]
    split <;> rfl
  · unfold f10_mean
    rw [nx_d, e1, ck_t (show 0 ≤ gI σm 233 ∧ gI σm 233 ≤ 512 by omega)]
    split <;> rfl
