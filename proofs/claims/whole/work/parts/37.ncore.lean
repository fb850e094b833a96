/-! ===== constructors ===== -/
def nestL : List Cond := [.methodLinkNest "MarkDesk" 9 ⟨"MarkDesk$Terms", "<init>", "()V"⟩ "MarkDesk", .methodLinkNest "MarkDesk" 34 ⟨"MarkDesk$KnownType", "<init>", "()V"⟩ "MarkDesk", .methodLinkNest "MarkDesk$Machine" 13 ⟨"MarkDesk$Values", "<init>", "()V"⟩ "MarkDesk", .methodLinkNest "MarkDesk$Machine" 20 ⟨"MarkDesk$Scopes", "<init>", "()V"⟩ "MarkDesk", .methodLinkNest "MarkDesk$Machine" 27 ⟨"MarkDesk$Waitings", "<init>", "()V"⟩ "MarkDesk", .methodLinkNest "MarkDesk$Typing" 13 ⟨"MarkDesk$Types", "<init>", "()V"⟩ "MarkDesk"]
def nE (U : State) : Prop := ∀ w ∈ nestL, va_Nw w U
theorem nE.warm {s U : State} (hW : s.WarmedH U.vm) (h : nE s) : nE U := by
  intro w hw
  have h1 := h w hw
  simp only [nestL, List.mem_cons, List.not_mem_nil, or_false] at hw
  rcases hw with rfl | rfl | rfl | rfl | rfl | rfl <;> exact va_Nw.warmM hW h1
theorem nE.same {u U : State} (hvm : u.vm = U.vm) (h : nE u) : nE U := by
  intro w hw
  have h1 := h w hw
  simp only [nestL, List.mem_cons, List.not_mem_nil, or_false] at hw
  rcases hw with rfl | rfl | rfl | rfl | rfl | rfl <;> exact va_Nw.same rfl hvm h1
def CY (p : Program) (m : MethodId) (meth : Method) (c : Code) (cc : ByteArray) (nL : Nat) (s : State) (args : Array Value) (Ts : List Cond) (own : String) (D : va_G) (cI cZ : ClassId) : Prop :=
  p.tables.exec = Jvm.exec ∧ c.code = cc ∧ c.maxLocals = nL ∧ s.vm.findClass own = some m.cls ∧ (∀ w ∈ Ts, w.before args s = true) ∧ va_K D vwCl (mT cI cZ) s ∧ meth.sig.returnType = none ∧ meth.locks = false ∧ meth.name = "<init>" ∧ nE s
def CN (p : Program) (l : Launch) (e : Env) (R : Room) (s : State) (m : MethodId) (args : Array Value) (below : List Frame) (meth : Method) (c : Code) (D : va_G) (A : Nat → Prop) (H0 : Heap) (nL : Nat) (Q : State → Prop) (cells slots : Nat) (ws : va_W) (pc : Nat) (lv : List (Nat × Value)) (st : List Value) : Prop :=
  ∀ (H : Heap) (locs : List Loc) (ls : Array Slot), va_P D vwCl ws H → va_D A ws → va_S A H0 H locs → lv_has ls nL lv → W p l e R s m args below meth c H locs cells slots Q (F0 m pc ls st)
section CNR
variable {p : Program} {l : Launch} {e : Env} {R : Room} {s : State} {m : MethodId} {args : Array Value} {below : List Frame} {meth : Method} {c : Code} {D : va_G} {A : Nat → Prop} {H0 : Heap} {Q : State → Prop} {cc : ByteArray} {nL : Nat} {Ts : List Cond} {own : String} {cI cZ : ClassId} {pc n cells slots : Nat} {ws : va_W} {lv : List (Nat × Value)} {st : List Value}
theorem cn_iconst (X : CY p m meth c cc nL s args Ts own D cI cZ) {z : Int} (hdg : decode cc pc = .ok (.iconst z, 1)) (hn : pc + 1 = n) (kk : CN p l e R s m args below meth c D A H0 nL Q cells slots ws n lv (.int (iI z) :: st)) : CN p l e R s m args below meth c D A H0 nL Q cells slots ws pc lv st := by
  subst hn
  intro H locs ls hP hD hS hl
  exact lv_iconst X.1 X.2.1 hdg rfl (kk H locs ls hP hD hS hl)
theorem cn_bipush (X : CY p m meth c cc nL s args Ts own D cI cZ) {z : Int} (hdg : decode cc pc = .ok (.bipush z, 2)) (hz : (Int8.ofInt z).toInt32 = iI z) (hn : pc + 2 = n) (kk : CN p l e R s m args below meth c D A H0 nL Q cells slots ws n lv (.int (iI z) :: st)) : CN p l e R s m args below meth c D A H0 nL Q cells slots ws pc lv st := by
  subst hn
  intro H locs ls hP hD hS hl
  exact lv_bipush X.1 X.2.1 hdg hz (kk H locs ls hP hD hS hl)
theorem cn_sipush (X : CY p m meth c cc nL s args Ts own D cI cZ) {z : Int} (hdg : decode cc pc = .ok (.sipush z, 3)) (hz : (Int16.ofInt z).toInt32 = iI z) (hn : pc + 3 = n) (kk : CN p l e R s m args below meth c D A H0 nL Q cells slots ws n lv (.int (iI z) :: st)) : CN p l e R s m args below meth c D A H0 nL Q cells slots ws pc lv st := by
  subst hn
  intro H locs ls hP hD hS hl
  exact lv_sipush X.1 X.2.1 hdg hz (kk H locs ls hP hD hS hl)
theorem cn_aload_n (X : CY p m meth c cc nL s args Ts own D cI cZ) (k : Nat) {i : Fin 4} {a : Nat} (hk : lv[k]? = some ((i : Nat), .ref a)) (hdg : decode cc pc = .ok (.aload_n i, 1)) (hn : pc + 1 = n) (kk : CN p l e R s m args below meth c D A H0 nL Q cells slots ws n lv (.ref a :: st)) : CN p l e R s m args below meth c D A H0 nL Q cells slots ws pc lv st := by
  subst hn
  intro H locs ls hP hD hS hl
  exact lv_aload_n X.1 X.2.1 hdg rfl (lv_at hl k hk) (kk H locs ls hP hD hS hl)
theorem cn_astore_n (X : CY p m meth c cc nL s args Ts own D cI cZ) {i : Fin 4} {a : Nat} {lv' : List (Nat × Value)} (hdg : decode cc pc = .ok (.astore_n i, 1)) (hi : (i : Nat) < nL) (hlv : ((i : Nat), Value.ref a) :: lv.filter (fun q => !(q.1 == (i : Nat)) && !(q.1 + 1 == (i : Nat) && q.2.category == 2)) = lv') (hn : pc + 1 = n) (kk : CN p l e R s m args below meth c D A H0 nL Q cells slots ws n lv' st) : CN p l e R s m args below meth c D A H0 nL Q cells slots ws pc lv (.ref a :: st) := by
  subst hn
  intro H locs ls hP hD hS hl
  exact lv_astore_n X.1 X.2.1 hdg rfl hl hi hlv (fun ls2 hl2 => kk H locs ls2 hP hD hS hl2)
theorem cn_dup (X : CY p m meth c cc nL s args Ts own D cI cZ) {v : Value} (hdg : decode cc pc = .ok (.dup, 1)) (hv : v.category = 1) (hn : pc + 1 = n) (kk : CN p l e R s m args below meth c D A H0 nL Q cells slots ws n lv (v :: v :: st)) : CN p l e R s m args below meth c D A H0 nL Q cells slots ws pc lv (v :: st) := by
  subst hn
  intro H locs ls hP hD hS hl
  exact lv_dup X.1 X.2.1 hdg hv (kk H locs ls hP hD hS hl)
theorem cn_obj (X : CY p m meth c cc nL s args Ts own D cI cZ) {idx a : Nat} (h1 : Cond.methodLink own idx objectInit ∈ Ts) (h2 : Cond.instanceMethod objectInit ∈ Ts) (h3 : Cond.code objectInit ⟨#[0xb1]⟩ 1 none ∈ Ts) (hdg : decode cc pc = .ok (.invokespecial idx, 3)) (hR : 1 ≤ R.frames ∧ (st.map fun v => v.category).sum + 12 ≤ R.locals) (hn : pc + 3 = n) (kk : CN p l e R s m args below meth c D A H0 nL Q cells slots ws n lv st) : CN p l e R s m args below meth c D A H0 nL Q cells slots ws pc lv (.ref a :: st) := by
  subst hn
  intro H locs ls hP hD hS hl
  exact W.objInit X.1 X.2.1 X.2.2.2.1 (X.2.2.2.2.1 _ h1) (X.2.2.2.2.1 _ h2) (X.2.2.2.2.1 _ h3) rfl (by rw [X.2.2.1]; exact hl.1) rfl hdg hR.1 (by simpa [JFrame.monitorRoom] using hR.2) (kk H locs ls hP hD hS hl)
theorem cn_cls {s : State} {D : va_G} {tys : List (ClassId × FieldType)} {a b i j : Nat} {ty : FieldType} (h : va_K D vwCl tys s) (hi : tys[i]? = some (a, ty)) (hj : tys[j]? = some (b, ty)) (hs : ∀ c, ty ≠ .object c) : a = b := by
  have h1 := (h.2 i _ hi).2
  have h2 := (h.2 j _ hj).2
  cases ty with
  | object c => exact absurd rfl (hs c)
  | _ => exact Option.some.inj (h1.symm.trans h2)
theorem cn_newi (X : CY p m meth c cc nL s args Ts own D cI cZ) {N : Nat} {z : Int} (harr : Cond.arrayClass .int ∈ Ts) (hdg : decode cc pc = .ok (.newarray .int, 2)) (hA : ∀ q, H0.size ≤ q → A q) (hz : (N : Int) = z) (hb : N ≤ 10000) (hR : cells + 1 ≤ R.cells ∧ slots + N ≤ R.slots) (hn : pc + 2 = n) (kk : ∀ q : Nat, CN p l e R s m args below meth c D A H0 nL Q (cells + 1) (slots + N) (ws ++ [(q, .inl (cI, N, .inl (fun _ : Nat => iI 0)))]) n lv (.ref q :: st)) : CN p l e R s m args below meth c D A H0 nL Q cells slots ws pc lv (.int (iI z) :: st) := by
  subst hn
  subst hz
  intro H locs ls hP hD hS hl
  have hin : inR (N : Int) := ⟨by omega, by omega⟩
  refine va_newa (atype := .int) (a0 := (N, .inl (fun _ : Nat => iI 0))) (ty := .int) (N' := N) X.1 X.2.1 (X.2.2.2.2.1 _ harr) rfl X.2.2.2.2.2.1 hP hD hS hA (fun cA => rfl) (fun h => ?_) (by rw [iI_cl hin]; rfl) (by show N * _ ≤ _; simp [componentBytes]; omega) hR.1 hR.2 hdg (fun q cA H1 hK1 hP1 hD1 hS1 => ?_)
  · have := (iI_lt hin inR_0).mp h; omega
  · have hc : cA = cI := cn_cls (i := 2) (j := 0) hK1 rfl rfl (fun c h => by cases h)
    subst hc
    exact kk q H1 locs ls hP1 hD1 hS1 hl
theorem cn_newz (X : CY p m meth c cc nL s args Ts own D cI cZ) {N : Nat} {z : Int} (harr : Cond.arrayClass .boolean ∈ Ts) (hdg : decode cc pc = .ok (.newarray .boolean, 2)) (hA : ∀ q, H0.size ≤ q → A q) (hz : (N : Int) = z) (hb : N ≤ 10000) (hR : cells + 1 ≤ R.cells ∧ slots + N ≤ R.slots) (hn : pc + 2 = n) (kk : ∀ q : Nat, CN p l e R s m args below meth c D A H0 nL Q (cells + 1) (slots + N) (ws ++ [(q, .inl (cZ, N, .inl (fun _ : Nat => iI 0)))]) n lv (.ref q :: st)) : CN p l e R s m args below meth c D A H0 nL Q cells slots ws pc lv (.int (iI z) :: st) := by
  subst hn
  subst hz
  intro H locs ls hP hD hS hl
  have hin : inR (N : Int) := ⟨by omega, by omega⟩
  refine va_newa (atype := .boolean) (a0 := (N, .inl (fun _ : Nat => iI 0))) (ty := .boolean) (N' := N) X.1 X.2.1 (X.2.2.2.2.1 _ harr) rfl X.2.2.2.2.2.1 hP hD hS hA (fun cA => rfl) (fun h => ?_) (by rw [iI_cl hin]; rfl) (by show N * _ ≤ _; simp [componentBytes]; omega) hR.1 hR.2 hdg (fun q cA H1 hK1 hP1 hD1 hS1 => ?_)
  · have := (iI_lt hin inR_0).mp h; omega
  · have hc : cA = cZ := cn_cls (i := 2) (j := 1) hK1 rfl rfl (fun c h => by cases h)
    subst hc
    exact kk q H1 locs ls hP1 hD1 hS1 hl
theorem cn_put (X : CY p m meth c cc nL s args Ts own D cI cZ) (q0 ci k : Nat) {C : String} {T : u_T} {N idx a : Nat} {fs : List Value} {v : Value} {ty : FieldType} {ws2 : va_W} (he : ws[q0]? = some (a, .inr (ci, fs))) (hc : vwCl[ci]? = some (C, T, N)) (hk : k < N) (hin : ∀ w ∈ u_ws C T N, w ∈ Ts) (ty0 : Nat → FieldType) (hty : ∀ k, k < N → parseFieldDescriptor (T k).2.2.1 = some (ty0 k)) (hnm : ∀ a, a < N → ∀ b, b < N → a ≠ b → (T a).2.1 ≠ (T b).2.1) (hlink : Cond.fieldLink own idx (T k).1 (T k).2.1 (T k).2.2.1 ∈ Ts) (hfin : (T k).2.2.2 = false) (hd : ty0 k = ty) (hnar : narrow ty v = v) (hfit : fits ty v = true) (hlen : k < fs.length) (hset : ws.set q0 (a, .inr (ci, fs.set k v)) = ws2) (hdg : decode cc pc = .ok (.putfield idx, 3)) (hn : pc + 3 = n) (kk : CN p l e R s m args below meth c D A H0 nL Q cells slots ws2 n lv st) : CN p l e R s m args below meth c D A H0 nL Q cells slots ws pc lv (v :: .ref a :: st) := by
  subst hn
  subst hd
  subst hset
  intro H locs ls hP hD hS hl
  exact va_put X.1 X.2.1 X.2.2.2.2.1 hin ty0 hty hnm X.2.2.2.1 X.2.2.2.2.2.1 hP hD hS q0 he hc k hk (X.2.2.2.2.1 _ hlink) (fun _ h => h) hfin (hty k hk) hnar hfit hlen hdg (fun H1 locs1 hP1 hD1 hS1 => kk H1 locs1 ls hP1 hD1 hS1 hl)
theorem cn_putF (X : CY p m meth c cc nL s args Ts own D cI cZ) (q0 ci k : Nat) {C : String} {T : u_T} {N idx a : Nat} {fs : List Value} {v : Value} {ty : FieldType} {ws2 : va_W} (he : ws[q0]? = some (a, .inr (ci, fs))) (hc : vwCl[ci]? = some (C, T, N)) (hk : k < N) (hin : ∀ w ∈ u_ws C T N, w ∈ Ts) (ty0 : Nat → FieldType) (hty : ∀ k, k < N → parseFieldDescriptor (T k).2.2.1 = some (ty0 k)) (hnm : ∀ a, a < N → ∀ b, b < N → a ≠ b → (T a).2.1 ≠ (T b).2.1) (hlink : Cond.fieldLink own idx (T k).1 (T k).2.1 (T k).2.2.1 ∈ Ts) (hfin : (T k).2.2.2 = true) (hdecl : (T k).1 = own) (hd : ty0 k = ty) (hnar : narrow ty v = v) (hfit : fits ty v = true) (hlen : k < fs.length) (hset : ws.set q0 (a, .inr (ci, fs.set k v)) = ws2) (hdg : decode cc pc = .ok (.putfield idx, 3)) (hn : pc + 3 = n) (kk : CN p l e R s m args below meth c D A H0 nL Q cells slots ws2 n lv st) : CN p l e R s m args below meth c D A H0 nL Q cells slots ws pc lv (v :: .ref a :: st) := by
  subst hn
  subst hd
  subst hset
  intro H locs ls hP hD hS hl
  exact va_putF X.1 X.2.1 X.2.2.2.2.1 hin ty0 hty hnm X.2.2.2.1 X.2.2.2.2.2.1 hP hD hS q0 he hc k hk (X.2.2.2.2.1 _ hlink) (fun _ h => h) hfin X.2.2.2.2.2.2.2.2.1 hdecl (hty k hk) hnar hfit hlen hdg (fun H1 locs1 hP1 hD1 hS1 => kk H1 locs1 ls hP1 hD1 hS1 hl)
theorem cn_new (X : CY p m meth c cc nL s args Ts own D cI cZ) (ci : Nat) {C : String} {T : u_T} {N idx : Nat} {fs : List Value} (hc : vwCl[ci]? = some (C, T, N)) (hin : ∀ w ∈ u_ws C T N, w ∈ Ts) (ty0 : Nat → FieldType) (hty : ∀ k, k < N → parseFieldDescriptor (T k).2.2.1 = some (ty0 k)) (h1 : Cond.classLink own idx C ∈ Ts) (h2 : Cond.instantiable C N ∈ Ts) (h3 : Cond.initialized C ∈ Ts) (hfs : ∀ j, j < N → defaultValue (ty0 j) = vp_V fs j) (hA : ∀ q, H0.size ≤ q → A q) (hdg : decode cc pc = .ok (.new idx, 3)) (hR : cells + 1 ≤ R.cells ∧ slots + N ≤ R.slots) (hn : pc + 3 = n) (kk : ∀ q : Nat, CN p l e R s m args below meth c D A H0 nL Q (cells + 1) (slots + N) (ws ++ [(q, .inr (ci, fs))]) n lv (.ref q :: st)) : CN p l e R s m args below meth c D A H0 nL Q cells slots ws pc lv st := by
  subst hn
  intro H locs ls hP hD hS hl
  exact va_new X.1 X.2.1 X.2.2.2.2.1 hin ty0 hty X.2.2.2.1 (X.2.2.2.2.1 _ h1) (X.2.2.2.2.1 _ h2) (X.2.2.2.2.1 _ h3) X.2.2.2.2.2.1 hP hD hS hA hc hfs hR.1 hR.2 hdg (fun q H1 hP1 hD1 hS1 => kk q H1 locs ls hP1 hD1 hS1 hl)
end CNR
def ctN (l : Launch) (D : va_G) (cI cZ : ClassId) (y : MethodName) (ws : List Cond) (rm : Room) (ext : List Value) (ci : Nat) (fs0 : List Value) (po : Nat → (Nat → Nat) → Prop) (w1 : (Nat → Nat) → va_W) (mc ms : Nat) : Prop := ∀ q sz : Nat, Met l y ws rm (va_Pc (.ref q :: ext) (fun U => U.heap.size = sz ∧ va_P D vwCl [(q, .inr (ci, fs0))] U.heap ∧ va_K D vwCl (mT cI cZ) U ∧ va_D (fun _ => True) [(q, .inr (ci, fs0))] ∧ nE U)) (va_Qv (fun u : Nat → Nat => po q u) (fun u t => va_P D vwCl (w1 u) t.heap ∧ va_K D vwCl (mT cI cZ) t ∧ va_D (va_A [(q, .inr (ci, fs0))] sz) (w1 u)) (va_A [(q, .inr (ci, fs0))] sz)) mc ms (va_A [(q, .inr (ci, fs0))] sz)
section CNC
variable {p : Program} {l : Launch} {e : Env} {R : Room} {s : State} {m : MethodId} {args : Array Value} {below : List Frame} {meth : Method} {c : Code} {D : va_G} {A : Nat → Prop} {H0 : Heap} {Q : State → Prop} {cc : ByteArray} {nL : Nat} {Ts : List Cond} {own : String} {cI cZ : ClassId} {pc n cells slots : Nat} {ws : va_W} {lv : List (Nat × Value)} {st : List Value} {y : MethodName} {bytes : ByteArray} {maxL idx k mc ms ci b : Nat} {wsy : List Cond} {rm : Room} {As rest : List Value} {fs0 : List Value} {po : Nat → (Nat → Nat) → Prop} {w1 : (Nat → Nat) → va_W} {wr : va_W} {host : String}
theorem cn_callI (X : CY p m meth c cc nL s args Ts own D cI cZ) (hA : ∀ z : Nat, H0.size ≤ z → A z) (hM : ctN l D cI cZ y wsy rm As ci fs0 po w1 mc ms) (cw : CallB R s args own idx y bytes maxL none wsy rm mc ms k ∧ y.name = "<init>" ∧ (Cond.instanceMethod y).before args s = true) (iC : Nat) (isR : List Nat) (hC : [iC].map (fun i => ws[i]?) = [(b, Sum.inr (ci, fs0))].map some) (hR : isR.map (fun i => ws[i]?) = wr.map some) (hnd : va_nd isR = true) (hdis : ∀ i ∈ isR, i ∉ [iC]) (hlen : As.length = k) (hroom : (rest.map fun v => v.category).sum ≤ 8) (hdg : decode cc pc = .ok (.invokespecial idx, 3)) (hf : cells + mc ≤ R.cells ∧ slots + ms ≤ R.slots) (hn : pc + 3 = n) (kk : ∀ u : Nat → Nat, po b u → CN p l e R s m args below meth c D A H0 nL Q (cells + mc) (slots + ms) (wr ++ w1 u) n lv rest) : CN p l e R s m args below meth c D A H0 nL Q cells slots ws pc lv (As.reverse ++ .ref b :: rest) := by
  subst hn
  intro H locs ls hP hD hS hl
  have hx0 : ws[iC]? = some (b, .inr (ci, fs0)) := by simpa using hC
  have hPc : va_P D vwCl [(b, .inr (ci, fs0))] H := hP.sub [iC] (by simp [hx0])
  have hDc : va_D A [(b, .inr (ci, fs0))] := hD.sub [iC] rfl hC
  have hFc := va_free (wc := [(b, .inr (ci, fs0))]) hD hS hA [iC] hC
  refine va_callv (va_runI (As := As) (rest := rest) ⟨X.1, X.2.1, X.2.2.1, X.2.2.2.1, X.2.2.2.2.1⟩ (hM b H.size) cw ⟨fun a U g mk q => by obtain ⟨q0, q1, qP, qK, qD, qN⟩ := q; exact ⟨q0, q1, qP, va_K.moved (u := U) (U := U.calling g mk a) (Vm.Alike.refl U.vm) qK, qD, nE.same (u := U) (U := U.calling g mk a) rfl qN⟩, fun U hU hW => ⟨rfl, by rw [hU], by rw [hU]; exact hPc, va_K.moved hW.alike X.2.2.2.2.2.1, hDc.weaken (fun _ _ _ _ => trivial), nE.warm hW X.2.2.2.2.2.2.2.2.2⟩⟩ rfl hlen hl.1 rfl (lv_room hroom) hdg hf) hS (fun q _ h => hFc q h) hFc (fun u t H1 locs1 ht hvm hw hB hz1 hk1 hS1 => ?_)
  obtain ⟨hP1, hK1, hD1⟩ := hB
  rw [ht] at hP1
  obtain ⟨hP2, hD2⟩ := va_join (wr := wr) (w1 := w1 u) hP hD [iC] isR hC hR hnd hdis hk1 hFc hP1 hD1
  exact kk u hw H1 locs1 ls hP2 hD2 hS1 hl
theorem cn_callIN (X : CY p m meth c cc nL s args Ts own D cI cZ) (hA : ∀ z : Nat, H0.size ≤ z → A z) (hM : ctN l D cI cZ y wsy rm As ci fs0 po w1 mc ms) (cw : va_CN R s args own idx y host bytes maxL none wsy rm mc ms k ∧ y.name = "<init>" ∧ (Cond.instanceMethod y).before args s = true) (iC : Nat) (isR : List Nat) (hC : [iC].map (fun i => ws[i]?) = [(b, Sum.inr (ci, fs0))].map some) (hR : isR.map (fun i => ws[i]?) = wr.map some) (hnd : va_nd isR = true) (hdis : ∀ i ∈ isR, i ∉ [iC]) (hlen : As.length = k) (hroom : (rest.map fun v => v.category).sum ≤ 8) (hdg : decode cc pc = .ok (.invokespecial idx, 3)) (hf : cells + mc ≤ R.cells ∧ slots + ms ≤ R.slots) (hn : pc + 3 = n) (kk : ∀ u : Nat → Nat, po b u → CN p l e R s m args below meth c D A H0 nL Q (cells + mc) (slots + ms) (wr ++ w1 u) n lv rest) : CN p l e R s m args below meth c D A H0 nL Q cells slots ws pc lv (As.reverse ++ .ref b :: rest) := by
  subst hn
  intro H locs ls hP hD hS hl
  have hx0 : ws[iC]? = some (b, .inr (ci, fs0)) := by simpa using hC
  have hPc : va_P D vwCl [(b, .inr (ci, fs0))] H := hP.sub [iC] (by simp [hx0])
  have hDc : va_D A [(b, .inr (ci, fs0))] := hD.sub [iC] rfl hC
  have hFc := va_free (wc := [(b, .inr (ci, fs0))]) hD hS hA [iC] hC
  refine va_callv (va_runIN (As := As) (rest := rest) ⟨X.1, X.2.1, X.2.2.1, X.2.2.2.1, X.2.2.2.2.1⟩ (hM b H.size) cw ⟨fun a U g mk q => by obtain ⟨q0, q1, qP, qK, qD, qN⟩ := q; exact ⟨q0, q1, qP, va_K.moved (u := U) (U := U.calling g mk a) (Vm.Alike.refl U.vm) qK, qD, nE.same (u := U) (U := U.calling g mk a) rfl qN⟩, fun U hU hW => ⟨rfl, by rw [hU], by rw [hU]; exact hPc, va_K.moved hW.alike X.2.2.2.2.2.1, hDc.weaken (fun _ _ _ _ => trivial), nE.warm hW X.2.2.2.2.2.2.2.2.2⟩⟩ rfl hlen hl.1 rfl (lv_room hroom) hdg hf) hS (fun q _ h => hFc q h) hFc (fun u t H1 locs1 ht hvm hw hB hz1 hk1 hS1 => ?_)
  obtain ⟨hP1, hK1, hD1⟩ := hB
  rw [ht] at hP1
  obtain ⟨hP2, hD2⟩ := va_join (wr := wr) (w1 := w1 u) hP hD [iC] isR hC hR hnd hdis hk1 hFc hP1 hD1
  exact kk u hw H1 locs1 ls hP2 hD2 hS1 hl
end CNC
section CNE
variable {p : Program} {l : Launch} {e : Env} {R : Room} {s : State} {m : MethodId} {args : Array Value} {below : List Frame} {meth : Method} {c : Code} {D : va_G} {cc : ByteArray} {nL : Nat} {Ts : List Cond} {own : String} {cI cZ : ClassId} {pc mc ms ci q sz : Nat} {ws : va_W} {lv : List (Nat × Value)} {fs0 : List Value} {po : Nat → (Nat → Nat) → Prop} {w1 : (Nat → Nat) → va_W}
abbrev QN (D : va_G) (cI cZ : ClassId) (ci : Nat) (fs0 : List Value) (po : Nat → (Nat → Nat) → Prop) (w1 : (Nat → Nat) → va_W) (q sz : Nat) : Array Value → State → Outcome → State → Prop := va_Qv (fun u : Nat → Nat => po q u) (fun u t => va_P D vwCl (w1 u) t.heap ∧ va_K D vwCl (mT cI cZ) t ∧ va_D (va_A [(q, .inr (ci, fs0))] sz) (w1 u)) (va_A [(q, .inr (ci, fs0))] sz)
theorem cn_vret (X : CY p m meth c cc nL s args Ts own D cI cZ) (u : Nat → Nat) (is : List Nat) (hpo : po q u) (hs : is.filterMap (fun i => ws[i]?) = w1 u) (hs2 : is.map (fun i => ws[i]?) = (w1 u).map some) (hnd : va_nd is = true) (hdg : decode cc pc = .ok (.return_, 1)) : CN p l e R s m args below meth c D (va_A [(q, .inr (ci, fs0))] sz) s.heap nL (MQ below (QN D cI cZ ci fs0 po w1 q sz) args s mc ms (va_A [(q, .inr (ci, fs0))] sz)) mc ms ws pc lv [] := by
  intro H locs ls hP hD hS hl
  have hlocks := X.2.2.2.2.2.2.2.1
  exact W.vret X.1 X.2.1 X.2.2.2.2.2.2.1 (fun t ht hW => ⟨⟨u, rfl, hpo, by rw [ht]; exact hP.sub is hs, va_K.moved hW.alike X.2.2.2.2.2.1, hD.sub is hnd hs2⟩, hS.F ht⟩) hS.2.2 hdg hlocks
theorem of_N {y : MethodName} {wsy ws' : List Cond} {rm : Room} {maxL : Nat} {ext : List Value} {lv : Nat → List (Nat × Value)} (hy : plainName y.cls = true) (hw : wsy = Cond.code y cc maxL none :: ws') (hown : y.cls = own) (hnm : y.name = "<init>") (hvs : ∀ q, (lg_sl (.ref q :: ext)).length ≤ maxL) (hlv : ∀ q, lv_args 0 (.ref q :: ext) = lv q)
    (body : ∀ (p : Program) (e : Env) (s : State) (m : MethodId) (below : List Frame) (meth : Method) (c : Code) (q sz : Nat), CY p m meth c cc maxL s (Value.ref q :: ext).toArray wsy own D cI cZ → (∀ z : Nat, s.heap.size ≤ z → va_A [(q, .inr (ci, fs0))] sz z) → CN p l e rm s m (Value.ref q :: ext).toArray below meth c D (va_A [(q, .inr (ci, fs0))] sz) s.heap maxL (MQ below (QN D cI cZ ci fs0 po w1 q sz) (Value.ref q :: ext).toArray s mc ms (va_A [(q, .inr (ci, fs0))] sz)) 0 0 [(q, .inr (ci, fs0))] 0 (lv q) []) : ctN l D cI cZ y wsy rm ext ci fs0 po w1 mc ms := by
  intro q sz
  refine Met.ofW (cc := cc) (maxL := maxL) (ret := none) hy hw ?_
  intro p e s m args below meth c s₁ B hml hv
  obtain ⟨rfl, hsz, hP, hK, hD0, hN⟩ := hv
  have hts := atoms_spec (ws := wsy) B.pre
  have hown2 : s.vm.findClass own = some m.cls := by rw [← hown]; exact findClass_of_methodNamed B.named
  have hin : meth.name = "<init>" := (name_of_methodNamed B.named B.method).1.trans hnm
  have hl := lv_entry (.ref q :: ext) (n := maxL) (hvs q)
  rw [lg_entry_eq]
  generalize (lg_sl (.ref q :: ext) ++ List.replicate (maxL - (lg_sl (.ref q :: ext)).length) Slot.unset).toArray = ls at hl ⊢
  rw [hlv q] at hl
  exact body p e s m below meth c q sz ⟨B.exec, B.bytes, hml, hown2, hts, hK, B.returns, B.notSynchronized, hin, hN⟩ (fun z hz => Or.inr (by rw [← hsz]; exact hz)) s.heap [] ls hP (hD0.self (sz := sz)) va_S.rf hl
end CNE
