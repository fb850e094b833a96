/-! ===== the law's wrappers: the answer's place beside the class's world ===== -/
def oC (qo : Nat) (cJ : ClassId) (f : Nat → Int64) : Nat × va_E := (qo, .inl (cJ, 1, .inr (.inl f)))
def lW (h : Nat → Nat) (cI cZ cJ : ClassId) (qo : Nat) (σ : Sg) (f : Nat → Int64) : va_W := oC qo cJ f :: cW h cI cZ σ
def ncL : List (String × String) := [("java/lang/IllegalStateException", "java/lang/IllegalArgumentException"), ("java/lang/IndexOutOfBoundsException", "java/util/NoSuchElementException"), ("java/lang/IllegalArgumentException", "java/util/NoSuchElementException"), ("java/lang/IllegalArgumentException", "java/lang/IndexOutOfBoundsException"), ("java/lang/IllegalStateException", "java/util/NoSuchElementException"), ("java/lang/IllegalStateException", "java/lang/IndexOutOfBoundsException")]
def wE (t1 t2 : Nat) : EE := fun A U H => cE t1 t2 A U H ∧ ∀ q ∈ ncL, va_Nc q.1 q.2 U
theorem wE_ok (t1 t2 : Nat) : Eok (wE t1 t2) := by
  intro A B u U H H1 hW hAB hk h
  exact ⟨cE_ok t1 t2 A B u U H H1 hW hAB hk h.1, fun q hq => (h.2 q hq).moved hW.alike⟩
abbrev lT (cI cZ cJ : ClassId) : List (ClassId × FieldType) := [(cI, .int), (cZ, .boolean), (cJ, .long)]
def PL (t1 t2 : Nat) (h : Nat → Nat) (cI cZ cJ : ClassId) (qo : Nat) (D : va_G) (σ : Sg) (f : Nat → Int64) (sz : Nat) (vs : List Value) : Array Value → State → Prop := va_Pc vs (fun U => U.heap.size = sz ∧ va_P D vwCl (lW h cI cZ cJ qo σ f) U.heap ∧ va_K D vwCl (lT cI cZ cJ) U ∧ va_D (fun _ => True) (lW h cI cZ cJ qo σ f) ∧ wE t1 t2 (va_A (lW h cI cZ cJ qo σ f) sz) U U.heap)
/-- what the wrapper answers: 0, or the number of the exception -/
def kd (cd : Int → Int) (r : Int) : Int := if -100 < r then 0 else cd r
def QL (cd : Int → Int) (h : Nat → Nat) (cI cZ cJ : ClassId) (qo : Nat) (D : va_G) (σ : Sg) (f : Nat → Int64) (sz : Nat) (σ' : Sg) (r : Int) : Array Value → State → Outcome → State → Prop := va_Qi (fun r' (u : Sg × (Nat → Int64)) => u.1 = σ' ∧ ok σ' ∧ r' = iI (kd cd r) ∧ (-100 < r → inR r ∧ u.2 0 = Int64.ofInt r)) (fun u t => va_P D vwCl (lW h cI cZ cJ qo u.1 u.2) t.heap ∧ va_K D vwCl (lT cI cZ cJ) t ∧ va_D (va_A (lW h cI cZ cJ qo σ f) sz) (lW h cI cZ cJ qo u.1 u.2)) (va_A (lW h cI cZ cJ qo σ f) sz)
theorem PL_blind (t1 t2 : Nat) (h : Nat → Nat) (cI cZ cJ : ClassId) (qo : Nat) (D : va_G) (σ : Sg) (f : Nat → Int64) (sz : Nat) (vs : List Value) : FrameBlind (PL t1 t2 h cI cZ cJ qo D σ f sz vs) := fun a U g mk q => by
  obtain ⟨q0, q1, qP, qK, qD, qE⟩ := q
  exact ⟨q0, q1, qP, va_K.moved (u := U) (U := U.calling g mk a) (Vm.Alike.refl U.vm) qK, qD, wE_ok t1 t2 _ _ U (U.calling g mk a) U.heap U.heap (State.WarmedH.refl U) (fun _ h => h) (fun _ _ _ => rfl) qE⟩
theorem of_WH {l : Launch} {y : MethodName} {ws ws' : List Cond} {rm : Room} {Pc : Array Value → State → Prop} {Qc : Array Value → State → Outcome → State → Prop} {mc ms : Nat} {free : Addr → Prop} {cc : ByteArray} {maxL : Nat} {ret : Option FieldType} {hh : List (Nat × Nat × Nat × Nat)}
    (hy : plainName y.cls = true) (hw : ws = Cond.codeWith y cc maxL ret hh :: ws')
    (body : ∀ p e s m args below meth c s₁, BodyLoose p l y (headSpec ws rm) cc maxL ret e s m args below meth c s₁ → c.maxLocals = maxL → Pc args s →
      W p l e (headSpec ws rm).room s m args below meth c s.heap [] 0 0 (MQ below Qc args s mc ms free) (entryFrame m args maxL)) : Met l y ws rm Pc Qc mc ms free := by
  refine MetFree.of_bodyS (code := cc) (maxLocals := maxL) (ret := ret) hy ?_ ?_
  · intro args s m h hn
    obtain ⟨m9, meth, c, hn9, h1, h2, h3, h4, -, h5, h6, -⟩ := Cond.codeWith_spec (atoms_spec (ws := ws) h _ (by rw [hw]; exact List.mem_cons_self))
    cases hn.symm.trans hn9
    exact ⟨meth, c, h1, h2, h3, h4, h5, h6⟩
  · intro p e s m args below meth c s₁ B hml hP _
    have hh0 : s₁.heap = s.heap := by rw [B.state]; rfl
    obtain ⟨t, a1, o, b1, b2, b3⟩ := body p e s m args below meth c s₁ B hml hP s₁ hh0 (Stand.of_body B)
    exact ⟨t, o, a1, b1, b2, b3⟩
def cd_open (r : Int) : Int := if r = -103 then 1 else 0
abbrev rmL_open : Room := { frames := 7, cells := 1, slots := 6, locals := 141 }
set_option maxRecDepth 100000 in
theorem tL_open (l : Launch) (hst : l.stackTraces = false) {h : Nat → Nat} {cI cZ cJ : ClassId} {D : va_G} {t1 t2 qo : Nat} {σ : Sg} {x1 : Int} (k0 : ok σ) (hx1 : inR x1) {σ1 : Sg} {r : Int} (ho : f9_open σ x1 = some (σ1, r)) (hr : -100 < r ∨ r = -103) (f : Nat → Int64) (sz : Nat) : Met l yL_open wsL_open rmL_open (PL t1 t2 h cI cZ cJ qo D σ f sz [.ref (h 199), .int (iI x1), .ref qo]) (QL cd_open h cI cZ cJ qo D σ f sz σ1 r) 1 6 (va_A (lW h cI cZ cJ qo σ f) sz) := by
  refine of_WH (cc := cL_open) (maxL := 4) (ret := some .int) (hh := [(0, 9, 12, 21)]) (by decide) rfl ?_
  intro p e s m args below meth c s₁ B hml hv
  obtain ⟨rfl, hsz, hP, hK, hD0, hE0⟩ := hv
  have hts := atoms_spec (ws := wsL_open) B.pre
  have hown : s.vm.findClass RL = some m.cls := findClass_of_methodNamed B.named
  have htab : c.exceptionTable.toList = tableOf [(0, 9, 12, 21)] := vx_table (x := yL_open) B (hts _ List.mem_cons_self)
  have hx := B.exec
  have hb := B.bytes
  have hret := B.returns
  have hlocks := B.notSynchronized
  have hl := lv_entry ([.ref (h 199), .int (iI x1), .ref qo] : List Value) (n := 4) (Nat.le_of_ble_eq_true rfl)
  rw [lg_entry_eq]
  generalize (lg_sl ([.ref (h 199), .int (iI x1), .ref qo] : List Value) ++ List.replicate (4 - (lg_sl ([.ref (h 199), .int (iI x1), .ref qo] : List Value)).length) Slot.unset).toArray = ls at hl ⊢
  have hl : lv_has ls 4 [(0, .ref (h 199)), (1, .int (iI x1)), (2, .ref qo)] := hl
  have hA : ∀ z : Nat, s.heap.size ≤ z → va_A (lW h cI cZ cJ qo σ f) sz z := fun z hz => Or.inr (by rw [← hsz]; exact hz)
  have hD : va_D (va_A (lW h cI cZ cJ qo σ f) sz) (lW h cI cZ cJ qo σ f) := hD0.self (sz := sz)
  have hS : va_S (va_A (lW h cI cZ cJ qo σ f) sz) s.heap s.heap [] := va_S.rf
  have pm : ∀ (τ : Sg) (g : Nat → Int64), (lW h cI cZ cJ qo τ g).Perm (cW h cI cZ τ ++ [oC qo cJ g]) := fun τ g => (List.perm_append_singleton _ _).symm
  have hPX := wp_perm (pm σ f) hP
  have hDX := wd_perm (pm σ f) hD
  have hFc := wa_free hDX hS hA
  have hKc : va_K D vwCl (mT cI cZ) s := hK.sub [0, 1] rfl
  refine lv_aload_n hx hb dL_open_0 rfl (lv_at hl 2 rfl) ?_
  refine lv_iconst (v := iI 0) hx hb dL_open_1 rfl ?_
  refine lv_aload_n hx hb dL_open_2 rfl (lv_at hl 0 rfl) ?_
  refine lv_iload_n hx hb dL_open_3 rfl (lv_at hl 1 rfl) ?_
  refine vx_calli (vx_runV (As := [.int (iI x1)]) (rest := [.int (iI 0), .ref qo]) ⟨hx, hb, hml, hown, hts⟩ (t9_open l hst k0 hx1 _ _ ho s.heap.size) (cwV 1 hts gL_open_X9_open rfl rfl rfl (by decide +kernel) ⟨Nat.le_of_ble_eq_true rfl, Nat.le_of_ble_eq_true rfl⟩) ⟨PP_blind (cE_ok t1 t2) (cW h cI cZ) D (mT cI cZ) σ _ _, va_recv hKc (wp_l hPX) (q0 := 0) (ci := 8) rfl cW_X9, fun U hU hW => ⟨rfl, by rw [hU], by rw [hU]; exact wp_l hPX, va_K.moved hW.alike hKc, (wd_l hDX).weaken (fun _ _ _ _ => trivial), cE_ok t1 t2 _ _ s U s.heap U.heap hW (fun q hq => hFc q hq) (fun a h1 h2 => by rw [hU]) hE0.1⟩⟩ rfl rfl hl.1 rfl (lv_room (Nat.le_of_ble_eq_true rfl)) dL_open_4 ⟨Nat.le_of_ble_eq_true rfl, Nat.le_of_ble_eq_true rfl⟩) hS (fun z _ h => hFc z h) hFc (fun z _ h => hFc z h) (fun E ce q9 u t H1 locs1 ht hvm hp hb9 hz1 hk1 hS1 hce hcv hcl => ?_) (fun r9 u t H1 locs1 ht hvm hw hB hz1 hk1 hS1 => ?_)
  · obtain ⟨rfl, hok1⟩ := hp
    obtain ⟨hex, hP1, hK1, hD1⟩ := hb9
    rw [ht] at hP1
    obtain ⟨hP2, hD2⟩ := wj hPX hDX hFc hk1 hP1 hD1
    have hP3 := wp_perm (pm _ f).symm hP2
    have hD3 := wd_perm (pm _ f).symm hD2
    have hneg : ¬ (-100 < r) := by rcases hex with q | q | q | q <;> omega
    by_cases z0 : r = -103
    · have eE : E = "java/util/NoSuchElementException" := by rcases hex with q | q | q | q <;> first | exact q.2 | (exfalso; omega)
      subst eE
      refine lc_catch (own := RL) (name := "java/util/NoSuchElementException") hown [] (⟨0, 9, 12, 21⟩ : ExceptionTableEntry) [] (htab.trans rfl) (fun _ hz => absurd hz List.not_mem_nil) (by decide) (by decide) (hts _ (List.mem_of_getElem? (i := 1) rfl)) ((hE0.1.2.2.2.1 _ (by decide)).word) hce hcv hcl ?_
      refine lv_astore_n (lv' := [(3, .ref q9), (0, .ref (h 199)), (1, .int (iI x1)), (2, .ref qo)]) hx hb dL_open_12 rfl hl (by decide) rfl (fun ls2 hl2 => ?_)
      refine lv_iconst (v := iI 1) hx hb dL_open_13 rfl ?_
      exact W.iret (v := iI 1) hx hb hret (fun t2 ht2 hW2 => ⟨⟨iI 1, (u, f), rfl, ⟨rfl, hok1, by unfold kd; rw [if_neg hneg, z0]; rfl, fun q => absurd q hneg⟩, by rw [ht2]; exact hP3, va_K.moved hW2.alike hK, hD3⟩, hS1.F ht2⟩) hS1.2.2 dL_open_14 hlocks
    exfalso
    omega
  · obtain ⟨rfl, rfl, hok1, hr1, hgt⟩ := hw
    obtain ⟨hP1, hK1, hD1⟩ := hB
    rw [ht] at hP1
    obtain ⟨hP2, hD2⟩ := wj hPX hDX hFc hk1 hP1 hD1
    have hP3 := wp_perm (pm _ f).symm hP2
    have hD3 := wd_perm (pm _ f).symm hD2
    refine lv_i2l hx hb dL_open_7 (i2l_I hr1) ?_
    refine va_last hx hb hK hP3 hD3 hS1 0 2 rfl rfl (vp_in_iff.mpr (by decide)) dL_open_8 (fun H2 locs2 hP4 hD4 hS2 => ?_)
    refine lv_goto (tgt := 15) hx hb dL_open_9 (by decide) ?_
    refine lv_iconst (v := iI 0) hx hb dL_open_15 rfl ?_
    exact W.iret (v := iI 0) hx hb hret (fun t2 ht2 hW2 => ⟨⟨iI 0, (_, vp_updL f 0 (Int64.ofInt r)), rfl, ⟨rfl, hok1, by unfold kd; rw [if_pos hgt], fun _ => ⟨hr1, rfl⟩⟩, by rw [ht2]; exact hP4, va_K.moved hW2.alike hK, hD4⟩, hS2.F ht2⟩) hS2.2.2 dL_open_16 hlocks
