def cd_make (r : Int) : Int := if r = -101 then 1 else if r = -102 then 2 else 0
abbrev rmL_make : Room := { frames := 7, cells := 1, slots := 6, locals := 144 }
set_option maxRecDepth 100000 in
theorem tL_make (l : Launch) (hst : l.stackTraces = false) {h : Nat → Nat} {cI cZ cJ : ClassId} {D : va_G} {t1 t2 qo : Nat} {σ : Sg} {x1 x2 x3 x4 : Int} (k0 : ok σ) (hx1 : inR x1) (hx2 : inR x2) (hx3 : inR x3) (hx4 : inR x4) {σ1 : Sg} {r : Int} (ho : f9_make σ x1 x2 x3 x4 = some (σ1, r)) (hr : -100 < r ∨ r = -101 ∨ r = -102) (f : Nat → Int64) (sz : Nat) : Met l yL_make wsL_make rmL_make (PL t1 t2 h cI cZ cJ qo D σ f sz [.ref (h 199), .int (iI x1), .int (iI x2), .int (iI x3), .int (iI x4), .ref qo]) (QL cd_make h cI cZ cJ qo D σ f sz σ1 r) 1 6 (va_A (lW h cI cZ cJ qo σ f) sz) := by
  refine of_WH (cc := cL_make) (maxL := 7) (ret := some .int) (hh := [(0, 14, 17, 13), (0, 14, 21, 15)]) (by decide) rfl ?_
  intro p e s m args below meth c s₁ B hml hv
  obtain ⟨rfl, hsz, hP, hK, hD0, hE0⟩ := hv
  have hts := atoms_spec (ws := wsL_make) B.pre
  have hown : s.vm.findClass RL = some m.cls := findClass_of_methodNamed B.named
  have htab : c.exceptionTable.toList = tableOf [(0, 14, 17, 13), (0, 14, 21, 15)] := vx_table (x := yL_make) B (hts _ List.mem_cons_self)
  have hx := B.exec
  have hb := B.bytes
  have hret := B.returns
  have hlocks := B.notSynchronized
  have hl := lv_entry ([.ref (h 199), .int (iI x1), .int (iI x2), .int (iI x3), .int (iI x4), .ref qo] : List Value) (n := 7) (Nat.le_of_ble_eq_true rfl)
  rw [lg_entry_eq]
  generalize (lg_sl ([.ref (h 199), .int (iI x1), .int (iI x2), .int (iI x3), .int (iI x4), .ref qo] : List Value) ++ List.replicate (7 - (lg_sl ([.ref (h 199), .int (iI x1), .int (iI x2), .int (iI x3), .int (iI x4), .ref qo] : List Value)).length) Slot.unset).toArray = ls at hl ⊢
  have hl : lv_has ls 7 [(0, .ref (h 199)), (1, .int (iI x1)), (2, .int (iI x2)), (3, .int (iI x3)), (4, .int (iI x4)), (5, .ref qo)] := hl
  have hA : ∀ z : Nat, s.heap.size ≤ z → va_A (lW h cI cZ cJ qo σ f) sz z := fun z hz => Or.inr (by rw [← hsz]; exact hz)
  have hD : va_D (va_A (lW h cI cZ cJ qo σ f) sz) (lW h cI cZ cJ qo σ f) := hD0.self (sz := sz)
  have hS : va_S (va_A (lW h cI cZ cJ qo σ f) sz) s.heap s.heap [] := va_S.rf
  have pm : ∀ (τ : Sg) (g : Nat → Int64), (lW h cI cZ cJ qo τ g).Perm (cW h cI cZ τ ++ [oC qo cJ g]) := fun τ g => (List.perm_append_singleton _ _).symm
  have hPX := wp_perm (pm σ f) hP
  have hDX := wd_perm (pm σ f) hD
  have hFc := wa_free hDX hS hA
  have hKc : va_K D vwCl (mT cI cZ) s := hK.sub [0, 1] rfl
  refine lv_aload hx hb dL_make_0 (lv_at hl 5 rfl) ?_
  refine lv_iconst (v := iI 0) hx hb dL_make_2 rfl ?_
  refine lv_aload_n hx hb dL_make_3 rfl (lv_at hl 0 rfl) ?_
  refine lv_iload_n hx hb dL_make_4 rfl (lv_at hl 1 rfl) ?_
  refine lv_iload_n hx hb dL_make_5 rfl (lv_at hl 2 rfl) ?_
  refine lv_iload_n hx hb dL_make_6 rfl (lv_at hl 3 rfl) ?_
  refine lv_iload hx hb dL_make_7 (lv_at hl 4 rfl) ?_
  refine vx_calli (vx_runV (As := [.int (iI x1), .int (iI x2), .int (iI x3), .int (iI x4)]) (rest := [.int (iI 0), .ref qo]) ⟨hx, hb, hml, hown, hts⟩ (t9_make l hst k0 hx1 hx2 hx3 hx4 _ _ ho s.heap.size) (cwV 4 hts gL_make_X9_make rfl rfl rfl (by decide +kernel) ⟨Nat.le_of_ble_eq_true rfl, Nat.le_of_ble_eq_true rfl⟩) ⟨PP_blind (cE_ok t1 t2) (cW h cI cZ) D (mT cI cZ) σ _ _, va_recv hKc (wp_l hPX) (q0 := 0) (ci := 8) rfl cW_X9, fun U hU hW => ⟨rfl, by rw [hU], by rw [hU]; exact wp_l hPX, va_K.moved hW.alike hKc, (wd_l hDX).weaken (fun _ _ _ _ => trivial), cE_ok t1 t2 _ _ s U s.heap U.heap hW (fun q hq => hFc q hq) (fun a h1 h2 => by rw [hU]) hE0.1⟩⟩ rfl rfl hl.1 rfl (lv_room (Nat.le_of_ble_eq_true rfl)) dL_make_9 ⟨Nat.le_of_ble_eq_true rfl, Nat.le_of_ble_eq_true rfl⟩) hS (fun z _ h => hFc z h) hFc (fun z _ h => hFc z h) (fun E ce q9 u t H1 locs1 ht hvm hp hb9 hz1 hk1 hS1 hce hcv hcl => ?_) (fun r9 u t H1 locs1 ht hvm hw hB hz1 hk1 hS1 => ?_)
  · obtain ⟨rfl, hok1⟩ := hp
    obtain ⟨hex, hP1, hK1, hD1⟩ := hb9
    rw [ht] at hP1
    obtain ⟨hP2, hD2⟩ := wj hPX hDX hFc hk1 hP1 hD1
    have hP3 := wp_perm (pm _ f).symm hP2
    have hD3 := wd_perm (pm _ f).symm hD2
    have hneg : ¬ (-100 < r) := by rcases hex with q | q | q | q <;> omega
    by_cases z0 : r = -101
    · have eE : E = "java/lang/IllegalArgumentException" := by rcases hex with q | q | q | q <;> first | exact q.2 | (exfalso; omega)
      subst eE
      refine lc_catch (own := RL) (name := "java/lang/IllegalArgumentException") hown [] (⟨0, 14, 17, 13⟩ : ExceptionTableEntry) [(⟨0, 14, 21, 15⟩ : ExceptionTableEntry)] (htab.trans rfl) (fun _ hz => absurd hz List.not_mem_nil) (by decide) (by decide) (hts _ (List.mem_of_getElem? (i := 1) rfl)) ((hE0.1.2.2.2.1 _ (by decide)).word) hce hcv hcl ?_
      refine lv_astore (lv' := [(6, .ref q9), (0, .ref (h 199)), (1, .int (iI x1)), (2, .int (iI x2)), (3, .int (iI x3)), (4, .int (iI x4)), (5, .ref qo)]) hx hb dL_make_17 hl (by decide) rfl (fun ls2 hl2 => ?_)
      refine lv_iconst (v := iI 1) hx hb dL_make_19 rfl ?_
      exact W.iret (v := iI 1) hx hb hret (fun t2 ht2 hW2 => ⟨⟨iI 1, (u, f), rfl, ⟨rfl, hok1, by unfold kd; rw [if_neg hneg, z0]; rfl, fun q => absurd q hneg⟩, by rw [ht2]; exact hP3, va_K.moved hW2.alike hK, hD3⟩, hS1.F ht2⟩) hS1.2.2 dL_make_20 hlocks
    by_cases z1 : r = -102
    · have eE : E = "java/lang/IllegalStateException" := by rcases hex with q | q | q | q <;> first | exact q.2 | (exfalso; omega)
      subst eE
      refine lc_catch (own := RL) (name := "java/lang/IllegalStateException") hown [(⟨0, 14, 17, 13⟩ : ExceptionTableEntry)] (⟨0, 14, 21, 15⟩ : ExceptionTableEntry) [] (htab.trans rfl) (List.forall_mem_cons.mpr ⟨⟨by decide, by decide, "java/lang/IllegalArgumentException", hts _ (List.mem_of_getElem? (i := 1) rfl), hE0.2 ("java/lang/IllegalStateException", "java/lang/IllegalArgumentException") (by decide)⟩, (fun _ hz => absurd hz List.not_mem_nil)⟩) (by decide) (by decide) (hts _ (List.mem_of_getElem? (i := 2) rfl)) ((hE0.1.2.2.2.1 _ (by decide)).word) hce hcv hcl ?_
      refine lv_astore (lv' := [(6, .ref q9), (0, .ref (h 199)), (1, .int (iI x1)), (2, .int (iI x2)), (3, .int (iI x3)), (4, .int (iI x4)), (5, .ref qo)]) hx hb dL_make_21 hl (by decide) rfl (fun ls2 hl2 => ?_)
      refine lv_iconst (v := iI 2) hx hb dL_make_23 rfl ?_
      exact W.iret (v := iI 2) hx hb hret (fun t2 ht2 hW2 => ⟨⟨iI 2, (u, f), rfl, ⟨rfl, hok1, by unfold kd; rw [if_neg hneg, z1]; rfl, fun q => absurd q hneg⟩, by rw [ht2]; exact hP3, va_K.moved hW2.alike hK, hD3⟩, hS1.F ht2⟩) hS1.2.2 dL_make_24 hlocks
    exfalso
    omega
  · obtain ⟨rfl, rfl, hok1, hr1, hgt⟩ := hw
    obtain ⟨hP1, hK1, hD1⟩ := hB
    rw [ht] at hP1
    obtain ⟨hP2, hD2⟩ := wj hPX hDX hFc hk1 hP1 hD1
    have hP3 := wp_perm (pm _ f).symm hP2
    have hD3 := wd_perm (pm _ f).symm hD2
    refine lv_i2l hx hb dL_make_12 (i2l_I hr1) ?_
    refine va_last hx hb hK hP3 hD3 hS1 0 2 rfl rfl (vp_in_iff.mpr (by decide)) dL_make_13 (fun H2 locs2 hP4 hD4 hS2 => ?_)
    refine lv_goto (tgt := 25) hx hb dL_make_14 (by decide) ?_
    refine lv_iconst (v := iI 0) hx hb dL_make_25 rfl ?_
    exact W.iret (v := iI 0) hx hb hret (fun t2 ht2 hW2 => ⟨⟨iI 0, (_, vp_updL f 0 (Int64.ofInt r)), rfl, ⟨rfl, hok1, by unfold kd; rw [if_pos hgt], fun _ => ⟨hr1, rfl⟩⟩, by rw [ht2]; exact hP4, va_K.moved hW2.alike hK, hD4⟩, hS2.F ht2⟩) hS2.2.2 dL_make_26 hlocks
def cd_work (r : Int) : Int := if r = -103 then 1 else if r = -104 then 2 else if r = -101 then 3 else if r = -102 then 4 else 0
abbrev rmL_work : Room := { frames := 7, cells := 1, slots := 6, locals := 143 }
set_option maxRecDepth 100000 in
theorem tL_work (l : Launch) (N : Nat) (hst : l.stackTraces = false) {h : Nat → Nat} {cI cZ cJ : ClassId} {D : va_G} {t1 t2 qo : Nat} {σ : Sg} {x1 x2 : Int} (k0 : ok σ) (hx1 : inR x1) (hx2 : inR x2) {σ1 : Sg} {r : Int} (ho : f9_work N σ x1 x2 = some (σ1, r)) (hr : -100 < r ∨ r = -103 ∨ r = -104 ∨ r = -101 ∨ r = -102) (f : Nat → Int64) (sz : Nat) : Met l yL_work wsL_work rmL_work (PL t1 t2 h cI cZ cJ qo D σ f sz [.ref (h 199), .int (iI x1), .int (iI x2), .ref qo]) (QL cd_work h cI cZ cJ qo D σ f sz σ1 r) 1 6 (va_A (lW h cI cZ cJ qo σ f) sz) := by
  refine of_WH (cc := cL_work) (maxL := 5) (ret := some .int) (hh := [(0, 10, 13, 21), (0, 10, 17, 27), (0, 10, 21, 13), (0, 10, 25, 15)]) (by decide) rfl ?_
  intro p e s m args below meth c s₁ B hml hv
  obtain ⟨rfl, hsz, hP, hK, hD0, hE0⟩ := hv
  have hts := atoms_spec (ws := wsL_work) B.pre
  have hown : s.vm.findClass RL = some m.cls := findClass_of_methodNamed B.named
  have htab : c.exceptionTable.toList = tableOf [(0, 10, 13, 21), (0, 10, 17, 27), (0, 10, 21, 13), (0, 10, 25, 15)] := vx_table (x := yL_work) B (hts _ List.mem_cons_self)
  have hx := B.exec
  have hb := B.bytes
  have hret := B.returns
  have hlocks := B.notSynchronized
  have hl := lv_entry ([.ref (h 199), .int (iI x1), .int (iI x2), .ref qo] : List Value) (n := 5) (Nat.le_of_ble_eq_true rfl)
  rw [lg_entry_eq]
  generalize (lg_sl ([.ref (h 199), .int (iI x1), .int (iI x2), .ref qo] : List Value) ++ List.replicate (5 - (lg_sl ([.ref (h 199), .int (iI x1), .int (iI x2), .ref qo] : List Value)).length) Slot.unset).toArray = ls at hl ⊢
  have hl : lv_has ls 5 [(0, .ref (h 199)), (1, .int (iI x1)), (2, .int (iI x2)), (3, .ref qo)] := hl
  have hA : ∀ z : Nat, s.heap.size ≤ z → va_A (lW h cI cZ cJ qo σ f) sz z := fun z hz => Or.inr (by rw [← hsz]; exact hz)
  have hD : va_D (va_A (lW h cI cZ cJ qo σ f) sz) (lW h cI cZ cJ qo σ f) := hD0.self (sz := sz)
  have hS : va_S (va_A (lW h cI cZ cJ qo σ f) sz) s.heap s.heap [] := va_S.rf
  have pm : ∀ (τ : Sg) (g : Nat → Int64), (lW h cI cZ cJ qo τ g).Perm (cW h cI cZ τ ++ [oC qo cJ g]) := fun τ g => (List.perm_append_singleton _ _).symm
  have hPX := wp_perm (pm σ f) hP
  have hDX := wd_perm (pm σ f) hD
  have hFc := wa_free hDX hS hA
  have hKc : va_K D vwCl (mT cI cZ) s := hK.sub [0, 1] rfl
  refine lv_aload_n hx hb dL_work_0 rfl (lv_at hl 3 rfl) ?_
  refine lv_iconst (v := iI 0) hx hb dL_work_1 rfl ?_
  refine lv_aload_n hx hb dL_work_2 rfl (lv_at hl 0 rfl) ?_
  refine lv_iload_n hx hb dL_work_3 rfl (lv_at hl 1 rfl) ?_
  refine lv_iload_n hx hb dL_work_4 rfl (lv_at hl 2 rfl) ?_
  refine vx_calli (vx_runV (As := [.int (iI x1), .int (iI x2)]) (rest := [.int (iI 0), .ref qo]) ⟨hx, hb, hml, hown, hts⟩ (t9_work l N hst k0 hx1 hx2 _ _ ho s.heap.size) (cwV 2 hts gL_work_X9_work rfl rfl rfl (by decide +kernel) ⟨Nat.le_of_ble_eq_true rfl, Nat.le_of_ble_eq_true rfl⟩) ⟨PP_blind (cE_ok t1 t2) (cW h cI cZ) D (mT cI cZ) σ _ _, va_recv hKc (wp_l hPX) (q0 := 0) (ci := 8) rfl cW_X9, fun U hU hW => ⟨rfl, by rw [hU], by rw [hU]; exact wp_l hPX, va_K.moved hW.alike hKc, (wd_l hDX).weaken (fun _ _ _ _ => trivial), cE_ok t1 t2 _ _ s U s.heap U.heap hW (fun q hq => hFc q hq) (fun a h1 h2 => by rw [hU]) hE0.1⟩⟩ rfl rfl hl.1 rfl (lv_room (Nat.le_of_ble_eq_true rfl)) dL_work_5 ⟨Nat.le_of_ble_eq_true rfl, Nat.le_of_ble_eq_true rfl⟩) hS (fun z _ h => hFc z h) hFc (fun z _ h => hFc z h) (fun E ce q9 u t H1 locs1 ht hvm hp hb9 hz1 hk1 hS1 hce hcv hcl => ?_) (fun r9 u t H1 locs1 ht hvm hw hB hz1 hk1 hS1 => ?_)
  · obtain ⟨rfl, hok1⟩ := hp
    obtain ⟨hex, hP1, hK1, hD1⟩ := hb9
    rw [ht] at hP1
    obtain ⟨hP2, hD2⟩ := wj hPX hDX hFc hk1 hP1 hD1
    have hP3 := wp_perm (pm _ f).symm hP2
    have hD3 := wd_perm (pm _ f).symm hD2
    have hneg : ¬ (-100 < r) := by rcases hex with q | q | q | q <;> omega
    by_cases z0 : r = -103
    · have eE : E = "java/util/NoSuchElementException" := by rcases hex with q | q | q | q <;> first | exact q.2 | (exfalso; omega)
      subst eE
      refine lc_catch (own := RL) (name := "java/util/NoSuchElementException") hown [] (⟨0, 10, 13, 21⟩ : ExceptionTableEntry) [(⟨0, 10, 17, 27⟩ : ExceptionTableEntry), (⟨0, 10, 21, 13⟩ : ExceptionTableEntry), (⟨0, 10, 25, 15⟩ : ExceptionTableEntry)] (htab.trans rfl) (fun _ hz => absurd hz List.not_mem_nil) (by decide) (by decide) (hts _ (List.mem_of_getElem? (i := 1) rfl)) ((hE0.1.2.2.2.1 _ (by decide)).word) hce hcv hcl ?_
      refine lv_astore (lv' := [(4, .ref q9), (0, .ref (h 199)), (1, .int (iI x1)), (2, .int (iI x2)), (3, .ref qo)]) hx hb dL_work_13 hl (by decide) rfl (fun ls2 hl2 => ?_)
      refine lv_iconst (v := iI 1) hx hb dL_work_15 rfl ?_
      exact W.iret (v := iI 1) hx hb hret (fun t2 ht2 hW2 => ⟨⟨iI 1, (u, f), rfl, ⟨rfl, hok1, by unfold kd; rw [if_neg hneg, z0]; rfl, fun q => absurd q hneg⟩, by rw [ht2]; exact hP3, va_K.moved hW2.alike hK, hD3⟩, hS1.F ht2⟩) hS1.2.2 dL_work_16 hlocks
    by_cases z1 : r = -104
    · have eE : E = "java/lang/IndexOutOfBoundsException" := by rcases hex with q | q | q | q <;> first | exact q.2 | (exfalso; omega)
      subst eE
      refine lc_catch (own := RL) (name := "java/lang/IndexOutOfBoundsException") hown [(⟨0, 10, 13, 21⟩ : ExceptionTableEntry)] (⟨0, 10, 17, 27⟩ : ExceptionTableEntry) [(⟨0, 10, 21, 13⟩ : ExceptionTableEntry), (⟨0, 10, 25, 15⟩ : ExceptionTableEntry)] (htab.trans rfl) (List.forall_mem_cons.mpr ⟨⟨by decide, by decide, "java/util/NoSuchElementException", hts _ (List.mem_of_getElem? (i := 1) rfl), hE0.2 ("java/lang/IndexOutOfBoundsException", "java/util/NoSuchElementException") (by decide)⟩, (fun _ hz => absurd hz List.not_mem_nil)⟩) (by decide) (by decide) (hts _ (List.mem_of_getElem? (i := 2) rfl)) ((hE0.1.2.2.2.1 _ (by decide)).word) hce hcv hcl ?_
      refine lv_astore (lv' := [(4, .ref q9), (0, .ref (h 199)), (1, .int (iI x1)), (2, .int (iI x2)), (3, .ref qo)]) hx hb dL_work_17 hl (by decide) rfl (fun ls2 hl2 => ?_)
      refine lv_iconst (v := iI 2) hx hb dL_work_19 rfl ?_
      exact W.iret (v := iI 2) hx hb hret (fun t2 ht2 hW2 => ⟨⟨iI 2, (u, f), rfl, ⟨rfl, hok1, by unfold kd; rw [if_neg hneg, z1]; rfl, fun q => absurd q hneg⟩, by rw [ht2]; exact hP3, va_K.moved hW2.alike hK, hD3⟩, hS1.F ht2⟩) hS1.2.2 dL_work_20 hlocks
    by_cases z2 : r = -101
    · have eE : E = "java/lang/IllegalArgumentException" := by rcases hex with q | q | q | q <;> first | exact q.2 | (exfalso; omega)
      subst eE
      refine lc_catch (own := RL) (name := "java/lang/IllegalArgumentException") hown [(⟨0, 10, 13, 21⟩ : ExceptionTableEntry), (⟨0, 10, 17, 27⟩ : ExceptionTableEntry)] (⟨0, 10, 21, 13⟩ : ExceptionTableEntry) [(⟨0, 10, 25, 15⟩ : ExceptionTableEntry)] (htab.trans rfl) (List.forall_mem_cons.mpr ⟨⟨by decide, by decide, "java/util/NoSuchElementException", hts _ (List.mem_of_getElem? (i := 1) rfl), hE0.2 ("java/lang/IllegalArgumentException", "java/util/NoSuchElementException") (by decide)⟩, (List.forall_mem_cons.mpr ⟨⟨by decide, by decide, "java/lang/IndexOutOfBoundsException", hts _ (List.mem_of_getElem? (i := 2) rfl), hE0.2 ("java/lang/IllegalArgumentException", "java/lang/IndexOutOfBoundsException") (by decide)⟩, (fun _ hz => absurd hz List.not_mem_nil)⟩)⟩) (by decide) (by decide) (hts _ (List.mem_of_getElem? (i := 3) rfl)) ((hE0.1.2.2.2.1 _ (by decide)).word) hce hcv hcl ?_
      refine lv_astore (lv' := [(4, .ref q9), (0, .ref (h 199)), (1, .int (iI x1)), (2, .int (iI x2)), (3, .ref qo)]) hx hb dL_work_21 hl (by decide) rfl (fun ls2 hl2 => ?_)
      refine lv_iconst (v := iI 3) hx hb dL_work_23 rfl ?_
      exact W.iret (v := iI 3) hx hb hret (fun t2 ht2 hW2 => ⟨⟨iI 3, (u, f), rfl, ⟨rfl, hok1, by unfold kd; rw [if_neg hneg, z2]; rfl, fun q => absurd q hneg⟩, by rw [ht2]; exact hP3, va_K.moved hW2.alike hK, hD3⟩, hS1.F ht2⟩) hS1.2.2 dL_work_24 hlocks
    by_cases z3 : r = -102
    · have eE : E = "java/lang/IllegalStateException" := by rcases hex with q | q | q | q <;> first | exact q.2 | (exfalso; omega)
      subst eE
      refine lc_catch (own := RL) (name := "java/lang/IllegalStateException") hown [(⟨0, 10, 13, 21⟩ : ExceptionTableEntry), (⟨0, 10, 17, 27⟩ : ExceptionTableEntry), (⟨0, 10, 21, 13⟩ : ExceptionTableEntry)] (⟨0, 10, 25, 15⟩ : ExceptionTableEntry) [] (htab.trans rfl) (List.forall_mem_cons.mpr ⟨⟨by decide, by decide, "java/util/NoSuchElementException", hts _ (List.mem_of_getElem? (i := 1) rfl), hE0.2 ("java/lang/IllegalStateException", "java/util/NoSuchElementException") (by decide)⟩, (List.forall_mem_cons.mpr ⟨⟨by decide, by decide, "java/lang/IndexOutOfBoundsException", hts _ (List.mem_of_getElem? (i := 2) rfl), hE0.2 ("java/lang/IllegalStateException", "java/lang/IndexOutOfBoundsException") (by decide)⟩, (List.forall_mem_cons.mpr ⟨⟨by decide, by decide, "java/lang/IllegalArgumentException", hts _ (List.mem_of_getElem? (i := 3) rfl), hE0.2 ("java/lang/IllegalStateException", "java/lang/IllegalArgumentException") (by decide)⟩, (fun _ hz => absurd hz List.not_mem_nil)⟩)⟩)⟩) (by decide) (by decide) (hts _ (List.mem_of_getElem? (i := 4) rfl)) ((hE0.1.2.2.2.1 _ (by decide)).word) hce hcv hcl ?_
      refine lv_astore (lv' := [(4, .ref q9), (0, .ref (h 199)), (1, .int (iI x1)), (2, .int (iI x2)), (3, .ref qo)]) hx hb dL_work_25 hl (by decide) rfl (fun ls2 hl2 => ?_)
      refine lv_iconst (v := iI 4) hx hb dL_work_27 rfl ?_
      exact W.iret (v := iI 4) hx hb hret (fun t2 ht2 hW2 => ⟨⟨iI 4, (u, f), rfl, ⟨rfl, hok1, by unfold kd; rw [if_neg hneg, z3]; rfl, fun q => absurd q hneg⟩, by rw [ht2]; exact hP3, va_K.moved hW2.alike hK, hD3⟩, hS1.F ht2⟩) hS1.2.2 dL_work_28 hlocks
    exfalso
    omega
  · obtain ⟨rfl, rfl, hok1, hr1, hgt⟩ := hw
    obtain ⟨hP1, hK1, hD1⟩ := hB
    rw [ht] at hP1
    obtain ⟨hP2, hD2⟩ := wj hPX hDX hFc hk1 hP1 hD1
    have hP3 := wp_perm (pm _ f).symm hP2
    have hD3 := wd_perm (pm _ f).symm hD2
    refine lv_i2l hx hb dL_work_8 (i2l_I hr1) ?_
    refine va_last hx hb hK hP3 hD3 hS1 0 2 rfl rfl (vp_in_iff.mpr (by decide)) dL_work_9 (fun H2 locs2 hP4 hD4 hS2 => ?_)
    refine lv_goto (tgt := 29) hx hb dL_work_10 (by decide) ?_
    refine lv_iconst (v := iI 0) hx hb dL_work_29 rfl ?_
    exact W.iret (v := iI 0) hx hb hret (fun t2 ht2 hW2 => ⟨⟨iI 0, (_, vp_updL f 0 (Int64.ofInt r)), rfl, ⟨rfl, hok1, by unfold kd; rw [if_pos hgt], fun _ => ⟨hr1, rfl⟩⟩, by rw [ht2]; exact hP4, va_K.moved hW2.alike hK, hD4⟩, hS2.F ht2⟩) hS2.2.2 dL_work_30 hlocks
def cd_type (r : Int) : Int := if r = -103 then 1 else if r = -101 then 2 else 0
abbrev rmL_type : Room := { frames := 49, cells := 1, slots := 6, locals := 1271 }
set_option maxRecDepth 100000 in
theorem tL_type (l : Launch) (N : Nat) (hst : l.stackTraces = false) {h : Nat → Nat} {cI cZ cJ : ClassId} {D : va_G} {t1 t2 qo : Nat} {σ : Sg} {x1 : Int} (k0 : ok σ) (hx1 : inR x1) {σ1 : Sg} {r : Int} (ho : f9_type N σ x1 = some (σ1, r)) (hr : -100 < r ∨ r = -103 ∨ r = -101) (f : Nat → Int64) (sz : Nat) : Met l yL_type wsL_type rmL_type (PL t1 t2 h cI cZ cJ qo D σ f sz [.ref (h 199), .int (iI x1), .ref qo]) (QL cd_type h cI cZ cJ qo D σ f sz σ1 r) 1 6 (va_A (lW h cI cZ cJ qo σ f) sz) := by
  refine of_WH (cc := cL_type) (maxL := 4) (ret := some .int) (hh := [(0, 9, 12, 21), (0, 9, 15, 13)]) (by decide) rfl ?_
  intro p e s m args below meth c s₁ B hml hv
  obtain ⟨rfl, hsz, hP, hK, hD0, hE0⟩ := hv
  have hts := atoms_spec (ws := wsL_type) B.pre
  have hown : s.vm.findClass RL = some m.cls := findClass_of_methodNamed B.named
  have htab : c.exceptionTable.toList = tableOf [(0, 9, 12, 21), (0, 9, 15, 13)] := vx_table (x := yL_type) B (hts _ List.mem_cons_self)
  have hx := B.exec
  have hb := B.bytes
  have hret := B.returns
  have hlocks := B.notSynchronized
  have hl := lv_entry ([.ref (h 199), .int (iI x1), .ref qo] : List Value) (n := 4) (Nat.le_of_ble_eq_true rfl)
  rw [lg_entry_eq]
  generalize (lg_sl ([.ref (h 199), .int (iI x1), .ref qo] : List Value) ++ List.replicate (4 - (lg_sl ([.ref (h 199), .int (iI x1), .ref qo] : List Value)).length) Slot.unset).toArray = ls at hl ⊢
  have hl : lv_has ls 4 [(0, .ref (h 199)), (1, .int (iI x1)), (2, .ref qo)] := hl
  have hA : ∀ z : Nat, s.heap.size ≤ z → va_A (lW h cI cZ cJ qo σ f) sz z := fun z hz => Or.inr (by rw [← hsz]; exact hz)
  have hD : va_D (va_A (lW h cI cZ cJ qo σ f) sz) (lW h cI cZ cJ qo σ f) := hD0.self (sz := sz)
  have hS : va_S (va_A (lW h cI cZ cJ qo σ f) sz) s.heap s.heap [] := va_S.rf
  have pm : ∀ (τ : Sg) (g : Nat → Int64), (lW h cI cZ cJ qo τ g).Perm (cW h cI cZ τ ++ [oC qo cJ g]) := fun τ g => (List.perm_append_singleton _ _).symm
  have hPX := wp_perm (pm σ f) hP
  have hDX := wd_perm (pm σ f) hD
  have hFc := wa_free hDX hS hA
  have hKc : va_K D vwCl (mT cI cZ) s := hK.sub [0, 1] rfl
  refine lv_aload_n hx hb dL_type_0 rfl (lv_at hl 2 rfl) ?_
  refine lv_iconst (v := iI 0) hx hb dL_type_1 rfl ?_
  refine lv_aload_n hx hb dL_type_2 rfl (lv_at hl 0 rfl) ?_
  refine lv_iload_n hx hb dL_type_3 rfl (lv_at hl 1 rfl) ?_
  refine vx_calli (vx_runV (As := [.int (iI x1)]) (rest := [.int (iI 0), .ref qo]) ⟨hx, hb, hml, hown, hts⟩ (t9_type l N hst k0 hx1 _ _ ho s.heap.size) (cwV 1 hts gL_type_X9_type rfl rfl rfl (by decide +kernel) ⟨Nat.le_of_ble_eq_true rfl, Nat.le_of_ble_eq_true rfl⟩) ⟨PP_blind (cE_ok t1 t2) (cW h cI cZ) D (mT cI cZ) σ _ _, va_recv hKc (wp_l hPX) (q0 := 0) (ci := 8) rfl cW_X9, fun U hU hW => ⟨rfl, by rw [hU], by rw [hU]; exact wp_l hPX, va_K.moved hW.alike hKc, (wd_l hDX).weaken (fun _ _ _ _ => trivial), cE_ok t1 t2 _ _ s U s.heap U.heap hW (fun q hq => hFc q hq) (fun a h1 h2 => by rw [hU]) hE0.1⟩⟩ rfl rfl hl.1 rfl (lv_room (Nat.le_of_ble_eq_true rfl)) dL_type_4 ⟨Nat.le_of_ble_eq_true rfl, Nat.le_of_ble_eq_true rfl⟩) hS (fun z _ h => hFc z h) hFc (fun z _ h => hFc z h) (fun E ce q9 u t H1 locs1 ht hvm hp hb9 hz1 hk1 hS1 hce hcv hcl => ?_) (fun r9 u t H1 locs1 ht hvm hw hB hz1 hk1 hS1 => ?_)
  · obtain ⟨rfl, hok1⟩ := hp
    obtain ⟨hex, hP1, hK1, hD1⟩ := hb9
    rw [ht] at hP1
    obtain ⟨hP2, hD2⟩ := wj hPX hDX hFc hk1 hP1 hD1
    have hP3 := wp_perm (pm _ f).symm hP2
    have hD3 := wd_perm (pm _ f).symm hD2
    have hneg : ¬ (-100 < r) := by rcases hex with q | q | q | q <;> omega
    by_cases z0 : r = -103
    · have eE : E = "java/util/NoSuchElementException" := by rcases hex with q | q | q | q <;> first | exact q.2 | (exfalso; omega)
      subst eE
      refine lc_catch (own := RL) (name := "java/util/NoSuchElementException") hown [] (⟨0, 9, 12, 21⟩ : ExceptionTableEntry) [(⟨0, 9, 15, 13⟩ : ExceptionTableEntry)] (htab.trans rfl) (fun _ hz => absurd hz List.not_mem_nil) (by decide) (by decide) (hts _ (List.mem_of_getElem? (i := 1) rfl)) ((hE0.1.2.2.2.1 _ (by decide)).word) hce hcv hcl ?_
      refine lv_astore_n (lv' := [(3, .ref q9), (0, .ref (h 199)), (1, .int (iI x1)), (2, .ref qo)]) hx hb dL_type_12 rfl hl (by decide) rfl (fun ls2 hl2 => ?_)
      refine lv_iconst (v := iI 1) hx hb dL_type_13 rfl ?_
      exact W.iret (v := iI 1) hx hb hret (fun t2 ht2 hW2 => ⟨⟨iI 1, (u, f), rfl, ⟨rfl, hok1, by unfold kd; rw [if_neg hneg, z0]; rfl, fun q => absurd q hneg⟩, by rw [ht2]; exact hP3, va_K.moved hW2.alike hK, hD3⟩, hS1.F ht2⟩) hS1.2.2 dL_type_14 hlocks
    by_cases z1 : r = -101
    · have eE : E = "java/lang/IllegalArgumentException" := by rcases hex with q | q | q | q <;> first | exact q.2 | (exfalso; omega)
      subst eE
      refine lc_catch (own := RL) (name := "java/lang/IllegalArgumentException") hown [(⟨0, 9, 12, 21⟩ : ExceptionTableEntry)] (⟨0, 9, 15, 13⟩ : ExceptionTableEntry) [] (htab.trans rfl) (List.forall_mem_cons.mpr ⟨⟨by decide, by decide, "java/util/NoSuchElementException", hts _ (List.mem_of_getElem? (i := 1) rfl), hE0.2 ("java/lang/IllegalArgumentException", "java/util/NoSuchElementException") (by decide)⟩, (fun _ hz => absurd hz List.not_mem_nil)⟩) (by decide) (by decide) (hts _ (List.mem_of_getElem? (i := 2) rfl)) ((hE0.1.2.2.2.1 _ (by decide)).word) hce hcv hcl ?_
      refine lv_astore_n (lv' := [(3, .ref q9), (0, .ref (h 199)), (1, .int (iI x1)), (2, .ref qo)]) hx hb dL_type_15 rfl hl (by decide) rfl (fun ls2 hl2 => ?_)
      refine lv_iconst (v := iI 2) hx hb dL_type_16 rfl ?_
      exact W.iret (v := iI 2) hx hb hret (fun t2 ht2 hW2 => ⟨⟨iI 2, (u, f), rfl, ⟨rfl, hok1, by unfold kd; rw [if_neg hneg, z1]; rfl, fun q => absurd q hneg⟩, by rw [ht2]; exact hP3, va_K.moved hW2.alike hK, hD3⟩, hS1.F ht2⟩) hS1.2.2 dL_type_17 hlocks
    exfalso
    omega
  · obtain ⟨rfl, rfl, hok1, hr1, hgt⟩ := hw
    obtain ⟨hP1, hK1, hD1⟩ := hB
    rw [ht] at hP1
    obtain ⟨hP2, hD2⟩ := wj hPX hDX hFc hk1 hP1 hD1
    have hP3 := wp_perm (pm _ f).symm hP2
    have hD3 := wd_perm (pm _ f).symm hD2
    refine lv_i2l hx hb dL_type_7 (i2l_I hr1) ?_
    refine va_last hx hb hK hP3 hD3 hS1 0 2 rfl rfl (vp_in_iff.mpr (by decide)) dL_type_8 (fun H2 locs2 hP4 hD4 hS2 => ?_)
    refine lv_goto (tgt := 18) hx hb dL_type_9 (by decide) ?_
    refine lv_iconst (v := iI 0) hx hb dL_type_18 rfl ?_
    exact W.iret (v := iI 0) hx hb hret (fun t2 ht2 hW2 => ⟨⟨iI 0, (_, vp_updL f 0 (Int64.ofInt r)), rfl, ⟨rfl, hok1, by unfold kd; rw [if_pos hgt], fun _ => ⟨hr1, rfl⟩⟩, by rw [ht2]; exact hP4, va_K.moved hW2.alike hK, hD4⟩, hS2.F ht2⟩) hS2.2.2 dL_type_19 hlocks
