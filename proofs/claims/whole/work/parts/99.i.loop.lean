/-! THE CLAIM OUT OF ONE WALK OF THE LAW'S BODY. Your part is whole_start (and what it stands on); all else here is the same for every law, but numbers. -/
def R_law : String := "MarkDeskLaw"
def lw_P (b : Addr) (xs : List Int32) (args : Array Value) (s : State) : Prop := args = #[.ref b] ∧ s.IntsAt b xs ∧ xs.length ≤ 2560 ∧ (Jvm.Cond.and given_1 narrow_1).before args s = true
def lw_Q (_ : Array Value) (s : State) (o : Outcome) (t : State) : Prop := o = .returned (some (.int 1)) ∧ Framed s o t [] 601024 7293034
def lw_Z (below : List Frame) (a : Array Value) (s : State) : State → Prop := fun t => ∃ o, t.status = .running ∧ Ended t below o ∧ lw_Q a s o t
/-- the law's own end, with 1 on the stack, nothing written that was there before, its room as the claim has it -/
theorem lw_ret {p : Program} {l : Launch} {e : Env} {s : State} {m : MethodId} {below : List Frame} {meth : Method} {c : Code} {b : Nat} (hx : p.tables.exec = Jvm.exec) (hb : c.code = code) (hr : meth.sig.returnType = ret) (hlocks : meth.locks = false) {pc : Nat} {H : Heap} {ls : Array Slot} (hdg : decode code pc = .ok (.ireturn, 1)) : W p l e room_1 s m #[Value.ref b] below meth c H [] 601024 7293034 (lw_Z below #[Value.ref b] s) (F0 m pc ls [.int 1]) := by
  intro T hT X
  obtain ⟨fs, hret, hrun, hended, hW, hframe⟩ := X.leave (v := some (.int 1)) (hlocks := hlocks) (fun h => by rw [hr] at h; cases h)
  have hmeth' : T.vm.method? m = some meth := X.method'
  refine ⟨T.setFrames fs, ?_, .returned (some (.int 1)), hrun, hended, rfl, ⟨_, rfl⟩, hW, hframe⟩
  jvm_step X.here [X.here.top, hx, hb, hdg, hmeth', hr, ret, narrow_b1]
  (try refine ⟨rfl, ?_⟩); (try refine ⟨rfl, ?_⟩)
  first | (intro acts; rw [hret _ acts rfl rfl rfl]) | rw [hret _ _ rfl rfl rfl]
  exact Steps.refl _
/-- what holds at the law's entry: the machine, the code, the tables' words (any of lw_tbl by 'hts w (by decide +kernel)'), the script of L ints xs at the cell b, what the Statement gives of the start (any of its parts by flat_of_before) -/
def lw_At (p : Program) (s : State) (m : MethodId) (meth : Method) (c : Code) (b L : Nat) (xs : Nat → Int32) : Prop :=
  p.tables.exec = Jvm.exec ∧ c.code = code ∧ meth.sig.returnType = ret ∧ c.maxLocals = 9 ∧ s.vm.findClass R_law = some m.cls ∧ (∀ w ∈ lw_tbl, w.before #[Value.ref b] s = true) ∧ va_X b L xs s s.heap ∧ b < s.heap.size ∧ meth.locks = false ∧ (Jvm.Cond.and given_1 narrow_1).before #[Value.ref b] s = true

section
variable {p : Program} {l : Launch} {e : Env} {s : State} {m : MethodId} {below : List Frame} {meth : Method} {c : Code} {b L : Nat} {xs : Nat → Int32} {D : va_G} {cI cZ cJ : ClassId} {t1 t2 : Nat} {hc hm : Nat → Nat} {qo : Nat}
set_option maxHeartbeats 4000000 in
set_option maxRecDepth 100000 in
/-- the law's loop: j rounds done -/
theorem l_loop (C : LX p s m c b L xs D cI cZ cJ t1 t2) (hst : l.stackTraces = false) (hr : meth.sig.returnType = ret) (hlocks : meth.locks = false) : ∀ (n j : Nat), 5 * j ≤ L → L + 1 ≤ 5 * j + n → ∀ (σc σm : Sg) (f : Nat → Int64) (H : Heap) (locs : List Jvm.Loc) (ls : Array Slot), LI σc σm (j : Int) → va_P D vwCl (lW hc cI cZ cJ qo σc f ++ mW hm cI cZ σm) H → va_D (LA s) (lW hc cI cZ cJ qo σc f ++ mW hm cI cZ σm) → va_S (LA s) s.heap H locs → lv_has ls 9 (lv0 b hc hm qo (5 * (j : Int))) → W p l e room_1 s m #[Value.ref b] below meth c H locs (74 + j) (32360 + 6 * j) (lw_Z below #[Value.ref b] s) (F0 m 23 ls []) := by
  have hx := C.1
  have hb := C.2.1
  have hX := C.2.2.2.2.2.2.2.1
  have hbl := C.2.2.2.2.2.2.2.2.1
  have hL := C.2.2.2.2.2.2.2.2.2
  have hbA : ¬ LA s b := Nat.not_le.mpr hbl
  intro n
  induction n with
  | zero =>
    intro j h1 h2
    exact absurd h2 (by omega)
  | succ n ih =>
    intro j h1 h2 σc σm f H locs ls hI hP hD hS hl
    have i1 : inR (5 * (j : Int)) := ⟨by omega, by omega⟩
    have i2 : inR ((L : Int) - 5) := ⟨by omega, by omega⟩
    refine lv_iload hx hb dL_law_23 (lv_at hl 4 rfl) ?_
    refine lv_aload_n hx hb dL_law_25 rfl (lv_at hl 0 rfl) ?_
    refine va_slen hx hb hX hbl hbA hS dL_law_26 ?_
    refine lv_iconst (v := iI 5) hx hb dL_law_27 rfl ?_
    refine lv_isub hx hb dL_law_28 ?_
    rw [show Int32.ofNat L - iI 5 = iI ((L : Int) - 5) from by rw [← iI_sub]; rfl]
    refine lv_icmp_gt (tgt := 485) hx hb dL_law_29 (by decide) (fun _ => ?_) (fun c0 => ?_)
    · refine lv_iconst (v := 1) hx hb dL_law_485 (by decide) ?_
      refine va_forget (fun q hq => hS.2.2 q hq) ?_
      refine W.widen (k := 601024) (n := 7293034) (by omega) (by omega) ?_
      exact lw_ret hx hb hr hlocks dL_law_486
    · have h5 : 5 * (j : Int) + 5 ≤ L := by
        have := mt (iI_lt i2 i1).mpr c0
        omega
      have hj : 0 ≤ (j : Int) ∧ (j : Int) ≤ 511 := ⟨by omega, by omega⟩
      have hi : 0 ≤ 5 * (j : Int) ∧ 5 * (j : Int) + 5 ≤ L := ⟨by omega, h5⟩
      have hR : (74 + j) + 8 ≤ 601024 ∧ (32360 + 6 * j) + 48 ≤ 7293034 := ⟨by omega, by omega⟩
      have K : LK p l e s m below meth c b (lw_Z below #[Value.ref b] s) D cI cZ cJ hc hm qo (5 * (j : Int)) ((j : Int) + 1) (74 + j + 1) (32360 + 6 * j + 6) := by
        intro σ1 σ2 f1 H1 locs1 ls1 hI1 hP1 hD1 hS1 hl1
        refine lv_iinc (v := iI (5 * ((j + 1 : Nat) : Int))) (lv' := [(4, .int (iI (5 * ((j + 1 : Nat) : Int)))), (0, .ref b), (1, .ref (hc 199)), (2, .ref (hm 299)), (3, .ref qo)]) hx hb dL_law_479 hl1 (k := 4) rfl (by show iI _ + iI 5 = _; rw [iI_add]; congr 1) (by decide) rfl (fun ls2 hl2 => ?_)
        refine lv_goto (tgt := 23) hx hb dL_law_482 (by decide) ?_
        exact ih (j + 1) (by omega) (by omega) σ1 σ2 f1 H1 locs1 ls2 (by rw [show ((j + 1 : Nat) : Int) = (j : Int) + 1 from by omega]; exact hI1) hP1 hD1 hS1 (lv_sub hl2 [1, 2, 3, 4, 0] rfl)
      refine lv_aload_n hx hb dL_law_32 rfl (lv_at hl 0 rfl) ?_
      refine lv_iload hx hb dL_law_33 (lv_at hl 4 rfl) ?_
      refine l_ld C ⟨by omega, by omega⟩ hS dL_law_35 ?_
      refine lv_bipush (v := 15) hx hb dL_law_36 (by decide) ?_
      refine lv_iand hx hb dL_law_38 ?_
      refine lv_topi (fun w _ => ?_)
      by_cases hw : w.toInt < 0 ∨ 8 < w.toInt
      · refine lv_tableOut (tgt := 479) hx hb dL_law_39 hw (by decide) ?_
        refine W.widen (k := 74 + j + 1) (n := 32360 + 6 * j + 6) (by omega) (by omega) ?_
        exact K σc σm f H locs ls ⟨hI.1, hI.2.1, CR_m hI.2.2.1 (by omega), hI.2.2.2⟩ hP hD hS hl
      · have g1 : ¬ w.toInt < 0 := fun h => hw (Or.inl h)
        have g2 : ¬ 8 < w.toInt := fun h => hw (Or.inr h)
        have g3 : w.toInt = 0 ∨ w.toInt = 1 ∨ w.toInt = 2 ∨ w.toInt = 3 ∨ w.toInt = 4 ∨ w.toInt = 5 ∨ w.toInt = 6 ∨ w.toInt = 7 ∨ w.toInt = 8 := by omega
        rcases g3 with g | g | g | g | g | g | g | g | g
        · exact lv_tableIn (tgt := 88) hx hb dL_law_39 g1 g2 (by rw [g]; rfl) (by decide) (case_make C hst hI hj hi hR K hP hD hS hl)
        · exact lv_tableIn (tgt := 180) hx hb dL_law_39 g1 g2 (by rw [g]; rfl) (by decide) (case_open C hst hI hj hi hR K hP hD hS hl)
        · exact lv_tableIn (tgt := 236) hx hb dL_law_39 g1 g2 (by rw [g]; rfl) (by decide) (case_work C hst hI hj hi hR K hP hD hS hl)
        · exact lv_tableIn (tgt := 304) hx hb dL_law_39 g1 g2 (by rw [g]; rfl) (by decide) (case_value C hst hI hj hi hR K hP hD hS hl)
        · exact lv_tableIn (tgt := 317) hx hb dL_law_39 g1 g2 (by rw [g]; rfl) (by decide) (case_steps C hst hI hj hi hR K hP hD hS hl)
        · exact lv_tableIn (tgt := 330) hx hb dL_law_39 g1 g2 (by rw [g]; rfl) (by decide) (case_type C hst hI hj hi hR K hP hD hS hl)
        · exact lv_tableIn (tgt := 386) hx hb dL_law_39 g1 g2 (by rw [g]; rfl) (by decide) (case_part C hst hI hj hi hR K hP hD hS hl)
        · exact lv_tableIn (tgt := 411) hx hb dL_law_39 g1 g2 (by rw [g]; rfl) (by decide) (case_count C hst hI hj hi hR K hP hD hS hl)
        · exact lv_tableIn (tgt := 436) hx hb dL_law_39 g1 g2 (by rw [g]; rfl) (by decide) (case_mean C hst hI hj hi hR K hP hD hS hl)
end
