/-! ===== the law: its context, its calls ===== -/
abbrev LA (s : State) : Nat → Prop := fun q => s.heap.size ≤ q
def LX (p : Program) (s : State) (m : MethodId) (c : Code) (b L : Nat) (xs : Nat → Int32) (D : va_G) (cI cZ cJ : ClassId) (t1 t2 : Nat) : Prop :=
  p.tables.exec = Jvm.exec ∧ c.code = cL_law ∧ c.maxLocals = 9 ∧ s.vm.findClass RL = some m.cls ∧ (∀ w ∈ wsL_law, w.before #[Value.ref b] s = true) ∧ va_K D vwCl (lT cI cZ cJ) s ∧ wE t1 t2 (LA s) s s.heap ∧ va_X b L xs s s.heap ∧ b < s.heap.size ∧ L ≤ 2560
def LI (σc σm : Sg) (j : Int) : Prop := RT σc σm ∧ TI σm ∧ CR σc σm j ∧ TR σc σm ∧ ok σc ∧ ok σm
abbrev lv0 (b : Nat) (hc hm : Nat → Nat) (qo : Nat) (i : Int) : List (Nat × Value) := [(0, .ref b), (1, .ref (hc 199)), (2, .ref (hm 299)), (3, .ref qo), (4, .int (iI i))]
def LK (p : Program) (l : Launch) (e : Env) (s : State) (m : MethodId) (below : List Frame) (meth : Method) (c : Code) (b : Nat) (Q : State → Prop) (D : va_G) (cI cZ cJ : ClassId) (hc hm : Nat → Nat) (qo : Nat) (i j : Int) (cells slots : Nat) : Prop := ∀ (σc σm : Sg) (f : Nat → Int64) (H : Heap) (locs : List Jvm.Loc) (ls : Array Slot), LI σc σm j → va_P D vwCl (lW hc cI cZ cJ qo σc f ++ mW hm cI cZ σm) H → va_D (LA s) (lW hc cI cZ cJ qo σc f ++ mW hm cI cZ σm) → va_S (LA s) s.heap H locs → lv_has ls 9 (lv0 b hc hm qo i) → W p l e room_1 s m #[Value.ref b] below meth c H locs cells slots Q (F0 m 479 ls [])
section
variable {p : Program} {l : Launch} {e : Env} {s : State} {m : MethodId} {below : List Frame} {meth : Method} {c : Code} {b L : Nat} {xs : Nat → Int32} {Q : State → Prop} {D : va_G} {cI cZ cJ : ClassId} {t1 t2 : Nat} {hc hm : Nat → Nat} {qo : Nat} {H : Heap} {locs : List Jvm.Loc} {ls : Array Slot} {lv : List (Nat × Value)} {cells slots pc idx k maxL : Nat} {st rest vs : List Value} {y : MethodName} {bytes : ByteArray} {ret2 : Option FieldType} {ws : List Cond} {rm : Room} {X Y : va_W} {σc σm σ1 : Sg} {r : Int} {o : Option (Sg × Int)} {f : Nat → Int64} {i j : Int}
theorem l_callM (C : LX p s m c b L xs D cI cZ cJ t1 t2) (hM : ctI noE l (mW hm cI cZ) D (mT cI cZ) y ws rm (.ref (hm 299) :: vs) σm o) (ho : o = some (σ1, r)) (cw : CallW room_1 s #[Value.ref b] RL RX10 idx y bytes maxL ret2 ws rm 0 0 k) (hlen : vs.length = k) (hroom : (rest.map fun v => v.category).sum ≤ 8) (hdg : decode cL_law pc = .ok (.invokevirtual idx, 3)) (hP : va_P D vwCl (X ++ mW hm cI cZ σm) H) (hD : va_D (LA s) (X ++ mW hm cI cZ σm)) (hS : va_S (LA s) s.heap H locs) (hl : lv_has ls 9 lv) (hR : cells + 1 ≤ 601024 ∧ slots + 6 ≤ 7293034) (kk : ∀ (H1 : Heap) (locs1 : List Jvm.Loc), ok σ1 → inR r → va_P D vwCl (X ++ mW hm cI cZ σ1) H1 → va_D (LA s) (X ++ mW hm cI cZ σ1) → va_S (LA s) s.heap H1 locs1 → W p l e room_1 s m #[Value.ref b] below meth c H1 locs1 cells slots Q (F0 m (pc + 3) ls (.int (iI r) :: rest))) : W p l e room_1 s m #[Value.ref b] below meth c H locs cells slots Q (F0 m pc ls (vs.reverse ++ .ref (hm 299) :: rest)) := by
  obtain ⟨hx, hb, hml, hown, hts, hK, hE, -⟩ := C
  have hPX := wp_perm List.perm_append_comm hP
  have hDX := wd_perm List.perm_append_comm hD
  have hFc := wa_free hDX hS (fun _ h => h)
  have hKm : va_K D vwCl (mT cI cZ) s := hK.sub [0, 1] rfl
  refine va_calli (va_runV (As := vs) (rest := rest) ⟨hx, hb, hml, hown, hts⟩ (hM _ _ ho H.size) cw ⟨PP_blind noE_ok (mW hm cI cZ) D (mT cI cZ) σm _ _, va_recv hKm (wp_l hPX) (q0 := 0) (ci := 9) rfl mW_X10, fun U hU hW => ⟨rfl, by rw [hU], by rw [hU]; exact wp_l hPX, va_K.moved hW.alike hKm, (wd_l hDX).weaken (fun _ _ _ _ => trivial), trivial⟩⟩ rfl hlen hl.1 rfl (lv_room hroom) hdg ⟨by show cells + 0 ≤ 601024; omega, by show slots + 0 ≤ 7293034; omega⟩) hS (fun z _ h => hFc z h) hFc (fun r9 u t H1 locs1 ht hvm hw hB hz1 hk1 hS1 => ?_)
  obtain ⟨rfl, rfl, hok2, hr2⟩ := hw
  obtain ⟨hP1, hK1, hD1⟩ := hB
  rw [ht] at hP1
  obtain ⟨hP2, hD2⟩ := wj hPX hDX hFc hk1 hP1 hD1
  exact kk H1 locs1 hok2 hr2 (wp_perm List.perm_append_comm hP2) (wd_perm List.perm_append_comm hD2) hS1
theorem l_callMF {fx : Sg → UInt32} (C : LX p s m c b L xs D cI cZ cJ t1 t2) (hM : ctF noE l (mW hm cI cZ) D (mT cI cZ) y ws rm (.ref (hm 299) :: vs) σm o fx) (ho : o = some (σ1, r)) (cw : CallW room_1 s #[Value.ref b] RL RX10 idx y bytes maxL ret2 ws rm 0 0 k) (hlen : vs.length = k) (hroom : (rest.map fun v => v.category).sum ≤ 8) (hdg : decode cL_law pc = .ok (.invokevirtual idx, 3)) (hP : va_P D vwCl (X ++ mW hm cI cZ σm) H) (hD : va_D (LA s) (X ++ mW hm cI cZ σm)) (hS : va_S (LA s) s.heap H locs) (hl : lv_has ls 9 lv) (hR : cells + 1 ≤ 601024 ∧ slots + 6 ≤ 7293034) (kk : ∀ (H1 : Heap) (locs1 : List Jvm.Loc), ok σ1 → va_P D vwCl (X ++ mW hm cI cZ σ1) H1 → va_D (LA s) (X ++ mW hm cI cZ σ1) → va_S (LA s) s.heap H1 locs1 → W p l e room_1 s m #[Value.ref b] below meth c H1 locs1 cells slots Q (F0 m (pc + 3) ls (.float (fx σ1) :: rest))) : W p l e room_1 s m #[Value.ref b] below meth c H locs cells slots Q (F0 m pc ls (vs.reverse ++ .ref (hm 299) :: rest)) := by
  obtain ⟨hx, hb, hml, hown, hts, hK, hE, -⟩ := C
  have hPX := wp_perm List.perm_append_comm hP
  have hDX := wd_perm List.perm_append_comm hD
  have hFc := wa_free hDX hS (fun _ h => h)
  have hKm : va_K D vwCl (mT cI cZ) s := hK.sub [0, 1] rfl
  refine va_callf (va_runV (As := vs) (rest := rest) ⟨hx, hb, hml, hown, hts⟩ (hM _ _ ho H.size) cw ⟨PP_blind noE_ok (mW hm cI cZ) D (mT cI cZ) σm _ _, va_recv hKm (wp_l hPX) (q0 := 0) (ci := 9) rfl mW_X10, fun U hU hW => ⟨rfl, by rw [hU], by rw [hU]; exact wp_l hPX, va_K.moved hW.alike hKm, (wd_l hDX).weaken (fun _ _ _ _ => trivial), trivial⟩⟩ rfl hlen hl.1 rfl (lv_room hroom) hdg ⟨by show cells + 0 ≤ 601024; omega, by show slots + 0 ≤ 7293034; omega⟩) hS (fun z _ h => hFc z h) hFc (fun r9 u t H1 locs1 ht hvm hw hB hz1 hk1 hS1 => ?_)
  obtain ⟨rfl, rfl, hok2⟩ := hw
  obtain ⟨hP1, hK1, hD1⟩ := hB
  rw [ht] at hP1
  obtain ⟨hP2, hD2⟩ := wj hPX hDX hFc hk1 hP1 hD1
  exact kk H1 locs1 hok2 (wp_perm List.perm_append_comm hP2) (wd_perm List.perm_append_comm hD2) hS1
theorem l_callC (C : LX p s m c b L xs D cI cZ cJ t1 t2) (hM : ctI (cE t1 t2) l (cW hc cI cZ) D (mT cI cZ) y ws rm (.ref (hc 199) :: vs) σc o) (ho : o = some (σ1, r)) (cw : CallW room_1 s #[Value.ref b] RL RX9 idx y bytes maxL ret2 ws rm 0 0 k) (hlen : vs.length = k) (hroom : (rest.map fun v => v.category).sum ≤ 8) (hdg : decode cL_law pc = .ok (.invokevirtual idx, 3)) (hP : va_P D vwCl (lW hc cI cZ cJ qo σc f ++ Y) H) (hD : va_D (LA s) (lW hc cI cZ cJ qo σc f ++ Y)) (hS : va_S (LA s) s.heap H locs) (hl : lv_has ls 9 lv) (hR : cells + 1 ≤ 601024 ∧ slots + 6 ≤ 7293034) (kk : ∀ (H1 : Heap) (locs1 : List Jvm.Loc), ok σ1 → inR r → va_P D vwCl (lW hc cI cZ cJ qo σ1 f ++ Y) H1 → va_D (LA s) (lW hc cI cZ cJ qo σ1 f ++ Y) → va_S (LA s) s.heap H1 locs1 → W p l e room_1 s m #[Value.ref b] below meth c H1 locs1 cells slots Q (F0 m (pc + 3) ls (.int (iI r) :: rest))) : W p l e room_1 s m #[Value.ref b] below meth c H locs cells slots Q (F0 m pc ls (vs.reverse ++ .ref (hc 199) :: rest)) := by
  obtain ⟨hx, hb, hml, hown, hts, hK, hE, -⟩ := C
  have hPX := wp_perm (perm_o _ _ _) hP
  have hDX := wd_perm (perm_o _ _ _) hD
  have hFc := wa_free hDX hS (fun _ h => h)
  have hKm : va_K D vwCl (mT cI cZ) s := hK.sub [0, 1] rfl
  refine va_calli (va_runV (As := vs) (rest := rest) ⟨hx, hb, hml, hown, hts⟩ (hM _ _ ho H.size) cw ⟨PP_blind (cE_ok t1 t2) (cW hc cI cZ) D (mT cI cZ) σc _ _, va_recv hKm (wp_l hPX) (q0 := 0) (ci := 8) rfl cW_X9, fun U hU hW => ⟨rfl, by rw [hU], by rw [hU]; exact wp_l hPX, va_K.moved hW.alike hKm, (wd_l hDX).weaken (fun _ _ _ _ => trivial), cE_ok t1 t2 _ _ s U s.heap U.heap hW (fun q hq => hFc q hq) (fun a h1 h2 => by rw [hU]; exact hS.2.1 a h1 h2) hE.1⟩⟩ rfl hlen hl.1 rfl (lv_room hroom) hdg ⟨by show cells + 0 ≤ 601024; omega, by show slots + 0 ≤ 7293034; omega⟩) hS (fun z _ h => hFc z h) hFc (fun r9 u t H1 locs1 ht hvm hw hB hz1 hk1 hS1 => ?_)
  obtain ⟨rfl, rfl, hok2, hr2⟩ := hw
  obtain ⟨hP1, hK1, hD1⟩ := hB
  rw [ht] at hP1
  obtain ⟨hP2, hD2⟩ := wj hPX hDX hFc hk1 hP1 hD1
  exact kk H1 locs1 hok2 hr2 (wp_perm (perm_o _ _ _).symm hP2) (wd_perm (perm_o _ _ _).symm hD2) hS1
theorem l_callCF {fx : Sg → UInt32} (C : LX p s m c b L xs D cI cZ cJ t1 t2) (hM : ctF (cE t1 t2) l (cW hc cI cZ) D (mT cI cZ) y ws rm (.ref (hc 199) :: vs) σc o fx) (ho : o = some (σ1, r)) (cw : CallW room_1 s #[Value.ref b] RL RX9 idx y bytes maxL ret2 ws rm 0 0 k) (hlen : vs.length = k) (hroom : (rest.map fun v => v.category).sum ≤ 8) (hdg : decode cL_law pc = .ok (.invokevirtual idx, 3)) (hP : va_P D vwCl (lW hc cI cZ cJ qo σc f ++ Y) H) (hD : va_D (LA s) (lW hc cI cZ cJ qo σc f ++ Y)) (hS : va_S (LA s) s.heap H locs) (hl : lv_has ls 9 lv) (hR : cells + 1 ≤ 601024 ∧ slots + 6 ≤ 7293034) (kk : ∀ (H1 : Heap) (locs1 : List Jvm.Loc), ok σ1 → va_P D vwCl (lW hc cI cZ cJ qo σ1 f ++ Y) H1 → va_D (LA s) (lW hc cI cZ cJ qo σ1 f ++ Y) → va_S (LA s) s.heap H1 locs1 → W p l e room_1 s m #[Value.ref b] below meth c H1 locs1 cells slots Q (F0 m (pc + 3) ls (.float (fx σ1) :: rest))) : W p l e room_1 s m #[Value.ref b] below meth c H locs cells slots Q (F0 m pc ls (vs.reverse ++ .ref (hc 199) :: rest)) := by
  obtain ⟨hx, hb, hml, hown, hts, hK, hE, -⟩ := C
  have hPX := wp_perm (perm_o _ _ _) hP
  have hDX := wd_perm (perm_o _ _ _) hD
  have hFc := wa_free hDX hS (fun _ h => h)
  have hKm : va_K D vwCl (mT cI cZ) s := hK.sub [0, 1] rfl
  refine va_callf (va_runV (As := vs) (rest := rest) ⟨hx, hb, hml, hown, hts⟩ (hM _ _ ho H.size) cw ⟨PP_blind (cE_ok t1 t2) (cW hc cI cZ) D (mT cI cZ) σc _ _, va_recv hKm (wp_l hPX) (q0 := 0) (ci := 8) rfl cW_X9, fun U hU hW => ⟨rfl, by rw [hU], by rw [hU]; exact wp_l hPX, va_K.moved hW.alike hKm, (wd_l hDX).weaken (fun _ _ _ _ => trivial), cE_ok t1 t2 _ _ s U s.heap U.heap hW (fun q hq => hFc q hq) (fun a h1 h2 => by rw [hU]; exact hS.2.1 a h1 h2) hE.1⟩⟩ rfl hlen hl.1 rfl (lv_room hroom) hdg ⟨by show cells + 0 ≤ 601024; omega, by show slots + 0 ≤ 7293034; omega⟩) hS (fun z _ h => hFc z h) hFc (fun r9 u t H1 locs1 ht hvm hw hB hz1 hk1 hS1 => ?_)
  obtain ⟨rfl, rfl, hok2⟩ := hw
  obtain ⟨hP1, hK1, hD1⟩ := hB
  rw [ht] at hP1
  obtain ⟨hP2, hD2⟩ := wj hPX hDX hFc hk1 hP1 hD1
  exact kk H1 locs1 hok2 (wp_perm (perm_o _ _ _).symm hP2) (wd_perm (perm_o _ _ _).symm hD2) hS1
theorem l_callW {hh : List (Nat × Nat × Nat × Nat)} {cd : Int → Int} (C : LX p s m c b L xs D cI cZ cJ t1 t2) (hM : Met l y ws rm (PL t1 t2 hc cI cZ cJ qo D σc f H.size vs) (QL cd hc cI cZ cJ qo D σc f H.size σ1 r) 1 6 (va_A (lW hc cI cZ cJ qo σc f) H.size)) (cw : vx_CSW room_1 s #[Value.ref b] RL idx y bytes maxL ret2 hh ws rm 1 6 k) (hlen : vs.length = k) (hroom : (rest.map fun v => v.category).sum ≤ 8) (hdg : decode cL_law pc = .ok (.invokestatic idx, 3)) (hP : va_P D vwCl (lW hc cI cZ cJ qo σc f ++ Y) H) (hD : va_D (LA s) (lW hc cI cZ cJ qo σc f ++ Y)) (hS : va_S (LA s) s.heap H locs) (hl : lv_has ls 9 lv) (hR : cells + 1 ≤ 601024 ∧ slots + 6 ≤ 7293034) (kk : ∀ (f' : Nat → Int64) (H1 : Heap) (locs1 : List Jvm.Loc), ok σ1 → (-100 < r → inR r ∧ f' 0 = Int64.ofInt r) → va_P D vwCl (lW hc cI cZ cJ qo σ1 f' ++ Y) H1 → va_D (LA s) (lW hc cI cZ cJ qo σ1 f' ++ Y) → va_S (LA s) s.heap H1 locs1 → W p l e room_1 s m #[Value.ref b] below meth c H1 locs1 (cells + 1) (slots + 6) Q (F0 m (pc + 3) ls (.int (iI (kd cd r)) :: rest))) : W p l e room_1 s m #[Value.ref b] below meth c H locs cells slots Q (F0 m pc ls (vs.reverse ++ rest)) := by
  obtain ⟨hx, hb, hml, hown, hts, hK, hE, -⟩ := C
  have hFc := wa_free hD hS (fun _ h => h)
  refine va_calli (vx_runSW (As := vs) (rest := rest) ⟨hx, hb, hml, hown, hts⟩ hM cw ⟨PL_blind t1 t2 hc cI cZ cJ qo D σc f _ _, fun U hU hW => ⟨rfl, by rw [hU], by rw [hU]; exact wp_l hP, va_K.moved hW.alike hK, (wd_l hD).weaken (fun _ _ _ _ => trivial), wE_ok t1 t2 _ _ s U s.heap U.heap hW (fun q hq => hFc q hq) (fun a h1 h2 => by rw [hU]; exact hS.2.1 a h1 h2) hE⟩⟩ rfl hlen hl.1 rfl (lv_room hroom) hdg hR) hS (fun z _ h => hFc z h) hFc (fun r9 u t H1 locs1 ht hvm hw hB hz1 hk1 hS1 => ?_)
  obtain ⟨u1, u2⟩ := u
  obtain ⟨h1, hok2, rfl, h4⟩ := hw
  obtain ⟨hP1, hK1, hD1⟩ := hB
  have h1 : u1 = σ1 := h1
  subst h1
  rw [ht] at hP1
  obtain ⟨hP2, hD2⟩ := wj hP hD hFc hk1 hP1 hD1
  exact kk u2 H1 locs1 hok2 h4 hP2 hD2 hS1
/-- the script's numbers -/
def sx (xs : Nat → Int32) (z : Int) : Int := (xs z.toNat).toInt
theorem l_ld (C : LX p s m c b L xs D cI cZ cJ t1 t2) {z : Int} (hz : 0 ≤ z ∧ z < L) (hS : va_S (LA s) s.heap H locs) (hdg : decode cL_law pc = .ok (.iaload, 1)) (kk : W p l e room_1 s m #[Value.ref b] below meth c H locs cells slots Q (F0 m (pc + 1) ls (.int (iI (sx xs z)) :: st))) : W p l e room_1 s m #[Value.ref b] below meth c H locs cells slots Q (F0 m pc ls (.int (iI z) :: .ref b :: st)) := by
  obtain ⟨hx, hb, hml, hown, hts, hK, hE, hX, hbl, hL⟩ := C
  have hin : inR z := ⟨by omega, by omega⟩
  refine va_sld hx hb hX hbl (by show ¬ s.heap.size ≤ b; omega) hS ((iI_in hin).mpr hz) hdg ?_
  have e1 : xs (iI z).toNatClampNeg = iI (sx xs z) := by unfold sx; rw [iI_of, iI_cl hin]
  rw [e1]
  exact kk
theorem l_arg (C : LX p s m c b L xs D cI cZ cJ t1 t2) {a0 a4 : Nat} {q : Int} (hS : va_S (LA s) s.heap H locs) (hl : lv_has ls 9 lv) (h0 : lv[a0]? = some (0, .ref b)) (h4 : lv[a4]? = some (4, .int (iI i))) (hz : 0 ≤ i + q ∧ i + q < L) (d0 : decode cL_law pc = .ok (.aload_n 0, 1)) (d1 : decode cL_law (pc + 1) = .ok (.iload 4, 2)) (d2 : decode cL_law (pc + 3) = .ok (.iconst q, 1)) (d3 : decode cL_law (pc + 4) = .ok (.iadd, 1)) (d4 : decode cL_law (pc + 5) = .ok (.iaload, 1)) (kk : W p l e room_1 s m #[Value.ref b] below meth c H locs cells slots Q (F0 m (pc + 6) ls (.int (iI (sx xs (i + q))) :: st))) : W p l e room_1 s m #[Value.ref b] below meth c H locs cells slots Q (F0 m pc ls st) := by
  have hx := C.1
  have hb := C.2.1
  refine lv_aload_n hx hb d0 rfl (lv_at hl a0 h0) ?_
  refine lv_iload hx hb d1 (lv_at hl a4 h4) ?_
  refine lv_iconst (v := iI q) hx hb d2 rfl ?_
  refine lv_iadd hx hb d3 ?_
  rw [iI_add]
  exact l_ld C hz hS d4 kk
/-- behind both calls: the exceptions compared, and the answers -/
theorem l_tail (C : LX p s m c b L xs D cI cZ cJ t1 t2) {t : Nat} {k5 r6 : Int} (hI : LI σc σm j) (hR : cells + 1 ≤ 601024 ∧ slots + 6 ≤ 7293034) (K : LK p l e s m below meth c b Q D cI cZ cJ hc hm qo i j cells slots) (h5 : inR k5) (h6 : inR r6) (e5 : gI σm 200 = k5) (e6 : k5 = 0 → f 0 = Int64.ofInt r6) (hP : va_P D vwCl (lW hc cI cZ cJ qo σc f ++ mW hm cI cZ σm) H) (hD : va_D (LA s) (lW hc cI cZ cJ qo σc f ++ mW hm cI cZ σm)) (hS : va_S (LA s) s.heap H locs) (hl : lv_has ls 9 [(6, .int (iI r6)), (5, .int (iI k5)), (0, .ref b), (1, .ref (hc 199)), (2, .ref (hm 299)), (3, .ref qo), (4, .int (iI i))])
    (d0 : decode cL_law t = .ok (.aload_n 2, 1)) (d1 : decode cL_law (t + 1) = .ok (.invokevirtual 42, 3)) (d2 : decode cL_law (t + 4) = .ok (.iload 5, 2)) (d3 : decode cL_law (t + 6) = .ok (.if_icmp .eq 5, 3)) (d4 : decode cL_law (t + 11) = .ok (.iload 5, 2)) (d5 : decode cL_law (t + 13) = .ok (.ifCond .ne 15, 3)) (d6 : decode cL_law (t + 16) = .ok (.aload_n 3, 1)) (d7 : decode cL_law (t + 17) = .ok (.iconst 0, 1)) (d8 : decode cL_law (t + 18) = .ok (.laload, 1)) (d9 : decode cL_law (t + 19) = .ok (.iload 6, 2)) (d10 : decode cL_law (t + 21) = .ok (.i2l, 1)) (d11 : decode cL_law (t + 22) = .ok (.lcmp, 1)) (d12 : decode cL_law (t + 23) = .ok (.ifCond .eq 5, 3)) {off : Int} (d13 : decode cL_law (t + 28) = .ok (.goto off, 3)) (hoff : ((t + 28 : Nat) : Int) + off = ((479 : Nat) : Int)) : W p l e room_1 s m #[Value.ref b] below meth c H locs cells slots Q (F0 m t ls []) := by
  have hx := C.1
  have hb := C.2.1
  have hts := C.2.2.2.2.1
  have hK := C.2.2.2.2.2.1
  obtain ⟨i1, i2, i3, i4, i5, i6⟩ := hI
  have ho : f10_thrown σm = some (σm, gI σm 200) := rfl
  refine lv_aload_n hx hb d0 rfl (lv_at hl 4 rfl) ?_
  refine l_callM (vs := []) (rest := []) C (t10_thrown l i6) ho (cwV 0 hts gL_law_X10_thrown rfl rfl rfl (by decide +kernel) ⟨Nat.le_of_ble_eq_true rfl, Nat.le_of_ble_eq_true rfl⟩) rfl (Nat.le_of_ble_eq_true rfl) d1 hP hD hS hl hR (fun H1 locs1 _ hr1 hP1 hD1 hS1 => ?_)
  rw [e5]
  refine lv_iload hx hb d2 (lv_at hl 1 rfl) ?_
  refine lv_icmp_eq (tgt := t + 11) hx hb d3 (by omega) (fun _ => ?_) (fun ne => absurd rfl ne)
  have fin : W p l e room_1 s m #[Value.ref b] below meth c H1 locs1 cells slots Q (F0 m (t + 28) ls []) := by
    refine lv_goto (tgt := 479) hx hb d13 hoff ?_
    exact K σc σm f H1 locs1 ls ⟨i1, i2, i3, i4, i5, i6⟩ hP1 hD1 hS1 (lv_sub hl [2, 3, 4, 5, 6] rfl)
  refine lv_iload hx hb d4 (lv_at hl 1 rfl) ?_
  refine lv_if_ne (tgt := t + 28) hx hb d5 (by omega) (fun _ => fin) (fun z => ?_)
  have z5 : k5 = 0 := (iI_eq h5 inR_0).mp (show iI k5 = iI 0 from z)
  refine lv_aload_n hx hb d6 rfl (lv_at hl 5 rfl) ?_
  refine lv_iconst (v := iI 0) hx hb d7 rfl ?_
  refine va_lald hx hb hK hP1 0 2 rfl rfl (vp_in_iff.mpr (by decide)) d8 ?_
  refine lv_iload hx hb d9 (lv_at hl 0 rfl) ?_
  refine lv_i2l hx hb d10 (i2l_I h6) ?_
  refine W.lcmp hx hb d11 ?_
  refine lv_if_eq (tgt := t + 28) hx hb d12 (by omega) (fun _ => fin) (fun ne => ?_)
  refine absurd ?_ ne
  have e7 := e6 z5
  have e8 : f (iI 0).toNatClampNeg = Int64.ofInt r6 := e7
  rw [e8]
  simp [lg_cmp]
end
