section
variable {p : Program} {l : Launch} {e : Env} {s : State} {m : MethodId} {below : List Frame} {meth : Method} {c : Code} {b L : Nat} {xs : Nat → Int32} {Q : State → Prop} {D : va_G} {cI cZ cJ : ClassId} {t1 t2 : Nat} {H : Heap} {locs : List Jvm.Loc} {ls : Array Slot} {lv : List (Nat × Value)} {cells slots pc idx ci mc ms maxL q : Nat} {rest fs0 : List Value} {y : MethodName} {bytes : ByteArray} {wsy : List Cond} {rm : Room} {Y : va_W} {po : Nat → (Nat → Nat) → Prop} {w1 : (Nat → Nat) → va_W}
theorem l_callN (C : LX p s m c b L xs D cI cZ cJ t1 t2) (hN : nE s) (hM : ctN l D cI cZ y wsy rm [] ci fs0 po w1 mc ms) (cw : CallB room_1 s #[Value.ref b] RL idx y bytes maxL none wsy rm mc ms 0 ∧ y.name = "<init>" ∧ (Cond.instanceMethod y).before #[Value.ref b] s = true) (hroom : (rest.map fun v => v.category).sum ≤ 8) (hdg : decode cL_law pc = .ok (.invokespecial idx, 3)) (hP : va_P D vwCl (Y ++ [(q, .inr (ci, fs0))]) H) (hD : va_D (LA s) (Y ++ [(q, .inr (ci, fs0))])) (hS : va_S (LA s) s.heap H locs) (hl : lv_has ls 9 lv) (hR : cells + mc ≤ 601024 ∧ slots + ms ≤ 7293034) (kk : ∀ (u : Nat → Nat) (H1 : Heap) (locs1 : List Jvm.Loc), po q u → va_P D vwCl (Y ++ w1 u) H1 → va_D (LA s) (Y ++ w1 u) → va_S (LA s) s.heap H1 locs1 → W p l e room_1 s m #[Value.ref b] below meth c H1 locs1 (cells + mc) (slots + ms) Q (F0 m (pc + 3) ls rest)) : W p l e room_1 s m #[Value.ref b] below meth c H locs cells slots Q (F0 m pc ls (.ref q :: rest)) := by
  obtain ⟨hx, hb, hml, hown, hts, hK, hE, -⟩ := C
  have hPX := wp_perm List.perm_append_comm hP
  have hDX := wd_perm List.perm_append_comm hD
  have hFc := wa_free hDX hS (fun _ h => h)
  have hKm : va_K D vwCl (mT cI cZ) s := hK.sub [0, 1] rfl
  refine va_callv (va_runI (As := []) (rest := rest) ⟨hx, hb, hml, hown, hts⟩ (hM q H.size) cw ⟨fun a U g mk q => by obtain ⟨q0, q1, qP, qK, qD, qN⟩ := q; exact ⟨q0, q1, qP, va_K.moved (u := U) (U := U.calling g mk a) (Vm.Alike.refl U.vm) qK, qD, nE.same (u := U) (U := U.calling g mk a) rfl qN⟩, fun U hU hW => ⟨rfl, by rw [hU], by rw [hU]; exact wp_l hPX, va_K.moved hW.alike hKm, (wd_l hDX).weaken (fun _ _ _ _ => trivial), nE.warm hW hN⟩⟩ rfl rfl hl.1 rfl (lv_room hroom) hdg hR) hS (fun z _ h => hFc z h) hFc (fun u t H1 locs1 ht hvm hw hB hz1 hk1 hS1 => ?_)
  obtain ⟨hP1, hK1, hD1⟩ := hB
  rw [ht] at hP1
  obtain ⟨hP2, hD2⟩ := wj hPX hDX hFc hk1 hP1 hD1
  exact kk u H1 locs1 hw (wp_perm List.perm_append_comm hP2) (wd_perm List.perm_append_comm hD2) hS1
end
theorem ok_c : ok cInit := by
  refine ⟨fun k => ?_, fun k i => inR_0⟩
  show inR (bif Nat.beq k 23 then -1 else 0)
  cases Nat.beq k 23 <;> decide
theorem ok_m : ok mInit := by
  refine ⟨fun k => ?_, fun k i => inR_0⟩
  show inR (bif Nat.beq k 245 then -1 else 0)
  cases Nat.beq k 245 <;> decide
theorem li_0 : LI cInit mInit ((0 : Nat) : Int) := by
  refine ⟨⟨rfl, fun _ => rfl, fun _ => rfl, fun _ => rfl, fun _ => rfl, fun _ => rfl, fun _ => rfl, fun _ => rfl⟩, ⟨⟨by decide, by decide⟩, fun t h1 h2 => ?_⟩, ?_, ⟨Or.inl rfl, Or.inl ⟨rfl, by decide⟩⟩, ok_c, ok_m⟩
  · have : gI mInit 201 = 0 := rfl
    omega
  · unfold CR
    decide
set_option maxHeartbeats 4000000 in
set_option maxRecDepth 100000 in
/-- THE LAW, from its entry -/
theorem whole_start {p : Program} {e : Env} {s : State} {m : MethodId} {below : List Frame} {meth : Method} {c : Code} (l : Launch) (hst : l.stackTraces = false) {b L : Nat} {xs : Nat → Int32} (hL : L ≤ 2560) (C0 : lw_At p s m meth c b L xs) : W p l e room_1 s m #[Value.ref b] below meth c s.heap [] 0 0 (lw_Z below #[Value.ref b] s) (entryFrame m ([Value.ref b] : List Value).toArray 9) := by
  obtain ⟨hx, hb, hr, hml, hown, hts, hX, hbl, hlocks, hgv⟩ := id C0
  have hA : ∀ q : Nat, s.heap.size ≤ q → LA s q := fun _ h => h
  obtain ⟨D, cI, cZ, cJ, hK⟩ := l_K hts
  obtain ⟨t1, t2, hE⟩ := l_cE (A := LA s) hts hgv (fun a h => Nat.not_le.mpr h)
  have hN := l_nE hts
  have C : LX p s m c b L xs D cI cZ cJ t1 t2 := ⟨hx, hb, hml, hown, fun w h => hts w (wsL_law_in w h), hK, hE, hX, hbl, hL⟩
  have htl := C.2.2.2.2.1
  have hS : va_S (LA s) s.heap s.heap [] := va_S.rf
  have hP : va_P D vwCl [] s.heap := fun k q h => by simp at h
  have hD : va_D (LA s) [] := ⟨fun i j p q h => by simp at h, fun k q h => by simp at h⟩
  have hl := lv_entry ([.ref b]) (n := 9) (Nat.le_of_ble_eq_true rfl)
  rw [lg_entry_eq]
  generalize (lg_sl ([.ref b]) ++ List.replicate (9 - (lg_sl ([.ref b])).length) Slot.unset).toArray = ls at hl ⊢
  have hl : lv_has ls 9 [(0, .ref b)] := hl
  refine va_new (ci := 8) (fs := [.null, .null, .null, .null, .int (iI 0), .int (iI 0), .long (Int64.ofInt 0), .int (iI 0), .int (iI 0), .int (iI 0), .int (iI 0), .int (iI 0)]) (C := RX9) (T := TX9) (N := 12) hx hb hts inX9 tyX9 tyX9_ok hown (hts (.classLink RL 8 RX9) (by decide +kernel)) (hts (.instantiable RX9 12) (by decide +kernel)) (hts (.initialized RX9) (by decide +kernel)) hK hP hD hS hA rfl (fun j hj => by rcases (show j = 0 ∨ j = 1 ∨ j = 2 ∨ j = 3 ∨ j = 4 ∨ j = 5 ∨ j = 6 ∨ j = 7 ∨ j = 8 ∨ j = 9 ∨ j = 10 ∨ j = 11 by omega) with rfl | rfl | rfl | rfl | rfl | rfl | rfl | rfl | rfl | rfl | rfl | rfl <;> rfl) (Nat.le_of_ble_eq_true rfl) (Nat.le_of_ble_eq_true rfl) dL_law_0 (fun q9 H hP hD hS => ?_)
  refine lv_dup hx hb dL_law_3 rfl ?_
  refine l_callN (Y := []) (rest := [.ref q9]) C hN (t9_init l) (cwI 0 htl gL_law_X9_init rfl rfl rfl (hts (.initialized RX9) (by decide +kernel)) (hts (.methodLink RL 32 yX9_init) (by decide +kernel)) (hts (.instanceMethod yX9_init) (by decide +kernel)) rfl (by decide +kernel) ⟨Nat.le_of_ble_eq_true rfl, Nat.le_of_ble_eq_true rfl⟩) (Nat.le_of_ble_eq_true rfl) dL_law_4 hP hD hS hl ⟨Nat.le_of_ble_eq_true rfl, Nat.le_of_ble_eq_true rfl⟩ (fun hc H1 locs1 ec hP1 hD1 hS1 => ?_)
  subst ec
  refine lv_astore_n (lv' := [(1, .ref (hc 199)), (0, .ref b)]) hx hb dL_law_7 rfl hl (by decide) rfl (fun ls1 hl1 => ?_)
  refine va_new (ci := 9) (fs := [.int (iI 0), .int (iI 0), .null, .null, .null, .null, .null, .null, .null, .int (iI 0), .null, .null, .null, .int (iI 0), .null, .null, .int (iI 0), .null, .null, .null, .null, .null, .null, .int (iI 0), .null, .int (iI 0), .int (iI 0), .int (iI 0), .int (iI 0), .int (iI 0), .int (iI 0), .int (iI 0), .int (iI 0), .int (iI 0), .int (iI 0), .int (iI 0), .int (iI 0), .int (iI 0), .int (iI 0), .int (iI 0), .int (iI 0), .null, .null, .null, .null, .int (iI 0), .int (iI 0), .null, .null, .null, .int (iI 0), .null, .null, .null, .null, .null, .int (iI 0), .null, .null, .null]) (C := RX10) (T := TX10) (N := 60) hx hb hts inX10 tyX10 tyX10_ok hown (hts (.classLink RL 33 RX10) (by decide +kernel)) (hts (.instantiable RX10 60) (by decide +kernel)) (hts (.initialized RX10) (by decide +kernel)) hK hP1 hD1 hS1 hA rfl (fun j hj => by rcases (show j = 0 ∨ j = 1 ∨ j = 2 ∨ j = 3 ∨ j = 4 ∨ j = 5 ∨ j = 6 ∨ j = 7 ∨ j = 8 ∨ j = 9 ∨ j = 10 ∨ j = 11 ∨ j = 12 ∨ j = 13 ∨ j = 14 ∨ j = 15 ∨ j = 16 ∨ j = 17 ∨ j = 18 ∨ j = 19 ∨ j = 20 ∨ j = 21 ∨ j = 22 ∨ j = 23 ∨ j = 24 ∨ j = 25 ∨ j = 26 ∨ j = 27 ∨ j = 28 ∨ j = 29 ∨ j = 30 ∨ j = 31 ∨ j = 32 ∨ j = 33 ∨ j = 34 ∨ j = 35 ∨ j = 36 ∨ j = 37 ∨ j = 38 ∨ j = 39 ∨ j = 40 ∨ j = 41 ∨ j = 42 ∨ j = 43 ∨ j = 44 ∨ j = 45 ∨ j = 46 ∨ j = 47 ∨ j = 48 ∨ j = 49 ∨ j = 50 ∨ j = 51 ∨ j = 52 ∨ j = 53 ∨ j = 54 ∨ j = 55 ∨ j = 56 ∨ j = 57 ∨ j = 58 ∨ j = 59 by omega) with rfl | rfl | rfl | rfl | rfl | rfl | rfl | rfl | rfl | rfl | rfl | rfl | rfl | rfl | rfl | rfl | rfl | rfl | rfl | rfl | rfl | rfl | rfl | rfl | rfl | rfl | rfl | rfl | rfl | rfl | rfl | rfl | rfl | rfl | rfl | rfl | rfl | rfl | rfl | rfl | rfl | rfl | rfl | rfl | rfl | rfl | rfl | rfl | rfl | rfl | rfl | rfl | rfl | rfl | rfl | rfl | rfl | rfl | rfl | rfl <;> rfl) (Nat.le_of_ble_eq_true rfl) (Nat.le_of_ble_eq_true rfl) dL_law_8 (fun q10 H2 hP2 hD2 hS2 => ?_)
  refine lv_dup hx hb dL_law_11 rfl ?_
  refine l_callN (Y := [] ++ cW hc cI cZ cInit) (rest := [.ref q10]) C hN (t10_init l) (cwI 0 htl gL_law_X10_init rfl rfl rfl (hts (.initialized RX10) (by decide +kernel)) (hts (.methodLink RL 35 yX10_init) (by decide +kernel)) (hts (.instanceMethod yX10_init) (by decide +kernel)) rfl (by decide +kernel) ⟨Nat.le_of_ble_eq_true rfl, Nat.le_of_ble_eq_true rfl⟩) (Nat.le_of_ble_eq_true rfl) dL_law_12 hP2 hD2 hS2 hl1 ⟨Nat.le_of_ble_eq_true rfl, Nat.le_of_ble_eq_true rfl⟩ (fun hm H3 locs3 em hP3 hD3 hS3 => ?_)
  subst em
  refine lv_astore_n (lv' := [(2, .ref (hm 299)), (1, .ref (hc 199)), (0, .ref b)]) hx hb dL_law_15 rfl hl1 (by decide) rfl (fun ls3 hl3 => ?_)
  refine lv_iconst (v := 1) hx hb dL_law_16 (by decide) ?_
  refine va_newa (atype := .long) (a0 := (1, .inr (.inl (fun _ : Nat => Int64.ofInt 0)))) (ty := .long) (N' := 1) hx hb (hts (.arrayClass .long) (by decide +kernel)) rfl hK hP3 hD3 hS3 hA (fun cA => rfl) (by decide) (by decide) (by decide) (Nat.le_of_ble_eq_true rfl) (Nat.le_of_ble_eq_true rfl) dL_law_17 (fun qo cA H4 hK4 hP4 hD4 hS4 => ?_)
  have ej : cA = cJ := cn_cls hK4 (i := 3) (j := 2) rfl rfl (fun _ h => by cases h)
  subst ej
  refine lv_astore_n (lv' := [(3, .ref qo), (2, .ref (hm 299)), (1, .ref (hc 199)), (0, .ref b)]) hx hb dL_law_19 rfl hl3 (by decide) rfl (fun ls4 hl4 => ?_)
  refine lv_iconst (v := iI 0) hx hb dL_law_20 rfl ?_
  refine lv_istore (lv' := [(4, .int (iI 0)), (3, .ref qo), (2, .ref (hm 299)), (1, .ref (hc 199)), (0, .ref b)]) hx hb dL_law_21 hl4 (by decide) rfl (fun ls5 hl5 => ?_)
  refine W.widen (k := 74 + 0) (n := 32360 + 6 * 0) (by omega) (by omega) ?_
  have pm : (([] ++ cW hc cI cZ cInit ++ mW hm cI cZ mInit) ++ [oC qo cA (fun _ : Nat => Int64.ofInt 0)]).Perm (lW hc cI cZ cA qo cInit (fun _ : Nat => Int64.ofInt 0) ++ mW hm cI cZ mInit) := List.perm_append_singleton _ _
  exact l_loop C hst hr hlocks (L + 1) 0 (by omega) (by omega) cInit mInit _ _ _ ls5 li_0 (wp_perm pm hP4) (wd_perm pm hD4) hS4 (lv_sub hl5 [4, 3, 2, 1, 0] rfl)
