section
variable {p : Program} {l : Launch} {e : Env} {s : State} {m : MethodId} {args : Array Value} {below : List Frame} {meth : Method} {c : Code} {h : Nat → Nat} {cI cZ : ClassId} {D : va_G} {σz : Sg} {sz : Nat} {t1 t2 : Nat}
abbrev rm10_thrown : Room := { frames := 0, cells := 0, slots := 0, locals := 0 }
def f10_thrown (σ0 : Sg)  : Option (Sg × Int) :=
  some (σ0, (gI σ0 200))
set_option maxRecDepth 100000 in
theorem t10_thrown (l : Launch) {h : Nat → Nat} {cI cZ : ClassId} {D : va_G} {σ0 : Sg}  (k0 : ok σ0)  : ctI noE l (mW h cI cZ) D (mT cI cZ) yX10_thrown wsX10_thrown rm10_thrown [.ref (h 299)] σ0 (f10_thrown σ0 ) := by
  refine of_I noE_ok (own := RX10) (lv := [(0, .ref (h 299))]) (by decide) rfl rfl (Nat.le_of_ble_eq_true rfl) rfl (fun p e s m below meth c sz X hA => ?_)
  rw [f10_thrown]
  refine jm_aload_n (n := 1) X 0 rfl dX10_thrown_0 rfl ?_
  refine jm_get (n := 4) X 0 9 0 mW_X10 rfl (by decide) (fun w h => List.mem_cons_of_mem _ (List.mem_append_right _ h)) (List.mem_of_getElem? (i := 1) rfl) rfl dX10_thrown_1 rfl ?_
  exact jm_iret X rfl k0 (k0.1 200) dX10_thrown_4
abbrev rm10_fail : Room := { frames := 0, cells := 0, slots := 0, locals := 0 }
def f10_fail (σ0 : Sg) (x1 : Int) : Option (Sg × Int) :=
  nx (sI σ0 200 x1) fun σ1 =>
  some (σ1, (0 : Int))
set_option maxRecDepth 100000 in
theorem t10_fail (l : Launch) {h : Nat → Nat} {cI cZ : ClassId} {D : va_G} {σ0 : Sg} {x1 : Int} (k0 : ok σ0) (hx1 : inR x1) : ctI noE l (mW h cI cZ) D (mT cI cZ) yX10_fail wsX10_fail rm10_fail [.ref (h 299), .int (iI x1)] σ0 (f10_fail σ0 x1) := by
  refine of_I noE_ok (own := RX10) (lv := [(0, .ref (h 299)), (1, .int (iI x1))]) (by decide) rfl rfl (Nat.le_of_ble_eq_true rfl) rfl (fun p e s m below meth c sz X hA => ?_)
  rw [f10_fail]
  refine jm_aload_n (n := 1) X 0 rfl dX10_fail_0 rfl ?_
  refine jm_iload_n (n := 2) X 1 rfl dX10_fail_1 rfl ?_
  refine jm_put (n := 5) X 0 9 0 200 mW_X10 rfl (by decide) (fun w h => List.mem_cons_of_mem _ (List.mem_append_right _ h)) tyX10 tyX10_ok nmX10 (List.mem_of_getElem? (i := 1) rfl) rfl rfl rfl rfl (Nat.le_of_ble_eq_true rfl) mS_200 k0 hx1 dX10_fail_2 rfl (fun σ1 k1 => ?_)
  refine jm_iconst (n := 6) X dX10_fail_5 rfl ?_
  exact jm_iret X rfl k1 (by decide) dX10_fail_6
abbrev rm10_in : Room := { frames := 0, cells := 0, slots := 0, locals := 0 }
def f10_in (σ0 : Sg) (x0 : Int) (x1 : Int) (x2 : Int) : Option (Sg × Int) :=
  if x0 < x1 then (ck ((0 : Int) = 0 ∨ (0 : Int) = 1) (some (σ0, (0 : Int))))
  else (if x2 < x0 then (ck ((0 : Int) = 0 ∨ (0 : Int) = 1) (some (σ0, (0 : Int))))
  else (ck ((1 : Int) = 0 ∨ (1 : Int) = 1) (some (σ0, (1 : Int)))))
set_option maxRecDepth 100000 in
theorem t10_in (l : Launch) {h : Nat → Nat} {cI cZ : ClassId} {D : va_G} {σ0 : Sg} {x0 : Int} {x1 : Int} {x2 : Int} (k0 : ok σ0) (hx0 : inR x0) (hx1 : inR x1) (hx2 : inR x2) : ctI noE l (mW h cI cZ) D (mT cI cZ) yX10_in wsX10_in rm10_in [.int (iI x0), .int (iI x1), .int (iI x2)] σ0 (f10_in σ0 x0 x1 x2) := by
  refine of_Z noE_ok (own := RX10) (lv := [(0, .int (iI x0)), (1, .int (iI x1)), (2, .int (iI x2))]) (by decide) rfl rfl (Nat.le_of_ble_eq_true rfl) rfl (fun p e s m below meth c sz X hA => ?_)
  rw [f10_in]
  refine jm_iload_n (n := 1) X 0 rfl dX10_in_0 rfl ?_
  refine jm_iload_n (n := 2) X 1 rfl dX10_in_1 rfl ?_
  refine jm_icmp_lt (n := 5) (tgt := 14) X dX10_in_2 (by decide) hx0 hx1 rfl (fun c1 => ?_) (fun c1 => ?_)
  · refine jm_iconst (n := 15) X dX10_in_14 rfl ?_
    exact jm_zret X rfl k0 dX10_in_15
  · refine jm_iload_n (n := 6) X 0 rfl dX10_in_5 rfl ?_
    refine jm_iload_n (n := 7) X 2 rfl dX10_in_6 rfl ?_
    refine jm_icmp_gt (n := 10) (tgt := 14) X dX10_in_7 (by decide) hx0 hx2 rfl (fun c2 => ?_) (fun c2 => ?_)
    · refine jm_iconst (n := 15) X dX10_in_14 rfl ?_
      exact jm_zret X rfl k0 dX10_in_15
    · refine jm_iconst (n := 11) X dX10_in_10 rfl ?_
      refine jm_goto (n := 15) X dX10_in_11 (by decide) ?_
      exact jm_zret X rfl k0 dX10_in_15
abbrev rm10_greater : Room := { frames := 0, cells := 0, slots := 0, locals := 0 }
def f10_greater (σ0 : Sg) (x0 : Int) (x1 : Int) : Option (Sg × Int) :=
  if x0 ≤ x1 then (some (σ0, x1))
  else (some (σ0, x0))
set_option maxRecDepth 100000 in
theorem t10_greater (l : Launch) {h : Nat → Nat} {cI cZ : ClassId} {D : va_G} {σ0 : Sg} {x0 : Int} {x1 : Int} (k0 : ok σ0) (hx0 : inR x0) (hx1 : inR x1) : ctI noE l (mW h cI cZ) D (mT cI cZ) yX10_greater wsX10_greater rm10_greater [.int (iI x0), .int (iI x1)] σ0 (f10_greater σ0 x0 x1) := by
  refine of_I noE_ok (own := RX10) (lv := [(0, .int (iI x0)), (1, .int (iI x1))]) (by decide) rfl rfl (Nat.le_of_ble_eq_true rfl) rfl (fun p e s m below meth c sz X hA => ?_)
  rw [f10_greater]
  refine jm_iload_n (n := 1) X 0 rfl dX10_greater_0 rfl ?_
  refine jm_iload_n (n := 2) X 1 rfl dX10_greater_1 rfl ?_
  refine jm_icmp_le (n := 5) (tgt := 9) X dX10_greater_2 (by decide) hx0 hx1 rfl (fun c1 => ?_) (fun c1 => ?_)
  · refine jm_iload_n (n := 10) X 1 rfl dX10_greater_9 rfl ?_
    exact jm_iret X rfl k0 hx1 dX10_greater_10
  · refine jm_iload_n (n := 6) X 0 rfl dX10_greater_5 rfl ?_
    refine jm_goto (n := 10) X dX10_greater_6 (by decide) ?_
    exact jm_iret X rfl k0 hx0 dX10_greater_10
abbrev rm10_isTerm : Room := { frames := 1, cells := 0, slots := 0, locals := 22 }
def f10_isTerm (σ0 : Sg) (x1 : Int) : Option (Sg × Int) :=
  ck (inR ((gI σ0 201) - (1 : Int))) <|
  bd (f10_in σ0 x1 (0 : Int) ((gI σ0 201) - (1 : Int))) fun σ2 r2 =>
  ck (r2 = 0 ∨ r2 = 1) (some (σ2, r2))
set_option maxRecDepth 100000 in
theorem t10_isTerm (l : Launch) {h : Nat → Nat} {cI cZ : ClassId} {D : va_G} {σ0 : Sg} {x1 : Int} (k0 : ok σ0) (hx1 : inR x1) : ctI noE l (mW h cI cZ) D (mT cI cZ) yX10_isTerm wsX10_isTerm rm10_isTerm [.ref (h 299), .int (iI x1)] σ0 (f10_isTerm σ0 x1) := by
  refine of_Z noE_ok (own := RX10) (lv := [(0, .ref (h 299)), (1, .int (iI x1))]) (by decide) rfl rfl (Nat.le_of_ble_eq_true rfl) rfl (fun p e s m below meth c sz X hA => ?_)
  rw [f10_isTerm]
  refine jm_iload_n (n := 1) X 1 rfl dX10_isTerm_0 rfl ?_
  refine jm_iconst (n := 2) X dX10_isTerm_1 rfl ?_
  refine jm_aload_n (n := 3) X 0 rfl dX10_isTerm_2 rfl ?_
  refine jm_get (n := 6) X 0 9 1 mW_X10 rfl (by decide) (fun w h => List.mem_cons_of_mem _ (List.mem_append_right _ h)) (List.mem_of_getElem? (i := 1) rfl) rfl dX10_isTerm_3 rfl ?_
  refine jm_iconst (n := 7) X dX10_isTerm_6 rfl ?_
  refine jm_isub (n := 8) X dX10_isTerm_7 rfl (fun h1 => ?_)
  refine jm_callSi (n := 11) (vs := [.int (iI x1), .int (iI (0 : Int)), .int (iI ((gI σ0 201) - (1 : Int)))]) (rest := []) X hA (t10_in l k0 hx1 (by decide) h1) (va_cwS 3 X.2.2.2.2.1 gX10_isTerm_X10_in rfl rfl rfl (by decide +kernel) ⟨Nat.le_of_ble_eq_true rfl, Nat.le_of_ble_eq_true rfl⟩) rfl (Nat.le_of_ble_eq_true rfl) dX10_isTerm_8 rfl (fun σ2 r2 k2 h3 => ?_)
  exact jm_zret X rfl k2 dX10_isTerm_11
abbrev rm10_hasB : Room := { frames := 1, cells := 0, slots := 0, locals := 22 }
def f10_hasB (σ0 : Sg) (x0 : Int) : Option (Sg × Int) :=
  bd (f10_in σ0 x0 (4 : Int) (8 : Int)) fun σ1 r1 =>
  ck (r1 = 0 ∨ r1 = 1) (some (σ1, r1))
set_option maxRecDepth 100000 in
theorem t10_hasB (l : Launch) {h : Nat → Nat} {cI cZ : ClassId} {D : va_G} {σ0 : Sg} {x0 : Int} (k0 : ok σ0) (hx0 : inR x0) : ctI noE l (mW h cI cZ) D (mT cI cZ) yX10_hasB wsX10_hasB rm10_hasB [.int (iI x0)] σ0 (f10_hasB σ0 x0) := by
  refine of_Z noE_ok (own := RX10) (lv := [(0, .int (iI x0))]) (by decide) rfl rfl (Nat.le_of_ble_eq_true rfl) rfl (fun p e s m below meth c sz X hA => ?_)
  rw [f10_hasB]
  refine jm_iload_n (n := 1) X 0 rfl dX10_hasB_0 rfl ?_
  refine jm_iconst (n := 2) X dX10_hasB_1 rfl ?_
  refine jm_bipush (n := 4) X dX10_hasB_2 (by decide) rfl ?_
  refine jm_callSi (n := 7) (vs := [.int (iI x0), .int (iI (4 : Int)), .int (iI (8 : Int))]) (rest := []) X hA (t10_in l k0 hx0 (by decide) (by decide)) (va_cwS 3 X.2.2.2.2.1 gX10_hasB_X10_in rfl rfl rfl (by decide +kernel) ⟨Nat.le_of_ble_eq_true rfl, Nat.le_of_ble_eq_true rfl⟩) rfl (Nat.le_of_ble_eq_true rfl) dX10_hasB_4 rfl (fun σ1 r1 k1 h2 => ?_)
  exact jm_zret X rfl k1 dX10_hasB_7
abbrev rm10_hasA : Room := { frames := 1, cells := 0, slots := 0, locals := 22 }
def f10_hasA (σ0 : Sg) (x0 : Int) : Option (Sg × Int) :=
  bd (f10_in σ0 x0 (3 : Int) (11 : Int)) fun σ1 r1 =>
  ck (r1 = 0 ∨ r1 = 1) (some (σ1, r1))
set_option maxRecDepth 100000 in
theorem t10_hasA (l : Launch) {h : Nat → Nat} {cI cZ : ClassId} {D : va_G} {σ0 : Sg} {x0 : Int} (k0 : ok σ0) (hx0 : inR x0) : ctI noE l (mW h cI cZ) D (mT cI cZ) yX10_hasA wsX10_hasA rm10_hasA [.int (iI x0)] σ0 (f10_hasA σ0 x0) := by
  refine of_Z noE_ok (own := RX10) (lv := [(0, .int (iI x0))]) (by decide) rfl rfl (Nat.le_of_ble_eq_true rfl) rfl (fun p e s m below meth c sz X hA => ?_)
  rw [f10_hasA]
  refine jm_iload_n (n := 1) X 0 rfl dX10_hasA_0 rfl ?_
  refine jm_iconst (n := 2) X dX10_hasA_1 rfl ?_
  refine jm_bipush (n := 4) X dX10_hasA_2 (by decide) rfl ?_
  refine jm_callSi (n := 7) (vs := [.int (iI x0), .int (iI (3 : Int)), .int (iI (11 : Int))]) (rest := []) X hA (t10_in l k0 hx0 (by decide) (by decide)) (va_cwS 3 X.2.2.2.2.1 gX10_hasA_X10_in rfl rfl rfl (by decide +kernel) ⟨Nat.le_of_ble_eq_true rfl, Nat.le_of_ble_eq_true rfl⟩) rfl (Nat.le_of_ble_eq_true rfl) dX10_hasA_4 rfl (fun σ1 r1 k1 h2 => ?_)
  exact jm_zret X rfl k1 dX10_hasA_7
abbrev rm10_fits : Room := { frames := 2, cells := 0, slots := 0, locals := 43 }
def b10_fits_76 (σ0 : Sg) (x1 : Int) (x4 : Int) : Option (Sg × Int) :=
  if x1 = (7 : Int) then (bd (f10_isTerm σ0 x4) fun σ2 r2 =>
  if r2 = 0 then (ck ((0 : Int) = 0 ∨ (0 : Int) = 1) (some (σ2, (0 : Int))))
  else (ck ((1 : Int) = 0 ∨ (1 : Int) = 1) (some (σ2, (1 : Int)))))
  else (ck ((1 : Int) = 0 ∨ (1 : Int) = 1) (some (σ0, (1 : Int))))
set_option maxRecDepth 100000 in
theorem u10_fits_76 (X : CX p m meth c cX10_fits 5 (some .boolean) s args wsX10_fits RX10 D (mT cI cZ) noE (va_A (mW h cI cZ σz) sz)) (hA : ∀ z : Nat, s.heap.size ≤ z → va_A (mW h cI cZ σz) sz z) (σ0 : Sg) (x1 : Int) (x4 : Int) (k0 : ok σ0) (hx1 : inR x1) (hx4 : inR x4) : JI l rm10_fits (mW h cI cZ) D (mT cI cZ) σz sz 5 p e s m args below meth c σ0 76 [(0, .ref (h 299)), (1, .int (iI x1)), (4, .int (iI x4))] [] (b10_fits_76 σ0 x1 x4) := by
  rw [b10_fits_76]
  refine jm_iload_n (n := 77) X 1 rfl dX10_fits_76 rfl ?_
  refine jm_bipush (n := 79) X dX10_fits_77 (by decide) rfl ?_
  refine jm_icmp_ne (n := 82) (tgt := 91) X dX10_fits_79 (by decide) hx1 (by decide) rfl (fun c1 => ?_) (fun c1 => ?_)
  · refine jm_aload_n (n := 83) X 0 rfl dX10_fits_82 rfl ?_
    refine jm_iload (n := 85) X 2 rfl dX10_fits_83 rfl ?_
    refine jm_callVi (n := 88) (vs := [.int (iI x4)]) (rest := []) X hA (t10_isTerm l k0 hx4) (cwV 1 X.2.2.2.2.1 gX10_fits_X10_isTerm rfl rfl rfl (by decide +kernel) ⟨Nat.le_of_ble_eq_true rfl, Nat.le_of_ble_eq_true rfl⟩) 0 9 mW_X10 rfl rfl (Nat.le_of_ble_eq_true rfl) dX10_fits_85 rfl (fun σ2 r2 k2 h3 => ?_)
    refine jm_if_eq (n := 91) (tgt := 95) X dX10_fits_88 (by decide) h3 rfl (fun c4 => ?_) (fun c4 => ?_)
    · refine jm_iconst (n := 96) X dX10_fits_95 rfl ?_
      exact jm_zret X rfl k2 dX10_fits_96
    · refine jm_iconst (n := 92) X dX10_fits_91 rfl ?_
      refine jm_goto (n := 96) X dX10_fits_92 (by decide) ?_
      exact jm_zret X rfl k2 dX10_fits_96
  · refine jm_iconst (n := 92) X dX10_fits_91 rfl ?_
    refine jm_goto (n := 96) X dX10_fits_92 (by decide) ?_
    exact jm_zret X rfl k0 dX10_fits_96
def f10_fits (σ0 : Sg) (x1 : Int) (x2 : Int) (x3 : Int) (x4 : Int) : Option (Sg × Int) :=
  if x1 = 0 then (bd (f10_in σ0 x2 (-1000 : Int) (1000 : Int)) fun σ2 r2 =>
  ck (r2 = 0 ∨ r2 = 1) (some (σ2, r2)))
  else if x1 = 1 then (bd (f10_in σ0 x2 (0 : Int) (1 : Int)) fun σ5 r5 =>
  ck (r5 = 0 ∨ r5 = 1) (some (σ5, r5)))
  else if x1 = 2 then (bd (f10_in σ0 x2 (0 : Int) (5 : Int)) fun σ8 r8 =>
  ck (r8 = 0 ∨ r8 = 1) (some (σ8, r8)))
  else (bd (f10_isTerm σ0 x2) fun σ10 r10 =>
  if r10 = 0 then (ck ((0 : Int) = 0 ∨ (0 : Int) = 1) (some (σ10, (0 : Int))))
  else (bd (f10_hasB σ10 x1) fun σ13 r13 =>
  if r13 = 0 then ((b10_fits_76 σ13 x1 x4))
  else (bd (f10_isTerm σ13 x3) fun σ16 r16 =>
  if r16 = 0 then (ck ((0 : Int) = 0 ∨ (0 : Int) = 1) (some (σ16, (0 : Int))))
  else ((b10_fits_76 σ16 x1 x4)))))
set_option maxRecDepth 100000 in
theorem t10_fits (l : Launch) {h : Nat → Nat} {cI cZ : ClassId} {D : va_G} {σ0 : Sg} {x1 : Int} {x2 : Int} {x3 : Int} {x4 : Int} (k0 : ok σ0) (hx1 : inR x1) (hx2 : inR x2) (hx3 : inR x3) (hx4 : inR x4) : ctI noE l (mW h cI cZ) D (mT cI cZ) yX10_fits wsX10_fits rm10_fits [.ref (h 299), .int (iI x1), .int (iI x2), .int (iI x3), .int (iI x4)] σ0 (f10_fits σ0 x1 x2 x3 x4) := by
  refine of_Z noE_ok (own := RX10) (lv := [(0, .ref (h 299)), (1, .int (iI x1)), (2, .int (iI x2)), (3, .int (iI x3)), (4, .int (iI x4))]) (by decide) rfl rfl (Nat.le_of_ble_eq_true rfl) rfl (fun p e s m below meth c sz X hA => ?_)
  rw [f10_fits]
  refine jm_iload_n (n := 1) X 1 rfl dX10_fits_0 rfl ?_
  refine jm_tcase (tgt := 28) X (0) dX10_fits_1 hx1 (by decide) (by decide) rfl (by decide) (fun c1 => ?_) (fun c1 => ?_)
  · refine jm_iload_n (n := 29) X 2 rfl dX10_fits_28 rfl ?_
    refine jm_sipush (n := 32) X dX10_fits_29 (by decide) rfl ?_
    refine jm_sipush (n := 35) X dX10_fits_32 (by decide) rfl ?_
    refine jm_callSi (n := 38) (vs := [.int (iI x2), .int (iI (-1000 : Int)), .int (iI (1000 : Int))]) (rest := []) X hA (t10_in l k0 hx2 (by decide) (by decide)) (va_cwS 3 X.2.2.2.2.1 gX10_fits_X10_in rfl rfl rfl (by decide +kernel) ⟨Nat.le_of_ble_eq_true rfl, Nat.le_of_ble_eq_true rfl⟩) rfl (Nat.le_of_ble_eq_true rfl) dX10_fits_35 rfl (fun σ2 r2 k2 h3 => ?_)
    exact jm_zret X rfl k2 dX10_fits_38
  refine jm_tcase (tgt := 39) X (1) dX10_fits_1 hx1 (by decide) (by decide) rfl (by decide) (fun c4 => ?_) (fun c4 => ?_)
  · refine jm_iload_n (n := 40) X 2 rfl dX10_fits_39 rfl ?_
    refine jm_iconst (n := 41) X dX10_fits_40 rfl ?_
    refine jm_iconst (n := 42) X dX10_fits_41 rfl ?_
    refine jm_callSi (n := 45) (vs := [.int (iI x2), .int (iI (0 : Int)), .int (iI (1 : Int))]) (rest := []) X hA (t10_in l k0 hx2 (by decide) (by decide)) (va_cwS 3 X.2.2.2.2.1 gX10_fits_X10_in rfl rfl rfl (by decide +kernel) ⟨Nat.le_of_ble_eq_true rfl, Nat.le_of_ble_eq_true rfl⟩) rfl (Nat.le_of_ble_eq_true rfl) dX10_fits_42 rfl (fun σ5 r5 k5 h6 => ?_)
    exact jm_zret X rfl k5 dX10_fits_45
  refine jm_tcase (tgt := 46) X (2) dX10_fits_1 hx1 (by decide) (by decide) rfl (by decide) (fun c7 => ?_) (fun c7 => ?_)
  · refine jm_iload_n (n := 47) X 2 rfl dX10_fits_46 rfl ?_
    refine jm_iconst (n := 48) X dX10_fits_47 rfl ?_
    refine jm_iconst (n := 49) X dX10_fits_48 rfl ?_
    refine jm_callSi (n := 52) (vs := [.int (iI x2), .int (iI (0 : Int)), .int (iI (5 : Int))]) (rest := []) X hA (t10_in l k0 hx2 (by decide) (by decide)) (va_cwS 3 X.2.2.2.2.1 gX10_fits_X10_in rfl rfl rfl (by decide +kernel) ⟨Nat.le_of_ble_eq_true rfl, Nat.le_of_ble_eq_true rfl⟩) rfl (Nat.le_of_ble_eq_true rfl) dX10_fits_49 rfl (fun σ8 r8 k8 h9 => ?_)
    exact jm_zret X rfl k8 dX10_fits_52
  refine jm_tout (tgt := 53) X dX10_fits_1 hx1 (by decide) (by omega) ?_
  refine jm_aload_n (n := 54) X 0 rfl dX10_fits_53 rfl ?_
  refine jm_iload_n (n := 55) X 2 rfl dX10_fits_54 rfl ?_
  refine jm_callVi (n := 58) (vs := [.int (iI x2)]) (rest := []) X hA (t10_isTerm l k0 hx2) (cwV 1 X.2.2.2.2.1 gX10_fits_X10_isTerm rfl rfl rfl (by decide +kernel) ⟨Nat.le_of_ble_eq_true rfl, Nat.le_of_ble_eq_true rfl⟩) 0 9 mW_X10 rfl rfl (Nat.le_of_ble_eq_true rfl) dX10_fits_55 rfl (fun σ10 r10 k10 h11 => ?_)
  refine jm_if_eq (n := 61) (tgt := 95) X dX10_fits_58 (by decide) h11 rfl (fun c12 => ?_) (fun c12 => ?_)
  · refine jm_iconst (n := 96) X dX10_fits_95 rfl ?_
    exact jm_zret X rfl k10 dX10_fits_96
  · refine jm_iload_n (n := 62) X 1 rfl dX10_fits_61 rfl ?_
    refine jm_callSi (n := 65) (vs := [.int (iI x1)]) (rest := []) X hA (t10_hasB l k10 hx1) (va_cwS 1 X.2.2.2.2.1 gX10_fits_X10_hasB rfl rfl rfl (by decide +kernel) ⟨Nat.le_of_ble_eq_true rfl, Nat.le_of_ble_eq_true rfl⟩) rfl (Nat.le_of_ble_eq_true rfl) dX10_fits_62 rfl (fun σ13 r13 k13 h14 => ?_)
    refine jm_if_eq (n := 68) (tgt := 76) X dX10_fits_65 (by decide) h14 rfl (fun c15 => ?_) (fun c15 => ?_)
    · refine jm_perm [0, 1, 4] rfl ?_
      exact u10_fits_76 X hA σ13 x1 x4 k13 hx1 hx4
    · refine jm_aload_n (n := 69) X 0 rfl dX10_fits_68 rfl ?_
      refine jm_iload_n (n := 70) X 3 rfl dX10_fits_69 rfl ?_
      refine jm_callVi (n := 73) (vs := [.int (iI x3)]) (rest := []) X hA (t10_isTerm l k13 hx3) (cwV 1 X.2.2.2.2.1 gX10_fits_X10_isTerm rfl rfl rfl (by decide +kernel) ⟨Nat.le_of_ble_eq_true rfl, Nat.le_of_ble_eq_true rfl⟩) 0 9 mW_X10 rfl rfl (Nat.le_of_ble_eq_true rfl) dX10_fits_70 rfl (fun σ16 r16 k16 h17 => ?_)
      refine jm_if_eq (n := 76) (tgt := 95) X dX10_fits_73 (by decide) h17 rfl (fun c18 => ?_) (fun c18 => ?_)
      · refine jm_iconst (n := 96) X dX10_fits_95 rfl ?_
        exact jm_zret X rfl k16 dX10_fits_96
      · refine jm_perm [0, 1, 4] rfl ?_
        exact u10_fits_76 X hA σ16 x1 x4 k16 hx1 hx4
abbrev rm10_needs : Room := { frames := 1, cells := 0, slots := 0, locals := 21 }
def f10_needs (σ0 : Sg) (x1 : Int) (x2 : Int) (x3 : Int) (x4 : Int) : Option (Sg × Int) :=
  if x1 = 0 then (some (σ0, (0 : Int)))
  else if x1 = 1 then (some (σ0, (0 : Int)))
  else if x1 = 2 then (ck (inR (x2 + (1 : Int))) <|
  some (σ0, (x2 + (1 : Int))))
  else if x1 = 3 then (ck (0 ≤ x2 ∧ x2 < 60) <|
  ck (inR ((gA σ0 208 x2) - (1 : Int))) <|
  bd (f10_greater σ0 ((gA σ0 208 x2) - (1 : Int)) (0 : Int)) fun σ8 r8 =>
  some (σ8, r8))
  else if x1 = 4 then (ck (0 ≤ x2 ∧ x2 < 60) <|
  ck (0 ≤ x3 ∧ x3 < 60) <|
  bd (f10_greater σ0 (gA σ0 208 x2) (gA σ0 208 x3)) fun σ13 r13 =>
  some (σ13, r13))
  else if x1 = 5 then (ck (0 ≤ x2 ∧ x2 < 60) <|
  ck (0 ≤ x3 ∧ x3 < 60) <|
  bd (f10_greater σ0 (gA σ0 208 x2) (gA σ0 208 x3)) fun σ18 r18 =>
  some (σ18, r18))
  else if x1 = 6 then (ck (0 ≤ x2 ∧ x2 < 60) <|
  ck (0 ≤ x3 ∧ x3 < 60) <|
  bd (f10_greater σ0 (gA σ0 208 x2) (gA σ0 208 x3)) fun σ23 r23 =>
  some (σ23, r23))
  else if x1 = 7 then (ck (0 ≤ x2 ∧ x2 < 60) <|
  ck (0 ≤ x3 ∧ x3 < 60) <|
  ck (0 ≤ x4 ∧ x4 < 60) <|
  bd (f10_greater σ0 (gA σ0 208 x3) (gA σ0 208 x4)) fun σ29 r29 =>
  bd (f10_greater σ29 (gA σ0 208 x2) r29) fun σ31 r31 =>
  some (σ31, r31))
  else if x1 = 8 then (ck (0 ≤ x2 ∧ x2 < 60) <|
  ck (0 ≤ x3 ∧ x3 < 60) <|
  ck (inR ((gA σ0 208 x3) - (1 : Int))) <|
  bd (f10_greater σ0 (gA σ0 208 x2) ((gA σ0 208 x3) - (1 : Int))) fun σ37 r37 =>
  some (σ37, r37))
  else if x1 = 9 then (ck (0 ≤ x2 ∧ x2 < 60) <|
  some (σ0, (gA σ0 208 x2)))
  else if x1 = 10 then (ck (0 ≤ x2 ∧ x2 < 60) <|
  ck (inR ((gA σ0 208 x2) - (1 : Int))) <|
  bd (f10_greater σ0 ((gA σ0 208 x2) - (1 : Int)) (0 : Int)) fun σ44 r44 =>
  some (σ44, r44))
  else if x1 = 11 then (ck (0 ≤ x2 ∧ x2 < 60) <|
  ck (inR ((gA σ0 208 x2) - (2 : Int))) <|
  bd (f10_greater σ0 ((gA σ0 208 x2) - (2 : Int)) (0 : Int)) fun σ49 r49 =>
  some (σ49, r49))
  else (ck (0 ≤ x2 ∧ x2 < 60) <|
  ck (0 ≤ x3 ∧ x3 < 60) <|
  bd (f10_greater σ0 (gA σ0 208 x2) (gA σ0 208 x3)) fun σ53 r53 =>
  some (σ53, r53))
set_option maxRecDepth 100000 in
theorem t10_needs (l : Launch) {h : Nat → Nat} {cI cZ : ClassId} {D : va_G} {σ0 : Sg} {x1 : Int} {x2 : Int} {x3 : Int} {x4 : Int} (k0 : ok σ0) (hx1 : inR x1) (hx2 : inR x2) (hx3 : inR x3) (hx4 : inR x4) : ctI noE l (mW h cI cZ) D (mT cI cZ) yX10_needs wsX10_needs rm10_needs [.ref (h 299), .int (iI x1), .int (iI x2), .int (iI x3), .int (iI x4)] σ0 (f10_needs σ0 x1 x2 x3 x4) := by
  refine of_I noE_ok (own := RX10) (lv := [(0, .ref (h 299)), (1, .int (iI x1)), (2, .int (iI x2)), (3, .int (iI x3)), (4, .int (iI x4))]) (by decide) rfl rfl (Nat.le_of_ble_eq_true rfl) rfl (fun p e s m below meth c sz X hA => ?_)
  rw [f10_needs]
  refine jm_iload_n (n := 1) X 1 rfl dX10_needs_0 rfl ?_
  refine jm_tcase (tgt := 64) X (0) dX10_needs_1 hx1 (by decide) (by decide) rfl (by decide) (fun c1 => ?_) (fun c1 => ?_)
  · refine jm_iconst (n := 65) X dX10_needs_64 rfl ?_
    exact jm_iret X rfl k0 (by decide) dX10_needs_65
  refine jm_tcase (tgt := 64) X (1) dX10_needs_1 hx1 (by decide) (by decide) rfl (by decide) (fun c2 => ?_) (fun c2 => ?_)
  · refine jm_iconst (n := 65) X dX10_needs_64 rfl ?_
    exact jm_iret X rfl k0 (by decide) dX10_needs_65
  refine jm_tcase (tgt := 66) X (2) dX10_needs_1 hx1 (by decide) (by decide) rfl (by decide) (fun c3 => ?_) (fun c3 => ?_)
  · refine jm_iload_n (n := 67) X 2 rfl dX10_needs_66 rfl ?_
    refine jm_iconst (n := 68) X dX10_needs_67 rfl ?_
    refine jm_iadd (n := 69) X dX10_needs_68 rfl (fun h4 => ?_)
    exact jm_iret X rfl k0 h4 dX10_needs_69
  refine jm_tcase (tgt := 70) X (3) dX10_needs_1 hx1 (by decide) (by decide) rfl (by decide) (fun c5 => ?_) (fun c5 => ?_)
  · refine jm_aload_n (n := 71) X 0 rfl dX10_needs_70 rfl ?_
    refine jm_get (n := 74) X 0 9 8 mW_X10 rfl (by decide) (fun w h => List.mem_cons_of_mem _ (List.mem_append_right _ h)) (List.mem_of_getElem? (i := 1) rfl) rfl dX10_needs_71 rfl ?_
    refine jm_iload_n (n := 75) X 2 rfl dX10_needs_74 rfl ?_
    refine jm_ald (n := 76) X 7 0 208 mA_208 rfl rfl hx2 dX10_needs_75 rfl (fun h6 => ?_)
    refine jm_iconst (n := 77) X dX10_needs_76 rfl ?_
    refine jm_isub (n := 78) X dX10_needs_77 rfl (fun h7 => ?_)
    refine jm_iconst (n := 79) X dX10_needs_78 rfl ?_
    refine jm_callSi (n := 82) (vs := [.int (iI ((gA σ0 208 x2) - (1 : Int))), .int (iI (0 : Int))]) (rest := []) X hA (t10_greater l k0 h7 (by decide)) (va_cwS 2 X.2.2.2.2.1 gX10_needs_X10_greater rfl rfl rfl (by decide +kernel) ⟨Nat.le_of_ble_eq_true rfl, Nat.le_of_ble_eq_true rfl⟩) rfl (Nat.le_of_ble_eq_true rfl) dX10_needs_79 rfl (fun σ8 r8 k8 h9 => ?_)
    exact jm_iret X rfl k8 h9 dX10_needs_82
  refine jm_tcase (tgt := 147) X (4) dX10_needs_1 hx1 (by decide) (by decide) rfl (by decide) (fun c10 => ?_) (fun c10 => ?_)
  · refine jm_aload_n (n := 148) X 0 rfl dX10_needs_147 rfl ?_
    refine jm_get (n := 151) X 0 9 8 mW_X10 rfl (by decide) (fun w h => List.mem_cons_of_mem _ (List.mem_append_right _ h)) (List.mem_of_getElem? (i := 1) rfl) rfl dX10_needs_148 rfl ?_
    refine jm_iload_n (n := 152) X 2 rfl dX10_needs_151 rfl ?_
    refine jm_ald (n := 153) X 7 0 208 mA_208 rfl rfl hx2 dX10_needs_152 rfl (fun h11 => ?_)
    refine jm_aload_n (n := 154) X 0 rfl dX10_needs_153 rfl ?_
    refine jm_get (n := 157) X 0 9 8 mW_X10 rfl (by decide) (fun w h => List.mem_cons_of_mem _ (List.mem_append_right _ h)) (List.mem_of_getElem? (i := 1) rfl) rfl dX10_needs_154 rfl ?_
    refine jm_iload_n (n := 158) X 3 rfl dX10_needs_157 rfl ?_
    refine jm_ald (n := 159) X 7 0 208 mA_208 rfl rfl hx3 dX10_needs_158 rfl (fun h12 => ?_)
    refine jm_callSi (n := 162) (vs := [.int (iI (gA σ0 208 x2)), .int (iI (gA σ0 208 x3))]) (rest := []) X hA (t10_greater l k0 (k0.2 208 _) (k0.2 208 _)) (va_cwS 2 X.2.2.2.2.1 gX10_needs_X10_greater rfl rfl rfl (by decide +kernel) ⟨Nat.le_of_ble_eq_true rfl, Nat.le_of_ble_eq_true rfl⟩) rfl (Nat.le_of_ble_eq_true rfl) dX10_needs_159 rfl (fun σ13 r13 k13 h14 => ?_)
    exact jm_iret X rfl k13 h14 dX10_needs_162
  refine jm_tcase (tgt := 147) X (5) dX10_needs_1 hx1 (by decide) (by decide) rfl (by decide) (fun c15 => ?_) (fun c15 => ?_)
  · refine jm_aload_n (n := 148) X 0 rfl dX10_needs_147 rfl ?_
    refine jm_get (n := 151) X 0 9 8 mW_X10 rfl (by decide) (fun w h => List.mem_cons_of_mem _ (List.mem_append_right _ h)) (List.mem_of_getElem? (i := 1) rfl) rfl dX10_needs_148 rfl ?_
    refine jm_iload_n (n := 152) X 2 rfl dX10_needs_151 rfl ?_
    refine jm_ald (n := 153) X 7 0 208 mA_208 rfl rfl hx2 dX10_needs_152 rfl (fun h16 => ?_)
    refine jm_aload_n (n := 154) X 0 rfl dX10_needs_153 rfl ?_
    refine jm_get (n := 157) X 0 9 8 mW_X10 rfl (by decide) (fun w h => List.mem_cons_of_mem _ (List.mem_append_right _ h)) (List.mem_of_getElem? (i := 1) rfl) rfl dX10_needs_154 rfl ?_
    refine jm_iload_n (n := 158) X 3 rfl dX10_needs_157 rfl ?_
    refine jm_ald (n := 159) X 7 0 208 mA_208 rfl rfl hx3 dX10_needs_158 rfl (fun h17 => ?_)
    refine jm_callSi (n := 162) (vs := [.int (iI (gA σ0 208 x2)), .int (iI (gA σ0 208 x3))]) (rest := []) X hA (t10_greater l k0 (k0.2 208 _) (k0.2 208 _)) (va_cwS 2 X.2.2.2.2.1 gX10_needs_X10_greater rfl rfl rfl (by decide +kernel) ⟨Nat.le_of_ble_eq_true rfl, Nat.le_of_ble_eq_true rfl⟩) rfl (Nat.le_of_ble_eq_true rfl) dX10_needs_159 rfl (fun σ18 r18 k18 h19 => ?_)
    exact jm_iret X rfl k18 h19 dX10_needs_162
  refine jm_tcase (tgt := 147) X (6) dX10_needs_1 hx1 (by decide) (by decide) rfl (by decide) (fun c20 => ?_) (fun c20 => ?_)
  · refine jm_aload_n (n := 148) X 0 rfl dX10_needs_147 rfl ?_
    refine jm_get (n := 151) X 0 9 8 mW_X10 rfl (by decide) (fun w h => List.mem_cons_of_mem _ (List.mem_append_right _ h)) (List.mem_of_getElem? (i := 1) rfl) rfl dX10_needs_148 rfl ?_
    refine jm_iload_n (n := 152) X 2 rfl dX10_needs_151 rfl ?_
    refine jm_ald (n := 153) X 7 0 208 mA_208 rfl rfl hx2 dX10_needs_152 rfl (fun h21 => ?_)
    refine jm_aload_n (n := 154) X 0 rfl dX10_needs_153 rfl ?_
    refine jm_get (n := 157) X 0 9 8 mW_X10 rfl (by decide) (fun w h => List.mem_cons_of_mem _ (List.mem_append_right _ h)) (List.mem_of_getElem? (i := 1) rfl) rfl dX10_needs_154 rfl ?_
    refine jm_iload_n (n := 158) X 3 rfl dX10_needs_157 rfl ?_
    refine jm_ald (n := 159) X 7 0 208 mA_208 rfl rfl hx3 dX10_needs_158 rfl (fun h22 => ?_)
    refine jm_callSi (n := 162) (vs := [.int (iI (gA σ0 208 x2)), .int (iI (gA σ0 208 x3))]) (rest := []) X hA (t10_greater l k0 (k0.2 208 _) (k0.2 208 _)) (va_cwS 2 X.2.2.2.2.1 gX10_needs_X10_greater rfl rfl rfl (by decide +kernel) ⟨Nat.le_of_ble_eq_true rfl, Nat.le_of_ble_eq_true rfl⟩) rfl (Nat.le_of_ble_eq_true rfl) dX10_needs_159 rfl (fun σ23 r23 k23 h24 => ?_)
    exact jm_iret X rfl k23 h24 dX10_needs_162
  refine jm_tcase (tgt := 121) X (7) dX10_needs_1 hx1 (by decide) (by decide) rfl (by decide) (fun c25 => ?_) (fun c25 => ?_)
  · refine jm_aload_n (n := 122) X 0 rfl dX10_needs_121 rfl ?_
    refine jm_get (n := 125) X 0 9 8 mW_X10 rfl (by decide) (fun w h => List.mem_cons_of_mem _ (List.mem_append_right _ h)) (List.mem_of_getElem? (i := 1) rfl) rfl dX10_needs_122 rfl ?_
    refine jm_iload_n (n := 126) X 2 rfl dX10_needs_125 rfl ?_
    refine jm_ald (n := 127) X 7 0 208 mA_208 rfl rfl hx2 dX10_needs_126 rfl (fun h26 => ?_)
    refine jm_aload_n (n := 128) X 0 rfl dX10_needs_127 rfl ?_
    refine jm_get (n := 131) X 0 9 8 mW_X10 rfl (by decide) (fun w h => List.mem_cons_of_mem _ (List.mem_append_right _ h)) (List.mem_of_getElem? (i := 1) rfl) rfl dX10_needs_128 rfl ?_
    refine jm_iload_n (n := 132) X 3 rfl dX10_needs_131 rfl ?_
    refine jm_ald (n := 133) X 7 0 208 mA_208 rfl rfl hx3 dX10_needs_132 rfl (fun h27 => ?_)
    refine jm_aload_n (n := 134) X 0 rfl dX10_needs_133 rfl ?_
    refine jm_get (n := 137) X 0 9 8 mW_X10 rfl (by decide) (fun w h => List.mem_cons_of_mem _ (List.mem_append_right _ h)) (List.mem_of_getElem? (i := 1) rfl) rfl dX10_needs_134 rfl ?_
    refine jm_iload (n := 139) X 4 rfl dX10_needs_137 rfl ?_
    refine jm_ald (n := 140) X 7 0 208 mA_208 rfl rfl hx4 dX10_needs_139 rfl (fun h28 => ?_)
    refine jm_callSi (n := 143) (vs := [.int (iI (gA σ0 208 x3)), .int (iI (gA σ0 208 x4))]) (rest := [.int (iI (gA σ0 208 x2))]) X hA (t10_greater l k0 (k0.2 208 _) (k0.2 208 _)) (va_cwS 2 X.2.2.2.2.1 gX10_needs_X10_greater rfl rfl rfl (by decide +kernel) ⟨Nat.le_of_ble_eq_true rfl, Nat.le_of_ble_eq_true rfl⟩) rfl (Nat.le_of_ble_eq_true rfl) dX10_needs_140 rfl (fun σ29 r29 k29 h30 => ?_)
    refine jm_callSi (n := 146) (vs := [.int (iI (gA σ0 208 x2)), .int (iI r29)]) (rest := []) X hA (t10_greater l k29 (k0.2 208 _) h30) (va_cwS 2 X.2.2.2.2.1 gX10_needs_X10_greater rfl rfl rfl (by decide +kernel) ⟨Nat.le_of_ble_eq_true rfl, Nat.le_of_ble_eq_true rfl⟩) rfl (Nat.le_of_ble_eq_true rfl) dX10_needs_143 rfl (fun σ31 r31 k31 h32 => ?_)
    exact jm_iret X rfl k31 h32 dX10_needs_146
  refine jm_tcase (tgt := 103) X (8) dX10_needs_1 hx1 (by decide) (by decide) rfl (by decide) (fun c33 => ?_) (fun c33 => ?_)
  · refine jm_aload_n (n := 104) X 0 rfl dX10_needs_103 rfl ?_
    refine jm_get (n := 107) X 0 9 8 mW_X10 rfl (by decide) (fun w h => List.mem_cons_of_mem _ (List.mem_append_right _ h)) (List.mem_of_getElem? (i := 1) rfl) rfl dX10_needs_104 rfl ?_
    refine jm_iload_n (n := 108) X 2 rfl dX10_needs_107 rfl ?_
    refine jm_ald (n := 109) X 7 0 208 mA_208 rfl rfl hx2 dX10_needs_108 rfl (fun h34 => ?_)
    refine jm_aload_n (n := 110) X 0 rfl dX10_needs_109 rfl ?_
    refine jm_get (n := 113) X 0 9 8 mW_X10 rfl (by decide) (fun w h => List.mem_cons_of_mem _ (List.mem_append_right _ h)) (List.mem_of_getElem? (i := 1) rfl) rfl dX10_needs_110 rfl ?_
    refine jm_iload_n (n := 114) X 3 rfl dX10_needs_113 rfl ?_
    refine jm_ald (n := 115) X 7 0 208 mA_208 rfl rfl hx3 dX10_needs_114 rfl (fun h35 => ?_)
    refine jm_iconst (n := 116) X dX10_needs_115 rfl ?_
    refine jm_isub (n := 117) X dX10_needs_116 rfl (fun h36 => ?_)
    refine jm_callSi (n := 120) (vs := [.int (iI (gA σ0 208 x2)), .int (iI ((gA σ0 208 x3) - (1 : Int)))]) (rest := []) X hA (t10_greater l k0 (k0.2 208 _) h36) (va_cwS 2 X.2.2.2.2.1 gX10_needs_X10_greater rfl rfl rfl (by decide +kernel) ⟨Nat.le_of_ble_eq_true rfl, Nat.le_of_ble_eq_true rfl⟩) rfl (Nat.le_of_ble_eq_true rfl) dX10_needs_117 rfl (fun σ37 r37 k37 h38 => ?_)
    exact jm_iret X rfl k37 h38 dX10_needs_120
  refine jm_tcase (tgt := 96) X (9) dX10_needs_1 hx1 (by decide) (by decide) rfl (by decide) (fun c39 => ?_) (fun c39 => ?_)
  · refine jm_aload_n (n := 97) X 0 rfl dX10_needs_96 rfl ?_
    refine jm_get (n := 100) X 0 9 8 mW_X10 rfl (by decide) (fun w h => List.mem_cons_of_mem _ (List.mem_append_right _ h)) (List.mem_of_getElem? (i := 1) rfl) rfl dX10_needs_97 rfl ?_
    refine jm_iload_n (n := 101) X 2 rfl dX10_needs_100 rfl ?_
    refine jm_ald (n := 102) X 7 0 208 mA_208 rfl rfl hx2 dX10_needs_101 rfl (fun h40 => ?_)
    exact jm_iret X rfl k0 (k0.2 208 _) dX10_needs_102
  refine jm_tcase (tgt := 70) X (10) dX10_needs_1 hx1 (by decide) (by decide) rfl (by decide) (fun c41 => ?_) (fun c41 => ?_)
  · refine jm_aload_n (n := 71) X 0 rfl dX10_needs_70 rfl ?_
    refine jm_get (n := 74) X 0 9 8 mW_X10 rfl (by decide) (fun w h => List.mem_cons_of_mem _ (List.mem_append_right _ h)) (List.mem_of_getElem? (i := 1) rfl) rfl dX10_needs_71 rfl ?_
    refine jm_iload_n (n := 75) X 2 rfl dX10_needs_74 rfl ?_
    refine jm_ald (n := 76) X 7 0 208 mA_208 rfl rfl hx2 dX10_needs_75 rfl (fun h42 => ?_)
    refine jm_iconst (n := 77) X dX10_needs_76 rfl ?_
    refine jm_isub (n := 78) X dX10_needs_77 rfl (fun h43 => ?_)
    refine jm_iconst (n := 79) X dX10_needs_78 rfl ?_
    refine jm_callSi (n := 82) (vs := [.int (iI ((gA σ0 208 x2) - (1 : Int))), .int (iI (0 : Int))]) (rest := []) X hA (t10_greater l k0 h43 (by decide)) (va_cwS 2 X.2.2.2.2.1 gX10_needs_X10_greater rfl rfl rfl (by decide +kernel) ⟨Nat.le_of_ble_eq_true rfl, Nat.le_of_ble_eq_true rfl⟩) rfl (Nat.le_of_ble_eq_true rfl) dX10_needs_79 rfl (fun σ44 r44 k44 h45 => ?_)
    exact jm_iret X rfl k44 h45 dX10_needs_82
  refine jm_tcase (tgt := 83) X (11) dX10_needs_1 hx1 (by decide) (by decide) rfl (by decide) (fun c46 => ?_) (fun c46 => ?_)
  · refine jm_aload_n (n := 84) X 0 rfl dX10_needs_83 rfl ?_
    refine jm_get (n := 87) X 0 9 8 mW_X10 rfl (by decide) (fun w h => List.mem_cons_of_mem _ (List.mem_append_right _ h)) (List.mem_of_getElem? (i := 1) rfl) rfl dX10_needs_84 rfl ?_
    refine jm_iload_n (n := 88) X 2 rfl dX10_needs_87 rfl ?_
    refine jm_ald (n := 89) X 7 0 208 mA_208 rfl rfl hx2 dX10_needs_88 rfl (fun h47 => ?_)
    refine jm_iconst (n := 90) X dX10_needs_89 rfl ?_
    refine jm_isub (n := 91) X dX10_needs_90 rfl (fun h48 => ?_)
    refine jm_iconst (n := 92) X dX10_needs_91 rfl ?_
    refine jm_callSi (n := 95) (vs := [.int (iI ((gA σ0 208 x2) - (2 : Int))), .int (iI (0 : Int))]) (rest := []) X hA (t10_greater l k0 h48 (by decide)) (va_cwS 2 X.2.2.2.2.1 gX10_needs_X10_greater rfl rfl rfl (by decide +kernel) ⟨Nat.le_of_ble_eq_true rfl, Nat.le_of_ble_eq_true rfl⟩) rfl (Nat.le_of_ble_eq_true rfl) dX10_needs_92 rfl (fun σ49 r49 k49 h50 => ?_)
    exact jm_iret X rfl k49 h50 dX10_needs_95
  refine jm_tout (tgt := 147) X dX10_needs_1 hx1 (by decide) (by omega) ?_
  refine jm_aload_n (n := 148) X 0 rfl dX10_needs_147 rfl ?_
  refine jm_get (n := 151) X 0 9 8 mW_X10 rfl (by decide) (fun w h => List.mem_cons_of_mem _ (List.mem_append_right _ h)) (List.mem_of_getElem? (i := 1) rfl) rfl dX10_needs_148 rfl ?_
  refine jm_iload_n (n := 152) X 2 rfl dX10_needs_151 rfl ?_
  refine jm_ald (n := 153) X 7 0 208 mA_208 rfl rfl hx2 dX10_needs_152 rfl (fun h51 => ?_)
  refine jm_aload_n (n := 154) X 0 rfl dX10_needs_153 rfl ?_
  refine jm_get (n := 157) X 0 9 8 mW_X10 rfl (by decide) (fun w h => List.mem_cons_of_mem _ (List.mem_append_right _ h)) (List.mem_of_getElem? (i := 1) rfl) rfl dX10_needs_154 rfl ?_
  refine jm_iload_n (n := 158) X 3 rfl dX10_needs_157 rfl ?_
  refine jm_ald (n := 159) X 7 0 208 mA_208 rfl rfl hx3 dX10_needs_158 rfl (fun h52 => ?_)
  refine jm_callSi (n := 162) (vs := [.int (iI (gA σ0 208 x2)), .int (iI (gA σ0 208 x3))]) (rest := []) X hA (t10_greater l k0 (k0.2 208 _) (k0.2 208 _)) (va_cwS 2 X.2.2.2.2.1 gX10_needs_X10_greater rfl rfl rfl (by decide +kernel) ⟨Nat.le_of_ble_eq_true rfl, Nat.le_of_ble_eq_true rfl⟩) rfl (Nat.le_of_ble_eq_true rfl) dX10_needs_159 rfl (fun σ53 r53 k53 h54 => ?_)
  exact jm_iret X rfl k53 h54 dX10_needs_162
abbrev rm10_make : Room := { frames := 3, cells := 0, slots := 0, locals := 67 }
def b10_make_27 (σ0 : Sg)  : Option (Sg × Int) :=
  bd (f10_fail σ0 (1 : Int)) fun σ1 r1 =>
  some (σ1, r1)
set_option maxRecDepth 100000 in
theorem u10_make_27 (X : CX p m meth c cX10_make 7 (some .int) s args wsX10_make RX10 D (mT cI cZ) noE (va_A (mW h cI cZ σz) sz)) (hA : ∀ z : Nat, s.heap.size ≤ z → va_A (mW h cI cZ σz) sz z) (σ0 : Sg)  (k0 : ok σ0)  : JI l rm10_make (mW h cI cZ) D (mT cI cZ) σz sz 7 p e s m args below meth c σ0 27 [(0, .ref (h 299))] [] (b10_make_27 σ0 ) := by
  rw [b10_make_27]
  refine jm_aload_n (n := 28) X 0 rfl dX10_make_27 rfl ?_
  refine jm_iconst (n := 29) X dX10_make_28 rfl ?_
  refine jm_callVi (n := 32) (vs := [.int (iI (1 : Int))]) (rest := []) X hA (t10_fail l k0 (by decide)) (cwV 1 X.2.2.2.2.1 gX10_make_X10_fail rfl rfl rfl (by decide +kernel) ⟨Nat.le_of_ble_eq_true rfl, Nat.le_of_ble_eq_true rfl⟩) 0 9 mW_X10 rfl rfl (Nat.le_of_ble_eq_true rfl) dX10_make_29 rfl (fun σ1 r1 k1 h2 => ?_)
  exact jm_iret X rfl k1 h2 dX10_make_32
def b10_make_157 (σ0 : Sg)  : Option (Sg × Int) :=
  bd (f10_fail σ0 (2 : Int)) fun σ1 r1 =>
  some (σ1, r1)
set_option maxRecDepth 100000 in
theorem u10_make_157 (X : CX p m meth c cX10_make 7 (some .int) s args wsX10_make RX10 D (mT cI cZ) noE (va_A (mW h cI cZ σz) sz)) (hA : ∀ z : Nat, s.heap.size ≤ z → va_A (mW h cI cZ σz) sz z) (σ0 : Sg)  (k0 : ok σ0)  : JI l rm10_make (mW h cI cZ) D (mT cI cZ) σz sz 7 p e s m args below meth c σ0 157 [(0, .ref (h 299))] [] (b10_make_157 σ0 ) := by
  rw [b10_make_157]
  refine jm_aload_n (n := 158) X 0 rfl dX10_make_157 rfl ?_
  refine jm_iconst (n := 159) X dX10_make_158 rfl ?_
  refine jm_callVi (n := 162) (vs := [.int (iI (2 : Int))]) (rest := []) X hA (t10_fail l k0 (by decide)) (cwV 1 X.2.2.2.2.1 gX10_make_X10_fail rfl rfl rfl (by decide +kernel) ⟨Nat.le_of_ble_eq_true rfl, Nat.le_of_ble_eq_true rfl⟩) 0 9 mW_X10 rfl rfl (Nat.le_of_ble_eq_true rfl) dX10_make_159 rfl (fun σ1 r1 k1 h2 => ?_)
  exact jm_iret X rfl k1 h2 dX10_make_162
def b10_make_134 (σ0 : Sg) (x1 : Int) (x2 : Int) (x3 : Int) (x4 : Int) (x5 : Int) (x6 : Int) : Option (Sg × Int) :=
  if (gI σ0 201) = (60 : Int) then ((b10_make_157 σ0 ))
  else (if (9 : Int) < x5 then ((b10_make_157 σ0 ))
  else (if x6 ≤ (120 : Int) then (ck (0 ≤ (gI σ0 201) ∧ (gI σ0 201) < 60) <| nx (sA σ0 202 (gI σ0 201) x1) fun σ5 =>
  ck (0 ≤ (gI σ5 201) ∧ (gI σ5 201) < 60) <| nx (sA σ5 203 (gI σ5 201) x2) fun σ7 =>
  ck (0 ≤ (gI σ7 201) ∧ (gI σ7 201) < 60) <| nx (sA σ7 204 (gI σ7 201) x3) fun σ9 =>
  ck (0 ≤ (gI σ9 201) ∧ (gI σ9 201) < 60) <| nx (sA σ9 205 (gI σ9 201) x4) fun σ11 =>
  ck (0 ≤ (gI σ11 201) ∧ (gI σ11 201) < 60) <| nx (sA σ11 206 (gI σ11 201) x5) fun σ13 =>
  ck (0 ≤ (gI σ13 201) ∧ (gI σ13 201) < 60) <| nx (sA σ13 207 (gI σ13 201) x6) fun σ15 =>
  bd (f10_needs σ15 x1 x2 x3 x4) fun σ16 r16 =>
  ck (0 ≤ (gI σ15 201) ∧ (gI σ15 201) < 60) <| nx (sA σ16 208 (gI σ15 201) r16) fun σ19 =>
  ck (inR ((gI σ19 201) + (1 : Int))) <|
  nx (sI σ19 201 ((gI σ19 201) + (1 : Int))) fun σ21 =>
  ck (inR ((gI σ21 201) - (1 : Int))) <|
  some (σ21, ((gI σ21 201) - (1 : Int))))
  else ((b10_make_157 σ0 ))))
set_option maxRecDepth 100000 in
theorem u10_make_134 (X : CX p m meth c cX10_make 7 (some .int) s args wsX10_make RX10 D (mT cI cZ) noE (va_A (mW h cI cZ σz) sz)) (hA : ∀ z : Nat, s.heap.size ≤ z → va_A (mW h cI cZ σz) sz z) (σ0 : Sg) (x1 : Int) (x2 : Int) (x3 : Int) (x4 : Int) (x5 : Int) (x6 : Int) (k0 : ok σ0) (hx1 : inR x1) (hx2 : inR x2) (hx3 : inR x3) (hx4 : inR x4) (hx5 : inR x5) (hx6 : inR x6) : JI l rm10_make (mW h cI cZ) D (mT cI cZ) σz sz 7 p e s m args below meth c σ0 134 [(0, .ref (h 299)), (1, .int (iI x1)), (2, .int (iI x2)), (3, .int (iI x3)), (4, .int (iI x4)), (5, .int (iI x5)), (6, .int (iI x6))] [] (b10_make_134 σ0 x1 x2 x3 x4 x5 x6) := by
  rw [b10_make_134]
  refine jm_aload_n (n := 135) X 0 rfl dX10_make_134 rfl ?_
  refine jm_get (n := 138) X 0 9 1 mW_X10 rfl (by decide) (fun w h => List.mem_cons_of_mem _ (List.mem_append_right _ h)) (List.mem_of_getElem? (i := 4) rfl) rfl dX10_make_135 rfl ?_
  refine jm_bipush (n := 140) X dX10_make_138 (by decide) rfl ?_
  refine jm_icmp_eq (n := 143) (tgt := 157) X dX10_make_140 (by decide) (k0.1 201) (by decide) rfl (fun c1 => ?_) (fun c1 => ?_)
  · refine jm_perm [0] rfl ?_
    exact u10_make_157 X hA σ0  k0 
  · refine jm_iload (n := 145) X 5 rfl dX10_make_143 rfl ?_
    refine jm_bipush (n := 147) X dX10_make_145 (by decide) rfl ?_
    refine jm_icmp_gt (n := 150) (tgt := 157) X dX10_make_147 (by decide) hx5 (by decide) rfl (fun c2 => ?_) (fun c2 => ?_)
    · refine jm_perm [0] rfl ?_
      exact u10_make_157 X hA σ0  k0 
    · refine jm_iload (n := 152) X 6 rfl dX10_make_150 rfl ?_
      refine jm_bipush (n := 154) X dX10_make_152 (by decide) rfl ?_
      refine jm_icmp_le (n := 157) (tgt := 163) X dX10_make_154 (by decide) hx6 (by decide) rfl (fun c3 => ?_) (fun c3 => ?_)
      · refine jm_aload_n (n := 164) X 0 rfl dX10_make_163 rfl ?_
        refine jm_get (n := 167) X 0 9 2 mW_X10 rfl (by decide) (fun w h => List.mem_cons_of_mem _ (List.mem_append_right _ h)) (List.mem_of_getElem? (i := 5) rfl) rfl dX10_make_164 rfl ?_
        refine jm_aload_n (n := 168) X 0 rfl dX10_make_167 rfl ?_
        refine jm_get (n := 171) X 0 9 1 mW_X10 rfl (by decide) (fun w h => List.mem_cons_of_mem _ (List.mem_append_right _ h)) (List.mem_of_getElem? (i := 4) rfl) rfl dX10_make_168 rfl ?_
        refine jm_iload_n (n := 172) X 1 rfl dX10_make_171 rfl ?_
        refine jm_ast (n := 173) X 1 0 202 mA_202 rfl rfl mT_202 k0 (k0.1 201) hx1 dX10_make_172 rfl (fun h4 σ5 k5 => ?_)
        refine jm_aload_n (n := 174) X 0 rfl dX10_make_173 rfl ?_
        refine jm_get (n := 177) X 0 9 3 mW_X10 rfl (by decide) (fun w h => List.mem_cons_of_mem _ (List.mem_append_right _ h)) (List.mem_of_getElem? (i := 6) rfl) rfl dX10_make_174 rfl ?_
        refine jm_aload_n (n := 178) X 0 rfl dX10_make_177 rfl ?_
        refine jm_get (n := 181) X 0 9 1 mW_X10 rfl (by decide) (fun w h => List.mem_cons_of_mem _ (List.mem_append_right _ h)) (List.mem_of_getElem? (i := 4) rfl) rfl dX10_make_178 rfl ?_
        refine jm_iload_n (n := 182) X 2 rfl dX10_make_181 rfl ?_
        refine jm_ast (n := 183) X 2 0 203 mA_203 rfl rfl mT_203 k5 (k5.1 201) hx2 dX10_make_182 rfl (fun h6 σ7 k7 => ?_)
        refine jm_aload_n (n := 184) X 0 rfl dX10_make_183 rfl ?_
        refine jm_get (n := 187) X 0 9 4 mW_X10 rfl (by decide) (fun w h => List.mem_cons_of_mem _ (List.mem_append_right _ h)) (List.mem_of_getElem? (i := 7) rfl) rfl dX10_make_184 rfl ?_
        refine jm_aload_n (n := 188) X 0 rfl dX10_make_187 rfl ?_
        refine jm_get (n := 191) X 0 9 1 mW_X10 rfl (by decide) (fun w h => List.mem_cons_of_mem _ (List.mem_append_right _ h)) (List.mem_of_getElem? (i := 4) rfl) rfl dX10_make_188 rfl ?_
        refine jm_iload_n (n := 192) X 3 rfl dX10_make_191 rfl ?_
        refine jm_ast (n := 193) X 3 0 204 mA_204 rfl rfl mT_204 k7 (k7.1 201) hx3 dX10_make_192 rfl (fun h8 σ9 k9 => ?_)
        refine jm_aload_n (n := 194) X 0 rfl dX10_make_193 rfl ?_
        refine jm_get (n := 197) X 0 9 5 mW_X10 rfl (by decide) (fun w h => List.mem_cons_of_mem _ (List.mem_append_right _ h)) (List.mem_of_getElem? (i := 8) rfl) rfl dX10_make_194 rfl ?_
        refine jm_aload_n (n := 198) X 0 rfl dX10_make_197 rfl ?_
        refine jm_get (n := 201) X 0 9 1 mW_X10 rfl (by decide) (fun w h => List.mem_cons_of_mem _ (List.mem_append_right _ h)) (List.mem_of_getElem? (i := 4) rfl) rfl dX10_make_198 rfl ?_
        refine jm_iload (n := 203) X 4 rfl dX10_make_201 rfl ?_
        refine jm_ast (n := 204) X 4 0 205 mA_205 rfl rfl mT_205 k9 (k9.1 201) hx4 dX10_make_203 rfl (fun h10 σ11 k11 => ?_)
        refine jm_aload_n (n := 205) X 0 rfl dX10_make_204 rfl ?_
        refine jm_get (n := 208) X 0 9 6 mW_X10 rfl (by decide) (fun w h => List.mem_cons_of_mem _ (List.mem_append_right _ h)) (List.mem_of_getElem? (i := 2) rfl) rfl dX10_make_205 rfl ?_
        refine jm_aload_n (n := 209) X 0 rfl dX10_make_208 rfl ?_
        refine jm_get (n := 212) X 0 9 1 mW_X10 rfl (by decide) (fun w h => List.mem_cons_of_mem _ (List.mem_append_right _ h)) (List.mem_of_getElem? (i := 4) rfl) rfl dX10_make_209 rfl ?_
        refine jm_iload (n := 214) X 5 rfl dX10_make_212 rfl ?_
        refine jm_ast (n := 215) X 5 0 206 mA_206 rfl rfl mT_206 k11 (k11.1 201) hx5 dX10_make_214 rfl (fun h12 σ13 k13 => ?_)
        refine jm_aload_n (n := 216) X 0 rfl dX10_make_215 rfl ?_
        refine jm_get (n := 219) X 0 9 7 mW_X10 rfl (by decide) (fun w h => List.mem_cons_of_mem _ (List.mem_append_right _ h)) (List.mem_of_getElem? (i := 3) rfl) rfl dX10_make_216 rfl ?_
        refine jm_aload_n (n := 220) X 0 rfl dX10_make_219 rfl ?_
        refine jm_get (n := 223) X 0 9 1 mW_X10 rfl (by decide) (fun w h => List.mem_cons_of_mem _ (List.mem_append_right _ h)) (List.mem_of_getElem? (i := 4) rfl) rfl dX10_make_220 rfl ?_
        refine jm_iload (n := 225) X 6 rfl dX10_make_223 rfl ?_
        refine jm_ast (n := 226) X 6 0 207 mA_207 rfl rfl mT_207 k13 (k13.1 201) hx6 dX10_make_225 rfl (fun h14 σ15 k15 => ?_)
        refine jm_aload_n (n := 227) X 0 rfl dX10_make_226 rfl ?_
        refine jm_get (n := 230) X 0 9 8 mW_X10 rfl (by decide) (fun w h => List.mem_cons_of_mem _ (List.mem_append_right _ h)) (List.mem_of_getElem? (i := 9) rfl) rfl dX10_make_227 rfl ?_
        refine jm_aload_n (n := 231) X 0 rfl dX10_make_230 rfl ?_
        refine jm_get (n := 234) X 0 9 1 mW_X10 rfl (by decide) (fun w h => List.mem_cons_of_mem _ (List.mem_append_right _ h)) (List.mem_of_getElem? (i := 4) rfl) rfl dX10_make_231 rfl ?_
        refine jm_aload_n (n := 235) X 0 rfl dX10_make_234 rfl ?_
        refine jm_iload_n (n := 236) X 1 rfl dX10_make_235 rfl ?_
        refine jm_iload_n (n := 237) X 2 rfl dX10_make_236 rfl ?_
        refine jm_iload_n (n := 238) X 3 rfl dX10_make_237 rfl ?_
        refine jm_iload (n := 240) X 4 rfl dX10_make_238 rfl ?_
        refine jm_callVi (n := 243) (vs := [.int (iI x1), .int (iI x2), .int (iI x3), .int (iI x4)]) (rest := [.int (iI (gI σ15 201)), .ref (h 208)]) X hA (t10_needs l k15 hx1 hx2 hx3 hx4) (cwV 4 X.2.2.2.2.1 gX10_make_X10_needs rfl rfl rfl (by decide +kernel) ⟨Nat.le_of_ble_eq_true rfl, Nat.le_of_ble_eq_true rfl⟩) 0 9 mW_X10 rfl rfl (Nat.le_of_ble_eq_true rfl) dX10_make_240 rfl (fun σ16 r16 k16 h17 => ?_)
        refine jm_ast (n := 244) X 7 0 208 mA_208 rfl rfl mT_208 k16 (k15.1 201) h17 dX10_make_243 rfl (fun h18 σ19 k19 => ?_)
        refine jm_aload_n (n := 245) X 0 rfl dX10_make_244 rfl ?_
        refine jm_dup (n := 246) X dX10_make_245 rfl rfl ?_
        refine jm_get (n := 249) X 0 9 1 mW_X10 rfl (by decide) (fun w h => List.mem_cons_of_mem _ (List.mem_append_right _ h)) (List.mem_of_getElem? (i := 4) rfl) rfl dX10_make_246 rfl ?_
        refine jm_iconst (n := 250) X dX10_make_249 rfl ?_
        refine jm_iadd (n := 251) X dX10_make_250 rfl (fun h20 => ?_)
        refine jm_put (n := 254) X 0 9 1 201 mW_X10 rfl (by decide) (fun w h => List.mem_cons_of_mem _ (List.mem_append_right _ h)) tyX10 tyX10_ok nmX10 (List.mem_of_getElem? (i := 4) rfl) rfl rfl rfl rfl (Nat.le_of_ble_eq_true rfl) mS_201 k19 h20 dX10_make_251 rfl (fun σ21 k21 => ?_)
        refine jm_aload_n (n := 255) X 0 rfl dX10_make_254 rfl ?_
        refine jm_get (n := 258) X 0 9 1 mW_X10 rfl (by decide) (fun w h => List.mem_cons_of_mem _ (List.mem_append_right _ h)) (List.mem_of_getElem? (i := 4) rfl) rfl dX10_make_255 rfl ?_
        refine jm_iconst (n := 259) X dX10_make_258 rfl ?_
        refine jm_isub (n := 260) X dX10_make_259 rfl (fun h22 => ?_)
        exact jm_iret X rfl k21 h22 dX10_make_260
      · refine jm_perm [0] rfl ?_
        exact u10_make_157 X hA σ0  k0 
def b10_make_100 (σ0 : Sg) (x1 : Int) (x2 : Int) (x3 : Int) (x4 : Int) (x5 : Int) (x6 : Int) : Option (Sg × Int) :=
  if x1 = (7 : Int) then (ck (0 ≤ x4 ∧ x4 < 60) <|
  ck (inR ((gA σ0 206 x4) + (1 : Int))) <|
  bd (f10_greater σ0 x5 ((gA σ0 206 x4) + (1 : Int))) fun σ4 r4 =>
  ck (0 ≤ x4 ∧ x4 < 60) <|
  ck (inR (x6 + (gA σ4 207 x4))) <|
  (b10_make_134 σ4 x1 x2 x3 x4 r4 (x6 + (gA σ4 207 x4))))
  else ((b10_make_134 σ0 x1 x2 x3 x4 x5 x6))
set_option maxRecDepth 100000 in
theorem u10_make_100 (X : CX p m meth c cX10_make 7 (some .int) s args wsX10_make RX10 D (mT cI cZ) noE (va_A (mW h cI cZ σz) sz)) (hA : ∀ z : Nat, s.heap.size ≤ z → va_A (mW h cI cZ σz) sz z) (σ0 : Sg) (x1 : Int) (x2 : Int) (x3 : Int) (x4 : Int) (x5 : Int) (x6 : Int) (k0 : ok σ0) (hx1 : inR x1) (hx2 : inR x2) (hx3 : inR x3) (hx4 : inR x4) (hx5 : inR x5) (hx6 : inR x6) : JI l rm10_make (mW h cI cZ) D (mT cI cZ) σz sz 7 p e s m args below meth c σ0 100 [(0, .ref (h 299)), (1, .int (iI x1)), (2, .int (iI x2)), (3, .int (iI x3)), (4, .int (iI x4)), (5, .int (iI x5)), (6, .int (iI x6))] [] (b10_make_100 σ0 x1 x2 x3 x4 x5 x6) := by
  rw [b10_make_100]
  refine jm_iload_n (n := 101) X 1 rfl dX10_make_100 rfl ?_
  refine jm_bipush (n := 103) X dX10_make_101 (by decide) rfl ?_
  refine jm_icmp_ne (n := 106) (tgt := 134) X dX10_make_103 (by decide) hx1 (by decide) rfl (fun c1 => ?_) (fun c1 => ?_)
  · refine jm_iload (n := 108) X 5 rfl dX10_make_106 rfl ?_
    refine jm_aload_n (n := 109) X 0 rfl dX10_make_108 rfl ?_
    refine jm_get (n := 112) X 0 9 6 mW_X10 rfl (by decide) (fun w h => List.mem_cons_of_mem _ (List.mem_append_right _ h)) (List.mem_of_getElem? (i := 2) rfl) rfl dX10_make_109 rfl ?_
    refine jm_iload (n := 114) X 4 rfl dX10_make_112 rfl ?_
    refine jm_ald (n := 115) X 5 0 206 mA_206 rfl rfl hx4 dX10_make_114 rfl (fun h2 => ?_)
    refine jm_iconst (n := 116) X dX10_make_115 rfl ?_
    refine jm_iadd (n := 117) X dX10_make_116 rfl (fun h3 => ?_)
    refine jm_callSi (n := 120) (vs := [.int (iI x5), .int (iI ((gA σ0 206 x4) + (1 : Int)))]) (rest := []) X hA (t10_greater l k0 hx5 h3) (va_cwS 2 X.2.2.2.2.1 gX10_make_X10_greater rfl rfl rfl (by decide +kernel) ⟨Nat.le_of_ble_eq_true rfl, Nat.le_of_ble_eq_true rfl⟩) rfl (Nat.le_of_ble_eq_true rfl) dX10_make_117 rfl (fun σ4 r4 k4 h5 => ?_)
    refine jm_istore (n := 122) (lv' := [(5, .int (iI r4)), (0, .ref (h 299)), (1, .int (iI x1)), (2, .int (iI x2)), (3, .int (iI x3)), (4, .int (iI x4)), (6, .int (iI x6))]) X dX10_make_120 (by decide) rfl rfl ?_
    refine jm_iload (n := 124) X 6 rfl dX10_make_122 rfl ?_
    refine jm_aload_n (n := 125) X 1 rfl dX10_make_124 rfl ?_
    refine jm_get (n := 128) X 0 9 7 mW_X10 rfl (by decide) (fun w h => List.mem_cons_of_mem _ (List.mem_append_right _ h)) (List.mem_of_getElem? (i := 3) rfl) rfl dX10_make_125 rfl ?_
    refine jm_iload (n := 130) X 5 rfl dX10_make_128 rfl ?_
    refine jm_ald (n := 131) X 6 0 207 mA_207 rfl rfl hx4 dX10_make_130 rfl (fun h6 => ?_)
    refine jm_iadd (n := 132) X dX10_make_131 rfl (fun h7 => ?_)
    refine jm_istore (n := 134) (lv' := [(6, .int (iI (x6 + (gA σ4 207 x4)))), (5, .int (iI r4)), (0, .ref (h 299)), (1, .int (iI x1)), (2, .int (iI x2)), (3, .int (iI x3)), (4, .int (iI x4))]) X dX10_make_132 (by decide) rfl rfl ?_
    refine jm_perm [2, 3, 4, 5, 6, 1, 0] rfl ?_
    exact u10_make_134 X hA σ4 x1 x2 x3 x4 r4 (x6 + (gA σ4 207 x4)) k4 hx1 hx2 hx3 hx4 h5 h7
  · refine jm_perm [0, 1, 2, 3, 4, 5, 6] rfl ?_
    exact u10_make_134 X hA σ0 x1 x2 x3 x4 x5 x6 k0 hx1 hx2 hx3 hx4 hx5 hx6
def b10_make_67 (σ0 : Sg) (x1 : Int) (x2 : Int) (x3 : Int) (x4 : Int) (x5 : Int) (x6 : Int) : Option (Sg × Int) :=
  bd (f10_hasB σ0 x1) fun σ1 r1 =>
  if r1 = 0 then ((b10_make_100 σ1 x1 x2 x3 x4 x5 x6))
  else (ck (0 ≤ x3 ∧ x3 < 60) <|
  ck (inR ((gA σ1 206 x3) + (1 : Int))) <|
  bd (f10_greater σ1 x5 ((gA σ1 206 x3) + (1 : Int))) fun σ6 r6 =>
  ck (0 ≤ x3 ∧ x3 < 60) <|
  ck (inR (x6 + (gA σ6 207 x3))) <|
  (b10_make_100 σ6 x1 x2 x3 x4 r6 (x6 + (gA σ6 207 x3))))
set_option maxRecDepth 100000 in
theorem u10_make_67 (X : CX p m meth c cX10_make 7 (some .int) s args wsX10_make RX10 D (mT cI cZ) noE (va_A (mW h cI cZ σz) sz)) (hA : ∀ z : Nat, s.heap.size ≤ z → va_A (mW h cI cZ σz) sz z) (σ0 : Sg) (x1 : Int) (x2 : Int) (x3 : Int) (x4 : Int) (x5 : Int) (x6 : Int) (k0 : ok σ0) (hx1 : inR x1) (hx2 : inR x2) (hx3 : inR x3) (hx4 : inR x4) (hx5 : inR x5) (hx6 : inR x6) : JI l rm10_make (mW h cI cZ) D (mT cI cZ) σz sz 7 p e s m args below meth c σ0 67 [(0, .ref (h 299)), (1, .int (iI x1)), (2, .int (iI x2)), (3, .int (iI x3)), (4, .int (iI x4)), (5, .int (iI x5)), (6, .int (iI x6))] [] (b10_make_67 σ0 x1 x2 x3 x4 x5 x6) := by
  rw [b10_make_67]
  refine jm_iload_n (n := 68) X 1 rfl dX10_make_67 rfl ?_
  refine jm_callSi (n := 71) (vs := [.int (iI x1)]) (rest := []) X hA (t10_hasB l k0 hx1) (va_cwS 1 X.2.2.2.2.1 gX10_make_X10_hasB rfl rfl rfl (by decide +kernel) ⟨Nat.le_of_ble_eq_true rfl, Nat.le_of_ble_eq_true rfl⟩) rfl (Nat.le_of_ble_eq_true rfl) dX10_make_68 rfl (fun σ1 r1 k1 h2 => ?_)
  refine jm_if_eq (n := 74) (tgt := 100) X dX10_make_71 (by decide) h2 rfl (fun c3 => ?_) (fun c3 => ?_)
  · refine jm_perm [0, 1, 2, 3, 4, 5, 6] rfl ?_
    exact u10_make_100 X hA σ1 x1 x2 x3 x4 x5 x6 k1 hx1 hx2 hx3 hx4 hx5 hx6
  · refine jm_iload (n := 76) X 5 rfl dX10_make_74 rfl ?_
    refine jm_aload_n (n := 77) X 0 rfl dX10_make_76 rfl ?_
    refine jm_get (n := 80) X 0 9 6 mW_X10 rfl (by decide) (fun w h => List.mem_cons_of_mem _ (List.mem_append_right _ h)) (List.mem_of_getElem? (i := 2) rfl) rfl dX10_make_77 rfl ?_
    refine jm_iload_n (n := 81) X 3 rfl dX10_make_80 rfl ?_
    refine jm_ald (n := 82) X 5 0 206 mA_206 rfl rfl hx3 dX10_make_81 rfl (fun h4 => ?_)
    refine jm_iconst (n := 83) X dX10_make_82 rfl ?_
    refine jm_iadd (n := 84) X dX10_make_83 rfl (fun h5 => ?_)
    refine jm_callSi (n := 87) (vs := [.int (iI x5), .int (iI ((gA σ1 206 x3) + (1 : Int)))]) (rest := []) X hA (t10_greater l k1 hx5 h5) (va_cwS 2 X.2.2.2.2.1 gX10_make_X10_greater rfl rfl rfl (by decide +kernel) ⟨Nat.le_of_ble_eq_true rfl, Nat.le_of_ble_eq_true rfl⟩) rfl (Nat.le_of_ble_eq_true rfl) dX10_make_84 rfl (fun σ6 r6 k6 h7 => ?_)
    refine jm_istore (n := 89) (lv' := [(5, .int (iI r6)), (0, .ref (h 299)), (1, .int (iI x1)), (2, .int (iI x2)), (3, .int (iI x3)), (4, .int (iI x4)), (6, .int (iI x6))]) X dX10_make_87 (by decide) rfl rfl ?_
    refine jm_iload (n := 91) X 6 rfl dX10_make_89 rfl ?_
    refine jm_aload_n (n := 92) X 1 rfl dX10_make_91 rfl ?_
    refine jm_get (n := 95) X 0 9 7 mW_X10 rfl (by decide) (fun w h => List.mem_cons_of_mem _ (List.mem_append_right _ h)) (List.mem_of_getElem? (i := 3) rfl) rfl dX10_make_92 rfl ?_
    refine jm_iload_n (n := 96) X 4 rfl dX10_make_95 rfl ?_
    refine jm_ald (n := 97) X 6 0 207 mA_207 rfl rfl hx3 dX10_make_96 rfl (fun h8 => ?_)
    refine jm_iadd (n := 98) X dX10_make_97 rfl (fun h9 => ?_)
    refine jm_istore (n := 100) (lv' := [(6, .int (iI (x6 + (gA σ6 207 x3)))), (5, .int (iI r6)), (0, .ref (h 299)), (1, .int (iI x1)), (2, .int (iI x2)), (3, .int (iI x3)), (4, .int (iI x4))]) X dX10_make_98 (by decide) rfl rfl ?_
    refine jm_perm [2, 3, 4, 5, 6, 1, 0] rfl ?_
    exact u10_make_100 X hA σ6 x1 x2 x3 x4 r6 (x6 + (gA σ6 207 x3)) k6 hx1 hx2 hx3 hx4 h7 h9
def f10_make (σ0 : Sg) (x1 : Int) (x2 : Int) (x3 : Int) (x4 : Int) : Option (Sg × Int) :=
  nx (sI σ0 200 (0 : Int)) fun σ1 =>
  bd (f10_in σ1 x1 (0 : Int) (11 : Int)) fun σ2 r2 =>
  if r2 = 0 then ((b10_make_27 σ2 ))
  else (bd (f10_fits σ2 x1 x2 x3 x4) fun σ5 r5 =>
  if r5 = 0 then ((b10_make_27 σ5 ))
  else (bd (f10_hasA σ5 x1) fun σ8 r8 =>
  if r8 = 0 then ((b10_make_67 σ8 x1 x2 x3 x4 (1 : Int) (1 : Int)))
  else (ck (0 ≤ x2 ∧ x2 < 60) <|
  ck (inR ((gA σ8 206 x2) + (1 : Int))) <|
  ck (0 ≤ x2 ∧ x2 < 60) <|
  ck (inR ((1 : Int) + (gA σ8 207 x2))) <|
  (b10_make_67 σ8 x1 x2 x3 x4 ((gA σ8 206 x2) + (1 : Int)) ((1 : Int) + (gA σ8 207 x2))))))
set_option maxRecDepth 100000 in
theorem t10_make (l : Launch) {h : Nat → Nat} {cI cZ : ClassId} {D : va_G} {σ0 : Sg} {x1 : Int} {x2 : Int} {x3 : Int} {x4 : Int} (k0 : ok σ0) (hx1 : inR x1) (hx2 : inR x2) (hx3 : inR x3) (hx4 : inR x4) : ctI noE l (mW h cI cZ) D (mT cI cZ) yX10_make wsX10_make rm10_make [.ref (h 299), .int (iI x1), .int (iI x2), .int (iI x3), .int (iI x4)] σ0 (f10_make σ0 x1 x2 x3 x4) := by
  refine of_I noE_ok (own := RX10) (lv := [(0, .ref (h 299)), (1, .int (iI x1)), (2, .int (iI x2)), (3, .int (iI x3)), (4, .int (iI x4))]) (by decide) rfl rfl (Nat.le_of_ble_eq_true rfl) rfl (fun p e s m below meth c sz X hA => ?_)
  rw [f10_make]
  refine jm_aload_n (n := 1) X 0 rfl dX10_make_0 rfl ?_
  refine jm_iconst (n := 2) X dX10_make_1 rfl ?_
  refine jm_put (n := 5) X 0 9 0 200 mW_X10 rfl (by decide) (fun w h => List.mem_cons_of_mem _ (List.mem_append_right _ h)) tyX10 tyX10_ok nmX10 (List.mem_of_getElem? (i := 1) rfl) rfl rfl rfl rfl (Nat.le_of_ble_eq_true rfl) mS_200 k0 (by decide) dX10_make_2 rfl (fun σ1 k1 => ?_)
  refine jm_iload_n (n := 6) X 1 rfl dX10_make_5 rfl ?_
  refine jm_iconst (n := 7) X dX10_make_6 rfl ?_
  refine jm_bipush (n := 9) X dX10_make_7 (by decide) rfl ?_
  refine jm_callSi (n := 12) (vs := [.int (iI x1), .int (iI (0 : Int)), .int (iI (11 : Int))]) (rest := []) X hA (t10_in l k1 hx1 (by decide) (by decide)) (va_cwS 3 X.2.2.2.2.1 gX10_make_X10_in rfl rfl rfl (by decide +kernel) ⟨Nat.le_of_ble_eq_true rfl, Nat.le_of_ble_eq_true rfl⟩) rfl (Nat.le_of_ble_eq_true rfl) dX10_make_9 rfl (fun σ2 r2 k2 h3 => ?_)
  refine jm_if_eq (n := 15) (tgt := 27) X dX10_make_12 (by decide) h3 rfl (fun c4 => ?_) (fun c4 => ?_)
  · refine jm_perm [0] rfl ?_
    exact u10_make_27 X hA σ2  k2 
  · refine jm_aload_n (n := 16) X 0 rfl dX10_make_15 rfl ?_
    refine jm_iload_n (n := 17) X 1 rfl dX10_make_16 rfl ?_
    refine jm_iload_n (n := 18) X 2 rfl dX10_make_17 rfl ?_
    refine jm_iload_n (n := 19) X 3 rfl dX10_make_18 rfl ?_
    refine jm_iload (n := 21) X 4 rfl dX10_make_19 rfl ?_
    refine jm_callVi (n := 24) (vs := [.int (iI x1), .int (iI x2), .int (iI x3), .int (iI x4)]) (rest := []) X hA (t10_fits l k2 hx1 hx2 hx3 hx4) (cwV 4 X.2.2.2.2.1 gX10_make_X10_fits rfl rfl rfl (by decide +kernel) ⟨Nat.le_of_ble_eq_true rfl, Nat.le_of_ble_eq_true rfl⟩) 0 9 mW_X10 rfl rfl (Nat.le_of_ble_eq_true rfl) dX10_make_21 rfl (fun σ5 r5 k5 h6 => ?_)
    refine jm_if_ne (n := 27) (tgt := 33) X dX10_make_24 (by decide) h6 rfl (fun c7 => ?_) (fun c7 => ?_)
    · refine jm_perm [0] rfl ?_
      exact u10_make_27 X hA σ5  k5 
    · refine jm_iconst (n := 34) X dX10_make_33 rfl ?_
      refine jm_istore (n := 36) (lv' := [(5, .int (iI (1 : Int))), (0, .ref (h 299)), (1, .int (iI x1)), (2, .int (iI x2)), (3, .int (iI x3)), (4, .int (iI x4))]) X dX10_make_34 (by decide) rfl rfl ?_
      refine jm_iconst (n := 37) X dX10_make_36 rfl ?_
      refine jm_istore (n := 39) (lv' := [(6, .int (iI (1 : Int))), (5, .int (iI (1 : Int))), (0, .ref (h 299)), (1, .int (iI x1)), (2, .int (iI x2)), (3, .int (iI x3)), (4, .int (iI x4))]) X dX10_make_37 (by decide) rfl rfl ?_
      refine jm_iload_n (n := 40) X 3 rfl dX10_make_39 rfl ?_
      refine jm_callSi (n := 43) (vs := [.int (iI x1)]) (rest := []) X hA (t10_hasA l k5 hx1) (va_cwS 1 X.2.2.2.2.1 gX10_make_X10_hasA rfl rfl rfl (by decide +kernel) ⟨Nat.le_of_ble_eq_true rfl, Nat.le_of_ble_eq_true rfl⟩) rfl (Nat.le_of_ble_eq_true rfl) dX10_make_40 rfl (fun σ8 r8 k8 h9 => ?_)
      refine jm_if_eq (n := 46) (tgt := 67) X dX10_make_43 (by decide) h9 rfl (fun c10 => ?_) (fun c10 => ?_)
      · refine jm_perm [2, 3, 4, 5, 6, 1, 0] rfl ?_
        exact u10_make_67 X hA σ8 x1 x2 x3 x4 (1 : Int) (1 : Int) k8 hx1 hx2 hx3 hx4 (by decide) (by decide)
      · refine jm_aload_n (n := 47) X 2 rfl dX10_make_46 rfl ?_
        refine jm_get (n := 50) X 0 9 6 mW_X10 rfl (by decide) (fun w h => List.mem_cons_of_mem _ (List.mem_append_right _ h)) (List.mem_of_getElem? (i := 2) rfl) rfl dX10_make_47 rfl ?_
        refine jm_iload_n (n := 51) X 4 rfl dX10_make_50 rfl ?_
        refine jm_ald (n := 52) X 5 0 206 mA_206 rfl rfl hx2 dX10_make_51 rfl (fun h11 => ?_)
        refine jm_iconst (n := 53) X dX10_make_52 rfl ?_
        refine jm_iadd (n := 54) X dX10_make_53 rfl (fun h12 => ?_)
        refine jm_istore (n := 56) (lv' := [(5, .int (iI ((gA σ8 206 x2) + (1 : Int)))), (6, .int (iI (1 : Int))), (0, .ref (h 299)), (1, .int (iI x1)), (2, .int (iI x2)), (3, .int (iI x3)), (4, .int (iI x4))]) X dX10_make_54 (by decide) rfl rfl ?_
        refine jm_iload (n := 58) X 1 rfl dX10_make_56 rfl ?_
        refine jm_aload_n (n := 59) X 2 rfl dX10_make_58 rfl ?_
        refine jm_get (n := 62) X 0 9 7 mW_X10 rfl (by decide) (fun w h => List.mem_cons_of_mem _ (List.mem_append_right _ h)) (List.mem_of_getElem? (i := 3) rfl) rfl dX10_make_59 rfl ?_
        refine jm_iload_n (n := 63) X 4 rfl dX10_make_62 rfl ?_
        refine jm_ald (n := 64) X 6 0 207 mA_207 rfl rfl hx2 dX10_make_63 rfl (fun h13 => ?_)
        refine jm_iadd (n := 65) X dX10_make_64 rfl (fun h14 => ?_)
        refine jm_istore (n := 67) (lv' := [(6, .int (iI ((1 : Int) + (gA σ8 207 x2)))), (5, .int (iI ((gA σ8 206 x2) + (1 : Int)))), (0, .ref (h 299)), (1, .int (iI x1)), (2, .int (iI x2)), (3, .int (iI x3)), (4, .int (iI x4))]) X dX10_make_65 (by decide) rfl rfl ?_
        refine jm_perm [2, 3, 4, 5, 6, 1, 0] rfl ?_
        exact u10_make_67 X hA σ8 x1 x2 x3 x4 ((gA σ8 206 x2) + (1 : Int)) ((1 : Int) + (gA σ8 207 x2)) k8 hx1 hx2 hx3 hx4 h12 h14
abbrev rm10_open : Room := { frames := 2, cells := 0, slots := 0, locals := 43 }
def b10_open_14 (σ0 : Sg) (x1 : Int) (y1 : Int) : Option (Sg × Int) :=
  nx (sI σ0 200 y1) fun σ1 =>
  if (gI σ1 200) ≤ 0 then (ck (0 ≤ x1 ∧ x1 < 60) <|
  some (σ1, (gA σ1 208 x1)))
  else (some (σ1, (0 : Int)))
set_option maxRecDepth 100000 in
theorem u10_open_14 (X : CX p m meth c cX10_open 2 (some .int) s args wsX10_open RX10 D (mT cI cZ) noE (va_A (mW h cI cZ σz) sz)) (hA : ∀ z : Nat, s.heap.size ≤ z → va_A (mW h cI cZ σz) sz z) (σ0 : Sg) (x1 : Int) (y1 : Int) (k0 : ok σ0) (hx1 : inR x1) (hy1 : inR y1) : JI l rm10_open (mW h cI cZ) D (mT cI cZ) σz sz 2 p e s m args below meth c σ0 14 [(0, .ref (h 299)), (1, .int (iI x1))] [.int (iI y1), .ref (h 299)] (b10_open_14 σ0 x1 y1) := by
  rw [b10_open_14]
  refine jm_put (n := 17) X 0 9 0 200 mW_X10 rfl (by decide) (fun w h => List.mem_cons_of_mem _ (List.mem_append_right _ h)) tyX10 tyX10_ok nmX10 (List.mem_of_getElem? (i := 1) rfl) rfl rfl rfl rfl (Nat.le_of_ble_eq_true rfl) mS_200 k0 hy1 dX10_open_14 rfl (fun σ1 k1 => ?_)
  refine jm_aload_n (n := 18) X 0 rfl dX10_open_17 rfl ?_
  refine jm_get (n := 21) X 0 9 0 mW_X10 rfl (by decide) (fun w h => List.mem_cons_of_mem _ (List.mem_append_right _ h)) (List.mem_of_getElem? (i := 1) rfl) rfl dX10_open_18 rfl ?_
  refine jm_if_le (n := 24) (tgt := 28) X dX10_open_21 (by decide) (k1.1 200) rfl (fun c2 => ?_) (fun c2 => ?_)
  · refine jm_aload_n (n := 29) X 0 rfl dX10_open_28 rfl ?_
    refine jm_get (n := 32) X 0 9 8 mW_X10 rfl (by decide) (fun w h => List.mem_cons_of_mem _ (List.mem_append_right _ h)) (List.mem_of_getElem? (i := 2) rfl) rfl dX10_open_29 rfl ?_
    refine jm_iload_n (n := 33) X 1 rfl dX10_open_32 rfl ?_
    refine jm_ald (n := 34) X 7 0 208 mA_208 rfl rfl hx1 dX10_open_33 rfl (fun h3 => ?_)
    exact jm_iret X rfl k1 (k1.2 208 _) dX10_open_34
  · refine jm_iconst (n := 25) X dX10_open_24 rfl ?_
    refine jm_goto (n := 34) X dX10_open_25 (by decide) ?_
    exact jm_iret X rfl k1 (by decide) dX10_open_34
def f10_open (σ0 : Sg) (x1 : Int) : Option (Sg × Int) :=
  bd (f10_isTerm σ0 x1) fun σ1 r1 =>
  if r1 = 0 then ((b10_open_14 σ1 x1 (1 : Int)))
  else ((b10_open_14 σ1 x1 (0 : Int)))
set_option maxRecDepth 100000 in
theorem t10_open (l : Launch) {h : Nat → Nat} {cI cZ : ClassId} {D : va_G} {σ0 : Sg} {x1 : Int} (k0 : ok σ0) (hx1 : inR x1) : ctI noE l (mW h cI cZ) D (mT cI cZ) yX10_open wsX10_open rm10_open [.ref (h 299), .int (iI x1)] σ0 (f10_open σ0 x1) := by
  refine of_I noE_ok (own := RX10) (lv := [(0, .ref (h 299)), (1, .int (iI x1))]) (by decide) rfl rfl (Nat.le_of_ble_eq_true rfl) rfl (fun p e s m below meth c sz X hA => ?_)
  rw [f10_open]
  refine jm_aload_n (n := 1) X 0 rfl dX10_open_0 rfl ?_
  refine jm_aload_n (n := 2) X 0 rfl dX10_open_1 rfl ?_
  refine jm_iload_n (n := 3) X 1 rfl dX10_open_2 rfl ?_
  refine jm_callVi (n := 6) (vs := [.int (iI x1)]) (rest := [.ref (h 299)]) X hA (t10_isTerm l k0 hx1) (cwV 1 X.2.2.2.2.1 gX10_open_X10_isTerm rfl rfl rfl (by decide +kernel) ⟨Nat.le_of_ble_eq_true rfl, Nat.le_of_ble_eq_true rfl⟩) 0 9 mW_X10 rfl rfl (Nat.le_of_ble_eq_true rfl) dX10_open_3 rfl (fun σ1 r1 k1 h2 => ?_)
  refine jm_if_eq (n := 9) (tgt := 13) X dX10_open_6 (by decide) h2 rfl (fun c3 => ?_) (fun c3 => ?_)
  · refine jm_iconst (n := 14) X dX10_open_13 rfl ?_
    refine jm_perm [0, 1] rfl ?_
    exact u10_open_14 X hA σ1 x1 (1 : Int) k1 hx1 (by decide)
  · refine jm_iconst (n := 10) X dX10_open_9 rfl ?_
    refine jm_goto (n := 14) X dX10_open_10 (by decide) ?_
    refine jm_perm [0, 1] rfl ?_
    exact u10_open_14 X hA σ1 x1 (0 : Int) k1 hx1 (by decide)
abbrev rm10_bind : Room := { frames := 0, cells := 0, slots := 0, locals := 0 }
def f10_bind (σ0 : Sg) (x1 : Int) (x2 : Int) (x3 : Int) : Option (Sg × Int) :=
  ck (inR ((gI σ0 209) + (1 : Int))) <|
  nx (sI σ0 209 ((gI σ0 209) + (1 : Int))) fun σ2 =>
  ck (0 ≤ (gI σ2 209) ∧ (gI σ2 209) < 320) <| nx (sA σ2 210 (gI σ2 209) x1) fun σ4 =>
  ck (0 ≤ (gI σ4 209) ∧ (gI σ4 209) < 320) <| nx (sA σ4 211 (gI σ4 209) x2) fun σ6 =>
  ck (0 ≤ (gI σ6 209) ∧ (gI σ6 209) < 320) <| nx (sA σ6 212 (gI σ6 209) x3) fun σ8 =>
  some (σ8, (gI σ8 209))
set_option maxRecDepth 100000 in
theorem t10_bind (l : Launch) {h : Nat → Nat} {cI cZ : ClassId} {D : va_G} {σ0 : Sg} {x1 : Int} {x2 : Int} {x3 : Int} (k0 : ok σ0) (hx1 : inR x1) (hx2 : inR x2) (hx3 : inR x3) : ctI noE l (mW h cI cZ) D (mT cI cZ) yX10_bind wsX10_bind rm10_bind [.ref (h 299), .int (iI x1), .int (iI x2), .int (iI x3)] σ0 (f10_bind σ0 x1 x2 x3) := by
  refine of_I noE_ok (own := RX10) (lv := [(0, .ref (h 299)), (1, .int (iI x1)), (2, .int (iI x2)), (3, .int (iI x3))]) (by decide) rfl rfl (Nat.le_of_ble_eq_true rfl) rfl (fun p e s m below meth c sz X hA => ?_)
  rw [f10_bind]
  refine jm_aload_n (n := 1) X 0 rfl dX10_bind_0 rfl ?_
  refine jm_dup (n := 2) X dX10_bind_1 rfl rfl ?_
  refine jm_get (n := 5) X 0 9 9 mW_X10 rfl (by decide) (fun w h => List.mem_cons_of_mem _ (List.mem_append_right _ h)) (List.mem_of_getElem? (i := 1) rfl) rfl dX10_bind_2 rfl ?_
  refine jm_iconst (n := 6) X dX10_bind_5 rfl ?_
  refine jm_iadd (n := 7) X dX10_bind_6 rfl (fun h1 => ?_)
  refine jm_put (n := 10) X 0 9 9 209 mW_X10 rfl (by decide) (fun w h => List.mem_cons_of_mem _ (List.mem_append_right _ h)) tyX10 tyX10_ok nmX10 (List.mem_of_getElem? (i := 1) rfl) rfl rfl rfl rfl (Nat.le_of_ble_eq_true rfl) mS_209 k0 h1 dX10_bind_7 rfl (fun σ2 k2 => ?_)
  refine jm_aload_n (n := 11) X 0 rfl dX10_bind_10 rfl ?_
  refine jm_get (n := 14) X 0 9 10 mW_X10 rfl (by decide) (fun w h => List.mem_cons_of_mem _ (List.mem_append_right _ h)) (List.mem_of_getElem? (i := 2) rfl) rfl dX10_bind_11 rfl ?_
  refine jm_aload_n (n := 15) X 0 rfl dX10_bind_14 rfl ?_
  refine jm_get (n := 18) X 0 9 9 mW_X10 rfl (by decide) (fun w h => List.mem_cons_of_mem _ (List.mem_append_right _ h)) (List.mem_of_getElem? (i := 1) rfl) rfl dX10_bind_15 rfl ?_
  refine jm_iload_n (n := 19) X 1 rfl dX10_bind_18 rfl ?_
  refine jm_ast (n := 20) X 8 0 210 mA_210 rfl rfl mT_210 k2 (k2.1 209) hx1 dX10_bind_19 rfl (fun h3 σ4 k4 => ?_)
  refine jm_aload_n (n := 21) X 0 rfl dX10_bind_20 rfl ?_
  refine jm_get (n := 24) X 0 9 11 mW_X10 rfl (by decide) (fun w h => List.mem_cons_of_mem _ (List.mem_append_right _ h)) (List.mem_of_getElem? (i := 3) rfl) rfl dX10_bind_21 rfl ?_
  refine jm_aload_n (n := 25) X 0 rfl dX10_bind_24 rfl ?_
  refine jm_get (n := 28) X 0 9 9 mW_X10 rfl (by decide) (fun w h => List.mem_cons_of_mem _ (List.mem_append_right _ h)) (List.mem_of_getElem? (i := 1) rfl) rfl dX10_bind_25 rfl ?_
  refine jm_iload_n (n := 29) X 2 rfl dX10_bind_28 rfl ?_
  refine jm_ast (n := 30) X 9 0 211 mA_211 rfl rfl mT_211 k4 (k4.1 209) hx2 dX10_bind_29 rfl (fun h5 σ6 k6 => ?_)
  refine jm_aload_n (n := 31) X 0 rfl dX10_bind_30 rfl ?_
  refine jm_get (n := 34) X 0 9 12 mW_X10 rfl (by decide) (fun w h => List.mem_cons_of_mem _ (List.mem_append_right _ h)) (List.mem_of_getElem? (i := 4) rfl) rfl dX10_bind_31 rfl ?_
  refine jm_aload_n (n := 35) X 0 rfl dX10_bind_34 rfl ?_
  refine jm_get (n := 38) X 0 9 9 mW_X10 rfl (by decide) (fun w h => List.mem_cons_of_mem _ (List.mem_append_right _ h)) (List.mem_of_getElem? (i := 1) rfl) rfl dX10_bind_35 rfl ?_
  refine jm_iload_n (n := 39) X 3 rfl dX10_bind_38 rfl ?_
  refine jm_ast (n := 40) X 10 0 212 mA_212 rfl rfl mT_212 k6 (k6.1 209) hx3 dX10_bind_39 rfl (fun h7 σ8 k8 => ?_)
  refine jm_aload_n (n := 41) X 0 rfl dX10_bind_40 rfl ?_
  refine jm_get (n := 44) X 0 9 9 mW_X10 rfl (by decide) (fun w h => List.mem_cons_of_mem _ (List.mem_append_right _ h)) (List.mem_of_getElem? (i := 1) rfl) rfl dX10_bind_41 rfl ?_
  exact jm_iret X rfl k8 (k8.1 209) dX10_bind_44
abbrev rm10_then : Room := { frames := 0, cells := 0, slots := 0, locals := 0 }
def f10_then (σ0 : Sg) (x1 : Int) (x2 : Int) (x3 : Int) (x4 : Int) (x5 : Int) : Option (Sg × Int) :=
  ck (inR ((gI σ0 216) + (1 : Int))) <|
  nx (sI σ0 216 ((gI σ0 216) + (1 : Int))) fun σ2 =>
  ck (0 ≤ (gI σ2 216) ∧ (gI σ2 216) < 320) <| nx (sA σ2 217 (gI σ2 216) x1) fun σ4 =>
  ck (0 ≤ (gI σ4 216) ∧ (gI σ4 216) < 320) <| nx (sA σ4 218 (gI σ4 216) x2) fun σ6 =>
  ck (0 ≤ (gI σ6 216) ∧ (gI σ6 216) < 320) <| nx (sA σ6 219 (gI σ6 216) x3) fun σ8 =>
  ck (0 ≤ (gI σ8 216) ∧ (gI σ8 216) < 320) <| nx (sA σ8 220 (gI σ8 216) x4) fun σ10 =>
  ck (0 ≤ (gI σ10 216) ∧ (gI σ10 216) < 320) <| nx (sA σ10 221 (gI σ10 216) x5) fun σ12 =>
  ck (0 ≤ (gI σ12 216) ∧ (gI σ12 216) < 320) <| nx (sA σ12 222 (gI σ12 216) (gI σ12 225)) fun σ14 =>
  nx (sI σ14 225 (gI σ14 216)) fun σ15 =>
  some (σ15, 0)
set_option maxRecDepth 100000 in
theorem t10_then (l : Launch) {h : Nat → Nat} {cI cZ : ClassId} {D : va_G} {σ0 : Sg} {x1 : Int} {x2 : Int} {x3 : Int} {x4 : Int} {x5 : Int} (k0 : ok σ0) (hx1 : inR x1) (hx2 : inR x2) (hx3 : inR x3) (hx4 : inR x4) (hx5 : inR x5) : ctV noE l (mW h cI cZ) D (mT cI cZ) yX10_then wsX10_then rm10_then [.ref (h 299), .int (iI x1), .int (iI x2), .int (iI x3), .int (iI x4), .int (iI x5)] σ0 (f10_then σ0 x1 x2 x3 x4 x5) := by
  refine of_V noE_ok (own := RX10) (lv := [(0, .ref (h 299)), (1, .int (iI x1)), (2, .int (iI x2)), (3, .int (iI x3)), (4, .int (iI x4)), (5, .int (iI x5))]) (by decide) rfl rfl (Nat.le_of_ble_eq_true rfl) rfl (fun p e s m below meth c sz X hA => ?_)
  rw [f10_then]
  refine jm_aload_n (n := 1) X 0 rfl dX10_then_0 rfl ?_
  refine jm_dup (n := 2) X dX10_then_1 rfl rfl ?_
  refine jm_get (n := 5) X 0 9 16 mW_X10 rfl (by decide) (fun w h => List.mem_cons_of_mem _ (List.mem_append_right _ h)) (List.mem_of_getElem? (i := 1) rfl) rfl dX10_then_2 rfl ?_
  refine jm_iconst (n := 6) X dX10_then_5 rfl ?_
  refine jm_iadd (n := 7) X dX10_then_6 rfl (fun h1 => ?_)
  refine jm_put (n := 10) X 0 9 16 216 mW_X10 rfl (by decide) (fun w h => List.mem_cons_of_mem _ (List.mem_append_right _ h)) tyX10 tyX10_ok nmX10 (List.mem_of_getElem? (i := 1) rfl) rfl rfl rfl rfl (Nat.le_of_ble_eq_true rfl) mS_216 k0 h1 dX10_then_7 rfl (fun σ2 k2 => ?_)
  refine jm_aload_n (n := 11) X 0 rfl dX10_then_10 rfl ?_
  refine jm_get (n := 14) X 0 9 17 mW_X10 rfl (by decide) (fun w h => List.mem_cons_of_mem _ (List.mem_append_right _ h)) (List.mem_of_getElem? (i := 2) rfl) rfl dX10_then_11 rfl ?_
  refine jm_aload_n (n := 15) X 0 rfl dX10_then_14 rfl ?_
  refine jm_get (n := 18) X 0 9 16 mW_X10 rfl (by decide) (fun w h => List.mem_cons_of_mem _ (List.mem_append_right _ h)) (List.mem_of_getElem? (i := 1) rfl) rfl dX10_then_15 rfl ?_
  refine jm_iload_n (n := 19) X 1 rfl dX10_then_18 rfl ?_
  refine jm_ast (n := 20) X 13 0 217 mA_217 rfl rfl mT_217 k2 (k2.1 216) hx1 dX10_then_19 rfl (fun h3 σ4 k4 => ?_)
  refine jm_aload_n (n := 21) X 0 rfl dX10_then_20 rfl ?_
  refine jm_get (n := 24) X 0 9 18 mW_X10 rfl (by decide) (fun w h => List.mem_cons_of_mem _ (List.mem_append_right _ h)) (List.mem_of_getElem? (i := 3) rfl) rfl dX10_then_21 rfl ?_
  refine jm_aload_n (n := 25) X 0 rfl dX10_then_24 rfl ?_
  refine jm_get (n := 28) X 0 9 16 mW_X10 rfl (by decide) (fun w h => List.mem_cons_of_mem _ (List.mem_append_right _ h)) (List.mem_of_getElem? (i := 1) rfl) rfl dX10_then_25 rfl ?_
  refine jm_iload_n (n := 29) X 2 rfl dX10_then_28 rfl ?_
  refine jm_ast (n := 30) X 14 0 218 mA_218 rfl rfl mT_218 k4 (k4.1 216) hx2 dX10_then_29 rfl (fun h5 σ6 k6 => ?_)
  refine jm_aload_n (n := 31) X 0 rfl dX10_then_30 rfl ?_
  refine jm_get (n := 34) X 0 9 19 mW_X10 rfl (by decide) (fun w h => List.mem_cons_of_mem _ (List.mem_append_right _ h)) (List.mem_of_getElem? (i := 4) rfl) rfl dX10_then_31 rfl ?_
  refine jm_aload_n (n := 35) X 0 rfl dX10_then_34 rfl ?_
  refine jm_get (n := 38) X 0 9 16 mW_X10 rfl (by decide) (fun w h => List.mem_cons_of_mem _ (List.mem_append_right _ h)) (List.mem_of_getElem? (i := 1) rfl) rfl dX10_then_35 rfl ?_
  refine jm_iload_n (n := 39) X 3 rfl dX10_then_38 rfl ?_
  refine jm_ast (n := 40) X 15 0 219 mA_219 rfl rfl mT_219 k6 (k6.1 216) hx3 dX10_then_39 rfl (fun h7 σ8 k8 => ?_)
  refine jm_aload_n (n := 41) X 0 rfl dX10_then_40 rfl ?_
  refine jm_get (n := 44) X 0 9 20 mW_X10 rfl (by decide) (fun w h => List.mem_cons_of_mem _ (List.mem_append_right _ h)) (List.mem_of_getElem? (i := 5) rfl) rfl dX10_then_41 rfl ?_
  refine jm_aload_n (n := 45) X 0 rfl dX10_then_44 rfl ?_
  refine jm_get (n := 48) X 0 9 16 mW_X10 rfl (by decide) (fun w h => List.mem_cons_of_mem _ (List.mem_append_right _ h)) (List.mem_of_getElem? (i := 1) rfl) rfl dX10_then_45 rfl ?_
  refine jm_iload (n := 50) X 4 rfl dX10_then_48 rfl ?_
  refine jm_ast (n := 51) X 16 0 220 mA_220 rfl rfl mT_220 k8 (k8.1 216) hx4 dX10_then_50 rfl (fun h9 σ10 k10 => ?_)
  refine jm_aload_n (n := 52) X 0 rfl dX10_then_51 rfl ?_
  refine jm_get (n := 55) X 0 9 21 mW_X10 rfl (by decide) (fun w h => List.mem_cons_of_mem _ (List.mem_append_right _ h)) (List.mem_of_getElem? (i := 6) rfl) rfl dX10_then_52 rfl ?_
  refine jm_aload_n (n := 56) X 0 rfl dX10_then_55 rfl ?_
  refine jm_get (n := 59) X 0 9 16 mW_X10 rfl (by decide) (fun w h => List.mem_cons_of_mem _ (List.mem_append_right _ h)) (List.mem_of_getElem? (i := 1) rfl) rfl dX10_then_56 rfl ?_
  refine jm_iload (n := 61) X 5 rfl dX10_then_59 rfl ?_
  refine jm_ast (n := 62) X 17 0 221 mA_221 rfl rfl mT_221 k10 (k10.1 216) hx5 dX10_then_61 rfl (fun h11 σ12 k12 => ?_)
  refine jm_aload_n (n := 63) X 0 rfl dX10_then_62 rfl ?_
  refine jm_get (n := 66) X 0 9 22 mW_X10 rfl (by decide) (fun w h => List.mem_cons_of_mem _ (List.mem_append_right _ h)) (List.mem_of_getElem? (i := 7) rfl) rfl dX10_then_63 rfl ?_
  refine jm_aload_n (n := 67) X 0 rfl dX10_then_66 rfl ?_
  refine jm_get (n := 70) X 0 9 16 mW_X10 rfl (by decide) (fun w h => List.mem_cons_of_mem _ (List.mem_append_right _ h)) (List.mem_of_getElem? (i := 1) rfl) rfl dX10_then_67 rfl ?_
  refine jm_aload_n (n := 71) X 0 rfl dX10_then_70 rfl ?_
  refine jm_get (n := 74) X 0 9 25 mW_X10 rfl (by decide) (fun w h => List.mem_cons_of_mem _ (List.mem_append_right _ h)) (List.mem_of_getElem? (i := 8) rfl) rfl dX10_then_71 rfl ?_
  refine jm_ast (n := 75) X 18 0 222 mA_222 rfl rfl mT_222 k12 (k12.1 216) (k12.1 225) dX10_then_74 rfl (fun h13 σ14 k14 => ?_)
  refine jm_aload_n (n := 76) X 0 rfl dX10_then_75 rfl ?_
  refine jm_aload_n (n := 77) X 0 rfl dX10_then_76 rfl ?_
  refine jm_get (n := 80) X 0 9 16 mW_X10 rfl (by decide) (fun w h => List.mem_cons_of_mem _ (List.mem_append_right _ h)) (List.mem_of_getElem? (i := 1) rfl) rfl dX10_then_77 rfl ?_
  refine jm_put (n := 83) X 0 9 25 225 mW_X10 rfl (by decide) (fun w h => List.mem_cons_of_mem _ (List.mem_append_right _ h)) tyX10 tyX10_ok nmX10 (List.mem_of_getElem? (i := 8) rfl) rfl rfl rfl rfl (Nat.le_of_ble_eq_true rfl) mS_225 k14 (k14.1 216) dX10_then_80 rfl (fun σ15 k15 => ?_)
  exact jm_vret X rfl k15 dX10_then_83
abbrev rm10_give : Room := { frames := 0, cells := 0, slots := 0, locals := 0 }
def f10_give (σ0 : Sg) (x1 : Int) (x2 : Int) : Option (Sg × Int) :=
  nx (sI σ0 226 x1) fun σ1 =>
  nx (sI σ1 227 x2) fun σ2 =>
  some (σ2, 0)
set_option maxRecDepth 100000 in
theorem t10_give (l : Launch) {h : Nat → Nat} {cI cZ : ClassId} {D : va_G} {σ0 : Sg} {x1 : Int} {x2 : Int} (k0 : ok σ0) (hx1 : inR x1) (hx2 : inR x2) : ctV noE l (mW h cI cZ) D (mT cI cZ) yX10_give wsX10_give rm10_give [.ref (h 299), .int (iI x1), .int (iI x2)] σ0 (f10_give σ0 x1 x2) := by
  refine of_V noE_ok (own := RX10) (lv := [(0, .ref (h 299)), (1, .int (iI x1)), (2, .int (iI x2))]) (by decide) rfl rfl (Nat.le_of_ble_eq_true rfl) rfl (fun p e s m below meth c sz X hA => ?_)
  rw [f10_give]
  refine jm_aload_n (n := 1) X 0 rfl dX10_give_0 rfl ?_
  refine jm_iload_n (n := 2) X 1 rfl dX10_give_1 rfl ?_
  refine jm_put (n := 5) X 0 9 26 226 mW_X10 rfl (by decide) (fun w h => List.mem_cons_of_mem _ (List.mem_append_right _ h)) tyX10 tyX10_ok nmX10 (List.mem_of_getElem? (i := 1) rfl) rfl rfl rfl rfl (Nat.le_of_ble_eq_true rfl) mS_226 k0 hx1 dX10_give_2 rfl (fun σ1 k1 => ?_)
  refine jm_aload_n (n := 6) X 0 rfl dX10_give_5 rfl ?_
  refine jm_iload_n (n := 7) X 2 rfl dX10_give_6 rfl ?_
  refine jm_put (n := 10) X 0 9 27 227 mW_X10 rfl (by decide) (fun w h => List.mem_cons_of_mem _ (List.mem_append_right _ h)) tyX10 tyX10_ok nmX10 (List.mem_of_getElem? (i := 2) rfl) rfl rfl rfl rfl (Nat.le_of_ble_eq_true rfl) mS_227 k1 hx2 dX10_give_7 rfl (fun σ2 k2 => ?_)
  exact jm_vret X rfl k2 dX10_give_10
end
