section
variable {p : Program} {l : Launch} {e : Env} {s : State} {m : MethodId} {args : Array Value} {below : List Frame} {meth : Method} {c : Code} {h : Nat → Nat} {cI cZ : ClassId} {D : va_G} {σz : Sg} {sz : Nat} {t1 t2 : Nat}
abbrev rmh (d : Nat) : Room := { frames := 4 * d + 6, cells := 0, slots := 0, locals := 100 * d + 200 }
abbrev rm6_typeOfVariable : Room := { frames := 2, cells := 0, slots := 0, locals := 46 }
def f6_typeOfVariable (σ0 : Sg) (x1 : Int) : Option (Sg × Int) :=
  ck (inR ((gI σ0 124) - (1 : Int))) <|
  ck (inR (((gI σ0 124) - (1 : Int)) - x1)) <|
  if 0 ≤ (((gI σ0 124) - (1 : Int)) - x1) then (ck (0 ≤ (((gI σ0 124) - (1 : Int)) - x1) ∧ (((gI σ0 124) - (1 : Int)) - x1) < 18) <|
  if (gA σ0 123 (((gI σ0 124) - (1 : Int)) - x1)) = (-1 : Int) then (ck (0 ≤ (((gI σ0 124) - (1 : Int)) - x1) ∧ (((gI σ0 124) - (1 : Int)) - x1) < 18) <|
  some (σ0, (gA σ0 122 (((gI σ0 124) - (1 : Int)) - x1))))
  else (bd (f5_letter σ0 ) fun σ7 r7 =>
  ck (0 ≤ (((gI σ0 124) - (1 : Int)) - x1) ∧ (((gI σ0 124) - (1 : Int)) - x1) < 18) <|
  ck (0 ≤ (((gI σ0 124) - (1 : Int)) - x1) ∧ (((gI σ0 124) - (1 : Int)) - x1) < 18) <|
  bd (f5_function σ7 (gA σ7 122 (((gI σ0 124) - (1 : Int)) - x1)) r7 (gA σ7 123 (((gI σ0 124) - (1 : Int)) - x1)) r7) fun σ11 r11 =>
  some (σ11, r11)))
  else (bd (f5_letter σ0 ) fun σ13 r13 =>
  some (σ13, r13))
set_option maxRecDepth 100000 in
theorem t6_typeOfVariable (l : Launch) {h : Nat → Nat} {cI cZ : ClassId} {D : va_G} {t1 t2 : Nat} {σ0 : Sg} {x1 : Int} (k0 : ok σ0) (hx1 : inR x1) : ctI (cE t1 t2) l (cW h cI cZ) D (mT cI cZ) yX6_typeOfVariable wsX6_typeOfVariable rm6_typeOfVariable [.ref (h 139), .int (iI x1)] σ0 (f6_typeOfVariable σ0 x1) := by
  refine of_I (cE_ok t1 t2) (own := RX6) (lv := [(0, .ref (h 139)), (1, .int (iI x1))]) (by decide) rfl rfl (Nat.le_of_ble_eq_true rfl) rfl (fun p e s m below meth c sz X hA => ?_)
  rw [f6_typeOfVariable]
  refine jm_aload_n (n := 1) X 0 rfl dX6_typeOfVariable_0 rfl ?_
  refine jm_get (n := 4) X 6 5 4 cW_X6 rfl (by decide) (fun w h => List.mem_cons_of_mem _ (List.mem_append_left _ (List.mem_append_right _ h))) (List.mem_of_getElem? (i := 1) rfl) rfl dX6_typeOfVariable_1 rfl ?_
  refine jm_iconst (n := 5) X dX6_typeOfVariable_4 rfl ?_
  refine jm_isub (n := 6) X dX6_typeOfVariable_5 rfl (fun h1 => ?_)
  refine jm_iload_n (n := 7) X 1 rfl dX6_typeOfVariable_6 rfl ?_
  refine jm_isub (n := 8) X dX6_typeOfVariable_7 rfl (fun h2 => ?_)
  refine jm_istore_n (n := 9) (lv' := [(2, .int (iI (((gI σ0 124) - (1 : Int)) - x1))), (0, .ref (h 139)), (1, .int (iI x1))]) X dX6_typeOfVariable_8 (by decide) rfl rfl ?_
  refine jm_iload_n (n := 10) X 0 rfl dX6_typeOfVariable_9 rfl ?_
  refine jm_if_ge (n := 13) (tgt := 21) X dX6_typeOfVariable_10 (by decide) h2 rfl (fun c3 => ?_) (fun c3 => ?_)
  · refine jm_aload_n (n := 22) X 1 rfl dX6_typeOfVariable_21 rfl ?_
    refine jm_get (n := 25) X 6 5 3 cW_X6 rfl (by decide) (fun w h => List.mem_cons_of_mem _ (List.mem_append_left _ (List.mem_append_right _ h))) (List.mem_of_getElem? (i := 3) rfl) rfl dX6_typeOfVariable_22 rfl ?_
    refine jm_iload_n (n := 26) X 0 rfl dX6_typeOfVariable_25 rfl ?_
    refine jm_ald (n := 27) X 27 0 123 cA_123 rfl rfl h2 dX6_typeOfVariable_26 rfl (fun h4 => ?_)
    refine jm_iconst (n := 28) X dX6_typeOfVariable_27 rfl ?_
    refine jm_icmp_ne (n := 31) (tgt := 38) X dX6_typeOfVariable_28 (by decide) (k0.2 123 _) (by decide) rfl (fun c5 => ?_) (fun c5 => ?_)
    · refine jm_aload_n (n := 32) X 1 rfl dX6_typeOfVariable_31 rfl ?_
      refine jm_get (n := 35) X 6 5 2 cW_X6 rfl (by decide) (fun w h => List.mem_cons_of_mem _ (List.mem_append_left _ (List.mem_append_right _ h))) (List.mem_of_getElem? (i := 4) rfl) rfl dX6_typeOfVariable_32 rfl ?_
      refine jm_iload_n (n := 36) X 0 rfl dX6_typeOfVariable_35 rfl ?_
      refine jm_ald (n := 37) X 26 0 122 cA_122 rfl rfl h2 dX6_typeOfVariable_36 rfl (fun h6 => ?_)
      exact jm_iret X rfl k0 (k0.2 122 _) dX6_typeOfVariable_37
    · refine jm_aload_n (n := 39) X 1 rfl dX6_typeOfVariable_38 rfl ?_
      refine jm_get (n := 42) X 6 5 1 cW_X6 rfl (by decide) (fun w h => List.mem_cons_of_mem _ (List.mem_append_left _ (List.mem_append_right _ h))) (List.mem_of_getElem? (i := 2) rfl) rfl dX6_typeOfVariable_39 rfl ?_
      refine jm_callVi (n := 45) (vs := []) (rest := []) X hA (t5_letter l k0 ) (cwV 0 X.2.2.2.2.1 gX6_typeOfVariable_X5_letter rfl rfl rfl (by decide +kernel) ⟨Nat.le_of_ble_eq_true rfl, Nat.le_of_ble_eq_true rfl⟩) 7 4 cW_X5 rfl rfl (Nat.le_of_ble_eq_true rfl) dX6_typeOfVariable_42 rfl (fun σ7 r7 k7 h8 => ?_)
      refine jm_istore_n (n := 46) (lv' := [(3, .int (iI r7)), (2, .int (iI (((gI σ0 124) - (1 : Int)) - x1))), (0, .ref (h 139)), (1, .int (iI x1))]) X dX6_typeOfVariable_45 (by decide) rfl rfl ?_
      refine jm_aload_n (n := 47) X 2 rfl dX6_typeOfVariable_46 rfl ?_
      refine jm_get (n := 50) X 6 5 1 cW_X6 rfl (by decide) (fun w h => List.mem_cons_of_mem _ (List.mem_append_left _ (List.mem_append_right _ h))) (List.mem_of_getElem? (i := 2) rfl) rfl dX6_typeOfVariable_47 rfl ?_
      refine jm_aload_n (n := 51) X 2 rfl dX6_typeOfVariable_50 rfl ?_
      refine jm_get (n := 54) X 6 5 2 cW_X6 rfl (by decide) (fun w h => List.mem_cons_of_mem _ (List.mem_append_left _ (List.mem_append_right _ h))) (List.mem_of_getElem? (i := 4) rfl) rfl dX6_typeOfVariable_51 rfl ?_
      refine jm_iload_n (n := 55) X 1 rfl dX6_typeOfVariable_54 rfl ?_
      refine jm_ald (n := 56) X 26 0 122 cA_122 rfl rfl h2 dX6_typeOfVariable_55 rfl (fun h9 => ?_)
      refine jm_iload_n (n := 57) X 0 rfl dX6_typeOfVariable_56 rfl ?_
      refine jm_aload_n (n := 58) X 2 rfl dX6_typeOfVariable_57 rfl ?_
      refine jm_get (n := 61) X 6 5 3 cW_X6 rfl (by decide) (fun w h => List.mem_cons_of_mem _ (List.mem_append_left _ (List.mem_append_right _ h))) (List.mem_of_getElem? (i := 3) rfl) rfl dX6_typeOfVariable_58 rfl ?_
      refine jm_iload_n (n := 62) X 1 rfl dX6_typeOfVariable_61 rfl ?_
      refine jm_ald (n := 63) X 27 0 123 cA_123 rfl rfl h2 dX6_typeOfVariable_62 rfl (fun h10 => ?_)
      refine jm_iload_n (n := 64) X 0 rfl dX6_typeOfVariable_63 rfl ?_
      refine jm_callVi (n := 67) (vs := [.int (iI (gA σ7 122 (((gI σ0 124) - (1 : Int)) - x1))), .int (iI r7), .int (iI (gA σ7 123 (((gI σ0 124) - (1 : Int)) - x1))), .int (iI r7)]) (rest := []) X hA (t5_function l k7 (k7.2 122 _) h8 (k7.2 123 _) h8) (cwV 4 X.2.2.2.2.1 gX6_typeOfVariable_X5_function rfl rfl rfl (by decide +kernel) ⟨Nat.le_of_ble_eq_true rfl, Nat.le_of_ble_eq_true rfl⟩) 7 4 cW_X5 rfl rfl (Nat.le_of_ble_eq_true rfl) dX6_typeOfVariable_64 rfl (fun σ11 r11 k11 h12 => ?_)
      exact jm_iret X rfl k11 h12 dX6_typeOfVariable_67
  · refine jm_aload_n (n := 14) X 1 rfl dX6_typeOfVariable_13 rfl ?_
    refine jm_get (n := 17) X 6 5 1 cW_X6 rfl (by decide) (fun w h => List.mem_cons_of_mem _ (List.mem_append_left _ (List.mem_append_right _ h))) (List.mem_of_getElem? (i := 2) rfl) rfl dX6_typeOfVariable_14 rfl ?_
    refine jm_callVi (n := 20) (vs := []) (rest := []) X hA (t5_letter l k0 ) (cwV 0 X.2.2.2.2.1 gX6_typeOfVariable_X5_letter rfl rfl rfl (by decide +kernel) ⟨Nat.le_of_ble_eq_true rfl, Nat.le_of_ble_eq_true rfl⟩) 7 4 cW_X5 rfl rfl (Nat.le_of_ble_eq_true rfl) dX6_typeOfVariable_17 rfl (fun σ13 r13 k13 h14 => ?_)
    exact jm_iret X rfl k13 h14 dX6_typeOfVariable_20
abbrev rm6_bind : Room := { frames := 0, cells := 0, slots := 0, locals := 0 }
def f6_bind (σ0 : Sg) (x1 : Int) (x2 : Int) : Option (Sg × Int) :=
  ck (0 ≤ (gI σ0 124) ∧ (gI σ0 124) < 18) <| nx (sA σ0 122 (gI σ0 124) x1) fun σ2 =>
  ck (0 ≤ (gI σ2 124) ∧ (gI σ2 124) < 18) <| nx (sA σ2 123 (gI σ2 124) x2) fun σ4 =>
  ck (inR ((gI σ4 124) + (1 : Int))) <|
  nx (sI σ4 124 ((gI σ4 124) + (1 : Int))) fun σ6 =>
  some (σ6, 0)
set_option maxRecDepth 100000 in
theorem t6_bind (l : Launch) {h : Nat → Nat} {cI cZ : ClassId} {D : va_G} {t1 t2 : Nat} {σ0 : Sg} {x1 : Int} {x2 : Int} (k0 : ok σ0) (hx1 : inR x1) (hx2 : inR x2) : ctV (cE t1 t2) l (cW h cI cZ) D (mT cI cZ) yX6_bind wsX6_bind rm6_bind [.ref (h 139), .int (iI x1), .int (iI x2)] σ0 (f6_bind σ0 x1 x2) := by
  refine of_V (cE_ok t1 t2) (own := RX6) (lv := [(0, .ref (h 139)), (1, .int (iI x1)), (2, .int (iI x2))]) (by decide) rfl rfl (Nat.le_of_ble_eq_true rfl) rfl (fun p e s m below meth c sz X hA => ?_)
  rw [f6_bind]
  refine jm_aload_n (n := 1) X 0 rfl dX6_bind_0 rfl ?_
  refine jm_get (n := 4) X 6 5 2 cW_X6 rfl (by decide) (fun w h => List.mem_cons_of_mem _ (List.mem_append_right _ h)) (List.mem_of_getElem? (i := 1) rfl) rfl dX6_bind_1 rfl ?_
  refine jm_aload_n (n := 5) X 0 rfl dX6_bind_4 rfl ?_
  refine jm_get (n := 8) X 6 5 4 cW_X6 rfl (by decide) (fun w h => List.mem_cons_of_mem _ (List.mem_append_right _ h)) (List.mem_of_getElem? (i := 2) rfl) rfl dX6_bind_5 rfl ?_
  refine jm_iload_n (n := 9) X 1 rfl dX6_bind_8 rfl ?_
  refine jm_ast (n := 10) X 26 0 122 cA_122 rfl rfl cT_122 k0 (k0.1 124) hx1 dX6_bind_9 rfl (fun h1 σ2 k2 => ?_)
  refine jm_aload_n (n := 11) X 0 rfl dX6_bind_10 rfl ?_
  refine jm_get (n := 14) X 6 5 3 cW_X6 rfl (by decide) (fun w h => List.mem_cons_of_mem _ (List.mem_append_right _ h)) (List.mem_of_getElem? (i := 3) rfl) rfl dX6_bind_11 rfl ?_
  refine jm_aload_n (n := 15) X 0 rfl dX6_bind_14 rfl ?_
  refine jm_get (n := 18) X 6 5 4 cW_X6 rfl (by decide) (fun w h => List.mem_cons_of_mem _ (List.mem_append_right _ h)) (List.mem_of_getElem? (i := 2) rfl) rfl dX6_bind_15 rfl ?_
  refine jm_iload_n (n := 19) X 2 rfl dX6_bind_18 rfl ?_
  refine jm_ast (n := 20) X 27 0 123 cA_123 rfl rfl cT_123 k2 (k2.1 124) hx2 dX6_bind_19 rfl (fun h3 σ4 k4 => ?_)
  refine jm_aload_n (n := 21) X 0 rfl dX6_bind_20 rfl ?_
  refine jm_dup (n := 22) X dX6_bind_21 rfl rfl ?_
  refine jm_get (n := 25) X 6 5 4 cW_X6 rfl (by decide) (fun w h => List.mem_cons_of_mem _ (List.mem_append_right _ h)) (List.mem_of_getElem? (i := 2) rfl) rfl dX6_bind_22 rfl ?_
  refine jm_iconst (n := 26) X dX6_bind_25 rfl ?_
  refine jm_iadd (n := 27) X dX6_bind_26 rfl (fun h5 => ?_)
  refine jm_put (n := 30) X 6 5 4 124 cW_X6 rfl (by decide) (fun w h => List.mem_cons_of_mem _ (List.mem_append_right _ h)) tyX6 tyX6_ok nmX6 (List.mem_of_getElem? (i := 2) rfl) rfl rfl rfl rfl (Nat.le_of_ble_eq_true rfl) cS_124 k4 h5 dX6_bind_27 rfl (fun σ6 k6 => ?_)
  exact jm_vret X rfl k6 dX6_bind_30
abbrev rm6_wholeHolds (d : Nat) : Room := { frames := 4 * d + 7, cells := 0, slots := 0, locals := 100 * d + 230 }
def f6_wholeHolds (N : Nat) (G : Sg → Int → Int → Int → Int → Int → Option (Sg × Int)) (σ0 : Sg) (x1 : Int) (x2 : Int) (x3 : Int) : Option (Sg × Int) :=
  bd (f5_letter σ0 ) fun σ1 r1 =>
  ck (inR (x3 + (1 : Int))) <|
  bd (G σ1 x1 r1 r1 x2 (x3 + (1 : Int))) fun σ4 r4 =>
  ck (r4 = 0 ∨ r4 = 1) (some (σ4, r4))
set_option maxRecDepth 100000 in
theorem t6_wholeHolds (l : Launch) {h : Nat → Nat} {cI cZ : ClassId} {D : va_G} {t1 t2 : Nat} (N : Nat) (G : Sg → Int → Int → Int → Int → Int → Option (Sg × Int)) (d : Nat) (hG : ∀ {σ0 : Sg} {x1 x2 x3 x4 x5 : Int}, ok σ0 → inR x1 → inR x2 → inR x3 → inR x4 → inR x5 → ctI (cE t1 t2) l (cW h cI cZ) D (mT cI cZ) yX6_holds wsX6_holds (rmh d) [.ref (h 139), .int (iI x1), .int (iI x2), .int (iI x3), .int (iI x4), .int (iI x5)] σ0 (G σ0 x1 x2 x3 x4 x5)) {σ0 : Sg} {x1 : Int} {x2 : Int} {x3 : Int} (k0 : ok σ0) (hx1 : inR x1) (hx2 : inR x2) (hx3 : inR x3) : ctI (cE t1 t2) l (cW h cI cZ) D (mT cI cZ) yX6_wholeHolds wsX6_wholeHolds (rm6_wholeHolds d) [.ref (h 139), .int (iI x1), .int (iI x2), .int (iI x3)] σ0 (f6_wholeHolds N G σ0 x1 x2 x3) := by
  refine of_Z (cE_ok t1 t2) (own := RX6) (lv := [(0, .ref (h 139)), (1, .int (iI x1)), (2, .int (iI x2)), (3, .int (iI x3))]) (by decide) rfl rfl (Nat.le_of_ble_eq_true rfl) rfl (fun p e s m below meth c sz X hA => ?_)
  rw [f6_wholeHolds]
  refine jm_aload_n (n := 1) X 0 rfl dX6_wholeHolds_0 rfl ?_
  refine jm_get (n := 4) X 6 5 1 cW_X6 rfl (by decide) (fun w h => List.mem_cons_of_mem _ (List.mem_append_left _ (List.mem_append_left _ (List.mem_append_right _ h)))) (List.mem_of_getElem? (i := 1) rfl) rfl dX6_wholeHolds_1 rfl ?_
  refine jm_callVi (n := 7) (vs := []) (rest := []) X hA (t5_letter l k0 ) (cwV 0 X.2.2.2.2.1 gX6_wholeHolds_X5_letter rfl rfl rfl (by decide +kernel) ⟨(show 1 + 1 ≤ 4 * d + 7 by omega), (show 8 + (1 + 11) + (21) ≤ 100 * d + 230 by omega)⟩) 7 4 cW_X5 rfl rfl (Nat.le_of_ble_eq_true rfl) dX6_wholeHolds_4 rfl (fun σ1 r1 k1 h2 => ?_)
  refine jm_istore (n := 9) (lv' := [(4, .int (iI r1)), (0, .ref (h 139)), (1, .int (iI x1)), (2, .int (iI x2)), (3, .int (iI x3))]) X dX6_wholeHolds_7 (by decide) rfl rfl ?_
  refine jm_aload_n (n := 10) X 1 rfl dX6_wholeHolds_9 rfl ?_
  refine jm_iload_n (n := 11) X 2 rfl dX6_wholeHolds_10 rfl ?_
  refine jm_iload (n := 13) X 0 rfl dX6_wholeHolds_11 rfl ?_
  refine jm_iload (n := 15) X 0 rfl dX6_wholeHolds_13 rfl ?_
  refine jm_iload_n (n := 16) X 3 rfl dX6_wholeHolds_15 rfl ?_
  refine jm_iload_n (n := 17) X 4 rfl dX6_wholeHolds_16 rfl ?_
  refine jm_iconst (n := 18) X dX6_wholeHolds_17 rfl ?_
  refine jm_iadd (n := 19) X dX6_wholeHolds_18 rfl (fun h3 => ?_)
  refine jm_callVi (n := 22) (vs := [.int (iI x1), .int (iI r1), .int (iI r1), .int (iI x2), .int (iI (x3 + (1 : Int)))]) (rest := []) X hA (hG k1 hx1 h2 h2 hx2 h3) (cwV 5 X.2.2.2.2.1 gX6_wholeHolds_X6_holds rfl rfl rfl (by decide +kernel) ⟨(show 4 * d + 6 + 1 ≤ 4 * d + 7 by omega), (show 8 + (7 + 11) + (100 * d + 200) ≤ 100 * d + 230 by omega)⟩) 6 5 cW_X6 rfl rfl (Nat.le_of_ble_eq_true rfl) dX6_wholeHolds_19 rfl (fun σ4 r4 k4 h5 => ?_)
  exact jm_zret X rfl k4 dX6_wholeHolds_22
abbrev rm6_functionHolds (d : Nat) : Room := { frames := 4 * d + 7, cells := 0, slots := 0, locals := 100 * d + 230 }
def b6_functionHolds_80 (N : Nat) (G : Sg → Int → Int → Int → Int → Int → Option (Sg × Int)) (σ0 : Sg) (x1 : Int) (x2 : Int) (x3 : Int) (x4 : Int) (x5 : Int) (x6 : Int) (x7 : Int) (x8 : Int) (x9 : Int) : Option (Sg × Int) :=
  bd (f6_bind σ0 x4 (-1 : Int)) fun σ1 r1 =>
  ck (0 ≤ x1 ∧ x1 < 60) <|
  ck (inR (x3 + (1 : Int))) <|
  bd (G σ1 (gA σ1 81 x1) x6 x5 x7 (x3 + (1 : Int))) fun σ5 r5 =>
  nx (sI σ5 124 x9) fun σ7 =>
  if r5 = 0 then (ck ((0 : Int) = 0 ∨ (0 : Int) = 1) (some (σ7, (0 : Int))))
  else (bd (f5_makeSame N σ7 x2 x8) fun σ9 r9 =>
  if r9 = 0 then (ck ((0 : Int) = 0 ∨ (0 : Int) = 1) (some (σ9, (0 : Int))))
  else (ck ((1 : Int) = 0 ∨ (1 : Int) = 1) (some (σ9, (1 : Int)))))
set_option maxRecDepth 100000 in
theorem u6_functionHolds_80 (X : CX p m meth c cX6_functionHolds 11 (some .boolean) s args wsX6_functionHolds RX6 D (mT cI cZ) (cE t1 t2) (va_A (cW h cI cZ σz) sz)) (hA : ∀ z : Nat, s.heap.size ≤ z → va_A (cW h cI cZ σz) sz z) (N : Nat) (G : Sg → Int → Int → Int → Int → Int → Option (Sg × Int)) (d : Nat) (hG : ∀ {σ0 : Sg} {x1 x2 x3 x4 x5 : Int}, ok σ0 → inR x1 → inR x2 → inR x3 → inR x4 → inR x5 → ctI (cE t1 t2) l (cW h cI cZ) D (mT cI cZ) yX6_holds wsX6_holds (rmh d) [.ref (h 139), .int (iI x1), .int (iI x2), .int (iI x3), .int (iI x4), .int (iI x5)] σ0 (G σ0 x1 x2 x3 x4 x5)) (σ0 : Sg) (x1 : Int) (x2 : Int) (x3 : Int) (x4 : Int) (x5 : Int) (x6 : Int) (x7 : Int) (x8 : Int) (x9 : Int) (k0 : ok σ0) (hx1 : inR x1) (hx2 : inR x2) (hx3 : inR x3) (hx4 : inR x4) (hx5 : inR x5) (hx6 : inR x6) (hx7 : inR x7) (hx8 : inR x8) (hx9 : inR x9) : JI l (rm6_functionHolds d) (cW h cI cZ) D (mT cI cZ) σz sz 11 p e s m args below meth c σ0 80 [(0, .ref (h 139)), (1, .int (iI x1)), (2, .int (iI x2)), (3, .int (iI x3)), (4, .int (iI x4)), (5, .int (iI x5)), (6, .int (iI x6)), (7, .int (iI x7)), (8, .int (iI x8)), (9, .int (iI x9))] [] (b6_functionHolds_80 N G σ0 x1 x2 x3 x4 x5 x6 x7 x8 x9) := by
  rw [b6_functionHolds_80]
  refine jm_aload_n (n := 81) X 0 rfl dX6_functionHolds_80 rfl ?_
  refine jm_iload (n := 83) X 4 rfl dX6_functionHolds_81 rfl ?_
  refine jm_iconst (n := 84) X dX6_functionHolds_83 rfl ?_
  refine jm_callVv (n := 87) (vs := [.int (iI x4), .int (iI (-1 : Int))]) (rest := []) X hA (t6_bind l k0 hx4 (by decide)) (cwV 2 X.2.2.2.2.1 gX6_functionHolds_X6_bind rfl rfl rfl (by decide +kernel) ⟨(show 0 + 1 ≤ 4 * d + 7 by omega), (show 8 + (3 + 11) + (0) ≤ 100 * d + 230 by omega)⟩) 6 5 cW_X6 rfl rfl (Nat.le_of_ble_eq_true rfl) dX6_functionHolds_84 rfl (fun σ1 r1 k1 => ?_)
  refine jm_aload_n (n := 88) X 0 rfl dX6_functionHolds_87 rfl ?_
  refine jm_aload_n (n := 89) X 0 rfl dX6_functionHolds_88 rfl ?_
  refine jm_get (n := 92) X 6 5 0 cW_X6 rfl (by decide) (fun w h => List.mem_cons_of_mem _ (List.mem_append_left _ (List.mem_append_left _ (List.mem_append_right _ h)))) (List.mem_of_getElem? (i := 3) rfl) rfl dX6_functionHolds_89 rfl ?_
  refine jm_get (n := 95) X 1 3 1 cW_X4 rfl (by decide) (fun w h => List.mem_cons_of_mem _ (List.mem_append_left _ (List.mem_append_right _ h))) (List.mem_of_getElem? (i := 5) rfl) rfl dX6_functionHolds_92 rfl ?_
  refine jm_iload_n (n := 96) X 1 rfl dX6_functionHolds_95 rfl ?_
  refine jm_ald (n := 97) X 10 0 81 cA_81 rfl rfl hx1 dX6_functionHolds_96 rfl (fun h3 => ?_)
  refine jm_iload (n := 99) X 6 rfl dX6_functionHolds_97 rfl ?_
  refine jm_iload (n := 101) X 5 rfl dX6_functionHolds_99 rfl ?_
  refine jm_iload (n := 103) X 7 rfl dX6_functionHolds_101 rfl ?_
  refine jm_iload_n (n := 104) X 3 rfl dX6_functionHolds_103 rfl ?_
  refine jm_iconst (n := 105) X dX6_functionHolds_104 rfl ?_
  refine jm_iadd (n := 106) X dX6_functionHolds_105 rfl (fun h4 => ?_)
  refine jm_callVi (n := 109) (vs := [.int (iI (gA σ1 81 x1)), .int (iI x6), .int (iI x5), .int (iI x7), .int (iI (x3 + (1 : Int)))]) (rest := []) X hA (hG k1 (k1.2 81 _) hx6 hx5 hx7 h4) (cwV 5 X.2.2.2.2.1 gX6_functionHolds_X6_holds rfl rfl rfl (by decide +kernel) ⟨(show 4 * d + 6 + 1 ≤ 4 * d + 7 by omega), (show 8 + (7 + 11) + (100 * d + 200) ≤ 100 * d + 230 by omega)⟩) 6 5 cW_X6 rfl rfl (Nat.le_of_ble_eq_true rfl) dX6_functionHolds_106 rfl (fun σ5 r5 k5 h6 => ?_)
  refine jm_istore (n := 111) (lv' := [(10, .int (iI r5)), (0, .ref (h 139)), (1, .int (iI x1)), (2, .int (iI x2)), (3, .int (iI x3)), (4, .int (iI x4)), (5, .int (iI x5)), (6, .int (iI x6)), (7, .int (iI x7)), (8, .int (iI x8)), (9, .int (iI x9))]) X dX6_functionHolds_109 (by decide) rfl rfl ?_
  refine jm_aload_n (n := 112) X 1 rfl dX6_functionHolds_111 rfl ?_
  refine jm_iload (n := 114) X 10 rfl dX6_functionHolds_112 rfl ?_
  refine jm_put (n := 117) X 6 5 4 124 cW_X6 rfl (by decide) (fun w h => List.mem_cons_of_mem _ (List.mem_append_left _ (List.mem_append_left _ (List.mem_append_right _ h)))) tyX6 tyX6_ok nmX6 (List.mem_of_getElem? (i := 2) rfl) rfl rfl rfl rfl (Nat.le_of_ble_eq_true rfl) cS_124 k5 hx9 dX6_functionHolds_114 rfl (fun σ7 k7 => ?_)
  refine jm_iload (n := 119) X 0 rfl dX6_functionHolds_117 rfl ?_
  refine jm_if_eq (n := 122) (tgt := 139) X dX6_functionHolds_119 (by decide) h6 rfl (fun c8 => ?_) (fun c8 => ?_)
  · refine jm_iconst (n := 140) X dX6_functionHolds_139 rfl ?_
    exact jm_zret X rfl k7 dX6_functionHolds_140
  · refine jm_aload_n (n := 123) X 1 rfl dX6_functionHolds_122 rfl ?_
    refine jm_get (n := 126) X 6 5 1 cW_X6 rfl (by decide) (fun w h => List.mem_cons_of_mem _ (List.mem_append_left _ (List.mem_append_left _ (List.mem_append_right _ h)))) (List.mem_of_getElem? (i := 1) rfl) rfl dX6_functionHolds_123 rfl ?_
    refine jm_iload_n (n := 127) X 3 rfl dX6_functionHolds_126 rfl ?_
    refine jm_iload (n := 129) X 9 rfl dX6_functionHolds_127 rfl ?_
    refine jm_callVi (n := 132) (vs := [.int (iI x2), .int (iI x8)]) (rest := []) X hA (t5_makeSame l N k7 hx2 hx8) (cwV 2 X.2.2.2.2.1 gX6_functionHolds_X5_makeSame rfl rfl rfl (by decide +kernel) ⟨(show 2 + 1 ≤ 4 * d + 7 by omega), (show 8 + (6 + 11) + (45) ≤ 100 * d + 230 by omega)⟩) 7 4 cW_X5 rfl rfl (Nat.le_of_ble_eq_true rfl) dX6_functionHolds_129 rfl (fun σ9 r9 k9 h10 => ?_)
    refine jm_if_eq (n := 135) (tgt := 139) X dX6_functionHolds_132 (by decide) h10 rfl (fun c11 => ?_) (fun c11 => ?_)
    · refine jm_iconst (n := 140) X dX6_functionHolds_139 rfl ?_
      exact jm_zret X rfl k9 dX6_functionHolds_140
    · refine jm_iconst (n := 136) X dX6_functionHolds_135 rfl ?_
      refine jm_goto (n := 140) X dX6_functionHolds_136 (by decide) ?_
      exact jm_zret X rfl k9 dX6_functionHolds_140
def f6_functionHolds (N : Nat) (G : Sg → Int → Int → Int → Int → Int → Option (Sg × Int)) (σ0 : Sg) (x1 : Int) (x2 : Int) (x3 : Int) : Option (Sg × Int) :=
  bd (f5_letter σ0 ) fun σ1 r1 =>
  bd (f5_letter σ1 ) fun σ3 r3 =>
  bd (f5_letter σ3 ) fun σ5 r5 =>
  bd (f5_letter σ5 ) fun σ7 r7 =>
  bd (f5_function σ7 r1 r3 r5 r7) fun σ9 r9 =>
  ck (0 ≤ x1 ∧ x1 < 60) <|
  if (gA σ9 80 x1) = (11 : Int) then (bd (f6_bind σ9 r9 (-1 : Int)) fun σ13 r13 =>
  (b6_functionHolds_80 N G σ13 x1 x2 x3 r1 r3 r5 r7 r9 (gI σ9 124)))
  else ((b6_functionHolds_80 N G σ9 x1 x2 x3 r1 r3 r5 r7 r9 (gI σ9 124)))
set_option maxRecDepth 100000 in
theorem t6_functionHolds (l : Launch) {h : Nat → Nat} {cI cZ : ClassId} {D : va_G} {t1 t2 : Nat} (N : Nat) (G : Sg → Int → Int → Int → Int → Int → Option (Sg × Int)) (d : Nat) (hG : ∀ {σ0 : Sg} {x1 x2 x3 x4 x5 : Int}, ok σ0 → inR x1 → inR x2 → inR x3 → inR x4 → inR x5 → ctI (cE t1 t2) l (cW h cI cZ) D (mT cI cZ) yX6_holds wsX6_holds (rmh d) [.ref (h 139), .int (iI x1), .int (iI x2), .int (iI x3), .int (iI x4), .int (iI x5)] σ0 (G σ0 x1 x2 x3 x4 x5)) {σ0 : Sg} {x1 : Int} {x2 : Int} {x3 : Int} (k0 : ok σ0) (hx1 : inR x1) (hx2 : inR x2) (hx3 : inR x3) : ctI (cE t1 t2) l (cW h cI cZ) D (mT cI cZ) yX6_functionHolds wsX6_functionHolds (rm6_functionHolds d) [.ref (h 139), .int (iI x1), .int (iI x2), .int (iI x3)] σ0 (f6_functionHolds N G σ0 x1 x2 x3) := by
  refine of_Z (cE_ok t1 t2) (own := RX6) (lv := [(0, .ref (h 139)), (1, .int (iI x1)), (2, .int (iI x2)), (3, .int (iI x3))]) (by decide) rfl rfl (Nat.le_of_ble_eq_true rfl) rfl (fun p e s m below meth c sz X hA => ?_)
  rw [f6_functionHolds]
  refine jm_aload_n (n := 1) X 0 rfl dX6_functionHolds_0 rfl ?_
  refine jm_get (n := 4) X 6 5 1 cW_X6 rfl (by decide) (fun w h => List.mem_cons_of_mem _ (List.mem_append_left _ (List.mem_append_left _ (List.mem_append_right _ h)))) (List.mem_of_getElem? (i := 1) rfl) rfl dX6_functionHolds_1 rfl ?_
  refine jm_callVi (n := 7) (vs := []) (rest := []) X hA (t5_letter l k0 ) (cwV 0 X.2.2.2.2.1 gX6_functionHolds_X5_letter rfl rfl rfl (by decide +kernel) ⟨(show 1 + 1 ≤ 4 * d + 7 by omega), (show 8 + (1 + 11) + (21) ≤ 100 * d + 230 by omega)⟩) 7 4 cW_X5 rfl rfl (Nat.le_of_ble_eq_true rfl) dX6_functionHolds_4 rfl (fun σ1 r1 k1 h2 => ?_)
  refine jm_istore (n := 9) (lv' := [(4, .int (iI r1)), (0, .ref (h 139)), (1, .int (iI x1)), (2, .int (iI x2)), (3, .int (iI x3))]) X dX6_functionHolds_7 (by decide) rfl rfl ?_
  refine jm_aload_n (n := 10) X 1 rfl dX6_functionHolds_9 rfl ?_
  refine jm_get (n := 13) X 6 5 1 cW_X6 rfl (by decide) (fun w h => List.mem_cons_of_mem _ (List.mem_append_left _ (List.mem_append_left _ (List.mem_append_right _ h)))) (List.mem_of_getElem? (i := 1) rfl) rfl dX6_functionHolds_10 rfl ?_
  refine jm_callVi (n := 16) (vs := []) (rest := []) X hA (t5_letter l k1 ) (cwV 0 X.2.2.2.2.1 gX6_functionHolds_X5_letter rfl rfl rfl (by decide +kernel) ⟨(show 1 + 1 ≤ 4 * d + 7 by omega), (show 8 + (1 + 11) + (21) ≤ 100 * d + 230 by omega)⟩) 7 4 cW_X5 rfl rfl (Nat.le_of_ble_eq_true rfl) dX6_functionHolds_13 rfl (fun σ3 r3 k3 h4 => ?_)
  refine jm_istore (n := 18) (lv' := [(5, .int (iI r3)), (4, .int (iI r1)), (0, .ref (h 139)), (1, .int (iI x1)), (2, .int (iI x2)), (3, .int (iI x3))]) X dX6_functionHolds_16 (by decide) rfl rfl ?_
  refine jm_aload_n (n := 19) X 2 rfl dX6_functionHolds_18 rfl ?_
  refine jm_get (n := 22) X 6 5 1 cW_X6 rfl (by decide) (fun w h => List.mem_cons_of_mem _ (List.mem_append_left _ (List.mem_append_left _ (List.mem_append_right _ h)))) (List.mem_of_getElem? (i := 1) rfl) rfl dX6_functionHolds_19 rfl ?_
  refine jm_callVi (n := 25) (vs := []) (rest := []) X hA (t5_letter l k3 ) (cwV 0 X.2.2.2.2.1 gX6_functionHolds_X5_letter rfl rfl rfl (by decide +kernel) ⟨(show 1 + 1 ≤ 4 * d + 7 by omega), (show 8 + (1 + 11) + (21) ≤ 100 * d + 230 by omega)⟩) 7 4 cW_X5 rfl rfl (Nat.le_of_ble_eq_true rfl) dX6_functionHolds_22 rfl (fun σ5 r5 k5 h6 => ?_)
  refine jm_istore (n := 27) (lv' := [(6, .int (iI r5)), (5, .int (iI r3)), (4, .int (iI r1)), (0, .ref (h 139)), (1, .int (iI x1)), (2, .int (iI x2)), (3, .int (iI x3))]) X dX6_functionHolds_25 (by decide) rfl rfl ?_
  refine jm_aload_n (n := 28) X 3 rfl dX6_functionHolds_27 rfl ?_
  refine jm_get (n := 31) X 6 5 1 cW_X6 rfl (by decide) (fun w h => List.mem_cons_of_mem _ (List.mem_append_left _ (List.mem_append_left _ (List.mem_append_right _ h)))) (List.mem_of_getElem? (i := 1) rfl) rfl dX6_functionHolds_28 rfl ?_
  refine jm_callVi (n := 34) (vs := []) (rest := []) X hA (t5_letter l k5 ) (cwV 0 X.2.2.2.2.1 gX6_functionHolds_X5_letter rfl rfl rfl (by decide +kernel) ⟨(show 1 + 1 ≤ 4 * d + 7 by omega), (show 8 + (1 + 11) + (21) ≤ 100 * d + 230 by omega)⟩) 7 4 cW_X5 rfl rfl (Nat.le_of_ble_eq_true rfl) dX6_functionHolds_31 rfl (fun σ7 r7 k7 h8 => ?_)
  refine jm_istore (n := 36) (lv' := [(7, .int (iI r7)), (6, .int (iI r5)), (5, .int (iI r3)), (4, .int (iI r1)), (0, .ref (h 139)), (1, .int (iI x1)), (2, .int (iI x2)), (3, .int (iI x3))]) X dX6_functionHolds_34 (by decide) rfl rfl ?_
  refine jm_aload_n (n := 37) X 4 rfl dX6_functionHolds_36 rfl ?_
  refine jm_get (n := 40) X 6 5 1 cW_X6 rfl (by decide) (fun w h => List.mem_cons_of_mem _ (List.mem_append_left _ (List.mem_append_left _ (List.mem_append_right _ h)))) (List.mem_of_getElem? (i := 1) rfl) rfl dX6_functionHolds_37 rfl ?_
  refine jm_iload (n := 42) X 3 rfl dX6_functionHolds_40 rfl ?_
  refine jm_iload (n := 44) X 2 rfl dX6_functionHolds_42 rfl ?_
  refine jm_iload (n := 46) X 1 rfl dX6_functionHolds_44 rfl ?_
  refine jm_iload (n := 48) X 0 rfl dX6_functionHolds_46 rfl ?_
  refine jm_callVi (n := 51) (vs := [.int (iI r1), .int (iI r3), .int (iI r5), .int (iI r7)]) (rest := []) X hA (t5_function l k7 h2 h4 h6 h8) (cwV 4 X.2.2.2.2.1 gX6_functionHolds_X5_function rfl rfl rfl (by decide +kernel) ⟨(show 1 + 1 ≤ 4 * d + 7 by omega), (show 8 + (6 + 11) + (21) ≤ 100 * d + 230 by omega)⟩) 7 4 cW_X5 rfl rfl (Nat.le_of_ble_eq_true rfl) dX6_functionHolds_48 rfl (fun σ9 r9 k9 h10 => ?_)
  refine jm_istore (n := 53) (lv' := [(8, .int (iI r9)), (7, .int (iI r7)), (6, .int (iI r5)), (5, .int (iI r3)), (4, .int (iI r1)), (0, .ref (h 139)), (1, .int (iI x1)), (2, .int (iI x2)), (3, .int (iI x3))]) X dX6_functionHolds_51 (by decide) rfl rfl ?_
  refine jm_aload_n (n := 54) X 5 rfl dX6_functionHolds_53 rfl ?_
  refine jm_get (n := 57) X 6 5 4 cW_X6 rfl (by decide) (fun w h => List.mem_cons_of_mem _ (List.mem_append_left _ (List.mem_append_left _ (List.mem_append_right _ h)))) (List.mem_of_getElem? (i := 2) rfl) rfl dX6_functionHolds_54 rfl ?_
  refine jm_istore (n := 59) (lv' := [(9, .int (iI (gI σ9 124))), (8, .int (iI r9)), (7, .int (iI r7)), (6, .int (iI r5)), (5, .int (iI r3)), (4, .int (iI r1)), (0, .ref (h 139)), (1, .int (iI x1)), (2, .int (iI x2)), (3, .int (iI x3))]) X dX6_functionHolds_57 (by decide) rfl rfl ?_
  refine jm_aload_n (n := 60) X 6 rfl dX6_functionHolds_59 rfl ?_
  refine jm_get (n := 63) X 6 5 0 cW_X6 rfl (by decide) (fun w h => List.mem_cons_of_mem _ (List.mem_append_left _ (List.mem_append_left _ (List.mem_append_right _ h)))) (List.mem_of_getElem? (i := 3) rfl) rfl dX6_functionHolds_60 rfl ?_
  refine jm_get (n := 66) X 1 3 0 cW_X4 rfl (by decide) (fun w h => List.mem_cons_of_mem _ (List.mem_append_left _ (List.mem_append_right _ h))) (List.mem_of_getElem? (i := 4) rfl) rfl dX6_functionHolds_63 rfl ?_
  refine jm_iload_n (n := 67) X 7 rfl dX6_functionHolds_66 rfl ?_
  refine jm_ald (n := 68) X 9 0 80 cA_80 rfl rfl hx1 dX6_functionHolds_67 rfl (fun h11 => ?_)
  refine jm_bipush (n := 70) X dX6_functionHolds_68 (by decide) rfl ?_
  refine jm_icmp_ne (n := 73) (tgt := 80) X dX6_functionHolds_70 (by decide) (k9.2 80 _) (by decide) rfl (fun c12 => ?_) (fun c12 => ?_)
  · refine jm_aload_n (n := 74) X 6 rfl dX6_functionHolds_73 rfl ?_
    refine jm_iload (n := 76) X 1 rfl dX6_functionHolds_74 rfl ?_
    refine jm_iconst (n := 77) X dX6_functionHolds_76 rfl ?_
    refine jm_callVv (n := 80) (vs := [.int (iI r9), .int (iI (-1 : Int))]) (rest := []) X hA (t6_bind l k9 h10 (by decide)) (cwV 2 X.2.2.2.2.1 gX6_functionHolds_X6_bind rfl rfl rfl (by decide +kernel) ⟨(show 0 + 1 ≤ 4 * d + 7 by omega), (show 8 + (3 + 11) + (0) ≤ 100 * d + 230 by omega)⟩) 6 5 cW_X6 rfl rfl (Nat.le_of_ble_eq_true rfl) dX6_functionHolds_77 rfl (fun σ13 r13 k13 => ?_)
    refine jm_perm [6, 7, 8, 9, 5, 4, 3, 2, 1, 0] rfl ?_
    exact u6_functionHolds_80 X hA N G d hG σ13 x1 x2 x3 r1 r3 r5 r7 r9 (gI σ9 124) k13 hx1 hx2 hx3 h2 h4 h6 h8 h10 (k9.1 124)
  · refine jm_perm [6, 7, 8, 9, 5, 4, 3, 2, 1, 0] rfl ?_
    exact u6_functionHolds_80 X hA N G d hG σ9 x1 x2 x3 r1 r3 r5 r7 r9 (gI σ9 124) k9 hx1 hx2 hx3 h2 h4 h6 h8 h10 (k9.1 124)
abbrev rm6_callHolds (d : Nat) : Room := { frames := 4 * d + 7, cells := 0, slots := 0, locals := 100 * d + 230 }
def f6_callHolds (N : Nat) (G : Sg → Int → Int → Int → Int → Int → Option (Sg × Int)) (σ0 : Sg) (x1 : Int) (x2 : Int) (x3 : Int) (x4 : Int) (x5 : Int) : Option (Sg × Int) :=
  bd (f5_letter σ0 ) fun σ1 r1 =>
  bd (f5_letter σ1 ) fun σ3 r3 =>
  bd (f5_letter σ3 ) fun σ5 r5 =>
  bd (f5_function σ5 r1 x3 x2 r3) fun σ7 r7 =>
  ck (0 ≤ x1 ∧ x1 < 60) <|
  ck (inR (x5 + (1 : Int))) <|
  bd (G σ7 (gA σ7 81 x1) r7 r5 x4 (x5 + (1 : Int))) fun σ11 r11 =>
  if r11 = 0 then (ck ((0 : Int) = 0 ∨ (0 : Int) = 1) (some (σ11, (0 : Int))))
  else (ck (0 ≤ x1 ∧ x1 < 60) <|
  ck (inR (x5 + (1 : Int))) <|
  bd (G σ11 (gA σ11 82 x1) r1 r3 r5 (x5 + (1 : Int))) fun σ16 r16 =>
  if r16 = 0 then (ck ((0 : Int) = 0 ∨ (0 : Int) = 1) (some (σ16, (0 : Int))))
  else (ck ((1 : Int) = 0 ∨ (1 : Int) = 1) (some (σ16, (1 : Int)))))
set_option maxRecDepth 100000 in
theorem t6_callHolds (l : Launch) {h : Nat → Nat} {cI cZ : ClassId} {D : va_G} {t1 t2 : Nat} (N : Nat) (G : Sg → Int → Int → Int → Int → Int → Option (Sg × Int)) (d : Nat) (hG : ∀ {σ0 : Sg} {x1 x2 x3 x4 x5 : Int}, ok σ0 → inR x1 → inR x2 → inR x3 → inR x4 → inR x5 → ctI (cE t1 t2) l (cW h cI cZ) D (mT cI cZ) yX6_holds wsX6_holds (rmh d) [.ref (h 139), .int (iI x1), .int (iI x2), .int (iI x3), .int (iI x4), .int (iI x5)] σ0 (G σ0 x1 x2 x3 x4 x5)) {σ0 : Sg} {x1 : Int} {x2 : Int} {x3 : Int} {x4 : Int} {x5 : Int} (k0 : ok σ0) (hx1 : inR x1) (hx2 : inR x2) (hx3 : inR x3) (hx4 : inR x4) (hx5 : inR x5) : ctI (cE t1 t2) l (cW h cI cZ) D (mT cI cZ) yX6_callHolds wsX6_callHolds (rm6_callHolds d) [.ref (h 139), .int (iI x1), .int (iI x2), .int (iI x3), .int (iI x4), .int (iI x5)] σ0 (f6_callHolds N G σ0 x1 x2 x3 x4 x5) := by
  refine of_Z (cE_ok t1 t2) (own := RX6) (lv := [(0, .ref (h 139)), (1, .int (iI x1)), (2, .int (iI x2)), (3, .int (iI x3)), (4, .int (iI x4)), (5, .int (iI x5))]) (by decide) rfl rfl (Nat.le_of_ble_eq_true rfl) rfl (fun p e s m below meth c sz X hA => ?_)
  rw [f6_callHolds]
  refine jm_aload_n (n := 1) X 0 rfl dX6_callHolds_0 rfl ?_
  refine jm_get (n := 4) X 6 5 1 cW_X6 rfl (by decide) (fun w h => List.mem_cons_of_mem _ (List.mem_append_left _ (List.mem_append_left _ (List.mem_append_right _ h)))) (List.mem_of_getElem? (i := 1) rfl) rfl dX6_callHolds_1 rfl ?_
  refine jm_callVi (n := 7) (vs := []) (rest := []) X hA (t5_letter l k0 ) (cwV 0 X.2.2.2.2.1 gX6_callHolds_X5_letter rfl rfl rfl (by decide +kernel) ⟨(show 1 + 1 ≤ 4 * d + 7 by omega), (show 8 + (1 + 11) + (21) ≤ 100 * d + 230 by omega)⟩) 7 4 cW_X5 rfl rfl (Nat.le_of_ble_eq_true rfl) dX6_callHolds_4 rfl (fun σ1 r1 k1 h2 => ?_)
  refine jm_istore (n := 9) (lv' := [(6, .int (iI r1)), (0, .ref (h 139)), (1, .int (iI x1)), (2, .int (iI x2)), (3, .int (iI x3)), (4, .int (iI x4)), (5, .int (iI x5))]) X dX6_callHolds_7 (by decide) rfl rfl ?_
  refine jm_aload_n (n := 10) X 1 rfl dX6_callHolds_9 rfl ?_
  refine jm_get (n := 13) X 6 5 1 cW_X6 rfl (by decide) (fun w h => List.mem_cons_of_mem _ (List.mem_append_left _ (List.mem_append_left _ (List.mem_append_right _ h)))) (List.mem_of_getElem? (i := 1) rfl) rfl dX6_callHolds_10 rfl ?_
  refine jm_callVi (n := 16) (vs := []) (rest := []) X hA (t5_letter l k1 ) (cwV 0 X.2.2.2.2.1 gX6_callHolds_X5_letter rfl rfl rfl (by decide +kernel) ⟨(show 1 + 1 ≤ 4 * d + 7 by omega), (show 8 + (1 + 11) + (21) ≤ 100 * d + 230 by omega)⟩) 7 4 cW_X5 rfl rfl (Nat.le_of_ble_eq_true rfl) dX6_callHolds_13 rfl (fun σ3 r3 k3 h4 => ?_)
  refine jm_istore (n := 18) (lv' := [(7, .int (iI r3)), (6, .int (iI r1)), (0, .ref (h 139)), (1, .int (iI x1)), (2, .int (iI x2)), (3, .int (iI x3)), (4, .int (iI x4)), (5, .int (iI x5))]) X dX6_callHolds_16 (by decide) rfl rfl ?_
  refine jm_aload_n (n := 19) X 2 rfl dX6_callHolds_18 rfl ?_
  refine jm_get (n := 22) X 6 5 1 cW_X6 rfl (by decide) (fun w h => List.mem_cons_of_mem _ (List.mem_append_left _ (List.mem_append_left _ (List.mem_append_right _ h)))) (List.mem_of_getElem? (i := 1) rfl) rfl dX6_callHolds_19 rfl ?_
  refine jm_callVi (n := 25) (vs := []) (rest := []) X hA (t5_letter l k3 ) (cwV 0 X.2.2.2.2.1 gX6_callHolds_X5_letter rfl rfl rfl (by decide +kernel) ⟨(show 1 + 1 ≤ 4 * d + 7 by omega), (show 8 + (1 + 11) + (21) ≤ 100 * d + 230 by omega)⟩) 7 4 cW_X5 rfl rfl (Nat.le_of_ble_eq_true rfl) dX6_callHolds_22 rfl (fun σ5 r5 k5 h6 => ?_)
  refine jm_istore (n := 27) (lv' := [(8, .int (iI r5)), (7, .int (iI r3)), (6, .int (iI r1)), (0, .ref (h 139)), (1, .int (iI x1)), (2, .int (iI x2)), (3, .int (iI x3)), (4, .int (iI x4)), (5, .int (iI x5))]) X dX6_callHolds_25 (by decide) rfl rfl ?_
  refine jm_aload_n (n := 28) X 3 rfl dX6_callHolds_27 rfl ?_
  refine jm_get (n := 31) X 6 5 1 cW_X6 rfl (by decide) (fun w h => List.mem_cons_of_mem _ (List.mem_append_left _ (List.mem_append_left _ (List.mem_append_right _ h)))) (List.mem_of_getElem? (i := 1) rfl) rfl dX6_callHolds_28 rfl ?_
  refine jm_iload (n := 33) X 2 rfl dX6_callHolds_31 rfl ?_
  refine jm_iload_n (n := 34) X 6 rfl dX6_callHolds_33 rfl ?_
  refine jm_iload_n (n := 35) X 5 rfl dX6_callHolds_34 rfl ?_
  refine jm_iload (n := 37) X 1 rfl dX6_callHolds_35 rfl ?_
  refine jm_callVi (n := 40) (vs := [.int (iI r1), .int (iI x3), .int (iI x2), .int (iI r3)]) (rest := []) X hA (t5_function l k5 h2 hx3 hx2 h4) (cwV 4 X.2.2.2.2.1 gX6_callHolds_X5_function rfl rfl rfl (by decide +kernel) ⟨(show 1 + 1 ≤ 4 * d + 7 by omega), (show 8 + (6 + 11) + (21) ≤ 100 * d + 230 by omega)⟩) 7 4 cW_X5 rfl rfl (Nat.le_of_ble_eq_true rfl) dX6_callHolds_37 rfl (fun σ7 r7 k7 h8 => ?_)
  refine jm_istore (n := 42) (lv' := [(9, .int (iI r7)), (8, .int (iI r5)), (7, .int (iI r3)), (6, .int (iI r1)), (0, .ref (h 139)), (1, .int (iI x1)), (2, .int (iI x2)), (3, .int (iI x3)), (4, .int (iI x4)), (5, .int (iI x5))]) X dX6_callHolds_40 (by decide) rfl rfl ?_
  refine jm_aload_n (n := 43) X 4 rfl dX6_callHolds_42 rfl ?_
  refine jm_aload_n (n := 44) X 4 rfl dX6_callHolds_43 rfl ?_
  refine jm_get (n := 47) X 6 5 0 cW_X6 rfl (by decide) (fun w h => List.mem_cons_of_mem _ (List.mem_append_left _ (List.mem_append_left _ (List.mem_append_right _ h)))) (List.mem_of_getElem? (i := 2) rfl) rfl dX6_callHolds_44 rfl ?_
  refine jm_get (n := 50) X 1 3 1 cW_X4 rfl (by decide) (fun w h => List.mem_cons_of_mem _ (List.mem_append_left _ (List.mem_append_right _ h))) (List.mem_of_getElem? (i := 3) rfl) rfl dX6_callHolds_47 rfl ?_
  refine jm_iload_n (n := 51) X 5 rfl dX6_callHolds_50 rfl ?_
  refine jm_ald (n := 52) X 10 0 81 cA_81 rfl rfl hx1 dX6_callHolds_51 rfl (fun h9 => ?_)
  refine jm_iload (n := 54) X 0 rfl dX6_callHolds_52 rfl ?_
  refine jm_iload (n := 56) X 1 rfl dX6_callHolds_54 rfl ?_
  refine jm_iload (n := 58) X 8 rfl dX6_callHolds_56 rfl ?_
  refine jm_iload (n := 60) X 9 rfl dX6_callHolds_58 rfl ?_
  refine jm_iconst (n := 61) X dX6_callHolds_60 rfl ?_
  refine jm_iadd (n := 62) X dX6_callHolds_61 rfl (fun h10 => ?_)
  refine jm_callVi (n := 65) (vs := [.int (iI (gA σ7 81 x1)), .int (iI r7), .int (iI r5), .int (iI x4), .int (iI (x5 + (1 : Int)))]) (rest := []) X hA (hG k7 (k7.2 81 _) h8 h6 hx4 h10) (cwV 5 X.2.2.2.2.1 gX6_callHolds_X6_holds rfl rfl rfl (by decide +kernel) ⟨(show 4 * d + 6 + 1 ≤ 4 * d + 7 by omega), (show 8 + (7 + 11) + (100 * d + 200) ≤ 100 * d + 230 by omega)⟩) 6 5 cW_X6 rfl rfl (Nat.le_of_ble_eq_true rfl) dX6_callHolds_62 rfl (fun σ11 r11 k11 h12 => ?_)
  refine jm_if_eq (n := 68) (tgt := 98) X dX6_callHolds_65 (by decide) h12 rfl (fun c13 => ?_) (fun c13 => ?_)
  · refine jm_iconst (n := 99) X dX6_callHolds_98 rfl ?_
    exact jm_zret X rfl k11 dX6_callHolds_99
  · refine jm_aload_n (n := 69) X 4 rfl dX6_callHolds_68 rfl ?_
    refine jm_aload_n (n := 70) X 4 rfl dX6_callHolds_69 rfl ?_
    refine jm_get (n := 73) X 6 5 0 cW_X6 rfl (by decide) (fun w h => List.mem_cons_of_mem _ (List.mem_append_left _ (List.mem_append_left _ (List.mem_append_right _ h)))) (List.mem_of_getElem? (i := 2) rfl) rfl dX6_callHolds_70 rfl ?_
    refine jm_get (n := 76) X 1 3 2 cW_X4 rfl (by decide) (fun w h => List.mem_cons_of_mem _ (List.mem_append_left _ (List.mem_append_right _ h))) (List.mem_of_getElem? (i := 4) rfl) rfl dX6_callHolds_73 rfl ?_
    refine jm_iload_n (n := 77) X 5 rfl dX6_callHolds_76 rfl ?_
    refine jm_ald (n := 78) X 11 0 82 cA_82 rfl rfl hx1 dX6_callHolds_77 rfl (fun h14 => ?_)
    refine jm_iload (n := 80) X 3 rfl dX6_callHolds_78 rfl ?_
    refine jm_iload (n := 82) X 2 rfl dX6_callHolds_80 rfl ?_
    refine jm_iload (n := 84) X 1 rfl dX6_callHolds_82 rfl ?_
    refine jm_iload (n := 86) X 9 rfl dX6_callHolds_84 rfl ?_
    refine jm_iconst (n := 87) X dX6_callHolds_86 rfl ?_
    refine jm_iadd (n := 88) X dX6_callHolds_87 rfl (fun h15 => ?_)
    refine jm_callVi (n := 91) (vs := [.int (iI (gA σ11 82 x1)), .int (iI r1), .int (iI r3), .int (iI r5), .int (iI (x5 + (1 : Int)))]) (rest := []) X hA (hG k11 (k11.2 82 _) h2 h4 h6 h15) (cwV 5 X.2.2.2.2.1 gX6_callHolds_X6_holds rfl rfl rfl (by decide +kernel) ⟨(show 4 * d + 6 + 1 ≤ 4 * d + 7 by omega), (show 8 + (7 + 11) + (100 * d + 200) ≤ 100 * d + 230 by omega)⟩) 6 5 cW_X6 rfl rfl (Nat.le_of_ble_eq_true rfl) dX6_callHolds_88 rfl (fun σ16 r16 k16 h17 => ?_)
    refine jm_if_eq (n := 94) (tgt := 98) X dX6_callHolds_91 (by decide) h17 rfl (fun c18 => ?_) (fun c18 => ?_)
    · refine jm_iconst (n := 99) X dX6_callHolds_98 rfl ?_
      exact jm_zret X rfl k16 dX6_callHolds_99
    · refine jm_iconst (n := 95) X dX6_callHolds_94 rfl ?_
      refine jm_goto (n := 99) X dX6_callHolds_95 (by decide) ?_
      exact jm_zret X rfl k16 dX6_callHolds_99
abbrev rm6_numbersHold (d : Nat) : Room := { frames := 4 * d + 7, cells := 0, slots := 0, locals := 100 * d + 230 }
def f6_numbersHold (N : Nat) (G : Sg → Int → Int → Int → Int → Int → Option (Sg × Int)) (σ0 : Sg) (x1 : Int) (x2 : Int) (x3 : Int) (x4 : Int) : Option (Sg × Int) :=
  bd (f5_letter σ0 ) fun σ1 r1 =>
  ck (0 ≤ x1 ∧ x1 < 60) <|
  ck (inR (x4 + (1 : Int))) <|
  bd (G σ1 (gA σ1 81 x1) (0 : Int) r1 x3 (x4 + (1 : Int))) fun σ5 r5 =>
  if r5 = 0 then (ck ((0 : Int) = 0 ∨ (0 : Int) = 1) (some (σ5, (0 : Int))))
  else (ck (0 ≤ x1 ∧ x1 < 60) <|
  ck (inR (x4 + (1 : Int))) <|
  bd (G σ5 (gA σ5 82 x1) (0 : Int) x2 r1 (x4 + (1 : Int))) fun σ10 r10 =>
  if r10 = 0 then (ck ((0 : Int) = 0 ∨ (0 : Int) = 1) (some (σ10, (0 : Int))))
  else (ck ((1 : Int) = 0 ∨ (1 : Int) = 1) (some (σ10, (1 : Int)))))
set_option maxRecDepth 100000 in
theorem t6_numbersHold (l : Launch) {h : Nat → Nat} {cI cZ : ClassId} {D : va_G} {t1 t2 : Nat} (N : Nat) (G : Sg → Int → Int → Int → Int → Int → Option (Sg × Int)) (d : Nat) (hG : ∀ {σ0 : Sg} {x1 x2 x3 x4 x5 : Int}, ok σ0 → inR x1 → inR x2 → inR x3 → inR x4 → inR x5 → ctI (cE t1 t2) l (cW h cI cZ) D (mT cI cZ) yX6_holds wsX6_holds (rmh d) [.ref (h 139), .int (iI x1), .int (iI x2), .int (iI x3), .int (iI x4), .int (iI x5)] σ0 (G σ0 x1 x2 x3 x4 x5)) {σ0 : Sg} {x1 : Int} {x2 : Int} {x3 : Int} {x4 : Int} (k0 : ok σ0) (hx1 : inR x1) (hx2 : inR x2) (hx3 : inR x3) (hx4 : inR x4) : ctI (cE t1 t2) l (cW h cI cZ) D (mT cI cZ) yX6_numbersHold wsX6_numbersHold (rm6_numbersHold d) [.ref (h 139), .int (iI x1), .int (iI x2), .int (iI x3), .int (iI x4)] σ0 (f6_numbersHold N G σ0 x1 x2 x3 x4) := by
  refine of_Z (cE_ok t1 t2) (own := RX6) (lv := [(0, .ref (h 139)), (1, .int (iI x1)), (2, .int (iI x2)), (3, .int (iI x3)), (4, .int (iI x4))]) (by decide) rfl rfl (Nat.le_of_ble_eq_true rfl) rfl (fun p e s m below meth c sz X hA => ?_)
  rw [f6_numbersHold]
  refine jm_aload_n (n := 1) X 0 rfl dX6_numbersHold_0 rfl ?_
  refine jm_get (n := 4) X 6 5 1 cW_X6 rfl (by decide) (fun w h => List.mem_cons_of_mem _ (List.mem_append_left _ (List.mem_append_left _ (List.mem_append_right _ h)))) (List.mem_of_getElem? (i := 1) rfl) rfl dX6_numbersHold_1 rfl ?_
  refine jm_callVi (n := 7) (vs := []) (rest := []) X hA (t5_letter l k0 ) (cwV 0 X.2.2.2.2.1 gX6_numbersHold_X5_letter rfl rfl rfl (by decide +kernel) ⟨(show 1 + 1 ≤ 4 * d + 7 by omega), (show 8 + (1 + 11) + (21) ≤ 100 * d + 230 by omega)⟩) 7 4 cW_X5 rfl rfl (Nat.le_of_ble_eq_true rfl) dX6_numbersHold_4 rfl (fun σ1 r1 k1 h2 => ?_)
  refine jm_istore (n := 9) (lv' := [(5, .int (iI r1)), (0, .ref (h 139)), (1, .int (iI x1)), (2, .int (iI x2)), (3, .int (iI x3)), (4, .int (iI x4))]) X dX6_numbersHold_7 (by decide) rfl rfl ?_
  refine jm_aload_n (n := 10) X 1 rfl dX6_numbersHold_9 rfl ?_
  refine jm_aload_n (n := 11) X 1 rfl dX6_numbersHold_10 rfl ?_
  refine jm_get (n := 14) X 6 5 0 cW_X6 rfl (by decide) (fun w h => List.mem_cons_of_mem _ (List.mem_append_left _ (List.mem_append_left _ (List.mem_append_right _ h)))) (List.mem_of_getElem? (i := 2) rfl) rfl dX6_numbersHold_11 rfl ?_
  refine jm_get (n := 17) X 1 3 1 cW_X4 rfl (by decide) (fun w h => List.mem_cons_of_mem _ (List.mem_append_left _ (List.mem_append_right _ h))) (List.mem_of_getElem? (i := 3) rfl) rfl dX6_numbersHold_14 rfl ?_
  refine jm_iload_n (n := 18) X 2 rfl dX6_numbersHold_17 rfl ?_
  refine jm_ald (n := 19) X 10 0 81 cA_81 rfl rfl hx1 dX6_numbersHold_18 rfl (fun h3 => ?_)
  refine jm_iconst (n := 20) X dX6_numbersHold_19 rfl ?_
  refine jm_iload (n := 22) X 0 rfl dX6_numbersHold_20 rfl ?_
  refine jm_iload_n (n := 23) X 4 rfl dX6_numbersHold_22 rfl ?_
  refine jm_iload (n := 25) X 5 rfl dX6_numbersHold_23 rfl ?_
  refine jm_iconst (n := 26) X dX6_numbersHold_25 rfl ?_
  refine jm_iadd (n := 27) X dX6_numbersHold_26 rfl (fun h4 => ?_)
  refine jm_callVi (n := 30) (vs := [.int (iI (gA σ1 81 x1)), .int (iI (0 : Int)), .int (iI r1), .int (iI x3), .int (iI (x4 + (1 : Int)))]) (rest := []) X hA (hG k1 (k1.2 81 _) (by decide) h2 hx3 h4) (cwV 5 X.2.2.2.2.1 gX6_numbersHold_X6_holds rfl rfl rfl (by decide +kernel) ⟨(show 4 * d + 6 + 1 ≤ 4 * d + 7 by omega), (show 8 + (7 + 11) + (100 * d + 200) ≤ 100 * d + 230 by omega)⟩) 6 5 cW_X6 rfl rfl (Nat.le_of_ble_eq_true rfl) dX6_numbersHold_27 rfl (fun σ5 r5 k5 h6 => ?_)
  refine jm_if_eq (n := 33) (tgt := 61) X dX6_numbersHold_30 (by decide) h6 rfl (fun c7 => ?_) (fun c7 => ?_)
  · refine jm_iconst (n := 62) X dX6_numbersHold_61 rfl ?_
    exact jm_zret X rfl k5 dX6_numbersHold_62
  · refine jm_aload_n (n := 34) X 1 rfl dX6_numbersHold_33 rfl ?_
    refine jm_aload_n (n := 35) X 1 rfl dX6_numbersHold_34 rfl ?_
    refine jm_get (n := 38) X 6 5 0 cW_X6 rfl (by decide) (fun w h => List.mem_cons_of_mem _ (List.mem_append_left _ (List.mem_append_left _ (List.mem_append_right _ h)))) (List.mem_of_getElem? (i := 2) rfl) rfl dX6_numbersHold_35 rfl ?_
    refine jm_get (n := 41) X 1 3 2 cW_X4 rfl (by decide) (fun w h => List.mem_cons_of_mem _ (List.mem_append_left _ (List.mem_append_right _ h))) (List.mem_of_getElem? (i := 4) rfl) rfl dX6_numbersHold_38 rfl ?_
    refine jm_iload_n (n := 42) X 2 rfl dX6_numbersHold_41 rfl ?_
    refine jm_ald (n := 43) X 11 0 82 cA_82 rfl rfl hx1 dX6_numbersHold_42 rfl (fun h8 => ?_)
    refine jm_iconst (n := 44) X dX6_numbersHold_43 rfl ?_
    refine jm_iload_n (n := 45) X 3 rfl dX6_numbersHold_44 rfl ?_
    refine jm_iload (n := 47) X 0 rfl dX6_numbersHold_45 rfl ?_
    refine jm_iload (n := 49) X 5 rfl dX6_numbersHold_47 rfl ?_
    refine jm_iconst (n := 50) X dX6_numbersHold_49 rfl ?_
    refine jm_iadd (n := 51) X dX6_numbersHold_50 rfl (fun h9 => ?_)
    refine jm_callVi (n := 54) (vs := [.int (iI (gA σ5 82 x1)), .int (iI (0 : Int)), .int (iI x2), .int (iI r1), .int (iI (x4 + (1 : Int)))]) (rest := []) X hA (hG k5 (k5.2 82 _) (by decide) hx2 h2 h9) (cwV 5 X.2.2.2.2.1 gX6_numbersHold_X6_holds rfl rfl rfl (by decide +kernel) ⟨(show 4 * d + 6 + 1 ≤ 4 * d + 7 by omega), (show 8 + (7 + 11) + (100 * d + 200) ≤ 100 * d + 230 by omega)⟩) 6 5 cW_X6 rfl rfl (Nat.le_of_ble_eq_true rfl) dX6_numbersHold_51 rfl (fun σ10 r10 k10 h11 => ?_)
    refine jm_if_eq (n := 57) (tgt := 61) X dX6_numbersHold_54 (by decide) h11 rfl (fun c12 => ?_) (fun c12 => ?_)
    · refine jm_iconst (n := 62) X dX6_numbersHold_61 rfl ?_
      exact jm_zret X rfl k10 dX6_numbersHold_62
    · refine jm_iconst (n := 58) X dX6_numbersHold_57 rfl ?_
      refine jm_goto (n := 62) X dX6_numbersHold_58 (by decide) ?_
      exact jm_zret X rfl k10 dX6_numbersHold_62
abbrev rm6_ifHolds (d : Nat) : Room := { frames := 4 * d + 7, cells := 0, slots := 0, locals := 100 * d + 230 }
def f6_ifHolds (N : Nat) (G : Sg → Int → Int → Int → Int → Int → Option (Sg × Int)) (σ0 : Sg) (x1 : Int) (x2 : Int) (x3 : Int) (x4 : Int) (x5 : Int) : Option (Sg × Int) :=
  bd (f5_letter σ0 ) fun σ1 r1 =>
  ck (0 ≤ x1 ∧ x1 < 60) <|
  ck (inR (x5 + (1 : Int))) <|
  bd (G σ1 (gA σ1 81 x1) (1 : Int) r1 x4 (x5 + (1 : Int))) fun σ5 r5 =>
  if r5 = 0 then (ck ((0 : Int) = 0 ∨ (0 : Int) = 1) (some (σ5, (0 : Int))))
  else (ck (0 ≤ x1 ∧ x1 < 60) <|
  ck (inR (x5 + (1 : Int))) <|
  bd (G σ5 (gA σ5 82 x1) x2 x3 r1 (x5 + (1 : Int))) fun σ10 r10 =>
  if r10 = 0 then (ck ((0 : Int) = 0 ∨ (0 : Int) = 1) (some (σ10, (0 : Int))))
  else (ck (0 ≤ x1 ∧ x1 < 60) <|
  ck (inR (x5 + (1 : Int))) <|
  bd (G σ10 (gA σ10 83 x1) x2 x3 r1 (x5 + (1 : Int))) fun σ15 r15 =>
  if r15 = 0 then (ck ((0 : Int) = 0 ∨ (0 : Int) = 1) (some (σ15, (0 : Int))))
  else (ck ((1 : Int) = 0 ∨ (1 : Int) = 1) (some (σ15, (1 : Int))))))
set_option maxRecDepth 100000 in
theorem t6_ifHolds (l : Launch) {h : Nat → Nat} {cI cZ : ClassId} {D : va_G} {t1 t2 : Nat} (N : Nat) (G : Sg → Int → Int → Int → Int → Int → Option (Sg × Int)) (d : Nat) (hG : ∀ {σ0 : Sg} {x1 x2 x3 x4 x5 : Int}, ok σ0 → inR x1 → inR x2 → inR x3 → inR x4 → inR x5 → ctI (cE t1 t2) l (cW h cI cZ) D (mT cI cZ) yX6_holds wsX6_holds (rmh d) [.ref (h 139), .int (iI x1), .int (iI x2), .int (iI x3), .int (iI x4), .int (iI x5)] σ0 (G σ0 x1 x2 x3 x4 x5)) {σ0 : Sg} {x1 : Int} {x2 : Int} {x3 : Int} {x4 : Int} {x5 : Int} (k0 : ok σ0) (hx1 : inR x1) (hx2 : inR x2) (hx3 : inR x3) (hx4 : inR x4) (hx5 : inR x5) : ctI (cE t1 t2) l (cW h cI cZ) D (mT cI cZ) yX6_ifHolds wsX6_ifHolds (rm6_ifHolds d) [.ref (h 139), .int (iI x1), .int (iI x2), .int (iI x3), .int (iI x4), .int (iI x5)] σ0 (f6_ifHolds N G σ0 x1 x2 x3 x4 x5) := by
  refine of_Z (cE_ok t1 t2) (own := RX6) (lv := [(0, .ref (h 139)), (1, .int (iI x1)), (2, .int (iI x2)), (3, .int (iI x3)), (4, .int (iI x4)), (5, .int (iI x5))]) (by decide) rfl rfl (Nat.le_of_ble_eq_true rfl) rfl (fun p e s m below meth c sz X hA => ?_)
  rw [f6_ifHolds]
  refine jm_aload_n (n := 1) X 0 rfl dX6_ifHolds_0 rfl ?_
  refine jm_get (n := 4) X 6 5 1 cW_X6 rfl (by decide) (fun w h => List.mem_cons_of_mem _ (List.mem_append_left _ (List.mem_append_left _ (List.mem_append_right _ h)))) (List.mem_of_getElem? (i := 1) rfl) rfl dX6_ifHolds_1 rfl ?_
  refine jm_callVi (n := 7) (vs := []) (rest := []) X hA (t5_letter l k0 ) (cwV 0 X.2.2.2.2.1 gX6_ifHolds_X5_letter rfl rfl rfl (by decide +kernel) ⟨(show 1 + 1 ≤ 4 * d + 7 by omega), (show 8 + (1 + 11) + (21) ≤ 100 * d + 230 by omega)⟩) 7 4 cW_X5 rfl rfl (Nat.le_of_ble_eq_true rfl) dX6_ifHolds_4 rfl (fun σ1 r1 k1 h2 => ?_)
  refine jm_istore (n := 9) (lv' := [(6, .int (iI r1)), (0, .ref (h 139)), (1, .int (iI x1)), (2, .int (iI x2)), (3, .int (iI x3)), (4, .int (iI x4)), (5, .int (iI x5))]) X dX6_ifHolds_7 (by decide) rfl rfl ?_
  refine jm_aload_n (n := 10) X 1 rfl dX6_ifHolds_9 rfl ?_
  refine jm_aload_n (n := 11) X 1 rfl dX6_ifHolds_10 rfl ?_
  refine jm_get (n := 14) X 6 5 0 cW_X6 rfl (by decide) (fun w h => List.mem_cons_of_mem _ (List.mem_append_left _ (List.mem_append_left _ (List.mem_append_right _ h)))) (List.mem_of_getElem? (i := 2) rfl) rfl dX6_ifHolds_11 rfl ?_
  refine jm_get (n := 17) X 1 3 1 cW_X4 rfl (by decide) (fun w h => List.mem_cons_of_mem _ (List.mem_append_left _ (List.mem_append_right _ h))) (List.mem_of_getElem? (i := 3) rfl) rfl dX6_ifHolds_14 rfl ?_
  refine jm_iload_n (n := 18) X 2 rfl dX6_ifHolds_17 rfl ?_
  refine jm_ald (n := 19) X 10 0 81 cA_81 rfl rfl hx1 dX6_ifHolds_18 rfl (fun h3 => ?_)
  refine jm_iconst (n := 20) X dX6_ifHolds_19 rfl ?_
  refine jm_iload (n := 22) X 0 rfl dX6_ifHolds_20 rfl ?_
  refine jm_iload (n := 24) X 5 rfl dX6_ifHolds_22 rfl ?_
  refine jm_iload (n := 26) X 6 rfl dX6_ifHolds_24 rfl ?_
  refine jm_iconst (n := 27) X dX6_ifHolds_26 rfl ?_
  refine jm_iadd (n := 28) X dX6_ifHolds_27 rfl (fun h4 => ?_)
  refine jm_callVi (n := 31) (vs := [.int (iI (gA σ1 81 x1)), .int (iI (1 : Int)), .int (iI r1), .int (iI x4), .int (iI (x5 + (1 : Int)))]) (rest := []) X hA (hG k1 (k1.2 81 _) (by decide) h2 hx4 h4) (cwV 5 X.2.2.2.2.1 gX6_ifHolds_X6_holds rfl rfl rfl (by decide +kernel) ⟨(show 4 * d + 6 + 1 ≤ 4 * d + 7 by omega), (show 8 + (7 + 11) + (100 * d + 200) ≤ 100 * d + 230 by omega)⟩) 6 5 cW_X6 rfl rfl (Nat.le_of_ble_eq_true rfl) dX6_ifHolds_28 rfl (fun σ5 r5 k5 h6 => ?_)
  refine jm_if_eq (n := 34) (tgt := 86) X dX6_ifHolds_31 (by decide) h6 rfl (fun c7 => ?_) (fun c7 => ?_)
  · refine jm_iconst (n := 87) X dX6_ifHolds_86 rfl ?_
    exact jm_zret X rfl k5 dX6_ifHolds_87
  · refine jm_aload_n (n := 35) X 1 rfl dX6_ifHolds_34 rfl ?_
    refine jm_aload_n (n := 36) X 1 rfl dX6_ifHolds_35 rfl ?_
    refine jm_get (n := 39) X 6 5 0 cW_X6 rfl (by decide) (fun w h => List.mem_cons_of_mem _ (List.mem_append_left _ (List.mem_append_left _ (List.mem_append_right _ h)))) (List.mem_of_getElem? (i := 2) rfl) rfl dX6_ifHolds_36 rfl ?_
    refine jm_get (n := 42) X 1 3 2 cW_X4 rfl (by decide) (fun w h => List.mem_cons_of_mem _ (List.mem_append_left _ (List.mem_append_right _ h))) (List.mem_of_getElem? (i := 4) rfl) rfl dX6_ifHolds_39 rfl ?_
    refine jm_iload_n (n := 43) X 2 rfl dX6_ifHolds_42 rfl ?_
    refine jm_ald (n := 44) X 11 0 82 cA_82 rfl rfl hx1 dX6_ifHolds_43 rfl (fun h8 => ?_)
    refine jm_iload_n (n := 45) X 3 rfl dX6_ifHolds_44 rfl ?_
    refine jm_iload_n (n := 46) X 4 rfl dX6_ifHolds_45 rfl ?_
    refine jm_iload (n := 48) X 0 rfl dX6_ifHolds_46 rfl ?_
    refine jm_iload (n := 50) X 6 rfl dX6_ifHolds_48 rfl ?_
    refine jm_iconst (n := 51) X dX6_ifHolds_50 rfl ?_
    refine jm_iadd (n := 52) X dX6_ifHolds_51 rfl (fun h9 => ?_)
    refine jm_callVi (n := 55) (vs := [.int (iI (gA σ5 82 x1)), .int (iI x2), .int (iI x3), .int (iI r1), .int (iI (x5 + (1 : Int)))]) (rest := []) X hA (hG k5 (k5.2 82 _) hx2 hx3 h2 h9) (cwV 5 X.2.2.2.2.1 gX6_ifHolds_X6_holds rfl rfl rfl (by decide +kernel) ⟨(show 4 * d + 6 + 1 ≤ 4 * d + 7 by omega), (show 8 + (7 + 11) + (100 * d + 200) ≤ 100 * d + 230 by omega)⟩) 6 5 cW_X6 rfl rfl (Nat.le_of_ble_eq_true rfl) dX6_ifHolds_52 rfl (fun σ10 r10 k10 h11 => ?_)
    refine jm_if_eq (n := 58) (tgt := 86) X dX6_ifHolds_55 (by decide) h11 rfl (fun c12 => ?_) (fun c12 => ?_)
    · refine jm_iconst (n := 87) X dX6_ifHolds_86 rfl ?_
      exact jm_zret X rfl k10 dX6_ifHolds_87
    · refine jm_aload_n (n := 59) X 1 rfl dX6_ifHolds_58 rfl ?_
      refine jm_aload_n (n := 60) X 1 rfl dX6_ifHolds_59 rfl ?_
      refine jm_get (n := 63) X 6 5 0 cW_X6 rfl (by decide) (fun w h => List.mem_cons_of_mem _ (List.mem_append_left _ (List.mem_append_left _ (List.mem_append_right _ h)))) (List.mem_of_getElem? (i := 2) rfl) rfl dX6_ifHolds_60 rfl ?_
      refine jm_get (n := 66) X 1 3 3 cW_X4 rfl (by decide) (fun w h => List.mem_cons_of_mem _ (List.mem_append_left _ (List.mem_append_right _ h))) (List.mem_of_getElem? (i := 5) rfl) rfl dX6_ifHolds_63 rfl ?_
      refine jm_iload_n (n := 67) X 2 rfl dX6_ifHolds_66 rfl ?_
      refine jm_ald (n := 68) X 12 0 83 cA_83 rfl rfl hx1 dX6_ifHolds_67 rfl (fun h13 => ?_)
      refine jm_iload_n (n := 69) X 3 rfl dX6_ifHolds_68 rfl ?_
      refine jm_iload_n (n := 70) X 4 rfl dX6_ifHolds_69 rfl ?_
      refine jm_iload (n := 72) X 0 rfl dX6_ifHolds_70 rfl ?_
      refine jm_iload (n := 74) X 6 rfl dX6_ifHolds_72 rfl ?_
      refine jm_iconst (n := 75) X dX6_ifHolds_74 rfl ?_
      refine jm_iadd (n := 76) X dX6_ifHolds_75 rfl (fun h14 => ?_)
      refine jm_callVi (n := 79) (vs := [.int (iI (gA σ10 83 x1)), .int (iI x2), .int (iI x3), .int (iI r1), .int (iI (x5 + (1 : Int)))]) (rest := []) X hA (hG k10 (k10.2 83 _) hx2 hx3 h2 h14) (cwV 5 X.2.2.2.2.1 gX6_ifHolds_X6_holds rfl rfl rfl (by decide +kernel) ⟨(show 4 * d + 6 + 1 ≤ 4 * d + 7 by omega), (show 8 + (7 + 11) + (100 * d + 200) ≤ 100 * d + 230 by omega)⟩) 6 5 cW_X6 rfl rfl (Nat.le_of_ble_eq_true rfl) dX6_ifHolds_76 rfl (fun σ15 r15 k15 h16 => ?_)
      refine jm_if_eq (n := 82) (tgt := 86) X dX6_ifHolds_79 (by decide) h16 rfl (fun c17 => ?_) (fun c17 => ?_)
      · refine jm_iconst (n := 87) X dX6_ifHolds_86 rfl ?_
        exact jm_zret X rfl k15 dX6_ifHolds_87
      · refine jm_iconst (n := 83) X dX6_ifHolds_82 rfl ?_
        refine jm_goto (n := 87) X dX6_ifHolds_83 (by decide) ?_
        exact jm_zret X rfl k15 dX6_ifHolds_87
abbrev rm6_letHolds (d : Nat) : Room := { frames := 4 * d + 7, cells := 0, slots := 0, locals := 100 * d + 230 }
def f6_letHolds (N : Nat) (G : Sg → Int → Int → Int → Int → Int → Option (Sg × Int)) (σ0 : Sg) (x1 : Int) (x2 : Int) (x3 : Int) (x4 : Int) (x5 : Int) : Option (Sg × Int) :=
  bd (f5_letter σ0 ) fun σ1 r1 =>
  bd (f5_letter σ1 ) fun σ3 r3 =>
  ck (0 ≤ x1 ∧ x1 < 60) <|
  ck (inR (x5 + (1 : Int))) <|
  bd (G σ3 (gA σ3 81 x1) r1 r3 x4 (x5 + (1 : Int))) fun σ7 r7 =>
  if r7 = 0 then (ck ((0 : Int) = 0 ∨ (0 : Int) = 1) (some (σ7, (0 : Int))))
  else (bd (f6_bind σ7 r1 (-1 : Int)) fun σ10 r10 =>
  ck (0 ≤ x1 ∧ x1 < 60) <|
  ck (inR (x5 + (1 : Int))) <|
  bd (G σ10 (gA σ10 82 x1) x2 x3 r3 (x5 + (1 : Int))) fun σ14 r14 =>
  ck (inR ((gI σ14 124) - (1 : Int))) <|
  nx (sI σ14 124 ((gI σ14 124) - (1 : Int))) fun σ17 =>
  ck (r14 = 0 ∨ r14 = 1) (some (σ17, r14)))
set_option maxRecDepth 100000 in
theorem t6_letHolds (l : Launch) {h : Nat → Nat} {cI cZ : ClassId} {D : va_G} {t1 t2 : Nat} (N : Nat) (G : Sg → Int → Int → Int → Int → Int → Option (Sg × Int)) (d : Nat) (hG : ∀ {σ0 : Sg} {x1 x2 x3 x4 x5 : Int}, ok σ0 → inR x1 → inR x2 → inR x3 → inR x4 → inR x5 → ctI (cE t1 t2) l (cW h cI cZ) D (mT cI cZ) yX6_holds wsX6_holds (rmh d) [.ref (h 139), .int (iI x1), .int (iI x2), .int (iI x3), .int (iI x4), .int (iI x5)] σ0 (G σ0 x1 x2 x3 x4 x5)) {σ0 : Sg} {x1 : Int} {x2 : Int} {x3 : Int} {x4 : Int} {x5 : Int} (k0 : ok σ0) (hx1 : inR x1) (hx2 : inR x2) (hx3 : inR x3) (hx4 : inR x4) (hx5 : inR x5) : ctI (cE t1 t2) l (cW h cI cZ) D (mT cI cZ) yX6_letHolds wsX6_letHolds (rm6_letHolds d) [.ref (h 139), .int (iI x1), .int (iI x2), .int (iI x3), .int (iI x4), .int (iI x5)] σ0 (f6_letHolds N G σ0 x1 x2 x3 x4 x5) := by
  refine of_Z (cE_ok t1 t2) (own := RX6) (lv := [(0, .ref (h 139)), (1, .int (iI x1)), (2, .int (iI x2)), (3, .int (iI x3)), (4, .int (iI x4)), (5, .int (iI x5))]) (by decide) rfl rfl (Nat.le_of_ble_eq_true rfl) rfl (fun p e s m below meth c sz X hA => ?_)
  rw [f6_letHolds]
  refine jm_aload_n (n := 1) X 0 rfl dX6_letHolds_0 rfl ?_
  refine jm_get (n := 4) X 6 5 1 cW_X6 rfl (by decide) (fun w h => List.mem_cons_of_mem _ (List.mem_append_left _ (List.mem_append_left _ (List.mem_append_right _ h)))) (List.mem_of_getElem? (i := 1) rfl) rfl dX6_letHolds_1 rfl ?_
  refine jm_callVi (n := 7) (vs := []) (rest := []) X hA (t5_letter l k0 ) (cwV 0 X.2.2.2.2.1 gX6_letHolds_X5_letter rfl rfl rfl (by decide +kernel) ⟨(show 1 + 1 ≤ 4 * d + 7 by omega), (show 8 + (1 + 11) + (21) ≤ 100 * d + 230 by omega)⟩) 7 4 cW_X5 rfl rfl (Nat.le_of_ble_eq_true rfl) dX6_letHolds_4 rfl (fun σ1 r1 k1 h2 => ?_)
  refine jm_istore (n := 9) (lv' := [(6, .int (iI r1)), (0, .ref (h 139)), (1, .int (iI x1)), (2, .int (iI x2)), (3, .int (iI x3)), (4, .int (iI x4)), (5, .int (iI x5))]) X dX6_letHolds_7 (by decide) rfl rfl ?_
  refine jm_aload_n (n := 10) X 1 rfl dX6_letHolds_9 rfl ?_
  refine jm_get (n := 13) X 6 5 1 cW_X6 rfl (by decide) (fun w h => List.mem_cons_of_mem _ (List.mem_append_left _ (List.mem_append_left _ (List.mem_append_right _ h)))) (List.mem_of_getElem? (i := 1) rfl) rfl dX6_letHolds_10 rfl ?_
  refine jm_callVi (n := 16) (vs := []) (rest := []) X hA (t5_letter l k1 ) (cwV 0 X.2.2.2.2.1 gX6_letHolds_X5_letter rfl rfl rfl (by decide +kernel) ⟨(show 1 + 1 ≤ 4 * d + 7 by omega), (show 8 + (1 + 11) + (21) ≤ 100 * d + 230 by omega)⟩) 7 4 cW_X5 rfl rfl (Nat.le_of_ble_eq_true rfl) dX6_letHolds_13 rfl (fun σ3 r3 k3 h4 => ?_)
  refine jm_istore (n := 18) (lv' := [(7, .int (iI r3)), (6, .int (iI r1)), (0, .ref (h 139)), (1, .int (iI x1)), (2, .int (iI x2)), (3, .int (iI x3)), (4, .int (iI x4)), (5, .int (iI x5))]) X dX6_letHolds_16 (by decide) rfl rfl ?_
  refine jm_aload_n (n := 19) X 2 rfl dX6_letHolds_18 rfl ?_
  refine jm_aload_n (n := 20) X 2 rfl dX6_letHolds_19 rfl ?_
  refine jm_get (n := 23) X 6 5 0 cW_X6 rfl (by decide) (fun w h => List.mem_cons_of_mem _ (List.mem_append_left _ (List.mem_append_left _ (List.mem_append_right _ h)))) (List.mem_of_getElem? (i := 2) rfl) rfl dX6_letHolds_20 rfl ?_
  refine jm_get (n := 26) X 1 3 1 cW_X4 rfl (by decide) (fun w h => List.mem_cons_of_mem _ (List.mem_append_left _ (List.mem_append_right _ h))) (List.mem_of_getElem? (i := 3) rfl) rfl dX6_letHolds_23 rfl ?_
  refine jm_iload_n (n := 27) X 3 rfl dX6_letHolds_26 rfl ?_
  refine jm_ald (n := 28) X 10 0 81 cA_81 rfl rfl hx1 dX6_letHolds_27 rfl (fun h5 => ?_)
  refine jm_iload (n := 30) X 1 rfl dX6_letHolds_28 rfl ?_
  refine jm_iload (n := 32) X 0 rfl dX6_letHolds_30 rfl ?_
  refine jm_iload (n := 34) X 6 rfl dX6_letHolds_32 rfl ?_
  refine jm_iload (n := 36) X 7 rfl dX6_letHolds_34 rfl ?_
  refine jm_iconst (n := 37) X dX6_letHolds_36 rfl ?_
  refine jm_iadd (n := 38) X dX6_letHolds_37 rfl (fun h6 => ?_)
  refine jm_callVi (n := 41) (vs := [.int (iI (gA σ3 81 x1)), .int (iI r1), .int (iI r3), .int (iI x4), .int (iI (x5 + (1 : Int)))]) (rest := []) X hA (hG k3 (k3.2 81 _) h2 h4 hx4 h6) (cwV 5 X.2.2.2.2.1 gX6_letHolds_X6_holds rfl rfl rfl (by decide +kernel) ⟨(show 4 * d + 6 + 1 ≤ 4 * d + 7 by omega), (show 8 + (7 + 11) + (100 * d + 200) ≤ 100 * d + 230 by omega)⟩) 6 5 cW_X6 rfl rfl (Nat.le_of_ble_eq_true rfl) dX6_letHolds_38 rfl (fun σ7 r7 k7 h8 => ?_)
  refine jm_if_ne (n := 44) (tgt := 46) X dX6_letHolds_41 (by decide) h8 rfl (fun c9 => ?_) (fun c9 => ?_)
  · refine jm_iconst (n := 45) X dX6_letHolds_44 rfl ?_
    exact jm_zret X rfl k7 dX6_letHolds_45
  · refine jm_aload_n (n := 47) X 2 rfl dX6_letHolds_46 rfl ?_
    refine jm_iload (n := 49) X 1 rfl dX6_letHolds_47 rfl ?_
    refine jm_iconst (n := 50) X dX6_letHolds_49 rfl ?_
    refine jm_callVv (n := 53) (vs := [.int (iI r1), .int (iI (-1 : Int))]) (rest := []) X hA (t6_bind l k7 h2 (by decide)) (cwV 2 X.2.2.2.2.1 gX6_letHolds_X6_bind rfl rfl rfl (by decide +kernel) ⟨(show 0 + 1 ≤ 4 * d + 7 by omega), (show 8 + (3 + 11) + (0) ≤ 100 * d + 230 by omega)⟩) 6 5 cW_X6 rfl rfl (Nat.le_of_ble_eq_true rfl) dX6_letHolds_50 rfl (fun σ10 r10 k10 => ?_)
    refine jm_aload_n (n := 54) X 2 rfl dX6_letHolds_53 rfl ?_
    refine jm_aload_n (n := 55) X 2 rfl dX6_letHolds_54 rfl ?_
    refine jm_get (n := 58) X 6 5 0 cW_X6 rfl (by decide) (fun w h => List.mem_cons_of_mem _ (List.mem_append_left _ (List.mem_append_left _ (List.mem_append_right _ h)))) (List.mem_of_getElem? (i := 2) rfl) rfl dX6_letHolds_55 rfl ?_
    refine jm_get (n := 61) X 1 3 2 cW_X4 rfl (by decide) (fun w h => List.mem_cons_of_mem _ (List.mem_append_left _ (List.mem_append_right _ h))) (List.mem_of_getElem? (i := 4) rfl) rfl dX6_letHolds_58 rfl ?_
    refine jm_iload_n (n := 62) X 3 rfl dX6_letHolds_61 rfl ?_
    refine jm_ald (n := 63) X 11 0 82 cA_82 rfl rfl hx1 dX6_letHolds_62 rfl (fun h12 => ?_)
    refine jm_iload_n (n := 64) X 4 rfl dX6_letHolds_63 rfl ?_
    refine jm_iload_n (n := 65) X 5 rfl dX6_letHolds_64 rfl ?_
    refine jm_iload (n := 67) X 0 rfl dX6_letHolds_65 rfl ?_
    refine jm_iload (n := 69) X 7 rfl dX6_letHolds_67 rfl ?_
    refine jm_iconst (n := 70) X dX6_letHolds_69 rfl ?_
    refine jm_iadd (n := 71) X dX6_letHolds_70 rfl (fun h13 => ?_)
    refine jm_callVi (n := 74) (vs := [.int (iI (gA σ10 82 x1)), .int (iI x2), .int (iI x3), .int (iI r3), .int (iI (x5 + (1 : Int)))]) (rest := []) X hA (hG k10 (k10.2 82 _) hx2 hx3 h4 h13) (cwV 5 X.2.2.2.2.1 gX6_letHolds_X6_holds rfl rfl rfl (by decide +kernel) ⟨(show 4 * d + 6 + 1 ≤ 4 * d + 7 by omega), (show 8 + (7 + 11) + (100 * d + 200) ≤ 100 * d + 230 by omega)⟩) 6 5 cW_X6 rfl rfl (Nat.le_of_ble_eq_true rfl) dX6_letHolds_71 rfl (fun σ14 r14 k14 h15 => ?_)
    refine jm_istore (n := 76) (lv' := [(8, .int (iI r14)), (7, .int (iI r3)), (6, .int (iI r1)), (0, .ref (h 139)), (1, .int (iI x1)), (2, .int (iI x2)), (3, .int (iI x3)), (4, .int (iI x4)), (5, .int (iI x5))]) X dX6_letHolds_74 (by decide) rfl rfl ?_
    refine jm_aload_n (n := 77) X 3 rfl dX6_letHolds_76 rfl ?_
    refine jm_dup (n := 78) X dX6_letHolds_77 rfl rfl ?_
    refine jm_get (n := 81) X 6 5 4 cW_X6 rfl (by decide) (fun w h => List.mem_cons_of_mem _ (List.mem_append_left _ (List.mem_append_left _ (List.mem_append_right _ h)))) (List.mem_of_getElem? (i := 5) rfl) rfl dX6_letHolds_78 rfl ?_
    refine jm_iconst (n := 82) X dX6_letHolds_81 rfl ?_
    refine jm_isub (n := 83) X dX6_letHolds_82 rfl (fun h16 => ?_)
    refine jm_put (n := 86) X 6 5 4 124 cW_X6 rfl (by decide) (fun w h => List.mem_cons_of_mem _ (List.mem_append_left _ (List.mem_append_left _ (List.mem_append_right _ h)))) tyX6 tyX6_ok nmX6 (List.mem_of_getElem? (i := 5) rfl) rfl rfl rfl rfl (Nat.le_of_ble_eq_true rfl) cS_124 k14 h16 dX6_letHolds_83 rfl (fun σ17 k17 => ?_)
    refine jm_iload (n := 88) X 0 rfl dX6_letHolds_86 rfl ?_
    exact jm_zret X rfl k17 dX6_letHolds_88
abbrev rm6_takeHolds (d : Nat) : Room := { frames := 4 * d + 8, cells := 0, slots := 0, locals := 100 * d + 260 }
def f6_takeHolds (N : Nat) (G : Sg → Int → Int → Int → Int → Int → Option (Sg × Int)) (σ0 : Sg) (x1 : Int) (x2 : Int) (x3 : Int) (x4 : Int) (x5 : Int) : Option (Sg × Int) :=
  bd (f6_bind σ0 x2 x3) fun σ1 r1 =>
  bd (f6_wholeHolds N G σ1 x1 x4 x5) fun σ3 r3 =>
  ck (inR ((gI σ3 124) - (1 : Int))) <|
  nx (sI σ3 124 ((gI σ3 124) - (1 : Int))) fun σ6 =>
  ck (r3 = 0 ∨ r3 = 1) (some (σ6, r3))
set_option maxRecDepth 100000 in
theorem t6_takeHolds (l : Launch) {h : Nat → Nat} {cI cZ : ClassId} {D : va_G} {t1 t2 : Nat} (N : Nat) (G : Sg → Int → Int → Int → Int → Int → Option (Sg × Int)) (d : Nat) (hG : ∀ {σ0 : Sg} {x1 x2 x3 x4 x5 : Int}, ok σ0 → inR x1 → inR x2 → inR x3 → inR x4 → inR x5 → ctI (cE t1 t2) l (cW h cI cZ) D (mT cI cZ) yX6_holds wsX6_holds (rmh d) [.ref (h 139), .int (iI x1), .int (iI x2), .int (iI x3), .int (iI x4), .int (iI x5)] σ0 (G σ0 x1 x2 x3 x4 x5)) {σ0 : Sg} {x1 : Int} {x2 : Int} {x3 : Int} {x4 : Int} {x5 : Int} (k0 : ok σ0) (hx1 : inR x1) (hx2 : inR x2) (hx3 : inR x3) (hx4 : inR x4) (hx5 : inR x5) : ctI (cE t1 t2) l (cW h cI cZ) D (mT cI cZ) yX6_takeHolds wsX6_takeHolds (rm6_takeHolds d) [.ref (h 139), .int (iI x1), .int (iI x2), .int (iI x3), .int (iI x4), .int (iI x5)] σ0 (f6_takeHolds N G σ0 x1 x2 x3 x4 x5) := by
  refine of_Z (cE_ok t1 t2) (own := RX6) (lv := [(0, .ref (h 139)), (1, .int (iI x1)), (2, .int (iI x2)), (3, .int (iI x3)), (4, .int (iI x4)), (5, .int (iI x5))]) (by decide) rfl rfl (Nat.le_of_ble_eq_true rfl) rfl (fun p e s m below meth c sz X hA => ?_)
  rw [f6_takeHolds]
  refine jm_aload_n (n := 1) X 0 rfl dX6_takeHolds_0 rfl ?_
  refine jm_iload_n (n := 2) X 2 rfl dX6_takeHolds_1 rfl ?_
  refine jm_iload_n (n := 3) X 3 rfl dX6_takeHolds_2 rfl ?_
  refine jm_callVv (n := 6) (vs := [.int (iI x2), .int (iI x3)]) (rest := []) X hA (t6_bind l k0 hx2 hx3) (cwV 2 X.2.2.2.2.1 gX6_takeHolds_X6_bind rfl rfl rfl (by decide +kernel) ⟨(show 0 + 1 ≤ 4 * d + 8 by omega), (show 8 + (3 + 11) + (0) ≤ 100 * d + 260 by omega)⟩) 6 5 cW_X6 rfl rfl (Nat.le_of_ble_eq_true rfl) dX6_takeHolds_3 rfl (fun σ1 r1 k1 => ?_)
  refine jm_aload_n (n := 7) X 0 rfl dX6_takeHolds_6 rfl ?_
  refine jm_iload_n (n := 8) X 1 rfl dX6_takeHolds_7 rfl ?_
  refine jm_iload (n := 10) X 4 rfl dX6_takeHolds_8 rfl ?_
  refine jm_iload (n := 12) X 5 rfl dX6_takeHolds_10 rfl ?_
  refine jm_callVi (n := 15) (vs := [.int (iI x1), .int (iI x4), .int (iI x5)]) (rest := []) X hA (t6_wholeHolds l N G d hG k1 hx1 hx4 hx5) (cwV 3 X.2.2.2.2.1 gX6_takeHolds_X6_wholeHolds rfl rfl rfl (by decide +kernel) ⟨(show 4 * d + 7 + 1 ≤ 4 * d + 8 by omega), (show 8 + (5 + 11) + (100 * d + 230) ≤ 100 * d + 260 by omega)⟩) 6 5 cW_X6 rfl rfl (Nat.le_of_ble_eq_true rfl) dX6_takeHolds_12 rfl (fun σ3 r3 k3 h4 => ?_)
  refine jm_istore (n := 17) (lv' := [(6, .int (iI r3)), (0, .ref (h 139)), (1, .int (iI x1)), (2, .int (iI x2)), (3, .int (iI x3)), (4, .int (iI x4)), (5, .int (iI x5))]) X dX6_takeHolds_15 (by decide) rfl rfl ?_
  refine jm_aload_n (n := 18) X 1 rfl dX6_takeHolds_17 rfl ?_
  refine jm_dup (n := 19) X dX6_takeHolds_18 rfl rfl ?_
  refine jm_get (n := 22) X 6 5 4 cW_X6 rfl (by decide) (fun w h => List.mem_cons_of_mem _ (List.mem_append_left _ (List.mem_append_left _ (List.mem_append_right _ h)))) (List.mem_of_getElem? (i := 1) rfl) rfl dX6_takeHolds_19 rfl ?_
  refine jm_iconst (n := 23) X dX6_takeHolds_22 rfl ?_
  refine jm_isub (n := 24) X dX6_takeHolds_23 rfl (fun h5 => ?_)
  refine jm_put (n := 27) X 6 5 4 124 cW_X6 rfl (by decide) (fun w h => List.mem_cons_of_mem _ (List.mem_append_left _ (List.mem_append_left _ (List.mem_append_right _ h)))) tyX6 tyX6_ok nmX6 (List.mem_of_getElem? (i := 1) rfl) rfl rfl rfl rfl (Nat.le_of_ble_eq_true rfl) cS_124 k3 h5 dX6_takeHolds_24 rfl (fun σ6 k6 => ?_)
  refine jm_iload (n := 29) X 0 rfl dX6_takeHolds_27 rfl ?_
  exact jm_zret X rfl k6 dX6_takeHolds_29
end
