section
variable {p : Program} {l : Launch} {e : Env} {s : State} {m : MethodId} {args : Array Value} {below : List Frame} {meth : Method} {c : Code} {h : Nat → Nat} {cI cZ : ClassId} {D : va_G} {σz : Sg} {sz : Nat} {t1 t2 : Nat}
abbrev rm6_typeOfWhole : Room := { frames := 47, cells := 0, slots := 0, locals := 1226 }
def f6_typeOfWhole (N : Nat) (σ0 : Sg) (x1 : Int) : Option (Sg × Int) :=
  bd (f5_clear σ0 ) fun σ1 r1 =>
  nx (sI σ1 124 (0 : Int)) fun σ3 =>
  bd (f5_letter σ3 ) fun σ4 r4 =>
  bd (f5_letter σ4 ) fun σ6 r6 =>
  bd (f6_rec N 10 σ6 x1 r4 r4 r6 (1 : Int)) fun σ8 r8 =>
  if r8 = 0 then (some (σ8, (-1 : Int)))
  else (bd (f5_noneContainsItself N σ8 ) fun σ11 r11 =>
  if r11 = 0 then (some (σ11, (-1 : Int)))
  else (some (σ11, r6)))
set_option maxRecDepth 100000 in
theorem t6_typeOfWhole (l : Launch) {h : Nat → Nat} {cI cZ : ClassId} {D : va_G} {t1 t2 : Nat} (N : Nat) {σ0 : Sg} {x1 : Int} (k0 : ok σ0) (hx1 : inR x1) : ctI (cE t1 t2) l (cW h cI cZ) D (mT cI cZ) yX6_typeOfWhole wsX6_typeOfWhole rm6_typeOfWhole [.ref (h 139), .int (iI x1)] σ0 (f6_typeOfWhole N σ0 x1) := by
  refine of_I (cE_ok t1 t2) (own := RX6) (lv := [(0, .ref (h 139)), (1, .int (iI x1))]) (by decide) rfl rfl (Nat.le_of_ble_eq_true rfl) rfl (fun p e s m below meth c sz X hA => ?_)
  rw [f6_typeOfWhole]
  refine jm_aload_n (n := 1) X 0 rfl dX6_typeOfWhole_0 rfl ?_
  refine jm_get (n := 4) X 6 5 1 cW_X6 rfl (by decide) (fun w h => List.mem_cons_of_mem _ (List.mem_append_left _ (List.mem_append_left _ (List.mem_append_right _ h)))) (List.mem_of_getElem? (i := 1) rfl) rfl dX6_typeOfWhole_1 rfl ?_
  refine jm_callVv (n := 7) (vs := []) (rest := []) X hA (t5_clear l k0 ) (cwV 0 X.2.2.2.2.1 gX6_typeOfWhole_X5_clear rfl rfl rfl (by decide +kernel) ⟨Nat.le_of_ble_eq_true rfl, Nat.le_of_ble_eq_true rfl⟩) 7 4 cW_X5 rfl rfl (Nat.le_of_ble_eq_true rfl) dX6_typeOfWhole_4 rfl (fun σ1 r1 k1 => ?_)
  refine jm_aload_n (n := 8) X 0 rfl dX6_typeOfWhole_7 rfl ?_
  refine jm_iconst (n := 9) X dX6_typeOfWhole_8 rfl ?_
  refine jm_put (n := 12) X 6 5 4 124 cW_X6 rfl (by decide) (fun w h => List.mem_cons_of_mem _ (List.mem_append_left _ (List.mem_append_left _ (List.mem_append_right _ h)))) tyX6 tyX6_ok nmX6 (List.mem_of_getElem? (i := 2) rfl) rfl rfl rfl rfl (Nat.le_of_ble_eq_true rfl) cS_124 k1 (by decide) dX6_typeOfWhole_9 rfl (fun σ3 k3 => ?_)
  refine jm_aload_n (n := 13) X 0 rfl dX6_typeOfWhole_12 rfl ?_
  refine jm_get (n := 16) X 6 5 1 cW_X6 rfl (by decide) (fun w h => List.mem_cons_of_mem _ (List.mem_append_left _ (List.mem_append_left _ (List.mem_append_right _ h)))) (List.mem_of_getElem? (i := 1) rfl) rfl dX6_typeOfWhole_13 rfl ?_
  refine jm_callVi (n := 19) (vs := []) (rest := []) X hA (t5_letter l k3 ) (cwV 0 X.2.2.2.2.1 gX6_typeOfWhole_X5_letter rfl rfl rfl (by decide +kernel) ⟨Nat.le_of_ble_eq_true rfl, Nat.le_of_ble_eq_true rfl⟩) 7 4 cW_X5 rfl rfl (Nat.le_of_ble_eq_true rfl) dX6_typeOfWhole_16 rfl (fun σ4 r4 k4 h5 => ?_)
  refine jm_istore_n (n := 20) (lv' := [(2, .int (iI r4)), (0, .ref (h 139)), (1, .int (iI x1))]) X dX6_typeOfWhole_19 (by decide) rfl rfl ?_
  refine jm_aload_n (n := 21) X 1 rfl dX6_typeOfWhole_20 rfl ?_
  refine jm_get (n := 24) X 6 5 1 cW_X6 rfl (by decide) (fun w h => List.mem_cons_of_mem _ (List.mem_append_left _ (List.mem_append_left _ (List.mem_append_right _ h)))) (List.mem_of_getElem? (i := 1) rfl) rfl dX6_typeOfWhole_21 rfl ?_
  refine jm_callVi (n := 27) (vs := []) (rest := []) X hA (t5_letter l k4 ) (cwV 0 X.2.2.2.2.1 gX6_typeOfWhole_X5_letter rfl rfl rfl (by decide +kernel) ⟨Nat.le_of_ble_eq_true rfl, Nat.le_of_ble_eq_true rfl⟩) 7 4 cW_X5 rfl rfl (Nat.le_of_ble_eq_true rfl) dX6_typeOfWhole_24 rfl (fun σ6 r6 k6 h7 => ?_)
  refine jm_istore_n (n := 28) (lv' := [(3, .int (iI r6)), (2, .int (iI r4)), (0, .ref (h 139)), (1, .int (iI x1))]) X dX6_typeOfWhole_27 (by decide) rfl rfl ?_
  refine jm_aload_n (n := 29) X 2 rfl dX6_typeOfWhole_28 rfl ?_
  refine jm_iload_n (n := 30) X 3 rfl dX6_typeOfWhole_29 rfl ?_
  refine jm_iload_n (n := 31) X 1 rfl dX6_typeOfWhole_30 rfl ?_
  refine jm_iload_n (n := 32) X 1 rfl dX6_typeOfWhole_31 rfl ?_
  refine jm_iload_n (n := 33) X 0 rfl dX6_typeOfWhole_32 rfl ?_
  refine jm_iconst (n := 34) X dX6_typeOfWhole_33 rfl ?_
  refine jm_callVi (n := 37) (vs := [.int (iI x1), .int (iI r4), .int (iI r4), .int (iI r6), .int (iI (1 : Int))]) (rest := []) X hA (t6_rec l N 10 k6 hx1 h5 h5 h7 (by decide)) (cwV 5 X.2.2.2.2.1 gX6_typeOfWhole_X6_holds rfl rfl rfl (by decide +kernel) ⟨Nat.le_of_ble_eq_true rfl, Nat.le_of_ble_eq_true rfl⟩) 6 5 cW_X6 rfl rfl (Nat.le_of_ble_eq_true rfl) dX6_typeOfWhole_34 rfl (fun σ8 r8 k8 h9 => ?_)
  refine jm_if_eq (n := 40) (tgt := 50) X dX6_typeOfWhole_37 (by decide) h9 rfl (fun c10 => ?_) (fun c10 => ?_)
  · refine jm_iconst (n := 51) X dX6_typeOfWhole_50 rfl ?_
    exact jm_iret X rfl k8 (by decide) dX6_typeOfWhole_51
  · refine jm_aload_n (n := 41) X 2 rfl dX6_typeOfWhole_40 rfl ?_
    refine jm_get (n := 44) X 6 5 1 cW_X6 rfl (by decide) (fun w h => List.mem_cons_of_mem _ (List.mem_append_left _ (List.mem_append_left _ (List.mem_append_right _ h)))) (List.mem_of_getElem? (i := 1) rfl) rfl dX6_typeOfWhole_41 rfl ?_
    refine jm_callVi (n := 47) (vs := []) (rest := []) X hA (t5_noneContainsItself l N k8 ) (cwV 0 X.2.2.2.2.1 gX6_typeOfWhole_X5_noneContainsItself rfl rfl rfl (by decide +kernel) ⟨Nat.le_of_ble_eq_true rfl, Nat.le_of_ble_eq_true rfl⟩) 7 4 cW_X5 rfl rfl (Nat.le_of_ble_eq_true rfl) dX6_typeOfWhole_44 rfl (fun σ11 r11 k11 h12 => ?_)
    refine jm_if_ne (n := 50) (tgt := 52) X dX6_typeOfWhole_47 (by decide) h12 rfl (fun c13 => ?_) (fun c13 => ?_)
    · refine jm_iconst (n := 51) X dX6_typeOfWhole_50 rfl ?_
      exact jm_iret X rfl k11 (by decide) dX6_typeOfWhole_51
    · refine jm_iload_n (n := 53) X 0 rfl dX6_typeOfWhole_52 rfl ?_
      exact jm_iret X rfl k11 h7 dX6_typeOfWhole_53
abbrev rm9_value : Room := { frames := 0, cells := 0, slots := 0, locals := 0 }
def f9_value (σ0 : Sg)  : Option (Sg × Int) :=
  some (σ0, (gI σ0 184))
set_option maxRecDepth 100000 in
theorem t9_value (l : Launch) {h : Nat → Nat} {cI cZ : ClassId} {D : va_G} {t1 t2 : Nat} {σ0 : Sg}  (k0 : ok σ0)  : ctI (cE t1 t2) l (cW h cI cZ) D (mT cI cZ) yX9_value wsX9_value rm9_value [.ref (h 199)] σ0 (f9_value σ0 ) := by
  refine of_I (cE_ok t1 t2) (own := RX9) (lv := [(0, .ref (h 199))]) (by decide) rfl rfl (Nat.le_of_ble_eq_true rfl) rfl (fun p e s m below meth c sz X hA => ?_)
  rw [f9_value]
  refine jm_aload_n (n := 1) X 0 rfl dX9_value_0 rfl ?_
  refine jm_get (n := 4) X 0 8 4 cW_X9 rfl (by decide) (fun w h => List.mem_cons_of_mem _ (List.mem_append_right _ h)) (List.mem_of_getElem? (i := 1) rfl) rfl dX9_value_1 rfl ?_
  exact jm_iret X rfl k0 (k0.1 184) dX9_value_4
abbrev rm9_steps : Room := { frames := 0, cells := 0, slots := 0, locals := 0 }
def f9_steps (σ0 : Sg)  : Option (Sg × Int) :=
  some (σ0, (gI σ0 185))
set_option maxRecDepth 100000 in
theorem t9_steps (l : Launch) {h : Nat → Nat} {cI cZ : ClassId} {D : va_G} {t1 t2 : Nat} {σ0 : Sg}  (k0 : ok σ0)  : ctI (cE t1 t2) l (cW h cI cZ) D (mT cI cZ) yX9_steps wsX9_steps rm9_steps [.ref (h 199)] σ0 (f9_steps σ0 ) := by
  refine of_I (cE_ok t1 t2) (own := RX9) (lv := [(0, .ref (h 199))]) (by decide) rfl rfl (Nat.le_of_ble_eq_true rfl) rfl (fun p e s m below meth c sz X hA => ?_)
  rw [f9_steps]
  refine jm_aload_n (n := 1) X 0 rfl dX9_steps_0 rfl ?_
  refine jm_get (n := 4) X 0 8 5 cW_X9 rfl (by decide) (fun w h => List.mem_cons_of_mem _ (List.mem_append_right _ h)) (List.mem_of_getElem? (i := 1) rfl) rfl dX9_steps_1 rfl ?_
  exact jm_iret X rfl k0 (k0.1 185) dX9_steps_4
abbrev rm9_part : Room := { frames := 1, cells := 0, slots := 0, locals := 24 }
def f9_part (N : Nat) (σ0 : Sg) (x1 : Int) : Option (Sg × Int) :=
  bd (f1_at N σ0 x1) fun σ1 r1 =>
  some (σ1, r1)
set_option maxRecDepth 100000 in
theorem t9_part (l : Launch) {h : Nat → Nat} {cI cZ : ClassId} {D : va_G} {t1 t2 : Nat} (N : Nat) {σ0 : Sg} {x1 : Int} (k0 : ok σ0) (hx1 : inR x1) : ctI (cE t1 t2) l (cW h cI cZ) D (mT cI cZ) yX9_part wsX9_part rm9_part [.ref (h 199), .int (iI x1)] σ0 (f9_part N σ0 x1) := by
  refine of_I (cE_ok t1 t2) (own := RX9) (lv := [(0, .ref (h 199)), (1, .int (iI x1))]) (by decide) rfl rfl (Nat.le_of_ble_eq_true rfl) rfl (fun p e s m below meth c sz X hA => ?_)
  rw [f9_part]
  refine jm_aload_n (n := 1) X 0 rfl dX9_part_0 rfl ?_
  refine jm_get (n := 4) X 0 8 3 cW_X9 rfl (by decide) (fun w h => List.mem_cons_of_mem _ (List.mem_append_left _ (List.mem_append_right _ h))) (List.mem_of_getElem? (i := 1) rfl) rfl dX9_part_1 rfl ?_
  refine jm_iload_n (n := 5) X 1 rfl dX9_part_4 rfl ?_
  refine jm_callVi (n := 8) (vs := [.int (iI x1)]) (rest := []) X hA (t1_at l N k0 hx1) (cwV 1 X.2.2.2.2.1 gX9_part_X1_at rfl rfl rfl (by decide +kernel) ⟨Nat.le_of_ble_eq_true rfl, Nat.le_of_ble_eq_true rfl⟩) 8 0 cW_X1 rfl rfl (Nat.le_of_ble_eq_true rfl) dX9_part_5 rfl (fun σ1 r1 k1 h2 => ?_)
  exact jm_iret X rfl k1 h2 dX9_part_8
abbrev rm9_count : Room := { frames := 0, cells := 0, slots := 0, locals := 0 }
def f9_count (σ0 : Sg) (x1 : Int) : Option (Sg × Int) :=
  if x1 = 0 then (some (σ0, (gI σ0 87)))
  else if x1 = 1 then (some (σ0, (gI σ0 187)))
  else if x1 = 2 then (some (σ0, (gI σ0 188)))
  else if x1 = 3 then (some (σ0, (gI σ0 189)))
  else if x1 = 4 then (some (σ0, (gI σ0 190)))
  else if x1 = 5 then (some (σ0, (gI σ0 191)))
  else (some (σ0, (-1 : Int)))
set_option maxRecDepth 100000 in
theorem t9_count (l : Launch) {h : Nat → Nat} {cI cZ : ClassId} {D : va_G} {t1 t2 : Nat} {σ0 : Sg} {x1 : Int} (k0 : ok σ0) (hx1 : inR x1) : ctI (cE t1 t2) l (cW h cI cZ) D (mT cI cZ) yX9_count wsX9_count rm9_count [.ref (h 199), .int (iI x1)] σ0 (f9_count σ0 x1) := by
  refine of_I (cE_ok t1 t2) (own := RX9) (lv := [(0, .ref (h 199)), (1, .int (iI x1))]) (by decide) rfl rfl (Nat.le_of_ble_eq_true rfl) rfl (fun p e s m below meth c sz X hA => ?_)
  rw [f9_count]
  refine jm_iload_n (n := 1) X 1 rfl dX9_count_0 rfl ?_
  refine jm_tcase (tgt := 40) X (0) dX9_count_1 hx1 (by decide) (by decide) rfl (by decide) (fun c1 => ?_) (fun c1 => ?_)
  · refine jm_aload_n (n := 41) X 0 rfl dX9_count_40 rfl ?_
    refine jm_get (n := 44) X 0 8 0 cW_X9 rfl (by decide) (fun w h => List.mem_cons_of_mem _ (List.mem_append_left _ (List.mem_append_right _ h))) (List.mem_of_getElem? (i := 1) rfl) rfl dX9_count_41 rfl ?_
    refine jm_get (n := 47) X 1 3 7 cW_X4 rfl (by decide) (fun w h => List.mem_cons_of_mem _ (List.mem_append_right _ h)) (List.mem_of_getElem? (i := 2) rfl) rfl dX9_count_44 rfl ?_
    exact jm_iret X rfl k0 (k0.1 87) dX9_count_47
  refine jm_tcase (tgt := 48) X (1) dX9_count_1 hx1 (by decide) (by decide) rfl (by decide) (fun c2 => ?_) (fun c2 => ?_)
  · refine jm_aload_n (n := 49) X 0 rfl dX9_count_48 rfl ?_
    refine jm_get (n := 52) X 0 8 7 cW_X9 rfl (by decide) (fun w h => List.mem_cons_of_mem _ (List.mem_append_left _ (List.mem_append_right _ h))) (List.mem_of_getElem? (i := 3) rfl) rfl dX9_count_49 rfl ?_
    exact jm_iret X rfl k0 (k0.1 187) dX9_count_52
  refine jm_tcase (tgt := 53) X (2) dX9_count_1 hx1 (by decide) (by decide) rfl (by decide) (fun c3 => ?_) (fun c3 => ?_)
  · refine jm_aload_n (n := 54) X 0 rfl dX9_count_53 rfl ?_
    refine jm_get (n := 57) X 0 8 8 cW_X9 rfl (by decide) (fun w h => List.mem_cons_of_mem _ (List.mem_append_left _ (List.mem_append_right _ h))) (List.mem_of_getElem? (i := 4) rfl) rfl dX9_count_54 rfl ?_
    exact jm_iret X rfl k0 (k0.1 188) dX9_count_57
  refine jm_tcase (tgt := 58) X (3) dX9_count_1 hx1 (by decide) (by decide) rfl (by decide) (fun c4 => ?_) (fun c4 => ?_)
  · refine jm_aload_n (n := 59) X 0 rfl dX9_count_58 rfl ?_
    refine jm_get (n := 62) X 0 8 9 cW_X9 rfl (by decide) (fun w h => List.mem_cons_of_mem _ (List.mem_append_left _ (List.mem_append_right _ h))) (List.mem_of_getElem? (i := 5) rfl) rfl dX9_count_59 rfl ?_
    exact jm_iret X rfl k0 (k0.1 189) dX9_count_62
  refine jm_tcase (tgt := 63) X (4) dX9_count_1 hx1 (by decide) (by decide) rfl (by decide) (fun c5 => ?_) (fun c5 => ?_)
  · refine jm_aload_n (n := 64) X 0 rfl dX9_count_63 rfl ?_
    refine jm_get (n := 67) X 0 8 10 cW_X9 rfl (by decide) (fun w h => List.mem_cons_of_mem _ (List.mem_append_left _ (List.mem_append_right _ h))) (List.mem_of_getElem? (i := 6) rfl) rfl dX9_count_64 rfl ?_
    exact jm_iret X rfl k0 (k0.1 190) dX9_count_67
  refine jm_tcase (tgt := 68) X (5) dX9_count_1 hx1 (by decide) (by decide) rfl (by decide) (fun c6 => ?_) (fun c6 => ?_)
  · refine jm_aload_n (n := 69) X 0 rfl dX9_count_68 rfl ?_
    refine jm_get (n := 72) X 0 8 11 cW_X9 rfl (by decide) (fun w h => List.mem_cons_of_mem _ (List.mem_append_left _ (List.mem_append_right _ h))) (List.mem_of_getElem? (i := 7) rfl) rfl dX9_count_69 rfl ?_
    exact jm_iret X rfl k0 (k0.1 191) dX9_count_72
  refine jm_tout (tgt := 73) X dX9_count_1 hx1 (by decide) (by omega) ?_
  refine jm_iconst (n := 74) X dX9_count_73 rfl ?_
  exact jm_iret X rfl k0 (by decide) dX9_count_74
abbrev rm9_keepValue : Room := { frames := 3, cells := 0, slots := 0, locals := 61 }
def f9_keepValue (σ0 : Sg)  : Option (Sg × Int) :=
  bd (f2_plainResult σ0 ) fun σ1 r1 =>
  nx (sI σ1 184 r1) fun σ3 =>
  nx (sI σ3 185 (gI σ3 52)) fun σ4 =>
  ck (inR ((gI σ4 186) + (gI σ4 185))) <|
  nx (sI σ4 186 ((gI σ4 186) + (gI σ4 185))) fun σ6 =>
  ck (inR ((gI σ6 187) + (1 : Int))) <|
  nx (sI σ6 187 ((gI σ6 187) + (1 : Int))) fun σ8 =>
  bd (f2_resultForm σ8 ) fun σ9 r9 =>
  some (σ9, r9)
set_option maxRecDepth 100000 in
theorem t9_keepValue (l : Launch) {h : Nat → Nat} {cI cZ : ClassId} {D : va_G} {t1 t2 : Nat} {σ0 : Sg}  (k0 : ok σ0)  : ctI (cE t1 t2) l (cW h cI cZ) D (mT cI cZ) yX9_keepValue wsX9_keepValue rm9_keepValue [.ref (h 199)] σ0 (f9_keepValue σ0 ) := by
  refine of_I (cE_ok t1 t2) (own := RX9) (lv := [(0, .ref (h 199))]) (by decide) rfl rfl (Nat.le_of_ble_eq_true rfl) rfl (fun p e s m below meth c sz X hA => ?_)
  rw [f9_keepValue]
  refine jm_aload_n (n := 1) X 0 rfl dX9_keepValue_0 rfl ?_
  refine jm_aload_n (n := 2) X 0 rfl dX9_keepValue_1 rfl ?_
  refine jm_get (n := 5) X 0 8 1 cW_X9 rfl (by decide) (fun w h => List.mem_cons_of_mem _ (List.mem_append_left _ (List.mem_append_left _ (List.mem_append_right _ h)))) (List.mem_of_getElem? (i := 1) rfl) rfl dX9_keepValue_2 rfl ?_
  refine jm_callVi (n := 8) (vs := []) (rest := [.ref (h 199)]) X hA (t2_plainResult l k0 ) (cwV 0 X.2.2.2.2.1 gX9_keepValue_X2_plainResult rfl rfl rfl (by decide +kernel) ⟨Nat.le_of_ble_eq_true rfl, Nat.le_of_ble_eq_true rfl⟩) 2 1 cW_X2 rfl rfl (Nat.le_of_ble_eq_true rfl) dX9_keepValue_5 rfl (fun σ1 r1 k1 h2 => ?_)
  refine jm_put (n := 11) X 0 8 4 184 cW_X9 rfl (by decide) (fun w h => List.mem_cons_of_mem _ (List.mem_append_left _ (List.mem_append_left _ (List.mem_append_right _ h)))) tyX9 tyX9_ok nmX9 (List.mem_of_getElem? (i := 2) rfl) rfl rfl rfl rfl (Nat.le_of_ble_eq_true rfl) cS_184 k1 h2 dX9_keepValue_8 rfl (fun σ3 k3 => ?_)
  refine jm_aload_n (n := 12) X 0 rfl dX9_keepValue_11 rfl ?_
  refine jm_aload_n (n := 13) X 0 rfl dX9_keepValue_12 rfl ?_
  refine jm_get (n := 16) X 0 8 1 cW_X9 rfl (by decide) (fun w h => List.mem_cons_of_mem _ (List.mem_append_left _ (List.mem_append_left _ (List.mem_append_right _ h)))) (List.mem_of_getElem? (i := 1) rfl) rfl dX9_keepValue_13 rfl ?_
  refine jm_get (n := 19) X 2 1 12 cW_X2 rfl (by decide) (fun w h => List.mem_cons_of_mem _ (List.mem_append_left _ (List.mem_append_right _ h))) (List.mem_of_getElem? (i := 3) rfl) rfl dX9_keepValue_16 rfl ?_
  refine jm_put (n := 22) X 0 8 5 185 cW_X9 rfl (by decide) (fun w h => List.mem_cons_of_mem _ (List.mem_append_left _ (List.mem_append_left _ (List.mem_append_right _ h)))) tyX9 tyX9_ok nmX9 (List.mem_of_getElem? (i := 4) rfl) rfl rfl rfl rfl (Nat.le_of_ble_eq_true rfl) cS_185 k3 (k3.1 52) dX9_keepValue_19 rfl (fun σ4 k4 => ?_)
  refine jm_aload_n (n := 23) X 0 rfl dX9_keepValue_22 rfl ?_
  refine jm_dup (n := 24) X dX9_keepValue_23 rfl rfl ?_
  refine jm_get (n := 27) X 0 8 6 cW_X9 rfl (by decide) (fun w h => List.mem_cons_of_mem _ (List.mem_append_left _ (List.mem_append_left _ (List.mem_append_right _ h)))) (List.mem_of_getElem? (i := 5) rfl) rfl dX9_keepValue_24 rfl ?_
  refine jm_aload_n (n := 28) X 0 rfl dX9_keepValue_27 rfl ?_
  refine jm_get (n := 31) X 0 8 5 cW_X9 rfl (by decide) (fun w h => List.mem_cons_of_mem _ (List.mem_append_left _ (List.mem_append_left _ (List.mem_append_right _ h)))) (List.mem_of_getElem? (i := 4) rfl) rfl dX9_keepValue_28 rfl ?_
  refine jm_i2l (n := 32) X (k4.1 185) dX9_keepValue_31 rfl ?_
  refine jm_ladd (n := 33) X dX9_keepValue_32 rfl (fun h5 => ?_)
  refine jm_put (n := 36) X 0 8 6 186 cW_X9 rfl (by decide) (fun w h => List.mem_cons_of_mem _ (List.mem_append_left _ (List.mem_append_left _ (List.mem_append_right _ h)))) tyX9 tyX9_ok nmX9 (List.mem_of_getElem? (i := 5) rfl) rfl rfl rfl rfl (Nat.le_of_ble_eq_true rfl) cS_186 k4 h5 dX9_keepValue_33 rfl (fun σ6 k6 => ?_)
  refine jm_aload_n (n := 37) X 0 rfl dX9_keepValue_36 rfl ?_
  refine jm_dup (n := 38) X dX9_keepValue_37 rfl rfl ?_
  refine jm_get (n := 41) X 0 8 7 cW_X9 rfl (by decide) (fun w h => List.mem_cons_of_mem _ (List.mem_append_left _ (List.mem_append_left _ (List.mem_append_right _ h)))) (List.mem_of_getElem? (i := 6) rfl) rfl dX9_keepValue_38 rfl ?_
  refine jm_iconst (n := 42) X dX9_keepValue_41 rfl ?_
  refine jm_iadd (n := 43) X dX9_keepValue_42 rfl (fun h7 => ?_)
  refine jm_put (n := 46) X 0 8 7 187 cW_X9 rfl (by decide) (fun w h => List.mem_cons_of_mem _ (List.mem_append_left _ (List.mem_append_left _ (List.mem_append_right _ h)))) tyX9 tyX9_ok nmX9 (List.mem_of_getElem? (i := 6) rfl) rfl rfl rfl rfl (Nat.le_of_ble_eq_true rfl) cS_187 k6 h7 dX9_keepValue_43 rfl (fun σ8 k8 => ?_)
  refine jm_aload_n (n := 47) X 0 rfl dX9_keepValue_46 rfl ?_
  refine jm_get (n := 50) X 0 8 1 cW_X9 rfl (by decide) (fun w h => List.mem_cons_of_mem _ (List.mem_append_left _ (List.mem_append_left _ (List.mem_append_right _ h)))) (List.mem_of_getElem? (i := 1) rfl) rfl dX9_keepValue_47 rfl ?_
  refine jm_callVi (n := 53) (vs := []) (rest := []) X hA (t2_resultForm l k8 ) (cwV 0 X.2.2.2.2.1 gX9_keepValue_X2_resultForm rfl rfl rfl (by decide +kernel) ⟨Nat.le_of_ble_eq_true rfl, Nat.le_of_ble_eq_true rfl⟩) 2 1 cW_X2 rfl rfl (Nat.le_of_ble_eq_true rfl) dX9_keepValue_50 rfl (fun σ9 r9 k9 h10 => ?_)
  exact jm_iret X rfl k9 h10 dX9_keepValue_53
abbrev rm9_open : Room := { frames := 6, cells := 1, slots := 6, locals := 120 }
def f9_open (σ0 : Sg) (x1 : Int) : Option (Sg × Int) :=
  bd (f4_has σ0 x1) fun σ1 r1 =>
  if r1 = 0 then (some (σ1, (-103 : Int)))
  else (ck (0 ≤ x1 ∧ x1 < 60) <|
  ck (-100 < (gA σ1 84 x1)) (some (σ1, (gA σ1 84 x1))))
set_option maxRecDepth 100000 in
theorem t9_open (l : Launch) {h : Nat → Nat} {cI cZ : ClassId} {D : va_G} {t1 t2 : Nat} (hl : l.stackTraces = false) {σ0 : Sg} {x1 : Int} (k0 : ok σ0) (hx1 : inR x1) : ctX (cE t1 t2) l (cW h cI cZ) D (mT cI cZ) yX9_open wsX9_open rm9_open [.ref (h 199), .int (iI x1)] σ0 (f9_open σ0 x1) := by
  refine of_X (cE_ok t1 t2) (own := RX9) (lv := [(0, .ref (h 199)), (1, .int (iI x1))]) (by decide) rfl rfl (Nat.le_of_ble_eq_true rfl) rfl (fun p e s m below meth c sz X hA hT => ?_)
  rw [f9_open]
  refine jm_aload_n (n := 1) X 0 rfl dX9_open_0 rfl ?_
  refine jm_get (n := 4) X 0 8 0 cW_X9 rfl (by decide) (fun w h => List.mem_cons_of_mem _ (List.mem_append_left _ (List.mem_append_left _ (List.mem_append_right _ h)))) (List.mem_of_getElem? (i := 3) rfl) rfl dX9_open_1 rfl ?_
  refine jm_iload_n (n := 5) X 1 rfl dX9_open_4 rfl ?_
  refine jm_callVi (n := 8) (vs := [.int (iI x1)]) (rest := []) X hA (t4_has l k0 hx1) (cwV 1 X.2.2.2.2.1 gX9_open_X4_has rfl rfl rfl (by decide +kernel) ⟨Nat.le_of_ble_eq_true rfl, Nat.le_of_ble_eq_true rfl⟩) 1 3 cW_X4 rfl rfl (Nat.le_of_ble_eq_true rfl) dX9_open_5 rfl (fun σ1 r1 k1 h2 => ?_)
  refine jm_if_ne (n := 11) (tgt := 19) X dX9_open_8 (by decide) h2 rfl (fun c3 => ?_) (fun c3 => ?_)
  · exact jx_throw X hT hl k1 (Or.inr (Or.inr (Or.inl ⟨rfl, rfl⟩))) (by decide) (by decide) (List.mem_of_getElem? (i := 1) rfl) (List.mem_of_getElem? (i := 2) rfl) (fun w h => List.mem_cons_of_mem _ (List.mem_append_right _ h)) xn_NS xg_NS dX9_open_11 dX9_open_14 dX9_open_15 dX9_open_18 ⟨Nat.le_of_ble_eq_true rfl, Nat.le_of_ble_eq_true rfl, Nat.le_of_ble_eq_true rfl, Nat.le_of_ble_eq_true rfl⟩
  · refine jm_aload_n (n := 20) X 0 rfl dX9_open_19 rfl ?_
    refine jm_get (n := 23) X 0 8 0 cW_X9 rfl (by decide) (fun w h => List.mem_cons_of_mem _ (List.mem_append_left _ (List.mem_append_left _ (List.mem_append_right _ h)))) (List.mem_of_getElem? (i := 3) rfl) rfl dX9_open_20 rfl ?_
    refine jm_get (n := 26) X 1 3 4 cW_X4 rfl (by decide) (fun w h => List.mem_cons_of_mem _ (List.mem_append_left _ (List.mem_append_right _ h))) (List.mem_of_getElem? (i := 4) rfl) rfl dX9_open_23 rfl ?_
    refine jm_iload_n (n := 27) X 1 rfl dX9_open_26 rfl ?_
    refine jm_ald (n := 28) X 13 0 84 cA_84 rfl rfl hx1 dX9_open_27 rfl (fun h4 => ?_)
    exact jx_iret X k1 (k1.2 84 _) dX9_open_28
abbrev rm9_make : Room := { frames := 6, cells := 1, slots := 6, locals := 120 }
def f9_make (σ0 : Sg) (x1 : Int) (x2 : Int) (x3 : Int) (x4 : Int) : Option (Sg × Int) :=
  bd (f4_wordsFit σ0 x1 x2 x3 x4) fun σ1 r1 =>
  if r1 = 0 then (some (σ1, (-101 : Int)))
  else (bd (f4_hasRoomFor σ1 x1 x2 x3 x4) fun σ4 r4 =>
  if r4 = 0 then (some (σ4, (-102 : Int)))
  else (bd (f4_add σ4 x1 x2 x3 x4) fun σ7 r7 =>
  ck (-100 < r7) (some (σ7, r7))))
set_option maxRecDepth 100000 in
theorem t9_make (l : Launch) {h : Nat → Nat} {cI cZ : ClassId} {D : va_G} {t1 t2 : Nat} (hl : l.stackTraces = false) {σ0 : Sg} {x1 : Int} {x2 : Int} {x3 : Int} {x4 : Int} (k0 : ok σ0) (hx1 : inR x1) (hx2 : inR x2) (hx3 : inR x3) (hx4 : inR x4) : ctX (cE t1 t2) l (cW h cI cZ) D (mT cI cZ) yX9_make wsX9_make rm9_make [.ref (h 199), .int (iI x1), .int (iI x2), .int (iI x3), .int (iI x4)] σ0 (f9_make σ0 x1 x2 x3 x4) := by
  refine of_X (cE_ok t1 t2) (own := RX9) (lv := [(0, .ref (h 199)), (1, .int (iI x1)), (2, .int (iI x2)), (3, .int (iI x3)), (4, .int (iI x4))]) (by decide) rfl rfl (Nat.le_of_ble_eq_true rfl) rfl (fun p e s m below meth c sz X hA hT => ?_)
  rw [f9_make]
  refine jm_aload_n (n := 1) X 0 rfl dX9_make_0 rfl ?_
  refine jm_get (n := 4) X 0 8 0 cW_X9 rfl (by decide) (fun w h => List.mem_cons_of_mem _ (List.mem_append_left _ (List.mem_append_left _ (List.mem_append_left _ (List.mem_append_right _ h))))) (List.mem_of_getElem? (i := 5) rfl) rfl dX9_make_1 rfl ?_
  refine jm_iload_n (n := 5) X 1 rfl dX9_make_4 rfl ?_
  refine jm_iload_n (n := 6) X 2 rfl dX9_make_5 rfl ?_
  refine jm_iload_n (n := 7) X 3 rfl dX9_make_6 rfl ?_
  refine jm_iload (n := 9) X 4 rfl dX9_make_7 rfl ?_
  refine jm_callVi (n := 12) (vs := [.int (iI x1), .int (iI x2), .int (iI x3), .int (iI x4)]) (rest := []) X hA (t4_wordsFit l k0 hx1 hx2 hx3 hx4) (cwV 4 X.2.2.2.2.1 gX9_make_X4_wordsFit rfl rfl rfl (by decide +kernel) ⟨Nat.le_of_ble_eq_true rfl, Nat.le_of_ble_eq_true rfl⟩) 1 3 cW_X4 rfl rfl (Nat.le_of_ble_eq_true rfl) dX9_make_9 rfl (fun σ1 r1 k1 h2 => ?_)
  refine jm_if_ne (n := 15) (tgt := 23) X dX9_make_12 (by decide) h2 rfl (fun c3 => ?_) (fun c3 => ?_)
  · exact jx_throw X hT hl k1 (Or.inl ⟨rfl, rfl⟩) (by decide) (by decide) (List.mem_of_getElem? (i := 1) rfl) (List.mem_of_getElem? (i := 2) rfl) (fun w h => List.mem_cons_of_mem _ (List.mem_append_left _ (List.mem_append_right _ h))) xn_IA xg_IA dX9_make_15 dX9_make_18 dX9_make_19 dX9_make_22 ⟨Nat.le_of_ble_eq_true rfl, Nat.le_of_ble_eq_true rfl, Nat.le_of_ble_eq_true rfl, Nat.le_of_ble_eq_true rfl⟩
  · refine jm_aload_n (n := 24) X 0 rfl dX9_make_23 rfl ?_
    refine jm_get (n := 27) X 0 8 0 cW_X9 rfl (by decide) (fun w h => List.mem_cons_of_mem _ (List.mem_append_left _ (List.mem_append_left _ (List.mem_append_left _ (List.mem_append_right _ h))))) (List.mem_of_getElem? (i := 5) rfl) rfl dX9_make_24 rfl ?_
    refine jm_iload_n (n := 28) X 1 rfl dX9_make_27 rfl ?_
    refine jm_iload_n (n := 29) X 2 rfl dX9_make_28 rfl ?_
    refine jm_iload_n (n := 30) X 3 rfl dX9_make_29 rfl ?_
    refine jm_iload (n := 32) X 4 rfl dX9_make_30 rfl ?_
    refine jm_callVi (n := 35) (vs := [.int (iI x1), .int (iI x2), .int (iI x3), .int (iI x4)]) (rest := []) X hA (t4_hasRoomFor l k1 hx1 hx2 hx3 hx4) (cwV 4 X.2.2.2.2.1 gX9_make_X4_hasRoomFor rfl rfl rfl (by decide +kernel) ⟨Nat.le_of_ble_eq_true rfl, Nat.le_of_ble_eq_true rfl⟩) 1 3 cW_X4 rfl rfl (Nat.le_of_ble_eq_true rfl) dX9_make_32 rfl (fun σ4 r4 k4 h5 => ?_)
    refine jm_if_ne (n := 38) (tgt := 46) X dX9_make_35 (by decide) h5 rfl (fun c6 => ?_) (fun c6 => ?_)
    · exact jx_throw X hT hl k4 (Or.inr (Or.inl ⟨rfl, rfl⟩)) (by decide) (by decide) (List.mem_of_getElem? (i := 3) rfl) (List.mem_of_getElem? (i := 4) rfl) (fun w h => List.mem_cons_of_mem _ (List.mem_append_right _ h)) xn_IS xg_IS dX9_make_38 dX9_make_41 dX9_make_42 dX9_make_45 ⟨Nat.le_of_ble_eq_true rfl, Nat.le_of_ble_eq_true rfl, Nat.le_of_ble_eq_true rfl, Nat.le_of_ble_eq_true rfl⟩
    · refine jm_aload_n (n := 47) X 0 rfl dX9_make_46 rfl ?_
      refine jm_get (n := 50) X 0 8 0 cW_X9 rfl (by decide) (fun w h => List.mem_cons_of_mem _ (List.mem_append_left _ (List.mem_append_left _ (List.mem_append_left _ (List.mem_append_right _ h))))) (List.mem_of_getElem? (i := 5) rfl) rfl dX9_make_47 rfl ?_
      refine jm_iload_n (n := 51) X 1 rfl dX9_make_50 rfl ?_
      refine jm_iload_n (n := 52) X 2 rfl dX9_make_51 rfl ?_
      refine jm_iload_n (n := 53) X 3 rfl dX9_make_52 rfl ?_
      refine jm_iload (n := 55) X 4 rfl dX9_make_53 rfl ?_
      refine jm_callVi (n := 58) (vs := [.int (iI x1), .int (iI x2), .int (iI x3), .int (iI x4)]) (rest := []) X hA (t4_add l k4 hx1 hx2 hx3 hx4) (cwV 4 X.2.2.2.2.1 gX9_make_X4_add rfl rfl rfl (by decide +kernel) ⟨Nat.le_of_ble_eq_true rfl, Nat.le_of_ble_eq_true rfl⟩) 1 3 cW_X4 rfl rfl (Nat.le_of_ble_eq_true rfl) dX9_make_55 rfl (fun σ7 r7 k7 h8 => ?_)
      exact jx_iret X k7 h8 dX9_make_58
abbrev rm9_work : Room := { frames := 6, cells := 1, slots := 6, locals := 120 }
def b9_work_31 (N : Nat) (σ0 : Sg)  : Option (Sg × Int) :=
  some (σ0, (-104 : Int))
set_option maxRecDepth 100000 in
theorem u9_work_31 (X : CX p m meth c cX9_work 4 (some .int) s args wsX9_work RX9 D (mT cI cZ) (cE t1 t2) (va_A (cW h cI cZ σz) sz)) (hA : ∀ z : Nat, s.heap.size ≤ z → va_A (cW h cI cZ σz) sz z) (N : Nat) (hT : ∀ x ∈ c.exceptionTable.toList, False) (hl : l.stackTraces = false) (σ0 : Sg)  (k0 : ok σ0)  : JX l rm9_work (cW h cI cZ) D (mT cI cZ) σz sz 4 p e s m args below meth c σ0 31 [] [] (b9_work_31 N σ0 ) := by
  rw [b9_work_31]
  exact jx_throw X hT hl k0 (Or.inr (Or.inr (Or.inr ⟨rfl, rfl⟩))) (by decide) (by decide) (List.mem_of_getElem? (i := 3) rfl) (List.mem_of_getElem? (i := 4) rfl) (fun w h => List.mem_cons_of_mem _ (List.mem_append_left _ (List.mem_append_left _ (List.mem_append_right _ h)))) xn_IO xg_IO dX9_work_31 dX9_work_34 dX9_work_35 dX9_work_38 ⟨Nat.le_of_ble_eq_true rfl, Nat.le_of_ble_eq_true rfl, Nat.le_of_ble_eq_true rfl, Nat.le_of_ble_eq_true rfl⟩
def f9_work (N : Nat) (σ0 : Sg) (x1 : Int) (x2 : Int) : Option (Sg × Int) :=
  bd (f4_hasClosed σ0 x1) fun σ1 r1 =>
  if r1 = 0 then (some (σ1, (-103 : Int)))
  else (if x2 < (1 : Int) then ((b9_work_31 N σ1 ))
  else (if x2 ≤ (200 : Int) then (bd (f2_workOut N σ1 x1 x2) fun σ6 r6 =>
  if r6 = (1 : Int) then (ck (inR ((gI σ6 188) + (1 : Int))) <|
  nx (sI σ6 188 ((gI σ6 188) + (1 : Int))) fun σ10 =>
  some (σ10, (-101 : Int)))
  else (if r6 = 0 then (bd (f9_keepValue σ6 ) fun σ12 r12 =>
  ck (-100 < r12) (some (σ12, r12)))
  else (ck (inR ((gI σ6 189) + (1 : Int))) <|
  nx (sI σ6 189 ((gI σ6 189) + (1 : Int))) fun σ15 =>
  some (σ15, (-102 : Int)))))
  else ((b9_work_31 N σ1 ))))
set_option maxRecDepth 100000 in
theorem t9_work (l : Launch) {h : Nat → Nat} {cI cZ : ClassId} {D : va_G} {t1 t2 : Nat} (N : Nat) (hl : l.stackTraces = false) {σ0 : Sg} {x1 : Int} {x2 : Int} (k0 : ok σ0) (hx1 : inR x1) (hx2 : inR x2) : ctX (cE t1 t2) l (cW h cI cZ) D (mT cI cZ) yX9_work wsX9_work rm9_work [.ref (h 199), .int (iI x1), .int (iI x2)] σ0 (f9_work N σ0 x1 x2) := by
  refine of_X (cE_ok t1 t2) (own := RX9) (lv := [(0, .ref (h 199)), (1, .int (iI x1)), (2, .int (iI x2))]) (by decide) rfl rfl (Nat.le_of_ble_eq_true rfl) rfl (fun p e s m below meth c sz X hA hT => ?_)
  rw [f9_work]
  refine jm_aload_n (n := 1) X 0 rfl dX9_work_0 rfl ?_
  refine jm_get (n := 4) X 0 8 0 cW_X9 rfl (by decide) (fun w h => List.mem_cons_of_mem _ (List.mem_append_left _ (List.mem_append_left _ (List.mem_append_left _ (List.mem_append_left _ (List.mem_append_left _ (List.mem_append_left _ (List.mem_append_left _ (List.mem_append_left _ (List.mem_append_left _ (List.mem_append_right _ h))))))))))) (List.mem_of_getElem? (i := 9) rfl) rfl dX9_work_1 rfl ?_
  refine jm_iload_n (n := 5) X 1 rfl dX9_work_4 rfl ?_
  refine jm_callVi (n := 8) (vs := [.int (iI x1)]) (rest := []) X hA (t4_hasClosed l k0 hx1) (cwV 1 X.2.2.2.2.1 gX9_work_X4_hasClosed rfl rfl rfl (by decide +kernel) ⟨Nat.le_of_ble_eq_true rfl, Nat.le_of_ble_eq_true rfl⟩) 1 3 cW_X4 rfl rfl (Nat.le_of_ble_eq_true rfl) dX9_work_5 rfl (fun σ1 r1 k1 h2 => ?_)
  refine jm_if_ne (n := 11) (tgt := 19) X dX9_work_8 (by decide) h2 rfl (fun c3 => ?_) (fun c3 => ?_)
  · exact jx_throw X hT hl k1 (Or.inr (Or.inr (Or.inl ⟨rfl, rfl⟩))) (by decide) (by decide) (List.mem_of_getElem? (i := 1) rfl) (List.mem_of_getElem? (i := 2) rfl) (fun w h => List.mem_cons_of_mem _ (List.mem_append_left _ (List.mem_append_left _ (List.mem_append_left _ (List.mem_append_right _ h))))) xn_NS xg_NS dX9_work_11 dX9_work_14 dX9_work_15 dX9_work_18 ⟨Nat.le_of_ble_eq_true rfl, Nat.le_of_ble_eq_true rfl, Nat.le_of_ble_eq_true rfl, Nat.le_of_ble_eq_true rfl⟩
  · refine jm_iload_n (n := 20) X 2 rfl dX9_work_19 rfl ?_
    refine jm_iconst (n := 21) X dX9_work_20 rfl ?_
    refine jm_icmp_lt (n := 24) (tgt := 31) X dX9_work_21 (by decide) hx2 (by decide) rfl (fun c4 => ?_) (fun c4 => ?_)
    · refine jm_perm [] rfl ?_
      exact u9_work_31 X hA N hT hl σ1  k1 
    · refine jm_iload_n (n := 25) X 2 rfl dX9_work_24 rfl ?_
      refine jm_sipush (n := 28) X dX9_work_25 (by decide) rfl ?_
      refine jm_icmp_le (n := 31) (tgt := 39) X dX9_work_28 (by decide) hx2 (by decide) rfl (fun c5 => ?_) (fun c5 => ?_)
      · refine jm_aload_n (n := 40) X 0 rfl dX9_work_39 rfl ?_
        refine jm_get (n := 43) X 0 8 1 cW_X9 rfl (by decide) (fun w h => List.mem_cons_of_mem _ (List.mem_append_left _ (List.mem_append_left _ (List.mem_append_left _ (List.mem_append_left _ (List.mem_append_left _ (List.mem_append_left _ (List.mem_append_left _ (List.mem_append_left _ (List.mem_append_left _ (List.mem_append_right _ h))))))))))) (List.mem_of_getElem? (i := 10) rfl) rfl dX9_work_40 rfl ?_
        refine jm_iload_n (n := 44) X 1 rfl dX9_work_43 rfl ?_
        refine jm_iload_n (n := 45) X 2 rfl dX9_work_44 rfl ?_
        refine jm_callVi (n := 48) (vs := [.int (iI x1), .int (iI x2)]) (rest := []) X hA (t2_workOut l N k1 hx1 hx2) (cwV 2 X.2.2.2.2.1 gX9_work_X2_workOut rfl rfl rfl (by decide +kernel) ⟨Nat.le_of_ble_eq_true rfl, Nat.le_of_ble_eq_true rfl⟩) 2 1 cW_X2 rfl rfl (Nat.le_of_ble_eq_true rfl) dX9_work_45 rfl (fun σ6 r6 k6 h7 => ?_)
        refine jm_istore_n (n := 49) (lv' := [(3, .int (iI r6)), (0, .ref (h 199)), (1, .int (iI x1)), (2, .int (iI x2))]) X dX9_work_48 (by decide) rfl rfl ?_
        refine jm_iload_n (n := 50) X 0 rfl dX9_work_49 rfl ?_
        refine jm_iconst (n := 51) X dX9_work_50 rfl ?_
        refine jm_icmp_ne (n := 54) (tgt := 72) X dX9_work_51 (by decide) h7 (by decide) rfl (fun c8 => ?_) (fun c8 => ?_)
        · refine jm_aload_n (n := 55) X 1 rfl dX9_work_54 rfl ?_
          refine jm_dup (n := 56) X dX9_work_55 rfl rfl ?_
          refine jm_get (n := 59) X 0 8 8 cW_X9 rfl (by decide) (fun w h => List.mem_cons_of_mem _ (List.mem_append_left _ (List.mem_append_left _ (List.mem_append_left _ (List.mem_append_left _ (List.mem_append_left _ (List.mem_append_left _ (List.mem_append_left _ (List.mem_append_left _ (List.mem_append_left _ (List.mem_append_right _ h))))))))))) (List.mem_of_getElem? (i := 11) rfl) rfl dX9_work_56 rfl ?_
          refine jm_iconst (n := 60) X dX9_work_59 rfl ?_
          refine jm_iadd (n := 61) X dX9_work_60 rfl (fun h9 => ?_)
          refine jm_put (n := 64) X 0 8 8 188 cW_X9 rfl (by decide) (fun w h => List.mem_cons_of_mem _ (List.mem_append_left _ (List.mem_append_left _ (List.mem_append_left _ (List.mem_append_left _ (List.mem_append_left _ (List.mem_append_left _ (List.mem_append_left _ (List.mem_append_left _ (List.mem_append_left _ (List.mem_append_right _ h))))))))))) tyX9 tyX9_ok nmX9 (List.mem_of_getElem? (i := 11) rfl) rfl rfl rfl rfl (Nat.le_of_ble_eq_true rfl) cS_188 k6 h9 dX9_work_61 rfl (fun σ10 k10 => ?_)
          exact jx_throw X hT hl k10 (Or.inl ⟨rfl, rfl⟩) (by decide) (by decide) (List.mem_of_getElem? (i := 5) rfl) (List.mem_of_getElem? (i := 6) rfl) (fun w h => List.mem_cons_of_mem _ (List.mem_append_left _ (List.mem_append_right _ h))) xn_IA xg_IA dX9_work_64 dX9_work_67 dX9_work_68 dX9_work_71 ⟨Nat.le_of_ble_eq_true rfl, Nat.le_of_ble_eq_true rfl, Nat.le_of_ble_eq_true rfl, Nat.le_of_ble_eq_true rfl⟩
        · refine jm_iload_n (n := 73) X 0 rfl dX9_work_72 rfl ?_
          refine jm_if_eq (n := 76) (tgt := 94) X dX9_work_73 (by decide) h7 rfl (fun c11 => ?_) (fun c11 => ?_)
          · refine jm_aload_n (n := 95) X 1 rfl dX9_work_94 rfl ?_
            refine jm_callVi (n := 98) (vs := []) (rest := []) X hA (t9_keepValue l k6 ) (cwV 0 X.2.2.2.2.1 gX9_work_X9_keepValue rfl rfl rfl (by decide +kernel) ⟨Nat.le_of_ble_eq_true rfl, Nat.le_of_ble_eq_true rfl⟩) 0 8 cW_X9 rfl rfl (Nat.le_of_ble_eq_true rfl) dX9_work_95 rfl (fun σ12 r12 k12 h13 => ?_)
            exact jx_iret X k12 h13 dX9_work_98
          · refine jm_aload_n (n := 77) X 1 rfl dX9_work_76 rfl ?_
            refine jm_dup (n := 78) X dX9_work_77 rfl rfl ?_
            refine jm_get (n := 81) X 0 8 9 cW_X9 rfl (by decide) (fun w h => List.mem_cons_of_mem _ (List.mem_append_left _ (List.mem_append_left _ (List.mem_append_left _ (List.mem_append_left _ (List.mem_append_left _ (List.mem_append_left _ (List.mem_append_left _ (List.mem_append_left _ (List.mem_append_left _ (List.mem_append_right _ h))))))))))) (List.mem_of_getElem? (i := 12) rfl) rfl dX9_work_78 rfl ?_
            refine jm_iconst (n := 82) X dX9_work_81 rfl ?_
            refine jm_iadd (n := 83) X dX9_work_82 rfl (fun h14 => ?_)
            refine jm_put (n := 86) X 0 8 9 189 cW_X9 rfl (by decide) (fun w h => List.mem_cons_of_mem _ (List.mem_append_left _ (List.mem_append_left _ (List.mem_append_left _ (List.mem_append_left _ (List.mem_append_left _ (List.mem_append_left _ (List.mem_append_left _ (List.mem_append_left _ (List.mem_append_left _ (List.mem_append_right _ h))))))))))) tyX9 tyX9_ok nmX9 (List.mem_of_getElem? (i := 12) rfl) rfl rfl rfl rfl (Nat.le_of_ble_eq_true rfl) cS_189 k6 h14 dX9_work_83 rfl (fun σ15 k15 => ?_)
            exact jx_throw X hT hl k15 (Or.inr (Or.inl ⟨rfl, rfl⟩)) (by decide) (by decide) (List.mem_of_getElem? (i := 7) rfl) (List.mem_of_getElem? (i := 8) rfl) (fun w h => List.mem_cons_of_mem _ (List.mem_append_right _ h)) xn_IS xg_IS dX9_work_86 dX9_work_89 dX9_work_90 dX9_work_93 ⟨Nat.le_of_ble_eq_true rfl, Nat.le_of_ble_eq_true rfl, Nat.le_of_ble_eq_true rfl, Nat.le_of_ble_eq_true rfl⟩
      · refine jm_perm [] rfl ?_
        exact u9_work_31 X hA N hT hl σ1  k1 
abbrev rm9_type : Room := { frames := 48, cells := 1, slots := 6, locals := 1249 }
def f9_type (N : Nat) (σ0 : Sg) (x1 : Int) : Option (Sg × Int) :=
  bd (f4_hasClosed σ0 x1) fun σ1 r1 =>
  if r1 = 0 then (some (σ1, (-103 : Int)))
  else (bd (f6_typeOfWhole N σ1 x1) fun σ4 r4 =>
  if r4 = (-1 : Int) then (ck (inR ((gI σ4 191) + (1 : Int))) <|
  nx (sI σ4 191 ((gI σ4 191) + (1 : Int))) fun σ8 =>
  some (σ8, (-101 : Int)))
  else (ck (inR ((gI σ4 190) + (1 : Int))) <|
  nx (sI σ4 190 ((gI σ4 190) + (1 : Int))) fun σ10 =>
  bd (f1_keep N σ10 r4) fun σ11 r11 =>
  bd (f1_at N σ11 (0 : Int)) fun σ13 r13 =>
  ck (-100 < r13) (some (σ13, r13))))
set_option maxRecDepth 100000 in
theorem t9_type (l : Launch) {h : Nat → Nat} {cI cZ : ClassId} {D : va_G} {t1 t2 : Nat} (N : Nat) (hl : l.stackTraces = false) {σ0 : Sg} {x1 : Int} (k0 : ok σ0) (hx1 : inR x1) : ctX (cE t1 t2) l (cW h cI cZ) D (mT cI cZ) yX9_type wsX9_type rm9_type [.ref (h 199), .int (iI x1)] σ0 (f9_type N σ0 x1) := by
  refine of_X (cE_ok t1 t2) (own := RX9) (lv := [(0, .ref (h 199)), (1, .int (iI x1))]) (by decide) rfl rfl (Nat.le_of_ble_eq_true rfl) rfl (fun p e s m below meth c sz X hA hT => ?_)
  rw [f9_type]
  refine jm_aload_n (n := 1) X 0 rfl dX9_type_0 rfl ?_
  refine jm_get (n := 4) X 0 8 0 cW_X9 rfl (by decide) (fun w h => List.mem_cons_of_mem _ (List.mem_append_left _ (List.mem_append_left _ (List.mem_append_left _ (List.mem_append_left _ (List.mem_append_left _ (List.mem_append_left _ (List.mem_append_right _ h)))))))) (List.mem_of_getElem? (i := 5) rfl) rfl dX9_type_1 rfl ?_
  refine jm_iload_n (n := 5) X 1 rfl dX9_type_4 rfl ?_
  refine jm_callVi (n := 8) (vs := [.int (iI x1)]) (rest := []) X hA (t4_hasClosed l k0 hx1) (cwV 1 X.2.2.2.2.1 gX9_type_X4_hasClosed rfl rfl rfl (by decide +kernel) ⟨Nat.le_of_ble_eq_true rfl, Nat.le_of_ble_eq_true rfl⟩) 1 3 cW_X4 rfl rfl (Nat.le_of_ble_eq_true rfl) dX9_type_5 rfl (fun σ1 r1 k1 h2 => ?_)
  refine jm_if_ne (n := 11) (tgt := 19) X dX9_type_8 (by decide) h2 rfl (fun c3 => ?_) (fun c3 => ?_)
  · exact jx_throw X hT hl k1 (Or.inr (Or.inr (Or.inl ⟨rfl, rfl⟩))) (by decide) (by decide) (List.mem_of_getElem? (i := 1) rfl) (List.mem_of_getElem? (i := 2) rfl) (fun w h => List.mem_cons_of_mem _ (List.mem_append_left _ (List.mem_append_right _ h))) xn_NS xg_NS dX9_type_11 dX9_type_14 dX9_type_15 dX9_type_18 ⟨Nat.le_of_ble_eq_true rfl, Nat.le_of_ble_eq_true rfl, Nat.le_of_ble_eq_true rfl, Nat.le_of_ble_eq_true rfl⟩
  · refine jm_aload_n (n := 20) X 0 rfl dX9_type_19 rfl ?_
    refine jm_get (n := 23) X 0 8 2 cW_X9 rfl (by decide) (fun w h => List.mem_cons_of_mem _ (List.mem_append_left _ (List.mem_append_left _ (List.mem_append_left _ (List.mem_append_left _ (List.mem_append_left _ (List.mem_append_left _ (List.mem_append_right _ h)))))))) (List.mem_of_getElem? (i := 6) rfl) rfl dX9_type_20 rfl ?_
    refine jm_iload_n (n := 24) X 1 rfl dX9_type_23 rfl ?_
    refine jm_callVi (n := 27) (vs := [.int (iI x1)]) (rest := []) X hA (t6_typeOfWhole l N k1 hx1) (cwV 1 X.2.2.2.2.1 gX9_type_X6_typeOfWhole rfl rfl rfl (by decide +kernel) ⟨Nat.le_of_ble_eq_true rfl, Nat.le_of_ble_eq_true rfl⟩) 6 5 cW_X6 rfl rfl (Nat.le_of_ble_eq_true rfl) dX9_type_24 rfl (fun σ4 r4 k4 h5 => ?_)
    refine jm_istore_n (n := 28) (lv' := [(2, .int (iI r4)), (0, .ref (h 199)), (1, .int (iI x1))]) X dX9_type_27 (by decide) rfl rfl ?_
    refine jm_iload_n (n := 29) X 0 rfl dX9_type_28 rfl ?_
    refine jm_iconst (n := 30) X dX9_type_29 rfl ?_
    refine jm_icmp_ne (n := 33) (tgt := 51) X dX9_type_30 (by decide) h5 (by decide) rfl (fun c6 => ?_) (fun c6 => ?_)
    · refine jm_aload_n (n := 34) X 1 rfl dX9_type_33 rfl ?_
      refine jm_dup (n := 35) X dX9_type_34 rfl rfl ?_
      refine jm_get (n := 38) X 0 8 11 cW_X9 rfl (by decide) (fun w h => List.mem_cons_of_mem _ (List.mem_append_left _ (List.mem_append_left _ (List.mem_append_left _ (List.mem_append_left _ (List.mem_append_left _ (List.mem_append_left _ (List.mem_append_right _ h)))))))) (List.mem_of_getElem? (i := 7) rfl) rfl dX9_type_35 rfl ?_
      refine jm_iconst (n := 39) X dX9_type_38 rfl ?_
      refine jm_iadd (n := 40) X dX9_type_39 rfl (fun h7 => ?_)
      refine jm_put (n := 43) X 0 8 11 191 cW_X9 rfl (by decide) (fun w h => List.mem_cons_of_mem _ (List.mem_append_left _ (List.mem_append_left _ (List.mem_append_left _ (List.mem_append_left _ (List.mem_append_left _ (List.mem_append_left _ (List.mem_append_right _ h)))))))) tyX9 tyX9_ok nmX9 (List.mem_of_getElem? (i := 7) rfl) rfl rfl rfl rfl (Nat.le_of_ble_eq_true rfl) cS_191 k4 h7 dX9_type_40 rfl (fun σ8 k8 => ?_)
      exact jx_throw X hT hl k8 (Or.inl ⟨rfl, rfl⟩) (by decide) (by decide) (List.mem_of_getElem? (i := 3) rfl) (List.mem_of_getElem? (i := 4) rfl) (fun w h => List.mem_cons_of_mem _ (List.mem_append_right _ h)) xn_IA xg_IA dX9_type_43 dX9_type_46 dX9_type_47 dX9_type_50 ⟨Nat.le_of_ble_eq_true rfl, Nat.le_of_ble_eq_true rfl, Nat.le_of_ble_eq_true rfl, Nat.le_of_ble_eq_true rfl⟩
    · refine jm_aload_n (n := 52) X 1 rfl dX9_type_51 rfl ?_
      refine jm_dup (n := 53) X dX9_type_52 rfl rfl ?_
      refine jm_get (n := 56) X 0 8 10 cW_X9 rfl (by decide) (fun w h => List.mem_cons_of_mem _ (List.mem_append_left _ (List.mem_append_left _ (List.mem_append_left _ (List.mem_append_left _ (List.mem_append_left _ (List.mem_append_left _ (List.mem_append_right _ h)))))))) (List.mem_of_getElem? (i := 8) rfl) rfl dX9_type_53 rfl ?_
      refine jm_iconst (n := 57) X dX9_type_56 rfl ?_
      refine jm_iadd (n := 58) X dX9_type_57 rfl (fun h9 => ?_)
      refine jm_put (n := 61) X 0 8 10 190 cW_X9 rfl (by decide) (fun w h => List.mem_cons_of_mem _ (List.mem_append_left _ (List.mem_append_left _ (List.mem_append_left _ (List.mem_append_left _ (List.mem_append_left _ (List.mem_append_left _ (List.mem_append_right _ h)))))))) tyX9 tyX9_ok nmX9 (List.mem_of_getElem? (i := 8) rfl) rfl rfl rfl rfl (Nat.le_of_ble_eq_true rfl) cS_190 k4 h9 dX9_type_58 rfl (fun σ10 k10 => ?_)
      refine jm_aload_n (n := 62) X 1 rfl dX9_type_61 rfl ?_
      refine jm_get (n := 65) X 0 8 3 cW_X9 rfl (by decide) (fun w h => List.mem_cons_of_mem _ (List.mem_append_left _ (List.mem_append_left _ (List.mem_append_left _ (List.mem_append_left _ (List.mem_append_left _ (List.mem_append_left _ (List.mem_append_right _ h)))))))) (List.mem_of_getElem? (i := 9) rfl) rfl dX9_type_62 rfl ?_
      refine jm_aload_n (n := 66) X 1 rfl dX9_type_65 rfl ?_
      refine jm_get (n := 69) X 0 8 2 cW_X9 rfl (by decide) (fun w h => List.mem_cons_of_mem _ (List.mem_append_left _ (List.mem_append_left _ (List.mem_append_left _ (List.mem_append_left _ (List.mem_append_left _ (List.mem_append_left _ (List.mem_append_right _ h)))))))) (List.mem_of_getElem? (i := 6) rfl) rfl dX9_type_66 rfl ?_
      refine jm_get (n := 72) X 6 5 1 cW_X6 rfl (by decide) (fun w h => List.mem_cons_of_mem _ (List.mem_append_left _ (List.mem_append_left _ (List.mem_append_left _ (List.mem_append_left _ (List.mem_append_left _ (List.mem_append_right _ h))))))) (List.mem_of_getElem? (i := 10) rfl) rfl dX9_type_69 rfl ?_
      refine jm_iload_n (n := 73) X 0 rfl dX9_type_72 rfl ?_
      refine jm_callVv (n := 76) (vs := [.ref (h 119), .int (iI r4)]) (rest := []) X hA (t1_keep l N k10 h5) (cwV 2 X.2.2.2.2.1 gX9_type_X1_keep rfl rfl rfl (by decide +kernel) ⟨Nat.le_of_ble_eq_true rfl, Nat.le_of_ble_eq_true rfl⟩) 8 0 cW_X1 rfl rfl (Nat.le_of_ble_eq_true rfl) dX9_type_73 rfl (fun σ11 r11 k11 => ?_)
      refine jm_aload_n (n := 77) X 1 rfl dX9_type_76 rfl ?_
      refine jm_get (n := 80) X 0 8 3 cW_X9 rfl (by decide) (fun w h => List.mem_cons_of_mem _ (List.mem_append_left _ (List.mem_append_left _ (List.mem_append_left _ (List.mem_append_left _ (List.mem_append_left _ (List.mem_append_left _ (List.mem_append_right _ h)))))))) (List.mem_of_getElem? (i := 9) rfl) rfl dX9_type_77 rfl ?_
      refine jm_iconst (n := 81) X dX9_type_80 rfl ?_
      refine jm_callVi (n := 84) (vs := [.int (iI (0 : Int))]) (rest := []) X hA (t1_at l N k11 (by decide)) (cwV 1 X.2.2.2.2.1 gX9_type_X1_at rfl rfl rfl (by decide +kernel) ⟨Nat.le_of_ble_eq_true rfl, Nat.le_of_ble_eq_true rfl⟩) 8 0 cW_X1 rfl rfl (Nat.le_of_ble_eq_true rfl) dX9_type_81 rfl (fun σ13 r13 k13 h14 => ?_)
      exact jx_iret X k13 h14 dX9_type_84
end
