section
variable {p : Program} {l : Launch} {e : Env} {s : State} {m : MethodId} {args : Array Value} {below : List Frame} {meth : Method} {c : Code} {h : Nat → Nat} {cI cZ : ClassId} {D : va_G} {σz : Sg} {sz : Nat} {t1 t2 : Nat}
abbrev rm2_goTo : Room := { frames := 0, cells := 0, slots := 0, locals := 0 }
def f2_goTo (σ0 : Sg) (x1 : Int) (x2 : Int) : Option (Sg × Int) :=
  nx (sI σ0 47 x1) fun σ1 =>
  nx (sI σ1 48 x2) fun σ2 =>
  nx (sI σ2 49 (-1 : Int)) fun σ3 =>
  some (σ3, 0)
set_option maxRecDepth 100000 in
theorem t2_goTo (l : Launch) {h : Nat → Nat} {cI cZ : ClassId} {D : va_G} {t1 t2 : Nat} {σ0 : Sg} {x1 : Int} {x2 : Int} (k0 : ok σ0) (hx1 : inR x1) (hx2 : inR x2) : ctV (cE t1 t2) l (cW h cI cZ) D (mT cI cZ) yX2_goTo wsX2_goTo rm2_goTo [.ref (h 59), .int (iI x1), .int (iI x2)] σ0 (f2_goTo σ0 x1 x2) := by
  refine of_V (cE_ok t1 t2) (own := RX2) (lv := [(0, .ref (h 59)), (1, .int (iI x1)), (2, .int (iI x2))]) (by decide) rfl rfl (Nat.le_of_ble_eq_true rfl) rfl (fun p e s m below meth c sz X hA => ?_)
  rw [f2_goTo]
  refine jm_aload_n (n := 1) X 0 rfl dX2_goTo_0 rfl ?_
  refine jm_iload_n (n := 2) X 1 rfl dX2_goTo_1 rfl ?_
  refine jm_put (n := 5) X 2 1 7 47 cW_X2 rfl (by decide) (fun w h => List.mem_cons_of_mem _ (List.mem_append_right _ h)) tyX2 tyX2_ok nmX2 (List.mem_of_getElem? (i := 1) rfl) rfl rfl rfl rfl (Nat.le_of_ble_eq_true rfl) cS_47 k0 hx1 dX2_goTo_2 rfl (fun σ1 k1 => ?_)
  refine jm_aload_n (n := 6) X 0 rfl dX2_goTo_5 rfl ?_
  refine jm_iload_n (n := 7) X 2 rfl dX2_goTo_6 rfl ?_
  refine jm_put (n := 10) X 2 1 8 48 cW_X2 rfl (by decide) (fun w h => List.mem_cons_of_mem _ (List.mem_append_right _ h)) tyX2 tyX2_ok nmX2 (List.mem_of_getElem? (i := 2) rfl) rfl rfl rfl rfl (Nat.le_of_ble_eq_true rfl) cS_48 k1 hx2 dX2_goTo_7 rfl (fun σ2 k2 => ?_)
  refine jm_aload_n (n := 11) X 0 rfl dX2_goTo_10 rfl ?_
  refine jm_iconst (n := 12) X dX2_goTo_11 rfl ?_
  refine jm_put (n := 15) X 2 1 9 49 cW_X2 rfl (by decide) (fun w h => List.mem_cons_of_mem _ (List.mem_append_right _ h)) tyX2 tyX2_ok nmX2 (List.mem_of_getElem? (i := 3) rfl) rfl rfl rfl rfl (Nat.le_of_ble_eq_true rfl) cS_49 k2 (by decide) dX2_goTo_12 rfl (fun σ3 k3 => ?_)
  exact jm_vret X rfl k3 dX2_goTo_15
abbrev rm2_leaveMark : Room := { frames := 0, cells := 0, slots := 0, locals := 0 }
def f2_leaveMark (σ0 : Sg)  : Option (Sg × Int) :=
  if (gI σ0 45) = 0 then (nx (sI σ0 50 (0 : Int)) fun σ2 =>
  some (σ2, 0))
  else (ck (inR ((gI σ0 45) - (1 : Int))) <|
  nx (sI σ0 45 ((gI σ0 45) - (1 : Int))) fun σ4 =>
  ck (0 ≤ (gI σ4 45) ∧ (gI σ4 45) < 200) <|
  nx (sI σ4 46 (gA σ4 44 (gI σ4 45))) fun σ6 =>
  some (σ6, 0))
set_option maxRecDepth 100000 in
theorem t2_leaveMark (l : Launch) {h : Nat → Nat} {cI cZ : ClassId} {D : va_G} {t1 t2 : Nat} {σ0 : Sg}  (k0 : ok σ0)  : ctV (cE t1 t2) l (cW h cI cZ) D (mT cI cZ) yX2_leaveMark wsX2_leaveMark rm2_leaveMark [.ref (h 59)] σ0 (f2_leaveMark σ0 ) := by
  refine of_V (cE_ok t1 t2) (own := RX2) (lv := [(0, .ref (h 59))]) (by decide) rfl rfl (Nat.le_of_ble_eq_true rfl) rfl (fun p e s m below meth c sz X hA => ?_)
  rw [f2_leaveMark]
  refine jm_aload_n (n := 1) X 0 rfl dX2_leaveMark_0 rfl ?_
  refine jm_get (n := 4) X 2 1 5 cW_X2 rfl (by decide) (fun w h => List.mem_cons_of_mem _ (List.mem_append_right _ h)) (List.mem_of_getElem? (i := 1) rfl) rfl dX2_leaveMark_1 rfl ?_
  refine jm_if_ne (n := 7) (tgt := 15) X dX2_leaveMark_4 (by decide) (k0.1 45) rfl (fun c1 => ?_) (fun c1 => ?_)
  · refine jm_aload_n (n := 8) X 0 rfl dX2_leaveMark_7 rfl ?_
    refine jm_iconst (n := 9) X dX2_leaveMark_8 rfl ?_
    refine jm_put (n := 12) X 2 1 10 50 cW_X2 rfl (by decide) (fun w h => List.mem_cons_of_mem _ (List.mem_append_right _ h)) tyX2 tyX2_ok nmX2 (List.mem_of_getElem? (i := 2) rfl) rfl rfl rfl rfl (Nat.le_of_ble_eq_true rfl) cS_50 k0 (by decide) dX2_leaveMark_9 rfl (fun σ2 k2 => ?_)
    refine jm_goto (n := 38) X dX2_leaveMark_12 (by decide) ?_
    exact jm_vret X rfl k2 dX2_leaveMark_38
  · refine jm_aload_n (n := 16) X 0 rfl dX2_leaveMark_15 rfl ?_
    refine jm_dup (n := 17) X dX2_leaveMark_16 rfl rfl ?_
    refine jm_get (n := 20) X 2 1 5 cW_X2 rfl (by decide) (fun w h => List.mem_cons_of_mem _ (List.mem_append_right _ h)) (List.mem_of_getElem? (i := 1) rfl) rfl dX2_leaveMark_17 rfl ?_
    refine jm_iconst (n := 21) X dX2_leaveMark_20 rfl ?_
    refine jm_isub (n := 22) X dX2_leaveMark_21 rfl (fun h3 => ?_)
    refine jm_put (n := 25) X 2 1 5 45 cW_X2 rfl (by decide) (fun w h => List.mem_cons_of_mem _ (List.mem_append_right _ h)) tyX2 tyX2_ok nmX2 (List.mem_of_getElem? (i := 1) rfl) rfl rfl rfl rfl (Nat.le_of_ble_eq_true rfl) cS_45 k0 h3 dX2_leaveMark_22 rfl (fun σ4 k4 => ?_)
    refine jm_aload_n (n := 26) X 0 rfl dX2_leaveMark_25 rfl ?_
    refine jm_aload_n (n := 27) X 0 rfl dX2_leaveMark_26 rfl ?_
    refine jm_get (n := 30) X 2 1 4 cW_X2 rfl (by decide) (fun w h => List.mem_cons_of_mem _ (List.mem_append_right _ h)) (List.mem_of_getElem? (i := 3) rfl) rfl dX2_leaveMark_27 rfl ?_
    refine jm_aload_n (n := 31) X 0 rfl dX2_leaveMark_30 rfl ?_
    refine jm_get (n := 34) X 2 1 5 cW_X2 rfl (by decide) (fun w h => List.mem_cons_of_mem _ (List.mem_append_right _ h)) (List.mem_of_getElem? (i := 1) rfl) rfl dX2_leaveMark_31 rfl ?_
    refine jm_ald (n := 35) X 16 0 44 cA_44 rfl rfl (k4.1 45) dX2_leaveMark_34 rfl (fun h5 => ?_)
    refine jm_put (n := 38) X 2 1 6 46 cW_X2 rfl (by decide) (fun w h => List.mem_cons_of_mem _ (List.mem_append_right _ h)) tyX2 tyX2_ok nmX2 (List.mem_of_getElem? (i := 4) rfl) rfl rfl rfl rfl (Nat.le_of_ble_eq_true rfl) cS_46 k4 (k4.2 44 _) dX2_leaveMark_35 rfl (fun σ6 k6 => ?_)
    exact jm_vret X rfl k6 dX2_leaveMark_38
abbrev rm2_enterMark : Room := { frames := 0, cells := 0, slots := 0, locals := 0 }
def f2_enterMark (σ0 : Sg) (x1 : Int) : Option (Sg × Int) :=
  ck (0 ≤ (gI σ0 45) ∧ (gI σ0 45) < 200) <| nx (sA σ0 44 (gI σ0 45) (gI σ0 46)) fun σ2 =>
  ck (inR ((gI σ2 45) + (1 : Int))) <|
  nx (sI σ2 45 ((gI σ2 45) + (1 : Int))) fun σ4 =>
  nx (sI σ4 46 x1) fun σ5 =>
  some (σ5, 0)
set_option maxRecDepth 100000 in
theorem t2_enterMark (l : Launch) {h : Nat → Nat} {cI cZ : ClassId} {D : va_G} {t1 t2 : Nat} {σ0 : Sg} {x1 : Int} (k0 : ok σ0) (hx1 : inR x1) : ctV (cE t1 t2) l (cW h cI cZ) D (mT cI cZ) yX2_enterMark wsX2_enterMark rm2_enterMark [.ref (h 59), .int (iI x1)] σ0 (f2_enterMark σ0 x1) := by
  refine of_V (cE_ok t1 t2) (own := RX2) (lv := [(0, .ref (h 59)), (1, .int (iI x1))]) (by decide) rfl rfl (Nat.le_of_ble_eq_true rfl) rfl (fun p e s m below meth c sz X hA => ?_)
  rw [f2_enterMark]
  refine jm_aload_n (n := 1) X 0 rfl dX2_enterMark_0 rfl ?_
  refine jm_get (n := 4) X 2 1 4 cW_X2 rfl (by decide) (fun w h => List.mem_cons_of_mem _ (List.mem_append_right _ h)) (List.mem_of_getElem? (i := 1) rfl) rfl dX2_enterMark_1 rfl ?_
  refine jm_aload_n (n := 5) X 0 rfl dX2_enterMark_4 rfl ?_
  refine jm_get (n := 8) X 2 1 5 cW_X2 rfl (by decide) (fun w h => List.mem_cons_of_mem _ (List.mem_append_right _ h)) (List.mem_of_getElem? (i := 2) rfl) rfl dX2_enterMark_5 rfl ?_
  refine jm_aload_n (n := 9) X 0 rfl dX2_enterMark_8 rfl ?_
  refine jm_get (n := 12) X 2 1 6 cW_X2 rfl (by decide) (fun w h => List.mem_cons_of_mem _ (List.mem_append_right _ h)) (List.mem_of_getElem? (i := 3) rfl) rfl dX2_enterMark_9 rfl ?_
  refine jm_ast (n := 13) X 16 0 44 cA_44 rfl rfl cT_44 k0 (k0.1 45) (k0.1 46) dX2_enterMark_12 rfl (fun h1 σ2 k2 => ?_)
  refine jm_aload_n (n := 14) X 0 rfl dX2_enterMark_13 rfl ?_
  refine jm_dup (n := 15) X dX2_enterMark_14 rfl rfl ?_
  refine jm_get (n := 18) X 2 1 5 cW_X2 rfl (by decide) (fun w h => List.mem_cons_of_mem _ (List.mem_append_right _ h)) (List.mem_of_getElem? (i := 2) rfl) rfl dX2_enterMark_15 rfl ?_
  refine jm_iconst (n := 19) X dX2_enterMark_18 rfl ?_
  refine jm_iadd (n := 20) X dX2_enterMark_19 rfl (fun h3 => ?_)
  refine jm_put (n := 23) X 2 1 5 45 cW_X2 rfl (by decide) (fun w h => List.mem_cons_of_mem _ (List.mem_append_right _ h)) tyX2 tyX2_ok nmX2 (List.mem_of_getElem? (i := 2) rfl) rfl rfl rfl rfl (Nat.le_of_ble_eq_true rfl) cS_45 k2 h3 dX2_enterMark_20 rfl (fun σ4 k4 => ?_)
  refine jm_aload_n (n := 24) X 0 rfl dX2_enterMark_23 rfl ?_
  refine jm_iload_n (n := 25) X 1 rfl dX2_enterMark_24 rfl ?_
  refine jm_put (n := 28) X 2 1 6 46 cW_X2 rfl (by decide) (fun w h => List.mem_cons_of_mem _ (List.mem_append_right _ h)) tyX2 tyX2_ok nmX2 (List.mem_of_getElem? (i := 3) rfl) rfl rfl rfl rfl (Nat.le_of_ble_eq_true rfl) cS_46 k4 hx1 dX2_enterMark_25 rfl (fun σ5 k5 => ?_)
  exact jm_vret X rfl k5 dX2_enterMark_28
abbrev rm2_beginTerm : Room := { frames := 1, cells := 0, slots := 0, locals := 24 }
def f2_beginTerm (N : Nat) (σ0 : Sg)  : Option (Sg × Int) :=
  ck (0 ≤ (gI σ0 47) ∧ (gI σ0 47) < 60) <|
  ck (0 ≤ (gI σ0 47) ∧ (gI σ0 47) < 60) <|
  if (gA σ0 80 (gI σ0 47)) = 0 then (bd (f7_add σ0 (0 : Int) (gA σ0 81 (gI σ0 47)) (-1 : Int)) fun σ4 r4 =>
  nx (sI σ4 49 r4) fun σ6 =>
  some (σ6, 0))
  else if (gA σ0 80 (gI σ0 47)) = 1 then (bd (f7_add σ0 (1 : Int) (gA σ0 81 (gI σ0 47)) (-1 : Int)) fun σ8 r8 =>
  nx (sI σ8 49 r8) fun σ10 =>
  some (σ10, 0))
  else if (gA σ0 80 (gI σ0 47)) = 2 then (bd (f3_look N σ0 (gI σ0 48) (gA σ0 81 (gI σ0 47))) fun σ12 r12 =>
  nx (sI σ12 49 r12) fun σ14 =>
  some (σ14, 0))
  else if (gA σ0 80 (gI σ0 47)) = 3 then (bd (f7_add σ0 (2 : Int) (gI σ0 47) (gI σ0 48)) fun σ16 r16 =>
  nx (sI σ16 49 r16) fun σ18 =>
  some (σ18, 0))
  else if (gA σ0 80 (gI σ0 47)) = 4 then (bd (f8_add σ0 (gI σ0 47) (gI σ0 48) (-1 : Int) (gI σ0 46)) fun σ20 r20 =>
  nx (sI σ20 46 r20) fun σ22 =>
  nx (sI σ22 47 (gA σ0 81 (gI σ0 47))) fun σ23 =>
  some (σ23, 0))
  else if (gA σ0 80 (gI σ0 47)) = 5 then (bd (f8_add σ0 (gI σ0 47) (gI σ0 48) (-1 : Int) (gI σ0 46)) fun σ25 r25 =>
  nx (sI σ25 46 r25) fun σ27 =>
  nx (sI σ27 47 (gA σ0 81 (gI σ0 47))) fun σ28 =>
  some (σ28, 0))
  else if (gA σ0 80 (gI σ0 47)) = 6 then (bd (f8_add σ0 (gI σ0 47) (gI σ0 48) (-1 : Int) (gI σ0 46)) fun σ30 r30 =>
  nx (sI σ30 46 r30) fun σ32 =>
  nx (sI σ32 47 (gA σ0 81 (gI σ0 47))) fun σ33 =>
  some (σ33, 0))
  else if (gA σ0 80 (gI σ0 47)) = 7 then (bd (f8_add σ0 (gI σ0 47) (gI σ0 48) (-1 : Int) (gI σ0 46)) fun σ35 r35 =>
  nx (sI σ35 46 r35) fun σ37 =>
  nx (sI σ37 47 (gA σ0 81 (gI σ0 47))) fun σ38 =>
  some (σ38, 0))
  else if (gA σ0 80 (gI σ0 47)) = 8 then (bd (f8_add σ0 (gI σ0 47) (gI σ0 48) (-1 : Int) (gI σ0 46)) fun σ40 r40 =>
  nx (sI σ40 46 r40) fun σ42 =>
  nx (sI σ42 47 (gA σ0 81 (gI σ0 47))) fun σ43 =>
  some (σ43, 0))
  else if (gA σ0 80 (gI σ0 47)) = 9 then (bd (f2_enterMark σ0 (-1 : Int)) fun σ45 r45 =>
  nx (sI σ45 47 (gA σ0 81 (gI σ0 47))) fun σ47 =>
  some (σ47, 0))
  else if (gA σ0 80 (gI σ0 47)) = 10 then (bd (f7_add σ0 (3 : Int) (gI σ0 46) (-1 : Int)) fun σ49 r49 =>
  bd (f3_bind σ49 r49 (gI σ49 48)) fun σ51 r51 =>
  nx (sI σ51 48 r51) fun σ53 =>
  nx (sI σ53 46 (-1 : Int)) fun σ54 =>
  nx (sI σ54 47 (gA σ0 81 (gI σ0 47))) fun σ55 =>
  some (σ55, 0))
  else if (gA σ0 80 (gI σ0 47)) = 11 then (bd (f7_add σ0 (2 : Int) (gI σ0 47) (gI σ0 48)) fun σ57 r57 =>
  nx (sI σ57 49 r57) fun σ59 =>
  some (σ59, 0))
  else (bd (f8_add σ0 (gI σ0 47) (gI σ0 48) (-1 : Int) (gI σ0 46)) fun σ60 r60 =>
  nx (sI σ60 46 r60) fun σ62 =>
  nx (sI σ62 47 (gA σ0 81 (gI σ0 47))) fun σ63 =>
  some (σ63, 0))
set_option maxRecDepth 100000 in
theorem t2_beginTerm (l : Launch) {h : Nat → Nat} {cI cZ : ClassId} {D : va_G} {t1 t2 : Nat} (N : Nat) {σ0 : Sg}  (k0 : ok σ0)  : ctV (cE t1 t2) l (cW h cI cZ) D (mT cI cZ) yX2_beginTerm wsX2_beginTerm rm2_beginTerm [.ref (h 59)] σ0 (f2_beginTerm N σ0 ) := by
  refine of_V (cE_ok t1 t2) (own := RX2) (lv := [(0, .ref (h 59))]) (by decide) rfl rfl (Nat.le_of_ble_eq_true rfl) rfl (fun p e s m below meth c sz X hA => ?_)
  rw [f2_beginTerm]
  refine jm_aload_n (n := 1) X 0 rfl dX2_beginTerm_0 rfl ?_
  refine jm_get (n := 4) X 2 1 0 cW_X2 rfl (by decide) (fun w h => List.mem_cons_of_mem _ (List.mem_append_left _ (List.mem_append_left _ (List.mem_append_left _ (List.mem_append_left _ (List.mem_append_right _ h)))))) (List.mem_of_getElem? (i := 1) rfl) rfl dX2_beginTerm_1 rfl ?_
  refine jm_get (n := 7) X 1 3 1 cW_X4 rfl (by decide) (fun w h => List.mem_cons_of_mem _ (List.mem_append_left _ (List.mem_append_left _ (List.mem_append_left _ (List.mem_append_right _ h))))) (List.mem_of_getElem? (i := 2) rfl) rfl dX2_beginTerm_4 rfl ?_
  refine jm_aload_n (n := 8) X 0 rfl dX2_beginTerm_7 rfl ?_
  refine jm_get (n := 11) X 2 1 7 cW_X2 rfl (by decide) (fun w h => List.mem_cons_of_mem _ (List.mem_append_left _ (List.mem_append_left _ (List.mem_append_left _ (List.mem_append_left _ (List.mem_append_right _ h)))))) (List.mem_of_getElem? (i := 3) rfl) rfl dX2_beginTerm_8 rfl ?_
  refine jm_ald (n := 12) X 10 0 81 cA_81 rfl rfl (k0.1 47) dX2_beginTerm_11 rfl (fun h1 => ?_)
  refine jm_istore_n (n := 13) (lv' := [(1, .int (iI (gA σ0 81 (gI σ0 47)))), (0, .ref (h 59))]) X dX2_beginTerm_12 (by decide) rfl rfl ?_
  refine jm_aload_n (n := 14) X 1 rfl dX2_beginTerm_13 rfl ?_
  refine jm_get (n := 17) X 2 1 0 cW_X2 rfl (by decide) (fun w h => List.mem_cons_of_mem _ (List.mem_append_left _ (List.mem_append_left _ (List.mem_append_left _ (List.mem_append_left _ (List.mem_append_right _ h)))))) (List.mem_of_getElem? (i := 1) rfl) rfl dX2_beginTerm_14 rfl ?_
  refine jm_get (n := 20) X 1 3 0 cW_X4 rfl (by decide) (fun w h => List.mem_cons_of_mem _ (List.mem_append_left _ (List.mem_append_left _ (List.mem_append_left _ (List.mem_append_right _ h))))) (List.mem_of_getElem? (i := 4) rfl) rfl dX2_beginTerm_17 rfl ?_
  refine jm_aload_n (n := 21) X 1 rfl dX2_beginTerm_20 rfl ?_
  refine jm_get (n := 24) X 2 1 7 cW_X2 rfl (by decide) (fun w h => List.mem_cons_of_mem _ (List.mem_append_left _ (List.mem_append_left _ (List.mem_append_left _ (List.mem_append_left _ (List.mem_append_right _ h)))))) (List.mem_of_getElem? (i := 3) rfl) rfl dX2_beginTerm_21 rfl ?_
  refine jm_ald (n := 25) X 9 0 80 cA_80 rfl rfl (k0.1 47) dX2_beginTerm_24 rfl (fun h2 => ?_)
  refine jm_tcase (tgt := 88) X (0) dX2_beginTerm_25 (k0.2 80 _) (by decide) (by decide) rfl (by decide) (fun c3 => ?_) (fun c3 => ?_)
  · refine jm_aload_n (n := 89) X 1 rfl dX2_beginTerm_88 rfl ?_
    refine jm_aload_n (n := 90) X 1 rfl dX2_beginTerm_89 rfl ?_
    refine jm_get (n := 93) X 2 1 1 cW_X2 rfl (by decide) (fun w h => List.mem_cons_of_mem _ (List.mem_append_left _ (List.mem_append_left _ (List.mem_append_left _ (List.mem_append_left _ (List.mem_append_right _ h)))))) (List.mem_of_getElem? (i := 5) rfl) rfl dX2_beginTerm_90 rfl ?_
    refine jm_iconst (n := 94) X dX2_beginTerm_93 rfl ?_
    refine jm_iload_n (n := 95) X 0 rfl dX2_beginTerm_94 rfl ?_
    refine jm_iconst (n := 96) X dX2_beginTerm_95 rfl ?_
    refine jm_callVi (n := 99) (vs := [.int (iI (0 : Int)), .int (iI (gA σ0 81 (gI σ0 47))), .int (iI (-1 : Int))]) (rest := [.ref (h 59)]) X hA (t7_add l k0 (by decide) (k0.2 81 _) (by decide)) (cwV 3 X.2.2.2.2.1 gX2_beginTerm_X7_add rfl rfl rfl (by decide +kernel) ⟨Nat.le_of_ble_eq_true rfl, Nat.le_of_ble_eq_true rfl⟩) 3 6 cW_X7 rfl rfl (Nat.le_of_ble_eq_true rfl) dX2_beginTerm_96 rfl (fun σ4 r4 k4 h5 => ?_)
    refine jm_put (n := 102) X 2 1 9 49 cW_X2 rfl (by decide) (fun w h => List.mem_cons_of_mem _ (List.mem_append_left _ (List.mem_append_left _ (List.mem_append_left _ (List.mem_append_left _ (List.mem_append_right _ h)))))) tyX2 tyX2_ok nmX2 (List.mem_of_getElem? (i := 6) rfl) rfl rfl rfl rfl (Nat.le_of_ble_eq_true rfl) cS_49 k4 h5 dX2_beginTerm_99 rfl (fun σ6 k6 => ?_)
    refine jm_goto (n := 247) X dX2_beginTerm_102 (by decide) ?_
    exact jm_vret X rfl k6 dX2_beginTerm_247
  refine jm_tcase (tgt := 105) X (1) dX2_beginTerm_25 (k0.2 80 _) (by decide) (by decide) rfl (by decide) (fun c7 => ?_) (fun c7 => ?_)
  · refine jm_aload_n (n := 106) X 1 rfl dX2_beginTerm_105 rfl ?_
    refine jm_aload_n (n := 107) X 1 rfl dX2_beginTerm_106 rfl ?_
    refine jm_get (n := 110) X 2 1 1 cW_X2 rfl (by decide) (fun w h => List.mem_cons_of_mem _ (List.mem_append_left _ (List.mem_append_left _ (List.mem_append_left _ (List.mem_append_left _ (List.mem_append_right _ h)))))) (List.mem_of_getElem? (i := 5) rfl) rfl dX2_beginTerm_107 rfl ?_
    refine jm_iconst (n := 111) X dX2_beginTerm_110 rfl ?_
    refine jm_iload_n (n := 112) X 0 rfl dX2_beginTerm_111 rfl ?_
    refine jm_iconst (n := 113) X dX2_beginTerm_112 rfl ?_
    refine jm_callVi (n := 116) (vs := [.int (iI (1 : Int)), .int (iI (gA σ0 81 (gI σ0 47))), .int (iI (-1 : Int))]) (rest := [.ref (h 59)]) X hA (t7_add l k0 (by decide) (k0.2 81 _) (by decide)) (cwV 3 X.2.2.2.2.1 gX2_beginTerm_X7_add rfl rfl rfl (by decide +kernel) ⟨Nat.le_of_ble_eq_true rfl, Nat.le_of_ble_eq_true rfl⟩) 3 6 cW_X7 rfl rfl (Nat.le_of_ble_eq_true rfl) dX2_beginTerm_113 rfl (fun σ8 r8 k8 h9 => ?_)
    refine jm_put (n := 119) X 2 1 9 49 cW_X2 rfl (by decide) (fun w h => List.mem_cons_of_mem _ (List.mem_append_left _ (List.mem_append_left _ (List.mem_append_left _ (List.mem_append_left _ (List.mem_append_right _ h)))))) tyX2 tyX2_ok nmX2 (List.mem_of_getElem? (i := 6) rfl) rfl rfl rfl rfl (Nat.le_of_ble_eq_true rfl) cS_49 k8 h9 dX2_beginTerm_116 rfl (fun σ10 k10 => ?_)
    refine jm_goto (n := 247) X dX2_beginTerm_119 (by decide) ?_
    exact jm_vret X rfl k10 dX2_beginTerm_247
  refine jm_tcase (tgt := 122) X (2) dX2_beginTerm_25 (k0.2 80 _) (by decide) (by decide) rfl (by decide) (fun c11 => ?_) (fun c11 => ?_)
  · refine jm_aload_n (n := 123) X 1 rfl dX2_beginTerm_122 rfl ?_
    refine jm_aload_n (n := 124) X 1 rfl dX2_beginTerm_123 rfl ?_
    refine jm_get (n := 127) X 2 1 2 cW_X2 rfl (by decide) (fun w h => List.mem_cons_of_mem _ (List.mem_append_left _ (List.mem_append_left _ (List.mem_append_left _ (List.mem_append_left _ (List.mem_append_right _ h)))))) (List.mem_of_getElem? (i := 7) rfl) rfl dX2_beginTerm_124 rfl ?_
    refine jm_aload_n (n := 128) X 1 rfl dX2_beginTerm_127 rfl ?_
    refine jm_get (n := 131) X 2 1 8 cW_X2 rfl (by decide) (fun w h => List.mem_cons_of_mem _ (List.mem_append_left _ (List.mem_append_left _ (List.mem_append_left _ (List.mem_append_left _ (List.mem_append_right _ h)))))) (List.mem_of_getElem? (i := 8) rfl) rfl dX2_beginTerm_128 rfl ?_
    refine jm_iload_n (n := 132) X 0 rfl dX2_beginTerm_131 rfl ?_
    refine jm_callVi (n := 135) (vs := [.int (iI (gI σ0 48)), .int (iI (gA σ0 81 (gI σ0 47)))]) (rest := [.ref (h 59)]) X hA (t3_look l N k0 (k0.1 48) (k0.2 81 _)) (cwV 2 X.2.2.2.2.1 gX2_beginTerm_X3_look rfl rfl rfl (by decide +kernel) ⟨Nat.le_of_ble_eq_true rfl, Nat.le_of_ble_eq_true rfl⟩) 4 2 cW_X3 rfl rfl (Nat.le_of_ble_eq_true rfl) dX2_beginTerm_132 rfl (fun σ12 r12 k12 h13 => ?_)
    refine jm_put (n := 138) X 2 1 9 49 cW_X2 rfl (by decide) (fun w h => List.mem_cons_of_mem _ (List.mem_append_left _ (List.mem_append_left _ (List.mem_append_left _ (List.mem_append_left _ (List.mem_append_right _ h)))))) tyX2 tyX2_ok nmX2 (List.mem_of_getElem? (i := 6) rfl) rfl rfl rfl rfl (Nat.le_of_ble_eq_true rfl) cS_49 k12 h13 dX2_beginTerm_135 rfl (fun σ14 k14 => ?_)
    refine jm_goto (n := 247) X dX2_beginTerm_138 (by decide) ?_
    exact jm_vret X rfl k14 dX2_beginTerm_247
  refine jm_tcase (tgt := 141) X (3) dX2_beginTerm_25 (k0.2 80 _) (by decide) (by decide) rfl (by decide) (fun c15 => ?_) (fun c15 => ?_)
  · refine jm_aload_n (n := 142) X 1 rfl dX2_beginTerm_141 rfl ?_
    refine jm_aload_n (n := 143) X 1 rfl dX2_beginTerm_142 rfl ?_
    refine jm_get (n := 146) X 2 1 1 cW_X2 rfl (by decide) (fun w h => List.mem_cons_of_mem _ (List.mem_append_left _ (List.mem_append_left _ (List.mem_append_left _ (List.mem_append_left _ (List.mem_append_right _ h)))))) (List.mem_of_getElem? (i := 5) rfl) rfl dX2_beginTerm_143 rfl ?_
    refine jm_iconst (n := 147) X dX2_beginTerm_146 rfl ?_
    refine jm_aload_n (n := 148) X 1 rfl dX2_beginTerm_147 rfl ?_
    refine jm_get (n := 151) X 2 1 7 cW_X2 rfl (by decide) (fun w h => List.mem_cons_of_mem _ (List.mem_append_left _ (List.mem_append_left _ (List.mem_append_left _ (List.mem_append_left _ (List.mem_append_right _ h)))))) (List.mem_of_getElem? (i := 3) rfl) rfl dX2_beginTerm_148 rfl ?_
    refine jm_aload_n (n := 152) X 1 rfl dX2_beginTerm_151 rfl ?_
    refine jm_get (n := 155) X 2 1 8 cW_X2 rfl (by decide) (fun w h => List.mem_cons_of_mem _ (List.mem_append_left _ (List.mem_append_left _ (List.mem_append_left _ (List.mem_append_left _ (List.mem_append_right _ h)))))) (List.mem_of_getElem? (i := 8) rfl) rfl dX2_beginTerm_152 rfl ?_
    refine jm_callVi (n := 158) (vs := [.int (iI (2 : Int)), .int (iI (gI σ0 47)), .int (iI (gI σ0 48))]) (rest := [.ref (h 59)]) X hA (t7_add l k0 (by decide) (k0.1 47) (k0.1 48)) (cwV 3 X.2.2.2.2.1 gX2_beginTerm_X7_add rfl rfl rfl (by decide +kernel) ⟨Nat.le_of_ble_eq_true rfl, Nat.le_of_ble_eq_true rfl⟩) 3 6 cW_X7 rfl rfl (Nat.le_of_ble_eq_true rfl) dX2_beginTerm_155 rfl (fun σ16 r16 k16 h17 => ?_)
    refine jm_put (n := 161) X 2 1 9 49 cW_X2 rfl (by decide) (fun w h => List.mem_cons_of_mem _ (List.mem_append_left _ (List.mem_append_left _ (List.mem_append_left _ (List.mem_append_left _ (List.mem_append_right _ h)))))) tyX2 tyX2_ok nmX2 (List.mem_of_getElem? (i := 6) rfl) rfl rfl rfl rfl (Nat.le_of_ble_eq_true rfl) cS_49 k16 h17 dX2_beginTerm_158 rfl (fun σ18 k18 => ?_)
    refine jm_goto (n := 247) X dX2_beginTerm_161 (by decide) ?_
    exact jm_vret X rfl k18 dX2_beginTerm_247
  refine jm_tcase (tgt := 218) X (4) dX2_beginTerm_25 (k0.2 80 _) (by decide) (by decide) rfl (by decide) (fun c19 => ?_) (fun c19 => ?_)
  · refine jm_aload_n (n := 219) X 1 rfl dX2_beginTerm_218 rfl ?_
    refine jm_aload_n (n := 220) X 1 rfl dX2_beginTerm_219 rfl ?_
    refine jm_get (n := 223) X 2 1 3 cW_X2 rfl (by decide) (fun w h => List.mem_cons_of_mem _ (List.mem_append_left _ (List.mem_append_left _ (List.mem_append_left _ (List.mem_append_left _ (List.mem_append_right _ h)))))) (List.mem_of_getElem? (i := 10) rfl) rfl dX2_beginTerm_220 rfl ?_
    refine jm_aload_n (n := 224) X 1 rfl dX2_beginTerm_223 rfl ?_
    refine jm_get (n := 227) X 2 1 7 cW_X2 rfl (by decide) (fun w h => List.mem_cons_of_mem _ (List.mem_append_left _ (List.mem_append_left _ (List.mem_append_left _ (List.mem_append_left _ (List.mem_append_right _ h)))))) (List.mem_of_getElem? (i := 3) rfl) rfl dX2_beginTerm_224 rfl ?_
    refine jm_aload_n (n := 228) X 1 rfl dX2_beginTerm_227 rfl ?_
    refine jm_get (n := 231) X 2 1 8 cW_X2 rfl (by decide) (fun w h => List.mem_cons_of_mem _ (List.mem_append_left _ (List.mem_append_left _ (List.mem_append_left _ (List.mem_append_left _ (List.mem_append_right _ h)))))) (List.mem_of_getElem? (i := 8) rfl) rfl dX2_beginTerm_228 rfl ?_
    refine jm_iconst (n := 232) X dX2_beginTerm_231 rfl ?_
    refine jm_aload_n (n := 233) X 1 rfl dX2_beginTerm_232 rfl ?_
    refine jm_get (n := 236) X 2 1 6 cW_X2 rfl (by decide) (fun w h => List.mem_cons_of_mem _ (List.mem_append_left _ (List.mem_append_left _ (List.mem_append_left _ (List.mem_append_left _ (List.mem_append_right _ h)))))) (List.mem_of_getElem? (i := 9) rfl) rfl dX2_beginTerm_233 rfl ?_
    refine jm_callVi (n := 239) (vs := [.int (iI (gI σ0 47)), .int (iI (gI σ0 48)), .int (iI (-1 : Int)), .int (iI (gI σ0 46))]) (rest := [.ref (h 59)]) X hA (t8_add l k0 (k0.1 47) (k0.1 48) (by decide) (k0.1 46)) (cwV 4 X.2.2.2.2.1 gX2_beginTerm_X8_add rfl rfl rfl (by decide +kernel) ⟨Nat.le_of_ble_eq_true rfl, Nat.le_of_ble_eq_true rfl⟩) 5 7 cW_X8 rfl rfl (Nat.le_of_ble_eq_true rfl) dX2_beginTerm_236 rfl (fun σ20 r20 k20 h21 => ?_)
    refine jm_put (n := 242) X 2 1 6 46 cW_X2 rfl (by decide) (fun w h => List.mem_cons_of_mem _ (List.mem_append_left _ (List.mem_append_left _ (List.mem_append_left _ (List.mem_append_left _ (List.mem_append_right _ h)))))) tyX2 tyX2_ok nmX2 (List.mem_of_getElem? (i := 9) rfl) rfl rfl rfl rfl (Nat.le_of_ble_eq_true rfl) cS_46 k20 h21 dX2_beginTerm_239 rfl (fun σ22 k22 => ?_)
    refine jm_aload_n (n := 243) X 1 rfl dX2_beginTerm_242 rfl ?_
    refine jm_iload_n (n := 244) X 0 rfl dX2_beginTerm_243 rfl ?_
    refine jm_put (n := 247) X 2 1 7 47 cW_X2 rfl (by decide) (fun w h => List.mem_cons_of_mem _ (List.mem_append_left _ (List.mem_append_left _ (List.mem_append_left _ (List.mem_append_left _ (List.mem_append_right _ h)))))) tyX2 tyX2_ok nmX2 (List.mem_of_getElem? (i := 3) rfl) rfl rfl rfl rfl (Nat.le_of_ble_eq_true rfl) cS_47 k22 (k0.2 81 _) dX2_beginTerm_244 rfl (fun σ23 k23 => ?_)
    exact jm_vret X rfl k23 dX2_beginTerm_247
  refine jm_tcase (tgt := 218) X (5) dX2_beginTerm_25 (k0.2 80 _) (by decide) (by decide) rfl (by decide) (fun c24 => ?_) (fun c24 => ?_)
  · refine jm_aload_n (n := 219) X 1 rfl dX2_beginTerm_218 rfl ?_
    refine jm_aload_n (n := 220) X 1 rfl dX2_beginTerm_219 rfl ?_
    refine jm_get (n := 223) X 2 1 3 cW_X2 rfl (by decide) (fun w h => List.mem_cons_of_mem _ (List.mem_append_left _ (List.mem_append_left _ (List.mem_append_left _ (List.mem_append_left _ (List.mem_append_right _ h)))))) (List.mem_of_getElem? (i := 10) rfl) rfl dX2_beginTerm_220 rfl ?_
    refine jm_aload_n (n := 224) X 1 rfl dX2_beginTerm_223 rfl ?_
    refine jm_get (n := 227) X 2 1 7 cW_X2 rfl (by decide) (fun w h => List.mem_cons_of_mem _ (List.mem_append_left _ (List.mem_append_left _ (List.mem_append_left _ (List.mem_append_left _ (List.mem_append_right _ h)))))) (List.mem_of_getElem? (i := 3) rfl) rfl dX2_beginTerm_224 rfl ?_
    refine jm_aload_n (n := 228) X 1 rfl dX2_beginTerm_227 rfl ?_
    refine jm_get (n := 231) X 2 1 8 cW_X2 rfl (by decide) (fun w h => List.mem_cons_of_mem _ (List.mem_append_left _ (List.mem_append_left _ (List.mem_append_left _ (List.mem_append_left _ (List.mem_append_right _ h)))))) (List.mem_of_getElem? (i := 8) rfl) rfl dX2_beginTerm_228 rfl ?_
    refine jm_iconst (n := 232) X dX2_beginTerm_231 rfl ?_
    refine jm_aload_n (n := 233) X 1 rfl dX2_beginTerm_232 rfl ?_
    refine jm_get (n := 236) X 2 1 6 cW_X2 rfl (by decide) (fun w h => List.mem_cons_of_mem _ (List.mem_append_left _ (List.mem_append_left _ (List.mem_append_left _ (List.mem_append_left _ (List.mem_append_right _ h)))))) (List.mem_of_getElem? (i := 9) rfl) rfl dX2_beginTerm_233 rfl ?_
    refine jm_callVi (n := 239) (vs := [.int (iI (gI σ0 47)), .int (iI (gI σ0 48)), .int (iI (-1 : Int)), .int (iI (gI σ0 46))]) (rest := [.ref (h 59)]) X hA (t8_add l k0 (k0.1 47) (k0.1 48) (by decide) (k0.1 46)) (cwV 4 X.2.2.2.2.1 gX2_beginTerm_X8_add rfl rfl rfl (by decide +kernel) ⟨Nat.le_of_ble_eq_true rfl, Nat.le_of_ble_eq_true rfl⟩) 5 7 cW_X8 rfl rfl (Nat.le_of_ble_eq_true rfl) dX2_beginTerm_236 rfl (fun σ25 r25 k25 h26 => ?_)
    refine jm_put (n := 242) X 2 1 6 46 cW_X2 rfl (by decide) (fun w h => List.mem_cons_of_mem _ (List.mem_append_left _ (List.mem_append_left _ (List.mem_append_left _ (List.mem_append_left _ (List.mem_append_right _ h)))))) tyX2 tyX2_ok nmX2 (List.mem_of_getElem? (i := 9) rfl) rfl rfl rfl rfl (Nat.le_of_ble_eq_true rfl) cS_46 k25 h26 dX2_beginTerm_239 rfl (fun σ27 k27 => ?_)
    refine jm_aload_n (n := 243) X 1 rfl dX2_beginTerm_242 rfl ?_
    refine jm_iload_n (n := 244) X 0 rfl dX2_beginTerm_243 rfl ?_
    refine jm_put (n := 247) X 2 1 7 47 cW_X2 rfl (by decide) (fun w h => List.mem_cons_of_mem _ (List.mem_append_left _ (List.mem_append_left _ (List.mem_append_left _ (List.mem_append_left _ (List.mem_append_right _ h)))))) tyX2 tyX2_ok nmX2 (List.mem_of_getElem? (i := 3) rfl) rfl rfl rfl rfl (Nat.le_of_ble_eq_true rfl) cS_47 k27 (k0.2 81 _) dX2_beginTerm_244 rfl (fun σ28 k28 => ?_)
    exact jm_vret X rfl k28 dX2_beginTerm_247
  refine jm_tcase (tgt := 218) X (6) dX2_beginTerm_25 (k0.2 80 _) (by decide) (by decide) rfl (by decide) (fun c29 => ?_) (fun c29 => ?_)
  · refine jm_aload_n (n := 219) X 1 rfl dX2_beginTerm_218 rfl ?_
    refine jm_aload_n (n := 220) X 1 rfl dX2_beginTerm_219 rfl ?_
    refine jm_get (n := 223) X 2 1 3 cW_X2 rfl (by decide) (fun w h => List.mem_cons_of_mem _ (List.mem_append_left _ (List.mem_append_left _ (List.mem_append_left _ (List.mem_append_left _ (List.mem_append_right _ h)))))) (List.mem_of_getElem? (i := 10) rfl) rfl dX2_beginTerm_220 rfl ?_
    refine jm_aload_n (n := 224) X 1 rfl dX2_beginTerm_223 rfl ?_
    refine jm_get (n := 227) X 2 1 7 cW_X2 rfl (by decide) (fun w h => List.mem_cons_of_mem _ (List.mem_append_left _ (List.mem_append_left _ (List.mem_append_left _ (List.mem_append_left _ (List.mem_append_right _ h)))))) (List.mem_of_getElem? (i := 3) rfl) rfl dX2_beginTerm_224 rfl ?_
    refine jm_aload_n (n := 228) X 1 rfl dX2_beginTerm_227 rfl ?_
    refine jm_get (n := 231) X 2 1 8 cW_X2 rfl (by decide) (fun w h => List.mem_cons_of_mem _ (List.mem_append_left _ (List.mem_append_left _ (List.mem_append_left _ (List.mem_append_left _ (List.mem_append_right _ h)))))) (List.mem_of_getElem? (i := 8) rfl) rfl dX2_beginTerm_228 rfl ?_
    refine jm_iconst (n := 232) X dX2_beginTerm_231 rfl ?_
    refine jm_aload_n (n := 233) X 1 rfl dX2_beginTerm_232 rfl ?_
    refine jm_get (n := 236) X 2 1 6 cW_X2 rfl (by decide) (fun w h => List.mem_cons_of_mem _ (List.mem_append_left _ (List.mem_append_left _ (List.mem_append_left _ (List.mem_append_left _ (List.mem_append_right _ h)))))) (List.mem_of_getElem? (i := 9) rfl) rfl dX2_beginTerm_233 rfl ?_
    refine jm_callVi (n := 239) (vs := [.int (iI (gI σ0 47)), .int (iI (gI σ0 48)), .int (iI (-1 : Int)), .int (iI (gI σ0 46))]) (rest := [.ref (h 59)]) X hA (t8_add l k0 (k0.1 47) (k0.1 48) (by decide) (k0.1 46)) (cwV 4 X.2.2.2.2.1 gX2_beginTerm_X8_add rfl rfl rfl (by decide +kernel) ⟨Nat.le_of_ble_eq_true rfl, Nat.le_of_ble_eq_true rfl⟩) 5 7 cW_X8 rfl rfl (Nat.le_of_ble_eq_true rfl) dX2_beginTerm_236 rfl (fun σ30 r30 k30 h31 => ?_)
    refine jm_put (n := 242) X 2 1 6 46 cW_X2 rfl (by decide) (fun w h => List.mem_cons_of_mem _ (List.mem_append_left _ (List.mem_append_left _ (List.mem_append_left _ (List.mem_append_left _ (List.mem_append_right _ h)))))) tyX2 tyX2_ok nmX2 (List.mem_of_getElem? (i := 9) rfl) rfl rfl rfl rfl (Nat.le_of_ble_eq_true rfl) cS_46 k30 h31 dX2_beginTerm_239 rfl (fun σ32 k32 => ?_)
    refine jm_aload_n (n := 243) X 1 rfl dX2_beginTerm_242 rfl ?_
    refine jm_iload_n (n := 244) X 0 rfl dX2_beginTerm_243 rfl ?_
    refine jm_put (n := 247) X 2 1 7 47 cW_X2 rfl (by decide) (fun w h => List.mem_cons_of_mem _ (List.mem_append_left _ (List.mem_append_left _ (List.mem_append_left _ (List.mem_append_left _ (List.mem_append_right _ h)))))) tyX2 tyX2_ok nmX2 (List.mem_of_getElem? (i := 3) rfl) rfl rfl rfl rfl (Nat.le_of_ble_eq_true rfl) cS_47 k32 (k0.2 81 _) dX2_beginTerm_244 rfl (fun σ33 k33 => ?_)
    exact jm_vret X rfl k33 dX2_beginTerm_247
  refine jm_tcase (tgt := 218) X (7) dX2_beginTerm_25 (k0.2 80 _) (by decide) (by decide) rfl (by decide) (fun c34 => ?_) (fun c34 => ?_)
  · refine jm_aload_n (n := 219) X 1 rfl dX2_beginTerm_218 rfl ?_
    refine jm_aload_n (n := 220) X 1 rfl dX2_beginTerm_219 rfl ?_
    refine jm_get (n := 223) X 2 1 3 cW_X2 rfl (by decide) (fun w h => List.mem_cons_of_mem _ (List.mem_append_left _ (List.mem_append_left _ (List.mem_append_left _ (List.mem_append_left _ (List.mem_append_right _ h)))))) (List.mem_of_getElem? (i := 10) rfl) rfl dX2_beginTerm_220 rfl ?_
    refine jm_aload_n (n := 224) X 1 rfl dX2_beginTerm_223 rfl ?_
    refine jm_get (n := 227) X 2 1 7 cW_X2 rfl (by decide) (fun w h => List.mem_cons_of_mem _ (List.mem_append_left _ (List.mem_append_left _ (List.mem_append_left _ (List.mem_append_left _ (List.mem_append_right _ h)))))) (List.mem_of_getElem? (i := 3) rfl) rfl dX2_beginTerm_224 rfl ?_
    refine jm_aload_n (n := 228) X 1 rfl dX2_beginTerm_227 rfl ?_
    refine jm_get (n := 231) X 2 1 8 cW_X2 rfl (by decide) (fun w h => List.mem_cons_of_mem _ (List.mem_append_left _ (List.mem_append_left _ (List.mem_append_left _ (List.mem_append_left _ (List.mem_append_right _ h)))))) (List.mem_of_getElem? (i := 8) rfl) rfl dX2_beginTerm_228 rfl ?_
    refine jm_iconst (n := 232) X dX2_beginTerm_231 rfl ?_
    refine jm_aload_n (n := 233) X 1 rfl dX2_beginTerm_232 rfl ?_
    refine jm_get (n := 236) X 2 1 6 cW_X2 rfl (by decide) (fun w h => List.mem_cons_of_mem _ (List.mem_append_left _ (List.mem_append_left _ (List.mem_append_left _ (List.mem_append_left _ (List.mem_append_right _ h)))))) (List.mem_of_getElem? (i := 9) rfl) rfl dX2_beginTerm_233 rfl ?_
    refine jm_callVi (n := 239) (vs := [.int (iI (gI σ0 47)), .int (iI (gI σ0 48)), .int (iI (-1 : Int)), .int (iI (gI σ0 46))]) (rest := [.ref (h 59)]) X hA (t8_add l k0 (k0.1 47) (k0.1 48) (by decide) (k0.1 46)) (cwV 4 X.2.2.2.2.1 gX2_beginTerm_X8_add rfl rfl rfl (by decide +kernel) ⟨Nat.le_of_ble_eq_true rfl, Nat.le_of_ble_eq_true rfl⟩) 5 7 cW_X8 rfl rfl (Nat.le_of_ble_eq_true rfl) dX2_beginTerm_236 rfl (fun σ35 r35 k35 h36 => ?_)
    refine jm_put (n := 242) X 2 1 6 46 cW_X2 rfl (by decide) (fun w h => List.mem_cons_of_mem _ (List.mem_append_left _ (List.mem_append_left _ (List.mem_append_left _ (List.mem_append_left _ (List.mem_append_right _ h)))))) tyX2 tyX2_ok nmX2 (List.mem_of_getElem? (i := 9) rfl) rfl rfl rfl rfl (Nat.le_of_ble_eq_true rfl) cS_46 k35 h36 dX2_beginTerm_239 rfl (fun σ37 k37 => ?_)
    refine jm_aload_n (n := 243) X 1 rfl dX2_beginTerm_242 rfl ?_
    refine jm_iload_n (n := 244) X 0 rfl dX2_beginTerm_243 rfl ?_
    refine jm_put (n := 247) X 2 1 7 47 cW_X2 rfl (by decide) (fun w h => List.mem_cons_of_mem _ (List.mem_append_left _ (List.mem_append_left _ (List.mem_append_left _ (List.mem_append_left _ (List.mem_append_right _ h)))))) tyX2 tyX2_ok nmX2 (List.mem_of_getElem? (i := 3) rfl) rfl rfl rfl rfl (Nat.le_of_ble_eq_true rfl) cS_47 k37 (k0.2 81 _) dX2_beginTerm_244 rfl (fun σ38 k38 => ?_)
    exact jm_vret X rfl k38 dX2_beginTerm_247
  refine jm_tcase (tgt := 218) X (8) dX2_beginTerm_25 (k0.2 80 _) (by decide) (by decide) rfl (by decide) (fun c39 => ?_) (fun c39 => ?_)
  · refine jm_aload_n (n := 219) X 1 rfl dX2_beginTerm_218 rfl ?_
    refine jm_aload_n (n := 220) X 1 rfl dX2_beginTerm_219 rfl ?_
    refine jm_get (n := 223) X 2 1 3 cW_X2 rfl (by decide) (fun w h => List.mem_cons_of_mem _ (List.mem_append_left _ (List.mem_append_left _ (List.mem_append_left _ (List.mem_append_left _ (List.mem_append_right _ h)))))) (List.mem_of_getElem? (i := 10) rfl) rfl dX2_beginTerm_220 rfl ?_
    refine jm_aload_n (n := 224) X 1 rfl dX2_beginTerm_223 rfl ?_
    refine jm_get (n := 227) X 2 1 7 cW_X2 rfl (by decide) (fun w h => List.mem_cons_of_mem _ (List.mem_append_left _ (List.mem_append_left _ (List.mem_append_left _ (List.mem_append_left _ (List.mem_append_right _ h)))))) (List.mem_of_getElem? (i := 3) rfl) rfl dX2_beginTerm_224 rfl ?_
    refine jm_aload_n (n := 228) X 1 rfl dX2_beginTerm_227 rfl ?_
    refine jm_get (n := 231) X 2 1 8 cW_X2 rfl (by decide) (fun w h => List.mem_cons_of_mem _ (List.mem_append_left _ (List.mem_append_left _ (List.mem_append_left _ (List.mem_append_left _ (List.mem_append_right _ h)))))) (List.mem_of_getElem? (i := 8) rfl) rfl dX2_beginTerm_228 rfl ?_
    refine jm_iconst (n := 232) X dX2_beginTerm_231 rfl ?_
    refine jm_aload_n (n := 233) X 1 rfl dX2_beginTerm_232 rfl ?_
    refine jm_get (n := 236) X 2 1 6 cW_X2 rfl (by decide) (fun w h => List.mem_cons_of_mem _ (List.mem_append_left _ (List.mem_append_left _ (List.mem_append_left _ (List.mem_append_left _ (List.mem_append_right _ h)))))) (List.mem_of_getElem? (i := 9) rfl) rfl dX2_beginTerm_233 rfl ?_
    refine jm_callVi (n := 239) (vs := [.int (iI (gI σ0 47)), .int (iI (gI σ0 48)), .int (iI (-1 : Int)), .int (iI (gI σ0 46))]) (rest := [.ref (h 59)]) X hA (t8_add l k0 (k0.1 47) (k0.1 48) (by decide) (k0.1 46)) (cwV 4 X.2.2.2.2.1 gX2_beginTerm_X8_add rfl rfl rfl (by decide +kernel) ⟨Nat.le_of_ble_eq_true rfl, Nat.le_of_ble_eq_true rfl⟩) 5 7 cW_X8 rfl rfl (Nat.le_of_ble_eq_true rfl) dX2_beginTerm_236 rfl (fun σ40 r40 k40 h41 => ?_)
    refine jm_put (n := 242) X 2 1 6 46 cW_X2 rfl (by decide) (fun w h => List.mem_cons_of_mem _ (List.mem_append_left _ (List.mem_append_left _ (List.mem_append_left _ (List.mem_append_left _ (List.mem_append_right _ h)))))) tyX2 tyX2_ok nmX2 (List.mem_of_getElem? (i := 9) rfl) rfl rfl rfl rfl (Nat.le_of_ble_eq_true rfl) cS_46 k40 h41 dX2_beginTerm_239 rfl (fun σ42 k42 => ?_)
    refine jm_aload_n (n := 243) X 1 rfl dX2_beginTerm_242 rfl ?_
    refine jm_iload_n (n := 244) X 0 rfl dX2_beginTerm_243 rfl ?_
    refine jm_put (n := 247) X 2 1 7 47 cW_X2 rfl (by decide) (fun w h => List.mem_cons_of_mem _ (List.mem_append_left _ (List.mem_append_left _ (List.mem_append_left _ (List.mem_append_left _ (List.mem_append_right _ h)))))) tyX2 tyX2_ok nmX2 (List.mem_of_getElem? (i := 3) rfl) rfl rfl rfl rfl (Nat.le_of_ble_eq_true rfl) cS_47 k42 (k0.2 81 _) dX2_beginTerm_244 rfl (fun σ43 k43 => ?_)
    exact jm_vret X rfl k43 dX2_beginTerm_247
  refine jm_tcase (tgt := 164) X (9) dX2_beginTerm_25 (k0.2 80 _) (by decide) (by decide) rfl (by decide) (fun c44 => ?_) (fun c44 => ?_)
  · refine jm_aload_n (n := 165) X 1 rfl dX2_beginTerm_164 rfl ?_
    refine jm_iconst (n := 166) X dX2_beginTerm_165 rfl ?_
    refine jm_callVv (n := 169) (vs := [.int (iI (-1 : Int))]) (rest := []) X hA (t2_enterMark l k0 (by decide)) (cwV 1 X.2.2.2.2.1 gX2_beginTerm_X2_enterMark rfl rfl rfl (by decide +kernel) ⟨Nat.le_of_ble_eq_true rfl, Nat.le_of_ble_eq_true rfl⟩) 2 1 cW_X2 rfl rfl (Nat.le_of_ble_eq_true rfl) dX2_beginTerm_166 rfl (fun σ45 r45 k45 => ?_)
    refine jm_aload_n (n := 170) X 1 rfl dX2_beginTerm_169 rfl ?_
    refine jm_iload_n (n := 171) X 0 rfl dX2_beginTerm_170 rfl ?_
    refine jm_put (n := 174) X 2 1 7 47 cW_X2 rfl (by decide) (fun w h => List.mem_cons_of_mem _ (List.mem_append_left _ (List.mem_append_left _ (List.mem_append_left _ (List.mem_append_left _ (List.mem_append_right _ h)))))) tyX2 tyX2_ok nmX2 (List.mem_of_getElem? (i := 3) rfl) rfl rfl rfl rfl (Nat.le_of_ble_eq_true rfl) cS_47 k45 (k0.2 81 _) dX2_beginTerm_171 rfl (fun σ47 k47 => ?_)
    refine jm_goto (n := 247) X dX2_beginTerm_174 (by decide) ?_
    exact jm_vret X rfl k47 dX2_beginTerm_247
  refine jm_tcase (tgt := 177) X (10) dX2_beginTerm_25 (k0.2 80 _) (by decide) (by decide) rfl (by decide) (fun c48 => ?_) (fun c48 => ?_)
  · refine jm_aload_n (n := 178) X 1 rfl dX2_beginTerm_177 rfl ?_
    refine jm_aload_n (n := 179) X 1 rfl dX2_beginTerm_178 rfl ?_
    refine jm_get (n := 182) X 2 1 2 cW_X2 rfl (by decide) (fun w h => List.mem_cons_of_mem _ (List.mem_append_left _ (List.mem_append_left _ (List.mem_append_left _ (List.mem_append_left _ (List.mem_append_right _ h)))))) (List.mem_of_getElem? (i := 7) rfl) rfl dX2_beginTerm_179 rfl ?_
    refine jm_aload_n (n := 183) X 1 rfl dX2_beginTerm_182 rfl ?_
    refine jm_get (n := 186) X 2 1 1 cW_X2 rfl (by decide) (fun w h => List.mem_cons_of_mem _ (List.mem_append_left _ (List.mem_append_left _ (List.mem_append_left _ (List.mem_append_left _ (List.mem_append_right _ h)))))) (List.mem_of_getElem? (i := 5) rfl) rfl dX2_beginTerm_183 rfl ?_
    refine jm_iconst (n := 187) X dX2_beginTerm_186 rfl ?_
    refine jm_aload_n (n := 188) X 1 rfl dX2_beginTerm_187 rfl ?_
    refine jm_get (n := 191) X 2 1 6 cW_X2 rfl (by decide) (fun w h => List.mem_cons_of_mem _ (List.mem_append_left _ (List.mem_append_left _ (List.mem_append_left _ (List.mem_append_left _ (List.mem_append_right _ h)))))) (List.mem_of_getElem? (i := 9) rfl) rfl dX2_beginTerm_188 rfl ?_
    refine jm_iconst (n := 192) X dX2_beginTerm_191 rfl ?_
    refine jm_callVi (n := 195) (vs := [.int (iI (3 : Int)), .int (iI (gI σ0 46)), .int (iI (-1 : Int))]) (rest := [.ref (h 79), .ref (h 59)]) X hA (t7_add l k0 (by decide) (k0.1 46) (by decide)) (cwV 3 X.2.2.2.2.1 gX2_beginTerm_X7_add rfl rfl rfl (by decide +kernel) ⟨Nat.le_of_ble_eq_true rfl, Nat.le_of_ble_eq_true rfl⟩) 3 6 cW_X7 rfl rfl (Nat.le_of_ble_eq_true rfl) dX2_beginTerm_192 rfl (fun σ49 r49 k49 h50 => ?_)
    refine jm_aload_n (n := 196) X 1 rfl dX2_beginTerm_195 rfl ?_
    refine jm_get (n := 199) X 2 1 8 cW_X2 rfl (by decide) (fun w h => List.mem_cons_of_mem _ (List.mem_append_left _ (List.mem_append_left _ (List.mem_append_left _ (List.mem_append_left _ (List.mem_append_right _ h)))))) (List.mem_of_getElem? (i := 8) rfl) rfl dX2_beginTerm_196 rfl ?_
    refine jm_callVi (n := 202) (vs := [.int (iI r49), .int (iI (gI σ49 48))]) (rest := [.ref (h 59)]) X hA (t3_bind l k49 h50 (k49.1 48)) (cwV 2 X.2.2.2.2.1 gX2_beginTerm_X3_bind rfl rfl rfl (by decide +kernel) ⟨Nat.le_of_ble_eq_true rfl, Nat.le_of_ble_eq_true rfl⟩) 4 2 cW_X3 rfl rfl (Nat.le_of_ble_eq_true rfl) dX2_beginTerm_199 rfl (fun σ51 r51 k51 h52 => ?_)
    refine jm_put (n := 205) X 2 1 8 48 cW_X2 rfl (by decide) (fun w h => List.mem_cons_of_mem _ (List.mem_append_left _ (List.mem_append_left _ (List.mem_append_left _ (List.mem_append_left _ (List.mem_append_right _ h)))))) tyX2 tyX2_ok nmX2 (List.mem_of_getElem? (i := 8) rfl) rfl rfl rfl rfl (Nat.le_of_ble_eq_true rfl) cS_48 k51 h52 dX2_beginTerm_202 rfl (fun σ53 k53 => ?_)
    refine jm_aload_n (n := 206) X 1 rfl dX2_beginTerm_205 rfl ?_
    refine jm_iconst (n := 207) X dX2_beginTerm_206 rfl ?_
    refine jm_put (n := 210) X 2 1 6 46 cW_X2 rfl (by decide) (fun w h => List.mem_cons_of_mem _ (List.mem_append_left _ (List.mem_append_left _ (List.mem_append_left _ (List.mem_append_left _ (List.mem_append_right _ h)))))) tyX2 tyX2_ok nmX2 (List.mem_of_getElem? (i := 9) rfl) rfl rfl rfl rfl (Nat.le_of_ble_eq_true rfl) cS_46 k53 (by decide) dX2_beginTerm_207 rfl (fun σ54 k54 => ?_)
    refine jm_aload_n (n := 211) X 1 rfl dX2_beginTerm_210 rfl ?_
    refine jm_iload_n (n := 212) X 0 rfl dX2_beginTerm_211 rfl ?_
    refine jm_put (n := 215) X 2 1 7 47 cW_X2 rfl (by decide) (fun w h => List.mem_cons_of_mem _ (List.mem_append_left _ (List.mem_append_left _ (List.mem_append_left _ (List.mem_append_left _ (List.mem_append_right _ h)))))) tyX2 tyX2_ok nmX2 (List.mem_of_getElem? (i := 3) rfl) rfl rfl rfl rfl (Nat.le_of_ble_eq_true rfl) cS_47 k54 (k0.2 81 _) dX2_beginTerm_212 rfl (fun σ55 k55 => ?_)
    refine jm_goto (n := 247) X dX2_beginTerm_215 (by decide) ?_
    exact jm_vret X rfl k55 dX2_beginTerm_247
  refine jm_tcase (tgt := 141) X (11) dX2_beginTerm_25 (k0.2 80 _) (by decide) (by decide) rfl (by decide) (fun c56 => ?_) (fun c56 => ?_)
  · refine jm_aload_n (n := 142) X 1 rfl dX2_beginTerm_141 rfl ?_
    refine jm_aload_n (n := 143) X 1 rfl dX2_beginTerm_142 rfl ?_
    refine jm_get (n := 146) X 2 1 1 cW_X2 rfl (by decide) (fun w h => List.mem_cons_of_mem _ (List.mem_append_left _ (List.mem_append_left _ (List.mem_append_left _ (List.mem_append_left _ (List.mem_append_right _ h)))))) (List.mem_of_getElem? (i := 5) rfl) rfl dX2_beginTerm_143 rfl ?_
    refine jm_iconst (n := 147) X dX2_beginTerm_146 rfl ?_
    refine jm_aload_n (n := 148) X 1 rfl dX2_beginTerm_147 rfl ?_
    refine jm_get (n := 151) X 2 1 7 cW_X2 rfl (by decide) (fun w h => List.mem_cons_of_mem _ (List.mem_append_left _ (List.mem_append_left _ (List.mem_append_left _ (List.mem_append_left _ (List.mem_append_right _ h)))))) (List.mem_of_getElem? (i := 3) rfl) rfl dX2_beginTerm_148 rfl ?_
    refine jm_aload_n (n := 152) X 1 rfl dX2_beginTerm_151 rfl ?_
    refine jm_get (n := 155) X 2 1 8 cW_X2 rfl (by decide) (fun w h => List.mem_cons_of_mem _ (List.mem_append_left _ (List.mem_append_left _ (List.mem_append_left _ (List.mem_append_left _ (List.mem_append_right _ h)))))) (List.mem_of_getElem? (i := 8) rfl) rfl dX2_beginTerm_152 rfl ?_
    refine jm_callVi (n := 158) (vs := [.int (iI (2 : Int)), .int (iI (gI σ0 47)), .int (iI (gI σ0 48))]) (rest := [.ref (h 59)]) X hA (t7_add l k0 (by decide) (k0.1 47) (k0.1 48)) (cwV 3 X.2.2.2.2.1 gX2_beginTerm_X7_add rfl rfl rfl (by decide +kernel) ⟨Nat.le_of_ble_eq_true rfl, Nat.le_of_ble_eq_true rfl⟩) 3 6 cW_X7 rfl rfl (Nat.le_of_ble_eq_true rfl) dX2_beginTerm_155 rfl (fun σ57 r57 k57 h58 => ?_)
    refine jm_put (n := 161) X 2 1 9 49 cW_X2 rfl (by decide) (fun w h => List.mem_cons_of_mem _ (List.mem_append_left _ (List.mem_append_left _ (List.mem_append_left _ (List.mem_append_left _ (List.mem_append_right _ h)))))) tyX2 tyX2_ok nmX2 (List.mem_of_getElem? (i := 6) rfl) rfl rfl rfl rfl (Nat.le_of_ble_eq_true rfl) cS_49 k57 h58 dX2_beginTerm_158 rfl (fun σ59 k59 => ?_)
    refine jm_goto (n := 247) X dX2_beginTerm_161 (by decide) ?_
    exact jm_vret X rfl k59 dX2_beginTerm_247
  refine jm_tout (tgt := 218) X dX2_beginTerm_25 (k0.2 80 _) (by decide) (by omega) ?_
  refine jm_aload_n (n := 219) X 1 rfl dX2_beginTerm_218 rfl ?_
  refine jm_aload_n (n := 220) X 1 rfl dX2_beginTerm_219 rfl ?_
  refine jm_get (n := 223) X 2 1 3 cW_X2 rfl (by decide) (fun w h => List.mem_cons_of_mem _ (List.mem_append_left _ (List.mem_append_left _ (List.mem_append_left _ (List.mem_append_left _ (List.mem_append_right _ h)))))) (List.mem_of_getElem? (i := 10) rfl) rfl dX2_beginTerm_220 rfl ?_
  refine jm_aload_n (n := 224) X 1 rfl dX2_beginTerm_223 rfl ?_
  refine jm_get (n := 227) X 2 1 7 cW_X2 rfl (by decide) (fun w h => List.mem_cons_of_mem _ (List.mem_append_left _ (List.mem_append_left _ (List.mem_append_left _ (List.mem_append_left _ (List.mem_append_right _ h)))))) (List.mem_of_getElem? (i := 3) rfl) rfl dX2_beginTerm_224 rfl ?_
  refine jm_aload_n (n := 228) X 1 rfl dX2_beginTerm_227 rfl ?_
  refine jm_get (n := 231) X 2 1 8 cW_X2 rfl (by decide) (fun w h => List.mem_cons_of_mem _ (List.mem_append_left _ (List.mem_append_left _ (List.mem_append_left _ (List.mem_append_left _ (List.mem_append_right _ h)))))) (List.mem_of_getElem? (i := 8) rfl) rfl dX2_beginTerm_228 rfl ?_
  refine jm_iconst (n := 232) X dX2_beginTerm_231 rfl ?_
  refine jm_aload_n (n := 233) X 1 rfl dX2_beginTerm_232 rfl ?_
  refine jm_get (n := 236) X 2 1 6 cW_X2 rfl (by decide) (fun w h => List.mem_cons_of_mem _ (List.mem_append_left _ (List.mem_append_left _ (List.mem_append_left _ (List.mem_append_left _ (List.mem_append_right _ h)))))) (List.mem_of_getElem? (i := 9) rfl) rfl dX2_beginTerm_233 rfl ?_
  refine jm_callVi (n := 239) (vs := [.int (iI (gI σ0 47)), .int (iI (gI σ0 48)), .int (iI (-1 : Int)), .int (iI (gI σ0 46))]) (rest := [.ref (h 59)]) X hA (t8_add l k0 (k0.1 47) (k0.1 48) (by decide) (k0.1 46)) (cwV 4 X.2.2.2.2.1 gX2_beginTerm_X8_add rfl rfl rfl (by decide +kernel) ⟨Nat.le_of_ble_eq_true rfl, Nat.le_of_ble_eq_true rfl⟩) 5 7 cW_X8 rfl rfl (Nat.le_of_ble_eq_true rfl) dX2_beginTerm_236 rfl (fun σ60 r60 k60 h61 => ?_)
  refine jm_put (n := 242) X 2 1 6 46 cW_X2 rfl (by decide) (fun w h => List.mem_cons_of_mem _ (List.mem_append_left _ (List.mem_append_left _ (List.mem_append_left _ (List.mem_append_left _ (List.mem_append_right _ h)))))) tyX2 tyX2_ok nmX2 (List.mem_of_getElem? (i := 9) rfl) rfl rfl rfl rfl (Nat.le_of_ble_eq_true rfl) cS_46 k60 h61 dX2_beginTerm_239 rfl (fun σ62 k62 => ?_)
  refine jm_aload_n (n := 243) X 1 rfl dX2_beginTerm_242 rfl ?_
  refine jm_iload_n (n := 244) X 0 rfl dX2_beginTerm_243 rfl ?_
  refine jm_put (n := 247) X 2 1 7 47 cW_X2 rfl (by decide) (fun w h => List.mem_cons_of_mem _ (List.mem_append_left _ (List.mem_append_left _ (List.mem_append_left _ (List.mem_append_left _ (List.mem_append_right _ h)))))) tyX2 tyX2_ok nmX2 (List.mem_of_getElem? (i := 3) rfl) rfl rfl rfl rfl (Nat.le_of_ble_eq_true rfl) cS_47 k62 (k0.2 81 _) dX2_beginTerm_244 rfl (fun σ63 k63 => ?_)
  exact jm_vret X rfl k63 dX2_beginTerm_247
abbrev rm2_choose : Room := { frames := 1, cells := 0, slots := 0, locals := 22 }
def f2_choose (σ0 : Sg) (x1 : Int) (x2 : Int) : Option (Sg × Int) :=
  ck (0 ≤ (gI σ0 49) ∧ (gI σ0 49) < 200) <|
  if (gA σ0 140 (gI σ0 49)) = (1 : Int) then (ck (0 ≤ (gI σ0 49) ∧ (gI σ0 49) < 200) <|
  if (gA σ0 141 (gI σ0 49)) = (1 : Int) then (ck (0 ≤ x1 ∧ x1 < 60) <|
  bd (f2_goTo σ0 (gA σ0 82 x1) x2) fun σ6 r6 =>
  some (σ6, 0))
  else (ck (0 ≤ x1 ∧ x1 < 60) <|
  bd (f2_goTo σ0 (gA σ0 83 x1) x2) fun σ9 r9 =>
  some (σ9, 0)))
  else (nx (sI σ0 50 (1 : Int)) fun σ11 =>
  some (σ11, 0))
set_option maxRecDepth 100000 in
theorem t2_choose (l : Launch) {h : Nat → Nat} {cI cZ : ClassId} {D : va_G} {t1 t2 : Nat} {σ0 : Sg} {x1 : Int} {x2 : Int} (k0 : ok σ0) (hx1 : inR x1) (hx2 : inR x2) : ctV (cE t1 t2) l (cW h cI cZ) D (mT cI cZ) yX2_choose wsX2_choose rm2_choose [.ref (h 59), .int (iI x1), .int (iI x2)] σ0 (f2_choose σ0 x1 x2) := by
  refine of_V (cE_ok t1 t2) (own := RX2) (lv := [(0, .ref (h 59)), (1, .int (iI x1)), (2, .int (iI x2))]) (by decide) rfl rfl (Nat.le_of_ble_eq_true rfl) rfl (fun p e s m below meth c sz X hA => ?_)
  rw [f2_choose]
  refine jm_aload_n (n := 1) X 0 rfl dX2_choose_0 rfl ?_
  refine jm_get (n := 4) X 2 1 1 cW_X2 rfl (by decide) (fun w h => List.mem_cons_of_mem _ (List.mem_append_left _ (List.mem_append_left _ (List.mem_append_right _ h)))) (List.mem_of_getElem? (i := 1) rfl) rfl dX2_choose_1 rfl ?_
  refine jm_get (n := 7) X 3 6 0 cW_X7 rfl (by decide) (fun w h => List.mem_cons_of_mem _ (List.mem_append_left _ (List.mem_append_right _ h))) (List.mem_of_getElem? (i := 2) rfl) rfl dX2_choose_4 rfl ?_
  refine jm_aload_n (n := 8) X 0 rfl dX2_choose_7 rfl ?_
  refine jm_get (n := 11) X 2 1 9 cW_X2 rfl (by decide) (fun w h => List.mem_cons_of_mem _ (List.mem_append_left _ (List.mem_append_left _ (List.mem_append_right _ h)))) (List.mem_of_getElem? (i := 3) rfl) rfl dX2_choose_8 rfl ?_
  refine jm_ald (n := 12) X 17 0 140 cA_140 rfl rfl (k0.1 49) dX2_choose_11 rfl (fun h1 => ?_)
  refine jm_iconst (n := 13) X dX2_choose_12 rfl ?_
  refine jm_icmp_eq (n := 16) (tgt := 24) X dX2_choose_13 (by decide) (k0.2 140 _) (by decide) rfl (fun c2 => ?_) (fun c2 => ?_)
  · refine jm_aload_n (n := 25) X 0 rfl dX2_choose_24 rfl ?_
    refine jm_get (n := 28) X 2 1 1 cW_X2 rfl (by decide) (fun w h => List.mem_cons_of_mem _ (List.mem_append_left _ (List.mem_append_left _ (List.mem_append_right _ h)))) (List.mem_of_getElem? (i := 1) rfl) rfl dX2_choose_25 rfl ?_
    refine jm_get (n := 31) X 3 6 1 cW_X7 rfl (by decide) (fun w h => List.mem_cons_of_mem _ (List.mem_append_left _ (List.mem_append_right _ h))) (List.mem_of_getElem? (i := 5) rfl) rfl dX2_choose_28 rfl ?_
    refine jm_aload_n (n := 32) X 0 rfl dX2_choose_31 rfl ?_
    refine jm_get (n := 35) X 2 1 9 cW_X2 rfl (by decide) (fun w h => List.mem_cons_of_mem _ (List.mem_append_left _ (List.mem_append_left _ (List.mem_append_right _ h)))) (List.mem_of_getElem? (i := 3) rfl) rfl dX2_choose_32 rfl ?_
    refine jm_ald (n := 36) X 18 0 141 cA_141 rfl rfl (k0.1 49) dX2_choose_35 rfl (fun h3 => ?_)
    refine jm_iconst (n := 37) X dX2_choose_36 rfl ?_
    refine jm_icmp_ne (n := 40) (tgt := 57) X dX2_choose_37 (by decide) (k0.2 141 _) (by decide) rfl (fun c4 => ?_) (fun c4 => ?_)
    · refine jm_aload_n (n := 41) X 0 rfl dX2_choose_40 rfl ?_
      refine jm_aload_n (n := 42) X 0 rfl dX2_choose_41 rfl ?_
      refine jm_get (n := 45) X 2 1 0 cW_X2 rfl (by decide) (fun w h => List.mem_cons_of_mem _ (List.mem_append_left _ (List.mem_append_left _ (List.mem_append_right _ h)))) (List.mem_of_getElem? (i := 6) rfl) rfl dX2_choose_42 rfl ?_
      refine jm_get (n := 48) X 1 3 2 cW_X4 rfl (by decide) (fun w h => List.mem_cons_of_mem _ (List.mem_append_right _ h)) (List.mem_of_getElem? (i := 7) rfl) rfl dX2_choose_45 rfl ?_
      refine jm_iload_n (n := 49) X 1 rfl dX2_choose_48 rfl ?_
      refine jm_ald (n := 50) X 11 0 82 cA_82 rfl rfl hx1 dX2_choose_49 rfl (fun h5 => ?_)
      refine jm_iload_n (n := 51) X 2 rfl dX2_choose_50 rfl ?_
      refine jm_callVv (n := 54) (vs := [.int (iI (gA σ0 82 x1)), .int (iI x2)]) (rest := []) X hA (t2_goTo l k0 (k0.2 82 _) hx2) (cwV 2 X.2.2.2.2.1 gX2_choose_X2_goTo rfl rfl rfl (by decide +kernel) ⟨Nat.le_of_ble_eq_true rfl, Nat.le_of_ble_eq_true rfl⟩) 2 1 cW_X2 rfl rfl (Nat.le_of_ble_eq_true rfl) dX2_choose_51 rfl (fun σ6 r6 k6 => ?_)
      refine jm_goto (n := 71) X dX2_choose_54 (by decide) ?_
      exact jm_vret X rfl k6 dX2_choose_71
    · refine jm_aload_n (n := 58) X 0 rfl dX2_choose_57 rfl ?_
      refine jm_aload_n (n := 59) X 0 rfl dX2_choose_58 rfl ?_
      refine jm_get (n := 62) X 2 1 0 cW_X2 rfl (by decide) (fun w h => List.mem_cons_of_mem _ (List.mem_append_left _ (List.mem_append_left _ (List.mem_append_right _ h)))) (List.mem_of_getElem? (i := 6) rfl) rfl dX2_choose_59 rfl ?_
      refine jm_get (n := 65) X 1 3 3 cW_X4 rfl (by decide) (fun w h => List.mem_cons_of_mem _ (List.mem_append_right _ h)) (List.mem_of_getElem? (i := 8) rfl) rfl dX2_choose_62 rfl ?_
      refine jm_iload_n (n := 66) X 1 rfl dX2_choose_65 rfl ?_
      refine jm_ald (n := 67) X 12 0 83 cA_83 rfl rfl hx1 dX2_choose_66 rfl (fun h8 => ?_)
      refine jm_iload_n (n := 68) X 2 rfl dX2_choose_67 rfl ?_
      refine jm_callVv (n := 71) (vs := [.int (iI (gA σ0 83 x1)), .int (iI x2)]) (rest := []) X hA (t2_goTo l k0 (k0.2 83 _) hx2) (cwV 2 X.2.2.2.2.1 gX2_choose_X2_goTo rfl rfl rfl (by decide +kernel) ⟨Nat.le_of_ble_eq_true rfl, Nat.le_of_ble_eq_true rfl⟩) 2 1 cW_X2 rfl rfl (Nat.le_of_ble_eq_true rfl) dX2_choose_68 rfl (fun σ9 r9 k9 => ?_)
      exact jm_vret X rfl k9 dX2_choose_71
  · refine jm_aload_n (n := 17) X 0 rfl dX2_choose_16 rfl ?_
    refine jm_iconst (n := 18) X dX2_choose_17 rfl ?_
    refine jm_put (n := 21) X 2 1 10 50 cW_X2 rfl (by decide) (fun w h => List.mem_cons_of_mem _ (List.mem_append_left _ (List.mem_append_left _ (List.mem_append_right _ h)))) tyX2 tyX2_ok nmX2 (List.mem_of_getElem? (i := 4) rfl) rfl rfl rfl rfl (Nat.le_of_ble_eq_true rfl) cS_50 k0 (by decide) dX2_choose_18 rfl (fun σ11 k11 => ?_)
    refine jm_goto (n := 71) X dX2_choose_21 (by decide) ?_
    exact jm_vret X rfl k11 dX2_choose_71
abbrev rm2_callWith : Room := { frames := 1, cells := 0, slots := 0, locals := 22 }
def b2_callWith_85 (σ0 : Sg) (x2 : Int) (x4 : Int) (x5 : Int) : Option (Sg × Int) :=
  ck (0 ≤ x4 ∧ x4 < 60) <|
  bd (f3_bind σ0 x2 x5) fun σ2 r2 =>
  bd (f2_goTo σ2 (gA σ0 81 x4) r2) fun σ4 r4 =>
  some (σ4, 0)
set_option maxRecDepth 100000 in
theorem u2_callWith_85 (X : CX p m meth c cX2_callWith 6 none s args wsX2_callWith RX2 D (mT cI cZ) (cE t1 t2) (va_A (cW h cI cZ σz) sz)) (hA : ∀ z : Nat, s.heap.size ≤ z → va_A (cW h cI cZ σz) sz z) (σ0 : Sg) (x2 : Int) (x4 : Int) (x5 : Int) (k0 : ok σ0) (hx2 : inR x2) (hx4 : inR x4) (hx5 : inR x5) : JV l rm2_callWith (cW h cI cZ) D (mT cI cZ) σz sz 6 p e s m args below meth c σ0 85 [(0, .ref (h 59)), (2, .int (iI x2)), (4, .int (iI x4)), (5, .int (iI x5))] [] (b2_callWith_85 σ0 x2 x4 x5) := by
  rw [b2_callWith_85]
  refine jm_aload_n (n := 86) X 0 rfl dX2_callWith_85 rfl ?_
  refine jm_aload_n (n := 87) X 0 rfl dX2_callWith_86 rfl ?_
  refine jm_get (n := 90) X 2 1 0 cW_X2 rfl (by decide) (fun w h => List.mem_cons_of_mem _ (List.mem_append_left _ (List.mem_append_left _ (List.mem_append_left _ (List.mem_append_right _ h))))) (List.mem_of_getElem? (i := 5) rfl) rfl dX2_callWith_87 rfl ?_
  refine jm_get (n := 93) X 1 3 1 cW_X4 rfl (by decide) (fun w h => List.mem_cons_of_mem _ (List.mem_append_left _ (List.mem_append_right _ h))) (List.mem_of_getElem? (i := 8) rfl) rfl dX2_callWith_90 rfl ?_
  refine jm_iload (n := 95) X 2 rfl dX2_callWith_93 rfl ?_
  refine jm_ald (n := 96) X 10 0 81 cA_81 rfl rfl hx4 dX2_callWith_95 rfl (fun h1 => ?_)
  refine jm_aload_n (n := 97) X 0 rfl dX2_callWith_96 rfl ?_
  refine jm_get (n := 100) X 2 1 2 cW_X2 rfl (by decide) (fun w h => List.mem_cons_of_mem _ (List.mem_append_left _ (List.mem_append_left _ (List.mem_append_left _ (List.mem_append_right _ h))))) (List.mem_of_getElem? (i := 7) rfl) rfl dX2_callWith_97 rfl ?_
  refine jm_iload_n (n := 101) X 1 rfl dX2_callWith_100 rfl ?_
  refine jm_iload (n := 103) X 3 rfl dX2_callWith_101 rfl ?_
  refine jm_callVi (n := 106) (vs := [.int (iI x2), .int (iI x5)]) (rest := [.int (iI (gA σ0 81 x4)), .ref (h 59)]) X hA (t3_bind l k0 hx2 hx5) (cwV 2 X.2.2.2.2.1 gX2_callWith_X3_bind rfl rfl rfl (by decide +kernel) ⟨Nat.le_of_ble_eq_true rfl, Nat.le_of_ble_eq_true rfl⟩) 4 2 cW_X3 rfl rfl (Nat.le_of_ble_eq_true rfl) dX2_callWith_103 rfl (fun σ2 r2 k2 h3 => ?_)
  refine jm_callVv (n := 109) (vs := [.int (iI (gA σ0 81 x4)), .int (iI r2)]) (rest := []) X hA (t2_goTo l k2 (k0.2 81 _) h3) (cwV 2 X.2.2.2.2.1 gX2_callWith_X2_goTo rfl rfl rfl (by decide +kernel) ⟨Nat.le_of_ble_eq_true rfl, Nat.le_of_ble_eq_true rfl⟩) 2 1 cW_X2 rfl rfl (Nat.le_of_ble_eq_true rfl) dX2_callWith_106 rfl (fun σ4 r4 k4 => ?_)
  refine jm_goto (n := 117) X dX2_callWith_109 (by decide) ?_
  exact jm_vret X rfl k4 dX2_callWith_117
def f2_callWith (σ0 : Sg) (x1 : Int) (x2 : Int) : Option (Sg × Int) :=
  ck (0 ≤ x1 ∧ x1 < 200) <|
  if (gA σ0 140 x1) = (3 : Int) then (ck (0 ≤ x1 ∧ x1 < 200) <|
  bd (f2_enterMark σ0 (gA σ0 141 x1)) fun σ4 r4 =>
  some (σ4, 0))
  else (if (gA σ0 140 x1) = (2 : Int) then (ck (0 ≤ x1 ∧ x1 < 200) <|
  ck (0 ≤ x1 ∧ x1 < 200) <|
  ck (0 ≤ (gA σ0 141 x1) ∧ (gA σ0 141 x1) < 60) <|
  if (gA σ0 80 (gA σ0 141 x1)) = (11 : Int) then (bd (f3_bind σ0 x1 (gA σ0 142 x1)) fun σ11 r11 =>
  (b2_callWith_85 σ11 x2 (gA σ0 141 x1) r11))
  else ((b2_callWith_85 σ0 x2 (gA σ0 141 x1) (gA σ0 142 x1))))
  else (nx (sI σ0 50 (1 : Int)) fun σ13 =>
  some (σ13, 0)))
set_option maxRecDepth 100000 in
theorem t2_callWith (l : Launch) {h : Nat → Nat} {cI cZ : ClassId} {D : va_G} {t1 t2 : Nat} {σ0 : Sg} {x1 : Int} {x2 : Int} (k0 : ok σ0) (hx1 : inR x1) (hx2 : inR x2) : ctV (cE t1 t2) l (cW h cI cZ) D (mT cI cZ) yX2_callWith wsX2_callWith rm2_callWith [.ref (h 59), .int (iI x1), .int (iI x2)] σ0 (f2_callWith σ0 x1 x2) := by
  refine of_V (cE_ok t1 t2) (own := RX2) (lv := [(0, .ref (h 59)), (1, .int (iI x1)), (2, .int (iI x2))]) (by decide) rfl rfl (Nat.le_of_ble_eq_true rfl) rfl (fun p e s m below meth c sz X hA => ?_)
  rw [f2_callWith]
  refine jm_aload_n (n := 1) X 0 rfl dX2_callWith_0 rfl ?_
  refine jm_get (n := 4) X 2 1 1 cW_X2 rfl (by decide) (fun w h => List.mem_cons_of_mem _ (List.mem_append_left _ (List.mem_append_left _ (List.mem_append_left _ (List.mem_append_right _ h))))) (List.mem_of_getElem? (i := 1) rfl) rfl dX2_callWith_1 rfl ?_
  refine jm_get (n := 7) X 3 6 0 cW_X7 rfl (by decide) (fun w h => List.mem_cons_of_mem _ (List.mem_append_left _ (List.mem_append_left _ (List.mem_append_right _ h)))) (List.mem_of_getElem? (i := 2) rfl) rfl dX2_callWith_4 rfl ?_
  refine jm_iload_n (n := 8) X 1 rfl dX2_callWith_7 rfl ?_
  refine jm_ald (n := 9) X 17 0 140 cA_140 rfl rfl hx1 dX2_callWith_8 rfl (fun h1 => ?_)
  refine jm_istore_n (n := 10) (lv' := [(3, .int (iI (gA σ0 140 x1))), (0, .ref (h 59)), (1, .int (iI x1)), (2, .int (iI x2))]) X dX2_callWith_9 (by decide) rfl rfl ?_
  refine jm_iload_n (n := 11) X 0 rfl dX2_callWith_10 rfl ?_
  refine jm_iconst (n := 12) X dX2_callWith_11 rfl ?_
  refine jm_icmp_ne (n := 15) (tgt := 31) X dX2_callWith_12 (by decide) (k0.2 140 _) (by decide) rfl (fun c2 => ?_) (fun c2 => ?_)
  · refine jm_aload_n (n := 16) X 1 rfl dX2_callWith_15 rfl ?_
    refine jm_aload_n (n := 17) X 1 rfl dX2_callWith_16 rfl ?_
    refine jm_get (n := 20) X 2 1 1 cW_X2 rfl (by decide) (fun w h => List.mem_cons_of_mem _ (List.mem_append_left _ (List.mem_append_left _ (List.mem_append_left _ (List.mem_append_right _ h))))) (List.mem_of_getElem? (i := 1) rfl) rfl dX2_callWith_17 rfl ?_
    refine jm_get (n := 23) X 3 6 1 cW_X7 rfl (by decide) (fun w h => List.mem_cons_of_mem _ (List.mem_append_left _ (List.mem_append_left _ (List.mem_append_right _ h)))) (List.mem_of_getElem? (i := 3) rfl) rfl dX2_callWith_20 rfl ?_
    refine jm_iload_n (n := 24) X 2 rfl dX2_callWith_23 rfl ?_
    refine jm_ald (n := 25) X 18 0 141 cA_141 rfl rfl hx1 dX2_callWith_24 rfl (fun h3 => ?_)
    refine jm_callVv (n := 28) (vs := [.int (iI (gA σ0 141 x1))]) (rest := []) X hA (t2_enterMark l k0 (k0.2 141 _)) (cwV 1 X.2.2.2.2.1 gX2_callWith_X2_enterMark rfl rfl rfl (by decide +kernel) ⟨Nat.le_of_ble_eq_true rfl, Nat.le_of_ble_eq_true rfl⟩) 2 1 cW_X2 rfl rfl (Nat.le_of_ble_eq_true rfl) dX2_callWith_25 rfl (fun σ4 r4 k4 => ?_)
    refine jm_goto (n := 117) X dX2_callWith_28 (by decide) ?_
    exact jm_vret X rfl k4 dX2_callWith_117
  · refine jm_iload_n (n := 32) X 0 rfl dX2_callWith_31 rfl ?_
    refine jm_iconst (n := 33) X dX2_callWith_32 rfl ?_
    refine jm_icmp_ne (n := 36) (tgt := 112) X dX2_callWith_33 (by decide) (k0.2 140 _) (by decide) rfl (fun c6 => ?_) (fun c6 => ?_)
    · refine jm_aload_n (n := 37) X 1 rfl dX2_callWith_36 rfl ?_
      refine jm_get (n := 40) X 2 1 1 cW_X2 rfl (by decide) (fun w h => List.mem_cons_of_mem _ (List.mem_append_left _ (List.mem_append_left _ (List.mem_append_left _ (List.mem_append_right _ h))))) (List.mem_of_getElem? (i := 1) rfl) rfl dX2_callWith_37 rfl ?_
      refine jm_get (n := 43) X 3 6 1 cW_X7 rfl (by decide) (fun w h => List.mem_cons_of_mem _ (List.mem_append_left _ (List.mem_append_left _ (List.mem_append_right _ h)))) (List.mem_of_getElem? (i := 3) rfl) rfl dX2_callWith_40 rfl ?_
      refine jm_iload_n (n := 44) X 2 rfl dX2_callWith_43 rfl ?_
      refine jm_ald (n := 45) X 18 0 141 cA_141 rfl rfl hx1 dX2_callWith_44 rfl (fun h7 => ?_)
      refine jm_istore (n := 47) (lv' := [(4, .int (iI (gA σ0 141 x1))), (3, .int (iI (gA σ0 140 x1))), (0, .ref (h 59)), (1, .int (iI x1)), (2, .int (iI x2))]) X dX2_callWith_45 (by decide) rfl rfl ?_
      refine jm_aload_n (n := 48) X 2 rfl dX2_callWith_47 rfl ?_
      refine jm_get (n := 51) X 2 1 1 cW_X2 rfl (by decide) (fun w h => List.mem_cons_of_mem _ (List.mem_append_left _ (List.mem_append_left _ (List.mem_append_left _ (List.mem_append_right _ h))))) (List.mem_of_getElem? (i := 1) rfl) rfl dX2_callWith_48 rfl ?_
      refine jm_get (n := 54) X 3 6 2 cW_X7 rfl (by decide) (fun w h => List.mem_cons_of_mem _ (List.mem_append_left _ (List.mem_append_left _ (List.mem_append_right _ h)))) (List.mem_of_getElem? (i := 4) rfl) rfl dX2_callWith_51 rfl ?_
      refine jm_iload_n (n := 55) X 3 rfl dX2_callWith_54 rfl ?_
      refine jm_ald (n := 56) X 19 0 142 cA_142 rfl rfl hx1 dX2_callWith_55 rfl (fun h8 => ?_)
      refine jm_istore (n := 58) (lv' := [(5, .int (iI (gA σ0 142 x1))), (4, .int (iI (gA σ0 141 x1))), (3, .int (iI (gA σ0 140 x1))), (0, .ref (h 59)), (1, .int (iI x1)), (2, .int (iI x2))]) X dX2_callWith_56 (by decide) rfl rfl ?_
      refine jm_aload_n (n := 59) X 3 rfl dX2_callWith_58 rfl ?_
      refine jm_get (n := 62) X 2 1 0 cW_X2 rfl (by decide) (fun w h => List.mem_cons_of_mem _ (List.mem_append_left _ (List.mem_append_left _ (List.mem_append_left _ (List.mem_append_right _ h))))) (List.mem_of_getElem? (i := 5) rfl) rfl dX2_callWith_59 rfl ?_
      refine jm_get (n := 65) X 1 3 0 cW_X4 rfl (by decide) (fun w h => List.mem_cons_of_mem _ (List.mem_append_left _ (List.mem_append_right _ h))) (List.mem_of_getElem? (i := 6) rfl) rfl dX2_callWith_62 rfl ?_
      refine jm_iload (n := 67) X 1 rfl dX2_callWith_65 rfl ?_
      refine jm_ald (n := 68) X 9 0 80 cA_80 rfl rfl (k0.2 141 _) dX2_callWith_67 rfl (fun h9 => ?_)
      refine jm_bipush (n := 70) X dX2_callWith_68 (by decide) rfl ?_
      refine jm_icmp_ne (n := 73) (tgt := 85) X dX2_callWith_70 (by decide) (k0.2 80 _) (by decide) rfl (fun c10 => ?_) (fun c10 => ?_)
      · refine jm_aload_n (n := 74) X 3 rfl dX2_callWith_73 rfl ?_
        refine jm_get (n := 77) X 2 1 2 cW_X2 rfl (by decide) (fun w h => List.mem_cons_of_mem _ (List.mem_append_left _ (List.mem_append_left _ (List.mem_append_left _ (List.mem_append_right _ h))))) (List.mem_of_getElem? (i := 7) rfl) rfl dX2_callWith_74 rfl ?_
        refine jm_iload_n (n := 78) X 4 rfl dX2_callWith_77 rfl ?_
        refine jm_iload (n := 80) X 0 rfl dX2_callWith_78 rfl ?_
        refine jm_callVi (n := 83) (vs := [.int (iI x1), .int (iI (gA σ0 142 x1))]) (rest := []) X hA (t3_bind l k0 hx1 (k0.2 142 _)) (cwV 2 X.2.2.2.2.1 gX2_callWith_X3_bind rfl rfl rfl (by decide +kernel) ⟨Nat.le_of_ble_eq_true rfl, Nat.le_of_ble_eq_true rfl⟩) 4 2 cW_X3 rfl rfl (Nat.le_of_ble_eq_true rfl) dX2_callWith_80 rfl (fun σ11 r11 k11 h12 => ?_)
        refine jm_istore (n := 85) (lv' := [(5, .int (iI r11)), (4, .int (iI (gA σ0 141 x1))), (3, .int (iI (gA σ0 140 x1))), (0, .ref (h 59)), (1, .int (iI x1)), (2, .int (iI x2))]) X dX2_callWith_83 (by decide) rfl rfl ?_
        refine jm_perm [3, 5, 1, 0] rfl ?_
        exact u2_callWith_85 X hA σ11 x2 (gA σ0 141 x1) r11 k11 hx2 (k0.2 141 _) h12
      · refine jm_perm [3, 5, 1, 0] rfl ?_
        exact u2_callWith_85 X hA σ0 x2 (gA σ0 141 x1) (gA σ0 142 x1) k0 hx2 (k0.2 141 _) (k0.2 142 _)
    · refine jm_aload_n (n := 113) X 1 rfl dX2_callWith_112 rfl ?_
      refine jm_iconst (n := 114) X dX2_callWith_113 rfl ?_
      refine jm_put (n := 117) X 2 1 10 50 cW_X2 rfl (by decide) (fun w h => List.mem_cons_of_mem _ (List.mem_append_left _ (List.mem_append_left _ (List.mem_append_left _ (List.mem_append_right _ h))))) tyX2 tyX2_ok nmX2 (List.mem_of_getElem? (i := 9) rfl) rfl rfl rfl rfl (Nat.le_of_ble_eq_true rfl) cS_50 k0 (by decide) dX2_callWith_114 rfl (fun σ13 k13 => ?_)
      exact jm_vret X rfl k13 dX2_callWith_117
abbrev rm2_joinNumbers : Room := { frames := 1, cells := 0, slots := 0, locals := 23 }
def b2_joinNumbers_24 (σ0 : Sg)  : Option (Sg × Int) :=
  nx (sI σ0 50 (1 : Int)) fun σ1 =>
  some (σ1, 0)
set_option maxRecDepth 100000 in
theorem u2_joinNumbers_24 (X : CX p m meth c cX2_joinNumbers 4 none s args wsX2_joinNumbers RX2 D (mT cI cZ) (cE t1 t2) (va_A (cW h cI cZ σz) sz)) (hA : ∀ z : Nat, s.heap.size ≤ z → va_A (cW h cI cZ σz) sz z) (σ0 : Sg)  (k0 : ok σ0)  : JV l rm2_joinNumbers (cW h cI cZ) D (mT cI cZ) σz sz 4 p e s m args below meth c σ0 24 [(0, .ref (h 59))] [] (b2_joinNumbers_24 σ0 ) := by
  rw [b2_joinNumbers_24]
  refine jm_aload_n (n := 25) X 0 rfl dX2_joinNumbers_24 rfl ?_
  refine jm_iconst (n := 26) X dX2_joinNumbers_25 rfl ?_
  refine jm_put (n := 29) X 2 1 10 50 cW_X2 rfl (by decide) (fun w h => List.mem_cons_of_mem _ (List.mem_append_left _ (List.mem_append_right _ h))) tyX2 tyX2_ok nmX2 (List.mem_of_getElem? (i := 3) rfl) rfl rfl rfl rfl (Nat.le_of_ble_eq_true rfl) cS_50 k0 (by decide) dX2_joinNumbers_26 rfl (fun σ1 k1 => ?_)
  refine jm_goto (n := 111) X dX2_joinNumbers_29 (by decide) ?_
  exact jm_vret X rfl k1 dX2_joinNumbers_111
def b2_joinNumbers_104 (σ0 : Sg) (y2 : Int) (y3 : Int) : Option (Sg × Int) :=
  bd (f7_add σ0 y2 y3 (-1 : Int)) fun σ1 r1 =>
  nx (sI σ1 49 r1) fun σ3 =>
  some (σ3, 0)
set_option maxRecDepth 100000 in
theorem u2_joinNumbers_104 (X : CX p m meth c cX2_joinNumbers 4 none s args wsX2_joinNumbers RX2 D (mT cI cZ) (cE t1 t2) (va_A (cW h cI cZ σz) sz)) (hA : ∀ z : Nat, s.heap.size ≤ z → va_A (cW h cI cZ σz) sz z) (σ0 : Sg) (y2 : Int) (y3 : Int) (k0 : ok σ0) (hy2 : inR y2) (hy3 : inR y3) : JV l rm2_joinNumbers (cW h cI cZ) D (mT cI cZ) σz sz 4 p e s m args below meth c σ0 104 [] [.int (iI y3), .int (iI y2), .ref (h 159), .ref (h 59)] (b2_joinNumbers_104 σ0 y2 y3) := by
  rw [b2_joinNumbers_104]
  refine jm_iconst (n := 105) X dX2_joinNumbers_104 rfl ?_
  refine jm_callVi (n := 108) (vs := [.int (iI y2), .int (iI y3), .int (iI (-1 : Int))]) (rest := [.ref (h 59)]) X hA (t7_add l k0 hy2 hy3 (by decide)) (cwV 3 X.2.2.2.2.1 gX2_joinNumbers_X7_add rfl rfl rfl (by decide +kernel) ⟨Nat.le_of_ble_eq_true rfl, Nat.le_of_ble_eq_true rfl⟩) 3 6 cW_X7 rfl rfl (Nat.le_of_ble_eq_true rfl) dX2_joinNumbers_105 rfl (fun σ1 r1 k1 h2 => ?_)
  refine jm_put (n := 111) X 2 1 9 49 cW_X2 rfl (by decide) (fun w h => List.mem_cons_of_mem _ (List.mem_append_left _ (List.mem_append_right _ h))) tyX2 tyX2_ok nmX2 (List.mem_of_getElem? (i := 5) rfl) rfl rfl rfl rfl (Nat.le_of_ble_eq_true rfl) cS_49 k1 h2 dX2_joinNumbers_108 rfl (fun σ3 k3 => ?_)
  exact jm_vret X rfl k3 dX2_joinNumbers_111
def f2_joinNumbers (σ0 : Sg) (x1 : Int) (x2 : Int) (x3 : Int) : Option (Sg × Int) :=
  ck (0 ≤ x2 ∧ x2 < 200) <|
  if (gA σ0 140 x2) = 0 then (ck (0 ≤ x3 ∧ x3 < 200) <|
  if (gA σ0 140 x3) = 0 then (if x1 = (5 : Int) then (ck (0 ≤ x2 ∧ x2 < 200) <|
  ck (0 ≤ x3 ∧ x3 < 200) <|
  bd (f7_add σ0 (0 : Int) (wr ((gA σ0 141 x2) + (gA σ0 141 x3))) (-1 : Int)) fun σ8 r8 =>
  nx (sI σ8 49 r8) fun σ10 =>
  some (σ10, 0))
  else (ck (0 ≤ x2 ∧ x2 < 200) <|
  ck (0 ≤ x3 ∧ x3 < 200) <|
  if (gA σ0 141 x3) ≤ (gA σ0 141 x2) then ((b2_joinNumbers_104 σ0 (1 : Int) (0 : Int)))
  else ((b2_joinNumbers_104 σ0 (1 : Int) (1 : Int)))))
  else ((b2_joinNumbers_24 σ0 )))
  else ((b2_joinNumbers_24 σ0 ))
set_option maxRecDepth 100000 in
theorem t2_joinNumbers (l : Launch) {h : Nat → Nat} {cI cZ : ClassId} {D : va_G} {t1 t2 : Nat} {σ0 : Sg} {x1 : Int} {x2 : Int} {x3 : Int} (k0 : ok σ0) (hx1 : inR x1) (hx2 : inR x2) (hx3 : inR x3) : ctV (cE t1 t2) l (cW h cI cZ) D (mT cI cZ) yX2_joinNumbers wsX2_joinNumbers rm2_joinNumbers [.ref (h 59), .int (iI x1), .int (iI x2), .int (iI x3)] σ0 (f2_joinNumbers σ0 x1 x2 x3) := by
  refine of_V (cE_ok t1 t2) (own := RX2) (lv := [(0, .ref (h 59)), (1, .int (iI x1)), (2, .int (iI x2)), (3, .int (iI x3))]) (by decide) rfl rfl (Nat.le_of_ble_eq_true rfl) rfl (fun p e s m below meth c sz X hA => ?_)
  rw [f2_joinNumbers]
  refine jm_aload_n (n := 1) X 0 rfl dX2_joinNumbers_0 rfl ?_
  refine jm_get (n := 4) X 2 1 1 cW_X2 rfl (by decide) (fun w h => List.mem_cons_of_mem _ (List.mem_append_left _ (List.mem_append_right _ h))) (List.mem_of_getElem? (i := 1) rfl) rfl dX2_joinNumbers_1 rfl ?_
  refine jm_get (n := 7) X 3 6 0 cW_X7 rfl (by decide) (fun w h => List.mem_cons_of_mem _ (List.mem_append_right _ h)) (List.mem_of_getElem? (i := 2) rfl) rfl dX2_joinNumbers_4 rfl ?_
  refine jm_iload_n (n := 8) X 2 rfl dX2_joinNumbers_7 rfl ?_
  refine jm_ald (n := 9) X 17 0 140 cA_140 rfl rfl hx2 dX2_joinNumbers_8 rfl (fun h1 => ?_)
  refine jm_if_ne (n := 12) (tgt := 24) X dX2_joinNumbers_9 (by decide) (k0.2 140 _) rfl (fun c2 => ?_) (fun c2 => ?_)
  · refine jm_aload_n (n := 13) X 0 rfl dX2_joinNumbers_12 rfl ?_
    refine jm_get (n := 16) X 2 1 1 cW_X2 rfl (by decide) (fun w h => List.mem_cons_of_mem _ (List.mem_append_left _ (List.mem_append_right _ h))) (List.mem_of_getElem? (i := 1) rfl) rfl dX2_joinNumbers_13 rfl ?_
    refine jm_get (n := 19) X 3 6 0 cW_X7 rfl (by decide) (fun w h => List.mem_cons_of_mem _ (List.mem_append_right _ h)) (List.mem_of_getElem? (i := 2) rfl) rfl dX2_joinNumbers_16 rfl ?_
    refine jm_iload_n (n := 20) X 3 rfl dX2_joinNumbers_19 rfl ?_
    refine jm_ald (n := 21) X 17 0 140 cA_140 rfl rfl hx3 dX2_joinNumbers_20 rfl (fun h3 => ?_)
    refine jm_if_eq (n := 24) (tgt := 32) X dX2_joinNumbers_21 (by decide) (k0.2 140 _) rfl (fun c4 => ?_) (fun c4 => ?_)
    · refine jm_iload_n (n := 33) X 1 rfl dX2_joinNumbers_32 rfl ?_
      refine jm_iconst (n := 34) X dX2_joinNumbers_33 rfl ?_
      refine jm_icmp_ne (n := 37) (tgt := 72) X dX2_joinNumbers_34 (by decide) hx1 (by decide) rfl (fun c5 => ?_) (fun c5 => ?_)
      · refine jm_aload_n (n := 38) X 0 rfl dX2_joinNumbers_37 rfl ?_
        refine jm_aload_n (n := 39) X 0 rfl dX2_joinNumbers_38 rfl ?_
        refine jm_get (n := 42) X 2 1 1 cW_X2 rfl (by decide) (fun w h => List.mem_cons_of_mem _ (List.mem_append_left _ (List.mem_append_right _ h))) (List.mem_of_getElem? (i := 1) rfl) rfl dX2_joinNumbers_39 rfl ?_
        refine jm_iconst (n := 43) X dX2_joinNumbers_42 rfl ?_
        refine jm_aload_n (n := 44) X 0 rfl dX2_joinNumbers_43 rfl ?_
        refine jm_get (n := 47) X 2 1 1 cW_X2 rfl (by decide) (fun w h => List.mem_cons_of_mem _ (List.mem_append_left _ (List.mem_append_right _ h))) (List.mem_of_getElem? (i := 1) rfl) rfl dX2_joinNumbers_44 rfl ?_
        refine jm_get (n := 50) X 3 6 1 cW_X7 rfl (by decide) (fun w h => List.mem_cons_of_mem _ (List.mem_append_right _ h)) (List.mem_of_getElem? (i := 4) rfl) rfl dX2_joinNumbers_47 rfl ?_
        refine jm_iload_n (n := 51) X 2 rfl dX2_joinNumbers_50 rfl ?_
        refine jm_ald (n := 52) X 18 0 141 cA_141 rfl rfl hx2 dX2_joinNumbers_51 rfl (fun h6 => ?_)
        refine jm_aload_n (n := 53) X 0 rfl dX2_joinNumbers_52 rfl ?_
        refine jm_get (n := 56) X 2 1 1 cW_X2 rfl (by decide) (fun w h => List.mem_cons_of_mem _ (List.mem_append_left _ (List.mem_append_right _ h))) (List.mem_of_getElem? (i := 1) rfl) rfl dX2_joinNumbers_53 rfl ?_
        refine jm_get (n := 59) X 3 6 1 cW_X7 rfl (by decide) (fun w h => List.mem_cons_of_mem _ (List.mem_append_right _ h)) (List.mem_of_getElem? (i := 4) rfl) rfl dX2_joinNumbers_56 rfl ?_
        refine jm_iload_n (n := 60) X 3 rfl dX2_joinNumbers_59 rfl ?_
        refine jm_ald (n := 61) X 18 0 141 cA_141 rfl rfl hx3 dX2_joinNumbers_60 rfl (fun h7 => ?_)
        refine jm_iaddW (n := 62) X dX2_joinNumbers_61 rfl ?_
        refine jm_iconst (n := 63) X dX2_joinNumbers_62 rfl ?_
        refine jm_callVi (n := 66) (vs := [.int (iI (0 : Int)), .int (iI (wr ((gA σ0 141 x2) + (gA σ0 141 x3)))), .int (iI (-1 : Int))]) (rest := [.ref (h 59)]) X hA (t7_add l k0 (by decide) (wr_in _) (by decide)) (cwV 3 X.2.2.2.2.1 gX2_joinNumbers_X7_add rfl rfl rfl (by decide +kernel) ⟨Nat.le_of_ble_eq_true rfl, Nat.le_of_ble_eq_true rfl⟩) 3 6 cW_X7 rfl rfl (Nat.le_of_ble_eq_true rfl) dX2_joinNumbers_63 rfl (fun σ8 r8 k8 h9 => ?_)
        refine jm_put (n := 69) X 2 1 9 49 cW_X2 rfl (by decide) (fun w h => List.mem_cons_of_mem _ (List.mem_append_left _ (List.mem_append_right _ h))) tyX2 tyX2_ok nmX2 (List.mem_of_getElem? (i := 5) rfl) rfl rfl rfl rfl (Nat.le_of_ble_eq_true rfl) cS_49 k8 h9 dX2_joinNumbers_66 rfl (fun σ10 k10 => ?_)
        refine jm_goto (n := 111) X dX2_joinNumbers_69 (by decide) ?_
        exact jm_vret X rfl k10 dX2_joinNumbers_111
      · refine jm_aload_n (n := 73) X 0 rfl dX2_joinNumbers_72 rfl ?_
        refine jm_aload_n (n := 74) X 0 rfl dX2_joinNumbers_73 rfl ?_
        refine jm_get (n := 77) X 2 1 1 cW_X2 rfl (by decide) (fun w h => List.mem_cons_of_mem _ (List.mem_append_left _ (List.mem_append_right _ h))) (List.mem_of_getElem? (i := 1) rfl) rfl dX2_joinNumbers_74 rfl ?_
        refine jm_iconst (n := 78) X dX2_joinNumbers_77 rfl ?_
        refine jm_aload_n (n := 79) X 0 rfl dX2_joinNumbers_78 rfl ?_
        refine jm_get (n := 82) X 2 1 1 cW_X2 rfl (by decide) (fun w h => List.mem_cons_of_mem _ (List.mem_append_left _ (List.mem_append_right _ h))) (List.mem_of_getElem? (i := 1) rfl) rfl dX2_joinNumbers_79 rfl ?_
        refine jm_get (n := 85) X 3 6 1 cW_X7 rfl (by decide) (fun w h => List.mem_cons_of_mem _ (List.mem_append_right _ h)) (List.mem_of_getElem? (i := 4) rfl) rfl dX2_joinNumbers_82 rfl ?_
        refine jm_iload_n (n := 86) X 2 rfl dX2_joinNumbers_85 rfl ?_
        refine jm_ald (n := 87) X 18 0 141 cA_141 rfl rfl hx2 dX2_joinNumbers_86 rfl (fun h11 => ?_)
        refine jm_aload_n (n := 88) X 0 rfl dX2_joinNumbers_87 rfl ?_
        refine jm_get (n := 91) X 2 1 1 cW_X2 rfl (by decide) (fun w h => List.mem_cons_of_mem _ (List.mem_append_left _ (List.mem_append_right _ h))) (List.mem_of_getElem? (i := 1) rfl) rfl dX2_joinNumbers_88 rfl ?_
        refine jm_get (n := 94) X 3 6 1 cW_X7 rfl (by decide) (fun w h => List.mem_cons_of_mem _ (List.mem_append_right _ h)) (List.mem_of_getElem? (i := 4) rfl) rfl dX2_joinNumbers_91 rfl ?_
        refine jm_iload_n (n := 95) X 3 rfl dX2_joinNumbers_94 rfl ?_
        refine jm_ald (n := 96) X 18 0 141 cA_141 rfl rfl hx3 dX2_joinNumbers_95 rfl (fun h12 => ?_)
        refine jm_icmp_ge (n := 99) (tgt := 103) X dX2_joinNumbers_96 (by decide) (k0.2 141 _) (k0.2 141 _) rfl (fun c13 => ?_) (fun c13 => ?_)
        · refine jm_iconst (n := 104) X dX2_joinNumbers_103 rfl ?_
          refine jm_perm [] rfl ?_
          exact u2_joinNumbers_104 X hA σ0 (1 : Int) (0 : Int) k0 (by decide) (by decide)
        · refine jm_iconst (n := 100) X dX2_joinNumbers_99 rfl ?_
          refine jm_goto (n := 104) X dX2_joinNumbers_100 (by decide) ?_
          refine jm_perm [] rfl ?_
          exact u2_joinNumbers_104 X hA σ0 (1 : Int) (1 : Int) k0 (by decide) (by decide)
    · refine jm_perm [0] rfl ?_
      exact u2_joinNumbers_24 X hA σ0  k0 
  · refine jm_perm [0] rfl ?_
    exact u2_joinNumbers_24 X hA σ0  k0 
abbrev rm2_bringValue : Room := { frames := 2, cells := 0, slots := 0, locals := 47 }
def f2_bringValue (σ0 : Sg)  : Option (Sg × Int) :=
  ck (0 ≤ (gI σ0 46) ∧ (gI σ0 46) < 200) <|
  ck (0 ≤ (gA σ0 160 (gI σ0 46)) ∧ (gA σ0 160 (gI σ0 46)) < 60) <|
  ck (0 ≤ (gI σ0 46) ∧ (gI σ0 46) < 200) <|
  nx (sI σ0 46 (gA σ0 163 (gI σ0 46))) fun σ4 =>
  if (gA σ0 80 (gA σ0 160 (gI σ0 46))) = (7 : Int) then (ck (0 ≤ (gI σ0 46) ∧ (gI σ0 46) < 200) <|
  bd (f2_choose σ4 (gA σ0 160 (gI σ0 46)) (gA σ4 161 (gI σ0 46))) fun σ7 r7 =>
  some (σ7, 0))
  else (if (gA σ0 80 (gA σ0 160 (gI σ0 46))) = (8 : Int) then (ck (0 ≤ (gA σ0 160 (gI σ0 46)) ∧ (gA σ0 160 (gI σ0 46)) < 60) <|
  ck (0 ≤ (gI σ0 46) ∧ (gI σ0 46) < 200) <|
  bd (f3_bind σ4 (gI σ4 49) (gA σ4 161 (gI σ0 46))) fun σ12 r12 =>
  bd (f2_goTo σ12 (gA σ4 82 (gA σ0 160 (gI σ0 46))) r12) fun σ14 r14 =>
  some (σ14, 0))
  else (ck (0 ≤ (gI σ0 46) ∧ (gI σ0 46) < 200) <|
  if (gA σ4 162 (gI σ0 46)) = (-1 : Int) then (ck (0 ≤ (gI σ0 46) ∧ (gI σ0 46) < 200) <|
  bd (f8_add σ4 (gA σ0 160 (gI σ0 46)) (gA σ4 161 (gI σ0 46)) (gI σ4 49) (gI σ4 46)) fun σ19 r19 =>
  nx (sI σ19 46 r19) fun σ21 =>
  ck (0 ≤ (gA σ0 160 (gI σ0 46)) ∧ (gA σ0 160 (gI σ0 46)) < 60) <|
  ck (0 ≤ (gI σ0 46) ∧ (gI σ0 46) < 200) <|
  bd (f2_goTo σ21 (gA σ21 82 (gA σ0 160 (gI σ0 46))) (gA σ21 161 (gI σ0 46))) fun σ24 r24 =>
  some (σ24, 0))
  else (if (gA σ0 80 (gA σ0 160 (gI σ0 46))) = (4 : Int) then (ck (0 ≤ (gI σ0 46) ∧ (gI σ0 46) < 200) <|
  bd (f2_callWith σ4 (gA σ4 162 (gI σ0 46)) (gI σ4 49)) fun σ28 r28 =>
  some (σ28, 0))
  else (ck (0 ≤ (gI σ0 46) ∧ (gI σ0 46) < 200) <|
  bd (f2_joinNumbers σ4 (gA σ0 80 (gA σ0 160 (gI σ0 46))) (gA σ4 162 (gI σ0 46)) (gI σ4 49)) fun σ31 r31 =>
  some (σ31, 0)))))
set_option maxRecDepth 100000 in
theorem t2_bringValue (l : Launch) {h : Nat → Nat} {cI cZ : ClassId} {D : va_G} {t1 t2 : Nat} {σ0 : Sg}  (k0 : ok σ0)  : ctV (cE t1 t2) l (cW h cI cZ) D (mT cI cZ) yX2_bringValue wsX2_bringValue rm2_bringValue [.ref (h 59)] σ0 (f2_bringValue σ0 ) := by
  refine of_V (cE_ok t1 t2) (own := RX2) (lv := [(0, .ref (h 59))]) (by decide) rfl rfl (Nat.le_of_ble_eq_true rfl) rfl (fun p e s m below meth c sz X hA => ?_)
  rw [f2_bringValue]
  refine jm_aload_n (n := 1) X 0 rfl dX2_bringValue_0 rfl ?_
  refine jm_get (n := 4) X 2 1 6 cW_X2 rfl (by decide) (fun w h => List.mem_cons_of_mem _ (List.mem_append_left _ (List.mem_append_left _ (List.mem_append_left _ (List.mem_append_left _ (List.mem_append_right _ h)))))) (List.mem_of_getElem? (i := 1) rfl) rfl dX2_bringValue_1 rfl ?_
  refine jm_istore_n (n := 5) (lv' := [(1, .int (iI (gI σ0 46))), (0, .ref (h 59))]) X dX2_bringValue_4 (by decide) rfl rfl ?_
  refine jm_aload_n (n := 6) X 1 rfl dX2_bringValue_5 rfl ?_
  refine jm_get (n := 9) X 2 1 3 cW_X2 rfl (by decide) (fun w h => List.mem_cons_of_mem _ (List.mem_append_left _ (List.mem_append_left _ (List.mem_append_left _ (List.mem_append_left _ (List.mem_append_right _ h)))))) (List.mem_of_getElem? (i := 2) rfl) rfl dX2_bringValue_6 rfl ?_
  refine jm_get (n := 12) X 5 7 0 cW_X8 rfl (by decide) (fun w h => List.mem_cons_of_mem _ (List.mem_append_left _ (List.mem_append_left _ (List.mem_append_left _ (List.mem_append_right _ h))))) (List.mem_of_getElem? (i := 3) rfl) rfl dX2_bringValue_9 rfl ?_
  refine jm_iload_n (n := 13) X 0 rfl dX2_bringValue_12 rfl ?_
  refine jm_ald (n := 14) X 22 0 160 cA_160 rfl rfl (k0.1 46) dX2_bringValue_13 rfl (fun h1 => ?_)
  refine jm_istore_n (n := 15) (lv' := [(2, .int (iI (gA σ0 160 (gI σ0 46)))), (1, .int (iI (gI σ0 46))), (0, .ref (h 59))]) X dX2_bringValue_14 (by decide) rfl rfl ?_
  refine jm_aload_n (n := 16) X 2 rfl dX2_bringValue_15 rfl ?_
  refine jm_get (n := 19) X 2 1 0 cW_X2 rfl (by decide) (fun w h => List.mem_cons_of_mem _ (List.mem_append_left _ (List.mem_append_left _ (List.mem_append_left _ (List.mem_append_left _ (List.mem_append_right _ h)))))) (List.mem_of_getElem? (i := 4) rfl) rfl dX2_bringValue_16 rfl ?_
  refine jm_get (n := 22) X 1 3 0 cW_X4 rfl (by decide) (fun w h => List.mem_cons_of_mem _ (List.mem_append_left _ (List.mem_append_left _ (List.mem_append_right _ h)))) (List.mem_of_getElem? (i := 5) rfl) rfl dX2_bringValue_19 rfl ?_
  refine jm_iload_n (n := 23) X 0 rfl dX2_bringValue_22 rfl ?_
  refine jm_ald (n := 24) X 9 0 80 cA_80 rfl rfl (k0.2 160 _) dX2_bringValue_23 rfl (fun h2 => ?_)
  refine jm_istore_n (n := 25) (lv' := [(3, .int (iI (gA σ0 80 (gA σ0 160 (gI σ0 46))))), (2, .int (iI (gA σ0 160 (gI σ0 46)))), (1, .int (iI (gI σ0 46))), (0, .ref (h 59))]) X dX2_bringValue_24 (by decide) rfl rfl ?_
  refine jm_aload_n (n := 26) X 3 rfl dX2_bringValue_25 rfl ?_
  refine jm_aload_n (n := 27) X 3 rfl dX2_bringValue_26 rfl ?_
  refine jm_get (n := 30) X 2 1 3 cW_X2 rfl (by decide) (fun w h => List.mem_cons_of_mem _ (List.mem_append_left _ (List.mem_append_left _ (List.mem_append_left _ (List.mem_append_left _ (List.mem_append_right _ h)))))) (List.mem_of_getElem? (i := 2) rfl) rfl dX2_bringValue_27 rfl ?_
  refine jm_get (n := 33) X 5 7 3 cW_X8 rfl (by decide) (fun w h => List.mem_cons_of_mem _ (List.mem_append_left _ (List.mem_append_left _ (List.mem_append_left _ (List.mem_append_right _ h))))) (List.mem_of_getElem? (i := 6) rfl) rfl dX2_bringValue_30 rfl ?_
  refine jm_iload_n (n := 34) X 2 rfl dX2_bringValue_33 rfl ?_
  refine jm_ald (n := 35) X 25 0 163 cA_163 rfl rfl (k0.1 46) dX2_bringValue_34 rfl (fun h3 => ?_)
  refine jm_put (n := 38) X 2 1 6 46 cW_X2 rfl (by decide) (fun w h => List.mem_cons_of_mem _ (List.mem_append_left _ (List.mem_append_left _ (List.mem_append_left _ (List.mem_append_left _ (List.mem_append_right _ h)))))) tyX2 tyX2_ok nmX2 (List.mem_of_getElem? (i := 1) rfl) rfl rfl rfl rfl (Nat.le_of_ble_eq_true rfl) cS_46 k0 (k0.2 163 _) dX2_bringValue_35 rfl (fun σ4 k4 => ?_)
  refine jm_iload_n (n := 39) X 0 rfl dX2_bringValue_38 rfl ?_
  refine jm_bipush (n := 41) X dX2_bringValue_39 (by decide) rfl ?_
  refine jm_icmp_ne (n := 44) (tgt := 61) X dX2_bringValue_41 (by decide) (k0.2 80 _) (by decide) rfl (fun c5 => ?_) (fun c5 => ?_)
  · refine jm_aload_n (n := 45) X 3 rfl dX2_bringValue_44 rfl ?_
    refine jm_iload_n (n := 46) X 1 rfl dX2_bringValue_45 rfl ?_
    refine jm_aload_n (n := 47) X 3 rfl dX2_bringValue_46 rfl ?_
    refine jm_get (n := 50) X 2 1 3 cW_X2 rfl (by decide) (fun w h => List.mem_cons_of_mem _ (List.mem_append_left _ (List.mem_append_left _ (List.mem_append_left _ (List.mem_append_left _ (List.mem_append_right _ h)))))) (List.mem_of_getElem? (i := 2) rfl) rfl dX2_bringValue_47 rfl ?_
    refine jm_get (n := 53) X 5 7 1 cW_X8 rfl (by decide) (fun w h => List.mem_cons_of_mem _ (List.mem_append_left _ (List.mem_append_left _ (List.mem_append_left _ (List.mem_append_right _ h))))) (List.mem_of_getElem? (i := 7) rfl) rfl dX2_bringValue_50 rfl ?_
    refine jm_iload_n (n := 54) X 2 rfl dX2_bringValue_53 rfl ?_
    refine jm_ald (n := 55) X 23 0 161 cA_161 rfl rfl (k0.1 46) dX2_bringValue_54 rfl (fun h6 => ?_)
    refine jm_callVv (n := 58) (vs := [.int (iI (gA σ0 160 (gI σ0 46))), .int (iI (gA σ4 161 (gI σ0 46)))]) (rest := []) X hA (t2_choose l k4 (k0.2 160 _) (k4.2 161 _)) (cwV 2 X.2.2.2.2.1 gX2_bringValue_X2_choose rfl rfl rfl (by decide +kernel) ⟨Nat.le_of_ble_eq_true rfl, Nat.le_of_ble_eq_true rfl⟩) 2 1 cW_X2 rfl rfl (Nat.le_of_ble_eq_true rfl) dX2_bringValue_55 rfl (fun σ7 r7 k7 => ?_)
    refine jm_goto (n := 213) X dX2_bringValue_58 (by decide) ?_
    exact jm_vret X rfl k7 dX2_bringValue_213
  · refine jm_iload_n (n := 62) X 0 rfl dX2_bringValue_61 rfl ?_
    refine jm_bipush (n := 64) X dX2_bringValue_62 (by decide) rfl ?_
    refine jm_icmp_ne (n := 67) (tgt := 103) X dX2_bringValue_64 (by decide) (k0.2 80 _) (by decide) rfl (fun c9 => ?_) (fun c9 => ?_)
    · refine jm_aload_n (n := 68) X 3 rfl dX2_bringValue_67 rfl ?_
      refine jm_aload_n (n := 69) X 3 rfl dX2_bringValue_68 rfl ?_
      refine jm_get (n := 72) X 2 1 0 cW_X2 rfl (by decide) (fun w h => List.mem_cons_of_mem _ (List.mem_append_left _ (List.mem_append_left _ (List.mem_append_left _ (List.mem_append_left _ (List.mem_append_right _ h)))))) (List.mem_of_getElem? (i := 4) rfl) rfl dX2_bringValue_69 rfl ?_
      refine jm_get (n := 75) X 1 3 2 cW_X4 rfl (by decide) (fun w h => List.mem_cons_of_mem _ (List.mem_append_left _ (List.mem_append_left _ (List.mem_append_right _ h)))) (List.mem_of_getElem? (i := 8) rfl) rfl dX2_bringValue_72 rfl ?_
      refine jm_iload_n (n := 76) X 1 rfl dX2_bringValue_75 rfl ?_
      refine jm_ald (n := 77) X 11 0 82 cA_82 rfl rfl (k0.2 160 _) dX2_bringValue_76 rfl (fun h10 => ?_)
      refine jm_aload_n (n := 78) X 3 rfl dX2_bringValue_77 rfl ?_
      refine jm_get (n := 81) X 2 1 2 cW_X2 rfl (by decide) (fun w h => List.mem_cons_of_mem _ (List.mem_append_left _ (List.mem_append_left _ (List.mem_append_left _ (List.mem_append_left _ (List.mem_append_right _ h)))))) (List.mem_of_getElem? (i := 9) rfl) rfl dX2_bringValue_78 rfl ?_
      refine jm_aload_n (n := 82) X 3 rfl dX2_bringValue_81 rfl ?_
      refine jm_get (n := 85) X 2 1 9 cW_X2 rfl (by decide) (fun w h => List.mem_cons_of_mem _ (List.mem_append_left _ (List.mem_append_left _ (List.mem_append_left _ (List.mem_append_left _ (List.mem_append_right _ h)))))) (List.mem_of_getElem? (i := 10) rfl) rfl dX2_bringValue_82 rfl ?_
      refine jm_aload_n (n := 86) X 3 rfl dX2_bringValue_85 rfl ?_
      refine jm_get (n := 89) X 2 1 3 cW_X2 rfl (by decide) (fun w h => List.mem_cons_of_mem _ (List.mem_append_left _ (List.mem_append_left _ (List.mem_append_left _ (List.mem_append_left _ (List.mem_append_right _ h)))))) (List.mem_of_getElem? (i := 2) rfl) rfl dX2_bringValue_86 rfl ?_
      refine jm_get (n := 92) X 5 7 1 cW_X8 rfl (by decide) (fun w h => List.mem_cons_of_mem _ (List.mem_append_left _ (List.mem_append_left _ (List.mem_append_left _ (List.mem_append_right _ h))))) (List.mem_of_getElem? (i := 7) rfl) rfl dX2_bringValue_89 rfl ?_
      refine jm_iload_n (n := 93) X 2 rfl dX2_bringValue_92 rfl ?_
      refine jm_ald (n := 94) X 23 0 161 cA_161 rfl rfl (k0.1 46) dX2_bringValue_93 rfl (fun h11 => ?_)
      refine jm_callVi (n := 97) (vs := [.int (iI (gI σ4 49)), .int (iI (gA σ4 161 (gI σ0 46)))]) (rest := [.int (iI (gA σ4 82 (gA σ0 160 (gI σ0 46)))), .ref (h 59)]) X hA (t3_bind l k4 (k4.1 49) (k4.2 161 _)) (cwV 2 X.2.2.2.2.1 gX2_bringValue_X3_bind rfl rfl rfl (by decide +kernel) ⟨Nat.le_of_ble_eq_true rfl, Nat.le_of_ble_eq_true rfl⟩) 4 2 cW_X3 rfl rfl (Nat.le_of_ble_eq_true rfl) dX2_bringValue_94 rfl (fun σ12 r12 k12 h13 => ?_)
      refine jm_callVv (n := 100) (vs := [.int (iI (gA σ4 82 (gA σ0 160 (gI σ0 46)))), .int (iI r12)]) (rest := []) X hA (t2_goTo l k12 (k4.2 82 _) h13) (cwV 2 X.2.2.2.2.1 gX2_bringValue_X2_goTo rfl rfl rfl (by decide +kernel) ⟨Nat.le_of_ble_eq_true rfl, Nat.le_of_ble_eq_true rfl⟩) 2 1 cW_X2 rfl rfl (Nat.le_of_ble_eq_true rfl) dX2_bringValue_97 rfl (fun σ14 r14 k14 => ?_)
      refine jm_goto (n := 213) X dX2_bringValue_100 (by decide) ?_
      exact jm_vret X rfl k14 dX2_bringValue_213
    · refine jm_aload_n (n := 104) X 3 rfl dX2_bringValue_103 rfl ?_
      refine jm_get (n := 107) X 2 1 3 cW_X2 rfl (by decide) (fun w h => List.mem_cons_of_mem _ (List.mem_append_left _ (List.mem_append_left _ (List.mem_append_left _ (List.mem_append_left _ (List.mem_append_right _ h)))))) (List.mem_of_getElem? (i := 2) rfl) rfl dX2_bringValue_104 rfl ?_
      refine jm_get (n := 110) X 5 7 2 cW_X8 rfl (by decide) (fun w h => List.mem_cons_of_mem _ (List.mem_append_left _ (List.mem_append_left _ (List.mem_append_left _ (List.mem_append_right _ h))))) (List.mem_of_getElem? (i := 11) rfl) rfl dX2_bringValue_107 rfl ?_
      refine jm_iload_n (n := 111) X 2 rfl dX2_bringValue_110 rfl ?_
      refine jm_ald (n := 112) X 24 0 162 cA_162 rfl rfl (k0.1 46) dX2_bringValue_111 rfl (fun h16 => ?_)
      refine jm_iconst (n := 113) X dX2_bringValue_112 rfl ?_
      refine jm_icmp_ne (n := 116) (tgt := 170) X dX2_bringValue_113 (by decide) (k4.2 162 _) (by decide) rfl (fun c17 => ?_) (fun c17 => ?_)
      · refine jm_aload_n (n := 117) X 3 rfl dX2_bringValue_116 rfl ?_
        refine jm_aload_n (n := 118) X 3 rfl dX2_bringValue_117 rfl ?_
        refine jm_get (n := 121) X 2 1 3 cW_X2 rfl (by decide) (fun w h => List.mem_cons_of_mem _ (List.mem_append_left _ (List.mem_append_left _ (List.mem_append_left _ (List.mem_append_left _ (List.mem_append_right _ h)))))) (List.mem_of_getElem? (i := 2) rfl) rfl dX2_bringValue_118 rfl ?_
        refine jm_iload_n (n := 122) X 1 rfl dX2_bringValue_121 rfl ?_
        refine jm_aload_n (n := 123) X 3 rfl dX2_bringValue_122 rfl ?_
        refine jm_get (n := 126) X 2 1 3 cW_X2 rfl (by decide) (fun w h => List.mem_cons_of_mem _ (List.mem_append_left _ (List.mem_append_left _ (List.mem_append_left _ (List.mem_append_left _ (List.mem_append_right _ h)))))) (List.mem_of_getElem? (i := 2) rfl) rfl dX2_bringValue_123 rfl ?_
        refine jm_get (n := 129) X 5 7 1 cW_X8 rfl (by decide) (fun w h => List.mem_cons_of_mem _ (List.mem_append_left _ (List.mem_append_left _ (List.mem_append_left _ (List.mem_append_right _ h))))) (List.mem_of_getElem? (i := 7) rfl) rfl dX2_bringValue_126 rfl ?_
        refine jm_iload_n (n := 130) X 2 rfl dX2_bringValue_129 rfl ?_
        refine jm_ald (n := 131) X 23 0 161 cA_161 rfl rfl (k0.1 46) dX2_bringValue_130 rfl (fun h18 => ?_)
        refine jm_aload_n (n := 132) X 3 rfl dX2_bringValue_131 rfl ?_
        refine jm_get (n := 135) X 2 1 9 cW_X2 rfl (by decide) (fun w h => List.mem_cons_of_mem _ (List.mem_append_left _ (List.mem_append_left _ (List.mem_append_left _ (List.mem_append_left _ (List.mem_append_right _ h)))))) (List.mem_of_getElem? (i := 10) rfl) rfl dX2_bringValue_132 rfl ?_
        refine jm_aload_n (n := 136) X 3 rfl dX2_bringValue_135 rfl ?_
        refine jm_get (n := 139) X 2 1 6 cW_X2 rfl (by decide) (fun w h => List.mem_cons_of_mem _ (List.mem_append_left _ (List.mem_append_left _ (List.mem_append_left _ (List.mem_append_left _ (List.mem_append_right _ h)))))) (List.mem_of_getElem? (i := 1) rfl) rfl dX2_bringValue_136 rfl ?_
        refine jm_callVi (n := 142) (vs := [.int (iI (gA σ0 160 (gI σ0 46))), .int (iI (gA σ4 161 (gI σ0 46))), .int (iI (gI σ4 49)), .int (iI (gI σ4 46))]) (rest := [.ref (h 59)]) X hA (t8_add l k4 (k0.2 160 _) (k4.2 161 _) (k4.1 49) (k4.1 46)) (cwV 4 X.2.2.2.2.1 gX2_bringValue_X8_add rfl rfl rfl (by decide +kernel) ⟨Nat.le_of_ble_eq_true rfl, Nat.le_of_ble_eq_true rfl⟩) 5 7 cW_X8 rfl rfl (Nat.le_of_ble_eq_true rfl) dX2_bringValue_139 rfl (fun σ19 r19 k19 h20 => ?_)
        refine jm_put (n := 145) X 2 1 6 46 cW_X2 rfl (by decide) (fun w h => List.mem_cons_of_mem _ (List.mem_append_left _ (List.mem_append_left _ (List.mem_append_left _ (List.mem_append_left _ (List.mem_append_right _ h)))))) tyX2 tyX2_ok nmX2 (List.mem_of_getElem? (i := 1) rfl) rfl rfl rfl rfl (Nat.le_of_ble_eq_true rfl) cS_46 k19 h20 dX2_bringValue_142 rfl (fun σ21 k21 => ?_)
        refine jm_aload_n (n := 146) X 3 rfl dX2_bringValue_145 rfl ?_
        refine jm_aload_n (n := 147) X 3 rfl dX2_bringValue_146 rfl ?_
        refine jm_get (n := 150) X 2 1 0 cW_X2 rfl (by decide) (fun w h => List.mem_cons_of_mem _ (List.mem_append_left _ (List.mem_append_left _ (List.mem_append_left _ (List.mem_append_left _ (List.mem_append_right _ h)))))) (List.mem_of_getElem? (i := 4) rfl) rfl dX2_bringValue_147 rfl ?_
        refine jm_get (n := 153) X 1 3 2 cW_X4 rfl (by decide) (fun w h => List.mem_cons_of_mem _ (List.mem_append_left _ (List.mem_append_left _ (List.mem_append_right _ h)))) (List.mem_of_getElem? (i := 8) rfl) rfl dX2_bringValue_150 rfl ?_
        refine jm_iload_n (n := 154) X 1 rfl dX2_bringValue_153 rfl ?_
        refine jm_ald (n := 155) X 11 0 82 cA_82 rfl rfl (k0.2 160 _) dX2_bringValue_154 rfl (fun h22 => ?_)
        refine jm_aload_n (n := 156) X 3 rfl dX2_bringValue_155 rfl ?_
        refine jm_get (n := 159) X 2 1 3 cW_X2 rfl (by decide) (fun w h => List.mem_cons_of_mem _ (List.mem_append_left _ (List.mem_append_left _ (List.mem_append_left _ (List.mem_append_left _ (List.mem_append_right _ h)))))) (List.mem_of_getElem? (i := 2) rfl) rfl dX2_bringValue_156 rfl ?_
        refine jm_get (n := 162) X 5 7 1 cW_X8 rfl (by decide) (fun w h => List.mem_cons_of_mem _ (List.mem_append_left _ (List.mem_append_left _ (List.mem_append_left _ (List.mem_append_right _ h))))) (List.mem_of_getElem? (i := 7) rfl) rfl dX2_bringValue_159 rfl ?_
        refine jm_iload_n (n := 163) X 2 rfl dX2_bringValue_162 rfl ?_
        refine jm_ald (n := 164) X 23 0 161 cA_161 rfl rfl (k0.1 46) dX2_bringValue_163 rfl (fun h23 => ?_)
        refine jm_callVv (n := 167) (vs := [.int (iI (gA σ21 82 (gA σ0 160 (gI σ0 46)))), .int (iI (gA σ21 161 (gI σ0 46)))]) (rest := []) X hA (t2_goTo l k21 (k21.2 82 _) (k21.2 161 _)) (cwV 2 X.2.2.2.2.1 gX2_bringValue_X2_goTo rfl rfl rfl (by decide +kernel) ⟨Nat.le_of_ble_eq_true rfl, Nat.le_of_ble_eq_true rfl⟩) 2 1 cW_X2 rfl rfl (Nat.le_of_ble_eq_true rfl) dX2_bringValue_164 rfl (fun σ24 r24 k24 => ?_)
        refine jm_goto (n := 213) X dX2_bringValue_167 (by decide) ?_
        exact jm_vret X rfl k24 dX2_bringValue_213
      · refine jm_iload_n (n := 171) X 0 rfl dX2_bringValue_170 rfl ?_
        refine jm_iconst (n := 172) X dX2_bringValue_171 rfl ?_
        refine jm_icmp_ne (n := 175) (tgt := 195) X dX2_bringValue_172 (by decide) (k0.2 80 _) (by decide) rfl (fun c26 => ?_) (fun c26 => ?_)
        · refine jm_aload_n (n := 176) X 3 rfl dX2_bringValue_175 rfl ?_
          refine jm_aload_n (n := 177) X 3 rfl dX2_bringValue_176 rfl ?_
          refine jm_get (n := 180) X 2 1 3 cW_X2 rfl (by decide) (fun w h => List.mem_cons_of_mem _ (List.mem_append_left _ (List.mem_append_left _ (List.mem_append_left _ (List.mem_append_left _ (List.mem_append_right _ h)))))) (List.mem_of_getElem? (i := 2) rfl) rfl dX2_bringValue_177 rfl ?_
          refine jm_get (n := 183) X 5 7 2 cW_X8 rfl (by decide) (fun w h => List.mem_cons_of_mem _ (List.mem_append_left _ (List.mem_append_left _ (List.mem_append_left _ (List.mem_append_right _ h))))) (List.mem_of_getElem? (i := 11) rfl) rfl dX2_bringValue_180 rfl ?_
          refine jm_iload_n (n := 184) X 2 rfl dX2_bringValue_183 rfl ?_
          refine jm_ald (n := 185) X 24 0 162 cA_162 rfl rfl (k0.1 46) dX2_bringValue_184 rfl (fun h27 => ?_)
          refine jm_aload_n (n := 186) X 3 rfl dX2_bringValue_185 rfl ?_
          refine jm_get (n := 189) X 2 1 9 cW_X2 rfl (by decide) (fun w h => List.mem_cons_of_mem _ (List.mem_append_left _ (List.mem_append_left _ (List.mem_append_left _ (List.mem_append_left _ (List.mem_append_right _ h)))))) (List.mem_of_getElem? (i := 10) rfl) rfl dX2_bringValue_186 rfl ?_
          refine jm_callVv (n := 192) (vs := [.int (iI (gA σ4 162 (gI σ0 46))), .int (iI (gI σ4 49))]) (rest := []) X hA (t2_callWith l k4 (k4.2 162 _) (k4.1 49)) (cwV 2 X.2.2.2.2.1 gX2_bringValue_X2_callWith rfl rfl rfl (by decide +kernel) ⟨Nat.le_of_ble_eq_true rfl, Nat.le_of_ble_eq_true rfl⟩) 2 1 cW_X2 rfl rfl (Nat.le_of_ble_eq_true rfl) dX2_bringValue_189 rfl (fun σ28 r28 k28 => ?_)
          refine jm_goto (n := 213) X dX2_bringValue_192 (by decide) ?_
          exact jm_vret X rfl k28 dX2_bringValue_213
        · refine jm_aload_n (n := 196) X 3 rfl dX2_bringValue_195 rfl ?_
          refine jm_iload_n (n := 197) X 0 rfl dX2_bringValue_196 rfl ?_
          refine jm_aload_n (n := 198) X 3 rfl dX2_bringValue_197 rfl ?_
          refine jm_get (n := 201) X 2 1 3 cW_X2 rfl (by decide) (fun w h => List.mem_cons_of_mem _ (List.mem_append_left _ (List.mem_append_left _ (List.mem_append_left _ (List.mem_append_left _ (List.mem_append_right _ h)))))) (List.mem_of_getElem? (i := 2) rfl) rfl dX2_bringValue_198 rfl ?_
          refine jm_get (n := 204) X 5 7 2 cW_X8 rfl (by decide) (fun w h => List.mem_cons_of_mem _ (List.mem_append_left _ (List.mem_append_left _ (List.mem_append_left _ (List.mem_append_right _ h))))) (List.mem_of_getElem? (i := 11) rfl) rfl dX2_bringValue_201 rfl ?_
          refine jm_iload_n (n := 205) X 2 rfl dX2_bringValue_204 rfl ?_
          refine jm_ald (n := 206) X 24 0 162 cA_162 rfl rfl (k0.1 46) dX2_bringValue_205 rfl (fun h30 => ?_)
          refine jm_aload_n (n := 207) X 3 rfl dX2_bringValue_206 rfl ?_
          refine jm_get (n := 210) X 2 1 9 cW_X2 rfl (by decide) (fun w h => List.mem_cons_of_mem _ (List.mem_append_left _ (List.mem_append_left _ (List.mem_append_left _ (List.mem_append_left _ (List.mem_append_right _ h)))))) (List.mem_of_getElem? (i := 10) rfl) rfl dX2_bringValue_207 rfl ?_
          refine jm_callVv (n := 213) (vs := [.int (iI (gA σ0 80 (gA σ0 160 (gI σ0 46)))), .int (iI (gA σ4 162 (gI σ0 46))), .int (iI (gI σ4 49))]) (rest := []) X hA (t2_joinNumbers l k4 (k0.2 80 _) (k4.2 162 _) (k4.1 49)) (cwV 3 X.2.2.2.2.1 gX2_bringValue_X2_joinNumbers rfl rfl rfl (by decide +kernel) ⟨Nat.le_of_ble_eq_true rfl, Nat.le_of_ble_eq_true rfl⟩) 2 1 cW_X2 rfl rfl (Nat.le_of_ble_eq_true rfl) dX2_bringValue_210 rfl (fun σ31 r31 k31 => ?_)
          exact jm_vret X rfl k31 dX2_bringValue_213
abbrev rm2_doRound : Room := { frames := 3, cells := 0, slots := 0, locals := 70 }
def b2_doRound_23 (N : Nat) (σ0 : Sg)  : Option (Sg × Int) :=
  if (gI σ0 51) = 0 then (nx (sI σ0 50 (2 : Int)) fun σ2 =>
  some (σ2, 0))
  else (ck (inR ((gI σ0 51) - (1 : Int))) <|
  nx (sI σ0 51 ((gI σ0 51) - (1 : Int))) fun σ4 =>
  ck (inR ((gI σ4 52) + (1 : Int))) <|
  nx (sI σ4 52 ((gI σ4 52) + (1 : Int))) fun σ6 =>
  if (gI σ6 49) = (-1 : Int) then (bd (f2_beginTerm N σ6 ) fun σ8 r8 =>
  some (σ8, 0))
  else (bd (f2_bringValue σ6 ) fun σ10 r10 =>
  some (σ10, 0)))
set_option maxRecDepth 100000 in
theorem u2_doRound_23 (X : CX p m meth c cX2_doRound 1 none s args wsX2_doRound RX2 D (mT cI cZ) (cE t1 t2) (va_A (cW h cI cZ σz) sz)) (hA : ∀ z : Nat, s.heap.size ≤ z → va_A (cW h cI cZ σz) sz z) (N : Nat) (σ0 : Sg)  (k0 : ok σ0)  : JV l rm2_doRound (cW h cI cZ) D (mT cI cZ) σz sz 1 p e s m args below meth c σ0 23 [(0, .ref (h 59))] [] (b2_doRound_23 N σ0 ) := by
  rw [b2_doRound_23]
  refine jm_aload_n (n := 24) X 0 rfl dX2_doRound_23 rfl ?_
  refine jm_get (n := 27) X 2 1 11 cW_X2 rfl (by decide) (fun w h => List.mem_cons_of_mem _ (List.mem_append_left _ (List.mem_append_left _ (List.mem_append_left _ (List.mem_append_left _ (List.mem_append_right _ h)))))) (List.mem_of_getElem? (i := 3) rfl) rfl dX2_doRound_24 rfl ?_
  refine jm_if_ne (n := 30) (tgt := 38) X dX2_doRound_27 (by decide) (k0.1 51) rfl (fun c1 => ?_) (fun c1 => ?_)
  · refine jm_aload_n (n := 31) X 0 rfl dX2_doRound_30 rfl ?_
    refine jm_iconst (n := 32) X dX2_doRound_31 rfl ?_
    refine jm_put (n := 35) X 2 1 10 50 cW_X2 rfl (by decide) (fun w h => List.mem_cons_of_mem _ (List.mem_append_left _ (List.mem_append_left _ (List.mem_append_left _ (List.mem_append_left _ (List.mem_append_right _ h)))))) tyX2 tyX2_ok nmX2 (List.mem_of_getElem? (i := 4) rfl) rfl rfl rfl rfl (Nat.le_of_ble_eq_true rfl) cS_50 k0 (by decide) dX2_doRound_32 rfl (fun σ2 k2 => ?_)
    refine jm_goto (n := 77) X dX2_doRound_35 (by decide) ?_
    exact jm_vret X rfl k2 dX2_doRound_77
  · refine jm_aload_n (n := 39) X 0 rfl dX2_doRound_38 rfl ?_
    refine jm_dup (n := 40) X dX2_doRound_39 rfl rfl ?_
    refine jm_get (n := 43) X 2 1 11 cW_X2 rfl (by decide) (fun w h => List.mem_cons_of_mem _ (List.mem_append_left _ (List.mem_append_left _ (List.mem_append_left _ (List.mem_append_left _ (List.mem_append_right _ h)))))) (List.mem_of_getElem? (i := 3) rfl) rfl dX2_doRound_40 rfl ?_
    refine jm_iconst (n := 44) X dX2_doRound_43 rfl ?_
    refine jm_isub (n := 45) X dX2_doRound_44 rfl (fun h3 => ?_)
    refine jm_put (n := 48) X 2 1 11 51 cW_X2 rfl (by decide) (fun w h => List.mem_cons_of_mem _ (List.mem_append_left _ (List.mem_append_left _ (List.mem_append_left _ (List.mem_append_left _ (List.mem_append_right _ h)))))) tyX2 tyX2_ok nmX2 (List.mem_of_getElem? (i := 3) rfl) rfl rfl rfl rfl (Nat.le_of_ble_eq_true rfl) cS_51 k0 h3 dX2_doRound_45 rfl (fun σ4 k4 => ?_)
    refine jm_aload_n (n := 49) X 0 rfl dX2_doRound_48 rfl ?_
    refine jm_dup (n := 50) X dX2_doRound_49 rfl rfl ?_
    refine jm_get (n := 53) X 2 1 12 cW_X2 rfl (by decide) (fun w h => List.mem_cons_of_mem _ (List.mem_append_left _ (List.mem_append_left _ (List.mem_append_left _ (List.mem_append_left _ (List.mem_append_right _ h)))))) (List.mem_of_getElem? (i := 5) rfl) rfl dX2_doRound_50 rfl ?_
    refine jm_iconst (n := 54) X dX2_doRound_53 rfl ?_
    refine jm_iadd (n := 55) X dX2_doRound_54 rfl (fun h5 => ?_)
    refine jm_put (n := 58) X 2 1 12 52 cW_X2 rfl (by decide) (fun w h => List.mem_cons_of_mem _ (List.mem_append_left _ (List.mem_append_left _ (List.mem_append_left _ (List.mem_append_left _ (List.mem_append_right _ h)))))) tyX2 tyX2_ok nmX2 (List.mem_of_getElem? (i := 5) rfl) rfl rfl rfl rfl (Nat.le_of_ble_eq_true rfl) cS_52 k4 h5 dX2_doRound_55 rfl (fun σ6 k6 => ?_)
    refine jm_aload_n (n := 59) X 0 rfl dX2_doRound_58 rfl ?_
    refine jm_get (n := 62) X 2 1 9 cW_X2 rfl (by decide) (fun w h => List.mem_cons_of_mem _ (List.mem_append_left _ (List.mem_append_left _ (List.mem_append_left _ (List.mem_append_left _ (List.mem_append_right _ h)))))) (List.mem_of_getElem? (i := 1) rfl) rfl dX2_doRound_59 rfl ?_
    refine jm_iconst (n := 63) X dX2_doRound_62 rfl ?_
    refine jm_icmp_ne (n := 66) (tgt := 73) X dX2_doRound_63 (by decide) (k6.1 49) (by decide) rfl (fun c7 => ?_) (fun c7 => ?_)
    · refine jm_aload_n (n := 67) X 0 rfl dX2_doRound_66 rfl ?_
      refine jm_callVv (n := 70) (vs := []) (rest := []) X hA (t2_beginTerm l N k6 ) (cwV 0 X.2.2.2.2.1 gX2_doRound_X2_beginTerm rfl rfl rfl (by decide +kernel) ⟨Nat.le_of_ble_eq_true rfl, Nat.le_of_ble_eq_true rfl⟩) 2 1 cW_X2 rfl rfl (Nat.le_of_ble_eq_true rfl) dX2_doRound_67 rfl (fun σ8 r8 k8 => ?_)
      refine jm_goto (n := 77) X dX2_doRound_70 (by decide) ?_
      exact jm_vret X rfl k8 dX2_doRound_77
    · refine jm_aload_n (n := 74) X 0 rfl dX2_doRound_73 rfl ?_
      refine jm_callVv (n := 77) (vs := []) (rest := []) X hA (t2_bringValue l k6 ) (cwV 0 X.2.2.2.2.1 gX2_doRound_X2_bringValue rfl rfl rfl (by decide +kernel) ⟨Nat.le_of_ble_eq_true rfl, Nat.le_of_ble_eq_true rfl⟩) 2 1 cW_X2 rfl rfl (Nat.le_of_ble_eq_true rfl) dX2_doRound_74 rfl (fun σ10 r10 k10 => ?_)
      exact jm_vret X rfl k10 dX2_doRound_77
def f2_doRound (N : Nat) (σ0 : Sg)  : Option (Sg × Int) :=
  if (gI σ0 49) = (-1 : Int) then ((b2_doRound_23 N σ0 ))
  else (if (gI σ0 46) = (-1 : Int) then (bd (f2_leaveMark σ0 ) fun σ3 r3 =>
  some (σ3, 0))
  else ((b2_doRound_23 N σ0 )))
set_option maxRecDepth 100000 in
theorem t2_doRound (l : Launch) {h : Nat → Nat} {cI cZ : ClassId} {D : va_G} {t1 t2 : Nat} (N : Nat) {σ0 : Sg}  (k0 : ok σ0)  : ctV (cE t1 t2) l (cW h cI cZ) D (mT cI cZ) yX2_doRound wsX2_doRound rm2_doRound [.ref (h 59)] σ0 (f2_doRound N σ0 ) := by
  refine of_V (cE_ok t1 t2) (own := RX2) (lv := [(0, .ref (h 59))]) (by decide) rfl rfl (Nat.le_of_ble_eq_true rfl) rfl (fun p e s m below meth c sz X hA => ?_)
  rw [f2_doRound]
  refine jm_aload_n (n := 1) X 0 rfl dX2_doRound_0 rfl ?_
  refine jm_get (n := 4) X 2 1 9 cW_X2 rfl (by decide) (fun w h => List.mem_cons_of_mem _ (List.mem_append_left _ (List.mem_append_left _ (List.mem_append_left _ (List.mem_append_left _ (List.mem_append_right _ h)))))) (List.mem_of_getElem? (i := 1) rfl) rfl dX2_doRound_1 rfl ?_
  refine jm_iconst (n := 5) X dX2_doRound_4 rfl ?_
  refine jm_icmp_eq (n := 8) (tgt := 23) X dX2_doRound_5 (by decide) (k0.1 49) (by decide) rfl (fun c1 => ?_) (fun c1 => ?_)
  · refine jm_perm [0] rfl ?_
    exact u2_doRound_23 X hA N σ0  k0 
  · refine jm_aload_n (n := 9) X 0 rfl dX2_doRound_8 rfl ?_
    refine jm_get (n := 12) X 2 1 6 cW_X2 rfl (by decide) (fun w h => List.mem_cons_of_mem _ (List.mem_append_left _ (List.mem_append_left _ (List.mem_append_left _ (List.mem_append_left _ (List.mem_append_right _ h)))))) (List.mem_of_getElem? (i := 2) rfl) rfl dX2_doRound_9 rfl ?_
    refine jm_iconst (n := 13) X dX2_doRound_12 rfl ?_
    refine jm_icmp_ne (n := 16) (tgt := 23) X dX2_doRound_13 (by decide) (k0.1 46) (by decide) rfl (fun c2 => ?_) (fun c2 => ?_)
    · refine jm_aload_n (n := 17) X 0 rfl dX2_doRound_16 rfl ?_
      refine jm_callVv (n := 20) (vs := []) (rest := []) X hA (t2_leaveMark l k0 ) (cwV 0 X.2.2.2.2.1 gX2_doRound_X2_leaveMark rfl rfl rfl (by decide +kernel) ⟨Nat.le_of_ble_eq_true rfl, Nat.le_of_ble_eq_true rfl⟩) 2 1 cW_X2 rfl rfl (Nat.le_of_ble_eq_true rfl) dX2_doRound_17 rfl (fun σ3 r3 k3 => ?_)
      refine jm_goto (n := 77) X dX2_doRound_20 (by decide) ?_
      exact jm_vret X rfl k3 dX2_doRound_77
    · refine jm_perm [0] rfl ?_
      exact u2_doRound_23 X hA N σ0  k0 
abbrev rm2_workOut : Room := { frames := 4, cells := 0, slots := 0, locals := 90 }
def b2_workOut_54 (N : Nat) : Nat → Sg → Int → Option (Sg × Int)
  | 0, _, _ => none
  | n + 1, σ0, x3 => if (402 : Int) ≤ x3 then (some (σ0, (gI σ0 50)))
  else (if (gI σ0 50) = (3 : Int) then (bd (f2_doRound N σ0 ) fun σ3 r3 =>
  ck (inR (x3 + (1 : Int))) <|
  ((b2_workOut_54 N n) σ3 (x3 + (1 : Int))))
  else (some (σ0, (gI σ0 50))))
set_option maxRecDepth 100000 in
theorem u2_workOut_54 (X : CX p m meth c cX2_workOut 4 (some .int) s args wsX2_workOut RX2 D (mT cI cZ) (cE t1 t2) (va_A (cW h cI cZ σz) sz)) (hA : ∀ z : Nat, s.heap.size ≤ z → va_A (cW h cI cZ σz) sz z) (N : Nat) : ∀ (n : Nat) (σ0 : Sg) (x3 : Int), ok σ0 → inR x3 → JI l rm2_workOut (cW h cI cZ) D (mT cI cZ) σz sz 4 p e s m args below meth c σ0 54 [(0, .ref (h 59)), (3, .int (iI x3))] [] (b2_workOut_54 N n σ0 x3) := by
  intro n
  induction n with
  | zero =>
    intro σ0 x3 k0 hx3 σ9 r9 ho9
    rw [b2_workOut_54] at ho9
    cases ho9
  | succ n ih =>
    intro σ0 x3 k0 hx3
    rw [b2_workOut_54]
    refine jm_iload_n (n := 55) X 1 rfl dX2_workOut_54 rfl ?_
    refine jm_sipush (n := 58) X dX2_workOut_55 (by decide) rfl ?_
    refine jm_icmp_ge (n := 61) (tgt := 79) X dX2_workOut_58 (by decide) hx3 (by decide) rfl (fun c1 => ?_) (fun c1 => ?_)
    · refine jm_aload_n (n := 80) X 0 rfl dX2_workOut_79 rfl ?_
      refine jm_get (n := 83) X 2 1 10 cW_X2 rfl (by decide) (fun w h => List.mem_cons_of_mem _ (List.mem_append_left _ (List.mem_append_left _ (List.mem_append_left _ (List.mem_append_left _ (List.mem_append_right _ h)))))) (List.mem_of_getElem? (i := 8) rfl) rfl dX2_workOut_80 rfl ?_
      exact jm_iret X rfl k0 (k0.1 50) dX2_workOut_83
    · refine jm_aload_n (n := 62) X 0 rfl dX2_workOut_61 rfl ?_
      refine jm_get (n := 65) X 2 1 10 cW_X2 rfl (by decide) (fun w h => List.mem_cons_of_mem _ (List.mem_append_left _ (List.mem_append_left _ (List.mem_append_left _ (List.mem_append_left _ (List.mem_append_right _ h)))))) (List.mem_of_getElem? (i := 8) rfl) rfl dX2_workOut_62 rfl ?_
      refine jm_iconst (n := 66) X dX2_workOut_65 rfl ?_
      refine jm_icmp_ne (n := 69) (tgt := 79) X dX2_workOut_66 (by decide) (k0.1 50) (by decide) rfl (fun c2 => ?_) (fun c2 => ?_)
      · refine jm_aload_n (n := 70) X 0 rfl dX2_workOut_69 rfl ?_
        refine jm_callVv (n := 73) (vs := []) (rest := []) X hA (t2_doRound l N k0 ) (cwV 0 X.2.2.2.2.1 gX2_workOut_X2_doRound rfl rfl rfl (by decide +kernel) ⟨Nat.le_of_ble_eq_true rfl, Nat.le_of_ble_eq_true rfl⟩) 2 1 cW_X2 rfl rfl (Nat.le_of_ble_eq_true rfl) dX2_workOut_70 rfl (fun σ3 r3 k3 => ?_)
        refine jm_iinc (n := 76) (lv' := [(3, .int (iI (x3 + (1 : Int)))), (0, .ref (h 59))]) X 1 rfl dX2_workOut_73 (by decide) rfl rfl (fun h5 => ?_)
        refine jm_goto (n := 54) X dX2_workOut_76 (by decide) ?_
        refine jm_perm [1, 0] rfl ?_
        exact ih σ3 (x3 + (1 : Int)) k3 h5
      · refine jm_aload_n (n := 80) X 0 rfl dX2_workOut_79 rfl ?_
        refine jm_get (n := 83) X 2 1 10 cW_X2 rfl (by decide) (fun w h => List.mem_cons_of_mem _ (List.mem_append_left _ (List.mem_append_left _ (List.mem_append_left _ (List.mem_append_left _ (List.mem_append_right _ h)))))) (List.mem_of_getElem? (i := 8) rfl) rfl dX2_workOut_80 rfl ?_
        exact jm_iret X rfl k0 (k0.1 50) dX2_workOut_83
def f2_workOut (N : Nat) (σ0 : Sg) (x1 : Int) (x2 : Int) : Option (Sg × Int) :=
  bd (f7_clear σ0 ) fun σ1 r1 =>
  bd (f3_clear σ1 ) fun σ3 r3 =>
  bd (f8_clear σ3 ) fun σ5 r5 =>
  nx (sI σ5 45 (0 : Int)) fun σ7 =>
  nx (sI σ7 46 (-1 : Int)) fun σ8 =>
  nx (sI σ8 51 x2) fun σ9 =>
  nx (sI σ9 52 (0 : Int)) fun σ10 =>
  nx (sI σ10 50 (3 : Int)) fun σ11 =>
  bd (f2_goTo σ11 x1 (-1 : Int)) fun σ12 r12 =>
  (b2_workOut_54 N N σ12 (0 : Int))
set_option maxRecDepth 100000 in
theorem t2_workOut (l : Launch) {h : Nat → Nat} {cI cZ : ClassId} {D : va_G} {t1 t2 : Nat} (N : Nat) {σ0 : Sg} {x1 : Int} {x2 : Int} (k0 : ok σ0) (hx1 : inR x1) (hx2 : inR x2) : ctI (cE t1 t2) l (cW h cI cZ) D (mT cI cZ) yX2_workOut wsX2_workOut rm2_workOut [.ref (h 59), .int (iI x1), .int (iI x2)] σ0 (f2_workOut N σ0 x1 x2) := by
  refine of_I (cE_ok t1 t2) (own := RX2) (lv := [(0, .ref (h 59)), (1, .int (iI x1)), (2, .int (iI x2))]) (by decide) rfl rfl (Nat.le_of_ble_eq_true rfl) rfl (fun p e s m below meth c sz X hA => ?_)
  rw [f2_workOut]
  refine jm_aload_n (n := 1) X 0 rfl dX2_workOut_0 rfl ?_
  refine jm_get (n := 4) X 2 1 1 cW_X2 rfl (by decide) (fun w h => List.mem_cons_of_mem _ (List.mem_append_left _ (List.mem_append_left _ (List.mem_append_left _ (List.mem_append_left _ (List.mem_append_right _ h)))))) (List.mem_of_getElem? (i := 1) rfl) rfl dX2_workOut_1 rfl ?_
  refine jm_callVv (n := 7) (vs := []) (rest := []) X hA (t7_clear l k0 ) (cwV 0 X.2.2.2.2.1 gX2_workOut_X7_clear rfl rfl rfl (by decide +kernel) ⟨Nat.le_of_ble_eq_true rfl, Nat.le_of_ble_eq_true rfl⟩) 3 6 cW_X7 rfl rfl (Nat.le_of_ble_eq_true rfl) dX2_workOut_4 rfl (fun σ1 r1 k1 => ?_)
  refine jm_aload_n (n := 8) X 0 rfl dX2_workOut_7 rfl ?_
  refine jm_get (n := 11) X 2 1 2 cW_X2 rfl (by decide) (fun w h => List.mem_cons_of_mem _ (List.mem_append_left _ (List.mem_append_left _ (List.mem_append_left _ (List.mem_append_left _ (List.mem_append_right _ h)))))) (List.mem_of_getElem? (i := 2) rfl) rfl dX2_workOut_8 rfl ?_
  refine jm_callVv (n := 14) (vs := []) (rest := []) X hA (t3_clear l k1 ) (cwV 0 X.2.2.2.2.1 gX2_workOut_X3_clear rfl rfl rfl (by decide +kernel) ⟨Nat.le_of_ble_eq_true rfl, Nat.le_of_ble_eq_true rfl⟩) 4 2 cW_X3 rfl rfl (Nat.le_of_ble_eq_true rfl) dX2_workOut_11 rfl (fun σ3 r3 k3 => ?_)
  refine jm_aload_n (n := 15) X 0 rfl dX2_workOut_14 rfl ?_
  refine jm_get (n := 18) X 2 1 3 cW_X2 rfl (by decide) (fun w h => List.mem_cons_of_mem _ (List.mem_append_left _ (List.mem_append_left _ (List.mem_append_left _ (List.mem_append_left _ (List.mem_append_right _ h)))))) (List.mem_of_getElem? (i := 3) rfl) rfl dX2_workOut_15 rfl ?_
  refine jm_callVv (n := 21) (vs := []) (rest := []) X hA (t8_clear l k3 ) (cwV 0 X.2.2.2.2.1 gX2_workOut_X8_clear rfl rfl rfl (by decide +kernel) ⟨Nat.le_of_ble_eq_true rfl, Nat.le_of_ble_eq_true rfl⟩) 5 7 cW_X8 rfl rfl (Nat.le_of_ble_eq_true rfl) dX2_workOut_18 rfl (fun σ5 r5 k5 => ?_)
  refine jm_aload_n (n := 22) X 0 rfl dX2_workOut_21 rfl ?_
  refine jm_iconst (n := 23) X dX2_workOut_22 rfl ?_
  refine jm_put (n := 26) X 2 1 5 45 cW_X2 rfl (by decide) (fun w h => List.mem_cons_of_mem _ (List.mem_append_left _ (List.mem_append_left _ (List.mem_append_left _ (List.mem_append_left _ (List.mem_append_right _ h)))))) tyX2 tyX2_ok nmX2 (List.mem_of_getElem? (i := 4) rfl) rfl rfl rfl rfl (Nat.le_of_ble_eq_true rfl) cS_45 k5 (by decide) dX2_workOut_23 rfl (fun σ7 k7 => ?_)
  refine jm_aload_n (n := 27) X 0 rfl dX2_workOut_26 rfl ?_
  refine jm_iconst (n := 28) X dX2_workOut_27 rfl ?_
  refine jm_put (n := 31) X 2 1 6 46 cW_X2 rfl (by decide) (fun w h => List.mem_cons_of_mem _ (List.mem_append_left _ (List.mem_append_left _ (List.mem_append_left _ (List.mem_append_left _ (List.mem_append_right _ h)))))) tyX2 tyX2_ok nmX2 (List.mem_of_getElem? (i := 5) rfl) rfl rfl rfl rfl (Nat.le_of_ble_eq_true rfl) cS_46 k7 (by decide) dX2_workOut_28 rfl (fun σ8 k8 => ?_)
  refine jm_aload_n (n := 32) X 0 rfl dX2_workOut_31 rfl ?_
  refine jm_iload_n (n := 33) X 2 rfl dX2_workOut_32 rfl ?_
  refine jm_put (n := 36) X 2 1 11 51 cW_X2 rfl (by decide) (fun w h => List.mem_cons_of_mem _ (List.mem_append_left _ (List.mem_append_left _ (List.mem_append_left _ (List.mem_append_left _ (List.mem_append_right _ h)))))) tyX2 tyX2_ok nmX2 (List.mem_of_getElem? (i := 6) rfl) rfl rfl rfl rfl (Nat.le_of_ble_eq_true rfl) cS_51 k8 hx2 dX2_workOut_33 rfl (fun σ9 k9 => ?_)
  refine jm_aload_n (n := 37) X 0 rfl dX2_workOut_36 rfl ?_
  refine jm_iconst (n := 38) X dX2_workOut_37 rfl ?_
  refine jm_put (n := 41) X 2 1 12 52 cW_X2 rfl (by decide) (fun w h => List.mem_cons_of_mem _ (List.mem_append_left _ (List.mem_append_left _ (List.mem_append_left _ (List.mem_append_left _ (List.mem_append_right _ h)))))) tyX2 tyX2_ok nmX2 (List.mem_of_getElem? (i := 7) rfl) rfl rfl rfl rfl (Nat.le_of_ble_eq_true rfl) cS_52 k9 (by decide) dX2_workOut_38 rfl (fun σ10 k10 => ?_)
  refine jm_aload_n (n := 42) X 0 rfl dX2_workOut_41 rfl ?_
  refine jm_iconst (n := 43) X dX2_workOut_42 rfl ?_
  refine jm_put (n := 46) X 2 1 10 50 cW_X2 rfl (by decide) (fun w h => List.mem_cons_of_mem _ (List.mem_append_left _ (List.mem_append_left _ (List.mem_append_left _ (List.mem_append_left _ (List.mem_append_right _ h)))))) tyX2 tyX2_ok nmX2 (List.mem_of_getElem? (i := 8) rfl) rfl rfl rfl rfl (Nat.le_of_ble_eq_true rfl) cS_50 k10 (by decide) dX2_workOut_43 rfl (fun σ11 k11 => ?_)
  refine jm_aload_n (n := 47) X 0 rfl dX2_workOut_46 rfl ?_
  refine jm_iload_n (n := 48) X 1 rfl dX2_workOut_47 rfl ?_
  refine jm_iconst (n := 49) X dX2_workOut_48 rfl ?_
  refine jm_callVv (n := 52) (vs := [.int (iI x1), .int (iI (-1 : Int))]) (rest := []) X hA (t2_goTo l k11 hx1 (by decide)) (cwV 2 X.2.2.2.2.1 gX2_workOut_X2_goTo rfl rfl rfl (by decide +kernel) ⟨Nat.le_of_ble_eq_true rfl, Nat.le_of_ble_eq_true rfl⟩) 2 1 cW_X2 rfl rfl (Nat.le_of_ble_eq_true rfl) dX2_workOut_49 rfl (fun σ12 r12 k12 => ?_)
  refine jm_iconst (n := 53) X dX2_workOut_52 rfl ?_
  refine jm_istore_n (n := 54) (lv' := [(3, .int (iI (0 : Int))), (0, .ref (h 59)), (1, .int (iI x1)), (2, .int (iI x2))]) X dX2_workOut_53 (by decide) rfl rfl ?_
  refine jm_perm [1, 0] rfl ?_
  exact u2_workOut_54 X hA N N σ12 (0 : Int) k12 (by decide)
abbrev rm2_resultForm : Room := { frames := 1, cells := 0, slots := 0, locals := 21 }
def f2_resultForm (σ0 : Sg)  : Option (Sg × Int) :=
  ck (0 ≤ (gI σ0 49) ∧ (gI σ0 49) < 200) <|
  some (σ0, (mn (gA σ0 140 (gI σ0 49)) (2 : Int)))
set_option maxRecDepth 100000 in
theorem t2_resultForm (l : Launch) {h : Nat → Nat} {cI cZ : ClassId} {D : va_G} {t1 t2 : Nat} {σ0 : Sg}  (k0 : ok σ0)  : ctI (cE t1 t2) l (cW h cI cZ) D (mT cI cZ) yX2_resultForm wsX2_resultForm rm2_resultForm [.ref (h 59)] σ0 (f2_resultForm σ0 ) := by
  refine of_I (cE_ok t1 t2) (own := RX2) (lv := [(0, .ref (h 59))]) (by decide) rfl rfl (Nat.le_of_ble_eq_true rfl) rfl (fun p e s m below meth c sz X hA => ?_)
  rw [f2_resultForm]
  refine jm_aload_n (n := 1) X 0 rfl dX2_resultForm_0 rfl ?_
  refine jm_get (n := 4) X 2 1 1 cW_X2 rfl (by decide) (fun w h => List.mem_cons_of_mem _ (List.mem_append_left _ (List.mem_append_right _ h))) (List.mem_of_getElem? (i := 1) rfl) rfl dX2_resultForm_1 rfl ?_
  refine jm_get (n := 7) X 3 6 0 cW_X7 rfl (by decide) (fun w h => List.mem_cons_of_mem _ (List.mem_append_right _ h)) (List.mem_of_getElem? (i := 2) rfl) rfl dX2_resultForm_4 rfl ?_
  refine jm_aload_n (n := 8) X 0 rfl dX2_resultForm_7 rfl ?_
  refine jm_get (n := 11) X 2 1 9 cW_X2 rfl (by decide) (fun w h => List.mem_cons_of_mem _ (List.mem_append_left _ (List.mem_append_right _ h))) (List.mem_of_getElem? (i := 3) rfl) rfl dX2_resultForm_8 rfl ?_
  refine jm_ald (n := 12) X 17 0 140 cA_140 rfl rfl (k0.1 49) dX2_resultForm_11 rfl (fun h1 => ?_)
  refine jm_iconst (n := 13) X dX2_resultForm_12 rfl ?_
  refine jm_mmin (n := 16) X (List.mem_of_getElem? (i := 4) rfl) (List.mem_of_getElem? (i := 5) rfl) (List.mem_of_getElem? (i := 6) rfl) (List.mem_of_getElem? (i := 7) rfl) ⟨Nat.le_of_ble_eq_true rfl, Nat.le_of_ble_eq_true rfl⟩ (k0.2 140 _) (by decide) dX2_resultForm_13 rfl ?_
  exact jm_iret X rfl k0 (in_mn (k0.2 140 _) (by decide)) dX2_resultForm_16
abbrev rm2_plainResult : Room := { frames := 2, cells := 0, slots := 0, locals := 41 }
def f2_plainResult (σ0 : Sg)  : Option (Sg × Int) :=
  bd (f2_resultForm σ0 ) fun σ1 r1 =>
  if r1 = (2 : Int) then (some (σ1, (0 : Int)))
  else (ck (0 ≤ (gI σ1 49) ∧ (gI σ1 49) < 200) <|
  some (σ1, (gA σ1 141 (gI σ1 49))))
set_option maxRecDepth 100000 in
theorem t2_plainResult (l : Launch) {h : Nat → Nat} {cI cZ : ClassId} {D : va_G} {t1 t2 : Nat} {σ0 : Sg}  (k0 : ok σ0)  : ctI (cE t1 t2) l (cW h cI cZ) D (mT cI cZ) yX2_plainResult wsX2_plainResult rm2_plainResult [.ref (h 59)] σ0 (f2_plainResult σ0 ) := by
  refine of_I (cE_ok t1 t2) (own := RX2) (lv := [(0, .ref (h 59))]) (by decide) rfl rfl (Nat.le_of_ble_eq_true rfl) rfl (fun p e s m below meth c sz X hA => ?_)
  rw [f2_plainResult]
  refine jm_aload_n (n := 1) X 0 rfl dX2_plainResult_0 rfl ?_
  refine jm_callVi (n := 4) (vs := []) (rest := []) X hA (t2_resultForm l k0 ) (cwV 0 X.2.2.2.2.1 gX2_plainResult_X2_resultForm rfl rfl rfl (by decide +kernel) ⟨Nat.le_of_ble_eq_true rfl, Nat.le_of_ble_eq_true rfl⟩) 2 1 cW_X2 rfl rfl (Nat.le_of_ble_eq_true rfl) dX2_plainResult_1 rfl (fun σ1 r1 k1 h2 => ?_)
  refine jm_iconst (n := 5) X dX2_plainResult_4 rfl ?_
  refine jm_icmp_ne (n := 8) (tgt := 12) X dX2_plainResult_5 (by decide) h2 (by decide) rfl (fun c3 => ?_) (fun c3 => ?_)
  · refine jm_iconst (n := 9) X dX2_plainResult_8 rfl ?_
    refine jm_goto (n := 24) X dX2_plainResult_9 (by decide) ?_
    exact jm_iret X rfl k1 (by decide) dX2_plainResult_24
  · refine jm_aload_n (n := 13) X 0 rfl dX2_plainResult_12 rfl ?_
    refine jm_get (n := 16) X 2 1 1 cW_X2 rfl (by decide) (fun w h => List.mem_cons_of_mem _ (List.mem_append_left _ (List.mem_append_right _ h))) (List.mem_of_getElem? (i := 1) rfl) rfl dX2_plainResult_13 rfl ?_
    refine jm_get (n := 19) X 3 6 1 cW_X7 rfl (by decide) (fun w h => List.mem_cons_of_mem _ (List.mem_append_right _ h)) (List.mem_of_getElem? (i := 2) rfl) rfl dX2_plainResult_16 rfl ?_
    refine jm_aload_n (n := 20) X 0 rfl dX2_plainResult_19 rfl ?_
    refine jm_get (n := 23) X 2 1 9 cW_X2 rfl (by decide) (fun w h => List.mem_cons_of_mem _ (List.mem_append_left _ (List.mem_append_right _ h))) (List.mem_of_getElem? (i := 3) rfl) rfl dX2_plainResult_20 rfl ?_
    refine jm_ald (n := 24) X 18 0 141 cA_141 rfl rfl (k1.1 49) dX2_plainResult_23 rfl (fun h4 => ?_)
    exact jm_iret X rfl k1 (k1.2 141 _) dX2_plainResult_24
end
