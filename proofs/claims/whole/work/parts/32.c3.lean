section
variable {p : Program} {l : Launch} {e : Env} {s : State} {m : MethodId} {args : Array Value} {below : List Frame} {meth : Method} {c : Code} {h : Nat → Nat} {cI cZ : ClassId} {D : va_G} {σz : Sg} {sz : Nat} {t1 t2 : Nat}
abbrev rm5_chosen : Room := { frames := 0, cells := 0, slots := 0, locals := 0 }
def b5_chosen_4 (N : Nat) : Nat → Sg → Int → Int → Option (Sg × Int)
  | 0, _, _, _ => none
  | n + 1, σ0, x2, x3 => if (gI σ0 107) ≤ x3 then (some (σ0, x2))
  else (ck (0 ≤ x2 ∧ x2 < 604) <|
  if (gA σ0 101 x2) = x2 then (some (σ0, x2))
  else (ck (0 ≤ x2 ∧ x2 < 604) <|
  ck (0 ≤ (gA σ0 101 x2) ∧ (gA σ0 101 x2) < 604) <|
  ck (0 ≤ x2 ∧ x2 < 604) <| nx (sA σ0 101 x2 (gA σ0 101 (gA σ0 101 x2))) fun σ7 =>
  ck (0 ≤ x2 ∧ x2 < 604) <|
  ck (inR (x3 + (1 : Int))) <|
  ((b5_chosen_4 N n) σ7 (gA σ7 101 x2) (x3 + (1 : Int)))))
set_option maxRecDepth 100000 in
theorem u5_chosen_4 (X : CX p m meth c cX5_chosen 4 (some .int) s args wsX5_chosen RX5 D (mT cI cZ) (cE t1 t2) (va_A (cW h cI cZ σz) sz)) (hA : ∀ z : Nat, s.heap.size ≤ z → va_A (cW h cI cZ σz) sz z) (N : Nat) : ∀ (n : Nat) (σ0 : Sg) (x2 : Int) (x3 : Int), ok σ0 → inR x2 → inR x3 → JI l rm5_chosen (cW h cI cZ) D (mT cI cZ) σz sz 4 p e s m args below meth c σ0 4 [(0, .ref (h 119)), (2, .int (iI x2)), (3, .int (iI x3))] [] (b5_chosen_4 N n σ0 x2 x3) := by
  intro n
  induction n with
  | zero =>
    intro σ0 x2 x3 k0 hx2 hx3 σ9 r9 ho9
    rw [b5_chosen_4] at ho9
    cases ho9
  | succ n ih =>
    intro σ0 x2 x3 k0 hx2 hx3
    rw [b5_chosen_4]
    refine jm_iload_n (n := 5) X 2 rfl dX5_chosen_4 rfl ?_
    refine jm_aload_n (n := 6) X 0 rfl dX5_chosen_5 rfl ?_
    refine jm_get (n := 9) X 7 4 7 cW_X5 rfl (by decide) (fun w h => List.mem_cons_of_mem _ (List.mem_append_right _ h)) (List.mem_of_getElem? (i := 1) rfl) rfl dX5_chosen_6 rfl ?_
    refine jm_icmp_ge (n := 12) (tgt := 52) X dX5_chosen_9 (by decide) hx3 (k0.1 107) rfl (fun c1 => ?_) (fun c1 => ?_)
    · refine jm_iload_n (n := 53) X 1 rfl dX5_chosen_52 rfl ?_
      exact jm_iret X rfl k0 hx2 dX5_chosen_53
    · refine jm_aload_n (n := 13) X 0 rfl dX5_chosen_12 rfl ?_
      refine jm_get (n := 16) X 7 4 1 cW_X5 rfl (by decide) (fun w h => List.mem_cons_of_mem _ (List.mem_append_right _ h)) (List.mem_of_getElem? (i := 2) rfl) rfl dX5_chosen_13 rfl ?_
      refine jm_iload_n (n := 17) X 1 rfl dX5_chosen_16 rfl ?_
      refine jm_ald (n := 18) X 29 0 101 cA_101 rfl rfl hx2 dX5_chosen_17 rfl (fun h2 => ?_)
      refine jm_iload_n (n := 19) X 1 rfl dX5_chosen_18 rfl ?_
      refine jm_icmp_eq (n := 22) (tgt := 52) X dX5_chosen_19 (by decide) (k0.2 101 _) hx2 rfl (fun c3 => ?_) (fun c3 => ?_)
      · refine jm_iload_n (n := 53) X 1 rfl dX5_chosen_52 rfl ?_
        exact jm_iret X rfl k0 hx2 dX5_chosen_53
      · refine jm_aload_n (n := 23) X 0 rfl dX5_chosen_22 rfl ?_
        refine jm_get (n := 26) X 7 4 1 cW_X5 rfl (by decide) (fun w h => List.mem_cons_of_mem _ (List.mem_append_right _ h)) (List.mem_of_getElem? (i := 2) rfl) rfl dX5_chosen_23 rfl ?_
        refine jm_iload_n (n := 27) X 1 rfl dX5_chosen_26 rfl ?_
        refine jm_aload_n (n := 28) X 0 rfl dX5_chosen_27 rfl ?_
        refine jm_get (n := 31) X 7 4 1 cW_X5 rfl (by decide) (fun w h => List.mem_cons_of_mem _ (List.mem_append_right _ h)) (List.mem_of_getElem? (i := 2) rfl) rfl dX5_chosen_28 rfl ?_
        refine jm_aload_n (n := 32) X 0 rfl dX5_chosen_31 rfl ?_
        refine jm_get (n := 35) X 7 4 1 cW_X5 rfl (by decide) (fun w h => List.mem_cons_of_mem _ (List.mem_append_right _ h)) (List.mem_of_getElem? (i := 2) rfl) rfl dX5_chosen_32 rfl ?_
        refine jm_iload_n (n := 36) X 1 rfl dX5_chosen_35 rfl ?_
        refine jm_ald (n := 37) X 29 0 101 cA_101 rfl rfl hx2 dX5_chosen_36 rfl (fun h4 => ?_)
        refine jm_ald (n := 38) X 29 0 101 cA_101 rfl rfl (k0.2 101 _) dX5_chosen_37 rfl (fun h5 => ?_)
        refine jm_ast (n := 39) X 29 0 101 cA_101 rfl rfl cT_101 k0 hx2 (k0.2 101 _) dX5_chosen_38 rfl (fun h6 σ7 k7 => ?_)
        refine jm_aload_n (n := 40) X 0 rfl dX5_chosen_39 rfl ?_
        refine jm_get (n := 43) X 7 4 1 cW_X5 rfl (by decide) (fun w h => List.mem_cons_of_mem _ (List.mem_append_right _ h)) (List.mem_of_getElem? (i := 2) rfl) rfl dX5_chosen_40 rfl ?_
        refine jm_iload_n (n := 44) X 1 rfl dX5_chosen_43 rfl ?_
        refine jm_ald (n := 45) X 29 0 101 cA_101 rfl rfl hx2 dX5_chosen_44 rfl (fun h8 => ?_)
        refine jm_istore_n (n := 46) (lv' := [(2, .int (iI (gA σ7 101 x2))), (0, .ref (h 119)), (3, .int (iI x3))]) X dX5_chosen_45 (by decide) rfl rfl ?_
        refine jm_iinc (n := 49) (lv' := [(3, .int (iI (x3 + (1 : Int)))), (2, .int (iI (gA σ7 101 x2))), (0, .ref (h 119))]) X 2 rfl dX5_chosen_46 (by decide) rfl rfl (fun h9 => ?_)
        refine jm_goto (n := 4) X dX5_chosen_49 (by decide) ?_
        refine jm_perm [2, 1, 0] rfl ?_
        exact ih σ7 (gA σ7 101 x2) (x3 + (1 : Int)) k7 (k7.2 101 _) h9
def f5_chosen (N : Nat) (σ0 : Sg) (x1 : Int) : Option (Sg × Int) :=
  (b5_chosen_4 N N σ0 x1 (0 : Int))
set_option maxRecDepth 100000 in
theorem t5_chosen (l : Launch) {h : Nat → Nat} {cI cZ : ClassId} {D : va_G} {t1 t2 : Nat} (N : Nat) {σ0 : Sg} {x1 : Int} (k0 : ok σ0) (hx1 : inR x1) : ctI (cE t1 t2) l (cW h cI cZ) D (mT cI cZ) yX5_chosen wsX5_chosen rm5_chosen [.ref (h 119), .int (iI x1)] σ0 (f5_chosen N σ0 x1) := by
  refine of_I (cE_ok t1 t2) (own := RX5) (lv := [(0, .ref (h 119)), (1, .int (iI x1))]) (by decide) rfl rfl (Nat.le_of_ble_eq_true rfl) rfl (fun p e s m below meth c sz X hA => ?_)
  rw [f5_chosen]
  refine jm_iload_n (n := 1) X 1 rfl dX5_chosen_0 rfl ?_
  refine jm_istore_n (n := 2) (lv' := [(2, .int (iI x1)), (0, .ref (h 119)), (1, .int (iI x1))]) X dX5_chosen_1 (by decide) rfl rfl ?_
  refine jm_iconst (n := 3) X dX5_chosen_2 rfl ?_
  refine jm_istore_n (n := 4) (lv' := [(3, .int (iI (0 : Int))), (2, .int (iI x1)), (0, .ref (h 119)), (1, .int (iI x1))]) X dX5_chosen_3 (by decide) rfl rfl ?_
  refine jm_perm [2, 1, 0] rfl ?_
  exact u5_chosen_4 X hA N N σ0 x1 (0 : Int) k0 hx1 (by decide)
abbrev rm5_chosenPart : Room := { frames := 1, cells := 0, slots := 0, locals := 23 }
def f5_chosenPart (N : Nat) (σ0 : Sg) (x1 : Int) (x2 : Int) : Option (Sg × Int) :=
  ck (inR ((4 : Int) * x1)) <|
  ck (inR (((4 : Int) * x1) + x2)) <|
  ck (0 ≤ (((4 : Int) * x1) + x2) ∧ (((4 : Int) * x1) + x2) < 2416) <|
  bd (f5_chosen N σ0 (gA σ0 102 (((4 : Int) * x1) + x2))) fun σ4 r4 =>
  some (σ4, r4)
set_option maxRecDepth 100000 in
theorem t5_chosenPart (l : Launch) {h : Nat → Nat} {cI cZ : ClassId} {D : va_G} {t1 t2 : Nat} (N : Nat) {σ0 : Sg} {x1 : Int} {x2 : Int} (k0 : ok σ0) (hx1 : inR x1) (hx2 : inR x2) : ctI (cE t1 t2) l (cW h cI cZ) D (mT cI cZ) yX5_chosenPart wsX5_chosenPart rm5_chosenPart [.ref (h 119), .int (iI x1), .int (iI x2)] σ0 (f5_chosenPart N σ0 x1 x2) := by
  refine of_I (cE_ok t1 t2) (own := RX5) (lv := [(0, .ref (h 119)), (1, .int (iI x1)), (2, .int (iI x2))]) (by decide) rfl rfl (Nat.le_of_ble_eq_true rfl) rfl (fun p e s m below meth c sz X hA => ?_)
  rw [f5_chosenPart]
  refine jm_aload_n (n := 1) X 0 rfl dX5_chosenPart_0 rfl ?_
  refine jm_aload_n (n := 2) X 0 rfl dX5_chosenPart_1 rfl ?_
  refine jm_get (n := 5) X 7 4 2 cW_X5 rfl (by decide) (fun w h => List.mem_cons_of_mem _ (List.mem_append_right _ h)) (List.mem_of_getElem? (i := 1) rfl) rfl dX5_chosenPart_2 rfl ?_
  refine jm_iconst (n := 6) X dX5_chosenPart_5 rfl ?_
  refine jm_iload_n (n := 7) X 1 rfl dX5_chosenPart_6 rfl ?_
  refine jm_imul (n := 8) X dX5_chosenPart_7 rfl (fun h1 => ?_)
  refine jm_iload_n (n := 9) X 2 rfl dX5_chosenPart_8 rfl ?_
  refine jm_iadd (n := 10) X dX5_chosenPart_9 rfl (fun h2 => ?_)
  refine jm_ald (n := 11) X 30 0 102 cA_102 rfl rfl h2 dX5_chosenPart_10 rfl (fun h3 => ?_)
  refine jm_callVi (n := 14) (vs := [.int (iI (gA σ0 102 (((4 : Int) * x1) + x2)))]) (rest := []) X hA (t5_chosen l N k0 (k0.2 102 _)) (cwV 1 X.2.2.2.2.1 gX5_chosenPart_X5_chosen rfl rfl rfl (by decide +kernel) ⟨Nat.le_of_ble_eq_true rfl, Nat.le_of_ble_eq_true rfl⟩) 7 4 cW_X5 rfl rfl (Nat.le_of_ble_eq_true rfl) dX5_chosenPart_11 rfl (fun σ4 r4 k4 h5 => ?_)
  exact jm_iret X rfl k4 h5 dX5_chosenPart_14
abbrev rm5_addNode : Room := { frames := 0, cells := 0, slots := 0, locals := 0 }
def f5_addNode (σ0 : Sg) (x1 : Int) : Option (Sg × Int) :=
  ck (0 ≤ (gI σ0 107) ∧ (gI σ0 107) < 604) <| nx (sA σ0 100 (gI σ0 107) x1) fun σ2 =>
  ck (0 ≤ (gI σ2 107) ∧ (gI σ2 107) < 604) <| nx (sA σ2 101 (gI σ2 107) (gI σ2 107)) fun σ4 =>
  ck (0 ≤ (gI σ4 107) ∧ (gI σ4 107) < 604) <| nx (sA σ4 104 (gI σ4 107) (0 : Int)) fun σ6 =>
  ck (0 ≤ (gI σ6 107) ∧ (gI σ6 107) < 604) <| nx (sA σ6 105 (gI σ6 107) (0 : Int)) fun σ8 =>
  ck (inR ((gI σ8 107) + (1 : Int))) <|
  nx (sI σ8 107 ((gI σ8 107) + (1 : Int))) fun σ10 =>
  some (σ10, (gI σ8 107))
set_option maxRecDepth 100000 in
theorem t5_addNode (l : Launch) {h : Nat → Nat} {cI cZ : ClassId} {D : va_G} {t1 t2 : Nat} {σ0 : Sg} {x1 : Int} (k0 : ok σ0) (hx1 : inR x1) : ctI (cE t1 t2) l (cW h cI cZ) D (mT cI cZ) yX5_addNode wsX5_addNode rm5_addNode [.ref (h 119), .int (iI x1)] σ0 (f5_addNode σ0 x1) := by
  refine of_I (cE_ok t1 t2) (own := RX5) (lv := [(0, .ref (h 119)), (1, .int (iI x1))]) (by decide) rfl rfl (Nat.le_of_ble_eq_true rfl) rfl (fun p e s m below meth c sz X hA => ?_)
  rw [f5_addNode]
  refine jm_aload_n (n := 1) X 0 rfl dX5_addNode_0 rfl ?_
  refine jm_get (n := 4) X 7 4 0 cW_X5 rfl (by decide) (fun w h => List.mem_cons_of_mem _ (List.mem_append_right _ h)) (List.mem_of_getElem? (i := 1) rfl) rfl dX5_addNode_1 rfl ?_
  refine jm_aload_n (n := 5) X 0 rfl dX5_addNode_4 rfl ?_
  refine jm_get (n := 8) X 7 4 7 cW_X5 rfl (by decide) (fun w h => List.mem_cons_of_mem _ (List.mem_append_right _ h)) (List.mem_of_getElem? (i := 2) rfl) rfl dX5_addNode_5 rfl ?_
  refine jm_iload_n (n := 9) X 1 rfl dX5_addNode_8 rfl ?_
  refine jm_ast (n := 10) X 28 0 100 cA_100 rfl rfl cT_100 k0 (k0.1 107) hx1 dX5_addNode_9 rfl (fun h1 σ2 k2 => ?_)
  refine jm_aload_n (n := 11) X 0 rfl dX5_addNode_10 rfl ?_
  refine jm_get (n := 14) X 7 4 1 cW_X5 rfl (by decide) (fun w h => List.mem_cons_of_mem _ (List.mem_append_right _ h)) (List.mem_of_getElem? (i := 3) rfl) rfl dX5_addNode_11 rfl ?_
  refine jm_aload_n (n := 15) X 0 rfl dX5_addNode_14 rfl ?_
  refine jm_get (n := 18) X 7 4 7 cW_X5 rfl (by decide) (fun w h => List.mem_cons_of_mem _ (List.mem_append_right _ h)) (List.mem_of_getElem? (i := 2) rfl) rfl dX5_addNode_15 rfl ?_
  refine jm_aload_n (n := 19) X 0 rfl dX5_addNode_18 rfl ?_
  refine jm_get (n := 22) X 7 4 7 cW_X5 rfl (by decide) (fun w h => List.mem_cons_of_mem _ (List.mem_append_right _ h)) (List.mem_of_getElem? (i := 2) rfl) rfl dX5_addNode_19 rfl ?_
  refine jm_ast (n := 23) X 29 0 101 cA_101 rfl rfl cT_101 k2 (k2.1 107) (k2.1 107) dX5_addNode_22 rfl (fun h3 σ4 k4 => ?_)
  refine jm_aload_n (n := 24) X 0 rfl dX5_addNode_23 rfl ?_
  refine jm_get (n := 27) X 7 4 4 cW_X5 rfl (by decide) (fun w h => List.mem_cons_of_mem _ (List.mem_append_right _ h)) (List.mem_of_getElem? (i := 4) rfl) rfl dX5_addNode_24 rfl ?_
  refine jm_aload_n (n := 28) X 0 rfl dX5_addNode_27 rfl ?_
  refine jm_get (n := 31) X 7 4 7 cW_X5 rfl (by decide) (fun w h => List.mem_cons_of_mem _ (List.mem_append_right _ h)) (List.mem_of_getElem? (i := 2) rfl) rfl dX5_addNode_28 rfl ?_
  refine jm_iconst (n := 32) X dX5_addNode_31 rfl ?_
  refine jm_ast (n := 33) X 32 0 104 cA_104 rfl rfl cT_104 k4 (k4.1 107) (by decide) dX5_addNode_32 rfl (fun h5 σ6 k6 => ?_)
  refine jm_aload_n (n := 34) X 0 rfl dX5_addNode_33 rfl ?_
  refine jm_get (n := 37) X 7 4 5 cW_X5 rfl (by decide) (fun w h => List.mem_cons_of_mem _ (List.mem_append_right _ h)) (List.mem_of_getElem? (i := 5) rfl) rfl dX5_addNode_34 rfl ?_
  refine jm_aload_n (n := 38) X 0 rfl dX5_addNode_37 rfl ?_
  refine jm_get (n := 41) X 7 4 7 cW_X5 rfl (by decide) (fun w h => List.mem_cons_of_mem _ (List.mem_append_right _ h)) (List.mem_of_getElem? (i := 2) rfl) rfl dX5_addNode_38 rfl ?_
  refine jm_iconst (n := 42) X dX5_addNode_41 rfl ?_
  refine jm_ast (n := 43) X 33 0 105 cA_105 rfl rfl cT_105 k6 (k6.1 107) (by decide) dX5_addNode_42 rfl (fun h7 σ8 k8 => ?_)
  refine jm_aload_n (n := 44) X 0 rfl dX5_addNode_43 rfl ?_
  refine jm_dup (n := 45) X dX5_addNode_44 rfl rfl ?_
  refine jm_get (n := 48) X 7 4 7 cW_X5 rfl (by decide) (fun w h => List.mem_cons_of_mem _ (List.mem_append_right _ h)) (List.mem_of_getElem? (i := 2) rfl) rfl dX5_addNode_45 rfl ?_
  refine jm_dup_x1 (n := 49) X dX5_addNode_48 rfl rfl rfl ?_
  refine jm_iconst (n := 50) X dX5_addNode_49 rfl ?_
  refine jm_iadd (n := 51) X dX5_addNode_50 rfl (fun h9 => ?_)
  refine jm_put (n := 54) X 7 4 7 107 cW_X5 rfl (by decide) (fun w h => List.mem_cons_of_mem _ (List.mem_append_right _ h)) tyX5 tyX5_ok nmX5 (List.mem_of_getElem? (i := 2) rfl) rfl rfl rfl rfl (Nat.le_of_ble_eq_true rfl) cS_107 k8 h9 dX5_addNode_51 rfl (fun σ10 k10 => ?_)
  exact jm_iret X rfl k10 (k8.1 107) dX5_addNode_54
abbrev rm5_clear : Room := { frames := 1, cells := 0, slots := 0, locals := 21 }
def f5_clear (σ0 : Sg)  : Option (Sg × Int) :=
  nx (sI σ0 107 (0 : Int)) fun σ1 =>
  bd (f5_addNode σ1 (0 : Int)) fun σ2 r2 =>
  bd (f5_addNode σ2 (1 : Int)) fun σ4 r4 =>
  some (σ4, 0)
set_option maxRecDepth 100000 in
theorem t5_clear (l : Launch) {h : Nat → Nat} {cI cZ : ClassId} {D : va_G} {t1 t2 : Nat} {σ0 : Sg}  (k0 : ok σ0)  : ctV (cE t1 t2) l (cW h cI cZ) D (mT cI cZ) yX5_clear wsX5_clear rm5_clear [.ref (h 119)] σ0 (f5_clear σ0 ) := by
  refine of_V (cE_ok t1 t2) (own := RX5) (lv := [(0, .ref (h 119))]) (by decide) rfl rfl (Nat.le_of_ble_eq_true rfl) rfl (fun p e s m below meth c sz X hA => ?_)
  rw [f5_clear]
  refine jm_aload_n (n := 1) X 0 rfl dX5_clear_0 rfl ?_
  refine jm_iconst (n := 2) X dX5_clear_1 rfl ?_
  refine jm_put (n := 5) X 7 4 7 107 cW_X5 rfl (by decide) (fun w h => List.mem_cons_of_mem _ (List.mem_append_right _ h)) tyX5 tyX5_ok nmX5 (List.mem_of_getElem? (i := 1) rfl) rfl rfl rfl rfl (Nat.le_of_ble_eq_true rfl) cS_107 k0 (by decide) dX5_clear_2 rfl (fun σ1 k1 => ?_)
  refine jm_aload_n (n := 6) X 0 rfl dX5_clear_5 rfl ?_
  refine jm_iconst (n := 7) X dX5_clear_6 rfl ?_
  refine jm_callVi (n := 10) (vs := [.int (iI (0 : Int))]) (rest := []) X hA (t5_addNode l k1 (by decide)) (cwV 1 X.2.2.2.2.1 gX5_clear_X5_addNode rfl rfl rfl (by decide +kernel) ⟨Nat.le_of_ble_eq_true rfl, Nat.le_of_ble_eq_true rfl⟩) 7 4 cW_X5 rfl rfl (Nat.le_of_ble_eq_true rfl) dX5_clear_7 rfl (fun σ2 r2 k2 h3 => ?_)
  refine jm_pop (n := 11) X dX5_clear_10 rfl rfl ?_
  refine jm_aload_n (n := 12) X 0 rfl dX5_clear_11 rfl ?_
  refine jm_iconst (n := 13) X dX5_clear_12 rfl ?_
  refine jm_callVi (n := 16) (vs := [.int (iI (1 : Int))]) (rest := []) X hA (t5_addNode l k2 (by decide)) (cwV 1 X.2.2.2.2.1 gX5_clear_X5_addNode rfl rfl rfl (by decide +kernel) ⟨Nat.le_of_ble_eq_true rfl, Nat.le_of_ble_eq_true rfl⟩) 7 4 cW_X5 rfl rfl (Nat.le_of_ble_eq_true rfl) dX5_clear_13 rfl (fun σ4 r4 k4 h5 => ?_)
  refine jm_pop (n := 17) X dX5_clear_16 rfl rfl ?_
  exact jm_vret X rfl k4 dX5_clear_17
abbrev rm5_letter : Room := { frames := 1, cells := 0, slots := 0, locals := 21 }
def f5_letter (σ0 : Sg)  : Option (Sg × Int) :=
  bd (f5_addNode σ0 (3 : Int)) fun σ1 r1 =>
  some (σ1, r1)
set_option maxRecDepth 100000 in
theorem t5_letter (l : Launch) {h : Nat → Nat} {cI cZ : ClassId} {D : va_G} {t1 t2 : Nat} {σ0 : Sg}  (k0 : ok σ0)  : ctI (cE t1 t2) l (cW h cI cZ) D (mT cI cZ) yX5_letter wsX5_letter rm5_letter [.ref (h 119)] σ0 (f5_letter σ0 ) := by
  refine of_I (cE_ok t1 t2) (own := RX5) (lv := [(0, .ref (h 119))]) (by decide) rfl rfl (Nat.le_of_ble_eq_true rfl) rfl (fun p e s m below meth c sz X hA => ?_)
  rw [f5_letter]
  refine jm_aload_n (n := 1) X 0 rfl dX5_letter_0 rfl ?_
  refine jm_iconst (n := 2) X dX5_letter_1 rfl ?_
  refine jm_callVi (n := 5) (vs := [.int (iI (3 : Int))]) (rest := []) X hA (t5_addNode l k0 (by decide)) (cwV 1 X.2.2.2.2.1 gX5_letter_X5_addNode rfl rfl rfl (by decide +kernel) ⟨Nat.le_of_ble_eq_true rfl, Nat.le_of_ble_eq_true rfl⟩) 7 4 cW_X5 rfl rfl (Nat.le_of_ble_eq_true rfl) dX5_letter_2 rfl (fun σ1 r1 k1 h2 => ?_)
  exact jm_iret X rfl k1 h2 dX5_letter_5
abbrev rm5_function : Room := { frames := 1, cells := 0, slots := 0, locals := 21 }
def f5_function (σ0 : Sg) (x1 : Int) (x2 : Int) (x3 : Int) (x4 : Int) : Option (Sg × Int) :=
  bd (f5_addNode σ0 (2 : Int)) fun σ1 r1 =>
  ck (inR ((4 : Int) * r1)) <|
  ck (0 ≤ ((4 : Int) * r1) ∧ ((4 : Int) * r1) < 2416) <| nx (sA σ1 102 ((4 : Int) * r1) x1) fun σ5 =>
  ck (inR ((4 : Int) * r1)) <|
  ck (inR (((4 : Int) * r1) + (1 : Int))) <|
  ck (0 ≤ (((4 : Int) * r1) + (1 : Int)) ∧ (((4 : Int) * r1) + (1 : Int)) < 2416) <| nx (sA σ5 102 (((4 : Int) * r1) + (1 : Int)) x2) fun σ9 =>
  ck (inR ((4 : Int) * r1)) <|
  ck (inR (((4 : Int) * r1) + (2 : Int))) <|
  ck (0 ≤ (((4 : Int) * r1) + (2 : Int)) ∧ (((4 : Int) * r1) + (2 : Int)) < 2416) <| nx (sA σ9 102 (((4 : Int) * r1) + (2 : Int)) x3) fun σ13 =>
  ck (inR ((4 : Int) * r1)) <|
  ck (inR (((4 : Int) * r1) + (3 : Int))) <|
  ck (0 ≤ (((4 : Int) * r1) + (3 : Int)) ∧ (((4 : Int) * r1) + (3 : Int)) < 2416) <| nx (sA σ13 102 (((4 : Int) * r1) + (3 : Int)) x4) fun σ17 =>
  some (σ17, r1)
set_option maxRecDepth 100000 in
theorem t5_function (l : Launch) {h : Nat → Nat} {cI cZ : ClassId} {D : va_G} {t1 t2 : Nat} {σ0 : Sg} {x1 : Int} {x2 : Int} {x3 : Int} {x4 : Int} (k0 : ok σ0) (hx1 : inR x1) (hx2 : inR x2) (hx3 : inR x3) (hx4 : inR x4) : ctI (cE t1 t2) l (cW h cI cZ) D (mT cI cZ) yX5_function wsX5_function rm5_function [.ref (h 119), .int (iI x1), .int (iI x2), .int (iI x3), .int (iI x4)] σ0 (f5_function σ0 x1 x2 x3 x4) := by
  refine of_I (cE_ok t1 t2) (own := RX5) (lv := [(0, .ref (h 119)), (1, .int (iI x1)), (2, .int (iI x2)), (3, .int (iI x3)), (4, .int (iI x4))]) (by decide) rfl rfl (Nat.le_of_ble_eq_true rfl) rfl (fun p e s m below meth c sz X hA => ?_)
  rw [f5_function]
  refine jm_aload_n (n := 1) X 0 rfl dX5_function_0 rfl ?_
  refine jm_iconst (n := 2) X dX5_function_1 rfl ?_
  refine jm_callVi (n := 5) (vs := [.int (iI (2 : Int))]) (rest := []) X hA (t5_addNode l k0 (by decide)) (cwV 1 X.2.2.2.2.1 gX5_function_X5_addNode rfl rfl rfl (by decide +kernel) ⟨Nat.le_of_ble_eq_true rfl, Nat.le_of_ble_eq_true rfl⟩) 7 4 cW_X5 rfl rfl (Nat.le_of_ble_eq_true rfl) dX5_function_2 rfl (fun σ1 r1 k1 h2 => ?_)
  refine jm_istore (n := 7) (lv' := [(5, .int (iI r1)), (0, .ref (h 119)), (1, .int (iI x1)), (2, .int (iI x2)), (3, .int (iI x3)), (4, .int (iI x4))]) X dX5_function_5 (by decide) rfl rfl ?_
  refine jm_aload_n (n := 8) X 1 rfl dX5_function_7 rfl ?_
  refine jm_get (n := 11) X 7 4 2 cW_X5 rfl (by decide) (fun w h => List.mem_cons_of_mem _ (List.mem_append_right _ h)) (List.mem_of_getElem? (i := 1) rfl) rfl dX5_function_8 rfl ?_
  refine jm_iconst (n := 12) X dX5_function_11 rfl ?_
  refine jm_iload (n := 14) X 0 rfl dX5_function_12 rfl ?_
  refine jm_imul (n := 15) X dX5_function_14 rfl (fun h3 => ?_)
  refine jm_iload_n (n := 16) X 2 rfl dX5_function_15 rfl ?_
  refine jm_ast (n := 17) X 30 0 102 cA_102 rfl rfl cT_102 k1 h3 hx1 dX5_function_16 rfl (fun h4 σ5 k5 => ?_)
  refine jm_aload_n (n := 18) X 1 rfl dX5_function_17 rfl ?_
  refine jm_get (n := 21) X 7 4 2 cW_X5 rfl (by decide) (fun w h => List.mem_cons_of_mem _ (List.mem_append_right _ h)) (List.mem_of_getElem? (i := 1) rfl) rfl dX5_function_18 rfl ?_
  refine jm_iconst (n := 22) X dX5_function_21 rfl ?_
  refine jm_iload (n := 24) X 0 rfl dX5_function_22 rfl ?_
  refine jm_imul (n := 25) X dX5_function_24 rfl (fun h6 => ?_)
  refine jm_iconst (n := 26) X dX5_function_25 rfl ?_
  refine jm_iadd (n := 27) X dX5_function_26 rfl (fun h7 => ?_)
  refine jm_iload_n (n := 28) X 3 rfl dX5_function_27 rfl ?_
  refine jm_ast (n := 29) X 30 0 102 cA_102 rfl rfl cT_102 k5 h7 hx2 dX5_function_28 rfl (fun h8 σ9 k9 => ?_)
  refine jm_aload_n (n := 30) X 1 rfl dX5_function_29 rfl ?_
  refine jm_get (n := 33) X 7 4 2 cW_X5 rfl (by decide) (fun w h => List.mem_cons_of_mem _ (List.mem_append_right _ h)) (List.mem_of_getElem? (i := 1) rfl) rfl dX5_function_30 rfl ?_
  refine jm_iconst (n := 34) X dX5_function_33 rfl ?_
  refine jm_iload (n := 36) X 0 rfl dX5_function_34 rfl ?_
  refine jm_imul (n := 37) X dX5_function_36 rfl (fun h10 => ?_)
  refine jm_iconst (n := 38) X dX5_function_37 rfl ?_
  refine jm_iadd (n := 39) X dX5_function_38 rfl (fun h11 => ?_)
  refine jm_iload_n (n := 40) X 4 rfl dX5_function_39 rfl ?_
  refine jm_ast (n := 41) X 30 0 102 cA_102 rfl rfl cT_102 k9 h11 hx3 dX5_function_40 rfl (fun h12 σ13 k13 => ?_)
  refine jm_aload_n (n := 42) X 1 rfl dX5_function_41 rfl ?_
  refine jm_get (n := 45) X 7 4 2 cW_X5 rfl (by decide) (fun w h => List.mem_cons_of_mem _ (List.mem_append_right _ h)) (List.mem_of_getElem? (i := 1) rfl) rfl dX5_function_42 rfl ?_
  refine jm_iconst (n := 46) X dX5_function_45 rfl ?_
  refine jm_iload (n := 48) X 0 rfl dX5_function_46 rfl ?_
  refine jm_imul (n := 49) X dX5_function_48 rfl (fun h14 => ?_)
  refine jm_iconst (n := 50) X dX5_function_49 rfl ?_
  refine jm_iadd (n := 51) X dX5_function_50 rfl (fun h15 => ?_)
  refine jm_iload (n := 53) X 5 rfl dX5_function_51 rfl ?_
  refine jm_ast (n := 54) X 30 0 102 cA_102 rfl rfl cT_102 k13 h15 hx4 dX5_function_53 rfl (fun h16 σ17 k17 => ?_)
  refine jm_iload (n := 56) X 0 rfl dX5_function_54 rfl ?_
  exact jm_iret X rfl k17 h2 dX5_function_56
abbrev rm5_addPair : Room := { frames := 0, cells := 0, slots := 0, locals := 0 }
def f5_addPair (σ0 : Sg) (x1 : Int) (x2 : Int) : Option (Sg × Int) :=
  ck (inR ((2 : Int) * (gI σ0 108))) <|
  ck (0 ≤ ((2 : Int) * (gI σ0 108)) ∧ ((2 : Int) * (gI σ0 108)) < 962) <| nx (sA σ0 103 ((2 : Int) * (gI σ0 108)) x1) fun σ3 =>
  ck (inR ((2 : Int) * (gI σ3 108))) <|
  ck (inR (((2 : Int) * (gI σ3 108)) + (1 : Int))) <|
  ck (0 ≤ (((2 : Int) * (gI σ3 108)) + (1 : Int)) ∧ (((2 : Int) * (gI σ3 108)) + (1 : Int)) < 962) <| nx (sA σ3 103 (((2 : Int) * (gI σ3 108)) + (1 : Int)) x2) fun σ7 =>
  ck (inR ((gI σ7 108) + (1 : Int))) <|
  nx (sI σ7 108 ((gI σ7 108) + (1 : Int))) fun σ9 =>
  some (σ9, 0)
set_option maxRecDepth 100000 in
theorem t5_addPair (l : Launch) {h : Nat → Nat} {cI cZ : ClassId} {D : va_G} {t1 t2 : Nat} {σ0 : Sg} {x1 : Int} {x2 : Int} (k0 : ok σ0) (hx1 : inR x1) (hx2 : inR x2) : ctV (cE t1 t2) l (cW h cI cZ) D (mT cI cZ) yX5_addPair wsX5_addPair rm5_addPair [.ref (h 119), .int (iI x1), .int (iI x2)] σ0 (f5_addPair σ0 x1 x2) := by
  refine of_V (cE_ok t1 t2) (own := RX5) (lv := [(0, .ref (h 119)), (1, .int (iI x1)), (2, .int (iI x2))]) (by decide) rfl rfl (Nat.le_of_ble_eq_true rfl) rfl (fun p e s m below meth c sz X hA => ?_)
  rw [f5_addPair]
  refine jm_aload_n (n := 1) X 0 rfl dX5_addPair_0 rfl ?_
  refine jm_get (n := 4) X 7 4 3 cW_X5 rfl (by decide) (fun w h => List.mem_cons_of_mem _ (List.mem_append_right _ h)) (List.mem_of_getElem? (i := 1) rfl) rfl dX5_addPair_1 rfl ?_
  refine jm_iconst (n := 5) X dX5_addPair_4 rfl ?_
  refine jm_aload_n (n := 6) X 0 rfl dX5_addPair_5 rfl ?_
  refine jm_get (n := 9) X 7 4 8 cW_X5 rfl (by decide) (fun w h => List.mem_cons_of_mem _ (List.mem_append_right _ h)) (List.mem_of_getElem? (i := 2) rfl) rfl dX5_addPair_6 rfl ?_
  refine jm_imul (n := 10) X dX5_addPair_9 rfl (fun h1 => ?_)
  refine jm_iload_n (n := 11) X 1 rfl dX5_addPair_10 rfl ?_
  refine jm_ast (n := 12) X 31 0 103 cA_103 rfl rfl cT_103 k0 h1 hx1 dX5_addPair_11 rfl (fun h2 σ3 k3 => ?_)
  refine jm_aload_n (n := 13) X 0 rfl dX5_addPair_12 rfl ?_
  refine jm_get (n := 16) X 7 4 3 cW_X5 rfl (by decide) (fun w h => List.mem_cons_of_mem _ (List.mem_append_right _ h)) (List.mem_of_getElem? (i := 1) rfl) rfl dX5_addPair_13 rfl ?_
  refine jm_iconst (n := 17) X dX5_addPair_16 rfl ?_
  refine jm_aload_n (n := 18) X 0 rfl dX5_addPair_17 rfl ?_
  refine jm_get (n := 21) X 7 4 8 cW_X5 rfl (by decide) (fun w h => List.mem_cons_of_mem _ (List.mem_append_right _ h)) (List.mem_of_getElem? (i := 2) rfl) rfl dX5_addPair_18 rfl ?_
  refine jm_imul (n := 22) X dX5_addPair_21 rfl (fun h4 => ?_)
  refine jm_iconst (n := 23) X dX5_addPair_22 rfl ?_
  refine jm_iadd (n := 24) X dX5_addPair_23 rfl (fun h5 => ?_)
  refine jm_iload_n (n := 25) X 2 rfl dX5_addPair_24 rfl ?_
  refine jm_ast (n := 26) X 31 0 103 cA_103 rfl rfl cT_103 k3 h5 hx2 dX5_addPair_25 rfl (fun h6 σ7 k7 => ?_)
  refine jm_aload_n (n := 27) X 0 rfl dX5_addPair_26 rfl ?_
  refine jm_dup (n := 28) X dX5_addPair_27 rfl rfl ?_
  refine jm_get (n := 31) X 7 4 8 cW_X5 rfl (by decide) (fun w h => List.mem_cons_of_mem _ (List.mem_append_right _ h)) (List.mem_of_getElem? (i := 2) rfl) rfl dX5_addPair_28 rfl ?_
  refine jm_iconst (n := 32) X dX5_addPair_31 rfl ?_
  refine jm_iadd (n := 33) X dX5_addPair_32 rfl (fun h8 => ?_)
  refine jm_put (n := 36) X 7 4 8 108 cW_X5 rfl (by decide) (fun w h => List.mem_cons_of_mem _ (List.mem_append_right _ h)) tyX5 tyX5_ok nmX5 (List.mem_of_getElem? (i := 2) rfl) rfl rfl rfl rfl (Nat.le_of_ble_eq_true rfl) cS_108 k7 h8 dX5_addPair_33 rfl (fun σ9 k9 => ?_)
  exact jm_vret X rfl k9 dX5_addPair_36
abbrev rm5_join : Room := { frames := 1, cells := 0, slots := 0, locals := 22 }
def b5_join_69 (N : Nat) : Nat → Sg → Int → Int → Int → Option (Sg × Int)
  | 0, _, _, _, _ => none
  | n + 1, σ0, x1, x2, x3 => if (4 : Int) ≤ x3 then (ck ((1 : Int) = 0 ∨ (1 : Int) = 1) (some (σ0, (1 : Int))))
  else (ck (inR ((4 : Int) * x1)) <|
  ck (inR (((4 : Int) * x1) + x3)) <|
  ck (0 ≤ (((4 : Int) * x1) + x3) ∧ (((4 : Int) * x1) + x3) < 2416) <|
  ck (inR ((4 : Int) * x2)) <|
  ck (inR (((4 : Int) * x2) + x3)) <|
  ck (0 ≤ (((4 : Int) * x2) + x3) ∧ (((4 : Int) * x2) + x3) < 2416) <|
  bd (f5_addPair σ0 (gA σ0 102 (((4 : Int) * x1) + x3)) (gA σ0 102 (((4 : Int) * x2) + x3))) fun σ8 r8 =>
  ck (inR (x3 + (1 : Int))) <|
  ((b5_join_69 N n) σ8 x1 x2 (x3 + (1 : Int))))
set_option maxRecDepth 100000 in
theorem u5_join_69 (X : CX p m meth c cX5_join 4 (some .boolean) s args wsX5_join RX5 D (mT cI cZ) (cE t1 t2) (va_A (cW h cI cZ σz) sz)) (hA : ∀ z : Nat, s.heap.size ≤ z → va_A (cW h cI cZ σz) sz z) (N : Nat) : ∀ (n : Nat) (σ0 : Sg) (x1 : Int) (x2 : Int) (x3 : Int), ok σ0 → inR x1 → inR x2 → inR x3 → JI l rm5_join (cW h cI cZ) D (mT cI cZ) σz sz 4 p e s m args below meth c σ0 69 [(0, .ref (h 119)), (1, .int (iI x1)), (2, .int (iI x2)), (3, .int (iI x3))] [] (b5_join_69 N n σ0 x1 x2 x3) := by
  intro n
  induction n with
  | zero =>
    intro σ0 x1 x2 x3 k0 hx1 hx2 hx3 σ9 r9 ho9
    rw [b5_join_69] at ho9
    cases ho9
  | succ n ih =>
    intro σ0 x1 x2 x3 k0 hx1 hx2 hx3
    rw [b5_join_69]
    refine jm_iload_n (n := 70) X 3 rfl dX5_join_69 rfl ?_
    refine jm_iconst (n := 71) X dX5_join_70 rfl ?_
    refine jm_icmp_ge (n := 74) (tgt := 104) X dX5_join_71 (by decide) hx3 (by decide) rfl (fun c1 => ?_) (fun c1 => ?_)
    · refine jm_iconst (n := 105) X dX5_join_104 rfl ?_
      exact jm_zret X rfl k0 dX5_join_105
    · refine jm_aload_n (n := 75) X 0 rfl dX5_join_74 rfl ?_
      refine jm_aload_n (n := 76) X 0 rfl dX5_join_75 rfl ?_
      refine jm_get (n := 79) X 7 4 2 cW_X5 rfl (by decide) (fun w h => List.mem_cons_of_mem _ (List.mem_append_right _ h)) (List.mem_of_getElem? (i := 3) rfl) rfl dX5_join_76 rfl ?_
      refine jm_iconst (n := 80) X dX5_join_79 rfl ?_
      refine jm_iload_n (n := 81) X 1 rfl dX5_join_80 rfl ?_
      refine jm_imul (n := 82) X dX5_join_81 rfl (fun h2 => ?_)
      refine jm_iload_n (n := 83) X 3 rfl dX5_join_82 rfl ?_
      refine jm_iadd (n := 84) X dX5_join_83 rfl (fun h3 => ?_)
      refine jm_ald (n := 85) X 30 0 102 cA_102 rfl rfl h3 dX5_join_84 rfl (fun h4 => ?_)
      refine jm_aload_n (n := 86) X 0 rfl dX5_join_85 rfl ?_
      refine jm_get (n := 89) X 7 4 2 cW_X5 rfl (by decide) (fun w h => List.mem_cons_of_mem _ (List.mem_append_right _ h)) (List.mem_of_getElem? (i := 3) rfl) rfl dX5_join_86 rfl ?_
      refine jm_iconst (n := 90) X dX5_join_89 rfl ?_
      refine jm_iload_n (n := 91) X 2 rfl dX5_join_90 rfl ?_
      refine jm_imul (n := 92) X dX5_join_91 rfl (fun h5 => ?_)
      refine jm_iload_n (n := 93) X 3 rfl dX5_join_92 rfl ?_
      refine jm_iadd (n := 94) X dX5_join_93 rfl (fun h6 => ?_)
      refine jm_ald (n := 95) X 30 0 102 cA_102 rfl rfl h6 dX5_join_94 rfl (fun h7 => ?_)
      refine jm_callVv (n := 98) (vs := [.int (iI (gA σ0 102 (((4 : Int) * x1) + x3))), .int (iI (gA σ0 102 (((4 : Int) * x2) + x3)))]) (rest := []) X hA (t5_addPair l k0 (k0.2 102 _) (k0.2 102 _)) (cwV 2 X.2.2.2.2.1 gX5_join_X5_addPair rfl rfl rfl (by decide +kernel) ⟨Nat.le_of_ble_eq_true rfl, Nat.le_of_ble_eq_true rfl⟩) 7 4 cW_X5 rfl rfl (Nat.le_of_ble_eq_true rfl) dX5_join_95 rfl (fun σ8 r8 k8 => ?_)
      refine jm_iinc (n := 101) (lv' := [(3, .int (iI (x3 + (1 : Int)))), (0, .ref (h 119)), (1, .int (iI x1)), (2, .int (iI x2))]) X 3 rfl dX5_join_98 (by decide) rfl rfl (fun h10 => ?_)
      refine jm_goto (n := 69) X dX5_join_101 (by decide) ?_
      refine jm_perm [1, 2, 3, 0] rfl ?_
      exact ih σ8 x1 x2 (x3 + (1 : Int)) k8 hx1 hx2 h10
def f5_join (N : Nat) (σ0 : Sg) (x1 : Int) (x2 : Int) : Option (Sg × Int) :=
  ck (0 ≤ x1 ∧ x1 < 604) <|
  if (gA σ0 100 x1) = (3 : Int) then (ck (0 ≤ x1 ∧ x1 < 604) <| nx (sA σ0 101 x1 x2) fun σ4 =>
  ck ((1 : Int) = 0 ∨ (1 : Int) = 1) (some (σ4, (1 : Int))))
  else (ck (0 ≤ x2 ∧ x2 < 604) <|
  if (gA σ0 100 x2) = (3 : Int) then (ck (0 ≤ x2 ∧ x2 < 604) <| nx (sA σ0 101 x2 x1) fun σ8 =>
  ck ((1 : Int) = 0 ∨ (1 : Int) = 1) (some (σ8, (1 : Int))))
  else (ck (0 ≤ x1 ∧ x1 < 604) <|
  if (gA σ0 100 x1) = (2 : Int) then (ck (0 ≤ x2 ∧ x2 < 604) <|
  if (gA σ0 100 x2) = (2 : Int) then (ck (0 ≤ x1 ∧ x1 < 604) <| nx (sA σ0 101 x1 x2) fun σ14 =>
  (b5_join_69 N N σ14 x1 x2 (0 : Int)))
  else (ck ((0 : Int) = 0 ∨ (0 : Int) = 1) (some (σ0, (0 : Int)))))
  else (ck ((0 : Int) = 0 ∨ (0 : Int) = 1) (some (σ0, (0 : Int))))))
set_option maxRecDepth 100000 in
theorem t5_join (l : Launch) {h : Nat → Nat} {cI cZ : ClassId} {D : va_G} {t1 t2 : Nat} (N : Nat) {σ0 : Sg} {x1 : Int} {x2 : Int} (k0 : ok σ0) (hx1 : inR x1) (hx2 : inR x2) : ctI (cE t1 t2) l (cW h cI cZ) D (mT cI cZ) yX5_join wsX5_join rm5_join [.ref (h 119), .int (iI x1), .int (iI x2)] σ0 (f5_join N σ0 x1 x2) := by
  refine of_Z (cE_ok t1 t2) (own := RX5) (lv := [(0, .ref (h 119)), (1, .int (iI x1)), (2, .int (iI x2))]) (by decide) rfl rfl (Nat.le_of_ble_eq_true rfl) rfl (fun p e s m below meth c sz X hA => ?_)
  rw [f5_join]
  refine jm_aload_n (n := 1) X 0 rfl dX5_join_0 rfl ?_
  refine jm_get (n := 4) X 7 4 0 cW_X5 rfl (by decide) (fun w h => List.mem_cons_of_mem _ (List.mem_append_right _ h)) (List.mem_of_getElem? (i := 1) rfl) rfl dX5_join_1 rfl ?_
  refine jm_iload_n (n := 5) X 1 rfl dX5_join_4 rfl ?_
  refine jm_ald (n := 6) X 28 0 100 cA_100 rfl rfl hx1 dX5_join_5 rfl (fun h1 => ?_)
  refine jm_iconst (n := 7) X dX5_join_6 rfl ?_
  refine jm_icmp_ne (n := 10) (tgt := 19) X dX5_join_7 (by decide) (k0.2 100 _) (by decide) rfl (fun c2 => ?_) (fun c2 => ?_)
  · refine jm_aload_n (n := 11) X 0 rfl dX5_join_10 rfl ?_
    refine jm_get (n := 14) X 7 4 1 cW_X5 rfl (by decide) (fun w h => List.mem_cons_of_mem _ (List.mem_append_right _ h)) (List.mem_of_getElem? (i := 2) rfl) rfl dX5_join_11 rfl ?_
    refine jm_iload_n (n := 15) X 1 rfl dX5_join_14 rfl ?_
    refine jm_iload_n (n := 16) X 2 rfl dX5_join_15 rfl ?_
    refine jm_ast (n := 17) X 29 0 101 cA_101 rfl rfl cT_101 k0 hx1 hx2 dX5_join_16 rfl (fun h3 σ4 k4 => ?_)
    refine jm_iconst (n := 18) X dX5_join_17 rfl ?_
    exact jm_zret X rfl k4 dX5_join_18
  · refine jm_aload_n (n := 20) X 0 rfl dX5_join_19 rfl ?_
    refine jm_get (n := 23) X 7 4 0 cW_X5 rfl (by decide) (fun w h => List.mem_cons_of_mem _ (List.mem_append_right _ h)) (List.mem_of_getElem? (i := 1) rfl) rfl dX5_join_20 rfl ?_
    refine jm_iload_n (n := 24) X 2 rfl dX5_join_23 rfl ?_
    refine jm_ald (n := 25) X 28 0 100 cA_100 rfl rfl hx2 dX5_join_24 rfl (fun h5 => ?_)
    refine jm_iconst (n := 26) X dX5_join_25 rfl ?_
    refine jm_icmp_ne (n := 29) (tgt := 38) X dX5_join_26 (by decide) (k0.2 100 _) (by decide) rfl (fun c6 => ?_) (fun c6 => ?_)
    · refine jm_aload_n (n := 30) X 0 rfl dX5_join_29 rfl ?_
      refine jm_get (n := 33) X 7 4 1 cW_X5 rfl (by decide) (fun w h => List.mem_cons_of_mem _ (List.mem_append_right _ h)) (List.mem_of_getElem? (i := 2) rfl) rfl dX5_join_30 rfl ?_
      refine jm_iload_n (n := 34) X 2 rfl dX5_join_33 rfl ?_
      refine jm_iload_n (n := 35) X 1 rfl dX5_join_34 rfl ?_
      refine jm_ast (n := 36) X 29 0 101 cA_101 rfl rfl cT_101 k0 hx2 hx1 dX5_join_35 rfl (fun h7 σ8 k8 => ?_)
      refine jm_iconst (n := 37) X dX5_join_36 rfl ?_
      exact jm_zret X rfl k8 dX5_join_37
    · refine jm_aload_n (n := 39) X 0 rfl dX5_join_38 rfl ?_
      refine jm_get (n := 42) X 7 4 0 cW_X5 rfl (by decide) (fun w h => List.mem_cons_of_mem _ (List.mem_append_right _ h)) (List.mem_of_getElem? (i := 1) rfl) rfl dX5_join_39 rfl ?_
      refine jm_iload_n (n := 43) X 1 rfl dX5_join_42 rfl ?_
      refine jm_ald (n := 44) X 28 0 100 cA_100 rfl rfl hx1 dX5_join_43 rfl (fun h9 => ?_)
      refine jm_iconst (n := 45) X dX5_join_44 rfl ?_
      refine jm_icmp_ne (n := 48) (tgt := 58) X dX5_join_45 (by decide) (k0.2 100 _) (by decide) rfl (fun c10 => ?_) (fun c10 => ?_)
      · refine jm_aload_n (n := 49) X 0 rfl dX5_join_48 rfl ?_
        refine jm_get (n := 52) X 7 4 0 cW_X5 rfl (by decide) (fun w h => List.mem_cons_of_mem _ (List.mem_append_right _ h)) (List.mem_of_getElem? (i := 1) rfl) rfl dX5_join_49 rfl ?_
        refine jm_iload_n (n := 53) X 2 rfl dX5_join_52 rfl ?_
        refine jm_ald (n := 54) X 28 0 100 cA_100 rfl rfl hx2 dX5_join_53 rfl (fun h11 => ?_)
        refine jm_iconst (n := 55) X dX5_join_54 rfl ?_
        refine jm_icmp_eq (n := 58) (tgt := 60) X dX5_join_55 (by decide) (k0.2 100 _) (by decide) rfl (fun c12 => ?_) (fun c12 => ?_)
        · refine jm_aload_n (n := 61) X 0 rfl dX5_join_60 rfl ?_
          refine jm_get (n := 64) X 7 4 1 cW_X5 rfl (by decide) (fun w h => List.mem_cons_of_mem _ (List.mem_append_right _ h)) (List.mem_of_getElem? (i := 2) rfl) rfl dX5_join_61 rfl ?_
          refine jm_iload_n (n := 65) X 1 rfl dX5_join_64 rfl ?_
          refine jm_iload_n (n := 66) X 2 rfl dX5_join_65 rfl ?_
          refine jm_ast (n := 67) X 29 0 101 cA_101 rfl rfl cT_101 k0 hx1 hx2 dX5_join_66 rfl (fun h13 σ14 k14 => ?_)
          refine jm_iconst (n := 68) X dX5_join_67 rfl ?_
          refine jm_istore_n (n := 69) (lv' := [(3, .int (iI (0 : Int))), (0, .ref (h 119)), (1, .int (iI x1)), (2, .int (iI x2))]) X dX5_join_68 (by decide) rfl rfl ?_
          refine jm_perm [1, 2, 3, 0] rfl ?_
          exact u5_join_69 X hA N N σ14 x1 x2 (0 : Int) k14 hx1 hx2 (by decide)
        · refine jm_iconst (n := 59) X dX5_join_58 rfl ?_
          exact jm_zret X rfl k0 dX5_join_59
      · refine jm_iconst (n := 59) X dX5_join_58 rfl ?_
        exact jm_zret X rfl k0 dX5_join_59
abbrev rm5_makeSame : Room := { frames := 2, cells := 0, slots := 0, locals := 45 }
def b5_makeSame_93 (N : Nat) (K13 : Sg → Int → Option (Sg × Int)) (σ0 : Sg) (x3 : Int) : Option (Sg × Int) :=
  ck (inR (x3 + (1 : Int))) <|
  (K13 σ0 (x3 + (1 : Int)))
set_option maxRecDepth 100000 in
theorem u5_makeSame_93 (X : CX p m meth c cX5_makeSame 6 (some .boolean) s args wsX5_makeSame RX5 D (mT cI cZ) (cE t1 t2) (va_A (cW h cI cZ σz) sz)) (hA : ∀ z : Nat, s.heap.size ≤ z → va_A (cW h cI cZ σz) sz z) (N : Nat) (K13 : Sg → Int → Option (Sg × Int)) (hK13 : ∀ (τ : Sg) (x3 : Int), ok τ → inR x3 → JI l rm5_makeSame (cW h cI cZ) D (mT cI cZ) σz sz 6 p e s m args below meth c τ 13 [(0, .ref (h 119)), (3, .int (iI x3))] [] (K13 τ x3)) (σ0 : Sg) (x3 : Int) (k0 : ok σ0) (hx3 : inR x3) : JI l rm5_makeSame (cW h cI cZ) D (mT cI cZ) σz sz 6 p e s m args below meth c σ0 93 [(0, .ref (h 119)), (3, .int (iI x3))] [] (b5_makeSame_93 N K13 σ0 x3) := by
  rw [b5_makeSame_93]
  refine jm_iinc (n := 96) (lv' := [(3, .int (iI (x3 + (1 : Int)))), (0, .ref (h 119))]) X 1 rfl dX5_makeSame_93 (by decide) rfl rfl (fun h1 => ?_)
  refine jm_goto (n := 13) X dX5_makeSame_96 (by decide) ?_
  refine jm_perm [1, 0] rfl ?_
  exact hK13 σ0 (x3 + (1 : Int)) k0 h1
def b5_makeSame_13 (N : Nat) : Nat → Sg → Int → Option (Sg × Int)
  | 0, _, _ => none
  | n + 1, σ0, x3 => if (481 : Int) ≤ x3 then (ck ((1 : Int) = 0 ∨ (1 : Int) = 1) (some (σ0, (1 : Int))))
  else (if (gI σ0 108) ≤ 0 then (ck ((1 : Int) = 0 ∨ (1 : Int) = 1) (some (σ0, (1 : Int))))
  else (ck (inR ((gI σ0 108) - (1 : Int))) <|
  nx (sI σ0 108 ((gI σ0 108) - (1 : Int))) fun σ4 =>
  ck (inR ((2 : Int) * (gI σ4 108))) <|
  ck (0 ≤ ((2 : Int) * (gI σ4 108)) ∧ ((2 : Int) * (gI σ4 108)) < 962) <|
  bd (f5_chosen N σ4 (gA σ4 103 ((2 : Int) * (gI σ4 108)))) fun σ7 r7 =>
  ck (inR ((2 : Int) * (gI σ7 108))) <|
  ck (inR (((2 : Int) * (gI σ7 108)) + (1 : Int))) <|
  ck (0 ≤ (((2 : Int) * (gI σ7 108)) + (1 : Int)) ∧ (((2 : Int) * (gI σ7 108)) + (1 : Int)) < 962) <|
  bd (f5_chosen N σ7 (gA σ7 103 (((2 : Int) * (gI σ7 108)) + (1 : Int)))) fun σ12 r12 =>
  if r7 = r12 then ((b5_makeSame_93 N (b5_makeSame_13 N n) σ12 x3))
  else (bd (f5_join N σ12 r7 r12) fun σ15 r15 =>
  if r15 = 0 then (ck ((0 : Int) = 0 ∨ (0 : Int) = 1) (some (σ15, (0 : Int))))
  else ((b5_makeSame_93 N (b5_makeSame_13 N n) σ15 x3)))))
set_option maxRecDepth 100000 in
theorem u5_makeSame_13 (X : CX p m meth c cX5_makeSame 6 (some .boolean) s args wsX5_makeSame RX5 D (mT cI cZ) (cE t1 t2) (va_A (cW h cI cZ σz) sz)) (hA : ∀ z : Nat, s.heap.size ≤ z → va_A (cW h cI cZ σz) sz z) (N : Nat) : ∀ (n : Nat) (σ0 : Sg) (x3 : Int), ok σ0 → inR x3 → JI l rm5_makeSame (cW h cI cZ) D (mT cI cZ) σz sz 6 p e s m args below meth c σ0 13 [(0, .ref (h 119)), (3, .int (iI x3))] [] (b5_makeSame_13 N n σ0 x3) := by
  intro n
  induction n with
  | zero =>
    intro σ0 x3 k0 hx3 σ9 r9 ho9
    rw [b5_makeSame_13] at ho9
    cases ho9
  | succ n ih =>
    intro σ0 x3 k0 hx3
    rw [b5_makeSame_13]
    refine jm_iload_n (n := 14) X 1 rfl dX5_makeSame_13 rfl ?_
    refine jm_sipush (n := 17) X dX5_makeSame_14 (by decide) rfl ?_
    refine jm_icmp_ge (n := 20) (tgt := 99) X dX5_makeSame_17 (by decide) hx3 (by decide) rfl (fun c1 => ?_) (fun c1 => ?_)
    · refine jm_iconst (n := 100) X dX5_makeSame_99 rfl ?_
      exact jm_zret X rfl k0 dX5_makeSame_100
    · refine jm_aload_n (n := 21) X 0 rfl dX5_makeSame_20 rfl ?_
      refine jm_get (n := 24) X 7 4 8 cW_X5 rfl (by decide) (fun w h => List.mem_cons_of_mem _ (List.mem_append_right _ h)) (List.mem_of_getElem? (i := 1) rfl) rfl dX5_makeSame_21 rfl ?_
      refine jm_if_le (n := 27) (tgt := 99) X dX5_makeSame_24 (by decide) (k0.1 108) rfl (fun c2 => ?_) (fun c2 => ?_)
      · refine jm_iconst (n := 100) X dX5_makeSame_99 rfl ?_
        exact jm_zret X rfl k0 dX5_makeSame_100
      · refine jm_aload_n (n := 28) X 0 rfl dX5_makeSame_27 rfl ?_
        refine jm_dup (n := 29) X dX5_makeSame_28 rfl rfl ?_
        refine jm_get (n := 32) X 7 4 8 cW_X5 rfl (by decide) (fun w h => List.mem_cons_of_mem _ (List.mem_append_right _ h)) (List.mem_of_getElem? (i := 1) rfl) rfl dX5_makeSame_29 rfl ?_
        refine jm_iconst (n := 33) X dX5_makeSame_32 rfl ?_
        refine jm_isub (n := 34) X dX5_makeSame_33 rfl (fun h3 => ?_)
        refine jm_put (n := 37) X 7 4 8 108 cW_X5 rfl (by decide) (fun w h => List.mem_cons_of_mem _ (List.mem_append_right _ h)) tyX5 tyX5_ok nmX5 (List.mem_of_getElem? (i := 1) rfl) rfl rfl rfl rfl (Nat.le_of_ble_eq_true rfl) cS_108 k0 h3 dX5_makeSame_34 rfl (fun σ4 k4 => ?_)
        refine jm_aload_n (n := 38) X 0 rfl dX5_makeSame_37 rfl ?_
        refine jm_aload_n (n := 39) X 0 rfl dX5_makeSame_38 rfl ?_
        refine jm_get (n := 42) X 7 4 3 cW_X5 rfl (by decide) (fun w h => List.mem_cons_of_mem _ (List.mem_append_right _ h)) (List.mem_of_getElem? (i := 2) rfl) rfl dX5_makeSame_39 rfl ?_
        refine jm_iconst (n := 43) X dX5_makeSame_42 rfl ?_
        refine jm_aload_n (n := 44) X 0 rfl dX5_makeSame_43 rfl ?_
        refine jm_get (n := 47) X 7 4 8 cW_X5 rfl (by decide) (fun w h => List.mem_cons_of_mem _ (List.mem_append_right _ h)) (List.mem_of_getElem? (i := 1) rfl) rfl dX5_makeSame_44 rfl ?_
        refine jm_imul (n := 48) X dX5_makeSame_47 rfl (fun h5 => ?_)
        refine jm_ald (n := 49) X 31 0 103 cA_103 rfl rfl h5 dX5_makeSame_48 rfl (fun h6 => ?_)
        refine jm_callVi (n := 52) (vs := [.int (iI (gA σ4 103 ((2 : Int) * (gI σ4 108))))]) (rest := []) X hA (t5_chosen l N k4 (k4.2 103 _)) (cwV 1 X.2.2.2.2.1 gX5_makeSame_X5_chosen rfl rfl rfl (by decide +kernel) ⟨Nat.le_of_ble_eq_true rfl, Nat.le_of_ble_eq_true rfl⟩) 7 4 cW_X5 rfl rfl (Nat.le_of_ble_eq_true rfl) dX5_makeSame_49 rfl (fun σ7 r7 k7 h8 => ?_)
        refine jm_istore (n := 54) (lv' := [(4, .int (iI r7)), (0, .ref (h 119)), (3, .int (iI x3))]) X dX5_makeSame_52 (by decide) rfl rfl ?_
        refine jm_aload_n (n := 55) X 1 rfl dX5_makeSame_54 rfl ?_
        refine jm_aload_n (n := 56) X 1 rfl dX5_makeSame_55 rfl ?_
        refine jm_get (n := 59) X 7 4 3 cW_X5 rfl (by decide) (fun w h => List.mem_cons_of_mem _ (List.mem_append_right _ h)) (List.mem_of_getElem? (i := 2) rfl) rfl dX5_makeSame_56 rfl ?_
        refine jm_iconst (n := 60) X dX5_makeSame_59 rfl ?_
        refine jm_aload_n (n := 61) X 1 rfl dX5_makeSame_60 rfl ?_
        refine jm_get (n := 64) X 7 4 8 cW_X5 rfl (by decide) (fun w h => List.mem_cons_of_mem _ (List.mem_append_right _ h)) (List.mem_of_getElem? (i := 1) rfl) rfl dX5_makeSame_61 rfl ?_
        refine jm_imul (n := 65) X dX5_makeSame_64 rfl (fun h9 => ?_)
        refine jm_iconst (n := 66) X dX5_makeSame_65 rfl ?_
        refine jm_iadd (n := 67) X dX5_makeSame_66 rfl (fun h10 => ?_)
        refine jm_ald (n := 68) X 31 0 103 cA_103 rfl rfl h10 dX5_makeSame_67 rfl (fun h11 => ?_)
        refine jm_callVi (n := 71) (vs := [.int (iI (gA σ7 103 (((2 : Int) * (gI σ7 108)) + (1 : Int))))]) (rest := []) X hA (t5_chosen l N k7 (k7.2 103 _)) (cwV 1 X.2.2.2.2.1 gX5_makeSame_X5_chosen rfl rfl rfl (by decide +kernel) ⟨Nat.le_of_ble_eq_true rfl, Nat.le_of_ble_eq_true rfl⟩) 7 4 cW_X5 rfl rfl (Nat.le_of_ble_eq_true rfl) dX5_makeSame_68 rfl (fun σ12 r12 k12 h13 => ?_)
        refine jm_istore (n := 73) (lv' := [(5, .int (iI r12)), (4, .int (iI r7)), (0, .ref (h 119)), (3, .int (iI x3))]) X dX5_makeSame_71 (by decide) rfl rfl ?_
        refine jm_iload (n := 75) X 1 rfl dX5_makeSame_73 rfl ?_
        refine jm_iload (n := 77) X 0 rfl dX5_makeSame_75 rfl ?_
        refine jm_icmp_eq (n := 80) (tgt := 93) X dX5_makeSame_77 (by decide) h8 h13 rfl (fun c14 => ?_) (fun c14 => ?_)
        · refine jm_perm [2, 3] rfl ?_
          exact u5_makeSame_93 X hA N (b5_makeSame_13 N n) ih σ12 x3 k12 hx3
        · refine jm_aload_n (n := 81) X 2 rfl dX5_makeSame_80 rfl ?_
          refine jm_iload (n := 83) X 1 rfl dX5_makeSame_81 rfl ?_
          refine jm_iload (n := 85) X 0 rfl dX5_makeSame_83 rfl ?_
          refine jm_callVi (n := 88) (vs := [.int (iI r7), .int (iI r12)]) (rest := []) X hA (t5_join l N k12 h8 h13) (cwV 2 X.2.2.2.2.1 gX5_makeSame_X5_join rfl rfl rfl (by decide +kernel) ⟨Nat.le_of_ble_eq_true rfl, Nat.le_of_ble_eq_true rfl⟩) 7 4 cW_X5 rfl rfl (Nat.le_of_ble_eq_true rfl) dX5_makeSame_85 rfl (fun σ15 r15 k15 h16 => ?_)
          refine jm_if_ne (n := 91) (tgt := 93) X dX5_makeSame_88 (by decide) h16 rfl (fun c17 => ?_) (fun c17 => ?_)
          · refine jm_iconst (n := 92) X dX5_makeSame_91 rfl ?_
            exact jm_zret X rfl k15 dX5_makeSame_92
          · refine jm_perm [2, 3] rfl ?_
            exact u5_makeSame_93 X hA N (b5_makeSame_13 N n) ih σ15 x3 k15 hx3
def f5_makeSame (N : Nat) (σ0 : Sg) (x1 : Int) (x2 : Int) : Option (Sg × Int) :=
  nx (sI σ0 108 (0 : Int)) fun σ1 =>
  bd (f5_addPair σ1 x1 x2) fun σ2 r2 =>
  (b5_makeSame_13 N N σ2 (0 : Int))
set_option maxRecDepth 100000 in
theorem t5_makeSame (l : Launch) {h : Nat → Nat} {cI cZ : ClassId} {D : va_G} {t1 t2 : Nat} (N : Nat) {σ0 : Sg} {x1 : Int} {x2 : Int} (k0 : ok σ0) (hx1 : inR x1) (hx2 : inR x2) : ctI (cE t1 t2) l (cW h cI cZ) D (mT cI cZ) yX5_makeSame wsX5_makeSame rm5_makeSame [.ref (h 119), .int (iI x1), .int (iI x2)] σ0 (f5_makeSame N σ0 x1 x2) := by
  refine of_Z (cE_ok t1 t2) (own := RX5) (lv := [(0, .ref (h 119)), (1, .int (iI x1)), (2, .int (iI x2))]) (by decide) rfl rfl (Nat.le_of_ble_eq_true rfl) rfl (fun p e s m below meth c sz X hA => ?_)
  rw [f5_makeSame]
  refine jm_aload_n (n := 1) X 0 rfl dX5_makeSame_0 rfl ?_
  refine jm_iconst (n := 2) X dX5_makeSame_1 rfl ?_
  refine jm_put (n := 5) X 7 4 8 108 cW_X5 rfl (by decide) (fun w h => List.mem_cons_of_mem _ (List.mem_append_right _ h)) tyX5 tyX5_ok nmX5 (List.mem_of_getElem? (i := 1) rfl) rfl rfl rfl rfl (Nat.le_of_ble_eq_true rfl) cS_108 k0 (by decide) dX5_makeSame_2 rfl (fun σ1 k1 => ?_)
  refine jm_aload_n (n := 6) X 0 rfl dX5_makeSame_5 rfl ?_
  refine jm_iload_n (n := 7) X 1 rfl dX5_makeSame_6 rfl ?_
  refine jm_iload_n (n := 8) X 2 rfl dX5_makeSame_7 rfl ?_
  refine jm_callVv (n := 11) (vs := [.int (iI x1), .int (iI x2)]) (rest := []) X hA (t5_addPair l k1 hx1 hx2) (cwV 2 X.2.2.2.2.1 gX5_makeSame_X5_addPair rfl rfl rfl (by decide +kernel) ⟨Nat.le_of_ble_eq_true rfl, Nat.le_of_ble_eq_true rfl⟩) 7 4 cW_X5 rfl rfl (Nat.le_of_ble_eq_true rfl) dX5_makeSame_8 rfl (fun σ2 r2 k2 => ?_)
  refine jm_iconst (n := 12) X dX5_makeSame_11 rfl ?_
  refine jm_istore_n (n := 13) (lv' := [(3, .int (iI (0 : Int))), (0, .ref (h 119)), (1, .int (iI x1)), (2, .int (iI x2))]) X dX5_makeSame_12 (by decide) rfl rfl ?_
  refine jm_perm [1, 0] rfl ?_
  exact u5_makeSame_13 X hA N N σ2 (0 : Int) k2 (by decide)
abbrev rm5_endsEverywhere : Room := { frames := 2, cells := 0, slots := 0, locals := 45 }
def b5_endsEverywhere_154 (N : Nat) (K18 : Sg → Int → Int → Option (Sg × Int)) (σ0 : Sg) (x2 : Int) (x3 : Int) : Option (Sg × Int) :=
  ck (inR (x3 + (1 : Int))) <|
  (K18 σ0 x2 (x3 + (1 : Int)))
set_option maxRecDepth 100000 in
theorem u5_endsEverywhere_154 (X : CX p m meth c cX5_endsEverywhere 6 (some .boolean) s args wsX5_endsEverywhere RX5 D (mT cI cZ) (cE t1 t2) (va_A (cW h cI cZ σz) sz)) (hA : ∀ z : Nat, s.heap.size ≤ z → va_A (cW h cI cZ σz) sz z) (N : Nat) (K18 : Sg → Int → Int → Option (Sg × Int)) (hK18 : ∀ (τ : Sg) (x2 : Int) (x3 : Int), ok τ → inR x2 → inR x3 → JI l rm5_endsEverywhere (cW h cI cZ) D (mT cI cZ) σz sz 6 p e s m args below meth c τ 18 [(0, .ref (h 119)), (2, .int (iI x2)), (3, .int (iI x3))] [] (K18 τ x2 x3)) (σ0 : Sg) (x2 : Int) (x3 : Int) (k0 : ok σ0) (hx2 : inR x2) (hx3 : inR x3) : JI l rm5_endsEverywhere (cW h cI cZ) D (mT cI cZ) σz sz 6 p e s m args below meth c σ0 154 [(0, .ref (h 119)), (2, .int (iI x2)), (3, .int (iI x3))] [] (b5_endsEverywhere_154 N K18 σ0 x2 x3) := by
  rw [b5_endsEverywhere_154]
  refine jm_iinc (n := 157) (lv' := [(3, .int (iI (x3 + (1 : Int)))), (0, .ref (h 119)), (2, .int (iI x2))]) X 2 rfl dX5_endsEverywhere_154 (by decide) rfl rfl (fun h1 => ?_)
  refine jm_goto (n := 18) X dX5_endsEverywhere_157 (by decide) ?_
  refine jm_perm [1, 2, 0] rfl ?_
  exact hK18 σ0 x2 (x3 + (1 : Int)) k0 hx2 h1
def b5_endsEverywhere_114 (N : Nat) (K18 : Sg → Int → Int → Option (Sg × Int)) (σ0 : Sg) (x2 : Int) (x3 : Int) (x5 : Int) : Option (Sg × Int) :=
  ck (0 ≤ x5 ∧ x5 < 604) <|
  if (gA σ0 100 x5) = (2 : Int) then (ck (0 ≤ x5 ∧ x5 < 604) <|
  if (gA σ0 104 x5) = 0 then (ck (0 ≤ x5 ∧ x5 < 604) <| nx (sA σ0 104 x5 (1 : Int)) fun σ6 =>
  ck (0 ≤ x2 ∧ x2 < 604) <| nx (sA σ6 106 x2 x5) fun σ8 =>
  ck (inR (x2 + (1 : Int))) <|
  (b5_endsEverywhere_154 N K18 σ8 (x2 + (1 : Int)) x3))
  else ((b5_endsEverywhere_154 N K18 σ0 x2 x3)))
  else ((b5_endsEverywhere_154 N K18 σ0 x2 x3))
set_option maxRecDepth 100000 in
theorem u5_endsEverywhere_114 (X : CX p m meth c cX5_endsEverywhere 6 (some .boolean) s args wsX5_endsEverywhere RX5 D (mT cI cZ) (cE t1 t2) (va_A (cW h cI cZ σz) sz)) (hA : ∀ z : Nat, s.heap.size ≤ z → va_A (cW h cI cZ σz) sz z) (N : Nat) (K18 : Sg → Int → Int → Option (Sg × Int)) (hK18 : ∀ (τ : Sg) (x2 : Int) (x3 : Int), ok τ → inR x2 → inR x3 → JI l rm5_endsEverywhere (cW h cI cZ) D (mT cI cZ) σz sz 6 p e s m args below meth c τ 18 [(0, .ref (h 119)), (2, .int (iI x2)), (3, .int (iI x3))] [] (K18 τ x2 x3)) (σ0 : Sg) (x2 : Int) (x3 : Int) (x5 : Int) (k0 : ok σ0) (hx2 : inR x2) (hx3 : inR x3) (hx5 : inR x5) : JI l rm5_endsEverywhere (cW h cI cZ) D (mT cI cZ) σz sz 6 p e s m args below meth c σ0 114 [(0, .ref (h 119)), (2, .int (iI x2)), (3, .int (iI x3)), (5, .int (iI x5))] [] (b5_endsEverywhere_114 N K18 σ0 x2 x3 x5) := by
  rw [b5_endsEverywhere_114]
  refine jm_aload_n (n := 115) X 0 rfl dX5_endsEverywhere_114 rfl ?_
  refine jm_get (n := 118) X 7 4 0 cW_X5 rfl (by decide) (fun w h => List.mem_cons_of_mem _ (List.mem_append_right _ h)) (List.mem_of_getElem? (i := 4) rfl) rfl dX5_endsEverywhere_115 rfl ?_
  refine jm_iload (n := 120) X 3 rfl dX5_endsEverywhere_118 rfl ?_
  refine jm_ald (n := 121) X 28 0 100 cA_100 rfl rfl hx5 dX5_endsEverywhere_120 rfl (fun h1 => ?_)
  refine jm_iconst (n := 122) X dX5_endsEverywhere_121 rfl ?_
  refine jm_icmp_ne (n := 125) (tgt := 154) X dX5_endsEverywhere_122 (by decide) (k0.2 100 _) (by decide) rfl (fun c2 => ?_) (fun c2 => ?_)
  · refine jm_aload_n (n := 126) X 0 rfl dX5_endsEverywhere_125 rfl ?_
    refine jm_get (n := 129) X 7 4 4 cW_X5 rfl (by decide) (fun w h => List.mem_cons_of_mem _ (List.mem_append_right _ h)) (List.mem_of_getElem? (i := 2) rfl) rfl dX5_endsEverywhere_126 rfl ?_
    refine jm_iload (n := 131) X 3 rfl dX5_endsEverywhere_129 rfl ?_
    refine jm_ald (n := 132) X 32 0 104 cA_104 rfl rfl hx5 dX5_endsEverywhere_131 rfl (fun h3 => ?_)
    refine jm_if_ne (n := 135) (tgt := 154) X dX5_endsEverywhere_132 (by decide) (k0.2 104 _) rfl (fun c4 => ?_) (fun c4 => ?_)
    · refine jm_aload_n (n := 136) X 0 rfl dX5_endsEverywhere_135 rfl ?_
      refine jm_get (n := 139) X 7 4 4 cW_X5 rfl (by decide) (fun w h => List.mem_cons_of_mem _ (List.mem_append_right _ h)) (List.mem_of_getElem? (i := 2) rfl) rfl dX5_endsEverywhere_136 rfl ?_
      refine jm_iload (n := 141) X 3 rfl dX5_endsEverywhere_139 rfl ?_
      refine jm_iconst (n := 142) X dX5_endsEverywhere_141 rfl ?_
      refine jm_ast (n := 143) X 32 0 104 cA_104 rfl rfl cT_104 k0 hx5 (by decide) dX5_endsEverywhere_142 rfl (fun h5 σ6 k6 => ?_)
      refine jm_aload_n (n := 144) X 0 rfl dX5_endsEverywhere_143 rfl ?_
      refine jm_get (n := 147) X 7 4 6 cW_X5 rfl (by decide) (fun w h => List.mem_cons_of_mem _ (List.mem_append_right _ h)) (List.mem_of_getElem? (i := 1) rfl) rfl dX5_endsEverywhere_144 rfl ?_
      refine jm_iload_n (n := 148) X 1 rfl dX5_endsEverywhere_147 rfl ?_
      refine jm_iload (n := 150) X 3 rfl dX5_endsEverywhere_148 rfl ?_
      refine jm_ast (n := 151) X 34 0 106 cA_106 rfl rfl cT_106 k6 hx2 hx5 dX5_endsEverywhere_150 rfl (fun h7 σ8 k8 => ?_)
      refine jm_iinc (n := 154) (lv' := [(2, .int (iI (x2 + (1 : Int)))), (0, .ref (h 119)), (3, .int (iI x3)), (5, .int (iI x5))]) X 1 rfl dX5_endsEverywhere_151 (by decide) rfl rfl (fun h9 => ?_)
      refine jm_perm [1, 0, 2] rfl ?_
      exact u5_endsEverywhere_154 X hA N K18 hK18 σ8 (x2 + (1 : Int)) x3 k8 h9 hx3
    · refine jm_perm [0, 1, 2] rfl ?_
      exact u5_endsEverywhere_154 X hA N K18 hK18 σ0 x2 x3 k0 hx2 hx3
  · refine jm_perm [0, 1, 2] rfl ?_
    exact u5_endsEverywhere_154 X hA N K18 hK18 σ0 x2 x3 k0 hx2 hx3
def b5_endsEverywhere_18 (N : Nat) : Nat → Sg → Int → Int → Option (Sg × Int)
  | 0, _, _, _ => none
  | n + 1, σ0, x2, x3 => if (3020 : Int) ≤ x3 then (ck ((1 : Int) = 0 ∨ (1 : Int) = 1) (some (σ0, (1 : Int))))
  else (if x2 ≤ 0 then (ck ((1 : Int) = 0 ∨ (1 : Int) = 1) (some (σ0, (1 : Int))))
  else (ck (inR (x2 - (1 : Int))) <|
  ck (0 ≤ (x2 - (1 : Int)) ∧ (x2 - (1 : Int)) < 604) <|
  ck (0 ≤ (gA σ0 106 (x2 - (1 : Int))) ∧ (gA σ0 106 (x2 - (1 : Int))) < 604) <|
  if (gA σ0 105 (gA σ0 106 (x2 - (1 : Int)))) = (4 : Int) then (ck (0 ≤ (gA σ0 106 (x2 - (1 : Int))) ∧ (gA σ0 106 (x2 - (1 : Int))) < 604) <| nx (sA σ0 104 (gA σ0 106 (x2 - (1 : Int))) (2 : Int)) fun σ8 =>
  ck (inR (x2 + (-1 : Int))) <|
  (b5_endsEverywhere_154 N (b5_endsEverywhere_18 N n) σ8 (x2 + (-1 : Int)) x3))
  else (ck (0 ≤ (gA σ0 106 (x2 - (1 : Int))) ∧ (gA σ0 106 (x2 - (1 : Int))) < 604) <|
  bd (f5_chosenPart N σ0 (gA σ0 106 (x2 - (1 : Int))) (gA σ0 105 (gA σ0 106 (x2 - (1 : Int))))) fun σ11 r11 =>
  ck (0 ≤ (gA σ0 106 (x2 - (1 : Int))) ∧ (gA σ0 106 (x2 - (1 : Int))) < 604) <|
  ck (inR ((gA σ11 105 (gA σ0 106 (x2 - (1 : Int)))) + (1 : Int))) <|
  ck (0 ≤ (gA σ0 106 (x2 - (1 : Int))) ∧ (gA σ0 106 (x2 - (1 : Int))) < 604) <| nx (sA σ11 105 (gA σ0 106 (x2 - (1 : Int))) ((gA σ11 105 (gA σ0 106 (x2 - (1 : Int)))) + (1 : Int))) fun σ16 =>
  ck (0 ≤ r11 ∧ r11 < 604) <|
  if (gA σ16 100 r11) = (2 : Int) then (ck (0 ≤ r11 ∧ r11 < 604) <|
  if (gA σ16 104 r11) = (1 : Int) then (ck ((0 : Int) = 0 ∨ (0 : Int) = 1) (some (σ16, (0 : Int))))
  else ((b5_endsEverywhere_114 N (b5_endsEverywhere_18 N n) σ16 x2 x3 r11)))
  else ((b5_endsEverywhere_114 N (b5_endsEverywhere_18 N n) σ16 x2 x3 r11)))))
set_option maxRecDepth 100000 in
theorem u5_endsEverywhere_18 (X : CX p m meth c cX5_endsEverywhere 6 (some .boolean) s args wsX5_endsEverywhere RX5 D (mT cI cZ) (cE t1 t2) (va_A (cW h cI cZ σz) sz)) (hA : ∀ z : Nat, s.heap.size ≤ z → va_A (cW h cI cZ σz) sz z) (N : Nat) : ∀ (n : Nat) (σ0 : Sg) (x2 : Int) (x3 : Int), ok σ0 → inR x2 → inR x3 → JI l rm5_endsEverywhere (cW h cI cZ) D (mT cI cZ) σz sz 6 p e s m args below meth c σ0 18 [(0, .ref (h 119)), (2, .int (iI x2)), (3, .int (iI x3))] [] (b5_endsEverywhere_18 N n σ0 x2 x3) := by
  intro n
  induction n with
  | zero =>
    intro σ0 x2 x3 k0 hx2 hx3 σ9 r9 ho9
    rw [b5_endsEverywhere_18] at ho9
    cases ho9
  | succ n ih =>
    intro σ0 x2 x3 k0 hx2 hx3
    rw [b5_endsEverywhere_18]
    refine jm_iload_n (n := 19) X 2 rfl dX5_endsEverywhere_18 rfl ?_
    refine jm_sipush (n := 22) X dX5_endsEverywhere_19 (by decide) rfl ?_
    refine jm_icmp_ge (n := 25) (tgt := 160) X dX5_endsEverywhere_22 (by decide) hx3 (by decide) rfl (fun c1 => ?_) (fun c1 => ?_)
    · refine jm_iconst (n := 161) X dX5_endsEverywhere_160 rfl ?_
      exact jm_zret X rfl k0 dX5_endsEverywhere_161
    · refine jm_iload_n (n := 26) X 1 rfl dX5_endsEverywhere_25 rfl ?_
      refine jm_if_le (n := 29) (tgt := 160) X dX5_endsEverywhere_26 (by decide) hx2 rfl (fun c2 => ?_) (fun c2 => ?_)
      · refine jm_iconst (n := 161) X dX5_endsEverywhere_160 rfl ?_
        exact jm_zret X rfl k0 dX5_endsEverywhere_161
      · refine jm_aload_n (n := 30) X 0 rfl dX5_endsEverywhere_29 rfl ?_
        refine jm_get (n := 33) X 7 4 6 cW_X5 rfl (by decide) (fun w h => List.mem_cons_of_mem _ (List.mem_append_right _ h)) (List.mem_of_getElem? (i := 1) rfl) rfl dX5_endsEverywhere_30 rfl ?_
        refine jm_iload_n (n := 34) X 1 rfl dX5_endsEverywhere_33 rfl ?_
        refine jm_iconst (n := 35) X dX5_endsEverywhere_34 rfl ?_
        refine jm_isub (n := 36) X dX5_endsEverywhere_35 rfl (fun h3 => ?_)
        refine jm_ald (n := 37) X 34 0 106 cA_106 rfl rfl h3 dX5_endsEverywhere_36 rfl (fun h4 => ?_)
        refine jm_istore (n := 39) (lv' := [(4, .int (iI (gA σ0 106 (x2 - (1 : Int))))), (0, .ref (h 119)), (2, .int (iI x2)), (3, .int (iI x3))]) X dX5_endsEverywhere_37 (by decide) rfl rfl ?_
        refine jm_aload_n (n := 40) X 1 rfl dX5_endsEverywhere_39 rfl ?_
        refine jm_get (n := 43) X 7 4 5 cW_X5 rfl (by decide) (fun w h => List.mem_cons_of_mem _ (List.mem_append_right _ h)) (List.mem_of_getElem? (i := 3) rfl) rfl dX5_endsEverywhere_40 rfl ?_
        refine jm_iload (n := 45) X 0 rfl dX5_endsEverywhere_43 rfl ?_
        refine jm_ald (n := 46) X 33 0 105 cA_105 rfl rfl (k0.2 106 _) dX5_endsEverywhere_45 rfl (fun h5 => ?_)
        refine jm_iconst (n := 47) X dX5_endsEverywhere_46 rfl ?_
        refine jm_icmp_ne (n := 50) (tgt := 64) X dX5_endsEverywhere_47 (by decide) (k0.2 105 _) (by decide) rfl (fun c6 => ?_) (fun c6 => ?_)
        · refine jm_aload_n (n := 51) X 1 rfl dX5_endsEverywhere_50 rfl ?_
          refine jm_get (n := 54) X 7 4 4 cW_X5 rfl (by decide) (fun w h => List.mem_cons_of_mem _ (List.mem_append_right _ h)) (List.mem_of_getElem? (i := 2) rfl) rfl dX5_endsEverywhere_51 rfl ?_
          refine jm_iload (n := 56) X 0 rfl dX5_endsEverywhere_54 rfl ?_
          refine jm_iconst (n := 57) X dX5_endsEverywhere_56 rfl ?_
          refine jm_ast (n := 58) X 32 0 104 cA_104 rfl rfl cT_104 k0 (k0.2 106 _) (by decide) dX5_endsEverywhere_57 rfl (fun h7 σ8 k8 => ?_)
          refine jm_iinc (n := 61) (lv' := [(2, .int (iI (x2 + (-1 : Int)))), (4, .int (iI (gA σ0 106 (x2 - (1 : Int))))), (0, .ref (h 119)), (3, .int (iI x3))]) X 2 rfl dX5_endsEverywhere_58 (by decide) rfl rfl (fun h9 => ?_)
          refine jm_goto (n := 154) X dX5_endsEverywhere_61 (by decide) ?_
          refine jm_perm [2, 0, 3] rfl ?_
          exact u5_endsEverywhere_154 X hA N (b5_endsEverywhere_18 N n) ih σ8 (x2 + (-1 : Int)) x3 k8 h9 hx3
        · refine jm_aload_n (n := 65) X 1 rfl dX5_endsEverywhere_64 rfl ?_
          refine jm_iload (n := 67) X 0 rfl dX5_endsEverywhere_65 rfl ?_
          refine jm_aload_n (n := 68) X 1 rfl dX5_endsEverywhere_67 rfl ?_
          refine jm_get (n := 71) X 7 4 5 cW_X5 rfl (by decide) (fun w h => List.mem_cons_of_mem _ (List.mem_append_right _ h)) (List.mem_of_getElem? (i := 3) rfl) rfl dX5_endsEverywhere_68 rfl ?_
          refine jm_iload (n := 73) X 0 rfl dX5_endsEverywhere_71 rfl ?_
          refine jm_ald (n := 74) X 33 0 105 cA_105 rfl rfl (k0.2 106 _) dX5_endsEverywhere_73 rfl (fun h10 => ?_)
          refine jm_callVi (n := 77) (vs := [.int (iI (gA σ0 106 (x2 - (1 : Int)))), .int (iI (gA σ0 105 (gA σ0 106 (x2 - (1 : Int)))))]) (rest := []) X hA (t5_chosenPart l N k0 (k0.2 106 _) (k0.2 105 _)) (cwV 2 X.2.2.2.2.1 gX5_endsEverywhere_X5_chosenPart rfl rfl rfl (by decide +kernel) ⟨Nat.le_of_ble_eq_true rfl, Nat.le_of_ble_eq_true rfl⟩) 7 4 cW_X5 rfl rfl (Nat.le_of_ble_eq_true rfl) dX5_endsEverywhere_74 rfl (fun σ11 r11 k11 h12 => ?_)
          refine jm_istore (n := 79) (lv' := [(5, .int (iI r11)), (4, .int (iI (gA σ0 106 (x2 - (1 : Int))))), (0, .ref (h 119)), (2, .int (iI x2)), (3, .int (iI x3))]) X dX5_endsEverywhere_77 (by decide) rfl rfl ?_
          refine jm_aload_n (n := 80) X 2 rfl dX5_endsEverywhere_79 rfl ?_
          refine jm_get (n := 83) X 7 4 5 cW_X5 rfl (by decide) (fun w h => List.mem_cons_of_mem _ (List.mem_append_right _ h)) (List.mem_of_getElem? (i := 3) rfl) rfl dX5_endsEverywhere_80 rfl ?_
          refine jm_iload (n := 85) X 1 rfl dX5_endsEverywhere_83 rfl ?_
          refine jm_dup2 (n := 86) X dX5_endsEverywhere_85 rfl rfl rfl ?_
          refine jm_ald (n := 87) X 33 0 105 cA_105 rfl rfl (k0.2 106 _) dX5_endsEverywhere_86 rfl (fun h13 => ?_)
          refine jm_iconst (n := 88) X dX5_endsEverywhere_87 rfl ?_
          refine jm_iadd (n := 89) X dX5_endsEverywhere_88 rfl (fun h14 => ?_)
          refine jm_ast (n := 90) X 33 0 105 cA_105 rfl rfl cT_105 k11 (k0.2 106 _) h14 dX5_endsEverywhere_89 rfl (fun h15 σ16 k16 => ?_)
          refine jm_aload_n (n := 91) X 2 rfl dX5_endsEverywhere_90 rfl ?_
          refine jm_get (n := 94) X 7 4 0 cW_X5 rfl (by decide) (fun w h => List.mem_cons_of_mem _ (List.mem_append_right _ h)) (List.mem_of_getElem? (i := 4) rfl) rfl dX5_endsEverywhere_91 rfl ?_
          refine jm_iload (n := 96) X 0 rfl dX5_endsEverywhere_94 rfl ?_
          refine jm_ald (n := 97) X 28 0 100 cA_100 rfl rfl h12 dX5_endsEverywhere_96 rfl (fun h17 => ?_)
          refine jm_iconst (n := 98) X dX5_endsEverywhere_97 rfl ?_
          refine jm_icmp_ne (n := 101) (tgt := 114) X dX5_endsEverywhere_98 (by decide) (k16.2 100 _) (by decide) rfl (fun c18 => ?_) (fun c18 => ?_)
          · refine jm_aload_n (n := 102) X 2 rfl dX5_endsEverywhere_101 rfl ?_
            refine jm_get (n := 105) X 7 4 4 cW_X5 rfl (by decide) (fun w h => List.mem_cons_of_mem _ (List.mem_append_right _ h)) (List.mem_of_getElem? (i := 2) rfl) rfl dX5_endsEverywhere_102 rfl ?_
            refine jm_iload (n := 107) X 0 rfl dX5_endsEverywhere_105 rfl ?_
            refine jm_ald (n := 108) X 32 0 104 cA_104 rfl rfl h12 dX5_endsEverywhere_107 rfl (fun h19 => ?_)
            refine jm_iconst (n := 109) X dX5_endsEverywhere_108 rfl ?_
            refine jm_icmp_ne (n := 112) (tgt := 114) X dX5_endsEverywhere_109 (by decide) (k16.2 104 _) (by decide) rfl (fun c20 => ?_) (fun c20 => ?_)
            · refine jm_iconst (n := 113) X dX5_endsEverywhere_112 rfl ?_
              exact jm_zret X rfl k16 dX5_endsEverywhere_113
            · refine jm_perm [2, 3, 4, 0] rfl ?_
              exact u5_endsEverywhere_114 X hA N (b5_endsEverywhere_18 N n) ih σ16 x2 x3 r11 k16 hx2 hx3 h12
          · refine jm_perm [2, 3, 4, 0] rfl ?_
            exact u5_endsEverywhere_114 X hA N (b5_endsEverywhere_18 N n) ih σ16 x2 x3 r11 k16 hx2 hx3 h12
def f5_endsEverywhere (N : Nat) (σ0 : Sg) (x1 : Int) : Option (Sg × Int) :=
  ck (0 ≤ (0 : Int) ∧ (0 : Int) < 604) <| nx (sA σ0 106 (0 : Int) x1) fun σ2 =>
  ck (0 ≤ x1 ∧ x1 < 604) <| nx (sA σ2 104 x1 (1 : Int)) fun σ4 =>
  (b5_endsEverywhere_18 N N σ4 (1 : Int) (0 : Int))
set_option maxRecDepth 100000 in
theorem t5_endsEverywhere (l : Launch) {h : Nat → Nat} {cI cZ : ClassId} {D : va_G} {t1 t2 : Nat} (N : Nat) {σ0 : Sg} {x1 : Int} (k0 : ok σ0) (hx1 : inR x1) : ctI (cE t1 t2) l (cW h cI cZ) D (mT cI cZ) yX5_endsEverywhere wsX5_endsEverywhere rm5_endsEverywhere [.ref (h 119), .int (iI x1)] σ0 (f5_endsEverywhere N σ0 x1) := by
  refine of_Z (cE_ok t1 t2) (own := RX5) (lv := [(0, .ref (h 119)), (1, .int (iI x1))]) (by decide) rfl rfl (Nat.le_of_ble_eq_true rfl) rfl (fun p e s m below meth c sz X hA => ?_)
  rw [f5_endsEverywhere]
  refine jm_iconst (n := 1) X dX5_endsEverywhere_0 rfl ?_
  refine jm_istore_n (n := 2) (lv' := [(2, .int (iI (1 : Int))), (0, .ref (h 119)), (1, .int (iI x1))]) X dX5_endsEverywhere_1 (by decide) rfl rfl ?_
  refine jm_aload_n (n := 3) X 1 rfl dX5_endsEverywhere_2 rfl ?_
  refine jm_get (n := 6) X 7 4 6 cW_X5 rfl (by decide) (fun w h => List.mem_cons_of_mem _ (List.mem_append_right _ h)) (List.mem_of_getElem? (i := 1) rfl) rfl dX5_endsEverywhere_3 rfl ?_
  refine jm_iconst (n := 7) X dX5_endsEverywhere_6 rfl ?_
  refine jm_iload_n (n := 8) X 2 rfl dX5_endsEverywhere_7 rfl ?_
  refine jm_ast (n := 9) X 34 0 106 cA_106 rfl rfl cT_106 k0 (by decide) hx1 dX5_endsEverywhere_8 rfl (fun h1 σ2 k2 => ?_)
  refine jm_aload_n (n := 10) X 1 rfl dX5_endsEverywhere_9 rfl ?_
  refine jm_get (n := 13) X 7 4 4 cW_X5 rfl (by decide) (fun w h => List.mem_cons_of_mem _ (List.mem_append_right _ h)) (List.mem_of_getElem? (i := 2) rfl) rfl dX5_endsEverywhere_10 rfl ?_
  refine jm_iload_n (n := 14) X 2 rfl dX5_endsEverywhere_13 rfl ?_
  refine jm_iconst (n := 15) X dX5_endsEverywhere_14 rfl ?_
  refine jm_ast (n := 16) X 32 0 104 cA_104 rfl rfl cT_104 k2 hx1 (by decide) dX5_endsEverywhere_15 rfl (fun h3 σ4 k4 => ?_)
  refine jm_iconst (n := 17) X dX5_endsEverywhere_16 rfl ?_
  refine jm_istore_n (n := 18) (lv' := [(3, .int (iI (0 : Int))), (2, .int (iI (1 : Int))), (0, .ref (h 119)), (1, .int (iI x1))]) X dX5_endsEverywhere_17 (by decide) rfl rfl ?_
  refine jm_perm [2, 1, 0] rfl ?_
  exact u5_endsEverywhere_18 X hA N N σ4 (1 : Int) (0 : Int) k4 (by decide) (by decide)
abbrev rm5_noneContainsItself : Room := { frames := 3, cells := 0, slots := 0, locals := 70 }
def b5_noneContainsItself_45 (N : Nat) (K2 : Sg → Int → Option (Sg × Int)) (σ0 : Sg) (x1 : Int) : Option (Sg × Int) :=
  ck (inR (x1 + (1 : Int))) <|
  (K2 σ0 (x1 + (1 : Int)))
set_option maxRecDepth 100000 in
theorem u5_noneContainsItself_45 (X : CX p m meth c cX5_noneContainsItself 3 (some .boolean) s args wsX5_noneContainsItself RX5 D (mT cI cZ) (cE t1 t2) (va_A (cW h cI cZ σz) sz)) (hA : ∀ z : Nat, s.heap.size ≤ z → va_A (cW h cI cZ σz) sz z) (N : Nat) (K2 : Sg → Int → Option (Sg × Int)) (hK2 : ∀ (τ : Sg) (x1 : Int), ok τ → inR x1 → JI l rm5_noneContainsItself (cW h cI cZ) D (mT cI cZ) σz sz 3 p e s m args below meth c τ 2 [(0, .ref (h 119)), (1, .int (iI x1))] [] (K2 τ x1)) (σ0 : Sg) (x1 : Int) (k0 : ok σ0) (hx1 : inR x1) : JI l rm5_noneContainsItself (cW h cI cZ) D (mT cI cZ) σz sz 3 p e s m args below meth c σ0 45 [(0, .ref (h 119)), (1, .int (iI x1))] [] (b5_noneContainsItself_45 N K2 σ0 x1) := by
  rw [b5_noneContainsItself_45]
  refine jm_iinc (n := 48) (lv' := [(1, .int (iI (x1 + (1 : Int)))), (0, .ref (h 119))]) X 1 rfl dX5_noneContainsItself_45 (by decide) rfl rfl (fun h1 => ?_)
  refine jm_goto (n := 2) X dX5_noneContainsItself_48 (by decide) ?_
  refine jm_perm [1, 0] rfl ?_
  exact hK2 σ0 (x1 + (1 : Int)) k0 h1
def b5_noneContainsItself_2 (N : Nat) : Nat → Sg → Int → Option (Sg × Int)
  | 0, _, _ => none
  | n + 1, σ0, x1 => if (gI σ0 107) ≤ x1 then (ck ((1 : Int) = 0 ∨ (1 : Int) = 1) (some (σ0, (1 : Int))))
  else (bd (f5_chosen N σ0 x1) fun σ2 r2 =>
  ck (0 ≤ r2 ∧ r2 < 604) <|
  if (gA σ2 100 r2) = (2 : Int) then (ck (0 ≤ r2 ∧ r2 < 604) <|
  if (gA σ2 104 r2) = 0 then (bd (f5_endsEverywhere N σ2 r2) fun σ8 r8 =>
  if r8 = 0 then (ck ((0 : Int) = 0 ∨ (0 : Int) = 1) (some (σ8, (0 : Int))))
  else ((b5_noneContainsItself_45 N (b5_noneContainsItself_2 N n) σ8 x1)))
  else ((b5_noneContainsItself_45 N (b5_noneContainsItself_2 N n) σ2 x1)))
  else ((b5_noneContainsItself_45 N (b5_noneContainsItself_2 N n) σ2 x1)))
set_option maxRecDepth 100000 in
theorem u5_noneContainsItself_2 (X : CX p m meth c cX5_noneContainsItself 3 (some .boolean) s args wsX5_noneContainsItself RX5 D (mT cI cZ) (cE t1 t2) (va_A (cW h cI cZ σz) sz)) (hA : ∀ z : Nat, s.heap.size ≤ z → va_A (cW h cI cZ σz) sz z) (N : Nat) : ∀ (n : Nat) (σ0 : Sg) (x1 : Int), ok σ0 → inR x1 → JI l rm5_noneContainsItself (cW h cI cZ) D (mT cI cZ) σz sz 3 p e s m args below meth c σ0 2 [(0, .ref (h 119)), (1, .int (iI x1))] [] (b5_noneContainsItself_2 N n σ0 x1) := by
  intro n
  induction n with
  | zero =>
    intro σ0 x1 k0 hx1 σ9 r9 ho9
    rw [b5_noneContainsItself_2] at ho9
    cases ho9
  | succ n ih =>
    intro σ0 x1 k0 hx1
    rw [b5_noneContainsItself_2]
    refine jm_iload_n (n := 3) X 1 rfl dX5_noneContainsItself_2 rfl ?_
    refine jm_aload_n (n := 4) X 0 rfl dX5_noneContainsItself_3 rfl ?_
    refine jm_get (n := 7) X 7 4 7 cW_X5 rfl (by decide) (fun w h => List.mem_cons_of_mem _ (List.mem_append_right _ h)) (List.mem_of_getElem? (i := 1) rfl) rfl dX5_noneContainsItself_4 rfl ?_
    refine jm_icmp_ge (n := 10) (tgt := 51) X dX5_noneContainsItself_7 (by decide) hx1 (k0.1 107) rfl (fun c1 => ?_) (fun c1 => ?_)
    · refine jm_iconst (n := 52) X dX5_noneContainsItself_51 rfl ?_
      exact jm_zret X rfl k0 dX5_noneContainsItself_52
    · refine jm_aload_n (n := 11) X 0 rfl dX5_noneContainsItself_10 rfl ?_
      refine jm_iload_n (n := 12) X 1 rfl dX5_noneContainsItself_11 rfl ?_
      refine jm_callVi (n := 15) (vs := [.int (iI x1)]) (rest := []) X hA (t5_chosen l N k0 hx1) (cwV 1 X.2.2.2.2.1 gX5_noneContainsItself_X5_chosen rfl rfl rfl (by decide +kernel) ⟨Nat.le_of_ble_eq_true rfl, Nat.le_of_ble_eq_true rfl⟩) 7 4 cW_X5 rfl rfl (Nat.le_of_ble_eq_true rfl) dX5_noneContainsItself_12 rfl (fun σ2 r2 k2 h3 => ?_)
      refine jm_istore_n (n := 16) (lv' := [(2, .int (iI r2)), (0, .ref (h 119)), (1, .int (iI x1))]) X dX5_noneContainsItself_15 (by decide) rfl rfl ?_
      refine jm_aload_n (n := 17) X 1 rfl dX5_noneContainsItself_16 rfl ?_
      refine jm_get (n := 20) X 7 4 0 cW_X5 rfl (by decide) (fun w h => List.mem_cons_of_mem _ (List.mem_append_right _ h)) (List.mem_of_getElem? (i := 2) rfl) rfl dX5_noneContainsItself_17 rfl ?_
      refine jm_iload_n (n := 21) X 0 rfl dX5_noneContainsItself_20 rfl ?_
      refine jm_ald (n := 22) X 28 0 100 cA_100 rfl rfl h3 dX5_noneContainsItself_21 rfl (fun h4 => ?_)
      refine jm_iconst (n := 23) X dX5_noneContainsItself_22 rfl ?_
      refine jm_icmp_ne (n := 26) (tgt := 45) X dX5_noneContainsItself_23 (by decide) (k2.2 100 _) (by decide) rfl (fun c5 => ?_) (fun c5 => ?_)
      · refine jm_aload_n (n := 27) X 1 rfl dX5_noneContainsItself_26 rfl ?_
        refine jm_get (n := 30) X 7 4 4 cW_X5 rfl (by decide) (fun w h => List.mem_cons_of_mem _ (List.mem_append_right _ h)) (List.mem_of_getElem? (i := 3) rfl) rfl dX5_noneContainsItself_27 rfl ?_
        refine jm_iload_n (n := 31) X 0 rfl dX5_noneContainsItself_30 rfl ?_
        refine jm_ald (n := 32) X 32 0 104 cA_104 rfl rfl h3 dX5_noneContainsItself_31 rfl (fun h6 => ?_)
        refine jm_if_ne (n := 35) (tgt := 45) X dX5_noneContainsItself_32 (by decide) (k2.2 104 _) rfl (fun c7 => ?_) (fun c7 => ?_)
        · refine jm_aload_n (n := 36) X 1 rfl dX5_noneContainsItself_35 rfl ?_
          refine jm_iload_n (n := 37) X 0 rfl dX5_noneContainsItself_36 rfl ?_
          refine jm_callVi (n := 40) (vs := [.int (iI r2)]) (rest := []) X hA (t5_endsEverywhere l N k2 h3) (cwV 1 X.2.2.2.2.1 gX5_noneContainsItself_X5_endsEverywhere rfl rfl rfl (by decide +kernel) ⟨Nat.le_of_ble_eq_true rfl, Nat.le_of_ble_eq_true rfl⟩) 7 4 cW_X5 rfl rfl (Nat.le_of_ble_eq_true rfl) dX5_noneContainsItself_37 rfl (fun σ8 r8 k8 h9 => ?_)
          refine jm_if_ne (n := 43) (tgt := 45) X dX5_noneContainsItself_40 (by decide) h9 rfl (fun c10 => ?_) (fun c10 => ?_)
          · refine jm_iconst (n := 44) X dX5_noneContainsItself_43 rfl ?_
            exact jm_zret X rfl k8 dX5_noneContainsItself_44
          · refine jm_perm [1, 2] rfl ?_
            exact u5_noneContainsItself_45 X hA N (b5_noneContainsItself_2 N n) ih σ8 x1 k8 hx1
        · refine jm_perm [1, 2] rfl ?_
          exact u5_noneContainsItself_45 X hA N (b5_noneContainsItself_2 N n) ih σ2 x1 k2 hx1
      · refine jm_perm [1, 2] rfl ?_
        exact u5_noneContainsItself_45 X hA N (b5_noneContainsItself_2 N n) ih σ2 x1 k2 hx1
def f5_noneContainsItself (N : Nat) (σ0 : Sg)  : Option (Sg × Int) :=
  (b5_noneContainsItself_2 N N σ0 (0 : Int))
set_option maxRecDepth 100000 in
theorem t5_noneContainsItself (l : Launch) {h : Nat → Nat} {cI cZ : ClassId} {D : va_G} {t1 t2 : Nat} (N : Nat) {σ0 : Sg}  (k0 : ok σ0)  : ctI (cE t1 t2) l (cW h cI cZ) D (mT cI cZ) yX5_noneContainsItself wsX5_noneContainsItself rm5_noneContainsItself [.ref (h 119)] σ0 (f5_noneContainsItself N σ0 ) := by
  refine of_Z (cE_ok t1 t2) (own := RX5) (lv := [(0, .ref (h 119))]) (by decide) rfl rfl (Nat.le_of_ble_eq_true rfl) rfl (fun p e s m below meth c sz X hA => ?_)
  rw [f5_noneContainsItself]
  refine jm_iconst (n := 1) X dX5_noneContainsItself_0 rfl ?_
  refine jm_istore_n (n := 2) (lv' := [(1, .int (iI (0 : Int))), (0, .ref (h 119))]) X dX5_noneContainsItself_1 (by decide) rfl rfl ?_
  refine jm_perm [1, 0] rfl ?_
  exact u5_noneContainsItself_2 X hA N N σ0 (0 : Int) k0 (by decide)
end
