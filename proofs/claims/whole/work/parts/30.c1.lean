section
variable {p : Program} {l : Launch} {e : Env} {s : State} {m : MethodId} {args : Array Value} {below : List Frame} {meth : Method} {c : Code} {h : Nat → Nat} {cI cZ : ClassId} {D : va_G} {σz : Sg} {sz : Nat} {t1 t2 : Nat}
abbrev rm7_clear : Room := { frames := 0, cells := 0, slots := 0, locals := 0 }
def f7_clear (σ0 : Sg)  : Option (Sg × Int) :=
  nx (sI σ0 143 (0 : Int)) fun σ1 =>
  some (σ1, 0)
set_option maxRecDepth 100000 in
theorem t7_clear (l : Launch) {h : Nat → Nat} {cI cZ : ClassId} {D : va_G} {t1 t2 : Nat} {σ0 : Sg}  (k0 : ok σ0)  : ctV (cE t1 t2) l (cW h cI cZ) D (mT cI cZ) yX7_clear wsX7_clear rm7_clear [.ref (h 159)] σ0 (f7_clear σ0 ) := by
  refine of_V (cE_ok t1 t2) (own := RX7) (lv := [(0, .ref (h 159))]) (by decide) rfl rfl (Nat.le_of_ble_eq_true rfl) rfl (fun p e s m below meth c sz X hA => ?_)
  rw [f7_clear]
  refine jm_aload_n (n := 1) X 0 rfl dX7_clear_0 rfl ?_
  refine jm_iconst (n := 2) X dX7_clear_1 rfl ?_
  refine jm_put (n := 5) X 3 6 3 143 cW_X7 rfl (by decide) (fun w h => List.mem_cons_of_mem _ (List.mem_append_right _ h)) tyX7 tyX7_ok nmX7 (List.mem_of_getElem? (i := 1) rfl) rfl rfl rfl rfl (Nat.le_of_ble_eq_true rfl) cS_143 k0 (by decide) dX7_clear_2 rfl (fun σ1 k1 => ?_)
  exact jm_vret X rfl k1 dX7_clear_5
abbrev rm3_clear : Room := { frames := 0, cells := 0, slots := 0, locals := 0 }
def f3_clear (σ0 : Sg)  : Option (Sg × Int) :=
  nx (sI σ0 62 (0 : Int)) fun σ1 =>
  some (σ1, 0)
set_option maxRecDepth 100000 in
theorem t3_clear (l : Launch) {h : Nat → Nat} {cI cZ : ClassId} {D : va_G} {t1 t2 : Nat} {σ0 : Sg}  (k0 : ok σ0)  : ctV (cE t1 t2) l (cW h cI cZ) D (mT cI cZ) yX3_clear wsX3_clear rm3_clear [.ref (h 79)] σ0 (f3_clear σ0 ) := by
  refine of_V (cE_ok t1 t2) (own := RX3) (lv := [(0, .ref (h 79))]) (by decide) rfl rfl (Nat.le_of_ble_eq_true rfl) rfl (fun p e s m below meth c sz X hA => ?_)
  rw [f3_clear]
  refine jm_aload_n (n := 1) X 0 rfl dX3_clear_0 rfl ?_
  refine jm_iconst (n := 2) X dX3_clear_1 rfl ?_
  refine jm_put (n := 5) X 4 2 2 62 cW_X3 rfl (by decide) (fun w h => List.mem_cons_of_mem _ (List.mem_append_right _ h)) tyX3 tyX3_ok nmX3 (List.mem_of_getElem? (i := 1) rfl) rfl rfl rfl rfl (Nat.le_of_ble_eq_true rfl) cS_62 k0 (by decide) dX3_clear_2 rfl (fun σ1 k1 => ?_)
  exact jm_vret X rfl k1 dX3_clear_5
abbrev rm8_clear : Room := { frames := 0, cells := 0, slots := 0, locals := 0 }
def f8_clear (σ0 : Sg)  : Option (Sg × Int) :=
  nx (sI σ0 164 (0 : Int)) fun σ1 =>
  some (σ1, 0)
set_option maxRecDepth 100000 in
theorem t8_clear (l : Launch) {h : Nat → Nat} {cI cZ : ClassId} {D : va_G} {t1 t2 : Nat} {σ0 : Sg}  (k0 : ok σ0)  : ctV (cE t1 t2) l (cW h cI cZ) D (mT cI cZ) yX8_clear wsX8_clear rm8_clear [.ref (h 179)] σ0 (f8_clear σ0 ) := by
  refine of_V (cE_ok t1 t2) (own := RX8) (lv := [(0, .ref (h 179))]) (by decide) rfl rfl (Nat.le_of_ble_eq_true rfl) rfl (fun p e s m below meth c sz X hA => ?_)
  rw [f8_clear]
  refine jm_aload_n (n := 1) X 0 rfl dX8_clear_0 rfl ?_
  refine jm_iconst (n := 2) X dX8_clear_1 rfl ?_
  refine jm_put (n := 5) X 5 7 4 164 cW_X8 rfl (by decide) (fun w h => List.mem_cons_of_mem _ (List.mem_append_right _ h)) tyX8 tyX8_ok nmX8 (List.mem_of_getElem? (i := 1) rfl) rfl rfl rfl rfl (Nat.le_of_ble_eq_true rfl) cS_164 k0 (by decide) dX8_clear_2 rfl (fun σ1 k1 => ?_)
  exact jm_vret X rfl k1 dX8_clear_5
abbrev rm7_add : Room := { frames := 0, cells := 0, slots := 0, locals := 0 }
def f7_add (σ0 : Sg) (x1 : Int) (x2 : Int) (x3 : Int) : Option (Sg × Int) :=
  ck (0 ≤ (gI σ0 143) ∧ (gI σ0 143) < 200) <| nx (sA σ0 140 (gI σ0 143) x1) fun σ2 =>
  ck (0 ≤ (gI σ2 143) ∧ (gI σ2 143) < 200) <| nx (sA σ2 141 (gI σ2 143) x2) fun σ4 =>
  ck (0 ≤ (gI σ4 143) ∧ (gI σ4 143) < 200) <| nx (sA σ4 142 (gI σ4 143) x3) fun σ6 =>
  ck (inR ((gI σ6 143) + (1 : Int))) <|
  nx (sI σ6 143 ((gI σ6 143) + (1 : Int))) fun σ8 =>
  some (σ8, (gI σ6 143))
set_option maxRecDepth 100000 in
theorem t7_add (l : Launch) {h : Nat → Nat} {cI cZ : ClassId} {D : va_G} {t1 t2 : Nat} {σ0 : Sg} {x1 : Int} {x2 : Int} {x3 : Int} (k0 : ok σ0) (hx1 : inR x1) (hx2 : inR x2) (hx3 : inR x3) : ctI (cE t1 t2) l (cW h cI cZ) D (mT cI cZ) yX7_add wsX7_add rm7_add [.ref (h 159), .int (iI x1), .int (iI x2), .int (iI x3)] σ0 (f7_add σ0 x1 x2 x3) := by
  refine of_I (cE_ok t1 t2) (own := RX7) (lv := [(0, .ref (h 159)), (1, .int (iI x1)), (2, .int (iI x2)), (3, .int (iI x3))]) (by decide) rfl rfl (Nat.le_of_ble_eq_true rfl) rfl (fun p e s m below meth c sz X hA => ?_)
  rw [f7_add]
  refine jm_aload_n (n := 1) X 0 rfl dX7_add_0 rfl ?_
  refine jm_get (n := 4) X 3 6 0 cW_X7 rfl (by decide) (fun w h => List.mem_cons_of_mem _ (List.mem_append_right _ h)) (List.mem_of_getElem? (i := 1) rfl) rfl dX7_add_1 rfl ?_
  refine jm_aload_n (n := 5) X 0 rfl dX7_add_4 rfl ?_
  refine jm_get (n := 8) X 3 6 3 cW_X7 rfl (by decide) (fun w h => List.mem_cons_of_mem _ (List.mem_append_right _ h)) (List.mem_of_getElem? (i := 2) rfl) rfl dX7_add_5 rfl ?_
  refine jm_iload_n (n := 9) X 1 rfl dX7_add_8 rfl ?_
  refine jm_ast (n := 10) X 17 0 140 cA_140 rfl rfl cT_140 k0 (k0.1 143) hx1 dX7_add_9 rfl (fun h1 σ2 k2 => ?_)
  refine jm_aload_n (n := 11) X 0 rfl dX7_add_10 rfl ?_
  refine jm_get (n := 14) X 3 6 1 cW_X7 rfl (by decide) (fun w h => List.mem_cons_of_mem _ (List.mem_append_right _ h)) (List.mem_of_getElem? (i := 3) rfl) rfl dX7_add_11 rfl ?_
  refine jm_aload_n (n := 15) X 0 rfl dX7_add_14 rfl ?_
  refine jm_get (n := 18) X 3 6 3 cW_X7 rfl (by decide) (fun w h => List.mem_cons_of_mem _ (List.mem_append_right _ h)) (List.mem_of_getElem? (i := 2) rfl) rfl dX7_add_15 rfl ?_
  refine jm_iload_n (n := 19) X 2 rfl dX7_add_18 rfl ?_
  refine jm_ast (n := 20) X 18 0 141 cA_141 rfl rfl cT_141 k2 (k2.1 143) hx2 dX7_add_19 rfl (fun h3 σ4 k4 => ?_)
  refine jm_aload_n (n := 21) X 0 rfl dX7_add_20 rfl ?_
  refine jm_get (n := 24) X 3 6 2 cW_X7 rfl (by decide) (fun w h => List.mem_cons_of_mem _ (List.mem_append_right _ h)) (List.mem_of_getElem? (i := 4) rfl) rfl dX7_add_21 rfl ?_
  refine jm_aload_n (n := 25) X 0 rfl dX7_add_24 rfl ?_
  refine jm_get (n := 28) X 3 6 3 cW_X7 rfl (by decide) (fun w h => List.mem_cons_of_mem _ (List.mem_append_right _ h)) (List.mem_of_getElem? (i := 2) rfl) rfl dX7_add_25 rfl ?_
  refine jm_iload_n (n := 29) X 3 rfl dX7_add_28 rfl ?_
  refine jm_ast (n := 30) X 19 0 142 cA_142 rfl rfl cT_142 k4 (k4.1 143) hx3 dX7_add_29 rfl (fun h5 σ6 k6 => ?_)
  refine jm_aload_n (n := 31) X 0 rfl dX7_add_30 rfl ?_
  refine jm_dup (n := 32) X dX7_add_31 rfl rfl ?_
  refine jm_get (n := 35) X 3 6 3 cW_X7 rfl (by decide) (fun w h => List.mem_cons_of_mem _ (List.mem_append_right _ h)) (List.mem_of_getElem? (i := 2) rfl) rfl dX7_add_32 rfl ?_
  refine jm_dup_x1 (n := 36) X dX7_add_35 rfl rfl rfl ?_
  refine jm_iconst (n := 37) X dX7_add_36 rfl ?_
  refine jm_iadd (n := 38) X dX7_add_37 rfl (fun h7 => ?_)
  refine jm_put (n := 41) X 3 6 3 143 cW_X7 rfl (by decide) (fun w h => List.mem_cons_of_mem _ (List.mem_append_right _ h)) tyX7 tyX7_ok nmX7 (List.mem_of_getElem? (i := 2) rfl) rfl rfl rfl rfl (Nat.le_of_ble_eq_true rfl) cS_143 k6 h7 dX7_add_38 rfl (fun σ8 k8 => ?_)
  exact jm_iret X rfl k8 (k6.1 143) dX7_add_41
abbrev rm3_look : Room := { frames := 0, cells := 0, slots := 0, locals := 0 }
def b3_look_29 (N : Nat) (σ0 : Sg) (x3 : Int) : Option (Sg × Int) :=
  if x3 = (-1 : Int) then (some (σ0, (-1 : Int)))
  else (ck (0 ≤ x3 ∧ x3 < 400) <|
  some (σ0, (gA σ0 60 x3)))
set_option maxRecDepth 100000 in
theorem u3_look_29 (X : CX p m meth c cX3_look 5 (some .int) s args wsX3_look RX3 D (mT cI cZ) (cE t1 t2) (va_A (cW h cI cZ σz) sz)) (hA : ∀ z : Nat, s.heap.size ≤ z → va_A (cW h cI cZ σz) sz z) (N : Nat) (σ0 : Sg) (x3 : Int) (k0 : ok σ0) (hx3 : inR x3) : JI l rm3_look (cW h cI cZ) D (mT cI cZ) σz sz 5 p e s m args below meth c σ0 29 [(0, .ref (h 79)), (3, .int (iI x3))] [] (b3_look_29 N σ0 x3) := by
  rw [b3_look_29]
  refine jm_iload_n (n := 30) X 1 rfl dX3_look_29 rfl ?_
  refine jm_iconst (n := 31) X dX3_look_30 rfl ?_
  refine jm_icmp_ne (n := 34) (tgt := 38) X dX3_look_31 (by decide) hx3 (by decide) rfl (fun c1 => ?_) (fun c1 => ?_)
  · refine jm_iconst (n := 35) X dX3_look_34 rfl ?_
    refine jm_goto (n := 44) X dX3_look_35 (by decide) ?_
    exact jm_iret X rfl k0 (by decide) dX3_look_44
  · refine jm_aload_n (n := 39) X 0 rfl dX3_look_38 rfl ?_
    refine jm_get (n := 42) X 4 2 0 cW_X3 rfl (by decide) (fun w h => List.mem_cons_of_mem _ (List.mem_append_right _ h)) (List.mem_of_getElem? (i := 2) rfl) rfl dX3_look_39 rfl ?_
    refine jm_iload_n (n := 43) X 1 rfl dX3_look_42 rfl ?_
    refine jm_ald (n := 44) X 20 0 60 cA_60 rfl rfl hx3 dX3_look_43 rfl (fun h2 => ?_)
    exact jm_iret X rfl k0 (k0.2 60 _) dX3_look_44
def b3_look_5 (N : Nat) : Nat → Sg → Int → Int → Int → Option (Sg × Int)
  | 0, _, _, _, _ => none
  | n + 1, σ0, x2, x3, x4 => if x2 ≤ x4 then ((b3_look_29 N σ0 x3))
  else (if x3 = (-1 : Int) then ((b3_look_29 N σ0 x3))
  else (ck (0 ≤ x3 ∧ x3 < 400) <|
  ck (inR (x4 + (1 : Int))) <|
  ((b3_look_5 N n) σ0 x2 (gA σ0 61 x3) (x4 + (1 : Int)))))
set_option maxRecDepth 100000 in
theorem u3_look_5 (X : CX p m meth c cX3_look 5 (some .int) s args wsX3_look RX3 D (mT cI cZ) (cE t1 t2) (va_A (cW h cI cZ σz) sz)) (hA : ∀ z : Nat, s.heap.size ≤ z → va_A (cW h cI cZ σz) sz z) (N : Nat) : ∀ (n : Nat) (σ0 : Sg) (x2 : Int) (x3 : Int) (x4 : Int), ok σ0 → inR x2 → inR x3 → inR x4 → JI l rm3_look (cW h cI cZ) D (mT cI cZ) σz sz 5 p e s m args below meth c σ0 5 [(0, .ref (h 79)), (2, .int (iI x2)), (3, .int (iI x3)), (4, .int (iI x4))] [] (b3_look_5 N n σ0 x2 x3 x4) := by
  intro n
  induction n with
  | zero =>
    intro σ0 x2 x3 x4 k0 hx2 hx3 hx4 σ9 r9 ho9
    rw [b3_look_5] at ho9
    cases ho9
  | succ n ih =>
    intro σ0 x2 x3 x4 k0 hx2 hx3 hx4
    rw [b3_look_5]
    refine jm_iload (n := 7) X 3 rfl dX3_look_5 rfl ?_
    refine jm_iload_n (n := 8) X 1 rfl dX3_look_7 rfl ?_
    refine jm_icmp_ge (n := 11) (tgt := 29) X dX3_look_8 (by decide) hx4 hx2 rfl (fun c1 => ?_) (fun c1 => ?_)
    · refine jm_perm [0, 2] rfl ?_
      exact u3_look_29 X hA N σ0 x3 k0 hx3
    · refine jm_iload_n (n := 12) X 2 rfl dX3_look_11 rfl ?_
      refine jm_iconst (n := 13) X dX3_look_12 rfl ?_
      refine jm_icmp_eq (n := 16) (tgt := 29) X dX3_look_13 (by decide) hx3 (by decide) rfl (fun c2 => ?_) (fun c2 => ?_)
      · refine jm_perm [0, 2] rfl ?_
        exact u3_look_29 X hA N σ0 x3 k0 hx3
      · refine jm_aload_n (n := 17) X 0 rfl dX3_look_16 rfl ?_
        refine jm_get (n := 20) X 4 2 1 cW_X3 rfl (by decide) (fun w h => List.mem_cons_of_mem _ (List.mem_append_right _ h)) (List.mem_of_getElem? (i := 1) rfl) rfl dX3_look_17 rfl ?_
        refine jm_iload_n (n := 21) X 2 rfl dX3_look_20 rfl ?_
        refine jm_ald (n := 22) X 21 0 61 cA_61 rfl rfl hx3 dX3_look_21 rfl (fun h3 => ?_)
        refine jm_istore_n (n := 23) (lv' := [(3, .int (iI (gA σ0 61 x3))), (0, .ref (h 79)), (2, .int (iI x2)), (4, .int (iI x4))]) X dX3_look_22 (by decide) rfl rfl ?_
        refine jm_iinc (n := 26) (lv' := [(4, .int (iI (x4 + (1 : Int)))), (3, .int (iI (gA σ0 61 x3))), (0, .ref (h 79)), (2, .int (iI x2))]) X 3 rfl dX3_look_23 (by decide) rfl rfl (fun h4 => ?_)
        refine jm_goto (n := 5) X dX3_look_26 (by decide) ?_
        refine jm_perm [2, 3, 1, 0] rfl ?_
        exact ih σ0 x2 (gA σ0 61 x3) (x4 + (1 : Int)) k0 hx2 (k0.2 61 _) h4
def f3_look (N : Nat) (σ0 : Sg) (x1 : Int) (x2 : Int) : Option (Sg × Int) :=
  (b3_look_5 N N σ0 x2 x1 (0 : Int))
set_option maxRecDepth 100000 in
theorem t3_look (l : Launch) {h : Nat → Nat} {cI cZ : ClassId} {D : va_G} {t1 t2 : Nat} (N : Nat) {σ0 : Sg} {x1 : Int} {x2 : Int} (k0 : ok σ0) (hx1 : inR x1) (hx2 : inR x2) : ctI (cE t1 t2) l (cW h cI cZ) D (mT cI cZ) yX3_look wsX3_look rm3_look [.ref (h 79), .int (iI x1), .int (iI x2)] σ0 (f3_look N σ0 x1 x2) := by
  refine of_I (cE_ok t1 t2) (own := RX3) (lv := [(0, .ref (h 79)), (1, .int (iI x1)), (2, .int (iI x2))]) (by decide) rfl rfl (Nat.le_of_ble_eq_true rfl) rfl (fun p e s m below meth c sz X hA => ?_)
  rw [f3_look]
  refine jm_iload_n (n := 1) X 1 rfl dX3_look_0 rfl ?_
  refine jm_istore_n (n := 2) (lv' := [(3, .int (iI x1)), (0, .ref (h 79)), (1, .int (iI x1)), (2, .int (iI x2))]) X dX3_look_1 (by decide) rfl rfl ?_
  refine jm_iconst (n := 3) X dX3_look_2 rfl ?_
  refine jm_istore (n := 5) (lv' := [(4, .int (iI (0 : Int))), (3, .int (iI x1)), (0, .ref (h 79)), (1, .int (iI x1)), (2, .int (iI x2))]) X dX3_look_3 (by decide) rfl rfl ?_
  refine jm_perm [2, 4, 1, 0] rfl ?_
  exact u3_look_5 X hA N N σ0 x2 x1 (0 : Int) k0 hx2 hx1 (by decide)
abbrev rm3_bind : Room := { frames := 0, cells := 0, slots := 0, locals := 0 }
def f3_bind (σ0 : Sg) (x1 : Int) (x2 : Int) : Option (Sg × Int) :=
  ck (0 ≤ (gI σ0 62) ∧ (gI σ0 62) < 400) <| nx (sA σ0 60 (gI σ0 62) x1) fun σ2 =>
  ck (0 ≤ (gI σ2 62) ∧ (gI σ2 62) < 400) <| nx (sA σ2 61 (gI σ2 62) x2) fun σ4 =>
  ck (inR ((gI σ4 62) + (1 : Int))) <|
  nx (sI σ4 62 ((gI σ4 62) + (1 : Int))) fun σ6 =>
  some (σ6, (gI σ4 62))
set_option maxRecDepth 100000 in
theorem t3_bind (l : Launch) {h : Nat → Nat} {cI cZ : ClassId} {D : va_G} {t1 t2 : Nat} {σ0 : Sg} {x1 : Int} {x2 : Int} (k0 : ok σ0) (hx1 : inR x1) (hx2 : inR x2) : ctI (cE t1 t2) l (cW h cI cZ) D (mT cI cZ) yX3_bind wsX3_bind rm3_bind [.ref (h 79), .int (iI x1), .int (iI x2)] σ0 (f3_bind σ0 x1 x2) := by
  refine of_I (cE_ok t1 t2) (own := RX3) (lv := [(0, .ref (h 79)), (1, .int (iI x1)), (2, .int (iI x2))]) (by decide) rfl rfl (Nat.le_of_ble_eq_true rfl) rfl (fun p e s m below meth c sz X hA => ?_)
  rw [f3_bind]
  refine jm_aload_n (n := 1) X 0 rfl dX3_bind_0 rfl ?_
  refine jm_get (n := 4) X 4 2 0 cW_X3 rfl (by decide) (fun w h => List.mem_cons_of_mem _ (List.mem_append_right _ h)) (List.mem_of_getElem? (i := 1) rfl) rfl dX3_bind_1 rfl ?_
  refine jm_aload_n (n := 5) X 0 rfl dX3_bind_4 rfl ?_
  refine jm_get (n := 8) X 4 2 2 cW_X3 rfl (by decide) (fun w h => List.mem_cons_of_mem _ (List.mem_append_right _ h)) (List.mem_of_getElem? (i := 2) rfl) rfl dX3_bind_5 rfl ?_
  refine jm_iload_n (n := 9) X 1 rfl dX3_bind_8 rfl ?_
  refine jm_ast (n := 10) X 20 0 60 cA_60 rfl rfl cT_60 k0 (k0.1 62) hx1 dX3_bind_9 rfl (fun h1 σ2 k2 => ?_)
  refine jm_aload_n (n := 11) X 0 rfl dX3_bind_10 rfl ?_
  refine jm_get (n := 14) X 4 2 1 cW_X3 rfl (by decide) (fun w h => List.mem_cons_of_mem _ (List.mem_append_right _ h)) (List.mem_of_getElem? (i := 3) rfl) rfl dX3_bind_11 rfl ?_
  refine jm_aload_n (n := 15) X 0 rfl dX3_bind_14 rfl ?_
  refine jm_get (n := 18) X 4 2 2 cW_X3 rfl (by decide) (fun w h => List.mem_cons_of_mem _ (List.mem_append_right _ h)) (List.mem_of_getElem? (i := 2) rfl) rfl dX3_bind_15 rfl ?_
  refine jm_iload_n (n := 19) X 2 rfl dX3_bind_18 rfl ?_
  refine jm_ast (n := 20) X 21 0 61 cA_61 rfl rfl cT_61 k2 (k2.1 62) hx2 dX3_bind_19 rfl (fun h3 σ4 k4 => ?_)
  refine jm_aload_n (n := 21) X 0 rfl dX3_bind_20 rfl ?_
  refine jm_dup (n := 22) X dX3_bind_21 rfl rfl ?_
  refine jm_get (n := 25) X 4 2 2 cW_X3 rfl (by decide) (fun w h => List.mem_cons_of_mem _ (List.mem_append_right _ h)) (List.mem_of_getElem? (i := 2) rfl) rfl dX3_bind_22 rfl ?_
  refine jm_dup_x1 (n := 26) X dX3_bind_25 rfl rfl rfl ?_
  refine jm_iconst (n := 27) X dX3_bind_26 rfl ?_
  refine jm_iadd (n := 28) X dX3_bind_27 rfl (fun h5 => ?_)
  refine jm_put (n := 31) X 4 2 2 62 cW_X3 rfl (by decide) (fun w h => List.mem_cons_of_mem _ (List.mem_append_right _ h)) tyX3 tyX3_ok nmX3 (List.mem_of_getElem? (i := 2) rfl) rfl rfl rfl rfl (Nat.le_of_ble_eq_true rfl) cS_62 k4 h5 dX3_bind_28 rfl (fun σ6 k6 => ?_)
  exact jm_iret X rfl k6 (k4.1 62) dX3_bind_31
abbrev rm8_add : Room := { frames := 0, cells := 0, slots := 0, locals := 0 }
def f8_add (σ0 : Sg) (x1 : Int) (x2 : Int) (x3 : Int) (x4 : Int) : Option (Sg × Int) :=
  ck (0 ≤ (gI σ0 164) ∧ (gI σ0 164) < 200) <| nx (sA σ0 160 (gI σ0 164) x1) fun σ2 =>
  ck (0 ≤ (gI σ2 164) ∧ (gI σ2 164) < 200) <| nx (sA σ2 161 (gI σ2 164) x2) fun σ4 =>
  ck (0 ≤ (gI σ4 164) ∧ (gI σ4 164) < 200) <| nx (sA σ4 162 (gI σ4 164) x3) fun σ6 =>
  ck (0 ≤ (gI σ6 164) ∧ (gI σ6 164) < 200) <| nx (sA σ6 163 (gI σ6 164) x4) fun σ8 =>
  ck (inR ((gI σ8 164) + (1 : Int))) <|
  nx (sI σ8 164 ((gI σ8 164) + (1 : Int))) fun σ10 =>
  some (σ10, (gI σ8 164))
set_option maxRecDepth 100000 in
theorem t8_add (l : Launch) {h : Nat → Nat} {cI cZ : ClassId} {D : va_G} {t1 t2 : Nat} {σ0 : Sg} {x1 : Int} {x2 : Int} {x3 : Int} {x4 : Int} (k0 : ok σ0) (hx1 : inR x1) (hx2 : inR x2) (hx3 : inR x3) (hx4 : inR x4) : ctI (cE t1 t2) l (cW h cI cZ) D (mT cI cZ) yX8_add wsX8_add rm8_add [.ref (h 179), .int (iI x1), .int (iI x2), .int (iI x3), .int (iI x4)] σ0 (f8_add σ0 x1 x2 x3 x4) := by
  refine of_I (cE_ok t1 t2) (own := RX8) (lv := [(0, .ref (h 179)), (1, .int (iI x1)), (2, .int (iI x2)), (3, .int (iI x3)), (4, .int (iI x4))]) (by decide) rfl rfl (Nat.le_of_ble_eq_true rfl) rfl (fun p e s m below meth c sz X hA => ?_)
  rw [f8_add]
  refine jm_aload_n (n := 1) X 0 rfl dX8_add_0 rfl ?_
  refine jm_get (n := 4) X 5 7 0 cW_X8 rfl (by decide) (fun w h => List.mem_cons_of_mem _ (List.mem_append_right _ h)) (List.mem_of_getElem? (i := 1) rfl) rfl dX8_add_1 rfl ?_
  refine jm_aload_n (n := 5) X 0 rfl dX8_add_4 rfl ?_
  refine jm_get (n := 8) X 5 7 4 cW_X8 rfl (by decide) (fun w h => List.mem_cons_of_mem _ (List.mem_append_right _ h)) (List.mem_of_getElem? (i := 2) rfl) rfl dX8_add_5 rfl ?_
  refine jm_iload_n (n := 9) X 1 rfl dX8_add_8 rfl ?_
  refine jm_ast (n := 10) X 22 0 160 cA_160 rfl rfl cT_160 k0 (k0.1 164) hx1 dX8_add_9 rfl (fun h1 σ2 k2 => ?_)
  refine jm_aload_n (n := 11) X 0 rfl dX8_add_10 rfl ?_
  refine jm_get (n := 14) X 5 7 1 cW_X8 rfl (by decide) (fun w h => List.mem_cons_of_mem _ (List.mem_append_right _ h)) (List.mem_of_getElem? (i := 3) rfl) rfl dX8_add_11 rfl ?_
  refine jm_aload_n (n := 15) X 0 rfl dX8_add_14 rfl ?_
  refine jm_get (n := 18) X 5 7 4 cW_X8 rfl (by decide) (fun w h => List.mem_cons_of_mem _ (List.mem_append_right _ h)) (List.mem_of_getElem? (i := 2) rfl) rfl dX8_add_15 rfl ?_
  refine jm_iload_n (n := 19) X 2 rfl dX8_add_18 rfl ?_
  refine jm_ast (n := 20) X 23 0 161 cA_161 rfl rfl cT_161 k2 (k2.1 164) hx2 dX8_add_19 rfl (fun h3 σ4 k4 => ?_)
  refine jm_aload_n (n := 21) X 0 rfl dX8_add_20 rfl ?_
  refine jm_get (n := 24) X 5 7 2 cW_X8 rfl (by decide) (fun w h => List.mem_cons_of_mem _ (List.mem_append_right _ h)) (List.mem_of_getElem? (i := 4) rfl) rfl dX8_add_21 rfl ?_
  refine jm_aload_n (n := 25) X 0 rfl dX8_add_24 rfl ?_
  refine jm_get (n := 28) X 5 7 4 cW_X8 rfl (by decide) (fun w h => List.mem_cons_of_mem _ (List.mem_append_right _ h)) (List.mem_of_getElem? (i := 2) rfl) rfl dX8_add_25 rfl ?_
  refine jm_iload_n (n := 29) X 3 rfl dX8_add_28 rfl ?_
  refine jm_ast (n := 30) X 24 0 162 cA_162 rfl rfl cT_162 k4 (k4.1 164) hx3 dX8_add_29 rfl (fun h5 σ6 k6 => ?_)
  refine jm_aload_n (n := 31) X 0 rfl dX8_add_30 rfl ?_
  refine jm_get (n := 34) X 5 7 3 cW_X8 rfl (by decide) (fun w h => List.mem_cons_of_mem _ (List.mem_append_right _ h)) (List.mem_of_getElem? (i := 5) rfl) rfl dX8_add_31 rfl ?_
  refine jm_aload_n (n := 35) X 0 rfl dX8_add_34 rfl ?_
  refine jm_get (n := 38) X 5 7 4 cW_X8 rfl (by decide) (fun w h => List.mem_cons_of_mem _ (List.mem_append_right _ h)) (List.mem_of_getElem? (i := 2) rfl) rfl dX8_add_35 rfl ?_
  refine jm_iload (n := 40) X 4 rfl dX8_add_38 rfl ?_
  refine jm_ast (n := 41) X 25 0 163 cA_163 rfl rfl cT_163 k6 (k6.1 164) hx4 dX8_add_40 rfl (fun h7 σ8 k8 => ?_)
  refine jm_aload_n (n := 42) X 0 rfl dX8_add_41 rfl ?_
  refine jm_dup (n := 43) X dX8_add_42 rfl rfl ?_
  refine jm_get (n := 46) X 5 7 4 cW_X8 rfl (by decide) (fun w h => List.mem_cons_of_mem _ (List.mem_append_right _ h)) (List.mem_of_getElem? (i := 2) rfl) rfl dX8_add_43 rfl ?_
  refine jm_dup_x1 (n := 47) X dX8_add_46 rfl rfl rfl ?_
  refine jm_iconst (n := 48) X dX8_add_47 rfl ?_
  refine jm_iadd (n := 49) X dX8_add_48 rfl (fun h9 => ?_)
  refine jm_put (n := 52) X 5 7 4 164 cW_X8 rfl (by decide) (fun w h => List.mem_cons_of_mem _ (List.mem_append_right _ h)) tyX8 tyX8_ok nmX8 (List.mem_of_getElem? (i := 2) rfl) rfl rfl rfl rfl (Nat.le_of_ble_eq_true rfl) cS_164 k8 h9 dX8_add_49 rfl (fun σ10 k10 => ?_)
  exact jm_iret X rfl k10 (k8.1 164) dX8_add_52
abbrev rm4_has : Room := { frames := 0, cells := 0, slots := 0, locals := 0 }
def f4_has (σ0 : Sg) (x1 : Int) : Option (Sg × Int) :=
  if x1 < 0 then (ck ((0 : Int) = 0 ∨ (0 : Int) = 1) (some (σ0, (0 : Int))))
  else (if (gI σ0 87) ≤ x1 then (ck ((0 : Int) = 0 ∨ (0 : Int) = 1) (some (σ0, (0 : Int))))
  else (ck ((1 : Int) = 0 ∨ (1 : Int) = 1) (some (σ0, (1 : Int)))))
set_option maxRecDepth 100000 in
theorem t4_has (l : Launch) {h : Nat → Nat} {cI cZ : ClassId} {D : va_G} {t1 t2 : Nat} {σ0 : Sg} {x1 : Int} (k0 : ok σ0) (hx1 : inR x1) : ctI (cE t1 t2) l (cW h cI cZ) D (mT cI cZ) yX4_has wsX4_has rm4_has [.ref (h 99), .int (iI x1)] σ0 (f4_has σ0 x1) := by
  refine of_Z (cE_ok t1 t2) (own := RX4) (lv := [(0, .ref (h 99)), (1, .int (iI x1))]) (by decide) rfl rfl (Nat.le_of_ble_eq_true rfl) rfl (fun p e s m below meth c sz X hA => ?_)
  rw [f4_has]
  refine jm_iload_n (n := 1) X 1 rfl dX4_has_0 rfl ?_
  refine jm_if_lt (n := 4) (tgt := 16) X dX4_has_1 (by decide) hx1 rfl (fun c1 => ?_) (fun c1 => ?_)
  · refine jm_iconst (n := 17) X dX4_has_16 rfl ?_
    exact jm_zret X rfl k0 dX4_has_17
  · refine jm_iload_n (n := 5) X 1 rfl dX4_has_4 rfl ?_
    refine jm_aload_n (n := 6) X 0 rfl dX4_has_5 rfl ?_
    refine jm_get (n := 9) X 1 3 7 cW_X4 rfl (by decide) (fun w h => List.mem_cons_of_mem _ (List.mem_append_right _ h)) (List.mem_of_getElem? (i := 1) rfl) rfl dX4_has_6 rfl ?_
    refine jm_icmp_ge (n := 12) (tgt := 16) X dX4_has_9 (by decide) hx1 (k0.1 87) rfl (fun c2 => ?_) (fun c2 => ?_)
    · refine jm_iconst (n := 17) X dX4_has_16 rfl ?_
      exact jm_zret X rfl k0 dX4_has_17
    · refine jm_iconst (n := 13) X dX4_has_12 rfl ?_
      refine jm_goto (n := 17) X dX4_has_13 (by decide) ?_
      exact jm_zret X rfl k0 dX4_has_17
abbrev rm4_hasClosed : Room := { frames := 1, cells := 0, slots := 0, locals := 21 }
def f4_hasClosed (σ0 : Sg) (x1 : Int) : Option (Sg × Int) :=
  bd (f4_has σ0 x1) fun σ1 r1 =>
  if r1 = 0 then (ck ((0 : Int) = 0 ∨ (0 : Int) = 1) (some (σ1, (0 : Int))))
  else (ck (0 ≤ x1 ∧ x1 < 60) <|
  if (gA σ1 84 x1) = 0 then (ck ((1 : Int) = 0 ∨ (1 : Int) = 1) (some (σ1, (1 : Int))))
  else (ck ((0 : Int) = 0 ∨ (0 : Int) = 1) (some (σ1, (0 : Int)))))
set_option maxRecDepth 100000 in
theorem t4_hasClosed (l : Launch) {h : Nat → Nat} {cI cZ : ClassId} {D : va_G} {t1 t2 : Nat} {σ0 : Sg} {x1 : Int} (k0 : ok σ0) (hx1 : inR x1) : ctI (cE t1 t2) l (cW h cI cZ) D (mT cI cZ) yX4_hasClosed wsX4_hasClosed rm4_hasClosed [.ref (h 99), .int (iI x1)] σ0 (f4_hasClosed σ0 x1) := by
  refine of_Z (cE_ok t1 t2) (own := RX4) (lv := [(0, .ref (h 99)), (1, .int (iI x1))]) (by decide) rfl rfl (Nat.le_of_ble_eq_true rfl) rfl (fun p e s m below meth c sz X hA => ?_)
  rw [f4_hasClosed]
  refine jm_aload_n (n := 1) X 0 rfl dX4_hasClosed_0 rfl ?_
  refine jm_iload_n (n := 2) X 1 rfl dX4_hasClosed_1 rfl ?_
  refine jm_callVi (n := 5) (vs := [.int (iI x1)]) (rest := []) X hA (t4_has l k0 hx1) (cwV 1 X.2.2.2.2.1 gX4_hasClosed_X4_has rfl rfl rfl (by decide +kernel) ⟨Nat.le_of_ble_eq_true rfl, Nat.le_of_ble_eq_true rfl⟩) 1 3 cW_X4 rfl rfl (Nat.le_of_ble_eq_true rfl) dX4_hasClosed_2 rfl (fun σ1 r1 k1 h2 => ?_)
  refine jm_if_eq (n := 8) (tgt := 21) X dX4_hasClosed_5 (by decide) h2 rfl (fun c3 => ?_) (fun c3 => ?_)
  · refine jm_iconst (n := 22) X dX4_hasClosed_21 rfl ?_
    exact jm_zret X rfl k1 dX4_hasClosed_22
  · refine jm_aload_n (n := 9) X 0 rfl dX4_hasClosed_8 rfl ?_
    refine jm_get (n := 12) X 1 3 4 cW_X4 rfl (by decide) (fun w h => List.mem_cons_of_mem _ (List.mem_append_right _ h)) (List.mem_of_getElem? (i := 1) rfl) rfl dX4_hasClosed_9 rfl ?_
    refine jm_iload_n (n := 13) X 1 rfl dX4_hasClosed_12 rfl ?_
    refine jm_ald (n := 14) X 13 0 84 cA_84 rfl rfl hx1 dX4_hasClosed_13 rfl (fun h4 => ?_)
    refine jm_if_ne (n := 17) (tgt := 21) X dX4_hasClosed_14 (by decide) (k1.2 84 _) rfl (fun c5 => ?_) (fun c5 => ?_)
    · refine jm_iconst (n := 18) X dX4_hasClosed_17 rfl ?_
      refine jm_goto (n := 22) X dX4_hasClosed_18 (by decide) ?_
      exact jm_zret X rfl k1 dX4_hasClosed_22
    · refine jm_iconst (n := 22) X dX4_hasClosed_21 rfl ?_
      exact jm_zret X rfl k1 dX4_hasClosed_22
abbrev rm4_wordsFit : Room := { frames := 1, cells := 0, slots := 0, locals := 21 }
def b4_wordsFit_119 (σ0 : Sg) (x4 : Int) (x5 : Int) : Option (Sg × Int) :=
  if x5 < (3 : Int) then (ck ((1 : Int) = 0 ∨ (1 : Int) = 1) (some (σ0, (1 : Int))))
  else (bd (f4_has σ0 x4) fun σ2 r2 =>
  if r2 = 0 then (ck ((0 : Int) = 0 ∨ (0 : Int) = 1) (some (σ2, (0 : Int))))
  else (ck ((1 : Int) = 0 ∨ (1 : Int) = 1) (some (σ2, (1 : Int)))))
set_option maxRecDepth 100000 in
theorem u4_wordsFit_119 (X : CX p m meth c cX4_wordsFit 6 (some .boolean) s args wsX4_wordsFit RX4 D (mT cI cZ) (cE t1 t2) (va_A (cW h cI cZ σz) sz)) (hA : ∀ z : Nat, s.heap.size ≤ z → va_A (cW h cI cZ σz) sz z) (σ0 : Sg) (x4 : Int) (x5 : Int) (k0 : ok σ0) (hx4 : inR x4) (hx5 : inR x5) : JI l rm4_wordsFit (cW h cI cZ) D (mT cI cZ) σz sz 6 p e s m args below meth c σ0 119 [(0, .ref (h 99)), (4, .int (iI x4)), (5, .int (iI x5))] [] (b4_wordsFit_119 σ0 x4 x5) := by
  rw [b4_wordsFit_119]
  refine jm_iload (n := 121) X 2 rfl dX4_wordsFit_119 rfl ?_
  refine jm_iconst (n := 122) X dX4_wordsFit_121 rfl ?_
  refine jm_icmp_lt (n := 125) (tgt := 134) X dX4_wordsFit_122 (by decide) hx5 (by decide) rfl (fun c1 => ?_) (fun c1 => ?_)
  · refine jm_iconst (n := 135) X dX4_wordsFit_134 rfl ?_
    refine jm_goto (n := 139) X dX4_wordsFit_135 (by decide) ?_
    exact jm_zret X rfl k0 dX4_wordsFit_139
  · refine jm_aload_n (n := 126) X 0 rfl dX4_wordsFit_125 rfl ?_
    refine jm_iload (n := 128) X 1 rfl dX4_wordsFit_126 rfl ?_
    refine jm_callVi (n := 131) (vs := [.int (iI x4)]) (rest := []) X hA (t4_has l k0 hx4) (cwV 1 X.2.2.2.2.1 gX4_wordsFit_X4_has rfl rfl rfl (by decide +kernel) ⟨Nat.le_of_ble_eq_true rfl, Nat.le_of_ble_eq_true rfl⟩) 1 3 cW_X4 rfl rfl (Nat.le_of_ble_eq_true rfl) dX4_wordsFit_128 rfl (fun σ2 r2 k2 h3 => ?_)
    refine jm_if_eq (n := 134) (tgt := 138) X dX4_wordsFit_131 (by decide) h3 rfl (fun c4 => ?_) (fun c4 => ?_)
    · refine jm_iconst (n := 139) X dX4_wordsFit_138 rfl ?_
      exact jm_zret X rfl k2 dX4_wordsFit_139
    · refine jm_iconst (n := 135) X dX4_wordsFit_134 rfl ?_
      refine jm_goto (n := 139) X dX4_wordsFit_135 (by decide) ?_
      exact jm_zret X rfl k2 dX4_wordsFit_139
def f4_wordsFit (σ0 : Sg) (x1 : Int) (x2 : Int) (x3 : Int) (x4 : Int) : Option (Sg × Int) :=
  if x1 < 0 then (ck ((0 : Int) = 0 ∨ (0 : Int) = 1) (some (σ0, (0 : Int))))
  else (if x1 < (12 : Int) then (if x1 = 0 then (if x2 < (-1000 : Int) then (ck ((0 : Int) = 0 ∨ (0 : Int) = 1) (some (σ0, (0 : Int))))
  else (if (1000 : Int) < x2 then (ck ((0 : Int) = 0 ∨ (0 : Int) = 1) (some (σ0, (0 : Int))))
  else (ck ((1 : Int) = 0 ∨ (1 : Int) = 1) (some (σ0, (1 : Int))))))
  else if x1 = 1 then (if x2 = 0 then (ck ((1 : Int) = 0 ∨ (1 : Int) = 1) (some (σ0, (1 : Int))))
  else (if x2 = (1 : Int) then (ck ((1 : Int) = 0 ∨ (1 : Int) = 1) (some (σ0, (1 : Int))))
  else (ck ((0 : Int) = 0 ∨ (0 : Int) = 1) (some (σ0, (0 : Int))))))
  else if x1 = 2 then (if x2 < 0 then (ck ((0 : Int) = 0 ∨ (0 : Int) = 1) (some (σ0, (0 : Int))))
  else (if (5 : Int) < x2 then (ck ((0 : Int) = 0 ∨ (0 : Int) = 1) (some (σ0, (0 : Int))))
  else (ck ((1 : Int) = 0 ∨ (1 : Int) = 1) (some (σ0, (1 : Int))))))
  else (ck (0 ≤ x1 ∧ x1 < 12) <|
  bd (f4_has σ0 x2) fun σ13 r13 =>
  if r13 = 0 then (ck ((0 : Int) = 0 ∨ (0 : Int) = 1) (some (σ13, (0 : Int))))
  else (if (tw x1) < (2 : Int) then ((b4_wordsFit_119 σ13 x4 (tw x1)))
  else (bd (f4_has σ13 x3) fun σ17 r17 =>
  if r17 = 0 then (ck ((0 : Int) = 0 ∨ (0 : Int) = 1) (some (σ17, (0 : Int))))
  else ((b4_wordsFit_119 σ17 x4 (tw x1)))))))
  else (ck ((0 : Int) = 0 ∨ (0 : Int) = 1) (some (σ0, (0 : Int)))))
set_option maxRecDepth 100000 in
theorem t4_wordsFit (l : Launch) {h : Nat → Nat} {cI cZ : ClassId} {D : va_G} {t1 t2 : Nat} {σ0 : Sg} {x1 : Int} {x2 : Int} {x3 : Int} {x4 : Int} (k0 : ok σ0) (hx1 : inR x1) (hx2 : inR x2) (hx3 : inR x3) (hx4 : inR x4) : ctI (cE t1 t2) l (cW h cI cZ) D (mT cI cZ) yX4_wordsFit wsX4_wordsFit rm4_wordsFit [.ref (h 99), .int (iI x1), .int (iI x2), .int (iI x3), .int (iI x4)] σ0 (f4_wordsFit σ0 x1 x2 x3 x4) := by
  refine of_Z (cE_ok t1 t2) (own := RX4) (lv := [(0, .ref (h 99)), (1, .int (iI x1)), (2, .int (iI x2)), (3, .int (iI x3)), (4, .int (iI x4))]) (by decide) rfl rfl (Nat.le_of_ble_eq_true rfl) rfl (fun p e s m below meth c sz X hA => ?_)
  rw [f4_wordsFit]
  refine jm_iload_n (n := 1) X 1 rfl dX4_wordsFit_0 rfl ?_
  refine jm_if_lt (n := 4) (tgt := 12) X dX4_wordsFit_1 (by decide) hx1 rfl (fun c1 => ?_) (fun c1 => ?_)
  · refine jm_iconst (n := 13) X dX4_wordsFit_12 rfl ?_
    exact jm_zret X rfl k0 dX4_wordsFit_13
  · refine jm_iload_n (n := 5) X 1 rfl dX4_wordsFit_4 rfl ?_
    refine jm_gets1 (n := 8) X (List.mem_of_getElem? (i := 1) rfl) dX4_wordsFit_5 rfl ?_
    refine jm_tlen1 (n := 9) X dX4_wordsFit_8 rfl ?_
    refine jm_icmp_lt (n := 12) (tgt := 14) X dX4_wordsFit_9 (by decide) hx1 (by decide) rfl (fun c2 => ?_) (fun c2 => ?_)
    · refine jm_iload_n (n := 15) X 1 rfl dX4_wordsFit_14 rfl ?_
      refine jm_tcase (tgt := 40) X (0) dX4_wordsFit_15 hx1 (by decide) (by decide) rfl (by decide) (fun c3 => ?_) (fun c3 => ?_)
      · refine jm_iload_n (n := 41) X 2 rfl dX4_wordsFit_40 rfl ?_
        refine jm_sipush (n := 44) X dX4_wordsFit_41 (by decide) rfl ?_
        refine jm_icmp_lt (n := 47) (tgt := 58) X dX4_wordsFit_44 (by decide) hx2 (by decide) rfl (fun c4 => ?_) (fun c4 => ?_)
        · refine jm_iconst (n := 59) X dX4_wordsFit_58 rfl ?_
          exact jm_zret X rfl k0 dX4_wordsFit_59
        · refine jm_iload_n (n := 48) X 2 rfl dX4_wordsFit_47 rfl ?_
          refine jm_sipush (n := 51) X dX4_wordsFit_48 (by decide) rfl ?_
          refine jm_icmp_gt (n := 54) (tgt := 58) X dX4_wordsFit_51 (by decide) hx2 (by decide) rfl (fun c5 => ?_) (fun c5 => ?_)
          · refine jm_iconst (n := 59) X dX4_wordsFit_58 rfl ?_
            exact jm_zret X rfl k0 dX4_wordsFit_59
          · refine jm_iconst (n := 55) X dX4_wordsFit_54 rfl ?_
            refine jm_goto (n := 59) X dX4_wordsFit_55 (by decide) ?_
            exact jm_zret X rfl k0 dX4_wordsFit_59
      refine jm_tcase (tgt := 60) X (1) dX4_wordsFit_15 hx1 (by decide) (by decide) rfl (by decide) (fun c6 => ?_) (fun c6 => ?_)
      · refine jm_iload_n (n := 61) X 2 rfl dX4_wordsFit_60 rfl ?_
        refine jm_if_eq (n := 64) (tgt := 69) X dX4_wordsFit_61 (by decide) hx2 rfl (fun c7 => ?_) (fun c7 => ?_)
        · refine jm_iconst (n := 70) X dX4_wordsFit_69 rfl ?_
          refine jm_goto (n := 74) X dX4_wordsFit_70 (by decide) ?_
          exact jm_zret X rfl k0 dX4_wordsFit_74
        · refine jm_iload_n (n := 65) X 2 rfl dX4_wordsFit_64 rfl ?_
          refine jm_iconst (n := 66) X dX4_wordsFit_65 rfl ?_
          refine jm_icmp_ne (n := 69) (tgt := 73) X dX4_wordsFit_66 (by decide) hx2 (by decide) rfl (fun c8 => ?_) (fun c8 => ?_)
          · refine jm_iconst (n := 70) X dX4_wordsFit_69 rfl ?_
            refine jm_goto (n := 74) X dX4_wordsFit_70 (by decide) ?_
            exact jm_zret X rfl k0 dX4_wordsFit_74
          · refine jm_iconst (n := 74) X dX4_wordsFit_73 rfl ?_
            exact jm_zret X rfl k0 dX4_wordsFit_74
      refine jm_tcase (tgt := 75) X (2) dX4_wordsFit_15 hx1 (by decide) (by decide) rfl (by decide) (fun c9 => ?_) (fun c9 => ?_)
      · refine jm_iload_n (n := 76) X 2 rfl dX4_wordsFit_75 rfl ?_
        refine jm_if_lt (n := 79) (tgt := 88) X dX4_wordsFit_76 (by decide) hx2 rfl (fun c10 => ?_) (fun c10 => ?_)
        · refine jm_iconst (n := 89) X dX4_wordsFit_88 rfl ?_
          exact jm_zret X rfl k0 dX4_wordsFit_89
        · refine jm_iload_n (n := 80) X 2 rfl dX4_wordsFit_79 rfl ?_
          refine jm_iconst (n := 81) X dX4_wordsFit_80 rfl ?_
          refine jm_icmp_gt (n := 84) (tgt := 88) X dX4_wordsFit_81 (by decide) hx2 (by decide) rfl (fun c11 => ?_) (fun c11 => ?_)
          · refine jm_iconst (n := 89) X dX4_wordsFit_88 rfl ?_
            exact jm_zret X rfl k0 dX4_wordsFit_89
          · refine jm_iconst (n := 85) X dX4_wordsFit_84 rfl ?_
            refine jm_goto (n := 89) X dX4_wordsFit_85 (by decide) ?_
            exact jm_zret X rfl k0 dX4_wordsFit_89
      refine jm_tout (tgt := 90) X dX4_wordsFit_15 hx1 (by decide) (by omega) ?_
      refine jm_gets1 (n := 93) X (List.mem_of_getElem? (i := 1) rfl) dX4_wordsFit_90 rfl ?_
      refine jm_iload_n (n := 94) X 1 rfl dX4_wordsFit_93 rfl ?_
      refine jm_tald1 (n := 95) X hx1 dX4_wordsFit_94 rfl (fun h12 => ?_)
      refine jm_istore (n := 97) (lv' := [(5, .int (iI (tw x1))), (0, .ref (h 99)), (1, .int (iI x1)), (2, .int (iI x2)), (3, .int (iI x3)), (4, .int (iI x4))]) X dX4_wordsFit_95 (by decide) rfl rfl ?_
      refine jm_aload_n (n := 98) X 1 rfl dX4_wordsFit_97 rfl ?_
      refine jm_iload_n (n := 99) X 3 rfl dX4_wordsFit_98 rfl ?_
      refine jm_callVi (n := 102) (vs := [.int (iI x2)]) (rest := []) X hA (t4_has l k0 hx2) (cwV 1 X.2.2.2.2.1 gX4_wordsFit_X4_has rfl rfl rfl (by decide +kernel) ⟨Nat.le_of_ble_eq_true rfl, Nat.le_of_ble_eq_true rfl⟩) 1 3 cW_X4 rfl rfl (Nat.le_of_ble_eq_true rfl) dX4_wordsFit_99 rfl (fun σ13 r13 k13 h14 => ?_)
      refine jm_if_eq (n := 105) (tgt := 138) X dX4_wordsFit_102 (by decide) h14 rfl (fun c15 => ?_) (fun c15 => ?_)
      · refine jm_iconst (n := 139) X dX4_wordsFit_138 rfl ?_
        exact jm_zret X rfl k13 dX4_wordsFit_139
      · refine jm_iload (n := 107) X 0 rfl dX4_wordsFit_105 rfl ?_
        refine jm_iconst (n := 108) X dX4_wordsFit_107 rfl ?_
        refine jm_icmp_lt (n := 111) (tgt := 119) X dX4_wordsFit_108 (by decide) (in_tw _) (by decide) rfl (fun c16 => ?_) (fun c16 => ?_)
        · refine jm_perm [1, 5, 0] rfl ?_
          exact u4_wordsFit_119 X hA σ13 x4 (tw x1) k13 hx4 (in_tw _)
        · refine jm_aload_n (n := 112) X 1 rfl dX4_wordsFit_111 rfl ?_
          refine jm_iload_n (n := 113) X 4 rfl dX4_wordsFit_112 rfl ?_
          refine jm_callVi (n := 116) (vs := [.int (iI x3)]) (rest := []) X hA (t4_has l k13 hx3) (cwV 1 X.2.2.2.2.1 gX4_wordsFit_X4_has rfl rfl rfl (by decide +kernel) ⟨Nat.le_of_ble_eq_true rfl, Nat.le_of_ble_eq_true rfl⟩) 1 3 cW_X4 rfl rfl (Nat.le_of_ble_eq_true rfl) dX4_wordsFit_113 rfl (fun σ17 r17 k17 h18 => ?_)
          refine jm_if_eq (n := 119) (tgt := 138) X dX4_wordsFit_116 (by decide) h18 rfl (fun c19 => ?_) (fun c19 => ?_)
          · refine jm_iconst (n := 139) X dX4_wordsFit_138 rfl ?_
            exact jm_zret X rfl k17 dX4_wordsFit_139
          · refine jm_perm [1, 5, 0] rfl ?_
            exact u4_wordsFit_119 X hA σ17 x4 (tw x1) k17 hx4 (in_tw _)
    · refine jm_iconst (n := 13) X dX4_wordsFit_12 rfl ?_
      exact jm_zret X rfl k0 dX4_wordsFit_13
abbrev rm4_heightOver : Room := { frames := 1, cells := 0, slots := 0, locals := 21 }
def b4_heightOver_35 (σ0 : Sg) (x1 : Int) (x4 : Int) (x5 : Int) : Option (Sg × Int) :=
  if x1 < (3 : Int) then (ck (inR (x5 + (1 : Int))) <|
  some (σ0, (x5 + (1 : Int))))
  else (ck (0 ≤ x4 ∧ x4 < 60) <|
  ck (inR ((mx x5 (gA σ0 85 x4)) + (1 : Int))) <|
  some (σ0, ((mx x5 (gA σ0 85 x4)) + (1 : Int))))
set_option maxRecDepth 100000 in
theorem u4_heightOver_35 (X : CX p m meth c cX4_heightOver 6 (some .int) s args wsX4_heightOver RX4 D (mT cI cZ) (cE t1 t2) (va_A (cW h cI cZ σz) sz)) (hA : ∀ z : Nat, s.heap.size ≤ z → va_A (cW h cI cZ σz) sz z) (σ0 : Sg) (x1 : Int) (x4 : Int) (x5 : Int) (k0 : ok σ0) (hx1 : inR x1) (hx4 : inR x4) (hx5 : inR x5) : JI l rm4_heightOver (cW h cI cZ) D (mT cI cZ) σz sz 6 p e s m args below meth c σ0 35 [(0, .ref (h 99)), (1, .int (iI x1)), (4, .int (iI x4)), (5, .int (iI x5))] [] (b4_heightOver_35 σ0 x1 x4 x5) := by
  rw [b4_heightOver_35]
  refine jm_iload_n (n := 36) X 1 rfl dX4_heightOver_35 rfl ?_
  refine jm_iconst (n := 37) X dX4_heightOver_36 rfl ?_
  refine jm_icmp_lt (n := 40) (tgt := 54) X dX4_heightOver_37 (by decide) hx1 (by decide) rfl (fun c1 => ?_) (fun c1 => ?_)
  · refine jm_iload (n := 56) X 3 rfl dX4_heightOver_54 rfl ?_
    refine jm_iconst (n := 57) X dX4_heightOver_56 rfl ?_
    refine jm_iadd (n := 58) X dX4_heightOver_57 rfl (fun h2 => ?_)
    exact jm_iret X rfl k0 h2 dX4_heightOver_58
  · refine jm_iload (n := 42) X 3 rfl dX4_heightOver_40 rfl ?_
    refine jm_aload_n (n := 43) X 0 rfl dX4_heightOver_42 rfl ?_
    refine jm_get (n := 46) X 1 3 5 cW_X4 rfl (by decide) (fun w h => List.mem_cons_of_mem _ (List.mem_append_right _ h)) (List.mem_of_getElem? (i := 1) rfl) rfl dX4_heightOver_43 rfl ?_
    refine jm_iload (n := 48) X 2 rfl dX4_heightOver_46 rfl ?_
    refine jm_ald (n := 49) X 14 0 85 cA_85 rfl rfl hx4 dX4_heightOver_48 rfl (fun h3 => ?_)
    refine jm_mmax (n := 52) X (List.mem_of_getElem? (i := 2) rfl) (List.mem_of_getElem? (i := 3) rfl) (List.mem_of_getElem? (i := 4) rfl) (List.mem_of_getElem? (i := 5) rfl) ⟨Nat.le_of_ble_eq_true rfl, Nat.le_of_ble_eq_true rfl⟩ hx5 (k0.2 85 _) dX4_heightOver_49 rfl ?_
    refine jm_istore (n := 54) (lv' := [(5, .int (iI (mx x5 (gA σ0 85 x4)))), (0, .ref (h 99)), (1, .int (iI x1)), (4, .int (iI x4))]) X dX4_heightOver_52 (by decide) rfl rfl ?_
    refine jm_iload (n := 56) X 0 rfl dX4_heightOver_54 rfl ?_
    refine jm_iconst (n := 57) X dX4_heightOver_56 rfl ?_
    refine jm_iadd (n := 58) X dX4_heightOver_57 rfl (fun h4 => ?_)
    exact jm_iret X rfl k0 h4 dX4_heightOver_58
def b4_heightOver_15 (σ0 : Sg) (x1 : Int) (x3 : Int) (x4 : Int) (y0 : Int) : Option (Sg × Int) :=
  if x1 < (2 : Int) then ((b4_heightOver_35 σ0 x1 x4 y0))
  else (ck (0 ≤ x3 ∧ x3 < 60) <|
  (b4_heightOver_35 σ0 x1 x4 (mx y0 (gA σ0 85 x3))))
set_option maxRecDepth 100000 in
theorem u4_heightOver_15 (X : CX p m meth c cX4_heightOver 6 (some .int) s args wsX4_heightOver RX4 D (mT cI cZ) (cE t1 t2) (va_A (cW h cI cZ σz) sz)) (hA : ∀ z : Nat, s.heap.size ≤ z → va_A (cW h cI cZ σz) sz z) (σ0 : Sg) (x1 : Int) (x3 : Int) (x4 : Int) (y0 : Int) (k0 : ok σ0) (hx1 : inR x1) (hx3 : inR x3) (hx4 : inR x4) (hy0 : inR y0) : JI l rm4_heightOver (cW h cI cZ) D (mT cI cZ) σz sz 6 p e s m args below meth c σ0 15 [(0, .ref (h 99)), (1, .int (iI x1)), (3, .int (iI x3)), (4, .int (iI x4))] [.int (iI y0)] (b4_heightOver_15 σ0 x1 x3 x4 y0) := by
  rw [b4_heightOver_15]
  refine jm_istore (n := 17) (lv' := [(5, .int (iI y0)), (0, .ref (h 99)), (1, .int (iI x1)), (3, .int (iI x3)), (4, .int (iI x4))]) X dX4_heightOver_15 (by decide) rfl rfl ?_
  refine jm_iload_n (n := 18) X 2 rfl dX4_heightOver_17 rfl ?_
  refine jm_iconst (n := 19) X dX4_heightOver_18 rfl ?_
  refine jm_icmp_lt (n := 22) (tgt := 35) X dX4_heightOver_19 (by decide) hx1 (by decide) rfl (fun c1 => ?_) (fun c1 => ?_)
  · refine jm_perm [1, 2, 4, 0] rfl ?_
    exact u4_heightOver_35 X hA σ0 x1 x4 y0 k0 hx1 hx4 hy0
  · refine jm_iload (n := 24) X 0 rfl dX4_heightOver_22 rfl ?_
    refine jm_aload_n (n := 25) X 1 rfl dX4_heightOver_24 rfl ?_
    refine jm_get (n := 28) X 1 3 5 cW_X4 rfl (by decide) (fun w h => List.mem_cons_of_mem _ (List.mem_append_right _ h)) (List.mem_of_getElem? (i := 1) rfl) rfl dX4_heightOver_25 rfl ?_
    refine jm_iload_n (n := 29) X 3 rfl dX4_heightOver_28 rfl ?_
    refine jm_ald (n := 30) X 14 0 85 cA_85 rfl rfl hx3 dX4_heightOver_29 rfl (fun h2 => ?_)
    refine jm_mmax (n := 33) X (List.mem_of_getElem? (i := 2) rfl) (List.mem_of_getElem? (i := 3) rfl) (List.mem_of_getElem? (i := 4) rfl) (List.mem_of_getElem? (i := 5) rfl) ⟨Nat.le_of_ble_eq_true rfl, Nat.le_of_ble_eq_true rfl⟩ hy0 (k0.2 85 _) dX4_heightOver_30 rfl ?_
    refine jm_istore (n := 35) (lv' := [(5, .int (iI (mx y0 (gA σ0 85 x3)))), (0, .ref (h 99)), (1, .int (iI x1)), (3, .int (iI x3)), (4, .int (iI x4))]) X dX4_heightOver_33 (by decide) rfl rfl ?_
    refine jm_perm [1, 2, 4, 0] rfl ?_
    exact u4_heightOver_35 X hA σ0 x1 x4 (mx y0 (gA σ0 85 x3)) k0 hx1 hx4 (in_mx hy0 (k0.2 85 _))
def f4_heightOver (σ0 : Sg) (x1 : Int) (x2 : Int) (x3 : Int) (x4 : Int) : Option (Sg × Int) :=
  if x1 < (1 : Int) then ((b4_heightOver_15 σ0 x1 x3 x4 (0 : Int)))
  else (ck (0 ≤ x2 ∧ x2 < 60) <|
  (b4_heightOver_15 σ0 x1 x3 x4 (gA σ0 85 x2)))
set_option maxRecDepth 100000 in
theorem t4_heightOver (l : Launch) {h : Nat → Nat} {cI cZ : ClassId} {D : va_G} {t1 t2 : Nat} {σ0 : Sg} {x1 : Int} {x2 : Int} {x3 : Int} {x4 : Int} (k0 : ok σ0) (hx1 : inR x1) (hx2 : inR x2) (hx3 : inR x3) (hx4 : inR x4) : ctI (cE t1 t2) l (cW h cI cZ) D (mT cI cZ) yX4_heightOver wsX4_heightOver rm4_heightOver [.ref (h 99), .int (iI x1), .int (iI x2), .int (iI x3), .int (iI x4)] σ0 (f4_heightOver σ0 x1 x2 x3 x4) := by
  refine of_I (cE_ok t1 t2) (own := RX4) (lv := [(0, .ref (h 99)), (1, .int (iI x1)), (2, .int (iI x2)), (3, .int (iI x3)), (4, .int (iI x4))]) (by decide) rfl rfl (Nat.le_of_ble_eq_true rfl) rfl (fun p e s m below meth c sz X hA => ?_)
  rw [f4_heightOver]
  refine jm_iload_n (n := 1) X 1 rfl dX4_heightOver_0 rfl ?_
  refine jm_iconst (n := 2) X dX4_heightOver_1 rfl ?_
  refine jm_icmp_lt (n := 5) (tgt := 14) X dX4_heightOver_2 (by decide) hx1 (by decide) rfl (fun c1 => ?_) (fun c1 => ?_)
  · refine jm_iconst (n := 15) X dX4_heightOver_14 rfl ?_
    refine jm_perm [0, 1, 3, 4] rfl ?_
    exact u4_heightOver_15 X hA σ0 x1 x3 x4 (0 : Int) k0 hx1 hx3 hx4 (by decide)
  · refine jm_aload_n (n := 6) X 0 rfl dX4_heightOver_5 rfl ?_
    refine jm_get (n := 9) X 1 3 5 cW_X4 rfl (by decide) (fun w h => List.mem_cons_of_mem _ (List.mem_append_right _ h)) (List.mem_of_getElem? (i := 1) rfl) rfl dX4_heightOver_6 rfl ?_
    refine jm_iload_n (n := 10) X 2 rfl dX4_heightOver_9 rfl ?_
    refine jm_ald (n := 11) X 14 0 85 cA_85 rfl rfl hx2 dX4_heightOver_10 rfl (fun h2 => ?_)
    refine jm_goto (n := 15) X dX4_heightOver_11 (by decide) ?_
    refine jm_perm [0, 1, 3, 4] rfl ?_
    exact u4_heightOver_15 X hA σ0 x1 x3 x4 (gA σ0 85 x2) k0 hx1 hx3 hx4 (k0.2 85 _)
abbrev rm4_sizeOver : Room := { frames := 0, cells := 0, slots := 0, locals := 0 }
def b4_sizeOver_33 (σ0 : Sg) (x1 : Int) (x4 : Int) (x5 : Int) : Option (Sg × Int) :=
  if x1 < (3 : Int) then (ck (inR (x5 + (1 : Int))) <|
  some (σ0, (x5 + (1 : Int))))
  else (ck (0 ≤ x4 ∧ x4 < 60) <|
  ck (inR (x5 + (gA σ0 86 x4))) <|
  ck (inR ((x5 + (gA σ0 86 x4)) + (1 : Int))) <|
  some (σ0, ((x5 + (gA σ0 86 x4)) + (1 : Int))))
set_option maxRecDepth 100000 in
theorem u4_sizeOver_33 (X : CX p m meth c cX4_sizeOver 6 (some .int) s args wsX4_sizeOver RX4 D (mT cI cZ) (cE t1 t2) (va_A (cW h cI cZ σz) sz)) (hA : ∀ z : Nat, s.heap.size ≤ z → va_A (cW h cI cZ σz) sz z) (σ0 : Sg) (x1 : Int) (x4 : Int) (x5 : Int) (k0 : ok σ0) (hx1 : inR x1) (hx4 : inR x4) (hx5 : inR x5) : JI l rm4_sizeOver (cW h cI cZ) D (mT cI cZ) σz sz 6 p e s m args below meth c σ0 33 [(0, .ref (h 99)), (1, .int (iI x1)), (4, .int (iI x4)), (5, .int (iI x5))] [] (b4_sizeOver_33 σ0 x1 x4 x5) := by
  rw [b4_sizeOver_33]
  refine jm_iload_n (n := 34) X 1 rfl dX4_sizeOver_33 rfl ?_
  refine jm_iconst (n := 35) X dX4_sizeOver_34 rfl ?_
  refine jm_icmp_lt (n := 38) (tgt := 50) X dX4_sizeOver_35 (by decide) hx1 (by decide) rfl (fun c1 => ?_) (fun c1 => ?_)
  · refine jm_iload (n := 52) X 3 rfl dX4_sizeOver_50 rfl ?_
    refine jm_iconst (n := 53) X dX4_sizeOver_52 rfl ?_
    refine jm_iadd (n := 54) X dX4_sizeOver_53 rfl (fun h2 => ?_)
    exact jm_iret X rfl k0 h2 dX4_sizeOver_54
  · refine jm_iload (n := 40) X 3 rfl dX4_sizeOver_38 rfl ?_
    refine jm_aload_n (n := 41) X 0 rfl dX4_sizeOver_40 rfl ?_
    refine jm_get (n := 44) X 1 3 6 cW_X4 rfl (by decide) (fun w h => List.mem_cons_of_mem _ (List.mem_append_right _ h)) (List.mem_of_getElem? (i := 1) rfl) rfl dX4_sizeOver_41 rfl ?_
    refine jm_iload (n := 46) X 2 rfl dX4_sizeOver_44 rfl ?_
    refine jm_ald (n := 47) X 15 0 86 cA_86 rfl rfl hx4 dX4_sizeOver_46 rfl (fun h3 => ?_)
    refine jm_iadd (n := 48) X dX4_sizeOver_47 rfl (fun h4 => ?_)
    refine jm_istore (n := 50) (lv' := [(5, .int (iI (x5 + (gA σ0 86 x4)))), (0, .ref (h 99)), (1, .int (iI x1)), (4, .int (iI x4))]) X dX4_sizeOver_48 (by decide) rfl rfl ?_
    refine jm_iload (n := 52) X 0 rfl dX4_sizeOver_50 rfl ?_
    refine jm_iconst (n := 53) X dX4_sizeOver_52 rfl ?_
    refine jm_iadd (n := 54) X dX4_sizeOver_53 rfl (fun h5 => ?_)
    exact jm_iret X rfl k0 h5 dX4_sizeOver_54
def b4_sizeOver_15 (σ0 : Sg) (x1 : Int) (x3 : Int) (x4 : Int) (y0 : Int) : Option (Sg × Int) :=
  if x1 < (2 : Int) then ((b4_sizeOver_33 σ0 x1 x4 y0))
  else (ck (0 ≤ x3 ∧ x3 < 60) <|
  ck (inR (y0 + (gA σ0 86 x3))) <|
  (b4_sizeOver_33 σ0 x1 x4 (y0 + (gA σ0 86 x3))))
set_option maxRecDepth 100000 in
theorem u4_sizeOver_15 (X : CX p m meth c cX4_sizeOver 6 (some .int) s args wsX4_sizeOver RX4 D (mT cI cZ) (cE t1 t2) (va_A (cW h cI cZ σz) sz)) (hA : ∀ z : Nat, s.heap.size ≤ z → va_A (cW h cI cZ σz) sz z) (σ0 : Sg) (x1 : Int) (x3 : Int) (x4 : Int) (y0 : Int) (k0 : ok σ0) (hx1 : inR x1) (hx3 : inR x3) (hx4 : inR x4) (hy0 : inR y0) : JI l rm4_sizeOver (cW h cI cZ) D (mT cI cZ) σz sz 6 p e s m args below meth c σ0 15 [(0, .ref (h 99)), (1, .int (iI x1)), (3, .int (iI x3)), (4, .int (iI x4))] [.int (iI y0)] (b4_sizeOver_15 σ0 x1 x3 x4 y0) := by
  rw [b4_sizeOver_15]
  refine jm_istore (n := 17) (lv' := [(5, .int (iI y0)), (0, .ref (h 99)), (1, .int (iI x1)), (3, .int (iI x3)), (4, .int (iI x4))]) X dX4_sizeOver_15 (by decide) rfl rfl ?_
  refine jm_iload_n (n := 18) X 2 rfl dX4_sizeOver_17 rfl ?_
  refine jm_iconst (n := 19) X dX4_sizeOver_18 rfl ?_
  refine jm_icmp_lt (n := 22) (tgt := 33) X dX4_sizeOver_19 (by decide) hx1 (by decide) rfl (fun c1 => ?_) (fun c1 => ?_)
  · refine jm_perm [1, 2, 4, 0] rfl ?_
    exact u4_sizeOver_33 X hA σ0 x1 x4 y0 k0 hx1 hx4 hy0
  · refine jm_iload (n := 24) X 0 rfl dX4_sizeOver_22 rfl ?_
    refine jm_aload_n (n := 25) X 1 rfl dX4_sizeOver_24 rfl ?_
    refine jm_get (n := 28) X 1 3 6 cW_X4 rfl (by decide) (fun w h => List.mem_cons_of_mem _ (List.mem_append_right _ h)) (List.mem_of_getElem? (i := 1) rfl) rfl dX4_sizeOver_25 rfl ?_
    refine jm_iload_n (n := 29) X 3 rfl dX4_sizeOver_28 rfl ?_
    refine jm_ald (n := 30) X 15 0 86 cA_86 rfl rfl hx3 dX4_sizeOver_29 rfl (fun h2 => ?_)
    refine jm_iadd (n := 31) X dX4_sizeOver_30 rfl (fun h3 => ?_)
    refine jm_istore (n := 33) (lv' := [(5, .int (iI (y0 + (gA σ0 86 x3)))), (0, .ref (h 99)), (1, .int (iI x1)), (3, .int (iI x3)), (4, .int (iI x4))]) X dX4_sizeOver_31 (by decide) rfl rfl ?_
    refine jm_perm [1, 2, 4, 0] rfl ?_
    exact u4_sizeOver_33 X hA σ0 x1 x4 (y0 + (gA σ0 86 x3)) k0 hx1 hx4 h3
def f4_sizeOver (σ0 : Sg) (x1 : Int) (x2 : Int) (x3 : Int) (x4 : Int) : Option (Sg × Int) :=
  if x1 < (1 : Int) then ((b4_sizeOver_15 σ0 x1 x3 x4 (0 : Int)))
  else (ck (0 ≤ x2 ∧ x2 < 60) <|
  (b4_sizeOver_15 σ0 x1 x3 x4 (gA σ0 86 x2)))
set_option maxRecDepth 100000 in
theorem t4_sizeOver (l : Launch) {h : Nat → Nat} {cI cZ : ClassId} {D : va_G} {t1 t2 : Nat} {σ0 : Sg} {x1 : Int} {x2 : Int} {x3 : Int} {x4 : Int} (k0 : ok σ0) (hx1 : inR x1) (hx2 : inR x2) (hx3 : inR x3) (hx4 : inR x4) : ctI (cE t1 t2) l (cW h cI cZ) D (mT cI cZ) yX4_sizeOver wsX4_sizeOver rm4_sizeOver [.ref (h 99), .int (iI x1), .int (iI x2), .int (iI x3), .int (iI x4)] σ0 (f4_sizeOver σ0 x1 x2 x3 x4) := by
  refine of_I (cE_ok t1 t2) (own := RX4) (lv := [(0, .ref (h 99)), (1, .int (iI x1)), (2, .int (iI x2)), (3, .int (iI x3)), (4, .int (iI x4))]) (by decide) rfl rfl (Nat.le_of_ble_eq_true rfl) rfl (fun p e s m below meth c sz X hA => ?_)
  rw [f4_sizeOver]
  refine jm_iload_n (n := 1) X 1 rfl dX4_sizeOver_0 rfl ?_
  refine jm_iconst (n := 2) X dX4_sizeOver_1 rfl ?_
  refine jm_icmp_lt (n := 5) (tgt := 14) X dX4_sizeOver_2 (by decide) hx1 (by decide) rfl (fun c1 => ?_) (fun c1 => ?_)
  · refine jm_iconst (n := 15) X dX4_sizeOver_14 rfl ?_
    refine jm_perm [0, 1, 3, 4] rfl ?_
    exact u4_sizeOver_15 X hA σ0 x1 x3 x4 (0 : Int) k0 hx1 hx3 hx4 (by decide)
  · refine jm_aload_n (n := 6) X 0 rfl dX4_sizeOver_5 rfl ?_
    refine jm_get (n := 9) X 1 3 6 cW_X4 rfl (by decide) (fun w h => List.mem_cons_of_mem _ (List.mem_append_right _ h)) (List.mem_of_getElem? (i := 1) rfl) rfl dX4_sizeOver_6 rfl ?_
    refine jm_iload_n (n := 10) X 2 rfl dX4_sizeOver_9 rfl ?_
    refine jm_ald (n := 11) X 15 0 86 cA_86 rfl rfl hx2 dX4_sizeOver_10 rfl (fun h2 => ?_)
    refine jm_goto (n := 15) X dX4_sizeOver_11 (by decide) ?_
    refine jm_perm [0, 1, 3, 4] rfl ?_
    exact u4_sizeOver_15 X hA σ0 x1 x3 x4 (gA σ0 86 x2) k0 hx1 hx3 hx4 (k0.2 86 _)
abbrev rm4_hasRoomFor : Room := { frames := 2, cells := 0, slots := 0, locals := 46 }
def f4_hasRoomFor (σ0 : Sg) (x1 : Int) (x2 : Int) (x3 : Int) (x4 : Int) : Option (Sg × Int) :=
  ck (0 ≤ x1 ∧ x1 < 12) <|
  if (60 : Int) ≤ (gI σ0 87) then (ck ((0 : Int) = 0 ∨ (0 : Int) = 1) (some (σ0, (0 : Int))))
  else (bd (f4_heightOver σ0 (tw x1) x2 x3 x4) fun σ3 r3 =>
  if (9 : Int) < r3 then (ck ((0 : Int) = 0 ∨ (0 : Int) = 1) (some (σ3, (0 : Int))))
  else (bd (f4_sizeOver σ3 (tw x1) x2 x3 x4) fun σ6 r6 =>
  if (120 : Int) < r6 then (ck ((0 : Int) = 0 ∨ (0 : Int) = 1) (some (σ6, (0 : Int))))
  else (ck ((1 : Int) = 0 ∨ (1 : Int) = 1) (some (σ6, (1 : Int))))))
set_option maxRecDepth 100000 in
theorem t4_hasRoomFor (l : Launch) {h : Nat → Nat} {cI cZ : ClassId} {D : va_G} {t1 t2 : Nat} {σ0 : Sg} {x1 : Int} {x2 : Int} {x3 : Int} {x4 : Int} (k0 : ok σ0) (hx1 : inR x1) (hx2 : inR x2) (hx3 : inR x3) (hx4 : inR x4) : ctI (cE t1 t2) l (cW h cI cZ) D (mT cI cZ) yX4_hasRoomFor wsX4_hasRoomFor rm4_hasRoomFor [.ref (h 99), .int (iI x1), .int (iI x2), .int (iI x3), .int (iI x4)] σ0 (f4_hasRoomFor σ0 x1 x2 x3 x4) := by
  refine of_Z (cE_ok t1 t2) (own := RX4) (lv := [(0, .ref (h 99)), (1, .int (iI x1)), (2, .int (iI x2)), (3, .int (iI x3)), (4, .int (iI x4))]) (by decide) rfl rfl (Nat.le_of_ble_eq_true rfl) rfl (fun p e s m below meth c sz X hA => ?_)
  rw [f4_hasRoomFor]
  refine jm_gets1 (n := 3) X (List.mem_of_getElem? (i := 1) rfl) dX4_hasRoomFor_0 rfl ?_
  refine jm_iload_n (n := 4) X 1 rfl dX4_hasRoomFor_3 rfl ?_
  refine jm_tald1 (n := 5) X hx1 dX4_hasRoomFor_4 rfl (fun h1 => ?_)
  refine jm_istore (n := 7) (lv' := [(5, .int (iI (tw x1))), (0, .ref (h 99)), (1, .int (iI x1)), (2, .int (iI x2)), (3, .int (iI x3)), (4, .int (iI x4))]) X dX4_hasRoomFor_5 (by decide) rfl rfl ?_
  refine jm_aload_n (n := 8) X 1 rfl dX4_hasRoomFor_7 rfl ?_
  refine jm_get (n := 11) X 1 3 7 cW_X4 rfl (by decide) (fun w h => List.mem_cons_of_mem _ (List.mem_append_right _ h)) (List.mem_of_getElem? (i := 2) rfl) rfl dX4_hasRoomFor_8 rfl ?_
  refine jm_bipush (n := 13) X dX4_hasRoomFor_11 (by decide) rfl ?_
  refine jm_icmp_ge (n := 16) (tgt := 50) X dX4_hasRoomFor_13 (by decide) (k0.1 87) (by decide) rfl (fun c2 => ?_) (fun c2 => ?_)
  · refine jm_iconst (n := 51) X dX4_hasRoomFor_50 rfl ?_
    exact jm_zret X rfl k0 dX4_hasRoomFor_51
  · refine jm_aload_n (n := 17) X 1 rfl dX4_hasRoomFor_16 rfl ?_
    refine jm_iload (n := 19) X 0 rfl dX4_hasRoomFor_17 rfl ?_
    refine jm_iload_n (n := 20) X 3 rfl dX4_hasRoomFor_19 rfl ?_
    refine jm_iload_n (n := 21) X 4 rfl dX4_hasRoomFor_20 rfl ?_
    refine jm_iload (n := 23) X 5 rfl dX4_hasRoomFor_21 rfl ?_
    refine jm_callVi (n := 26) (vs := [.int (iI (tw x1)), .int (iI x2), .int (iI x3), .int (iI x4)]) (rest := []) X hA (t4_heightOver l k0 (in_tw _) hx2 hx3 hx4) (cwV 4 X.2.2.2.2.1 gX4_hasRoomFor_X4_heightOver rfl rfl rfl (by decide +kernel) ⟨Nat.le_of_ble_eq_true rfl, Nat.le_of_ble_eq_true rfl⟩) 1 3 cW_X4 rfl rfl (Nat.le_of_ble_eq_true rfl) dX4_hasRoomFor_23 rfl (fun σ3 r3 k3 h4 => ?_)
    refine jm_bipush (n := 28) X dX4_hasRoomFor_26 (by decide) rfl ?_
    refine jm_icmp_gt (n := 31) (tgt := 50) X dX4_hasRoomFor_28 (by decide) h4 (by decide) rfl (fun c5 => ?_) (fun c5 => ?_)
    · refine jm_iconst (n := 51) X dX4_hasRoomFor_50 rfl ?_
      exact jm_zret X rfl k3 dX4_hasRoomFor_51
    · refine jm_aload_n (n := 32) X 1 rfl dX4_hasRoomFor_31 rfl ?_
      refine jm_iload (n := 34) X 0 rfl dX4_hasRoomFor_32 rfl ?_
      refine jm_iload_n (n := 35) X 3 rfl dX4_hasRoomFor_34 rfl ?_
      refine jm_iload_n (n := 36) X 4 rfl dX4_hasRoomFor_35 rfl ?_
      refine jm_iload (n := 38) X 5 rfl dX4_hasRoomFor_36 rfl ?_
      refine jm_callVi (n := 41) (vs := [.int (iI (tw x1)), .int (iI x2), .int (iI x3), .int (iI x4)]) (rest := []) X hA (t4_sizeOver l k3 (in_tw _) hx2 hx3 hx4) (cwV 4 X.2.2.2.2.1 gX4_hasRoomFor_X4_sizeOver rfl rfl rfl (by decide +kernel) ⟨Nat.le_of_ble_eq_true rfl, Nat.le_of_ble_eq_true rfl⟩) 1 3 cW_X4 rfl rfl (Nat.le_of_ble_eq_true rfl) dX4_hasRoomFor_38 rfl (fun σ6 r6 k6 h7 => ?_)
      refine jm_bipush (n := 43) X dX4_hasRoomFor_41 (by decide) rfl ?_
      refine jm_icmp_gt (n := 46) (tgt := 50) X dX4_hasRoomFor_43 (by decide) h7 (by decide) rfl (fun c8 => ?_) (fun c8 => ?_)
      · refine jm_iconst (n := 51) X dX4_hasRoomFor_50 rfl ?_
        exact jm_zret X rfl k6 dX4_hasRoomFor_51
      · refine jm_iconst (n := 47) X dX4_hasRoomFor_46 rfl ?_
        refine jm_goto (n := 51) X dX4_hasRoomFor_47 (by decide) ?_
        exact jm_zret X rfl k6 dX4_hasRoomFor_51
abbrev rm4_neededOver : Room := { frames := 1, cells := 0, slots := 0, locals := 21 }
def f4_neededOver (σ0 : Sg) (x1 : Int) (x2 : Int) (x3 : Int) (x4 : Int) : Option (Sg × Int) :=
  ck (0 ≤ x1 ∧ x1 < 12) <|
  ck (0 ≤ x1 ∧ x1 < 12) <|
  if (tw x1) = 1 then (ck (0 ≤ x2 ∧ x2 < 60) <|
  ck (inR ((gA σ0 84 x2) - (tb x1))) <|
  some (σ0, (mx (0 : Int) ((gA σ0 84 x2) - (tb x1)))))
  else if (tw x1) = 2 then (ck (0 ≤ x2 ∧ x2 < 60) <|
  ck (0 ≤ x3 ∧ x3 < 60) <|
  ck (inR ((gA σ0 84 x3) - (tb x1))) <|
  some (σ0, (mx (gA σ0 84 x2) ((gA σ0 84 x3) - (tb x1)))))
  else if (tw x1) = 3 then (ck (0 ≤ x2 ∧ x2 < 60) <|
  ck (0 ≤ x3 ∧ x3 < 60) <|
  ck (0 ≤ x4 ∧ x4 < 60) <|
  some (σ0, (mx (gA σ0 84 x2) (mx (gA σ0 84 x3) (gA σ0 84 x4)))))
  else (some (σ0, (0 : Int)))
set_option maxRecDepth 100000 in
theorem t4_neededOver (l : Launch) {h : Nat → Nat} {cI cZ : ClassId} {D : va_G} {t1 t2 : Nat} {σ0 : Sg} {x1 : Int} {x2 : Int} {x3 : Int} {x4 : Int} (k0 : ok σ0) (hx1 : inR x1) (hx2 : inR x2) (hx3 : inR x3) (hx4 : inR x4) : ctI (cE t1 t2) l (cW h cI cZ) D (mT cI cZ) yX4_neededOver wsX4_neededOver rm4_neededOver [.ref (h 99), .int (iI x1), .int (iI x2), .int (iI x3), .int (iI x4)] σ0 (f4_neededOver σ0 x1 x2 x3 x4) := by
  refine of_I (cE_ok t1 t2) (own := RX4) (lv := [(0, .ref (h 99)), (1, .int (iI x1)), (2, .int (iI x2)), (3, .int (iI x3)), (4, .int (iI x4))]) (by decide) rfl rfl (Nat.le_of_ble_eq_true rfl) rfl (fun p e s m below meth c sz X hA => ?_)
  rw [f4_neededOver]
  refine jm_gets2 (n := 3) X (List.mem_of_getElem? (i := 1) rfl) dX4_neededOver_0 rfl ?_
  refine jm_iload_n (n := 4) X 1 rfl dX4_neededOver_3 rfl ?_
  refine jm_tald2 (n := 5) X hx1 dX4_neededOver_4 rfl (fun h1 => ?_)
  refine jm_istore (n := 7) (lv' := [(5, .int (iI (tb x1))), (0, .ref (h 99)), (1, .int (iI x1)), (2, .int (iI x2)), (3, .int (iI x3)), (4, .int (iI x4))]) X dX4_neededOver_5 (by decide) rfl rfl ?_
  refine jm_gets1 (n := 10) X (List.mem_of_getElem? (i := 2) rfl) dX4_neededOver_7 rfl ?_
  refine jm_iload_n (n := 11) X 2 rfl dX4_neededOver_10 rfl ?_
  refine jm_tald1 (n := 12) X hx1 dX4_neededOver_11 rfl (fun h2 => ?_)
  refine jm_tcase (tgt := 40) X (1) dX4_neededOver_12 (in_tw _) (by decide) (by decide) rfl (by decide) (fun c3 => ?_) (fun c3 => ?_)
  · refine jm_iconst (n := 41) X dX4_neededOver_40 rfl ?_
    refine jm_aload_n (n := 42) X 1 rfl dX4_neededOver_41 rfl ?_
    refine jm_get (n := 45) X 1 3 4 cW_X4 rfl (by decide) (fun w h => List.mem_cons_of_mem _ (List.mem_append_right _ h)) (List.mem_of_getElem? (i := 3) rfl) rfl dX4_neededOver_42 rfl ?_
    refine jm_iload_n (n := 46) X 3 rfl dX4_neededOver_45 rfl ?_
    refine jm_ald (n := 47) X 13 0 84 cA_84 rfl rfl hx2 dX4_neededOver_46 rfl (fun h4 => ?_)
    refine jm_iload (n := 49) X 0 rfl dX4_neededOver_47 rfl ?_
    refine jm_isub (n := 50) X dX4_neededOver_49 rfl (fun h5 => ?_)
    refine jm_mmax (n := 53) X (List.mem_of_getElem? (i := 4) rfl) (List.mem_of_getElem? (i := 5) rfl) (List.mem_of_getElem? (i := 6) rfl) (List.mem_of_getElem? (i := 7) rfl) ⟨Nat.le_of_ble_eq_true rfl, Nat.le_of_ble_eq_true rfl⟩ (by decide) h5 dX4_neededOver_50 rfl ?_
    exact jm_iret X rfl k0 (in_mx (by decide) h5) dX4_neededOver_53
  refine jm_tcase (tgt := 54) X (2) dX4_neededOver_12 (in_tw _) (by decide) (by decide) rfl (by decide) (fun c6 => ?_) (fun c6 => ?_)
  · refine jm_aload_n (n := 55) X 1 rfl dX4_neededOver_54 rfl ?_
    refine jm_get (n := 58) X 1 3 4 cW_X4 rfl (by decide) (fun w h => List.mem_cons_of_mem _ (List.mem_append_right _ h)) (List.mem_of_getElem? (i := 3) rfl) rfl dX4_neededOver_55 rfl ?_
    refine jm_iload_n (n := 59) X 3 rfl dX4_neededOver_58 rfl ?_
    refine jm_ald (n := 60) X 13 0 84 cA_84 rfl rfl hx2 dX4_neededOver_59 rfl (fun h7 => ?_)
    refine jm_aload_n (n := 61) X 1 rfl dX4_neededOver_60 rfl ?_
    refine jm_get (n := 64) X 1 3 4 cW_X4 rfl (by decide) (fun w h => List.mem_cons_of_mem _ (List.mem_append_right _ h)) (List.mem_of_getElem? (i := 3) rfl) rfl dX4_neededOver_61 rfl ?_
    refine jm_iload_n (n := 65) X 4 rfl dX4_neededOver_64 rfl ?_
    refine jm_ald (n := 66) X 13 0 84 cA_84 rfl rfl hx3 dX4_neededOver_65 rfl (fun h8 => ?_)
    refine jm_iload (n := 68) X 0 rfl dX4_neededOver_66 rfl ?_
    refine jm_isub (n := 69) X dX4_neededOver_68 rfl (fun h9 => ?_)
    refine jm_mmax (n := 72) X (List.mem_of_getElem? (i := 4) rfl) (List.mem_of_getElem? (i := 5) rfl) (List.mem_of_getElem? (i := 6) rfl) (List.mem_of_getElem? (i := 7) rfl) ⟨Nat.le_of_ble_eq_true rfl, Nat.le_of_ble_eq_true rfl⟩ (k0.2 84 _) h9 dX4_neededOver_69 rfl ?_
    exact jm_iret X rfl k0 (in_mx (k0.2 84 _) h9) dX4_neededOver_72
  refine jm_tcase (tgt := 73) X (3) dX4_neededOver_12 (in_tw _) (by decide) (by decide) rfl (by decide) (fun c10 => ?_) (fun c10 => ?_)
  · refine jm_aload_n (n := 74) X 1 rfl dX4_neededOver_73 rfl ?_
    refine jm_get (n := 77) X 1 3 4 cW_X4 rfl (by decide) (fun w h => List.mem_cons_of_mem _ (List.mem_append_right _ h)) (List.mem_of_getElem? (i := 3) rfl) rfl dX4_neededOver_74 rfl ?_
    refine jm_iload_n (n := 78) X 3 rfl dX4_neededOver_77 rfl ?_
    refine jm_ald (n := 79) X 13 0 84 cA_84 rfl rfl hx2 dX4_neededOver_78 rfl (fun h11 => ?_)
    refine jm_aload_n (n := 80) X 1 rfl dX4_neededOver_79 rfl ?_
    refine jm_get (n := 83) X 1 3 4 cW_X4 rfl (by decide) (fun w h => List.mem_cons_of_mem _ (List.mem_append_right _ h)) (List.mem_of_getElem? (i := 3) rfl) rfl dX4_neededOver_80 rfl ?_
    refine jm_iload_n (n := 84) X 4 rfl dX4_neededOver_83 rfl ?_
    refine jm_ald (n := 85) X 13 0 84 cA_84 rfl rfl hx3 dX4_neededOver_84 rfl (fun h12 => ?_)
    refine jm_aload_n (n := 86) X 1 rfl dX4_neededOver_85 rfl ?_
    refine jm_get (n := 89) X 1 3 4 cW_X4 rfl (by decide) (fun w h => List.mem_cons_of_mem _ (List.mem_append_right _ h)) (List.mem_of_getElem? (i := 3) rfl) rfl dX4_neededOver_86 rfl ?_
    refine jm_iload (n := 91) X 5 rfl dX4_neededOver_89 rfl ?_
    refine jm_ald (n := 92) X 13 0 84 cA_84 rfl rfl hx4 dX4_neededOver_91 rfl (fun h13 => ?_)
    refine jm_mmax (n := 95) X (List.mem_of_getElem? (i := 4) rfl) (List.mem_of_getElem? (i := 5) rfl) (List.mem_of_getElem? (i := 6) rfl) (List.mem_of_getElem? (i := 7) rfl) ⟨Nat.le_of_ble_eq_true rfl, Nat.le_of_ble_eq_true rfl⟩ (k0.2 84 _) (k0.2 84 _) dX4_neededOver_92 rfl ?_
    refine jm_mmax (n := 98) X (List.mem_of_getElem? (i := 4) rfl) (List.mem_of_getElem? (i := 5) rfl) (List.mem_of_getElem? (i := 6) rfl) (List.mem_of_getElem? (i := 7) rfl) ⟨Nat.le_of_ble_eq_true rfl, Nat.le_of_ble_eq_true rfl⟩ (k0.2 84 _) (in_mx (k0.2 84 _) (k0.2 84 _)) dX4_neededOver_95 rfl ?_
    exact jm_iret X rfl k0 (in_mx (k0.2 84 _) (in_mx (k0.2 84 _) (k0.2 84 _))) dX4_neededOver_98
  refine jm_tout (tgt := 99) X dX4_neededOver_12 (in_tw _) (by decide) (by omega) ?_
  refine jm_iconst (n := 100) X dX4_neededOver_99 rfl ?_
  exact jm_iret X rfl k0 (by decide) dX4_neededOver_100
abbrev rm4_add : Room := { frames := 2, cells := 0, slots := 0, locals := 46 }
def b4_add_106 (σ0 : Sg) (x6 : Int) (y1 : Int) (y2 : Int) : Option (Sg × Int) :=
  ck (0 ≤ y1 ∧ y1 < 60) <| nx (sA σ0 84 y1 y2) fun σ2 =>
  ck (inR ((gI σ2 87) + (1 : Int))) <|
  nx (sI σ2 87 ((gI σ2 87) + (1 : Int))) fun σ4 =>
  some (σ4, x6)
set_option maxRecDepth 100000 in
theorem u4_add_106 (X : CX p m meth c cX4_add 7 (some .int) s args wsX4_add RX4 D (mT cI cZ) (cE t1 t2) (va_A (cW h cI cZ σz) sz)) (hA : ∀ z : Nat, s.heap.size ≤ z → va_A (cW h cI cZ σz) sz z) (σ0 : Sg) (x6 : Int) (y1 : Int) (y2 : Int) (k0 : ok σ0) (hx6 : inR x6) (hy1 : inR y1) (hy2 : inR y2) : JI l rm4_add (cW h cI cZ) D (mT cI cZ) σz sz 7 p e s m args below meth c σ0 106 [(0, .ref (h 99)), (6, .int (iI x6))] [.int (iI y2), .int (iI y1), .ref (h 84)] (b4_add_106 σ0 x6 y1 y2) := by
  rw [b4_add_106]
  refine jm_ast (n := 107) X 13 0 84 cA_84 rfl rfl cT_84 k0 hy1 hy2 dX4_add_106 rfl (fun h1 σ2 k2 => ?_)
  refine jm_aload_n (n := 108) X 0 rfl dX4_add_107 rfl ?_
  refine jm_dup (n := 109) X dX4_add_108 rfl rfl ?_
  refine jm_get (n := 112) X 1 3 7 cW_X4 rfl (by decide) (fun w h => List.mem_cons_of_mem _ (List.mem_append_right _ h)) (List.mem_of_getElem? (i := 2) rfl) rfl dX4_add_109 rfl ?_
  refine jm_iconst (n := 113) X dX4_add_112 rfl ?_
  refine jm_iadd (n := 114) X dX4_add_113 rfl (fun h3 => ?_)
  refine jm_put (n := 117) X 1 3 7 87 cW_X4 rfl (by decide) (fun w h => List.mem_cons_of_mem _ (List.mem_append_right _ h)) tyX4 tyX4_ok nmX4 (List.mem_of_getElem? (i := 2) rfl) rfl rfl rfl rfl (Nat.le_of_ble_eq_true rfl) cS_87 k2 h3 dX4_add_114 rfl (fun σ4 k4 => ?_)
  refine jm_iload (n := 119) X 1 rfl dX4_add_117 rfl ?_
  exact jm_iret X rfl k4 hx6 dX4_add_119
def f4_add (σ0 : Sg) (x1 : Int) (x2 : Int) (x3 : Int) (x4 : Int) : Option (Sg × Int) :=
  ck (0 ≤ x1 ∧ x1 < 12) <|
  ck (0 ≤ (gI σ0 87) ∧ (gI σ0 87) < 60) <| nx (sA σ0 80 (gI σ0 87) x1) fun σ3 =>
  ck (0 ≤ (gI σ0 87) ∧ (gI σ0 87) < 60) <| nx (sA σ3 81 (gI σ0 87) x2) fun σ5 =>
  ck (0 ≤ (gI σ0 87) ∧ (gI σ0 87) < 60) <| nx (sA σ5 82 (gI σ0 87) x3) fun σ7 =>
  ck (0 ≤ (gI σ0 87) ∧ (gI σ0 87) < 60) <| nx (sA σ7 83 (gI σ0 87) x4) fun σ9 =>
  bd (f4_heightOver σ9 (tw x1) x2 x3 x4) fun σ10 r10 =>
  ck (0 ≤ (gI σ0 87) ∧ (gI σ0 87) < 60) <| nx (sA σ10 85 (gI σ0 87) r10) fun σ13 =>
  bd (f4_sizeOver σ13 (tw x1) x2 x3 x4) fun σ14 r14 =>
  ck (0 ≤ (gI σ0 87) ∧ (gI σ0 87) < 60) <| nx (sA σ14 86 (gI σ0 87) r14) fun σ17 =>
  if x1 = (2 : Int) then (ck (inR (x2 + (1 : Int))) <|
  (b4_add_106 σ17 (gI σ0 87) (gI σ0 87) (x2 + (1 : Int))))
  else (bd (f4_neededOver σ17 x1 x2 x3 x4) fun σ20 r20 =>
  (b4_add_106 σ20 (gI σ0 87) (gI σ0 87) r20))
set_option maxRecDepth 100000 in
theorem t4_add (l : Launch) {h : Nat → Nat} {cI cZ : ClassId} {D : va_G} {t1 t2 : Nat} {σ0 : Sg} {x1 : Int} {x2 : Int} {x3 : Int} {x4 : Int} (k0 : ok σ0) (hx1 : inR x1) (hx2 : inR x2) (hx3 : inR x3) (hx4 : inR x4) : ctI (cE t1 t2) l (cW h cI cZ) D (mT cI cZ) yX4_add wsX4_add rm4_add [.ref (h 99), .int (iI x1), .int (iI x2), .int (iI x3), .int (iI x4)] σ0 (f4_add σ0 x1 x2 x3 x4) := by
  refine of_I (cE_ok t1 t2) (own := RX4) (lv := [(0, .ref (h 99)), (1, .int (iI x1)), (2, .int (iI x2)), (3, .int (iI x3)), (4, .int (iI x4))]) (by decide) rfl rfl (Nat.le_of_ble_eq_true rfl) rfl (fun p e s m below meth c sz X hA => ?_)
  rw [f4_add]
  refine jm_gets1 (n := 3) X (List.mem_of_getElem? (i := 1) rfl) dX4_add_0 rfl ?_
  refine jm_iload_n (n := 4) X 1 rfl dX4_add_3 rfl ?_
  refine jm_tald1 (n := 5) X hx1 dX4_add_4 rfl (fun h1 => ?_)
  refine jm_istore (n := 7) (lv' := [(5, .int (iI (tw x1))), (0, .ref (h 99)), (1, .int (iI x1)), (2, .int (iI x2)), (3, .int (iI x3)), (4, .int (iI x4))]) X dX4_add_5 (by decide) rfl rfl ?_
  refine jm_aload_n (n := 8) X 1 rfl dX4_add_7 rfl ?_
  refine jm_get (n := 11) X 1 3 7 cW_X4 rfl (by decide) (fun w h => List.mem_cons_of_mem _ (List.mem_append_right _ h)) (List.mem_of_getElem? (i := 2) rfl) rfl dX4_add_8 rfl ?_
  refine jm_istore (n := 13) (lv' := [(6, .int (iI (gI σ0 87))), (5, .int (iI (tw x1))), (0, .ref (h 99)), (1, .int (iI x1)), (2, .int (iI x2)), (3, .int (iI x3)), (4, .int (iI x4))]) X dX4_add_11 (by decide) rfl rfl ?_
  refine jm_aload_n (n := 14) X 2 rfl dX4_add_13 rfl ?_
  refine jm_get (n := 17) X 1 3 0 cW_X4 rfl (by decide) (fun w h => List.mem_cons_of_mem _ (List.mem_append_right _ h)) (List.mem_of_getElem? (i := 3) rfl) rfl dX4_add_14 rfl ?_
  refine jm_iload (n := 19) X 0 rfl dX4_add_17 rfl ?_
  refine jm_iload_n (n := 20) X 3 rfl dX4_add_19 rfl ?_
  refine jm_ast (n := 21) X 9 0 80 cA_80 rfl rfl cT_80 k0 (k0.1 87) hx1 dX4_add_20 rfl (fun h2 σ3 k3 => ?_)
  refine jm_aload_n (n := 22) X 2 rfl dX4_add_21 rfl ?_
  refine jm_get (n := 25) X 1 3 1 cW_X4 rfl (by decide) (fun w h => List.mem_cons_of_mem _ (List.mem_append_right _ h)) (List.mem_of_getElem? (i := 4) rfl) rfl dX4_add_22 rfl ?_
  refine jm_iload (n := 27) X 0 rfl dX4_add_25 rfl ?_
  refine jm_iload_n (n := 28) X 4 rfl dX4_add_27 rfl ?_
  refine jm_ast (n := 29) X 10 0 81 cA_81 rfl rfl cT_81 k3 (k0.1 87) hx2 dX4_add_28 rfl (fun h4 σ5 k5 => ?_)
  refine jm_aload_n (n := 30) X 2 rfl dX4_add_29 rfl ?_
  refine jm_get (n := 33) X 1 3 2 cW_X4 rfl (by decide) (fun w h => List.mem_cons_of_mem _ (List.mem_append_right _ h)) (List.mem_of_getElem? (i := 5) rfl) rfl dX4_add_30 rfl ?_
  refine jm_iload (n := 35) X 0 rfl dX4_add_33 rfl ?_
  refine jm_iload_n (n := 36) X 5 rfl dX4_add_35 rfl ?_
  refine jm_ast (n := 37) X 11 0 82 cA_82 rfl rfl cT_82 k5 (k0.1 87) hx3 dX4_add_36 rfl (fun h6 σ7 k7 => ?_)
  refine jm_aload_n (n := 38) X 2 rfl dX4_add_37 rfl ?_
  refine jm_get (n := 41) X 1 3 3 cW_X4 rfl (by decide) (fun w h => List.mem_cons_of_mem _ (List.mem_append_right _ h)) (List.mem_of_getElem? (i := 6) rfl) rfl dX4_add_38 rfl ?_
  refine jm_iload (n := 43) X 0 rfl dX4_add_41 rfl ?_
  refine jm_iload (n := 45) X 6 rfl dX4_add_43 rfl ?_
  refine jm_ast (n := 46) X 12 0 83 cA_83 rfl rfl cT_83 k7 (k0.1 87) hx4 dX4_add_45 rfl (fun h8 σ9 k9 => ?_)
  refine jm_aload_n (n := 47) X 2 rfl dX4_add_46 rfl ?_
  refine jm_get (n := 50) X 1 3 5 cW_X4 rfl (by decide) (fun w h => List.mem_cons_of_mem _ (List.mem_append_right _ h)) (List.mem_of_getElem? (i := 7) rfl) rfl dX4_add_47 rfl ?_
  refine jm_iload (n := 52) X 0 rfl dX4_add_50 rfl ?_
  refine jm_aload_n (n := 53) X 2 rfl dX4_add_52 rfl ?_
  refine jm_iload (n := 55) X 1 rfl dX4_add_53 rfl ?_
  refine jm_iload_n (n := 56) X 4 rfl dX4_add_55 rfl ?_
  refine jm_iload_n (n := 57) X 5 rfl dX4_add_56 rfl ?_
  refine jm_iload (n := 59) X 6 rfl dX4_add_57 rfl ?_
  refine jm_callVi (n := 62) (vs := [.int (iI (tw x1)), .int (iI x2), .int (iI x3), .int (iI x4)]) (rest := [.int (iI (gI σ0 87)), .ref (h 85)]) X hA (t4_heightOver l k9 (in_tw _) hx2 hx3 hx4) (cwV 4 X.2.2.2.2.1 gX4_add_X4_heightOver rfl rfl rfl (by decide +kernel) ⟨Nat.le_of_ble_eq_true rfl, Nat.le_of_ble_eq_true rfl⟩) 1 3 cW_X4 rfl rfl (Nat.le_of_ble_eq_true rfl) dX4_add_59 rfl (fun σ10 r10 k10 h11 => ?_)
  refine jm_ast (n := 63) X 14 0 85 cA_85 rfl rfl cT_85 k10 (k0.1 87) h11 dX4_add_62 rfl (fun h12 σ13 k13 => ?_)
  refine jm_aload_n (n := 64) X 2 rfl dX4_add_63 rfl ?_
  refine jm_get (n := 67) X 1 3 6 cW_X4 rfl (by decide) (fun w h => List.mem_cons_of_mem _ (List.mem_append_right _ h)) (List.mem_of_getElem? (i := 8) rfl) rfl dX4_add_64 rfl ?_
  refine jm_iload (n := 69) X 0 rfl dX4_add_67 rfl ?_
  refine jm_aload_n (n := 70) X 2 rfl dX4_add_69 rfl ?_
  refine jm_iload (n := 72) X 1 rfl dX4_add_70 rfl ?_
  refine jm_iload_n (n := 73) X 4 rfl dX4_add_72 rfl ?_
  refine jm_iload_n (n := 74) X 5 rfl dX4_add_73 rfl ?_
  refine jm_iload (n := 76) X 6 rfl dX4_add_74 rfl ?_
  refine jm_callVi (n := 79) (vs := [.int (iI (tw x1)), .int (iI x2), .int (iI x3), .int (iI x4)]) (rest := [.int (iI (gI σ0 87)), .ref (h 86)]) X hA (t4_sizeOver l k13 (in_tw _) hx2 hx3 hx4) (cwV 4 X.2.2.2.2.1 gX4_add_X4_sizeOver rfl rfl rfl (by decide +kernel) ⟨Nat.le_of_ble_eq_true rfl, Nat.le_of_ble_eq_true rfl⟩) 1 3 cW_X4 rfl rfl (Nat.le_of_ble_eq_true rfl) dX4_add_76 rfl (fun σ14 r14 k14 h15 => ?_)
  refine jm_ast (n := 80) X 15 0 86 cA_86 rfl rfl cT_86 k14 (k0.1 87) h15 dX4_add_79 rfl (fun h16 σ17 k17 => ?_)
  refine jm_aload_n (n := 81) X 2 rfl dX4_add_80 rfl ?_
  refine jm_get (n := 84) X 1 3 4 cW_X4 rfl (by decide) (fun w h => List.mem_cons_of_mem _ (List.mem_append_right _ h)) (List.mem_of_getElem? (i := 9) rfl) rfl dX4_add_81 rfl ?_
  refine jm_iload (n := 86) X 0 rfl dX4_add_84 rfl ?_
  refine jm_iload_n (n := 87) X 3 rfl dX4_add_86 rfl ?_
  refine jm_iconst (n := 88) X dX4_add_87 rfl ?_
  refine jm_icmp_ne (n := 91) (tgt := 97) X dX4_add_88 (by decide) hx1 (by decide) rfl (fun c18 => ?_) (fun c18 => ?_)
  · refine jm_iload_n (n := 92) X 4 rfl dX4_add_91 rfl ?_
    refine jm_iconst (n := 93) X dX4_add_92 rfl ?_
    refine jm_iadd (n := 94) X dX4_add_93 rfl (fun h19 => ?_)
    refine jm_goto (n := 106) X dX4_add_94 (by decide) ?_
    refine jm_perm [2, 0] rfl ?_
    exact u4_add_106 X hA σ17 (gI σ0 87) (gI σ0 87) (x2 + (1 : Int)) k17 (k0.1 87) (k0.1 87) h19
  · refine jm_aload_n (n := 98) X 2 rfl dX4_add_97 rfl ?_
    refine jm_iload_n (n := 99) X 3 rfl dX4_add_98 rfl ?_
    refine jm_iload_n (n := 100) X 4 rfl dX4_add_99 rfl ?_
    refine jm_iload_n (n := 101) X 5 rfl dX4_add_100 rfl ?_
    refine jm_iload (n := 103) X 6 rfl dX4_add_101 rfl ?_
    refine jm_callVi (n := 106) (vs := [.int (iI x1), .int (iI x2), .int (iI x3), .int (iI x4)]) (rest := [.int (iI (gI σ0 87)), .ref (h 84)]) X hA (t4_neededOver l k17 hx1 hx2 hx3 hx4) (cwV 4 X.2.2.2.2.1 gX4_add_X4_neededOver rfl rfl rfl (by decide +kernel) ⟨Nat.le_of_ble_eq_true rfl, Nat.le_of_ble_eq_true rfl⟩) 1 3 cW_X4 rfl rfl (Nat.le_of_ble_eq_true rfl) dX4_add_103 rfl (fun σ20 r20 k20 h21 => ?_)
    refine jm_perm [2, 0] rfl ?_
    exact u4_add_106 X hA σ20 (gI σ0 87) (gI σ0 87) r20 k20 (k0.1 87) (k0.1 87) h21
end
