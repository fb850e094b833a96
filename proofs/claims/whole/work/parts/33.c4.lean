section
variable {p : Program} {l : Launch} {e : Env} {s : State} {m : MethodId} {args : Array Value} {below : List Frame} {meth : Method} {c : Code} {h : Nat → Nat} {cI cZ : ClassId} {D : va_G} {σz : Sg} {sz : Nat} {t1 t2 : Nat}
abbrev rm7_fill_53178 : Room := { frames := 0, cells := 0, slots := 0, locals := 0 }
def b7_fill_53178_5 (N : Nat) : Nat → Sg → Int → Int → Int → Option (Sg × Int)
  | 0, _, _, _, _ => none
  | n + 1, σ0, x1, x2, x3 => if x3 ≤ x2 then (some (σ0, 0))
  else (ck (0 ≤ x2 ∧ x2 < 604) <| nx (sA σ0 20 x2 x1) fun σ3 =>
  ck (inR (x2 + (1 : Int))) <|
  ((b7_fill_53178_5 N n) σ3 x1 (x2 + (1 : Int)) x3))
set_option maxRecDepth 100000 in
theorem u7_fill_53178_5 (X : CX p m meth c cJ7_fill_53178 4 none s args wsJ7_fill_53178 RJ7 D (mT cI cZ) (cE t1 t2) (va_A (cW h cI cZ σz) sz)) (hA : ∀ z : Nat, s.heap.size ≤ z → va_A (cW h cI cZ σz) sz z) (N : Nat) : ∀ (n : Nat) (σ0 : Sg) (x1 : Int) (x2 : Int) (x3 : Int), ok σ0 → inR x1 → inR x2 → inR x3 → JV l rm7_fill_53178 (cW h cI cZ) D (mT cI cZ) σz sz 4 p e s m args below meth c σ0 5 [(0, .ref (h 20)), (1, .int (iI x1)), (2, .int (iI x2)), (3, .int (iI x3))] [] (b7_fill_53178_5 N n σ0 x1 x2 x3) := by
  intro n
  induction n with
  | zero =>
    intro σ0 x1 x2 x3 k0 hx1 hx2 hx3 σ9 r9 ho9
    rw [b7_fill_53178_5] at ho9
    cases ho9
  | succ n ih =>
    intro σ0 x1 x2 x3 k0 hx1 hx2 hx3
    rw [b7_fill_53178_5]
    refine jm_iload_n (n := 6) X 2 rfl dJ7_fill_53178_5 rfl ?_
    refine jm_iload_n (n := 7) X 3 rfl dJ7_fill_53178_6 rfl ?_
    refine jm_icmp_ge (n := 10) (tgt := 20) X dJ7_fill_53178_7 (by decide) hx2 hx3 rfl (fun c1 => ?_) (fun c1 => ?_)
    · exact jm_vret X rfl k0 dJ7_fill_53178_20
    · refine jm_aload_n (n := 11) X 0 rfl dJ7_fill_53178_10 rfl ?_
      refine jm_iload_n (n := 12) X 2 rfl dJ7_fill_53178_11 rfl ?_
      refine jm_iload_n (n := 13) X 1 rfl dJ7_fill_53178_12 rfl ?_
      refine jm_ast (n := 14) X 35 0 20 cA_20 rfl rfl cT_20 k0 hx2 hx1 dJ7_fill_53178_13 rfl (fun h2 σ3 k3 => ?_)
      refine jm_iinc (n := 17) (lv' := [(2, .int (iI (x2 + (1 : Int)))), (0, .ref (h 20)), (1, .int (iI x1)), (3, .int (iI x3))]) X 2 rfl dJ7_fill_53178_14 (by decide) rfl rfl (fun h4 => ?_)
      refine jm_goto (n := 5) X dJ7_fill_53178_17 (by decide) ?_
      refine jm_perm [1, 2, 0, 3] rfl ?_
      exact ih σ3 x1 (x2 + (1 : Int)) x3 k3 hx1 h4 hx3
def f7_fill_53178 (N : Nat) (σ0 : Sg) (x1 : Int) : Option (Sg × Int) :=
  (b7_fill_53178_5 N N σ0 x1 (0 : Int) (604 : Int))
set_option maxRecDepth 100000 in
theorem t7_fill_53178 (l : Launch) {h : Nat → Nat} {cI cZ : ClassId} {D : va_G} {t1 t2 : Nat} (N : Nat) {σ0 : Sg} {x1 : Int} (k0 : ok σ0) (hx1 : inR x1) : ctV (cE t1 t2) l (cW h cI cZ) D (mT cI cZ) yJ7_fill_53178 wsJ7_fill_53178 rm7_fill_53178 [.ref (h 20), .int (iI x1)] σ0 (f7_fill_53178 N σ0 x1) := by
  refine of_V (cE_ok t1 t2) (own := RJ7) (lv := [(0, .ref (h 20)), (1, .int (iI x1))]) (by decide) rfl rfl (Nat.le_of_ble_eq_true rfl) rfl (fun p e s m below meth c sz X hA => ?_)
  rw [f7_fill_53178]
  refine jm_iconst (n := 1) X dJ7_fill_53178_0 rfl ?_
  refine jm_istore_n (n := 2) (lv' := [(2, .int (iI (0 : Int))), (0, .ref (h 20)), (1, .int (iI x1))]) X dJ7_fill_53178_1 (by decide) rfl rfl ?_
  refine jm_aload_n (n := 3) X 1 rfl dJ7_fill_53178_2 rfl ?_
  refine jm_alen (n := 4) (z := 604) X 35 0 cA_20 rfl (by decide) dJ7_fill_53178_3 rfl ?_
  refine jm_istore_n (n := 5) (lv' := [(3, .int (iI (604 : Int))), (2, .int (iI (0 : Int))), (0, .ref (h 20)), (1, .int (iI x1))]) X dJ7_fill_53178_4 (by decide) rfl rfl ?_
  refine jm_perm [2, 3, 1, 0] rfl ?_
  exact u7_fill_53178_5 X hA N N σ0 x1 (0 : Int) (604 : Int) k0 hx1 (by decide) (by decide)
abbrev rm1_keepNode : Room := { frames := 2, cells := 0, slots := 0, locals := 45 }
def b1_keepNode_64 (N : Nat) : Nat → Sg → Int → Int → Int → Option (Sg × Int)
  | 0, _, _, _, _ => none
  | n + 1, σ0, x2, x4, x5 => if x5 < 0 then (some (σ0, x4))
  else (bd (f5_chosenPart N σ0 x2 x5) fun σ2 r2 =>
  ck (inR ((4 : Int) * x2)) <|
  ck (inR (((4 : Int) * x2) + x5)) <|
  ck (0 ≤ (((4 : Int) * x2) + x5) ∧ (((4 : Int) * x2) + x5) < 2416) <| nx (sA σ2 21 (((4 : Int) * x2) + x5) r2) fun σ7 =>
  ck (0 ≤ x4 ∧ x4 < 481) <| nx (sA σ7 22 x4 r2) fun σ9 =>
  ck (inR (x4 + (1 : Int))) <|
  ck (inR (x5 + (-1 : Int))) <|
  ((b1_keepNode_64 N n) σ9 x2 (x4 + (1 : Int)) (x5 + (-1 : Int))))
set_option maxRecDepth 100000 in
theorem u1_keepNode_64 (X : CX p m meth c cX1_keepNode 7 (some .int) s args wsX1_keepNode RX1 D (mT cI cZ) (cE t1 t2) (va_A (cW h cI cZ σz) sz)) (hA : ∀ z : Nat, s.heap.size ≤ z → va_A (cW h cI cZ σz) sz z) (N : Nat) : ∀ (n : Nat) (σ0 : Sg) (x2 : Int) (x4 : Int) (x5 : Int), ok σ0 → inR x2 → inR x4 → inR x5 → JI l rm1_keepNode (cW h cI cZ) D (mT cI cZ) σz sz 7 p e s m args below meth c σ0 64 [(0, .ref (h 39)), (1, .ref (h 119)), (2, .int (iI x2)), (4, .int (iI x4)), (5, .int (iI x5))] [] (b1_keepNode_64 N n σ0 x2 x4 x5) := by
  intro n
  induction n with
  | zero =>
    intro σ0 x2 x4 x5 k0 hx2 hx4 hx5 σ9 r9 ho9
    rw [b1_keepNode_64] at ho9
    cases ho9
  | succ n ih =>
    intro σ0 x2 x4 x5 k0 hx2 hx4 hx5
    rw [b1_keepNode_64]
    refine jm_iload (n := 66) X 4 rfl dX1_keepNode_64 rfl ?_
    refine jm_if_lt (n := 69) (tgt := 109) X dX1_keepNode_66 (by decide) hx5 rfl (fun c1 => ?_) (fun c1 => ?_)
    · refine jm_iload (n := 111) X 3 rfl dX1_keepNode_109 rfl ?_
      exact jm_iret X rfl k0 hx4 dX1_keepNode_111
    · refine jm_aload_n (n := 70) X 1 rfl dX1_keepNode_69 rfl ?_
      refine jm_iload_n (n := 71) X 2 rfl dX1_keepNode_70 rfl ?_
      refine jm_iload (n := 73) X 4 rfl dX1_keepNode_71 rfl ?_
      refine jm_callVi (n := 76) (vs := [.int (iI x2), .int (iI x5)]) (rest := []) X hA (t5_chosenPart l N k0 hx2 hx5) (cwV 2 X.2.2.2.2.1 gX1_keepNode_X5_chosenPart rfl rfl rfl (by decide +kernel) ⟨Nat.le_of_ble_eq_true rfl, Nat.le_of_ble_eq_true rfl⟩) 7 4 cW_X5 rfl rfl (Nat.le_of_ble_eq_true rfl) dX1_keepNode_73 rfl (fun σ2 r2 k2 h3 => ?_)
      refine jm_istore (n := 78) (lv' := [(6, .int (iI r2)), (0, .ref (h 39)), (1, .ref (h 119)), (2, .int (iI x2)), (4, .int (iI x4)), (5, .int (iI x5))]) X dX1_keepNode_76 (by decide) rfl rfl ?_
      refine jm_aload_n (n := 79) X 1 rfl dX1_keepNode_78 rfl ?_
      refine jm_get (n := 82) X 8 0 1 cW_X1 rfl (by decide) (fun w h => List.mem_cons_of_mem _ (List.mem_append_left _ (List.mem_append_right _ h))) (List.mem_of_getElem? (i := 4) rfl) rfl dX1_keepNode_79 rfl ?_
      refine jm_iconst (n := 83) X dX1_keepNode_82 rfl ?_
      refine jm_iload_n (n := 84) X 3 rfl dX1_keepNode_83 rfl ?_
      refine jm_imul (n := 85) X dX1_keepNode_84 rfl (fun h4 => ?_)
      refine jm_iload (n := 87) X 5 rfl dX1_keepNode_85 rfl ?_
      refine jm_iadd (n := 88) X dX1_keepNode_87 rfl (fun h5 => ?_)
      refine jm_iload (n := 90) X 0 rfl dX1_keepNode_88 rfl ?_
      refine jm_ast (n := 91) X 36 0 21 cA_21 rfl rfl cT_21 k2 h5 h3 dX1_keepNode_90 rfl (fun h6 σ7 k7 => ?_)
      refine jm_aload_n (n := 92) X 1 rfl dX1_keepNode_91 rfl ?_
      refine jm_get (n := 95) X 8 0 2 cW_X1 rfl (by decide) (fun w h => List.mem_cons_of_mem _ (List.mem_append_left _ (List.mem_append_right _ h))) (List.mem_of_getElem? (i := 5) rfl) rfl dX1_keepNode_92 rfl ?_
      refine jm_iload (n := 97) X 4 rfl dX1_keepNode_95 rfl ?_
      refine jm_iload (n := 99) X 0 rfl dX1_keepNode_97 rfl ?_
      refine jm_ast (n := 100) X 37 0 22 cA_22 rfl rfl cT_22 k7 hx4 h3 dX1_keepNode_99 rfl (fun h8 σ9 k9 => ?_)
      refine jm_iinc (n := 103) (lv' := [(4, .int (iI (x4 + (1 : Int)))), (6, .int (iI r2)), (0, .ref (h 39)), (1, .ref (h 119)), (2, .int (iI x2)), (5, .int (iI x5))]) X 4 rfl dX1_keepNode_100 (by decide) rfl rfl (fun h10 => ?_)
      refine jm_iinc (n := 106) (lv' := [(5, .int (iI (x5 + (-1 : Int)))), (4, .int (iI (x4 + (1 : Int)))), (6, .int (iI r2)), (0, .ref (h 39)), (1, .ref (h 119)), (2, .int (iI x2))]) X 5 rfl dX1_keepNode_103 (by decide) rfl rfl (fun h11 => ?_)
      refine jm_goto (n := 64) X dX1_keepNode_106 (by decide) ?_
      refine jm_perm [3, 4, 5, 1, 0] rfl ?_
      exact ih σ9 x2 (x4 + (1 : Int)) (x5 + (-1 : Int)) k9 hx2 h10 h11
def f1_keepNode (N : Nat) (σ0 : Sg) (x2 : Int) (x3 : Int) : Option (Sg × Int) :=
  ck (0 ≤ x2 ∧ x2 < 604) <|
  ck (0 ≤ x2 ∧ x2 < 604) <| nx (sA σ0 20 x2 (gA σ0 100 x2)) fun σ3 =>
  ck (0 ≤ x2 ∧ x2 < 604) <|
  if (gA σ3 20 x2) = (3 : Int) then (ck (inR ((3 : Int) + (gI σ3 24))) <|
  ck (0 ≤ x2 ∧ x2 < 604) <| nx (sA σ3 20 x2 ((3 : Int) + (gI σ3 24))) fun σ8 =>
  ck (inR ((gI σ8 24) + (1 : Int))) <|
  nx (sI σ8 24 ((gI σ8 24) + (1 : Int))) fun σ10 =>
  some (σ10, x3))
  else (ck (0 ≤ x2 ∧ x2 < 604) <|
  if (gA σ3 20 x2) = (2 : Int) then ((b1_keepNode_64 N N σ3 x2 x3 (3 : Int)))
  else (some (σ3, x3)))
set_option maxRecDepth 100000 in
theorem t1_keepNode (l : Launch) {h : Nat → Nat} {cI cZ : ClassId} {D : va_G} {t1 t2 : Nat} (N : Nat) {σ0 : Sg} {x2 : Int} {x3 : Int} (k0 : ok σ0) (hx2 : inR x2) (hx3 : inR x3) : ctI (cE t1 t2) l (cW h cI cZ) D (mT cI cZ) yX1_keepNode wsX1_keepNode rm1_keepNode [.ref (h 39), .ref (h 119), .int (iI x2), .int (iI x3)] σ0 (f1_keepNode N σ0 x2 x3) := by
  refine of_I (cE_ok t1 t2) (own := RX1) (lv := [(0, .ref (h 39)), (1, .ref (h 119)), (2, .int (iI x2)), (3, .int (iI x3))]) (by decide) rfl rfl (Nat.le_of_ble_eq_true rfl) rfl (fun p e s m below meth c sz X hA => ?_)
  rw [f1_keepNode]
  refine jm_aload_n (n := 1) X 0 rfl dX1_keepNode_0 rfl ?_
  refine jm_get (n := 4) X 8 0 0 cW_X1 rfl (by decide) (fun w h => List.mem_cons_of_mem _ (List.mem_append_left _ (List.mem_append_right _ h))) (List.mem_of_getElem? (i := 1) rfl) rfl dX1_keepNode_1 rfl ?_
  refine jm_iload_n (n := 5) X 2 rfl dX1_keepNode_4 rfl ?_
  refine jm_aload_n (n := 6) X 1 rfl dX1_keepNode_5 rfl ?_
  refine jm_get (n := 9) X 7 4 0 cW_X5 rfl (by decide) (fun w h => List.mem_cons_of_mem _ (List.mem_append_right _ h)) (List.mem_of_getElem? (i := 2) rfl) rfl dX1_keepNode_6 rfl ?_
  refine jm_iload_n (n := 10) X 2 rfl dX1_keepNode_9 rfl ?_
  refine jm_ald (n := 11) X 28 0 100 cA_100 rfl rfl hx2 dX1_keepNode_10 rfl (fun h1 => ?_)
  refine jm_ast (n := 12) X 35 0 20 cA_20 rfl rfl cT_20 k0 hx2 (k0.2 100 _) dX1_keepNode_11 rfl (fun h2 σ3 k3 => ?_)
  refine jm_aload_n (n := 13) X 0 rfl dX1_keepNode_12 rfl ?_
  refine jm_get (n := 16) X 8 0 0 cW_X1 rfl (by decide) (fun w h => List.mem_cons_of_mem _ (List.mem_append_left _ (List.mem_append_right _ h))) (List.mem_of_getElem? (i := 1) rfl) rfl dX1_keepNode_13 rfl ?_
  refine jm_iload_n (n := 17) X 2 rfl dX1_keepNode_16 rfl ?_
  refine jm_ald (n := 18) X 35 0 20 cA_20 rfl rfl hx2 dX1_keepNode_17 rfl (fun h4 => ?_)
  refine jm_iconst (n := 19) X dX1_keepNode_18 rfl ?_
  refine jm_icmp_ne (n := 22) (tgt := 46) X dX1_keepNode_19 (by decide) (k3.2 20 _) (by decide) rfl (fun c5 => ?_) (fun c5 => ?_)
  · refine jm_aload_n (n := 23) X 0 rfl dX1_keepNode_22 rfl ?_
    refine jm_get (n := 26) X 8 0 0 cW_X1 rfl (by decide) (fun w h => List.mem_cons_of_mem _ (List.mem_append_left _ (List.mem_append_right _ h))) (List.mem_of_getElem? (i := 1) rfl) rfl dX1_keepNode_23 rfl ?_
    refine jm_iload_n (n := 27) X 2 rfl dX1_keepNode_26 rfl ?_
    refine jm_iconst (n := 28) X dX1_keepNode_27 rfl ?_
    refine jm_aload_n (n := 29) X 0 rfl dX1_keepNode_28 rfl ?_
    refine jm_get (n := 32) X 8 0 4 cW_X1 rfl (by decide) (fun w h => List.mem_cons_of_mem _ (List.mem_append_left _ (List.mem_append_right _ h))) (List.mem_of_getElem? (i := 3) rfl) rfl dX1_keepNode_29 rfl ?_
    refine jm_iadd (n := 33) X dX1_keepNode_32 rfl (fun h6 => ?_)
    refine jm_ast (n := 34) X 35 0 20 cA_20 rfl rfl cT_20 k3 hx2 h6 dX1_keepNode_33 rfl (fun h7 σ8 k8 => ?_)
    refine jm_aload_n (n := 35) X 0 rfl dX1_keepNode_34 rfl ?_
    refine jm_dup (n := 36) X dX1_keepNode_35 rfl rfl ?_
    refine jm_get (n := 39) X 8 0 4 cW_X1 rfl (by decide) (fun w h => List.mem_cons_of_mem _ (List.mem_append_left _ (List.mem_append_right _ h))) (List.mem_of_getElem? (i := 3) rfl) rfl dX1_keepNode_36 rfl ?_
    refine jm_iconst (n := 40) X dX1_keepNode_39 rfl ?_
    refine jm_iadd (n := 41) X dX1_keepNode_40 rfl (fun h9 => ?_)
    refine jm_put (n := 44) X 8 0 4 24 cW_X1 rfl (by decide) (fun w h => List.mem_cons_of_mem _ (List.mem_append_left _ (List.mem_append_right _ h))) tyX1 tyX1_ok nmX1 (List.mem_of_getElem? (i := 3) rfl) rfl rfl rfl rfl (Nat.le_of_ble_eq_true rfl) cS_24 k8 h9 dX1_keepNode_41 rfl (fun σ10 k10 => ?_)
    refine jm_iload_n (n := 45) X 3 rfl dX1_keepNode_44 rfl ?_
    exact jm_iret X rfl k10 hx3 dX1_keepNode_45
  · refine jm_aload_n (n := 47) X 0 rfl dX1_keepNode_46 rfl ?_
    refine jm_get (n := 50) X 8 0 0 cW_X1 rfl (by decide) (fun w h => List.mem_cons_of_mem _ (List.mem_append_left _ (List.mem_append_right _ h))) (List.mem_of_getElem? (i := 1) rfl) rfl dX1_keepNode_47 rfl ?_
    refine jm_iload_n (n := 51) X 2 rfl dX1_keepNode_50 rfl ?_
    refine jm_ald (n := 52) X 35 0 20 cA_20 rfl rfl hx2 dX1_keepNode_51 rfl (fun h11 => ?_)
    refine jm_iconst (n := 53) X dX1_keepNode_52 rfl ?_
    refine jm_icmp_eq (n := 56) (tgt := 58) X dX1_keepNode_53 (by decide) (k3.2 20 _) (by decide) rfl (fun c12 => ?_) (fun c12 => ?_)
    · refine jm_iload_n (n := 59) X 3 rfl dX1_keepNode_58 rfl ?_
      refine jm_istore (n := 61) (lv' := [(4, .int (iI x3)), (0, .ref (h 39)), (1, .ref (h 119)), (2, .int (iI x2)), (3, .int (iI x3))]) X dX1_keepNode_59 (by decide) rfl rfl ?_
      refine jm_iconst (n := 62) X dX1_keepNode_61 rfl ?_
      refine jm_istore (n := 64) (lv' := [(5, .int (iI (3 : Int))), (4, .int (iI x3)), (0, .ref (h 39)), (1, .ref (h 119)), (2, .int (iI x2)), (3, .int (iI x3))]) X dX1_keepNode_62 (by decide) rfl rfl ?_
      refine jm_perm [2, 3, 4, 1, 0] rfl ?_
      exact u1_keepNode_64 X hA N N σ3 x2 x3 (3 : Int) k3 hx2 hx3 (by decide)
    · refine jm_iload_n (n := 57) X 3 rfl dX1_keepNode_56 rfl ?_
      exact jm_iret X rfl k3 hx3 dX1_keepNode_57
abbrev rm1_keep : Room := { frames := 3, cells := 0, slots := 0, locals := 71 }
def b1_keep_82 (N : Nat) (K37 : Sg → Int → Int → Option (Sg × Int)) (σ0 : Sg) (x3 : Int) (x4 : Int) : Option (Sg × Int) :=
  ck (inR (x4 + (1 : Int))) <|
  (K37 σ0 x3 (x4 + (1 : Int)))
set_option maxRecDepth 100000 in
theorem u1_keep_82 (X : CX p m meth c cX1_keep 6 none s args wsX1_keep RX1 D (mT cI cZ) (cE t1 t2) (va_A (cW h cI cZ σz) sz)) (hA : ∀ z : Nat, s.heap.size ≤ z → va_A (cW h cI cZ σz) sz z) (N : Nat) (K37 : Sg → Int → Int → Option (Sg × Int)) (hK37 : ∀ (τ : Sg) (x3 : Int) (x4 : Int), ok τ → inR x3 → inR x4 → JV l rm1_keep (cW h cI cZ) D (mT cI cZ) σz sz 6 p e s m args below meth c τ 37 [(0, .ref (h 39)), (1, .ref (h 119)), (3, .int (iI x3)), (4, .int (iI x4))] [] (K37 τ x3 x4)) (σ0 : Sg) (x3 : Int) (x4 : Int) (k0 : ok σ0) (hx3 : inR x3) (hx4 : inR x4) : JV l rm1_keep (cW h cI cZ) D (mT cI cZ) σz sz 6 p e s m args below meth c σ0 82 [(0, .ref (h 39)), (1, .ref (h 119)), (3, .int (iI x3)), (4, .int (iI x4))] [] (b1_keep_82 N K37 σ0 x3 x4) := by
  rw [b1_keep_82]
  refine jm_iinc (n := 85) (lv' := [(4, .int (iI (x4 + (1 : Int)))), (0, .ref (h 39)), (1, .ref (h 119)), (3, .int (iI x3))]) X 3 rfl dX1_keep_82 (by decide) rfl rfl (fun h1 => ?_)
  refine jm_goto (n := 37) X dX1_keep_85 (by decide) ?_
  refine jm_perm [1, 2, 3, 0] rfl ?_
  exact hK37 σ0 x3 (x4 + (1 : Int)) k0 hx3 h1
def b1_keep_37 (N : Nat) : Nat → Sg → Int → Int → Option (Sg × Int)
  | 0, _, _, _ => none
  | n + 1, σ0, x3, x4 => if (481 : Int) ≤ x4 then (some (σ0, 0))
  else (if x3 ≤ 0 then (some (σ0, 0))
  else (ck (inR (x3 + (-1 : Int))) <|
  ck (0 ≤ (x3 + (-1 : Int)) ∧ (x3 + (-1 : Int)) < 481) <|
  ck (0 ≤ (gA σ0 22 (x3 + (-1 : Int))) ∧ (gA σ0 22 (x3 + (-1 : Int))) < 604) <|
  if (gA σ0 20 (gA σ0 22 (x3 + (-1 : Int)))) = (-1 : Int) then (bd (f1_keepNode N σ0 (gA σ0 22 (x3 + (-1 : Int))) (x3 + (-1 : Int))) fun σ7 r7 =>
  (b1_keep_82 N (b1_keep_37 N n) σ7 r7 x4))
  else ((b1_keep_82 N (b1_keep_37 N n) σ0 (x3 + (-1 : Int)) x4))))
set_option maxRecDepth 100000 in
theorem u1_keep_37 (X : CX p m meth c cX1_keep 6 none s args wsX1_keep RX1 D (mT cI cZ) (cE t1 t2) (va_A (cW h cI cZ σz) sz)) (hA : ∀ z : Nat, s.heap.size ≤ z → va_A (cW h cI cZ σz) sz z) (N : Nat) : ∀ (n : Nat) (σ0 : Sg) (x3 : Int) (x4 : Int), ok σ0 → inR x3 → inR x4 → JV l rm1_keep (cW h cI cZ) D (mT cI cZ) σz sz 6 p e s m args below meth c σ0 37 [(0, .ref (h 39)), (1, .ref (h 119)), (3, .int (iI x3)), (4, .int (iI x4))] [] (b1_keep_37 N n σ0 x3 x4) := by
  intro n
  induction n with
  | zero =>
    intro σ0 x3 x4 k0 hx3 hx4 σ9 r9 ho9
    rw [b1_keep_37] at ho9
    cases ho9
  | succ n ih =>
    intro σ0 x3 x4 k0 hx3 hx4
    rw [b1_keep_37]
    refine jm_iload (n := 39) X 3 rfl dX1_keep_37 rfl ?_
    refine jm_aload_n (n := 40) X 0 rfl dX1_keep_39 rfl ?_
    refine jm_get (n := 43) X 8 0 2 cW_X1 rfl (by decide) (fun w h => List.mem_cons_of_mem _ (List.mem_append_left _ (List.mem_append_right _ h))) (List.mem_of_getElem? (i := 4) rfl) rfl dX1_keep_40 rfl ?_
    refine jm_alen (n := 44) (z := 481) X 37 0 cA_22 rfl (by decide) dX1_keep_43 rfl ?_
    refine jm_icmp_ge (n := 47) (tgt := 88) X dX1_keep_44 (by decide) hx4 (by decide) rfl (fun c1 => ?_) (fun c1 => ?_)
    · exact jm_vret X rfl k0 dX1_keep_88
    · refine jm_iload_n (n := 48) X 2 rfl dX1_keep_47 rfl ?_
      refine jm_if_le (n := 51) (tgt := 88) X dX1_keep_48 (by decide) hx3 rfl (fun c2 => ?_) (fun c2 => ?_)
      · exact jm_vret X rfl k0 dX1_keep_88
      · refine jm_iinc (n := 54) (lv' := [(3, .int (iI (x3 + (-1 : Int)))), (0, .ref (h 39)), (1, .ref (h 119)), (4, .int (iI x4))]) X 2 rfl dX1_keep_51 (by decide) rfl rfl (fun h3 => ?_)
        refine jm_aload_n (n := 55) X 1 rfl dX1_keep_54 rfl ?_
        refine jm_get (n := 58) X 8 0 2 cW_X1 rfl (by decide) (fun w h => List.mem_cons_of_mem _ (List.mem_append_left _ (List.mem_append_right _ h))) (List.mem_of_getElem? (i := 4) rfl) rfl dX1_keep_55 rfl ?_
        refine jm_iload_n (n := 59) X 0 rfl dX1_keep_58 rfl ?_
        refine jm_ald (n := 60) X 37 0 22 cA_22 rfl rfl h3 dX1_keep_59 rfl (fun h4 => ?_)
        refine jm_istore (n := 62) (lv' := [(5, .int (iI (gA σ0 22 (x3 + (-1 : Int))))), (3, .int (iI (x3 + (-1 : Int)))), (0, .ref (h 39)), (1, .ref (h 119)), (4, .int (iI x4))]) X dX1_keep_60 (by decide) rfl rfl ?_
        refine jm_aload_n (n := 63) X 2 rfl dX1_keep_62 rfl ?_
        refine jm_get (n := 66) X 8 0 0 cW_X1 rfl (by decide) (fun w h => List.mem_cons_of_mem _ (List.mem_append_left _ (List.mem_append_right _ h))) (List.mem_of_getElem? (i := 3) rfl) rfl dX1_keep_63 rfl ?_
        refine jm_iload (n := 68) X 0 rfl dX1_keep_66 rfl ?_
        refine jm_ald (n := 69) X 35 0 20 cA_20 rfl rfl (k0.2 22 _) dX1_keep_68 rfl (fun h5 => ?_)
        refine jm_iconst (n := 70) X dX1_keep_69 rfl ?_
        refine jm_icmp_ne (n := 73) (tgt := 82) X dX1_keep_70 (by decide) (k0.2 20 _) (by decide) rfl (fun c6 => ?_) (fun c6 => ?_)
        · refine jm_aload_n (n := 74) X 2 rfl dX1_keep_73 rfl ?_
          refine jm_aload_n (n := 75) X 3 rfl dX1_keep_74 rfl ?_
          refine jm_iload (n := 77) X 0 rfl dX1_keep_75 rfl ?_
          refine jm_iload_n (n := 78) X 1 rfl dX1_keep_77 rfl ?_
          refine jm_callVi (n := 81) (vs := [.ref (h 119), .int (iI (gA σ0 22 (x3 + (-1 : Int)))), .int (iI (x3 + (-1 : Int)))]) (rest := []) X hA (t1_keepNode l N k0 (k0.2 22 _) h3) (cwV 3 X.2.2.2.2.1 gX1_keep_X1_keepNode rfl rfl rfl (by decide +kernel) ⟨Nat.le_of_ble_eq_true rfl, Nat.le_of_ble_eq_true rfl⟩) 8 0 cW_X1 rfl rfl (Nat.le_of_ble_eq_true rfl) dX1_keep_78 rfl (fun σ7 r7 k7 h8 => ?_)
          refine jm_istore_n (n := 82) (lv' := [(3, .int (iI r7)), (5, .int (iI (gA σ0 22 (x3 + (-1 : Int))))), (0, .ref (h 39)), (1, .ref (h 119)), (4, .int (iI x4))]) X dX1_keep_81 (by decide) rfl rfl ?_
          refine jm_perm [2, 3, 0, 4] rfl ?_
          exact u1_keep_82 X hA N (b1_keep_37 N n) ih σ7 r7 x4 k7 h8 hx4
        · refine jm_perm [2, 3, 1, 4] rfl ?_
          exact u1_keep_82 X hA N (b1_keep_37 N n) ih σ0 (x3 + (-1 : Int)) x4 k0 h3 hx4
def f1_keep (N : Nat) (σ0 : Sg) (x2 : Int) : Option (Sg × Int) :=
  bd (f5_chosen N σ0 x2) fun σ1 r1 =>
  nx (sI σ1 23 r1) fun σ3 =>
  nx (sI σ3 24 (0 : Int)) fun σ4 =>
  bd (f7_fill_53178 N σ4 (-1 : Int)) fun σ5 r5 =>
  ck (0 ≤ (0 : Int) ∧ (0 : Int) < 481) <| nx (sA σ5 22 (0 : Int) (gI σ5 23)) fun σ8 =>
  (b1_keep_37 N N σ8 (1 : Int) (0 : Int))
set_option maxRecDepth 100000 in
theorem t1_keep (l : Launch) {h : Nat → Nat} {cI cZ : ClassId} {D : va_G} {t1 t2 : Nat} (N : Nat) {σ0 : Sg} {x2 : Int} (k0 : ok σ0) (hx2 : inR x2) : ctV (cE t1 t2) l (cW h cI cZ) D (mT cI cZ) yX1_keep wsX1_keep rm1_keep [.ref (h 39), .ref (h 119), .int (iI x2)] σ0 (f1_keep N σ0 x2) := by
  refine of_V (cE_ok t1 t2) (own := RX1) (lv := [(0, .ref (h 39)), (1, .ref (h 119)), (2, .int (iI x2))]) (by decide) rfl rfl (Nat.le_of_ble_eq_true rfl) rfl (fun p e s m below meth c sz X hA => ?_)
  rw [f1_keep]
  refine jm_aload_n (n := 1) X 0 rfl dX1_keep_0 rfl ?_
  refine jm_aload_n (n := 2) X 1 rfl dX1_keep_1 rfl ?_
  refine jm_iload_n (n := 3) X 2 rfl dX1_keep_2 rfl ?_
  refine jm_callVi (n := 6) (vs := [.int (iI x2)]) (rest := [.ref (h 39)]) X hA (t5_chosen l N k0 hx2) (cwV 1 X.2.2.2.2.1 gX1_keep_X5_chosen rfl rfl rfl (by decide +kernel) ⟨Nat.le_of_ble_eq_true rfl, Nat.le_of_ble_eq_true rfl⟩) 7 4 cW_X5 rfl rfl (Nat.le_of_ble_eq_true rfl) dX1_keep_3 rfl (fun σ1 r1 k1 h2 => ?_)
  refine jm_put (n := 9) X 8 0 3 23 cW_X1 rfl (by decide) (fun w h => List.mem_cons_of_mem _ (List.mem_append_left _ (List.mem_append_right _ h))) tyX1 tyX1_ok nmX1 (List.mem_of_getElem? (i := 1) rfl) rfl rfl rfl rfl (Nat.le_of_ble_eq_true rfl) cS_23 k1 h2 dX1_keep_6 rfl (fun σ3 k3 => ?_)
  refine jm_aload_n (n := 10) X 0 rfl dX1_keep_9 rfl ?_
  refine jm_iconst (n := 11) X dX1_keep_10 rfl ?_
  refine jm_put (n := 14) X 8 0 4 24 cW_X1 rfl (by decide) (fun w h => List.mem_cons_of_mem _ (List.mem_append_left _ (List.mem_append_right _ h))) tyX1 tyX1_ok nmX1 (List.mem_of_getElem? (i := 2) rfl) rfl rfl rfl rfl (Nat.le_of_ble_eq_true rfl) cS_24 k3 (by decide) dX1_keep_11 rfl (fun σ4 k4 => ?_)
  refine jm_aload_n (n := 15) X 0 rfl dX1_keep_14 rfl ?_
  refine jm_get (n := 18) X 8 0 0 cW_X1 rfl (by decide) (fun w h => List.mem_cons_of_mem _ (List.mem_append_left _ (List.mem_append_right _ h))) (List.mem_of_getElem? (i := 3) rfl) rfl dX1_keep_15 rfl ?_
  refine jm_iconst (n := 19) X dX1_keep_18 rfl ?_
  refine jm_callSv (n := 22) (vs := [.ref (h 20), .int (iI (-1 : Int))]) (rest := []) X hA (t7_fill_53178 l N k4 (by decide)) (va_cwS 2 X.2.2.2.2.1 gX1_keep_J7_fill_53178 rfl rfl rfl (by decide +kernel) ⟨Nat.le_of_ble_eq_true rfl, Nat.le_of_ble_eq_true rfl⟩) rfl (Nat.le_of_ble_eq_true rfl) dX1_keep_19 rfl (fun σ5 r5 k5 => ?_)
  refine jm_aload_n (n := 23) X 0 rfl dX1_keep_22 rfl ?_
  refine jm_get (n := 26) X 8 0 2 cW_X1 rfl (by decide) (fun w h => List.mem_cons_of_mem _ (List.mem_append_left _ (List.mem_append_right _ h))) (List.mem_of_getElem? (i := 4) rfl) rfl dX1_keep_23 rfl ?_
  refine jm_iconst (n := 27) X dX1_keep_26 rfl ?_
  refine jm_aload_n (n := 28) X 0 rfl dX1_keep_27 rfl ?_
  refine jm_get (n := 31) X 8 0 3 cW_X1 rfl (by decide) (fun w h => List.mem_cons_of_mem _ (List.mem_append_left _ (List.mem_append_right _ h))) (List.mem_of_getElem? (i := 1) rfl) rfl dX1_keep_28 rfl ?_
  refine jm_ast (n := 32) X 37 0 22 cA_22 rfl rfl cT_22 k5 (by decide) (k5.1 23) dX1_keep_31 rfl (fun h7 σ8 k8 => ?_)
  refine jm_iconst (n := 33) X dX1_keep_32 rfl ?_
  refine jm_istore_n (n := 34) (lv' := [(3, .int (iI (1 : Int))), (0, .ref (h 39)), (1, .ref (h 119)), (2, .int (iI x2))]) X dX1_keep_33 (by decide) rfl rfl ?_
  refine jm_iconst (n := 35) X dX1_keep_34 rfl ?_
  refine jm_istore (n := 37) (lv' := [(4, .int (iI (0 : Int))), (3, .int (iI (1 : Int))), (0, .ref (h 39)), (1, .ref (h 119)), (2, .int (iI x2))]) X dX1_keep_35 (by decide) rfl rfl ?_
  refine jm_perm [2, 3, 1, 0] rfl ?_
  exact u1_keep_37 X hA N N σ8 (1 : Int) (0 : Int) k8 (by decide) (by decide)
abbrev rm1_at : Room := { frames := 0, cells := 0, slots := 0, locals := 0 }
def b1_at_21 (N : Nat) : Nat → Sg → Int → Int → Option (Sg × Int)
  | 0, _, _, _ => none
  | n + 1, σ0, x2, x3 => if x3 ≤ 0 then (ck (0 ≤ x2 ∧ x2 < 604) <|
  some (σ0, (gA σ0 20 x2)))
  else (ck (0 ≤ x3) <|
  if (x3 % (10 : Int)) < (1 : Int) then (some (σ0, (-1 : Int)))
  else (if (4 : Int) < (x3 % (10 : Int)) then (some (σ0, (-1 : Int)))
  else (ck (0 ≤ x2 ∧ x2 < 604) <|
  if (gA σ0 20 x2) = (2 : Int) then (ck (inR ((4 : Int) * x2)) <|
  ck (inR (((4 : Int) * x2) + (x3 % (10 : Int)))) <|
  ck (inR ((((4 : Int) * x2) + (x3 % (10 : Int))) - (1 : Int))) <|
  ck (0 ≤ ((((4 : Int) * x2) + (x3 % (10 : Int))) - (1 : Int)) ∧ ((((4 : Int) * x2) + (x3 % (10 : Int))) - (1 : Int)) < 2416) <|
  ck (0 ≤ x3) <|
  ((b1_at_21 N n) σ0 (gA σ0 21 ((((4 : Int) * x2) + (x3 % (10 : Int))) - (1 : Int))) (x3 / (10 : Int))))
  else (some (σ0, (-1 : Int))))))
set_option maxRecDepth 100000 in
theorem u1_at_21 (X : CX p m meth c cX1_at 5 (some .int) s args wsX1_at RX1 D (mT cI cZ) (cE t1 t2) (va_A (cW h cI cZ σz) sz)) (hA : ∀ z : Nat, s.heap.size ≤ z → va_A (cW h cI cZ σz) sz z) (N : Nat) : ∀ (n : Nat) (σ0 : Sg) (x2 : Int) (x3 : Int), ok σ0 → inR x2 → inR x3 → JI l rm1_at (cW h cI cZ) D (mT cI cZ) σz sz 5 p e s m args below meth c σ0 21 [(0, .ref (h 39)), (2, .int (iI x2)), (3, .int (iI x3))] [] (b1_at_21 N n σ0 x2 x3) := by
  intro n
  induction n with
  | zero =>
    intro σ0 x2 x3 k0 hx2 hx3 σ9 r9 ho9
    rw [b1_at_21] at ho9
    cases ho9
  | succ n ih =>
    intro σ0 x2 x3 k0 hx2 hx3
    rw [b1_at_21]
    refine jm_iload_n (n := 22) X 2 rfl dX1_at_21 rfl ?_
    refine jm_if_le (n := 25) (tgt := 77) X dX1_at_22 (by decide) hx3 rfl (fun c1 => ?_) (fun c1 => ?_)
    · refine jm_aload_n (n := 78) X 0 rfl dX1_at_77 rfl ?_
      refine jm_get (n := 81) X 8 0 0 cW_X1 rfl (by decide) (fun w h => List.mem_cons_of_mem _ (List.mem_append_right _ h)) (List.mem_of_getElem? (i := 2) rfl) rfl dX1_at_78 rfl ?_
      refine jm_iload_n (n := 82) X 1 rfl dX1_at_81 rfl ?_
      refine jm_ald (n := 83) X 35 0 20 cA_20 rfl rfl hx2 dX1_at_82 rfl (fun h2 => ?_)
      exact jm_iret X rfl k0 (k0.2 20 _) dX1_at_83
    · refine jm_iload_n (n := 26) X 2 rfl dX1_at_25 rfl ?_
      refine jm_bipush (n := 28) X dX1_at_26 (by decide) rfl ?_
      refine jm_irem (n := 29) X dX1_at_28 hx3 (by decide) (by decide) rfl (fun h3 => ?_)
      refine jm_istore (n := 31) (lv' := [(4, .int (iI (x3 % (10 : Int)))), (0, .ref (h 39)), (2, .int (iI x2)), (3, .int (iI x3))]) X dX1_at_29 (by decide) rfl rfl ?_
      refine jm_iload (n := 33) X 0 rfl dX1_at_31 rfl ?_
      refine jm_iconst (n := 34) X dX1_at_33 rfl ?_
      refine jm_icmp_lt (n := 37) (tgt := 53) X dX1_at_34 (by decide) (in_irem hx3 h3 (by decide)) (by decide) rfl (fun c4 => ?_) (fun c4 => ?_)
      · refine jm_iconst (n := 54) X dX1_at_53 rfl ?_
        exact jm_iret X rfl k0 (by decide) dX1_at_54
      · refine jm_iload (n := 39) X 0 rfl dX1_at_37 rfl ?_
        refine jm_iconst (n := 40) X dX1_at_39 rfl ?_
        refine jm_icmp_gt (n := 43) (tgt := 53) X dX1_at_40 (by decide) (in_irem hx3 h3 (by decide)) (by decide) rfl (fun c5 => ?_) (fun c5 => ?_)
        · refine jm_iconst (n := 54) X dX1_at_53 rfl ?_
          exact jm_iret X rfl k0 (by decide) dX1_at_54
        · refine jm_aload_n (n := 44) X 1 rfl dX1_at_43 rfl ?_
          refine jm_get (n := 47) X 8 0 0 cW_X1 rfl (by decide) (fun w h => List.mem_cons_of_mem _ (List.mem_append_right _ h)) (List.mem_of_getElem? (i := 2) rfl) rfl dX1_at_44 rfl ?_
          refine jm_iload_n (n := 48) X 2 rfl dX1_at_47 rfl ?_
          refine jm_ald (n := 49) X 35 0 20 cA_20 rfl rfl hx2 dX1_at_48 rfl (fun h6 => ?_)
          refine jm_iconst (n := 50) X dX1_at_49 rfl ?_
          refine jm_icmp_eq (n := 53) (tgt := 55) X dX1_at_50 (by decide) (k0.2 20 _) (by decide) rfl (fun c7 => ?_) (fun c7 => ?_)
          · refine jm_aload_n (n := 56) X 1 rfl dX1_at_55 rfl ?_
            refine jm_get (n := 59) X 8 0 1 cW_X1 rfl (by decide) (fun w h => List.mem_cons_of_mem _ (List.mem_append_right _ h)) (List.mem_of_getElem? (i := 3) rfl) rfl dX1_at_56 rfl ?_
            refine jm_iconst (n := 60) X dX1_at_59 rfl ?_
            refine jm_iload_n (n := 61) X 2 rfl dX1_at_60 rfl ?_
            refine jm_imul (n := 62) X dX1_at_61 rfl (fun h8 => ?_)
            refine jm_iload (n := 64) X 0 rfl dX1_at_62 rfl ?_
            refine jm_iadd (n := 65) X dX1_at_64 rfl (fun h9 => ?_)
            refine jm_iconst (n := 66) X dX1_at_65 rfl ?_
            refine jm_isub (n := 67) X dX1_at_66 rfl (fun h10 => ?_)
            refine jm_ald (n := 68) X 36 0 21 cA_21 rfl rfl h10 dX1_at_67 rfl (fun h11 => ?_)
            refine jm_istore_n (n := 69) (lv' := [(2, .int (iI (gA σ0 21 ((((4 : Int) * x2) + (x3 % (10 : Int))) - (1 : Int))))), (4, .int (iI (x3 % (10 : Int)))), (0, .ref (h 39)), (3, .int (iI x3))]) X dX1_at_68 (by decide) rfl rfl ?_
            refine jm_iload_n (n := 70) X 3 rfl dX1_at_69 rfl ?_
            refine jm_bipush (n := 72) X dX1_at_70 (by decide) rfl ?_
            refine jm_idiv (n := 73) X dX1_at_72 hx3 (by decide) (by decide) rfl (fun h12 => ?_)
            refine jm_istore_n (n := 74) (lv' := [(3, .int (iI (x3 / (10 : Int)))), (2, .int (iI (gA σ0 21 ((((4 : Int) * x2) + (x3 % (10 : Int))) - (1 : Int))))), (4, .int (iI (x3 % (10 : Int)))), (0, .ref (h 39))]) X dX1_at_73 (by decide) rfl rfl ?_
            refine jm_goto (n := 21) X dX1_at_74 (by decide) ?_
            refine jm_perm [3, 1, 0] rfl ?_
            exact ih σ0 (gA σ0 21 ((((4 : Int) * x2) + (x3 % (10 : Int))) - (1 : Int))) (x3 / (10 : Int)) k0 (k0.2 21 _) (in_idiv hx3 h12 (by decide))
          · refine jm_iconst (n := 54) X dX1_at_53 rfl ?_
            exact jm_iret X rfl k0 (by decide) dX1_at_54
def f1_at (N : Nat) (σ0 : Sg) (x1 : Int) : Option (Sg × Int) :=
  if (gI σ0 23) = (-1 : Int) then (some (σ0, (-1 : Int)))
  else (if 0 ≤ x1 then ((b1_at_21 N N σ0 (gI σ0 23) x1))
  else (some (σ0, (-1 : Int))))
set_option maxRecDepth 100000 in
theorem t1_at (l : Launch) {h : Nat → Nat} {cI cZ : ClassId} {D : va_G} {t1 t2 : Nat} (N : Nat) {σ0 : Sg} {x1 : Int} (k0 : ok σ0) (hx1 : inR x1) : ctI (cE t1 t2) l (cW h cI cZ) D (mT cI cZ) yX1_at wsX1_at rm1_at [.ref (h 39), .int (iI x1)] σ0 (f1_at N σ0 x1) := by
  refine of_I (cE_ok t1 t2) (own := RX1) (lv := [(0, .ref (h 39)), (1, .int (iI x1))]) (by decide) rfl rfl (Nat.le_of_ble_eq_true rfl) rfl (fun p e s m below meth c sz X hA => ?_)
  rw [f1_at]
  refine jm_aload_n (n := 1) X 0 rfl dX1_at_0 rfl ?_
  refine jm_get (n := 4) X 8 0 3 cW_X1 rfl (by decide) (fun w h => List.mem_cons_of_mem _ (List.mem_append_right _ h)) (List.mem_of_getElem? (i := 1) rfl) rfl dX1_at_1 rfl ?_
  refine jm_iconst (n := 5) X dX1_at_4 rfl ?_
  refine jm_icmp_eq (n := 8) (tgt := 12) X dX1_at_5 (by decide) (k0.1 23) (by decide) rfl (fun c1 => ?_) (fun c1 => ?_)
  · refine jm_iconst (n := 13) X dX1_at_12 rfl ?_
    exact jm_iret X rfl k0 (by decide) dX1_at_13
  · refine jm_iload_n (n := 9) X 1 rfl dX1_at_8 rfl ?_
    refine jm_if_ge (n := 12) (tgt := 14) X dX1_at_9 (by decide) hx1 rfl (fun c2 => ?_) (fun c2 => ?_)
    · refine jm_aload_n (n := 15) X 0 rfl dX1_at_14 rfl ?_
      refine jm_get (n := 18) X 8 0 3 cW_X1 rfl (by decide) (fun w h => List.mem_cons_of_mem _ (List.mem_append_right _ h)) (List.mem_of_getElem? (i := 1) rfl) rfl dX1_at_15 rfl ?_
      refine jm_istore_n (n := 19) (lv' := [(2, .int (iI (gI σ0 23))), (0, .ref (h 39)), (1, .int (iI x1))]) X dX1_at_18 (by decide) rfl rfl ?_
      refine jm_iload_n (n := 20) X 2 rfl dX1_at_19 rfl ?_
      refine jm_istore_n (n := 21) (lv' := [(3, .int (iI x1)), (2, .int (iI (gI σ0 23))), (0, .ref (h 39)), (1, .int (iI x1))]) X dX1_at_20 (by decide) rfl rfl ?_
      refine jm_perm [2, 1, 0] rfl ?_
      exact u1_at_21 X hA N N σ0 (gI σ0 23) x1 k0 (k0.1 23) hx1
    · refine jm_iconst (n := 13) X dX1_at_12 rfl ?_
      exact jm_iret X rfl k0 (by decide) dX1_at_13
end
