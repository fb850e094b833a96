section
variable {p : Program} {l : Launch} {e : Env} {s : State} {m : MethodId} {args : Array Value} {below : List Frame} {meth : Method} {c : Code} {h : Nat → Nat} {cI cZ : ClassId} {D : va_G} {σz : Sg} {sz : Nat} {t1 t2 : Nat}
abbrev rm10_closure : Room := { frames := 0, cells := 0, slots := 0, locals := 0 }
def f10_closure (σ0 : Sg) (x1 : Int) (x2 : Int) : Option (Sg × Int) :=
  ck (inR ((gI σ0 213) + (1 : Int))) <|
  nx (sI σ0 213 ((gI σ0 213) + (1 : Int))) fun σ2 =>
  ck (0 ≤ (gI σ2 213) ∧ (gI σ2 213) < 210) <| nx (sA σ2 214 (gI σ2 213) x1) fun σ4 =>
  ck (0 ≤ (gI σ4 213) ∧ (gI σ4 213) < 210) <| nx (sA σ4 215 (gI σ4 213) x2) fun σ6 =>
  some (σ6, (gI σ6 213))
set_option maxRecDepth 100000 in
theorem t10_closure (l : Launch) {h : Nat → Nat} {cI cZ : ClassId} {D : va_G} {σ0 : Sg} {x1 : Int} {x2 : Int} (k0 : ok σ0) (hx1 : inR x1) (hx2 : inR x2) : ctI noE l (mW h cI cZ) D (mT cI cZ) yX10_closure wsX10_closure rm10_closure [.ref (h 299), .int (iI x1), .int (iI x2)] σ0 (f10_closure σ0 x1 x2) := by
  refine of_I noE_ok (own := RX10) (lv := [(0, .ref (h 299)), (1, .int (iI x1)), (2, .int (iI x2))]) (by decide) rfl rfl (Nat.le_of_ble_eq_true rfl) rfl (fun p e s m below meth c sz X hA => ?_)
  rw [f10_closure]
  refine jm_aload_n (n := 1) X 0 rfl dX10_closure_0 rfl ?_
  refine jm_dup (n := 2) X dX10_closure_1 rfl rfl ?_
  refine jm_get (n := 5) X 0 9 13 mW_X10 rfl (by decide) (fun w h => List.mem_cons_of_mem _ (List.mem_append_right _ h)) (List.mem_of_getElem? (i := 1) rfl) rfl dX10_closure_2 rfl ?_
  refine jm_iconst (n := 6) X dX10_closure_5 rfl ?_
  refine jm_iadd (n := 7) X dX10_closure_6 rfl (fun h1 => ?_)
  refine jm_put (n := 10) X 0 9 13 213 mW_X10 rfl (by decide) (fun w h => List.mem_cons_of_mem _ (List.mem_append_right _ h)) tyX10 tyX10_ok nmX10 (List.mem_of_getElem? (i := 1) rfl) rfl rfl rfl rfl (Nat.le_of_ble_eq_true rfl) mS_213 k0 h1 dX10_closure_7 rfl (fun σ2 k2 => ?_)
  refine jm_aload_n (n := 11) X 0 rfl dX10_closure_10 rfl ?_
  refine jm_get (n := 14) X 0 9 14 mW_X10 rfl (by decide) (fun w h => List.mem_cons_of_mem _ (List.mem_append_right _ h)) (List.mem_of_getElem? (i := 2) rfl) rfl dX10_closure_11 rfl ?_
  refine jm_aload_n (n := 15) X 0 rfl dX10_closure_14 rfl ?_
  refine jm_get (n := 18) X 0 9 13 mW_X10 rfl (by decide) (fun w h => List.mem_cons_of_mem _ (List.mem_append_right _ h)) (List.mem_of_getElem? (i := 1) rfl) rfl dX10_closure_15 rfl ?_
  refine jm_iload_n (n := 19) X 1 rfl dX10_closure_18 rfl ?_
  refine jm_ast (n := 20) X 11 0 214 mA_214 rfl rfl mT_214 k2 (k2.1 213) hx1 dX10_closure_19 rfl (fun h3 σ4 k4 => ?_)
  refine jm_aload_n (n := 21) X 0 rfl dX10_closure_20 rfl ?_
  refine jm_get (n := 24) X 0 9 15 mW_X10 rfl (by decide) (fun w h => List.mem_cons_of_mem _ (List.mem_append_right _ h)) (List.mem_of_getElem? (i := 3) rfl) rfl dX10_closure_21 rfl ?_
  refine jm_aload_n (n := 25) X 0 rfl dX10_closure_24 rfl ?_
  refine jm_get (n := 28) X 0 9 13 mW_X10 rfl (by decide) (fun w h => List.mem_cons_of_mem _ (List.mem_append_right _ h)) (List.mem_of_getElem? (i := 1) rfl) rfl dX10_closure_25 rfl ?_
  refine jm_iload_n (n := 29) X 2 rfl dX10_closure_28 rfl ?_
  refine jm_ast (n := 30) X 12 0 215 mA_215 rfl rfl mT_215 k4 (k4.1 213) hx2 dX10_closure_29 rfl (fun h5 σ6 k6 => ?_)
  refine jm_aload_n (n := 31) X 0 rfl dX10_closure_30 rfl ?_
  refine jm_get (n := 34) X 0 9 13 mW_X10 rfl (by decide) (fun w h => List.mem_cons_of_mem _ (List.mem_append_right _ h)) (List.mem_of_getElem? (i := 1) rfl) rfl dX10_closure_31 rfl ?_
  exact jm_iret X rfl k6 (k6.1 213) dX10_closure_34
abbrev rm10_begin : Room := { frames := 1, cells := 0, slots := 0, locals := 25 }
def b10_begin_108 (N : Nat) : Nat → Sg → Int → Int → Int → Option (Sg × Int)
  | 0, _, _, _, _ => none
  | n + 1, σ0, x1, x4, x5 => ck (0 ≤ x1 ∧ x1 < 60) <|
  if (gA σ0 203 x1) ≤ x5 then (ck (0 ≤ x4 ∧ x4 < 320) <|
  ck (0 ≤ x4 ∧ x4 < 320) <|
  bd (f10_give σ0 (gA σ0 210 x4) (gA σ0 211 x4)) fun σ5 r5 =>
  some (σ5, (-1 : Int)))
  else (ck (0 ≤ x4 ∧ x4 < 320) <|
  ck (inR (x5 + (1 : Int))) <|
  ((b10_begin_108 N n) σ0 x1 (gA σ0 212 x4) (x5 + (1 : Int))))
set_option maxRecDepth 100000 in
theorem u10_begin_108 (X : CX p m meth c cX10_begin 6 (some .int) s args wsX10_begin RX10 D (mT cI cZ) noE (va_A (mW h cI cZ σz) sz)) (hA : ∀ z : Nat, s.heap.size ≤ z → va_A (mW h cI cZ σz) sz z) (N : Nat) : ∀ (n : Nat) (σ0 : Sg) (x1 : Int) (x4 : Int) (x5 : Int), ok σ0 → inR x1 → inR x4 → inR x5 → JI l rm10_begin (mW h cI cZ) D (mT cI cZ) σz sz 6 p e s m args below meth c σ0 108 [(0, .ref (h 299)), (1, .int (iI x1)), (4, .int (iI x4)), (5, .int (iI x5))] [] (b10_begin_108 N n σ0 x1 x4 x5) := by
  intro n
  induction n with
  | zero =>
    intro σ0 x1 x4 x5 k0 hx1 hx4 hx5 σ9 r9 ho9
    rw [b10_begin_108] at ho9
    cases ho9
  | succ n ih =>
    intro σ0 x1 x4 x5 k0 hx1 hx4 hx5
    rw [b10_begin_108]
    refine jm_iload (n := 110) X 3 rfl dX10_begin_108 rfl ?_
    refine jm_aload_n (n := 111) X 0 rfl dX10_begin_110 rfl ?_
    refine jm_get (n := 114) X 0 9 3 mW_X10 rfl (by decide) (fun w h => List.mem_cons_of_mem _ (List.mem_append_right _ h)) (List.mem_of_getElem? (i := 3) rfl) rfl dX10_begin_111 rfl ?_
    refine jm_iload_n (n := 115) X 1 rfl dX10_begin_114 rfl ?_
    refine jm_ald (n := 116) X 2 0 203 mA_203 rfl rfl hx1 dX10_begin_115 rfl (fun h1 => ?_)
    refine jm_icmp_ge (n := 119) (tgt := 134) X dX10_begin_116 (by decide) hx5 (k0.2 203 _) rfl (fun c2 => ?_) (fun c2 => ?_)
    · refine jm_aload_n (n := 135) X 0 rfl dX10_begin_134 rfl ?_
      refine jm_aload_n (n := 136) X 0 rfl dX10_begin_135 rfl ?_
      refine jm_get (n := 139) X 0 9 10 mW_X10 rfl (by decide) (fun w h => List.mem_cons_of_mem _ (List.mem_append_right _ h)) (List.mem_of_getElem? (i := 5) rfl) rfl dX10_begin_136 rfl ?_
      refine jm_iload (n := 141) X 2 rfl dX10_begin_139 rfl ?_
      refine jm_ald (n := 142) X 8 0 210 mA_210 rfl rfl hx4 dX10_begin_141 rfl (fun h3 => ?_)
      refine jm_aload_n (n := 143) X 0 rfl dX10_begin_142 rfl ?_
      refine jm_get (n := 146) X 0 9 11 mW_X10 rfl (by decide) (fun w h => List.mem_cons_of_mem _ (List.mem_append_right _ h)) (List.mem_of_getElem? (i := 6) rfl) rfl dX10_begin_143 rfl ?_
      refine jm_iload (n := 148) X 2 rfl dX10_begin_146 rfl ?_
      refine jm_ald (n := 149) X 9 0 211 mA_211 rfl rfl hx4 dX10_begin_148 rfl (fun h4 => ?_)
      refine jm_callVv (n := 152) (vs := [.int (iI (gA σ0 210 x4)), .int (iI (gA σ0 211 x4))]) (rest := []) X hA (t10_give l k0 (k0.2 210 _) (k0.2 211 _)) (cwV 2 X.2.2.2.2.1 gX10_begin_X10_give rfl rfl rfl (by decide +kernel) ⟨Nat.le_of_ble_eq_true rfl, Nat.le_of_ble_eq_true rfl⟩) 0 9 mW_X10 rfl rfl (Nat.le_of_ble_eq_true rfl) dX10_begin_149 rfl (fun σ5 r5 k5 => ?_)
      refine jm_iconst (n := 153) X dX10_begin_152 rfl ?_
      exact jm_iret X rfl k5 (by decide) dX10_begin_153
    · refine jm_aload_n (n := 120) X 0 rfl dX10_begin_119 rfl ?_
      refine jm_get (n := 123) X 0 9 12 mW_X10 rfl (by decide) (fun w h => List.mem_cons_of_mem _ (List.mem_append_right _ h)) (List.mem_of_getElem? (i := 4) rfl) rfl dX10_begin_120 rfl ?_
      refine jm_iload (n := 125) X 2 rfl dX10_begin_123 rfl ?_
      refine jm_ald (n := 126) X 10 0 212 mA_212 rfl rfl hx4 dX10_begin_125 rfl (fun h7 => ?_)
      refine jm_istore (n := 128) (lv' := [(4, .int (iI (gA σ0 212 x4))), (0, .ref (h 299)), (1, .int (iI x1)), (5, .int (iI x5))]) X dX10_begin_126 (by decide) rfl rfl ?_
      refine jm_iinc (n := 131) (lv' := [(5, .int (iI (x5 + (1 : Int)))), (4, .int (iI (gA σ0 212 x4))), (0, .ref (h 299)), (1, .int (iI x1))]) X 3 rfl dX10_begin_128 (by decide) rfl rfl (fun h8 => ?_)
      refine jm_goto (n := 108) X dX10_begin_131 (by decide) ?_
      refine jm_perm [2, 3, 1, 0] rfl ?_
      exact ih σ0 x1 (gA σ0 212 x4) (x5 + (1 : Int)) k0 hx1 (k0.2 212 _) h8
def f10_begin (N : Nat) (σ0 : Sg) (x1 : Int) (x2 : Int) : Option (Sg × Int) :=
  ck (0 ≤ x1 ∧ x1 < 60) <|
  nx (sI σ0 228 x2) fun σ2 =>
  if (gA σ0 202 x1) = 0 then (ck (0 ≤ x1 ∧ x1 < 60) <|
  bd (f10_give σ2 (0 : Int) (gA σ2 203 x1)) fun σ5 r5 =>
  some (σ5, (-1 : Int)))
  else if (gA σ0 202 x1) = 1 then (ck (0 ≤ x1 ∧ x1 < 60) <|
  bd (f10_give σ2 (1 : Int) (gA σ2 203 x1)) fun σ9 r9 =>
  some (σ9, (-1 : Int)))
  else if (gA σ0 202 x1) = 2 then ((b10_begin_108 N N σ2 x1 x2 (0 : Int)))
  else if (gA σ0 202 x1) = 3 then (bd (f10_closure σ2 x1 x2) fun σ13 r13 =>
  bd (f10_give σ13 (2 : Int) r13) fun σ15 r15 =>
  some (σ15, (-1 : Int)))
  else if (gA σ0 202 x1) = 4 then (bd (f10_then σ2 (gA σ0 202 x1) x1 x2 (-1 : Int) (0 : Int)) fun σ18 r18 =>
  ck (0 ≤ x1 ∧ x1 < 60) <|
  some (σ18, (gA σ18 203 x1)))
  else if (gA σ0 202 x1) = 5 then (bd (f10_then σ2 (gA σ0 202 x1) x1 x2 (-1 : Int) (0 : Int)) fun σ22 r22 =>
  ck (0 ≤ x1 ∧ x1 < 60) <|
  some (σ22, (gA σ22 203 x1)))
  else if (gA σ0 202 x1) = 6 then (bd (f10_then σ2 (gA σ0 202 x1) x1 x2 (-1 : Int) (0 : Int)) fun σ26 r26 =>
  ck (0 ≤ x1 ∧ x1 < 60) <|
  some (σ26, (gA σ26 203 x1)))
  else if (gA σ0 202 x1) = 7 then (bd (f10_then σ2 (gA σ0 202 x1) x1 x2 (-1 : Int) (0 : Int)) fun σ30 r30 =>
  ck (0 ≤ x1 ∧ x1 < 60) <|
  some (σ30, (gA σ30 203 x1)))
  else if (gA σ0 202 x1) = 8 then (bd (f10_then σ2 (gA σ0 202 x1) x1 x2 (-1 : Int) (0 : Int)) fun σ34 r34 =>
  ck (0 ≤ x1 ∧ x1 < 60) <|
  some (σ34, (gA σ34 203 x1)))
  else if (gA σ0 202 x1) = 9 then (ck (0 ≤ (gI σ2 223) ∧ (gI σ2 223) < 320) <| nx (sA σ2 224 (gI σ2 223) (gI σ2 225)) fun σ39 =>
  ck (inR ((gI σ39 223) + (1 : Int))) <|
  nx (sI σ39 223 ((gI σ39 223) + (1 : Int))) fun σ41 =>
  nx (sI σ41 225 (0 : Int)) fun σ42 =>
  ck (0 ≤ x1 ∧ x1 < 60) <|
  some (σ42, (gA σ42 203 x1)))
  else if (gA σ0 202 x1) = 10 then (bd (f10_bind σ2 (3 : Int) (gI σ2 225) x2) fun σ45 r45 =>
  nx (sI σ45 228 r45) fun σ47 =>
  nx (sI σ47 225 (0 : Int)) fun σ48 =>
  ck (0 ≤ x1 ∧ x1 < 60) <|
  some (σ48, (gA σ48 203 x1)))
  else if (gA σ0 202 x1) = 11 then (bd (f10_closure σ2 x1 x2) fun σ51 r51 =>
  bd (f10_give σ51 (2 : Int) r51) fun σ53 r53 =>
  some (σ53, (-1 : Int)))
  else (bd (f10_then σ2 (gA σ0 202 x1) x1 x2 (-1 : Int) (0 : Int)) fun σ55 r55 =>
  ck (0 ≤ x1 ∧ x1 < 60) <|
  some (σ55, (gA σ55 203 x1)))
set_option maxRecDepth 100000 in
theorem t10_begin (l : Launch) {h : Nat → Nat} {cI cZ : ClassId} {D : va_G} (N : Nat) {σ0 : Sg} {x1 : Int} {x2 : Int} (k0 : ok σ0) (hx1 : inR x1) (hx2 : inR x2) : ctI noE l (mW h cI cZ) D (mT cI cZ) yX10_begin wsX10_begin rm10_begin [.ref (h 299), .int (iI x1), .int (iI x2)] σ0 (f10_begin N σ0 x1 x2) := by
  refine of_I noE_ok (own := RX10) (lv := [(0, .ref (h 299)), (1, .int (iI x1)), (2, .int (iI x2))]) (by decide) rfl rfl (Nat.le_of_ble_eq_true rfl) rfl (fun p e s m below meth c sz X hA => ?_)
  rw [f10_begin]
  refine jm_aload_n (n := 1) X 0 rfl dX10_begin_0 rfl ?_
  refine jm_get (n := 4) X 0 9 2 mW_X10 rfl (by decide) (fun w h => List.mem_cons_of_mem _ (List.mem_append_right _ h)) (List.mem_of_getElem? (i := 1) rfl) rfl dX10_begin_1 rfl ?_
  refine jm_iload_n (n := 5) X 1 rfl dX10_begin_4 rfl ?_
  refine jm_ald (n := 6) X 1 0 202 mA_202 rfl rfl hx1 dX10_begin_5 rfl (fun h1 => ?_)
  refine jm_istore_n (n := 7) (lv' := [(3, .int (iI (gA σ0 202 x1))), (0, .ref (h 299)), (1, .int (iI x1)), (2, .int (iI x2))]) X dX10_begin_6 (by decide) rfl rfl ?_
  refine jm_aload_n (n := 8) X 1 rfl dX10_begin_7 rfl ?_
  refine jm_iload_n (n := 9) X 3 rfl dX10_begin_8 rfl ?_
  refine jm_put (n := 12) X 0 9 28 228 mW_X10 rfl (by decide) (fun w h => List.mem_cons_of_mem _ (List.mem_append_right _ h)) tyX10 tyX10_ok nmX10 (List.mem_of_getElem? (i := 2) rfl) rfl rfl rfl rfl (Nat.le_of_ble_eq_true rfl) mS_228 k0 hx2 dX10_begin_9 rfl (fun σ2 k2 => ?_)
  refine jm_iload_n (n := 13) X 0 rfl dX10_begin_12 rfl ?_
  refine jm_tcase (tgt := 76) X (0) dX10_begin_13 (k0.2 202 _) (by decide) (by decide) rfl (by decide) (fun c3 => ?_) (fun c3 => ?_)
  · refine jm_aload_n (n := 77) X 1 rfl dX10_begin_76 rfl ?_
    refine jm_iconst (n := 78) X dX10_begin_77 rfl ?_
    refine jm_aload_n (n := 79) X 1 rfl dX10_begin_78 rfl ?_
    refine jm_get (n := 82) X 0 9 3 mW_X10 rfl (by decide) (fun w h => List.mem_cons_of_mem _ (List.mem_append_right _ h)) (List.mem_of_getElem? (i := 3) rfl) rfl dX10_begin_79 rfl ?_
    refine jm_iload_n (n := 83) X 2 rfl dX10_begin_82 rfl ?_
    refine jm_ald (n := 84) X 2 0 203 mA_203 rfl rfl hx1 dX10_begin_83 rfl (fun h4 => ?_)
    refine jm_callVv (n := 87) (vs := [.int (iI (0 : Int)), .int (iI (gA σ2 203 x1))]) (rest := []) X hA (t10_give l k2 (by decide) (k2.2 203 _)) (cwV 2 X.2.2.2.2.1 gX10_begin_X10_give rfl rfl rfl (by decide +kernel) ⟨Nat.le_of_ble_eq_true rfl, Nat.le_of_ble_eq_true rfl⟩) 0 9 mW_X10 rfl rfl (Nat.le_of_ble_eq_true rfl) dX10_begin_84 rfl (fun σ5 r5 k5 => ?_)
    refine jm_iconst (n := 88) X dX10_begin_87 rfl ?_
    exact jm_iret X rfl k5 (by decide) dX10_begin_88
  refine jm_tcase (tgt := 89) X (1) dX10_begin_13 (k0.2 202 _) (by decide) (by decide) rfl (by decide) (fun c7 => ?_) (fun c7 => ?_)
  · refine jm_aload_n (n := 90) X 1 rfl dX10_begin_89 rfl ?_
    refine jm_iconst (n := 91) X dX10_begin_90 rfl ?_
    refine jm_aload_n (n := 92) X 1 rfl dX10_begin_91 rfl ?_
    refine jm_get (n := 95) X 0 9 3 mW_X10 rfl (by decide) (fun w h => List.mem_cons_of_mem _ (List.mem_append_right _ h)) (List.mem_of_getElem? (i := 3) rfl) rfl dX10_begin_92 rfl ?_
    refine jm_iload_n (n := 96) X 2 rfl dX10_begin_95 rfl ?_
    refine jm_ald (n := 97) X 2 0 203 mA_203 rfl rfl hx1 dX10_begin_96 rfl (fun h8 => ?_)
    refine jm_callVv (n := 100) (vs := [.int (iI (1 : Int)), .int (iI (gA σ2 203 x1))]) (rest := []) X hA (t10_give l k2 (by decide) (k2.2 203 _)) (cwV 2 X.2.2.2.2.1 gX10_begin_X10_give rfl rfl rfl (by decide +kernel) ⟨Nat.le_of_ble_eq_true rfl, Nat.le_of_ble_eq_true rfl⟩) 0 9 mW_X10 rfl rfl (Nat.le_of_ble_eq_true rfl) dX10_begin_97 rfl (fun σ9 r9 k9 => ?_)
    refine jm_iconst (n := 101) X dX10_begin_100 rfl ?_
    exact jm_iret X rfl k9 (by decide) dX10_begin_101
  refine jm_tcase (tgt := 102) X (2) dX10_begin_13 (k0.2 202 _) (by decide) (by decide) rfl (by decide) (fun c11 => ?_) (fun c11 => ?_)
  · refine jm_iload_n (n := 103) X 3 rfl dX10_begin_102 rfl ?_
    refine jm_istore (n := 105) (lv' := [(4, .int (iI x2)), (3, .int (iI (gA σ0 202 x1))), (0, .ref (h 299)), (1, .int (iI x1)), (2, .int (iI x2))]) X dX10_begin_103 (by decide) rfl rfl ?_
    refine jm_iconst (n := 106) X dX10_begin_105 rfl ?_
    refine jm_istore (n := 108) (lv' := [(5, .int (iI (0 : Int))), (4, .int (iI x2)), (3, .int (iI (gA σ0 202 x1))), (0, .ref (h 299)), (1, .int (iI x1)), (2, .int (iI x2))]) X dX10_begin_106 (by decide) rfl rfl ?_
    refine jm_perm [3, 4, 1, 0] rfl ?_
    exact u10_begin_108 X hA N N σ2 x1 x2 (0 : Int) k2 hx1 hx2 (by decide)
  refine jm_tcase (tgt := 154) X (3) dX10_begin_13 (k0.2 202 _) (by decide) (by decide) rfl (by decide) (fun c12 => ?_) (fun c12 => ?_)
  · refine jm_aload_n (n := 155) X 1 rfl dX10_begin_154 rfl ?_
    refine jm_iconst (n := 156) X dX10_begin_155 rfl ?_
    refine jm_aload_n (n := 157) X 1 rfl dX10_begin_156 rfl ?_
    refine jm_iload_n (n := 158) X 2 rfl dX10_begin_157 rfl ?_
    refine jm_iload_n (n := 159) X 3 rfl dX10_begin_158 rfl ?_
    refine jm_callVi (n := 162) (vs := [.int (iI x1), .int (iI x2)]) (rest := [.int (iI (2 : Int)), .ref (h 299)]) X hA (t10_closure l k2 hx1 hx2) (cwV 2 X.2.2.2.2.1 gX10_begin_X10_closure rfl rfl rfl (by decide +kernel) ⟨Nat.le_of_ble_eq_true rfl, Nat.le_of_ble_eq_true rfl⟩) 0 9 mW_X10 rfl rfl (Nat.le_of_ble_eq_true rfl) dX10_begin_159 rfl (fun σ13 r13 k13 h14 => ?_)
    refine jm_callVv (n := 165) (vs := [.int (iI (2 : Int)), .int (iI r13)]) (rest := []) X hA (t10_give l k13 (by decide) h14) (cwV 2 X.2.2.2.2.1 gX10_begin_X10_give rfl rfl rfl (by decide +kernel) ⟨Nat.le_of_ble_eq_true rfl, Nat.le_of_ble_eq_true rfl⟩) 0 9 mW_X10 rfl rfl (Nat.le_of_ble_eq_true rfl) dX10_begin_162 rfl (fun σ15 r15 k15 => ?_)
    refine jm_iconst (n := 166) X dX10_begin_165 rfl ?_
    exact jm_iret X rfl k15 (by decide) dX10_begin_166
  refine jm_tcase (tgt := 228) X (4) dX10_begin_13 (k0.2 202 _) (by decide) (by decide) rfl (by decide) (fun c17 => ?_) (fun c17 => ?_)
  · refine jm_aload_n (n := 229) X 1 rfl dX10_begin_228 rfl ?_
    refine jm_iload_n (n := 230) X 0 rfl dX10_begin_229 rfl ?_
    refine jm_iload_n (n := 231) X 2 rfl dX10_begin_230 rfl ?_
    refine jm_iload_n (n := 232) X 3 rfl dX10_begin_231 rfl ?_
    refine jm_iconst (n := 233) X dX10_begin_232 rfl ?_
    refine jm_iconst (n := 234) X dX10_begin_233 rfl ?_
    refine jm_callVv (n := 237) (vs := [.int (iI (gA σ0 202 x1)), .int (iI x1), .int (iI x2), .int (iI (-1 : Int)), .int (iI (0 : Int))]) (rest := []) X hA (t10_then l k2 (k0.2 202 _) hx1 hx2 (by decide) (by decide)) (cwV 5 X.2.2.2.2.1 gX10_begin_X10_then rfl rfl rfl (by decide +kernel) ⟨Nat.le_of_ble_eq_true rfl, Nat.le_of_ble_eq_true rfl⟩) 0 9 mW_X10 rfl rfl (Nat.le_of_ble_eq_true rfl) dX10_begin_234 rfl (fun σ18 r18 k18 => ?_)
    refine jm_aload_n (n := 238) X 1 rfl dX10_begin_237 rfl ?_
    refine jm_get (n := 241) X 0 9 3 mW_X10 rfl (by decide) (fun w h => List.mem_cons_of_mem _ (List.mem_append_right _ h)) (List.mem_of_getElem? (i := 3) rfl) rfl dX10_begin_238 rfl ?_
    refine jm_iload_n (n := 242) X 2 rfl dX10_begin_241 rfl ?_
    refine jm_ald (n := 243) X 2 0 203 mA_203 rfl rfl hx1 dX10_begin_242 rfl (fun h20 => ?_)
    exact jm_iret X rfl k18 (k18.2 203 _) dX10_begin_243
  refine jm_tcase (tgt := 228) X (5) dX10_begin_13 (k0.2 202 _) (by decide) (by decide) rfl (by decide) (fun c21 => ?_) (fun c21 => ?_)
  · refine jm_aload_n (n := 229) X 1 rfl dX10_begin_228 rfl ?_
    refine jm_iload_n (n := 230) X 0 rfl dX10_begin_229 rfl ?_
    refine jm_iload_n (n := 231) X 2 rfl dX10_begin_230 rfl ?_
    refine jm_iload_n (n := 232) X 3 rfl dX10_begin_231 rfl ?_
    refine jm_iconst (n := 233) X dX10_begin_232 rfl ?_
    refine jm_iconst (n := 234) X dX10_begin_233 rfl ?_
    refine jm_callVv (n := 237) (vs := [.int (iI (gA σ0 202 x1)), .int (iI x1), .int (iI x2), .int (iI (-1 : Int)), .int (iI (0 : Int))]) (rest := []) X hA (t10_then l k2 (k0.2 202 _) hx1 hx2 (by decide) (by decide)) (cwV 5 X.2.2.2.2.1 gX10_begin_X10_then rfl rfl rfl (by decide +kernel) ⟨Nat.le_of_ble_eq_true rfl, Nat.le_of_ble_eq_true rfl⟩) 0 9 mW_X10 rfl rfl (Nat.le_of_ble_eq_true rfl) dX10_begin_234 rfl (fun σ22 r22 k22 => ?_)
    refine jm_aload_n (n := 238) X 1 rfl dX10_begin_237 rfl ?_
    refine jm_get (n := 241) X 0 9 3 mW_X10 rfl (by decide) (fun w h => List.mem_cons_of_mem _ (List.mem_append_right _ h)) (List.mem_of_getElem? (i := 3) rfl) rfl dX10_begin_238 rfl ?_
    refine jm_iload_n (n := 242) X 2 rfl dX10_begin_241 rfl ?_
    refine jm_ald (n := 243) X 2 0 203 mA_203 rfl rfl hx1 dX10_begin_242 rfl (fun h24 => ?_)
    exact jm_iret X rfl k22 (k22.2 203 _) dX10_begin_243
  refine jm_tcase (tgt := 228) X (6) dX10_begin_13 (k0.2 202 _) (by decide) (by decide) rfl (by decide) (fun c25 => ?_) (fun c25 => ?_)
  · refine jm_aload_n (n := 229) X 1 rfl dX10_begin_228 rfl ?_
    refine jm_iload_n (n := 230) X 0 rfl dX10_begin_229 rfl ?_
    refine jm_iload_n (n := 231) X 2 rfl dX10_begin_230 rfl ?_
    refine jm_iload_n (n := 232) X 3 rfl dX10_begin_231 rfl ?_
    refine jm_iconst (n := 233) X dX10_begin_232 rfl ?_
    refine jm_iconst (n := 234) X dX10_begin_233 rfl ?_
    refine jm_callVv (n := 237) (vs := [.int (iI (gA σ0 202 x1)), .int (iI x1), .int (iI x2), .int (iI (-1 : Int)), .int (iI (0 : Int))]) (rest := []) X hA (t10_then l k2 (k0.2 202 _) hx1 hx2 (by decide) (by decide)) (cwV 5 X.2.2.2.2.1 gX10_begin_X10_then rfl rfl rfl (by decide +kernel) ⟨Nat.le_of_ble_eq_true rfl, Nat.le_of_ble_eq_true rfl⟩) 0 9 mW_X10 rfl rfl (Nat.le_of_ble_eq_true rfl) dX10_begin_234 rfl (fun σ26 r26 k26 => ?_)
    refine jm_aload_n (n := 238) X 1 rfl dX10_begin_237 rfl ?_
    refine jm_get (n := 241) X 0 9 3 mW_X10 rfl (by decide) (fun w h => List.mem_cons_of_mem _ (List.mem_append_right _ h)) (List.mem_of_getElem? (i := 3) rfl) rfl dX10_begin_238 rfl ?_
    refine jm_iload_n (n := 242) X 2 rfl dX10_begin_241 rfl ?_
    refine jm_ald (n := 243) X 2 0 203 mA_203 rfl rfl hx1 dX10_begin_242 rfl (fun h28 => ?_)
    exact jm_iret X rfl k26 (k26.2 203 _) dX10_begin_243
  refine jm_tcase (tgt := 228) X (7) dX10_begin_13 (k0.2 202 _) (by decide) (by decide) rfl (by decide) (fun c29 => ?_) (fun c29 => ?_)
  · refine jm_aload_n (n := 229) X 1 rfl dX10_begin_228 rfl ?_
    refine jm_iload_n (n := 230) X 0 rfl dX10_begin_229 rfl ?_
    refine jm_iload_n (n := 231) X 2 rfl dX10_begin_230 rfl ?_
    refine jm_iload_n (n := 232) X 3 rfl dX10_begin_231 rfl ?_
    refine jm_iconst (n := 233) X dX10_begin_232 rfl ?_
    refine jm_iconst (n := 234) X dX10_begin_233 rfl ?_
    refine jm_callVv (n := 237) (vs := [.int (iI (gA σ0 202 x1)), .int (iI x1), .int (iI x2), .int (iI (-1 : Int)), .int (iI (0 : Int))]) (rest := []) X hA (t10_then l k2 (k0.2 202 _) hx1 hx2 (by decide) (by decide)) (cwV 5 X.2.2.2.2.1 gX10_begin_X10_then rfl rfl rfl (by decide +kernel) ⟨Nat.le_of_ble_eq_true rfl, Nat.le_of_ble_eq_true rfl⟩) 0 9 mW_X10 rfl rfl (Nat.le_of_ble_eq_true rfl) dX10_begin_234 rfl (fun σ30 r30 k30 => ?_)
    refine jm_aload_n (n := 238) X 1 rfl dX10_begin_237 rfl ?_
    refine jm_get (n := 241) X 0 9 3 mW_X10 rfl (by decide) (fun w h => List.mem_cons_of_mem _ (List.mem_append_right _ h)) (List.mem_of_getElem? (i := 3) rfl) rfl dX10_begin_238 rfl ?_
    refine jm_iload_n (n := 242) X 2 rfl dX10_begin_241 rfl ?_
    refine jm_ald (n := 243) X 2 0 203 mA_203 rfl rfl hx1 dX10_begin_242 rfl (fun h32 => ?_)
    exact jm_iret X rfl k30 (k30.2 203 _) dX10_begin_243
  refine jm_tcase (tgt := 228) X (8) dX10_begin_13 (k0.2 202 _) (by decide) (by decide) rfl (by decide) (fun c33 => ?_) (fun c33 => ?_)
  · refine jm_aload_n (n := 229) X 1 rfl dX10_begin_228 rfl ?_
    refine jm_iload_n (n := 230) X 0 rfl dX10_begin_229 rfl ?_
    refine jm_iload_n (n := 231) X 2 rfl dX10_begin_230 rfl ?_
    refine jm_iload_n (n := 232) X 3 rfl dX10_begin_231 rfl ?_
    refine jm_iconst (n := 233) X dX10_begin_232 rfl ?_
    refine jm_iconst (n := 234) X dX10_begin_233 rfl ?_
    refine jm_callVv (n := 237) (vs := [.int (iI (gA σ0 202 x1)), .int (iI x1), .int (iI x2), .int (iI (-1 : Int)), .int (iI (0 : Int))]) (rest := []) X hA (t10_then l k2 (k0.2 202 _) hx1 hx2 (by decide) (by decide)) (cwV 5 X.2.2.2.2.1 gX10_begin_X10_then rfl rfl rfl (by decide +kernel) ⟨Nat.le_of_ble_eq_true rfl, Nat.le_of_ble_eq_true rfl⟩) 0 9 mW_X10 rfl rfl (Nat.le_of_ble_eq_true rfl) dX10_begin_234 rfl (fun σ34 r34 k34 => ?_)
    refine jm_aload_n (n := 238) X 1 rfl dX10_begin_237 rfl ?_
    refine jm_get (n := 241) X 0 9 3 mW_X10 rfl (by decide) (fun w h => List.mem_cons_of_mem _ (List.mem_append_right _ h)) (List.mem_of_getElem? (i := 3) rfl) rfl dX10_begin_238 rfl ?_
    refine jm_iload_n (n := 242) X 2 rfl dX10_begin_241 rfl ?_
    refine jm_ald (n := 243) X 2 0 203 mA_203 rfl rfl hx1 dX10_begin_242 rfl (fun h36 => ?_)
    exact jm_iret X rfl k34 (k34.2 203 _) dX10_begin_243
  refine jm_tcase (tgt := 167) X (9) dX10_begin_13 (k0.2 202 _) (by decide) (by decide) rfl (by decide) (fun c37 => ?_) (fun c37 => ?_)
  · refine jm_aload_n (n := 168) X 1 rfl dX10_begin_167 rfl ?_
    refine jm_get (n := 171) X 0 9 24 mW_X10 rfl (by decide) (fun w h => List.mem_cons_of_mem _ (List.mem_append_right _ h)) (List.mem_of_getElem? (i := 7) rfl) rfl dX10_begin_168 rfl ?_
    refine jm_aload_n (n := 172) X 1 rfl dX10_begin_171 rfl ?_
    refine jm_get (n := 175) X 0 9 23 mW_X10 rfl (by decide) (fun w h => List.mem_cons_of_mem _ (List.mem_append_right _ h)) (List.mem_of_getElem? (i := 8) rfl) rfl dX10_begin_172 rfl ?_
    refine jm_aload_n (n := 176) X 1 rfl dX10_begin_175 rfl ?_
    refine jm_get (n := 179) X 0 9 25 mW_X10 rfl (by decide) (fun w h => List.mem_cons_of_mem _ (List.mem_append_right _ h)) (List.mem_of_getElem? (i := 9) rfl) rfl dX10_begin_176 rfl ?_
    refine jm_ast (n := 180) X 19 0 224 mA_224 rfl rfl mT_224 k2 (k2.1 223) (k2.1 225) dX10_begin_179 rfl (fun h38 σ39 k39 => ?_)
    refine jm_aload_n (n := 181) X 1 rfl dX10_begin_180 rfl ?_
    refine jm_dup (n := 182) X dX10_begin_181 rfl rfl ?_
    refine jm_get (n := 185) X 0 9 23 mW_X10 rfl (by decide) (fun w h => List.mem_cons_of_mem _ (List.mem_append_right _ h)) (List.mem_of_getElem? (i := 8) rfl) rfl dX10_begin_182 rfl ?_
    refine jm_iconst (n := 186) X dX10_begin_185 rfl ?_
    refine jm_iadd (n := 187) X dX10_begin_186 rfl (fun h40 => ?_)
    refine jm_put (n := 190) X 0 9 23 223 mW_X10 rfl (by decide) (fun w h => List.mem_cons_of_mem _ (List.mem_append_right _ h)) tyX10 tyX10_ok nmX10 (List.mem_of_getElem? (i := 8) rfl) rfl rfl rfl rfl (Nat.le_of_ble_eq_true rfl) mS_223 k39 h40 dX10_begin_187 rfl (fun σ41 k41 => ?_)
    refine jm_aload_n (n := 191) X 1 rfl dX10_begin_190 rfl ?_
    refine jm_iconst (n := 192) X dX10_begin_191 rfl ?_
    refine jm_put (n := 195) X 0 9 25 225 mW_X10 rfl (by decide) (fun w h => List.mem_cons_of_mem _ (List.mem_append_right _ h)) tyX10 tyX10_ok nmX10 (List.mem_of_getElem? (i := 9) rfl) rfl rfl rfl rfl (Nat.le_of_ble_eq_true rfl) mS_225 k41 (by decide) dX10_begin_192 rfl (fun σ42 k42 => ?_)
    refine jm_aload_n (n := 196) X 1 rfl dX10_begin_195 rfl ?_
    refine jm_get (n := 199) X 0 9 3 mW_X10 rfl (by decide) (fun w h => List.mem_cons_of_mem _ (List.mem_append_right _ h)) (List.mem_of_getElem? (i := 3) rfl) rfl dX10_begin_196 rfl ?_
    refine jm_iload_n (n := 200) X 2 rfl dX10_begin_199 rfl ?_
    refine jm_ald (n := 201) X 2 0 203 mA_203 rfl rfl hx1 dX10_begin_200 rfl (fun h43 => ?_)
    exact jm_iret X rfl k42 (k42.2 203 _) dX10_begin_201
  refine jm_tcase (tgt := 202) X (10) dX10_begin_13 (k0.2 202 _) (by decide) (by decide) rfl (by decide) (fun c44 => ?_) (fun c44 => ?_)
  · refine jm_aload_n (n := 203) X 1 rfl dX10_begin_202 rfl ?_
    refine jm_aload_n (n := 204) X 1 rfl dX10_begin_203 rfl ?_
    refine jm_iconst (n := 205) X dX10_begin_204 rfl ?_
    refine jm_aload_n (n := 206) X 1 rfl dX10_begin_205 rfl ?_
    refine jm_get (n := 209) X 0 9 25 mW_X10 rfl (by decide) (fun w h => List.mem_cons_of_mem _ (List.mem_append_right _ h)) (List.mem_of_getElem? (i := 9) rfl) rfl dX10_begin_206 rfl ?_
    refine jm_iload_n (n := 210) X 3 rfl dX10_begin_209 rfl ?_
    refine jm_callVi (n := 213) (vs := [.int (iI (3 : Int)), .int (iI (gI σ2 225)), .int (iI x2)]) (rest := [.ref (h 299)]) X hA (t10_bind l k2 (by decide) (k2.1 225) hx2) (cwV 3 X.2.2.2.2.1 gX10_begin_X10_bind rfl rfl rfl (by decide +kernel) ⟨Nat.le_of_ble_eq_true rfl, Nat.le_of_ble_eq_true rfl⟩) 0 9 mW_X10 rfl rfl (Nat.le_of_ble_eq_true rfl) dX10_begin_210 rfl (fun σ45 r45 k45 h46 => ?_)
    refine jm_put (n := 216) X 0 9 28 228 mW_X10 rfl (by decide) (fun w h => List.mem_cons_of_mem _ (List.mem_append_right _ h)) tyX10 tyX10_ok nmX10 (List.mem_of_getElem? (i := 2) rfl) rfl rfl rfl rfl (Nat.le_of_ble_eq_true rfl) mS_228 k45 h46 dX10_begin_213 rfl (fun σ47 k47 => ?_)
    refine jm_aload_n (n := 217) X 1 rfl dX10_begin_216 rfl ?_
    refine jm_iconst (n := 218) X dX10_begin_217 rfl ?_
    refine jm_put (n := 221) X 0 9 25 225 mW_X10 rfl (by decide) (fun w h => List.mem_cons_of_mem _ (List.mem_append_right _ h)) tyX10 tyX10_ok nmX10 (List.mem_of_getElem? (i := 9) rfl) rfl rfl rfl rfl (Nat.le_of_ble_eq_true rfl) mS_225 k47 (by decide) dX10_begin_218 rfl (fun σ48 k48 => ?_)
    refine jm_aload_n (n := 222) X 1 rfl dX10_begin_221 rfl ?_
    refine jm_get (n := 225) X 0 9 3 mW_X10 rfl (by decide) (fun w h => List.mem_cons_of_mem _ (List.mem_append_right _ h)) (List.mem_of_getElem? (i := 3) rfl) rfl dX10_begin_222 rfl ?_
    refine jm_iload_n (n := 226) X 2 rfl dX10_begin_225 rfl ?_
    refine jm_ald (n := 227) X 2 0 203 mA_203 rfl rfl hx1 dX10_begin_226 rfl (fun h49 => ?_)
    exact jm_iret X rfl k48 (k48.2 203 _) dX10_begin_227
  refine jm_tcase (tgt := 154) X (11) dX10_begin_13 (k0.2 202 _) (by decide) (by decide) rfl (by decide) (fun c50 => ?_) (fun c50 => ?_)
  · refine jm_aload_n (n := 155) X 1 rfl dX10_begin_154 rfl ?_
    refine jm_iconst (n := 156) X dX10_begin_155 rfl ?_
    refine jm_aload_n (n := 157) X 1 rfl dX10_begin_156 rfl ?_
    refine jm_iload_n (n := 158) X 2 rfl dX10_begin_157 rfl ?_
    refine jm_iload_n (n := 159) X 3 rfl dX10_begin_158 rfl ?_
    refine jm_callVi (n := 162) (vs := [.int (iI x1), .int (iI x2)]) (rest := [.int (iI (2 : Int)), .ref (h 299)]) X hA (t10_closure l k2 hx1 hx2) (cwV 2 X.2.2.2.2.1 gX10_begin_X10_closure rfl rfl rfl (by decide +kernel) ⟨Nat.le_of_ble_eq_true rfl, Nat.le_of_ble_eq_true rfl⟩) 0 9 mW_X10 rfl rfl (Nat.le_of_ble_eq_true rfl) dX10_begin_159 rfl (fun σ51 r51 k51 h52 => ?_)
    refine jm_callVv (n := 165) (vs := [.int (iI (2 : Int)), .int (iI r51)]) (rest := []) X hA (t10_give l k51 (by decide) h52) (cwV 2 X.2.2.2.2.1 gX10_begin_X10_give rfl rfl rfl (by decide +kernel) ⟨Nat.le_of_ble_eq_true rfl, Nat.le_of_ble_eq_true rfl⟩) 0 9 mW_X10 rfl rfl (Nat.le_of_ble_eq_true rfl) dX10_begin_162 rfl (fun σ53 r53 k53 => ?_)
    refine jm_iconst (n := 166) X dX10_begin_165 rfl ?_
    exact jm_iret X rfl k53 (by decide) dX10_begin_166
  refine jm_tout (tgt := 228) X dX10_begin_13 (k0.2 202 _) (by decide) (by omega) ?_
  refine jm_aload_n (n := 229) X 1 rfl dX10_begin_228 rfl ?_
  refine jm_iload_n (n := 230) X 0 rfl dX10_begin_229 rfl ?_
  refine jm_iload_n (n := 231) X 2 rfl dX10_begin_230 rfl ?_
  refine jm_iload_n (n := 232) X 3 rfl dX10_begin_231 rfl ?_
  refine jm_iconst (n := 233) X dX10_begin_232 rfl ?_
  refine jm_iconst (n := 234) X dX10_begin_233 rfl ?_
  refine jm_callVv (n := 237) (vs := [.int (iI (gA σ0 202 x1)), .int (iI x1), .int (iI x2), .int (iI (-1 : Int)), .int (iI (0 : Int))]) (rest := []) X hA (t10_then l k2 (k0.2 202 _) hx1 hx2 (by decide) (by decide)) (cwV 5 X.2.2.2.2.1 gX10_begin_X10_then rfl rfl rfl (by decide +kernel) ⟨Nat.le_of_ble_eq_true rfl, Nat.le_of_ble_eq_true rfl⟩) 0 9 mW_X10 rfl rfl (Nat.le_of_ble_eq_true rfl) dX10_begin_234 rfl (fun σ55 r55 k55 => ?_)
  refine jm_aload_n (n := 238) X 1 rfl dX10_begin_237 rfl ?_
  refine jm_get (n := 241) X 0 9 3 mW_X10 rfl (by decide) (fun w h => List.mem_cons_of_mem _ (List.mem_append_right _ h)) (List.mem_of_getElem? (i := 3) rfl) rfl dX10_begin_238 rfl ?_
  refine jm_iload_n (n := 242) X 2 rfl dX10_begin_241 rfl ?_
  refine jm_ald (n := 243) X 2 0 203 mA_203 rfl rfl hx1 dX10_begin_242 rfl (fun h57 => ?_)
  exact jm_iret X rfl k55 (k55.2 203 _) dX10_begin_243
abbrev rm10_call : Room := { frames := 1, cells := 0, slots := 0, locals := 23 }
def b10_call_86 (σ0 : Sg) (x3 : Int) (y0 : Int) : Option (Sg × Int) :=
  bd (f10_bind σ0 (gI σ0 226) (gI σ0 227) y0) fun σ1 r1 =>
  nx (sI σ1 228 r1) fun σ3 =>
  ck (0 ≤ x3 ∧ x3 < 60) <|
  some (σ3, (gA σ3 203 x3))
set_option maxRecDepth 100000 in
theorem u10_call_86 (X : CX p m meth c cX10_call 5 (some .int) s args wsX10_call RX10 D (mT cI cZ) noE (va_A (mW h cI cZ σz) sz)) (hA : ∀ z : Nat, s.heap.size ≤ z → va_A (mW h cI cZ σz) sz z) (σ0 : Sg) (x3 : Int) (y0 : Int) (k0 : ok σ0) (hx3 : inR x3) (hy0 : inR y0) : JI l rm10_call (mW h cI cZ) D (mT cI cZ) σz sz 5 p e s m args below meth c σ0 86 [(0, .ref (h 299)), (3, .int (iI x3))] [.int (iI y0)] (b10_call_86 σ0 x3 y0) := by
  rw [b10_call_86]
  refine jm_istore (n := 88) (lv' := [(4, .int (iI y0)), (0, .ref (h 299)), (3, .int (iI x3))]) X dX10_call_86 (by decide) rfl rfl ?_
  refine jm_aload_n (n := 89) X 1 rfl dX10_call_88 rfl ?_
  refine jm_aload_n (n := 90) X 1 rfl dX10_call_89 rfl ?_
  refine jm_aload_n (n := 91) X 1 rfl dX10_call_90 rfl ?_
  refine jm_get (n := 94) X 0 9 26 mW_X10 rfl (by decide) (fun w h => List.mem_cons_of_mem _ (List.mem_append_right _ h)) (List.mem_of_getElem? (i := 8) rfl) rfl dX10_call_91 rfl ?_
  refine jm_aload_n (n := 95) X 1 rfl dX10_call_94 rfl ?_
  refine jm_get (n := 98) X 0 9 27 mW_X10 rfl (by decide) (fun w h => List.mem_cons_of_mem _ (List.mem_append_right _ h)) (List.mem_of_getElem? (i := 9) rfl) rfl dX10_call_95 rfl ?_
  refine jm_iload (n := 100) X 0 rfl dX10_call_98 rfl ?_
  refine jm_callVi (n := 103) (vs := [.int (iI (gI σ0 226)), .int (iI (gI σ0 227)), .int (iI y0)]) (rest := [.ref (h 299)]) X hA (t10_bind l k0 (k0.1 226) (k0.1 227) hy0) (cwV 3 X.2.2.2.2.1 gX10_call_X10_bind rfl rfl rfl (by decide +kernel) ⟨Nat.le_of_ble_eq_true rfl, Nat.le_of_ble_eq_true rfl⟩) 0 9 mW_X10 rfl rfl (Nat.le_of_ble_eq_true rfl) dX10_call_100 rfl (fun σ1 r1 k1 h2 => ?_)
  refine jm_put (n := 106) X 0 9 28 228 mW_X10 rfl (by decide) (fun w h => List.mem_cons_of_mem _ (List.mem_append_right _ h)) tyX10 tyX10_ok nmX10 (List.mem_of_getElem? (i := 10) rfl) rfl rfl rfl rfl (Nat.le_of_ble_eq_true rfl) mS_228 k1 h2 dX10_call_103 rfl (fun σ3 k3 => ?_)
  refine jm_aload_n (n := 107) X 1 rfl dX10_call_106 rfl ?_
  refine jm_get (n := 110) X 0 9 3 mW_X10 rfl (by decide) (fun w h => List.mem_cons_of_mem _ (List.mem_append_right _ h)) (List.mem_of_getElem? (i := 11) rfl) rfl dX10_call_107 rfl ?_
  refine jm_iload_n (n := 111) X 2 rfl dX10_call_110 rfl ?_
  refine jm_ald (n := 112) X 2 0 203 mA_203 rfl rfl hx3 dX10_call_111 rfl (fun h4 => ?_)
  exact jm_iret X rfl k3 (k3.2 203 _) dX10_call_112
def f10_call (σ0 : Sg) (x1 : Int) (x2 : Int) : Option (Sg × Int) :=
  if x1 = (3 : Int) then (ck (0 ≤ (gI σ0 223) ∧ (gI σ0 223) < 320) <| nx (sA σ0 224 (gI σ0 223) (gI σ0 225)) fun σ3 =>
  ck (inR ((gI σ3 223) + (1 : Int))) <|
  nx (sI σ3 223 ((gI σ3 223) + (1 : Int))) fun σ5 =>
  nx (sI σ5 225 x2) fun σ6 =>
  some (σ6, (-1 : Int)))
  else (if x1 = (2 : Int) then (ck (0 ≤ x2 ∧ x2 < 210) <|
  ck (0 ≤ (gA σ0 214 x2) ∧ (gA σ0 214 x2) < 60) <|
  if (gA σ0 202 (gA σ0 214 x2)) = (11 : Int) then (ck (0 ≤ x2 ∧ x2 < 210) <|
  bd (f10_bind σ0 (2 : Int) x2 (gA σ0 215 x2)) fun σ12 r12 =>
  (b10_call_86 σ12 (gA σ0 214 x2) r12))
  else (ck (0 ≤ x2 ∧ x2 < 210) <|
  (b10_call_86 σ0 (gA σ0 214 x2) (gA σ0 215 x2))))
  else (ck ((1 : Int) = 0 ∨ (1 : Int) = 1) <|
  nx (sI σ0 229 (1 : Int)) fun σ15 =>
  some (σ15, (-1 : Int))))
set_option maxRecDepth 100000 in
theorem t10_call (l : Launch) {h : Nat → Nat} {cI cZ : ClassId} {D : va_G} {σ0 : Sg} {x1 : Int} {x2 : Int} (k0 : ok σ0) (hx1 : inR x1) (hx2 : inR x2) : ctI noE l (mW h cI cZ) D (mT cI cZ) yX10_call wsX10_call rm10_call [.ref (h 299), .int (iI x1), .int (iI x2)] σ0 (f10_call σ0 x1 x2) := by
  refine of_I noE_ok (own := RX10) (lv := [(0, .ref (h 299)), (1, .int (iI x1)), (2, .int (iI x2))]) (by decide) rfl rfl (Nat.le_of_ble_eq_true rfl) rfl (fun p e s m below meth c sz X hA => ?_)
  rw [f10_call]
  refine jm_iload_n (n := 1) X 1 rfl dX10_call_0 rfl ?_
  refine jm_iconst (n := 2) X dX10_call_1 rfl ?_
  refine jm_icmp_ne (n := 5) (tgt := 35) X dX10_call_2 (by decide) hx1 (by decide) rfl (fun c1 => ?_) (fun c1 => ?_)
  · refine jm_aload_n (n := 6) X 0 rfl dX10_call_5 rfl ?_
    refine jm_get (n := 9) X 0 9 24 mW_X10 rfl (by decide) (fun w h => List.mem_cons_of_mem _ (List.mem_append_right _ h)) (List.mem_of_getElem? (i := 1) rfl) rfl dX10_call_6 rfl ?_
    refine jm_aload_n (n := 10) X 0 rfl dX10_call_9 rfl ?_
    refine jm_get (n := 13) X 0 9 23 mW_X10 rfl (by decide) (fun w h => List.mem_cons_of_mem _ (List.mem_append_right _ h)) (List.mem_of_getElem? (i := 2) rfl) rfl dX10_call_10 rfl ?_
    refine jm_aload_n (n := 14) X 0 rfl dX10_call_13 rfl ?_
    refine jm_get (n := 17) X 0 9 25 mW_X10 rfl (by decide) (fun w h => List.mem_cons_of_mem _ (List.mem_append_right _ h)) (List.mem_of_getElem? (i := 3) rfl) rfl dX10_call_14 rfl ?_
    refine jm_ast (n := 18) X 19 0 224 mA_224 rfl rfl mT_224 k0 (k0.1 223) (k0.1 225) dX10_call_17 rfl (fun h2 σ3 k3 => ?_)
    refine jm_aload_n (n := 19) X 0 rfl dX10_call_18 rfl ?_
    refine jm_dup (n := 20) X dX10_call_19 rfl rfl ?_
    refine jm_get (n := 23) X 0 9 23 mW_X10 rfl (by decide) (fun w h => List.mem_cons_of_mem _ (List.mem_append_right _ h)) (List.mem_of_getElem? (i := 2) rfl) rfl dX10_call_20 rfl ?_
    refine jm_iconst (n := 24) X dX10_call_23 rfl ?_
    refine jm_iadd (n := 25) X dX10_call_24 rfl (fun h4 => ?_)
    refine jm_put (n := 28) X 0 9 23 223 mW_X10 rfl (by decide) (fun w h => List.mem_cons_of_mem _ (List.mem_append_right _ h)) tyX10 tyX10_ok nmX10 (List.mem_of_getElem? (i := 2) rfl) rfl rfl rfl rfl (Nat.le_of_ble_eq_true rfl) mS_223 k3 h4 dX10_call_25 rfl (fun σ5 k5 => ?_)
    refine jm_aload_n (n := 29) X 0 rfl dX10_call_28 rfl ?_
    refine jm_iload_n (n := 30) X 2 rfl dX10_call_29 rfl ?_
    refine jm_put (n := 33) X 0 9 25 225 mW_X10 rfl (by decide) (fun w h => List.mem_cons_of_mem _ (List.mem_append_right _ h)) tyX10 tyX10_ok nmX10 (List.mem_of_getElem? (i := 3) rfl) rfl rfl rfl rfl (Nat.le_of_ble_eq_true rfl) mS_225 k5 hx2 dX10_call_30 rfl (fun σ6 k6 => ?_)
    refine jm_iconst (n := 34) X dX10_call_33 rfl ?_
    exact jm_iret X rfl k6 (by decide) dX10_call_34
  · refine jm_iload_n (n := 36) X 1 rfl dX10_call_35 rfl ?_
    refine jm_iconst (n := 37) X dX10_call_36 rfl ?_
    refine jm_icmp_eq (n := 40) (tgt := 47) X dX10_call_37 (by decide) hx1 (by decide) rfl (fun c7 => ?_) (fun c7 => ?_)
    · refine jm_aload_n (n := 48) X 0 rfl dX10_call_47 rfl ?_
      refine jm_get (n := 51) X 0 9 14 mW_X10 rfl (by decide) (fun w h => List.mem_cons_of_mem _ (List.mem_append_right _ h)) (List.mem_of_getElem? (i := 5) rfl) rfl dX10_call_48 rfl ?_
      refine jm_iload_n (n := 52) X 2 rfl dX10_call_51 rfl ?_
      refine jm_ald (n := 53) X 11 0 214 mA_214 rfl rfl hx2 dX10_call_52 rfl (fun h8 => ?_)
      refine jm_istore_n (n := 54) (lv' := [(3, .int (iI (gA σ0 214 x2))), (0, .ref (h 299)), (1, .int (iI x1)), (2, .int (iI x2))]) X dX10_call_53 (by decide) rfl rfl ?_
      refine jm_aload_n (n := 55) X 1 rfl dX10_call_54 rfl ?_
      refine jm_get (n := 58) X 0 9 2 mW_X10 rfl (by decide) (fun w h => List.mem_cons_of_mem _ (List.mem_append_right _ h)) (List.mem_of_getElem? (i := 6) rfl) rfl dX10_call_55 rfl ?_
      refine jm_iload_n (n := 59) X 0 rfl dX10_call_58 rfl ?_
      refine jm_ald (n := 60) X 1 0 202 mA_202 rfl rfl (k0.2 214 _) dX10_call_59 rfl (fun h9 => ?_)
      refine jm_bipush (n := 62) X dX10_call_60 (by decide) rfl ?_
      refine jm_icmp_ne (n := 65) (tgt := 80) X dX10_call_62 (by decide) (k0.2 202 _) (by decide) rfl (fun c10 => ?_) (fun c10 => ?_)
      · refine jm_aload_n (n := 66) X 1 rfl dX10_call_65 rfl ?_
        refine jm_iconst (n := 67) X dX10_call_66 rfl ?_
        refine jm_iload_n (n := 68) X 3 rfl dX10_call_67 rfl ?_
        refine jm_aload_n (n := 69) X 1 rfl dX10_call_68 rfl ?_
        refine jm_get (n := 72) X 0 9 15 mW_X10 rfl (by decide) (fun w h => List.mem_cons_of_mem _ (List.mem_append_right _ h)) (List.mem_of_getElem? (i := 7) rfl) rfl dX10_call_69 rfl ?_
        refine jm_iload_n (n := 73) X 3 rfl dX10_call_72 rfl ?_
        refine jm_ald (n := 74) X 12 0 215 mA_215 rfl rfl hx2 dX10_call_73 rfl (fun h11 => ?_)
        refine jm_callVi (n := 77) (vs := [.int (iI (2 : Int)), .int (iI x2), .int (iI (gA σ0 215 x2))]) (rest := []) X hA (t10_bind l k0 (by decide) hx2 (k0.2 215 _)) (cwV 3 X.2.2.2.2.1 gX10_call_X10_bind rfl rfl rfl (by decide +kernel) ⟨Nat.le_of_ble_eq_true rfl, Nat.le_of_ble_eq_true rfl⟩) 0 9 mW_X10 rfl rfl (Nat.le_of_ble_eq_true rfl) dX10_call_74 rfl (fun σ12 r12 k12 h13 => ?_)
        refine jm_goto (n := 86) X dX10_call_77 (by decide) ?_
        refine jm_perm [1, 0] rfl ?_
        exact u10_call_86 X hA σ12 (gA σ0 214 x2) r12 k12 (k0.2 214 _) h13
      · refine jm_aload_n (n := 81) X 1 rfl dX10_call_80 rfl ?_
        refine jm_get (n := 84) X 0 9 15 mW_X10 rfl (by decide) (fun w h => List.mem_cons_of_mem _ (List.mem_append_right _ h)) (List.mem_of_getElem? (i := 7) rfl) rfl dX10_call_81 rfl ?_
        refine jm_iload_n (n := 85) X 3 rfl dX10_call_84 rfl ?_
        refine jm_ald (n := 86) X 12 0 215 mA_215 rfl rfl hx2 dX10_call_85 rfl (fun h14 => ?_)
        refine jm_perm [1, 0] rfl ?_
        exact u10_call_86 X hA σ0 (gA σ0 214 x2) (gA σ0 215 x2) k0 (k0.2 214 _) (k0.2 215 _)
    · refine jm_aload_n (n := 41) X 0 rfl dX10_call_40 rfl ?_
      refine jm_iconst (n := 42) X dX10_call_41 rfl ?_
      refine jm_ck (fun h16 => ?_)
      refine jm_put (n := 45) X 0 9 29 229 mW_X10 rfl (by decide) (fun w h => List.mem_cons_of_mem _ (List.mem_append_right _ h)) tyX10 tyX10_ok nmX10 (List.mem_of_getElem? (i := 4) rfl) rfl rfl (narrow_Z h16) (fits_Z h16) (Nat.le_of_ble_eq_true rfl) mS_229 k0 (by decide) dX10_call_42 rfl (fun σ15 k15 => ?_)
      refine jm_iconst (n := 46) X dX10_call_45 rfl ?_
      exact jm_iret X rfl k15 (by decide) dX10_call_46
abbrev rm10_goOn : Room := { frames := 2, cells := 0, slots := 0, locals := 47 }
def b10_goOn_76 (σ0 : Sg) (x2 : Int) (y1 : Int) : Option (Sg × Int) :=
  ck (y1 = 0 ∨ y1 = 1) <|
  nx (sI σ0 229 y1) fun σ1 =>
  if (gI σ1 227) = (1 : Int) then (ck (0 ≤ x2 ∧ x2 < 60) <|
  some (σ1, (gA σ1 204 x2)))
  else (ck (0 ≤ x2 ∧ x2 < 60) <|
  some (σ1, (gA σ1 205 x2)))
set_option maxRecDepth 100000 in
theorem u10_goOn_76 (X : CX p m meth c cX10_goOn 5 (some .int) s args wsX10_goOn RX10 D (mT cI cZ) noE (va_A (mW h cI cZ σz) sz)) (hA : ∀ z : Nat, s.heap.size ≤ z → va_A (mW h cI cZ σz) sz z) (σ0 : Sg) (x2 : Int) (y1 : Int) (k0 : ok σ0) (hx2 : inR x2) (hy1 : inR y1) : JI l rm10_goOn (mW h cI cZ) D (mT cI cZ) σz sz 5 p e s m args below meth c σ0 76 [(0, .ref (h 299)), (2, .int (iI x2))] [.int (iI y1), .ref (h 299)] (b10_goOn_76 σ0 x2 y1) := by
  rw [b10_goOn_76]
  refine jm_ck (fun h2 => ?_)
  refine jm_put (n := 79) X 0 9 29 229 mW_X10 rfl (by decide) (fun w h => List.mem_cons_of_mem _ (List.mem_append_right _ h)) tyX10 tyX10_ok nmX10 (List.mem_of_getElem? (i := 9) rfl) rfl rfl (narrow_Z h2) (fits_Z h2) (Nat.le_of_ble_eq_true rfl) mS_229 k0 hy1 dX10_goOn_76 rfl (fun σ1 k1 => ?_)
  refine jm_aload_n (n := 80) X 0 rfl dX10_goOn_79 rfl ?_
  refine jm_get (n := 83) X 0 9 27 mW_X10 rfl (by decide) (fun w h => List.mem_cons_of_mem _ (List.mem_append_right _ h)) (List.mem_of_getElem? (i := 10) rfl) rfl dX10_goOn_80 rfl ?_
  refine jm_iconst (n := 84) X dX10_goOn_83 rfl ?_
  refine jm_icmp_ne (n := 87) (tgt := 96) X dX10_goOn_84 (by decide) (k1.1 227) (by decide) rfl (fun c3 => ?_) (fun c3 => ?_)
  · refine jm_aload_n (n := 88) X 0 rfl dX10_goOn_87 rfl ?_
    refine jm_get (n := 91) X 0 9 4 mW_X10 rfl (by decide) (fun w h => List.mem_cons_of_mem _ (List.mem_append_right _ h)) (List.mem_of_getElem? (i := 11) rfl) rfl dX10_goOn_88 rfl ?_
    refine jm_iload_n (n := 92) X 1 rfl dX10_goOn_91 rfl ?_
    refine jm_ald (n := 93) X 3 0 204 mA_204 rfl rfl hx2 dX10_goOn_92 rfl (fun h4 => ?_)
    refine jm_goto (n := 102) X dX10_goOn_93 (by decide) ?_
    exact jm_iret X rfl k1 (k1.2 204 _) dX10_goOn_102
  · refine jm_aload_n (n := 97) X 0 rfl dX10_goOn_96 rfl ?_
    refine jm_get (n := 100) X 0 9 5 mW_X10 rfl (by decide) (fun w h => List.mem_cons_of_mem _ (List.mem_append_right _ h)) (List.mem_of_getElem? (i := 12) rfl) rfl dX10_goOn_97 rfl ?_
    refine jm_iload_n (n := 101) X 1 rfl dX10_goOn_100 rfl ?_
    refine jm_ald (n := 102) X 4 0 205 mA_205 rfl rfl hx2 dX10_goOn_101 rfl (fun h5 => ?_)
    exact jm_iret X rfl k1 (k1.2 205 _) dX10_goOn_102
def b10_goOn_261 (σ0 : Sg) (y1 : Int) (y2 : Int) : Option (Sg × Int) :=
  bd (f10_give σ0 y1 y2) fun σ1 r1 =>
  some (σ1, (-1 : Int))
set_option maxRecDepth 100000 in
theorem u10_goOn_261 (X : CX p m meth c cX10_goOn 5 (some .int) s args wsX10_goOn RX10 D (mT cI cZ) noE (va_A (mW h cI cZ σz) sz)) (hA : ∀ z : Nat, s.heap.size ≤ z → va_A (mW h cI cZ σz) sz z) (σ0 : Sg) (y1 : Int) (y2 : Int) (k0 : ok σ0) (hy1 : inR y1) (hy2 : inR y2) : JI l rm10_goOn (mW h cI cZ) D (mT cI cZ) σz sz 5 p e s m args below meth c σ0 261 [] [.int (iI y2), .int (iI y1), .ref (h 299)] (b10_goOn_261 σ0 y1 y2) := by
  rw [b10_goOn_261]
  refine jm_callVv (n := 264) (vs := [.int (iI y1), .int (iI y2)]) (rest := []) X hA (t10_give l k0 hy1 hy2) (cwV 2 X.2.2.2.2.1 gX10_goOn_X10_give rfl rfl rfl (by decide +kernel) ⟨Nat.le_of_ble_eq_true rfl, Nat.le_of_ble_eq_true rfl⟩) 0 9 mW_X10 rfl rfl (Nat.le_of_ble_eq_true rfl) dX10_goOn_261 rfl (fun σ1 r1 k1 => ?_)
  refine jm_iconst (n := 265) X dX10_goOn_264 rfl ?_
  exact jm_iret X rfl k1 (by decide) dX10_goOn_265
def b10_goOn_214 (σ0 : Sg) (x1 : Int) (x3 : Int) (y1 : Int) : Option (Sg × Int) :=
  ck (y1 = 0 ∨ y1 = 1) <|
  nx (sI σ0 229 y1) fun σ1 =>
  if x3 = (5 : Int) then (ck (0 ≤ x1 ∧ x1 < 320) <|
  bd (f10_give σ1 (0 : Int) (wr ((gA σ1 221 x1) + (gI σ1 227)))) fun σ5 r5 =>
  some (σ5, (-1 : Int)))
  else (ck (0 ≤ x1 ∧ x1 < 320) <|
  if (gI σ1 227) ≤ (gA σ1 221 x1) then ((b10_goOn_261 σ1 (1 : Int) (0 : Int)))
  else ((b10_goOn_261 σ1 (1 : Int) (1 : Int))))
set_option maxRecDepth 100000 in
theorem u10_goOn_214 (X : CX p m meth c cX10_goOn 5 (some .int) s args wsX10_goOn RX10 D (mT cI cZ) noE (va_A (mW h cI cZ σz) sz)) (hA : ∀ z : Nat, s.heap.size ≤ z → va_A (mW h cI cZ σz) sz z) (σ0 : Sg) (x1 : Int) (x3 : Int) (y1 : Int) (k0 : ok σ0) (hx1 : inR x1) (hx3 : inR x3) (hy1 : inR y1) : JI l rm10_goOn (mW h cI cZ) D (mT cI cZ) σz sz 5 p e s m args below meth c σ0 214 [(0, .ref (h 299)), (1, .int (iI x1)), (3, .int (iI x3))] [.int (iI y1), .ref (h 299)] (b10_goOn_214 σ0 x1 x3 y1) := by
  rw [b10_goOn_214]
  refine jm_ck (fun h2 => ?_)
  refine jm_put (n := 217) X 0 9 29 229 mW_X10 rfl (by decide) (fun w h => List.mem_cons_of_mem _ (List.mem_append_right _ h)) tyX10 tyX10_ok nmX10 (List.mem_of_getElem? (i := 9) rfl) rfl rfl (narrow_Z h2) (fits_Z h2) (Nat.le_of_ble_eq_true rfl) mS_229 k0 hy1 dX10_goOn_214 rfl (fun σ1 k1 => ?_)
  refine jm_iload_n (n := 218) X 2 rfl dX10_goOn_217 rfl ?_
  refine jm_iconst (n := 219) X dX10_goOn_218 rfl ?_
  refine jm_icmp_ne (n := 222) (tgt := 241) X dX10_goOn_219 (by decide) hx3 (by decide) rfl (fun c3 => ?_) (fun c3 => ?_)
  · refine jm_aload_n (n := 223) X 0 rfl dX10_goOn_222 rfl ?_
    refine jm_iconst (n := 224) X dX10_goOn_223 rfl ?_
    refine jm_aload_n (n := 225) X 0 rfl dX10_goOn_224 rfl ?_
    refine jm_get (n := 228) X 0 9 21 mW_X10 rfl (by decide) (fun w h => List.mem_cons_of_mem _ (List.mem_append_right _ h)) (List.mem_of_getElem? (i := 13) rfl) rfl dX10_goOn_225 rfl ?_
    refine jm_iload_n (n := 229) X 1 rfl dX10_goOn_228 rfl ?_
    refine jm_ald (n := 230) X 17 0 221 mA_221 rfl rfl hx1 dX10_goOn_229 rfl (fun h4 => ?_)
    refine jm_aload_n (n := 231) X 0 rfl dX10_goOn_230 rfl ?_
    refine jm_get (n := 234) X 0 9 27 mW_X10 rfl (by decide) (fun w h => List.mem_cons_of_mem _ (List.mem_append_right _ h)) (List.mem_of_getElem? (i := 10) rfl) rfl dX10_goOn_231 rfl ?_
    refine jm_iaddW (n := 235) X dX10_goOn_234 rfl ?_
    refine jm_callVv (n := 238) (vs := [.int (iI (0 : Int)), .int (iI (wr ((gA σ1 221 x1) + (gI σ1 227))))]) (rest := []) X hA (t10_give l k1 (by decide) (wr_in _)) (cwV 2 X.2.2.2.2.1 gX10_goOn_X10_give rfl rfl rfl (by decide +kernel) ⟨Nat.le_of_ble_eq_true rfl, Nat.le_of_ble_eq_true rfl⟩) 0 9 mW_X10 rfl rfl (Nat.le_of_ble_eq_true rfl) dX10_goOn_235 rfl (fun σ5 r5 k5 => ?_)
    refine jm_goto (n := 264) X dX10_goOn_238 (by decide) ?_
    refine jm_iconst (n := 265) X dX10_goOn_264 rfl ?_
    exact jm_iret X rfl k5 (by decide) dX10_goOn_265
  · refine jm_aload_n (n := 242) X 0 rfl dX10_goOn_241 rfl ?_
    refine jm_iconst (n := 243) X dX10_goOn_242 rfl ?_
    refine jm_aload_n (n := 244) X 0 rfl dX10_goOn_243 rfl ?_
    refine jm_get (n := 247) X 0 9 21 mW_X10 rfl (by decide) (fun w h => List.mem_cons_of_mem _ (List.mem_append_right _ h)) (List.mem_of_getElem? (i := 13) rfl) rfl dX10_goOn_244 rfl ?_
    refine jm_iload_n (n := 248) X 1 rfl dX10_goOn_247 rfl ?_
    refine jm_ald (n := 249) X 17 0 221 mA_221 rfl rfl hx1 dX10_goOn_248 rfl (fun h7 => ?_)
    refine jm_aload_n (n := 250) X 0 rfl dX10_goOn_249 rfl ?_
    refine jm_get (n := 253) X 0 9 27 mW_X10 rfl (by decide) (fun w h => List.mem_cons_of_mem _ (List.mem_append_right _ h)) (List.mem_of_getElem? (i := 10) rfl) rfl dX10_goOn_250 rfl ?_
    refine jm_icmp_ge (n := 256) (tgt := 260) X dX10_goOn_253 (by decide) (k1.2 221 _) (k1.1 227) rfl (fun c8 => ?_) (fun c8 => ?_)
    · refine jm_iconst (n := 261) X dX10_goOn_260 rfl ?_
      refine jm_perm [] rfl ?_
      exact u10_goOn_261 X hA σ1 (1 : Int) (0 : Int) k1 (by decide) (by decide)
    · refine jm_iconst (n := 257) X dX10_goOn_256 rfl ?_
      refine jm_goto (n := 261) X dX10_goOn_257 (by decide) ?_
      refine jm_perm [] rfl ?_
      exact u10_goOn_261 X hA σ1 (1 : Int) (1 : Int) k1 (by decide) (by decide)
def b10_goOn_209 (σ0 : Sg) (x1 : Int) (x3 : Int) : Option (Sg × Int) :=
  (b10_goOn_214 σ0 x1 x3 (1 : Int))
set_option maxRecDepth 100000 in
theorem u10_goOn_209 (X : CX p m meth c cX10_goOn 5 (some .int) s args wsX10_goOn RX10 D (mT cI cZ) noE (va_A (mW h cI cZ σz) sz)) (hA : ∀ z : Nat, s.heap.size ≤ z → va_A (mW h cI cZ σz) sz z) (σ0 : Sg) (x1 : Int) (x3 : Int) (k0 : ok σ0) (hx1 : inR x1) (hx3 : inR x3) : JI l rm10_goOn (mW h cI cZ) D (mT cI cZ) σz sz 5 p e s m args below meth c σ0 209 [(0, .ref (h 299)), (1, .int (iI x1)), (3, .int (iI x3))] [.ref (h 299)] (b10_goOn_209 σ0 x1 x3) := by
  rw [b10_goOn_209]
  refine jm_iconst (n := 210) X dX10_goOn_209 rfl ?_
  refine jm_goto (n := 214) X dX10_goOn_210 (by decide) ?_
  refine jm_perm [0, 1, 2] rfl ?_
  exact u10_goOn_214 X hA σ0 x1 x3 (1 : Int) k0 hx1 hx3 (by decide)
def b10_goOn_34 (σ0 : Sg) (x1 : Int) (x2 : Int) (x3 : Int) (y0 : Int) : Option (Sg × Int) :=
  ck (0 ≤ x1 ∧ x1 < 320) <|
  nx (sI σ0 225 (gA σ0 222 x1)) fun σ2 =>
  ck (0 ≤ x1 ∧ x1 < 320) <|
  nx (sI σ2 228 (gA σ2 219 x1)) fun σ4 =>
  if x3 = (7 : Int) then (if (gI σ4 226) = (1 : Int) then ((b10_goOn_76 σ4 x2 (0 : Int)))
  else ((b10_goOn_76 σ4 x2 (1 : Int))))
  else (if x3 = (8 : Int) then (ck (0 ≤ x1 ∧ x1 < 320) <|
  bd (f10_bind σ4 (gI σ4 226) (gI σ4 227) (gA σ4 219 x1)) fun σ9 r9 =>
  nx (sI σ9 228 r9) fun σ11 =>
  ck (0 ≤ x2 ∧ x2 < 60) <|
  some (σ11, (gA σ11 204 x2)))
  else (if y0 = 0 then (if x3 = (4 : Int) then (ck (0 ≤ x1 ∧ x1 < 320) <|
  ck (0 ≤ x1 ∧ x1 < 320) <|
  bd (f10_call σ4 (gA σ4 220 x1) (gA σ4 221 x1)) fun σ17 r17 =>
  some (σ17, r17))
  else (ck (0 ≤ x1 ∧ x1 < 320) <|
  if (gA σ4 220 x1) = 0 then (if (gI σ4 226) = 0 then ((b10_goOn_214 σ4 x1 x3 (0 : Int)))
  else ((b10_goOn_209 σ4 x1 x3)))
  else ((b10_goOn_209 σ4 x1 x3))))
  else (ck (0 ≤ x1 ∧ x1 < 320) <|
  bd (f10_then σ4 x3 x2 (gA σ4 219 x1) (gI σ4 226) (gI σ4 227)) fun σ23 r23 =>
  ck (0 ≤ x2 ∧ x2 < 60) <|
  some (σ23, (gA σ23 204 x2)))))
set_option maxRecDepth 100000 in
theorem u10_goOn_34 (X : CX p m meth c cX10_goOn 5 (some .int) s args wsX10_goOn RX10 D (mT cI cZ) noE (va_A (mW h cI cZ σz) sz)) (hA : ∀ z : Nat, s.heap.size ≤ z → va_A (mW h cI cZ σz) sz z) (σ0 : Sg) (x1 : Int) (x2 : Int) (x3 : Int) (y0 : Int) (k0 : ok σ0) (hx1 : inR x1) (hx2 : inR x2) (hx3 : inR x3) (hy0 : inR y0) : JI l rm10_goOn (mW h cI cZ) D (mT cI cZ) σz sz 5 p e s m args below meth c σ0 34 [(0, .ref (h 299)), (1, .int (iI x1)), (2, .int (iI x2)), (3, .int (iI x3))] [.int (iI y0)] (b10_goOn_34 σ0 x1 x2 x3 y0) := by
  rw [b10_goOn_34]
  refine jm_istore (n := 36) (lv' := [(4, .int (iI y0)), (0, .ref (h 299)), (1, .int (iI x1)), (2, .int (iI x2)), (3, .int (iI x3))]) X dX10_goOn_34 (by decide) rfl rfl ?_
  refine jm_aload_n (n := 37) X 1 rfl dX10_goOn_36 rfl ?_
  refine jm_aload_n (n := 38) X 1 rfl dX10_goOn_37 rfl ?_
  refine jm_get (n := 41) X 0 9 22 mW_X10 rfl (by decide) (fun w h => List.mem_cons_of_mem _ (List.mem_append_right _ h)) (List.mem_of_getElem? (i := 5) rfl) rfl dX10_goOn_38 rfl ?_
  refine jm_iload_n (n := 42) X 2 rfl dX10_goOn_41 rfl ?_
  refine jm_ald (n := 43) X 18 0 222 mA_222 rfl rfl hx1 dX10_goOn_42 rfl (fun h1 => ?_)
  refine jm_put (n := 46) X 0 9 25 225 mW_X10 rfl (by decide) (fun w h => List.mem_cons_of_mem _ (List.mem_append_right _ h)) tyX10 tyX10_ok nmX10 (List.mem_of_getElem? (i := 1) rfl) rfl rfl rfl rfl (Nat.le_of_ble_eq_true rfl) mS_225 k0 (k0.2 222 _) dX10_goOn_43 rfl (fun σ2 k2 => ?_)
  refine jm_aload_n (n := 47) X 1 rfl dX10_goOn_46 rfl ?_
  refine jm_aload_n (n := 48) X 1 rfl dX10_goOn_47 rfl ?_
  refine jm_get (n := 51) X 0 9 19 mW_X10 rfl (by decide) (fun w h => List.mem_cons_of_mem _ (List.mem_append_right _ h)) (List.mem_of_getElem? (i := 6) rfl) rfl dX10_goOn_48 rfl ?_
  refine jm_iload_n (n := 52) X 2 rfl dX10_goOn_51 rfl ?_
  refine jm_ald (n := 53) X 15 0 219 mA_219 rfl rfl hx1 dX10_goOn_52 rfl (fun h3 => ?_)
  refine jm_put (n := 56) X 0 9 28 228 mW_X10 rfl (by decide) (fun w h => List.mem_cons_of_mem _ (List.mem_append_right _ h)) tyX10 tyX10_ok nmX10 (List.mem_of_getElem? (i := 7) rfl) rfl rfl rfl rfl (Nat.le_of_ble_eq_true rfl) mS_228 k2 (k2.2 219 _) dX10_goOn_53 rfl (fun σ4 k4 => ?_)
  refine jm_iload_n (n := 57) X 4 rfl dX10_goOn_56 rfl ?_
  refine jm_bipush (n := 59) X dX10_goOn_57 (by decide) rfl ?_
  refine jm_icmp_ne (n := 62) (tgt := 103) X dX10_goOn_59 (by decide) hx3 (by decide) rfl (fun c5 => ?_) (fun c5 => ?_)
  · refine jm_aload_n (n := 63) X 1 rfl dX10_goOn_62 rfl ?_
    refine jm_aload_n (n := 64) X 1 rfl dX10_goOn_63 rfl ?_
    refine jm_get (n := 67) X 0 9 26 mW_X10 rfl (by decide) (fun w h => List.mem_cons_of_mem _ (List.mem_append_right _ h)) (List.mem_of_getElem? (i := 8) rfl) rfl dX10_goOn_64 rfl ?_
    refine jm_iconst (n := 68) X dX10_goOn_67 rfl ?_
    refine jm_icmp_eq (n := 71) (tgt := 75) X dX10_goOn_68 (by decide) (k4.1 226) (by decide) rfl (fun c6 => ?_) (fun c6 => ?_)
    · refine jm_iconst (n := 76) X dX10_goOn_75 rfl ?_
      refine jm_perm [1, 3] rfl ?_
      exact u10_goOn_76 X hA σ4 x2 (0 : Int) k4 hx2 (by decide)
    · refine jm_iconst (n := 72) X dX10_goOn_71 rfl ?_
      refine jm_goto (n := 76) X dX10_goOn_72 (by decide) ?_
      refine jm_perm [1, 3] rfl ?_
      exact u10_goOn_76 X hA σ4 x2 (1 : Int) k4 hx2 (by decide)
  · refine jm_iload_n (n := 104) X 4 rfl dX10_goOn_103 rfl ?_
    refine jm_bipush (n := 106) X dX10_goOn_104 (by decide) rfl ?_
    refine jm_icmp_ne (n := 109) (tgt := 138) X dX10_goOn_106 (by decide) hx3 (by decide) rfl (fun c7 => ?_) (fun c7 => ?_)
    · refine jm_aload_n (n := 110) X 1 rfl dX10_goOn_109 rfl ?_
      refine jm_aload_n (n := 111) X 1 rfl dX10_goOn_110 rfl ?_
      refine jm_aload_n (n := 112) X 1 rfl dX10_goOn_111 rfl ?_
      refine jm_get (n := 115) X 0 9 26 mW_X10 rfl (by decide) (fun w h => List.mem_cons_of_mem _ (List.mem_append_right _ h)) (List.mem_of_getElem? (i := 8) rfl) rfl dX10_goOn_112 rfl ?_
      refine jm_aload_n (n := 116) X 1 rfl dX10_goOn_115 rfl ?_
      refine jm_get (n := 119) X 0 9 27 mW_X10 rfl (by decide) (fun w h => List.mem_cons_of_mem _ (List.mem_append_right _ h)) (List.mem_of_getElem? (i := 10) rfl) rfl dX10_goOn_116 rfl ?_
      refine jm_aload_n (n := 120) X 1 rfl dX10_goOn_119 rfl ?_
      refine jm_get (n := 123) X 0 9 19 mW_X10 rfl (by decide) (fun w h => List.mem_cons_of_mem _ (List.mem_append_right _ h)) (List.mem_of_getElem? (i := 6) rfl) rfl dX10_goOn_120 rfl ?_
      refine jm_iload_n (n := 124) X 2 rfl dX10_goOn_123 rfl ?_
      refine jm_ald (n := 125) X 15 0 219 mA_219 rfl rfl hx1 dX10_goOn_124 rfl (fun h8 => ?_)
      refine jm_callVi (n := 128) (vs := [.int (iI (gI σ4 226)), .int (iI (gI σ4 227)), .int (iI (gA σ4 219 x1))]) (rest := [.ref (h 299)]) X hA (t10_bind l k4 (k4.1 226) (k4.1 227) (k4.2 219 _)) (cwV 3 X.2.2.2.2.1 gX10_goOn_X10_bind rfl rfl rfl (by decide +kernel) ⟨Nat.le_of_ble_eq_true rfl, Nat.le_of_ble_eq_true rfl⟩) 0 9 mW_X10 rfl rfl (Nat.le_of_ble_eq_true rfl) dX10_goOn_125 rfl (fun σ9 r9 k9 h10 => ?_)
      refine jm_put (n := 131) X 0 9 28 228 mW_X10 rfl (by decide) (fun w h => List.mem_cons_of_mem _ (List.mem_append_right _ h)) tyX10 tyX10_ok nmX10 (List.mem_of_getElem? (i := 7) rfl) rfl rfl rfl rfl (Nat.le_of_ble_eq_true rfl) mS_228 k9 h10 dX10_goOn_128 rfl (fun σ11 k11 => ?_)
      refine jm_aload_n (n := 132) X 1 rfl dX10_goOn_131 rfl ?_
      refine jm_get (n := 135) X 0 9 4 mW_X10 rfl (by decide) (fun w h => List.mem_cons_of_mem _ (List.mem_append_right _ h)) (List.mem_of_getElem? (i := 11) rfl) rfl dX10_goOn_132 rfl ?_
      refine jm_iload_n (n := 136) X 3 rfl dX10_goOn_135 rfl ?_
      refine jm_ald (n := 137) X 3 0 204 mA_204 rfl rfl hx2 dX10_goOn_136 rfl (fun h12 => ?_)
      exact jm_iret X rfl k11 (k11.2 204 _) dX10_goOn_137
    · refine jm_iload (n := 140) X 0 rfl dX10_goOn_138 rfl ?_
      refine jm_if_eq (n := 143) (tgt := 170) X dX10_goOn_140 (by decide) hy0 rfl (fun c13 => ?_) (fun c13 => ?_)
      · refine jm_iload_n (n := 171) X 4 rfl dX10_goOn_170 rfl ?_
        refine jm_iconst (n := 172) X dX10_goOn_171 rfl ?_
        refine jm_icmp_ne (n := 175) (tgt := 192) X dX10_goOn_172 (by decide) hx3 (by decide) rfl (fun c14 => ?_) (fun c14 => ?_)
        · refine jm_aload_n (n := 176) X 1 rfl dX10_goOn_175 rfl ?_
          refine jm_aload_n (n := 177) X 1 rfl dX10_goOn_176 rfl ?_
          refine jm_get (n := 180) X 0 9 20 mW_X10 rfl (by decide) (fun w h => List.mem_cons_of_mem _ (List.mem_append_right _ h)) (List.mem_of_getElem? (i := 4) rfl) rfl dX10_goOn_177 rfl ?_
          refine jm_iload_n (n := 181) X 2 rfl dX10_goOn_180 rfl ?_
          refine jm_ald (n := 182) X 16 0 220 mA_220 rfl rfl hx1 dX10_goOn_181 rfl (fun h15 => ?_)
          refine jm_aload_n (n := 183) X 1 rfl dX10_goOn_182 rfl ?_
          refine jm_get (n := 186) X 0 9 21 mW_X10 rfl (by decide) (fun w h => List.mem_cons_of_mem _ (List.mem_append_right _ h)) (List.mem_of_getElem? (i := 13) rfl) rfl dX10_goOn_183 rfl ?_
          refine jm_iload_n (n := 187) X 2 rfl dX10_goOn_186 rfl ?_
          refine jm_ald (n := 188) X 17 0 221 mA_221 rfl rfl hx1 dX10_goOn_187 rfl (fun h16 => ?_)
          refine jm_callVi (n := 191) (vs := [.int (iI (gA σ4 220 x1)), .int (iI (gA σ4 221 x1))]) (rest := []) X hA (t10_call l k4 (k4.2 220 _) (k4.2 221 _)) (cwV 2 X.2.2.2.2.1 gX10_goOn_X10_call rfl rfl rfl (by decide +kernel) ⟨Nat.le_of_ble_eq_true rfl, Nat.le_of_ble_eq_true rfl⟩) 0 9 mW_X10 rfl rfl (Nat.le_of_ble_eq_true rfl) dX10_goOn_188 rfl (fun σ17 r17 k17 h18 => ?_)
          exact jm_iret X rfl k17 h18 dX10_goOn_191
        · refine jm_aload_n (n := 193) X 1 rfl dX10_goOn_192 rfl ?_
          refine jm_aload_n (n := 194) X 1 rfl dX10_goOn_193 rfl ?_
          refine jm_get (n := 197) X 0 9 20 mW_X10 rfl (by decide) (fun w h => List.mem_cons_of_mem _ (List.mem_append_right _ h)) (List.mem_of_getElem? (i := 4) rfl) rfl dX10_goOn_194 rfl ?_
          refine jm_iload_n (n := 198) X 2 rfl dX10_goOn_197 rfl ?_
          refine jm_ald (n := 199) X 16 0 220 mA_220 rfl rfl hx1 dX10_goOn_198 rfl (fun h19 => ?_)
          refine jm_if_ne (n := 202) (tgt := 209) X dX10_goOn_199 (by decide) (k4.2 220 _) rfl (fun c20 => ?_) (fun c20 => ?_)
          · refine jm_aload_n (n := 203) X 1 rfl dX10_goOn_202 rfl ?_
            refine jm_get (n := 206) X 0 9 26 mW_X10 rfl (by decide) (fun w h => List.mem_cons_of_mem _ (List.mem_append_right _ h)) (List.mem_of_getElem? (i := 8) rfl) rfl dX10_goOn_203 rfl ?_
            refine jm_if_eq (n := 209) (tgt := 213) X dX10_goOn_206 (by decide) (k4.1 226) rfl (fun c21 => ?_) (fun c21 => ?_)
            · refine jm_iconst (n := 214) X dX10_goOn_213 rfl ?_
              refine jm_perm [1, 2, 4] rfl ?_
              exact u10_goOn_214 X hA σ4 x1 x3 (0 : Int) k4 hx1 hx3 (by decide)
            · refine jm_perm [1, 2, 4] rfl ?_
              exact u10_goOn_209 X hA σ4 x1 x3 k4 hx1 hx3
          · refine jm_perm [1, 2, 4] rfl ?_
            exact u10_goOn_209 X hA σ4 x1 x3 k4 hx1 hx3
      · refine jm_aload_n (n := 144) X 1 rfl dX10_goOn_143 rfl ?_
        refine jm_iload_n (n := 145) X 4 rfl dX10_goOn_144 rfl ?_
        refine jm_iload_n (n := 146) X 3 rfl dX10_goOn_145 rfl ?_
        refine jm_aload_n (n := 147) X 1 rfl dX10_goOn_146 rfl ?_
        refine jm_get (n := 150) X 0 9 19 mW_X10 rfl (by decide) (fun w h => List.mem_cons_of_mem _ (List.mem_append_right _ h)) (List.mem_of_getElem? (i := 6) rfl) rfl dX10_goOn_147 rfl ?_
        refine jm_iload_n (n := 151) X 2 rfl dX10_goOn_150 rfl ?_
        refine jm_ald (n := 152) X 15 0 219 mA_219 rfl rfl hx1 dX10_goOn_151 rfl (fun h22 => ?_)
        refine jm_aload_n (n := 153) X 1 rfl dX10_goOn_152 rfl ?_
        refine jm_get (n := 156) X 0 9 26 mW_X10 rfl (by decide) (fun w h => List.mem_cons_of_mem _ (List.mem_append_right _ h)) (List.mem_of_getElem? (i := 8) rfl) rfl dX10_goOn_153 rfl ?_
        refine jm_aload_n (n := 157) X 1 rfl dX10_goOn_156 rfl ?_
        refine jm_get (n := 160) X 0 9 27 mW_X10 rfl (by decide) (fun w h => List.mem_cons_of_mem _ (List.mem_append_right _ h)) (List.mem_of_getElem? (i := 10) rfl) rfl dX10_goOn_157 rfl ?_
        refine jm_callVv (n := 163) (vs := [.int (iI x3), .int (iI x2), .int (iI (gA σ4 219 x1)), .int (iI (gI σ4 226)), .int (iI (gI σ4 227))]) (rest := []) X hA (t10_then l k4 hx3 hx2 (k4.2 219 _) (k4.1 226) (k4.1 227)) (cwV 5 X.2.2.2.2.1 gX10_goOn_X10_then rfl rfl rfl (by decide +kernel) ⟨Nat.le_of_ble_eq_true rfl, Nat.le_of_ble_eq_true rfl⟩) 0 9 mW_X10 rfl rfl (Nat.le_of_ble_eq_true rfl) dX10_goOn_160 rfl (fun σ23 r23 k23 => ?_)
        refine jm_aload_n (n := 164) X 1 rfl dX10_goOn_163 rfl ?_
        refine jm_get (n := 167) X 0 9 4 mW_X10 rfl (by decide) (fun w h => List.mem_cons_of_mem _ (List.mem_append_right _ h)) (List.mem_of_getElem? (i := 11) rfl) rfl dX10_goOn_164 rfl ?_
        refine jm_iload_n (n := 168) X 3 rfl dX10_goOn_167 rfl ?_
        refine jm_ald (n := 169) X 3 0 204 mA_204 rfl rfl hx2 dX10_goOn_168 rfl (fun h25 => ?_)
        exact jm_iret X rfl k23 (k23.2 204 _) dX10_goOn_169
def f10_goOn (σ0 : Sg)  : Option (Sg × Int) :=
  ck (0 ≤ (gI σ0 225) ∧ (gI σ0 225) < 320) <|
  ck (0 ≤ (gI σ0 225) ∧ (gI σ0 225) < 320) <|
  ck (0 ≤ (gI σ0 225) ∧ (gI σ0 225) < 320) <|
  if (gA σ0 220 (gI σ0 225)) = (-1 : Int) then ((b10_goOn_34 σ0 (gI σ0 225) (gA σ0 218 (gI σ0 225)) (gA σ0 217 (gI σ0 225)) (1 : Int)))
  else ((b10_goOn_34 σ0 (gI σ0 225) (gA σ0 218 (gI σ0 225)) (gA σ0 217 (gI σ0 225)) (0 : Int)))
set_option maxRecDepth 100000 in
theorem t10_goOn (l : Launch) {h : Nat → Nat} {cI cZ : ClassId} {D : va_G} {σ0 : Sg}  (k0 : ok σ0)  : ctI noE l (mW h cI cZ) D (mT cI cZ) yX10_goOn wsX10_goOn rm10_goOn [.ref (h 299)] σ0 (f10_goOn σ0 ) := by
  refine of_I noE_ok (own := RX10) (lv := [(0, .ref (h 299))]) (by decide) rfl rfl (Nat.le_of_ble_eq_true rfl) rfl (fun p e s m below meth c sz X hA => ?_)
  rw [f10_goOn]
  refine jm_aload_n (n := 1) X 0 rfl dX10_goOn_0 rfl ?_
  refine jm_get (n := 4) X 0 9 25 mW_X10 rfl (by decide) (fun w h => List.mem_cons_of_mem _ (List.mem_append_right _ h)) (List.mem_of_getElem? (i := 1) rfl) rfl dX10_goOn_1 rfl ?_
  refine jm_istore_n (n := 5) (lv' := [(1, .int (iI (gI σ0 225))), (0, .ref (h 299))]) X dX10_goOn_4 (by decide) rfl rfl ?_
  refine jm_aload_n (n := 6) X 1 rfl dX10_goOn_5 rfl ?_
  refine jm_get (n := 9) X 0 9 18 mW_X10 rfl (by decide) (fun w h => List.mem_cons_of_mem _ (List.mem_append_right _ h)) (List.mem_of_getElem? (i := 2) rfl) rfl dX10_goOn_6 rfl ?_
  refine jm_iload_n (n := 10) X 0 rfl dX10_goOn_9 rfl ?_
  refine jm_ald (n := 11) X 14 0 218 mA_218 rfl rfl (k0.1 225) dX10_goOn_10 rfl (fun h1 => ?_)
  refine jm_istore_n (n := 12) (lv' := [(2, .int (iI (gA σ0 218 (gI σ0 225)))), (1, .int (iI (gI σ0 225))), (0, .ref (h 299))]) X dX10_goOn_11 (by decide) rfl rfl ?_
  refine jm_aload_n (n := 13) X 2 rfl dX10_goOn_12 rfl ?_
  refine jm_get (n := 16) X 0 9 17 mW_X10 rfl (by decide) (fun w h => List.mem_cons_of_mem _ (List.mem_append_right _ h)) (List.mem_of_getElem? (i := 3) rfl) rfl dX10_goOn_13 rfl ?_
  refine jm_iload_n (n := 17) X 1 rfl dX10_goOn_16 rfl ?_
  refine jm_ald (n := 18) X 13 0 217 mA_217 rfl rfl (k0.1 225) dX10_goOn_17 rfl (fun h2 => ?_)
  refine jm_istore_n (n := 19) (lv' := [(3, .int (iI (gA σ0 217 (gI σ0 225)))), (2, .int (iI (gA σ0 218 (gI σ0 225)))), (1, .int (iI (gI σ0 225))), (0, .ref (h 299))]) X dX10_goOn_18 (by decide) rfl rfl ?_
  refine jm_aload_n (n := 20) X 3 rfl dX10_goOn_19 rfl ?_
  refine jm_get (n := 23) X 0 9 20 mW_X10 rfl (by decide) (fun w h => List.mem_cons_of_mem _ (List.mem_append_right _ h)) (List.mem_of_getElem? (i := 4) rfl) rfl dX10_goOn_20 rfl ?_
  refine jm_iload_n (n := 24) X 2 rfl dX10_goOn_23 rfl ?_
  refine jm_ald (n := 25) X 16 0 220 mA_220 rfl rfl (k0.1 225) dX10_goOn_24 rfl (fun h3 => ?_)
  refine jm_iconst (n := 26) X dX10_goOn_25 rfl ?_
  refine jm_icmp_ne (n := 29) (tgt := 33) X dX10_goOn_26 (by decide) (k0.2 220 _) (by decide) rfl (fun c4 => ?_) (fun c4 => ?_)
  · refine jm_iconst (n := 30) X dX10_goOn_29 rfl ?_
    refine jm_goto (n := 34) X dX10_goOn_30 (by decide) ?_
    refine jm_perm [3, 2, 1, 0] rfl ?_
    exact u10_goOn_34 X hA σ0 (gI σ0 225) (gA σ0 218 (gI σ0 225)) (gA σ0 217 (gI σ0 225)) (1 : Int) k0 (k0.1 225) (k0.2 218 _) (k0.2 217 _) (by decide)
  · refine jm_iconst (n := 34) X dX10_goOn_33 rfl ?_
    refine jm_perm [3, 2, 1, 0] rfl ?_
    exact u10_goOn_34 X hA σ0 (gI σ0 225) (gA σ0 218 (gI σ0 225)) (gA σ0 217 (gI σ0 225)) (0 : Int) k0 (k0.1 225) (k0.2 218 _) (k0.2 217 _) (by decide)
abbrev rm10_run : Room := { frames := 3, cells := 0, slots := 0, locals := 71 }
def b10_run_43 (N : Nat) : Nat → Sg → Int → Int → Int → Int → Option (Sg × Int)
  | 0, _, _, _, _, _ => none
  | n + 1, σ0, x2, x3, x4, x5 => if x5 = 0 then (some (σ0, x3))
  else (if x4 < 0 then (if (gI σ0 225) ≤ 0 then (if (gI σ0 223) ≤ 0 then (((b10_run_43 N n) σ0 x2 x3 x4 (0 : Int)))
  else (ck (inR ((gI σ0 223) - (1 : Int))) <|
  nx (sI σ0 223 ((gI σ0 223) - (1 : Int))) fun σ6 =>
  ck (0 ≤ (gI σ6 223) ∧ (gI σ6 223) < 320) <|
  nx (sI σ6 225 (gA σ6 224 (gI σ6 223))) fun σ8 =>
  ((b10_run_43 N n) σ8 x2 x3 x4 x5)))
  else (if x3 = x2 then (some (σ0, (-2 : Int)))
  else (ck (inR (x3 + (1 : Int))) <|
  bd (f10_goOn σ0 ) fun σ11 r11 =>
  if (gI σ11 229) = 0 then (((b10_run_43 N n) σ11 x2 (x3 + (1 : Int)) r11 x5))
  else (some (σ11, (-1 : Int))))))
  else (if x3 = x2 then (some (σ0, (-2 : Int)))
  else (ck (inR (x3 + (1 : Int))) <|
  bd (f10_begin N σ0 x4 (gI σ0 228)) fun σ16 r16 =>
  ((b10_run_43 N n) σ16 x2 (x3 + (1 : Int)) r16 x5))))
set_option maxRecDepth 100000 in
theorem u10_run_43 (X : CX p m meth c cX10_run 6 (some .int) s args wsX10_run RX10 D (mT cI cZ) noE (va_A (mW h cI cZ σz) sz)) (hA : ∀ z : Nat, s.heap.size ≤ z → va_A (mW h cI cZ σz) sz z) (N : Nat) : ∀ (n : Nat) (σ0 : Sg) (x2 : Int) (x3 : Int) (x4 : Int) (x5 : Int), ok σ0 → inR x2 → inR x3 → inR x4 → inR x5 → JI l rm10_run (mW h cI cZ) D (mT cI cZ) σz sz 6 p e s m args below meth c σ0 43 [(0, .ref (h 299)), (2, .int (iI x2)), (3, .int (iI x3)), (4, .int (iI x4)), (5, .int (iI x5))] [] (b10_run_43 N n σ0 x2 x3 x4 x5) := by
  intro n
  induction n with
  | zero =>
    intro σ0 x2 x3 x4 x5 k0 hx2 hx3 hx4 hx5 σ9 r9 ho9
    rw [b10_run_43] at ho9
    cases ho9
  | succ n ih =>
    intro σ0 x2 x3 x4 x5 k0 hx2 hx3 hx4 hx5
    rw [b10_run_43]
    refine jm_iload (n := 45) X 4 rfl dX10_run_43 rfl ?_
    refine jm_if_eq (n := 48) (tgt := 151) X dX10_run_45 (by decide) hx5 rfl (fun c1 => ?_) (fun c1 => ?_)
    · refine jm_iload_n (n := 152) X 2 rfl dX10_run_151 rfl ?_
      exact jm_iret X rfl k0 hx3 dX10_run_152
    · refine jm_iload (n := 50) X 3 rfl dX10_run_48 rfl ?_
      refine jm_if_lt (n := 53) (tgt := 79) X dX10_run_50 (by decide) hx4 rfl (fun c2 => ?_) (fun c2 => ?_)
      · refine jm_aload_n (n := 80) X 0 rfl dX10_run_79 rfl ?_
        refine jm_get (n := 83) X 0 9 25 mW_X10 rfl (by decide) (fun w h => List.mem_cons_of_mem _ (List.mem_append_right _ h)) (List.mem_of_getElem? (i := 5) rfl) rfl dX10_run_80 rfl ?_
        refine jm_if_le (n := 86) (tgt := 112) X dX10_run_83 (by decide) (k0.1 225) rfl (fun c3 => ?_) (fun c3 => ?_)
        · refine jm_aload_n (n := 113) X 0 rfl dX10_run_112 rfl ?_
          refine jm_get (n := 116) X 0 9 23 mW_X10 rfl (by decide) (fun w h => List.mem_cons_of_mem _ (List.mem_append_right _ h)) (List.mem_of_getElem? (i := 4) rfl) rfl dX10_run_113 rfl ?_
          refine jm_if_le (n := 119) (tgt := 145) X dX10_run_116 (by decide) (k0.1 223) rfl (fun c4 => ?_) (fun c4 => ?_)
          · refine jm_iconst (n := 146) X dX10_run_145 rfl ?_
            refine jm_istore (n := 148) (lv' := [(5, .int (iI (0 : Int))), (0, .ref (h 299)), (2, .int (iI x2)), (3, .int (iI x3)), (4, .int (iI x4))]) X dX10_run_146 (by decide) rfl rfl ?_
            refine jm_goto (n := 43) X dX10_run_148 (by decide) ?_
            refine jm_perm [1, 2, 3, 4, 0] rfl ?_
            exact ih σ0 x2 x3 x4 (0 : Int) k0 hx2 hx3 hx4 (by decide)
          · refine jm_aload_n (n := 120) X 0 rfl dX10_run_119 rfl ?_
            refine jm_dup (n := 121) X dX10_run_120 rfl rfl ?_
            refine jm_get (n := 124) X 0 9 23 mW_X10 rfl (by decide) (fun w h => List.mem_cons_of_mem _ (List.mem_append_right _ h)) (List.mem_of_getElem? (i := 4) rfl) rfl dX10_run_121 rfl ?_
            refine jm_iconst (n := 125) X dX10_run_124 rfl ?_
            refine jm_isub (n := 126) X dX10_run_125 rfl (fun h5 => ?_)
            refine jm_put (n := 129) X 0 9 23 223 mW_X10 rfl (by decide) (fun w h => List.mem_cons_of_mem _ (List.mem_append_right _ h)) tyX10 tyX10_ok nmX10 (List.mem_of_getElem? (i := 4) rfl) rfl rfl rfl rfl (Nat.le_of_ble_eq_true rfl) mS_223 k0 h5 dX10_run_126 rfl (fun σ6 k6 => ?_)
            refine jm_aload_n (n := 130) X 0 rfl dX10_run_129 rfl ?_
            refine jm_aload_n (n := 131) X 0 rfl dX10_run_130 rfl ?_
            refine jm_get (n := 134) X 0 9 24 mW_X10 rfl (by decide) (fun w h => List.mem_cons_of_mem _ (List.mem_append_right _ h)) (List.mem_of_getElem? (i := 8) rfl) rfl dX10_run_131 rfl ?_
            refine jm_aload_n (n := 135) X 0 rfl dX10_run_134 rfl ?_
            refine jm_get (n := 138) X 0 9 23 mW_X10 rfl (by decide) (fun w h => List.mem_cons_of_mem _ (List.mem_append_right _ h)) (List.mem_of_getElem? (i := 4) rfl) rfl dX10_run_135 rfl ?_
            refine jm_ald (n := 139) X 19 0 224 mA_224 rfl rfl (k6.1 223) dX10_run_138 rfl (fun h7 => ?_)
            refine jm_put (n := 142) X 0 9 25 225 mW_X10 rfl (by decide) (fun w h => List.mem_cons_of_mem _ (List.mem_append_right _ h)) tyX10 tyX10_ok nmX10 (List.mem_of_getElem? (i := 5) rfl) rfl rfl rfl rfl (Nat.le_of_ble_eq_true rfl) mS_225 k6 (k6.2 224 _) dX10_run_139 rfl (fun σ8 k8 => ?_)
            refine jm_goto (n := 43) X dX10_run_142 (by decide) ?_
            refine jm_perm [0, 1, 2, 3, 4] rfl ?_
            exact ih σ8 x2 x3 x4 x5 k8 hx2 hx3 hx4 hx5
        · refine jm_iload_n (n := 87) X 2 rfl dX10_run_86 rfl ?_
          refine jm_iload_n (n := 88) X 1 rfl dX10_run_87 rfl ?_
          refine jm_icmp_ne (n := 91) (tgt := 94) X dX10_run_88 (by decide) hx3 hx2 rfl (fun c9 => ?_) (fun c9 => ?_)
          · refine jm_bipush (n := 93) X dX10_run_91 (by decide) rfl ?_
            exact jm_iret X rfl k0 (by decide) dX10_run_93
          · refine jm_iinc (n := 97) (lv' := [(3, .int (iI (x3 + (1 : Int)))), (0, .ref (h 299)), (2, .int (iI x2)), (4, .int (iI x4)), (5, .int (iI x5))]) X 2 rfl dX10_run_94 (by decide) rfl rfl (fun h10 => ?_)
            refine jm_aload_n (n := 98) X 1 rfl dX10_run_97 rfl ?_
            refine jm_callVi (n := 101) (vs := []) (rest := []) X hA (t10_goOn l k0 ) (cwV 0 X.2.2.2.2.1 gX10_run_X10_goOn rfl rfl rfl (by decide +kernel) ⟨Nat.le_of_ble_eq_true rfl, Nat.le_of_ble_eq_true rfl⟩) 0 9 mW_X10 rfl rfl (Nat.le_of_ble_eq_true rfl) dX10_run_98 rfl (fun σ11 r11 k11 h12 => ?_)
            refine jm_istore (n := 103) (lv' := [(4, .int (iI r11)), (3, .int (iI (x3 + (1 : Int)))), (0, .ref (h 299)), (2, .int (iI x2)), (5, .int (iI x5))]) X dX10_run_101 (by decide) rfl rfl ?_
            refine jm_aload_n (n := 104) X 2 rfl dX10_run_103 rfl ?_
            refine jm_get (n := 107) X 0 9 29 mW_X10 rfl (by decide) (fun w h => List.mem_cons_of_mem _ (List.mem_append_right _ h)) (List.mem_of_getElem? (i := 6) rfl) rfl dX10_run_104 rfl ?_
            refine jm_if_eq (n := 110) (tgt := 43) X dX10_run_107 (by decide) (k11.1 229) rfl (fun c13 => ?_) (fun c13 => ?_)
            · refine jm_perm [2, 3, 1, 0, 4] rfl ?_
              exact ih σ11 x2 (x3 + (1 : Int)) r11 x5 k11 hx2 h10 h12 hx5
            · refine jm_iconst (n := 111) X dX10_run_110 rfl ?_
              exact jm_iret X rfl k11 (by decide) dX10_run_111
      · refine jm_iload_n (n := 54) X 2 rfl dX10_run_53 rfl ?_
        refine jm_iload_n (n := 55) X 1 rfl dX10_run_54 rfl ?_
        refine jm_icmp_ne (n := 58) (tgt := 61) X dX10_run_55 (by decide) hx3 hx2 rfl (fun c14 => ?_) (fun c14 => ?_)
        · refine jm_bipush (n := 60) X dX10_run_58 (by decide) rfl ?_
          exact jm_iret X rfl k0 (by decide) dX10_run_60
        · refine jm_iinc (n := 64) (lv' := [(3, .int (iI (x3 + (1 : Int)))), (0, .ref (h 299)), (2, .int (iI x2)), (4, .int (iI x4)), (5, .int (iI x5))]) X 2 rfl dX10_run_61 (by decide) rfl rfl (fun h15 => ?_)
          refine jm_aload_n (n := 65) X 1 rfl dX10_run_64 rfl ?_
          refine jm_iload (n := 67) X 3 rfl dX10_run_65 rfl ?_
          refine jm_aload_n (n := 68) X 1 rfl dX10_run_67 rfl ?_
          refine jm_get (n := 71) X 0 9 28 mW_X10 rfl (by decide) (fun w h => List.mem_cons_of_mem _ (List.mem_append_right _ h)) (List.mem_of_getElem? (i := 7) rfl) rfl dX10_run_68 rfl ?_
          refine jm_callVi (n := 74) (vs := [.int (iI x4), .int (iI (gI σ0 228))]) (rest := []) X hA (t10_begin l N k0 hx4 (k0.1 228)) (cwV 2 X.2.2.2.2.1 gX10_run_X10_begin rfl rfl rfl (by decide +kernel) ⟨Nat.le_of_ble_eq_true rfl, Nat.le_of_ble_eq_true rfl⟩) 0 9 mW_X10 rfl rfl (Nat.le_of_ble_eq_true rfl) dX10_run_71 rfl (fun σ16 r16 k16 h17 => ?_)
          refine jm_istore (n := 76) (lv' := [(4, .int (iI r16)), (3, .int (iI (x3 + (1 : Int)))), (0, .ref (h 299)), (2, .int (iI x2)), (5, .int (iI x5))]) X dX10_run_74 (by decide) rfl rfl ?_
          refine jm_goto (n := 43) X dX10_run_76 (by decide) ?_
          refine jm_perm [2, 3, 1, 0, 4] rfl ?_
          exact ih σ16 x2 (x3 + (1 : Int)) r16 x5 k16 hx2 h15 h17 hx5
def f10_run (N : Nat) (σ0 : Sg) (x1 : Int) (x2 : Int) : Option (Sg × Int) :=
  nx (sI σ0 209 (0 : Int)) fun σ1 =>
  nx (sI σ1 213 (0 : Int)) fun σ2 =>
  nx (sI σ2 216 (0 : Int)) fun σ3 =>
  nx (sI σ3 223 (0 : Int)) fun σ4 =>
  nx (sI σ4 225 (0 : Int)) fun σ5 =>
  ck ((0 : Int) = 0 ∨ (0 : Int) = 1) <|
  nx (sI σ5 229 (0 : Int)) fun σ6 =>
  nx (sI σ6 228 (0 : Int)) fun σ8 =>
  (b10_run_43 N N σ8 x2 (0 : Int) x1 (1 : Int))
set_option maxRecDepth 100000 in
theorem t10_run (l : Launch) {h : Nat → Nat} {cI cZ : ClassId} {D : va_G} (N : Nat) {σ0 : Sg} {x1 : Int} {x2 : Int} (k0 : ok σ0) (hx1 : inR x1) (hx2 : inR x2) : ctI noE l (mW h cI cZ) D (mT cI cZ) yX10_run wsX10_run rm10_run [.ref (h 299), .int (iI x1), .int (iI x2)] σ0 (f10_run N σ0 x1 x2) := by
  refine of_I noE_ok (own := RX10) (lv := [(0, .ref (h 299)), (1, .int (iI x1)), (2, .int (iI x2))]) (by decide) rfl rfl (Nat.le_of_ble_eq_true rfl) rfl (fun p e s m below meth c sz X hA => ?_)
  rw [f10_run]
  refine jm_aload_n (n := 1) X 0 rfl dX10_run_0 rfl ?_
  refine jm_iconst (n := 2) X dX10_run_1 rfl ?_
  refine jm_put (n := 5) X 0 9 9 209 mW_X10 rfl (by decide) (fun w h => List.mem_cons_of_mem _ (List.mem_append_right _ h)) tyX10 tyX10_ok nmX10 (List.mem_of_getElem? (i := 1) rfl) rfl rfl rfl rfl (Nat.le_of_ble_eq_true rfl) mS_209 k0 (by decide) dX10_run_2 rfl (fun σ1 k1 => ?_)
  refine jm_aload_n (n := 6) X 0 rfl dX10_run_5 rfl ?_
  refine jm_iconst (n := 7) X dX10_run_6 rfl ?_
  refine jm_put (n := 10) X 0 9 13 213 mW_X10 rfl (by decide) (fun w h => List.mem_cons_of_mem _ (List.mem_append_right _ h)) tyX10 tyX10_ok nmX10 (List.mem_of_getElem? (i := 2) rfl) rfl rfl rfl rfl (Nat.le_of_ble_eq_true rfl) mS_213 k1 (by decide) dX10_run_7 rfl (fun σ2 k2 => ?_)
  refine jm_aload_n (n := 11) X 0 rfl dX10_run_10 rfl ?_
  refine jm_iconst (n := 12) X dX10_run_11 rfl ?_
  refine jm_put (n := 15) X 0 9 16 216 mW_X10 rfl (by decide) (fun w h => List.mem_cons_of_mem _ (List.mem_append_right _ h)) tyX10 tyX10_ok nmX10 (List.mem_of_getElem? (i := 3) rfl) rfl rfl rfl rfl (Nat.le_of_ble_eq_true rfl) mS_216 k2 (by decide) dX10_run_12 rfl (fun σ3 k3 => ?_)
  refine jm_aload_n (n := 16) X 0 rfl dX10_run_15 rfl ?_
  refine jm_iconst (n := 17) X dX10_run_16 rfl ?_
  refine jm_put (n := 20) X 0 9 23 223 mW_X10 rfl (by decide) (fun w h => List.mem_cons_of_mem _ (List.mem_append_right _ h)) tyX10 tyX10_ok nmX10 (List.mem_of_getElem? (i := 4) rfl) rfl rfl rfl rfl (Nat.le_of_ble_eq_true rfl) mS_223 k3 (by decide) dX10_run_17 rfl (fun σ4 k4 => ?_)
  refine jm_aload_n (n := 21) X 0 rfl dX10_run_20 rfl ?_
  refine jm_iconst (n := 22) X dX10_run_21 rfl ?_
  refine jm_put (n := 25) X 0 9 25 225 mW_X10 rfl (by decide) (fun w h => List.mem_cons_of_mem _ (List.mem_append_right _ h)) tyX10 tyX10_ok nmX10 (List.mem_of_getElem? (i := 5) rfl) rfl rfl rfl rfl (Nat.le_of_ble_eq_true rfl) mS_225 k4 (by decide) dX10_run_22 rfl (fun σ5 k5 => ?_)
  refine jm_aload_n (n := 26) X 0 rfl dX10_run_25 rfl ?_
  refine jm_iconst (n := 27) X dX10_run_26 rfl ?_
  refine jm_ck (fun h7 => ?_)
  refine jm_put (n := 30) X 0 9 29 229 mW_X10 rfl (by decide) (fun w h => List.mem_cons_of_mem _ (List.mem_append_right _ h)) tyX10 tyX10_ok nmX10 (List.mem_of_getElem? (i := 6) rfl) rfl rfl (narrow_Z h7) (fits_Z h7) (Nat.le_of_ble_eq_true rfl) mS_229 k5 (by decide) dX10_run_27 rfl (fun σ6 k6 => ?_)
  refine jm_aload_n (n := 31) X 0 rfl dX10_run_30 rfl ?_
  refine jm_iconst (n := 32) X dX10_run_31 rfl ?_
  refine jm_put (n := 35) X 0 9 28 228 mW_X10 rfl (by decide) (fun w h => List.mem_cons_of_mem _ (List.mem_append_right _ h)) tyX10 tyX10_ok nmX10 (List.mem_of_getElem? (i := 7) rfl) rfl rfl rfl rfl (Nat.le_of_ble_eq_true rfl) mS_228 k6 (by decide) dX10_run_32 rfl (fun σ8 k8 => ?_)
  refine jm_iconst (n := 36) X dX10_run_35 rfl ?_
  refine jm_istore_n (n := 37) (lv' := [(3, .int (iI (0 : Int))), (0, .ref (h 299)), (1, .int (iI x1)), (2, .int (iI x2))]) X dX10_run_36 (by decide) rfl rfl ?_
  refine jm_iload_n (n := 38) X 2 rfl dX10_run_37 rfl ?_
  refine jm_istore (n := 40) (lv' := [(4, .int (iI x1)), (3, .int (iI (0 : Int))), (0, .ref (h 299)), (1, .int (iI x1)), (2, .int (iI x2))]) X dX10_run_38 (by decide) rfl rfl ?_
  refine jm_iconst (n := 41) X dX10_run_40 rfl ?_
  refine jm_istore (n := 43) (lv' := [(5, .int (iI (1 : Int))), (4, .int (iI x1)), (3, .int (iI (0 : Int))), (0, .ref (h 299)), (1, .int (iI x1)), (2, .int (iI x2))]) X dX10_run_41 (by decide) rfl rfl ?_
  refine jm_perm [3, 5, 2, 1, 0] rfl ?_
  exact u10_run_43 X hA N N σ8 x2 (0 : Int) x1 (1 : Int) k8 hx2 (by decide) hx1 (by decide)
abbrev rm10_work : Room := { frames := 4, cells := 0, slots := 0, locals := 96 }
def b10_work_22 (N : Nat) (σ0 : Sg)  : Option (Sg × Int) :=
  bd (f10_fail σ0 (1 : Int)) fun σ1 r1 =>
  some (σ1, r1)
set_option maxRecDepth 100000 in
theorem u10_work_22 (X : CX p m meth c cX10_work 4 (some .int) s args wsX10_work RX10 D (mT cI cZ) noE (va_A (mW h cI cZ σz) sz)) (hA : ∀ z : Nat, s.heap.size ≤ z → va_A (mW h cI cZ σz) sz z) (N : Nat) (σ0 : Sg)  (k0 : ok σ0)  : JI l rm10_work (mW h cI cZ) D (mT cI cZ) σz sz 4 p e s m args below meth c σ0 22 [(0, .ref (h 299))] [] (b10_work_22 N σ0 ) := by
  rw [b10_work_22]
  refine jm_aload_n (n := 23) X 0 rfl dX10_work_22 rfl ?_
  refine jm_iconst (n := 24) X dX10_work_23 rfl ?_
  refine jm_callVi (n := 27) (vs := [.int (iI (1 : Int))]) (rest := []) X hA (t10_fail l k0 (by decide)) (cwV 1 X.2.2.2.2.1 gX10_work_X10_fail rfl rfl rfl (by decide +kernel) ⟨Nat.le_of_ble_eq_true rfl, Nat.le_of_ble_eq_true rfl⟩) 0 9 mW_X10 rfl rfl (Nat.le_of_ble_eq_true rfl) dX10_work_24 rfl (fun σ1 r1 k1 h2 => ?_)
  exact jm_iret X rfl k1 h2 dX10_work_27
def b10_work_112 (N : Nat) (σ0 : Sg) (x3 : Int) (y1 : Int) : Option (Sg × Int) :=
  nx (sI σ0 230 y1) fun σ1 =>
  nx (sI σ1 231 (gI σ1 227)) fun σ2 =>
  nx (sI σ2 232 x3) fun σ3 =>
  ck (inR ((gI σ3 233) + (1 : Int))) <|
  nx (sI σ3 233 ((gI σ3 233) + (1 : Int))) fun σ5 =>
  ck (inR ((gI σ5 238) + x3)) <|
  nx (sI σ5 238 ((gI σ5 238) + x3)) fun σ7 =>
  some (σ7, (gI σ7 230))
set_option maxRecDepth 100000 in
theorem u10_work_112 (X : CX p m meth c cX10_work 4 (some .int) s args wsX10_work RX10 D (mT cI cZ) noE (va_A (mW h cI cZ σz) sz)) (hA : ∀ z : Nat, s.heap.size ≤ z → va_A (mW h cI cZ σz) sz z) (N : Nat) (σ0 : Sg) (x3 : Int) (y1 : Int) (k0 : ok σ0) (hx3 : inR x3) (hy1 : inR y1) : JI l rm10_work (mW h cI cZ) D (mT cI cZ) σz sz 4 p e s m args below meth c σ0 112 [(0, .ref (h 299)), (3, .int (iI x3))] [.int (iI y1), .ref (h 299)] (b10_work_112 N σ0 x3 y1) := by
  rw [b10_work_112]
  refine jm_put (n := 115) X 0 9 30 230 mW_X10 rfl (by decide) (fun w h => List.mem_cons_of_mem _ (List.mem_append_right _ h)) tyX10 tyX10_ok nmX10 (List.mem_of_getElem? (i := 6) rfl) rfl rfl rfl rfl (Nat.le_of_ble_eq_true rfl) mS_230 k0 hy1 dX10_work_112 rfl (fun σ1 k1 => ?_)
  refine jm_aload_n (n := 116) X 0 rfl dX10_work_115 rfl ?_
  refine jm_aload_n (n := 117) X 0 rfl dX10_work_116 rfl ?_
  refine jm_get (n := 120) X 0 9 27 mW_X10 rfl (by decide) (fun w h => List.mem_cons_of_mem _ (List.mem_append_right _ h)) (List.mem_of_getElem? (i := 7) rfl) rfl dX10_work_117 rfl ?_
  refine jm_put (n := 123) X 0 9 31 231 mW_X10 rfl (by decide) (fun w h => List.mem_cons_of_mem _ (List.mem_append_right _ h)) tyX10 tyX10_ok nmX10 (List.mem_of_getElem? (i := 8) rfl) rfl rfl rfl rfl (Nat.le_of_ble_eq_true rfl) mS_231 k1 (k1.1 227) dX10_work_120 rfl (fun σ2 k2 => ?_)
  refine jm_aload_n (n := 124) X 0 rfl dX10_work_123 rfl ?_
  refine jm_iload_n (n := 125) X 1 rfl dX10_work_124 rfl ?_
  refine jm_put (n := 128) X 0 9 32 232 mW_X10 rfl (by decide) (fun w h => List.mem_cons_of_mem _ (List.mem_append_right _ h)) tyX10 tyX10_ok nmX10 (List.mem_of_getElem? (i := 9) rfl) rfl rfl rfl rfl (Nat.le_of_ble_eq_true rfl) mS_232 k2 hx3 dX10_work_125 rfl (fun σ3 k3 => ?_)
  refine jm_aload_n (n := 129) X 0 rfl dX10_work_128 rfl ?_
  refine jm_dup (n := 130) X dX10_work_129 rfl rfl ?_
  refine jm_get (n := 133) X 0 9 33 mW_X10 rfl (by decide) (fun w h => List.mem_cons_of_mem _ (List.mem_append_right _ h)) (List.mem_of_getElem? (i := 10) rfl) rfl dX10_work_130 rfl ?_
  refine jm_iconst (n := 134) X dX10_work_133 rfl ?_
  refine jm_iadd (n := 135) X dX10_work_134 rfl (fun h4 => ?_)
  refine jm_put (n := 138) X 0 9 33 233 mW_X10 rfl (by decide) (fun w h => List.mem_cons_of_mem _ (List.mem_append_right _ h)) tyX10 tyX10_ok nmX10 (List.mem_of_getElem? (i := 10) rfl) rfl rfl rfl rfl (Nat.le_of_ble_eq_true rfl) mS_233 k3 h4 dX10_work_135 rfl (fun σ5 k5 => ?_)
  refine jm_aload_n (n := 139) X 0 rfl dX10_work_138 rfl ?_
  refine jm_dup (n := 140) X dX10_work_139 rfl rfl ?_
  refine jm_get (n := 143) X 0 9 38 mW_X10 rfl (by decide) (fun w h => List.mem_cons_of_mem _ (List.mem_append_right _ h)) (List.mem_of_getElem? (i := 11) rfl) rfl dX10_work_140 rfl ?_
  refine jm_iload_n (n := 144) X 1 rfl dX10_work_143 rfl ?_
  refine jm_iadd (n := 145) X dX10_work_144 rfl (fun h6 => ?_)
  refine jm_put (n := 148) X 0 9 38 238 mW_X10 rfl (by decide) (fun w h => List.mem_cons_of_mem _ (List.mem_append_right _ h)) tyX10 tyX10_ok nmX10 (List.mem_of_getElem? (i := 11) rfl) rfl rfl rfl rfl (Nat.le_of_ble_eq_true rfl) mS_238 k5 h6 dX10_work_145 rfl (fun σ7 k7 => ?_)
  refine jm_aload_n (n := 149) X 0 rfl dX10_work_148 rfl ?_
  refine jm_get (n := 152) X 0 9 30 mW_X10 rfl (by decide) (fun w h => List.mem_cons_of_mem _ (List.mem_append_right _ h)) (List.mem_of_getElem? (i := 6) rfl) rfl dX10_work_149 rfl ?_
  exact jm_iret X rfl k7 (k7.1 230) dX10_work_152
def f10_work (N : Nat) (σ0 : Sg) (x1 : Int) (x2 : Int) : Option (Sg × Int) :=
  nx (sI σ0 200 (0 : Int)) fun σ1 =>
  bd (f10_isTerm σ1 x1) fun σ2 r2 =>
  if r2 = 0 then ((b10_work_22 N σ2 ))
  else (ck (0 ≤ x1 ∧ x1 < 60) <|
  if (gA σ2 208 x1) ≤ 0 then (bd (f10_in σ2 x2 (1 : Int) (200 : Int)) fun σ7 r7 =>
  if r7 = 0 then (bd (f10_fail σ7 (2 : Int)) fun σ10 r10 =>
  some (σ10, r10))
  else (bd (f10_run N σ7 x1 x2) fun σ12 r12 =>
  if r12 = (-1 : Int) then (ck (inR ((gI σ12 234) + (1 : Int))) <|
  nx (sI σ12 234 ((gI σ12 234) + (1 : Int))) fun σ16 =>
  bd (f10_fail σ16 (3 : Int)) fun σ17 r17 =>
  some (σ17, r17))
  else (if r12 = (-2 : Int) then (ck (inR ((gI σ12 235) + (1 : Int))) <|
  nx (sI σ12 235 ((gI σ12 235) + (1 : Int))) fun σ21 =>
  bd (f10_fail σ21 (4 : Int)) fun σ22 r22 =>
  some (σ22, r22))
  else (if (gI σ12 226) ≤ (2 : Int) then ((b10_work_112 N σ12 r12 (gI σ12 226)))
  else ((b10_work_112 N σ12 r12 (2 : Int)))))))
  else ((b10_work_22 N σ2 )))
set_option maxRecDepth 100000 in
theorem t10_work (l : Launch) {h : Nat → Nat} {cI cZ : ClassId} {D : va_G} (N : Nat) {σ0 : Sg} {x1 : Int} {x2 : Int} (k0 : ok σ0) (hx1 : inR x1) (hx2 : inR x2) : ctI noE l (mW h cI cZ) D (mT cI cZ) yX10_work wsX10_work rm10_work [.ref (h 299), .int (iI x1), .int (iI x2)] σ0 (f10_work N σ0 x1 x2) := by
  refine of_I noE_ok (own := RX10) (lv := [(0, .ref (h 299)), (1, .int (iI x1)), (2, .int (iI x2))]) (by decide) rfl rfl (Nat.le_of_ble_eq_true rfl) rfl (fun p e s m below meth c sz X hA => ?_)
  rw [f10_work]
  refine jm_aload_n (n := 1) X 0 rfl dX10_work_0 rfl ?_
  refine jm_iconst (n := 2) X dX10_work_1 rfl ?_
  refine jm_put (n := 5) X 0 9 0 200 mW_X10 rfl (by decide) (fun w h => List.mem_cons_of_mem _ (List.mem_append_right _ h)) tyX10 tyX10_ok nmX10 (List.mem_of_getElem? (i := 1) rfl) rfl rfl rfl rfl (Nat.le_of_ble_eq_true rfl) mS_200 k0 (by decide) dX10_work_2 rfl (fun σ1 k1 => ?_)
  refine jm_aload_n (n := 6) X 0 rfl dX10_work_5 rfl ?_
  refine jm_iload_n (n := 7) X 1 rfl dX10_work_6 rfl ?_
  refine jm_callVi (n := 10) (vs := [.int (iI x1)]) (rest := []) X hA (t10_isTerm l k1 hx1) (cwV 1 X.2.2.2.2.1 gX10_work_X10_isTerm rfl rfl rfl (by decide +kernel) ⟨Nat.le_of_ble_eq_true rfl, Nat.le_of_ble_eq_true rfl⟩) 0 9 mW_X10 rfl rfl (Nat.le_of_ble_eq_true rfl) dX10_work_7 rfl (fun σ2 r2 k2 h3 => ?_)
  refine jm_if_eq (n := 13) (tgt := 22) X dX10_work_10 (by decide) h3 rfl (fun c4 => ?_) (fun c4 => ?_)
  · refine jm_perm [0] rfl ?_
    exact u10_work_22 X hA N σ2  k2 
  · refine jm_aload_n (n := 14) X 0 rfl dX10_work_13 rfl ?_
    refine jm_get (n := 17) X 0 9 8 mW_X10 rfl (by decide) (fun w h => List.mem_cons_of_mem _ (List.mem_append_right _ h)) (List.mem_of_getElem? (i := 2) rfl) rfl dX10_work_14 rfl ?_
    refine jm_iload_n (n := 18) X 1 rfl dX10_work_17 rfl ?_
    refine jm_ald (n := 19) X 7 0 208 mA_208 rfl rfl hx1 dX10_work_18 rfl (fun h5 => ?_)
    refine jm_if_le (n := 22) (tgt := 28) X dX10_work_19 (by decide) (k2.2 208 _) rfl (fun c6 => ?_) (fun c6 => ?_)
    · refine jm_iload_n (n := 29) X 2 rfl dX10_work_28 rfl ?_
      refine jm_iconst (n := 30) X dX10_work_29 rfl ?_
      refine jm_sipush (n := 33) X dX10_work_30 (by decide) rfl ?_
      refine jm_callSi (n := 36) (vs := [.int (iI x2), .int (iI (1 : Int)), .int (iI (200 : Int))]) (rest := []) X hA (t10_in l k2 hx2 (by decide) (by decide)) (va_cwS 3 X.2.2.2.2.1 gX10_work_X10_in rfl rfl rfl (by decide +kernel) ⟨Nat.le_of_ble_eq_true rfl, Nat.le_of_ble_eq_true rfl⟩) rfl (Nat.le_of_ble_eq_true rfl) dX10_work_33 rfl (fun σ7 r7 k7 h8 => ?_)
      refine jm_if_ne (n := 39) (tgt := 45) X dX10_work_36 (by decide) h8 rfl (fun c9 => ?_) (fun c9 => ?_)
      · refine jm_aload_n (n := 40) X 0 rfl dX10_work_39 rfl ?_
        refine jm_iconst (n := 41) X dX10_work_40 rfl ?_
        refine jm_callVi (n := 44) (vs := [.int (iI (2 : Int))]) (rest := []) X hA (t10_fail l k7 (by decide)) (cwV 1 X.2.2.2.2.1 gX10_work_X10_fail rfl rfl rfl (by decide +kernel) ⟨Nat.le_of_ble_eq_true rfl, Nat.le_of_ble_eq_true rfl⟩) 0 9 mW_X10 rfl rfl (Nat.le_of_ble_eq_true rfl) dX10_work_41 rfl (fun σ10 r10 k10 h11 => ?_)
        exact jm_iret X rfl k10 h11 dX10_work_44
      · refine jm_aload_n (n := 46) X 0 rfl dX10_work_45 rfl ?_
        refine jm_iload_n (n := 47) X 1 rfl dX10_work_46 rfl ?_
        refine jm_iload_n (n := 48) X 2 rfl dX10_work_47 rfl ?_
        refine jm_callVi (n := 51) (vs := [.int (iI x1), .int (iI x2)]) (rest := []) X hA (t10_run l N k7 hx1 hx2) (cwV 2 X.2.2.2.2.1 gX10_work_X10_run rfl rfl rfl (by decide +kernel) ⟨Nat.le_of_ble_eq_true rfl, Nat.le_of_ble_eq_true rfl⟩) 0 9 mW_X10 rfl rfl (Nat.le_of_ble_eq_true rfl) dX10_work_48 rfl (fun σ12 r12 k12 h13 => ?_)
        refine jm_istore_n (n := 52) (lv' := [(3, .int (iI r12)), (0, .ref (h 299)), (1, .int (iI x1)), (2, .int (iI x2))]) X dX10_work_51 (by decide) rfl rfl ?_
        refine jm_iload_n (n := 53) X 0 rfl dX10_work_52 rfl ?_
        refine jm_iconst (n := 54) X dX10_work_53 rfl ?_
        refine jm_icmp_ne (n := 57) (tgt := 73) X dX10_work_54 (by decide) h13 (by decide) rfl (fun c14 => ?_) (fun c14 => ?_)
        · refine jm_aload_n (n := 58) X 1 rfl dX10_work_57 rfl ?_
          refine jm_dup (n := 59) X dX10_work_58 rfl rfl ?_
          refine jm_get (n := 62) X 0 9 34 mW_X10 rfl (by decide) (fun w h => List.mem_cons_of_mem _ (List.mem_append_right _ h)) (List.mem_of_getElem? (i := 3) rfl) rfl dX10_work_59 rfl ?_
          refine jm_iconst (n := 63) X dX10_work_62 rfl ?_
          refine jm_iadd (n := 64) X dX10_work_63 rfl (fun h15 => ?_)
          refine jm_put (n := 67) X 0 9 34 234 mW_X10 rfl (by decide) (fun w h => List.mem_cons_of_mem _ (List.mem_append_right _ h)) tyX10 tyX10_ok nmX10 (List.mem_of_getElem? (i := 3) rfl) rfl rfl rfl rfl (Nat.le_of_ble_eq_true rfl) mS_234 k12 h15 dX10_work_64 rfl (fun σ16 k16 => ?_)
          refine jm_aload_n (n := 68) X 1 rfl dX10_work_67 rfl ?_
          refine jm_iconst (n := 69) X dX10_work_68 rfl ?_
          refine jm_callVi (n := 72) (vs := [.int (iI (3 : Int))]) (rest := []) X hA (t10_fail l k16 (by decide)) (cwV 1 X.2.2.2.2.1 gX10_work_X10_fail rfl rfl rfl (by decide +kernel) ⟨Nat.le_of_ble_eq_true rfl, Nat.le_of_ble_eq_true rfl⟩) 0 9 mW_X10 rfl rfl (Nat.le_of_ble_eq_true rfl) dX10_work_69 rfl (fun σ17 r17 k17 h18 => ?_)
          exact jm_iret X rfl k17 h18 dX10_work_72
        · refine jm_iload_n (n := 74) X 0 rfl dX10_work_73 rfl ?_
          refine jm_bipush (n := 76) X dX10_work_74 (by decide) rfl ?_
          refine jm_icmp_ne (n := 79) (tgt := 95) X dX10_work_76 (by decide) h13 (by decide) rfl (fun c19 => ?_) (fun c19 => ?_)
          · refine jm_aload_n (n := 80) X 1 rfl dX10_work_79 rfl ?_
            refine jm_dup (n := 81) X dX10_work_80 rfl rfl ?_
            refine jm_get (n := 84) X 0 9 35 mW_X10 rfl (by decide) (fun w h => List.mem_cons_of_mem _ (List.mem_append_right _ h)) (List.mem_of_getElem? (i := 4) rfl) rfl dX10_work_81 rfl ?_
            refine jm_iconst (n := 85) X dX10_work_84 rfl ?_
            refine jm_iadd (n := 86) X dX10_work_85 rfl (fun h20 => ?_)
            refine jm_put (n := 89) X 0 9 35 235 mW_X10 rfl (by decide) (fun w h => List.mem_cons_of_mem _ (List.mem_append_right _ h)) tyX10 tyX10_ok nmX10 (List.mem_of_getElem? (i := 4) rfl) rfl rfl rfl rfl (Nat.le_of_ble_eq_true rfl) mS_235 k12 h20 dX10_work_86 rfl (fun σ21 k21 => ?_)
            refine jm_aload_n (n := 90) X 1 rfl dX10_work_89 rfl ?_
            refine jm_iconst (n := 91) X dX10_work_90 rfl ?_
            refine jm_callVi (n := 94) (vs := [.int (iI (4 : Int))]) (rest := []) X hA (t10_fail l k21 (by decide)) (cwV 1 X.2.2.2.2.1 gX10_work_X10_fail rfl rfl rfl (by decide +kernel) ⟨Nat.le_of_ble_eq_true rfl, Nat.le_of_ble_eq_true rfl⟩) 0 9 mW_X10 rfl rfl (Nat.le_of_ble_eq_true rfl) dX10_work_91 rfl (fun σ22 r22 k22 h23 => ?_)
            exact jm_iret X rfl k22 h23 dX10_work_94
          · refine jm_aload_n (n := 96) X 1 rfl dX10_work_95 rfl ?_
            refine jm_aload_n (n := 97) X 1 rfl dX10_work_96 rfl ?_
            refine jm_get (n := 100) X 0 9 26 mW_X10 rfl (by decide) (fun w h => List.mem_cons_of_mem _ (List.mem_append_right _ h)) (List.mem_of_getElem? (i := 5) rfl) rfl dX10_work_97 rfl ?_
            refine jm_iconst (n := 101) X dX10_work_100 rfl ?_
            refine jm_icmp_le (n := 104) (tgt := 108) X dX10_work_101 (by decide) (k12.1 226) (by decide) rfl (fun c24 => ?_) (fun c24 => ?_)
            · refine jm_aload_n (n := 109) X 1 rfl dX10_work_108 rfl ?_
              refine jm_get (n := 112) X 0 9 26 mW_X10 rfl (by decide) (fun w h => List.mem_cons_of_mem _ (List.mem_append_right _ h)) (List.mem_of_getElem? (i := 5) rfl) rfl dX10_work_109 rfl ?_
              refine jm_perm [1, 0] rfl ?_
              exact u10_work_112 X hA N σ12 r12 (gI σ12 226) k12 h13 (k12.1 226)
            · refine jm_iconst (n := 105) X dX10_work_104 rfl ?_
              refine jm_goto (n := 112) X dX10_work_105 (by decide) ?_
              refine jm_perm [1, 0] rfl ?_
              exact u10_work_112 X hA N σ12 r12 (2 : Int) k12 h13 (by decide)
    · refine jm_perm [0] rfl ?_
      exact u10_work_22 X hA N σ2  k2 
abbrev rm10_value : Room := { frames := 0, cells := 0, slots := 0, locals := 0 }
def f10_value (σ0 : Sg)  : Option (Sg × Int) :=
  nx (sI σ0 200 (0 : Int)) fun σ1 =>
  if (gI σ1 233) ≤ 0 then (some (σ1, (0 : Int)))
  else (if (2 : Int) ≤ (gI σ1 230) then (some (σ1, (0 : Int)))
  else (some (σ1, (gI σ1 231))))
set_option maxRecDepth 100000 in
theorem t10_value (l : Launch) {h : Nat → Nat} {cI cZ : ClassId} {D : va_G} {σ0 : Sg}  (k0 : ok σ0)  : ctI noE l (mW h cI cZ) D (mT cI cZ) yX10_value wsX10_value rm10_value [.ref (h 299)] σ0 (f10_value σ0 ) := by
  refine of_I noE_ok (own := RX10) (lv := [(0, .ref (h 299))]) (by decide) rfl rfl (Nat.le_of_ble_eq_true rfl) rfl (fun p e s m below meth c sz X hA => ?_)
  rw [f10_value]
  refine jm_aload_n (n := 1) X 0 rfl dX10_value_0 rfl ?_
  refine jm_iconst (n := 2) X dX10_value_1 rfl ?_
  refine jm_put (n := 5) X 0 9 0 200 mW_X10 rfl (by decide) (fun w h => List.mem_cons_of_mem _ (List.mem_append_right _ h)) tyX10 tyX10_ok nmX10 (List.mem_of_getElem? (i := 1) rfl) rfl rfl rfl rfl (Nat.le_of_ble_eq_true rfl) mS_200 k0 (by decide) dX10_value_2 rfl (fun σ1 k1 => ?_)
  refine jm_aload_n (n := 6) X 0 rfl dX10_value_5 rfl ?_
  refine jm_get (n := 9) X 0 9 33 mW_X10 rfl (by decide) (fun w h => List.mem_cons_of_mem _ (List.mem_append_right _ h)) (List.mem_of_getElem? (i := 2) rfl) rfl dX10_value_6 rfl ?_
  refine jm_if_le (n := 12) (tgt := 27) X dX10_value_9 (by decide) (k1.1 233) rfl (fun c2 => ?_) (fun c2 => ?_)
  · refine jm_iconst (n := 28) X dX10_value_27 rfl ?_
    exact jm_iret X rfl k1 (by decide) dX10_value_28
  · refine jm_aload_n (n := 13) X 0 rfl dX10_value_12 rfl ?_
    refine jm_get (n := 16) X 0 9 30 mW_X10 rfl (by decide) (fun w h => List.mem_cons_of_mem _ (List.mem_append_right _ h)) (List.mem_of_getElem? (i := 3) rfl) rfl dX10_value_13 rfl ?_
    refine jm_iconst (n := 17) X dX10_value_16 rfl ?_
    refine jm_icmp_ge (n := 20) (tgt := 27) X dX10_value_17 (by decide) (k1.1 230) (by decide) rfl (fun c3 => ?_) (fun c3 => ?_)
    · refine jm_iconst (n := 28) X dX10_value_27 rfl ?_
      exact jm_iret X rfl k1 (by decide) dX10_value_28
    · refine jm_aload_n (n := 21) X 0 rfl dX10_value_20 rfl ?_
      refine jm_get (n := 24) X 0 9 31 mW_X10 rfl (by decide) (fun w h => List.mem_cons_of_mem _ (List.mem_append_right _ h)) (List.mem_of_getElem? (i := 4) rfl) rfl dX10_value_21 rfl ?_
      refine jm_goto (n := 28) X dX10_value_24 (by decide) ?_
      exact jm_iret X rfl k1 (k1.1 231) dX10_value_28
abbrev rm10_steps : Room := { frames := 0, cells := 0, slots := 0, locals := 0 }
def f10_steps (σ0 : Sg)  : Option (Sg × Int) :=
  nx (sI σ0 200 (0 : Int)) fun σ1 =>
  some (σ1, (gI σ1 232))
set_option maxRecDepth 100000 in
theorem t10_steps (l : Launch) {h : Nat → Nat} {cI cZ : ClassId} {D : va_G} {σ0 : Sg}  (k0 : ok σ0)  : ctI noE l (mW h cI cZ) D (mT cI cZ) yX10_steps wsX10_steps rm10_steps [.ref (h 299)] σ0 (f10_steps σ0 ) := by
  refine of_I noE_ok (own := RX10) (lv := [(0, .ref (h 299))]) (by decide) rfl rfl (Nat.le_of_ble_eq_true rfl) rfl (fun p e s m below meth c sz X hA => ?_)
  rw [f10_steps]
  refine jm_aload_n (n := 1) X 0 rfl dX10_steps_0 rfl ?_
  refine jm_iconst (n := 2) X dX10_steps_1 rfl ?_
  refine jm_put (n := 5) X 0 9 0 200 mW_X10 rfl (by decide) (fun w h => List.mem_cons_of_mem _ (List.mem_append_right _ h)) tyX10 tyX10_ok nmX10 (List.mem_of_getElem? (i := 1) rfl) rfl rfl rfl rfl (Nat.le_of_ble_eq_true rfl) mS_200 k0 (by decide) dX10_steps_2 rfl (fun σ1 k1 => ?_)
  refine jm_aload_n (n := 6) X 0 rfl dX10_steps_5 rfl ?_
  refine jm_get (n := 9) X 0 9 32 mW_X10 rfl (by decide) (fun w h => List.mem_cons_of_mem _ (List.mem_append_right _ h)) (List.mem_of_getElem? (i := 2) rfl) rfl dX10_steps_6 rfl ?_
  exact jm_iret X rfl k1 (k1.1 232) dX10_steps_9
abbrev rm10_cell : Room := { frames := 0, cells := 0, slots := 0, locals := 0 }
def f10_cell (σ0 : Sg) (x1 : Int) : Option (Sg × Int) :=
  ck (inR ((1 : Int) - (gI σ0 239))) <|
  ck (inR ((640 : Int) * ((1 : Int) - (gI σ0 239)))) <|
  ck (inR (((640 : Int) * ((1 : Int) - (gI σ0 239))) + (gI σ0 240))) <|
  ck (0 ≤ (((640 : Int) * ((1 : Int) - (gI σ0 239))) + (gI σ0 240)) ∧ (((640 : Int) * ((1 : Int) - (gI σ0 239))) + (gI σ0 240)) < 1280) <| nx (sA σ0 241 (((640 : Int) * ((1 : Int) - (gI σ0 239))) + (gI σ0 240)) x1) fun σ5 =>
  ck (0 ≤ (((640 : Int) * ((1 : Int) - (gI σ0 239))) + (gI σ0 240)) ∧ (((640 : Int) * ((1 : Int) - (gI σ0 239))) + (gI σ0 240)) < 1280) <| nx (sA σ5 242 (((640 : Int) * ((1 : Int) - (gI σ0 239))) + (gI σ0 240)) (-1 : Int)) fun σ7 =>
  ck (inR ((gI σ7 240) + (1 : Int))) <|
  nx (sI σ7 240 ((gI σ7 240) + (1 : Int))) fun σ9 =>
  some (σ9, (((640 : Int) * ((1 : Int) - (gI σ0 239))) + (gI σ0 240)))
set_option maxRecDepth 100000 in
theorem t10_cell (l : Launch) {h : Nat → Nat} {cI cZ : ClassId} {D : va_G} {σ0 : Sg} {x1 : Int} (k0 : ok σ0) (hx1 : inR x1) : ctI noE l (mW h cI cZ) D (mT cI cZ) yX10_cell wsX10_cell rm10_cell [.ref (h 299), .int (iI x1)] σ0 (f10_cell σ0 x1) := by
  refine of_I noE_ok (own := RX10) (lv := [(0, .ref (h 299)), (1, .int (iI x1))]) (by decide) rfl rfl (Nat.le_of_ble_eq_true rfl) rfl (fun p e s m below meth c sz X hA => ?_)
  rw [f10_cell]
  refine jm_sipush (n := 3) X dX10_cell_0 (by decide) rfl ?_
  refine jm_iconst (n := 4) X dX10_cell_3 rfl ?_
  refine jm_aload_n (n := 5) X 0 rfl dX10_cell_4 rfl ?_
  refine jm_get (n := 8) X 0 9 39 mW_X10 rfl (by decide) (fun w h => List.mem_cons_of_mem _ (List.mem_append_right _ h)) (List.mem_of_getElem? (i := 1) rfl) rfl dX10_cell_5 rfl ?_
  refine jm_isub (n := 9) X dX10_cell_8 rfl (fun h1 => ?_)
  refine jm_imul (n := 10) X dX10_cell_9 rfl (fun h2 => ?_)
  refine jm_aload_n (n := 11) X 0 rfl dX10_cell_10 rfl ?_
  refine jm_get (n := 14) X 0 9 40 mW_X10 rfl (by decide) (fun w h => List.mem_cons_of_mem _ (List.mem_append_right _ h)) (List.mem_of_getElem? (i := 2) rfl) rfl dX10_cell_11 rfl ?_
  refine jm_iadd (n := 15) X dX10_cell_14 rfl (fun h3 => ?_)
  refine jm_istore_n (n := 16) (lv' := [(2, .int (iI (((640 : Int) * ((1 : Int) - (gI σ0 239))) + (gI σ0 240)))), (0, .ref (h 299)), (1, .int (iI x1))]) X dX10_cell_15 (by decide) rfl rfl ?_
  refine jm_aload_n (n := 17) X 1 rfl dX10_cell_16 rfl ?_
  refine jm_get (n := 20) X 0 9 41 mW_X10 rfl (by decide) (fun w h => List.mem_cons_of_mem _ (List.mem_append_right _ h)) (List.mem_of_getElem? (i := 3) rfl) rfl dX10_cell_17 rfl ?_
  refine jm_iload_n (n := 21) X 0 rfl dX10_cell_20 rfl ?_
  refine jm_iload_n (n := 22) X 2 rfl dX10_cell_21 rfl ?_
  refine jm_ast (n := 23) X 20 0 241 mA_241 rfl rfl mT_241 k0 h3 hx1 dX10_cell_22 rfl (fun h4 σ5 k5 => ?_)
  refine jm_aload_n (n := 24) X 1 rfl dX10_cell_23 rfl ?_
  refine jm_get (n := 27) X 0 9 42 mW_X10 rfl (by decide) (fun w h => List.mem_cons_of_mem _ (List.mem_append_right _ h)) (List.mem_of_getElem? (i := 4) rfl) rfl dX10_cell_24 rfl ?_
  refine jm_iload_n (n := 28) X 0 rfl dX10_cell_27 rfl ?_
  refine jm_iconst (n := 29) X dX10_cell_28 rfl ?_
  refine jm_ast (n := 30) X 21 0 242 mA_242 rfl rfl mT_242 k5 h3 (by decide) dX10_cell_29 rfl (fun h6 σ7 k7 => ?_)
  refine jm_aload_n (n := 31) X 1 rfl dX10_cell_30 rfl ?_
  refine jm_dup (n := 32) X dX10_cell_31 rfl rfl ?_
  refine jm_get (n := 35) X 0 9 40 mW_X10 rfl (by decide) (fun w h => List.mem_cons_of_mem _ (List.mem_append_right _ h)) (List.mem_of_getElem? (i := 2) rfl) rfl dX10_cell_32 rfl ?_
  refine jm_iconst (n := 36) X dX10_cell_35 rfl ?_
  refine jm_iadd (n := 37) X dX10_cell_36 rfl (fun h8 => ?_)
  refine jm_put (n := 40) X 0 9 40 240 mW_X10 rfl (by decide) (fun w h => List.mem_cons_of_mem _ (List.mem_append_right _ h)) tyX10 tyX10_ok nmX10 (List.mem_of_getElem? (i := 2) rfl) rfl rfl rfl rfl (Nat.le_of_ble_eq_true rfl) mS_240 k7 h8 dX10_cell_37 rfl (fun σ9 k9 => ?_)
  refine jm_iload_n (n := 41) X 0 rfl dX10_cell_40 rfl ?_
  exact jm_iret X rfl k9 h3 dX10_cell_41
abbrev rm10_letterCell : Room := { frames := 1, cells := 0, slots := 0, locals := 22 }
def f10_letterCell (σ0 : Sg)  : Option (Sg × Int) :=
  bd (f10_cell σ0 (3 : Int)) fun σ1 r1 =>
  some (σ1, r1)
set_option maxRecDepth 100000 in
theorem t10_letterCell (l : Launch) {h : Nat → Nat} {cI cZ : ClassId} {D : va_G} {σ0 : Sg}  (k0 : ok σ0)  : ctI noE l (mW h cI cZ) D (mT cI cZ) yX10_letterCell wsX10_letterCell rm10_letterCell [.ref (h 299)] σ0 (f10_letterCell σ0 ) := by
  refine of_I noE_ok (own := RX10) (lv := [(0, .ref (h 299))]) (by decide) rfl rfl (Nat.le_of_ble_eq_true rfl) rfl (fun p e s m below meth c sz X hA => ?_)
  rw [f10_letterCell]
  refine jm_aload_n (n := 1) X 0 rfl dX10_letterCell_0 rfl ?_
  refine jm_iconst (n := 2) X dX10_letterCell_1 rfl ?_
  refine jm_callVi (n := 5) (vs := [.int (iI (3 : Int))]) (rest := []) X hA (t10_cell l k0 (by decide)) (cwV 1 X.2.2.2.2.1 gX10_letterCell_X10_cell rfl rfl rfl (by decide +kernel) ⟨Nat.le_of_ble_eq_true rfl, Nat.le_of_ble_eq_true rfl⟩) 0 9 mW_X10 rfl rfl (Nat.le_of_ble_eq_true rfl) dX10_letterCell_2 rfl (fun σ1 r1 k1 h2 => ?_)
  exact jm_iret X rfl k1 h2 dX10_letterCell_5
end
