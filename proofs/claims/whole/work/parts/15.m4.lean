section
variable {p : Program} {l : Launch} {e : Env} {s : State} {m : MethodId} {args : Array Value} {below : List Frame} {meth : Method} {c : Code} {h : Nat → Nat} {cI cZ : ClassId} {D : va_G} {σz : Sg} {sz : Nat} {t1 t2 : Nat}
abbrev rm10_solveTwo : Room := { frames := 3, cells := 0, slots := 0, locals := 75 }
def b10_solveTwo_236 (N : Nat) (σ0 : Sg) (x2 : Int) (x3 : Int) (x5 : Int) (x6 : Int) (x7 : Int) (y1 : Int) (y3 : Int) : Option (Sg × Int) :=
  bd (f10_cell σ0 y3) fun σ1 r1 =>
  bd (f10_equal N σ1 y1 r1) fun σ3 r3 =>
  ck (0 ≤ x2 ∧ x2 < 60) <|
  bd (f10_cell σ3 (0 : Int)) fun σ6 r6 =>
  bd (f10_goal σ6 (gA σ3 203 x2) x3 r6 x7 x6) fun σ8 r8 =>
  ck (0 ≤ x2 ∧ x2 < 60) <|
  bd (f10_cell σ8 (0 : Int)) fun σ11 r11 =>
  bd (f10_goal σ11 (gA σ8 204 x2) x3 r11 x5 x7) fun σ13 r13 =>
  some (σ13, 0)
set_option maxRecDepth 100000 in
theorem u10_solveTwo_236 (X : CX p m meth c cX10_solveTwo 10 none s args wsX10_solveTwo RX10 D (mT cI cZ) noE (va_A (mW h cI cZ σz) sz)) (hA : ∀ z : Nat, s.heap.size ≤ z → va_A (mW h cI cZ σz) sz z) (N : Nat) (σ0 : Sg) (x2 : Int) (x3 : Int) (x5 : Int) (x6 : Int) (x7 : Int) (y1 : Int) (y3 : Int) (k0 : ok σ0) (hx2 : inR x2) (hx3 : inR x3) (hx5 : inR x5) (hx6 : inR x6) (hx7 : inR x7) (hy1 : inR y1) (hy3 : inR y3) : JV l rm10_solveTwo (mW h cI cZ) D (mT cI cZ) σz sz 10 p e s m args below meth c σ0 236 [(0, .ref (h 299)), (2, .int (iI x2)), (3, .int (iI x3)), (5, .int (iI x5)), (6, .int (iI x6)), (7, .int (iI x7))] [.int (iI y3), .ref (h 299), .int (iI y1), .ref (h 299)] (b10_solveTwo_236 N σ0 x2 x3 x5 x6 x7 y1 y3) := by
  rw [b10_solveTwo_236]
  refine jm_callVi (n := 239) (vs := [.int (iI y3)]) (rest := [.int (iI y1), .ref (h 299)]) X hA (t10_cell l k0 hy3) (cwV 1 X.2.2.2.2.1 gX10_solveTwo_X10_cell rfl rfl rfl (by decide +kernel) ⟨Nat.le_of_ble_eq_true rfl, Nat.le_of_ble_eq_true rfl⟩) 0 9 mW_X10 rfl rfl (Nat.le_of_ble_eq_true rfl) dX10_solveTwo_236 rfl (fun σ1 r1 k1 h2 => ?_)
  refine jm_callVv (n := 242) (vs := [.int (iI y1), .int (iI r1)]) (rest := []) X hA (t10_equal l N k1 hy1 h2) (cwV 2 X.2.2.2.2.1 gX10_solveTwo_X10_equal rfl rfl rfl (by decide +kernel) ⟨Nat.le_of_ble_eq_true rfl, Nat.le_of_ble_eq_true rfl⟩) 0 9 mW_X10 rfl rfl (Nat.le_of_ble_eq_true rfl) dX10_solveTwo_239 rfl (fun σ3 r3 k3 => ?_)
  refine jm_aload_n (n := 243) X 0 rfl dX10_solveTwo_242 rfl ?_
  refine jm_aload_n (n := 244) X 0 rfl dX10_solveTwo_243 rfl ?_
  refine jm_get (n := 247) X 0 9 3 mW_X10 rfl (by decide) (fun w h => List.mem_cons_of_mem _ (List.mem_append_right _ h)) (List.mem_of_getElem? (i := 5) rfl) rfl dX10_solveTwo_244 rfl ?_
  refine jm_iload_n (n := 248) X 1 rfl dX10_solveTwo_247 rfl ?_
  refine jm_ald (n := 249) X 2 0 203 mA_203 rfl rfl hx2 dX10_solveTwo_248 rfl (fun h5 => ?_)
  refine jm_iload_n (n := 250) X 2 rfl dX10_solveTwo_249 rfl ?_
  refine jm_aload_n (n := 251) X 0 rfl dX10_solveTwo_250 rfl ?_
  refine jm_iconst (n := 252) X dX10_solveTwo_251 rfl ?_
  refine jm_callVi (n := 255) (vs := [.int (iI (0 : Int))]) (rest := [.int (iI x3), .int (iI (gA σ3 203 x2)), .ref (h 299)]) X hA (t10_cell l k3 (by decide)) (cwV 1 X.2.2.2.2.1 gX10_solveTwo_X10_cell rfl rfl rfl (by decide +kernel) ⟨Nat.le_of_ble_eq_true rfl, Nat.le_of_ble_eq_true rfl⟩) 0 9 mW_X10 rfl rfl (Nat.le_of_ble_eq_true rfl) dX10_solveTwo_252 rfl (fun σ6 r6 k6 h7 => ?_)
  refine jm_iload (n := 257) X 5 rfl dX10_solveTwo_255 rfl ?_
  refine jm_iload (n := 259) X 4 rfl dX10_solveTwo_257 rfl ?_
  refine jm_callVv (n := 262) (vs := [.int (iI (gA σ3 203 x2)), .int (iI x3), .int (iI r6), .int (iI x7), .int (iI x6)]) (rest := []) X hA (t10_goal l k6 (k3.2 203 _) hx3 h7 hx7 hx6) (cwV 5 X.2.2.2.2.1 gX10_solveTwo_X10_goal rfl rfl rfl (by decide +kernel) ⟨Nat.le_of_ble_eq_true rfl, Nat.le_of_ble_eq_true rfl⟩) 0 9 mW_X10 rfl rfl (Nat.le_of_ble_eq_true rfl) dX10_solveTwo_259 rfl (fun σ8 r8 k8 => ?_)
  refine jm_aload_n (n := 263) X 0 rfl dX10_solveTwo_262 rfl ?_
  refine jm_aload_n (n := 264) X 0 rfl dX10_solveTwo_263 rfl ?_
  refine jm_get (n := 267) X 0 9 4 mW_X10 rfl (by decide) (fun w h => List.mem_cons_of_mem _ (List.mem_append_right _ h)) (List.mem_of_getElem? (i := 6) rfl) rfl dX10_solveTwo_264 rfl ?_
  refine jm_iload_n (n := 268) X 1 rfl dX10_solveTwo_267 rfl ?_
  refine jm_ald (n := 269) X 3 0 204 mA_204 rfl rfl hx2 dX10_solveTwo_268 rfl (fun h10 => ?_)
  refine jm_iload_n (n := 270) X 2 rfl dX10_solveTwo_269 rfl ?_
  refine jm_aload_n (n := 271) X 0 rfl dX10_solveTwo_270 rfl ?_
  refine jm_iconst (n := 272) X dX10_solveTwo_271 rfl ?_
  refine jm_callVi (n := 275) (vs := [.int (iI (0 : Int))]) (rest := [.int (iI x3), .int (iI (gA σ8 204 x2)), .ref (h 299)]) X hA (t10_cell l k8 (by decide)) (cwV 1 X.2.2.2.2.1 gX10_solveTwo_X10_cell rfl rfl rfl (by decide +kernel) ⟨Nat.le_of_ble_eq_true rfl, Nat.le_of_ble_eq_true rfl⟩) 0 9 mW_X10 rfl rfl (Nat.le_of_ble_eq_true rfl) dX10_solveTwo_272 rfl (fun σ11 r11 k11 h12 => ?_)
  refine jm_iload (n := 277) X 3 rfl dX10_solveTwo_275 rfl ?_
  refine jm_iload (n := 279) X 5 rfl dX10_solveTwo_277 rfl ?_
  refine jm_callVv (n := 282) (vs := [.int (iI (gA σ8 204 x2)), .int (iI x3), .int (iI r11), .int (iI x5), .int (iI x7)]) (rest := []) X hA (t10_goal l k11 (k8.2 204 _) hx3 h12 hx5 hx7) (cwV 5 X.2.2.2.2.1 gX10_solveTwo_X10_goal rfl rfl rfl (by decide +kernel) ⟨Nat.le_of_ble_eq_true rfl, Nat.le_of_ble_eq_true rfl⟩) 0 9 mW_X10 rfl rfl (Nat.le_of_ble_eq_true rfl) dX10_solveTwo_279 rfl (fun σ13 r13 k13 => ?_)
  exact jm_vret X rfl k13 dX10_solveTwo_282
def f10_solveTwo (N : Nat) (σ0 : Sg) (x1 : Int) (x2 : Int) (x3 : Int) : Option (Sg × Int) :=
  ck (0 ≤ (gI σ0 250) ∧ (gI σ0 250) < 130) <|
  ck (0 ≤ (gI σ0 250) ∧ (gI σ0 250) < 130) <|
  ck (0 ≤ (gI σ0 250) ∧ (gI σ0 250) < 130) <|
  bd (f10_letterCell σ0 ) fun σ4 r4 =>
  if x1 = (4 : Int) then (bd (f10_letterCell σ4 ) fun σ7 r7 =>
  bd (f10_letterCell σ7 ) fun σ9 r9 =>
  ck (0 ≤ x2 ∧ x2 < 60) <|
  bd (f10_functionCell σ9 r7 (gA σ0 254 (gI σ0 250)) (gA σ0 253 (gI σ0 250)) r9) fun σ12 r12 =>
  bd (f10_goal σ12 (gA σ9 203 x2) x3 r12 r4 (gA σ0 255 (gI σ0 250))) fun σ14 r14 =>
  ck (0 ≤ x2 ∧ x2 < 60) <|
  bd (f10_goal σ14 (gA σ14 204 x2) x3 r7 r9 r4) fun σ17 r17 =>
  some (σ17, 0))
  else (if x1 = (8 : Int) then (bd (f10_letterCell σ4 ) fun σ20 r20 =>
  ck (0 ≤ x2 ∧ x2 < 60) <|
  bd (f10_goal σ20 (gA σ20 203 x2) x3 r20 r4 (gA σ0 255 (gI σ0 250))) fun σ23 r23 =>
  ck (0 ≤ x2 ∧ x2 < 60) <|
  bd (f10_place σ23 r20 (-1 : Int) x3) fun σ26 r26 =>
  bd (f10_goal σ26 (gA σ23 204 x2) r26 (gA σ0 253 (gI σ0 250)) (gA σ0 254 (gI σ0 250)) r4) fun σ28 r28 =>
  some (σ28, 0))
  else (if x1 = (7 : Int) then (ck (0 ≤ x2 ∧ x2 < 60) <|
  bd (f10_cell σ4 (1 : Int)) fun σ32 r32 =>
  bd (f10_goal σ32 (gA σ4 203 x2) x3 r32 r4 (gA σ0 255 (gI σ0 250))) fun σ34 r34 =>
  ck (0 ≤ x2 ∧ x2 < 60) <|
  bd (f10_goal σ34 (gA σ34 204 x2) x3 (gA σ0 253 (gI σ0 250)) (gA σ0 254 (gI σ0 250)) r4) fun σ37 r37 =>
  ck (0 ≤ x2 ∧ x2 < 60) <|
  bd (f10_goal σ37 (gA σ37 205 x2) x3 (gA σ0 253 (gI σ0 250)) (gA σ0 254 (gI σ0 250)) r4) fun σ40 r40 =>
  some (σ40, 0))
  else (if x1 = (5 : Int) then ((b10_solveTwo_236 N σ4 x2 x3 (gA σ0 254 (gI σ0 250)) (gA σ0 255 (gI σ0 250)) r4 (gA σ0 253 (gI σ0 250)) (0 : Int)))
  else ((b10_solveTwo_236 N σ4 x2 x3 (gA σ0 254 (gI σ0 250)) (gA σ0 255 (gI σ0 250)) r4 (gA σ0 253 (gI σ0 250)) (1 : Int))))))
set_option maxRecDepth 100000 in
theorem t10_solveTwo (l : Launch) {h : Nat → Nat} {cI cZ : ClassId} {D : va_G} (N : Nat) {σ0 : Sg} {x1 : Int} {x2 : Int} {x3 : Int} (k0 : ok σ0) (hx1 : inR x1) (hx2 : inR x2) (hx3 : inR x3) : ctV noE l (mW h cI cZ) D (mT cI cZ) yX10_solveTwo wsX10_solveTwo rm10_solveTwo [.ref (h 299), .int (iI x1), .int (iI x2), .int (iI x3)] σ0 (f10_solveTwo N σ0 x1 x2 x3) := by
  refine of_V noE_ok (own := RX10) (lv := [(0, .ref (h 299)), (1, .int (iI x1)), (2, .int (iI x2)), (3, .int (iI x3))]) (by decide) rfl rfl (Nat.le_of_ble_eq_true rfl) rfl (fun p e s m below meth c sz X hA => ?_)
  rw [f10_solveTwo]
  refine jm_aload_n (n := 1) X 0 rfl dX10_solveTwo_0 rfl ?_
  refine jm_get (n := 4) X 0 9 53 mW_X10 rfl (by decide) (fun w h => List.mem_cons_of_mem _ (List.mem_append_right _ h)) (List.mem_of_getElem? (i := 1) rfl) rfl dX10_solveTwo_1 rfl ?_
  refine jm_aload_n (n := 5) X 0 rfl dX10_solveTwo_4 rfl ?_
  refine jm_get (n := 8) X 0 9 50 mW_X10 rfl (by decide) (fun w h => List.mem_cons_of_mem _ (List.mem_append_right _ h)) (List.mem_of_getElem? (i := 2) rfl) rfl dX10_solveTwo_5 rfl ?_
  refine jm_ald (n := 9) X 29 0 253 mA_253 rfl rfl (k0.1 250) dX10_solveTwo_8 rfl (fun h1 => ?_)
  refine jm_istore (n := 11) (lv' := [(4, .int (iI (gA σ0 253 (gI σ0 250)))), (0, .ref (h 299)), (1, .int (iI x1)), (2, .int (iI x2)), (3, .int (iI x3))]) X dX10_solveTwo_9 (by decide) rfl rfl ?_
  refine jm_aload_n (n := 12) X 1 rfl dX10_solveTwo_11 rfl ?_
  refine jm_get (n := 15) X 0 9 54 mW_X10 rfl (by decide) (fun w h => List.mem_cons_of_mem _ (List.mem_append_right _ h)) (List.mem_of_getElem? (i := 3) rfl) rfl dX10_solveTwo_12 rfl ?_
  refine jm_aload_n (n := 16) X 1 rfl dX10_solveTwo_15 rfl ?_
  refine jm_get (n := 19) X 0 9 50 mW_X10 rfl (by decide) (fun w h => List.mem_cons_of_mem _ (List.mem_append_right _ h)) (List.mem_of_getElem? (i := 2) rfl) rfl dX10_solveTwo_16 rfl ?_
  refine jm_ald (n := 20) X 30 0 254 mA_254 rfl rfl (k0.1 250) dX10_solveTwo_19 rfl (fun h2 => ?_)
  refine jm_istore (n := 22) (lv' := [(5, .int (iI (gA σ0 254 (gI σ0 250)))), (4, .int (iI (gA σ0 253 (gI σ0 250)))), (0, .ref (h 299)), (1, .int (iI x1)), (2, .int (iI x2)), (3, .int (iI x3))]) X dX10_solveTwo_20 (by decide) rfl rfl ?_
  refine jm_aload_n (n := 23) X 2 rfl dX10_solveTwo_22 rfl ?_
  refine jm_get (n := 26) X 0 9 55 mW_X10 rfl (by decide) (fun w h => List.mem_cons_of_mem _ (List.mem_append_right _ h)) (List.mem_of_getElem? (i := 4) rfl) rfl dX10_solveTwo_23 rfl ?_
  refine jm_aload_n (n := 27) X 2 rfl dX10_solveTwo_26 rfl ?_
  refine jm_get (n := 30) X 0 9 50 mW_X10 rfl (by decide) (fun w h => List.mem_cons_of_mem _ (List.mem_append_right _ h)) (List.mem_of_getElem? (i := 2) rfl) rfl dX10_solveTwo_27 rfl ?_
  refine jm_ald (n := 31) X 31 0 255 mA_255 rfl rfl (k0.1 250) dX10_solveTwo_30 rfl (fun h3 => ?_)
  refine jm_istore (n := 33) (lv' := [(6, .int (iI (gA σ0 255 (gI σ0 250)))), (5, .int (iI (gA σ0 254 (gI σ0 250)))), (4, .int (iI (gA σ0 253 (gI σ0 250)))), (0, .ref (h 299)), (1, .int (iI x1)), (2, .int (iI x2)), (3, .int (iI x3))]) X dX10_solveTwo_31 (by decide) rfl rfl ?_
  refine jm_aload_n (n := 34) X 3 rfl dX10_solveTwo_33 rfl ?_
  refine jm_callVi (n := 37) (vs := []) (rest := []) X hA (t10_letterCell l k0 ) (cwV 0 X.2.2.2.2.1 gX10_solveTwo_X10_letterCell rfl rfl rfl (by decide +kernel) ⟨Nat.le_of_ble_eq_true rfl, Nat.le_of_ble_eq_true rfl⟩) 0 9 mW_X10 rfl rfl (Nat.le_of_ble_eq_true rfl) dX10_solveTwo_34 rfl (fun σ4 r4 k4 h5 => ?_)
  refine jm_istore (n := 39) (lv' := [(7, .int (iI r4)), (6, .int (iI (gA σ0 255 (gI σ0 250)))), (5, .int (iI (gA σ0 254 (gI σ0 250)))), (4, .int (iI (gA σ0 253 (gI σ0 250)))), (0, .ref (h 299)), (1, .int (iI x1)), (2, .int (iI x2)), (3, .int (iI x3))]) X dX10_solveTwo_37 (by decide) rfl rfl ?_
  refine jm_iload_n (n := 40) X 5 rfl dX10_solveTwo_39 rfl ?_
  refine jm_iconst (n := 41) X dX10_solveTwo_40 rfl ?_
  refine jm_icmp_ne (n := 44) (tgt := 103) X dX10_solveTwo_41 (by decide) hx1 (by decide) rfl (fun c6 => ?_) (fun c6 => ?_)
  · refine jm_aload_n (n := 45) X 4 rfl dX10_solveTwo_44 rfl ?_
    refine jm_callVi (n := 48) (vs := []) (rest := []) X hA (t10_letterCell l k4 ) (cwV 0 X.2.2.2.2.1 gX10_solveTwo_X10_letterCell rfl rfl rfl (by decide +kernel) ⟨Nat.le_of_ble_eq_true rfl, Nat.le_of_ble_eq_true rfl⟩) 0 9 mW_X10 rfl rfl (Nat.le_of_ble_eq_true rfl) dX10_solveTwo_45 rfl (fun σ7 r7 k7 h8 => ?_)
    refine jm_istore (n := 50) (lv' := [(8, .int (iI r7)), (7, .int (iI r4)), (6, .int (iI (gA σ0 255 (gI σ0 250)))), (5, .int (iI (gA σ0 254 (gI σ0 250)))), (4, .int (iI (gA σ0 253 (gI σ0 250)))), (0, .ref (h 299)), (1, .int (iI x1)), (2, .int (iI x2)), (3, .int (iI x3))]) X dX10_solveTwo_48 (by decide) rfl rfl ?_
    refine jm_aload_n (n := 51) X 5 rfl dX10_solveTwo_50 rfl ?_
    refine jm_callVi (n := 54) (vs := []) (rest := []) X hA (t10_letterCell l k7 ) (cwV 0 X.2.2.2.2.1 gX10_solveTwo_X10_letterCell rfl rfl rfl (by decide +kernel) ⟨Nat.le_of_ble_eq_true rfl, Nat.le_of_ble_eq_true rfl⟩) 0 9 mW_X10 rfl rfl (Nat.le_of_ble_eq_true rfl) dX10_solveTwo_51 rfl (fun σ9 r9 k9 h10 => ?_)
    refine jm_istore (n := 56) (lv' := [(9, .int (iI r9)), (8, .int (iI r7)), (7, .int (iI r4)), (6, .int (iI (gA σ0 255 (gI σ0 250)))), (5, .int (iI (gA σ0 254 (gI σ0 250)))), (4, .int (iI (gA σ0 253 (gI σ0 250)))), (0, .ref (h 299)), (1, .int (iI x1)), (2, .int (iI x2)), (3, .int (iI x3))]) X dX10_solveTwo_54 (by decide) rfl rfl ?_
    refine jm_aload_n (n := 57) X 6 rfl dX10_solveTwo_56 rfl ?_
    refine jm_aload_n (n := 58) X 6 rfl dX10_solveTwo_57 rfl ?_
    refine jm_get (n := 61) X 0 9 3 mW_X10 rfl (by decide) (fun w h => List.mem_cons_of_mem _ (List.mem_append_right _ h)) (List.mem_of_getElem? (i := 5) rfl) rfl dX10_solveTwo_58 rfl ?_
    refine jm_iload_n (n := 62) X 8 rfl dX10_solveTwo_61 rfl ?_
    refine jm_ald (n := 63) X 2 0 203 mA_203 rfl rfl hx2 dX10_solveTwo_62 rfl (fun h11 => ?_)
    refine jm_iload_n (n := 64) X 9 rfl dX10_solveTwo_63 rfl ?_
    refine jm_aload_n (n := 65) X 6 rfl dX10_solveTwo_64 rfl ?_
    refine jm_iload (n := 67) X 1 rfl dX10_solveTwo_65 rfl ?_
    refine jm_iload (n := 69) X 4 rfl dX10_solveTwo_67 rfl ?_
    refine jm_iload (n := 71) X 5 rfl dX10_solveTwo_69 rfl ?_
    refine jm_iload (n := 73) X 0 rfl dX10_solveTwo_71 rfl ?_
    refine jm_callVi (n := 76) (vs := [.int (iI r7), .int (iI (gA σ0 254 (gI σ0 250))), .int (iI (gA σ0 253 (gI σ0 250))), .int (iI r9)]) (rest := [.int (iI x3), .int (iI (gA σ9 203 x2)), .ref (h 299)]) X hA (t10_functionCell l k9 h8 (k0.2 254 _) (k0.2 253 _) h10) (cwV 4 X.2.2.2.2.1 gX10_solveTwo_X10_functionCell rfl rfl rfl (by decide +kernel) ⟨Nat.le_of_ble_eq_true rfl, Nat.le_of_ble_eq_true rfl⟩) 0 9 mW_X10 rfl rfl (Nat.le_of_ble_eq_true rfl) dX10_solveTwo_73 rfl (fun σ12 r12 k12 h13 => ?_)
    refine jm_iload (n := 78) X 2 rfl dX10_solveTwo_76 rfl ?_
    refine jm_iload (n := 80) X 3 rfl dX10_solveTwo_78 rfl ?_
    refine jm_callVv (n := 83) (vs := [.int (iI (gA σ9 203 x2)), .int (iI x3), .int (iI r12), .int (iI r4), .int (iI (gA σ0 255 (gI σ0 250)))]) (rest := []) X hA (t10_goal l k12 (k9.2 203 _) hx3 h13 h5 (k0.2 255 _)) (cwV 5 X.2.2.2.2.1 gX10_solveTwo_X10_goal rfl rfl rfl (by decide +kernel) ⟨Nat.le_of_ble_eq_true rfl, Nat.le_of_ble_eq_true rfl⟩) 0 9 mW_X10 rfl rfl (Nat.le_of_ble_eq_true rfl) dX10_solveTwo_80 rfl (fun σ14 r14 k14 => ?_)
    refine jm_aload_n (n := 84) X 6 rfl dX10_solveTwo_83 rfl ?_
    refine jm_aload_n (n := 85) X 6 rfl dX10_solveTwo_84 rfl ?_
    refine jm_get (n := 88) X 0 9 4 mW_X10 rfl (by decide) (fun w h => List.mem_cons_of_mem _ (List.mem_append_right _ h)) (List.mem_of_getElem? (i := 6) rfl) rfl dX10_solveTwo_85 rfl ?_
    refine jm_iload_n (n := 89) X 8 rfl dX10_solveTwo_88 rfl ?_
    refine jm_ald (n := 90) X 3 0 204 mA_204 rfl rfl hx2 dX10_solveTwo_89 rfl (fun h16 => ?_)
    refine jm_iload_n (n := 91) X 9 rfl dX10_solveTwo_90 rfl ?_
    refine jm_iload (n := 93) X 1 rfl dX10_solveTwo_91 rfl ?_
    refine jm_iload (n := 95) X 0 rfl dX10_solveTwo_93 rfl ?_
    refine jm_iload (n := 97) X 2 rfl dX10_solveTwo_95 rfl ?_
    refine jm_callVv (n := 100) (vs := [.int (iI (gA σ14 204 x2)), .int (iI x3), .int (iI r7), .int (iI r9), .int (iI r4)]) (rest := []) X hA (t10_goal l k14 (k14.2 204 _) hx3 h8 h10 h5) (cwV 5 X.2.2.2.2.1 gX10_solveTwo_X10_goal rfl rfl rfl (by decide +kernel) ⟨Nat.le_of_ble_eq_true rfl, Nat.le_of_ble_eq_true rfl⟩) 0 9 mW_X10 rfl rfl (Nat.le_of_ble_eq_true rfl) dX10_solveTwo_97 rfl (fun σ17 r17 k17 => ?_)
    refine jm_goto (n := 282) X dX10_solveTwo_100 (by decide) ?_
    exact jm_vret X rfl k17 dX10_solveTwo_282
  · refine jm_iload_n (n := 104) X 5 rfl dX10_solveTwo_103 rfl ?_
    refine jm_bipush (n := 106) X dX10_solveTwo_104 (by decide) rfl ?_
    refine jm_icmp_ne (n := 109) (tgt := 159) X dX10_solveTwo_106 (by decide) hx1 (by decide) rfl (fun c19 => ?_) (fun c19 => ?_)
    · refine jm_aload_n (n := 110) X 4 rfl dX10_solveTwo_109 rfl ?_
      refine jm_callVi (n := 113) (vs := []) (rest := []) X hA (t10_letterCell l k4 ) (cwV 0 X.2.2.2.2.1 gX10_solveTwo_X10_letterCell rfl rfl rfl (by decide +kernel) ⟨Nat.le_of_ble_eq_true rfl, Nat.le_of_ble_eq_true rfl⟩) 0 9 mW_X10 rfl rfl (Nat.le_of_ble_eq_true rfl) dX10_solveTwo_110 rfl (fun σ20 r20 k20 h21 => ?_)
      refine jm_istore (n := 115) (lv' := [(8, .int (iI r20)), (7, .int (iI r4)), (6, .int (iI (gA σ0 255 (gI σ0 250)))), (5, .int (iI (gA σ0 254 (gI σ0 250)))), (4, .int (iI (gA σ0 253 (gI σ0 250)))), (0, .ref (h 299)), (1, .int (iI x1)), (2, .int (iI x2)), (3, .int (iI x3))]) X dX10_solveTwo_113 (by decide) rfl rfl ?_
      refine jm_aload_n (n := 116) X 5 rfl dX10_solveTwo_115 rfl ?_
      refine jm_aload_n (n := 117) X 5 rfl dX10_solveTwo_116 rfl ?_
      refine jm_get (n := 120) X 0 9 3 mW_X10 rfl (by decide) (fun w h => List.mem_cons_of_mem _ (List.mem_append_right _ h)) (List.mem_of_getElem? (i := 5) rfl) rfl dX10_solveTwo_117 rfl ?_
      refine jm_iload_n (n := 121) X 7 rfl dX10_solveTwo_120 rfl ?_
      refine jm_ald (n := 122) X 2 0 203 mA_203 rfl rfl hx2 dX10_solveTwo_121 rfl (fun h22 => ?_)
      refine jm_iload_n (n := 123) X 8 rfl dX10_solveTwo_122 rfl ?_
      refine jm_iload (n := 125) X 0 rfl dX10_solveTwo_123 rfl ?_
      refine jm_iload (n := 127) X 1 rfl dX10_solveTwo_125 rfl ?_
      refine jm_iload (n := 129) X 2 rfl dX10_solveTwo_127 rfl ?_
      refine jm_callVv (n := 132) (vs := [.int (iI (gA σ20 203 x2)), .int (iI x3), .int (iI r20), .int (iI r4), .int (iI (gA σ0 255 (gI σ0 250)))]) (rest := []) X hA (t10_goal l k20 (k20.2 203 _) hx3 h21 h5 (k0.2 255 _)) (cwV 5 X.2.2.2.2.1 gX10_solveTwo_X10_goal rfl rfl rfl (by decide +kernel) ⟨Nat.le_of_ble_eq_true rfl, Nat.le_of_ble_eq_true rfl⟩) 0 9 mW_X10 rfl rfl (Nat.le_of_ble_eq_true rfl) dX10_solveTwo_129 rfl (fun σ23 r23 k23 => ?_)
      refine jm_aload_n (n := 133) X 5 rfl dX10_solveTwo_132 rfl ?_
      refine jm_aload_n (n := 134) X 5 rfl dX10_solveTwo_133 rfl ?_
      refine jm_get (n := 137) X 0 9 4 mW_X10 rfl (by decide) (fun w h => List.mem_cons_of_mem _ (List.mem_append_right _ h)) (List.mem_of_getElem? (i := 6) rfl) rfl dX10_solveTwo_134 rfl ?_
      refine jm_iload_n (n := 138) X 7 rfl dX10_solveTwo_137 rfl ?_
      refine jm_ald (n := 139) X 3 0 204 mA_204 rfl rfl hx2 dX10_solveTwo_138 rfl (fun h25 => ?_)
      refine jm_aload_n (n := 140) X 5 rfl dX10_solveTwo_139 rfl ?_
      refine jm_iload (n := 142) X 0 rfl dX10_solveTwo_140 rfl ?_
      refine jm_iconst (n := 143) X dX10_solveTwo_142 rfl ?_
      refine jm_iload_n (n := 144) X 8 rfl dX10_solveTwo_143 rfl ?_
      refine jm_callVi (n := 147) (vs := [.int (iI r20), .int (iI (-1 : Int)), .int (iI x3)]) (rest := [.int (iI (gA σ23 204 x2)), .ref (h 299)]) X hA (t10_place l k23 h21 (by decide) hx3) (cwV 3 X.2.2.2.2.1 gX10_solveTwo_X10_place rfl rfl rfl (by decide +kernel) ⟨Nat.le_of_ble_eq_true rfl, Nat.le_of_ble_eq_true rfl⟩) 0 9 mW_X10 rfl rfl (Nat.le_of_ble_eq_true rfl) dX10_solveTwo_144 rfl (fun σ26 r26 k26 h27 => ?_)
      refine jm_iload (n := 149) X 4 rfl dX10_solveTwo_147 rfl ?_
      refine jm_iload (n := 151) X 3 rfl dX10_solveTwo_149 rfl ?_
      refine jm_iload (n := 153) X 1 rfl dX10_solveTwo_151 rfl ?_
      refine jm_callVv (n := 156) (vs := [.int (iI (gA σ23 204 x2)), .int (iI r26), .int (iI (gA σ0 253 (gI σ0 250))), .int (iI (gA σ0 254 (gI σ0 250))), .int (iI r4)]) (rest := []) X hA (t10_goal l k26 (k23.2 204 _) h27 (k0.2 253 _) (k0.2 254 _) h5) (cwV 5 X.2.2.2.2.1 gX10_solveTwo_X10_goal rfl rfl rfl (by decide +kernel) ⟨Nat.le_of_ble_eq_true rfl, Nat.le_of_ble_eq_true rfl⟩) 0 9 mW_X10 rfl rfl (Nat.le_of_ble_eq_true rfl) dX10_solveTwo_153 rfl (fun σ28 r28 k28 => ?_)
      refine jm_goto (n := 282) X dX10_solveTwo_156 (by decide) ?_
      exact jm_vret X rfl k28 dX10_solveTwo_282
    · refine jm_iload_n (n := 160) X 5 rfl dX10_solveTwo_159 rfl ?_
      refine jm_bipush (n := 162) X dX10_solveTwo_160 (by decide) rfl ?_
      refine jm_icmp_ne (n := 165) (tgt := 222) X dX10_solveTwo_162 (by decide) hx1 (by decide) rfl (fun c30 => ?_) (fun c30 => ?_)
      · refine jm_aload_n (n := 166) X 4 rfl dX10_solveTwo_165 rfl ?_
        refine jm_aload_n (n := 167) X 4 rfl dX10_solveTwo_166 rfl ?_
        refine jm_get (n := 170) X 0 9 3 mW_X10 rfl (by decide) (fun w h => List.mem_cons_of_mem _ (List.mem_append_right _ h)) (List.mem_of_getElem? (i := 5) rfl) rfl dX10_solveTwo_167 rfl ?_
        refine jm_iload_n (n := 171) X 6 rfl dX10_solveTwo_170 rfl ?_
        refine jm_ald (n := 172) X 2 0 203 mA_203 rfl rfl hx2 dX10_solveTwo_171 rfl (fun h31 => ?_)
        refine jm_iload_n (n := 173) X 7 rfl dX10_solveTwo_172 rfl ?_
        refine jm_aload_n (n := 174) X 4 rfl dX10_solveTwo_173 rfl ?_
        refine jm_iconst (n := 175) X dX10_solveTwo_174 rfl ?_
        refine jm_callVi (n := 178) (vs := [.int (iI (1 : Int))]) (rest := [.int (iI x3), .int (iI (gA σ4 203 x2)), .ref (h 299)]) X hA (t10_cell l k4 (by decide)) (cwV 1 X.2.2.2.2.1 gX10_solveTwo_X10_cell rfl rfl rfl (by decide +kernel) ⟨Nat.le_of_ble_eq_true rfl, Nat.le_of_ble_eq_true rfl⟩) 0 9 mW_X10 rfl rfl (Nat.le_of_ble_eq_true rfl) dX10_solveTwo_175 rfl (fun σ32 r32 k32 h33 => ?_)
        refine jm_iload (n := 180) X 0 rfl dX10_solveTwo_178 rfl ?_
        refine jm_iload (n := 182) X 1 rfl dX10_solveTwo_180 rfl ?_
        refine jm_callVv (n := 185) (vs := [.int (iI (gA σ4 203 x2)), .int (iI x3), .int (iI r32), .int (iI r4), .int (iI (gA σ0 255 (gI σ0 250)))]) (rest := []) X hA (t10_goal l k32 (k4.2 203 _) hx3 h33 h5 (k0.2 255 _)) (cwV 5 X.2.2.2.2.1 gX10_solveTwo_X10_goal rfl rfl rfl (by decide +kernel) ⟨Nat.le_of_ble_eq_true rfl, Nat.le_of_ble_eq_true rfl⟩) 0 9 mW_X10 rfl rfl (Nat.le_of_ble_eq_true rfl) dX10_solveTwo_182 rfl (fun σ34 r34 k34 => ?_)
        refine jm_aload_n (n := 186) X 4 rfl dX10_solveTwo_185 rfl ?_
        refine jm_aload_n (n := 187) X 4 rfl dX10_solveTwo_186 rfl ?_
        refine jm_get (n := 190) X 0 9 4 mW_X10 rfl (by decide) (fun w h => List.mem_cons_of_mem _ (List.mem_append_right _ h)) (List.mem_of_getElem? (i := 6) rfl) rfl dX10_solveTwo_187 rfl ?_
        refine jm_iload_n (n := 191) X 6 rfl dX10_solveTwo_190 rfl ?_
        refine jm_ald (n := 192) X 3 0 204 mA_204 rfl rfl hx2 dX10_solveTwo_191 rfl (fun h36 => ?_)
        refine jm_iload_n (n := 193) X 7 rfl dX10_solveTwo_192 rfl ?_
        refine jm_iload (n := 195) X 3 rfl dX10_solveTwo_193 rfl ?_
        refine jm_iload (n := 197) X 2 rfl dX10_solveTwo_195 rfl ?_
        refine jm_iload (n := 199) X 0 rfl dX10_solveTwo_197 rfl ?_
        refine jm_callVv (n := 202) (vs := [.int (iI (gA σ34 204 x2)), .int (iI x3), .int (iI (gA σ0 253 (gI σ0 250))), .int (iI (gA σ0 254 (gI σ0 250))), .int (iI r4)]) (rest := []) X hA (t10_goal l k34 (k34.2 204 _) hx3 (k0.2 253 _) (k0.2 254 _) h5) (cwV 5 X.2.2.2.2.1 gX10_solveTwo_X10_goal rfl rfl rfl (by decide +kernel) ⟨Nat.le_of_ble_eq_true rfl, Nat.le_of_ble_eq_true rfl⟩) 0 9 mW_X10 rfl rfl (Nat.le_of_ble_eq_true rfl) dX10_solveTwo_199 rfl (fun σ37 r37 k37 => ?_)
        refine jm_aload_n (n := 203) X 4 rfl dX10_solveTwo_202 rfl ?_
        refine jm_aload_n (n := 204) X 4 rfl dX10_solveTwo_203 rfl ?_
        refine jm_get (n := 207) X 0 9 5 mW_X10 rfl (by decide) (fun w h => List.mem_cons_of_mem _ (List.mem_append_right _ h)) (List.mem_of_getElem? (i := 7) rfl) rfl dX10_solveTwo_204 rfl ?_
        refine jm_iload_n (n := 208) X 6 rfl dX10_solveTwo_207 rfl ?_
        refine jm_ald (n := 209) X 4 0 205 mA_205 rfl rfl hx2 dX10_solveTwo_208 rfl (fun h39 => ?_)
        refine jm_iload_n (n := 210) X 7 rfl dX10_solveTwo_209 rfl ?_
        refine jm_iload (n := 212) X 3 rfl dX10_solveTwo_210 rfl ?_
        refine jm_iload (n := 214) X 2 rfl dX10_solveTwo_212 rfl ?_
        refine jm_iload (n := 216) X 0 rfl dX10_solveTwo_214 rfl ?_
        refine jm_callVv (n := 219) (vs := [.int (iI (gA σ37 205 x2)), .int (iI x3), .int (iI (gA σ0 253 (gI σ0 250))), .int (iI (gA σ0 254 (gI σ0 250))), .int (iI r4)]) (rest := []) X hA (t10_goal l k37 (k37.2 205 _) hx3 (k0.2 253 _) (k0.2 254 _) h5) (cwV 5 X.2.2.2.2.1 gX10_solveTwo_X10_goal rfl rfl rfl (by decide +kernel) ⟨Nat.le_of_ble_eq_true rfl, Nat.le_of_ble_eq_true rfl⟩) 0 9 mW_X10 rfl rfl (Nat.le_of_ble_eq_true rfl) dX10_solveTwo_216 rfl (fun σ40 r40 k40 => ?_)
        refine jm_goto (n := 282) X dX10_solveTwo_219 (by decide) ?_
        exact jm_vret X rfl k40 dX10_solveTwo_282
      · refine jm_aload_n (n := 223) X 4 rfl dX10_solveTwo_222 rfl ?_
        refine jm_iload (n := 225) X 3 rfl dX10_solveTwo_223 rfl ?_
        refine jm_aload_n (n := 226) X 4 rfl dX10_solveTwo_225 rfl ?_
        refine jm_iload_n (n := 227) X 5 rfl dX10_solveTwo_226 rfl ?_
        refine jm_iconst (n := 228) X dX10_solveTwo_227 rfl ?_
        refine jm_icmp_ne (n := 231) (tgt := 235) X dX10_solveTwo_228 (by decide) hx1 (by decide) rfl (fun c42 => ?_) (fun c42 => ?_)
        · refine jm_iconst (n := 232) X dX10_solveTwo_231 rfl ?_
          refine jm_goto (n := 236) X dX10_solveTwo_232 (by decide) ?_
          refine jm_perm [4, 6, 7, 2, 1, 0] rfl ?_
          exact u10_solveTwo_236 X hA N σ4 x2 x3 (gA σ0 254 (gI σ0 250)) (gA σ0 255 (gI σ0 250)) r4 (gA σ0 253 (gI σ0 250)) (0 : Int) k4 hx2 hx3 (k0.2 254 _) (k0.2 255 _) h5 (k0.2 253 _) (by decide)
        · refine jm_iconst (n := 236) X dX10_solveTwo_235 rfl ?_
          refine jm_perm [4, 6, 7, 2, 1, 0] rfl ?_
          exact u10_solveTwo_236 X hA N σ4 x2 x3 (gA σ0 254 (gI σ0 250)) (gA σ0 255 (gI σ0 250)) r4 (gA σ0 253 (gI σ0 250)) (1 : Int) k4 hx2 hx3 (k0.2 254 _) (k0.2 255 _) h5 (k0.2 253 _) (by decide)
abbrev rm10_solve : Room := { frames := 4, cells := 0, slots := 0, locals := 105 }
def b10_solve_181 (N : Nat) (σ0 : Sg) (y1 : Int) (y3 : Int) : Option (Sg × Int) :=
  bd (f10_cell σ0 y3) fun σ1 r1 =>
  bd (f10_equal N σ1 y1 r1) fun σ3 r3 =>
  some (σ3, 0)
set_option maxRecDepth 100000 in
theorem u10_solve_181 (X : CX p m meth c cX10_solve 9 none s args wsX10_solve RX10 D (mT cI cZ) noE (va_A (mW h cI cZ σz) sz)) (hA : ∀ z : Nat, s.heap.size ≤ z → va_A (mW h cI cZ σz) sz z) (N : Nat) (σ0 : Sg) (y1 : Int) (y3 : Int) (k0 : ok σ0) (hy1 : inR y1) (hy3 : inR y3) : JV l rm10_solve (mW h cI cZ) D (mT cI cZ) σz sz 9 p e s m args below meth c σ0 181 [] [.int (iI y3), .ref (h 299), .int (iI y1), .ref (h 299)] (b10_solve_181 N σ0 y1 y3) := by
  rw [b10_solve_181]
  refine jm_callVi (n := 184) (vs := [.int (iI y3)]) (rest := [.int (iI y1), .ref (h 299)]) X hA (t10_cell l k0 hy3) (cwV 1 X.2.2.2.2.1 gX10_solve_X10_cell rfl rfl rfl (by decide +kernel) ⟨Nat.le_of_ble_eq_true rfl, Nat.le_of_ble_eq_true rfl⟩) 0 9 mW_X10 rfl rfl (Nat.le_of_ble_eq_true rfl) dX10_solve_181 rfl (fun σ1 r1 k1 h2 => ?_)
  refine jm_callVv (n := 187) (vs := [.int (iI y1), .int (iI r1)]) (rest := []) X hA (t10_equal l N k1 hy1 h2) (cwV 2 X.2.2.2.2.1 gX10_solve_X10_equal rfl rfl rfl (by decide +kernel) ⟨Nat.le_of_ble_eq_true rfl, Nat.le_of_ble_eq_true rfl⟩) 0 9 mW_X10 rfl rfl (Nat.le_of_ble_eq_true rfl) dX10_solve_184 rfl (fun σ3 r3 k3 => ?_)
  refine jm_goto (n := 283) X dX10_solve_187 (by decide) ?_
  exact jm_vret X rfl k3 dX10_solve_283
def b10_solve_102 (N : Nat) (σ0 : Sg) (x1 : Int) (x2 : Int) (x3 : Int) (x4 : Int) (x5 : Int) (x6 : Int) : Option (Sg × Int) :=
  if x6 = 0 then (if x6 = 0 then ((b10_solve_181 N σ0 x3 (0 : Int)))
  else ((b10_solve_181 N σ0 x3 (1 : Int))))
  else if x6 = 1 then (if x6 = 0 then ((b10_solve_181 N σ0 x3 (0 : Int)))
  else ((b10_solve_181 N σ0 x3 (1 : Int))))
  else if x6 = 2 then (ck (0 ≤ x1 ∧ x1 < 60) <|
  bd (f10_variable N σ0 (gA σ0 203 x1) x2 x3) fun σ7 r7 =>
  some (σ7, 0))
  else if x6 = 3 then (bd (f10_function N σ0 x6 x1 x2 x3) fun σ10 r10 =>
  some (σ10, 0))
  else if x6 = 4 then (bd (f10_solveTwo N σ0 x6 x1 x2) fun σ13 r13 =>
  some (σ13, 0))
  else if x6 = 5 then (bd (f10_solveTwo N σ0 x6 x1 x2) fun σ16 r16 =>
  some (σ16, 0))
  else if x6 = 6 then (bd (f10_solveTwo N σ0 x6 x1 x2) fun σ19 r19 =>
  some (σ19, 0))
  else if x6 = 7 then (bd (f10_solveTwo N σ0 x6 x1 x2) fun σ22 r22 =>
  some (σ22, 0))
  else if x6 = 8 then (bd (f10_solveTwo N σ0 x6 x1 x2) fun σ25 r25 =>
  some (σ25, 0))
  else if x6 = 9 then (bd (f10_letterCell σ0 ) fun σ28 r28 =>
  ck (0 ≤ x1 ∧ x1 < 60) <|
  bd (f10_goal σ28 (gA σ28 203 x1) x2 r28 r28 x3) fun σ31 r31 =>
  some (σ31, 0))
  else if x6 = 10 then (bd (f10_letterCell σ0 ) fun σ34 r34 =>
  ck (0 ≤ x1 ∧ x1 < 60) <|
  bd (f10_place σ34 x3 x4 x2) fun σ37 r37 =>
  bd (f10_goal σ37 (gA σ34 203 x1) r37 r34 r34 x5) fun σ39 r39 =>
  some (σ39, 0))
  else if x6 = 11 then (bd (f10_function N σ0 x6 x1 x2 x3) fun σ42 r42 =>
  some (σ42, 0))
  else (bd (f10_solveTwo N σ0 x6 x1 x2) fun σ44 r44 =>
  some (σ44, 0))
set_option maxRecDepth 100000 in
theorem u10_solve_102 (X : CX p m meth c cX10_solve 9 none s args wsX10_solve RX10 D (mT cI cZ) noE (va_A (mW h cI cZ σz) sz)) (hA : ∀ z : Nat, s.heap.size ≤ z → va_A (mW h cI cZ σz) sz z) (N : Nat) (σ0 : Sg) (x1 : Int) (x2 : Int) (x3 : Int) (x4 : Int) (x5 : Int) (x6 : Int) (k0 : ok σ0) (hx1 : inR x1) (hx2 : inR x2) (hx3 : inR x3) (hx4 : inR x4) (hx5 : inR x5) (hx6 : inR x6) : JV l rm10_solve (mW h cI cZ) D (mT cI cZ) σz sz 9 p e s m args below meth c σ0 102 [(0, .ref (h 299)), (1, .int (iI x1)), (2, .int (iI x2)), (3, .int (iI x3)), (4, .int (iI x4)), (5, .int (iI x5)), (6, .int (iI x6))] [] (b10_solve_102 N σ0 x1 x2 x3 x4 x5 x6) := by
  rw [b10_solve_102]
  refine jm_iload (n := 104) X 6 rfl dX10_solve_102 rfl ?_
  refine jm_tcase (tgt := 168) X (0) dX10_solve_104 hx6 (by decide) (by decide) rfl (by decide) (fun c1 => ?_) (fun c1 => ?_)
  · refine jm_aload_n (n := 169) X 0 rfl dX10_solve_168 rfl ?_
    refine jm_iload_n (n := 170) X 3 rfl dX10_solve_169 rfl ?_
    refine jm_aload_n (n := 171) X 0 rfl dX10_solve_170 rfl ?_
    refine jm_iload (n := 173) X 6 rfl dX10_solve_171 rfl ?_
    refine jm_if_ne (n := 176) (tgt := 180) X dX10_solve_173 (by decide) hx6 rfl (fun c2 => ?_) (fun c2 => ?_)
    · refine jm_iconst (n := 177) X dX10_solve_176 rfl ?_
      refine jm_goto (n := 181) X dX10_solve_177 (by decide) ?_
      refine jm_perm [] rfl ?_
      exact u10_solve_181 X hA N σ0 x3 (0 : Int) k0 hx3 (by decide)
    · refine jm_iconst (n := 181) X dX10_solve_180 rfl ?_
      refine jm_perm [] rfl ?_
      exact u10_solve_181 X hA N σ0 x3 (1 : Int) k0 hx3 (by decide)
  refine jm_tcase (tgt := 168) X (1) dX10_solve_104 hx6 (by decide) (by decide) rfl (by decide) (fun c3 => ?_) (fun c3 => ?_)
  · refine jm_aload_n (n := 169) X 0 rfl dX10_solve_168 rfl ?_
    refine jm_iload_n (n := 170) X 3 rfl dX10_solve_169 rfl ?_
    refine jm_aload_n (n := 171) X 0 rfl dX10_solve_170 rfl ?_
    refine jm_iload (n := 173) X 6 rfl dX10_solve_171 rfl ?_
    refine jm_if_ne (n := 176) (tgt := 180) X dX10_solve_173 (by decide) hx6 rfl (fun c4 => ?_) (fun c4 => ?_)
    · refine jm_iconst (n := 177) X dX10_solve_176 rfl ?_
      refine jm_goto (n := 181) X dX10_solve_177 (by decide) ?_
      refine jm_perm [] rfl ?_
      exact u10_solve_181 X hA N σ0 x3 (0 : Int) k0 hx3 (by decide)
    · refine jm_iconst (n := 181) X dX10_solve_180 rfl ?_
      refine jm_perm [] rfl ?_
      exact u10_solve_181 X hA N σ0 x3 (1 : Int) k0 hx3 (by decide)
  refine jm_tcase (tgt := 190) X (2) dX10_solve_104 hx6 (by decide) (by decide) rfl (by decide) (fun c5 => ?_) (fun c5 => ?_)
  · refine jm_aload_n (n := 191) X 0 rfl dX10_solve_190 rfl ?_
    refine jm_aload_n (n := 192) X 0 rfl dX10_solve_191 rfl ?_
    refine jm_get (n := 195) X 0 9 3 mW_X10 rfl (by decide) (fun w h => List.mem_cons_of_mem _ (List.mem_append_right _ h)) (List.mem_of_getElem? (i := 8) rfl) rfl dX10_solve_192 rfl ?_
    refine jm_iload_n (n := 196) X 1 rfl dX10_solve_195 rfl ?_
    refine jm_ald (n := 197) X 2 0 203 mA_203 rfl rfl hx1 dX10_solve_196 rfl (fun h6 => ?_)
    refine jm_iload_n (n := 198) X 2 rfl dX10_solve_197 rfl ?_
    refine jm_iload_n (n := 199) X 3 rfl dX10_solve_198 rfl ?_
    refine jm_callVv (n := 202) (vs := [.int (iI (gA σ0 203 x1)), .int (iI x2), .int (iI x3)]) (rest := []) X hA (t10_variable l N k0 (k0.2 203 _) hx2 hx3) (cwV 3 X.2.2.2.2.1 gX10_solve_X10_variable rfl rfl rfl (by decide +kernel) ⟨Nat.le_of_ble_eq_true rfl, Nat.le_of_ble_eq_true rfl⟩) 0 9 mW_X10 rfl rfl (Nat.le_of_ble_eq_true rfl) dX10_solve_199 rfl (fun σ7 r7 k7 => ?_)
    refine jm_goto (n := 283) X dX10_solve_202 (by decide) ?_
    exact jm_vret X rfl k7 dX10_solve_283
  refine jm_tcase (tgt := 205) X (3) dX10_solve_104 hx6 (by decide) (by decide) rfl (by decide) (fun c9 => ?_) (fun c9 => ?_)
  · refine jm_aload_n (n := 206) X 0 rfl dX10_solve_205 rfl ?_
    refine jm_iload (n := 208) X 6 rfl dX10_solve_206 rfl ?_
    refine jm_iload_n (n := 209) X 1 rfl dX10_solve_208 rfl ?_
    refine jm_iload_n (n := 210) X 2 rfl dX10_solve_209 rfl ?_
    refine jm_iload_n (n := 211) X 3 rfl dX10_solve_210 rfl ?_
    refine jm_callVv (n := 214) (vs := [.int (iI x6), .int (iI x1), .int (iI x2), .int (iI x3)]) (rest := []) X hA (t10_function l N k0 hx6 hx1 hx2 hx3) (cwV 4 X.2.2.2.2.1 gX10_solve_X10_function rfl rfl rfl (by decide +kernel) ⟨Nat.le_of_ble_eq_true rfl, Nat.le_of_ble_eq_true rfl⟩) 0 9 mW_X10 rfl rfl (Nat.le_of_ble_eq_true rfl) dX10_solve_211 rfl (fun σ10 r10 k10 => ?_)
    refine jm_goto (n := 283) X dX10_solve_214 (by decide) ?_
    exact jm_vret X rfl k10 dX10_solve_283
  refine jm_tcase (tgt := 275) X (4) dX10_solve_104 hx6 (by decide) (by decide) rfl (by decide) (fun c12 => ?_) (fun c12 => ?_)
  · refine jm_aload_n (n := 276) X 0 rfl dX10_solve_275 rfl ?_
    refine jm_iload (n := 278) X 6 rfl dX10_solve_276 rfl ?_
    refine jm_iload_n (n := 279) X 1 rfl dX10_solve_278 rfl ?_
    refine jm_iload_n (n := 280) X 2 rfl dX10_solve_279 rfl ?_
    refine jm_callVv (n := 283) (vs := [.int (iI x6), .int (iI x1), .int (iI x2)]) (rest := []) X hA (t10_solveTwo l N k0 hx6 hx1 hx2) (cwV 3 X.2.2.2.2.1 gX10_solve_X10_solveTwo rfl rfl rfl (by decide +kernel) ⟨Nat.le_of_ble_eq_true rfl, Nat.le_of_ble_eq_true rfl⟩) 0 9 mW_X10 rfl rfl (Nat.le_of_ble_eq_true rfl) dX10_solve_280 rfl (fun σ13 r13 k13 => ?_)
    exact jm_vret X rfl k13 dX10_solve_283
  refine jm_tcase (tgt := 275) X (5) dX10_solve_104 hx6 (by decide) (by decide) rfl (by decide) (fun c15 => ?_) (fun c15 => ?_)
  · refine jm_aload_n (n := 276) X 0 rfl dX10_solve_275 rfl ?_
    refine jm_iload (n := 278) X 6 rfl dX10_solve_276 rfl ?_
    refine jm_iload_n (n := 279) X 1 rfl dX10_solve_278 rfl ?_
    refine jm_iload_n (n := 280) X 2 rfl dX10_solve_279 rfl ?_
    refine jm_callVv (n := 283) (vs := [.int (iI x6), .int (iI x1), .int (iI x2)]) (rest := []) X hA (t10_solveTwo l N k0 hx6 hx1 hx2) (cwV 3 X.2.2.2.2.1 gX10_solve_X10_solveTwo rfl rfl rfl (by decide +kernel) ⟨Nat.le_of_ble_eq_true rfl, Nat.le_of_ble_eq_true rfl⟩) 0 9 mW_X10 rfl rfl (Nat.le_of_ble_eq_true rfl) dX10_solve_280 rfl (fun σ16 r16 k16 => ?_)
    exact jm_vret X rfl k16 dX10_solve_283
  refine jm_tcase (tgt := 275) X (6) dX10_solve_104 hx6 (by decide) (by decide) rfl (by decide) (fun c18 => ?_) (fun c18 => ?_)
  · refine jm_aload_n (n := 276) X 0 rfl dX10_solve_275 rfl ?_
    refine jm_iload (n := 278) X 6 rfl dX10_solve_276 rfl ?_
    refine jm_iload_n (n := 279) X 1 rfl dX10_solve_278 rfl ?_
    refine jm_iload_n (n := 280) X 2 rfl dX10_solve_279 rfl ?_
    refine jm_callVv (n := 283) (vs := [.int (iI x6), .int (iI x1), .int (iI x2)]) (rest := []) X hA (t10_solveTwo l N k0 hx6 hx1 hx2) (cwV 3 X.2.2.2.2.1 gX10_solve_X10_solveTwo rfl rfl rfl (by decide +kernel) ⟨Nat.le_of_ble_eq_true rfl, Nat.le_of_ble_eq_true rfl⟩) 0 9 mW_X10 rfl rfl (Nat.le_of_ble_eq_true rfl) dX10_solve_280 rfl (fun σ19 r19 k19 => ?_)
    exact jm_vret X rfl k19 dX10_solve_283
  refine jm_tcase (tgt := 275) X (7) dX10_solve_104 hx6 (by decide) (by decide) rfl (by decide) (fun c21 => ?_) (fun c21 => ?_)
  · refine jm_aload_n (n := 276) X 0 rfl dX10_solve_275 rfl ?_
    refine jm_iload (n := 278) X 6 rfl dX10_solve_276 rfl ?_
    refine jm_iload_n (n := 279) X 1 rfl dX10_solve_278 rfl ?_
    refine jm_iload_n (n := 280) X 2 rfl dX10_solve_279 rfl ?_
    refine jm_callVv (n := 283) (vs := [.int (iI x6), .int (iI x1), .int (iI x2)]) (rest := []) X hA (t10_solveTwo l N k0 hx6 hx1 hx2) (cwV 3 X.2.2.2.2.1 gX10_solve_X10_solveTwo rfl rfl rfl (by decide +kernel) ⟨Nat.le_of_ble_eq_true rfl, Nat.le_of_ble_eq_true rfl⟩) 0 9 mW_X10 rfl rfl (Nat.le_of_ble_eq_true rfl) dX10_solve_280 rfl (fun σ22 r22 k22 => ?_)
    exact jm_vret X rfl k22 dX10_solve_283
  refine jm_tcase (tgt := 275) X (8) dX10_solve_104 hx6 (by decide) (by decide) rfl (by decide) (fun c24 => ?_) (fun c24 => ?_)
  · refine jm_aload_n (n := 276) X 0 rfl dX10_solve_275 rfl ?_
    refine jm_iload (n := 278) X 6 rfl dX10_solve_276 rfl ?_
    refine jm_iload_n (n := 279) X 1 rfl dX10_solve_278 rfl ?_
    refine jm_iload_n (n := 280) X 2 rfl dX10_solve_279 rfl ?_
    refine jm_callVv (n := 283) (vs := [.int (iI x6), .int (iI x1), .int (iI x2)]) (rest := []) X hA (t10_solveTwo l N k0 hx6 hx1 hx2) (cwV 3 X.2.2.2.2.1 gX10_solve_X10_solveTwo rfl rfl rfl (by decide +kernel) ⟨Nat.le_of_ble_eq_true rfl, Nat.le_of_ble_eq_true rfl⟩) 0 9 mW_X10 rfl rfl (Nat.le_of_ble_eq_true rfl) dX10_solve_280 rfl (fun σ25 r25 k25 => ?_)
    exact jm_vret X rfl k25 dX10_solve_283
  refine jm_tcase (tgt := 217) X (9) dX10_solve_104 hx6 (by decide) (by decide) rfl (by decide) (fun c27 => ?_) (fun c27 => ?_)
  · refine jm_aload_n (n := 218) X 0 rfl dX10_solve_217 rfl ?_
    refine jm_callVi (n := 221) (vs := []) (rest := []) X hA (t10_letterCell l k0 ) (cwV 0 X.2.2.2.2.1 gX10_solve_X10_letterCell rfl rfl rfl (by decide +kernel) ⟨Nat.le_of_ble_eq_true rfl, Nat.le_of_ble_eq_true rfl⟩) 0 9 mW_X10 rfl rfl (Nat.le_of_ble_eq_true rfl) dX10_solve_218 rfl (fun σ28 r28 k28 h29 => ?_)
    refine jm_istore (n := 223) (lv' := [(7, .int (iI r28)), (0, .ref (h 299)), (1, .int (iI x1)), (2, .int (iI x2)), (3, .int (iI x3)), (4, .int (iI x4)), (5, .int (iI x5)), (6, .int (iI x6))]) X dX10_solve_221 (by decide) rfl rfl ?_
    refine jm_aload_n (n := 224) X 1 rfl dX10_solve_223 rfl ?_
    refine jm_aload_n (n := 225) X 1 rfl dX10_solve_224 rfl ?_
    refine jm_get (n := 228) X 0 9 3 mW_X10 rfl (by decide) (fun w h => List.mem_cons_of_mem _ (List.mem_append_right _ h)) (List.mem_of_getElem? (i := 8) rfl) rfl dX10_solve_225 rfl ?_
    refine jm_iload_n (n := 229) X 2 rfl dX10_solve_228 rfl ?_
    refine jm_ald (n := 230) X 2 0 203 mA_203 rfl rfl hx1 dX10_solve_229 rfl (fun h30 => ?_)
    refine jm_iload_n (n := 231) X 3 rfl dX10_solve_230 rfl ?_
    refine jm_iload (n := 233) X 0 rfl dX10_solve_231 rfl ?_
    refine jm_iload (n := 235) X 0 rfl dX10_solve_233 rfl ?_
    refine jm_iload_n (n := 236) X 4 rfl dX10_solve_235 rfl ?_
    refine jm_callVv (n := 239) (vs := [.int (iI (gA σ28 203 x1)), .int (iI x2), .int (iI r28), .int (iI r28), .int (iI x3)]) (rest := []) X hA (t10_goal l k28 (k28.2 203 _) hx2 h29 h29 hx3) (cwV 5 X.2.2.2.2.1 gX10_solve_X10_goal rfl rfl rfl (by decide +kernel) ⟨Nat.le_of_ble_eq_true rfl, Nat.le_of_ble_eq_true rfl⟩) 0 9 mW_X10 rfl rfl (Nat.le_of_ble_eq_true rfl) dX10_solve_236 rfl (fun σ31 r31 k31 => ?_)
    refine jm_goto (n := 283) X dX10_solve_239 (by decide) ?_
    exact jm_vret X rfl k31 dX10_solve_283
  refine jm_tcase (tgt := 242) X (10) dX10_solve_104 hx6 (by decide) (by decide) rfl (by decide) (fun c33 => ?_) (fun c33 => ?_)
  · refine jm_aload_n (n := 243) X 0 rfl dX10_solve_242 rfl ?_
    refine jm_callVi (n := 246) (vs := []) (rest := []) X hA (t10_letterCell l k0 ) (cwV 0 X.2.2.2.2.1 gX10_solve_X10_letterCell rfl rfl rfl (by decide +kernel) ⟨Nat.le_of_ble_eq_true rfl, Nat.le_of_ble_eq_true rfl⟩) 0 9 mW_X10 rfl rfl (Nat.le_of_ble_eq_true rfl) dX10_solve_243 rfl (fun σ34 r34 k34 h35 => ?_)
    refine jm_istore (n := 248) (lv' := [(8, .int (iI r34)), (0, .ref (h 299)), (1, .int (iI x1)), (2, .int (iI x2)), (3, .int (iI x3)), (4, .int (iI x4)), (5, .int (iI x5)), (6, .int (iI x6))]) X dX10_solve_246 (by decide) rfl rfl ?_
    refine jm_aload_n (n := 249) X 1 rfl dX10_solve_248 rfl ?_
    refine jm_aload_n (n := 250) X 1 rfl dX10_solve_249 rfl ?_
    refine jm_get (n := 253) X 0 9 3 mW_X10 rfl (by decide) (fun w h => List.mem_cons_of_mem _ (List.mem_append_right _ h)) (List.mem_of_getElem? (i := 8) rfl) rfl dX10_solve_250 rfl ?_
    refine jm_iload_n (n := 254) X 2 rfl dX10_solve_253 rfl ?_
    refine jm_ald (n := 255) X 2 0 203 mA_203 rfl rfl hx1 dX10_solve_254 rfl (fun h36 => ?_)
    refine jm_aload_n (n := 256) X 1 rfl dX10_solve_255 rfl ?_
    refine jm_iload_n (n := 257) X 4 rfl dX10_solve_256 rfl ?_
    refine jm_iload (n := 259) X 5 rfl dX10_solve_257 rfl ?_
    refine jm_iload_n (n := 260) X 3 rfl dX10_solve_259 rfl ?_
    refine jm_callVi (n := 263) (vs := [.int (iI x3), .int (iI x4), .int (iI x2)]) (rest := [.int (iI (gA σ34 203 x1)), .ref (h 299)]) X hA (t10_place l k34 hx3 hx4 hx2) (cwV 3 X.2.2.2.2.1 gX10_solve_X10_place rfl rfl rfl (by decide +kernel) ⟨Nat.le_of_ble_eq_true rfl, Nat.le_of_ble_eq_true rfl⟩) 0 9 mW_X10 rfl rfl (Nat.le_of_ble_eq_true rfl) dX10_solve_260 rfl (fun σ37 r37 k37 h38 => ?_)
    refine jm_iload (n := 265) X 0 rfl dX10_solve_263 rfl ?_
    refine jm_iload (n := 267) X 0 rfl dX10_solve_265 rfl ?_
    refine jm_iload (n := 269) X 6 rfl dX10_solve_267 rfl ?_
    refine jm_callVv (n := 272) (vs := [.int (iI (gA σ34 203 x1)), .int (iI r37), .int (iI r34), .int (iI r34), .int (iI x5)]) (rest := []) X hA (t10_goal l k37 (k34.2 203 _) h38 h35 h35 hx5) (cwV 5 X.2.2.2.2.1 gX10_solve_X10_goal rfl rfl rfl (by decide +kernel) ⟨Nat.le_of_ble_eq_true rfl, Nat.le_of_ble_eq_true rfl⟩) 0 9 mW_X10 rfl rfl (Nat.le_of_ble_eq_true rfl) dX10_solve_269 rfl (fun σ39 r39 k39 => ?_)
    refine jm_goto (n := 283) X dX10_solve_272 (by decide) ?_
    exact jm_vret X rfl k39 dX10_solve_283
  refine jm_tcase (tgt := 205) X (11) dX10_solve_104 hx6 (by decide) (by decide) rfl (by decide) (fun c41 => ?_) (fun c41 => ?_)
  · refine jm_aload_n (n := 206) X 0 rfl dX10_solve_205 rfl ?_
    refine jm_iload (n := 208) X 6 rfl dX10_solve_206 rfl ?_
    refine jm_iload_n (n := 209) X 1 rfl dX10_solve_208 rfl ?_
    refine jm_iload_n (n := 210) X 2 rfl dX10_solve_209 rfl ?_
    refine jm_iload_n (n := 211) X 3 rfl dX10_solve_210 rfl ?_
    refine jm_callVv (n := 214) (vs := [.int (iI x6), .int (iI x1), .int (iI x2), .int (iI x3)]) (rest := []) X hA (t10_function l N k0 hx6 hx1 hx2 hx3) (cwV 4 X.2.2.2.2.1 gX10_solve_X10_function rfl rfl rfl (by decide +kernel) ⟨Nat.le_of_ble_eq_true rfl, Nat.le_of_ble_eq_true rfl⟩) 0 9 mW_X10 rfl rfl (Nat.le_of_ble_eq_true rfl) dX10_solve_211 rfl (fun σ42 r42 k42 => ?_)
    refine jm_goto (n := 283) X dX10_solve_214 (by decide) ?_
    exact jm_vret X rfl k42 dX10_solve_283
  refine jm_tout (tgt := 275) X dX10_solve_104 hx6 (by decide) (by omega) ?_
  refine jm_aload_n (n := 276) X 0 rfl dX10_solve_275 rfl ?_
  refine jm_iload (n := 278) X 6 rfl dX10_solve_276 rfl ?_
  refine jm_iload_n (n := 279) X 1 rfl dX10_solve_278 rfl ?_
  refine jm_iload_n (n := 280) X 2 rfl dX10_solve_279 rfl ?_
  refine jm_callVv (n := 283) (vs := [.int (iI x6), .int (iI x1), .int (iI x2)]) (rest := []) X hA (t10_solveTwo l N k0 hx6 hx1 hx2) (cwV 3 X.2.2.2.2.1 gX10_solve_X10_solveTwo rfl rfl rfl (by decide +kernel) ⟨Nat.le_of_ble_eq_true rfl, Nat.le_of_ble_eq_true rfl⟩) 0 9 mW_X10 rfl rfl (Nat.le_of_ble_eq_true rfl) dX10_solve_280 rfl (fun σ44 r44 k44 => ?_)
  exact jm_vret X rfl k44 dX10_solve_283
def b10_solve_94 (N : Nat) (σ0 : Sg) (x1 : Int) (x2 : Int) (x3 : Int) (x4 : Int) (x5 : Int) (x6 : Int) : Option (Sg × Int) :=
  bd (f10_equal N σ0 x4 x5) fun σ1 r1 =>
  (b10_solve_102 N σ1 x1 x2 x3 x4 x5 x6)
set_option maxRecDepth 100000 in
theorem u10_solve_94 (X : CX p m meth c cX10_solve 9 none s args wsX10_solve RX10 D (mT cI cZ) noE (va_A (mW h cI cZ σz) sz)) (hA : ∀ z : Nat, s.heap.size ≤ z → va_A (mW h cI cZ σz) sz z) (N : Nat) (σ0 : Sg) (x1 : Int) (x2 : Int) (x3 : Int) (x4 : Int) (x5 : Int) (x6 : Int) (k0 : ok σ0) (hx1 : inR x1) (hx2 : inR x2) (hx3 : inR x3) (hx4 : inR x4) (hx5 : inR x5) (hx6 : inR x6) : JV l rm10_solve (mW h cI cZ) D (mT cI cZ) σz sz 9 p e s m args below meth c σ0 94 [(0, .ref (h 299)), (1, .int (iI x1)), (2, .int (iI x2)), (3, .int (iI x3)), (4, .int (iI x4)), (5, .int (iI x5)), (6, .int (iI x6))] [] (b10_solve_94 N σ0 x1 x2 x3 x4 x5 x6) := by
  rw [b10_solve_94]
  refine jm_aload_n (n := 95) X 0 rfl dX10_solve_94 rfl ?_
  refine jm_iload (n := 97) X 4 rfl dX10_solve_95 rfl ?_
  refine jm_iload (n := 99) X 5 rfl dX10_solve_97 rfl ?_
  refine jm_callVv (n := 102) (vs := [.int (iI x4), .int (iI x5)]) (rest := []) X hA (t10_equal l N k0 hx4 hx5) (cwV 2 X.2.2.2.2.1 gX10_solve_X10_equal rfl rfl rfl (by decide +kernel) ⟨Nat.le_of_ble_eq_true rfl, Nat.le_of_ble_eq_true rfl⟩) 0 9 mW_X10 rfl rfl (Nat.le_of_ble_eq_true rfl) dX10_solve_99 rfl (fun σ1 r1 k1 => ?_)
  refine jm_perm [0, 1, 2, 3, 4, 5, 6] rfl ?_
  exact u10_solve_102 X hA N σ1 x1 x2 x3 x4 x5 x6 k1 hx1 hx2 hx3 hx4 hx5 hx6
def f10_solve (N : Nat) (σ0 : Sg)  : Option (Sg × Int) :=
  ck (inR ((gI σ0 250) - (1 : Int))) <|
  nx (sI σ0 250 ((gI σ0 250) - (1 : Int))) fun σ2 =>
  ck (0 ≤ (gI σ2 250) ∧ (gI σ2 250) < 130) <|
  ck (0 ≤ (gI σ2 250) ∧ (gI σ2 250) < 130) <|
  ck (0 ≤ (gI σ2 250) ∧ (gI σ2 250) < 130) <|
  ck (0 ≤ (gI σ2 250) ∧ (gI σ2 250) < 130) <|
  ck (0 ≤ (gI σ2 250) ∧ (gI σ2 250) < 130) <|
  ck (0 ≤ (gA σ2 251 (gI σ2 250)) ∧ (gA σ2 251 (gI σ2 250)) < 60) <|
  bd (f10_in σ2 (gA σ2 202 (gA σ2 251 (gI σ2 250))) (0 : Int) (3 : Int)) fun σ9 r9 =>
  if r9 = 0 then (if (gA σ2 202 (gA σ2 251 (gI σ2 250))) = (11 : Int) then ((b10_solve_94 N σ9 (gA σ2 251 (gI σ2 250)) (gA σ2 252 (gI σ2 250)) (gA σ2 253 (gI σ2 250)) (gA σ2 254 (gI σ2 250)) (gA σ2 255 (gI σ2 250)) (gA σ2 202 (gA σ2 251 (gI σ2 250)))))
  else (if (gA σ2 202 (gA σ2 251 (gI σ2 250))) = (9 : Int) then ((b10_solve_94 N σ9 (gA σ2 251 (gI σ2 250)) (gA σ2 252 (gI σ2 250)) (gA σ2 253 (gI σ2 250)) (gA σ2 254 (gI σ2 250)) (gA σ2 255 (gI σ2 250)) (gA σ2 202 (gA σ2 251 (gI σ2 250)))))
  else ((b10_solve_102 N σ9 (gA σ2 251 (gI σ2 250)) (gA σ2 252 (gI σ2 250)) (gA σ2 253 (gI σ2 250)) (gA σ2 254 (gI σ2 250)) (gA σ2 255 (gI σ2 250)) (gA σ2 202 (gA σ2 251 (gI σ2 250)))))))
  else ((b10_solve_94 N σ9 (gA σ2 251 (gI σ2 250)) (gA σ2 252 (gI σ2 250)) (gA σ2 253 (gI σ2 250)) (gA σ2 254 (gI σ2 250)) (gA σ2 255 (gI σ2 250)) (gA σ2 202 (gA σ2 251 (gI σ2 250)))))
set_option maxRecDepth 100000 in
theorem t10_solve (l : Launch) {h : Nat → Nat} {cI cZ : ClassId} {D : va_G} (N : Nat) {σ0 : Sg}  (k0 : ok σ0)  : ctV noE l (mW h cI cZ) D (mT cI cZ) yX10_solve wsX10_solve rm10_solve [.ref (h 299)] σ0 (f10_solve N σ0 ) := by
  refine of_V noE_ok (own := RX10) (lv := [(0, .ref (h 299))]) (by decide) rfl rfl (Nat.le_of_ble_eq_true rfl) rfl (fun p e s m below meth c sz X hA => ?_)
  rw [f10_solve]
  refine jm_aload_n (n := 1) X 0 rfl dX10_solve_0 rfl ?_
  refine jm_dup (n := 2) X dX10_solve_1 rfl rfl ?_
  refine jm_get (n := 5) X 0 9 50 mW_X10 rfl (by decide) (fun w h => List.mem_cons_of_mem _ (List.mem_append_right _ h)) (List.mem_of_getElem? (i := 1) rfl) rfl dX10_solve_2 rfl ?_
  refine jm_iconst (n := 6) X dX10_solve_5 rfl ?_
  refine jm_isub (n := 7) X dX10_solve_6 rfl (fun h1 => ?_)
  refine jm_put (n := 10) X 0 9 50 250 mW_X10 rfl (by decide) (fun w h => List.mem_cons_of_mem _ (List.mem_append_right _ h)) tyX10 tyX10_ok nmX10 (List.mem_of_getElem? (i := 1) rfl) rfl rfl rfl rfl (Nat.le_of_ble_eq_true rfl) mS_250 k0 h1 dX10_solve_7 rfl (fun σ2 k2 => ?_)
  refine jm_aload_n (n := 11) X 0 rfl dX10_solve_10 rfl ?_
  refine jm_get (n := 14) X 0 9 51 mW_X10 rfl (by decide) (fun w h => List.mem_cons_of_mem _ (List.mem_append_right _ h)) (List.mem_of_getElem? (i := 2) rfl) rfl dX10_solve_11 rfl ?_
  refine jm_aload_n (n := 15) X 0 rfl dX10_solve_14 rfl ?_
  refine jm_get (n := 18) X 0 9 50 mW_X10 rfl (by decide) (fun w h => List.mem_cons_of_mem _ (List.mem_append_right _ h)) (List.mem_of_getElem? (i := 1) rfl) rfl dX10_solve_15 rfl ?_
  refine jm_ald (n := 19) X 27 0 251 mA_251 rfl rfl (k2.1 250) dX10_solve_18 rfl (fun h3 => ?_)
  refine jm_istore_n (n := 20) (lv' := [(1, .int (iI (gA σ2 251 (gI σ2 250)))), (0, .ref (h 299))]) X dX10_solve_19 (by decide) rfl rfl ?_
  refine jm_aload_n (n := 21) X 1 rfl dX10_solve_20 rfl ?_
  refine jm_get (n := 24) X 0 9 52 mW_X10 rfl (by decide) (fun w h => List.mem_cons_of_mem _ (List.mem_append_right _ h)) (List.mem_of_getElem? (i := 3) rfl) rfl dX10_solve_21 rfl ?_
  refine jm_aload_n (n := 25) X 1 rfl dX10_solve_24 rfl ?_
  refine jm_get (n := 28) X 0 9 50 mW_X10 rfl (by decide) (fun w h => List.mem_cons_of_mem _ (List.mem_append_right _ h)) (List.mem_of_getElem? (i := 1) rfl) rfl dX10_solve_25 rfl ?_
  refine jm_ald (n := 29) X 28 0 252 mA_252 rfl rfl (k2.1 250) dX10_solve_28 rfl (fun h4 => ?_)
  refine jm_istore_n (n := 30) (lv' := [(2, .int (iI (gA σ2 252 (gI σ2 250)))), (1, .int (iI (gA σ2 251 (gI σ2 250)))), (0, .ref (h 299))]) X dX10_solve_29 (by decide) rfl rfl ?_
  refine jm_aload_n (n := 31) X 2 rfl dX10_solve_30 rfl ?_
  refine jm_get (n := 34) X 0 9 53 mW_X10 rfl (by decide) (fun w h => List.mem_cons_of_mem _ (List.mem_append_right _ h)) (List.mem_of_getElem? (i := 4) rfl) rfl dX10_solve_31 rfl ?_
  refine jm_aload_n (n := 35) X 2 rfl dX10_solve_34 rfl ?_
  refine jm_get (n := 38) X 0 9 50 mW_X10 rfl (by decide) (fun w h => List.mem_cons_of_mem _ (List.mem_append_right _ h)) (List.mem_of_getElem? (i := 1) rfl) rfl dX10_solve_35 rfl ?_
  refine jm_ald (n := 39) X 29 0 253 mA_253 rfl rfl (k2.1 250) dX10_solve_38 rfl (fun h5 => ?_)
  refine jm_istore_n (n := 40) (lv' := [(3, .int (iI (gA σ2 253 (gI σ2 250)))), (2, .int (iI (gA σ2 252 (gI σ2 250)))), (1, .int (iI (gA σ2 251 (gI σ2 250)))), (0, .ref (h 299))]) X dX10_solve_39 (by decide) rfl rfl ?_
  refine jm_aload_n (n := 41) X 3 rfl dX10_solve_40 rfl ?_
  refine jm_get (n := 44) X 0 9 54 mW_X10 rfl (by decide) (fun w h => List.mem_cons_of_mem _ (List.mem_append_right _ h)) (List.mem_of_getElem? (i := 5) rfl) rfl dX10_solve_41 rfl ?_
  refine jm_aload_n (n := 45) X 3 rfl dX10_solve_44 rfl ?_
  refine jm_get (n := 48) X 0 9 50 mW_X10 rfl (by decide) (fun w h => List.mem_cons_of_mem _ (List.mem_append_right _ h)) (List.mem_of_getElem? (i := 1) rfl) rfl dX10_solve_45 rfl ?_
  refine jm_ald (n := 49) X 30 0 254 mA_254 rfl rfl (k2.1 250) dX10_solve_48 rfl (fun h6 => ?_)
  refine jm_istore (n := 51) (lv' := [(4, .int (iI (gA σ2 254 (gI σ2 250)))), (3, .int (iI (gA σ2 253 (gI σ2 250)))), (2, .int (iI (gA σ2 252 (gI σ2 250)))), (1, .int (iI (gA σ2 251 (gI σ2 250)))), (0, .ref (h 299))]) X dX10_solve_49 (by decide) rfl rfl ?_
  refine jm_aload_n (n := 52) X 4 rfl dX10_solve_51 rfl ?_
  refine jm_get (n := 55) X 0 9 55 mW_X10 rfl (by decide) (fun w h => List.mem_cons_of_mem _ (List.mem_append_right _ h)) (List.mem_of_getElem? (i := 6) rfl) rfl dX10_solve_52 rfl ?_
  refine jm_aload_n (n := 56) X 4 rfl dX10_solve_55 rfl ?_
  refine jm_get (n := 59) X 0 9 50 mW_X10 rfl (by decide) (fun w h => List.mem_cons_of_mem _ (List.mem_append_right _ h)) (List.mem_of_getElem? (i := 1) rfl) rfl dX10_solve_56 rfl ?_
  refine jm_ald (n := 60) X 31 0 255 mA_255 rfl rfl (k2.1 250) dX10_solve_59 rfl (fun h7 => ?_)
  refine jm_istore (n := 62) (lv' := [(5, .int (iI (gA σ2 255 (gI σ2 250)))), (4, .int (iI (gA σ2 254 (gI σ2 250)))), (3, .int (iI (gA σ2 253 (gI σ2 250)))), (2, .int (iI (gA σ2 252 (gI σ2 250)))), (1, .int (iI (gA σ2 251 (gI σ2 250)))), (0, .ref (h 299))]) X dX10_solve_60 (by decide) rfl rfl ?_
  refine jm_aload_n (n := 63) X 5 rfl dX10_solve_62 rfl ?_
  refine jm_get (n := 66) X 0 9 2 mW_X10 rfl (by decide) (fun w h => List.mem_cons_of_mem _ (List.mem_append_right _ h)) (List.mem_of_getElem? (i := 7) rfl) rfl dX10_solve_63 rfl ?_
  refine jm_iload_n (n := 67) X 4 rfl dX10_solve_66 rfl ?_
  refine jm_ald (n := 68) X 1 0 202 mA_202 rfl rfl (k2.2 251 _) dX10_solve_67 rfl (fun h8 => ?_)
  refine jm_istore (n := 70) (lv' := [(6, .int (iI (gA σ2 202 (gA σ2 251 (gI σ2 250))))), (5, .int (iI (gA σ2 255 (gI σ2 250)))), (4, .int (iI (gA σ2 254 (gI σ2 250)))), (3, .int (iI (gA σ2 253 (gI σ2 250)))), (2, .int (iI (gA σ2 252 (gI σ2 250)))), (1, .int (iI (gA σ2 251 (gI σ2 250)))), (0, .ref (h 299))]) X dX10_solve_68 (by decide) rfl rfl ?_
  refine jm_iload (n := 72) X 0 rfl dX10_solve_70 rfl ?_
  refine jm_iconst (n := 73) X dX10_solve_72 rfl ?_
  refine jm_iconst (n := 74) X dX10_solve_73 rfl ?_
  refine jm_callSi (n := 77) (vs := [.int (iI (gA σ2 202 (gA σ2 251 (gI σ2 250)))), .int (iI (0 : Int)), .int (iI (3 : Int))]) (rest := []) X hA (t10_in l k2 (k2.2 202 _) (by decide) (by decide)) (va_cwS 3 X.2.2.2.2.1 gX10_solve_X10_in rfl rfl rfl (by decide +kernel) ⟨Nat.le_of_ble_eq_true rfl, Nat.le_of_ble_eq_true rfl⟩) rfl (Nat.le_of_ble_eq_true rfl) dX10_solve_74 rfl (fun σ9 r9 k9 h10 => ?_)
  refine jm_if_ne (n := 80) (tgt := 94) X dX10_solve_77 (by decide) h10 rfl (fun c11 => ?_) (fun c11 => ?_)
  · refine jm_iload (n := 82) X 0 rfl dX10_solve_80 rfl ?_
    refine jm_bipush (n := 84) X dX10_solve_82 (by decide) rfl ?_
    refine jm_icmp_eq (n := 87) (tgt := 94) X dX10_solve_84 (by decide) (k2.2 202 _) (by decide) rfl (fun c12 => ?_) (fun c12 => ?_)
    · refine jm_perm [6, 5, 4, 3, 2, 1, 0] rfl ?_
      exact u10_solve_94 X hA N σ9 (gA σ2 251 (gI σ2 250)) (gA σ2 252 (gI σ2 250)) (gA σ2 253 (gI σ2 250)) (gA σ2 254 (gI σ2 250)) (gA σ2 255 (gI σ2 250)) (gA σ2 202 (gA σ2 251 (gI σ2 250))) k9 (k2.2 251 _) (k2.2 252 _) (k2.2 253 _) (k2.2 254 _) (k2.2 255 _) (k2.2 202 _)
    · refine jm_iload (n := 89) X 0 rfl dX10_solve_87 rfl ?_
      refine jm_bipush (n := 91) X dX10_solve_89 (by decide) rfl ?_
      refine jm_icmp_ne (n := 94) (tgt := 102) X dX10_solve_91 (by decide) (k2.2 202 _) (by decide) rfl (fun c13 => ?_) (fun c13 => ?_)
      · refine jm_perm [6, 5, 4, 3, 2, 1, 0] rfl ?_
        exact u10_solve_94 X hA N σ9 (gA σ2 251 (gI σ2 250)) (gA σ2 252 (gI σ2 250)) (gA σ2 253 (gI σ2 250)) (gA σ2 254 (gI σ2 250)) (gA σ2 255 (gI σ2 250)) (gA σ2 202 (gA σ2 251 (gI σ2 250))) k9 (k2.2 251 _) (k2.2 252 _) (k2.2 253 _) (k2.2 254 _) (k2.2 255 _) (k2.2 202 _)
      · refine jm_perm [6, 5, 4, 3, 2, 1, 0] rfl ?_
        exact u10_solve_102 X hA N σ9 (gA σ2 251 (gI σ2 250)) (gA σ2 252 (gI σ2 250)) (gA σ2 253 (gI σ2 250)) (gA σ2 254 (gI σ2 250)) (gA σ2 255 (gI σ2 250)) (gA σ2 202 (gA σ2 251 (gI σ2 250))) k9 (k2.2 251 _) (k2.2 252 _) (k2.2 253 _) (k2.2 254 _) (k2.2 255 _) (k2.2 202 _)
  · refine jm_perm [6, 5, 4, 3, 2, 1, 0] rfl ?_
    exact u10_solve_94 X hA N σ9 (gA σ2 251 (gI σ2 250)) (gA σ2 252 (gI σ2 250)) (gA σ2 253 (gI σ2 250)) (gA σ2 254 (gI σ2 250)) (gA σ2 255 (gI σ2 250)) (gA σ2 202 (gA σ2 251 (gI σ2 250))) k9 (k2.2 251 _) (k2.2 252 _) (k2.2 253 _) (k2.2 254 _) (k2.2 255 _) (k2.2 202 _)
abbrev rm10_numberLetters : Room := { frames := 1, cells := 0, slots := 0, locals := 22 }
def b10_numberLetters_157 (N : Nat) (K51 : Sg → Int → Int → Option (Sg × Int)) (σ0 : Sg) (x3 : Int) (x4 : Int) : Option (Sg × Int) :=
  (K51 σ0 x3 x4)
set_option maxRecDepth 100000 in
theorem u10_numberLetters_157 (X : CX p m meth c cX10_numberLetters 7 none s args wsX10_numberLetters RX10 D (mT cI cZ) noE (va_A (mW h cI cZ σz) sz)) (hA : ∀ z : Nat, s.heap.size ≤ z → va_A (mW h cI cZ σz) sz z) (N : Nat) (K51 : Sg → Int → Int → Option (Sg × Int)) (hK51 : ∀ (τ : Sg) (x3 : Int) (x4 : Int), ok τ → inR x3 → inR x4 → JV l rm10_numberLetters (mW h cI cZ) D (mT cI cZ) σz sz 7 p e s m args below meth c τ 51 [(0, .ref (h 299)), (3, .int (iI x3)), (4, .int (iI x4))] [] (K51 τ x3 x4)) (σ0 : Sg) (x3 : Int) (x4 : Int) (k0 : ok σ0) (hx3 : inR x3) (hx4 : inR x4) : JV l rm10_numberLetters (mW h cI cZ) D (mT cI cZ) σz sz 7 p e s m args below meth c σ0 157 [(0, .ref (h 299)), (3, .int (iI x3)), (4, .int (iI x4))] [] (b10_numberLetters_157 N K51 σ0 x3 x4) := by
  rw [b10_numberLetters_157]
  refine jm_goto (n := 51) X dX10_numberLetters_157 (by decide) ?_
  refine jm_perm [0, 1, 2] rfl ?_
  exact hK51 σ0 x3 x4 k0 hx3 hx4
def b10_numberLetters_114 (N : Nat) (K51 : Sg → Int → Int → Option (Sg × Int)) : Nat → Sg → Int → Int → Int → Int → Option (Sg × Int)
  | 0, _, _, _, _, _ => none
  | n + 1, σ0, x3, x4, x5, x6 => if x6 < 0 then ((b10_numberLetters_157 N K51 σ0 x3 x4))
  else (ck (0 ≤ x5 ∧ x5 < 1280) <|
  if (gA σ0 241 x5) = (2 : Int) then (ck (inR ((4 : Int) * x5)) <|
  ck (inR (((4 : Int) * x5) + x6)) <|
  ck (0 ≤ (((4 : Int) * x5) + x6) ∧ (((4 : Int) * x5) + x6) < 5120) <|
  ck (0 ≤ x3 ∧ x3 < 1400) <| nx (sA σ0 247 x3 (gA σ0 243 (((4 : Int) * x5) + x6))) fun σ8 =>
  ck (inR (x3 + (1 : Int))) <|
  ck (inR (x6 + (-1 : Int))) <|
  ((b10_numberLetters_114 N K51 n) σ8 (x3 + (1 : Int)) x4 x5 (x6 + (-1 : Int))))
  else ((b10_numberLetters_157 N K51 σ0 x3 x4)))
set_option maxRecDepth 100000 in
theorem u10_numberLetters_114 (X : CX p m meth c cX10_numberLetters 7 none s args wsX10_numberLetters RX10 D (mT cI cZ) noE (va_A (mW h cI cZ σz) sz)) (hA : ∀ z : Nat, s.heap.size ≤ z → va_A (mW h cI cZ σz) sz z) (N : Nat) (K51 : Sg → Int → Int → Option (Sg × Int)) (hK51 : ∀ (τ : Sg) (x3 : Int) (x4 : Int), ok τ → inR x3 → inR x4 → JV l rm10_numberLetters (mW h cI cZ) D (mT cI cZ) σz sz 7 p e s m args below meth c τ 51 [(0, .ref (h 299)), (3, .int (iI x3)), (4, .int (iI x4))] [] (K51 τ x3 x4)) : ∀ (n : Nat) (σ0 : Sg) (x3 : Int) (x4 : Int) (x5 : Int) (x6 : Int), ok σ0 → inR x3 → inR x4 → inR x5 → inR x6 → JV l rm10_numberLetters (mW h cI cZ) D (mT cI cZ) σz sz 7 p e s m args below meth c σ0 114 [(0, .ref (h 299)), (3, .int (iI x3)), (4, .int (iI x4)), (5, .int (iI x5)), (6, .int (iI x6))] [] (b10_numberLetters_114 N K51 n σ0 x3 x4 x5 x6) := by
  intro n
  induction n with
  | zero =>
    intro σ0 x3 x4 x5 x6 k0 hx3 hx4 hx5 hx6 σ9 r9 ho9
    rw [b10_numberLetters_114] at ho9
    cases ho9
  | succ n ih =>
    intro σ0 x3 x4 x5 x6 k0 hx3 hx4 hx5 hx6
    rw [b10_numberLetters_114]
    refine jm_iload (n := 116) X 4 rfl dX10_numberLetters_114 rfl ?_
    refine jm_if_lt (n := 119) (tgt := 157) X dX10_numberLetters_116 (by decide) hx6 rfl (fun c1 => ?_) (fun c1 => ?_)
    · refine jm_perm [0, 1, 2] rfl ?_
      exact u10_numberLetters_157 X hA N K51 hK51 σ0 x3 x4 k0 hx3 hx4
    · refine jm_aload_n (n := 120) X 0 rfl dX10_numberLetters_119 rfl ?_
      refine jm_get (n := 123) X 0 9 41 mW_X10 rfl (by decide) (fun w h => List.mem_cons_of_mem _ (List.mem_append_right _ h)) (List.mem_of_getElem? (i := 5) rfl) rfl dX10_numberLetters_120 rfl ?_
      refine jm_iload (n := 125) X 3 rfl dX10_numberLetters_123 rfl ?_
      refine jm_ald (n := 126) X 20 0 241 mA_241 rfl rfl hx5 dX10_numberLetters_125 rfl (fun h2 => ?_)
      refine jm_iconst (n := 127) X dX10_numberLetters_126 rfl ?_
      refine jm_icmp_ne (n := 130) (tgt := 157) X dX10_numberLetters_127 (by decide) (k0.2 241 _) (by decide) rfl (fun c3 => ?_) (fun c3 => ?_)
      · refine jm_aload_n (n := 131) X 0 rfl dX10_numberLetters_130 rfl ?_
        refine jm_get (n := 134) X 0 9 47 mW_X10 rfl (by decide) (fun w h => List.mem_cons_of_mem _ (List.mem_append_right _ h)) (List.mem_of_getElem? (i := 4) rfl) rfl dX10_numberLetters_131 rfl ?_
        refine jm_iload_n (n := 135) X 1 rfl dX10_numberLetters_134 rfl ?_
        refine jm_aload_n (n := 136) X 0 rfl dX10_numberLetters_135 rfl ?_
        refine jm_get (n := 139) X 0 9 43 mW_X10 rfl (by decide) (fun w h => List.mem_cons_of_mem _ (List.mem_append_right _ h)) (List.mem_of_getElem? (i := 7) rfl) rfl dX10_numberLetters_136 rfl ?_
        refine jm_iconst (n := 140) X dX10_numberLetters_139 rfl ?_
        refine jm_iload (n := 142) X 3 rfl dX10_numberLetters_140 rfl ?_
        refine jm_imul (n := 143) X dX10_numberLetters_142 rfl (fun h4 => ?_)
        refine jm_iload (n := 145) X 4 rfl dX10_numberLetters_143 rfl ?_
        refine jm_iadd (n := 146) X dX10_numberLetters_145 rfl (fun h5 => ?_)
        refine jm_ald (n := 147) X 22 0 243 mA_243 rfl rfl h5 dX10_numberLetters_146 rfl (fun h6 => ?_)
        refine jm_ast (n := 148) X 24 0 247 mA_247 rfl rfl mT_247 k0 hx3 (k0.2 243 _) dX10_numberLetters_147 rfl (fun h7 σ8 k8 => ?_)
        refine jm_iinc (n := 151) (lv' := [(3, .int (iI (x3 + (1 : Int)))), (0, .ref (h 299)), (4, .int (iI x4)), (5, .int (iI x5)), (6, .int (iI x6))]) X 1 rfl dX10_numberLetters_148 (by decide) rfl rfl (fun h9 => ?_)
        refine jm_iinc (n := 154) (lv' := [(6, .int (iI (x6 + (-1 : Int)))), (3, .int (iI (x3 + (1 : Int)))), (0, .ref (h 299)), (4, .int (iI x4)), (5, .int (iI x5))]) X 4 rfl dX10_numberLetters_151 (by decide) rfl rfl (fun h10 => ?_)
        refine jm_goto (n := 114) X dX10_numberLetters_154 (by decide) ?_
        refine jm_perm [2, 1, 3, 4, 0] rfl ?_
        exact ih σ8 (x3 + (1 : Int)) x4 x5 (x6 + (-1 : Int)) k8 h9 hx4 hx5 h10
      · refine jm_perm [0, 1, 2] rfl ?_
        exact u10_numberLetters_157 X hA N K51 hK51 σ0 x3 x4 k0 hx3 hx4
def b10_numberLetters_111 (N : Nat) (K51 : Sg → Int → Int → Option (Sg × Int)) (σ0 : Sg) (x3 : Int) (x4 : Int) (x5 : Int) : Option (Sg × Int) :=
  (b10_numberLetters_114 N K51 N σ0 x3 x4 x5 (3 : Int))
set_option maxRecDepth 100000 in
theorem u10_numberLetters_111 (X : CX p m meth c cX10_numberLetters 7 none s args wsX10_numberLetters RX10 D (mT cI cZ) noE (va_A (mW h cI cZ σz) sz)) (hA : ∀ z : Nat, s.heap.size ≤ z → va_A (mW h cI cZ σz) sz z) (N : Nat) (K51 : Sg → Int → Int → Option (Sg × Int)) (hK51 : ∀ (τ : Sg) (x3 : Int) (x4 : Int), ok τ → inR x3 → inR x4 → JV l rm10_numberLetters (mW h cI cZ) D (mT cI cZ) σz sz 7 p e s m args below meth c τ 51 [(0, .ref (h 299)), (3, .int (iI x3)), (4, .int (iI x4))] [] (K51 τ x3 x4)) (σ0 : Sg) (x3 : Int) (x4 : Int) (x5 : Int) (k0 : ok σ0) (hx3 : inR x3) (hx4 : inR x4) (hx5 : inR x5) : JV l rm10_numberLetters (mW h cI cZ) D (mT cI cZ) σz sz 7 p e s m args below meth c σ0 111 [(0, .ref (h 299)), (3, .int (iI x3)), (4, .int (iI x4)), (5, .int (iI x5))] [] (b10_numberLetters_111 N K51 σ0 x3 x4 x5) := by
  rw [b10_numberLetters_111]
  refine jm_iconst (n := 112) X dX10_numberLetters_111 rfl ?_
  refine jm_istore (n := 114) (lv' := [(6, .int (iI (3 : Int))), (0, .ref (h 299)), (3, .int (iI x3)), (4, .int (iI x4)), (5, .int (iI x5))]) X dX10_numberLetters_112 (by decide) rfl rfl ?_
  refine jm_perm [1, 2, 3, 4, 0] rfl ?_
  exact u10_numberLetters_114 X hA N K51 hK51 N σ0 x3 x4 x5 (3 : Int) k0 hx3 hx4 hx5 (by decide)
def b10_numberLetters_51 (N : Nat) : Nat → Sg → Int → Int → Option (Sg × Int)
  | 0, _, _, _ => none
  | n + 1, σ0, x3, x4 => if x3 ≤ 0 then (some (σ0, 0))
  else (ck (inR (x3 + (-1 : Int))) <|
  ck (0 ≤ (x3 + (-1 : Int)) ∧ (x3 + (-1 : Int)) < 1400) <|
  bd (f10_end N σ0 (gA σ0 247 (x3 + (-1 : Int)))) fun σ4 r4 =>
  ck (0 ≤ r4 ∧ r4 < 1280) <|
  if (gA σ4 249 r4) = 0 then (ck ((1 : Int) = 0 ∨ (1 : Int) = 1) <|
  ck (0 ≤ r4 ∧ r4 < 1280) <| nx (sA σ4 249 r4 (1 : Int)) fun σ9 =>
  ck (0 ≤ r4 ∧ r4 < 1280) <|
  if (gA σ9 241 r4) = (3 : Int) then (ck (0 ≤ r4 ∧ r4 < 1280) <| nx (sA σ9 244 r4 x4) fun σ14 =>
  ck (inR (x4 + (1 : Int))) <|
  (b10_numberLetters_111 N (b10_numberLetters_51 N n) σ14 (x3 + (-1 : Int)) (x4 + (1 : Int)) r4))
  else ((b10_numberLetters_111 N (b10_numberLetters_51 N n) σ9 (x3 + (-1 : Int)) x4 r4)))
  else ((b10_numberLetters_157 N (b10_numberLetters_51 N n) σ4 (x3 + (-1 : Int)) x4)))
set_option maxRecDepth 100000 in
theorem u10_numberLetters_51 (X : CX p m meth c cX10_numberLetters 7 none s args wsX10_numberLetters RX10 D (mT cI cZ) noE (va_A (mW h cI cZ σz) sz)) (hA : ∀ z : Nat, s.heap.size ≤ z → va_A (mW h cI cZ σz) sz z) (N : Nat) : ∀ (n : Nat) (σ0 : Sg) (x3 : Int) (x4 : Int), ok σ0 → inR x3 → inR x4 → JV l rm10_numberLetters (mW h cI cZ) D (mT cI cZ) σz sz 7 p e s m args below meth c σ0 51 [(0, .ref (h 299)), (3, .int (iI x3)), (4, .int (iI x4))] [] (b10_numberLetters_51 N n σ0 x3 x4) := by
  intro n
  induction n with
  | zero =>
    intro σ0 x3 x4 k0 hx3 hx4 σ9 r9 ho9
    rw [b10_numberLetters_51] at ho9
    cases ho9
  | succ n ih =>
    intro σ0 x3 x4 k0 hx3 hx4
    rw [b10_numberLetters_51]
    refine jm_iload_n (n := 52) X 1 rfl dX10_numberLetters_51 rfl ?_
    refine jm_if_le (n := 55) (tgt := 160) X dX10_numberLetters_52 (by decide) hx3 rfl (fun c1 => ?_) (fun c1 => ?_)
    · exact jm_vret X rfl k0 dX10_numberLetters_160
    · refine jm_iinc (n := 58) (lv' := [(3, .int (iI (x3 + (-1 : Int)))), (0, .ref (h 299)), (4, .int (iI x4))]) X 1 rfl dX10_numberLetters_55 (by decide) rfl rfl (fun h2 => ?_)
      refine jm_aload_n (n := 59) X 1 rfl dX10_numberLetters_58 rfl ?_
      refine jm_aload_n (n := 60) X 1 rfl dX10_numberLetters_59 rfl ?_
      refine jm_get (n := 63) X 0 9 47 mW_X10 rfl (by decide) (fun w h => List.mem_cons_of_mem _ (List.mem_append_right _ h)) (List.mem_of_getElem? (i := 4) rfl) rfl dX10_numberLetters_60 rfl ?_
      refine jm_iload_n (n := 64) X 0 rfl dX10_numberLetters_63 rfl ?_
      refine jm_ald (n := 65) X 24 0 247 mA_247 rfl rfl h2 dX10_numberLetters_64 rfl (fun h3 => ?_)
      refine jm_callVi (n := 68) (vs := [.int (iI (gA σ0 247 (x3 + (-1 : Int))))]) (rest := []) X hA (t10_end l N k0 (k0.2 247 _)) (cwV 1 X.2.2.2.2.1 gX10_numberLetters_X10_end rfl rfl rfl (by decide +kernel) ⟨Nat.le_of_ble_eq_true rfl, Nat.le_of_ble_eq_true rfl⟩) 0 9 mW_X10 rfl rfl (Nat.le_of_ble_eq_true rfl) dX10_numberLetters_65 rfl (fun σ4 r4 k4 h5 => ?_)
      refine jm_istore (n := 70) (lv' := [(5, .int (iI r4)), (3, .int (iI (x3 + (-1 : Int)))), (0, .ref (h 299)), (4, .int (iI x4))]) X dX10_numberLetters_68 (by decide) rfl rfl ?_
      refine jm_aload_n (n := 71) X 2 rfl dX10_numberLetters_70 rfl ?_
      refine jm_get (n := 74) X 0 9 49 mW_X10 rfl (by decide) (fun w h => List.mem_cons_of_mem _ (List.mem_append_right _ h)) (List.mem_of_getElem? (i := 3) rfl) rfl dX10_numberLetters_71 rfl ?_
      refine jm_iload (n := 76) X 0 rfl dX10_numberLetters_74 rfl ?_
      refine jm_zald (n := 77) X 26 1 249 mA_249 rfl rfl h5 dX10_numberLetters_76 rfl (fun h6 => ?_)
      refine jm_if_ne (n := 80) (tgt := 157) X dX10_numberLetters_77 (by decide) (k4.2 249 _) rfl (fun c7 => ?_) (fun c7 => ?_)
      · refine jm_aload_n (n := 81) X 2 rfl dX10_numberLetters_80 rfl ?_
        refine jm_get (n := 84) X 0 9 49 mW_X10 rfl (by decide) (fun w h => List.mem_cons_of_mem _ (List.mem_append_right _ h)) (List.mem_of_getElem? (i := 3) rfl) rfl dX10_numberLetters_81 rfl ?_
        refine jm_iload (n := 86) X 0 rfl dX10_numberLetters_84 rfl ?_
        refine jm_iconst (n := 87) X dX10_numberLetters_86 rfl ?_
        refine jm_ck (fun h10 => ?_)
        refine jm_zast (n := 88) X 26 1 249 mA_249 rfl rfl mT_249 k4 h5 h10 dX10_numberLetters_87 rfl (fun h8 σ9 k9 => ?_)
        refine jm_aload_n (n := 89) X 2 rfl dX10_numberLetters_88 rfl ?_
        refine jm_get (n := 92) X 0 9 41 mW_X10 rfl (by decide) (fun w h => List.mem_cons_of_mem _ (List.mem_append_right _ h)) (List.mem_of_getElem? (i := 5) rfl) rfl dX10_numberLetters_89 rfl ?_
        refine jm_iload (n := 94) X 0 rfl dX10_numberLetters_92 rfl ?_
        refine jm_ald (n := 95) X 20 0 241 mA_241 rfl rfl h5 dX10_numberLetters_94 rfl (fun h11 => ?_)
        refine jm_iconst (n := 96) X dX10_numberLetters_95 rfl ?_
        refine jm_icmp_ne (n := 99) (tgt := 111) X dX10_numberLetters_96 (by decide) (k9.2 241 _) (by decide) rfl (fun c12 => ?_) (fun c12 => ?_)
        · refine jm_aload_n (n := 100) X 2 rfl dX10_numberLetters_99 rfl ?_
          refine jm_get (n := 103) X 0 9 44 mW_X10 rfl (by decide) (fun w h => List.mem_cons_of_mem _ (List.mem_append_right _ h)) (List.mem_of_getElem? (i := 6) rfl) rfl dX10_numberLetters_100 rfl ?_
          refine jm_iload (n := 105) X 0 rfl dX10_numberLetters_103 rfl ?_
          refine jm_iload (n := 107) X 3 rfl dX10_numberLetters_105 rfl ?_
          refine jm_ast (n := 108) X 23 0 244 mA_244 rfl rfl mT_244 k9 h5 hx4 dX10_numberLetters_107 rfl (fun h13 σ14 k14 => ?_)
          refine jm_iinc (n := 111) (lv' := [(4, .int (iI (x4 + (1 : Int)))), (5, .int (iI r4)), (3, .int (iI (x3 + (-1 : Int)))), (0, .ref (h 299))]) X 3 rfl dX10_numberLetters_108 (by decide) rfl rfl (fun h15 => ?_)
          refine jm_perm [3, 2, 0, 1] rfl ?_
          exact u10_numberLetters_111 X hA N (b10_numberLetters_51 N n) ih σ14 (x3 + (-1 : Int)) (x4 + (1 : Int)) r4 k14 h2 h15 h5
        · refine jm_perm [2, 1, 3, 0] rfl ?_
          exact u10_numberLetters_111 X hA N (b10_numberLetters_51 N n) ih σ9 (x3 + (-1 : Int)) x4 r4 k9 h2 hx4 h5
      · refine jm_perm [2, 1, 3] rfl ?_
        exact u10_numberLetters_157 X hA N (b10_numberLetters_51 N n) ih σ4 (x3 + (-1 : Int)) x4 k4 h2 hx4
def b10_numberLetters_13 (N : Nat) : Nat → Sg → Int → Int → Int → Option (Sg × Int)
  | 0, _, _, _, _ => none
  | n + 1, σ0, x1, x2, x3 => ck (inR (x2 + (gI σ0 240))) <|
  if (x2 + (gI σ0 240)) ≤ x3 then (ck (0 ≤ (0 : Int) ∧ (0 : Int) < 1400) <| nx (sA σ0 247 (0 : Int) x1) fun σ4 =>
  ck (inR ((0 : Int) + (1 : Int))) <|
  (b10_numberLetters_51 N N σ4 ((0 : Int) + (1 : Int)) (0 : Int)))
  else (ck ((0 : Int) = 0 ∨ (0 : Int) = 1) <|
  ck (0 ≤ x3 ∧ x3 < 1280) <| nx (sA σ0 249 x3 (0 : Int)) fun σ7 =>
  ck (inR (x3 + (1 : Int))) <|
  ((b10_numberLetters_13 N n) σ7 x1 x2 (x3 + (1 : Int))))
set_option maxRecDepth 100000 in
theorem u10_numberLetters_13 (X : CX p m meth c cX10_numberLetters 7 none s args wsX10_numberLetters RX10 D (mT cI cZ) noE (va_A (mW h cI cZ σz) sz)) (hA : ∀ z : Nat, s.heap.size ≤ z → va_A (mW h cI cZ σz) sz z) (N : Nat) : ∀ (n : Nat) (σ0 : Sg) (x1 : Int) (x2 : Int) (x3 : Int), ok σ0 → inR x1 → inR x2 → inR x3 → JV l rm10_numberLetters (mW h cI cZ) D (mT cI cZ) σz sz 7 p e s m args below meth c σ0 13 [(0, .ref (h 299)), (1, .int (iI x1)), (2, .int (iI x2)), (3, .int (iI x3))] [] (b10_numberLetters_13 N n σ0 x1 x2 x3) := by
  intro n
  induction n with
  | zero =>
    intro σ0 x1 x2 x3 k0 hx1 hx2 hx3 σ9 r9 ho9
    rw [b10_numberLetters_13] at ho9
    cases ho9
  | succ n ih =>
    intro σ0 x1 x2 x3 k0 hx1 hx2 hx3
    rw [b10_numberLetters_13]
    refine jm_iload_n (n := 14) X 3 rfl dX10_numberLetters_13 rfl ?_
    refine jm_iload_n (n := 15) X 2 rfl dX10_numberLetters_14 rfl ?_
    refine jm_aload_n (n := 16) X 0 rfl dX10_numberLetters_15 rfl ?_
    refine jm_get (n := 19) X 0 9 40 mW_X10 rfl (by decide) (fun w h => List.mem_cons_of_mem _ (List.mem_append_right _ h)) (List.mem_of_getElem? (i := 2) rfl) rfl dX10_numberLetters_16 rfl ?_
    refine jm_iadd (n := 20) X dX10_numberLetters_19 rfl (fun h1 => ?_)
    refine jm_icmp_ge (n := 23) (tgt := 36) X dX10_numberLetters_20 (by decide) hx3 h1 rfl (fun c2 => ?_) (fun c2 => ?_)
    · refine jm_iconst (n := 37) X dX10_numberLetters_36 rfl ?_
      refine jm_istore_n (n := 38) (lv' := [(3, .int (iI (0 : Int))), (0, .ref (h 299)), (1, .int (iI x1)), (2, .int (iI x2))]) X dX10_numberLetters_37 (by decide) rfl rfl ?_
      refine jm_iconst (n := 39) X dX10_numberLetters_38 rfl ?_
      refine jm_istore (n := 41) (lv' := [(4, .int (iI (0 : Int))), (3, .int (iI (0 : Int))), (0, .ref (h 299)), (1, .int (iI x1)), (2, .int (iI x2))]) X dX10_numberLetters_39 (by decide) rfl rfl ?_
      refine jm_aload_n (n := 42) X 2 rfl dX10_numberLetters_41 rfl ?_
      refine jm_get (n := 45) X 0 9 47 mW_X10 rfl (by decide) (fun w h => List.mem_cons_of_mem _ (List.mem_append_right _ h)) (List.mem_of_getElem? (i := 4) rfl) rfl dX10_numberLetters_42 rfl ?_
      refine jm_iload_n (n := 46) X 1 rfl dX10_numberLetters_45 rfl ?_
      refine jm_iload_n (n := 47) X 3 rfl dX10_numberLetters_46 rfl ?_
      refine jm_ast (n := 48) X 24 0 247 mA_247 rfl rfl mT_247 k0 (by decide) hx1 dX10_numberLetters_47 rfl (fun h3 σ4 k4 => ?_)
      refine jm_iinc (n := 51) (lv' := [(3, .int (iI ((0 : Int) + (1 : Int)))), (4, .int (iI (0 : Int))), (0, .ref (h 299)), (1, .int (iI x1)), (2, .int (iI x2))]) X 1 rfl dX10_numberLetters_48 (by decide) rfl rfl (fun h5 => ?_)
      refine jm_perm [2, 0, 1] rfl ?_
      exact u10_numberLetters_51 X hA N N σ4 ((0 : Int) + (1 : Int)) (0 : Int) k4 h5 (by decide)
    · refine jm_aload_n (n := 24) X 0 rfl dX10_numberLetters_23 rfl ?_
      refine jm_get (n := 27) X 0 9 49 mW_X10 rfl (by decide) (fun w h => List.mem_cons_of_mem _ (List.mem_append_right _ h)) (List.mem_of_getElem? (i := 3) rfl) rfl dX10_numberLetters_24 rfl ?_
      refine jm_iload_n (n := 28) X 3 rfl dX10_numberLetters_27 rfl ?_
      refine jm_iconst (n := 29) X dX10_numberLetters_28 rfl ?_
      refine jm_ck (fun h8 => ?_)
      refine jm_zast (n := 30) X 26 1 249 mA_249 rfl rfl mT_249 k0 hx3 h8 dX10_numberLetters_29 rfl (fun h6 σ7 k7 => ?_)
      refine jm_iinc (n := 33) (lv' := [(3, .int (iI (x3 + (1 : Int)))), (0, .ref (h 299)), (1, .int (iI x1)), (2, .int (iI x2))]) X 3 rfl dX10_numberLetters_30 (by decide) rfl rfl (fun h9 => ?_)
      refine jm_goto (n := 13) X dX10_numberLetters_33 (by decide) ?_
      refine jm_perm [1, 2, 3, 0] rfl ?_
      exact ih σ7 x1 x2 (x3 + (1 : Int)) k7 hx1 hx2 h9
def f10_numberLetters (N : Nat) (σ0 : Sg) (x1 : Int) : Option (Sg × Int) :=
  ck (inR ((1 : Int) - (gI σ0 239))) <|
  ck (inR ((640 : Int) * ((1 : Int) - (gI σ0 239)))) <|
  (b10_numberLetters_13 N N σ0 x1 ((640 : Int) * ((1 : Int) - (gI σ0 239))) ((640 : Int) * ((1 : Int) - (gI σ0 239))))
set_option maxRecDepth 100000 in
theorem t10_numberLetters (l : Launch) {h : Nat → Nat} {cI cZ : ClassId} {D : va_G} (N : Nat) {σ0 : Sg} {x1 : Int} (k0 : ok σ0) (hx1 : inR x1) : ctV noE l (mW h cI cZ) D (mT cI cZ) yX10_numberLetters wsX10_numberLetters rm10_numberLetters [.ref (h 299), .int (iI x1)] σ0 (f10_numberLetters N σ0 x1) := by
  refine of_V noE_ok (own := RX10) (lv := [(0, .ref (h 299)), (1, .int (iI x1))]) (by decide) rfl rfl (Nat.le_of_ble_eq_true rfl) rfl (fun p e s m below meth c sz X hA => ?_)
  rw [f10_numberLetters]
  refine jm_sipush (n := 3) X dX10_numberLetters_0 (by decide) rfl ?_
  refine jm_iconst (n := 4) X dX10_numberLetters_3 rfl ?_
  refine jm_aload_n (n := 5) X 0 rfl dX10_numberLetters_4 rfl ?_
  refine jm_get (n := 8) X 0 9 39 mW_X10 rfl (by decide) (fun w h => List.mem_cons_of_mem _ (List.mem_append_right _ h)) (List.mem_of_getElem? (i := 1) rfl) rfl dX10_numberLetters_5 rfl ?_
  refine jm_isub (n := 9) X dX10_numberLetters_8 rfl (fun h1 => ?_)
  refine jm_imul (n := 10) X dX10_numberLetters_9 rfl (fun h2 => ?_)
  refine jm_istore_n (n := 11) (lv' := [(2, .int (iI ((640 : Int) * ((1 : Int) - (gI σ0 239))))), (0, .ref (h 299)), (1, .int (iI x1))]) X dX10_numberLetters_10 (by decide) rfl rfl ?_
  refine jm_iload_n (n := 12) X 0 rfl dX10_numberLetters_11 rfl ?_
  refine jm_istore_n (n := 13) (lv' := [(3, .int (iI ((640 : Int) * ((1 : Int) - (gI σ0 239))))), (2, .int (iI ((640 : Int) * ((1 : Int) - (gI σ0 239))))), (0, .ref (h 299)), (1, .int (iI x1))]) X dX10_numberLetters_12 (by decide) rfl rfl ?_
  refine jm_perm [2, 3, 1, 0] rfl ?_
  exact u10_numberLetters_13 X hA N N σ0 x1 ((640 : Int) * ((1 : Int) - (gI σ0 239))) ((640 : Int) * ((1 : Int) - (gI σ0 239))) k0 hx1 h2 h2
abbrev rm10_told : Room := { frames := 0, cells := 0, slots := 0, locals := 0 }
def f10_told (σ0 : Sg) (x0 : Int) (x1 : Int) : Option (Sg × Int) :=
  if x0 = (3 : Int) then (ck (inR ((3 : Int) + x1)) <|
  some (σ0, ((3 : Int) + x1)))
  else (some (σ0, x0))
set_option maxRecDepth 100000 in
theorem t10_told (l : Launch) {h : Nat → Nat} {cI cZ : ClassId} {D : va_G} {σ0 : Sg} {x0 : Int} {x1 : Int} (k0 : ok σ0) (hx0 : inR x0) (hx1 : inR x1) : ctI noE l (mW h cI cZ) D (mT cI cZ) yX10_told wsX10_told rm10_told [.int (iI x0), .int (iI x1)] σ0 (f10_told σ0 x0 x1) := by
  refine of_I noE_ok (own := RX10) (lv := [(0, .int (iI x0)), (1, .int (iI x1))]) (by decide) rfl rfl (Nat.le_of_ble_eq_true rfl) rfl (fun p e s m below meth c sz X hA => ?_)
  rw [f10_told]
  refine jm_iload_n (n := 1) X 0 rfl dX10_told_0 rfl ?_
  refine jm_iconst (n := 2) X dX10_told_1 rfl ?_
  refine jm_icmp_ne (n := 5) (tgt := 11) X dX10_told_2 (by decide) hx0 (by decide) rfl (fun c1 => ?_) (fun c1 => ?_)
  · refine jm_iconst (n := 6) X dX10_told_5 rfl ?_
    refine jm_iload_n (n := 7) X 1 rfl dX10_told_6 rfl ?_
    refine jm_iadd (n := 8) X dX10_told_7 rfl (fun h2 => ?_)
    refine jm_goto (n := 12) X dX10_told_8 (by decide) ?_
    exact jm_iret X rfl k0 h2 dX10_told_12
  · refine jm_iload_n (n := 12) X 0 rfl dX10_told_11 rfl ?_
    exact jm_iret X rfl k0 hx0 dX10_told_12
abbrev rm10_type : Room := { frames := 5, cells := 0, slots := 0, locals := 133 }
def b10_type_22 (N : Nat) (σ0 : Sg)  : Option (Sg × Int) :=
  bd (f10_fail σ0 (1 : Int)) fun σ1 r1 =>
  some (σ1, r1)
set_option maxRecDepth 100000 in
theorem u10_type_22 (X : CX p m meth c cX10_type 4 (some .int) s args wsX10_type RX10 D (mT cI cZ) noE (va_A (mW h cI cZ σz) sz)) (hA : ∀ z : Nat, s.heap.size ≤ z → va_A (mW h cI cZ σz) sz z) (N : Nat) (σ0 : Sg)  (k0 : ok σ0)  : JI l rm10_type (mW h cI cZ) D (mT cI cZ) σz sz 4 p e s m args below meth c σ0 22 [(0, .ref (h 299))] [] (b10_type_22 N σ0 ) := by
  rw [b10_type_22]
  refine jm_aload_n (n := 23) X 0 rfl dX10_type_22 rfl ?_
  refine jm_iconst (n := 24) X dX10_type_23 rfl ?_
  refine jm_callVi (n := 27) (vs := [.int (iI (1 : Int))]) (rest := []) X hA (t10_fail l k0 (by decide)) (cwV 1 X.2.2.2.2.1 gX10_type_X10_fail rfl rfl rfl (by decide +kernel) ⟨Nat.le_of_ble_eq_true rfl, Nat.le_of_ble_eq_true rfl⟩) 0 9 mW_X10 rfl rfl (Nat.le_of_ble_eq_true rfl) dX10_type_24 rfl (fun σ1 r1 k1 h2 => ?_)
  exact jm_iret X rfl k1 h2 dX10_type_27
def b10_type_108 (N : Nat) (σ0 : Sg) (x3 : Int) (y1 : Int) : Option (Sg × Int) :=
  ck (y1 = 0 ∨ y1 = 1) <|
  nx (sI σ0 246 y1) fun σ1 =>
  if (gI σ1 246) = 0 then (bd (f10_numberLetters N σ1 x3) fun σ4 r4 =>
  ck (inR ((1 : Int) - (gI σ4 239))) <|
  nx (sI σ4 239 ((1 : Int) - (gI σ4 239))) fun σ7 =>
  bd (f10_end N σ7 x3) fun σ8 r8 =>
  nx (sI σ8 245 r8) fun σ10 =>
  ck (inR ((gI σ10 236) + (1 : Int))) <|
  nx (sI σ10 236 ((gI σ10 236) + (1 : Int))) fun σ12 =>
  ck (0 ≤ (gI σ12 245) ∧ (gI σ12 245) < 1280) <|
  some (σ12, (gA σ12 241 (gI σ12 245))))
  else (ck (inR ((gI σ1 237) + (1 : Int))) <|
  nx (sI σ1 237 ((gI σ1 237) + (1 : Int))) fun σ15 =>
  bd (f10_fail σ15 (2 : Int)) fun σ16 r16 =>
  some (σ16, r16))
set_option maxRecDepth 100000 in
theorem u10_type_108 (X : CX p m meth c cX10_type 4 (some .int) s args wsX10_type RX10 D (mT cI cZ) noE (va_A (mW h cI cZ σz) sz)) (hA : ∀ z : Nat, s.heap.size ≤ z → va_A (mW h cI cZ σz) sz z) (N : Nat) (σ0 : Sg) (x3 : Int) (y1 : Int) (k0 : ok σ0) (hx3 : inR x3) (hy1 : inR y1) : JI l rm10_type (mW h cI cZ) D (mT cI cZ) σz sz 4 p e s m args below meth c σ0 108 [(0, .ref (h 299)), (3, .int (iI x3))] [.int (iI y1), .ref (h 299)] (b10_type_108 N σ0 x3 y1) := by
  rw [b10_type_108]
  refine jm_ck (fun h2 => ?_)
  refine jm_put (n := 111) X 0 9 46 246 mW_X10 rfl (by decide) (fun w h => List.mem_cons_of_mem _ (List.mem_append_right _ h)) tyX10 tyX10_ok nmX10 (List.mem_of_getElem? (i := 6) rfl) rfl rfl (narrow_Z h2) (fits_Z h2) (Nat.le_of_ble_eq_true rfl) mS_246 k0 hy1 dX10_type_108 rfl (fun σ1 k1 => ?_)
  refine jm_aload_n (n := 112) X 0 rfl dX10_type_111 rfl ?_
  refine jm_get (n := 115) X 0 9 46 mW_X10 rfl (by decide) (fun w h => List.mem_cons_of_mem _ (List.mem_append_right _ h)) (List.mem_of_getElem? (i := 6) rfl) rfl dX10_type_112 rfl ?_
  refine jm_if_eq (n := 118) (tgt := 134) X dX10_type_115 (by decide) (k1.1 246) rfl (fun c3 => ?_) (fun c3 => ?_)
  · refine jm_aload_n (n := 135) X 0 rfl dX10_type_134 rfl ?_
    refine jm_iload_n (n := 136) X 1 rfl dX10_type_135 rfl ?_
    refine jm_callVv (n := 139) (vs := [.int (iI x3)]) (rest := []) X hA (t10_numberLetters l N k1 hx3) (cwV 1 X.2.2.2.2.1 gX10_type_X10_numberLetters rfl rfl rfl (by decide +kernel) ⟨Nat.le_of_ble_eq_true rfl, Nat.le_of_ble_eq_true rfl⟩) 0 9 mW_X10 rfl rfl (Nat.le_of_ble_eq_true rfl) dX10_type_136 rfl (fun σ4 r4 k4 => ?_)
    refine jm_aload_n (n := 140) X 0 rfl dX10_type_139 rfl ?_
    refine jm_iconst (n := 141) X dX10_type_140 rfl ?_
    refine jm_aload_n (n := 142) X 0 rfl dX10_type_141 rfl ?_
    refine jm_get (n := 145) X 0 9 39 mW_X10 rfl (by decide) (fun w h => List.mem_cons_of_mem _ (List.mem_append_right _ h)) (List.mem_of_getElem? (i := 8) rfl) rfl dX10_type_142 rfl ?_
    refine jm_isub (n := 146) X dX10_type_145 rfl (fun h6 => ?_)
    refine jm_put (n := 149) X 0 9 39 239 mW_X10 rfl (by decide) (fun w h => List.mem_cons_of_mem _ (List.mem_append_right _ h)) tyX10 tyX10_ok nmX10 (List.mem_of_getElem? (i := 8) rfl) rfl rfl rfl rfl (Nat.le_of_ble_eq_true rfl) mS_239 k4 h6 dX10_type_146 rfl (fun σ7 k7 => ?_)
    refine jm_aload_n (n := 150) X 0 rfl dX10_type_149 rfl ?_
    refine jm_aload_n (n := 151) X 0 rfl dX10_type_150 rfl ?_
    refine jm_iload_n (n := 152) X 1 rfl dX10_type_151 rfl ?_
    refine jm_callVi (n := 155) (vs := [.int (iI x3)]) (rest := [.ref (h 299)]) X hA (t10_end l N k7 hx3) (cwV 1 X.2.2.2.2.1 gX10_type_X10_end rfl rfl rfl (by decide +kernel) ⟨Nat.le_of_ble_eq_true rfl, Nat.le_of_ble_eq_true rfl⟩) 0 9 mW_X10 rfl rfl (Nat.le_of_ble_eq_true rfl) dX10_type_152 rfl (fun σ8 r8 k8 h9 => ?_)
    refine jm_put (n := 158) X 0 9 45 245 mW_X10 rfl (by decide) (fun w h => List.mem_cons_of_mem _ (List.mem_append_right _ h)) tyX10 tyX10_ok nmX10 (List.mem_of_getElem? (i := 9) rfl) rfl rfl rfl rfl (Nat.le_of_ble_eq_true rfl) mS_245 k8 h9 dX10_type_155 rfl (fun σ10 k10 => ?_)
    refine jm_aload_n (n := 159) X 0 rfl dX10_type_158 rfl ?_
    refine jm_dup (n := 160) X dX10_type_159 rfl rfl ?_
    refine jm_get (n := 163) X 0 9 36 mW_X10 rfl (by decide) (fun w h => List.mem_cons_of_mem _ (List.mem_append_right _ h)) (List.mem_of_getElem? (i := 10) rfl) rfl dX10_type_160 rfl ?_
    refine jm_iconst (n := 164) X dX10_type_163 rfl ?_
    refine jm_iadd (n := 165) X dX10_type_164 rfl (fun h11 => ?_)
    refine jm_put (n := 168) X 0 9 36 236 mW_X10 rfl (by decide) (fun w h => List.mem_cons_of_mem _ (List.mem_append_right _ h)) tyX10 tyX10_ok nmX10 (List.mem_of_getElem? (i := 10) rfl) rfl rfl rfl rfl (Nat.le_of_ble_eq_true rfl) mS_236 k10 h11 dX10_type_165 rfl (fun σ12 k12 => ?_)
    refine jm_aload_n (n := 169) X 0 rfl dX10_type_168 rfl ?_
    refine jm_get (n := 172) X 0 9 41 mW_X10 rfl (by decide) (fun w h => List.mem_cons_of_mem _ (List.mem_append_right _ h)) (List.mem_of_getElem? (i := 11) rfl) rfl dX10_type_169 rfl ?_
    refine jm_aload_n (n := 173) X 0 rfl dX10_type_172 rfl ?_
    refine jm_get (n := 176) X 0 9 45 mW_X10 rfl (by decide) (fun w h => List.mem_cons_of_mem _ (List.mem_append_right _ h)) (List.mem_of_getElem? (i := 9) rfl) rfl dX10_type_173 rfl ?_
    refine jm_ald (n := 177) X 20 0 241 mA_241 rfl rfl (k12.1 245) dX10_type_176 rfl (fun h13 => ?_)
    exact jm_iret X rfl k12 (k12.2 241 _) dX10_type_177
  · refine jm_aload_n (n := 119) X 0 rfl dX10_type_118 rfl ?_
    refine jm_dup (n := 120) X dX10_type_119 rfl rfl ?_
    refine jm_get (n := 123) X 0 9 37 mW_X10 rfl (by decide) (fun w h => List.mem_cons_of_mem _ (List.mem_append_right _ h)) (List.mem_of_getElem? (i := 7) rfl) rfl dX10_type_120 rfl ?_
    refine jm_iconst (n := 124) X dX10_type_123 rfl ?_
    refine jm_iadd (n := 125) X dX10_type_124 rfl (fun h14 => ?_)
    refine jm_put (n := 128) X 0 9 37 237 mW_X10 rfl (by decide) (fun w h => List.mem_cons_of_mem _ (List.mem_append_right _ h)) tyX10 tyX10_ok nmX10 (List.mem_of_getElem? (i := 7) rfl) rfl rfl rfl rfl (Nat.le_of_ble_eq_true rfl) mS_237 k1 h14 dX10_type_125 rfl (fun σ15 k15 => ?_)
    refine jm_aload_n (n := 129) X 0 rfl dX10_type_128 rfl ?_
    refine jm_iconst (n := 130) X dX10_type_129 rfl ?_
    refine jm_callVi (n := 133) (vs := [.int (iI (2 : Int))]) (rest := []) X hA (t10_fail l k15 (by decide)) (cwV 1 X.2.2.2.2.1 gX10_type_X10_fail rfl rfl rfl (by decide +kernel) ⟨Nat.le_of_ble_eq_true rfl, Nat.le_of_ble_eq_true rfl⟩) 0 9 mW_X10 rfl rfl (Nat.le_of_ble_eq_true rfl) dX10_type_130 rfl (fun σ16 r16 k16 h17 => ?_)
    exact jm_iret X rfl k16 h17 dX10_type_133
def b10_type_103 (N : Nat) (σ0 : Sg) (x3 : Int) : Option (Sg × Int) :=
  (b10_type_108 N σ0 x3 (1 : Int))
set_option maxRecDepth 100000 in
theorem u10_type_103 (X : CX p m meth c cX10_type 4 (some .int) s args wsX10_type RX10 D (mT cI cZ) noE (va_A (mW h cI cZ σz) sz)) (hA : ∀ z : Nat, s.heap.size ≤ z → va_A (mW h cI cZ σz) sz z) (N : Nat) (σ0 : Sg) (x3 : Int) (k0 : ok σ0) (hx3 : inR x3) : JI l rm10_type (mW h cI cZ) D (mT cI cZ) σz sz 4 p e s m args below meth c σ0 103 [(0, .ref (h 299)), (3, .int (iI x3))] [.ref (h 299)] (b10_type_103 N σ0 x3) := by
  rw [b10_type_103]
  refine jm_iconst (n := 104) X dX10_type_103 rfl ?_
  refine jm_goto (n := 108) X dX10_type_104 (by decide) ?_
  refine jm_perm [0, 1] rfl ?_
  exact u10_type_108 X hA N σ0 x3 (1 : Int) k0 hx3 (by decide)
def b10_type_88 (N : Nat) (σ0 : Sg) (x3 : Int) : Option (Sg × Int) :=
  if (gI σ0 246) = 0 then (bd (f10_endless N σ0 ) fun σ2 r2 =>
  if r2 = 0 then ((b10_type_108 N σ2 x3 (0 : Int)))
  else ((b10_type_103 N σ2 x3)))
  else ((b10_type_103 N σ0 x3))
set_option maxRecDepth 100000 in
theorem u10_type_88 (X : CX p m meth c cX10_type 4 (some .int) s args wsX10_type RX10 D (mT cI cZ) noE (va_A (mW h cI cZ σz) sz)) (hA : ∀ z : Nat, s.heap.size ≤ z → va_A (mW h cI cZ σz) sz z) (N : Nat) (σ0 : Sg) (x3 : Int) (k0 : ok σ0) (hx3 : inR x3) : JI l rm10_type (mW h cI cZ) D (mT cI cZ) σz sz 4 p e s m args below meth c σ0 88 [(0, .ref (h 299)), (3, .int (iI x3))] [] (b10_type_88 N σ0 x3) := by
  rw [b10_type_88]
  refine jm_aload_n (n := 89) X 0 rfl dX10_type_88 rfl ?_
  refine jm_aload_n (n := 90) X 0 rfl dX10_type_89 rfl ?_
  refine jm_get (n := 93) X 0 9 46 mW_X10 rfl (by decide) (fun w h => List.mem_cons_of_mem _ (List.mem_append_right _ h)) (List.mem_of_getElem? (i := 6) rfl) rfl dX10_type_90 rfl ?_
  refine jm_if_ne (n := 96) (tgt := 103) X dX10_type_93 (by decide) (k0.1 246) rfl (fun c1 => ?_) (fun c1 => ?_)
  · refine jm_aload_n (n := 97) X 0 rfl dX10_type_96 rfl ?_
    refine jm_callVi (n := 100) (vs := []) (rest := [.ref (h 299)]) X hA (t10_endless l N k0 ) (cwV 0 X.2.2.2.2.1 gX10_type_X10_endless rfl rfl rfl (by decide +kernel) ⟨Nat.le_of_ble_eq_true rfl, Nat.le_of_ble_eq_true rfl⟩) 0 9 mW_X10 rfl rfl (Nat.le_of_ble_eq_true rfl) dX10_type_97 rfl (fun σ2 r2 k2 h3 => ?_)
    refine jm_if_eq (n := 103) (tgt := 107) X dX10_type_100 (by decide) h3 rfl (fun c4 => ?_) (fun c4 => ?_)
    · refine jm_iconst (n := 108) X dX10_type_107 rfl ?_
      refine jm_perm [0, 1] rfl ?_
      exact u10_type_108 X hA N σ2 x3 (0 : Int) k2 hx3 (by decide)
    · refine jm_perm [0, 1] rfl ?_
      exact u10_type_103 X hA N σ2 x3 k2 hx3
  · refine jm_perm [0, 1] rfl ?_
    exact u10_type_103 X hA N σ0 x3 k0 hx3
def b10_type_67 (N : Nat) : Nat → Sg → Int → Option (Sg × Int)
  | 0, _, _ => none
  | n + 1, σ0, x3 => if (gI σ0 250) ≤ 0 then ((b10_type_88 N σ0 x3))
  else (if (gI σ0 246) = 0 then (bd (f10_solve N σ0 ) fun σ3 r3 =>
  ((b10_type_67 N n) σ3 x3))
  else ((b10_type_88 N σ0 x3)))
set_option maxRecDepth 100000 in
theorem u10_type_67 (X : CX p m meth c cX10_type 4 (some .int) s args wsX10_type RX10 D (mT cI cZ) noE (va_A (mW h cI cZ σz) sz)) (hA : ∀ z : Nat, s.heap.size ≤ z → va_A (mW h cI cZ σz) sz z) (N : Nat) : ∀ (n : Nat) (σ0 : Sg) (x3 : Int), ok σ0 → inR x3 → JI l rm10_type (mW h cI cZ) D (mT cI cZ) σz sz 4 p e s m args below meth c σ0 67 [(0, .ref (h 299)), (3, .int (iI x3))] [] (b10_type_67 N n σ0 x3) := by
  intro n
  induction n with
  | zero =>
    intro σ0 x3 k0 hx3 σ9 r9 ho9
    rw [b10_type_67] at ho9
    cases ho9
  | succ n ih =>
    intro σ0 x3 k0 hx3
    rw [b10_type_67]
    refine jm_aload_n (n := 68) X 0 rfl dX10_type_67 rfl ?_
    refine jm_get (n := 71) X 0 9 50 mW_X10 rfl (by decide) (fun w h => List.mem_cons_of_mem _ (List.mem_append_right _ h)) (List.mem_of_getElem? (i := 4) rfl) rfl dX10_type_68 rfl ?_
    refine jm_if_le (n := 74) (tgt := 88) X dX10_type_71 (by decide) (k0.1 250) rfl (fun c1 => ?_) (fun c1 => ?_)
    · refine jm_perm [0, 1] rfl ?_
      exact u10_type_88 X hA N σ0 x3 k0 hx3
    · refine jm_aload_n (n := 75) X 0 rfl dX10_type_74 rfl ?_
      refine jm_get (n := 78) X 0 9 46 mW_X10 rfl (by decide) (fun w h => List.mem_cons_of_mem _ (List.mem_append_right _ h)) (List.mem_of_getElem? (i := 6) rfl) rfl dX10_type_75 rfl ?_
      refine jm_if_ne (n := 81) (tgt := 88) X dX10_type_78 (by decide) (k0.1 246) rfl (fun c2 => ?_) (fun c2 => ?_)
      · refine jm_aload_n (n := 82) X 0 rfl dX10_type_81 rfl ?_
        refine jm_callVv (n := 85) (vs := []) (rest := []) X hA (t10_solve l N k0 ) (cwV 0 X.2.2.2.2.1 gX10_type_X10_solve rfl rfl rfl (by decide +kernel) ⟨Nat.le_of_ble_eq_true rfl, Nat.le_of_ble_eq_true rfl⟩) 0 9 mW_X10 rfl rfl (Nat.le_of_ble_eq_true rfl) dX10_type_82 rfl (fun σ3 r3 k3 => ?_)
        refine jm_goto (n := 67) X dX10_type_85 (by decide) ?_
        refine jm_perm [0, 1] rfl ?_
        exact ih σ3 x3 k3 hx3
      · refine jm_perm [0, 1] rfl ?_
        exact u10_type_88 X hA N σ0 x3 k0 hx3
def f10_type (N : Nat) (σ0 : Sg) (x1 : Int) : Option (Sg × Int) :=
  nx (sI σ0 200 (0 : Int)) fun σ1 =>
  bd (f10_isTerm σ1 x1) fun σ2 r2 =>
  if r2 = 0 then ((b10_type_22 N σ2 ))
  else (ck (0 ≤ x1 ∧ x1 < 60) <|
  if (gA σ2 208 x1) ≤ 0 then (nx (sI σ2 240 (0 : Int)) fun σ7 =>
  nx (sI σ7 250 (0 : Int)) fun σ8 =>
  nx (sI σ8 256 (0 : Int)) fun σ9 =>
  ck ((0 : Int) = 0 ∨ (0 : Int) = 1) <|
  nx (sI σ9 246 (0 : Int)) fun σ10 =>
  bd (f10_letterCell σ10 ) fun σ12 r12 =>
  bd (f10_letterCell σ12 ) fun σ14 r14 =>
  bd (f10_goal σ14 x1 (0 : Int) r12 r12 r14) fun σ16 r16 =>
  (b10_type_67 N N σ16 r14))
  else ((b10_type_22 N σ2 )))
set_option maxRecDepth 100000 in
theorem t10_type (l : Launch) {h : Nat → Nat} {cI cZ : ClassId} {D : va_G} (N : Nat) {σ0 : Sg} {x1 : Int} (k0 : ok σ0) (hx1 : inR x1) : ctI noE l (mW h cI cZ) D (mT cI cZ) yX10_type wsX10_type rm10_type [.ref (h 299), .int (iI x1)] σ0 (f10_type N σ0 x1) := by
  refine of_I noE_ok (own := RX10) (lv := [(0, .ref (h 299)), (1, .int (iI x1))]) (by decide) rfl rfl (Nat.le_of_ble_eq_true rfl) rfl (fun p e s m below meth c sz X hA => ?_)
  rw [f10_type]
  refine jm_aload_n (n := 1) X 0 rfl dX10_type_0 rfl ?_
  refine jm_iconst (n := 2) X dX10_type_1 rfl ?_
  refine jm_put (n := 5) X 0 9 0 200 mW_X10 rfl (by decide) (fun w h => List.mem_cons_of_mem _ (List.mem_append_right _ h)) tyX10 tyX10_ok nmX10 (List.mem_of_getElem? (i := 1) rfl) rfl rfl rfl rfl (Nat.le_of_ble_eq_true rfl) mS_200 k0 (by decide) dX10_type_2 rfl (fun σ1 k1 => ?_)
  refine jm_aload_n (n := 6) X 0 rfl dX10_type_5 rfl ?_
  refine jm_iload_n (n := 7) X 1 rfl dX10_type_6 rfl ?_
  refine jm_callVi (n := 10) (vs := [.int (iI x1)]) (rest := []) X hA (t10_isTerm l k1 hx1) (cwV 1 X.2.2.2.2.1 gX10_type_X10_isTerm rfl rfl rfl (by decide +kernel) ⟨Nat.le_of_ble_eq_true rfl, Nat.le_of_ble_eq_true rfl⟩) 0 9 mW_X10 rfl rfl (Nat.le_of_ble_eq_true rfl) dX10_type_7 rfl (fun σ2 r2 k2 h3 => ?_)
  refine jm_if_eq (n := 13) (tgt := 22) X dX10_type_10 (by decide) h3 rfl (fun c4 => ?_) (fun c4 => ?_)
  · refine jm_perm [0] rfl ?_
    exact u10_type_22 X hA N σ2  k2 
  · refine jm_aload_n (n := 14) X 0 rfl dX10_type_13 rfl ?_
    refine jm_get (n := 17) X 0 9 8 mW_X10 rfl (by decide) (fun w h => List.mem_cons_of_mem _ (List.mem_append_right _ h)) (List.mem_of_getElem? (i := 2) rfl) rfl dX10_type_14 rfl ?_
    refine jm_iload_n (n := 18) X 1 rfl dX10_type_17 rfl ?_
    refine jm_ald (n := 19) X 7 0 208 mA_208 rfl rfl hx1 dX10_type_18 rfl (fun h5 => ?_)
    refine jm_if_le (n := 22) (tgt := 28) X dX10_type_19 (by decide) (k2.2 208 _) rfl (fun c6 => ?_) (fun c6 => ?_)
    · refine jm_aload_n (n := 29) X 0 rfl dX10_type_28 rfl ?_
      refine jm_iconst (n := 30) X dX10_type_29 rfl ?_
      refine jm_put (n := 33) X 0 9 40 240 mW_X10 rfl (by decide) (fun w h => List.mem_cons_of_mem _ (List.mem_append_right _ h)) tyX10 tyX10_ok nmX10 (List.mem_of_getElem? (i := 3) rfl) rfl rfl rfl rfl (Nat.le_of_ble_eq_true rfl) mS_240 k2 (by decide) dX10_type_30 rfl (fun σ7 k7 => ?_)
      refine jm_aload_n (n := 34) X 0 rfl dX10_type_33 rfl ?_
      refine jm_iconst (n := 35) X dX10_type_34 rfl ?_
      refine jm_put (n := 38) X 0 9 50 250 mW_X10 rfl (by decide) (fun w h => List.mem_cons_of_mem _ (List.mem_append_right _ h)) tyX10 tyX10_ok nmX10 (List.mem_of_getElem? (i := 4) rfl) rfl rfl rfl rfl (Nat.le_of_ble_eq_true rfl) mS_250 k7 (by decide) dX10_type_35 rfl (fun σ8 k8 => ?_)
      refine jm_aload_n (n := 39) X 0 rfl dX10_type_38 rfl ?_
      refine jm_iconst (n := 40) X dX10_type_39 rfl ?_
      refine jm_put (n := 43) X 0 9 56 256 mW_X10 rfl (by decide) (fun w h => List.mem_cons_of_mem _ (List.mem_append_right _ h)) tyX10 tyX10_ok nmX10 (List.mem_of_getElem? (i := 5) rfl) rfl rfl rfl rfl (Nat.le_of_ble_eq_true rfl) mS_256 k8 (by decide) dX10_type_40 rfl (fun σ9 k9 => ?_)
      refine jm_aload_n (n := 44) X 0 rfl dX10_type_43 rfl ?_
      refine jm_iconst (n := 45) X dX10_type_44 rfl ?_
      refine jm_ck (fun h11 => ?_)
      refine jm_put (n := 48) X 0 9 46 246 mW_X10 rfl (by decide) (fun w h => List.mem_cons_of_mem _ (List.mem_append_right _ h)) tyX10 tyX10_ok nmX10 (List.mem_of_getElem? (i := 6) rfl) rfl rfl (narrow_Z h11) (fits_Z h11) (Nat.le_of_ble_eq_true rfl) mS_246 k9 (by decide) dX10_type_45 rfl (fun σ10 k10 => ?_)
      refine jm_aload_n (n := 49) X 0 rfl dX10_type_48 rfl ?_
      refine jm_callVi (n := 52) (vs := []) (rest := []) X hA (t10_letterCell l k10 ) (cwV 0 X.2.2.2.2.1 gX10_type_X10_letterCell rfl rfl rfl (by decide +kernel) ⟨Nat.le_of_ble_eq_true rfl, Nat.le_of_ble_eq_true rfl⟩) 0 9 mW_X10 rfl rfl (Nat.le_of_ble_eq_true rfl) dX10_type_49 rfl (fun σ12 r12 k12 h13 => ?_)
      refine jm_istore_n (n := 53) (lv' := [(2, .int (iI r12)), (0, .ref (h 299)), (1, .int (iI x1))]) X dX10_type_52 (by decide) rfl rfl ?_
      refine jm_aload_n (n := 54) X 1 rfl dX10_type_53 rfl ?_
      refine jm_callVi (n := 57) (vs := []) (rest := []) X hA (t10_letterCell l k12 ) (cwV 0 X.2.2.2.2.1 gX10_type_X10_letterCell rfl rfl rfl (by decide +kernel) ⟨Nat.le_of_ble_eq_true rfl, Nat.le_of_ble_eq_true rfl⟩) 0 9 mW_X10 rfl rfl (Nat.le_of_ble_eq_true rfl) dX10_type_54 rfl (fun σ14 r14 k14 h15 => ?_)
      refine jm_istore_n (n := 58) (lv' := [(3, .int (iI r14)), (2, .int (iI r12)), (0, .ref (h 299)), (1, .int (iI x1))]) X dX10_type_57 (by decide) rfl rfl ?_
      refine jm_aload_n (n := 59) X 2 rfl dX10_type_58 rfl ?_
      refine jm_iload_n (n := 60) X 3 rfl dX10_type_59 rfl ?_
      refine jm_iconst (n := 61) X dX10_type_60 rfl ?_
      refine jm_iload_n (n := 62) X 1 rfl dX10_type_61 rfl ?_
      refine jm_iload_n (n := 63) X 1 rfl dX10_type_62 rfl ?_
      refine jm_iload_n (n := 64) X 0 rfl dX10_type_63 rfl ?_
      refine jm_callVv (n := 67) (vs := [.int (iI x1), .int (iI (0 : Int)), .int (iI r12), .int (iI r12), .int (iI r14)]) (rest := []) X hA (t10_goal l k14 hx1 (by decide) h13 h13 h15) (cwV 5 X.2.2.2.2.1 gX10_type_X10_goal rfl rfl rfl (by decide +kernel) ⟨Nat.le_of_ble_eq_true rfl, Nat.le_of_ble_eq_true rfl⟩) 0 9 mW_X10 rfl rfl (Nat.le_of_ble_eq_true rfl) dX10_type_64 rfl (fun σ16 r16 k16 => ?_)
      refine jm_perm [2, 0] rfl ?_
      exact u10_type_67 X hA N N σ16 r14 k16 h15
    · refine jm_perm [0] rfl ?_
      exact u10_type_22 X hA N σ2  k2 
abbrev rm10_part : Room := { frames := 1, cells := 0, slots := 0, locals := 22 }
def b10_part_25 (N : Nat) : Nat → Sg → Int → Int → Option (Sg × Int)
  | 0, _, _, _ => none
  | n + 1, σ0, x2, x3 => if x3 ≤ 0 then (ck (0 ≤ x2 ∧ x2 < 1280) <|
  ck (0 ≤ x2 ∧ x2 < 1280) <|
  bd (f10_told σ0 (gA σ0 241 x2) (gA σ0 244 x2)) fun σ4 r4 =>
  some (σ4, r4))
  else (ck (0 ≤ x3) <|
  bd (f10_in σ0 (x3 % (10 : Int)) (1 : Int) (4 : Int)) fun σ7 r7 =>
  if r7 = 0 then (some (σ7, (-1 : Int)))
  else (ck (0 ≤ x2 ∧ x2 < 1280) <|
  if (gA σ7 241 x2) = (2 : Int) then (ck (inR ((4 : Int) * x2)) <|
  ck (inR (((4 : Int) * x2) + (x3 % (10 : Int)))) <|
  ck (inR ((((4 : Int) * x2) + (x3 % (10 : Int))) - (1 : Int))) <|
  ck (0 ≤ ((((4 : Int) * x2) + (x3 % (10 : Int))) - (1 : Int)) ∧ ((((4 : Int) * x2) + (x3 % (10 : Int))) - (1 : Int)) < 5120) <|
  bd (f10_end N σ7 (gA σ7 243 ((((4 : Int) * x2) + (x3 % (10 : Int))) - (1 : Int)))) fun σ16 r16 =>
  ck (0 ≤ x3) <|
  ((b10_part_25 N n) σ16 r16 (x3 / (10 : Int))))
  else (some (σ7, (-1 : Int)))))
set_option maxRecDepth 100000 in
theorem u10_part_25 (X : CX p m meth c cX10_part 5 (some .int) s args wsX10_part RX10 D (mT cI cZ) noE (va_A (mW h cI cZ σz) sz)) (hA : ∀ z : Nat, s.heap.size ≤ z → va_A (mW h cI cZ σz) sz z) (N : Nat) : ∀ (n : Nat) (σ0 : Sg) (x2 : Int) (x3 : Int), ok σ0 → inR x2 → inR x3 → JI l rm10_part (mW h cI cZ) D (mT cI cZ) σz sz 5 p e s m args below meth c σ0 25 [(0, .ref (h 299)), (2, .int (iI x2)), (3, .int (iI x3))] [] (b10_part_25 N n σ0 x2 x3) := by
  intro n
  induction n with
  | zero =>
    intro σ0 x2 x3 k0 hx2 hx3 σ9 r9 ho9
    rw [b10_part_25] at ho9
    cases ho9
  | succ n ih =>
    intro σ0 x2 x3 k0 hx2 hx3
    rw [b10_part_25]
    refine jm_iload_n (n := 26) X 2 rfl dX10_part_25 rfl ?_
    refine jm_if_le (n := 29) (tgt := 83) X dX10_part_26 (by decide) hx3 rfl (fun c1 => ?_) (fun c1 => ?_)
    · refine jm_aload_n (n := 84) X 0 rfl dX10_part_83 rfl ?_
      refine jm_get (n := 87) X 0 9 41 mW_X10 rfl (by decide) (fun w h => List.mem_cons_of_mem _ (List.mem_append_right _ h)) (List.mem_of_getElem? (i := 3) rfl) rfl dX10_part_84 rfl ?_
      refine jm_iload_n (n := 88) X 1 rfl dX10_part_87 rfl ?_
      refine jm_ald (n := 89) X 20 0 241 mA_241 rfl rfl hx2 dX10_part_88 rfl (fun h2 => ?_)
      refine jm_aload_n (n := 90) X 0 rfl dX10_part_89 rfl ?_
      refine jm_get (n := 93) X 0 9 44 mW_X10 rfl (by decide) (fun w h => List.mem_cons_of_mem _ (List.mem_append_right _ h)) (List.mem_of_getElem? (i := 5) rfl) rfl dX10_part_90 rfl ?_
      refine jm_iload_n (n := 94) X 1 rfl dX10_part_93 rfl ?_
      refine jm_ald (n := 95) X 23 0 244 mA_244 rfl rfl hx2 dX10_part_94 rfl (fun h3 => ?_)
      refine jm_callSi (n := 98) (vs := [.int (iI (gA σ0 241 x2)), .int (iI (gA σ0 244 x2))]) (rest := []) X hA (t10_told l k0 (k0.2 241 _) (k0.2 244 _)) (va_cwS 2 X.2.2.2.2.1 gX10_part_X10_told rfl rfl rfl (by decide +kernel) ⟨Nat.le_of_ble_eq_true rfl, Nat.le_of_ble_eq_true rfl⟩) rfl (Nat.le_of_ble_eq_true rfl) dX10_part_95 rfl (fun σ4 r4 k4 h5 => ?_)
      exact jm_iret X rfl k4 h5 dX10_part_98
    · refine jm_iload_n (n := 30) X 2 rfl dX10_part_29 rfl ?_
      refine jm_bipush (n := 32) X dX10_part_30 (by decide) rfl ?_
      refine jm_irem (n := 33) X dX10_part_32 hx3 (by decide) (by decide) rfl (fun h6 => ?_)
      refine jm_istore (n := 35) (lv' := [(4, .int (iI (x3 % (10 : Int)))), (0, .ref (h 299)), (2, .int (iI x2)), (3, .int (iI x3))]) X dX10_part_33 (by decide) rfl rfl ?_
      refine jm_iload (n := 37) X 0 rfl dX10_part_35 rfl ?_
      refine jm_iconst (n := 38) X dX10_part_37 rfl ?_
      refine jm_iconst (n := 39) X dX10_part_38 rfl ?_
      refine jm_callSi (n := 42) (vs := [.int (iI (x3 % (10 : Int))), .int (iI (1 : Int)), .int (iI (4 : Int))]) (rest := []) X hA (t10_in l k0 (in_irem hx3 h6 (by decide)) (by decide) (by decide)) (va_cwS 3 X.2.2.2.2.1 gX10_part_X10_in rfl rfl rfl (by decide +kernel) ⟨Nat.le_of_ble_eq_true rfl, Nat.le_of_ble_eq_true rfl⟩) rfl (Nat.le_of_ble_eq_true rfl) dX10_part_39 rfl (fun σ7 r7 k7 h8 => ?_)
      refine jm_if_eq (n := 45) (tgt := 55) X dX10_part_42 (by decide) h8 rfl (fun c9 => ?_) (fun c9 => ?_)
      · refine jm_iconst (n := 56) X dX10_part_55 rfl ?_
        exact jm_iret X rfl k7 (by decide) dX10_part_56
      · refine jm_aload_n (n := 46) X 1 rfl dX10_part_45 rfl ?_
        refine jm_get (n := 49) X 0 9 41 mW_X10 rfl (by decide) (fun w h => List.mem_cons_of_mem _ (List.mem_append_right _ h)) (List.mem_of_getElem? (i := 3) rfl) rfl dX10_part_46 rfl ?_
        refine jm_iload_n (n := 50) X 2 rfl dX10_part_49 rfl ?_
        refine jm_ald (n := 51) X 20 0 241 mA_241 rfl rfl hx2 dX10_part_50 rfl (fun h10 => ?_)
        refine jm_iconst (n := 52) X dX10_part_51 rfl ?_
        refine jm_icmp_eq (n := 55) (tgt := 57) X dX10_part_52 (by decide) (k7.2 241 _) (by decide) rfl (fun c11 => ?_) (fun c11 => ?_)
        · refine jm_aload_n (n := 58) X 1 rfl dX10_part_57 rfl ?_
          refine jm_aload_n (n := 59) X 1 rfl dX10_part_58 rfl ?_
          refine jm_get (n := 62) X 0 9 43 mW_X10 rfl (by decide) (fun w h => List.mem_cons_of_mem _ (List.mem_append_right _ h)) (List.mem_of_getElem? (i := 4) rfl) rfl dX10_part_59 rfl ?_
          refine jm_iconst (n := 63) X dX10_part_62 rfl ?_
          refine jm_iload_n (n := 64) X 2 rfl dX10_part_63 rfl ?_
          refine jm_imul (n := 65) X dX10_part_64 rfl (fun h12 => ?_)
          refine jm_iload (n := 67) X 0 rfl dX10_part_65 rfl ?_
          refine jm_iadd (n := 68) X dX10_part_67 rfl (fun h13 => ?_)
          refine jm_iconst (n := 69) X dX10_part_68 rfl ?_
          refine jm_isub (n := 70) X dX10_part_69 rfl (fun h14 => ?_)
          refine jm_ald (n := 71) X 22 0 243 mA_243 rfl rfl h14 dX10_part_70 rfl (fun h15 => ?_)
          refine jm_callVi (n := 74) (vs := [.int (iI (gA σ7 243 ((((4 : Int) * x2) + (x3 % (10 : Int))) - (1 : Int))))]) (rest := []) X hA (t10_end l N k7 (k7.2 243 _)) (cwV 1 X.2.2.2.2.1 gX10_part_X10_end rfl rfl rfl (by decide +kernel) ⟨Nat.le_of_ble_eq_true rfl, Nat.le_of_ble_eq_true rfl⟩) 0 9 mW_X10 rfl rfl (Nat.le_of_ble_eq_true rfl) dX10_part_71 rfl (fun σ16 r16 k16 h17 => ?_)
          refine jm_istore_n (n := 75) (lv' := [(2, .int (iI r16)), (4, .int (iI (x3 % (10 : Int)))), (0, .ref (h 299)), (3, .int (iI x3))]) X dX10_part_74 (by decide) rfl rfl ?_
          refine jm_iload_n (n := 76) X 3 rfl dX10_part_75 rfl ?_
          refine jm_bipush (n := 78) X dX10_part_76 (by decide) rfl ?_
          refine jm_idiv (n := 79) X dX10_part_78 hx3 (by decide) (by decide) rfl (fun h18 => ?_)
          refine jm_istore_n (n := 80) (lv' := [(3, .int (iI (x3 / (10 : Int)))), (2, .int (iI r16)), (4, .int (iI (x3 % (10 : Int)))), (0, .ref (h 299))]) X dX10_part_79 (by decide) rfl rfl ?_
          refine jm_goto (n := 25) X dX10_part_80 (by decide) ?_
          refine jm_perm [3, 1, 0] rfl ?_
          exact ih σ16 r16 (x3 / (10 : Int)) k16 h17 (in_idiv hx3 h18 (by decide))
        · refine jm_iconst (n := 56) X dX10_part_55 rfl ?_
          exact jm_iret X rfl k7 (by decide) dX10_part_56
def f10_part (N : Nat) (σ0 : Sg) (x1 : Int) : Option (Sg × Int) :=
  nx (sI σ0 200 (0 : Int)) fun σ1 =>
  if (gI σ1 245) < 0 then (some (σ1, (-1 : Int)))
  else (if 0 ≤ x1 then ((b10_part_25 N N σ1 (gI σ1 245) x1))
  else (some (σ1, (-1 : Int))))
set_option maxRecDepth 100000 in
theorem t10_part (l : Launch) {h : Nat → Nat} {cI cZ : ClassId} {D : va_G} (N : Nat) {σ0 : Sg} {x1 : Int} (k0 : ok σ0) (hx1 : inR x1) : ctI noE l (mW h cI cZ) D (mT cI cZ) yX10_part wsX10_part rm10_part [.ref (h 299), .int (iI x1)] σ0 (f10_part N σ0 x1) := by
  refine of_I noE_ok (own := RX10) (lv := [(0, .ref (h 299)), (1, .int (iI x1))]) (by decide) rfl rfl (Nat.le_of_ble_eq_true rfl) rfl (fun p e s m below meth c sz X hA => ?_)
  rw [f10_part]
  refine jm_aload_n (n := 1) X 0 rfl dX10_part_0 rfl ?_
  refine jm_iconst (n := 2) X dX10_part_1 rfl ?_
  refine jm_put (n := 5) X 0 9 0 200 mW_X10 rfl (by decide) (fun w h => List.mem_cons_of_mem _ (List.mem_append_right _ h)) tyX10 tyX10_ok nmX10 (List.mem_of_getElem? (i := 1) rfl) rfl rfl rfl rfl (Nat.le_of_ble_eq_true rfl) mS_200 k0 (by decide) dX10_part_2 rfl (fun σ1 k1 => ?_)
  refine jm_aload_n (n := 6) X 0 rfl dX10_part_5 rfl ?_
  refine jm_get (n := 9) X 0 9 45 mW_X10 rfl (by decide) (fun w h => List.mem_cons_of_mem _ (List.mem_append_right _ h)) (List.mem_of_getElem? (i := 2) rfl) rfl dX10_part_6 rfl ?_
  refine jm_if_lt (n := 12) (tgt := 16) X dX10_part_9 (by decide) (k1.1 245) rfl (fun c2 => ?_) (fun c2 => ?_)
  · refine jm_iconst (n := 17) X dX10_part_16 rfl ?_
    exact jm_iret X rfl k1 (by decide) dX10_part_17
  · refine jm_iload_n (n := 13) X 1 rfl dX10_part_12 rfl ?_
    refine jm_if_ge (n := 16) (tgt := 18) X dX10_part_13 (by decide) hx1 rfl (fun c3 => ?_) (fun c3 => ?_)
    · refine jm_aload_n (n := 19) X 0 rfl dX10_part_18 rfl ?_
      refine jm_get (n := 22) X 0 9 45 mW_X10 rfl (by decide) (fun w h => List.mem_cons_of_mem _ (List.mem_append_right _ h)) (List.mem_of_getElem? (i := 2) rfl) rfl dX10_part_19 rfl ?_
      refine jm_istore_n (n := 23) (lv' := [(2, .int (iI (gI σ1 245))), (0, .ref (h 299)), (1, .int (iI x1))]) X dX10_part_22 (by decide) rfl rfl ?_
      refine jm_iload_n (n := 24) X 2 rfl dX10_part_23 rfl ?_
      refine jm_istore_n (n := 25) (lv' := [(3, .int (iI x1)), (2, .int (iI (gI σ1 245))), (0, .ref (h 299)), (1, .int (iI x1))]) X dX10_part_24 (by decide) rfl rfl ?_
      refine jm_perm [2, 1, 0] rfl ?_
      exact u10_part_25 X hA N N σ1 (gI σ1 245) x1 k1 (k1.1 245) hx1
    · refine jm_iconst (n := 17) X dX10_part_16 rfl ?_
      exact jm_iret X rfl k1 (by decide) dX10_part_17
abbrev rm10_count : Room := { frames := 0, cells := 0, slots := 0, locals := 0 }
def f10_count (σ0 : Sg) (x1 : Int) : Option (Sg × Int) :=
  nx (sI σ0 200 (0 : Int)) fun σ1 =>
  if x1 = 0 then (some (σ1, (gI σ1 201)))
  else if x1 = 1 then (some (σ1, (gI σ1 233)))
  else if x1 = 2 then (some (σ1, (gI σ1 234)))
  else if x1 = 3 then (some (σ1, (gI σ1 235)))
  else if x1 = 4 then (some (σ1, (gI σ1 236)))
  else if x1 = 5 then (some (σ1, (gI σ1 237)))
  else (some (σ1, (-1 : Int)))
set_option maxRecDepth 100000 in
theorem t10_count (l : Launch) {h : Nat → Nat} {cI cZ : ClassId} {D : va_G} {σ0 : Sg} {x1 : Int} (k0 : ok σ0) (hx1 : inR x1) : ctI noE l (mW h cI cZ) D (mT cI cZ) yX10_count wsX10_count rm10_count [.ref (h 299), .int (iI x1)] σ0 (f10_count σ0 x1) := by
  refine of_I noE_ok (own := RX10) (lv := [(0, .ref (h 299)), (1, .int (iI x1))]) (by decide) rfl rfl (Nat.le_of_ble_eq_true rfl) rfl (fun p e s m below meth c sz X hA => ?_)
  rw [f10_count]
  refine jm_aload_n (n := 1) X 0 rfl dX10_count_0 rfl ?_
  refine jm_iconst (n := 2) X dX10_count_1 rfl ?_
  refine jm_put (n := 5) X 0 9 0 200 mW_X10 rfl (by decide) (fun w h => List.mem_cons_of_mem _ (List.mem_append_right _ h)) tyX10 tyX10_ok nmX10 (List.mem_of_getElem? (i := 1) rfl) rfl rfl rfl rfl (Nat.le_of_ble_eq_true rfl) mS_200 k0 (by decide) dX10_count_2 rfl (fun σ1 k1 => ?_)
  refine jm_iload_n (n := 6) X 1 rfl dX10_count_5 rfl ?_
  refine jm_tcase (tgt := 44) X (0) dX10_count_6 hx1 (by decide) (by decide) rfl (by decide) (fun c2 => ?_) (fun c2 => ?_)
  · refine jm_aload_n (n := 45) X 0 rfl dX10_count_44 rfl ?_
    refine jm_get (n := 48) X 0 9 1 mW_X10 rfl (by decide) (fun w h => List.mem_cons_of_mem _ (List.mem_append_right _ h)) (List.mem_of_getElem? (i := 2) rfl) rfl dX10_count_45 rfl ?_
    exact jm_iret X rfl k1 (k1.1 201) dX10_count_48
  refine jm_tcase (tgt := 49) X (1) dX10_count_6 hx1 (by decide) (by decide) rfl (by decide) (fun c3 => ?_) (fun c3 => ?_)
  · refine jm_aload_n (n := 50) X 0 rfl dX10_count_49 rfl ?_
    refine jm_get (n := 53) X 0 9 33 mW_X10 rfl (by decide) (fun w h => List.mem_cons_of_mem _ (List.mem_append_right _ h)) (List.mem_of_getElem? (i := 3) rfl) rfl dX10_count_50 rfl ?_
    exact jm_iret X rfl k1 (k1.1 233) dX10_count_53
  refine jm_tcase (tgt := 54) X (2) dX10_count_6 hx1 (by decide) (by decide) rfl (by decide) (fun c4 => ?_) (fun c4 => ?_)
  · refine jm_aload_n (n := 55) X 0 rfl dX10_count_54 rfl ?_
    refine jm_get (n := 58) X 0 9 34 mW_X10 rfl (by decide) (fun w h => List.mem_cons_of_mem _ (List.mem_append_right _ h)) (List.mem_of_getElem? (i := 4) rfl) rfl dX10_count_55 rfl ?_
    exact jm_iret X rfl k1 (k1.1 234) dX10_count_58
  refine jm_tcase (tgt := 59) X (3) dX10_count_6 hx1 (by decide) (by decide) rfl (by decide) (fun c5 => ?_) (fun c5 => ?_)
  · refine jm_aload_n (n := 60) X 0 rfl dX10_count_59 rfl ?_
    refine jm_get (n := 63) X 0 9 35 mW_X10 rfl (by decide) (fun w h => List.mem_cons_of_mem _ (List.mem_append_right _ h)) (List.mem_of_getElem? (i := 5) rfl) rfl dX10_count_60 rfl ?_
    exact jm_iret X rfl k1 (k1.1 235) dX10_count_63
  refine jm_tcase (tgt := 64) X (4) dX10_count_6 hx1 (by decide) (by decide) rfl (by decide) (fun c6 => ?_) (fun c6 => ?_)
  · refine jm_aload_n (n := 65) X 0 rfl dX10_count_64 rfl ?_
    refine jm_get (n := 68) X 0 9 36 mW_X10 rfl (by decide) (fun w h => List.mem_cons_of_mem _ (List.mem_append_right _ h)) (List.mem_of_getElem? (i := 6) rfl) rfl dX10_count_65 rfl ?_
    exact jm_iret X rfl k1 (k1.1 236) dX10_count_68
  refine jm_tcase (tgt := 69) X (5) dX10_count_6 hx1 (by decide) (by decide) rfl (by decide) (fun c7 => ?_) (fun c7 => ?_)
  · refine jm_aload_n (n := 70) X 0 rfl dX10_count_69 rfl ?_
    refine jm_get (n := 73) X 0 9 37 mW_X10 rfl (by decide) (fun w h => List.mem_cons_of_mem _ (List.mem_append_right _ h)) (List.mem_of_getElem? (i := 7) rfl) rfl dX10_count_70 rfl ?_
    exact jm_iret X rfl k1 (k1.1 237) dX10_count_73
  refine jm_tout (tgt := 74) X dX10_count_6 hx1 (by decide) (by omega) ?_
  refine jm_iconst (n := 75) X dX10_count_74 rfl ?_
  exact jm_iret X rfl k1 (by decide) dX10_count_75
end
