section
variable {p : Program} {l : Launch} {e : Env} {s : State} {m : MethodId} {args : Array Value} {below : List Frame} {meth : Method} {c : Code} {h : Nat → Nat} {cI cZ : ClassId} {D : va_G} {σz : Sg} {sz : Nat} {t1 t2 : Nat}
abbrev rm10_functionCell : Room := { frames := 1, cells := 0, slots := 0, locals := 22 }
def f10_functionCell (σ0 : Sg) (x1 : Int) (x2 : Int) (x3 : Int) (x4 : Int) : Option (Sg × Int) :=
  bd (f10_cell σ0 (2 : Int)) fun σ1 r1 =>
  ck (inR ((4 : Int) * r1)) <|
  ck (0 ≤ ((4 : Int) * r1) ∧ ((4 : Int) * r1) < 5120) <| nx (sA σ1 243 ((4 : Int) * r1) x1) fun σ5 =>
  ck (inR ((4 : Int) * r1)) <|
  ck (inR (((4 : Int) * r1) + (1 : Int))) <|
  ck (0 ≤ (((4 : Int) * r1) + (1 : Int)) ∧ (((4 : Int) * r1) + (1 : Int)) < 5120) <| nx (sA σ5 243 (((4 : Int) * r1) + (1 : Int)) x2) fun σ9 =>
  ck (inR ((4 : Int) * r1)) <|
  ck (inR (((4 : Int) * r1) + (2 : Int))) <|
  ck (0 ≤ (((4 : Int) * r1) + (2 : Int)) ∧ (((4 : Int) * r1) + (2 : Int)) < 5120) <| nx (sA σ9 243 (((4 : Int) * r1) + (2 : Int)) x3) fun σ13 =>
  ck (inR ((4 : Int) * r1)) <|
  ck (inR (((4 : Int) * r1) + (3 : Int))) <|
  ck (0 ≤ (((4 : Int) * r1) + (3 : Int)) ∧ (((4 : Int) * r1) + (3 : Int)) < 5120) <| nx (sA σ13 243 (((4 : Int) * r1) + (3 : Int)) x4) fun σ17 =>
  some (σ17, r1)
set_option maxRecDepth 100000 in
theorem t10_functionCell (l : Launch) {h : Nat → Nat} {cI cZ : ClassId} {D : va_G} {σ0 : Sg} {x1 : Int} {x2 : Int} {x3 : Int} {x4 : Int} (k0 : ok σ0) (hx1 : inR x1) (hx2 : inR x2) (hx3 : inR x3) (hx4 : inR x4) : ctI noE l (mW h cI cZ) D (mT cI cZ) yX10_functionCell wsX10_functionCell rm10_functionCell [.ref (h 299), .int (iI x1), .int (iI x2), .int (iI x3), .int (iI x4)] σ0 (f10_functionCell σ0 x1 x2 x3 x4) := by
  refine of_I noE_ok (own := RX10) (lv := [(0, .ref (h 299)), (1, .int (iI x1)), (2, .int (iI x2)), (3, .int (iI x3)), (4, .int (iI x4))]) (by decide) rfl rfl (Nat.le_of_ble_eq_true rfl) rfl (fun p e s m below meth c sz X hA => ?_)
  rw [f10_functionCell]
  refine jm_aload_n (n := 1) X 0 rfl dX10_functionCell_0 rfl ?_
  refine jm_iconst (n := 2) X dX10_functionCell_1 rfl ?_
  refine jm_callVi (n := 5) (vs := [.int (iI (2 : Int))]) (rest := []) X hA (t10_cell l k0 (by decide)) (cwV 1 X.2.2.2.2.1 gX10_functionCell_X10_cell rfl rfl rfl (by decide +kernel) ⟨Nat.le_of_ble_eq_true rfl, Nat.le_of_ble_eq_true rfl⟩) 0 9 mW_X10 rfl rfl (Nat.le_of_ble_eq_true rfl) dX10_functionCell_2 rfl (fun σ1 r1 k1 h2 => ?_)
  refine jm_istore (n := 7) (lv' := [(5, .int (iI r1)), (0, .ref (h 299)), (1, .int (iI x1)), (2, .int (iI x2)), (3, .int (iI x3)), (4, .int (iI x4))]) X dX10_functionCell_5 (by decide) rfl rfl ?_
  refine jm_aload_n (n := 8) X 1 rfl dX10_functionCell_7 rfl ?_
  refine jm_get (n := 11) X 0 9 43 mW_X10 rfl (by decide) (fun w h => List.mem_cons_of_mem _ (List.mem_append_right _ h)) (List.mem_of_getElem? (i := 1) rfl) rfl dX10_functionCell_8 rfl ?_
  refine jm_iconst (n := 12) X dX10_functionCell_11 rfl ?_
  refine jm_iload (n := 14) X 0 rfl dX10_functionCell_12 rfl ?_
  refine jm_imul (n := 15) X dX10_functionCell_14 rfl (fun h3 => ?_)
  refine jm_iload_n (n := 16) X 2 rfl dX10_functionCell_15 rfl ?_
  refine jm_ast (n := 17) X 22 0 243 mA_243 rfl rfl mT_243 k1 h3 hx1 dX10_functionCell_16 rfl (fun h4 σ5 k5 => ?_)
  refine jm_aload_n (n := 18) X 1 rfl dX10_functionCell_17 rfl ?_
  refine jm_get (n := 21) X 0 9 43 mW_X10 rfl (by decide) (fun w h => List.mem_cons_of_mem _ (List.mem_append_right _ h)) (List.mem_of_getElem? (i := 1) rfl) rfl dX10_functionCell_18 rfl ?_
  refine jm_iconst (n := 22) X dX10_functionCell_21 rfl ?_
  refine jm_iload (n := 24) X 0 rfl dX10_functionCell_22 rfl ?_
  refine jm_imul (n := 25) X dX10_functionCell_24 rfl (fun h6 => ?_)
  refine jm_iconst (n := 26) X dX10_functionCell_25 rfl ?_
  refine jm_iadd (n := 27) X dX10_functionCell_26 rfl (fun h7 => ?_)
  refine jm_iload_n (n := 28) X 3 rfl dX10_functionCell_27 rfl ?_
  refine jm_ast (n := 29) X 22 0 243 mA_243 rfl rfl mT_243 k5 h7 hx2 dX10_functionCell_28 rfl (fun h8 σ9 k9 => ?_)
  refine jm_aload_n (n := 30) X 1 rfl dX10_functionCell_29 rfl ?_
  refine jm_get (n := 33) X 0 9 43 mW_X10 rfl (by decide) (fun w h => List.mem_cons_of_mem _ (List.mem_append_right _ h)) (List.mem_of_getElem? (i := 1) rfl) rfl dX10_functionCell_30 rfl ?_
  refine jm_iconst (n := 34) X dX10_functionCell_33 rfl ?_
  refine jm_iload (n := 36) X 0 rfl dX10_functionCell_34 rfl ?_
  refine jm_imul (n := 37) X dX10_functionCell_36 rfl (fun h10 => ?_)
  refine jm_iconst (n := 38) X dX10_functionCell_37 rfl ?_
  refine jm_iadd (n := 39) X dX10_functionCell_38 rfl (fun h11 => ?_)
  refine jm_iload_n (n := 40) X 4 rfl dX10_functionCell_39 rfl ?_
  refine jm_ast (n := 41) X 22 0 243 mA_243 rfl rfl mT_243 k9 h11 hx3 dX10_functionCell_40 rfl (fun h12 σ13 k13 => ?_)
  refine jm_aload_n (n := 42) X 1 rfl dX10_functionCell_41 rfl ?_
  refine jm_get (n := 45) X 0 9 43 mW_X10 rfl (by decide) (fun w h => List.mem_cons_of_mem _ (List.mem_append_right _ h)) (List.mem_of_getElem? (i := 1) rfl) rfl dX10_functionCell_42 rfl ?_
  refine jm_iconst (n := 46) X dX10_functionCell_45 rfl ?_
  refine jm_iload (n := 48) X 0 rfl dX10_functionCell_46 rfl ?_
  refine jm_imul (n := 49) X dX10_functionCell_48 rfl (fun h14 => ?_)
  refine jm_iconst (n := 50) X dX10_functionCell_49 rfl ?_
  refine jm_iadd (n := 51) X dX10_functionCell_50 rfl (fun h15 => ?_)
  refine jm_iload (n := 53) X 5 rfl dX10_functionCell_51 rfl ?_
  refine jm_ast (n := 54) X 22 0 243 mA_243 rfl rfl mT_243 k13 h15 hx4 dX10_functionCell_53 rfl (fun h16 σ17 k17 => ?_)
  refine jm_iload (n := 56) X 0 rfl dX10_functionCell_54 rfl ?_
  exact jm_iret X rfl k17 h2 dX10_functionCell_56
abbrev rm10_end : Room := { frames := 0, cells := 0, slots := 0, locals := 0 }
def b10_end_2 (N : Nat) : Nat → Sg → Int → Option (Sg × Int)
  | 0, _, _ => none
  | n + 1, σ0, x2 => ck (0 ≤ x2 ∧ x2 < 1280) <|
  if (gA σ0 242 x2) < 0 then (some (σ0, x2))
  else (ck (0 ≤ x2 ∧ x2 < 1280) <|
  ((b10_end_2 N n) σ0 (gA σ0 242 x2)))
set_option maxRecDepth 100000 in
theorem u10_end_2 (X : CX p m meth c cX10_end 3 (some .int) s args wsX10_end RX10 D (mT cI cZ) noE (va_A (mW h cI cZ σz) sz)) (hA : ∀ z : Nat, s.heap.size ≤ z → va_A (mW h cI cZ σz) sz z) (N : Nat) : ∀ (n : Nat) (σ0 : Sg) (x2 : Int), ok σ0 → inR x2 → JI l rm10_end (mW h cI cZ) D (mT cI cZ) σz sz 3 p e s m args below meth c σ0 2 [(0, .ref (h 299)), (2, .int (iI x2))] [] (b10_end_2 N n σ0 x2) := by
  intro n
  induction n with
  | zero =>
    intro σ0 x2 k0 hx2 σ9 r9 ho9
    rw [b10_end_2] at ho9
    cases ho9
  | succ n ih =>
    intro σ0 x2 k0 hx2
    rw [b10_end_2]
    refine jm_aload_n (n := 3) X 0 rfl dX10_end_2 rfl ?_
    refine jm_get (n := 6) X 0 9 42 mW_X10 rfl (by decide) (fun w h => List.mem_cons_of_mem _ (List.mem_append_right _ h)) (List.mem_of_getElem? (i := 1) rfl) rfl dX10_end_3 rfl ?_
    refine jm_iload_n (n := 7) X 1 rfl dX10_end_6 rfl ?_
    refine jm_ald (n := 8) X 21 0 242 mA_242 rfl rfl hx2 dX10_end_7 rfl (fun h1 => ?_)
    refine jm_if_lt (n := 11) (tgt := 21) X dX10_end_8 (by decide) (k0.2 242 _) rfl (fun c2 => ?_) (fun c2 => ?_)
    · refine jm_iload_n (n := 22) X 1 rfl dX10_end_21 rfl ?_
      exact jm_iret X rfl k0 hx2 dX10_end_22
    · refine jm_aload_n (n := 12) X 0 rfl dX10_end_11 rfl ?_
      refine jm_get (n := 15) X 0 9 42 mW_X10 rfl (by decide) (fun w h => List.mem_cons_of_mem _ (List.mem_append_right _ h)) (List.mem_of_getElem? (i := 1) rfl) rfl dX10_end_12 rfl ?_
      refine jm_iload_n (n := 16) X 1 rfl dX10_end_15 rfl ?_
      refine jm_ald (n := 17) X 21 0 242 mA_242 rfl rfl hx2 dX10_end_16 rfl (fun h3 => ?_)
      refine jm_istore_n (n := 18) (lv' := [(2, .int (iI (gA σ0 242 x2))), (0, .ref (h 299))]) X dX10_end_17 (by decide) rfl rfl ?_
      refine jm_goto (n := 2) X dX10_end_18 (by decide) ?_
      refine jm_perm [1, 0] rfl ?_
      exact ih σ0 (gA σ0 242 x2) k0 (k0.2 242 _)
def f10_end (N : Nat) (σ0 : Sg) (x1 : Int) : Option (Sg × Int) :=
  (b10_end_2 N N σ0 x1)
set_option maxRecDepth 100000 in
theorem t10_end (l : Launch) {h : Nat → Nat} {cI cZ : ClassId} {D : va_G} (N : Nat) {σ0 : Sg} {x1 : Int} (k0 : ok σ0) (hx1 : inR x1) : ctI noE l (mW h cI cZ) D (mT cI cZ) yX10_end wsX10_end rm10_end [.ref (h 299), .int (iI x1)] σ0 (f10_end N σ0 x1) := by
  refine of_I noE_ok (own := RX10) (lv := [(0, .ref (h 299)), (1, .int (iI x1))]) (by decide) rfl rfl (Nat.le_of_ble_eq_true rfl) rfl (fun p e s m below meth c sz X hA => ?_)
  rw [f10_end]
  refine jm_iload_n (n := 1) X 1 rfl dX10_end_0 rfl ?_
  refine jm_istore_n (n := 2) (lv' := [(2, .int (iI x1)), (0, .ref (h 299)), (1, .int (iI x1))]) X dX10_end_1 (by decide) rfl rfl ?_
  refine jm_perm [1, 0] rfl ?_
  exact u10_end_2 X hA N N σ0 x1 k0 hx1
abbrev rm10_contains : Room := { frames := 1, cells := 0, slots := 0, locals := 22 }
def b10_contains_146 (N : Nat) (K54 : Sg → Int → Int → Option (Sg × Int)) (σ0 : Sg) (x2 : Int) (x3 : Int) : Option (Sg × Int) :=
  (K54 σ0 x2 x3)
set_option maxRecDepth 100000 in
theorem u10_contains_146 (X : CX p m meth c cX10_contains 7 (some .boolean) s args wsX10_contains RX10 D (mT cI cZ) noE (va_A (mW h cI cZ σz) sz)) (hA : ∀ z : Nat, s.heap.size ≤ z → va_A (mW h cI cZ σz) sz z) (N : Nat) (K54 : Sg → Int → Int → Option (Sg × Int)) (hK54 : ∀ (τ : Sg) (x2 : Int) (x3 : Int), ok τ → inR x2 → inR x3 → JI l rm10_contains (mW h cI cZ) D (mT cI cZ) σz sz 7 p e s m args below meth c τ 54 [(0, .ref (h 299)), (2, .int (iI x2)), (3, .int (iI x3))] [] (K54 τ x2 x3)) (σ0 : Sg) (x2 : Int) (x3 : Int) (k0 : ok σ0) (hx2 : inR x2) (hx3 : inR x3) : JI l rm10_contains (mW h cI cZ) D (mT cI cZ) σz sz 7 p e s m args below meth c σ0 146 [(0, .ref (h 299)), (2, .int (iI x2)), (3, .int (iI x3))] [] (b10_contains_146 N K54 σ0 x2 x3) := by
  rw [b10_contains_146]
  refine jm_goto (n := 54) X dX10_contains_146 (by decide) ?_
  refine jm_perm [0, 1, 2] rfl ?_
  exact hK54 σ0 x2 x3 k0 hx2 hx3
def b10_contains_113 (N : Nat) (K54 : Sg → Int → Int → Option (Sg × Int)) : Nat → Sg → Int → Int → Int → Int → Option (Sg × Int)
  | 0, _, _, _, _, _ => none
  | n + 1, σ0, x2, x3, x5, x6 => if (4 : Int) ≤ x6 then ((b10_contains_146 N K54 σ0 x2 x3))
  else (ck (inR ((4 : Int) * x5)) <|
  ck (inR (((4 : Int) * x5) + x6)) <|
  ck (0 ≤ (((4 : Int) * x5) + x6) ∧ (((4 : Int) * x5) + x6) < 5120) <|
  ck (0 ≤ x3 ∧ x3 < 1400) <| nx (sA σ0 247 x3 (gA σ0 243 (((4 : Int) * x5) + x6))) fun σ6 =>
  ck (inR (x3 + (1 : Int))) <|
  ck (inR (x6 + (1 : Int))) <|
  ((b10_contains_113 N K54 n) σ6 x2 (x3 + (1 : Int)) x5 (x6 + (1 : Int))))
set_option maxRecDepth 100000 in
theorem u10_contains_113 (X : CX p m meth c cX10_contains 7 (some .boolean) s args wsX10_contains RX10 D (mT cI cZ) noE (va_A (mW h cI cZ σz) sz)) (hA : ∀ z : Nat, s.heap.size ≤ z → va_A (mW h cI cZ σz) sz z) (N : Nat) (K54 : Sg → Int → Int → Option (Sg × Int)) (hK54 : ∀ (τ : Sg) (x2 : Int) (x3 : Int), ok τ → inR x2 → inR x3 → JI l rm10_contains (mW h cI cZ) D (mT cI cZ) σz sz 7 p e s m args below meth c τ 54 [(0, .ref (h 299)), (2, .int (iI x2)), (3, .int (iI x3))] [] (K54 τ x2 x3)) : ∀ (n : Nat) (σ0 : Sg) (x2 : Int) (x3 : Int) (x5 : Int) (x6 : Int), ok σ0 → inR x2 → inR x3 → inR x5 → inR x6 → JI l rm10_contains (mW h cI cZ) D (mT cI cZ) σz sz 7 p e s m args below meth c σ0 113 [(0, .ref (h 299)), (2, .int (iI x2)), (3, .int (iI x3)), (5, .int (iI x5)), (6, .int (iI x6))] [] (b10_contains_113 N K54 n σ0 x2 x3 x5 x6) := by
  intro n
  induction n with
  | zero =>
    intro σ0 x2 x3 x5 x6 k0 hx2 hx3 hx5 hx6 σ9 r9 ho9
    rw [b10_contains_113] at ho9
    cases ho9
  | succ n ih =>
    intro σ0 x2 x3 x5 x6 k0 hx2 hx3 hx5 hx6
    rw [b10_contains_113]
    refine jm_iload (n := 115) X 4 rfl dX10_contains_113 rfl ?_
    refine jm_iconst (n := 116) X dX10_contains_115 rfl ?_
    refine jm_icmp_ge (n := 119) (tgt := 146) X dX10_contains_116 (by decide) hx6 (by decide) rfl (fun c1 => ?_) (fun c1 => ?_)
    · refine jm_perm [0, 1, 2] rfl ?_
      exact u10_contains_146 X hA N K54 hK54 σ0 x2 x3 k0 hx2 hx3
    · refine jm_aload_n (n := 120) X 0 rfl dX10_contains_119 rfl ?_
      refine jm_get (n := 123) X 0 9 47 mW_X10 rfl (by decide) (fun w h => List.mem_cons_of_mem _ (List.mem_append_right _ h)) (List.mem_of_getElem? (i := 4) rfl) rfl dX10_contains_120 rfl ?_
      refine jm_iload_n (n := 124) X 2 rfl dX10_contains_123 rfl ?_
      refine jm_aload_n (n := 125) X 0 rfl dX10_contains_124 rfl ?_
      refine jm_get (n := 128) X 0 9 43 mW_X10 rfl (by decide) (fun w h => List.mem_cons_of_mem _ (List.mem_append_right _ h)) (List.mem_of_getElem? (i := 6) rfl) rfl dX10_contains_125 rfl ?_
      refine jm_iconst (n := 129) X dX10_contains_128 rfl ?_
      refine jm_iload (n := 131) X 3 rfl dX10_contains_129 rfl ?_
      refine jm_imul (n := 132) X dX10_contains_131 rfl (fun h2 => ?_)
      refine jm_iload (n := 134) X 4 rfl dX10_contains_132 rfl ?_
      refine jm_iadd (n := 135) X dX10_contains_134 rfl (fun h3 => ?_)
      refine jm_ald (n := 136) X 22 0 243 mA_243 rfl rfl h3 dX10_contains_135 rfl (fun h4 => ?_)
      refine jm_ast (n := 137) X 24 0 247 mA_247 rfl rfl mT_247 k0 hx3 (k0.2 243 _) dX10_contains_136 rfl (fun h5 σ6 k6 => ?_)
      refine jm_iinc (n := 140) (lv' := [(3, .int (iI (x3 + (1 : Int)))), (0, .ref (h 299)), (2, .int (iI x2)), (5, .int (iI x5)), (6, .int (iI x6))]) X 2 rfl dX10_contains_137 (by decide) rfl rfl (fun h7 => ?_)
      refine jm_iinc (n := 143) (lv' := [(6, .int (iI (x6 + (1 : Int)))), (3, .int (iI (x3 + (1 : Int)))), (0, .ref (h 299)), (2, .int (iI x2)), (5, .int (iI x5))]) X 4 rfl dX10_contains_140 (by decide) rfl rfl (fun h8 => ?_)
      refine jm_goto (n := 113) X dX10_contains_143 (by decide) ?_
      refine jm_perm [2, 3, 1, 4, 0] rfl ?_
      exact ih σ6 x2 (x3 + (1 : Int)) x5 (x6 + (1 : Int)) k6 hx2 h7 hx5 h8
def b10_contains_54 (N : Nat) : Nat → Sg → Int → Int → Option (Sg × Int)
  | 0, _, _, _ => none
  | n + 1, σ0, x2, x3 => if x3 ≤ 0 then (ck ((0 : Int) = 0 ∨ (0 : Int) = 1) (some (σ0, (0 : Int))))
  else (ck (inR (x3 + (-1 : Int))) <|
  ck (0 ≤ (x3 + (-1 : Int)) ∧ (x3 + (-1 : Int)) < 1400) <|
  bd (f10_end N σ0 (gA σ0 247 (x3 + (-1 : Int)))) fun σ4 r4 =>
  if r4 = x2 then (ck ((1 : Int) = 0 ∨ (1 : Int) = 1) (some (σ4, (1 : Int))))
  else (ck (0 ≤ r4 ∧ r4 < 1280) <|
  if (gA σ4 241 r4) = (2 : Int) then (ck (0 ≤ r4 ∧ r4 < 1280) <|
  if (gA σ4 249 r4) = 0 then (ck ((1 : Int) = 0 ∨ (1 : Int) = 1) <|
  ck (0 ≤ r4 ∧ r4 < 1280) <| nx (sA σ4 249 r4 (1 : Int)) fun σ12 =>
  (b10_contains_113 N (b10_contains_54 N n) N σ12 x2 (x3 + (-1 : Int)) r4 (0 : Int)))
  else ((b10_contains_146 N (b10_contains_54 N n) σ4 x2 (x3 + (-1 : Int)))))
  else ((b10_contains_146 N (b10_contains_54 N n) σ4 x2 (x3 + (-1 : Int))))))
set_option maxRecDepth 100000 in
theorem u10_contains_54 (X : CX p m meth c cX10_contains 7 (some .boolean) s args wsX10_contains RX10 D (mT cI cZ) noE (va_A (mW h cI cZ σz) sz)) (hA : ∀ z : Nat, s.heap.size ≤ z → va_A (mW h cI cZ σz) sz z) (N : Nat) : ∀ (n : Nat) (σ0 : Sg) (x2 : Int) (x3 : Int), ok σ0 → inR x2 → inR x3 → JI l rm10_contains (mW h cI cZ) D (mT cI cZ) σz sz 7 p e s m args below meth c σ0 54 [(0, .ref (h 299)), (2, .int (iI x2)), (3, .int (iI x3))] [] (b10_contains_54 N n σ0 x2 x3) := by
  intro n
  induction n with
  | zero =>
    intro σ0 x2 x3 k0 hx2 hx3 σ9 r9 ho9
    rw [b10_contains_54] at ho9
    cases ho9
  | succ n ih =>
    intro σ0 x2 x3 k0 hx2 hx3
    rw [b10_contains_54]
    refine jm_iload_n (n := 55) X 2 rfl dX10_contains_54 rfl ?_
    refine jm_if_le (n := 58) (tgt := 149) X dX10_contains_55 (by decide) hx3 rfl (fun c1 => ?_) (fun c1 => ?_)
    · refine jm_iconst (n := 150) X dX10_contains_149 rfl ?_
      exact jm_zret X rfl k0 dX10_contains_150
    · refine jm_iinc (n := 61) (lv' := [(3, .int (iI (x3 + (-1 : Int)))), (0, .ref (h 299)), (2, .int (iI x2))]) X 2 rfl dX10_contains_58 (by decide) rfl rfl (fun h2 => ?_)
      refine jm_aload_n (n := 62) X 1 rfl dX10_contains_61 rfl ?_
      refine jm_aload_n (n := 63) X 1 rfl dX10_contains_62 rfl ?_
      refine jm_get (n := 66) X 0 9 47 mW_X10 rfl (by decide) (fun w h => List.mem_cons_of_mem _ (List.mem_append_right _ h)) (List.mem_of_getElem? (i := 4) rfl) rfl dX10_contains_63 rfl ?_
      refine jm_iload_n (n := 67) X 0 rfl dX10_contains_66 rfl ?_
      refine jm_ald (n := 68) X 24 0 247 mA_247 rfl rfl h2 dX10_contains_67 rfl (fun h3 => ?_)
      refine jm_callVi (n := 71) (vs := [.int (iI (gA σ0 247 (x3 + (-1 : Int))))]) (rest := []) X hA (t10_end l N k0 (k0.2 247 _)) (cwV 1 X.2.2.2.2.1 gX10_contains_X10_end rfl rfl rfl (by decide +kernel) ⟨Nat.le_of_ble_eq_true rfl, Nat.le_of_ble_eq_true rfl⟩) 0 9 mW_X10 rfl rfl (Nat.le_of_ble_eq_true rfl) dX10_contains_68 rfl (fun σ4 r4 k4 h5 => ?_)
      refine jm_istore (n := 73) (lv' := [(5, .int (iI r4)), (3, .int (iI (x3 + (-1 : Int)))), (0, .ref (h 299)), (2, .int (iI x2))]) X dX10_contains_71 (by decide) rfl rfl ?_
      refine jm_iload (n := 75) X 0 rfl dX10_contains_73 rfl ?_
      refine jm_iload_n (n := 76) X 3 rfl dX10_contains_75 rfl ?_
      refine jm_icmp_ne (n := 79) (tgt := 81) X dX10_contains_76 (by decide) h5 hx2 rfl (fun c6 => ?_) (fun c6 => ?_)
      · refine jm_iconst (n := 80) X dX10_contains_79 rfl ?_
        exact jm_zret X rfl k4 dX10_contains_80
      · refine jm_aload_n (n := 82) X 2 rfl dX10_contains_81 rfl ?_
        refine jm_get (n := 85) X 0 9 41 mW_X10 rfl (by decide) (fun w h => List.mem_cons_of_mem _ (List.mem_append_right _ h)) (List.mem_of_getElem? (i := 5) rfl) rfl dX10_contains_82 rfl ?_
        refine jm_iload (n := 87) X 0 rfl dX10_contains_85 rfl ?_
        refine jm_ald (n := 88) X 20 0 241 mA_241 rfl rfl h5 dX10_contains_87 rfl (fun h7 => ?_)
        refine jm_iconst (n := 89) X dX10_contains_88 rfl ?_
        refine jm_icmp_ne (n := 92) (tgt := 146) X dX10_contains_89 (by decide) (k4.2 241 _) (by decide) rfl (fun c8 => ?_) (fun c8 => ?_)
        · refine jm_aload_n (n := 93) X 2 rfl dX10_contains_92 rfl ?_
          refine jm_get (n := 96) X 0 9 49 mW_X10 rfl (by decide) (fun w h => List.mem_cons_of_mem _ (List.mem_append_right _ h)) (List.mem_of_getElem? (i := 3) rfl) rfl dX10_contains_93 rfl ?_
          refine jm_iload (n := 98) X 0 rfl dX10_contains_96 rfl ?_
          refine jm_zald (n := 99) X 26 1 249 mA_249 rfl rfl h5 dX10_contains_98 rfl (fun h9 => ?_)
          refine jm_if_ne (n := 102) (tgt := 146) X dX10_contains_99 (by decide) (k4.2 249 _) rfl (fun c10 => ?_) (fun c10 => ?_)
          · refine jm_aload_n (n := 103) X 2 rfl dX10_contains_102 rfl ?_
            refine jm_get (n := 106) X 0 9 49 mW_X10 rfl (by decide) (fun w h => List.mem_cons_of_mem _ (List.mem_append_right _ h)) (List.mem_of_getElem? (i := 3) rfl) rfl dX10_contains_103 rfl ?_
            refine jm_iload (n := 108) X 0 rfl dX10_contains_106 rfl ?_
            refine jm_iconst (n := 109) X dX10_contains_108 rfl ?_
            refine jm_ck (fun h13 => ?_)
            refine jm_zast (n := 110) X 26 1 249 mA_249 rfl rfl mT_249 k4 h5 h13 dX10_contains_109 rfl (fun h11 σ12 k12 => ?_)
            refine jm_iconst (n := 111) X dX10_contains_110 rfl ?_
            refine jm_istore (n := 113) (lv' := [(6, .int (iI (0 : Int))), (5, .int (iI r4)), (3, .int (iI (x3 + (-1 : Int)))), (0, .ref (h 299)), (2, .int (iI x2))]) X dX10_contains_111 (by decide) rfl rfl ?_
            refine jm_perm [3, 4, 2, 1, 0] rfl ?_
            exact u10_contains_113 X hA N (b10_contains_54 N n) ih N σ12 x2 (x3 + (-1 : Int)) r4 (0 : Int) k12 hx2 h2 h5 (by decide)
          · refine jm_perm [2, 3, 1] rfl ?_
            exact u10_contains_146 X hA N (b10_contains_54 N n) ih σ4 x2 (x3 + (-1 : Int)) k4 hx2 h2
        · refine jm_perm [2, 3, 1] rfl ?_
          exact u10_contains_146 X hA N (b10_contains_54 N n) ih σ4 x2 (x3 + (-1 : Int)) k4 hx2 h2
def b10_contains_18 (N : Nat) : Nat → Sg → Int → Int → Int → Int → Int → Option (Sg × Int)
  | 0, _, _, _, _, _, _ => none
  | n + 1, σ0, x1, x2, x3, x4, x5 => ck (inR (x4 + (gI σ0 240))) <|
  if (x4 + (gI σ0 240)) ≤ x5 then (ck (0 ≤ x3 ∧ x3 < 1400) <| nx (sA σ0 247 x3 x1) fun σ4 =>
  ck (inR (x3 + (1 : Int))) <|
  (b10_contains_54 N N σ4 x2 (x3 + (1 : Int))))
  else (ck ((0 : Int) = 0 ∨ (0 : Int) = 1) <|
  ck (0 ≤ x5 ∧ x5 < 1280) <| nx (sA σ0 249 x5 (0 : Int)) fun σ7 =>
  ck (inR (x5 + (1 : Int))) <|
  ((b10_contains_18 N n) σ7 x1 x2 x3 x4 (x5 + (1 : Int))))
set_option maxRecDepth 100000 in
theorem u10_contains_18 (X : CX p m meth c cX10_contains 7 (some .boolean) s args wsX10_contains RX10 D (mT cI cZ) noE (va_A (mW h cI cZ σz) sz)) (hA : ∀ z : Nat, s.heap.size ≤ z → va_A (mW h cI cZ σz) sz z) (N : Nat) : ∀ (n : Nat) (σ0 : Sg) (x1 : Int) (x2 : Int) (x3 : Int) (x4 : Int) (x5 : Int), ok σ0 → inR x1 → inR x2 → inR x3 → inR x4 → inR x5 → JI l rm10_contains (mW h cI cZ) D (mT cI cZ) σz sz 7 p e s m args below meth c σ0 18 [(0, .ref (h 299)), (1, .int (iI x1)), (2, .int (iI x2)), (3, .int (iI x3)), (4, .int (iI x4)), (5, .int (iI x5))] [] (b10_contains_18 N n σ0 x1 x2 x3 x4 x5) := by
  intro n
  induction n with
  | zero =>
    intro σ0 x1 x2 x3 x4 x5 k0 hx1 hx2 hx3 hx4 hx5 σ9 r9 ho9
    rw [b10_contains_18] at ho9
    cases ho9
  | succ n ih =>
    intro σ0 x1 x2 x3 x4 x5 k0 hx1 hx2 hx3 hx4 hx5
    rw [b10_contains_18]
    refine jm_iload (n := 20) X 5 rfl dX10_contains_18 rfl ?_
    refine jm_iload (n := 22) X 4 rfl dX10_contains_20 rfl ?_
    refine jm_aload_n (n := 23) X 0 rfl dX10_contains_22 rfl ?_
    refine jm_get (n := 26) X 0 9 40 mW_X10 rfl (by decide) (fun w h => List.mem_cons_of_mem _ (List.mem_append_right _ h)) (List.mem_of_getElem? (i := 2) rfl) rfl dX10_contains_23 rfl ?_
    refine jm_iadd (n := 27) X dX10_contains_26 rfl (fun h1 => ?_)
    refine jm_icmp_ge (n := 30) (tgt := 44) X dX10_contains_27 (by decide) hx5 h1 rfl (fun c2 => ?_) (fun c2 => ?_)
    · refine jm_aload_n (n := 45) X 0 rfl dX10_contains_44 rfl ?_
      refine jm_get (n := 48) X 0 9 47 mW_X10 rfl (by decide) (fun w h => List.mem_cons_of_mem _ (List.mem_append_right _ h)) (List.mem_of_getElem? (i := 4) rfl) rfl dX10_contains_45 rfl ?_
      refine jm_iload_n (n := 49) X 3 rfl dX10_contains_48 rfl ?_
      refine jm_iload_n (n := 50) X 1 rfl dX10_contains_49 rfl ?_
      refine jm_ast (n := 51) X 24 0 247 mA_247 rfl rfl mT_247 k0 hx3 hx1 dX10_contains_50 rfl (fun h3 σ4 k4 => ?_)
      refine jm_iinc (n := 54) (lv' := [(3, .int (iI (x3 + (1 : Int)))), (0, .ref (h 299)), (1, .int (iI x1)), (2, .int (iI x2)), (4, .int (iI x4)), (5, .int (iI x5))]) X 3 rfl dX10_contains_51 (by decide) rfl rfl (fun h5 => ?_)
      refine jm_perm [1, 3, 0] rfl ?_
      exact u10_contains_54 X hA N N σ4 x2 (x3 + (1 : Int)) k4 hx2 h5
    · refine jm_aload_n (n := 31) X 0 rfl dX10_contains_30 rfl ?_
      refine jm_get (n := 34) X 0 9 49 mW_X10 rfl (by decide) (fun w h => List.mem_cons_of_mem _ (List.mem_append_right _ h)) (List.mem_of_getElem? (i := 3) rfl) rfl dX10_contains_31 rfl ?_
      refine jm_iload (n := 36) X 5 rfl dX10_contains_34 rfl ?_
      refine jm_iconst (n := 37) X dX10_contains_36 rfl ?_
      refine jm_ck (fun h8 => ?_)
      refine jm_zast (n := 38) X 26 1 249 mA_249 rfl rfl mT_249 k0 hx5 h8 dX10_contains_37 rfl (fun h6 σ7 k7 => ?_)
      refine jm_iinc (n := 41) (lv' := [(5, .int (iI (x5 + (1 : Int)))), (0, .ref (h 299)), (1, .int (iI x1)), (2, .int (iI x2)), (3, .int (iI x3)), (4, .int (iI x4))]) X 5 rfl dX10_contains_38 (by decide) rfl rfl (fun h9 => ?_)
      refine jm_goto (n := 18) X dX10_contains_41 (by decide) ?_
      refine jm_perm [1, 2, 3, 4, 5, 0] rfl ?_
      exact ih σ7 x1 x2 x3 x4 (x5 + (1 : Int)) k7 hx1 hx2 hx3 hx4 h9
def f10_contains (N : Nat) (σ0 : Sg) (x1 : Int) (x2 : Int) : Option (Sg × Int) :=
  ck (inR ((1 : Int) - (gI σ0 239))) <|
  ck (inR ((640 : Int) * ((1 : Int) - (gI σ0 239)))) <|
  (b10_contains_18 N N σ0 x1 x2 (0 : Int) ((640 : Int) * ((1 : Int) - (gI σ0 239))) ((640 : Int) * ((1 : Int) - (gI σ0 239))))
set_option maxRecDepth 100000 in
theorem t10_contains (l : Launch) {h : Nat → Nat} {cI cZ : ClassId} {D : va_G} (N : Nat) {σ0 : Sg} {x1 : Int} {x2 : Int} (k0 : ok σ0) (hx1 : inR x1) (hx2 : inR x2) : ctI noE l (mW h cI cZ) D (mT cI cZ) yX10_contains wsX10_contains rm10_contains [.ref (h 299), .int (iI x1), .int (iI x2)] σ0 (f10_contains N σ0 x1 x2) := by
  refine of_Z noE_ok (own := RX10) (lv := [(0, .ref (h 299)), (1, .int (iI x1)), (2, .int (iI x2))]) (by decide) rfl rfl (Nat.le_of_ble_eq_true rfl) rfl (fun p e s m below meth c sz X hA => ?_)
  rw [f10_contains]
  refine jm_iconst (n := 1) X dX10_contains_0 rfl ?_
  refine jm_istore_n (n := 2) (lv' := [(3, .int (iI (0 : Int))), (0, .ref (h 299)), (1, .int (iI x1)), (2, .int (iI x2))]) X dX10_contains_1 (by decide) rfl rfl ?_
  refine jm_sipush (n := 5) X dX10_contains_2 (by decide) rfl ?_
  refine jm_iconst (n := 6) X dX10_contains_5 rfl ?_
  refine jm_aload_n (n := 7) X 1 rfl dX10_contains_6 rfl ?_
  refine jm_get (n := 10) X 0 9 39 mW_X10 rfl (by decide) (fun w h => List.mem_cons_of_mem _ (List.mem_append_right _ h)) (List.mem_of_getElem? (i := 1) rfl) rfl dX10_contains_7 rfl ?_
  refine jm_isub (n := 11) X dX10_contains_10 rfl (fun h1 => ?_)
  refine jm_imul (n := 12) X dX10_contains_11 rfl (fun h2 => ?_)
  refine jm_istore (n := 14) (lv' := [(4, .int (iI ((640 : Int) * ((1 : Int) - (gI σ0 239))))), (3, .int (iI (0 : Int))), (0, .ref (h 299)), (1, .int (iI x1)), (2, .int (iI x2))]) X dX10_contains_12 (by decide) rfl rfl ?_
  refine jm_iload (n := 16) X 0 rfl dX10_contains_14 rfl ?_
  refine jm_istore (n := 18) (lv' := [(5, .int (iI ((640 : Int) * ((1 : Int) - (gI σ0 239))))), (4, .int (iI ((640 : Int) * ((1 : Int) - (gI σ0 239))))), (3, .int (iI (0 : Int))), (0, .ref (h 299)), (1, .int (iI x1)), (2, .int (iI x2))]) X dX10_contains_16 (by decide) rfl rfl ?_
  refine jm_perm [3, 4, 5, 2, 1, 0] rfl ?_
  exact u10_contains_18 X hA N N σ0 x1 x2 (0 : Int) ((640 : Int) * ((1 : Int) - (gI σ0 239))) ((640 : Int) * ((1 : Int) - (gI σ0 239))) k0 hx1 hx2 (by decide) h2 h2
abbrev rm10_equal : Room := { frames := 2, cells := 0, slots := 0, locals := 48 }
def b10_equal_253 (N : Nat) (K16 : Sg → Int → Option (Sg × Int)) (σ0 : Sg) (x3 : Int) : Option (Sg × Int) :=
  (K16 σ0 x3)
set_option maxRecDepth 100000 in
theorem u10_equal_253 (X : CX p m meth c cX10_equal 8 none s args wsX10_equal RX10 D (mT cI cZ) noE (va_A (mW h cI cZ σz) sz)) (hA : ∀ z : Nat, s.heap.size ≤ z → va_A (mW h cI cZ σz) sz z) (N : Nat) (K16 : Sg → Int → Option (Sg × Int)) (hK16 : ∀ (τ : Sg) (x3 : Int), ok τ → inR x3 → JV l rm10_equal (mW h cI cZ) D (mT cI cZ) σz sz 8 p e s m args below meth c τ 16 [(0, .ref (h 299)), (3, .int (iI x3))] [] (K16 τ x3)) (σ0 : Sg) (x3 : Int) (k0 : ok σ0) (hx3 : inR x3) : JV l rm10_equal (mW h cI cZ) D (mT cI cZ) σz sz 8 p e s m args below meth c σ0 253 [(0, .ref (h 299)), (3, .int (iI x3))] [] (b10_equal_253 N K16 σ0 x3) := by
  rw [b10_equal_253]
  refine jm_goto (n := 16) X dX10_equal_253 (by decide) ?_
  refine jm_perm [0, 1] rfl ?_
  exact hK16 σ0 x3 k0 hx3
def b10_equal_126 (N : Nat) (K16 : Sg → Int → Option (Sg × Int)) (σ0 : Sg) (x3 : Int) (x6 : Int) (y0 : Int) : Option (Sg × Int) :=
  bd (f10_contains N σ0 y0 x6) fun σ1 r1 =>
  ck (r1 = 0 ∨ r1 = 1) <|
  nx (sI σ1 246 r1) fun σ3 =>
  ck (0 ≤ x6 ∧ x6 < 1280) <| nx (sA σ3 242 x6 y0) fun σ6 =>
  (b10_equal_253 N K16 σ6 x3)
set_option maxRecDepth 100000 in
theorem u10_equal_126 (X : CX p m meth c cX10_equal 8 none s args wsX10_equal RX10 D (mT cI cZ) noE (va_A (mW h cI cZ σz) sz)) (hA : ∀ z : Nat, s.heap.size ≤ z → va_A (mW h cI cZ σz) sz z) (N : Nat) (K16 : Sg → Int → Option (Sg × Int)) (hK16 : ∀ (τ : Sg) (x3 : Int), ok τ → inR x3 → JV l rm10_equal (mW h cI cZ) D (mT cI cZ) σz sz 8 p e s m args below meth c τ 16 [(0, .ref (h 299)), (3, .int (iI x3))] [] (K16 τ x3)) (σ0 : Sg) (x3 : Int) (x6 : Int) (y0 : Int) (k0 : ok σ0) (hx3 : inR x3) (hx6 : inR x6) (hy0 : inR y0) : JV l rm10_equal (mW h cI cZ) D (mT cI cZ) σz sz 8 p e s m args below meth c σ0 126 [(0, .ref (h 299)), (3, .int (iI x3)), (6, .int (iI x6))] [.int (iI y0)] (b10_equal_126 N K16 σ0 x3 x6 y0) := by
  rw [b10_equal_126]
  refine jm_istore (n := 128) (lv' := [(7, .int (iI y0)), (0, .ref (h 299)), (3, .int (iI x3)), (6, .int (iI x6))]) X dX10_equal_126 (by decide) rfl rfl ?_
  refine jm_aload_n (n := 129) X 1 rfl dX10_equal_128 rfl ?_
  refine jm_aload_n (n := 130) X 1 rfl dX10_equal_129 rfl ?_
  refine jm_iload (n := 132) X 0 rfl dX10_equal_130 rfl ?_
  refine jm_iload (n := 134) X 3 rfl dX10_equal_132 rfl ?_
  refine jm_callVi (n := 137) (vs := [.int (iI y0), .int (iI x6)]) (rest := [.ref (h 299)]) X hA (t10_contains l N k0 hy0 hx6) (cwV 2 X.2.2.2.2.1 gX10_equal_X10_contains rfl rfl rfl (by decide +kernel) ⟨Nat.le_of_ble_eq_true rfl, Nat.le_of_ble_eq_true rfl⟩) 0 9 mW_X10 rfl rfl (Nat.le_of_ble_eq_true rfl) dX10_equal_134 rfl (fun σ1 r1 k1 h2 => ?_)
  refine jm_ck (fun h4 => ?_)
  refine jm_put (n := 140) X 0 9 46 246 mW_X10 rfl (by decide) (fun w h => List.mem_cons_of_mem _ (List.mem_append_right _ h)) tyX10 tyX10_ok nmX10 (List.mem_of_getElem? (i := 2) rfl) rfl rfl (narrow_Z h4) (fits_Z h4) (Nat.le_of_ble_eq_true rfl) mS_246 k1 h2 dX10_equal_137 rfl (fun σ3 k3 => ?_)
  refine jm_aload_n (n := 141) X 1 rfl dX10_equal_140 rfl ?_
  refine jm_get (n := 144) X 0 9 42 mW_X10 rfl (by decide) (fun w h => List.mem_cons_of_mem _ (List.mem_append_right _ h)) (List.mem_of_getElem? (i := 4) rfl) rfl dX10_equal_141 rfl ?_
  refine jm_iload (n := 146) X 3 rfl dX10_equal_144 rfl ?_
  refine jm_iload (n := 148) X 0 rfl dX10_equal_146 rfl ?_
  refine jm_ast (n := 149) X 21 0 242 mA_242 rfl rfl mT_242 k3 hx6 hy0 dX10_equal_148 rfl (fun h5 σ6 k6 => ?_)
  refine jm_goto (n := 253) X dX10_equal_149 (by decide) ?_
  refine jm_perm [1, 2] rfl ?_
  exact u10_equal_253 X hA N K16 hK16 σ6 x3 k6 hx3
def b10_equal_106 (N : Nat) (K16 : Sg → Int → Option (Sg × Int)) (σ0 : Sg) (x3 : Int) (x4 : Int) (x5 : Int) (y0 : Int) : Option (Sg × Int) :=
  ck (0 ≤ x4 ∧ x4 < 1280) <|
  if (gA σ0 241 x4) = (3 : Int) then ((b10_equal_126 N K16 σ0 x3 y0 x5))
  else ((b10_equal_126 N K16 σ0 x3 y0 x4))
set_option maxRecDepth 100000 in
theorem u10_equal_106 (X : CX p m meth c cX10_equal 8 none s args wsX10_equal RX10 D (mT cI cZ) noE (va_A (mW h cI cZ σz) sz)) (hA : ∀ z : Nat, s.heap.size ≤ z → va_A (mW h cI cZ σz) sz z) (N : Nat) (K16 : Sg → Int → Option (Sg × Int)) (hK16 : ∀ (τ : Sg) (x3 : Int), ok τ → inR x3 → JV l rm10_equal (mW h cI cZ) D (mT cI cZ) σz sz 8 p e s m args below meth c τ 16 [(0, .ref (h 299)), (3, .int (iI x3))] [] (K16 τ x3)) (σ0 : Sg) (x3 : Int) (x4 : Int) (x5 : Int) (y0 : Int) (k0 : ok σ0) (hx3 : inR x3) (hx4 : inR x4) (hx5 : inR x5) (hy0 : inR y0) : JV l rm10_equal (mW h cI cZ) D (mT cI cZ) σz sz 8 p e s m args below meth c σ0 106 [(0, .ref (h 299)), (3, .int (iI x3)), (4, .int (iI x4)), (5, .int (iI x5))] [.int (iI y0)] (b10_equal_106 N K16 σ0 x3 x4 x5 y0) := by
  rw [b10_equal_106]
  refine jm_istore (n := 108) (lv' := [(6, .int (iI y0)), (0, .ref (h 299)), (3, .int (iI x3)), (4, .int (iI x4)), (5, .int (iI x5))]) X dX10_equal_106 (by decide) rfl rfl ?_
  refine jm_aload_n (n := 109) X 1 rfl dX10_equal_108 rfl ?_
  refine jm_get (n := 112) X 0 9 41 mW_X10 rfl (by decide) (fun w h => List.mem_cons_of_mem _ (List.mem_append_right _ h)) (List.mem_of_getElem? (i := 3) rfl) rfl dX10_equal_109 rfl ?_
  refine jm_iload (n := 114) X 3 rfl dX10_equal_112 rfl ?_
  refine jm_ald (n := 115) X 20 0 241 mA_241 rfl rfl hx4 dX10_equal_114 rfl (fun h1 => ?_)
  refine jm_iconst (n := 116) X dX10_equal_115 rfl ?_
  refine jm_icmp_ne (n := 119) (tgt := 124) X dX10_equal_116 (by decide) (k0.2 241 _) (by decide) rfl (fun c2 => ?_) (fun c2 => ?_)
  · refine jm_iload (n := 121) X 4 rfl dX10_equal_119 rfl ?_
    refine jm_goto (n := 126) X dX10_equal_121 (by decide) ?_
    refine jm_perm [1, 2, 0] rfl ?_
    exact u10_equal_126 X hA N K16 hK16 σ0 x3 y0 x5 k0 hx3 hy0 hx5
  · refine jm_iload (n := 126) X 3 rfl dX10_equal_124 rfl ?_
    refine jm_perm [1, 2, 0] rfl ?_
    exact u10_equal_126 X hA N K16 hK16 σ0 x3 y0 x4 k0 hx3 hy0 hx4
def b10_equal_88 (N : Nat) (K16 : Sg → Int → Option (Sg × Int)) (σ0 : Sg) (x3 : Int) (x4 : Int) (x5 : Int) : Option (Sg × Int) :=
  ck (0 ≤ x4 ∧ x4 < 1280) <|
  if (gA σ0 241 x4) = (3 : Int) then ((b10_equal_106 N K16 σ0 x3 x4 x5 x4))
  else ((b10_equal_106 N K16 σ0 x3 x4 x5 x5))
set_option maxRecDepth 100000 in
theorem u10_equal_88 (X : CX p m meth c cX10_equal 8 none s args wsX10_equal RX10 D (mT cI cZ) noE (va_A (mW h cI cZ σz) sz)) (hA : ∀ z : Nat, s.heap.size ≤ z → va_A (mW h cI cZ σz) sz z) (N : Nat) (K16 : Sg → Int → Option (Sg × Int)) (hK16 : ∀ (τ : Sg) (x3 : Int), ok τ → inR x3 → JV l rm10_equal (mW h cI cZ) D (mT cI cZ) σz sz 8 p e s m args below meth c τ 16 [(0, .ref (h 299)), (3, .int (iI x3))] [] (K16 τ x3)) (σ0 : Sg) (x3 : Int) (x4 : Int) (x5 : Int) (k0 : ok σ0) (hx3 : inR x3) (hx4 : inR x4) (hx5 : inR x5) : JV l rm10_equal (mW h cI cZ) D (mT cI cZ) σz sz 8 p e s m args below meth c σ0 88 [(0, .ref (h 299)), (3, .int (iI x3)), (4, .int (iI x4)), (5, .int (iI x5))] [] (b10_equal_88 N K16 σ0 x3 x4 x5) := by
  rw [b10_equal_88]
  refine jm_aload_n (n := 89) X 0 rfl dX10_equal_88 rfl ?_
  refine jm_get (n := 92) X 0 9 41 mW_X10 rfl (by decide) (fun w h => List.mem_cons_of_mem _ (List.mem_append_right _ h)) (List.mem_of_getElem? (i := 3) rfl) rfl dX10_equal_89 rfl ?_
  refine jm_iload (n := 94) X 2 rfl dX10_equal_92 rfl ?_
  refine jm_ald (n := 95) X 20 0 241 mA_241 rfl rfl hx4 dX10_equal_94 rfl (fun h1 => ?_)
  refine jm_iconst (n := 96) X dX10_equal_95 rfl ?_
  refine jm_icmp_ne (n := 99) (tgt := 104) X dX10_equal_96 (by decide) (k0.2 241 _) (by decide) rfl (fun c2 => ?_) (fun c2 => ?_)
  · refine jm_iload (n := 101) X 2 rfl dX10_equal_99 rfl ?_
    refine jm_goto (n := 106) X dX10_equal_101 (by decide) ?_
    refine jm_perm [0, 1, 2, 3] rfl ?_
    exact u10_equal_106 X hA N K16 hK16 σ0 x3 x4 x5 x4 k0 hx3 hx4 hx5 hx4
  · refine jm_iload (n := 106) X 3 rfl dX10_equal_104 rfl ?_
    refine jm_perm [0, 1, 2, 3] rfl ?_
    exact u10_equal_106 X hA N K16 hK16 σ0 x3 x4 x5 x5 k0 hx3 hx4 hx5 hx5
def b10_equal_200 (N : Nat) (K16 : Sg → Int → Option (Sg × Int)) : Nat → Sg → Int → Int → Int → Int → Option (Sg × Int)
  | 0, _, _, _, _, _ => none
  | n + 1, σ0, x3, x4, x5, x6 => if (4 : Int) ≤ x6 then ((b10_equal_253 N K16 σ0 x3))
  else (ck (inR ((4 : Int) * x4)) <|
  ck (inR (((4 : Int) * x4) + x6)) <|
  ck (0 ≤ (((4 : Int) * x4) + x6) ∧ (((4 : Int) * x4) + x6) < 5120) <|
  ck (0 ≤ x3 ∧ x3 < 2400) <| nx (sA σ0 248 x3 (gA σ0 243 (((4 : Int) * x4) + x6))) fun σ6 =>
  ck (inR (x3 + (1 : Int))) <|
  ck (inR ((4 : Int) * x5)) <|
  ck (inR (((4 : Int) * x5) + x6)) <|
  ck (0 ≤ (((4 : Int) * x5) + x6) ∧ (((4 : Int) * x5) + x6) < 5120) <|
  ck (0 ≤ (x3 + (1 : Int)) ∧ (x3 + (1 : Int)) < 2400) <| nx (sA σ6 248 (x3 + (1 : Int)) (gA σ6 243 (((4 : Int) * x5) + x6))) fun σ12 =>
  ck (inR (x3 + (2 : Int))) <|
  ck (inR (x6 + (1 : Int))) <|
  ((b10_equal_200 N K16 n) σ12 (x3 + (2 : Int)) x4 x5 (x6 + (1 : Int))))
set_option maxRecDepth 100000 in
theorem u10_equal_200 (X : CX p m meth c cX10_equal 8 none s args wsX10_equal RX10 D (mT cI cZ) noE (va_A (mW h cI cZ σz) sz)) (hA : ∀ z : Nat, s.heap.size ≤ z → va_A (mW h cI cZ σz) sz z) (N : Nat) (K16 : Sg → Int → Option (Sg × Int)) (hK16 : ∀ (τ : Sg) (x3 : Int), ok τ → inR x3 → JV l rm10_equal (mW h cI cZ) D (mT cI cZ) σz sz 8 p e s m args below meth c τ 16 [(0, .ref (h 299)), (3, .int (iI x3))] [] (K16 τ x3)) : ∀ (n : Nat) (σ0 : Sg) (x3 : Int) (x4 : Int) (x5 : Int) (x6 : Int), ok σ0 → inR x3 → inR x4 → inR x5 → inR x6 → JV l rm10_equal (mW h cI cZ) D (mT cI cZ) σz sz 8 p e s m args below meth c σ0 200 [(0, .ref (h 299)), (3, .int (iI x3)), (4, .int (iI x4)), (5, .int (iI x5)), (6, .int (iI x6))] [] (b10_equal_200 N K16 n σ0 x3 x4 x5 x6) := by
  intro n
  induction n with
  | zero =>
    intro σ0 x3 x4 x5 x6 k0 hx3 hx4 hx5 hx6 σ9 r9 ho9
    rw [b10_equal_200] at ho9
    cases ho9
  | succ n ih =>
    intro σ0 x3 x4 x5 x6 k0 hx3 hx4 hx5 hx6
    rw [b10_equal_200]
    refine jm_iload (n := 202) X 4 rfl dX10_equal_200 rfl ?_
    refine jm_iconst (n := 203) X dX10_equal_202 rfl ?_
    refine jm_icmp_ge (n := 206) (tgt := 253) X dX10_equal_203 (by decide) hx6 (by decide) rfl (fun c1 => ?_) (fun c1 => ?_)
    · refine jm_perm [0, 1] rfl ?_
      exact u10_equal_253 X hA N K16 hK16 σ0 x3 k0 hx3
    · refine jm_aload_n (n := 207) X 0 rfl dX10_equal_206 rfl ?_
      refine jm_get (n := 210) X 0 9 48 mW_X10 rfl (by decide) (fun w h => List.mem_cons_of_mem _ (List.mem_append_right _ h)) (List.mem_of_getElem? (i := 1) rfl) rfl dX10_equal_207 rfl ?_
      refine jm_iload_n (n := 211) X 1 rfl dX10_equal_210 rfl ?_
      refine jm_aload_n (n := 212) X 0 rfl dX10_equal_211 rfl ?_
      refine jm_get (n := 215) X 0 9 43 mW_X10 rfl (by decide) (fun w h => List.mem_cons_of_mem _ (List.mem_append_right _ h)) (List.mem_of_getElem? (i := 5) rfl) rfl dX10_equal_212 rfl ?_
      refine jm_iconst (n := 216) X dX10_equal_215 rfl ?_
      refine jm_iload (n := 218) X 2 rfl dX10_equal_216 rfl ?_
      refine jm_imul (n := 219) X dX10_equal_218 rfl (fun h2 => ?_)
      refine jm_iload (n := 221) X 4 rfl dX10_equal_219 rfl ?_
      refine jm_iadd (n := 222) X dX10_equal_221 rfl (fun h3 => ?_)
      refine jm_ald (n := 223) X 22 0 243 mA_243 rfl rfl h3 dX10_equal_222 rfl (fun h4 => ?_)
      refine jm_ast (n := 224) X 25 0 248 mA_248 rfl rfl mT_248 k0 hx3 (k0.2 243 _) dX10_equal_223 rfl (fun h5 σ6 k6 => ?_)
      refine jm_aload_n (n := 225) X 0 rfl dX10_equal_224 rfl ?_
      refine jm_get (n := 228) X 0 9 48 mW_X10 rfl (by decide) (fun w h => List.mem_cons_of_mem _ (List.mem_append_right _ h)) (List.mem_of_getElem? (i := 1) rfl) rfl dX10_equal_225 rfl ?_
      refine jm_iload_n (n := 229) X 1 rfl dX10_equal_228 rfl ?_
      refine jm_iconst (n := 230) X dX10_equal_229 rfl ?_
      refine jm_iadd (n := 231) X dX10_equal_230 rfl (fun h7 => ?_)
      refine jm_aload_n (n := 232) X 0 rfl dX10_equal_231 rfl ?_
      refine jm_get (n := 235) X 0 9 43 mW_X10 rfl (by decide) (fun w h => List.mem_cons_of_mem _ (List.mem_append_right _ h)) (List.mem_of_getElem? (i := 5) rfl) rfl dX10_equal_232 rfl ?_
      refine jm_iconst (n := 236) X dX10_equal_235 rfl ?_
      refine jm_iload (n := 238) X 3 rfl dX10_equal_236 rfl ?_
      refine jm_imul (n := 239) X dX10_equal_238 rfl (fun h8 => ?_)
      refine jm_iload (n := 241) X 4 rfl dX10_equal_239 rfl ?_
      refine jm_iadd (n := 242) X dX10_equal_241 rfl (fun h9 => ?_)
      refine jm_ald (n := 243) X 22 0 243 mA_243 rfl rfl h9 dX10_equal_242 rfl (fun h10 => ?_)
      refine jm_ast (n := 244) X 25 0 248 mA_248 rfl rfl mT_248 k6 h7 (k6.2 243 _) dX10_equal_243 rfl (fun h11 σ12 k12 => ?_)
      refine jm_iinc (n := 247) (lv' := [(3, .int (iI (x3 + (2 : Int)))), (0, .ref (h 299)), (4, .int (iI x4)), (5, .int (iI x5)), (6, .int (iI x6))]) X 1 rfl dX10_equal_244 (by decide) rfl rfl (fun h13 => ?_)
      refine jm_iinc (n := 250) (lv' := [(6, .int (iI (x6 + (1 : Int)))), (3, .int (iI (x3 + (2 : Int)))), (0, .ref (h 299)), (4, .int (iI x4)), (5, .int (iI x5))]) X 4 rfl dX10_equal_247 (by decide) rfl rfl (fun h14 => ?_)
      refine jm_goto (n := 200) X dX10_equal_250 (by decide) ?_
      refine jm_perm [2, 1, 3, 4, 0] rfl ?_
      exact ih σ12 (x3 + (2 : Int)) x4 x5 (x6 + (1 : Int)) k12 h13 hx4 hx5 h14
def b10_equal_16 (N : Nat) : Nat → Sg → Int → Option (Sg × Int)
  | 0, _, _ => none
  | n + 1, σ0, x3 => if x3 ≤ 0 then (some (σ0, 0))
  else (if (gI σ0 246) = 0 then (ck (inR (x3 + (-2 : Int))) <|
  ck (0 ≤ (x3 + (-2 : Int)) ∧ (x3 + (-2 : Int)) < 2400) <|
  bd (f10_end N σ0 (gA σ0 248 (x3 + (-2 : Int)))) fun σ5 r5 =>
  ck (inR ((x3 + (-2 : Int)) + (1 : Int))) <|
  ck (0 ≤ ((x3 + (-2 : Int)) + (1 : Int)) ∧ ((x3 + (-2 : Int)) + (1 : Int)) < 2400) <|
  bd (f10_end N σ5 (gA σ5 248 ((x3 + (-2 : Int)) + (1 : Int)))) fun σ9 r9 =>
  if r5 = r9 then (((b10_equal_16 N n) σ9 (x3 + (-2 : Int))))
  else (ck (0 ≤ r5 ∧ r5 < 1280) <|
  if (gA σ9 241 r5) = (3 : Int) then ((b10_equal_88 N (b10_equal_16 N n) σ9 (x3 + (-2 : Int)) r5 r9))
  else (ck (0 ≤ r9 ∧ r9 < 1280) <|
  if (gA σ9 241 r9) = (3 : Int) then ((b10_equal_88 N (b10_equal_16 N n) σ9 (x3 + (-2 : Int)) r5 r9))
  else (ck (0 ≤ r5 ∧ r5 < 1280) <|
  ck (0 ≤ r9 ∧ r9 < 1280) <|
  if (gA σ9 241 r5) = (gA σ9 241 r9) then (ck (0 ≤ r5 ∧ r5 < 1280) <|
  if (gA σ9 241 r5) = (2 : Int) then (ck (0 ≤ r5 ∧ r5 < 1280) <| nx (sA σ9 242 r5 r9) fun σ22 =>
  (b10_equal_200 N (b10_equal_16 N n) N σ22 (x3 + (-2 : Int)) r5 r9 (0 : Int)))
  else ((b10_equal_253 N (b10_equal_16 N n) σ9 (x3 + (-2 : Int)))))
  else (ck ((1 : Int) = 0 ∨ (1 : Int) = 1) <|
  nx (sI σ9 246 (1 : Int)) fun σ23 =>
  (b10_equal_253 N (b10_equal_16 N n) σ23 (x3 + (-2 : Int))))))))
  else (some (σ0, 0)))
set_option maxRecDepth 100000 in
theorem u10_equal_16 (X : CX p m meth c cX10_equal 8 none s args wsX10_equal RX10 D (mT cI cZ) noE (va_A (mW h cI cZ σz) sz)) (hA : ∀ z : Nat, s.heap.size ≤ z → va_A (mW h cI cZ σz) sz z) (N : Nat) : ∀ (n : Nat) (σ0 : Sg) (x3 : Int), ok σ0 → inR x3 → JV l rm10_equal (mW h cI cZ) D (mT cI cZ) σz sz 8 p e s m args below meth c σ0 16 [(0, .ref (h 299)), (3, .int (iI x3))] [] (b10_equal_16 N n σ0 x3) := by
  intro n
  induction n with
  | zero =>
    intro σ0 x3 k0 hx3 σ9 r9 ho9
    rw [b10_equal_16] at ho9
    cases ho9
  | succ n ih =>
    intro σ0 x3 k0 hx3
    rw [b10_equal_16]
    refine jm_iload_n (n := 17) X 1 rfl dX10_equal_16 rfl ?_
    refine jm_if_le (n := 20) (tgt := 256) X dX10_equal_17 (by decide) hx3 rfl (fun c1 => ?_) (fun c1 => ?_)
    · exact jm_vret X rfl k0 dX10_equal_256
    · refine jm_aload_n (n := 21) X 0 rfl dX10_equal_20 rfl ?_
      refine jm_get (n := 24) X 0 9 46 mW_X10 rfl (by decide) (fun w h => List.mem_cons_of_mem _ (List.mem_append_right _ h)) (List.mem_of_getElem? (i := 2) rfl) rfl dX10_equal_21 rfl ?_
      refine jm_if_ne (n := 27) (tgt := 256) X dX10_equal_24 (by decide) (k0.1 246) rfl (fun c2 => ?_) (fun c2 => ?_)
      · refine jm_iinc (n := 30) (lv' := [(3, .int (iI (x3 + (-2 : Int)))), (0, .ref (h 299))]) X 1 rfl dX10_equal_27 (by decide) rfl rfl (fun h3 => ?_)
        refine jm_aload_n (n := 31) X 1 rfl dX10_equal_30 rfl ?_
        refine jm_aload_n (n := 32) X 1 rfl dX10_equal_31 rfl ?_
        refine jm_get (n := 35) X 0 9 48 mW_X10 rfl (by decide) (fun w h => List.mem_cons_of_mem _ (List.mem_append_right _ h)) (List.mem_of_getElem? (i := 1) rfl) rfl dX10_equal_32 rfl ?_
        refine jm_iload_n (n := 36) X 0 rfl dX10_equal_35 rfl ?_
        refine jm_ald (n := 37) X 25 0 248 mA_248 rfl rfl h3 dX10_equal_36 rfl (fun h4 => ?_)
        refine jm_callVi (n := 40) (vs := [.int (iI (gA σ0 248 (x3 + (-2 : Int))))]) (rest := []) X hA (t10_end l N k0 (k0.2 248 _)) (cwV 1 X.2.2.2.2.1 gX10_equal_X10_end rfl rfl rfl (by decide +kernel) ⟨Nat.le_of_ble_eq_true rfl, Nat.le_of_ble_eq_true rfl⟩) 0 9 mW_X10 rfl rfl (Nat.le_of_ble_eq_true rfl) dX10_equal_37 rfl (fun σ5 r5 k5 h6 => ?_)
        refine jm_istore (n := 42) (lv' := [(4, .int (iI r5)), (3, .int (iI (x3 + (-2 : Int)))), (0, .ref (h 299))]) X dX10_equal_40 (by decide) rfl rfl ?_
        refine jm_aload_n (n := 43) X 2 rfl dX10_equal_42 rfl ?_
        refine jm_aload_n (n := 44) X 2 rfl dX10_equal_43 rfl ?_
        refine jm_get (n := 47) X 0 9 48 mW_X10 rfl (by decide) (fun w h => List.mem_cons_of_mem _ (List.mem_append_right _ h)) (List.mem_of_getElem? (i := 1) rfl) rfl dX10_equal_44 rfl ?_
        refine jm_iload_n (n := 48) X 1 rfl dX10_equal_47 rfl ?_
        refine jm_iconst (n := 49) X dX10_equal_48 rfl ?_
        refine jm_iadd (n := 50) X dX10_equal_49 rfl (fun h7 => ?_)
        refine jm_ald (n := 51) X 25 0 248 mA_248 rfl rfl h7 dX10_equal_50 rfl (fun h8 => ?_)
        refine jm_callVi (n := 54) (vs := [.int (iI (gA σ5 248 ((x3 + (-2 : Int)) + (1 : Int))))]) (rest := []) X hA (t10_end l N k5 (k5.2 248 _)) (cwV 1 X.2.2.2.2.1 gX10_equal_X10_end rfl rfl rfl (by decide +kernel) ⟨Nat.le_of_ble_eq_true rfl, Nat.le_of_ble_eq_true rfl⟩) 0 9 mW_X10 rfl rfl (Nat.le_of_ble_eq_true rfl) dX10_equal_51 rfl (fun σ9 r9 k9 h10 => ?_)
        refine jm_istore (n := 56) (lv' := [(5, .int (iI r9)), (4, .int (iI r5)), (3, .int (iI (x3 + (-2 : Int)))), (0, .ref (h 299))]) X dX10_equal_54 (by decide) rfl rfl ?_
        refine jm_iload (n := 58) X 1 rfl dX10_equal_56 rfl ?_
        refine jm_iload (n := 60) X 0 rfl dX10_equal_58 rfl ?_
        refine jm_icmp_ne (n := 63) (tgt := 66) X dX10_equal_60 (by decide) h6 h10 rfl (fun c11 => ?_) (fun c11 => ?_)
        · refine jm_goto (n := 16) X dX10_equal_63 (by decide) ?_
          refine jm_perm [3, 2] rfl ?_
          exact ih σ9 (x3 + (-2 : Int)) k9 h3
        · refine jm_aload_n (n := 67) X 3 rfl dX10_equal_66 rfl ?_
          refine jm_get (n := 70) X 0 9 41 mW_X10 rfl (by decide) (fun w h => List.mem_cons_of_mem _ (List.mem_append_right _ h)) (List.mem_of_getElem? (i := 3) rfl) rfl dX10_equal_67 rfl ?_
          refine jm_iload (n := 72) X 1 rfl dX10_equal_70 rfl ?_
          refine jm_ald (n := 73) X 20 0 241 mA_241 rfl rfl h6 dX10_equal_72 rfl (fun h12 => ?_)
          refine jm_iconst (n := 74) X dX10_equal_73 rfl ?_
          refine jm_icmp_eq (n := 77) (tgt := 88) X dX10_equal_74 (by decide) (k9.2 241 _) (by decide) rfl (fun c13 => ?_) (fun c13 => ?_)
          · refine jm_perm [3, 2, 1, 0] rfl ?_
            exact u10_equal_88 X hA N (b10_equal_16 N n) ih σ9 (x3 + (-2 : Int)) r5 r9 k9 h3 h6 h10
          · refine jm_aload_n (n := 78) X 3 rfl dX10_equal_77 rfl ?_
            refine jm_get (n := 81) X 0 9 41 mW_X10 rfl (by decide) (fun w h => List.mem_cons_of_mem _ (List.mem_append_right _ h)) (List.mem_of_getElem? (i := 3) rfl) rfl dX10_equal_78 rfl ?_
            refine jm_iload (n := 83) X 0 rfl dX10_equal_81 rfl ?_
            refine jm_ald (n := 84) X 20 0 241 mA_241 rfl rfl h10 dX10_equal_83 rfl (fun h14 => ?_)
            refine jm_iconst (n := 85) X dX10_equal_84 rfl ?_
            refine jm_icmp_ne (n := 88) (tgt := 152) X dX10_equal_85 (by decide) (k9.2 241 _) (by decide) rfl (fun c15 => ?_) (fun c15 => ?_)
            · refine jm_perm [3, 2, 1, 0] rfl ?_
              exact u10_equal_88 X hA N (b10_equal_16 N n) ih σ9 (x3 + (-2 : Int)) r5 r9 k9 h3 h6 h10
            · refine jm_aload_n (n := 153) X 3 rfl dX10_equal_152 rfl ?_
              refine jm_get (n := 156) X 0 9 41 mW_X10 rfl (by decide) (fun w h => List.mem_cons_of_mem _ (List.mem_append_right _ h)) (List.mem_of_getElem? (i := 3) rfl) rfl dX10_equal_153 rfl ?_
              refine jm_iload (n := 158) X 1 rfl dX10_equal_156 rfl ?_
              refine jm_ald (n := 159) X 20 0 241 mA_241 rfl rfl h6 dX10_equal_158 rfl (fun h16 => ?_)
              refine jm_aload_n (n := 160) X 3 rfl dX10_equal_159 rfl ?_
              refine jm_get (n := 163) X 0 9 41 mW_X10 rfl (by decide) (fun w h => List.mem_cons_of_mem _ (List.mem_append_right _ h)) (List.mem_of_getElem? (i := 3) rfl) rfl dX10_equal_160 rfl ?_
              refine jm_iload (n := 165) X 0 rfl dX10_equal_163 rfl ?_
              refine jm_ald (n := 166) X 20 0 241 mA_241 rfl rfl h10 dX10_equal_165 rfl (fun h17 => ?_)
              refine jm_icmp_eq (n := 169) (tgt := 177) X dX10_equal_166 (by decide) (k9.2 241 _) (k9.2 241 _) rfl (fun c18 => ?_) (fun c18 => ?_)
              · refine jm_aload_n (n := 178) X 3 rfl dX10_equal_177 rfl ?_
                refine jm_get (n := 181) X 0 9 41 mW_X10 rfl (by decide) (fun w h => List.mem_cons_of_mem _ (List.mem_append_right _ h)) (List.mem_of_getElem? (i := 3) rfl) rfl dX10_equal_178 rfl ?_
                refine jm_iload (n := 183) X 1 rfl dX10_equal_181 rfl ?_
                refine jm_ald (n := 184) X 20 0 241 mA_241 rfl rfl h6 dX10_equal_183 rfl (fun h19 => ?_)
                refine jm_iconst (n := 185) X dX10_equal_184 rfl ?_
                refine jm_icmp_ne (n := 188) (tgt := 253) X dX10_equal_185 (by decide) (k9.2 241 _) (by decide) rfl (fun c20 => ?_) (fun c20 => ?_)
                · refine jm_aload_n (n := 189) X 3 rfl dX10_equal_188 rfl ?_
                  refine jm_get (n := 192) X 0 9 42 mW_X10 rfl (by decide) (fun w h => List.mem_cons_of_mem _ (List.mem_append_right _ h)) (List.mem_of_getElem? (i := 4) rfl) rfl dX10_equal_189 rfl ?_
                  refine jm_iload (n := 194) X 1 rfl dX10_equal_192 rfl ?_
                  refine jm_iload (n := 196) X 0 rfl dX10_equal_194 rfl ?_
                  refine jm_ast (n := 197) X 21 0 242 mA_242 rfl rfl mT_242 k9 h6 h10 dX10_equal_196 rfl (fun h21 σ22 k22 => ?_)
                  refine jm_iconst (n := 198) X dX10_equal_197 rfl ?_
                  refine jm_istore (n := 200) (lv' := [(6, .int (iI (0 : Int))), (5, .int (iI r9)), (4, .int (iI r5)), (3, .int (iI (x3 + (-2 : Int)))), (0, .ref (h 299))]) X dX10_equal_198 (by decide) rfl rfl ?_
                  refine jm_perm [4, 3, 2, 1, 0] rfl ?_
                  exact u10_equal_200 X hA N (b10_equal_16 N n) ih N σ22 (x3 + (-2 : Int)) r5 r9 (0 : Int) k22 h3 h6 h10 (by decide)
                · refine jm_perm [3, 2] rfl ?_
                  exact u10_equal_253 X hA N (b10_equal_16 N n) ih σ9 (x3 + (-2 : Int)) k9 h3
              · refine jm_aload_n (n := 170) X 3 rfl dX10_equal_169 rfl ?_
                refine jm_iconst (n := 171) X dX10_equal_170 rfl ?_
                refine jm_ck (fun h24 => ?_)
                refine jm_put (n := 174) X 0 9 46 246 mW_X10 rfl (by decide) (fun w h => List.mem_cons_of_mem _ (List.mem_append_right _ h)) tyX10 tyX10_ok nmX10 (List.mem_of_getElem? (i := 2) rfl) rfl rfl (narrow_Z h24) (fits_Z h24) (Nat.le_of_ble_eq_true rfl) mS_246 k9 (by decide) dX10_equal_171 rfl (fun σ23 k23 => ?_)
                refine jm_goto (n := 253) X dX10_equal_174 (by decide) ?_
                refine jm_perm [3, 2] rfl ?_
                exact u10_equal_253 X hA N (b10_equal_16 N n) ih σ23 (x3 + (-2 : Int)) k23 h3
      · exact jm_vret X rfl k0 dX10_equal_256
def f10_equal (N : Nat) (σ0 : Sg) (x1 : Int) (x2 : Int) : Option (Sg × Int) :=
  ck (0 ≤ (0 : Int) ∧ (0 : Int) < 2400) <| nx (sA σ0 248 (0 : Int) x1) fun σ2 =>
  ck (0 ≤ (1 : Int) ∧ (1 : Int) < 2400) <| nx (sA σ2 248 (1 : Int) x2) fun σ4 =>
  (b10_equal_16 N N σ4 (2 : Int))
set_option maxRecDepth 100000 in
theorem t10_equal (l : Launch) {h : Nat → Nat} {cI cZ : ClassId} {D : va_G} (N : Nat) {σ0 : Sg} {x1 : Int} {x2 : Int} (k0 : ok σ0) (hx1 : inR x1) (hx2 : inR x2) : ctV noE l (mW h cI cZ) D (mT cI cZ) yX10_equal wsX10_equal rm10_equal [.ref (h 299), .int (iI x1), .int (iI x2)] σ0 (f10_equal N σ0 x1 x2) := by
  refine of_V noE_ok (own := RX10) (lv := [(0, .ref (h 299)), (1, .int (iI x1)), (2, .int (iI x2))]) (by decide) rfl rfl (Nat.le_of_ble_eq_true rfl) rfl (fun p e s m below meth c sz X hA => ?_)
  rw [f10_equal]
  refine jm_aload_n (n := 1) X 0 rfl dX10_equal_0 rfl ?_
  refine jm_get (n := 4) X 0 9 48 mW_X10 rfl (by decide) (fun w h => List.mem_cons_of_mem _ (List.mem_append_right _ h)) (List.mem_of_getElem? (i := 1) rfl) rfl dX10_equal_1 rfl ?_
  refine jm_iconst (n := 5) X dX10_equal_4 rfl ?_
  refine jm_iload_n (n := 6) X 1 rfl dX10_equal_5 rfl ?_
  refine jm_ast (n := 7) X 25 0 248 mA_248 rfl rfl mT_248 k0 (by decide) hx1 dX10_equal_6 rfl (fun h1 σ2 k2 => ?_)
  refine jm_aload_n (n := 8) X 0 rfl dX10_equal_7 rfl ?_
  refine jm_get (n := 11) X 0 9 48 mW_X10 rfl (by decide) (fun w h => List.mem_cons_of_mem _ (List.mem_append_right _ h)) (List.mem_of_getElem? (i := 1) rfl) rfl dX10_equal_8 rfl ?_
  refine jm_iconst (n := 12) X dX10_equal_11 rfl ?_
  refine jm_iload_n (n := 13) X 2 rfl dX10_equal_12 rfl ?_
  refine jm_ast (n := 14) X 25 0 248 mA_248 rfl rfl mT_248 k2 (by decide) hx2 dX10_equal_13 rfl (fun h3 σ4 k4 => ?_)
  refine jm_iconst (n := 15) X dX10_equal_14 rfl ?_
  refine jm_istore_n (n := 16) (lv' := [(3, .int (iI (2 : Int))), (0, .ref (h 299)), (1, .int (iI x1)), (2, .int (iI x2))]) X dX10_equal_15 (by decide) rfl rfl ?_
  refine jm_perm [1, 0] rfl ?_
  exact u10_equal_16 X hA N N σ4 (2 : Int) k4 (by decide)
abbrev rm10_endless : Room := { frames := 1, cells := 0, slots := 0, locals := 22 }
def b10_endless_43 (N : Nat) (K13 : Sg → Int → Int → Option (Sg × Int)) (σ0 : Sg) (x1 : Int) (x2 : Int) (y1 : Int) (y2 : Int) : Option (Sg × Int) :=
  ck (y2 = 0 ∨ y2 = 1) <|
  ck (0 ≤ y1 ∧ y1 < 1280) <| nx (sA σ0 249 y1 y2) fun σ2 =>
  ck (inR (x2 + (1 : Int))) <|
  (K13 σ2 x1 (x2 + (1 : Int)))
set_option maxRecDepth 100000 in
theorem u10_endless_43 (X : CX p m meth c cX10_endless 6 (some .boolean) s args wsX10_endless RX10 D (mT cI cZ) noE (va_A (mW h cI cZ σz) sz)) (hA : ∀ z : Nat, s.heap.size ≤ z → va_A (mW h cI cZ σz) sz z) (N : Nat) (K13 : Sg → Int → Int → Option (Sg × Int)) (hK13 : ∀ (τ : Sg) (x1 : Int) (x2 : Int), ok τ → inR x1 → inR x2 → JI l rm10_endless (mW h cI cZ) D (mT cI cZ) σz sz 6 p e s m args below meth c τ 13 [(0, .ref (h 299)), (1, .int (iI x1)), (2, .int (iI x2))] [] (K13 τ x1 x2)) (σ0 : Sg) (x1 : Int) (x2 : Int) (y1 : Int) (y2 : Int) (k0 : ok σ0) (hx1 : inR x1) (hx2 : inR x2) (hy1 : inR y1) (hy2 : inR y2) : JI l rm10_endless (mW h cI cZ) D (mT cI cZ) σz sz 6 p e s m args below meth c σ0 43 [(0, .ref (h 299)), (1, .int (iI x1)), (2, .int (iI x2))] [.int (iI y2), .int (iI y1), .ref (h 249)] (b10_endless_43 N K13 σ0 x1 x2 y1 y2) := by
  rw [b10_endless_43]
  refine jm_ck (fun h3 => ?_)
  refine jm_zast (n := 44) X 26 1 249 mA_249 rfl rfl mT_249 k0 hy1 h3 dX10_endless_43 rfl (fun h1 σ2 k2 => ?_)
  refine jm_iinc (n := 47) (lv' := [(2, .int (iI (x2 + (1 : Int)))), (0, .ref (h 299)), (1, .int (iI x1))]) X 2 rfl dX10_endless_44 (by decide) rfl rfl (fun h4 => ?_)
  refine jm_goto (n := 13) X dX10_endless_47 (by decide) ?_
  refine jm_perm [1, 2, 0] rfl ?_
  exact hK13 σ2 x1 (x2 + (1 : Int)) k2 hx1 h4
def b10_endless_151 (N : Nat) (K52 : Sg → Int → Int → Option (Sg × Int)) (K60 : Sg → Int → Int → Int → Option (Sg × Int)) (σ0 : Sg) (x1 : Int) (x2 : Int) (x3 : Int) : Option (Sg × Int) :=
  ck (inR (x3 + (1 : Int))) <|
  (K60 σ0 x1 x2 (x3 + (1 : Int)))
set_option maxRecDepth 100000 in
theorem u10_endless_151 (X : CX p m meth c cX10_endless 6 (some .boolean) s args wsX10_endless RX10 D (mT cI cZ) noE (va_A (mW h cI cZ σz) sz)) (hA : ∀ z : Nat, s.heap.size ≤ z → va_A (mW h cI cZ σz) sz z) (N : Nat) (K52 : Sg → Int → Int → Option (Sg × Int)) (hK52 : ∀ (τ : Sg) (x1 : Int) (x2 : Int), ok τ → inR x1 → inR x2 → JI l rm10_endless (mW h cI cZ) D (mT cI cZ) σz sz 6 p e s m args below meth c τ 52 [(0, .ref (h 299)), (1, .int (iI x1)), (2, .int (iI x2))] [] (K52 τ x1 x2)) (K60 : Sg → Int → Int → Int → Option (Sg × Int)) (hK60 : ∀ (τ : Sg) (x1 : Int) (x2 : Int) (x3 : Int), ok τ → inR x1 → inR x2 → inR x3 → JI l rm10_endless (mW h cI cZ) D (mT cI cZ) σz sz 6 p e s m args below meth c τ 60 [(0, .ref (h 299)), (1, .int (iI x1)), (2, .int (iI x2)), (3, .int (iI x3))] [] (K60 τ x1 x2 x3)) (σ0 : Sg) (x1 : Int) (x2 : Int) (x3 : Int) (k0 : ok σ0) (hx1 : inR x1) (hx2 : inR x2) (hx3 : inR x3) : JI l rm10_endless (mW h cI cZ) D (mT cI cZ) σz sz 6 p e s m args below meth c σ0 151 [(0, .ref (h 299)), (1, .int (iI x1)), (2, .int (iI x2)), (3, .int (iI x3))] [] (b10_endless_151 N K52 K60 σ0 x1 x2 x3) := by
  rw [b10_endless_151]
  refine jm_iinc (n := 154) (lv' := [(3, .int (iI (x3 + (1 : Int)))), (0, .ref (h 299)), (1, .int (iI x1)), (2, .int (iI x2))]) X 3 rfl dX10_endless_151 (by decide) rfl rfl (fun h1 => ?_)
  refine jm_goto (n := 60) X dX10_endless_154 (by decide) ?_
  refine jm_perm [1, 2, 3, 0] rfl ?_
  exact hK60 σ0 x1 x2 (x3 + (1 : Int)) k0 hx1 hx2 h1
def b10_endless_137 (N : Nat) (K52 : Sg → Int → Int → Option (Sg × Int)) (K60 : Sg → Int → Int → Int → Option (Sg × Int)) (σ0 : Sg) (x1 : Int) (x2 : Int) (x3 : Int) (x4 : Int) : Option (Sg × Int) :=
  if x4 = 0 then ((b10_endless_151 N K52 K60 σ0 x1 x2 x3))
  else (ck ((1 : Int) = 0 ∨ (1 : Int) = 1) <|
  ck (0 ≤ x3 ∧ x3 < 1280) <| nx (sA σ0 249 x3 (1 : Int)) fun σ3 =>
  (b10_endless_151 N K52 K60 σ3 x1 (1 : Int) x3))
set_option maxRecDepth 100000 in
theorem u10_endless_137 (X : CX p m meth c cX10_endless 6 (some .boolean) s args wsX10_endless RX10 D (mT cI cZ) noE (va_A (mW h cI cZ σz) sz)) (hA : ∀ z : Nat, s.heap.size ≤ z → va_A (mW h cI cZ σz) sz z) (N : Nat) (K52 : Sg → Int → Int → Option (Sg × Int)) (hK52 : ∀ (τ : Sg) (x1 : Int) (x2 : Int), ok τ → inR x1 → inR x2 → JI l rm10_endless (mW h cI cZ) D (mT cI cZ) σz sz 6 p e s m args below meth c τ 52 [(0, .ref (h 299)), (1, .int (iI x1)), (2, .int (iI x2))] [] (K52 τ x1 x2)) (K60 : Sg → Int → Int → Int → Option (Sg × Int)) (hK60 : ∀ (τ : Sg) (x1 : Int) (x2 : Int) (x3 : Int), ok τ → inR x1 → inR x2 → inR x3 → JI l rm10_endless (mW h cI cZ) D (mT cI cZ) σz sz 6 p e s m args below meth c τ 60 [(0, .ref (h 299)), (1, .int (iI x1)), (2, .int (iI x2)), (3, .int (iI x3))] [] (K60 τ x1 x2 x3)) (σ0 : Sg) (x1 : Int) (x2 : Int) (x3 : Int) (x4 : Int) (k0 : ok σ0) (hx1 : inR x1) (hx2 : inR x2) (hx3 : inR x3) (hx4 : inR x4) : JI l rm10_endless (mW h cI cZ) D (mT cI cZ) σz sz 6 p e s m args below meth c σ0 137 [(0, .ref (h 299)), (1, .int (iI x1)), (2, .int (iI x2)), (3, .int (iI x3)), (4, .int (iI x4))] [] (b10_endless_137 N K52 K60 σ0 x1 x2 x3 x4) := by
  rw [b10_endless_137]
  refine jm_iload (n := 139) X 4 rfl dX10_endless_137 rfl ?_
  refine jm_if_eq (n := 142) (tgt := 151) X dX10_endless_139 (by decide) hx4 rfl (fun c1 => ?_) (fun c1 => ?_)
  · refine jm_perm [0, 1, 2, 3] rfl ?_
    exact u10_endless_151 X hA N K52 hK52 K60 hK60 σ0 x1 x2 x3 k0 hx1 hx2 hx3
  · refine jm_aload_n (n := 143) X 0 rfl dX10_endless_142 rfl ?_
    refine jm_get (n := 146) X 0 9 49 mW_X10 rfl (by decide) (fun w h => List.mem_cons_of_mem _ (List.mem_append_right _ h)) (List.mem_of_getElem? (i := 3) rfl) rfl dX10_endless_143 rfl ?_
    refine jm_iload_n (n := 147) X 3 rfl dX10_endless_146 rfl ?_
    refine jm_iconst (n := 148) X dX10_endless_147 rfl ?_
    refine jm_ck (fun h4 => ?_)
    refine jm_zast (n := 149) X 26 1 249 mA_249 rfl rfl mT_249 k0 hx3 h4 dX10_endless_148 rfl (fun h2 σ3 k3 => ?_)
    refine jm_iconst (n := 150) X dX10_endless_149 rfl ?_
    refine jm_istore_n (n := 151) (lv' := [(2, .int (iI (1 : Int))), (0, .ref (h 299)), (1, .int (iI x1)), (3, .int (iI x3)), (4, .int (iI x4))]) X dX10_endless_150 (by decide) rfl rfl ?_
    refine jm_perm [1, 2, 0, 3] rfl ?_
    exact u10_endless_151 X hA N K52 hK52 K60 hK60 σ3 x1 (1 : Int) x3 k3 hx1 (by decide) hx3
def b10_endless_98 (N : Nat) (K52 : Sg → Int → Int → Option (Sg × Int)) (K60 : Sg → Int → Int → Int → Option (Sg × Int)) : Nat → Sg → Int → Int → Int → Int → Int → Option (Sg × Int)
  | 0, _, _, _, _, _, _ => none
  | n + 1, σ0, x1, x2, x3, x4, x5 => if (4 : Int) ≤ x5 then ((b10_endless_137 N K52 K60 σ0 x1 x2 x3 x4))
  else (if x4 = 0 then ((b10_endless_137 N K52 K60 σ0 x1 x2 x3 x4))
  else (ck (inR ((4 : Int) * x3)) <|
  ck (inR (((4 : Int) * x3) + x5)) <|
  ck (0 ≤ (((4 : Int) * x3) + x5) ∧ (((4 : Int) * x3) + x5) < 5120) <|
  bd (f10_end N σ0 (gA σ0 243 (((4 : Int) * x3) + x5))) fun σ6 r6 =>
  ck (0 ≤ r6 ∧ r6 < 1280) <|
  ck (inR (x5 + (1 : Int))) <|
  ((b10_endless_98 N K52 K60 n) σ6 x1 x2 x3 (gA σ6 249 r6) (x5 + (1 : Int)))))
set_option maxRecDepth 100000 in
theorem u10_endless_98 (X : CX p m meth c cX10_endless 6 (some .boolean) s args wsX10_endless RX10 D (mT cI cZ) noE (va_A (mW h cI cZ σz) sz)) (hA : ∀ z : Nat, s.heap.size ≤ z → va_A (mW h cI cZ σz) sz z) (N : Nat) (K52 : Sg → Int → Int → Option (Sg × Int)) (hK52 : ∀ (τ : Sg) (x1 : Int) (x2 : Int), ok τ → inR x1 → inR x2 → JI l rm10_endless (mW h cI cZ) D (mT cI cZ) σz sz 6 p e s m args below meth c τ 52 [(0, .ref (h 299)), (1, .int (iI x1)), (2, .int (iI x2))] [] (K52 τ x1 x2)) (K60 : Sg → Int → Int → Int → Option (Sg × Int)) (hK60 : ∀ (τ : Sg) (x1 : Int) (x2 : Int) (x3 : Int), ok τ → inR x1 → inR x2 → inR x3 → JI l rm10_endless (mW h cI cZ) D (mT cI cZ) σz sz 6 p e s m args below meth c τ 60 [(0, .ref (h 299)), (1, .int (iI x1)), (2, .int (iI x2)), (3, .int (iI x3))] [] (K60 τ x1 x2 x3)) : ∀ (n : Nat) (σ0 : Sg) (x1 : Int) (x2 : Int) (x3 : Int) (x4 : Int) (x5 : Int), ok σ0 → inR x1 → inR x2 → inR x3 → inR x4 → inR x5 → JI l rm10_endless (mW h cI cZ) D (mT cI cZ) σz sz 6 p e s m args below meth c σ0 98 [(0, .ref (h 299)), (1, .int (iI x1)), (2, .int (iI x2)), (3, .int (iI x3)), (4, .int (iI x4)), (5, .int (iI x5))] [] (b10_endless_98 N K52 K60 n σ0 x1 x2 x3 x4 x5) := by
  intro n
  induction n with
  | zero =>
    intro σ0 x1 x2 x3 x4 x5 k0 hx1 hx2 hx3 hx4 hx5 σ9 r9 ho9
    rw [b10_endless_98] at ho9
    cases ho9
  | succ n ih =>
    intro σ0 x1 x2 x3 x4 x5 k0 hx1 hx2 hx3 hx4 hx5
    rw [b10_endless_98]
    refine jm_iload (n := 100) X 5 rfl dX10_endless_98 rfl ?_
    refine jm_iconst (n := 101) X dX10_endless_100 rfl ?_
    refine jm_icmp_ge (n := 104) (tgt := 137) X dX10_endless_101 (by decide) hx5 (by decide) rfl (fun c1 => ?_) (fun c1 => ?_)
    · refine jm_perm [0, 1, 2, 3, 4] rfl ?_
      exact u10_endless_137 X hA N K52 hK52 K60 hK60 σ0 x1 x2 x3 x4 k0 hx1 hx2 hx3 hx4
    · refine jm_iload (n := 106) X 4 rfl dX10_endless_104 rfl ?_
      refine jm_if_eq (n := 109) (tgt := 137) X dX10_endless_106 (by decide) hx4 rfl (fun c2 => ?_) (fun c2 => ?_)
      · refine jm_perm [0, 1, 2, 3, 4] rfl ?_
        exact u10_endless_137 X hA N K52 hK52 K60 hK60 σ0 x1 x2 x3 x4 k0 hx1 hx2 hx3 hx4
      · refine jm_aload_n (n := 110) X 0 rfl dX10_endless_109 rfl ?_
        refine jm_get (n := 113) X 0 9 49 mW_X10 rfl (by decide) (fun w h => List.mem_cons_of_mem _ (List.mem_append_right _ h)) (List.mem_of_getElem? (i := 3) rfl) rfl dX10_endless_110 rfl ?_
        refine jm_aload_n (n := 114) X 0 rfl dX10_endless_113 rfl ?_
        refine jm_aload_n (n := 115) X 0 rfl dX10_endless_114 rfl ?_
        refine jm_get (n := 118) X 0 9 43 mW_X10 rfl (by decide) (fun w h => List.mem_cons_of_mem _ (List.mem_append_right _ h)) (List.mem_of_getElem? (i := 6) rfl) rfl dX10_endless_115 rfl ?_
        refine jm_iconst (n := 119) X dX10_endless_118 rfl ?_
        refine jm_iload_n (n := 120) X 3 rfl dX10_endless_119 rfl ?_
        refine jm_imul (n := 121) X dX10_endless_120 rfl (fun h3 => ?_)
        refine jm_iload (n := 123) X 5 rfl dX10_endless_121 rfl ?_
        refine jm_iadd (n := 124) X dX10_endless_123 rfl (fun h4 => ?_)
        refine jm_ald (n := 125) X 22 0 243 mA_243 rfl rfl h4 dX10_endless_124 rfl (fun h5 => ?_)
        refine jm_callVi (n := 128) (vs := [.int (iI (gA σ0 243 (((4 : Int) * x3) + x5)))]) (rest := [.ref (h 249)]) X hA (t10_end l N k0 (k0.2 243 _)) (cwV 1 X.2.2.2.2.1 gX10_endless_X10_end rfl rfl rfl (by decide +kernel) ⟨Nat.le_of_ble_eq_true rfl, Nat.le_of_ble_eq_true rfl⟩) 0 9 mW_X10 rfl rfl (Nat.le_of_ble_eq_true rfl) dX10_endless_125 rfl (fun σ6 r6 k6 h7 => ?_)
        refine jm_zald (n := 129) X 26 1 249 mA_249 rfl rfl h7 dX10_endless_128 rfl (fun h8 => ?_)
        refine jm_istore (n := 131) (lv' := [(4, .int (iI (gA σ6 249 r6))), (0, .ref (h 299)), (1, .int (iI x1)), (2, .int (iI x2)), (3, .int (iI x3)), (5, .int (iI x5))]) X dX10_endless_129 (by decide) rfl rfl ?_
        refine jm_iinc (n := 134) (lv' := [(5, .int (iI (x5 + (1 : Int)))), (4, .int (iI (gA σ6 249 r6))), (0, .ref (h 299)), (1, .int (iI x1)), (2, .int (iI x2)), (3, .int (iI x3))]) X 5 rfl dX10_endless_131 (by decide) rfl rfl (fun h9 => ?_)
        refine jm_goto (n := 98) X dX10_endless_134 (by decide) ?_
        refine jm_perm [2, 3, 4, 5, 1, 0] rfl ?_
        exact ih σ6 x1 x2 x3 (gA σ6 249 r6) (x5 + (1 : Int)) k6 hx1 hx2 hx3 (k6.2 249 _) h9
def b10_endless_93 (N : Nat) (K52 : Sg → Int → Int → Option (Sg × Int)) (K60 : Sg → Int → Int → Int → Option (Sg × Int)) (σ0 : Sg) (x1 : Int) (x2 : Int) (x3 : Int) (y0 : Int) : Option (Sg × Int) :=
  (b10_endless_98 N K52 K60 N σ0 x1 x2 x3 y0 (0 : Int))
set_option maxRecDepth 100000 in
theorem u10_endless_93 (X : CX p m meth c cX10_endless 6 (some .boolean) s args wsX10_endless RX10 D (mT cI cZ) noE (va_A (mW h cI cZ σz) sz)) (hA : ∀ z : Nat, s.heap.size ≤ z → va_A (mW h cI cZ σz) sz z) (N : Nat) (K52 : Sg → Int → Int → Option (Sg × Int)) (hK52 : ∀ (τ : Sg) (x1 : Int) (x2 : Int), ok τ → inR x1 → inR x2 → JI l rm10_endless (mW h cI cZ) D (mT cI cZ) σz sz 6 p e s m args below meth c τ 52 [(0, .ref (h 299)), (1, .int (iI x1)), (2, .int (iI x2))] [] (K52 τ x1 x2)) (K60 : Sg → Int → Int → Int → Option (Sg × Int)) (hK60 : ∀ (τ : Sg) (x1 : Int) (x2 : Int) (x3 : Int), ok τ → inR x1 → inR x2 → inR x3 → JI l rm10_endless (mW h cI cZ) D (mT cI cZ) σz sz 6 p e s m args below meth c τ 60 [(0, .ref (h 299)), (1, .int (iI x1)), (2, .int (iI x2)), (3, .int (iI x3))] [] (K60 τ x1 x2 x3)) (σ0 : Sg) (x1 : Int) (x2 : Int) (x3 : Int) (y0 : Int) (k0 : ok σ0) (hx1 : inR x1) (hx2 : inR x2) (hx3 : inR x3) (hy0 : inR y0) : JI l rm10_endless (mW h cI cZ) D (mT cI cZ) σz sz 6 p e s m args below meth c σ0 93 [(0, .ref (h 299)), (1, .int (iI x1)), (2, .int (iI x2)), (3, .int (iI x3))] [.int (iI y0)] (b10_endless_93 N K52 K60 σ0 x1 x2 x3 y0) := by
  rw [b10_endless_93]
  refine jm_istore (n := 95) (lv' := [(4, .int (iI y0)), (0, .ref (h 299)), (1, .int (iI x1)), (2, .int (iI x2)), (3, .int (iI x3))]) X dX10_endless_93 (by decide) rfl rfl ?_
  refine jm_iconst (n := 96) X dX10_endless_95 rfl ?_
  refine jm_istore (n := 98) (lv' := [(5, .int (iI (0 : Int))), (4, .int (iI y0)), (0, .ref (h 299)), (1, .int (iI x1)), (2, .int (iI x2)), (3, .int (iI x3))]) X dX10_endless_96 (by decide) rfl rfl ?_
  refine jm_perm [2, 3, 4, 5, 1, 0] rfl ?_
  exact u10_endless_98 X hA N K52 hK52 K60 hK60 N σ0 x1 x2 x3 y0 (0 : Int) k0 hx1 hx2 hx3 hy0 (by decide)
def b10_endless_92 (N : Nat) (K52 : Sg → Int → Int → Option (Sg × Int)) (K60 : Sg → Int → Int → Int → Option (Sg × Int)) (σ0 : Sg) (x1 : Int) (x2 : Int) (x3 : Int) : Option (Sg × Int) :=
  (b10_endless_93 N K52 K60 σ0 x1 x2 x3 (0 : Int))
set_option maxRecDepth 100000 in
theorem u10_endless_92 (X : CX p m meth c cX10_endless 6 (some .boolean) s args wsX10_endless RX10 D (mT cI cZ) noE (va_A (mW h cI cZ σz) sz)) (hA : ∀ z : Nat, s.heap.size ≤ z → va_A (mW h cI cZ σz) sz z) (N : Nat) (K52 : Sg → Int → Int → Option (Sg × Int)) (hK52 : ∀ (τ : Sg) (x1 : Int) (x2 : Int), ok τ → inR x1 → inR x2 → JI l rm10_endless (mW h cI cZ) D (mT cI cZ) σz sz 6 p e s m args below meth c τ 52 [(0, .ref (h 299)), (1, .int (iI x1)), (2, .int (iI x2))] [] (K52 τ x1 x2)) (K60 : Sg → Int → Int → Int → Option (Sg × Int)) (hK60 : ∀ (τ : Sg) (x1 : Int) (x2 : Int) (x3 : Int), ok τ → inR x1 → inR x2 → inR x3 → JI l rm10_endless (mW h cI cZ) D (mT cI cZ) σz sz 6 p e s m args below meth c τ 60 [(0, .ref (h 299)), (1, .int (iI x1)), (2, .int (iI x2)), (3, .int (iI x3))] [] (K60 τ x1 x2 x3)) (σ0 : Sg) (x1 : Int) (x2 : Int) (x3 : Int) (k0 : ok σ0) (hx1 : inR x1) (hx2 : inR x2) (hx3 : inR x3) : JI l rm10_endless (mW h cI cZ) D (mT cI cZ) σz sz 6 p e s m args below meth c σ0 92 [(0, .ref (h 299)), (1, .int (iI x1)), (2, .int (iI x2)), (3, .int (iI x3))] [] (b10_endless_92 N K52 K60 σ0 x1 x2 x3) := by
  rw [b10_endless_92]
  refine jm_iconst (n := 93) X dX10_endless_92 rfl ?_
  refine jm_perm [0, 1, 2, 3] rfl ?_
  exact u10_endless_93 X hA N K52 hK52 K60 hK60 σ0 x1 x2 x3 (0 : Int) k0 hx1 hx2 hx3 (by decide)
def b10_endless_60 (N : Nat) (K52 : Sg → Int → Int → Option (Sg × Int)) : Nat → Sg → Int → Int → Int → Option (Sg × Int)
  | 0, _, _, _, _ => none
  | n + 1, σ0, x1, x2, x3 => ck (inR (x1 + (gI σ0 240))) <|
  if (x1 + (gI σ0 240)) ≤ x3 then ((K52 σ0 x1 x2))
  else (ck (0 ≤ x3 ∧ x3 < 1280) <|
  if (gA σ0 249 x3) = 0 then (ck (0 ≤ x3 ∧ x3 < 1280) <|
  if 0 ≤ (gA σ0 242 x3) then ((b10_endless_92 N K52 (b10_endless_60 N K52 n) σ0 x1 x2 x3))
  else ((b10_endless_93 N K52 (b10_endless_60 N K52 n) σ0 x1 x2 x3 (1 : Int))))
  else ((b10_endless_92 N K52 (b10_endless_60 N K52 n) σ0 x1 x2 x3)))
set_option maxRecDepth 100000 in
theorem u10_endless_60 (X : CX p m meth c cX10_endless 6 (some .boolean) s args wsX10_endless RX10 D (mT cI cZ) noE (va_A (mW h cI cZ σz) sz)) (hA : ∀ z : Nat, s.heap.size ≤ z → va_A (mW h cI cZ σz) sz z) (N : Nat) (K52 : Sg → Int → Int → Option (Sg × Int)) (hK52 : ∀ (τ : Sg) (x1 : Int) (x2 : Int), ok τ → inR x1 → inR x2 → JI l rm10_endless (mW h cI cZ) D (mT cI cZ) σz sz 6 p e s m args below meth c τ 52 [(0, .ref (h 299)), (1, .int (iI x1)), (2, .int (iI x2))] [] (K52 τ x1 x2)) : ∀ (n : Nat) (σ0 : Sg) (x1 : Int) (x2 : Int) (x3 : Int), ok σ0 → inR x1 → inR x2 → inR x3 → JI l rm10_endless (mW h cI cZ) D (mT cI cZ) σz sz 6 p e s m args below meth c σ0 60 [(0, .ref (h 299)), (1, .int (iI x1)), (2, .int (iI x2)), (3, .int (iI x3))] [] (b10_endless_60 N K52 n σ0 x1 x2 x3) := by
  intro n
  induction n with
  | zero =>
    intro σ0 x1 x2 x3 k0 hx1 hx2 hx3 σ9 r9 ho9
    rw [b10_endless_60] at ho9
    cases ho9
  | succ n ih =>
    intro σ0 x1 x2 x3 k0 hx1 hx2 hx3
    rw [b10_endless_60]
    refine jm_iload_n (n := 61) X 3 rfl dX10_endless_60 rfl ?_
    refine jm_iload_n (n := 62) X 1 rfl dX10_endless_61 rfl ?_
    refine jm_aload_n (n := 63) X 0 rfl dX10_endless_62 rfl ?_
    refine jm_get (n := 66) X 0 9 40 mW_X10 rfl (by decide) (fun w h => List.mem_cons_of_mem _ (List.mem_append_right _ h)) (List.mem_of_getElem? (i := 2) rfl) rfl dX10_endless_63 rfl ?_
    refine jm_iadd (n := 67) X dX10_endless_66 rfl (fun h1 => ?_)
    refine jm_icmp_ge (n := 70) (tgt := 157) X dX10_endless_67 (by decide) hx3 h1 rfl (fun c2 => ?_) (fun c2 => ?_)
    · refine jm_goto (n := 52) X dX10_endless_157 (by decide) ?_
      refine jm_perm [0, 1, 2] rfl ?_
      exact hK52 σ0 x1 x2 k0 hx1 hx2
    · refine jm_aload_n (n := 71) X 0 rfl dX10_endless_70 rfl ?_
      refine jm_get (n := 74) X 0 9 49 mW_X10 rfl (by decide) (fun w h => List.mem_cons_of_mem _ (List.mem_append_right _ h)) (List.mem_of_getElem? (i := 3) rfl) rfl dX10_endless_71 rfl ?_
      refine jm_iload_n (n := 75) X 3 rfl dX10_endless_74 rfl ?_
      refine jm_zald (n := 76) X 26 1 249 mA_249 rfl rfl hx3 dX10_endless_75 rfl (fun h3 => ?_)
      refine jm_if_ne (n := 79) (tgt := 92) X dX10_endless_76 (by decide) (k0.2 249 _) rfl (fun c4 => ?_) (fun c4 => ?_)
      · refine jm_aload_n (n := 80) X 0 rfl dX10_endless_79 rfl ?_
        refine jm_get (n := 83) X 0 9 42 mW_X10 rfl (by decide) (fun w h => List.mem_cons_of_mem _ (List.mem_append_right _ h)) (List.mem_of_getElem? (i := 5) rfl) rfl dX10_endless_80 rfl ?_
        refine jm_iload_n (n := 84) X 3 rfl dX10_endless_83 rfl ?_
        refine jm_ald (n := 85) X 21 0 242 mA_242 rfl rfl hx3 dX10_endless_84 rfl (fun h5 => ?_)
        refine jm_if_ge (n := 88) (tgt := 92) X dX10_endless_85 (by decide) (k0.2 242 _) rfl (fun c6 => ?_) (fun c6 => ?_)
        · refine jm_perm [0, 1, 2, 3] rfl ?_
          exact u10_endless_92 X hA N K52 hK52 (b10_endless_60 N K52 n) ih σ0 x1 x2 x3 k0 hx1 hx2 hx3
        · refine jm_iconst (n := 89) X dX10_endless_88 rfl ?_
          refine jm_goto (n := 93) X dX10_endless_89 (by decide) ?_
          refine jm_perm [0, 1, 2, 3] rfl ?_
          exact u10_endless_93 X hA N K52 hK52 (b10_endless_60 N K52 n) ih σ0 x1 x2 x3 (1 : Int) k0 hx1 hx2 hx3 (by decide)
      · refine jm_perm [0, 1, 2, 3] rfl ?_
        exact u10_endless_92 X hA N K52 hK52 (b10_endless_60 N K52 n) ih σ0 x1 x2 x3 k0 hx1 hx2 hx3
def b10_endless_205 (N : Nat) (K165 : Sg → Int → Int → Int → Option (Sg × Int)) (σ0 : Sg) (x1 : Int) (x4 : Int) (y0 : Int) : Option (Sg × Int) :=
  ck (inR (x4 + (1 : Int))) <|
  (K165 σ0 x1 y0 (x4 + (1 : Int)))
set_option maxRecDepth 100000 in
theorem u10_endless_205 (X : CX p m meth c cX10_endless 6 (some .boolean) s args wsX10_endless RX10 D (mT cI cZ) noE (va_A (mW h cI cZ σz) sz)) (hA : ∀ z : Nat, s.heap.size ≤ z → va_A (mW h cI cZ σz) sz z) (N : Nat) (K165 : Sg → Int → Int → Int → Option (Sg × Int)) (hK165 : ∀ (τ : Sg) (x1 : Int) (x3 : Int) (x4 : Int), ok τ → inR x1 → inR x3 → inR x4 → JI l rm10_endless (mW h cI cZ) D (mT cI cZ) σz sz 6 p e s m args below meth c τ 165 [(0, .ref (h 299)), (1, .int (iI x1)), (3, .int (iI x3)), (4, .int (iI x4))] [] (K165 τ x1 x3 x4)) (σ0 : Sg) (x1 : Int) (x4 : Int) (y0 : Int) (k0 : ok σ0) (hx1 : inR x1) (hx4 : inR x4) (hy0 : inR y0) : JI l rm10_endless (mW h cI cZ) D (mT cI cZ) σz sz 6 p e s m args below meth c σ0 205 [(0, .ref (h 299)), (1, .int (iI x1)), (4, .int (iI x4))] [.int (iI y0)] (b10_endless_205 N K165 σ0 x1 x4 y0) := by
  rw [b10_endless_205]
  refine jm_istore_n (n := 206) (lv' := [(3, .int (iI y0)), (0, .ref (h 299)), (1, .int (iI x1)), (4, .int (iI x4))]) X dX10_endless_205 (by decide) rfl rfl ?_
  refine jm_iinc (n := 209) (lv' := [(4, .int (iI (x4 + (1 : Int)))), (3, .int (iI y0)), (0, .ref (h 299)), (1, .int (iI x1))]) X 3 rfl dX10_endless_206 (by decide) rfl rfl (fun h1 => ?_)
  refine jm_goto (n := 165) X dX10_endless_209 (by decide) ?_
  refine jm_perm [2, 3, 1, 0] rfl ?_
  exact hK165 σ0 x1 y0 (x4 + (1 : Int)) k0 hx1 hy0 h1
def b10_endless_200 (N : Nat) (K165 : Sg → Int → Int → Int → Option (Sg × Int)) (σ0 : Sg) (x1 : Int) (x4 : Int) : Option (Sg × Int) :=
  (b10_endless_205 N K165 σ0 x1 x4 (1 : Int))
set_option maxRecDepth 100000 in
theorem u10_endless_200 (X : CX p m meth c cX10_endless 6 (some .boolean) s args wsX10_endless RX10 D (mT cI cZ) noE (va_A (mW h cI cZ σz) sz)) (hA : ∀ z : Nat, s.heap.size ≤ z → va_A (mW h cI cZ σz) sz z) (N : Nat) (K165 : Sg → Int → Int → Int → Option (Sg × Int)) (hK165 : ∀ (τ : Sg) (x1 : Int) (x3 : Int) (x4 : Int), ok τ → inR x1 → inR x3 → inR x4 → JI l rm10_endless (mW h cI cZ) D (mT cI cZ) σz sz 6 p e s m args below meth c τ 165 [(0, .ref (h 299)), (1, .int (iI x1)), (3, .int (iI x3)), (4, .int (iI x4))] [] (K165 τ x1 x3 x4)) (σ0 : Sg) (x1 : Int) (x4 : Int) (k0 : ok σ0) (hx1 : inR x1) (hx4 : inR x4) : JI l rm10_endless (mW h cI cZ) D (mT cI cZ) σz sz 6 p e s m args below meth c σ0 200 [(0, .ref (h 299)), (1, .int (iI x1)), (4, .int (iI x4))] [] (b10_endless_200 N K165 σ0 x1 x4) := by
  rw [b10_endless_200]
  refine jm_iconst (n := 201) X dX10_endless_200 rfl ?_
  refine jm_goto (n := 205) X dX10_endless_201 (by decide) ?_
  refine jm_perm [0, 1, 2] rfl ?_
  exact u10_endless_205 X hA N K165 hK165 σ0 x1 x4 (1 : Int) k0 hx1 hx4 (by decide)
def b10_endless_204 (N : Nat) (K165 : Sg → Int → Int → Int → Option (Sg × Int)) (σ0 : Sg) (x1 : Int) (x4 : Int) : Option (Sg × Int) :=
  (b10_endless_205 N K165 σ0 x1 x4 (0 : Int))
set_option maxRecDepth 100000 in
theorem u10_endless_204 (X : CX p m meth c cX10_endless 6 (some .boolean) s args wsX10_endless RX10 D (mT cI cZ) noE (va_A (mW h cI cZ σz) sz)) (hA : ∀ z : Nat, s.heap.size ≤ z → va_A (mW h cI cZ σz) sz z) (N : Nat) (K165 : Sg → Int → Int → Int → Option (Sg × Int)) (hK165 : ∀ (τ : Sg) (x1 : Int) (x3 : Int) (x4 : Int), ok τ → inR x1 → inR x3 → inR x4 → JI l rm10_endless (mW h cI cZ) D (mT cI cZ) σz sz 6 p e s m args below meth c τ 165 [(0, .ref (h 299)), (1, .int (iI x1)), (3, .int (iI x3)), (4, .int (iI x4))] [] (K165 τ x1 x3 x4)) (σ0 : Sg) (x1 : Int) (x4 : Int) (k0 : ok σ0) (hx1 : inR x1) (hx4 : inR x4) : JI l rm10_endless (mW h cI cZ) D (mT cI cZ) σz sz 6 p e s m args below meth c σ0 204 [(0, .ref (h 299)), (1, .int (iI x1)), (4, .int (iI x4))] [] (b10_endless_204 N K165 σ0 x1 x4) := by
  rw [b10_endless_204]
  refine jm_iconst (n := 205) X dX10_endless_204 rfl ?_
  refine jm_perm [0, 1, 2] rfl ?_
  exact u10_endless_205 X hA N K165 hK165 σ0 x1 x4 (0 : Int) k0 hx1 hx4 (by decide)
def b10_endless_165 (N : Nat) : Nat → Sg → Int → Int → Int → Option (Sg × Int)
  | 0, _, _, _, _ => none
  | n + 1, σ0, x1, x3, x4 => ck (inR (x1 + (gI σ0 240))) <|
  if (x1 + (gI σ0 240)) ≤ x4 then (ck (x3 = 0 ∨ x3 = 1) (some (σ0, x3)))
  else (if x3 = 0 then (ck (0 ≤ x4 ∧ x4 < 1280) <|
  if (gA σ0 249 x4) = 0 then (ck (0 ≤ x4 ∧ x4 < 1280) <|
  if 0 ≤ (gA σ0 242 x4) then ((b10_endless_204 N (b10_endless_165 N n) σ0 x1 x4))
  else ((b10_endless_200 N (b10_endless_165 N n) σ0 x1 x4)))
  else ((b10_endless_204 N (b10_endless_165 N n) σ0 x1 x4)))
  else ((b10_endless_200 N (b10_endless_165 N n) σ0 x1 x4)))
set_option maxRecDepth 100000 in
theorem u10_endless_165 (X : CX p m meth c cX10_endless 6 (some .boolean) s args wsX10_endless RX10 D (mT cI cZ) noE (va_A (mW h cI cZ σz) sz)) (hA : ∀ z : Nat, s.heap.size ≤ z → va_A (mW h cI cZ σz) sz z) (N : Nat) : ∀ (n : Nat) (σ0 : Sg) (x1 : Int) (x3 : Int) (x4 : Int), ok σ0 → inR x1 → inR x3 → inR x4 → JI l rm10_endless (mW h cI cZ) D (mT cI cZ) σz sz 6 p e s m args below meth c σ0 165 [(0, .ref (h 299)), (1, .int (iI x1)), (3, .int (iI x3)), (4, .int (iI x4))] [] (b10_endless_165 N n σ0 x1 x3 x4) := by
  intro n
  induction n with
  | zero =>
    intro σ0 x1 x3 x4 k0 hx1 hx3 hx4 σ9 r9 ho9
    rw [b10_endless_165] at ho9
    cases ho9
  | succ n ih =>
    intro σ0 x1 x3 x4 k0 hx1 hx3 hx4
    rw [b10_endless_165]
    refine jm_iload (n := 167) X 3 rfl dX10_endless_165 rfl ?_
    refine jm_iload_n (n := 168) X 1 rfl dX10_endless_167 rfl ?_
    refine jm_aload_n (n := 169) X 0 rfl dX10_endless_168 rfl ?_
    refine jm_get (n := 172) X 0 9 40 mW_X10 rfl (by decide) (fun w h => List.mem_cons_of_mem _ (List.mem_append_right _ h)) (List.mem_of_getElem? (i := 2) rfl) rfl dX10_endless_169 rfl ?_
    refine jm_iadd (n := 173) X dX10_endless_172 rfl (fun h1 => ?_)
    refine jm_icmp_ge (n := 176) (tgt := 212) X dX10_endless_173 (by decide) hx4 h1 rfl (fun c2 => ?_) (fun c2 => ?_)
    · refine jm_iload_n (n := 213) X 2 rfl dX10_endless_212 rfl ?_
      exact jm_zret X rfl k0 dX10_endless_213
    · refine jm_iload_n (n := 177) X 2 rfl dX10_endless_176 rfl ?_
      refine jm_if_ne (n := 180) (tgt := 200) X dX10_endless_177 (by decide) hx3 rfl (fun c3 => ?_) (fun c3 => ?_)
      · refine jm_aload_n (n := 181) X 0 rfl dX10_endless_180 rfl ?_
        refine jm_get (n := 184) X 0 9 49 mW_X10 rfl (by decide) (fun w h => List.mem_cons_of_mem _ (List.mem_append_right _ h)) (List.mem_of_getElem? (i := 3) rfl) rfl dX10_endless_181 rfl ?_
        refine jm_iload (n := 186) X 3 rfl dX10_endless_184 rfl ?_
        refine jm_zald (n := 187) X 26 1 249 mA_249 rfl rfl hx4 dX10_endless_186 rfl (fun h4 => ?_)
        refine jm_if_ne (n := 190) (tgt := 204) X dX10_endless_187 (by decide) (k0.2 249 _) rfl (fun c5 => ?_) (fun c5 => ?_)
        · refine jm_aload_n (n := 191) X 0 rfl dX10_endless_190 rfl ?_
          refine jm_get (n := 194) X 0 9 42 mW_X10 rfl (by decide) (fun w h => List.mem_cons_of_mem _ (List.mem_append_right _ h)) (List.mem_of_getElem? (i := 5) rfl) rfl dX10_endless_191 rfl ?_
          refine jm_iload (n := 196) X 3 rfl dX10_endless_194 rfl ?_
          refine jm_ald (n := 197) X 21 0 242 mA_242 rfl rfl hx4 dX10_endless_196 rfl (fun h6 => ?_)
          refine jm_if_ge (n := 200) (tgt := 204) X dX10_endless_197 (by decide) (k0.2 242 _) rfl (fun c7 => ?_) (fun c7 => ?_)
          · refine jm_perm [0, 1, 3] rfl ?_
            exact u10_endless_204 X hA N (b10_endless_165 N n) ih σ0 x1 x4 k0 hx1 hx4
          · refine jm_perm [0, 1, 3] rfl ?_
            exact u10_endless_200 X hA N (b10_endless_165 N n) ih σ0 x1 x4 k0 hx1 hx4
        · refine jm_perm [0, 1, 3] rfl ?_
          exact u10_endless_204 X hA N (b10_endless_165 N n) ih σ0 x1 x4 k0 hx1 hx4
      · refine jm_perm [0, 1, 3] rfl ?_
        exact u10_endless_200 X hA N (b10_endless_165 N n) ih σ0 x1 x4 k0 hx1 hx4
def b10_endless_52 (N : Nat) : Nat → Sg → Int → Int → Option (Sg × Int)
  | 0, _, _, _ => none
  | n + 1, σ0, x1, x2 => if x2 = 0 then ((b10_endless_165 N N σ0 x1 (0 : Int) x1))
  else ((b10_endless_60 N (b10_endless_52 N n) N σ0 x1 (0 : Int) x1))
set_option maxRecDepth 100000 in
theorem u10_endless_52 (X : CX p m meth c cX10_endless 6 (some .boolean) s args wsX10_endless RX10 D (mT cI cZ) noE (va_A (mW h cI cZ σz) sz)) (hA : ∀ z : Nat, s.heap.size ≤ z → va_A (mW h cI cZ σz) sz z) (N : Nat) : ∀ (n : Nat) (σ0 : Sg) (x1 : Int) (x2 : Int), ok σ0 → inR x1 → inR x2 → JI l rm10_endless (mW h cI cZ) D (mT cI cZ) σz sz 6 p e s m args below meth c σ0 52 [(0, .ref (h 299)), (1, .int (iI x1)), (2, .int (iI x2))] [] (b10_endless_52 N n σ0 x1 x2) := by
  intro n
  induction n with
  | zero =>
    intro σ0 x1 x2 k0 hx1 hx2 σ9 r9 ho9
    rw [b10_endless_52] at ho9
    cases ho9
  | succ n ih =>
    intro σ0 x1 x2 k0 hx1 hx2
    rw [b10_endless_52]
    refine jm_iload_n (n := 53) X 2 rfl dX10_endless_52 rfl ?_
    refine jm_if_eq (n := 56) (tgt := 160) X dX10_endless_53 (by decide) hx2 rfl (fun c1 => ?_) (fun c1 => ?_)
    · refine jm_iconst (n := 161) X dX10_endless_160 rfl ?_
      refine jm_istore_n (n := 162) (lv' := [(3, .int (iI (0 : Int))), (0, .ref (h 299)), (1, .int (iI x1)), (2, .int (iI x2))]) X dX10_endless_161 (by decide) rfl rfl ?_
      refine jm_iload_n (n := 163) X 2 rfl dX10_endless_162 rfl ?_
      refine jm_istore (n := 165) (lv' := [(4, .int (iI x1)), (3, .int (iI (0 : Int))), (0, .ref (h 299)), (1, .int (iI x1)), (2, .int (iI x2))]) X dX10_endless_163 (by decide) rfl rfl ?_
      refine jm_perm [2, 3, 1, 0] rfl ?_
      exact u10_endless_165 X hA N N σ0 x1 (0 : Int) x1 k0 hx1 (by decide) hx1
    · refine jm_iconst (n := 57) X dX10_endless_56 rfl ?_
      refine jm_istore_n (n := 58) (lv' := [(2, .int (iI (0 : Int))), (0, .ref (h 299)), (1, .int (iI x1))]) X dX10_endless_57 (by decide) rfl rfl ?_
      refine jm_iload_n (n := 59) X 2 rfl dX10_endless_58 rfl ?_
      refine jm_istore_n (n := 60) (lv' := [(3, .int (iI x1)), (2, .int (iI (0 : Int))), (0, .ref (h 299)), (1, .int (iI x1))]) X dX10_endless_59 (by decide) rfl rfl ?_
      refine jm_perm [2, 3, 1, 0] rfl ?_
      exact u10_endless_60 X hA N (b10_endless_52 N n) ih N σ0 x1 (0 : Int) x1 k0 hx1 (by decide) hx1
def b10_endless_13 (N : Nat) : Nat → Sg → Int → Int → Option (Sg × Int)
  | 0, _, _, _ => none
  | n + 1, σ0, x1, x2 => ck (inR (x1 + (gI σ0 240))) <|
  if (x1 + (gI σ0 240)) ≤ x2 then ((b10_endless_52 N N σ0 x1 (1 : Int)))
  else (ck (0 ≤ x2 ∧ x2 < 1280) <|
  if (gA σ0 241 x2) = (2 : Int) then ((b10_endless_43 N (b10_endless_13 N n) σ0 x1 x2 x2 (0 : Int)))
  else ((b10_endless_43 N (b10_endless_13 N n) σ0 x1 x2 x2 (1 : Int))))
set_option maxRecDepth 100000 in
theorem u10_endless_13 (X : CX p m meth c cX10_endless 6 (some .boolean) s args wsX10_endless RX10 D (mT cI cZ) noE (va_A (mW h cI cZ σz) sz)) (hA : ∀ z : Nat, s.heap.size ≤ z → va_A (mW h cI cZ σz) sz z) (N : Nat) : ∀ (n : Nat) (σ0 : Sg) (x1 : Int) (x2 : Int), ok σ0 → inR x1 → inR x2 → JI l rm10_endless (mW h cI cZ) D (mT cI cZ) σz sz 6 p e s m args below meth c σ0 13 [(0, .ref (h 299)), (1, .int (iI x1)), (2, .int (iI x2))] [] (b10_endless_13 N n σ0 x1 x2) := by
  intro n
  induction n with
  | zero =>
    intro σ0 x1 x2 k0 hx1 hx2 σ9 r9 ho9
    rw [b10_endless_13] at ho9
    cases ho9
  | succ n ih =>
    intro σ0 x1 x2 k0 hx1 hx2
    rw [b10_endless_13]
    refine jm_iload_n (n := 14) X 2 rfl dX10_endless_13 rfl ?_
    refine jm_iload_n (n := 15) X 1 rfl dX10_endless_14 rfl ?_
    refine jm_aload_n (n := 16) X 0 rfl dX10_endless_15 rfl ?_
    refine jm_get (n := 19) X 0 9 40 mW_X10 rfl (by decide) (fun w h => List.mem_cons_of_mem _ (List.mem_append_right _ h)) (List.mem_of_getElem? (i := 2) rfl) rfl dX10_endless_16 rfl ?_
    refine jm_iadd (n := 20) X dX10_endless_19 rfl (fun h1 => ?_)
    refine jm_icmp_ge (n := 23) (tgt := 50) X dX10_endless_20 (by decide) hx2 h1 rfl (fun c2 => ?_) (fun c2 => ?_)
    · refine jm_iconst (n := 51) X dX10_endless_50 rfl ?_
      refine jm_istore_n (n := 52) (lv' := [(2, .int (iI (1 : Int))), (0, .ref (h 299)), (1, .int (iI x1))]) X dX10_endless_51 (by decide) rfl rfl ?_
      refine jm_perm [1, 2, 0] rfl ?_
      exact u10_endless_52 X hA N N σ0 x1 (1 : Int) k0 hx1 (by decide)
    · refine jm_aload_n (n := 24) X 0 rfl dX10_endless_23 rfl ?_
      refine jm_get (n := 27) X 0 9 49 mW_X10 rfl (by decide) (fun w h => List.mem_cons_of_mem _ (List.mem_append_right _ h)) (List.mem_of_getElem? (i := 3) rfl) rfl dX10_endless_24 rfl ?_
      refine jm_iload_n (n := 28) X 2 rfl dX10_endless_27 rfl ?_
      refine jm_aload_n (n := 29) X 0 rfl dX10_endless_28 rfl ?_
      refine jm_get (n := 32) X 0 9 41 mW_X10 rfl (by decide) (fun w h => List.mem_cons_of_mem _ (List.mem_append_right _ h)) (List.mem_of_getElem? (i := 4) rfl) rfl dX10_endless_29 rfl ?_
      refine jm_iload_n (n := 33) X 2 rfl dX10_endless_32 rfl ?_
      refine jm_ald (n := 34) X 20 0 241 mA_241 rfl rfl hx2 dX10_endless_33 rfl (fun h3 => ?_)
      refine jm_iconst (n := 35) X dX10_endless_34 rfl ?_
      refine jm_icmp_eq (n := 38) (tgt := 42) X dX10_endless_35 (by decide) (k0.2 241 _) (by decide) rfl (fun c4 => ?_) (fun c4 => ?_)
      · refine jm_iconst (n := 43) X dX10_endless_42 rfl ?_
        refine jm_perm [0, 1, 2] rfl ?_
        exact u10_endless_43 X hA N (b10_endless_13 N n) ih σ0 x1 x2 x2 (0 : Int) k0 hx1 hx2 hx2 (by decide)
      · refine jm_iconst (n := 39) X dX10_endless_38 rfl ?_
        refine jm_goto (n := 43) X dX10_endless_39 (by decide) ?_
        refine jm_perm [0, 1, 2] rfl ?_
        exact u10_endless_43 X hA N (b10_endless_13 N n) ih σ0 x1 x2 x2 (1 : Int) k0 hx1 hx2 hx2 (by decide)
def f10_endless (N : Nat) (σ0 : Sg)  : Option (Sg × Int) :=
  ck (inR ((1 : Int) - (gI σ0 239))) <|
  ck (inR ((640 : Int) * ((1 : Int) - (gI σ0 239)))) <|
  (b10_endless_13 N N σ0 ((640 : Int) * ((1 : Int) - (gI σ0 239))) ((640 : Int) * ((1 : Int) - (gI σ0 239))))
set_option maxRecDepth 100000 in
theorem t10_endless (l : Launch) {h : Nat → Nat} {cI cZ : ClassId} {D : va_G} (N : Nat) {σ0 : Sg}  (k0 : ok σ0)  : ctI noE l (mW h cI cZ) D (mT cI cZ) yX10_endless wsX10_endless rm10_endless [.ref (h 299)] σ0 (f10_endless N σ0 ) := by
  refine of_Z noE_ok (own := RX10) (lv := [(0, .ref (h 299))]) (by decide) rfl rfl (Nat.le_of_ble_eq_true rfl) rfl (fun p e s m below meth c sz X hA => ?_)
  rw [f10_endless]
  refine jm_sipush (n := 3) X dX10_endless_0 (by decide) rfl ?_
  refine jm_iconst (n := 4) X dX10_endless_3 rfl ?_
  refine jm_aload_n (n := 5) X 0 rfl dX10_endless_4 rfl ?_
  refine jm_get (n := 8) X 0 9 39 mW_X10 rfl (by decide) (fun w h => List.mem_cons_of_mem _ (List.mem_append_right _ h)) (List.mem_of_getElem? (i := 1) rfl) rfl dX10_endless_5 rfl ?_
  refine jm_isub (n := 9) X dX10_endless_8 rfl (fun h1 => ?_)
  refine jm_imul (n := 10) X dX10_endless_9 rfl (fun h2 => ?_)
  refine jm_istore_n (n := 11) (lv' := [(1, .int (iI ((640 : Int) * ((1 : Int) - (gI σ0 239))))), (0, .ref (h 299))]) X dX10_endless_10 (by decide) rfl rfl ?_
  refine jm_iload_n (n := 12) X 0 rfl dX10_endless_11 rfl ?_
  refine jm_istore_n (n := 13) (lv' := [(2, .int (iI ((640 : Int) * ((1 : Int) - (gI σ0 239))))), (1, .int (iI ((640 : Int) * ((1 : Int) - (gI σ0 239))))), (0, .ref (h 299))]) X dX10_endless_12 (by decide) rfl rfl ?_
  refine jm_perm [2, 1, 0] rfl ?_
  exact u10_endless_13 X hA N N σ0 ((640 : Int) * ((1 : Int) - (gI σ0 239))) ((640 : Int) * ((1 : Int) - (gI σ0 239))) k0 h2 h2
abbrev rm10_goal : Room := { frames := 0, cells := 0, slots := 0, locals := 0 }
def f10_goal (σ0 : Sg) (x1 : Int) (x2 : Int) (x3 : Int) (x4 : Int) (x5 : Int) : Option (Sg × Int) :=
  ck (0 ≤ (gI σ0 250) ∧ (gI σ0 250) < 130) <| nx (sA σ0 251 (gI σ0 250) x1) fun σ2 =>
  ck (0 ≤ (gI σ2 250) ∧ (gI σ2 250) < 130) <| nx (sA σ2 252 (gI σ2 250) x2) fun σ4 =>
  ck (0 ≤ (gI σ4 250) ∧ (gI σ4 250) < 130) <| nx (sA σ4 253 (gI σ4 250) x3) fun σ6 =>
  ck (0 ≤ (gI σ6 250) ∧ (gI σ6 250) < 130) <| nx (sA σ6 254 (gI σ6 250) x4) fun σ8 =>
  ck (0 ≤ (gI σ8 250) ∧ (gI σ8 250) < 130) <| nx (sA σ8 255 (gI σ8 250) x5) fun σ10 =>
  ck (inR ((gI σ10 250) + (1 : Int))) <|
  nx (sI σ10 250 ((gI σ10 250) + (1 : Int))) fun σ12 =>
  some (σ12, 0)
set_option maxRecDepth 100000 in
theorem t10_goal (l : Launch) {h : Nat → Nat} {cI cZ : ClassId} {D : va_G} {σ0 : Sg} {x1 : Int} {x2 : Int} {x3 : Int} {x4 : Int} {x5 : Int} (k0 : ok σ0) (hx1 : inR x1) (hx2 : inR x2) (hx3 : inR x3) (hx4 : inR x4) (hx5 : inR x5) : ctV noE l (mW h cI cZ) D (mT cI cZ) yX10_goal wsX10_goal rm10_goal [.ref (h 299), .int (iI x1), .int (iI x2), .int (iI x3), .int (iI x4), .int (iI x5)] σ0 (f10_goal σ0 x1 x2 x3 x4 x5) := by
  refine of_V noE_ok (own := RX10) (lv := [(0, .ref (h 299)), (1, .int (iI x1)), (2, .int (iI x2)), (3, .int (iI x3)), (4, .int (iI x4)), (5, .int (iI x5))]) (by decide) rfl rfl (Nat.le_of_ble_eq_true rfl) rfl (fun p e s m below meth c sz X hA => ?_)
  rw [f10_goal]
  refine jm_aload_n (n := 1) X 0 rfl dX10_goal_0 rfl ?_
  refine jm_get (n := 4) X 0 9 51 mW_X10 rfl (by decide) (fun w h => List.mem_cons_of_mem _ (List.mem_append_right _ h)) (List.mem_of_getElem? (i := 1) rfl) rfl dX10_goal_1 rfl ?_
  refine jm_aload_n (n := 5) X 0 rfl dX10_goal_4 rfl ?_
  refine jm_get (n := 8) X 0 9 50 mW_X10 rfl (by decide) (fun w h => List.mem_cons_of_mem _ (List.mem_append_right _ h)) (List.mem_of_getElem? (i := 2) rfl) rfl dX10_goal_5 rfl ?_
  refine jm_iload_n (n := 9) X 1 rfl dX10_goal_8 rfl ?_
  refine jm_ast (n := 10) X 27 0 251 mA_251 rfl rfl mT_251 k0 (k0.1 250) hx1 dX10_goal_9 rfl (fun h1 σ2 k2 => ?_)
  refine jm_aload_n (n := 11) X 0 rfl dX10_goal_10 rfl ?_
  refine jm_get (n := 14) X 0 9 52 mW_X10 rfl (by decide) (fun w h => List.mem_cons_of_mem _ (List.mem_append_right _ h)) (List.mem_of_getElem? (i := 3) rfl) rfl dX10_goal_11 rfl ?_
  refine jm_aload_n (n := 15) X 0 rfl dX10_goal_14 rfl ?_
  refine jm_get (n := 18) X 0 9 50 mW_X10 rfl (by decide) (fun w h => List.mem_cons_of_mem _ (List.mem_append_right _ h)) (List.mem_of_getElem? (i := 2) rfl) rfl dX10_goal_15 rfl ?_
  refine jm_iload_n (n := 19) X 2 rfl dX10_goal_18 rfl ?_
  refine jm_ast (n := 20) X 28 0 252 mA_252 rfl rfl mT_252 k2 (k2.1 250) hx2 dX10_goal_19 rfl (fun h3 σ4 k4 => ?_)
  refine jm_aload_n (n := 21) X 0 rfl dX10_goal_20 rfl ?_
  refine jm_get (n := 24) X 0 9 53 mW_X10 rfl (by decide) (fun w h => List.mem_cons_of_mem _ (List.mem_append_right _ h)) (List.mem_of_getElem? (i := 4) rfl) rfl dX10_goal_21 rfl ?_
  refine jm_aload_n (n := 25) X 0 rfl dX10_goal_24 rfl ?_
  refine jm_get (n := 28) X 0 9 50 mW_X10 rfl (by decide) (fun w h => List.mem_cons_of_mem _ (List.mem_append_right _ h)) (List.mem_of_getElem? (i := 2) rfl) rfl dX10_goal_25 rfl ?_
  refine jm_iload_n (n := 29) X 3 rfl dX10_goal_28 rfl ?_
  refine jm_ast (n := 30) X 29 0 253 mA_253 rfl rfl mT_253 k4 (k4.1 250) hx3 dX10_goal_29 rfl (fun h5 σ6 k6 => ?_)
  refine jm_aload_n (n := 31) X 0 rfl dX10_goal_30 rfl ?_
  refine jm_get (n := 34) X 0 9 54 mW_X10 rfl (by decide) (fun w h => List.mem_cons_of_mem _ (List.mem_append_right _ h)) (List.mem_of_getElem? (i := 5) rfl) rfl dX10_goal_31 rfl ?_
  refine jm_aload_n (n := 35) X 0 rfl dX10_goal_34 rfl ?_
  refine jm_get (n := 38) X 0 9 50 mW_X10 rfl (by decide) (fun w h => List.mem_cons_of_mem _ (List.mem_append_right _ h)) (List.mem_of_getElem? (i := 2) rfl) rfl dX10_goal_35 rfl ?_
  refine jm_iload (n := 40) X 4 rfl dX10_goal_38 rfl ?_
  refine jm_ast (n := 41) X 30 0 254 mA_254 rfl rfl mT_254 k6 (k6.1 250) hx4 dX10_goal_40 rfl (fun h7 σ8 k8 => ?_)
  refine jm_aload_n (n := 42) X 0 rfl dX10_goal_41 rfl ?_
  refine jm_get (n := 45) X 0 9 55 mW_X10 rfl (by decide) (fun w h => List.mem_cons_of_mem _ (List.mem_append_right _ h)) (List.mem_of_getElem? (i := 6) rfl) rfl dX10_goal_42 rfl ?_
  refine jm_aload_n (n := 46) X 0 rfl dX10_goal_45 rfl ?_
  refine jm_get (n := 49) X 0 9 50 mW_X10 rfl (by decide) (fun w h => List.mem_cons_of_mem _ (List.mem_append_right _ h)) (List.mem_of_getElem? (i := 2) rfl) rfl dX10_goal_46 rfl ?_
  refine jm_iload (n := 51) X 5 rfl dX10_goal_49 rfl ?_
  refine jm_ast (n := 52) X 31 0 255 mA_255 rfl rfl mT_255 k8 (k8.1 250) hx5 dX10_goal_51 rfl (fun h9 σ10 k10 => ?_)
  refine jm_aload_n (n := 53) X 0 rfl dX10_goal_52 rfl ?_
  refine jm_dup (n := 54) X dX10_goal_53 rfl rfl ?_
  refine jm_get (n := 57) X 0 9 50 mW_X10 rfl (by decide) (fun w h => List.mem_cons_of_mem _ (List.mem_append_right _ h)) (List.mem_of_getElem? (i := 2) rfl) rfl dX10_goal_54 rfl ?_
  refine jm_iconst (n := 58) X dX10_goal_57 rfl ?_
  refine jm_iadd (n := 59) X dX10_goal_58 rfl (fun h11 => ?_)
  refine jm_put (n := 62) X 0 9 50 250 mW_X10 rfl (by decide) (fun w h => List.mem_cons_of_mem _ (List.mem_append_right _ h)) tyX10 tyX10_ok nmX10 (List.mem_of_getElem? (i := 2) rfl) rfl rfl rfl rfl (Nat.le_of_ble_eq_true rfl) mS_250 k10 h11 dX10_goal_59 rfl (fun σ12 k12 => ?_)
  exact jm_vret X rfl k12 dX10_goal_62
abbrev rm10_place : Room := { frames := 0, cells := 0, slots := 0, locals := 0 }
def f10_place (σ0 : Sg) (x1 : Int) (x2 : Int) (x3 : Int) : Option (Sg × Int) :=
  ck (inR ((gI σ0 256) + (1 : Int))) <|
  nx (sI σ0 256 ((gI σ0 256) + (1 : Int))) fun σ2 =>
  ck (0 ≤ (gI σ2 256) ∧ (gI σ2 256) < 250) <| nx (sA σ2 257 (gI σ2 256) x1) fun σ4 =>
  ck (0 ≤ (gI σ4 256) ∧ (gI σ4 256) < 250) <| nx (sA σ4 258 (gI σ4 256) x2) fun σ6 =>
  ck (0 ≤ (gI σ6 256) ∧ (gI σ6 256) < 250) <| nx (sA σ6 259 (gI σ6 256) x3) fun σ8 =>
  some (σ8, (gI σ8 256))
set_option maxRecDepth 100000 in
theorem t10_place (l : Launch) {h : Nat → Nat} {cI cZ : ClassId} {D : va_G} {σ0 : Sg} {x1 : Int} {x2 : Int} {x3 : Int} (k0 : ok σ0) (hx1 : inR x1) (hx2 : inR x2) (hx3 : inR x3) : ctI noE l (mW h cI cZ) D (mT cI cZ) yX10_place wsX10_place rm10_place [.ref (h 299), .int (iI x1), .int (iI x2), .int (iI x3)] σ0 (f10_place σ0 x1 x2 x3) := by
  refine of_I noE_ok (own := RX10) (lv := [(0, .ref (h 299)), (1, .int (iI x1)), (2, .int (iI x2)), (3, .int (iI x3))]) (by decide) rfl rfl (Nat.le_of_ble_eq_true rfl) rfl (fun p e s m below meth c sz X hA => ?_)
  rw [f10_place]
  refine jm_aload_n (n := 1) X 0 rfl dX10_place_0 rfl ?_
  refine jm_dup (n := 2) X dX10_place_1 rfl rfl ?_
  refine jm_get (n := 5) X 0 9 56 mW_X10 rfl (by decide) (fun w h => List.mem_cons_of_mem _ (List.mem_append_right _ h)) (List.mem_of_getElem? (i := 1) rfl) rfl dX10_place_2 rfl ?_
  refine jm_iconst (n := 6) X dX10_place_5 rfl ?_
  refine jm_iadd (n := 7) X dX10_place_6 rfl (fun h1 => ?_)
  refine jm_put (n := 10) X 0 9 56 256 mW_X10 rfl (by decide) (fun w h => List.mem_cons_of_mem _ (List.mem_append_right _ h)) tyX10 tyX10_ok nmX10 (List.mem_of_getElem? (i := 1) rfl) rfl rfl rfl rfl (Nat.le_of_ble_eq_true rfl) mS_256 k0 h1 dX10_place_7 rfl (fun σ2 k2 => ?_)
  refine jm_aload_n (n := 11) X 0 rfl dX10_place_10 rfl ?_
  refine jm_get (n := 14) X 0 9 57 mW_X10 rfl (by decide) (fun w h => List.mem_cons_of_mem _ (List.mem_append_right _ h)) (List.mem_of_getElem? (i := 2) rfl) rfl dX10_place_11 rfl ?_
  refine jm_aload_n (n := 15) X 0 rfl dX10_place_14 rfl ?_
  refine jm_get (n := 18) X 0 9 56 mW_X10 rfl (by decide) (fun w h => List.mem_cons_of_mem _ (List.mem_append_right _ h)) (List.mem_of_getElem? (i := 1) rfl) rfl dX10_place_15 rfl ?_
  refine jm_iload_n (n := 19) X 1 rfl dX10_place_18 rfl ?_
  refine jm_ast (n := 20) X 32 0 257 mA_257 rfl rfl mT_257 k2 (k2.1 256) hx1 dX10_place_19 rfl (fun h3 σ4 k4 => ?_)
  refine jm_aload_n (n := 21) X 0 rfl dX10_place_20 rfl ?_
  refine jm_get (n := 24) X 0 9 58 mW_X10 rfl (by decide) (fun w h => List.mem_cons_of_mem _ (List.mem_append_right _ h)) (List.mem_of_getElem? (i := 3) rfl) rfl dX10_place_21 rfl ?_
  refine jm_aload_n (n := 25) X 0 rfl dX10_place_24 rfl ?_
  refine jm_get (n := 28) X 0 9 56 mW_X10 rfl (by decide) (fun w h => List.mem_cons_of_mem _ (List.mem_append_right _ h)) (List.mem_of_getElem? (i := 1) rfl) rfl dX10_place_25 rfl ?_
  refine jm_iload_n (n := 29) X 2 rfl dX10_place_28 rfl ?_
  refine jm_ast (n := 30) X 33 0 258 mA_258 rfl rfl mT_258 k4 (k4.1 256) hx2 dX10_place_29 rfl (fun h5 σ6 k6 => ?_)
  refine jm_aload_n (n := 31) X 0 rfl dX10_place_30 rfl ?_
  refine jm_get (n := 34) X 0 9 59 mW_X10 rfl (by decide) (fun w h => List.mem_cons_of_mem _ (List.mem_append_right _ h)) (List.mem_of_getElem? (i := 4) rfl) rfl dX10_place_31 rfl ?_
  refine jm_aload_n (n := 35) X 0 rfl dX10_place_34 rfl ?_
  refine jm_get (n := 38) X 0 9 56 mW_X10 rfl (by decide) (fun w h => List.mem_cons_of_mem _ (List.mem_append_right _ h)) (List.mem_of_getElem? (i := 1) rfl) rfl dX10_place_35 rfl ?_
  refine jm_iload_n (n := 39) X 3 rfl dX10_place_38 rfl ?_
  refine jm_ast (n := 40) X 34 0 259 mA_259 rfl rfl mT_259 k6 (k6.1 256) hx3 dX10_place_39 rfl (fun h7 σ8 k8 => ?_)
  refine jm_aload_n (n := 41) X 0 rfl dX10_place_40 rfl ?_
  refine jm_get (n := 44) X 0 9 56 mW_X10 rfl (by decide) (fun w h => List.mem_cons_of_mem _ (List.mem_append_right _ h)) (List.mem_of_getElem? (i := 1) rfl) rfl dX10_place_41 rfl ?_
  exact jm_iret X rfl k8 (k8.1 256) dX10_place_44
abbrev rm10_variable : Room := { frames := 3, cells := 0, slots := 0, locals := 75 }
def b10_variable_6 (N : Nat) : Nat → Sg → Int → Int → Int → Int → Option (Sg × Int)
  | 0, _, _, _, _, _ => none
  | n + 1, σ0, x1, x3, x4, x5 => if x1 ≤ x5 then (ck (0 ≤ x4 ∧ x4 < 250) <|
  if (gA σ0 258 x4) = (-1 : Int) then (ck (0 ≤ x4 ∧ x4 < 250) <|
  bd (f10_equal N σ0 x3 (gA σ0 257 x4)) fun σ5 r5 =>
  some (σ5, 0))
  else (bd (f10_letterCell σ0 ) fun σ7 r7 =>
  ck (0 ≤ x4 ∧ x4 < 250) <|
  ck (0 ≤ x4 ∧ x4 < 250) <|
  bd (f10_functionCell σ7 (gA σ7 257 x4) r7 (gA σ7 258 x4) r7) fun σ11 r11 =>
  bd (f10_equal N σ11 x3 r11) fun σ13 r13 =>
  some (σ13, 0)))
  else (ck (0 ≤ x4 ∧ x4 < 250) <|
  ck (inR (x5 + (1 : Int))) <|
  ((b10_variable_6 N n) σ0 x1 x3 (gA σ0 259 x4) (x5 + (1 : Int))))
set_option maxRecDepth 100000 in
theorem u10_variable_6 (X : CX p m meth c cX10_variable 6 none s args wsX10_variable RX10 D (mT cI cZ) noE (va_A (mW h cI cZ σz) sz)) (hA : ∀ z : Nat, s.heap.size ≤ z → va_A (mW h cI cZ σz) sz z) (N : Nat) : ∀ (n : Nat) (σ0 : Sg) (x1 : Int) (x3 : Int) (x4 : Int) (x5 : Int), ok σ0 → inR x1 → inR x3 → inR x4 → inR x5 → JV l rm10_variable (mW h cI cZ) D (mT cI cZ) σz sz 6 p e s m args below meth c σ0 6 [(0, .ref (h 299)), (1, .int (iI x1)), (3, .int (iI x3)), (4, .int (iI x4)), (5, .int (iI x5))] [] (b10_variable_6 N n σ0 x1 x3 x4 x5) := by
  intro n
  induction n with
  | zero =>
    intro σ0 x1 x3 x4 x5 k0 hx1 hx3 hx4 hx5 σ9 r9 ho9
    rw [b10_variable_6] at ho9
    cases ho9
  | succ n ih =>
    intro σ0 x1 x3 x4 x5 k0 hx1 hx3 hx4 hx5
    rw [b10_variable_6]
    refine jm_iload (n := 8) X 4 rfl dX10_variable_6 rfl ?_
    refine jm_iload_n (n := 9) X 1 rfl dX10_variable_8 rfl ?_
    refine jm_icmp_ge (n := 12) (tgt := 27) X dX10_variable_9 (by decide) hx5 hx1 rfl (fun c1 => ?_) (fun c1 => ?_)
    · refine jm_aload_n (n := 28) X 0 rfl dX10_variable_27 rfl ?_
      refine jm_get (n := 31) X 0 9 58 mW_X10 rfl (by decide) (fun w h => List.mem_cons_of_mem _ (List.mem_append_right _ h)) (List.mem_of_getElem? (i := 2) rfl) rfl dX10_variable_28 rfl ?_
      refine jm_iload (n := 33) X 3 rfl dX10_variable_31 rfl ?_
      refine jm_ald (n := 34) X 33 0 258 mA_258 rfl rfl hx4 dX10_variable_33 rfl (fun h2 => ?_)
      refine jm_iconst (n := 35) X dX10_variable_34 rfl ?_
      refine jm_icmp_ne (n := 38) (tgt := 53) X dX10_variable_35 (by decide) (k0.2 258 _) (by decide) rfl (fun c3 => ?_) (fun c3 => ?_)
      · refine jm_aload_n (n := 39) X 0 rfl dX10_variable_38 rfl ?_
        refine jm_iload_n (n := 40) X 2 rfl dX10_variable_39 rfl ?_
        refine jm_aload_n (n := 41) X 0 rfl dX10_variable_40 rfl ?_
        refine jm_get (n := 44) X 0 9 57 mW_X10 rfl (by decide) (fun w h => List.mem_cons_of_mem _ (List.mem_append_right _ h)) (List.mem_of_getElem? (i := 3) rfl) rfl dX10_variable_41 rfl ?_
        refine jm_iload (n := 46) X 3 rfl dX10_variable_44 rfl ?_
        refine jm_ald (n := 47) X 32 0 257 mA_257 rfl rfl hx4 dX10_variable_46 rfl (fun h4 => ?_)
        refine jm_callVv (n := 50) (vs := [.int (iI x3), .int (iI (gA σ0 257 x4))]) (rest := []) X hA (t10_equal l N k0 hx3 (k0.2 257 _)) (cwV 2 X.2.2.2.2.1 gX10_variable_X10_equal rfl rfl rfl (by decide +kernel) ⟨Nat.le_of_ble_eq_true rfl, Nat.le_of_ble_eq_true rfl⟩) 0 9 mW_X10 rfl rfl (Nat.le_of_ble_eq_true rfl) dX10_variable_47 rfl (fun σ5 r5 k5 => ?_)
        refine jm_goto (n := 86) X dX10_variable_50 (by decide) ?_
        exact jm_vret X rfl k5 dX10_variable_86
      · refine jm_aload_n (n := 54) X 0 rfl dX10_variable_53 rfl ?_
        refine jm_callVi (n := 57) (vs := []) (rest := []) X hA (t10_letterCell l k0 ) (cwV 0 X.2.2.2.2.1 gX10_variable_X10_letterCell rfl rfl rfl (by decide +kernel) ⟨Nat.le_of_ble_eq_true rfl, Nat.le_of_ble_eq_true rfl⟩) 0 9 mW_X10 rfl rfl (Nat.le_of_ble_eq_true rfl) dX10_variable_54 rfl (fun σ7 r7 k7 h8 => ?_)
        refine jm_istore (n := 59) (lv' := [(5, .int (iI r7)), (0, .ref (h 299)), (1, .int (iI x1)), (3, .int (iI x3)), (4, .int (iI x4))]) X dX10_variable_57 (by decide) rfl rfl ?_
        refine jm_aload_n (n := 60) X 1 rfl dX10_variable_59 rfl ?_
        refine jm_iload_n (n := 61) X 3 rfl dX10_variable_60 rfl ?_
        refine jm_aload_n (n := 62) X 1 rfl dX10_variable_61 rfl ?_
        refine jm_aload_n (n := 63) X 1 rfl dX10_variable_62 rfl ?_
        refine jm_get (n := 66) X 0 9 57 mW_X10 rfl (by decide) (fun w h => List.mem_cons_of_mem _ (List.mem_append_right _ h)) (List.mem_of_getElem? (i := 3) rfl) rfl dX10_variable_63 rfl ?_
        refine jm_iload (n := 68) X 4 rfl dX10_variable_66 rfl ?_
        refine jm_ald (n := 69) X 32 0 257 mA_257 rfl rfl hx4 dX10_variable_68 rfl (fun h9 => ?_)
        refine jm_iload (n := 71) X 0 rfl dX10_variable_69 rfl ?_
        refine jm_aload_n (n := 72) X 1 rfl dX10_variable_71 rfl ?_
        refine jm_get (n := 75) X 0 9 58 mW_X10 rfl (by decide) (fun w h => List.mem_cons_of_mem _ (List.mem_append_right _ h)) (List.mem_of_getElem? (i := 2) rfl) rfl dX10_variable_72 rfl ?_
        refine jm_iload (n := 77) X 4 rfl dX10_variable_75 rfl ?_
        refine jm_ald (n := 78) X 33 0 258 mA_258 rfl rfl hx4 dX10_variable_77 rfl (fun h10 => ?_)
        refine jm_iload (n := 80) X 0 rfl dX10_variable_78 rfl ?_
        refine jm_callVi (n := 83) (vs := [.int (iI (gA σ7 257 x4)), .int (iI r7), .int (iI (gA σ7 258 x4)), .int (iI r7)]) (rest := [.int (iI x3), .ref (h 299)]) X hA (t10_functionCell l k7 (k7.2 257 _) h8 (k7.2 258 _) h8) (cwV 4 X.2.2.2.2.1 gX10_variable_X10_functionCell rfl rfl rfl (by decide +kernel) ⟨Nat.le_of_ble_eq_true rfl, Nat.le_of_ble_eq_true rfl⟩) 0 9 mW_X10 rfl rfl (Nat.le_of_ble_eq_true rfl) dX10_variable_80 rfl (fun σ11 r11 k11 h12 => ?_)
        refine jm_callVv (n := 86) (vs := [.int (iI x3), .int (iI r11)]) (rest := []) X hA (t10_equal l N k11 hx3 h12) (cwV 2 X.2.2.2.2.1 gX10_variable_X10_equal rfl rfl rfl (by decide +kernel) ⟨Nat.le_of_ble_eq_true rfl, Nat.le_of_ble_eq_true rfl⟩) 0 9 mW_X10 rfl rfl (Nat.le_of_ble_eq_true rfl) dX10_variable_83 rfl (fun σ13 r13 k13 => ?_)
        exact jm_vret X rfl k13 dX10_variable_86
    · refine jm_aload_n (n := 13) X 0 rfl dX10_variable_12 rfl ?_
      refine jm_get (n := 16) X 0 9 59 mW_X10 rfl (by decide) (fun w h => List.mem_cons_of_mem _ (List.mem_append_right _ h)) (List.mem_of_getElem? (i := 1) rfl) rfl dX10_variable_13 rfl ?_
      refine jm_iload (n := 18) X 3 rfl dX10_variable_16 rfl ?_
      refine jm_ald (n := 19) X 34 0 259 mA_259 rfl rfl hx4 dX10_variable_18 rfl (fun h15 => ?_)
      refine jm_istore (n := 21) (lv' := [(4, .int (iI (gA σ0 259 x4))), (0, .ref (h 299)), (1, .int (iI x1)), (3, .int (iI x3)), (5, .int (iI x5))]) X dX10_variable_19 (by decide) rfl rfl ?_
      refine jm_iinc (n := 24) (lv' := [(5, .int (iI (x5 + (1 : Int)))), (4, .int (iI (gA σ0 259 x4))), (0, .ref (h 299)), (1, .int (iI x1)), (3, .int (iI x3))]) X 4 rfl dX10_variable_21 (by decide) rfl rfl (fun h16 => ?_)
      refine jm_goto (n := 6) X dX10_variable_24 (by decide) ?_
      refine jm_perm [2, 3, 4, 1, 0] rfl ?_
      exact ih σ0 x1 x3 (gA σ0 259 x4) (x5 + (1 : Int)) k0 hx1 hx3 (k0.2 259 _) h16
def f10_variable (N : Nat) (σ0 : Sg) (x1 : Int) (x2 : Int) (x3 : Int) : Option (Sg × Int) :=
  (b10_variable_6 N N σ0 x1 x3 x2 (0 : Int))
set_option maxRecDepth 100000 in
theorem t10_variable (l : Launch) {h : Nat → Nat} {cI cZ : ClassId} {D : va_G} (N : Nat) {σ0 : Sg} {x1 : Int} {x2 : Int} {x3 : Int} (k0 : ok σ0) (hx1 : inR x1) (hx2 : inR x2) (hx3 : inR x3) : ctV noE l (mW h cI cZ) D (mT cI cZ) yX10_variable wsX10_variable rm10_variable [.ref (h 299), .int (iI x1), .int (iI x2), .int (iI x3)] σ0 (f10_variable N σ0 x1 x2 x3) := by
  refine of_V noE_ok (own := RX10) (lv := [(0, .ref (h 299)), (1, .int (iI x1)), (2, .int (iI x2)), (3, .int (iI x3))]) (by decide) rfl rfl (Nat.le_of_ble_eq_true rfl) rfl (fun p e s m below meth c sz X hA => ?_)
  rw [f10_variable]
  refine jm_iload_n (n := 1) X 2 rfl dX10_variable_0 rfl ?_
  refine jm_istore (n := 3) (lv' := [(4, .int (iI x2)), (0, .ref (h 299)), (1, .int (iI x1)), (2, .int (iI x2)), (3, .int (iI x3))]) X dX10_variable_1 (by decide) rfl rfl ?_
  refine jm_iconst (n := 4) X dX10_variable_3 rfl ?_
  refine jm_istore (n := 6) (lv' := [(5, .int (iI (0 : Int))), (4, .int (iI x2)), (0, .ref (h 299)), (1, .int (iI x1)), (2, .int (iI x2)), (3, .int (iI x3))]) X dX10_variable_4 (by decide) rfl rfl ?_
  refine jm_perm [2, 3, 5, 1, 0] rfl ?_
  exact u10_variable_6 X hA N N σ0 x1 x3 x2 (0 : Int) k0 hx1 hx3 hx2 (by decide)
abbrev rm10_function : Room := { frames := 3, cells := 0, slots := 0, locals := 75 }
def b10_function_64 (N : Nat) (σ0 : Sg) (x2 : Int) (x5 : Int) (x6 : Int) (x7 : Int) (x8 : Int) (y0 : Int) : Option (Sg × Int) :=
  ck (0 ≤ x2 ∧ x2 < 60) <|
  bd (f10_place σ0 x5 (-1 : Int) y0) fun σ2 r2 =>
  bd (f10_goal σ2 (gA σ0 203 x2) r2 x7 x6 x8) fun σ4 r4 =>
  some (σ4, 0)
set_option maxRecDepth 100000 in
theorem u10_function_64 (X : CX p m meth c cX10_function 11 none s args wsX10_function RX10 D (mT cI cZ) noE (va_A (mW h cI cZ σz) sz)) (hA : ∀ z : Nat, s.heap.size ≤ z → va_A (mW h cI cZ σz) sz z) (N : Nat) (σ0 : Sg) (x2 : Int) (x5 : Int) (x6 : Int) (x7 : Int) (x8 : Int) (y0 : Int) (k0 : ok σ0) (hx2 : inR x2) (hx5 : inR x5) (hx6 : inR x6) (hx7 : inR x7) (hx8 : inR x8) (hy0 : inR y0) : JV l rm10_function (mW h cI cZ) D (mT cI cZ) σz sz 11 p e s m args below meth c σ0 64 [(0, .ref (h 299)), (2, .int (iI x2)), (5, .int (iI x5)), (6, .int (iI x6)), (7, .int (iI x7)), (8, .int (iI x8))] [.int (iI y0)] (b10_function_64 N σ0 x2 x5 x6 x7 x8 y0) := by
  rw [b10_function_64]
  refine jm_istore (n := 66) (lv' := [(10, .int (iI y0)), (0, .ref (h 299)), (2, .int (iI x2)), (5, .int (iI x5)), (6, .int (iI x6)), (7, .int (iI x7)), (8, .int (iI x8))]) X dX10_function_64 (by decide) rfl rfl ?_
  refine jm_aload_n (n := 67) X 1 rfl dX10_function_66 rfl ?_
  refine jm_aload_n (n := 68) X 1 rfl dX10_function_67 rfl ?_
  refine jm_get (n := 71) X 0 9 3 mW_X10 rfl (by decide) (fun w h => List.mem_cons_of_mem _ (List.mem_append_right _ h)) (List.mem_of_getElem? (i := 1) rfl) rfl dX10_function_68 rfl ?_
  refine jm_iload_n (n := 72) X 2 rfl dX10_function_71 rfl ?_
  refine jm_ald (n := 73) X 2 0 203 mA_203 rfl rfl hx2 dX10_function_72 rfl (fun h1 => ?_)
  refine jm_aload_n (n := 74) X 1 rfl dX10_function_73 rfl ?_
  refine jm_iload (n := 76) X 3 rfl dX10_function_74 rfl ?_
  refine jm_iconst (n := 77) X dX10_function_76 rfl ?_
  refine jm_iload (n := 79) X 0 rfl dX10_function_77 rfl ?_
  refine jm_callVi (n := 82) (vs := [.int (iI x5), .int (iI (-1 : Int)), .int (iI y0)]) (rest := [.int (iI (gA σ0 203 x2)), .ref (h 299)]) X hA (t10_place l k0 hx5 (by decide) hy0) (cwV 3 X.2.2.2.2.1 gX10_function_X10_place rfl rfl rfl (by decide +kernel) ⟨Nat.le_of_ble_eq_true rfl, Nat.le_of_ble_eq_true rfl⟩) 0 9 mW_X10 rfl rfl (Nat.le_of_ble_eq_true rfl) dX10_function_79 rfl (fun σ2 r2 k2 h3 => ?_)
  refine jm_iload (n := 84) X 5 rfl dX10_function_82 rfl ?_
  refine jm_iload (n := 86) X 4 rfl dX10_function_84 rfl ?_
  refine jm_iload (n := 88) X 6 rfl dX10_function_86 rfl ?_
  refine jm_callVv (n := 91) (vs := [.int (iI (gA σ0 203 x2)), .int (iI r2), .int (iI x7), .int (iI x6), .int (iI x8)]) (rest := []) X hA (t10_goal l k2 (k0.2 203 _) h3 hx7 hx6 hx8) (cwV 5 X.2.2.2.2.1 gX10_function_X10_goal rfl rfl rfl (by decide +kernel) ⟨Nat.le_of_ble_eq_true rfl, Nat.le_of_ble_eq_true rfl⟩) 0 9 mW_X10 rfl rfl (Nat.le_of_ble_eq_true rfl) dX10_function_88 rfl (fun σ4 r4 k4 => ?_)
  exact jm_vret X rfl k4 dX10_function_91
def f10_function (N : Nat) (σ0 : Sg) (x1 : Int) (x2 : Int) (x3 : Int) (x4 : Int) : Option (Sg × Int) :=
  bd (f10_letterCell σ0 ) fun σ1 r1 =>
  bd (f10_letterCell σ1 ) fun σ3 r3 =>
  bd (f10_letterCell σ3 ) fun σ5 r5 =>
  bd (f10_letterCell σ5 ) fun σ7 r7 =>
  bd (f10_functionCell σ7 r1 r3 r5 r7) fun σ9 r9 =>
  bd (f10_equal N σ9 x4 r9) fun σ11 r11 =>
  if x1 = (11 : Int) then (bd (f10_place σ11 r9 (-1 : Int) x3) fun σ14 r14 =>
  (b10_function_64 N σ14 x2 r1 r3 r5 r7 r14))
  else ((b10_function_64 N σ11 x2 r1 r3 r5 r7 x3))
set_option maxRecDepth 100000 in
theorem t10_function (l : Launch) {h : Nat → Nat} {cI cZ : ClassId} {D : va_G} (N : Nat) {σ0 : Sg} {x1 : Int} {x2 : Int} {x3 : Int} {x4 : Int} (k0 : ok σ0) (hx1 : inR x1) (hx2 : inR x2) (hx3 : inR x3) (hx4 : inR x4) : ctV noE l (mW h cI cZ) D (mT cI cZ) yX10_function wsX10_function rm10_function [.ref (h 299), .int (iI x1), .int (iI x2), .int (iI x3), .int (iI x4)] σ0 (f10_function N σ0 x1 x2 x3 x4) := by
  refine of_V noE_ok (own := RX10) (lv := [(0, .ref (h 299)), (1, .int (iI x1)), (2, .int (iI x2)), (3, .int (iI x3)), (4, .int (iI x4))]) (by decide) rfl rfl (Nat.le_of_ble_eq_true rfl) rfl (fun p e s m below meth c sz X hA => ?_)
  rw [f10_function]
  refine jm_aload_n (n := 1) X 0 rfl dX10_function_0 rfl ?_
  refine jm_callVi (n := 4) (vs := []) (rest := []) X hA (t10_letterCell l k0 ) (cwV 0 X.2.2.2.2.1 gX10_function_X10_letterCell rfl rfl rfl (by decide +kernel) ⟨Nat.le_of_ble_eq_true rfl, Nat.le_of_ble_eq_true rfl⟩) 0 9 mW_X10 rfl rfl (Nat.le_of_ble_eq_true rfl) dX10_function_1 rfl (fun σ1 r1 k1 h2 => ?_)
  refine jm_istore (n := 6) (lv' := [(5, .int (iI r1)), (0, .ref (h 299)), (1, .int (iI x1)), (2, .int (iI x2)), (3, .int (iI x3)), (4, .int (iI x4))]) X dX10_function_4 (by decide) rfl rfl ?_
  refine jm_aload_n (n := 7) X 1 rfl dX10_function_6 rfl ?_
  refine jm_callVi (n := 10) (vs := []) (rest := []) X hA (t10_letterCell l k1 ) (cwV 0 X.2.2.2.2.1 gX10_function_X10_letterCell rfl rfl rfl (by decide +kernel) ⟨Nat.le_of_ble_eq_true rfl, Nat.le_of_ble_eq_true rfl⟩) 0 9 mW_X10 rfl rfl (Nat.le_of_ble_eq_true rfl) dX10_function_7 rfl (fun σ3 r3 k3 h4 => ?_)
  refine jm_istore (n := 12) (lv' := [(6, .int (iI r3)), (5, .int (iI r1)), (0, .ref (h 299)), (1, .int (iI x1)), (2, .int (iI x2)), (3, .int (iI x3)), (4, .int (iI x4))]) X dX10_function_10 (by decide) rfl rfl ?_
  refine jm_aload_n (n := 13) X 2 rfl dX10_function_12 rfl ?_
  refine jm_callVi (n := 16) (vs := []) (rest := []) X hA (t10_letterCell l k3 ) (cwV 0 X.2.2.2.2.1 gX10_function_X10_letterCell rfl rfl rfl (by decide +kernel) ⟨Nat.le_of_ble_eq_true rfl, Nat.le_of_ble_eq_true rfl⟩) 0 9 mW_X10 rfl rfl (Nat.le_of_ble_eq_true rfl) dX10_function_13 rfl (fun σ5 r5 k5 h6 => ?_)
  refine jm_istore (n := 18) (lv' := [(7, .int (iI r5)), (6, .int (iI r3)), (5, .int (iI r1)), (0, .ref (h 299)), (1, .int (iI x1)), (2, .int (iI x2)), (3, .int (iI x3)), (4, .int (iI x4))]) X dX10_function_16 (by decide) rfl rfl ?_
  refine jm_aload_n (n := 19) X 3 rfl dX10_function_18 rfl ?_
  refine jm_callVi (n := 22) (vs := []) (rest := []) X hA (t10_letterCell l k5 ) (cwV 0 X.2.2.2.2.1 gX10_function_X10_letterCell rfl rfl rfl (by decide +kernel) ⟨Nat.le_of_ble_eq_true rfl, Nat.le_of_ble_eq_true rfl⟩) 0 9 mW_X10 rfl rfl (Nat.le_of_ble_eq_true rfl) dX10_function_19 rfl (fun σ7 r7 k7 h8 => ?_)
  refine jm_istore (n := 24) (lv' := [(8, .int (iI r7)), (7, .int (iI r5)), (6, .int (iI r3)), (5, .int (iI r1)), (0, .ref (h 299)), (1, .int (iI x1)), (2, .int (iI x2)), (3, .int (iI x3)), (4, .int (iI x4))]) X dX10_function_22 (by decide) rfl rfl ?_
  refine jm_aload_n (n := 25) X 4 rfl dX10_function_24 rfl ?_
  refine jm_iload (n := 27) X 3 rfl dX10_function_25 rfl ?_
  refine jm_iload (n := 29) X 2 rfl dX10_function_27 rfl ?_
  refine jm_iload (n := 31) X 1 rfl dX10_function_29 rfl ?_
  refine jm_iload (n := 33) X 0 rfl dX10_function_31 rfl ?_
  refine jm_callVi (n := 36) (vs := [.int (iI r1), .int (iI r3), .int (iI r5), .int (iI r7)]) (rest := []) X hA (t10_functionCell l k7 h2 h4 h6 h8) (cwV 4 X.2.2.2.2.1 gX10_function_X10_functionCell rfl rfl rfl (by decide +kernel) ⟨Nat.le_of_ble_eq_true rfl, Nat.le_of_ble_eq_true rfl⟩) 0 9 mW_X10 rfl rfl (Nat.le_of_ble_eq_true rfl) dX10_function_33 rfl (fun σ9 r9 k9 h10 => ?_)
  refine jm_istore (n := 38) (lv' := [(9, .int (iI r9)), (8, .int (iI r7)), (7, .int (iI r5)), (6, .int (iI r3)), (5, .int (iI r1)), (0, .ref (h 299)), (1, .int (iI x1)), (2, .int (iI x2)), (3, .int (iI x3)), (4, .int (iI x4))]) X dX10_function_36 (by decide) rfl rfl ?_
  refine jm_aload_n (n := 39) X 5 rfl dX10_function_38 rfl ?_
  refine jm_iload (n := 41) X 9 rfl dX10_function_39 rfl ?_
  refine jm_iload (n := 43) X 0 rfl dX10_function_41 rfl ?_
  refine jm_callVv (n := 46) (vs := [.int (iI x4), .int (iI r9)]) (rest := []) X hA (t10_equal l N k9 hx4 h10) (cwV 2 X.2.2.2.2.1 gX10_function_X10_equal rfl rfl rfl (by decide +kernel) ⟨Nat.le_of_ble_eq_true rfl, Nat.le_of_ble_eq_true rfl⟩) 0 9 mW_X10 rfl rfl (Nat.le_of_ble_eq_true rfl) dX10_function_43 rfl (fun σ11 r11 k11 => ?_)
  refine jm_iload_n (n := 47) X 6 rfl dX10_function_46 rfl ?_
  refine jm_bipush (n := 49) X dX10_function_47 (by decide) rfl ?_
  refine jm_icmp_ne (n := 52) (tgt := 63) X dX10_function_49 (by decide) hx1 (by decide) rfl (fun c13 => ?_) (fun c13 => ?_)
  · refine jm_aload_n (n := 53) X 5 rfl dX10_function_52 rfl ?_
    refine jm_iload (n := 55) X 0 rfl dX10_function_53 rfl ?_
    refine jm_iconst (n := 56) X dX10_function_55 rfl ?_
    refine jm_iload_n (n := 57) X 8 rfl dX10_function_56 rfl ?_
    refine jm_callVi (n := 60) (vs := [.int (iI r9), .int (iI (-1 : Int)), .int (iI x3)]) (rest := []) X hA (t10_place l k11 h10 (by decide) hx3) (cwV 3 X.2.2.2.2.1 gX10_function_X10_place rfl rfl rfl (by decide +kernel) ⟨Nat.le_of_ble_eq_true rfl, Nat.le_of_ble_eq_true rfl⟩) 0 9 mW_X10 rfl rfl (Nat.le_of_ble_eq_true rfl) dX10_function_57 rfl (fun σ14 r14 k14 h15 => ?_)
    refine jm_goto (n := 64) X dX10_function_60 (by decide) ?_
    refine jm_perm [5, 7, 4, 3, 2, 1] rfl ?_
    exact u10_function_64 X hA N σ14 x2 r1 r3 r5 r7 r14 k14 hx2 h2 h4 h6 h8 h15
  · refine jm_iload_n (n := 64) X 8 rfl dX10_function_63 rfl ?_
    refine jm_perm [5, 7, 4, 3, 2, 1] rfl ?_
    exact u10_function_64 X hA N σ11 x2 r1 r3 r5 r7 x3 k11 hx2 h2 h4 h6 h8 hx3
end
