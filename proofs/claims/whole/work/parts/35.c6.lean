section
variable {p : Program} {l : Launch} {e : Env} {s : State} {m : MethodId} {args : Array Value} {below : List Frame} {meth : Method} {c : Code} {h : Nat → Nat} {cI cZ : ClassId} {D : va_G} {σz : Sg} {sz : Nat} {t1 t2 : Nat}
abbrev rm6_holds (d : Nat) : Room := { frames := 4 * d + 10, cells := 0, slots := 0, locals := 100 * d + 300 }
def f6_holds (N : Nat) (G : Sg → Int → Int → Int → Int → Int → Option (Sg × Int)) (σ0 : Sg) (x1 : Int) (x2 : Int) (x3 : Int) (x4 : Int) (x5 : Int) : Option (Sg × Int) :=
  if x5 ≤ (9 : Int) then (ck (0 ≤ x1 ∧ x1 < 60) <|
  ck (0 ≤ x1 ∧ x1 < 60) <|
  if (gA σ0 80 x1) = 0 then (bd (f5_makeSame N σ0 x2 (0 : Int)) fun σ5 r5 =>
  if r5 = 0 then (ck ((0 : Int) = 0 ∨ (0 : Int) = 1) (some (σ5, (0 : Int))))
  else (bd (f5_makeSame N σ5 x3 x4) fun σ8 r8 =>
  if r8 = 0 then (ck ((0 : Int) = 0 ∨ (0 : Int) = 1) (some (σ8, (0 : Int))))
  else (ck ((1 : Int) = 0 ∨ (1 : Int) = 1) (some (σ8, (1 : Int))))))
  else if (gA σ0 80 x1) = 1 then (bd (f5_makeSame N σ0 x2 (1 : Int)) fun σ12 r12 =>
  if r12 = 0 then (ck ((0 : Int) = 0 ∨ (0 : Int) = 1) (some (σ12, (0 : Int))))
  else (bd (f5_makeSame N σ12 x3 x4) fun σ15 r15 =>
  if r15 = 0 then (ck ((0 : Int) = 0 ∨ (0 : Int) = 1) (some (σ15, (0 : Int))))
  else (ck ((1 : Int) = 0 ∨ (1 : Int) = 1) (some (σ15, (1 : Int))))))
  else if (gA σ0 80 x1) = 2 then (bd (f6_typeOfVariable σ0 (gA σ0 81 x1)) fun σ19 r19 =>
  bd (f5_makeSame N σ19 x2 r19) fun σ21 r21 =>
  if r21 = 0 then (ck ((0 : Int) = 0 ∨ (0 : Int) = 1) (some (σ21, (0 : Int))))
  else (bd (f5_makeSame N σ21 x3 x4) fun σ24 r24 =>
  if r24 = 0 then (ck ((0 : Int) = 0 ∨ (0 : Int) = 1) (some (σ24, (0 : Int))))
  else (ck ((1 : Int) = 0 ∨ (1 : Int) = 1) (some (σ24, (1 : Int))))))
  else if (gA σ0 80 x1) = 3 then (bd (f5_makeSame N σ0 x3 x4) fun σ28 r28 =>
  if r28 = 0 then (ck ((0 : Int) = 0 ∨ (0 : Int) = 1) (some (σ28, (0 : Int))))
  else (bd (f6_functionHolds N G σ28 x1 x2 x5) fun σ31 r31 =>
  if r31 = 0 then (ck ((0 : Int) = 0 ∨ (0 : Int) = 1) (some (σ31, (0 : Int))))
  else (ck ((1 : Int) = 0 ∨ (1 : Int) = 1) (some (σ31, (1 : Int))))))
  else if (gA σ0 80 x1) = 4 then (bd (f6_callHolds N G σ0 x1 x2 x3 x4 x5) fun σ35 r35 =>
  ck (r35 = 0 ∨ r35 = 1) (some (σ35, r35)))
  else if (gA σ0 80 x1) = 5 then (bd (f5_makeSame N σ0 x2 (0 : Int)) fun σ38 r38 =>
  if r38 = 0 then (ck ((0 : Int) = 0 ∨ (0 : Int) = 1) (some (σ38, (0 : Int))))
  else (bd (f6_numbersHold N G σ38 x1 x3 x4 x5) fun σ41 r41 =>
  if r41 = 0 then (ck ((0 : Int) = 0 ∨ (0 : Int) = 1) (some (σ41, (0 : Int))))
  else (ck ((1 : Int) = 0 ∨ (1 : Int) = 1) (some (σ41, (1 : Int))))))
  else if (gA σ0 80 x1) = 6 then (bd (f5_makeSame N σ0 x2 (1 : Int)) fun σ45 r45 =>
  if r45 = 0 then (ck ((0 : Int) = 0 ∨ (0 : Int) = 1) (some (σ45, (0 : Int))))
  else (bd (f6_numbersHold N G σ45 x1 x3 x4 x5) fun σ48 r48 =>
  if r48 = 0 then (ck ((0 : Int) = 0 ∨ (0 : Int) = 1) (some (σ48, (0 : Int))))
  else (ck ((1 : Int) = 0 ∨ (1 : Int) = 1) (some (σ48, (1 : Int))))))
  else if (gA σ0 80 x1) = 7 then (bd (f6_ifHolds N G σ0 x1 x2 x3 x4 x5) fun σ52 r52 =>
  ck (r52 = 0 ∨ r52 = 1) (some (σ52, r52)))
  else if (gA σ0 80 x1) = 8 then (bd (f6_letHolds N G σ0 x1 x2 x3 x4 x5) fun σ55 r55 =>
  ck (r55 = 0 ∨ r55 = 1) (some (σ55, r55)))
  else if (gA σ0 80 x1) = 9 then (bd (f5_makeSame N σ0 x3 x4) fun σ58 r58 =>
  if r58 = 0 then (ck ((0 : Int) = 0 ∨ (0 : Int) = 1) (some (σ58, (0 : Int))))
  else (bd (f6_wholeHolds N G σ58 (gA σ0 81 x1) x2 x5) fun σ61 r61 =>
  if r61 = 0 then (ck ((0 : Int) = 0 ∨ (0 : Int) = 1) (some (σ61, (0 : Int))))
  else (ck ((1 : Int) = 0 ∨ (1 : Int) = 1) (some (σ61, (1 : Int))))))
  else if (gA σ0 80 x1) = 10 then (bd (f6_takeHolds N G σ0 (gA σ0 81 x1) x2 x3 x4 x5) fun σ65 r65 =>
  ck (r65 = 0 ∨ r65 = 1) (some (σ65, r65)))
  else if (gA σ0 80 x1) = 11 then (bd (f5_makeSame N σ0 x3 x4) fun σ68 r68 =>
  if r68 = 0 then (ck ((0 : Int) = 0 ∨ (0 : Int) = 1) (some (σ68, (0 : Int))))
  else (bd (f6_functionHolds N G σ68 x1 x2 x5) fun σ71 r71 =>
  if r71 = 0 then (ck ((0 : Int) = 0 ∨ (0 : Int) = 1) (some (σ71, (0 : Int))))
  else (ck ((1 : Int) = 0 ∨ (1 : Int) = 1) (some (σ71, (1 : Int))))))
  else (bd (f6_takeHolds N G σ0 (gA σ0 81 x1) x2 x3 x4 x5) fun σ74 r74 =>
  ck (r74 = 0 ∨ r74 = 1) (some (σ74, r74))))
  else (ck ((0 : Int) = 0 ∨ (0 : Int) = 1) (some (σ0, (0 : Int))))
set_option maxRecDepth 100000 in
theorem t6_holds (l : Launch) {h : Nat → Nat} {cI cZ : ClassId} {D : va_G} {t1 t2 : Nat} (N : Nat) (G : Sg → Int → Int → Int → Int → Int → Option (Sg × Int)) (d : Nat) (hG : ∀ {σ0 : Sg} {x1 x2 x3 x4 x5 : Int}, ok σ0 → inR x1 → inR x2 → inR x3 → inR x4 → inR x5 → ctI (cE t1 t2) l (cW h cI cZ) D (mT cI cZ) yX6_holds wsX6_holds (rmh d) [.ref (h 139), .int (iI x1), .int (iI x2), .int (iI x3), .int (iI x4), .int (iI x5)] σ0 (G σ0 x1 x2 x3 x4 x5)) {σ0 : Sg} {x1 : Int} {x2 : Int} {x3 : Int} {x4 : Int} {x5 : Int} (k0 : ok σ0) (hx1 : inR x1) (hx2 : inR x2) (hx3 : inR x3) (hx4 : inR x4) (hx5 : inR x5) : ctI (cE t1 t2) l (cW h cI cZ) D (mT cI cZ) yX6_holds wsX6_holds (rm6_holds d) [.ref (h 139), .int (iI x1), .int (iI x2), .int (iI x3), .int (iI x4), .int (iI x5)] σ0 (f6_holds N G σ0 x1 x2 x3 x4 x5) := by
  refine of_Z (cE_ok t1 t2) (own := RX6) (lv := [(0, .ref (h 139)), (1, .int (iI x1)), (2, .int (iI x2)), (3, .int (iI x3)), (4, .int (iI x4)), (5, .int (iI x5))]) (by decide) rfl rfl (Nat.le_of_ble_eq_true rfl) rfl (fun p e s m below meth c sz X hA => ?_)
  rw [f6_holds]
  refine jm_iload (n := 2) X 5 rfl dX6_holds_0 rfl ?_
  refine jm_bipush (n := 4) X dX6_holds_2 (by decide) rfl ?_
  refine jm_icmp_le (n := 7) (tgt := 9) X dX6_holds_4 (by decide) hx5 (by decide) rfl (fun c1 => ?_) (fun c1 => ?_)
  · refine jm_aload_n (n := 10) X 0 rfl dX6_holds_9 rfl ?_
    refine jm_get (n := 13) X 6 5 0 cW_X6 rfl (by decide) (fun w h => List.mem_cons_of_mem _ (List.mem_append_left _ (List.mem_append_left _ (List.mem_append_right _ h)))) (List.mem_of_getElem? (i := 1) rfl) rfl dX6_holds_10 rfl ?_
    refine jm_get (n := 16) X 1 3 1 cW_X4 rfl (by decide) (fun w h => List.mem_cons_of_mem _ (List.mem_append_left _ (List.mem_append_right _ h))) (List.mem_of_getElem? (i := 2) rfl) rfl dX6_holds_13 rfl ?_
    refine jm_iload_n (n := 17) X 1 rfl dX6_holds_16 rfl ?_
    refine jm_ald (n := 18) X 10 0 81 cA_81 rfl rfl hx1 dX6_holds_17 rfl (fun h2 => ?_)
    refine jm_istore (n := 20) (lv' := [(6, .int (iI (gA σ0 81 x1))), (0, .ref (h 139)), (1, .int (iI x1)), (2, .int (iI x2)), (3, .int (iI x3)), (4, .int (iI x4)), (5, .int (iI x5))]) X dX6_holds_18 (by decide) rfl rfl ?_
    refine jm_aload_n (n := 21) X 1 rfl dX6_holds_20 rfl ?_
    refine jm_get (n := 24) X 6 5 0 cW_X6 rfl (by decide) (fun w h => List.mem_cons_of_mem _ (List.mem_append_left _ (List.mem_append_left _ (List.mem_append_right _ h)))) (List.mem_of_getElem? (i := 1) rfl) rfl dX6_holds_21 rfl ?_
    refine jm_get (n := 27) X 1 3 0 cW_X4 rfl (by decide) (fun w h => List.mem_cons_of_mem _ (List.mem_append_left _ (List.mem_append_right _ h))) (List.mem_of_getElem? (i := 3) rfl) rfl dX6_holds_24 rfl ?_
    refine jm_iload_n (n := 28) X 2 rfl dX6_holds_27 rfl ?_
    refine jm_ald (n := 29) X 9 0 80 cA_80 rfl rfl hx1 dX6_holds_28 rfl (fun h3 => ?_)
    refine jm_tcase (tgt := 92) X (0) dX6_holds_29 (k0.2 80 _) (by decide) (by decide) rfl (by decide) (fun c4 => ?_) (fun c4 => ?_)
    · refine jm_aload_n (n := 93) X 1 rfl dX6_holds_92 rfl ?_
      refine jm_get (n := 96) X 6 5 1 cW_X6 rfl (by decide) (fun w h => List.mem_cons_of_mem _ (List.mem_append_left _ (List.mem_append_left _ (List.mem_append_right _ h)))) (List.mem_of_getElem? (i := 4) rfl) rfl dX6_holds_93 rfl ?_
      refine jm_iload_n (n := 97) X 3 rfl dX6_holds_96 rfl ?_
      refine jm_iconst (n := 98) X dX6_holds_97 rfl ?_
      refine jm_callVi (n := 101) (vs := [.int (iI x2), .int (iI (0 : Int))]) (rest := []) X hA (t5_makeSame l N k0 hx2 (by decide)) (cwV 2 X.2.2.2.2.1 gX6_holds_X5_makeSame rfl rfl rfl (by decide +kernel) ⟨(show 2 + 1 ≤ 4 * d + 10 by omega), (show 8 + (6 + 11) + (45) ≤ 100 * d + 300 by omega)⟩) 7 4 cW_X5 rfl rfl (Nat.le_of_ble_eq_true rfl) dX6_holds_98 rfl (fun σ5 r5 k5 h6 => ?_)
      refine jm_if_eq (n := 104) (tgt := 121) X dX6_holds_101 (by decide) h6 rfl (fun c7 => ?_) (fun c7 => ?_)
      · refine jm_iconst (n := 122) X dX6_holds_121 rfl ?_
        exact jm_zret X rfl k5 dX6_holds_122
      · refine jm_aload_n (n := 105) X 1 rfl dX6_holds_104 rfl ?_
        refine jm_get (n := 108) X 6 5 1 cW_X6 rfl (by decide) (fun w h => List.mem_cons_of_mem _ (List.mem_append_left _ (List.mem_append_left _ (List.mem_append_right _ h)))) (List.mem_of_getElem? (i := 4) rfl) rfl dX6_holds_105 rfl ?_
        refine jm_iload_n (n := 109) X 4 rfl dX6_holds_108 rfl ?_
        refine jm_iload (n := 111) X 5 rfl dX6_holds_109 rfl ?_
        refine jm_callVi (n := 114) (vs := [.int (iI x3), .int (iI x4)]) (rest := []) X hA (t5_makeSame l N k5 hx3 hx4) (cwV 2 X.2.2.2.2.1 gX6_holds_X5_makeSame rfl rfl rfl (by decide +kernel) ⟨(show 2 + 1 ≤ 4 * d + 10 by omega), (show 8 + (6 + 11) + (45) ≤ 100 * d + 300 by omega)⟩) 7 4 cW_X5 rfl rfl (Nat.le_of_ble_eq_true rfl) dX6_holds_111 rfl (fun σ8 r8 k8 h9 => ?_)
        refine jm_if_eq (n := 117) (tgt := 121) X dX6_holds_114 (by decide) h9 rfl (fun c10 => ?_) (fun c10 => ?_)
        · refine jm_iconst (n := 122) X dX6_holds_121 rfl ?_
          exact jm_zret X rfl k8 dX6_holds_122
        · refine jm_iconst (n := 118) X dX6_holds_117 rfl ?_
          refine jm_goto (n := 122) X dX6_holds_118 (by decide) ?_
          exact jm_zret X rfl k8 dX6_holds_122
    refine jm_tcase (tgt := 123) X (1) dX6_holds_29 (k0.2 80 _) (by decide) (by decide) rfl (by decide) (fun c11 => ?_) (fun c11 => ?_)
    · refine jm_aload_n (n := 124) X 1 rfl dX6_holds_123 rfl ?_
      refine jm_get (n := 127) X 6 5 1 cW_X6 rfl (by decide) (fun w h => List.mem_cons_of_mem _ (List.mem_append_left _ (List.mem_append_left _ (List.mem_append_right _ h)))) (List.mem_of_getElem? (i := 4) rfl) rfl dX6_holds_124 rfl ?_
      refine jm_iload_n (n := 128) X 3 rfl dX6_holds_127 rfl ?_
      refine jm_iconst (n := 129) X dX6_holds_128 rfl ?_
      refine jm_callVi (n := 132) (vs := [.int (iI x2), .int (iI (1 : Int))]) (rest := []) X hA (t5_makeSame l N k0 hx2 (by decide)) (cwV 2 X.2.2.2.2.1 gX6_holds_X5_makeSame rfl rfl rfl (by decide +kernel) ⟨(show 2 + 1 ≤ 4 * d + 10 by omega), (show 8 + (6 + 11) + (45) ≤ 100 * d + 300 by omega)⟩) 7 4 cW_X5 rfl rfl (Nat.le_of_ble_eq_true rfl) dX6_holds_129 rfl (fun σ12 r12 k12 h13 => ?_)
      refine jm_if_eq (n := 135) (tgt := 152) X dX6_holds_132 (by decide) h13 rfl (fun c14 => ?_) (fun c14 => ?_)
      · refine jm_iconst (n := 153) X dX6_holds_152 rfl ?_
        exact jm_zret X rfl k12 dX6_holds_153
      · refine jm_aload_n (n := 136) X 1 rfl dX6_holds_135 rfl ?_
        refine jm_get (n := 139) X 6 5 1 cW_X6 rfl (by decide) (fun w h => List.mem_cons_of_mem _ (List.mem_append_left _ (List.mem_append_left _ (List.mem_append_right _ h)))) (List.mem_of_getElem? (i := 4) rfl) rfl dX6_holds_136 rfl ?_
        refine jm_iload_n (n := 140) X 4 rfl dX6_holds_139 rfl ?_
        refine jm_iload (n := 142) X 5 rfl dX6_holds_140 rfl ?_
        refine jm_callVi (n := 145) (vs := [.int (iI x3), .int (iI x4)]) (rest := []) X hA (t5_makeSame l N k12 hx3 hx4) (cwV 2 X.2.2.2.2.1 gX6_holds_X5_makeSame rfl rfl rfl (by decide +kernel) ⟨(show 2 + 1 ≤ 4 * d + 10 by omega), (show 8 + (6 + 11) + (45) ≤ 100 * d + 300 by omega)⟩) 7 4 cW_X5 rfl rfl (Nat.le_of_ble_eq_true rfl) dX6_holds_142 rfl (fun σ15 r15 k15 h16 => ?_)
        refine jm_if_eq (n := 148) (tgt := 152) X dX6_holds_145 (by decide) h16 rfl (fun c17 => ?_) (fun c17 => ?_)
        · refine jm_iconst (n := 153) X dX6_holds_152 rfl ?_
          exact jm_zret X rfl k15 dX6_holds_153
        · refine jm_iconst (n := 149) X dX6_holds_148 rfl ?_
          refine jm_goto (n := 153) X dX6_holds_149 (by decide) ?_
          exact jm_zret X rfl k15 dX6_holds_153
    refine jm_tcase (tgt := 154) X (2) dX6_holds_29 (k0.2 80 _) (by decide) (by decide) rfl (by decide) (fun c18 => ?_) (fun c18 => ?_)
    · refine jm_aload_n (n := 155) X 1 rfl dX6_holds_154 rfl ?_
      refine jm_get (n := 158) X 6 5 1 cW_X6 rfl (by decide) (fun w h => List.mem_cons_of_mem _ (List.mem_append_left _ (List.mem_append_left _ (List.mem_append_right _ h)))) (List.mem_of_getElem? (i := 4) rfl) rfl dX6_holds_155 rfl ?_
      refine jm_iload_n (n := 159) X 3 rfl dX6_holds_158 rfl ?_
      refine jm_aload_n (n := 160) X 1 rfl dX6_holds_159 rfl ?_
      refine jm_iload (n := 162) X 0 rfl dX6_holds_160 rfl ?_
      refine jm_callVi (n := 165) (vs := [.int (iI (gA σ0 81 x1))]) (rest := [.int (iI x2), .ref (h 119)]) X hA (t6_typeOfVariable l k0 (k0.2 81 _)) (cwV 1 X.2.2.2.2.1 gX6_holds_X6_typeOfVariable rfl rfl rfl (by decide +kernel) ⟨(show 2 + 1 ≤ 4 * d + 10 by omega), (show 8 + (4 + 11) + (46) ≤ 100 * d + 300 by omega)⟩) 6 5 cW_X6 rfl rfl (Nat.le_of_ble_eq_true rfl) dX6_holds_162 rfl (fun σ19 r19 k19 h20 => ?_)
      refine jm_callVi (n := 168) (vs := [.int (iI x2), .int (iI r19)]) (rest := []) X hA (t5_makeSame l N k19 hx2 h20) (cwV 2 X.2.2.2.2.1 gX6_holds_X5_makeSame rfl rfl rfl (by decide +kernel) ⟨(show 2 + 1 ≤ 4 * d + 10 by omega), (show 8 + (6 + 11) + (45) ≤ 100 * d + 300 by omega)⟩) 7 4 cW_X5 rfl rfl (Nat.le_of_ble_eq_true rfl) dX6_holds_165 rfl (fun σ21 r21 k21 h22 => ?_)
      refine jm_if_eq (n := 171) (tgt := 188) X dX6_holds_168 (by decide) h22 rfl (fun c23 => ?_) (fun c23 => ?_)
      · refine jm_iconst (n := 189) X dX6_holds_188 rfl ?_
        exact jm_zret X rfl k21 dX6_holds_189
      · refine jm_aload_n (n := 172) X 1 rfl dX6_holds_171 rfl ?_
        refine jm_get (n := 175) X 6 5 1 cW_X6 rfl (by decide) (fun w h => List.mem_cons_of_mem _ (List.mem_append_left _ (List.mem_append_left _ (List.mem_append_right _ h)))) (List.mem_of_getElem? (i := 4) rfl) rfl dX6_holds_172 rfl ?_
        refine jm_iload_n (n := 176) X 4 rfl dX6_holds_175 rfl ?_
        refine jm_iload (n := 178) X 5 rfl dX6_holds_176 rfl ?_
        refine jm_callVi (n := 181) (vs := [.int (iI x3), .int (iI x4)]) (rest := []) X hA (t5_makeSame l N k21 hx3 hx4) (cwV 2 X.2.2.2.2.1 gX6_holds_X5_makeSame rfl rfl rfl (by decide +kernel) ⟨(show 2 + 1 ≤ 4 * d + 10 by omega), (show 8 + (6 + 11) + (45) ≤ 100 * d + 300 by omega)⟩) 7 4 cW_X5 rfl rfl (Nat.le_of_ble_eq_true rfl) dX6_holds_178 rfl (fun σ24 r24 k24 h25 => ?_)
        refine jm_if_eq (n := 184) (tgt := 188) X dX6_holds_181 (by decide) h25 rfl (fun c26 => ?_) (fun c26 => ?_)
        · refine jm_iconst (n := 189) X dX6_holds_188 rfl ?_
          exact jm_zret X rfl k24 dX6_holds_189
        · refine jm_iconst (n := 185) X dX6_holds_184 rfl ?_
          refine jm_goto (n := 189) X dX6_holds_185 (by decide) ?_
          exact jm_zret X rfl k24 dX6_holds_189
    refine jm_tcase (tgt := 190) X (3) dX6_holds_29 (k0.2 80 _) (by decide) (by decide) rfl (by decide) (fun c27 => ?_) (fun c27 => ?_)
    · refine jm_aload_n (n := 191) X 1 rfl dX6_holds_190 rfl ?_
      refine jm_get (n := 194) X 6 5 1 cW_X6 rfl (by decide) (fun w h => List.mem_cons_of_mem _ (List.mem_append_left _ (List.mem_append_left _ (List.mem_append_right _ h)))) (List.mem_of_getElem? (i := 4) rfl) rfl dX6_holds_191 rfl ?_
      refine jm_iload_n (n := 195) X 4 rfl dX6_holds_194 rfl ?_
      refine jm_iload (n := 197) X 5 rfl dX6_holds_195 rfl ?_
      refine jm_callVi (n := 200) (vs := [.int (iI x3), .int (iI x4)]) (rest := []) X hA (t5_makeSame l N k0 hx3 hx4) (cwV 2 X.2.2.2.2.1 gX6_holds_X5_makeSame rfl rfl rfl (by decide +kernel) ⟨(show 2 + 1 ≤ 4 * d + 10 by omega), (show 8 + (6 + 11) + (45) ≤ 100 * d + 300 by omega)⟩) 7 4 cW_X5 rfl rfl (Nat.le_of_ble_eq_true rfl) dX6_holds_197 rfl (fun σ28 r28 k28 h29 => ?_)
      refine jm_if_eq (n := 203) (tgt := 218) X dX6_holds_200 (by decide) h29 rfl (fun c30 => ?_) (fun c30 => ?_)
      · refine jm_iconst (n := 219) X dX6_holds_218 rfl ?_
        exact jm_zret X rfl k28 dX6_holds_219
      · refine jm_aload_n (n := 204) X 1 rfl dX6_holds_203 rfl ?_
        refine jm_iload_n (n := 205) X 2 rfl dX6_holds_204 rfl ?_
        refine jm_iload_n (n := 206) X 3 rfl dX6_holds_205 rfl ?_
        refine jm_iload (n := 208) X 6 rfl dX6_holds_206 rfl ?_
        refine jm_callVi (n := 211) (vs := [.int (iI x1), .int (iI x2), .int (iI x5)]) (rest := []) X hA (t6_functionHolds l N G d hG k28 hx1 hx2 hx5) (cwV 3 X.2.2.2.2.1 gX6_holds_X6_functionHolds rfl rfl rfl (by decide +kernel) ⟨(show 4 * d + 7 + 1 ≤ 4 * d + 10 by omega), (show 8 + (11 + 11) + (100 * d + 230) ≤ 100 * d + 300 by omega)⟩) 6 5 cW_X6 rfl rfl (Nat.le_of_ble_eq_true rfl) dX6_holds_208 rfl (fun σ31 r31 k31 h32 => ?_)
        refine jm_if_eq (n := 214) (tgt := 218) X dX6_holds_211 (by decide) h32 rfl (fun c33 => ?_) (fun c33 => ?_)
        · refine jm_iconst (n := 219) X dX6_holds_218 rfl ?_
          exact jm_zret X rfl k31 dX6_holds_219
        · refine jm_iconst (n := 215) X dX6_holds_214 rfl ?_
          refine jm_goto (n := 219) X dX6_holds_215 (by decide) ?_
          exact jm_zret X rfl k31 dX6_holds_219
    refine jm_tcase (tgt := 220) X (4) dX6_holds_29 (k0.2 80 _) (by decide) (by decide) rfl (by decide) (fun c34 => ?_) (fun c34 => ?_)
    · refine jm_aload_n (n := 221) X 1 rfl dX6_holds_220 rfl ?_
      refine jm_iload_n (n := 222) X 2 rfl dX6_holds_221 rfl ?_
      refine jm_iload_n (n := 223) X 3 rfl dX6_holds_222 rfl ?_
      refine jm_iload_n (n := 224) X 4 rfl dX6_holds_223 rfl ?_
      refine jm_iload (n := 226) X 5 rfl dX6_holds_224 rfl ?_
      refine jm_iload (n := 228) X 6 rfl dX6_holds_226 rfl ?_
      refine jm_callVi (n := 231) (vs := [.int (iI x1), .int (iI x2), .int (iI x3), .int (iI x4), .int (iI x5)]) (rest := []) X hA (t6_callHolds l N G d hG k0 hx1 hx2 hx3 hx4 hx5) (cwV 5 X.2.2.2.2.1 gX6_holds_X6_callHolds rfl rfl rfl (by decide +kernel) ⟨(show 4 * d + 7 + 1 ≤ 4 * d + 10 by omega), (show 8 + (10 + 11) + (100 * d + 230) ≤ 100 * d + 300 by omega)⟩) 6 5 cW_X6 rfl rfl (Nat.le_of_ble_eq_true rfl) dX6_holds_228 rfl (fun σ35 r35 k35 h36 => ?_)
      exact jm_zret X rfl k35 dX6_holds_231
    refine jm_tcase (tgt := 232) X (5) dX6_holds_29 (k0.2 80 _) (by decide) (by decide) rfl (by decide) (fun c37 => ?_) (fun c37 => ?_)
    · refine jm_aload_n (n := 233) X 1 rfl dX6_holds_232 rfl ?_
      refine jm_get (n := 236) X 6 5 1 cW_X6 rfl (by decide) (fun w h => List.mem_cons_of_mem _ (List.mem_append_left _ (List.mem_append_left _ (List.mem_append_right _ h)))) (List.mem_of_getElem? (i := 4) rfl) rfl dX6_holds_233 rfl ?_
      refine jm_iload_n (n := 237) X 3 rfl dX6_holds_236 rfl ?_
      refine jm_iconst (n := 238) X dX6_holds_237 rfl ?_
      refine jm_callVi (n := 241) (vs := [.int (iI x2), .int (iI (0 : Int))]) (rest := []) X hA (t5_makeSame l N k0 hx2 (by decide)) (cwV 2 X.2.2.2.2.1 gX6_holds_X5_makeSame rfl rfl rfl (by decide +kernel) ⟨(show 2 + 1 ≤ 4 * d + 10 by omega), (show 8 + (6 + 11) + (45) ≤ 100 * d + 300 by omega)⟩) 7 4 cW_X5 rfl rfl (Nat.le_of_ble_eq_true rfl) dX6_holds_238 rfl (fun σ38 r38 k38 h39 => ?_)
      refine jm_if_eq (n := 244) (tgt := 261) X dX6_holds_241 (by decide) h39 rfl (fun c40 => ?_) (fun c40 => ?_)
      · refine jm_iconst (n := 262) X dX6_holds_261 rfl ?_
        exact jm_zret X rfl k38 dX6_holds_262
      · refine jm_aload_n (n := 245) X 1 rfl dX6_holds_244 rfl ?_
        refine jm_iload_n (n := 246) X 2 rfl dX6_holds_245 rfl ?_
        refine jm_iload_n (n := 247) X 4 rfl dX6_holds_246 rfl ?_
        refine jm_iload (n := 249) X 5 rfl dX6_holds_247 rfl ?_
        refine jm_iload (n := 251) X 6 rfl dX6_holds_249 rfl ?_
        refine jm_callVi (n := 254) (vs := [.int (iI x1), .int (iI x3), .int (iI x4), .int (iI x5)]) (rest := []) X hA (t6_numbersHold l N G d hG k38 hx1 hx3 hx4 hx5) (cwV 4 X.2.2.2.2.1 gX6_holds_X6_numbersHold rfl rfl rfl (by decide +kernel) ⟨(show 4 * d + 7 + 1 ≤ 4 * d + 10 by omega), (show 8 + (6 + 11) + (100 * d + 230) ≤ 100 * d + 300 by omega)⟩) 6 5 cW_X6 rfl rfl (Nat.le_of_ble_eq_true rfl) dX6_holds_251 rfl (fun σ41 r41 k41 h42 => ?_)
        refine jm_if_eq (n := 257) (tgt := 261) X dX6_holds_254 (by decide) h42 rfl (fun c43 => ?_) (fun c43 => ?_)
        · refine jm_iconst (n := 262) X dX6_holds_261 rfl ?_
          exact jm_zret X rfl k41 dX6_holds_262
        · refine jm_iconst (n := 258) X dX6_holds_257 rfl ?_
          refine jm_goto (n := 262) X dX6_holds_258 (by decide) ?_
          exact jm_zret X rfl k41 dX6_holds_262
    refine jm_tcase (tgt := 263) X (6) dX6_holds_29 (k0.2 80 _) (by decide) (by decide) rfl (by decide) (fun c44 => ?_) (fun c44 => ?_)
    · refine jm_aload_n (n := 264) X 1 rfl dX6_holds_263 rfl ?_
      refine jm_get (n := 267) X 6 5 1 cW_X6 rfl (by decide) (fun w h => List.mem_cons_of_mem _ (List.mem_append_left _ (List.mem_append_left _ (List.mem_append_right _ h)))) (List.mem_of_getElem? (i := 4) rfl) rfl dX6_holds_264 rfl ?_
      refine jm_iload_n (n := 268) X 3 rfl dX6_holds_267 rfl ?_
      refine jm_iconst (n := 269) X dX6_holds_268 rfl ?_
      refine jm_callVi (n := 272) (vs := [.int (iI x2), .int (iI (1 : Int))]) (rest := []) X hA (t5_makeSame l N k0 hx2 (by decide)) (cwV 2 X.2.2.2.2.1 gX6_holds_X5_makeSame rfl rfl rfl (by decide +kernel) ⟨(show 2 + 1 ≤ 4 * d + 10 by omega), (show 8 + (6 + 11) + (45) ≤ 100 * d + 300 by omega)⟩) 7 4 cW_X5 rfl rfl (Nat.le_of_ble_eq_true rfl) dX6_holds_269 rfl (fun σ45 r45 k45 h46 => ?_)
      refine jm_if_eq (n := 275) (tgt := 292) X dX6_holds_272 (by decide) h46 rfl (fun c47 => ?_) (fun c47 => ?_)
      · refine jm_iconst (n := 293) X dX6_holds_292 rfl ?_
        exact jm_zret X rfl k45 dX6_holds_293
      · refine jm_aload_n (n := 276) X 1 rfl dX6_holds_275 rfl ?_
        refine jm_iload_n (n := 277) X 2 rfl dX6_holds_276 rfl ?_
        refine jm_iload_n (n := 278) X 4 rfl dX6_holds_277 rfl ?_
        refine jm_iload (n := 280) X 5 rfl dX6_holds_278 rfl ?_
        refine jm_iload (n := 282) X 6 rfl dX6_holds_280 rfl ?_
        refine jm_callVi (n := 285) (vs := [.int (iI x1), .int (iI x3), .int (iI x4), .int (iI x5)]) (rest := []) X hA (t6_numbersHold l N G d hG k45 hx1 hx3 hx4 hx5) (cwV 4 X.2.2.2.2.1 gX6_holds_X6_numbersHold rfl rfl rfl (by decide +kernel) ⟨(show 4 * d + 7 + 1 ≤ 4 * d + 10 by omega), (show 8 + (6 + 11) + (100 * d + 230) ≤ 100 * d + 300 by omega)⟩) 6 5 cW_X6 rfl rfl (Nat.le_of_ble_eq_true rfl) dX6_holds_282 rfl (fun σ48 r48 k48 h49 => ?_)
        refine jm_if_eq (n := 288) (tgt := 292) X dX6_holds_285 (by decide) h49 rfl (fun c50 => ?_) (fun c50 => ?_)
        · refine jm_iconst (n := 293) X dX6_holds_292 rfl ?_
          exact jm_zret X rfl k48 dX6_holds_293
        · refine jm_iconst (n := 289) X dX6_holds_288 rfl ?_
          refine jm_goto (n := 293) X dX6_holds_289 (by decide) ?_
          exact jm_zret X rfl k48 dX6_holds_293
    refine jm_tcase (tgt := 294) X (7) dX6_holds_29 (k0.2 80 _) (by decide) (by decide) rfl (by decide) (fun c51 => ?_) (fun c51 => ?_)
    · refine jm_aload_n (n := 295) X 1 rfl dX6_holds_294 rfl ?_
      refine jm_iload_n (n := 296) X 2 rfl dX6_holds_295 rfl ?_
      refine jm_iload_n (n := 297) X 3 rfl dX6_holds_296 rfl ?_
      refine jm_iload_n (n := 298) X 4 rfl dX6_holds_297 rfl ?_
      refine jm_iload (n := 300) X 5 rfl dX6_holds_298 rfl ?_
      refine jm_iload (n := 302) X 6 rfl dX6_holds_300 rfl ?_
      refine jm_callVi (n := 305) (vs := [.int (iI x1), .int (iI x2), .int (iI x3), .int (iI x4), .int (iI x5)]) (rest := []) X hA (t6_ifHolds l N G d hG k0 hx1 hx2 hx3 hx4 hx5) (cwV 5 X.2.2.2.2.1 gX6_holds_X6_ifHolds rfl rfl rfl (by decide +kernel) ⟨(show 4 * d + 7 + 1 ≤ 4 * d + 10 by omega), (show 8 + (7 + 11) + (100 * d + 230) ≤ 100 * d + 300 by omega)⟩) 6 5 cW_X6 rfl rfl (Nat.le_of_ble_eq_true rfl) dX6_holds_302 rfl (fun σ52 r52 k52 h53 => ?_)
      exact jm_zret X rfl k52 dX6_holds_305
    refine jm_tcase (tgt := 306) X (8) dX6_holds_29 (k0.2 80 _) (by decide) (by decide) rfl (by decide) (fun c54 => ?_) (fun c54 => ?_)
    · refine jm_aload_n (n := 307) X 1 rfl dX6_holds_306 rfl ?_
      refine jm_iload_n (n := 308) X 2 rfl dX6_holds_307 rfl ?_
      refine jm_iload_n (n := 309) X 3 rfl dX6_holds_308 rfl ?_
      refine jm_iload_n (n := 310) X 4 rfl dX6_holds_309 rfl ?_
      refine jm_iload (n := 312) X 5 rfl dX6_holds_310 rfl ?_
      refine jm_iload (n := 314) X 6 rfl dX6_holds_312 rfl ?_
      refine jm_callVi (n := 317) (vs := [.int (iI x1), .int (iI x2), .int (iI x3), .int (iI x4), .int (iI x5)]) (rest := []) X hA (t6_letHolds l N G d hG k0 hx1 hx2 hx3 hx4 hx5) (cwV 5 X.2.2.2.2.1 gX6_holds_X6_letHolds rfl rfl rfl (by decide +kernel) ⟨(show 4 * d + 7 + 1 ≤ 4 * d + 10 by omega), (show 8 + (9 + 11) + (100 * d + 230) ≤ 100 * d + 300 by omega)⟩) 6 5 cW_X6 rfl rfl (Nat.le_of_ble_eq_true rfl) dX6_holds_314 rfl (fun σ55 r55 k55 h56 => ?_)
      exact jm_zret X rfl k55 dX6_holds_317
    refine jm_tcase (tgt := 318) X (9) dX6_holds_29 (k0.2 80 _) (by decide) (by decide) rfl (by decide) (fun c57 => ?_) (fun c57 => ?_)
    · refine jm_aload_n (n := 319) X 1 rfl dX6_holds_318 rfl ?_
      refine jm_get (n := 322) X 6 5 1 cW_X6 rfl (by decide) (fun w h => List.mem_cons_of_mem _ (List.mem_append_left _ (List.mem_append_left _ (List.mem_append_right _ h)))) (List.mem_of_getElem? (i := 4) rfl) rfl dX6_holds_319 rfl ?_
      refine jm_iload_n (n := 323) X 4 rfl dX6_holds_322 rfl ?_
      refine jm_iload (n := 325) X 5 rfl dX6_holds_323 rfl ?_
      refine jm_callVi (n := 328) (vs := [.int (iI x3), .int (iI x4)]) (rest := []) X hA (t5_makeSame l N k0 hx3 hx4) (cwV 2 X.2.2.2.2.1 gX6_holds_X5_makeSame rfl rfl rfl (by decide +kernel) ⟨(show 2 + 1 ≤ 4 * d + 10 by omega), (show 8 + (6 + 11) + (45) ≤ 100 * d + 300 by omega)⟩) 7 4 cW_X5 rfl rfl (Nat.le_of_ble_eq_true rfl) dX6_holds_325 rfl (fun σ58 r58 k58 h59 => ?_)
      refine jm_if_eq (n := 331) (tgt := 347) X dX6_holds_328 (by decide) h59 rfl (fun c60 => ?_) (fun c60 => ?_)
      · refine jm_iconst (n := 348) X dX6_holds_347 rfl ?_
        exact jm_zret X rfl k58 dX6_holds_348
      · refine jm_aload_n (n := 332) X 1 rfl dX6_holds_331 rfl ?_
        refine jm_iload (n := 334) X 0 rfl dX6_holds_332 rfl ?_
        refine jm_iload_n (n := 335) X 3 rfl dX6_holds_334 rfl ?_
        refine jm_iload (n := 337) X 6 rfl dX6_holds_335 rfl ?_
        refine jm_callVi (n := 340) (vs := [.int (iI (gA σ0 81 x1)), .int (iI x2), .int (iI x5)]) (rest := []) X hA (t6_wholeHolds l N G d hG k58 (k0.2 81 _) hx2 hx5) (cwV 3 X.2.2.2.2.1 gX6_holds_X6_wholeHolds rfl rfl rfl (by decide +kernel) ⟨(show 4 * d + 7 + 1 ≤ 4 * d + 10 by omega), (show 8 + (5 + 11) + (100 * d + 230) ≤ 100 * d + 300 by omega)⟩) 6 5 cW_X6 rfl rfl (Nat.le_of_ble_eq_true rfl) dX6_holds_337 rfl (fun σ61 r61 k61 h62 => ?_)
        refine jm_if_eq (n := 343) (tgt := 347) X dX6_holds_340 (by decide) h62 rfl (fun c63 => ?_) (fun c63 => ?_)
        · refine jm_iconst (n := 348) X dX6_holds_347 rfl ?_
          exact jm_zret X rfl k61 dX6_holds_348
        · refine jm_iconst (n := 344) X dX6_holds_343 rfl ?_
          refine jm_goto (n := 348) X dX6_holds_344 (by decide) ?_
          exact jm_zret X rfl k61 dX6_holds_348
    refine jm_tcase (tgt := 349) X (10) dX6_holds_29 (k0.2 80 _) (by decide) (by decide) rfl (by decide) (fun c64 => ?_) (fun c64 => ?_)
    · refine jm_aload_n (n := 350) X 1 rfl dX6_holds_349 rfl ?_
      refine jm_iload (n := 352) X 0 rfl dX6_holds_350 rfl ?_
      refine jm_iload_n (n := 353) X 3 rfl dX6_holds_352 rfl ?_
      refine jm_iload_n (n := 354) X 4 rfl dX6_holds_353 rfl ?_
      refine jm_iload (n := 356) X 5 rfl dX6_holds_354 rfl ?_
      refine jm_iload (n := 358) X 6 rfl dX6_holds_356 rfl ?_
      refine jm_callVi (n := 361) (vs := [.int (iI (gA σ0 81 x1)), .int (iI x2), .int (iI x3), .int (iI x4), .int (iI x5)]) (rest := []) X hA (t6_takeHolds l N G d hG k0 (k0.2 81 _) hx2 hx3 hx4 hx5) (cwV 5 X.2.2.2.2.1 gX6_holds_X6_takeHolds rfl rfl rfl (by decide +kernel) ⟨(show 4 * d + 8 + 1 ≤ 4 * d + 10 by omega), (show 8 + (7 + 11) + (100 * d + 260) ≤ 100 * d + 300 by omega)⟩) 6 5 cW_X6 rfl rfl (Nat.le_of_ble_eq_true rfl) dX6_holds_358 rfl (fun σ65 r65 k65 h66 => ?_)
      exact jm_zret X rfl k65 dX6_holds_361
    refine jm_tcase (tgt := 190) X (11) dX6_holds_29 (k0.2 80 _) (by decide) (by decide) rfl (by decide) (fun c67 => ?_) (fun c67 => ?_)
    · refine jm_aload_n (n := 191) X 1 rfl dX6_holds_190 rfl ?_
      refine jm_get (n := 194) X 6 5 1 cW_X6 rfl (by decide) (fun w h => List.mem_cons_of_mem _ (List.mem_append_left _ (List.mem_append_left _ (List.mem_append_right _ h)))) (List.mem_of_getElem? (i := 4) rfl) rfl dX6_holds_191 rfl ?_
      refine jm_iload_n (n := 195) X 4 rfl dX6_holds_194 rfl ?_
      refine jm_iload (n := 197) X 5 rfl dX6_holds_195 rfl ?_
      refine jm_callVi (n := 200) (vs := [.int (iI x3), .int (iI x4)]) (rest := []) X hA (t5_makeSame l N k0 hx3 hx4) (cwV 2 X.2.2.2.2.1 gX6_holds_X5_makeSame rfl rfl rfl (by decide +kernel) ⟨(show 2 + 1 ≤ 4 * d + 10 by omega), (show 8 + (6 + 11) + (45) ≤ 100 * d + 300 by omega)⟩) 7 4 cW_X5 rfl rfl (Nat.le_of_ble_eq_true rfl) dX6_holds_197 rfl (fun σ68 r68 k68 h69 => ?_)
      refine jm_if_eq (n := 203) (tgt := 218) X dX6_holds_200 (by decide) h69 rfl (fun c70 => ?_) (fun c70 => ?_)
      · refine jm_iconst (n := 219) X dX6_holds_218 rfl ?_
        exact jm_zret X rfl k68 dX6_holds_219
      · refine jm_aload_n (n := 204) X 1 rfl dX6_holds_203 rfl ?_
        refine jm_iload_n (n := 205) X 2 rfl dX6_holds_204 rfl ?_
        refine jm_iload_n (n := 206) X 3 rfl dX6_holds_205 rfl ?_
        refine jm_iload (n := 208) X 6 rfl dX6_holds_206 rfl ?_
        refine jm_callVi (n := 211) (vs := [.int (iI x1), .int (iI x2), .int (iI x5)]) (rest := []) X hA (t6_functionHolds l N G d hG k68 hx1 hx2 hx5) (cwV 3 X.2.2.2.2.1 gX6_holds_X6_functionHolds rfl rfl rfl (by decide +kernel) ⟨(show 4 * d + 7 + 1 ≤ 4 * d + 10 by omega), (show 8 + (11 + 11) + (100 * d + 230) ≤ 100 * d + 300 by omega)⟩) 6 5 cW_X6 rfl rfl (Nat.le_of_ble_eq_true rfl) dX6_holds_208 rfl (fun σ71 r71 k71 h72 => ?_)
        refine jm_if_eq (n := 214) (tgt := 218) X dX6_holds_211 (by decide) h72 rfl (fun c73 => ?_) (fun c73 => ?_)
        · refine jm_iconst (n := 219) X dX6_holds_218 rfl ?_
          exact jm_zret X rfl k71 dX6_holds_219
        · refine jm_iconst (n := 215) X dX6_holds_214 rfl ?_
          refine jm_goto (n := 219) X dX6_holds_215 (by decide) ?_
          exact jm_zret X rfl k71 dX6_holds_219
    refine jm_tout (tgt := 349) X dX6_holds_29 (k0.2 80 _) (by decide) (by omega) ?_
    refine jm_aload_n (n := 350) X 1 rfl dX6_holds_349 rfl ?_
    refine jm_iload (n := 352) X 0 rfl dX6_holds_350 rfl ?_
    refine jm_iload_n (n := 353) X 3 rfl dX6_holds_352 rfl ?_
    refine jm_iload_n (n := 354) X 4 rfl dX6_holds_353 rfl ?_
    refine jm_iload (n := 356) X 5 rfl dX6_holds_354 rfl ?_
    refine jm_iload (n := 358) X 6 rfl dX6_holds_356 rfl ?_
    refine jm_callVi (n := 361) (vs := [.int (iI (gA σ0 81 x1)), .int (iI x2), .int (iI x3), .int (iI x4), .int (iI x5)]) (rest := []) X hA (t6_takeHolds l N G d hG k0 (k0.2 81 _) hx2 hx3 hx4 hx5) (cwV 5 X.2.2.2.2.1 gX6_holds_X6_takeHolds rfl rfl rfl (by decide +kernel) ⟨(show 4 * d + 8 + 1 ≤ 4 * d + 10 by omega), (show 8 + (7 + 11) + (100 * d + 260) ≤ 100 * d + 300 by omega)⟩) 6 5 cW_X6 rfl rfl (Nat.le_of_ble_eq_true rfl) dX6_holds_358 rfl (fun σ74 r74 k74 h75 => ?_)
    exact jm_zret X rfl k74 dX6_holds_361
  · refine jm_iconst (n := 8) X dX6_holds_7 rfl ?_
    exact jm_zret X rfl k0 dX6_holds_8
def f6_rec (N : Nat) : Nat → Sg → Int → Int → Int → Int → Int → Option (Sg × Int)
  | 0, _, _, _, _, _, _ => none
  | d + 1, σ0, x1, x2, x3, x4, x5 => f6_holds N (f6_rec N d) σ0 x1 x2 x3 x4 x5
theorem t6_rec (l : Launch) {h : Nat → Nat} {cI cZ : ClassId} {D : va_G} {t1 t2 : Nat} (N : Nat) : ∀ (d : Nat) {σ0 : Sg} {x1 x2 x3 x4 x5 : Int}, ok σ0 → inR x1 → inR x2 → inR x3 → inR x4 → inR x5 → ctI (cE t1 t2) l (cW h cI cZ) D (mT cI cZ) yX6_holds wsX6_holds (rmh d) [.ref (h 139), .int (iI x1), .int (iI x2), .int (iI x3), .int (iI x4), .int (iI x5)] σ0 (f6_rec N d σ0 x1 x2 x3 x4 x5) := by
  intro d
  induction d with
  | zero =>
    intro σ0 x1 x2 x3 x4 x5 _ _ _ _ _ _ σ' r ho
    rw [f6_rec] at ho
    cases ho
  | succ d ih =>
    intro σ0 x1 x2 x3 x4 x5 k0 h1 h2 h3 h4 h5
    exact t6_holds l N (f6_rec N d) d ih k0 h1 h2 h3 h4 h5
end
