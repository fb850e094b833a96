/-! ===== the nine cases of the law ===== -/
theorem in_sx (xs : Nat → Int32) (z : Int) : inR (sx xs z) := inR_of _
theorem li_200 {σc σm : Sg} {j v : Int} (h : LI σc σm j) (hk : ok (sI σm 200 v)) : LI σc (sI σm 200 v) (j + 1) := by
  obtain ⟨i1, i2, i3, i4, i5, i6⟩ := h
  have fm : fr [200] [] σm (sI σm 200 v) := fr_I _ _ (by decide) (fr_r _)
  have fc : fr [] [] σc σc := fr_r _
  exact ⟨RT_fr fc fm (by decide) (by decide) (by decide) (by decide) i1, TI_fr fm (by decide) (by decide) i2, CR_m (CR_fr fc fm (by decide) (by decide) i3) (by omega), TR_fr fc fm (by decide) (by decide) (by decide) (by decide) (by decide) (by decide) (by decide) (by decide) (by decide) i4, i5, hk⟩
section
variable {p : Program} {l : Launch} {e : Env} {s : State} {m : MethodId} {below : List Frame} {meth : Method} {c : Code} {b L : Nat} {xs : Nat → Int32} {Q : State → Prop} {D : va_G} {cI cZ cJ : ClassId} {t1 t2 : Nat} {hc hm : Nat → Nat} {qo : Nat} {H : Heap} {locs : List Jvm.Loc} {ls : Array Slot} {cells slots : Nat} {σc σm : Sg} {f : Nat → Int64} {i j : Int}

set_option maxRecDepth 100000 in
theorem case_make (C : LX p s m c b L xs D cI cZ cJ t1 t2) (hst : l.stackTraces = false) (hI : LI σc σm j) (hj : 0 ≤ j ∧ j ≤ 511) (hi : 0 ≤ i ∧ i + 5 ≤ L) (hR : cells + 8 ≤ 601024 ∧ slots + 48 ≤ 7293034) (K : LK p l e s m below meth c b Q D cI cZ cJ hc hm qo i (j + 1) (cells + 1) (slots + 6)) (hP : va_P D vwCl (lW hc cI cZ cJ qo σc f ++ mW hm cI cZ σm) H) (hD : va_D (LA s) (lW hc cI cZ cJ qo σc f ++ mW hm cI cZ σm)) (hS : va_S (LA s) s.heap H locs) (hl : lv_has ls 9 (lv0 b hc hm qo i)) : W p l e room_1 s m #[Value.ref b] below meth c H locs cells slots Q (F0 m 88 ls []) := by
  have hx := C.1
  have hb := C.2.1
  have hts := C.2.2.2.2.1
  have hL := C.2.2.2.2.2.2.2.2.2
  obtain ⟨i1, i2, i3, i4, i5, i6⟩ := id hI
  obtain ⟨σ1, σ2, rc, rm, e1, e2, r1, r2, f1, f2, hout⟩ := make_rel i1 i2 (sx xs (i + 1)) (sx xs (i + 2)) (sx xs (i + 3)) (sx xs (i + 4))
  have key : gI σ2 200 = kd cd_make rc ∧ (kd cd_make rc = 0 → -100 < rc ∧ rc = rm) := by
    rcases hout with ⟨q1, q2⟩ | ⟨q1, q2⟩ | ⟨q1, q2, q3⟩
    · rw [q1, q2]; exact ⟨rfl, fun h => absurd h (by decide)⟩
    · rw [q1, q2]; exact ⟨rfl, fun h => absurd h (by decide)⟩
    · unfold kd; rw [if_pos q1]; exact ⟨q3, fun _ => ⟨q1, q2⟩⟩
  refine lv_aload_n hx hb dL_law_88 rfl (lv_at hl 1 rfl) ?_
  refine l_arg (q := 1) (a0 := 0) (a4 := 4) C hS hl rfl rfl (by omega) dL_law_89 dL_law_90 dL_law_92 dL_law_93 dL_law_94 ?_
  refine l_arg (q := 2) (a0 := 0) (a4 := 4) C hS hl rfl rfl (by omega) dL_law_95 dL_law_96 dL_law_98 dL_law_99 dL_law_100 ?_
  refine l_arg (q := 3) (a0 := 0) (a4 := 4) C hS hl rfl rfl (by omega) dL_law_101 dL_law_102 dL_law_104 dL_law_105 dL_law_106 ?_
  refine l_arg (q := 4) (a0 := 0) (a4 := 4) C hS hl rfl rfl (by omega) dL_law_107 dL_law_108 dL_law_110 dL_law_111 dL_law_112 ?_
  refine lv_aload_n hx hb dL_law_113 rfl (lv_at hl 3 rfl) ?_
  refine l_callW (vs := [.ref (hc 199), .int (iI (sx xs (i + 1))), .int (iI (sx xs (i + 2))), .int (iI (sx xs (i + 3))), .int (iI (sx xs (i + 4))), .ref qo]) (rest := []) C (tL_make l hst i5 (in_sx xs _) (in_sx xs _) (in_sx xs _) (in_sx xs _) e1 (by rcases hout with q | q | q; exact Or.inr (Or.inl q.1); exact Or.inr (Or.inr q.1); exact Or.inl q.1) f H.size) (vx_cwSW 6 hts gL_law_L_make rfl rfl rfl (by decide +kernel) ⟨Nat.le_of_ble_eq_true rfl, Nat.le_of_ble_eq_true rfl⟩) rfl (Nat.le_of_ble_eq_true rfl) dL_law_114 hP hD hS hl (by omega) (fun f2' H1 locs1 ok1 hv hP1 hD1 hS1 => ?_)
  refine lv_istore (lv' := (5, .int (iI (kd cd_make rc))) :: [(0, .ref b), (1, .ref (hc 199)), (2, .ref (hm 299)), (3, .ref qo), (4, .int (iI i))]) hx hb dL_law_117 hl (by decide) rfl (fun ls2 hl2 => ?_)
  refine lv_aload_n hx hb dL_law_119 rfl (lv_at hl2 3 rfl) ?_
  refine l_arg (q := 1) (a0 := 1) (a4 := 5) C hS1 hl2 rfl rfl (by omega) dL_law_120 dL_law_121 dL_law_123 dL_law_124 dL_law_125 ?_
  refine l_arg (q := 2) (a0 := 1) (a4 := 5) C hS1 hl2 rfl rfl (by omega) dL_law_126 dL_law_127 dL_law_129 dL_law_130 dL_law_131 ?_
  refine l_arg (q := 3) (a0 := 1) (a4 := 5) C hS1 hl2 rfl rfl (by omega) dL_law_132 dL_law_133 dL_law_135 dL_law_136 dL_law_137 ?_
  refine l_arg (q := 4) (a0 := 1) (a4 := 5) C hS1 hl2 rfl rfl (by omega) dL_law_138 dL_law_139 dL_law_141 dL_law_142 dL_law_143 ?_
  refine l_callM (vs := [.int (iI (sx xs (i + 1))), .int (iI (sx xs (i + 2))), .int (iI (sx xs (i + 3))), .int (iI (sx xs (i + 4)))]) (rest := []) C (t10_make l i6 (in_sx xs _) (in_sx xs _) (in_sx xs _) (in_sx xs _)) e2 (cwV 4 hts gL_law_X10_make rfl rfl rfl (by decide +kernel) ⟨Nat.le_of_ble_eq_true rfl, Nat.le_of_ble_eq_true rfl⟩) rfl (Nat.le_of_ble_eq_true rfl) dL_law_144 hP1 hD1 hS1 hl2 (by omega) (fun H2 locs2 ok2 hr2 hP2 hD2 hS2 => ?_)
  refine lv_istore (lv' := (6, .int (iI rm)) :: (5, .int (iI (kd cd_make rc))) :: [(0, .ref b), (1, .ref (hc 199)), (2, .ref (hm 299)), (3, .ref qo), (4, .int (iI i))]) hx hb dL_law_147 hl2 (by decide) rfl (fun ls3 hl3 => ?_)
  exact l_tail C ⟨r1, r2, CR_m (CR_fr f1 f2 (by decide) (by decide) i3) (by omega), TR_fr f1 f2 (by decide) (by decide) (by decide) (by decide) (by decide) (by decide) (by decide) (by decide) (by decide) i4, ok1, ok2⟩ (by omega) K (by rw [← key.1]; exact ok2.1 200) hr2 key.1 (fun z => by rw [(hv (key.2 z).1).2, (key.2 z).2]) hP2 hD2 hS2 hl3 dL_law_149 dL_law_150 dL_law_153 dL_law_155 dL_law_160 dL_law_162 dL_law_165 dL_law_166 dL_law_167 dL_law_168 dL_law_170 dL_law_171 dL_law_172 dL_law_177 (by decide)
set_option maxRecDepth 100000 in
theorem case_open (C : LX p s m c b L xs D cI cZ cJ t1 t2) (hst : l.stackTraces = false) (hI : LI σc σm j) (hj : 0 ≤ j ∧ j ≤ 511) (hi : 0 ≤ i ∧ i + 5 ≤ L) (hR : cells + 8 ≤ 601024 ∧ slots + 48 ≤ 7293034) (K : LK p l e s m below meth c b Q D cI cZ cJ hc hm qo i (j + 1) (cells + 1) (slots + 6)) (hP : va_P D vwCl (lW hc cI cZ cJ qo σc f ++ mW hm cI cZ σm) H) (hD : va_D (LA s) (lW hc cI cZ cJ qo σc f ++ mW hm cI cZ σm)) (hS : va_S (LA s) s.heap H locs) (hl : lv_has ls 9 (lv0 b hc hm qo i)) : W p l e room_1 s m #[Value.ref b] below meth c H locs cells slots Q (F0 m 180 ls []) := by
  have hx := C.1
  have hb := C.2.1
  have hts := C.2.2.2.2.1
  have hL := C.2.2.2.2.2.2.2.2.2
  obtain ⟨i1, i2, i3, i4, i5, i6⟩ := id hI
  obtain ⟨rc, rm, v, e1, e2, hout0⟩ := open_rel i1 i2 (sx xs (i + 1))
  have hout : (rc = -103 ∧ gI (sI σm 200 v) 200 = 1) ∨ (-100 < rc ∧ rc = rm ∧ gI (sI σm 200 v) 200 = 0) := by rw [gI_sI, if_pos rfl]; exact hout0
  have key : gI (sI σm 200 v) 200 = kd cd_open rc ∧ (kd cd_open rc = 0 → -100 < rc ∧ rc = rm) := by
    rcases hout with ⟨q1, q2⟩ | ⟨q1, q2, q3⟩
    · rw [q1, q2]; exact ⟨rfl, fun h => absurd h (by decide)⟩
    · unfold kd; rw [if_pos q1]; exact ⟨q3, fun _ => ⟨q1, q2⟩⟩
  refine lv_aload_n hx hb dL_law_180 rfl (lv_at hl 1 rfl) ?_
  refine l_arg (q := 1) (a0 := 0) (a4 := 4) C hS hl rfl rfl (by omega) dL_law_181 dL_law_182 dL_law_184 dL_law_185 dL_law_186 ?_
  refine lv_aload_n hx hb dL_law_187 rfl (lv_at hl 3 rfl) ?_
  refine l_callW (vs := [.ref (hc 199), .int (iI (sx xs (i + 1))), .ref qo]) (rest := []) C (tL_open l hst i5 (in_sx xs _) e1 (by rcases hout with q | q; exact Or.inr q.1; exact Or.inl q.1) f H.size) (vx_cwSW 3 hts gL_law_L_open rfl rfl rfl (by decide +kernel) ⟨Nat.le_of_ble_eq_true rfl, Nat.le_of_ble_eq_true rfl⟩) rfl (Nat.le_of_ble_eq_true rfl) dL_law_188 hP hD hS hl (by omega) (fun f2' H1 locs1 ok1 hv hP1 hD1 hS1 => ?_)
  refine lv_istore (lv' := (5, .int (iI (kd cd_open rc))) :: [(0, .ref b), (1, .ref (hc 199)), (2, .ref (hm 299)), (3, .ref qo), (4, .int (iI i))]) hx hb dL_law_191 hl (by decide) rfl (fun ls2 hl2 => ?_)
  refine lv_aload_n hx hb dL_law_193 rfl (lv_at hl2 3 rfl) ?_
  refine l_arg (q := 1) (a0 := 1) (a4 := 5) C hS1 hl2 rfl rfl (by omega) dL_law_194 dL_law_195 dL_law_197 dL_law_198 dL_law_199 ?_
  refine l_callM (vs := [.int (iI (sx xs (i + 1)))]) (rest := []) C (t10_open l i6 (in_sx xs _)) e2 (cwV 1 hts gL_law_X10_open rfl rfl rfl (by decide +kernel) ⟨Nat.le_of_ble_eq_true rfl, Nat.le_of_ble_eq_true rfl⟩) rfl (Nat.le_of_ble_eq_true rfl) dL_law_200 hP1 hD1 hS1 hl2 (by omega) (fun H2 locs2 ok2 hr2 hP2 hD2 hS2 => ?_)
  refine lv_istore (lv' := (6, .int (iI rm)) :: (5, .int (iI (kd cd_open rc))) :: [(0, .ref b), (1, .ref (hc 199)), (2, .ref (hm 299)), (3, .ref qo), (4, .int (iI i))]) hx hb dL_law_203 hl2 (by decide) rfl (fun ls3 hl3 => ?_)
  exact l_tail C (li_200 ⟨i1, i2, i3, i4, i5, i6⟩ ok2) (by omega) K (by rw [← key.1]; exact ok2.1 200) hr2 key.1 (fun z => by rw [(hv (key.2 z).1).2, (key.2 z).2]) hP2 hD2 hS2 hl3 dL_law_205 dL_law_206 dL_law_209 dL_law_211 dL_law_216 dL_law_218 dL_law_221 dL_law_222 dL_law_223 dL_law_224 dL_law_226 dL_law_227 dL_law_228 dL_law_233 (by decide)
set_option maxRecDepth 100000 in
theorem case_work (C : LX p s m c b L xs D cI cZ cJ t1 t2) (hst : l.stackTraces = false) (hI : LI σc σm j) (hj : 0 ≤ j ∧ j ≤ 511) (hi : 0 ≤ i ∧ i + 5 ≤ L) (hR : cells + 8 ≤ 601024 ∧ slots + 48 ≤ 7293034) (K : LK p l e s m below meth c b Q D cI cZ cJ hc hm qo i (j + 1) (cells + 1) (slots + 6)) (hP : va_P D vwCl (lW hc cI cZ cJ qo σc f ++ mW hm cI cZ σm) H) (hD : va_D (LA s) (lW hc cI cZ cJ qo σc f ++ mW hm cI cZ σm)) (hS : va_S (LA s) s.heap H locs) (hl : lv_has ls 9 (lv0 b hc hm qo i)) : W p l e room_1 s m #[Value.ref b] below meth c H locs cells slots Q (F0 m 236 ls []) := by
  have hx := C.1
  have hb := C.2.1
  have hts := C.2.2.2.2.1
  have hL := C.2.2.2.2.2.2.2.2.2
  obtain ⟨i1, i2, i3, i4, i5, i6⟩ := id hI
  obtain ⟨σ1, σ2, rc, rm, e1, e2, r3, f1, f2, hout⟩ := work_rel i1 i2 i3 (by omega) (N := 4000) (by decide) (sx xs (i + 1)) (sx xs (i + 2))
  have key : gI σ2 200 = kd cd_work rc ∧ (kd cd_work rc = 0 → -100 < rc ∧ rc = rm) := by
    rcases hout with ⟨q1, q2⟩ | ⟨q1, q2⟩ | ⟨q1, q2⟩ | ⟨q1, q2⟩ | ⟨q1, q2, q3⟩
    · rw [q1, q2]; exact ⟨rfl, fun h => absurd h (by decide)⟩
    · rw [q1, q2]; exact ⟨rfl, fun h => absurd h (by decide)⟩
    · rw [q1, q2]; exact ⟨rfl, fun h => absurd h (by decide)⟩
    · rw [q1, q2]; exact ⟨rfl, fun h => absurd h (by decide)⟩
    · unfold kd; rw [if_pos q1]; exact ⟨q3, fun _ => ⟨q1, q2⟩⟩
  refine lv_aload_n hx hb dL_law_236 rfl (lv_at hl 1 rfl) ?_
  refine l_arg (q := 1) (a0 := 0) (a4 := 4) C hS hl rfl rfl (by omega) dL_law_237 dL_law_238 dL_law_240 dL_law_241 dL_law_242 ?_
  refine l_arg (q := 2) (a0 := 0) (a4 := 4) C hS hl rfl rfl (by omega) dL_law_243 dL_law_244 dL_law_246 dL_law_247 dL_law_248 ?_
  refine lv_aload_n hx hb dL_law_249 rfl (lv_at hl 3 rfl) ?_
  refine l_callW (vs := [.ref (hc 199), .int (iI (sx xs (i + 1))), .int (iI (sx xs (i + 2))), .ref qo]) (rest := []) C (tL_work l 4000 hst i5 (in_sx xs _) (in_sx xs _) e1 (by rcases hout with q | q | q | q | q; exact Or.inr (Or.inl q.1); exact Or.inr (Or.inr (Or.inl q.1)); exact Or.inr (Or.inr (Or.inr (Or.inl q.1))); exact Or.inr (Or.inr (Or.inr (Or.inr q.1))); exact Or.inl q.1) f H.size) (vx_cwSW 4 hts gL_law_L_work rfl rfl rfl (by decide +kernel) ⟨Nat.le_of_ble_eq_true rfl, Nat.le_of_ble_eq_true rfl⟩) rfl (Nat.le_of_ble_eq_true rfl) dL_law_250 hP hD hS hl (by omega) (fun f2' H1 locs1 ok1 hv hP1 hD1 hS1 => ?_)
  refine lv_istore (lv' := (5, .int (iI (kd cd_work rc))) :: [(0, .ref b), (1, .ref (hc 199)), (2, .ref (hm 299)), (3, .ref qo), (4, .int (iI i))]) hx hb dL_law_253 hl (by decide) rfl (fun ls2 hl2 => ?_)
  refine lv_aload_n hx hb dL_law_255 rfl (lv_at hl2 3 rfl) ?_
  refine l_arg (q := 1) (a0 := 1) (a4 := 5) C hS1 hl2 rfl rfl (by omega) dL_law_256 dL_law_257 dL_law_259 dL_law_260 dL_law_261 ?_
  refine l_arg (q := 2) (a0 := 1) (a4 := 5) C hS1 hl2 rfl rfl (by omega) dL_law_262 dL_law_263 dL_law_265 dL_law_266 dL_law_267 ?_
  refine l_callM (vs := [.int (iI (sx xs (i + 1))), .int (iI (sx xs (i + 2)))]) (rest := []) C (t10_work l 4000 i6 (in_sx xs _) (in_sx xs _)) e2 (cwV 2 hts gL_law_X10_work rfl rfl rfl (by decide +kernel) ⟨Nat.le_of_ble_eq_true rfl, Nat.le_of_ble_eq_true rfl⟩) rfl (Nat.le_of_ble_eq_true rfl) dL_law_268 hP1 hD1 hS1 hl2 (by omega) (fun H2 locs2 ok2 hr2 hP2 hD2 hS2 => ?_)
  refine lv_istore (lv' := (6, .int (iI rm)) :: (5, .int (iI (kd cd_work rc))) :: [(0, .ref b), (1, .ref (hc 199)), (2, .ref (hm 299)), (3, .ref qo), (4, .int (iI i))]) hx hb dL_law_271 hl2 (by decide) rfl (fun ls3 hl3 => ?_)
  exact l_tail C ⟨RT_fr f1 f2 (by decide) (by decide) (by decide) (by decide) i1, TI_fr f2 (by decide) (by decide) i2, r3, TR_fr f1 f2 (by decide) (by decide) (by decide) (by decide) (by decide) (by decide) (by decide) (by decide) (by decide) i4, ok1, ok2⟩ (by omega) K (by rw [← key.1]; exact ok2.1 200) hr2 key.1 (fun z => by rw [(hv (key.2 z).1).2, (key.2 z).2]) hP2 hD2 hS2 hl3 dL_law_273 dL_law_274 dL_law_277 dL_law_279 dL_law_284 dL_law_286 dL_law_289 dL_law_290 dL_law_291 dL_law_292 dL_law_294 dL_law_295 dL_law_296 dL_law_301 (by decide)
set_option maxRecDepth 100000 in
theorem case_type (C : LX p s m c b L xs D cI cZ cJ t1 t2) (hst : l.stackTraces = false) (hI : LI σc σm j) (hj : 0 ≤ j ∧ j ≤ 511) (hi : 0 ≤ i ∧ i + 5 ≤ L) (hR : cells + 8 ≤ 601024 ∧ slots + 48 ≤ 7293034) (K : LK p l e s m below meth c b Q D cI cZ cJ hc hm qo i (j + 1) (cells + 1) (slots + 6)) (hP : va_P D vwCl (lW hc cI cZ cJ qo σc f ++ mW hm cI cZ σm) H) (hD : va_D (LA s) (lW hc cI cZ cJ qo σc f ++ mW hm cI cZ σm)) (hS : va_S (LA s) s.heap H locs) (hl : lv_has ls 9 (lv0 b hc hm qo i)) : W p l e room_1 s m #[Value.ref b] below meth c H locs cells slots Q (F0 m 330 ls []) := by
  have hx := C.1
  have hb := C.2.1
  have hts := C.2.2.2.2.1
  have hL := C.2.2.2.2.2.2.2.2.2
  obtain ⟨i1, i2, i3, i4, i5, i6⟩ := id hI
  obtain ⟨σ1, σ2, rc, rm, e1, e2, r3, r4, f1, f2, hout⟩ := type_rel i1 i2 i3 (by omega) i4 (N := 4000) (by decide) (sx xs (i + 1))
  have key : gI σ2 200 = kd cd_type rc ∧ (kd cd_type rc = 0 → -100 < rc ∧ rc = rm) := by
    rcases hout with ⟨q1, q2⟩ | ⟨q1, q2⟩ | ⟨q1, q2, q3⟩
    · rw [q1, q2]; exact ⟨rfl, fun h => absurd h (by decide)⟩
    · rw [q1, q2]; exact ⟨rfl, fun h => absurd h (by decide)⟩
    · unfold kd; rw [if_pos q1]; exact ⟨q3, fun _ => ⟨q1, q2⟩⟩
  refine lv_aload_n hx hb dL_law_330 rfl (lv_at hl 1 rfl) ?_
  refine l_arg (q := 1) (a0 := 0) (a4 := 4) C hS hl rfl rfl (by omega) dL_law_331 dL_law_332 dL_law_334 dL_law_335 dL_law_336 ?_
  refine lv_aload_n hx hb dL_law_337 rfl (lv_at hl 3 rfl) ?_
  refine l_callW (vs := [.ref (hc 199), .int (iI (sx xs (i + 1))), .ref qo]) (rest := []) C (tL_type l 4000 hst i5 (in_sx xs _) e1 (by rcases hout with q | q | q; exact Or.inr (Or.inl q.1); exact Or.inr (Or.inr q.1); exact Or.inl q.1) f H.size) (vx_cwSW 3 hts gL_law_L_type rfl rfl rfl (by decide +kernel) ⟨Nat.le_of_ble_eq_true rfl, Nat.le_of_ble_eq_true rfl⟩) rfl (Nat.le_of_ble_eq_true rfl) dL_law_338 hP hD hS hl (by omega) (fun f2' H1 locs1 ok1 hv hP1 hD1 hS1 => ?_)
  refine lv_istore (lv' := (5, .int (iI (kd cd_type rc))) :: [(0, .ref b), (1, .ref (hc 199)), (2, .ref (hm 299)), (3, .ref qo), (4, .int (iI i))]) hx hb dL_law_341 hl (by decide) rfl (fun ls2 hl2 => ?_)
  refine lv_aload_n hx hb dL_law_343 rfl (lv_at hl2 3 rfl) ?_
  refine l_arg (q := 1) (a0 := 1) (a4 := 5) C hS1 hl2 rfl rfl (by omega) dL_law_344 dL_law_345 dL_law_347 dL_law_348 dL_law_349 ?_
  refine l_callM (vs := [.int (iI (sx xs (i + 1)))]) (rest := []) C (t10_type l 4000 i6 (in_sx xs _)) e2 (cwV 1 hts gL_law_X10_type rfl rfl rfl (by decide +kernel) ⟨Nat.le_of_ble_eq_true rfl, Nat.le_of_ble_eq_true rfl⟩) rfl (Nat.le_of_ble_eq_true rfl) dL_law_350 hP1 hD1 hS1 hl2 (by omega) (fun H2 locs2 ok2 hr2 hP2 hD2 hS2 => ?_)
  refine lv_istore (lv' := (6, .int (iI rm)) :: (5, .int (iI (kd cd_type rc))) :: [(0, .ref b), (1, .ref (hc 199)), (2, .ref (hm 299)), (3, .ref qo), (4, .int (iI i))]) hx hb dL_law_353 hl2 (by decide) rfl (fun ls3 hl3 => ?_)
  exact l_tail C ⟨RT_fr f1 f2 (by decide) (by decide) (by decide) (by decide) i1, TI_fr f2 (by decide) (by decide) i2, r3, r4, ok1, ok2⟩ (by omega) K (by rw [← key.1]; exact ok2.1 200) hr2 key.1 (fun z => by rw [(hv (key.2 z).1).2, (key.2 z).2]) hP2 hD2 hS2 hl3 dL_law_355 dL_law_356 dL_law_359 dL_law_361 dL_law_366 dL_law_368 dL_law_371 dL_law_372 dL_law_373 dL_law_374 dL_law_376 dL_law_377 dL_law_378 dL_law_383 (by decide)
set_option maxRecDepth 100000 in
theorem case_value (C : LX p s m c b L xs D cI cZ cJ t1 t2) (hst : l.stackTraces = false) (hI : LI σc σm j) (hj : 0 ≤ j ∧ j ≤ 511) (hi : 0 ≤ i ∧ i + 5 ≤ L) (hR : cells + 8 ≤ 601024 ∧ slots + 48 ≤ 7293034) (K : LK p l e s m below meth c b Q D cI cZ cJ hc hm qo i (j + 1) (cells + 1) (slots + 6)) (hP : va_P D vwCl (lW hc cI cZ cJ qo σc f ++ mW hm cI cZ σm) H) (hD : va_D (LA s) (lW hc cI cZ cJ qo σc f ++ mW hm cI cZ σm)) (hS : va_S (LA s) s.heap H locs) (hl : lv_has ls 9 (lv0 b hc hm qo i)) : W p l e room_1 s m #[Value.ref b] below meth c H locs cells slots Q (F0 m 304 ls []) := by
  have hx := C.1
  have hb := C.2.1
  have hts := C.2.2.2.2.1
  have hL := C.2.2.2.2.2.2.2.2.2
  obtain ⟨i1, i2, i3, i4, i5, i6⟩ := id hI
  obtain ⟨r, e1, e2⟩ := value_rel i3
  refine lv_aload_n hx hb dL_law_304 rfl (lv_at hl 1 rfl) ?_
  refine l_callC (vs := []) (rest := []) C (t9_value l i5) e1 (cwV 0 hts gL_law_X9_value rfl rfl rfl (by decide +kernel) ⟨Nat.le_of_ble_eq_true rfl, Nat.le_of_ble_eq_true rfl⟩) rfl (Nat.le_of_ble_eq_true rfl) dL_law_305 hP hD hS hl (by omega) (fun H1 locs1 ok1 hr1 hP1 hD1 hS1 => ?_)
  refine lv_aload_n hx hb dL_law_308 rfl (lv_at hl 2 rfl) ?_
  refine l_callM (vs := []) (rest := [.int (iI r)]) C (t10_value l i6) e2 (cwV 0 hts gL_law_X10_value rfl rfl rfl (by decide +kernel) ⟨Nat.le_of_ble_eq_true rfl, Nat.le_of_ble_eq_true rfl⟩) rfl (Nat.le_of_ble_eq_true rfl) dL_law_309 hP1 hD1 hS1 hl (by omega) (fun H2 locs2 ok2 hr2 hP2 hD2 hS2 => ?_)
  refine lv_icmp_eq (tgt := 479) hx hb dL_law_312 (by decide) (fun _ => ?_) (fun ne => absurd rfl ne)
  refine W.widen (k := cells + 1) (n := slots + 6) (by omega) (by omega) ?_
  exact K _ _ f H2 locs2 ls (li_200 hI ok2) hP2 hD2 hS2 hl
set_option maxRecDepth 100000 in
theorem case_steps (C : LX p s m c b L xs D cI cZ cJ t1 t2) (hst : l.stackTraces = false) (hI : LI σc σm j) (hj : 0 ≤ j ∧ j ≤ 511) (hi : 0 ≤ i ∧ i + 5 ≤ L) (hR : cells + 8 ≤ 601024 ∧ slots + 48 ≤ 7293034) (K : LK p l e s m below meth c b Q D cI cZ cJ hc hm qo i (j + 1) (cells + 1) (slots + 6)) (hP : va_P D vwCl (lW hc cI cZ cJ qo σc f ++ mW hm cI cZ σm) H) (hD : va_D (LA s) (lW hc cI cZ cJ qo σc f ++ mW hm cI cZ σm)) (hS : va_S (LA s) s.heap H locs) (hl : lv_has ls 9 (lv0 b hc hm qo i)) : W p l e room_1 s m #[Value.ref b] below meth c H locs cells slots Q (F0 m 317 ls []) := by
  have hx := C.1
  have hb := C.2.1
  have hts := C.2.2.2.2.1
  have hL := C.2.2.2.2.2.2.2.2.2
  obtain ⟨i1, i2, i3, i4, i5, i6⟩ := id hI
  obtain ⟨r, e1, e2⟩ := steps_rel i3
  refine lv_aload_n hx hb dL_law_317 rfl (lv_at hl 1 rfl) ?_
  refine l_callC (vs := []) (rest := []) C (t9_steps l i5) e1 (cwV 0 hts gL_law_X9_steps rfl rfl rfl (by decide +kernel) ⟨Nat.le_of_ble_eq_true rfl, Nat.le_of_ble_eq_true rfl⟩) rfl (Nat.le_of_ble_eq_true rfl) dL_law_318 hP hD hS hl (by omega) (fun H1 locs1 ok1 hr1 hP1 hD1 hS1 => ?_)
  refine lv_aload_n hx hb dL_law_321 rfl (lv_at hl 2 rfl) ?_
  refine l_callM (vs := []) (rest := [.int (iI r)]) C (t10_steps l i6) e2 (cwV 0 hts gL_law_X10_steps rfl rfl rfl (by decide +kernel) ⟨Nat.le_of_ble_eq_true rfl, Nat.le_of_ble_eq_true rfl⟩) rfl (Nat.le_of_ble_eq_true rfl) dL_law_322 hP1 hD1 hS1 hl (by omega) (fun H2 locs2 ok2 hr2 hP2 hD2 hS2 => ?_)
  refine lv_icmp_eq (tgt := 479) hx hb dL_law_325 (by decide) (fun _ => ?_) (fun ne => absurd rfl ne)
  refine W.widen (k := cells + 1) (n := slots + 6) (by omega) (by omega) ?_
  exact K _ _ f H2 locs2 ls (li_200 hI ok2) hP2 hD2 hS2 hl
set_option maxRecDepth 100000 in
theorem case_part (C : LX p s m c b L xs D cI cZ cJ t1 t2) (hst : l.stackTraces = false) (hI : LI σc σm j) (hj : 0 ≤ j ∧ j ≤ 511) (hi : 0 ≤ i ∧ i + 5 ≤ L) (hR : cells + 8 ≤ 601024 ∧ slots + 48 ≤ 7293034) (K : LK p l e s m below meth c b Q D cI cZ cJ hc hm qo i (j + 1) (cells + 1) (slots + 6)) (hP : va_P D vwCl (lW hc cI cZ cJ qo σc f ++ mW hm cI cZ σm) H) (hD : va_D (LA s) (lW hc cI cZ cJ qo σc f ++ mW hm cI cZ σm)) (hS : va_S (LA s) s.heap H locs) (hl : lv_has ls 9 (lv0 b hc hm qo i)) : W p l e room_1 s m #[Value.ref b] below meth c H locs cells slots Q (F0 m 386 ls []) := by
  have hx := C.1
  have hb := C.2.1
  have hts := C.2.2.2.2.1
  have hL := C.2.2.2.2.2.2.2.2.2
  obtain ⟨i1, i2, i3, i4, i5, i6⟩ := id hI
  obtain ⟨r, e1, e2⟩ := part_rel i4 (N := 4000) (by decide) (x := sx xs (i + 1)) (in_sx xs _)
  refine lv_aload_n hx hb dL_law_386 rfl (lv_at hl 1 rfl) ?_
  refine l_arg (q := 1) (a0 := 0) (a4 := 4) C hS hl rfl rfl (by omega) dL_law_387 dL_law_388 dL_law_390 dL_law_391 dL_law_392 ?_
  refine l_callC (vs := [.int (iI (sx xs (i + 1)))]) (rest := []) C (t9_part l 4000 i5 (in_sx xs _)) e1 (cwV 1 hts gL_law_X9_part rfl rfl rfl (by decide +kernel) ⟨Nat.le_of_ble_eq_true rfl, Nat.le_of_ble_eq_true rfl⟩) rfl (Nat.le_of_ble_eq_true rfl) dL_law_393 hP hD hS hl (by omega) (fun H1 locs1 ok1 hr1 hP1 hD1 hS1 => ?_)
  refine lv_aload_n hx hb dL_law_396 rfl (lv_at hl 2 rfl) ?_
  refine l_arg (q := 1) (a0 := 0) (a4 := 4) C hS1 hl rfl rfl (by omega) dL_law_397 dL_law_398 dL_law_400 dL_law_401 dL_law_402 ?_
  refine l_callM (vs := [.int (iI (sx xs (i + 1)))]) (rest := [.int (iI r)]) C (t10_part l 4000 i6 (in_sx xs _)) e2 (cwV 1 hts gL_law_X10_part rfl rfl rfl (by decide +kernel) ⟨Nat.le_of_ble_eq_true rfl, Nat.le_of_ble_eq_true rfl⟩) rfl (Nat.le_of_ble_eq_true rfl) dL_law_403 hP1 hD1 hS1 hl (by omega) (fun H2 locs2 ok2 hr2 hP2 hD2 hS2 => ?_)
  refine lv_icmp_eq (tgt := 479) hx hb dL_law_406 (by decide) (fun _ => ?_) (fun ne => absurd rfl ne)
  refine W.widen (k := cells + 1) (n := slots + 6) (by omega) (by omega) ?_
  exact K _ _ f H2 locs2 ls (li_200 hI ok2) hP2 hD2 hS2 hl
set_option maxRecDepth 100000 in
theorem case_count (C : LX p s m c b L xs D cI cZ cJ t1 t2) (hst : l.stackTraces = false) (hI : LI σc σm j) (hj : 0 ≤ j ∧ j ≤ 511) (hi : 0 ≤ i ∧ i + 5 ≤ L) (hR : cells + 8 ≤ 601024 ∧ slots + 48 ≤ 7293034) (K : LK p l e s m below meth c b Q D cI cZ cJ hc hm qo i (j + 1) (cells + 1) (slots + 6)) (hP : va_P D vwCl (lW hc cI cZ cJ qo σc f ++ mW hm cI cZ σm) H) (hD : va_D (LA s) (lW hc cI cZ cJ qo σc f ++ mW hm cI cZ σm)) (hS : va_S (LA s) s.heap H locs) (hl : lv_has ls 9 (lv0 b hc hm qo i)) : W p l e room_1 s m #[Value.ref b] below meth c H locs cells slots Q (F0 m 411 ls []) := by
  have hx := C.1
  have hb := C.2.1
  have hts := C.2.2.2.2.1
  have hL := C.2.2.2.2.2.2.2.2.2
  obtain ⟨i1, i2, i3, i4, i5, i6⟩ := id hI
  obtain ⟨r, e1, e2⟩ := count_rel i1 i3 (sx xs (i + 1))
  refine lv_aload_n hx hb dL_law_411 rfl (lv_at hl 1 rfl) ?_
  refine l_arg (q := 1) (a0 := 0) (a4 := 4) C hS hl rfl rfl (by omega) dL_law_412 dL_law_413 dL_law_415 dL_law_416 dL_law_417 ?_
  refine l_callC (vs := [.int (iI (sx xs (i + 1)))]) (rest := []) C (t9_count l i5 (in_sx xs _)) e1 (cwV 1 hts gL_law_X9_count rfl rfl rfl (by decide +kernel) ⟨Nat.le_of_ble_eq_true rfl, Nat.le_of_ble_eq_true rfl⟩) rfl (Nat.le_of_ble_eq_true rfl) dL_law_418 hP hD hS hl (by omega) (fun H1 locs1 ok1 hr1 hP1 hD1 hS1 => ?_)
  refine lv_aload_n hx hb dL_law_421 rfl (lv_at hl 2 rfl) ?_
  refine l_arg (q := 1) (a0 := 0) (a4 := 4) C hS1 hl rfl rfl (by omega) dL_law_422 dL_law_423 dL_law_425 dL_law_426 dL_law_427 ?_
  refine l_callM (vs := [.int (iI (sx xs (i + 1)))]) (rest := [.int (iI r)]) C (t10_count l i6 (in_sx xs _)) e2 (cwV 1 hts gL_law_X10_count rfl rfl rfl (by decide +kernel) ⟨Nat.le_of_ble_eq_true rfl, Nat.le_of_ble_eq_true rfl⟩) rfl (Nat.le_of_ble_eq_true rfl) dL_law_428 hP1 hD1 hS1 hl (by omega) (fun H2 locs2 ok2 hr2 hP2 hD2 hS2 => ?_)
  refine lv_icmp_eq (tgt := 479) hx hb dL_law_431 (by decide) (fun _ => ?_) (fun ne => absurd rfl ne)
  refine W.widen (k := cells + 1) (n := slots + 6) (by omega) (by omega) ?_
  exact K _ _ f H2 locs2 ls (li_200 hI ok2) hP2 hD2 hS2 hl
set_option maxRecDepth 100000 in
theorem case_mean (C : LX p s m c b L xs D cI cZ cJ t1 t2) (hst : l.stackTraces = false) (hI : LI σc σm j) (hj : 0 ≤ j ∧ j ≤ 511) (hi : 0 ≤ i ∧ i + 5 ≤ L) (hR : cells + 8 ≤ 601024 ∧ slots + 48 ≤ 7293034) (K : LK p l e s m below meth c b Q D cI cZ cJ hc hm qo i (j + 1) (cells + 1) (slots + 6)) (hP : va_P D vwCl (lW hc cI cZ cJ qo σc f ++ mW hm cI cZ σm) H) (hD : va_D (LA s) (lW hc cI cZ cJ qo σc f ++ mW hm cI cZ σm)) (hS : va_S (LA s) s.heap H locs) (hl : lv_has ls 9 (lv0 b hc hm qo i)) : W p l e room_1 s m #[Value.ref b] below meth c H locs cells slots Q (F0 m 436 ls []) := by
  have hx := C.1
  have hb := C.2.1
  have hts := C.2.2.2.2.1
  obtain ⟨i1, i2, i3, i4, i5, i6⟩ := id hI
  obtain ⟨e1, e2, e3, hn⟩ := mean_rel i3 (by omega)
  have hd := f2d_ok (mf_dec (gI σc 186) hn.1 hn.2)
  refine lv_aload_n hx hb dL_law_436 rfl (lv_at hl 1 rfl) ?_
  refine l_callCF (vs := []) (rest := []) C (t9_mean l i5) e1 (cwV 0 hts gL_law_X9_mean rfl rfl rfl (by decide +kernel) ⟨Nat.le_of_ble_eq_true rfl, Nat.le_of_ble_eq_true rfl⟩) rfl (Nat.le_of_ble_eq_true rfl) dL_law_437 hP hD hS hl (by omega) (fun H1 locs1 ok1 hP1 hD1 hS1 => ?_)
  refine lv_f2d hx hb dL_law_440 hd.1 ?_
  refine lv_dstore (lv' := (5, .double (FP.f2d (mf (gI σc 186) (gI σc 187)))) :: [(0, .ref b), (1, .ref (hc 199)), (2, .ref (hm 299)), (3, .ref qo), (4, .int (iI i))]) hx hb dL_law_441 hl (by decide) rfl (fun ls2 hl2 => ?_)
  refine lv_aload_n hx hb dL_law_443 rfl (lv_at hl2 3 rfl) ?_
  refine l_callMF (vs := []) (rest := []) C (t10_mean l i6) e2 (cwV 0 hts gL_law_X10_mean rfl rfl rfl (by decide +kernel) ⟨Nat.le_of_ble_eq_true rfl, Nat.le_of_ble_eq_true rfl⟩) rfl (Nat.le_of_ble_eq_true rfl) dL_law_444 hP1 hD1 hS1 hl2 (by omega) (fun H2 locs2 ok2 hP2 hD2 hS2 => ?_)
  show W p l e room_1 s m #[Value.ref b] below meth c H2 locs2 cells slots Q (F0 m 447 ls2 [.float (mf (gI (sI σm 200 0) 238) (gI (sI σm 200 0) 233))])
  rw [← e3]
  refine lv_f2d hx hb dL_law_447 hd.1 ?_
  refine lv_dstore (lv' := (7, .double (FP.f2d (mf (gI σc 186) (gI σc 187)))) :: (5, .double (FP.f2d (mf (gI σc 186) (gI σc 187)))) :: [(0, .ref b), (1, .ref (hc 199)), (2, .ref (hm 299)), (3, .ref qo), (4, .int (iI i))]) hx hb dL_law_448 hl2 (by decide) rfl (fun ls3 hl3 => ?_)
  refine lv_dload hx hb dL_law_450 (lv_at hl3 1 rfl) ?_
  refine lv_dload hx hb dL_law_452 (lv_at hl3 0 rfl) ?_
  refine lv_dcmp hx hb dL_law_454 ?_
  rw [hd.2]
  refine lv_if_eq (tgt := 476) hx hb dL_law_455 (by decide) (fun _ => ?_) (fun ne => absurd rfl ne)
  refine lv_goto (tgt := 479) hx hb dL_law_476 (by decide) ?_
  refine W.widen (k := cells + 1) (n := slots + 6) (by omega) (by omega) ?_
  exact K _ _ f H2 locs2 ls3 (li_200 hI ok2) hP2 hD2 hS2 (lv_sub hl3 [2, 3, 4, 5, 6] rfl)
end
