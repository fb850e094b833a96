def cFX9 (h : Nat → Nat) (σ : Sg) : List Value := [.ref (h 99), .ref (h 59), .ref (h 139), .ref (h 39), .int (iI (gI σ 184)), .int (iI (gI σ 185)), .long (Int64.ofInt (gI σ 186)), .int (iI (gI σ 187)), .int (iI (gI σ 188)), .int (iI (gI σ 189)), .int (iI (gI σ 190)), .int (iI (gI σ 191))]
def cFX4 (h : Nat → Nat) (σ : Sg) : List Value := [.ref (h 80), .ref (h 81), .ref (h 82), .ref (h 83), .ref (h 84), .ref (h 85), .ref (h 86), .int (iI (gI σ 87))]
def cFX2 (h : Nat → Nat) (σ : Sg) : List Value := [.ref (h 99), .ref (h 159), .ref (h 79), .ref (h 179), .ref (h 44), .int (iI (gI σ 45)), .int (iI (gI σ 46)), .int (iI (gI σ 47)), .int (iI (gI σ 48)), .int (iI (gI σ 49)), .int (iI (gI σ 50)), .int (iI (gI σ 51)), .int (iI (gI σ 52))]
def cFX7 (h : Nat → Nat) (σ : Sg) : List Value := [.ref (h 140), .ref (h 141), .ref (h 142), .int (iI (gI σ 143))]
def cFX3 (h : Nat → Nat) (σ : Sg) : List Value := [.ref (h 60), .ref (h 61), .int (iI (gI σ 62))]
def cFX8 (h : Nat → Nat) (σ : Sg) : List Value := [.ref (h 160), .ref (h 161), .ref (h 162), .ref (h 163), .int (iI (gI σ 164))]
def cFX6 (h : Nat → Nat) (σ : Sg) : List Value := [.ref (h 99), .ref (h 119), .ref (h 122), .ref (h 123), .int (iI (gI σ 124))]
def cFX5 (h : Nat → Nat) (σ : Sg) : List Value := [.ref (h 100), .ref (h 101), .ref (h 102), .ref (h 103), .ref (h 104), .ref (h 105), .ref (h 106), .int (iI (gI σ 107)), .int (iI (gI σ 108))]
def cFX1 (h : Nat → Nat) (σ : Sg) : List Value := [.ref (h 20), .ref (h 21), .ref (h 22), .int (iI (gI σ 23)), .int (iI (gI σ 24))]
def cW (h : Nat → Nat) (cI cZ : ClassId) (σ : Sg) : va_W := [(h 199, .inr (8, cFX9 h σ)), (h 99, .inr (3, cFX4 h σ)), (h 59, .inr (1, cFX2 h σ)), (h 159, .inr (6, cFX7 h σ)), (h 79, .inr (2, cFX3 h σ)), (h 179, .inr (7, cFX8 h σ)), (h 139, .inr (5, cFX6 h σ)), (h 119, .inr (4, cFX5 h σ)), (h 39, .inr (0, cFX1 h σ)), (h 80, .inl (cI, 60, .inl (fun j : Nat => iI (gA σ 80 j)))), (h 81, .inl (cI, 60, .inl (fun j : Nat => iI (gA σ 81 j)))), (h 82, .inl (cI, 60, .inl (fun j : Nat => iI (gA σ 82 j)))), (h 83, .inl (cI, 60, .inl (fun j : Nat => iI (gA σ 83 j)))), (h 84, .inl (cI, 60, .inl (fun j : Nat => iI (gA σ 84 j)))), (h 85, .inl (cI, 60, .inl (fun j : Nat => iI (gA σ 85 j)))), (h 86, .inl (cI, 60, .inl (fun j : Nat => iI (gA σ 86 j)))), (h 44, .inl (cI, 200, .inl (fun j : Nat => iI (gA σ 44 j)))), (h 140, .inl (cI, 200, .inl (fun j : Nat => iI (gA σ 140 j)))), (h 141, .inl (cI, 200, .inl (fun j : Nat => iI (gA σ 141 j)))), (h 142, .inl (cI, 200, .inl (fun j : Nat => iI (gA σ 142 j)))), (h 60, .inl (cI, 400, .inl (fun j : Nat => iI (gA σ 60 j)))), (h 61, .inl (cI, 400, .inl (fun j : Nat => iI (gA σ 61 j)))), (h 160, .inl (cI, 200, .inl (fun j : Nat => iI (gA σ 160 j)))), (h 161, .inl (cI, 200, .inl (fun j : Nat => iI (gA σ 161 j)))), (h 162, .inl (cI, 200, .inl (fun j : Nat => iI (gA σ 162 j)))), (h 163, .inl (cI, 200, .inl (fun j : Nat => iI (gA σ 163 j)))), (h 122, .inl (cI, 18, .inl (fun j : Nat => iI (gA σ 122 j)))), (h 123, .inl (cI, 18, .inl (fun j : Nat => iI (gA σ 123 j)))), (h 100, .inl (cI, 604, .inl (fun j : Nat => iI (gA σ 100 j)))), (h 101, .inl (cI, 604, .inl (fun j : Nat => iI (gA σ 101 j)))), (h 102, .inl (cI, 2416, .inl (fun j : Nat => iI (gA σ 102 j)))), (h 103, .inl (cI, 962, .inl (fun j : Nat => iI (gA σ 103 j)))), (h 104, .inl (cI, 604, .inl (fun j : Nat => iI (gA σ 104 j)))), (h 105, .inl (cI, 604, .inl (fun j : Nat => iI (gA σ 105 j)))), (h 106, .inl (cI, 604, .inl (fun j : Nat => iI (gA σ 106 j)))), (h 20, .inl (cI, 604, .inl (fun j : Nat => iI (gA σ 20 j)))), (h 21, .inl (cI, 2416, .inl (fun j : Nat => iI (gA σ 21 j)))), (h 22, .inl (cI, 481, .inl (fun j : Nat => iI (gA σ 22 j))))]
theorem cW_X9 {h : Nat → Nat} {cI cZ : ClassId} {σ : Sg} : (cW h cI cZ σ)[0]? = some (h 199, .inr (8, cFX9 h σ)) := rfl
theorem cS_184 {h : Nat → Nat} {cI cZ : ClassId} {σ : Sg} {z : Int} : (cW h cI cZ σ).set 0 (h 199, .inr (8, (cFX9 h σ).set 4 (.int (iI z)))) = cW h cI cZ (sI σ 184 z) := rfl
theorem cS_185 {h : Nat → Nat} {cI cZ : ClassId} {σ : Sg} {z : Int} : (cW h cI cZ σ).set 0 (h 199, .inr (8, (cFX9 h σ).set 5 (.int (iI z)))) = cW h cI cZ (sI σ 185 z) := rfl
theorem cS_186 {h : Nat → Nat} {cI cZ : ClassId} {σ : Sg} {z : Int} : (cW h cI cZ σ).set 0 (h 199, .inr (8, (cFX9 h σ).set 6 (.long (Int64.ofInt z)))) = cW h cI cZ (sI σ 186 z) := rfl
theorem cS_187 {h : Nat → Nat} {cI cZ : ClassId} {σ : Sg} {z : Int} : (cW h cI cZ σ).set 0 (h 199, .inr (8, (cFX9 h σ).set 7 (.int (iI z)))) = cW h cI cZ (sI σ 187 z) := rfl
theorem cS_188 {h : Nat → Nat} {cI cZ : ClassId} {σ : Sg} {z : Int} : (cW h cI cZ σ).set 0 (h 199, .inr (8, (cFX9 h σ).set 8 (.int (iI z)))) = cW h cI cZ (sI σ 188 z) := rfl
theorem cS_189 {h : Nat → Nat} {cI cZ : ClassId} {σ : Sg} {z : Int} : (cW h cI cZ σ).set 0 (h 199, .inr (8, (cFX9 h σ).set 9 (.int (iI z)))) = cW h cI cZ (sI σ 189 z) := rfl
theorem cS_190 {h : Nat → Nat} {cI cZ : ClassId} {σ : Sg} {z : Int} : (cW h cI cZ σ).set 0 (h 199, .inr (8, (cFX9 h σ).set 10 (.int (iI z)))) = cW h cI cZ (sI σ 190 z) := rfl
theorem cS_191 {h : Nat → Nat} {cI cZ : ClassId} {σ : Sg} {z : Int} : (cW h cI cZ σ).set 0 (h 199, .inr (8, (cFX9 h σ).set 11 (.int (iI z)))) = cW h cI cZ (sI σ 191 z) := rfl
theorem cW_X4 {h : Nat → Nat} {cI cZ : ClassId} {σ : Sg} : (cW h cI cZ σ)[1]? = some (h 99, .inr (3, cFX4 h σ)) := rfl
theorem cS_87 {h : Nat → Nat} {cI cZ : ClassId} {σ : Sg} {z : Int} : (cW h cI cZ σ).set 1 (h 99, .inr (3, (cFX4 h σ).set 7 (.int (iI z)))) = cW h cI cZ (sI σ 87 z) := rfl
theorem cW_X2 {h : Nat → Nat} {cI cZ : ClassId} {σ : Sg} : (cW h cI cZ σ)[2]? = some (h 59, .inr (1, cFX2 h σ)) := rfl
theorem cS_45 {h : Nat → Nat} {cI cZ : ClassId} {σ : Sg} {z : Int} : (cW h cI cZ σ).set 2 (h 59, .inr (1, (cFX2 h σ).set 5 (.int (iI z)))) = cW h cI cZ (sI σ 45 z) := rfl
theorem cS_46 {h : Nat → Nat} {cI cZ : ClassId} {σ : Sg} {z : Int} : (cW h cI cZ σ).set 2 (h 59, .inr (1, (cFX2 h σ).set 6 (.int (iI z)))) = cW h cI cZ (sI σ 46 z) := rfl
theorem cS_47 {h : Nat → Nat} {cI cZ : ClassId} {σ : Sg} {z : Int} : (cW h cI cZ σ).set 2 (h 59, .inr (1, (cFX2 h σ).set 7 (.int (iI z)))) = cW h cI cZ (sI σ 47 z) := rfl
theorem cS_48 {h : Nat → Nat} {cI cZ : ClassId} {σ : Sg} {z : Int} : (cW h cI cZ σ).set 2 (h 59, .inr (1, (cFX2 h σ).set 8 (.int (iI z)))) = cW h cI cZ (sI σ 48 z) := rfl
theorem cS_49 {h : Nat → Nat} {cI cZ : ClassId} {σ : Sg} {z : Int} : (cW h cI cZ σ).set 2 (h 59, .inr (1, (cFX2 h σ).set 9 (.int (iI z)))) = cW h cI cZ (sI σ 49 z) := rfl
theorem cS_50 {h : Nat → Nat} {cI cZ : ClassId} {σ : Sg} {z : Int} : (cW h cI cZ σ).set 2 (h 59, .inr (1, (cFX2 h σ).set 10 (.int (iI z)))) = cW h cI cZ (sI σ 50 z) := rfl
theorem cS_51 {h : Nat → Nat} {cI cZ : ClassId} {σ : Sg} {z : Int} : (cW h cI cZ σ).set 2 (h 59, .inr (1, (cFX2 h σ).set 11 (.int (iI z)))) = cW h cI cZ (sI σ 51 z) := rfl
theorem cS_52 {h : Nat → Nat} {cI cZ : ClassId} {σ : Sg} {z : Int} : (cW h cI cZ σ).set 2 (h 59, .inr (1, (cFX2 h σ).set 12 (.int (iI z)))) = cW h cI cZ (sI σ 52 z) := rfl
theorem cW_X7 {h : Nat → Nat} {cI cZ : ClassId} {σ : Sg} : (cW h cI cZ σ)[3]? = some (h 159, .inr (6, cFX7 h σ)) := rfl
theorem cS_143 {h : Nat → Nat} {cI cZ : ClassId} {σ : Sg} {z : Int} : (cW h cI cZ σ).set 3 (h 159, .inr (6, (cFX7 h σ).set 3 (.int (iI z)))) = cW h cI cZ (sI σ 143 z) := rfl
theorem cW_X3 {h : Nat → Nat} {cI cZ : ClassId} {σ : Sg} : (cW h cI cZ σ)[4]? = some (h 79, .inr (2, cFX3 h σ)) := rfl
theorem cS_62 {h : Nat → Nat} {cI cZ : ClassId} {σ : Sg} {z : Int} : (cW h cI cZ σ).set 4 (h 79, .inr (2, (cFX3 h σ).set 2 (.int (iI z)))) = cW h cI cZ (sI σ 62 z) := rfl
theorem cW_X8 {h : Nat → Nat} {cI cZ : ClassId} {σ : Sg} : (cW h cI cZ σ)[5]? = some (h 179, .inr (7, cFX8 h σ)) := rfl
theorem cS_164 {h : Nat → Nat} {cI cZ : ClassId} {σ : Sg} {z : Int} : (cW h cI cZ σ).set 5 (h 179, .inr (7, (cFX8 h σ).set 4 (.int (iI z)))) = cW h cI cZ (sI σ 164 z) := rfl
theorem cW_X6 {h : Nat → Nat} {cI cZ : ClassId} {σ : Sg} : (cW h cI cZ σ)[6]? = some (h 139, .inr (5, cFX6 h σ)) := rfl
theorem cS_124 {h : Nat → Nat} {cI cZ : ClassId} {σ : Sg} {z : Int} : (cW h cI cZ σ).set 6 (h 139, .inr (5, (cFX6 h σ).set 4 (.int (iI z)))) = cW h cI cZ (sI σ 124 z) := rfl
theorem cW_X5 {h : Nat → Nat} {cI cZ : ClassId} {σ : Sg} : (cW h cI cZ σ)[7]? = some (h 119, .inr (4, cFX5 h σ)) := rfl
theorem cS_107 {h : Nat → Nat} {cI cZ : ClassId} {σ : Sg} {z : Int} : (cW h cI cZ σ).set 7 (h 119, .inr (4, (cFX5 h σ).set 7 (.int (iI z)))) = cW h cI cZ (sI σ 107 z) := rfl
theorem cS_108 {h : Nat → Nat} {cI cZ : ClassId} {σ : Sg} {z : Int} : (cW h cI cZ σ).set 7 (h 119, .inr (4, (cFX5 h σ).set 8 (.int (iI z)))) = cW h cI cZ (sI σ 108 z) := rfl
theorem cW_X1 {h : Nat → Nat} {cI cZ : ClassId} {σ : Sg} : (cW h cI cZ σ)[8]? = some (h 39, .inr (0, cFX1 h σ)) := rfl
theorem cS_23 {h : Nat → Nat} {cI cZ : ClassId} {σ : Sg} {z : Int} : (cW h cI cZ σ).set 8 (h 39, .inr (0, (cFX1 h σ).set 3 (.int (iI z)))) = cW h cI cZ (sI σ 23 z) := rfl
theorem cS_24 {h : Nat → Nat} {cI cZ : ClassId} {σ : Sg} {z : Int} : (cW h cI cZ σ).set 8 (h 39, .inr (0, (cFX1 h σ).set 4 (.int (iI z)))) = cW h cI cZ (sI σ 24 z) := rfl
theorem cA_80 {h : Nat → Nat} {cI cZ : ClassId} {σ : Sg} : (cW h cI cZ σ)[9]? = some (h 80, .inl (cI, 60, .inl (fun j : Nat => iI (gA σ 80 j)))) := rfl
theorem cT_80 {h : Nat → Nat} {cI cZ : ClassId} {σ : Sg} {z v : Int} : (cW h cI cZ σ).set 9 (h 80, .inl (cI, 60, .inl (fun j : Nat => iI (gA (sA σ 80 z v) 80 j)))) = cW h cI cZ (sA σ 80 z v) := rfl
theorem cA_81 {h : Nat → Nat} {cI cZ : ClassId} {σ : Sg} : (cW h cI cZ σ)[10]? = some (h 81, .inl (cI, 60, .inl (fun j : Nat => iI (gA σ 81 j)))) := rfl
theorem cT_81 {h : Nat → Nat} {cI cZ : ClassId} {σ : Sg} {z v : Int} : (cW h cI cZ σ).set 10 (h 81, .inl (cI, 60, .inl (fun j : Nat => iI (gA (sA σ 81 z v) 81 j)))) = cW h cI cZ (sA σ 81 z v) := rfl
theorem cA_82 {h : Nat → Nat} {cI cZ : ClassId} {σ : Sg} : (cW h cI cZ σ)[11]? = some (h 82, .inl (cI, 60, .inl (fun j : Nat => iI (gA σ 82 j)))) := rfl
theorem cT_82 {h : Nat → Nat} {cI cZ : ClassId} {σ : Sg} {z v : Int} : (cW h cI cZ σ).set 11 (h 82, .inl (cI, 60, .inl (fun j : Nat => iI (gA (sA σ 82 z v) 82 j)))) = cW h cI cZ (sA σ 82 z v) := rfl
theorem cA_83 {h : Nat → Nat} {cI cZ : ClassId} {σ : Sg} : (cW h cI cZ σ)[12]? = some (h 83, .inl (cI, 60, .inl (fun j : Nat => iI (gA σ 83 j)))) := rfl
theorem cT_83 {h : Nat → Nat} {cI cZ : ClassId} {σ : Sg} {z v : Int} : (cW h cI cZ σ).set 12 (h 83, .inl (cI, 60, .inl (fun j : Nat => iI (gA (sA σ 83 z v) 83 j)))) = cW h cI cZ (sA σ 83 z v) := rfl
theorem cA_84 {h : Nat → Nat} {cI cZ : ClassId} {σ : Sg} : (cW h cI cZ σ)[13]? = some (h 84, .inl (cI, 60, .inl (fun j : Nat => iI (gA σ 84 j)))) := rfl
theorem cT_84 {h : Nat → Nat} {cI cZ : ClassId} {σ : Sg} {z v : Int} : (cW h cI cZ σ).set 13 (h 84, .inl (cI, 60, .inl (fun j : Nat => iI (gA (sA σ 84 z v) 84 j)))) = cW h cI cZ (sA σ 84 z v) := rfl
theorem cA_85 {h : Nat → Nat} {cI cZ : ClassId} {σ : Sg} : (cW h cI cZ σ)[14]? = some (h 85, .inl (cI, 60, .inl (fun j : Nat => iI (gA σ 85 j)))) := rfl
theorem cT_85 {h : Nat → Nat} {cI cZ : ClassId} {σ : Sg} {z v : Int} : (cW h cI cZ σ).set 14 (h 85, .inl (cI, 60, .inl (fun j : Nat => iI (gA (sA σ 85 z v) 85 j)))) = cW h cI cZ (sA σ 85 z v) := rfl
theorem cA_86 {h : Nat → Nat} {cI cZ : ClassId} {σ : Sg} : (cW h cI cZ σ)[15]? = some (h 86, .inl (cI, 60, .inl (fun j : Nat => iI (gA σ 86 j)))) := rfl
theorem cT_86 {h : Nat → Nat} {cI cZ : ClassId} {σ : Sg} {z v : Int} : (cW h cI cZ σ).set 15 (h 86, .inl (cI, 60, .inl (fun j : Nat => iI (gA (sA σ 86 z v) 86 j)))) = cW h cI cZ (sA σ 86 z v) := rfl
theorem cA_44 {h : Nat → Nat} {cI cZ : ClassId} {σ : Sg} : (cW h cI cZ σ)[16]? = some (h 44, .inl (cI, 200, .inl (fun j : Nat => iI (gA σ 44 j)))) := rfl
theorem cT_44 {h : Nat → Nat} {cI cZ : ClassId} {σ : Sg} {z v : Int} : (cW h cI cZ σ).set 16 (h 44, .inl (cI, 200, .inl (fun j : Nat => iI (gA (sA σ 44 z v) 44 j)))) = cW h cI cZ (sA σ 44 z v) := rfl
theorem cA_140 {h : Nat → Nat} {cI cZ : ClassId} {σ : Sg} : (cW h cI cZ σ)[17]? = some (h 140, .inl (cI, 200, .inl (fun j : Nat => iI (gA σ 140 j)))) := rfl
theorem cT_140 {h : Nat → Nat} {cI cZ : ClassId} {σ : Sg} {z v : Int} : (cW h cI cZ σ).set 17 (h 140, .inl (cI, 200, .inl (fun j : Nat => iI (gA (sA σ 140 z v) 140 j)))) = cW h cI cZ (sA σ 140 z v) := rfl
theorem cA_141 {h : Nat → Nat} {cI cZ : ClassId} {σ : Sg} : (cW h cI cZ σ)[18]? = some (h 141, .inl (cI, 200, .inl (fun j : Nat => iI (gA σ 141 j)))) := rfl
theorem cT_141 {h : Nat → Nat} {cI cZ : ClassId} {σ : Sg} {z v : Int} : (cW h cI cZ σ).set 18 (h 141, .inl (cI, 200, .inl (fun j : Nat => iI (gA (sA σ 141 z v) 141 j)))) = cW h cI cZ (sA σ 141 z v) := rfl
theorem cA_142 {h : Nat → Nat} {cI cZ : ClassId} {σ : Sg} : (cW h cI cZ σ)[19]? = some (h 142, .inl (cI, 200, .inl (fun j : Nat => iI (gA σ 142 j)))) := rfl
theorem cT_142 {h : Nat → Nat} {cI cZ : ClassId} {σ : Sg} {z v : Int} : (cW h cI cZ σ).set 19 (h 142, .inl (cI, 200, .inl (fun j : Nat => iI (gA (sA σ 142 z v) 142 j)))) = cW h cI cZ (sA σ 142 z v) := rfl
theorem cA_60 {h : Nat → Nat} {cI cZ : ClassId} {σ : Sg} : (cW h cI cZ σ)[20]? = some (h 60, .inl (cI, 400, .inl (fun j : Nat => iI (gA σ 60 j)))) := rfl
theorem cT_60 {h : Nat → Nat} {cI cZ : ClassId} {σ : Sg} {z v : Int} : (cW h cI cZ σ).set 20 (h 60, .inl (cI, 400, .inl (fun j : Nat => iI (gA (sA σ 60 z v) 60 j)))) = cW h cI cZ (sA σ 60 z v) := rfl
theorem cA_61 {h : Nat → Nat} {cI cZ : ClassId} {σ : Sg} : (cW h cI cZ σ)[21]? = some (h 61, .inl (cI, 400, .inl (fun j : Nat => iI (gA σ 61 j)))) := rfl
theorem cT_61 {h : Nat → Nat} {cI cZ : ClassId} {σ : Sg} {z v : Int} : (cW h cI cZ σ).set 21 (h 61, .inl (cI, 400, .inl (fun j : Nat => iI (gA (sA σ 61 z v) 61 j)))) = cW h cI cZ (sA σ 61 z v) := rfl
theorem cA_160 {h : Nat → Nat} {cI cZ : ClassId} {σ : Sg} : (cW h cI cZ σ)[22]? = some (h 160, .inl (cI, 200, .inl (fun j : Nat => iI (gA σ 160 j)))) := rfl
theorem cT_160 {h : Nat → Nat} {cI cZ : ClassId} {σ : Sg} {z v : Int} : (cW h cI cZ σ).set 22 (h 160, .inl (cI, 200, .inl (fun j : Nat => iI (gA (sA σ 160 z v) 160 j)))) = cW h cI cZ (sA σ 160 z v) := rfl
theorem cA_161 {h : Nat → Nat} {cI cZ : ClassId} {σ : Sg} : (cW h cI cZ σ)[23]? = some (h 161, .inl (cI, 200, .inl (fun j : Nat => iI (gA σ 161 j)))) := rfl
theorem cT_161 {h : Nat → Nat} {cI cZ : ClassId} {σ : Sg} {z v : Int} : (cW h cI cZ σ).set 23 (h 161, .inl (cI, 200, .inl (fun j : Nat => iI (gA (sA σ 161 z v) 161 j)))) = cW h cI cZ (sA σ 161 z v) := rfl
theorem cA_162 {h : Nat → Nat} {cI cZ : ClassId} {σ : Sg} : (cW h cI cZ σ)[24]? = some (h 162, .inl (cI, 200, .inl (fun j : Nat => iI (gA σ 162 j)))) := rfl
theorem cT_162 {h : Nat → Nat} {cI cZ : ClassId} {σ : Sg} {z v : Int} : (cW h cI cZ σ).set 24 (h 162, .inl (cI, 200, .inl (fun j : Nat => iI (gA (sA σ 162 z v) 162 j)))) = cW h cI cZ (sA σ 162 z v) := rfl
theorem cA_163 {h : Nat → Nat} {cI cZ : ClassId} {σ : Sg} : (cW h cI cZ σ)[25]? = some (h 163, .inl (cI, 200, .inl (fun j : Nat => iI (gA σ 163 j)))) := rfl
theorem cT_163 {h : Nat → Nat} {cI cZ : ClassId} {σ : Sg} {z v : Int} : (cW h cI cZ σ).set 25 (h 163, .inl (cI, 200, .inl (fun j : Nat => iI (gA (sA σ 163 z v) 163 j)))) = cW h cI cZ (sA σ 163 z v) := rfl
theorem cA_122 {h : Nat → Nat} {cI cZ : ClassId} {σ : Sg} : (cW h cI cZ σ)[26]? = some (h 122, .inl (cI, 18, .inl (fun j : Nat => iI (gA σ 122 j)))) := rfl
theorem cT_122 {h : Nat → Nat} {cI cZ : ClassId} {σ : Sg} {z v : Int} : (cW h cI cZ σ).set 26 (h 122, .inl (cI, 18, .inl (fun j : Nat => iI (gA (sA σ 122 z v) 122 j)))) = cW h cI cZ (sA σ 122 z v) := rfl
theorem cA_123 {h : Nat → Nat} {cI cZ : ClassId} {σ : Sg} : (cW h cI cZ σ)[27]? = some (h 123, .inl (cI, 18, .inl (fun j : Nat => iI (gA σ 123 j)))) := rfl
theorem cT_123 {h : Nat → Nat} {cI cZ : ClassId} {σ : Sg} {z v : Int} : (cW h cI cZ σ).set 27 (h 123, .inl (cI, 18, .inl (fun j : Nat => iI (gA (sA σ 123 z v) 123 j)))) = cW h cI cZ (sA σ 123 z v) := rfl
theorem cA_100 {h : Nat → Nat} {cI cZ : ClassId} {σ : Sg} : (cW h cI cZ σ)[28]? = some (h 100, .inl (cI, 604, .inl (fun j : Nat => iI (gA σ 100 j)))) := rfl
theorem cT_100 {h : Nat → Nat} {cI cZ : ClassId} {σ : Sg} {z v : Int} : (cW h cI cZ σ).set 28 (h 100, .inl (cI, 604, .inl (fun j : Nat => iI (gA (sA σ 100 z v) 100 j)))) = cW h cI cZ (sA σ 100 z v) := rfl
theorem cA_101 {h : Nat → Nat} {cI cZ : ClassId} {σ : Sg} : (cW h cI cZ σ)[29]? = some (h 101, .inl (cI, 604, .inl (fun j : Nat => iI (gA σ 101 j)))) := rfl
theorem cT_101 {h : Nat → Nat} {cI cZ : ClassId} {σ : Sg} {z v : Int} : (cW h cI cZ σ).set 29 (h 101, .inl (cI, 604, .inl (fun j : Nat => iI (gA (sA σ 101 z v) 101 j)))) = cW h cI cZ (sA σ 101 z v) := rfl
theorem cA_102 {h : Nat → Nat} {cI cZ : ClassId} {σ : Sg} : (cW h cI cZ σ)[30]? = some (h 102, .inl (cI, 2416, .inl (fun j : Nat => iI (gA σ 102 j)))) := rfl
theorem cT_102 {h : Nat → Nat} {cI cZ : ClassId} {σ : Sg} {z v : Int} : (cW h cI cZ σ).set 30 (h 102, .inl (cI, 2416, .inl (fun j : Nat => iI (gA (sA σ 102 z v) 102 j)))) = cW h cI cZ (sA σ 102 z v) := rfl
theorem cA_103 {h : Nat → Nat} {cI cZ : ClassId} {σ : Sg} : (cW h cI cZ σ)[31]? = some (h 103, .inl (cI, 962, .inl (fun j : Nat => iI (gA σ 103 j)))) := rfl
theorem cT_103 {h : Nat → Nat} {cI cZ : ClassId} {σ : Sg} {z v : Int} : (cW h cI cZ σ).set 31 (h 103, .inl (cI, 962, .inl (fun j : Nat => iI (gA (sA σ 103 z v) 103 j)))) = cW h cI cZ (sA σ 103 z v) := rfl
theorem cA_104 {h : Nat → Nat} {cI cZ : ClassId} {σ : Sg} : (cW h cI cZ σ)[32]? = some (h 104, .inl (cI, 604, .inl (fun j : Nat => iI (gA σ 104 j)))) := rfl
theorem cT_104 {h : Nat → Nat} {cI cZ : ClassId} {σ : Sg} {z v : Int} : (cW h cI cZ σ).set 32 (h 104, .inl (cI, 604, .inl (fun j : Nat => iI (gA (sA σ 104 z v) 104 j)))) = cW h cI cZ (sA σ 104 z v) := rfl
theorem cA_105 {h : Nat → Nat} {cI cZ : ClassId} {σ : Sg} : (cW h cI cZ σ)[33]? = some (h 105, .inl (cI, 604, .inl (fun j : Nat => iI (gA σ 105 j)))) := rfl
theorem cT_105 {h : Nat → Nat} {cI cZ : ClassId} {σ : Sg} {z v : Int} : (cW h cI cZ σ).set 33 (h 105, .inl (cI, 604, .inl (fun j : Nat => iI (gA (sA σ 105 z v) 105 j)))) = cW h cI cZ (sA σ 105 z v) := rfl
theorem cA_106 {h : Nat → Nat} {cI cZ : ClassId} {σ : Sg} : (cW h cI cZ σ)[34]? = some (h 106, .inl (cI, 604, .inl (fun j : Nat => iI (gA σ 106 j)))) := rfl
theorem cT_106 {h : Nat → Nat} {cI cZ : ClassId} {σ : Sg} {z v : Int} : (cW h cI cZ σ).set 34 (h 106, .inl (cI, 604, .inl (fun j : Nat => iI (gA (sA σ 106 z v) 106 j)))) = cW h cI cZ (sA σ 106 z v) := rfl
theorem cA_20 {h : Nat → Nat} {cI cZ : ClassId} {σ : Sg} : (cW h cI cZ σ)[35]? = some (h 20, .inl (cI, 604, .inl (fun j : Nat => iI (gA σ 20 j)))) := rfl
theorem cT_20 {h : Nat → Nat} {cI cZ : ClassId} {σ : Sg} {z v : Int} : (cW h cI cZ σ).set 35 (h 20, .inl (cI, 604, .inl (fun j : Nat => iI (gA (sA σ 20 z v) 20 j)))) = cW h cI cZ (sA σ 20 z v) := rfl
theorem cA_21 {h : Nat → Nat} {cI cZ : ClassId} {σ : Sg} : (cW h cI cZ σ)[36]? = some (h 21, .inl (cI, 2416, .inl (fun j : Nat => iI (gA σ 21 j)))) := rfl
theorem cT_21 {h : Nat → Nat} {cI cZ : ClassId} {σ : Sg} {z v : Int} : (cW h cI cZ σ).set 36 (h 21, .inl (cI, 2416, .inl (fun j : Nat => iI (gA (sA σ 21 z v) 21 j)))) = cW h cI cZ (sA σ 21 z v) := rfl
theorem cA_22 {h : Nat → Nat} {cI cZ : ClassId} {σ : Sg} : (cW h cI cZ σ)[37]? = some (h 22, .inl (cI, 481, .inl (fun j : Nat => iI (gA σ 22 j)))) := rfl
theorem cT_22 {h : Nat → Nat} {cI cZ : ClassId} {σ : Sg} {z v : Int} : (cW h cI cZ σ).set 37 (h 22, .inl (cI, 481, .inl (fun j : Nat => iI (gA (sA σ 22 z v) 22 j)))) = cW h cI cZ (sA σ 22 z v) := rfl
