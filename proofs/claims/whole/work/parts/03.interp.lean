/-! The interpreter: a pure picture of the machine over one region of cells. -/
abbrev I_Ce : Type := (Nat × vp_A) ⊕ (Nat × List Value)
abbrev I_H : Type := Nat × Nat × (Nat → I_Ce)
abbrev I_X : Type := Nat × Nat × Nat × (Nat → Int32)
abbrev I_L : Type := List (Option Value)
/-- name, code, locals, answer, own class -/
abbrev I_M : Type := MethodName × ByteArray × Nat × Option FieldType × Nat
def I_ms0 : List I_M := [(yX0_init, cX0_init, 3, none, 0), (yX0_length, cX0_length, 1, (some .int), 0), (yX0_hasCells, cX0_hasCells, 3, (some .boolean), 0), (yX0_write, cX0_write, 3, none, 0), (yX0_cut, cX0_cut, 2, (some .int), 0), (yX0_sumOfCells, cX0_sumOfCells, 3, (some .int), 0), (yX0_isNoNumber, cX0_isNoNumber, 2, (some .boolean), 0), (yX0_markNoNumber, cX0_markNoNumber, 2, none, 0), (yX0_takeCells, cX0_takeCells, 5, none, 0), (yX0_hasTheCellsOf, cX0_hasTheCellsOf, 3, (some .boolean), 0), (yX0_hasTheCellOf, cX0_hasTheCellOf, 3, (some .boolean), 0), (yX1_init, cX1_init, 1, none, 1), (yX1_begin, cX1_begin, 4, none, 1), (yX1_hasPlace, cX1_hasPlace, 2, (some .boolean), 1), (yX1_placeCause, cX1_placeCause, 2, (some .int), 1), (yX1_cellCause, cX1_cellCause, 4, (some .int), 1), (yX1_isEven, cX1_isEven, 2, (some .boolean), 1), (yX1_wide, cX1_wide, 1, (some .int), 1), (yX1_firstNotSquare, cX1_firstNotSquare, 2, (some .int), 1), (yX1_fallenPlaces, cX1_fallenPlaces, 3, (some .int), 1)]
def I_ms1 : List I_M := [(yX1_rowsNotYetCounted, cX1_rowsNotYetCounted, 4, (some .int), 1), (yX1_agreesWith, cX1_agreesWith, 6, (some .boolean), 1), (yX2_init, cX2_init, 2, none, 2), (yX2_table, cX2_table, 3, (some .int), 2), (yX2_row, cX2_row, 5, (some .int), 2), (yX2_share, cX2_share, 7, (some .int), 2), (yX2_fall, cX2_fall, 5, (some .int), 2), (yX2_put, cX2_put, 7, (some .int), 2), (yX2_get, cX2_get, 6, (some .int), 2), (yX2_real, cX2_real, 5, (some .double), 2), (yX2_told, cX2_told, 6, (some .int), 2), (yX2_odd, cX2_odd, 2, (some .int), 2), (yX2_copy, cX2_copy, 12, (some .int), 2), (yX2_turned, cX2_turned, 7, (some .int), 2), (yX2_product, cX2_product, 9, (some .int), 2), (yX2_distances, cX2_distances, 7, (some .int), 2), (yX2_pack, cX2_pack, 5, (some .int), 2), (yX2_word, cX2_word, 2, (some .int), 2), (yX2_alike, cX2_alike, 3, (some .int), 2), (yX2_same, cX2_same, 7, (some .int), 2)]
def I_ms2 : List I_M := [(yX2_total, cX2_total, 3, (some .int), 2), (yX2_entered, cX2_entered, 1, (some .int), 2), (yX2_deep, cX2_deep, 3, (some .int), 2), (yX2_count, cX2_count, 2, (some .int), 2), (yX2_clear, cX2_clear, 2, (some .int), 2), (yX2_isUnknown, cX2_isUnknown, 2, (some .boolean), 2), (yX2_isFull, cX2_isFull, 1, (some .boolean), 2), (yX2_failed, cX2_failed, 2, (some .int), 2), (yX2_begun, cX2_begun, 4, (some .int), 2), (yX2_begunWithRows, cX2_begunWithRows, 7, (some .int), 2), (yX2_canMultiply, cX2_canMultiply, 2, (some .boolean), 2), (yX2_multiply, cX2_multiply, 4, none, 2), (yX2_multiplyBits, cX2_multiplyBits, 6, none, 2), (yX2_multiplyNumbers, cX2_multiplyNumbers, 6, none, 2), (yX2_multiplyReals, cX2_multiplyReals, 10, none, 2), (yX2_isNoProduct, cX2_isNoProduct, 4, (some .boolean), 2), (yX2_isNoSum, cX2_isNoSum, 4, (some .boolean), 2), (yX2_isEndless, cX2_isEndless, 2, (some .boolean), 2), (yX2_writeSteps, cX2_writeSteps, 4, none, 2), (yX2_shortenThrough, cX2_shortenThrough, 5, none, 2)]
def I_ms3 : List I_M := [(yX2_packRow, cX2_packRow, 5, none, 2), (yX2_totalOfTable, cX2_totalOfTable, 6, (some .int), 2), (yX2_totalOfRow, cX2_totalOfRow, 3, (some .int), 2), (yX2_totalOfLinks, cX2_totalOfLinks, 5, (some .int), 2), (yX2_depthOfTable, cX2_depthOfTable, 7, (some .int), 2), (yX2_deepestLink, cX2_deepestLink, 7, (some .int), 2), (yX2_standingRows, cX2_standingRows, 3, (some .int), 2), (yX2_allFallenPlaces, cX2_allFallenPlaces, 3, (some .int), 2), (yX3_init, cX3_init, 1, none, 3), (yX3_in, cX3_in, 3, (some .boolean), 3), (yX3_fails, cX3_fails, 2, (some .int), 3), (yX3_isTable, cX3_isTable, 2, (some .boolean), 3), (yX3_newTable, cX3_newTable, 4, (some .int), 3), (yX3_newRow, cX3_newRow, 4, (some .int), 3), (yX3_newEven, cX3_newEven, 6, (some .int), 3), (yX3_table, cX3_table, 3, (some .int), 3), (yX3_isPlace, cX3_isPlace, 3, (some .boolean), 3), (yX3_row, cX3_row, 4, (some .int), 3), (yX3_squeeze, cX3_squeeze, 4, none, 3), (yX3_share, cX3_share, 6, (some .int), 3)]
def I_ms4 : List I_M := [(yX3_fall, cX3_fall, 4, (some .int), 3), (yX3_cellCause, cX3_cellCause, 5, (some .int), 3), (yX3_put, cX3_put, 7, (some .int), 3), (yX3_get, cX3_get, 5, (some .int), 3), (yX3_toldAt, cX3_toldAt, 3, (some .int), 3), (yX3_real, cX3_real, 7, (some .double), 3), (yX3_told, cX3_told, 5, (some .int), 3), (yX3_firstOdd, cX3_firstOdd, 4, (some .int), 3), (yX3_odd, cX3_odd, 2, (some .int), 3), (yX3_copy, cX3_copy, 12, (some .int), 3), (yX3_isEven, cX3_isEven, 5, (some .boolean), 3), (yX3_wideOf, cX3_wideOf, 2, (some .int), 3), (yX3_cellOf, cX3_cellOf, 4, (some .int), 3), (yX3_turned, cX3_turned, 5, (some .int), 3), (yX3_hasNone, cX3_hasNone, 7, (some .boolean), 3), (yX3_noNumber, cX3_noNumber, 0, (some .double), 3), (yX3_reckoned, cX3_reckoned, 5, (some .double), 3), (yX3_product, cX3_product, 10, (some .int), 3), (yX3_distances, cX3_distances, 9, (some .int), 3), (yX3_pack, cX3_pack, 5, (some .int), 3)]
def I_ms5 : List I_M := [(yX3_word, cX3_word, 2, (some .int), 3), (yX3_areAlike, cX3_areAlike, 6, (some .boolean), 3), (yX3_alike, cX3_alike, 5, (some .int), 3), (yX3_same, cX3_same, 6, (some .int), 3), (yX3_goOn, cX3_goOn, 9, (some .int), 3), (yX3_enter, cX3_enter, 4, none, 3), (yX3_find, cX3_find, 5, (some .int), 3), (yX3_total, cX3_total, 2, (some .int), 3), (yX3_entered, cX3_entered, 1, (some .int), 3), (yX3_deep, cX3_deep, 2, (some .int), 3), (yX3_count, cX3_count, 7, (some .int), 3), (yX3_clear, cX3_clear, 2, (some .int), 3), (yJ7_fill_53178, cJ7_fill_53178, 4, none, 4), (yL_law, cL_law, 8, (some .boolean), 5)]
def I_m (y : Nat) : I_M := (I_ms0 ++ I_ms1 ++ I_ms2 ++ I_ms3 ++ I_ms4 ++ I_ms5).getD y (yL_law, cL_law, 8, some .boolean, 5)
def I_name (y : Nat) : MethodName := (I_m y).1
def I_code (y : Nat) : ByteArray := (I_m y).2.1
def I_maxL (y : Nat) : Nat := (I_m y).2.2.1
def I_ret (y : Nat) : Option FieldType := (I_m y).2.2.2.1
def I_own (y : Nat) : Nat := (I_m y).2.2.2.2
abbrev m_X0_init : Nat := 0
abbrev m_X0_length : Nat := 1
abbrev m_X0_hasCells : Nat := 2
abbrev m_X0_write : Nat := 3
abbrev m_X0_cut : Nat := 4
abbrev m_X0_sumOfCells : Nat := 5
abbrev m_X0_isNoNumber : Nat := 6
abbrev m_X0_markNoNumber : Nat := 7
abbrev m_X0_takeCells : Nat := 8
abbrev m_X0_hasTheCellsOf : Nat := 9
abbrev m_X0_hasTheCellOf : Nat := 10
abbrev m_X1_init : Nat := 11
abbrev m_X1_begin : Nat := 12
abbrev m_X1_hasPlace : Nat := 13
abbrev m_X1_placeCause : Nat := 14
abbrev m_X1_cellCause : Nat := 15
abbrev m_X1_isEven : Nat := 16
abbrev m_X1_wide : Nat := 17
abbrev m_X1_firstNotSquare : Nat := 18
abbrev m_X1_fallenPlaces : Nat := 19
abbrev m_X1_rowsNotYetCounted : Nat := 20
abbrev m_X1_agreesWith : Nat := 21
abbrev m_X2_init : Nat := 22
abbrev m_X2_table : Nat := 23
abbrev m_X2_row : Nat := 24
abbrev m_X2_share : Nat := 25
abbrev m_X2_fall : Nat := 26
abbrev m_X2_put : Nat := 27
abbrev m_X2_get : Nat := 28
abbrev m_X2_real : Nat := 29
abbrev m_X2_told : Nat := 30
abbrev m_X2_odd : Nat := 31
abbrev m_X2_copy : Nat := 32
abbrev m_X2_turned : Nat := 33
abbrev m_X2_product : Nat := 34
abbrev m_X2_distances : Nat := 35
abbrev m_X2_pack : Nat := 36
abbrev m_X2_word : Nat := 37
abbrev m_X2_alike : Nat := 38
abbrev m_X2_same : Nat := 39
abbrev m_X2_total : Nat := 40
abbrev m_X2_entered : Nat := 41
abbrev m_X2_deep : Nat := 42
abbrev m_X2_count : Nat := 43
abbrev m_X2_clear : Nat := 44
abbrev m_X2_isUnknown : Nat := 45
abbrev m_X2_isFull : Nat := 46
abbrev m_X2_failed : Nat := 47
abbrev m_X2_begun : Nat := 48
abbrev m_X2_begunWithRows : Nat := 49
abbrev m_X2_canMultiply : Nat := 50
abbrev m_X2_multiply : Nat := 51
abbrev m_X2_multiplyBits : Nat := 52
abbrev m_X2_multiplyNumbers : Nat := 53
abbrev m_X2_multiplyReals : Nat := 54
abbrev m_X2_isNoProduct : Nat := 55
abbrev m_X2_isNoSum : Nat := 56
abbrev m_X2_isEndless : Nat := 57
abbrev m_X2_writeSteps : Nat := 58
abbrev m_X2_shortenThrough : Nat := 59
abbrev m_X2_packRow : Nat := 60
abbrev m_X2_totalOfTable : Nat := 61
abbrev m_X2_totalOfRow : Nat := 62
abbrev m_X2_totalOfLinks : Nat := 63
abbrev m_X2_depthOfTable : Nat := 64
abbrev m_X2_deepestLink : Nat := 65
abbrev m_X2_standingRows : Nat := 66
abbrev m_X2_allFallenPlaces : Nat := 67
abbrev m_X3_init : Nat := 68
abbrev m_X3_in : Nat := 69
abbrev m_X3_fails : Nat := 70
abbrev m_X3_isTable : Nat := 71
abbrev m_X3_newTable : Nat := 72
abbrev m_X3_newRow : Nat := 73
abbrev m_X3_newEven : Nat := 74
abbrev m_X3_table : Nat := 75
abbrev m_X3_isPlace : Nat := 76
abbrev m_X3_row : Nat := 77
abbrev m_X3_squeeze : Nat := 78
abbrev m_X3_share : Nat := 79
abbrev m_X3_fall : Nat := 80
abbrev m_X3_cellCause : Nat := 81
abbrev m_X3_put : Nat := 82
abbrev m_X3_get : Nat := 83
abbrev m_X3_toldAt : Nat := 84
abbrev m_X3_real : Nat := 85
abbrev m_X3_told : Nat := 86
abbrev m_X3_firstOdd : Nat := 87
abbrev m_X3_odd : Nat := 88
abbrev m_X3_copy : Nat := 89
abbrev m_X3_isEven : Nat := 90
abbrev m_X3_wideOf : Nat := 91
abbrev m_X3_cellOf : Nat := 92
abbrev m_X3_turned : Nat := 93
abbrev m_X3_hasNone : Nat := 94
abbrev m_X3_noNumber : Nat := 95
abbrev m_X3_reckoned : Nat := 96
abbrev m_X3_product : Nat := 97
abbrev m_X3_distances : Nat := 98
abbrev m_X3_pack : Nat := 99
abbrev m_X3_word : Nat := 100
abbrev m_X3_areAlike : Nat := 101
abbrev m_X3_alike : Nat := 102
abbrev m_X3_same : Nat := 103
abbrev m_X3_goOn : Nat := 104
abbrev m_X3_enter : Nat := 105
abbrev m_X3_find : Nat := 106
abbrev m_X3_total : Nat := 107
abbrev m_X3_entered : Nat := 108
abbrev m_X3_deep : Nat := 109
abbrev m_X3_count : Nat := 110
abbrev m_X3_clear : Nat := 111
abbrev m_J7_fill_53178 : Nat := 112
abbrev m_L_law : Nat := 113
def I_cn (o : Nat) : String := match o with
  | 0 => RX0
  | 1 => RX1
  | 2 => RX2
  | 3 => RX3
  | 4 => RJ7
  | _ => RL
/-- 0: called by its object, 1: static, 2: a constructor -/
def I_kd (y : Nat) : Nat := [2, 0, 0, 0, 0, 0, 0, 0, 0, 0, 0, 2, 0, 0, 0, 0, 0, 0, 0, 0, 0, 0, 2, 0, 0, 0, 0, 0, 0, 0, 0, 0, 0, 0, 0, 0, 0, 0, 0, 0, 0, 0, 0, 0, 0, 0, 0, 0, 0, 0, 1, 1, 1, 1, 1, 1, 1, 1, 1, 1, 0, 0, 0, 0, 0, 0, 0, 0, 2, 1, 0, 0, 0, 0, 0, 0, 0, 0, 0, 0, 0, 0, 0, 0, 0, 0, 0, 0, 0, 0, 0, 0, 0, 0, 1, 1, 1, 0, 0, 0, 0, 0, 0, 0, 0, 0, 0, 0, 0, 0, 0, 0, 1, 0].getD y 9
def I_fl : List (Nat × Nat × Nat × Nat) := [(1, 11, 1, 0), (2, 49, 1, 0), (1, 17, 1, 1), (2, 55, 1, 1), (1, 21, 1, 2), (2, 76, 1, 2), (2, 11, 2, 0), (2, 158, 2, 1), (2, 167, 2, 2), (2, 16, 2, 3), (2, 139, 2, 4), (2, 20, 2, 5), (2, 146, 2, 6), (2, 149, 2, 7), (2, 24, 2, 8), (2, 224, 2, 9), (0, 9, 0, 0), (2, 174, 0, 0), (0, 15, 0, 1), (2, 116, 0, 1), (0, 19, 0, 2), (2, 72, 0, 2), (1, 44, 0, 3), (3, 55, 3, 0), (3, 7, 3, 1), (3, 13, 3, 2), (3, 16, 3, 3), (3, 62, 3, 4), (3, 19, 3, 5), (3, 22, 3, 6), (3, 25, 3, 7), (3, 50, 3, 8), (3, 29, 3, 9), (3, 140, 3, 10), (3, 32, 3, 11), (3, 163, 3, 12), (3, 35, 3, 13), (3, 38, 3, 14), (3, 41, 3, 15), (3, 44, 3, 16), (3, 47, 3, 17), (3, 146, 3, 18), (3, 149, 3, 19), (3, 152, 3, 20)]
def I_ml : List (Nat × Nat × Nat) := [(5, 9, 22), (2, 3, 1001), (2, 15, 11), (1, 3, 1001), (5, 13, 23), (2, 28, 46), (2, 33, 47), (2, 37, 48), (2, 171, 12), (5, 18, 24), (2, 41, 45), (2, 46, 13), (2, 59, 0), (0, 3, 1001), (0, 24, 112), (5, 23, 25), (5, 28, 26), (5, 32, 27), (2, 63, 15), (1, 28, 14), (1, 24, 13), (1, 32, 2), (2, 66, 3), (5, 36, 28), (2, 69, 4), (5, 40, 29), (5, 45, 30), (2, 79, 14), (2, 82, 1), (5, 49, 31), (2, 86, 18), (1, 36, 1), (5, 54, 32), (2, 89, 2), (2, 93, 8), (0, 36, 1002), (5, 59, 33), (2, 97, 16), (1, 40, 17), (2, 100, 17), (2, 104, 49), (5, 63, 34), (2, 108, 50), (2, 112, 51), (2, 175, 52), (2, 178, 53), (2, 181, 54), (2, 184, 6), (2, 187, 55), (2, 198, 57), (2, 191, 7), (2, 195, 56), (5, 67, 35), (2, 119, 58), (2, 123, 59), (5, 71, 36), (2, 127, 19), (2, 130, 112), (2, 136, 60), (5, 75, 37), (5, 79, 38), (2, 142, 21), (1, 47, 9), (0, 42, 1), (0, 46, 10), (0, 50, 6), (5, 83, 39), (5, 87, 40), (2, 152, 61), (2, 206, 62), (2, 210, 63), (2, 213, 5), (0, 32, 4), (5, 91, 41), (5, 96, 42), (2, 155, 64), (2, 216, 65), (2, 219, 1004), (5, 100, 43), (2, 161, 66), (2, 227, 20), (2, 164, 67), (5, 104, 44), (5, 12, 68), (3, 1, 1001), (5, 17, 75), (3, 58, 69), (3, 75, 70), (3, 66, 72), (5, 22, 77), (3, 79, 71), (3, 84, 76), (3, 88, 78), (3, 70, 73), (5, 27, 79), (5, 31, 80), (5, 35, 82), (3, 91, 81), (5, 39, 83), (3, 97, 84), (5, 44, 85), (5, 48, 86), (5, 53, 88), (3, 100, 87), (5, 58, 89), (5, 62, 93), (3, 106, 90), (3, 103, 91), (3, 110, 74), (3, 113, 92), (5, 66, 97), (3, 136, 96), (3, 128, 94), (3, 132, 95), (3, 122, 1003), (5, 70, 98), (5, 74, 99), (5, 78, 100), (5, 82, 102), (3, 143, 101), (5, 86, 103), (5, 90, 107), (3, 166, 106), (3, 155, 105), (3, 159, 104), (5, 95, 108), (5, 99, 109), (5, 103, 110), (5, 107, 111)]
def I_ci : List (Nat × Nat × Int32) := [(2, 27, -1000002), (2, 32, -1000004), (2, 170, -1000010), (2, 45, -1000001), (0, 23, -1000009), (2, 62, -1000009), (1, 43, -1000009), (2, 103, -1000003), (3, 73, -1000002), (3, 74, -1000004), (3, 54, -1000010), (3, 83, -1000001), (3, 65, -1000009), (3, 109, -1000003)]
def I_cd : List (Nat × Nat × UInt64) := [(0, 30, 4652007308841189376), (2, 202, 9218868437227405311), (2, 204, 18442240474082181119), (3, 95, 4652007308841189376), (3, 116, 9218868437227405311), (3, 118, 18442240474082181119)]
def I_cl : List (Nat × Nat × Int64) := [(3, 120, 9221120237041090560)]
def I_ck : List (Nat × Nat × Nat) := [(5, 7, 2), (2, 9, 1), (1, 9, 0), (2, 53, 0), (5, 10, 3)]
def I_look {α : Type} (l : List (Nat × Nat × α)) (o i : Nat) : Option α := (l.find? (fun q => q.1 == o && q.2.1 == i)).map (fun q => q.2.2)
/-- how many parameters (the receiver apart) -/
def I_np (y : Nat) : Nat := match parseMethodDescriptor (I_name y).desc with
  | some d => d.parameters.length
  | none => 0
def I_cel (X : I_X) (h : I_H) (a : Nat) : Option I_Ce := if X.1 ≤ a ∧ a < h.1 then some (h.2.2 a) else none
def I_set (h : I_H) (a : Nat) (e : I_Ce) : I_H := (h.1, h.2.1, fun q => if q = a then e else h.2.2 q)
def I_new (h : I_H) (n : Nat) (e : I_Ce) : I_H := (h.1 + 1, h.2.1 + n, fun q => if q = h.1 then e else h.2.2 q)
def I_getf (X : I_X) (h : I_H) (a ci k : Nat) : Option Value := match I_cel X h a with
  | some (.inr o) => if o.1 = ci then o.2[k]? else none
  | _ => none
def I_putf (X : I_X) (h : I_H) (a ci k : Nat) (v : Value) : Option I_H := match I_cel X h a with
  | some (.inr o) => if o.1 = ci ∧ k < o.2.length then some (I_set h a (.inr (ci, o.2.set k v))) else none
  | _ => none
def I_isC (X : I_X) (h : I_H) (a ci : Nat) : Bool := match I_cel X h a with
  | some (.inr o) => o.1 == ci
  | _ => false
def I_arr (X : I_X) (h : I_H) (a : Nat) : Option (Nat × vp_A) := match I_cel X h a with
  | some (.inl q) => some q
  | _ => none
def I_in (i : Int32) (n : Nat) : Bool := !(decide (i < 0) || decide (n ≤ i.toNatClampNeg))
def I_sld (X : I_X) (a : Nat) (i : Int32) : Option Int32 := if a = X.2.1 ∧ I_in i X.2.2.1 = true then some (X.2.2.2 i.toNatClampNeg) else none
def I_slen (X : I_X) (a : Nat) : Option Int32 := if a = X.2.1 then some (Int32.ofNat X.2.2.1) else none
def I_aldi (X : I_X) (h : I_H) (t a : Nat) (i : Int32) : Option Int32 := match I_arr X h a with
  | some (t', n, .inl f) => if t' = t ∧ I_in i n = true then some (f i.toNatClampNeg) else none
  | _ => none
def I_asti (X : I_X) (h : I_H) (t a : Nat) (i v : Int32) : Option I_H := match I_arr X h a with
  | some (t', n, .inl f) => if t' = t ∧ I_in i n = true then some (I_set h a (.inl (t, n, .inl (upd f i.toNatClampNeg v)))) else none
  | _ => none
def I_aldd (X : I_X) (h : I_H) (a : Nat) (i : Int32) : Option UInt64 := match I_arr X h a with
  | some (t', n, .inr (.inr (.inr (.inl f)))) => if t' = 1 ∧ I_in i n = true then some (f i.toNatClampNeg) else none
  | _ => none
def I_astd (X : I_X) (h : I_H) (a : Nat) (i : Int32) (v : UInt64) : Option I_H := match I_arr X h a with
  | some (t', n, .inr (.inr (.inr (.inl f)))) => if t' = 1 ∧ I_in i n = true then some (I_set h a (.inl (1, n, .inr (.inr (.inr (.inl (vf_upd f i.toNatClampNeg v))))))) else none
  | _ => none
def I_aldq (X : I_X) (h : I_H) (a : Nat) (i : Int32) : Option (Option Nat) := match I_arr X h a with
  | some (t', n, .inr (.inr (.inr (.inr f)))) => if (t' = 3 ∨ t' = 4) ∧ I_in i n = true then some (f i.toNatClampNeg) else none
  | _ => none
def I_astq (X : I_X) (h : I_H) (a : Nat) (i : Int32) (v : Option Nat) : Option I_H := match I_arr X h a with
  | some (t', n, .inr (.inr (.inr (.inr f)))) => if ((t' = 3 ∧ (match v with | none => true | some b => I_isC X h b 1) = true) ∨ (t' = 4 ∧ (match v with | none => true | some b => I_isC X h b 0) = true)) ∧ I_in i n = true then some (I_set h a (.inl (t', n, .inr (.inr (.inr (.inr (va_up f i.toNatClampNeg v))))))) else none
  | _ => none
def I_alen (X : I_X) (h : I_H) (a : Nat) : Option Int32 := match I_arr X h a with
  | some q => if q.1 < 5 then some (Int32.ofNat q.2.1) else none
  | none => none
def I_copy (X : I_X) (h : I_H) (a0 : Nat) (sp : Int32) (a : Nat) (dp n : Int32) : Option I_H := match I_arr X h a0, I_arr X h a with
  | some (t0, n0, .inl f), some (t1, n1, .inl g) => if t0 = 0 ∧ t1 = 0 ∧ ¬ sp < 0 ∧ ¬ dp < 0 ∧ ¬ n < 0 ∧ sp.toNatClampNeg + n.toNatClampNeg ≤ n0 ∧ dp.toNatClampNeg + n.toNatClampNeg ≤ n1 then some (I_set h a (.inl (0, n1, .inl (va_cpy f g sp.toNatClampNeg dp.toNatClampNeg n.toNatClampNeg)))) else none
  | some (t0, n0, .inr (.inr (.inr (.inl f)))), some (t1, n1, .inr (.inr (.inr (.inl g)))) => if t0 = 1 ∧ t1 = 1 ∧ ¬ sp < 0 ∧ ¬ dp < 0 ∧ ¬ n < 0 ∧ sp.toNatClampNeg + n.toNatClampNeg ≤ n0 ∧ dp.toNatClampNeg + n.toNatClampNeg ≤ n1 then some (I_set h a (.inl (1, n1, .inr (.inr (.inr (.inl (va_cpy f g sp.toNatClampNeg dp.toNatClampNeg n.toNatClampNeg))))))) else none
  | _, _ => none
def I_lv (L : I_L) (k : Nat) : Option Value := match L[k]? with
  | some (some v) => some v
  | _ => none
/-- is a value of two slots there -/
def I_c2 (x : Option Value) : Bool := match x with
  | some (.double _) => true
  | some (.long _) => true
  | _ => false
def I_prev (L : I_L) (k : Nat) : Bool := match k with
  | 0 => false
  | j + 1 => match L[j]? with
    | some x => I_c2 x
    | none => true
def I_st1 (L : I_L) (k : Nat) (v : Value) : Option I_L := if k < L.length ∧ I_prev L k = false then some (L.set k (some v)) else none
def I_st2 (L : I_L) (k : Nat) (v : Value) : Option I_L := if k + 1 < L.length ∧ I_prev L k = false then some ((L.set k (some v)).set (k + 1) none) else none
def I_cat : List Value → Nat
  | [] => 0
  | v :: st => v.category + I_cat st
/-- what a field may take: an int, or an array by the constructor of its own class -/
def I_fit (o ci k : Nat) (ini : Bool) (v : Value) : Bool := match v with
  | .int _ => (match ci, k with
    | 0, 0 => ini && o == 0
    | 0, 3 => true
    | 1, 1 => true
    | 1, 2 => true
    | 2, 1 => true
    | 2, 2 => true
    | 2, 4 => true
    | 2, 6 => true
    | 2, 7 => true
    | 2, 9 => true
    | 3, 0 => true
    | 3, 4 => true
    | 3, 8 => true
    | 3, 10 => true
    | 3, 12 => true
    | 3, 18 => true
    | 3, 19 => true
    | 3, 20 => true
    | _, _ => false)
  | .ref _ => ini && o == ci && (match ci, k with
    | 0, 1 => true
    | 0, 2 => true
    | 1, 0 => true
    | 2, 0 => true
    | 2, 3 => true
    | 2, 5 => true
    | 2, 8 => true
    | 3, 1 => true
    | 3, 2 => true
    | 3, 3 => true
    | 3, 5 => true
    | 3, 6 => true
    | 3, 7 => true
    | 3, 9 => true
    | 3, 11 => true
    | 3, 13 => true
    | 3, 14 => true
    | 3, 15 => true
    | 3, 16 => true
    | 3, 17 => true
    | _, _ => false)
  | _ => false
def I_init (y : Nat) : Bool := (I_name y).name == "<init>"
def I_def (ci : Nat) : List Value := match ci with
  | 0 => [.int 0, .null, .null, .int 0]
  | 1 => [.null, .int 0, .int 0]
  | 2 => [.null, .int 0, .int 0, .null, .int 0, .null, .int 0, .int 0, .null, .int 0]
  | _ => [.int 0, .null, .null, .null, .int 0, .null, .null, .null, .int 0, .null, .int 0, .null, .int 0, .null, .null, .null, .null, .null, .int 0, .int 0, .int 0]
def I_N (ci : Nat) : Nat := match ci with
  | 0 => 4
  | 1 => 3
  | 2 => 10
  | _ => 21
abbrev I_C : Type := Nat × I_L × List Value × I_H
def I_jmp (pc : Nat) (off : Int) (L : I_L) (st : List Value) (h : I_H) : Option I_C := if 0 ≤ (pc : Int) + off then some (((pc : Int) + off).toNat, L, st, h) else none
def I_br (c : Bool) (pc : Nat) (off : Int) (L : I_L) (st : List Value) (h : I_H) : Option I_C := if 0 ≤ (pc : Int) + off then (if c = true then some (((pc : Int) + off).toNat, L, st, h) else some (pc + 3, L, st, h)) else none
def I_sorted (l : List (Int × Int)) : Bool := (l.zip (l.drop 1)).all (fun (a, next) => a.1 < next.1)
def I_ldi (k pc len : Nat) (L : I_L) (st : List Value) (h : I_H) : Option I_C := match I_lv L k with
  | some (.int x) => some (pc + len, L, .int x :: st, h)
  | _ => none
def I_ldd (k pc len : Nat) (L : I_L) (st : List Value) (h : I_H) : Option I_C := match I_lv L k with
  | some (.double x) => some (pc + len, L, .double x :: st, h)
  | _ => none
def I_lda (k pc len : Nat) (L : I_L) (st : List Value) (h : I_H) : Option I_C := match I_lv L k with
  | some (.ref x) => some (pc + len, L, .ref x :: st, h)
  | some .null => some (pc + len, L, .null :: st, h)
  | _ => none
def I_sti (k pc len : Nat) (L : I_L) (st : List Value) (h : I_H) : Option I_C := match st with
  | .int x :: st => (I_st1 L k (.int x)).map (fun L => (pc + len, L, st, h))
  | _ => none
def I_sta (k pc len : Nat) (L : I_L) (st : List Value) (h : I_H) : Option I_C := match st with
  | .ref x :: st => (I_st1 L k (.ref x)).map (fun L => (pc + len, L, st, h))
  | .null :: st => (I_st1 L k .null).map (fun L => (pc + len, L, st, h))
  | _ => none
def I_std (k pc len : Nat) (L : I_L) (st : List Value) (h : I_H) : Option I_C := match st with
  | .double x :: st => (I_st2 L k (.double x)).map (fun L => (pc + len, L, st, h))
  | _ => none
def I_b2 (f : Int32 → Int32 → Int32) (pc : Nat) (L : I_L) (st : List Value) (h : I_H) : Option I_C := match st with
  | .int y :: .int x :: st => some (pc + 1, L, .int (f x y) :: st, h)
  | _ => none
def I_nan (r : UInt64) : Bool := decide (r &&& 0x7fffffffffffffff ≤ 0x7ff0000000000000)
def I_d2 (f : UInt64 → UInt64 → UInt64) (pc : Nat) (L : I_L) (st : List Value) (h : I_H) : Option I_C := match st with
  | .double y :: .double x :: st => if I_nan (f x y) = true then some (pc + 1, L, .double (f x y) :: st, h) else none
  | _ => none
def I_if (f : Int32 → Bool) (pc : Nat) (off : Int) (L : I_L) (st : List Value) (h : I_H) : Option I_C := match st with
  | .int x :: st => I_br (f x) pc off L st h
  | _ => none
def I_icmp (f : Int32 → Int32 → Bool) (pc : Nat) (off : Int) (L : I_L) (st : List Value) (h : I_H) : Option I_C := match st with
  | .int y :: .int x :: st => I_br (f x y) pc off L st h
  | _ => none
def I_isnull (pc : Nat) (off : Int) (b : Bool) (L : I_L) (st : List Value) (h : I_H) : Option I_C := match st with
  | .ref _ :: st => I_br (!b) pc off L st h
  | .null :: st => I_br b pc off L st h
  | _ => none
def I_rv (v : Value) : Option (Option Nat) := match v with
  | .ref a => some (some a)
  | .null => some none
  | _ => none
def I_acmp (b : Bool) (pc : Nat) (off : Int) (L : I_L) (st : List Value) (h : I_H) : Option I_C := match st with
  | y :: x :: st => (match I_rv y, I_rv x with
    | some ry, some rx => I_br (if rx = ry then b else !b) pc off L st h
    | _, _ => none)
  | _ => none
def I_cat1 (v : Value) : Bool := match v with
  | .int _ => true
  | .ref _ => true
  | .null => true
  | _ => false
def I_hp (r : Option I_H) (pc : Nat) (L : I_L) (st : List Value) : Option I_C := r.map (fun h => (pc, L, st, h))
def I_mk (n : Int32) : Bool := !(decide (n < 0)) && decide (n.toNatClampNeg ≤ 20000)
def I_newa (t : ArrayType) (n : Nat) : Option I_Ce := match t with
  | .int => some (.inl (0, n, .inl (fun _ => 0)))
  | .double => some (.inl (1, n, .inr (.inr (.inr (.inl (fun _ => 0))))))
  | .boolean => some (.inl (2, n, .inl (fun _ => 0)))
  | _ => none
/-- an instruction that is no call and no return; y: the method -/
def I_step (X : I_X) (y : Nat) (i : Instr) (pc len : Nat) (L : I_L) (st : List Value) (h : I_H) : Option I_C := match i with
  | .iconst n => some (pc + 1, L, .int (Int32.ofInt n) :: st, h)
  | .bipush n => some (pc + 2, L, .int (Int8.ofInt n).toInt32 :: st, h)
  | .sipush n => some (pc + 3, L, .int (Int16.ofInt n).toInt32 :: st, h)
  | .dconst n => if n = 0 then some (pc + 1, L, .double FP.dconst0 :: st, h) else none
  | .aconst_null => some (pc + 1, L, .null :: st, h)
  | .ldc idx => (I_look I_ci (I_own y) idx).map (fun v => (pc + 2, L, .int v :: st, h))
  | .ldc2_w idx => (match I_look I_cd (I_own y) idx with
    | some v => some (pc + 3, L, .double v :: st, h)
    | none => (I_look I_cl (I_own y) idx).map (fun v => (pc + 3, L, .long v :: st, h)))
  | .iload k => I_ldi k pc 2 L st h
  | .iload_n k => I_ldi k.val pc 1 L st h
  | .dload k => I_ldd k pc 2 L st h
  | .dload_n k => I_ldd k.val pc 1 L st h
  | .aload k => I_lda k pc 2 L st h
  | .aload_n k => I_lda k.val pc 1 L st h
  | .istore k => I_sti k pc 2 L st h
  | .istore_n k => I_sti k.val pc 1 L st h
  | .astore k => I_sta k pc 2 L st h
  | .astore_n k => I_sta k.val pc 1 L st h
  | .dstore k => I_std k pc 2 L st h
  | .dstore_n k => I_std k.val pc 1 L st h
  | .iinc k n => (match I_lv L k with
    | some (.int x) => (I_st1 L k (.int (x + Int32.ofInt n))).map (fun L => (pc + 3, L, st, h))
    | _ => none)
  | .iadd => I_b2 (fun x y => x + y) pc L st h
  | .isub => I_b2 (fun x y => x - y) pc L st h
  | .imul => I_b2 (fun x y => x * y) pc L st h
  | .iand => I_b2 (fun x y => x &&& y) pc L st h
  | .ior => I_b2 (fun x y => x ||| y) pc L st h
  | .ishl => I_b2 (fun x y => x <<< (y &&& 31)) pc L st h
  | .idiv => (match st with
    | .int y :: .int x :: st => if y = 0 then none else some (pc + 1, L, .int (x / y) :: st, h)
    | _ => none)
  | .irem => (match st with
    | .int y :: .int x :: st => if y = 0 then none else some (pc + 1, L, .int (x - x / y * y) :: st, h)
    | _ => none)
  | .i2l => (match st with
    | .int x :: st => some (pc + 1, L, .long x.toInt64 :: st, h)
    | _ => none)
  | .ladd => (match st with
    | .long y :: .long x :: st => some (pc + 1, L, .long (x + y) :: st, h)
    | _ => none)
  | .lcmp => (match st with
    | .long y :: .long x :: st => some (pc + 1, L, .int (lg_cmp x y) :: st, h)
    | _ => none)
  | .i2d => (match st with
    | .int x :: st => some (pc + 1, L, .double (FP.i2d x) :: st, h)
    | _ => none)
  | .d2i => (match st with
    | .double x :: st => some (pc + 1, L, .int (FP.d2i x) :: st, h)
    | _ => none)
  | .dadd => I_d2 FP.dadd pc L st h
  | .dmul => I_d2 FP.dmul pc L st h
  | .ddiv => I_d2 FP.ddiv pc L st h
  | .dcmp op => (match st with
    | .double y :: .double x :: st => some (pc + 1, L, .int (Op.cmpValue (FP.dcmp x y) op) :: st, h)
    | _ => none)
  | .ifCond .eq off => I_if (fun x => decide (x = 0)) pc off L st h
  | .ifCond .ne off => I_if (fun x => decide (¬ x = 0)) pc off L st h
  | .ifCond .lt off => I_if (fun x => decide (x < 0)) pc off L st h
  | .ifCond .ge off => I_if (fun x => decide (0 ≤ x)) pc off L st h
  | .ifCond .gt off => I_if (fun x => decide (0 < x)) pc off L st h
  | .ifCond .le off => I_if (fun x => decide (x ≤ 0)) pc off L st h
  | .if_icmp .eq off => I_icmp (fun x y => decide (x = y)) pc off L st h
  | .if_icmp .ne off => I_icmp (fun x y => decide (¬ x = y)) pc off L st h
  | .if_icmp .lt off => I_icmp (fun x y => decide (x < y)) pc off L st h
  | .if_icmp .ge off => I_icmp (fun x y => decide (y ≤ x)) pc off L st h
  | .if_icmp .gt off => I_icmp (fun x y => decide (y < x)) pc off L st h
  | .if_icmp .le off => I_icmp (fun x y => decide (x ≤ y)) pc off L st h
  | .if_acmp .eq off => I_acmp true pc off L st h
  | .if_acmp .ne off => I_acmp false pc off L st h
  | .ifnull off => I_isnull pc off true L st h
  | .ifnonnull off => I_isnull pc off false L st h
  | .goto off => I_jmp pc off L st h
  | .tableswitch dflt lo hi offs => (match st with
    | .int x :: st => if x.toInt < lo ∨ hi < x.toInt then I_jmp pc dflt L st h else (match offs[(x.toInt - lo).toNat]? with
      | some off => I_jmp pc off L st h
      | none => none)
    | _ => none)
  | .lookupswitch dflt ps => (match st with
    | .int x :: st => if I_sorted ps.toList = true then I_jmp pc (Op.lookupswitch.offset ps.toList dflt x.toInt) L st h else none
    | _ => none)
  | .dup => (match st with
    | v :: st => if I_cat1 v = true then some (pc + 1, L, v :: v :: st, h) else none
    | _ => none)
  | .dup2 => (match st with
    | v :: u :: st => if I_cat1 v = true ∧ I_cat1 u = true then some (pc + 1, L, v :: u :: v :: u :: st, h) else none
    | _ => none)
  | .getfield idx => (match st with
    | .ref a :: st => (match I_look I_fl (I_own y) idx with
      | some q => (I_getf X h a q.1 q.2).map (fun v => (pc + 3, L, v :: st, h))
      | none => none)
    | _ => none)
  | .putfield idx => (match st with
    | v :: .ref a :: st => (match I_look I_fl (I_own y) idx with
      | some q => if I_fit (I_own y) q.1 q.2 (I_init y) v = true then I_hp (I_putf X h a q.1 q.2 v) (pc + 3) L st else none
      | none => none)
    | _ => none)
  | .iaload => (match st with
    | .int i :: .ref a :: st => if I_own y = 5 then (I_sld X a i).map (fun v => (pc + 1, L, .int v :: st, h)) else (I_aldi X h 0 a i).map (fun v => (pc + 1, L, .int v :: st, h))
    | _ => none)
  | .baload => (match st with
    | .int i :: .ref a :: st => (I_aldi X h 2 a i).map (fun v => (pc + 1, L, .int v :: st, h))
    | _ => none)
  | .daload => (match st with
    | .int i :: .ref a :: st => (I_aldd X h a i).map (fun v => (pc + 1, L, .double v :: st, h))
    | _ => none)
  | .aaload => (match st with
    | .int i :: .ref a :: st => (I_aldq X h a i).map (fun v => (pc + 1, L, va_rf v :: st, h))
    | _ => none)
  | .iastore => (match st with
    | .int v :: .int i :: .ref a :: st => I_hp (I_asti X h 0 a i v) (pc + 1) L st
    | _ => none)
  | .bastore => (match st with
    | .int v :: .int i :: .ref a :: st => if v = 0 ∨ v = 1 then I_hp (I_asti X h 2 a i v) (pc + 1) L st else none
    | _ => none)
  | .dastore => (match st with
    | .double v :: .int i :: .ref a :: st => I_hp (I_astd X h a i v) (pc + 1) L st
    | _ => none)
  | .aastore => (match st with
    | v :: .int i :: .ref a :: st => (match I_rv v with
      | some r => I_hp (I_astq X h a i r) (pc + 1) L st
      | none => none)
    | _ => none)
  | .arraylength => (match st with
    | .ref a :: st => if I_own y = 5 then (I_slen X a).map (fun v => (pc + 1, L, .int v :: st, h)) else (I_alen X h a).map (fun v => (pc + 1, L, .int v :: st, h))
    | _ => none)
  | .newarray t => (match st with
    | .int n :: st => if I_mk n = true then (I_newa t n.toNatClampNeg).map (fun e => (pc + 2, L, va_rf (some h.1) :: st, I_new h n.toNatClampNeg e)) else none
    | _ => none)
  | .anewarray idx => (match st with
    | .int n :: st => if I_mk n = true then (match I_look I_ck (I_own y) idx with
      | some 0 => some (pc + 3, L, va_rf (some h.1) :: st, I_new h n.toNatClampNeg (.inl (4, n.toNatClampNeg, .inr (.inr (.inr (.inr (fun _ => none)))))))
      | some 1 => some (pc + 3, L, va_rf (some h.1) :: st, I_new h n.toNatClampNeg (.inl (3, n.toNatClampNeg, .inr (.inr (.inr (.inr (fun _ => none)))))))
      | _ => none) else none
    | _ => none)
  | .new idx => (match I_look I_ck (I_own y) idx with
    | some ci => if ci < 4 then some (pc + 3, L, va_rf (some h.1) :: st, I_new h (I_N ci) (.inr (ci, I_def ci))) else none
    | none => none)
  | .invokespecial idx => if I_look I_ml (I_own y) idx = some 1001 ∧ I_cat st ≤ 9 then (match st with
    | .ref _ :: st => some (pc + 3, L, st, h)
    | _ => none) else none
  | .invokestatic idx => if I_cat st ≤ 13 then (match I_look I_ml (I_own y) idx, st with
    | some 1002, .int n :: .int dp :: .ref a :: .int sp :: .ref a0 :: st => I_hp (I_copy X h a0 sp a dp n) (pc + 3) L st
    | some 1003, .long b :: st => if vn_snl2d b = false then some (pc + 3, L, .double b.toUInt64 :: st, h) else none
    | some 1004, .int y :: .int x :: st => some (pc + 3, L, .int (if x < y then y else x) :: st, h)
    | _, _ => none) else none
  | _ => none
/-- a call: the method, its arguments, what stays on the stack -/
def I_call (X : I_X) (y : Nat) (i : Instr) (st : List Value) (h : I_H) : Option (Nat × List Value × List Value) := match i with
  | .invokevirtual idx => (match I_look I_ml (I_own y) idx with
    | some t => if t < 1000 then (match st.drop (I_np t) with
      | .ref b :: rest => if I_kd t = 0 ∧ I_np t ≤ st.length ∧ I_isC X h b (I_own t) = true ∧ I_cat rest ≤ 8 then some (t, .ref b :: (st.take (I_np t)).reverse, rest) else none
      | _ => none) else none
    | none => none)
  | .invokespecial idx => (match I_look I_ml (I_own y) idx with
    | some t => if t < 1000 then (match st.drop (I_np t) with
      | .ref b :: rest => if I_kd t = 2 ∧ I_np t ≤ st.length ∧ I_cat rest ≤ 8 then some (t, .ref b :: (st.take (I_np t)).reverse, rest) else none
      | _ => none) else none
    | none => none)
  | .invokestatic idx => (match I_look I_ml (I_own y) idx with
    | some t => if t < 1000 then (if I_kd t = 1 ∧ I_np t ≤ st.length ∧ I_cat (st.drop (I_np t)) ≤ 8 then some (t, (st.take (I_np t)).reverse, st.drop (I_np t)) else none) else none
    | none => none)
  | _ => none
def I_back (y : Nat) (i : Instr) (st : List Value) : Option (Option Value) := match i with
  | .ireturn => (match st with
    | [.int v] => if I_ret y = some .int ∨ (I_ret y = some .boolean ∧ (v = 0 ∨ v = 1)) then some (some (.int v)) else none
    | _ => none)
  | .dreturn => (match st with
    | [.double v] => if I_ret y = some .double then some (some (.double v)) else none
    | _ => none)
  | .return_ => (match st with
    | [] => if I_ret y = none then some none else none
    | _ => none)
  | _ => none
/-- the lengths of the instructions that are taken -/
def I_lk (i : Instr) (len : Nat) : Bool := match i with
  | .bipush _ => len == 2
  | .iload _ => len == 2
  | .dload _ => len == 2
  | .aload _ => len == 2
  | .istore _ => len == 2
  | .dstore _ => len == 2
  | .astore _ => len == 2
  | .ldc _ => len == 2
  | .newarray _ => len == 2
  | .sipush _ => len == 3
  | .ldc2_w _ => len == 3
  | .iinc _ _ => len == 3
  | .ifCond _ _ => len == 3
  | .if_icmp _ _ => len == 3
  | .if_acmp _ _ => len == 3
  | .ifnull _ => len == 3
  | .ifnonnull _ => len == 3
  | .goto _ => len == 3
  | .getfield _ => len == 3
  | .putfield _ => len == 3
  | .anewarray _ => len == 3
  | .new _ => len == 3
  | .invokevirtual _ => len == 3
  | .invokespecial _ => len == 3
  | .invokestatic _ => len == 3
  | .tableswitch _ _ _ _ => true
  | .lookupswitch _ _ => true
  | _ => len == 1
def I_slots (vs : List Value) : I_L := vs.flatMap (fun v => if v.category = 2 then [some v, none] else [some v])
def I_ent (vs : List Value) (n : Nat) : I_L := I_slots vs ++ List.replicate (n - (I_slots vs).length) none
abbrev I_R : Type := Option Value × I_H
def I_run : Nat → I_X → Nat → Nat → Nat → I_L → List Value → I_H → Option I_R
  | 0, _, _, _, _, _, _, _ => none
  | n + 1, X, d, y, pc, L, st, h => match decode (I_code y) pc with
    | .error _ => none
    | .ok (i, len) => if I_lk i len = true then match I_call X y i st h with
      | some q => (match d with
        | 0 => none
        | d' + 1 => if (I_slots q.2.1).length ≤ I_maxL q.1 then (I_run n X d' q.1 0 (I_ent q.2.1 (I_maxL q.1)) [] h).bind (fun r => I_run n X (d' + 1) y (pc + 3) L (r.1.toList ++ q.2.2) r.2) else none)
      | none => match I_back y i st with
        | some r => some (r, h)
        | none => (I_step X y i pc len L st h).bind (fun c => I_run n X d y c.1 c.2.1 c.2.2.1 c.2.2.2)
      else none

