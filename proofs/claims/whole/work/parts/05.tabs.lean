/-! TABLES of the abstract machine (made by gen2.py): own classes, methods, pool entries, with the places of their words in lw_tbl -/
def zOwn : List String := [RX0, RX1, RX2, RX3, RX4, RX5, RX6, RJ9, RJxa1e45, RJxc12de, RJx4a65c, RJ7, RJ15, RJ8, RJ3, RL]
abbrev zM_ : Type := MethodName × ByteArray × Nat × Option FieldType × Nat × Nat × List (Nat × Nat × Nat × Nat)
def zML : List zM_ := [
  (yX0_init, cX0_init, 2, none, 0, 1, []),
  (yX0_openAgain, cX0_openAgain, 1, none, 0, 0, []),
  (yX1_init, cX1_init, 3, none, 1, 2, []),
  (yX1_nestOn, cX1_nestOn, 7, none, 1, 1, []),
  (yX1_takeOff, cX1_takeOff, 2, none, 1, 0, []),
  (yX1_sheetsUsed, cX1_sheetsUsed, 3, (some FieldType.int), 1, 0, []),
  (yX1_keepStrokes, cX1_keepStrokes, 1, none, 1, 0, []),
  (yX1_minutesFor, cX1_minutesFor, 4, (some FieldType.int), 1, 1, []),
  (yX1_touchesEarlier, cX1_touchesEarlier, 4, (some FieldType.boolean), 1, 2, []),
  (yX2_init, cX2_init, 1, none, 2, 0, []),
  (yX2_add, cX2_add, 3, none, 2, 2, []),
  (yX2_clear, cX2_clear, 1, none, 2, 0, []),
  (yX2_copy, cX2_copy, 2, none, 2, 1, []),
  (yX2_dropDoubled, cX2_dropDoubled, 5, none, 2, 0, []),
  (yX2_has, cX2_has, 6, (some FieldType.boolean), 2, 2, []),
  (yX2_firstWrongPoint, cX2_firstWrongPoint, 3, (some FieldType.int), 2, 0, []),
  (yX2_wrongOrNoPoint, cX2_wrongOrNoPoint, 2, (some FieldType.int), 2, 1, []),
  (yX2_strokesAt, cX2_strokesAt, 4, (some FieldType.int), 2, 1, []),
  (yX2_wide, cX2_wide, 6, (some FieldType.int), 2, 0, []),
  (yX2_high, cX2_high, 6, (some FieldType.int), 2, 0, []),
  (yX2_sumOfStrokes, cX2_sumOfStrokes, 3, (some FieldType.float), 2, 0, []),
  (yX2_fromOf, cX2_fromOf, 1, (some FieldType.int), 2, 1, []),
  (yX2_toOf, cX2_toOf, 1, (some FieldType.int), 2, 1, []),
  (yX2_xOf, cX2_xOf, 1, (some FieldType.int), 2, 1, []),
  (yX2_yOf, cX2_yOf, 1, (some FieldType.int), 2, 1, []),
  (yX2_distance, cX2_distance, 4, (some FieldType.float), 2, 2, []),
  (yX2_root, cX2_root, 4, (some FieldType.double), 2, 1, []),
  (yX3_init, cX3_init, 2, none, 3, 1, []),
  (yX3_begin, cX3_begin, 7, none, 3, 6, []),
  (yX3_holds, cX3_holds, 3, (some FieldType.boolean), 3, 2, []),
  (yX3_area, cX3_area, 1, (some FieldType.int), 3, 0, []),
  (yX3_touches, cX3_touches, 2, (some FieldType.boolean), 3, 1, []),
  (yX3_release, cX3_release, 2, none, 3, 0, []),
  (yX3_hasAllFree, cX3_hasAllFree, 1, (some FieldType.boolean), 3, 0, []),
  (yX3_isFreeOrNone, cX3_isFreeOrNone, 1, (some FieldType.boolean), 3, 1, []),
  (yX3_endPieces, cX3_endPieces, 1, none, 3, 0, []),
  (yX3_end, cX3_end, 1, none, 3, 1, []),
  (yX3_joinPieces, cX3_joinPieces, 1, none, 3, 0, []),
  (yX4_init, cX4_init, 1, none, 4, 0, []),
  (yX4_bring, cX4_bring, 4, (some FieldType.int), 4, 2, []),
  (yX4_next, cX4_next, 3, (some (FieldType.object "Kerfworks$Piece")), 4, 0, []),
  (yX4_lay, cX4_lay, 5, (some (FieldType.object "Kerfworks$Piece")), 4, 2, []),
  (yX4_piecesOf, cX4_piecesOf, 3, (some FieldType.int), 4, 3, []),
  (yX4_pieceOf, cX4_pieceOf, 7, (some (FieldType.object "Kerfworks$Piece")), 4, 5, []),
  (yX4_bestFor, cX4_bestFor, 6, (some (FieldType.object "Kerfworks$Piece")), 4, 2, []),
  (yX4_undo, cX4_undo, 5, none, 4, 2, []),
  (yX4_freeAt, cX4_freeAt, 5, (some (FieldType.object "Kerfworks$Piece")), 4, 1, []),
  (yX5_init, cX5_init, 1, none, 5, 0, []),
  (yX5_drawing, cX5_drawing, 2, (some FieldType.int), 5, 0, []),
  (yX5_stroke, cX5_stroke, 5, (some FieldType.int), 5, 3, []),
  (yX5_finish, cX5_finish, 4, (some FieldType.int), 5, 1, []),
  (yX5_redraw, cX5_redraw, 5, (some FieldType.int), 5, 1, []),
  (yX5_ofDrawing, cX5_ofDrawing, 4, (some FieldType.int), 5, 2, []),
  (yX5_length, cX5_length, 2, (some FieldType.float), 5, 1, []),
  (yX5_sheet, cX5_sheet, 4, (some FieldType.int), 5, 2, []),
  (yX5_job, cX5_job, 6, (some FieldType.int), 5, 2, []),
  (yX5_cancel, cX5_cancel, 4, (some FieldType.int), 5, 1, []),
  (yX5_cut, cX5_cut, 5, (some FieldType.int), 5, 1, []),
  (yX5_ofJob, cX5_ofJob, 4, (some FieldType.int), 5, 2, []),
  (yX5_where, cX5_where, 6, (some FieldType.int), 5, 3, []),
  (yX5_free, cX5_free, 3, (some FieldType.int), 5, 1, []),
  (yX5_minutes, cX5_minutes, 1, (some FieldType.int), 5, 0, []),
  (yX5_cutLength, cX5_cutLength, 1, (some FieldType.float), 5, 0, []),
  (yX5_cutAnew, cX5_cutAnew, 4, (some FieldType.float), 5, 0, []),
  (yX5_drawingAt, cX5_drawingAt, 2, (some (FieldType.object "Kerfworks$Drawing")), 5, 1, []),
  (yX5_jobAt, cX5_jobAt, 2, (some (FieldType.object "Kerfworks$Job")), 5, 1, []),
  (yX5_isPoint, cX5_isPoint, 1, (some FieldType.boolean), 5, 1, []),
  (yX5_isSide, cX5_isSide, 1, (some FieldType.boolean), 5, 1, []),
  (yX5_addedForCopies, cX5_addedForCopies, 5, (some FieldType.float), 5, 3, []),
  (yX5_tryWaiting, cX5_tryWaiting, 3, none, 5, 0, []),
  (yX5_sheetsUnder, cX5_sheetsUnder, 5, (some FieldType.int), 5, 1, []),
  (yX5_clearSheets, cX5_clearSheets, 5, (some FieldType.int), 5, 1, []),
  (yX6_init, cX6_init, 1, none, 6, 0, []),
  (yX6_thrown, cX6_thrown, 1, (some FieldType.int), 6, 0, []),
  (yX6_holds, cX6_holds, 2, (some FieldType.boolean), 6, 1, []),
  (yX6_in, cX6_in, 4, (some FieldType.boolean), 6, 3, []),
  (yX6_isDrawing, cX6_isDrawing, 2, (some FieldType.boolean), 6, 1, []),
  (yX6_drawing, cX6_drawing, 1, (some FieldType.int), 6, 0, []),
  (yX6_stroke, cX6_stroke, 5, (some FieldType.int), 6, 3, []),
  (yX6_isDoubled, cX6_isDoubled, 7, (some FieldType.boolean), 6, 2, []),
  (yX6_mends, cX6_mends, 4, none, 6, 1, []),
  (yX6_fault, cX6_fault, 3, (some FieldType.int), 6, 1, []),
  (yX6_finish, cX6_finish, 3, (some FieldType.int), 6, 1, []),
  (yX6_size, cX6_size, 8, (some FieldType.int), 6, 2, []),
  (yX6_ofDrawing, cX6_ofDrawing, 3, (some FieldType.int), 6, 2, []),
  (yX6_root, cX6_root, 5, (some FieldType.double), 6, 1, []),
  (yX6_lengthOf, cX6_lengthOf, 6, (some FieldType.float), 6, 1, []),
  (yX6_length, cX6_length, 2, (some FieldType.float), 6, 1, []),
  (yX6_adds, cX6_adds, 8, (some FieldType.int), 6, 7, []),
  (yX6_sheet, cX6_sheet, 5, (some FieldType.int), 6, 2, []),
  (yX6_bestFor, cX6_bestFor, 6, (some FieldType.int), 6, 2, []),
  (yX6_lays, cX6_lays, 8, (some FieldType.int), 6, 2, []),
  (yX6_allFree, cX6_allFree, 4, (some FieldType.boolean), 6, 1, []),
  (yX6_frees, cX6_frees, 4, none, 6, 1, []),
  (yX6_isJob, cX6_isJob, 2, (some FieldType.boolean), 6, 1, []),
  (yX6_takesOff, cX6_takesOff, 4, none, 6, 2, []),
  (yX6_nests, cX6_nests, 8, none, 6, 1, []),
  (yX6_tries, cX6_tries, 2, none, 6, 0, []),
  (yX6_job, cX6_job, 4, (some FieldType.int), 6, 2, []),
  (yX6_cancel, cX6_cancel, 3, (some FieldType.int), 6, 1, []),
  (yX6_shares, cX6_shares, 5, (some FieldType.boolean), 6, 2, []),
  (yX6_redraw, cX6_redraw, 5, (some FieldType.int), 6, 1, []),
  (yX6_touches, cX6_touches, 3, (some FieldType.boolean), 6, 2, []),
  (yX6_cut, cX6_cut, 7, (some FieldType.int), 6, 1, []),
  (yX6_ofJob, cX6_ofJob, 3, (some FieldType.int), 6, 2, []),
  (yX6_where, cX6_where, 6, (some FieldType.int), 6, 3, []),
  (yX6_free, cX6_free, 4, (some FieldType.int), 6, 1, []),
  (yX6_minutes, cX6_minutes, 1, (some FieldType.int), 6, 0, []),
  (yX6_cutLength, cX6_cutLength, 1, (some FieldType.float), 6, 0, []),
  (yX6_cutAnew, cX6_cutAnew, 1, (some FieldType.float), 6, 0, []),
  (yJxa1e45_init_da8c8, cJxa1e45_init_da8c8, 1, none, 8, 0, []),
  (yJxc12de_init_da8c8, cJxc12de_init_da8c8, 1, none, 9, 0, []),
  (yJx4a65c_init_da8c8, cJx4a65c_init_da8c8, 1, none, 10, 0, []),
  (yJx4a65c_grow_92f84, cJx4a65c_grow_92f84, 4, (some (FieldType.array (FieldType.object "java/lang/Object"))), 10, 1, []),
  (yJx4a65c_grow_d5877, cJx4a65c_grow_d5877, 1, (some (FieldType.array (FieldType.object "java/lang/Object"))), 10, 0, []),
  (yJx4a65c_size_8abf5, cJx4a65c_size_8abf5, 1, (some FieldType.int), 10, 0, []),
  (yJx4a65c_elementData_915e3, cJx4a65c_elementData_915e3, 2, (some (FieldType.object "java/lang/Object")), 10, 1, []),
  (yJx4a65c_get_915e3, cJx4a65c_get_915e3, 2, (some (FieldType.object "java/lang/Object")), 10, 1, []),
  (yJx4a65c_add_72be8, cJx4a65c_add_72be8, 4, none, 10, 3, []),
  (yJx4a65c_add_9ea2d, cJx4a65c_add_9ea2d, 2, (some FieldType.boolean), 10, 1, []),
  (yJx4a65c_clear_da8c8, cJx4a65c_clear_da8c8, 4, none, 10, 0, []),
  (yJ7_copyOf_1904c, cJ7_copyOf_1904c, 2, (some (FieldType.array (FieldType.object "java/lang/Object"))), 11, 2, []),
  (yJ7_copyOf_6403c, cJ7_copyOf_6403c, 4, (some (FieldType.array (FieldType.object "java/lang/Object"))), 11, 3, []),
  (yJ15_checkIndex_7cf53, cJ15_checkIndex_7cf53, 2, (some FieldType.int), 12, 2, []),
  (yJ8_newLength_cabcc, cJ8_newLength_cabcc, 4, (some FieldType.int), 13, 3, []),
  (yJ3_checkIndex_8e157, cJ3_checkIndex_8e157, 3, (some FieldType.int), 14, 3, []),
  (yL_drawing, cL_drawing, 3, (some FieldType.int), 15, 2, [(0, 8, 11, 13)]),
  (yL_stroke, cL_stroke, 6, (some FieldType.int), 15, 5, [(0, 12, 15, 19), (0, 12, 19, 21), (0, 12, 23, 13)]),
  (yL_finish, cL_finish, 4, (some FieldType.int), 15, 3, [(0, 9, 12, 19), (0, 9, 15, 13)]),
  (yL_redraw, cL_redraw, 4, (some FieldType.int), 15, 3, [(0, 9, 12, 19), (0, 9, 15, 13)]),
  (yL_ofDrawing, cL_ofDrawing, 5, (some FieldType.int), 15, 4, [(0, 10, 13, 19), (0, 10, 17, 21)]),
  (yL_length, cL_length, 4, (some FieldType.int), 15, 3, [(0, 9, 12, 19)]),
  (yL_sheet, cL_sheet, 5, (some FieldType.int), 15, 4, [(0, 10, 13, 21), (0, 10, 17, 13)]),
  (yL_job, cL_job, 5, (some FieldType.int), 15, 4, [(0, 10, 13, 19), (0, 10, 17, 21), (0, 10, 21, 13)]),
  (yL_cancel, cL_cancel, 4, (some FieldType.int), 15, 3, [(0, 9, 12, 19), (0, 9, 15, 13)]),
  (yL_cut, cL_cut, 4, (some FieldType.int), 15, 3, [(0, 9, 12, 19), (0, 9, 15, 13)]),
  (yL_ofJob, cL_ofJob, 5, (some FieldType.int), 15, 4, [(0, 10, 13, 19), (0, 10, 17, 21)]),
  (yL_where, cL_where, 6, (some FieldType.int), 15, 5, [(0, 12, 15, 19), (0, 12, 19, 21)]),
  (yL_free, cL_free, 4, (some FieldType.int), 15, 3, [(0, 9, 12, 19)]),
  (yL_law, cL_law, 10, (some FieldType.boolean), 15, 1, [])]
def zMd : zM_ := (yX0_init, ⟨#[]⟩, 0, none, 0, 0, [])
def zm (k : Nat) : zM_ := zML.getD k zMd
def znm (k : Nat) := (zm k).1
def zby (k : Nat) := (zm k).2.1
def zml (k : Nat) := (zm k).2.2.1
def zrt (k : Nat) := (zm k).2.2.2.1
def zoc (k : Nat) := (zm k).2.2.2.2.1
def znp (k : Nat) := (zm k).2.2.2.2.2.1
def zhh (k : Nat) := (zm k).2.2.2.2.2.2
def zow (o : Nat) : String := zOwn.getD o ""
/-- calls: (own class, pool index), (kind, method): 0 virtual, 1 static, 2 a constructor, 3 a constructor of a nest mate -/
def zCL : List ((Nat × Nat) × (Nat × Nat)) := [
  ((0, 11), (3, 9)), ((0, 25), (0, 11)), ((1, 20), (2, 112)), ((1, 27), (3, 9)), ((1, 49), (0, 18)), ((1, 53), (0, 19)), ((1, 56), (0, 41)), ((1, 60), (0, 45)),
  ((1, 64), (0, 120)), ((1, 67), (0, 119)), ((1, 72), (0, 115)), ((1, 75), (0, 117)), ((1, 81), (0, 32)), ((1, 87), (0, 12)), ((1, 92), (0, 8)), ((1, 96), (0, 31)),
  ((2, 25), (1, 21)), ((2, 29), (1, 22)), ((2, 32), (0, 14)), ((2, 36), (0, 10)), ((2, 40), (0, 16)), ((2, 49), (0, 17)), ((2, 52), (1, 23)), ((2, 58), (1, 24)),
  ((2, 61), (1, 25)), ((2, 65), (1, 26)), ((3, 35), (0, 37)), ((3, 38), (0, 33)), ((3, 42), (0, 35)), ((3, 48), (1, 34)), ((3, 58), (1, 36)), ((4, 11), (2, 112)),
  ((4, 22), (0, 40)), ((4, 26), (0, 28)), ((4, 35), (0, 115)), ((4, 39), (0, 117)), ((4, 43), (2, 27)), ((4, 46), (0, 119)), ((4, 50), (0, 44)), ((4, 54), (1, 42)),
  ((4, 64), (0, 43)), ((4, 90), (0, 29)), ((4, 94), (0, 30)), ((4, 100), (0, 37)), ((5, 11), (2, 112)), ((5, 24), (3, 38)), ((5, 29), (0, 115)), ((5, 42), (2, 0)),
  ((5, 45), (0, 119)), ((5, 49), (0, 64)), ((5, 53), (1, 66)), ((5, 81), (0, 10)), ((5, 86), (0, 13)), ((5, 89), (0, 15)), ((5, 92), (0, 69)), ((5, 97), (0, 70)),
  ((5, 101), (0, 1)), ((5, 104), (0, 71)), ((5, 108), (0, 18)), ((5, 111), (0, 19)), ((5, 119), (0, 20)), ((5, 123), (1, 67)), ((5, 136), (0, 39)), ((5, 146), (2, 2)),
  ((5, 149), (0, 3)), ((5, 153), (0, 65)), ((5, 160), (0, 4)), ((5, 169), (0, 7)), ((5, 173), (0, 6)), ((5, 186), (1, 68)), ((5, 199), (0, 117)), ((5, 217), (0, 46)),
  ((5, 232), (0, 5)), ((6, 74), (0, 75)), ((6, 78), (0, 74)), ((6, 82), (0, 76)), ((6, 85), (0, 79)), ((6, 89), (0, 80)), ((6, 93), (0, 81)), ((6, 97), (0, 97)),
  ((6, 100), (0, 83)), ((6, 106), (0, 85)), ((6, 111), (0, 86)), ((6, 121), (0, 88)), ((6, 125), (0, 90)), ((6, 129), (0, 92)), ((6, 135), (0, 93)), ((6, 138), (0, 91)),
  ((6, 141), (0, 95)), ((6, 145), (0, 96)), ((6, 148), (0, 94)), ((6, 151), (0, 100)), ((6, 154), (0, 102)), ((9, 1), (2, 110)), ((10, 1), (2, 111)), ((10, 66), (1, 121)),
  ((10, 69), (0, 113)), ((10, 73), (1, 124)), ((10, 118), (1, 123)), ((10, 123), (0, 116)), ((10, 129), (0, 114)), ((10, 131), (0, 118)), ((11, 300), (1, 122)), ((12, 105), (1, 125)),
  ((15, 7), (0, 48)), ((15, 15), (0, 49)), ((15, 23), (0, 50)), ((15, 27), (0, 51)), ((15, 30), (0, 52)), ((15, 34), (0, 53)), ((15, 38), (0, 54)), ((15, 41), (0, 55)),
  ((15, 44), (0, 56)), ((15, 47), (0, 57)), ((15, 50), (0, 58)), ((15, 53), (0, 59)), ((15, 56), (0, 60)), ((15, 59), (2, 47)), ((15, 62), (2, 72)), ((15, 63), (1, 126)),
  ((15, 68), (0, 77)), ((15, 69), (0, 73)), ((15, 72), (1, 127)), ((15, 75), (0, 78)), ((15, 76), (1, 128)), ((15, 79), (0, 82)), ((15, 80), (1, 129)), ((15, 82), (0, 101)),
  ((15, 83), (1, 130)), ((15, 86), (0, 84)), ((15, 87), (1, 131)), ((15, 90), (0, 87)), ((15, 91), (1, 132)), ((15, 93), (0, 89)), ((15, 94), (1, 133)), ((15, 96), (0, 98)),
  ((15, 97), (1, 134)), ((15, 99), (0, 99)), ((15, 100), (1, 135)), ((15, 102), (0, 103)), ((15, 103), (1, 136)), ((15, 105), (0, 104)), ((15, 106), (1, 137)), ((15, 108), (0, 105)),
  ((15, 109), (1, 138)), ((15, 111), (0, 106)), ((15, 112), (0, 61)), ((15, 115), (0, 107)), ((15, 116), (0, 62)), ((15, 120), (0, 108)), ((15, 121), (0, 63)), ((15, 124), (0, 109))]
def zCP : List (List Nat) := [
  [276, 278, 277, 50], [595, 598, 596, 597, 50], [673, 73, 72, 42], [675, 278, 277, 50], [458, 461, 459, 460, 50], [463, 466, 464, 465, 50], [467, 470, 468, 469, 43], [562, 565, 563, 564, 43],
  [567, 570, 568, 569, 42], [571, 311, 309, 310, 42], [588, 150, 148, 149, 42], [589, 154, 152, 153, 42], [607, 610, 608, 609, 59], [739, 742, 740, 741, 50], [727, 730, 729, 17, 60], [731, 734, 732, 733, 59],
  [170, 172, 171, 50], [173, 175, 174, 50], [432, 435, 434, 5, 50], [436, 419, 417, 418, 50], [441, 444, 443, 6, 50], [445, 448, 447, 7, 50], [179, 181, 180, 50], [182, 184, 183, 50],
  [176, 178, 177, 50], [185, 187, 186, 50], [558, 561, 559, 560, 59], [611, 614, 613, 14, 59], [618, 621, 620, 15, 59], [615, 617, 616, 59], [622, 624, 623, 59], [102, 73, 72, 42],
  [493, 496, 495, 11, 43], [554, 557, 555, 556, 59], [475, 150, 148, 149, 42], [476, 154, 152, 153, 42], [498, 500, 499, 59], [553, 311, 309, 310, 42], [471, 474, 473, 9, 43], [486, 488, 487, 43],
  [489, 492, 491, 10, 43], [478, 481, 479, 480, 59], [482, 485, 483, 484, 59], [566, 561, 559, 560, 59], [71, 73, 72, 42], [97, 99, 98, 43], [147, 150, 148, 149, 42], [270, 272, 271, 49],
  [308, 311, 309, 310, 42], [375, 378, 377, 4, 39], [395, 397, 396, 39], [416, 419, 417, 418, 50], [428, 431, 429, 430, 50], [437, 440, 438, 439, 50], [450, 453, 452, 8, 39], [580, 583, 582, 12, 39],
  [591, 594, 592, 593, 49], [599, 602, 601, 13, 39], [632, 461, 459, 460, 50], [633, 466, 464, 465, 50], [166, 169, 167, 168, 50], [649, 651, 650, 39], [654, 657, 655, 656, 43], [668, 670, 669, 60],
  [454, 457, 455, 456, 60], [708, 711, 710, 16, 39], [603, 606, 604, 605, 60], [722, 725, 723, 724, 60], [735, 738, 736, 737, 60], [189, 191, 190, 39], [151, 154, 152, 153, 42], [768, 771, 769, 770, 43],
  [584, 587, 585, 586, 60], [877, 880, 879, 20, 44], [865, 868, 867, 18, 44], [873, 876, 875, 19, 44], [889, 892, 891, 22, 44], [885, 888, 887, 21, 44], [893, 896, 895, 23, 44], [897, 900, 899, 24, 44],
  [905, 908, 907, 26, 44], [946, 949, 948, 34, 44], [942, 945, 944, 33, 44], [917, 920, 919, 29, 44], [913, 916, 915, 28, 44], [929, 932, 931, 32, 44], [925, 928, 927, 31, 44], [909, 912, 911, 27, 44],
  [921, 924, 923, 30, 44], [901, 904, 903, 25, 44], [963, 966, 965, 35, 44], [971, 974, 973, 36, 44], [979, 982, 981, 37, 44], [77, 79, 78, 40], [74, 76, 75, 41], [334, 336, 335, 53],
  [320, 323, 322, 3, 42], [324, 326, 325, 51], [155, 157, 156, 56], [161, 164, 162, 163, 42], [316, 319, 318, 2, 42], [312, 315, 314, 1, 42], [352, 354, 353, 53], [158, 160, 159, 57],
  [196, 199, 197, 198, 39], [371, 374, 372, 373, 39], [423, 426, 424, 425, 39], [575, 578, 576, 577, 39], [628, 631, 629, 630, 39], [638, 641, 639, 640, 39], [645, 648, 646, 647, 39], [661, 664, 662, 663, 39],
  [704, 707, 705, 706, 39], [717, 720, 718, 719, 39], [747, 750, 748, 749, 39], [754, 757, 755, 756, 39], [763, 766, 764, 765, 39], [63, 65, 64, 39], [774, 776, 775, 44], [192, 194, 193, 38],
  [861, 864, 862, 863, 44], [857, 860, 858, 859, 44], [366, 368, 367, 38], [869, 872, 870, 871, 44], [420, 422, 421, 38], [881, 884, 882, 883, 44], [572, 574, 573, 38], [967, 970, 968, 969, 44],
  [625, 627, 626, 38], [933, 936, 934, 935, 44], [635, 637, 636, 38], [937, 940, 938, 939, 44], [642, 644, 643, 38], [951, 954, 952, 953, 44], [658, 660, 659, 38], [955, 958, 956, 957, 44],
  [701, 703, 702, 38], [959, 962, 960, 961, 44], [714, 716, 715, 38], [975, 978, 976, 977, 44], [744, 746, 745, 38], [984, 987, 985, 986, 44], [751, 753, 752, 38], [988, 991, 989, 990, 44],
  [760, 762, 761, 38], [992, 995, 993, 994, 44], [135, 138, 136, 137, 39], [996, 999, 997, 998, 44], [139, 142, 140, 141, 39], [1000, 1003, 1001, 1002, 44], [143, 146, 144, 145, 39], [1004, 1007, 1005, 1006, 44]]
/-- new: (own class, index), number of the class in vwCl -/
def zNL : List ((Nat × Nat) × Nat) := [
  ((0, 9), 3), ((1, 18), 0), ((1, 25), 3), ((4, 9), 0), ((4, 27), 4), ((5, 9), 0), ((5, 22), 5), ((5, 40), 1),
  ((5, 144), 2), ((15, 8), 6), ((15, 60), 7)]
def zNP : List (List Nat) := [
  [274, 275, 50], [672, 70, 42], [674, 275, 50], [101, 70, 42], [477, 497, 59], [69, 70, 42], [95, 96, 43], [268, 269, 49],
  [165, 667, 60], [61, 62, 39], [772, 773, 44]]
/-- fields: (own class, index), (class in vwCl, place) -/
def zFL : List ((Nat × Nat) × (Nat × Nat)) := [
  ((0, 12), (1, 1)), ((0, 18), (1, 2)), ((0, 22), (1, 0)), ((0, 28), (1, 3)), ((1, 9), (2, 2)), ((1, 15), (2, 3)), ((1, 21), (2, 4)), ((1, 28), (2, 5)),
  ((1, 32), (2, 0)), ((1, 36), (2, 1)), ((1, 39), (5, 1)), ((1, 44), (1, 1)), ((1, 71), (1, 3)), ((1, 84), (4, 1)), ((2, 9), (3, 0)), ((2, 15), (3, 1)),
  ((3, 7), (4, 0)), ((3, 13), (4, 7)), ((3, 17), (4, 1)), ((3, 20), (4, 2)), ((3, 23), (4, 3)), ((3, 26), (4, 4)), ((3, 29), (4, 5)), ((3, 32), (4, 6)),
  ((3, 45), (4, 8)), ((3, 52), (4, 9)), ((3, 55), (4, 10)), ((4, 12), (5, 0)), ((4, 18), (5, 2)), ((4, 32), (5, 1)), ((4, 58), (4, 2)), ((4, 61), (4, 3)),
  ((4, 68), (4, 6)), ((4, 71), (4, 8)), ((4, 75), (4, 4)), ((4, 78), (4, 9)), ((4, 81), (4, 5)), ((4, 84), (4, 10)), ((4, 87), (4, 1)), ((4, 97), (4, 7)),
  ((5, 12), (6, 0)), ((5, 16), (6, 1)), ((5, 19), (6, 2)), ((5, 25), (6, 3)), ((5, 67), (1, 2)), ((5, 71), (1, 1)), ((5, 75), (3, 1)), ((5, 114), (1, 3)),
  ((5, 128), (5, 2)), ((5, 131), (5, 1)), ((5, 157), (2, 2)), ((5, 165), (2, 0)), ((5, 176), (6, 4)), ((5, 179), (6, 5)), ((5, 183), (2, 1)), ((5, 190), (1, 0)),
  ((5, 193), (2, 3)), ((5, 196), (2, 4)), ((5, 205), (4, 1)), ((5, 208), (4, 2)), ((5, 211), (4, 3)), ((5, 214), (4, 0)), ((5, 221), (4, 4)), ((5, 223), (4, 5)),
  ((5, 225), (2, 5)), ((6, 7), (7, 0)), ((6, 13), (7, 1)), ((6, 16), (7, 2)), ((6, 19), (7, 3)), ((6, 22), (7, 4)), ((6, 25), (7, 6)), ((6, 28), (7, 7)),
  ((6, 31), (7, 8)), ((6, 34), (7, 9)), ((6, 37), (7, 10)), ((6, 40), (7, 11)), ((6, 43), (7, 12)), ((6, 46), (7, 13)), ((6, 49), (7, 16)), ((6, 52), (7, 17)),
  ((6, 55), (7, 18)), ((6, 58), (7, 19)), ((6, 61), (7, 20)), ((6, 64), (7, 22)), ((6, 67), (7, 25)), ((6, 71), (7, 5)), ((6, 115), (7, 14)), ((6, 118), (7, 15)),
  ((6, 132), (7, 21)), ((6, 158), (7, 24)), ((6, 162), (7, 23)), ((9, 7), (0, 0)), ((10, 9), (0, 1)), ((10, 48), (0, 2)), ((10, 63), (0, 0))]
def zFP : List (String × Nat) := [
  (RX0, 291), (RX0, 294), (RX0, 289), (RX0, 296), (RX1, 680), (RX1, 682), (RX1, 684), (RX1, 686),
  (RX1, 676), (RX1, 678), (RX4, 104), (RX0, 292), (RX0, 297), (RX3, 505), (RX2, 280), (RX2, 281),
  (RX3, 502), (RX3, 522), (RX3, 504), (RX3, 508), (RX3, 511), (RX3, 514), (RX3, 517), (RX3, 520),
  (RX3, 525), (RX3, 527), (RX3, 529), (RX4, 103), (RX4, 107), (RX4, 105), (RX3, 509), (RX3, 512),
  (RX3, 521), (RX3, 524), (RX3, 515), (RX3, 526), (RX3, 518), (RX3, 528), (RX3, 506), (RX3, 523),
  (RX5, 116), (RX5, 117), (RX5, 118), (RX5, 119), (RX0, 295), (RX0, 293), (RX2, 282), (RX0, 298),
  (RX4, 108), (RX4, 106), (RX1, 681), (RX1, 677), (RX5, 120), (RX5, 121), (RX1, 679), (RX0, 290),
  (RX1, 683), (RX1, 685), (RX3, 507), (RX3, 510), (RX3, 513), (RX3, 503), (RX3, 516), (RX3, 519),
  (RX1, 687), (RX6, 778), (RX6, 779), (RX6, 780), (RX6, 781), (RX6, 782), (RX6, 784), (RX6, 785),
  (RX6, 786), (RX6, 787), (RX6, 788), (RX6, 789), (RX6, 790), (RX6, 791), (RX6, 794), (RX6, 795),
  (RX6, 796), (RX6, 797), (RX6, 798), (RX6, 800), (RX6, 803), (RX6, 783), (RX6, 792), (RX6, 793),
  (RX6, 799), (RX6, 802), (RX6, 801), (RJxc12de, 85), (RJx4a65c, 83), (RJx4a65c, 84), (RJx4a65c, 86)]
/-- throws of a new exception with a text: (own class, index of new), (index of the text, index of the constructor), the class -/
def zXL : List ((Nat × Nat × Nat × Nat) × String) := [
  ((5, 33, 35, 37), "java/lang/IllegalStateException"), ((5, 33, 79, 37), "java/lang/IllegalStateException"), ((5, 33, 84, 37), "java/lang/IllegalStateException"), ((5, 33, 95, 37), "java/lang/IllegalStateException"),
  ((5, 33, 134, 37), "java/lang/IllegalStateException"), ((5, 33, 142, 37), "java/lang/IllegalStateException"), ((5, 33, 158, 37), "java/lang/IllegalStateException"), ((5, 33, 163, 37), "java/lang/IllegalStateException"),
  ((5, 57, 59, 61), "java/lang/IndexOutOfBoundsException"), ((5, 57, 194, 61), "java/lang/IndexOutOfBoundsException"), ((5, 57, 215, 61), "java/lang/IndexOutOfBoundsException"), ((5, 57, 228, 61), "java/lang/IndexOutOfBoundsException"),
  ((5, 57, 230, 61), "java/lang/IndexOutOfBoundsException"), ((5, 62, 64, 66), "java/lang/IllegalArgumentException"), ((5, 62, 117, 66), "java/lang/IllegalArgumentException"), ((5, 62, 126, 66), "java/lang/IllegalArgumentException"),
  ((5, 62, 140, 66), "java/lang/IllegalArgumentException")]
def zXP : List (String × List Nat) := [
  ("there are 12 drawings", [200, 48, 241]), ("the drawing is not OPEN, or has 24 strokes", [200, 48, 415]), ("the drawing is not OPEN", [200, 48, 427]), ("the drawing is not FINE", [200, 48, 579]),
  ("there are 8 sheets, or 400 pieces", [200, 48, 653]), ("the drawing is not FINE, or there are 30 jobs", [200, 48, 666]), ("the job is CUT or CANCELLED", [200, 48, 713]), ("the job is not NESTED", [200, 48, 721]),
  ("no such point", [379, 55, 398]), ("no such copy", [379, 55, 758]), ("no such place", [379, 55, 767]), ("no such drawing", [379, 55, 388]),
  ("no such job", [379, 55, 712]), ("both points are one", [399, 58, 408]), ("what is out of range", [399, 58, 634]), ("wide or high is out of range", [399, 58, 652]),
  ("copies is out of range", [399, 58, 665])]
/-- casts: (own class, index), class in vwCl -/
def zKL : List ((Nat × Nat) × Nat) := [
  ((1, 79), 4), ((4, 27), 4), ((5, 40), 1), ((5, 144), 2), ((5, 203), 4)]
def zKP : List Nat := [
  590, 477, 268, 165, 759]
def zDL : List ((Nat × Nat) × Value) := [
  ((1, 91), .float 1092616192), ((2, 69), .double 4611686018427387904), ((6, 104), .double 4611686018427387904), ((6, 110), .float 3212836864), ((6, 157), .float 1092616192), ((13, 200), .int 2147483639)]
def zDP : List Nat := [
  726, 188, 950, 941, 983, 330]
/-- kinds of the fields, class by class: 0 int, 1 float, 2 a reference; with final or not -/
def zTY : List (List (Nat × Bool)) := [[(0, false), (2, false), (0, false)], [(0, true), (2, true), (0, false), (0, false)], [(2, true), (0, true), (0, false), (0, false), (2, true), (2, true)], [(2, true), (0, false)], [(0, true), (0, false), (0, false), (0, false), (0, false), (0, false), (0, false), (2, false), (2, false), (2, false), (2, false)], [(2, true), (0, false), (0, false)], [(2, true), (2, true), (2, true), (2, true), (0, false), (1, false)], [(2, true), (2, true), (2, true), (2, true), (2, true), (0, false), (2, true), (2, true), (2, true), (2, true), (2, true), (2, true), (2, true), (2, true), (0, false), (0, false), (2, true), (2, true), (2, true), (2, true), (2, true), (0, false), (2, true), (0, false), (1, false), (0, false)]]
def zdv (t : Nat) : Value := match t with | 0 => .int 0 | 1 => .float 0 | _ => .null
def zty (ci k : Nat) : Nat × Bool := (zTY.getD ci []).getD k (9, false)
/-- the fields of a new object -/
def znewf (ci : Nat) : List Value := (zTY.getD ci []).map (fun t => zdv t.1)
/-- names of the classes that the law's methods catch, by index -/
def zcn (i : Nat) : String := match i with
  | 13 => "java/lang/IllegalStateException"
  | 19 => "java/lang/IndexOutOfBoundsException"
  | 21 => "java/lang/IllegalArgumentException"
  | _ => ""
/-- Math.max (true), Math.min (false) -/
def zXX : List ((Nat × Nat) × Bool) := [
  ((2, 43), false), ((2, 55), true), ((10, 79), true), ((11, 304), false), ((13, 194), true)]
def zXP2 : List Nat := [
  449, 462, 364, 358, 327]
